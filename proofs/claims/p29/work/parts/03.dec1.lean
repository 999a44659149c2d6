theorem DX6_init_c0 : decode cX6_init 0 = .ok (.aload_n 0, 1) ∧ decode cX6_init 1 = .ok (.invokespecial 3, 3) ∧ decode cX6_init 4 = .ok (.aload_n 0, 1) ∧ decode cX6_init 5 = .ok (.new 9, 3) ∧ decode cX6_init 8 = .ok (.dup, 1) ∧ decode cX6_init 9 = .ok (.invokespecial 11, 3) ∧ decode cX6_init 12 = .ok (.putfield 12, 3) ∧ decode cX6_init 15 = .ok (.aload_n 0, 1) ∧ decode cX6_init 16 = .ok (.new 16, 3) ∧ decode cX6_init 19 = .ok (.dup, 1) ∧ decode cX6_init 20 = .ok (.invokespecial 18, 3) ∧ decode cX6_init 23 = .ok (.putfield 19, 3) ∧ decode cX6_init 26 = .ok (.aload_n 0, 1) ∧ decode cX6_init 27 = .ok (.new 9, 3) ∧ decode cX6_init 30 = .ok (.dup, 1) ∧ decode cX6_init 31 = .ok (.invokespecial 11, 3) := by decide +kernel
theorem dX6_init_0 : Dc cX6_init 0 (.aload_n 0) 1 1 := ⟨DX6_init_c0.1, rfl⟩
theorem dX6_init_1 : Dc cX6_init 1 (.invokespecial 3) 3 4 := ⟨DX6_init_c0.2.1, rfl⟩
theorem dX6_init_4 : Dc cX6_init 4 (.aload_n 0) 1 5 := ⟨DX6_init_c0.2.2.1, rfl⟩
theorem dX6_init_5 : Dc cX6_init 5 (.new 9) 3 8 := ⟨DX6_init_c0.2.2.2.1, rfl⟩
theorem dX6_init_8 : Dc cX6_init 8 (.dup) 1 9 := ⟨DX6_init_c0.2.2.2.2.1, rfl⟩
theorem dX6_init_9 : Dc cX6_init 9 (.invokespecial 11) 3 12 := ⟨DX6_init_c0.2.2.2.2.2.1, rfl⟩
theorem dX6_init_12 : Dc cX6_init 12 (.putfield 12) 3 15 := ⟨DX6_init_c0.2.2.2.2.2.2.1, rfl⟩
theorem dX6_init_15 : Dc cX6_init 15 (.aload_n 0) 1 16 := ⟨DX6_init_c0.2.2.2.2.2.2.2.1, rfl⟩
theorem dX6_init_16 : Dc cX6_init 16 (.new 16) 3 19 := ⟨DX6_init_c0.2.2.2.2.2.2.2.2.1, rfl⟩
theorem dX6_init_19 : Dc cX6_init 19 (.dup) 1 20 := ⟨DX6_init_c0.2.2.2.2.2.2.2.2.2.1, rfl⟩
theorem dX6_init_20 : Dc cX6_init 20 (.invokespecial 18) 3 23 := ⟨DX6_init_c0.2.2.2.2.2.2.2.2.2.2.1, rfl⟩
theorem dX6_init_23 : Dc cX6_init 23 (.putfield 19) 3 26 := ⟨DX6_init_c0.2.2.2.2.2.2.2.2.2.2.2.1, rfl⟩
theorem dX6_init_26 : Dc cX6_init 26 (.aload_n 0) 1 27 := ⟨DX6_init_c0.2.2.2.2.2.2.2.2.2.2.2.2.1, rfl⟩
theorem dX6_init_27 : Dc cX6_init 27 (.new 9) 3 30 := ⟨DX6_init_c0.2.2.2.2.2.2.2.2.2.2.2.2.2.1, rfl⟩
theorem dX6_init_30 : Dc cX6_init 30 (.dup) 1 31 := ⟨DX6_init_c0.2.2.2.2.2.2.2.2.2.2.2.2.2.2.1, rfl⟩
theorem dX6_init_31 : Dc cX6_init 31 (.invokespecial 11) 3 34 := ⟨DX6_init_c0.2.2.2.2.2.2.2.2.2.2.2.2.2.2.2, rfl⟩
theorem DX6_init_c1 : decode cX6_init 34 = .ok (.putfield 23, 3) ∧ decode cX6_init 37 = .ok (.aload_n 0, 1) ∧ decode cX6_init 38 = .ok (.new 26, 3) ∧ decode cX6_init 41 = .ok (.dup, 1) ∧ decode cX6_init 42 = .ok (.invokespecial 28, 3) ∧ decode cX6_init 45 = .ok (.putfield 29, 3) ∧ decode cX6_init 48 = .ok (.aload_n 0, 1) ∧ decode cX6_init 49 = .ok (.new 33, 3) ∧ decode cX6_init 52 = .ok (.dup, 1) ∧ decode cX6_init 53 = .ok (.invokespecial 35, 3) ∧ decode cX6_init 56 = .ok (.putfield 36, 3) ∧ decode cX6_init 59 = .ok (.aload_n 0, 1) ∧ decode cX6_init 60 = .ok (.new 40, 3) ∧ decode cX6_init 63 = .ok (.dup, 1) ∧ decode cX6_init 64 = .ok (.invokespecial 42, 3) ∧ decode cX6_init 67 = .ok (.putfield 43, 3) := by decide +kernel
theorem dX6_init_34 : Dc cX6_init 34 (.putfield 23) 3 37 := ⟨DX6_init_c1.1, rfl⟩
theorem dX6_init_37 : Dc cX6_init 37 (.aload_n 0) 1 38 := ⟨DX6_init_c1.2.1, rfl⟩
theorem dX6_init_38 : Dc cX6_init 38 (.new 26) 3 41 := ⟨DX6_init_c1.2.2.1, rfl⟩
theorem dX6_init_41 : Dc cX6_init 41 (.dup) 1 42 := ⟨DX6_init_c1.2.2.2.1, rfl⟩
theorem dX6_init_42 : Dc cX6_init 42 (.invokespecial 28) 3 45 := ⟨DX6_init_c1.2.2.2.2.1, rfl⟩
theorem dX6_init_45 : Dc cX6_init 45 (.putfield 29) 3 48 := ⟨DX6_init_c1.2.2.2.2.2.1, rfl⟩
theorem dX6_init_48 : Dc cX6_init 48 (.aload_n 0) 1 49 := ⟨DX6_init_c1.2.2.2.2.2.2.1, rfl⟩
theorem dX6_init_49 : Dc cX6_init 49 (.new 33) 3 52 := ⟨DX6_init_c1.2.2.2.2.2.2.2.1, rfl⟩
theorem dX6_init_52 : Dc cX6_init 52 (.dup) 1 53 := ⟨DX6_init_c1.2.2.2.2.2.2.2.2.1, rfl⟩
theorem dX6_init_53 : Dc cX6_init 53 (.invokespecial 35) 3 56 := ⟨DX6_init_c1.2.2.2.2.2.2.2.2.2.1, rfl⟩
theorem dX6_init_56 : Dc cX6_init 56 (.putfield 36) 3 59 := ⟨DX6_init_c1.2.2.2.2.2.2.2.2.2.2.1, rfl⟩
theorem dX6_init_59 : Dc cX6_init 59 (.aload_n 0) 1 60 := ⟨DX6_init_c1.2.2.2.2.2.2.2.2.2.2.2.1, rfl⟩
theorem dX6_init_60 : Dc cX6_init 60 (.new 40) 3 63 := ⟨DX6_init_c1.2.2.2.2.2.2.2.2.2.2.2.2.1, rfl⟩
theorem dX6_init_63 : Dc cX6_init 63 (.dup) 1 64 := ⟨DX6_init_c1.2.2.2.2.2.2.2.2.2.2.2.2.2.1, rfl⟩
theorem dX6_init_64 : Dc cX6_init 64 (.invokespecial 42) 3 67 := ⟨DX6_init_c1.2.2.2.2.2.2.2.2.2.2.2.2.2.2.1, rfl⟩
theorem dX6_init_67 : Dc cX6_init 67 (.putfield 43) 3 70 := ⟨DX6_init_c1.2.2.2.2.2.2.2.2.2.2.2.2.2.2.2, rfl⟩
theorem DX6_init_c2 : decode cX6_init 70 = .ok (.aload_n 0, 1) ∧ decode cX6_init 71 = .ok (.bipush 13, 2) ∧ decode cX6_init 73 = .ok (.newarray .int, 2) ∧ decode cX6_init 75 = .ok (.putfield 47, 3) ∧ decode cX6_init 78 = .ok (.return_, 1) := by decide +kernel
theorem dX6_init_70 : Dc cX6_init 70 (.aload_n 0) 1 71 := ⟨DX6_init_c2.1, rfl⟩
theorem dX6_init_71 : Dc cX6_init 71 (.bipush 13) 2 73 := ⟨DX6_init_c2.2.1, rfl⟩
theorem dX6_init_73 : Dc cX6_init 73 (.newarray .int) 2 75 := ⟨DX6_init_c2.2.2.1, rfl⟩
theorem dX6_init_75 : Dc cX6_init 75 (.putfield 47) 3 78 := ⟨DX6_init_c2.2.2.2.1, rfl⟩
theorem dX6_init_78 : Dc cX6_init 78 (.return_) 1 79 := ⟨DX6_init_c2.2.2.2.2, rfl⟩
theorem DX6_step_c0 : decode cX6_step 0 = .ok (.iload_n 1, 1) ∧ decode cX6_step 1 = .ok (.invokestatic 51, 3) ∧ decode cX6_step 4 = .ok (.ifCond .ne 5, 3) ∧ decode cX6_step 7 = .ok (.iconst (-1), 1) ∧ decode cX6_step 8 = .ok (.ireturn, 1) ∧ decode cX6_step 9 = .ok (.iload_n 1, 1) ∧ decode cX6_step 10 = .ok (.iload_n 2, 1) ∧ decode cX6_step 11 = .ok (.invokestatic 55, 3) ∧ decode cX6_step 14 = .ok (.ifCond .ne 6, 3) ∧ decode cX6_step 17 = .ok (.bipush (-2), 2) ∧ decode cX6_step 19 = .ok (.ireturn, 1) ∧ decode cX6_step 20 = .ok (.aload_n 0, 1) ∧ decode cX6_step 21 = .ok (.getfield 12, 3) ∧ decode cX6_step 24 = .ok (.getfield 59, 3) ∧ decode cX6_step 27 = .ok (.ifCond .eq 18, 3) ∧ decode cX6_step 30 = .ok (.aload_n 0, 1) := by decide +kernel
theorem dX6_step_0 : Dc cX6_step 0 (.iload_n 1) 1 1 := ⟨DX6_step_c0.1, rfl⟩
theorem dX6_step_1 : Dc cX6_step 1 (.invokestatic 51) 3 4 := ⟨DX6_step_c0.2.1, rfl⟩
theorem dX6_step_4 : Db cX6_step 4 (fun o => .ifCond .ne o) 7 9 := ⟨5, DX6_step_c0.2.2.1, rfl, rfl⟩
theorem dX6_step_7 : Dc cX6_step 7 (.iconst (-1)) 1 8 := ⟨DX6_step_c0.2.2.2.1, rfl⟩
theorem dX6_step_8 : Dc cX6_step 8 (.ireturn) 1 9 := ⟨DX6_step_c0.2.2.2.2.1, rfl⟩
theorem dX6_step_9 : Dc cX6_step 9 (.iload_n 1) 1 10 := ⟨DX6_step_c0.2.2.2.2.2.1, rfl⟩
theorem dX6_step_10 : Dc cX6_step 10 (.iload_n 2) 1 11 := ⟨DX6_step_c0.2.2.2.2.2.2.1, rfl⟩
theorem dX6_step_11 : Dc cX6_step 11 (.invokestatic 55) 3 14 := ⟨DX6_step_c0.2.2.2.2.2.2.2.1, rfl⟩
theorem dX6_step_14 : Db cX6_step 14 (fun o => .ifCond .ne o) 17 20 := ⟨6, DX6_step_c0.2.2.2.2.2.2.2.2.1, rfl, rfl⟩
theorem dX6_step_17 : Dc cX6_step 17 (.bipush (-2)) 2 19 := ⟨DX6_step_c0.2.2.2.2.2.2.2.2.2.1, rfl⟩
theorem dX6_step_19 : Dc cX6_step 19 (.ireturn) 1 20 := ⟨DX6_step_c0.2.2.2.2.2.2.2.2.2.2.1, rfl⟩
theorem dX6_step_20 : Dc cX6_step 20 (.aload_n 0) 1 21 := ⟨DX6_step_c0.2.2.2.2.2.2.2.2.2.2.2.1, rfl⟩
theorem dX6_step_21 : Dc cX6_step 21 (.getfield 12) 3 24 := ⟨DX6_step_c0.2.2.2.2.2.2.2.2.2.2.2.2.1, rfl⟩
theorem dX6_step_24 : Dc cX6_step 24 (.getfield 59) 3 27 := ⟨DX6_step_c0.2.2.2.2.2.2.2.2.2.2.2.2.2.1, rfl⟩
theorem dX6_step_27 : Db cX6_step 27 (fun o => .ifCond .eq o) 30 45 := ⟨18, DX6_step_c0.2.2.2.2.2.2.2.2.2.2.2.2.2.2.1, rfl, rfl⟩
theorem dX6_step_30 : Dc cX6_step 30 (.aload_n 0) 1 31 := ⟨DX6_step_c0.2.2.2.2.2.2.2.2.2.2.2.2.2.2.2, rfl⟩
theorem DX6_step_c1 : decode cX6_step 31 = .ok (.getfield 12, 3) ∧ decode cX6_step 34 = .ok (.invokevirtual 63, 3) ∧ decode cX6_step 37 = .ok (.bipush 12, 2) ∧ decode cX6_step 39 = .ok (.if_icmp .lt 6, 3) ∧ decode cX6_step 42 = .ok (.bipush (-3), 2) ∧ decode cX6_step 44 = .ok (.ireturn, 1) ∧ decode cX6_step 45 = .ok (.aload_n 0, 1) ∧ decode cX6_step 46 = .ok (.getfield 19, 3) ∧ decode cX6_step 49 = .ok (.aload_n 0, 1) ∧ decode cX6_step 50 = .ok (.getfield 12, 3) ∧ decode cX6_step 53 = .ok (.invokevirtual 67, 3) ∧ decode cX6_step 56 = .ok (.aload_n 0, 1) ∧ decode cX6_step 57 = .ok (.getfield 12, 3) ∧ decode cX6_step 60 = .ok (.iload_n 1, 1) ∧ decode cX6_step 61 = .ok (.iload_n 2, 1) ∧ decode cX6_step 62 = .ok (.invokevirtual 71, 3) := by decide +kernel
theorem dX6_step_31 : Dc cX6_step 31 (.getfield 12) 3 34 := ⟨DX6_step_c1.1, rfl⟩
theorem dX6_step_34 : Dc cX6_step 34 (.invokevirtual 63) 3 37 := ⟨DX6_step_c1.2.1, rfl⟩
theorem dX6_step_37 : Dc cX6_step 37 (.bipush 12) 2 39 := ⟨DX6_step_c1.2.2.1, rfl⟩
theorem dX6_step_39 : Db cX6_step 39 (fun o => .if_icmp .lt o) 42 45 := ⟨6, DX6_step_c1.2.2.2.1, rfl, rfl⟩
theorem dX6_step_42 : Dc cX6_step 42 (.bipush (-3)) 2 44 := ⟨DX6_step_c1.2.2.2.2.1, rfl⟩
theorem dX6_step_44 : Dc cX6_step 44 (.ireturn) 1 45 := ⟨DX6_step_c1.2.2.2.2.2.1, rfl⟩
theorem dX6_step_45 : Dc cX6_step 45 (.aload_n 0) 1 46 := ⟨DX6_step_c1.2.2.2.2.2.2.1, rfl⟩
theorem dX6_step_46 : Dc cX6_step 46 (.getfield 19) 3 49 := ⟨DX6_step_c1.2.2.2.2.2.2.2.1, rfl⟩
theorem dX6_step_49 : Dc cX6_step 49 (.aload_n 0) 1 50 := ⟨DX6_step_c1.2.2.2.2.2.2.2.2.1, rfl⟩
theorem dX6_step_50 : Dc cX6_step 50 (.getfield 12) 3 53 := ⟨DX6_step_c1.2.2.2.2.2.2.2.2.2.1, rfl⟩
theorem dX6_step_53 : Dc cX6_step 53 (.invokevirtual 67) 3 56 := ⟨DX6_step_c1.2.2.2.2.2.2.2.2.2.2.1, rfl⟩
theorem dX6_step_56 : Dc cX6_step 56 (.aload_n 0) 1 57 := ⟨DX6_step_c1.2.2.2.2.2.2.2.2.2.2.2.1, rfl⟩
theorem dX6_step_57 : Dc cX6_step 57 (.getfield 12) 3 60 := ⟨DX6_step_c1.2.2.2.2.2.2.2.2.2.2.2.2.1, rfl⟩
theorem dX6_step_60 : Dc cX6_step 60 (.iload_n 1) 1 61 := ⟨DX6_step_c1.2.2.2.2.2.2.2.2.2.2.2.2.2.1, rfl⟩
theorem dX6_step_61 : Dc cX6_step 61 (.iload_n 2) 1 62 := ⟨DX6_step_c1.2.2.2.2.2.2.2.2.2.2.2.2.2.2.1, rfl⟩
theorem dX6_step_62 : Dc cX6_step 62 (.invokevirtual 71) 3 65 := ⟨DX6_step_c1.2.2.2.2.2.2.2.2.2.2.2.2.2.2.2, rfl⟩
theorem DX6_step_c2 : decode cX6_step 65 = .ok (.istore_n 3, 1) ∧ decode cX6_step 66 = .ok (.aload_n 0, 1) ∧ decode cX6_step 67 = .ok (.getfield 12, 3) ∧ decode cX6_step 70 = .ok (.getfield 59, 3) ∧ decode cX6_step 73 = .ok (.ifCond .eq 26, 3) ∧ decode cX6_step 76 = .ok (.aload_n 0, 1) ∧ decode cX6_step 77 = .ok (.getfield 12, 3) ∧ decode cX6_step 80 = .ok (.getfield 74, 3) ∧ decode cX6_step 83 = .ok (.aload_n 0, 1) ∧ decode cX6_step 84 = .ok (.getfield 12, 3) ∧ decode cX6_step 87 = .ok (.getfield 74, 3) ∧ decode cX6_step 90 = .ok (.getfield 78, 3) ∧ decode cX6_step 93 = .ok (.iload_n 1, 1) ∧ decode cX6_step 94 = .ok (.iload_n 2, 1) ∧ decode cX6_step 95 = .ok (.iconst 0, 1) ∧ decode cX6_step 96 = .ok (.invokevirtual 84, 3) := by decide +kernel
theorem dX6_step_65 : Dc cX6_step 65 (.istore_n 3) 1 66 := ⟨DX6_step_c2.1, rfl⟩
theorem dX6_step_66 : Dc cX6_step 66 (.aload_n 0) 1 67 := ⟨DX6_step_c2.2.1, rfl⟩
theorem dX6_step_67 : Dc cX6_step 67 (.getfield 12) 3 70 := ⟨DX6_step_c2.2.2.1, rfl⟩
theorem dX6_step_70 : Dc cX6_step 70 (.getfield 59) 3 73 := ⟨DX6_step_c2.2.2.2.1, rfl⟩
theorem dX6_step_73 : Db cX6_step 73 (fun o => .ifCond .eq o) 76 99 := ⟨26, DX6_step_c2.2.2.2.2.1, rfl, rfl⟩
theorem dX6_step_76 : Dc cX6_step 76 (.aload_n 0) 1 77 := ⟨DX6_step_c2.2.2.2.2.2.1, rfl⟩
theorem dX6_step_77 : Dc cX6_step 77 (.getfield 12) 3 80 := ⟨DX6_step_c2.2.2.2.2.2.2.1, rfl⟩
theorem dX6_step_80 : Dc cX6_step 80 (.getfield 74) 3 83 := ⟨DX6_step_c2.2.2.2.2.2.2.2.1, rfl⟩
theorem dX6_step_83 : Dc cX6_step 83 (.aload_n 0) 1 84 := ⟨DX6_step_c2.2.2.2.2.2.2.2.2.1, rfl⟩
theorem dX6_step_84 : Dc cX6_step 84 (.getfield 12) 3 87 := ⟨DX6_step_c2.2.2.2.2.2.2.2.2.2.1, rfl⟩
theorem dX6_step_87 : Dc cX6_step 87 (.getfield 74) 3 90 := ⟨DX6_step_c2.2.2.2.2.2.2.2.2.2.2.1, rfl⟩
theorem dX6_step_90 : Dc cX6_step 90 (.getfield 78) 3 93 := ⟨DX6_step_c2.2.2.2.2.2.2.2.2.2.2.2.1, rfl⟩
theorem dX6_step_93 : Dc cX6_step 93 (.iload_n 1) 1 94 := ⟨DX6_step_c2.2.2.2.2.2.2.2.2.2.2.2.2.1, rfl⟩
theorem dX6_step_94 : Dc cX6_step 94 (.iload_n 2) 1 95 := ⟨DX6_step_c2.2.2.2.2.2.2.2.2.2.2.2.2.2.1, rfl⟩
theorem dX6_step_95 : Dc cX6_step 95 (.iconst 0) 1 96 := ⟨DX6_step_c2.2.2.2.2.2.2.2.2.2.2.2.2.2.2.1, rfl⟩
theorem dX6_step_96 : Dc cX6_step 96 (.invokevirtual 84) 3 99 := ⟨DX6_step_c2.2.2.2.2.2.2.2.2.2.2.2.2.2.2.2, rfl⟩
theorem DX6_step_c3 : decode cX6_step 99 = .ok (.iload_n 3, 1) ∧ decode cX6_step 100 = .ok (.ifCond .eq 16, 3) ∧ decode cX6_step 103 = .ok (.aload_n 0, 1) ∧ decode cX6_step 104 = .ok (.getfield 12, 3) ∧ decode cX6_step 107 = .ok (.getfield 88, 3) ∧ decode cX6_step 110 = .ok (.invokevirtual 91, 3) ∧ decode cX6_step 113 = .ok (.goto 5, 3) ∧ decode cX6_step 116 = .ok (.bipush 100, 2) ∧ decode cX6_step 118 = .ok (.ireturn, 1) := by decide +kernel
theorem dX6_step_99 : Dc cX6_step 99 (.iload_n 3) 1 100 := ⟨DX6_step_c3.1, rfl⟩
theorem dX6_step_100 : Db cX6_step 100 (fun o => .ifCond .eq o) 103 116 := ⟨16, DX6_step_c3.2.1, rfl, rfl⟩
theorem dX6_step_103 : Dc cX6_step 103 (.aload_n 0) 1 104 := ⟨DX6_step_c3.2.2.1, rfl⟩
theorem dX6_step_104 : Dc cX6_step 104 (.getfield 12) 3 107 := ⟨DX6_step_c3.2.2.2.1, rfl⟩
theorem dX6_step_107 : Dc cX6_step 107 (.getfield 88) 3 110 := ⟨DX6_step_c3.2.2.2.2.1, rfl⟩
theorem dX6_step_110 : Dc cX6_step 110 (.invokevirtual 91) 3 113 := ⟨DX6_step_c3.2.2.2.2.2.1, rfl⟩
theorem dX6_step_113 : Db cX6_step 113 .goto 116 118 := ⟨5, DX6_step_c3.2.2.2.2.2.2.1, rfl, rfl⟩
theorem dX6_step_116 : Dc cX6_step 116 (.bipush 100) 2 118 := ⟨DX6_step_c3.2.2.2.2.2.2.2.1, rfl⟩
theorem dX6_step_118 : Dc cX6_step 118 (.ireturn) 1 119 := ⟨DX6_step_c3.2.2.2.2.2.2.2.2, rfl⟩
theorem DX6_record_c0 : decode cX6_record 0 = .ok (.aload_n 0, 1) ∧ decode cX6_record 1 = .ok (.getfield 12, 3) ∧ decode cX6_record 4 = .ok (.getfield 59, 3) ∧ decode cX6_record 7 = .ok (.ifCond .eq 6, 3) ∧ decode cX6_record 10 = .ok (.bipush (-4), 2) ∧ decode cX6_record 12 = .ok (.ireturn, 1) ∧ decode cX6_record 13 = .ok (.aload_n 0, 1) ∧ decode cX6_record 14 = .ok (.getfield 12, 3) ∧ decode cX6_record 17 = .ok (.getfield 74, 3) ∧ decode cX6_record 20 = .ok (.invokevirtual 94, 3) ∧ decode cX6_record 23 = .ok (.ifCond .eq 6, 3) ∧ decode cX6_record 26 = .ok (.bipush (-3), 2) ∧ decode cX6_record 28 = .ok (.ireturn, 1) ∧ decode cX6_record 29 = .ok (.aload_n 0, 1) ∧ decode cX6_record 30 = .ok (.getfield 19, 3) ∧ decode cX6_record 33 = .ok (.aload_n 0, 1) := by decide +kernel
theorem dX6_record_0 : Dc cX6_record 0 (.aload_n 0) 1 1 := ⟨DX6_record_c0.1, rfl⟩
theorem dX6_record_1 : Dc cX6_record 1 (.getfield 12) 3 4 := ⟨DX6_record_c0.2.1, rfl⟩
theorem dX6_record_4 : Dc cX6_record 4 (.getfield 59) 3 7 := ⟨DX6_record_c0.2.2.1, rfl⟩
theorem dX6_record_7 : Db cX6_record 7 (fun o => .ifCond .eq o) 10 13 := ⟨6, DX6_record_c0.2.2.2.1, rfl, rfl⟩
theorem dX6_record_10 : Dc cX6_record 10 (.bipush (-4)) 2 12 := ⟨DX6_record_c0.2.2.2.2.1, rfl⟩
theorem dX6_record_12 : Dc cX6_record 12 (.ireturn) 1 13 := ⟨DX6_record_c0.2.2.2.2.2.1, rfl⟩
theorem dX6_record_13 : Dc cX6_record 13 (.aload_n 0) 1 14 := ⟨DX6_record_c0.2.2.2.2.2.2.1, rfl⟩
theorem dX6_record_14 : Dc cX6_record 14 (.getfield 12) 3 17 := ⟨DX6_record_c0.2.2.2.2.2.2.2.1, rfl⟩
theorem dX6_record_17 : Dc cX6_record 17 (.getfield 74) 3 20 := ⟨DX6_record_c0.2.2.2.2.2.2.2.2.1, rfl⟩
theorem dX6_record_20 : Dc cX6_record 20 (.invokevirtual 94) 3 23 := ⟨DX6_record_c0.2.2.2.2.2.2.2.2.2.1, rfl⟩
theorem dX6_record_23 : Db cX6_record 23 (fun o => .ifCond .eq o) 26 29 := ⟨6, DX6_record_c0.2.2.2.2.2.2.2.2.2.2.1, rfl, rfl⟩
theorem dX6_record_26 : Dc cX6_record 26 (.bipush (-3)) 2 28 := ⟨DX6_record_c0.2.2.2.2.2.2.2.2.2.2.2.1, rfl⟩
theorem dX6_record_28 : Dc cX6_record 28 (.ireturn) 1 29 := ⟨DX6_record_c0.2.2.2.2.2.2.2.2.2.2.2.2.1, rfl⟩
theorem dX6_record_29 : Dc cX6_record 29 (.aload_n 0) 1 30 := ⟨DX6_record_c0.2.2.2.2.2.2.2.2.2.2.2.2.2.1, rfl⟩
theorem dX6_record_30 : Dc cX6_record 30 (.getfield 19) 3 33 := ⟨DX6_record_c0.2.2.2.2.2.2.2.2.2.2.2.2.2.2.1, rfl⟩
theorem dX6_record_33 : Dc cX6_record 33 (.aload_n 0) 1 34 := ⟨DX6_record_c0.2.2.2.2.2.2.2.2.2.2.2.2.2.2.2, rfl⟩
theorem DX6_record_c1 : decode cX6_record 34 = .ok (.getfield 12, 3) ∧ decode cX6_record 37 = .ok (.invokevirtual 67, 3) ∧ decode cX6_record 40 = .ok (.aload_n 0, 1) ∧ decode cX6_record 41 = .ok (.getfield 12, 3) ∧ decode cX6_record 44 = .ok (.iconst 1, 1) ∧ decode cX6_record 45 = .ok (.putfield 59, 3) ∧ decode cX6_record 48 = .ok (.aload_n 0, 1) ∧ decode cX6_record 49 = .ok (.getfield 12, 3) ∧ decode cX6_record 52 = .ok (.getfield 74, 3) ∧ decode cX6_record 55 = .ok (.invokevirtual 98, 3) ∧ decode cX6_record 58 = .ok (.aload_n 0, 1) ∧ decode cX6_record 59 = .ok (.getfield 12, 3) ∧ decode cX6_record 62 = .ok (.getfield 74, 3) ∧ decode cX6_record 65 = .ok (.getfield 78, 3) ∧ decode cX6_record 68 = .ok (.ireturn, 1) := by decide +kernel
theorem dX6_record_34 : Dc cX6_record 34 (.getfield 12) 3 37 := ⟨DX6_record_c1.1, rfl⟩
theorem dX6_record_37 : Dc cX6_record 37 (.invokevirtual 67) 3 40 := ⟨DX6_record_c1.2.1, rfl⟩
theorem dX6_record_40 : Dc cX6_record 40 (.aload_n 0) 1 41 := ⟨DX6_record_c1.2.2.1, rfl⟩
theorem dX6_record_41 : Dc cX6_record 41 (.getfield 12) 3 44 := ⟨DX6_record_c1.2.2.2.1, rfl⟩
theorem dX6_record_44 : Dc cX6_record 44 (.iconst 1) 1 45 := ⟨DX6_record_c1.2.2.2.2.1, rfl⟩
theorem dX6_record_45 : Dc cX6_record 45 (.putfield 59) 3 48 := ⟨DX6_record_c1.2.2.2.2.2.1, rfl⟩
theorem dX6_record_48 : Dc cX6_record 48 (.aload_n 0) 1 49 := ⟨DX6_record_c1.2.2.2.2.2.2.1, rfl⟩
theorem dX6_record_49 : Dc cX6_record 49 (.getfield 12) 3 52 := ⟨DX6_record_c1.2.2.2.2.2.2.2.1, rfl⟩
theorem dX6_record_52 : Dc cX6_record 52 (.getfield 74) 3 55 := ⟨DX6_record_c1.2.2.2.2.2.2.2.2.1, rfl⟩
theorem dX6_record_55 : Dc cX6_record 55 (.invokevirtual 98) 3 58 := ⟨DX6_record_c1.2.2.2.2.2.2.2.2.2.1, rfl⟩
theorem dX6_record_58 : Dc cX6_record 58 (.aload_n 0) 1 59 := ⟨DX6_record_c1.2.2.2.2.2.2.2.2.2.2.1, rfl⟩
theorem dX6_record_59 : Dc cX6_record 59 (.getfield 12) 3 62 := ⟨DX6_record_c1.2.2.2.2.2.2.2.2.2.2.2.1, rfl⟩
theorem dX6_record_62 : Dc cX6_record 62 (.getfield 74) 3 65 := ⟨DX6_record_c1.2.2.2.2.2.2.2.2.2.2.2.2.1, rfl⟩
theorem dX6_record_65 : Dc cX6_record 65 (.getfield 78) 3 68 := ⟨DX6_record_c1.2.2.2.2.2.2.2.2.2.2.2.2.2.1, rfl⟩
theorem dX6_record_68 : Dc cX6_record 68 (.ireturn) 1 69 := ⟨DX6_record_c1.2.2.2.2.2.2.2.2.2.2.2.2.2.2, rfl⟩
theorem DX6_end_c0 : decode cX6_end 0 = .ok (.aload_n 0, 1) ∧ decode cX6_end 1 = .ok (.getfield 12, 3) ∧ decode cX6_end 4 = .ok (.getfield 59, 3) ∧ decode cX6_end 7 = .ok (.ifCond .ne 6, 3) ∧ decode cX6_end 10 = .ok (.bipush (-4), 2) ∧ decode cX6_end 12 = .ok (.ireturn, 1) ∧ decode cX6_end 13 = .ok (.aload_n 0, 1) ∧ decode cX6_end 14 = .ok (.getfield 19, 3) ∧ decode cX6_end 17 = .ok (.aload_n 0, 1) ∧ decode cX6_end 18 = .ok (.getfield 12, 3) ∧ decode cX6_end 21 = .ok (.invokevirtual 67, 3) ∧ decode cX6_end 24 = .ok (.aload_n 0, 1) ∧ decode cX6_end 25 = .ok (.getfield 12, 3) ∧ decode cX6_end 28 = .ok (.iconst 0, 1) ∧ decode cX6_end 29 = .ok (.putfield 59, 3) ∧ decode cX6_end 32 = .ok (.aload_n 0, 1) := by decide +kernel
theorem dX6_end_0 : Dc cX6_end 0 (.aload_n 0) 1 1 := ⟨DX6_end_c0.1, rfl⟩
theorem dX6_end_1 : Dc cX6_end 1 (.getfield 12) 3 4 := ⟨DX6_end_c0.2.1, rfl⟩
theorem dX6_end_4 : Dc cX6_end 4 (.getfield 59) 3 7 := ⟨DX6_end_c0.2.2.1, rfl⟩
theorem dX6_end_7 : Db cX6_end 7 (fun o => .ifCond .ne o) 10 13 := ⟨6, DX6_end_c0.2.2.2.1, rfl, rfl⟩
theorem dX6_end_10 : Dc cX6_end 10 (.bipush (-4)) 2 12 := ⟨DX6_end_c0.2.2.2.2.1, rfl⟩
theorem dX6_end_12 : Dc cX6_end 12 (.ireturn) 1 13 := ⟨DX6_end_c0.2.2.2.2.2.1, rfl⟩
theorem dX6_end_13 : Dc cX6_end 13 (.aload_n 0) 1 14 := ⟨DX6_end_c0.2.2.2.2.2.2.1, rfl⟩
theorem dX6_end_14 : Dc cX6_end 14 (.getfield 19) 3 17 := ⟨DX6_end_c0.2.2.2.2.2.2.2.1, rfl⟩
theorem dX6_end_17 : Dc cX6_end 17 (.aload_n 0) 1 18 := ⟨DX6_end_c0.2.2.2.2.2.2.2.2.1, rfl⟩
theorem dX6_end_18 : Dc cX6_end 18 (.getfield 12) 3 21 := ⟨DX6_end_c0.2.2.2.2.2.2.2.2.2.1, rfl⟩
theorem dX6_end_21 : Dc cX6_end 21 (.invokevirtual 67) 3 24 := ⟨DX6_end_c0.2.2.2.2.2.2.2.2.2.2.1, rfl⟩
theorem dX6_end_24 : Dc cX6_end 24 (.aload_n 0) 1 25 := ⟨DX6_end_c0.2.2.2.2.2.2.2.2.2.2.2.1, rfl⟩
theorem dX6_end_25 : Dc cX6_end 25 (.getfield 12) 3 28 := ⟨DX6_end_c0.2.2.2.2.2.2.2.2.2.2.2.2.1, rfl⟩
theorem dX6_end_28 : Dc cX6_end 28 (.iconst 0) 1 29 := ⟨DX6_end_c0.2.2.2.2.2.2.2.2.2.2.2.2.2.1, rfl⟩
theorem dX6_end_29 : Dc cX6_end 29 (.putfield 59) 3 32 := ⟨DX6_end_c0.2.2.2.2.2.2.2.2.2.2.2.2.2.2.1, rfl⟩
theorem dX6_end_32 : Dc cX6_end 32 (.aload_n 0) 1 33 := ⟨DX6_end_c0.2.2.2.2.2.2.2.2.2.2.2.2.2.2.2, rfl⟩
theorem DX6_end_c1 : decode cX6_end 33 = .ok (.getfield 12, 3) ∧ decode cX6_end 36 = .ok (.invokevirtual 63, 3) ∧ decode cX6_end 39 = .ok (.ifCond .ne 6, 3) ∧ decode cX6_end 42 = .ok (.bipush 100, 2) ∧ decode cX6_end 44 = .ok (.ireturn, 1) ∧ decode cX6_end 45 = .ok (.aload_n 0, 1) ∧ decode cX6_end 46 = .ok (.getfield 12, 3) ∧ decode cX6_end 49 = .ok (.getfield 74, 3) ∧ decode cX6_end 52 = .ok (.iconst 1, 1) ∧ decode cX6_end 53 = .ok (.invokevirtual 101, 3) ∧ decode cX6_end 56 = .ok (.ireturn, 1) := by decide +kernel
theorem dX6_end_33 : Dc cX6_end 33 (.getfield 12) 3 36 := ⟨DX6_end_c1.1, rfl⟩
theorem dX6_end_36 : Dc cX6_end 36 (.invokevirtual 63) 3 39 := ⟨DX6_end_c1.2.1, rfl⟩
theorem dX6_end_39 : Db cX6_end 39 (fun o => .ifCond .ne o) 42 45 := ⟨6, DX6_end_c1.2.2.1, rfl, rfl⟩
theorem dX6_end_42 : Dc cX6_end 42 (.bipush 100) 2 44 := ⟨DX6_end_c1.2.2.2.1, rfl⟩
theorem dX6_end_44 : Dc cX6_end 44 (.ireturn) 1 45 := ⟨DX6_end_c1.2.2.2.2.1, rfl⟩
theorem dX6_end_45 : Dc cX6_end 45 (.aload_n 0) 1 46 := ⟨DX6_end_c1.2.2.2.2.2.1, rfl⟩
theorem dX6_end_46 : Dc cX6_end 46 (.getfield 12) 3 49 := ⟨DX6_end_c1.2.2.2.2.2.2.1, rfl⟩
theorem dX6_end_49 : Dc cX6_end 49 (.getfield 74) 3 52 := ⟨DX6_end_c1.2.2.2.2.2.2.2.1, rfl⟩
theorem dX6_end_52 : Dc cX6_end 52 (.iconst 1) 1 53 := ⟨DX6_end_c1.2.2.2.2.2.2.2.2.1, rfl⟩
theorem dX6_end_53 : Dc cX6_end 53 (.invokevirtual 101) 3 56 := ⟨DX6_end_c1.2.2.2.2.2.2.2.2.2.1, rfl⟩
theorem dX6_end_56 : Dc cX6_end 56 (.ireturn) 1 57 := ⟨DX6_end_c1.2.2.2.2.2.2.2.2.2.2, rfl⟩
theorem DX6_dropTry_c0 : decode cX6_dropTry 0 = .ok (.aload_n 0, 1) ∧ decode cX6_dropTry 1 = .ok (.getfield 12, 3) ∧ decode cX6_dropTry 4 = .ok (.getfield 74, 3) ∧ decode cX6_dropTry 7 = .ok (.iload_n 1, 1) ∧ decode cX6_dropTry 8 = .ok (.invokevirtual 105, 3) ∧ decode cX6_dropTry 11 = .ok (.ifCond .ne 5, 3) ∧ decode cX6_dropTry 14 = .ok (.iconst (-1), 1) ∧ decode cX6_dropTry 15 = .ok (.ireturn, 1) ∧ decode cX6_dropTry 16 = .ok (.aload_n 0, 1) ∧ decode cX6_dropTry 17 = .ok (.getfield 19, 3) ∧ decode cX6_dropTry 20 = .ok (.aload_n 0, 1) ∧ decode cX6_dropTry 21 = .ok (.getfield 12, 3) ∧ decode cX6_dropTry 24 = .ok (.invokevirtual 67, 3) ∧ decode cX6_dropTry 27 = .ok (.aload_n 0, 1) ∧ decode cX6_dropTry 28 = .ok (.getfield 12, 3) ∧ decode cX6_dropTry 31 = .ok (.getfield 74, 3) := by decide +kernel
theorem dX6_dropTry_0 : Dc cX6_dropTry 0 (.aload_n 0) 1 1 := ⟨DX6_dropTry_c0.1, rfl⟩
theorem dX6_dropTry_1 : Dc cX6_dropTry 1 (.getfield 12) 3 4 := ⟨DX6_dropTry_c0.2.1, rfl⟩
theorem dX6_dropTry_4 : Dc cX6_dropTry 4 (.getfield 74) 3 7 := ⟨DX6_dropTry_c0.2.2.1, rfl⟩
theorem dX6_dropTry_7 : Dc cX6_dropTry 7 (.iload_n 1) 1 8 := ⟨DX6_dropTry_c0.2.2.2.1, rfl⟩
theorem dX6_dropTry_8 : Dc cX6_dropTry 8 (.invokevirtual 105) 3 11 := ⟨DX6_dropTry_c0.2.2.2.2.1, rfl⟩
theorem dX6_dropTry_11 : Db cX6_dropTry 11 (fun o => .ifCond .ne o) 14 16 := ⟨5, DX6_dropTry_c0.2.2.2.2.2.1, rfl, rfl⟩
theorem dX6_dropTry_14 : Dc cX6_dropTry 14 (.iconst (-1)) 1 15 := ⟨DX6_dropTry_c0.2.2.2.2.2.2.1, rfl⟩
theorem dX6_dropTry_15 : Dc cX6_dropTry 15 (.ireturn) 1 16 := ⟨DX6_dropTry_c0.2.2.2.2.2.2.2.1, rfl⟩
theorem dX6_dropTry_16 : Dc cX6_dropTry 16 (.aload_n 0) 1 17 := ⟨DX6_dropTry_c0.2.2.2.2.2.2.2.2.1, rfl⟩
theorem dX6_dropTry_17 : Dc cX6_dropTry 17 (.getfield 19) 3 20 := ⟨DX6_dropTry_c0.2.2.2.2.2.2.2.2.2.1, rfl⟩
theorem dX6_dropTry_20 : Dc cX6_dropTry 20 (.aload_n 0) 1 21 := ⟨DX6_dropTry_c0.2.2.2.2.2.2.2.2.2.2.1, rfl⟩
theorem dX6_dropTry_21 : Dc cX6_dropTry 21 (.getfield 12) 3 24 := ⟨DX6_dropTry_c0.2.2.2.2.2.2.2.2.2.2.2.1, rfl⟩
theorem dX6_dropTry_24 : Dc cX6_dropTry 24 (.invokevirtual 67) 3 27 := ⟨DX6_dropTry_c0.2.2.2.2.2.2.2.2.2.2.2.2.1, rfl⟩
theorem dX6_dropTry_27 : Dc cX6_dropTry 27 (.aload_n 0) 1 28 := ⟨DX6_dropTry_c0.2.2.2.2.2.2.2.2.2.2.2.2.2.1, rfl⟩
theorem dX6_dropTry_28 : Dc cX6_dropTry 28 (.getfield 12) 3 31 := ⟨DX6_dropTry_c0.2.2.2.2.2.2.2.2.2.2.2.2.2.2.1, rfl⟩
theorem dX6_dropTry_31 : Dc cX6_dropTry 31 (.getfield 74) 3 34 := ⟨DX6_dropTry_c0.2.2.2.2.2.2.2.2.2.2.2.2.2.2.2, rfl⟩
theorem DX6_dropTry_c1 : decode cX6_dropTry 34 = .ok (.iload_n 1, 1) ∧ decode cX6_dropTry 35 = .ok (.invokevirtual 108, 3) ∧ decode cX6_dropTry 38 = .ok (.aload_n 0, 1) ∧ decode cX6_dropTry 39 = .ok (.getfield 12, 3) ∧ decode cX6_dropTry 42 = .ok (.getfield 74, 3) ∧ decode cX6_dropTry 45 = .ok (.getfield 78, 3) ∧ decode cX6_dropTry 48 = .ok (.ireturn, 1) := by decide +kernel
theorem dX6_dropTry_34 : Dc cX6_dropTry 34 (.iload_n 1) 1 35 := ⟨DX6_dropTry_c1.1, rfl⟩
theorem dX6_dropTry_35 : Dc cX6_dropTry 35 (.invokevirtual 108) 3 38 := ⟨DX6_dropTry_c1.2.1, rfl⟩
theorem dX6_dropTry_38 : Dc cX6_dropTry 38 (.aload_n 0) 1 39 := ⟨DX6_dropTry_c1.2.2.1, rfl⟩
theorem dX6_dropTry_39 : Dc cX6_dropTry 39 (.getfield 12) 3 42 := ⟨DX6_dropTry_c1.2.2.2.1, rfl⟩
theorem dX6_dropTry_42 : Dc cX6_dropTry 42 (.getfield 74) 3 45 := ⟨DX6_dropTry_c1.2.2.2.2.1, rfl⟩
theorem dX6_dropTry_45 : Dc cX6_dropTry 45 (.getfield 78) 3 48 := ⟨DX6_dropTry_c1.2.2.2.2.2.1, rfl⟩
theorem dX6_dropTry_48 : Dc cX6_dropTry 48 (.ireturn) 1 49 := ⟨DX6_dropTry_c1.2.2.2.2.2.2, rfl⟩
theorem DX6_generalise_c0 : decode cX6_generalise 0 = .ok (.aload_n 0, 1) ∧ decode cX6_generalise 1 = .ok (.getfield 12, 3) ∧ decode cX6_generalise 4 = .ok (.getfield 74, 3) ∧ decode cX6_generalise 7 = .ok (.iload_n 1, 1) ∧ decode cX6_generalise 8 = .ok (.invokevirtual 105, 3) ∧ decode cX6_generalise 11 = .ok (.ifCond .eq 17, 3) ∧ decode cX6_generalise 14 = .ok (.aload_n 0, 1) ∧ decode cX6_generalise 15 = .ok (.getfield 12, 3) ∧ decode cX6_generalise 18 = .ok (.getfield 74, 3) ∧ decode cX6_generalise 21 = .ok (.iload_n 2, 1) ∧ decode cX6_generalise 22 = .ok (.invokevirtual 105, 3) ∧ decode cX6_generalise 25 = .ok (.ifCond .ne 5, 3) ∧ decode cX6_generalise 28 = .ok (.iconst (-1), 1) ∧ decode cX6_generalise 29 = .ok (.ireturn, 1) ∧ decode cX6_generalise 30 = .ok (.aload_n 0, 1) ∧ decode cX6_generalise 31 = .ok (.iload_n 1, 1) := by decide +kernel
theorem dX6_generalise_0 : Dc cX6_generalise 0 (.aload_n 0) 1 1 := ⟨DX6_generalise_c0.1, rfl⟩
theorem dX6_generalise_1 : Dc cX6_generalise 1 (.getfield 12) 3 4 := ⟨DX6_generalise_c0.2.1, rfl⟩
theorem dX6_generalise_4 : Dc cX6_generalise 4 (.getfield 74) 3 7 := ⟨DX6_generalise_c0.2.2.1, rfl⟩
theorem dX6_generalise_7 : Dc cX6_generalise 7 (.iload_n 1) 1 8 := ⟨DX6_generalise_c0.2.2.2.1, rfl⟩
theorem dX6_generalise_8 : Dc cX6_generalise 8 (.invokevirtual 105) 3 11 := ⟨DX6_generalise_c0.2.2.2.2.1, rfl⟩
theorem dX6_generalise_11 : Db cX6_generalise 11 (fun o => .ifCond .eq o) 14 28 := ⟨17, DX6_generalise_c0.2.2.2.2.2.1, rfl, rfl⟩
theorem dX6_generalise_14 : Dc cX6_generalise 14 (.aload_n 0) 1 15 := ⟨DX6_generalise_c0.2.2.2.2.2.2.1, rfl⟩
theorem dX6_generalise_15 : Dc cX6_generalise 15 (.getfield 12) 3 18 := ⟨DX6_generalise_c0.2.2.2.2.2.2.2.1, rfl⟩
theorem dX6_generalise_18 : Dc cX6_generalise 18 (.getfield 74) 3 21 := ⟨DX6_generalise_c0.2.2.2.2.2.2.2.2.1, rfl⟩
theorem dX6_generalise_21 : Dc cX6_generalise 21 (.iload_n 2) 1 22 := ⟨DX6_generalise_c0.2.2.2.2.2.2.2.2.2.1, rfl⟩
theorem dX6_generalise_22 : Dc cX6_generalise 22 (.invokevirtual 105) 3 25 := ⟨DX6_generalise_c0.2.2.2.2.2.2.2.2.2.2.1, rfl⟩
theorem dX6_generalise_25 : Db cX6_generalise 25 (fun o => .ifCond .ne o) 28 30 := ⟨5, DX6_generalise_c0.2.2.2.2.2.2.2.2.2.2.2.1, rfl, rfl⟩
theorem dX6_generalise_28 : Dc cX6_generalise 28 (.iconst (-1)) 1 29 := ⟨DX6_generalise_c0.2.2.2.2.2.2.2.2.2.2.2.2.1, rfl⟩
theorem dX6_generalise_29 : Dc cX6_generalise 29 (.ireturn) 1 30 := ⟨DX6_generalise_c0.2.2.2.2.2.2.2.2.2.2.2.2.2.1, rfl⟩
theorem dX6_generalise_30 : Dc cX6_generalise 30 (.aload_n 0) 1 31 := ⟨DX6_generalise_c0.2.2.2.2.2.2.2.2.2.2.2.2.2.2.1, rfl⟩
theorem dX6_generalise_31 : Dc cX6_generalise 31 (.iload_n 1) 1 32 := ⟨DX6_generalise_c0.2.2.2.2.2.2.2.2.2.2.2.2.2.2.2, rfl⟩
theorem DX6_generalise_c1 : decode cX6_generalise 32 = .ok (.iload_n 2, 1) ∧ decode cX6_generalise 33 = .ok (.invokevirtual 112, 3) ∧ decode cX6_generalise 36 = .ok (.ifCond .ne 6, 3) ∧ decode cX6_generalise 39 = .ok (.bipush (-4), 2) ∧ decode cX6_generalise 41 = .ok (.ireturn, 1) ∧ decode cX6_generalise 42 = .ok (.aload_n 0, 1) ∧ decode cX6_generalise 43 = .ok (.getfield 12, 3) ∧ decode cX6_generalise 46 = .ok (.getfield 115, 3) ∧ decode cX6_generalise 49 = .ok (.invokevirtual 94, 3) ∧ decode cX6_generalise 52 = .ok (.ifCond .eq 6, 3) ∧ decode cX6_generalise 55 = .ok (.bipush (-3), 2) ∧ decode cX6_generalise 57 = .ok (.ireturn, 1) ∧ decode cX6_generalise 58 = .ok (.aload_n 0, 1) ∧ decode cX6_generalise 59 = .ok (.getfield 19, 3) ∧ decode cX6_generalise 62 = .ok (.aload_n 0, 1) ∧ decode cX6_generalise 63 = .ok (.getfield 12, 3) := by decide +kernel
theorem dX6_generalise_32 : Dc cX6_generalise 32 (.iload_n 2) 1 33 := ⟨DX6_generalise_c1.1, rfl⟩
theorem dX6_generalise_33 : Dc cX6_generalise 33 (.invokevirtual 112) 3 36 := ⟨DX6_generalise_c1.2.1, rfl⟩
theorem dX6_generalise_36 : Db cX6_generalise 36 (fun o => .ifCond .ne o) 39 42 := ⟨6, DX6_generalise_c1.2.2.1, rfl, rfl⟩
theorem dX6_generalise_39 : Dc cX6_generalise 39 (.bipush (-4)) 2 41 := ⟨DX6_generalise_c1.2.2.2.1, rfl⟩
theorem dX6_generalise_41 : Dc cX6_generalise 41 (.ireturn) 1 42 := ⟨DX6_generalise_c1.2.2.2.2.1, rfl⟩
theorem dX6_generalise_42 : Dc cX6_generalise 42 (.aload_n 0) 1 43 := ⟨DX6_generalise_c1.2.2.2.2.2.1, rfl⟩
theorem dX6_generalise_43 : Dc cX6_generalise 43 (.getfield 12) 3 46 := ⟨DX6_generalise_c1.2.2.2.2.2.2.1, rfl⟩
theorem dX6_generalise_46 : Dc cX6_generalise 46 (.getfield 115) 3 49 := ⟨DX6_generalise_c1.2.2.2.2.2.2.2.1, rfl⟩
theorem dX6_generalise_49 : Dc cX6_generalise 49 (.invokevirtual 94) 3 52 := ⟨DX6_generalise_c1.2.2.2.2.2.2.2.2.1, rfl⟩
theorem dX6_generalise_52 : Db cX6_generalise 52 (fun o => .ifCond .eq o) 55 58 := ⟨6, DX6_generalise_c1.2.2.2.2.2.2.2.2.2.1, rfl, rfl⟩
theorem dX6_generalise_55 : Dc cX6_generalise 55 (.bipush (-3)) 2 57 := ⟨DX6_generalise_c1.2.2.2.2.2.2.2.2.2.2.1, rfl⟩
theorem dX6_generalise_57 : Dc cX6_generalise 57 (.ireturn) 1 58 := ⟨DX6_generalise_c1.2.2.2.2.2.2.2.2.2.2.2.1, rfl⟩
theorem dX6_generalise_58 : Dc cX6_generalise 58 (.aload_n 0) 1 59 := ⟨DX6_generalise_c1.2.2.2.2.2.2.2.2.2.2.2.2.1, rfl⟩
theorem dX6_generalise_59 : Dc cX6_generalise 59 (.getfield 19) 3 62 := ⟨DX6_generalise_c1.2.2.2.2.2.2.2.2.2.2.2.2.2.1, rfl⟩
theorem dX6_generalise_62 : Dc cX6_generalise 62 (.aload_n 0) 1 63 := ⟨DX6_generalise_c1.2.2.2.2.2.2.2.2.2.2.2.2.2.2.1, rfl⟩
theorem dX6_generalise_63 : Dc cX6_generalise 63 (.getfield 12) 3 66 := ⟨DX6_generalise_c1.2.2.2.2.2.2.2.2.2.2.2.2.2.2.2, rfl⟩
theorem DX6_generalise_c2 : decode cX6_generalise 66 = .ok (.invokevirtual 67, 3) ∧ decode cX6_generalise 69 = .ok (.aload_n 0, 1) ∧ decode cX6_generalise 70 = .ok (.iload_n 1, 1) ∧ decode cX6_generalise 71 = .ok (.iload_n 2, 1) ∧ decode cX6_generalise 72 = .ok (.iconst 0, 1) ∧ decode cX6_generalise 73 = .ok (.aload_n 0, 1) ∧ decode cX6_generalise 74 = .ok (.getfield 12, 3) ∧ decode cX6_generalise 77 = .ok (.getfield 74, 3) ∧ decode cX6_generalise 80 = .ok (.iload_n 1, 1) ∧ decode cX6_generalise 81 = .ok (.invokevirtual 118, 3) ∧ decode cX6_generalise 84 = .ok (.iconst 2, 1) ∧ decode cX6_generalise 85 = .ok (.invokevirtual 121, 3) ∧ decode cX6_generalise 88 = .ok (.ireturn, 1) := by decide +kernel
theorem dX6_generalise_66 : Dc cX6_generalise 66 (.invokevirtual 67) 3 69 := ⟨DX6_generalise_c2.1, rfl⟩
theorem dX6_generalise_69 : Dc cX6_generalise 69 (.aload_n 0) 1 70 := ⟨DX6_generalise_c2.2.1, rfl⟩
theorem dX6_generalise_70 : Dc cX6_generalise 70 (.iload_n 1) 1 71 := ⟨DX6_generalise_c2.2.2.1, rfl⟩
theorem dX6_generalise_71 : Dc cX6_generalise 71 (.iload_n 2) 1 72 := ⟨DX6_generalise_c2.2.2.2.1, rfl⟩
theorem dX6_generalise_72 : Dc cX6_generalise 72 (.iconst 0) 1 73 := ⟨DX6_generalise_c2.2.2.2.2.1, rfl⟩
theorem dX6_generalise_73 : Dc cX6_generalise 73 (.aload_n 0) 1 74 := ⟨DX6_generalise_c2.2.2.2.2.2.1, rfl⟩
theorem dX6_generalise_74 : Dc cX6_generalise 74 (.getfield 12) 3 77 := ⟨DX6_generalise_c2.2.2.2.2.2.2.1, rfl⟩
theorem dX6_generalise_77 : Dc cX6_generalise 77 (.getfield 74) 3 80 := ⟨DX6_generalise_c2.2.2.2.2.2.2.2.1, rfl⟩
theorem dX6_generalise_80 : Dc cX6_generalise 80 (.iload_n 1) 1 81 := ⟨DX6_generalise_c2.2.2.2.2.2.2.2.2.1, rfl⟩
theorem dX6_generalise_81 : Dc cX6_generalise 81 (.invokevirtual 118) 3 84 := ⟨DX6_generalise_c2.2.2.2.2.2.2.2.2.2.1, rfl⟩
theorem dX6_generalise_84 : Dc cX6_generalise 84 (.iconst 2) 1 85 := ⟨DX6_generalise_c2.2.2.2.2.2.2.2.2.2.2.1, rfl⟩
theorem dX6_generalise_85 : Dc cX6_generalise 85 (.invokevirtual 121) 3 88 := ⟨DX6_generalise_c2.2.2.2.2.2.2.2.2.2.2.2.1, rfl⟩
theorem dX6_generalise_88 : Dc cX6_generalise 88 (.ireturn) 1 89 := ⟨DX6_generalise_c2.2.2.2.2.2.2.2.2.2.2.2.2, rfl⟩
theorem DX6_fold_c0 : decode cX6_fold 0 = .ok (.aload_n 0, 1) ∧ decode cX6_fold 1 = .ok (.getfield 12, 3) ∧ decode cX6_fold 4 = .ok (.getfield 74, 3) ∧ decode cX6_fold 7 = .ok (.iload_n 1, 1) ∧ decode cX6_fold 8 = .ok (.invokevirtual 105, 3) ∧ decode cX6_fold 11 = .ok (.ifCond .ne 5, 3) ∧ decode cX6_fold 14 = .ok (.iconst (-1), 1) ∧ decode cX6_fold 15 = .ok (.ireturn, 1) ∧ decode cX6_fold 16 = .ok (.aload_n 0, 1) ∧ decode cX6_fold 17 = .ok (.iload_n 1, 1) ∧ decode cX6_fold 18 = .ok (.invokevirtual 125, 3) ∧ decode cX6_fold 21 = .ok (.istore_n 2, 1) ∧ decode cX6_fold 22 = .ok (.iload_n 2, 1) ∧ decode cX6_fold 23 = .ok (.ifCond .gt 6, 3) ∧ decode cX6_fold 26 = .ok (.bipush (-4), 2) ∧ decode cX6_fold 28 = .ok (.ireturn, 1) := by decide +kernel
theorem dX6_fold_0 : Dc cX6_fold 0 (.aload_n 0) 1 1 := ⟨DX6_fold_c0.1, rfl⟩
theorem dX6_fold_1 : Dc cX6_fold 1 (.getfield 12) 3 4 := ⟨DX6_fold_c0.2.1, rfl⟩
theorem dX6_fold_4 : Dc cX6_fold 4 (.getfield 74) 3 7 := ⟨DX6_fold_c0.2.2.1, rfl⟩
theorem dX6_fold_7 : Dc cX6_fold 7 (.iload_n 1) 1 8 := ⟨DX6_fold_c0.2.2.2.1, rfl⟩
theorem dX6_fold_8 : Dc cX6_fold 8 (.invokevirtual 105) 3 11 := ⟨DX6_fold_c0.2.2.2.2.1, rfl⟩
theorem dX6_fold_11 : Db cX6_fold 11 (fun o => .ifCond .ne o) 14 16 := ⟨5, DX6_fold_c0.2.2.2.2.2.1, rfl, rfl⟩
theorem dX6_fold_14 : Dc cX6_fold 14 (.iconst (-1)) 1 15 := ⟨DX6_fold_c0.2.2.2.2.2.2.1, rfl⟩
theorem dX6_fold_15 : Dc cX6_fold 15 (.ireturn) 1 16 := ⟨DX6_fold_c0.2.2.2.2.2.2.2.1, rfl⟩
theorem dX6_fold_16 : Dc cX6_fold 16 (.aload_n 0) 1 17 := ⟨DX6_fold_c0.2.2.2.2.2.2.2.2.1, rfl⟩
theorem dX6_fold_17 : Dc cX6_fold 17 (.iload_n 1) 1 18 := ⟨DX6_fold_c0.2.2.2.2.2.2.2.2.2.1, rfl⟩
theorem dX6_fold_18 : Dc cX6_fold 18 (.invokevirtual 125) 3 21 := ⟨DX6_fold_c0.2.2.2.2.2.2.2.2.2.2.1, rfl⟩
theorem dX6_fold_21 : Dc cX6_fold 21 (.istore_n 2) 1 22 := ⟨DX6_fold_c0.2.2.2.2.2.2.2.2.2.2.2.1, rfl⟩
theorem dX6_fold_22 : Dc cX6_fold 22 (.iload_n 2) 1 23 := ⟨DX6_fold_c0.2.2.2.2.2.2.2.2.2.2.2.2.1, rfl⟩
theorem dX6_fold_23 : Db cX6_fold 23 (fun o => .ifCond .gt o) 26 29 := ⟨6, DX6_fold_c0.2.2.2.2.2.2.2.2.2.2.2.2.2.1, rfl, rfl⟩
theorem dX6_fold_26 : Dc cX6_fold 26 (.bipush (-4)) 2 28 := ⟨DX6_fold_c0.2.2.2.2.2.2.2.2.2.2.2.2.2.2.1, rfl⟩
theorem dX6_fold_28 : Dc cX6_fold 28 (.ireturn) 1 29 := ⟨DX6_fold_c0.2.2.2.2.2.2.2.2.2.2.2.2.2.2.2, rfl⟩
theorem DX6_fold_c1 : decode cX6_fold 29 = .ok (.aload_n 0, 1) ∧ decode cX6_fold 30 = .ok (.getfield 12, 3) ∧ decode cX6_fold 33 = .ok (.getfield 115, 3) ∧ decode cX6_fold 36 = .ok (.invokevirtual 94, 3) ∧ decode cX6_fold 39 = .ok (.ifCond .eq 6, 3) ∧ decode cX6_fold 42 = .ok (.bipush (-3), 2) ∧ decode cX6_fold 44 = .ok (.ireturn, 1) ∧ decode cX6_fold 45 = .ok (.aload_n 0, 1) ∧ decode cX6_fold 46 = .ok (.getfield 19, 3) ∧ decode cX6_fold 49 = .ok (.aload_n 0, 1) ∧ decode cX6_fold 50 = .ok (.getfield 12, 3) ∧ decode cX6_fold 53 = .ok (.invokevirtual 67, 3) ∧ decode cX6_fold 56 = .ok (.aload_n 0, 1) ∧ decode cX6_fold 57 = .ok (.iload_n 1, 1) ∧ decode cX6_fold 58 = .ok (.iload_n 1, 1) ∧ decode cX6_fold 59 = .ok (.iload_n 2, 1) := by decide +kernel
theorem dX6_fold_29 : Dc cX6_fold 29 (.aload_n 0) 1 30 := ⟨DX6_fold_c1.1, rfl⟩
theorem dX6_fold_30 : Dc cX6_fold 30 (.getfield 12) 3 33 := ⟨DX6_fold_c1.2.1, rfl⟩
theorem dX6_fold_33 : Dc cX6_fold 33 (.getfield 115) 3 36 := ⟨DX6_fold_c1.2.2.1, rfl⟩
theorem dX6_fold_36 : Dc cX6_fold 36 (.invokevirtual 94) 3 39 := ⟨DX6_fold_c1.2.2.2.1, rfl⟩
theorem dX6_fold_39 : Db cX6_fold 39 (fun o => .ifCond .eq o) 42 45 := ⟨6, DX6_fold_c1.2.2.2.2.1, rfl, rfl⟩
theorem dX6_fold_42 : Dc cX6_fold 42 (.bipush (-3)) 2 44 := ⟨DX6_fold_c1.2.2.2.2.2.1, rfl⟩
theorem dX6_fold_44 : Dc cX6_fold 44 (.ireturn) 1 45 := ⟨DX6_fold_c1.2.2.2.2.2.2.1, rfl⟩
theorem dX6_fold_45 : Dc cX6_fold 45 (.aload_n 0) 1 46 := ⟨DX6_fold_c1.2.2.2.2.2.2.2.1, rfl⟩
theorem dX6_fold_46 : Dc cX6_fold 46 (.getfield 19) 3 49 := ⟨DX6_fold_c1.2.2.2.2.2.2.2.2.1, rfl⟩
theorem dX6_fold_49 : Dc cX6_fold 49 (.aload_n 0) 1 50 := ⟨DX6_fold_c1.2.2.2.2.2.2.2.2.2.1, rfl⟩
theorem dX6_fold_50 : Dc cX6_fold 50 (.getfield 12) 3 53 := ⟨DX6_fold_c1.2.2.2.2.2.2.2.2.2.2.1, rfl⟩
theorem dX6_fold_53 : Dc cX6_fold 53 (.invokevirtual 67) 3 56 := ⟨DX6_fold_c1.2.2.2.2.2.2.2.2.2.2.2.1, rfl⟩
theorem dX6_fold_56 : Dc cX6_fold 56 (.aload_n 0) 1 57 := ⟨DX6_fold_c1.2.2.2.2.2.2.2.2.2.2.2.2.1, rfl⟩
theorem dX6_fold_57 : Dc cX6_fold 57 (.iload_n 1) 1 58 := ⟨DX6_fold_c1.2.2.2.2.2.2.2.2.2.2.2.2.2.1, rfl⟩
theorem dX6_fold_58 : Dc cX6_fold 58 (.iload_n 1) 1 59 := ⟨DX6_fold_c1.2.2.2.2.2.2.2.2.2.2.2.2.2.2.1, rfl⟩
theorem dX6_fold_59 : Dc cX6_fold 59 (.iload_n 2) 1 60 := ⟨DX6_fold_c1.2.2.2.2.2.2.2.2.2.2.2.2.2.2.2, rfl⟩
theorem DX6_fold_c2 : decode cX6_fold 60 = .ok (.iload_n 2, 1) ∧ decode cX6_fold 61 = .ok (.aload_n 0, 1) ∧ decode cX6_fold 62 = .ok (.getfield 12, 3) ∧ decode cX6_fold 65 = .ok (.getfield 74, 3) ∧ decode cX6_fold 68 = .ok (.iload_n 1, 1) ∧ decode cX6_fold 69 = .ok (.invokevirtual 118, 3) ∧ decode cX6_fold 72 = .ok (.iload_n 2, 1) ∧ decode cX6_fold 73 = .ok (.idiv, 1) ∧ decode cX6_fold 74 = .ok (.invokevirtual 121, 3) ∧ decode cX6_fold 77 = .ok (.ireturn, 1) := by decide +kernel
theorem dX6_fold_60 : Dc cX6_fold 60 (.iload_n 2) 1 61 := ⟨DX6_fold_c2.1, rfl⟩
theorem dX6_fold_61 : Dc cX6_fold 61 (.aload_n 0) 1 62 := ⟨DX6_fold_c2.2.1, rfl⟩
theorem dX6_fold_62 : Dc cX6_fold 62 (.getfield 12) 3 65 := ⟨DX6_fold_c2.2.2.1, rfl⟩
theorem dX6_fold_65 : Dc cX6_fold 65 (.getfield 74) 3 68 := ⟨DX6_fold_c2.2.2.2.1, rfl⟩
theorem dX6_fold_68 : Dc cX6_fold 68 (.iload_n 1) 1 69 := ⟨DX6_fold_c2.2.2.2.2.1, rfl⟩
theorem dX6_fold_69 : Dc cX6_fold 69 (.invokevirtual 118) 3 72 := ⟨DX6_fold_c2.2.2.2.2.2.1, rfl⟩
theorem dX6_fold_72 : Dc cX6_fold 72 (.iload_n 2) 1 73 := ⟨DX6_fold_c2.2.2.2.2.2.2.1, rfl⟩
theorem dX6_fold_73 : Dc cX6_fold 73 (.idiv) 1 74 := ⟨DX6_fold_c2.2.2.2.2.2.2.2.1, rfl⟩
theorem dX6_fold_74 : Dc cX6_fold 74 (.invokevirtual 121) 3 77 := ⟨DX6_fold_c2.2.2.2.2.2.2.2.2.1, rfl⟩
theorem dX6_fold_77 : Dc cX6_fold 77 (.ireturn) 1 78 := ⟨DX6_fold_c2.2.2.2.2.2.2.2.2.2, rfl⟩
theorem DX6_setTurns_c0 : decode cX6_setTurns 0 = .ok (.aload_n 0, 1) ∧ decode cX6_setTurns 1 = .ok (.getfield 12, 3) ∧ decode cX6_setTurns 4 = .ok (.getfield 115, 3) ∧ decode cX6_setTurns 7 = .ok (.iload_n 1, 1) ∧ decode cX6_setTurns 8 = .ok (.invokevirtual 105, 3) ∧ decode cX6_setTurns 11 = .ok (.ifCond .ne 5, 3) ∧ decode cX6_setTurns 14 = .ok (.iconst (-1), 1) ∧ decode cX6_setTurns 15 = .ok (.ireturn, 1) ∧ decode cX6_setTurns 16 = .ok (.iload_n 2, 1) ∧ decode cX6_setTurns 17 = .ok (.invokestatic 128, 3) ∧ decode cX6_setTurns 20 = .ok (.ifCond .ne 6, 3) ∧ decode cX6_setTurns 23 = .ok (.bipush (-2), 2) ∧ decode cX6_setTurns 25 = .ok (.ireturn, 1) ∧ decode cX6_setTurns 26 = .ok (.aload_n 0, 1) ∧ decode cX6_setTurns 27 = .ok (.getfield 12, 3) ∧ decode cX6_setTurns 30 = .ok (.getfield 115, 3) := by decide +kernel
theorem dX6_setTurns_0 : Dc cX6_setTurns 0 (.aload_n 0) 1 1 := ⟨DX6_setTurns_c0.1, rfl⟩
theorem dX6_setTurns_1 : Dc cX6_setTurns 1 (.getfield 12) 3 4 := ⟨DX6_setTurns_c0.2.1, rfl⟩
theorem dX6_setTurns_4 : Dc cX6_setTurns 4 (.getfield 115) 3 7 := ⟨DX6_setTurns_c0.2.2.1, rfl⟩
theorem dX6_setTurns_7 : Dc cX6_setTurns 7 (.iload_n 1) 1 8 := ⟨DX6_setTurns_c0.2.2.2.1, rfl⟩
theorem dX6_setTurns_8 : Dc cX6_setTurns 8 (.invokevirtual 105) 3 11 := ⟨DX6_setTurns_c0.2.2.2.2.1, rfl⟩
theorem dX6_setTurns_11 : Db cX6_setTurns 11 (fun o => .ifCond .ne o) 14 16 := ⟨5, DX6_setTurns_c0.2.2.2.2.2.1, rfl, rfl⟩
theorem dX6_setTurns_14 : Dc cX6_setTurns 14 (.iconst (-1)) 1 15 := ⟨DX6_setTurns_c0.2.2.2.2.2.2.1, rfl⟩
theorem dX6_setTurns_15 : Dc cX6_setTurns 15 (.ireturn) 1 16 := ⟨DX6_setTurns_c0.2.2.2.2.2.2.2.1, rfl⟩
theorem dX6_setTurns_16 : Dc cX6_setTurns 16 (.iload_n 2) 1 17 := ⟨DX6_setTurns_c0.2.2.2.2.2.2.2.2.1, rfl⟩
theorem dX6_setTurns_17 : Dc cX6_setTurns 17 (.invokestatic 128) 3 20 := ⟨DX6_setTurns_c0.2.2.2.2.2.2.2.2.2.1, rfl⟩
theorem dX6_setTurns_20 : Db cX6_setTurns 20 (fun o => .ifCond .ne o) 23 26 := ⟨6, DX6_setTurns_c0.2.2.2.2.2.2.2.2.2.2.1, rfl, rfl⟩
theorem dX6_setTurns_23 : Dc cX6_setTurns 23 (.bipush (-2)) 2 25 := ⟨DX6_setTurns_c0.2.2.2.2.2.2.2.2.2.2.2.1, rfl⟩
theorem dX6_setTurns_25 : Dc cX6_setTurns 25 (.ireturn) 1 26 := ⟨DX6_setTurns_c0.2.2.2.2.2.2.2.2.2.2.2.2.1, rfl⟩
theorem dX6_setTurns_26 : Dc cX6_setTurns 26 (.aload_n 0) 1 27 := ⟨DX6_setTurns_c0.2.2.2.2.2.2.2.2.2.2.2.2.2.1, rfl⟩
theorem dX6_setTurns_27 : Dc cX6_setTurns 27 (.getfield 12) 3 30 := ⟨DX6_setTurns_c0.2.2.2.2.2.2.2.2.2.2.2.2.2.2.1, rfl⟩
theorem dX6_setTurns_30 : Dc cX6_setTurns 30 (.getfield 115) 3 33 := ⟨DX6_setTurns_c0.2.2.2.2.2.2.2.2.2.2.2.2.2.2.2, rfl⟩
theorem DX6_setTurns_c1 : decode cX6_setTurns 33 = .ok (.iload_n 1, 1) ∧ decode cX6_setTurns 34 = .ok (.invokevirtual 131, 3) ∧ decode cX6_setTurns 37 = .ok (.istore_n 3, 1) ∧ decode cX6_setTurns 38 = .ok (.iload_n 3, 1) ∧ decode cX6_setTurns 39 = .ok (.iload_n 2, 1) ∧ decode cX6_setTurns 40 = .ok (.if_icmp .ne 6, 3) ∧ decode cX6_setTurns 43 = .ok (.bipush (-5), 2) ∧ decode cX6_setTurns 45 = .ok (.ireturn, 1) ∧ decode cX6_setTurns 46 = .ok (.aload_n 0, 1) ∧ decode cX6_setTurns 47 = .ok (.getfield 19, 3) ∧ decode cX6_setTurns 50 = .ok (.aload_n 0, 1) ∧ decode cX6_setTurns 51 = .ok (.getfield 12, 3) ∧ decode cX6_setTurns 54 = .ok (.invokevirtual 67, 3) ∧ decode cX6_setTurns 57 = .ok (.aload_n 0, 1) ∧ decode cX6_setTurns 58 = .ok (.getfield 12, 3) ∧ decode cX6_setTurns 61 = .ok (.getfield 115, 3) := by decide +kernel
theorem dX6_setTurns_33 : Dc cX6_setTurns 33 (.iload_n 1) 1 34 := ⟨DX6_setTurns_c1.1, rfl⟩
theorem dX6_setTurns_34 : Dc cX6_setTurns 34 (.invokevirtual 131) 3 37 := ⟨DX6_setTurns_c1.2.1, rfl⟩
theorem dX6_setTurns_37 : Dc cX6_setTurns 37 (.istore_n 3) 1 38 := ⟨DX6_setTurns_c1.2.2.1, rfl⟩
theorem dX6_setTurns_38 : Dc cX6_setTurns 38 (.iload_n 3) 1 39 := ⟨DX6_setTurns_c1.2.2.2.1, rfl⟩
theorem dX6_setTurns_39 : Dc cX6_setTurns 39 (.iload_n 2) 1 40 := ⟨DX6_setTurns_c1.2.2.2.2.1, rfl⟩
theorem dX6_setTurns_40 : Db cX6_setTurns 40 (fun o => .if_icmp .ne o) 43 46 := ⟨6, DX6_setTurns_c1.2.2.2.2.2.1, rfl, rfl⟩
theorem dX6_setTurns_43 : Dc cX6_setTurns 43 (.bipush (-5)) 2 45 := ⟨DX6_setTurns_c1.2.2.2.2.2.2.1, rfl⟩
theorem dX6_setTurns_45 : Dc cX6_setTurns 45 (.ireturn) 1 46 := ⟨DX6_setTurns_c1.2.2.2.2.2.2.2.1, rfl⟩
theorem dX6_setTurns_46 : Dc cX6_setTurns 46 (.aload_n 0) 1 47 := ⟨DX6_setTurns_c1.2.2.2.2.2.2.2.2.1, rfl⟩
theorem dX6_setTurns_47 : Dc cX6_setTurns 47 (.getfield 19) 3 50 := ⟨DX6_setTurns_c1.2.2.2.2.2.2.2.2.2.1, rfl⟩
theorem dX6_setTurns_50 : Dc cX6_setTurns 50 (.aload_n 0) 1 51 := ⟨DX6_setTurns_c1.2.2.2.2.2.2.2.2.2.2.1, rfl⟩
theorem dX6_setTurns_51 : Dc cX6_setTurns 51 (.getfield 12) 3 54 := ⟨DX6_setTurns_c1.2.2.2.2.2.2.2.2.2.2.2.1, rfl⟩
theorem dX6_setTurns_54 : Dc cX6_setTurns 54 (.invokevirtual 67) 3 57 := ⟨DX6_setTurns_c1.2.2.2.2.2.2.2.2.2.2.2.2.1, rfl⟩
theorem dX6_setTurns_57 : Dc cX6_setTurns 57 (.aload_n 0) 1 58 := ⟨DX6_setTurns_c1.2.2.2.2.2.2.2.2.2.2.2.2.2.1, rfl⟩
theorem dX6_setTurns_58 : Dc cX6_setTurns 58 (.getfield 12) 3 61 := ⟨DX6_setTurns_c1.2.2.2.2.2.2.2.2.2.2.2.2.2.2.1, rfl⟩
theorem dX6_setTurns_61 : Dc cX6_setTurns 61 (.getfield 115) 3 64 := ⟨DX6_setTurns_c1.2.2.2.2.2.2.2.2.2.2.2.2.2.2.2, rfl⟩
theorem DX6_setTurns_c2 : decode cX6_setTurns 64 = .ok (.iload_n 1, 1) ∧ decode cX6_setTurns 65 = .ok (.iload_n 2, 1) ∧ decode cX6_setTurns 66 = .ok (.invokevirtual 134, 3) ∧ decode cX6_setTurns 69 = .ok (.iload_n 3, 1) ∧ decode cX6_setTurns 70 = .ok (.ireturn, 1) := by decide +kernel
theorem dX6_setTurns_64 : Dc cX6_setTurns 64 (.iload_n 1) 1 65 := ⟨DX6_setTurns_c2.1, rfl⟩
theorem dX6_setTurns_65 : Dc cX6_setTurns 65 (.iload_n 2) 1 66 := ⟨DX6_setTurns_c2.2.1, rfl⟩
theorem dX6_setTurns_66 : Dc cX6_setTurns 66 (.invokevirtual 134) 3 69 := ⟨DX6_setTurns_c2.2.2.1, rfl⟩
theorem dX6_setTurns_69 : Dc cX6_setTurns 69 (.iload_n 3) 1 70 := ⟨DX6_setTurns_c2.2.2.2.1, rfl⟩
theorem dX6_setTurns_70 : Dc cX6_setTurns 70 (.ireturn) 1 71 := ⟨DX6_setTurns_c2.2.2.2.2, rfl⟩
theorem DX6_dropLoop_c0 : decode cX6_dropLoop 0 = .ok (.aload_n 0, 1) ∧ decode cX6_dropLoop 1 = .ok (.getfield 12, 3) ∧ decode cX6_dropLoop 4 = .ok (.getfield 115, 3) ∧ decode cX6_dropLoop 7 = .ok (.iload_n 1, 1) ∧ decode cX6_dropLoop 8 = .ok (.invokevirtual 105, 3) ∧ decode cX6_dropLoop 11 = .ok (.ifCond .ne 5, 3) ∧ decode cX6_dropLoop 14 = .ok (.iconst (-1), 1) ∧ decode cX6_dropLoop 15 = .ok (.ireturn, 1) ∧ decode cX6_dropLoop 16 = .ok (.aload_n 0, 1) ∧ decode cX6_dropLoop 17 = .ok (.getfield 19, 3) ∧ decode cX6_dropLoop 20 = .ok (.aload_n 0, 1) ∧ decode cX6_dropLoop 21 = .ok (.getfield 12, 3) ∧ decode cX6_dropLoop 24 = .ok (.invokevirtual 67, 3) ∧ decode cX6_dropLoop 27 = .ok (.aload_n 0, 1) ∧ decode cX6_dropLoop 28 = .ok (.getfield 12, 3) ∧ decode cX6_dropLoop 31 = .ok (.getfield 115, 3) := by decide +kernel
theorem dX6_dropLoop_0 : Dc cX6_dropLoop 0 (.aload_n 0) 1 1 := ⟨DX6_dropLoop_c0.1, rfl⟩
theorem dX6_dropLoop_1 : Dc cX6_dropLoop 1 (.getfield 12) 3 4 := ⟨DX6_dropLoop_c0.2.1, rfl⟩
theorem dX6_dropLoop_4 : Dc cX6_dropLoop 4 (.getfield 115) 3 7 := ⟨DX6_dropLoop_c0.2.2.1, rfl⟩
theorem dX6_dropLoop_7 : Dc cX6_dropLoop 7 (.iload_n 1) 1 8 := ⟨DX6_dropLoop_c0.2.2.2.1, rfl⟩
theorem dX6_dropLoop_8 : Dc cX6_dropLoop 8 (.invokevirtual 105) 3 11 := ⟨DX6_dropLoop_c0.2.2.2.2.1, rfl⟩
theorem dX6_dropLoop_11 : Db cX6_dropLoop 11 (fun o => .ifCond .ne o) 14 16 := ⟨5, DX6_dropLoop_c0.2.2.2.2.2.1, rfl, rfl⟩
theorem dX6_dropLoop_14 : Dc cX6_dropLoop 14 (.iconst (-1)) 1 15 := ⟨DX6_dropLoop_c0.2.2.2.2.2.2.1, rfl⟩
theorem dX6_dropLoop_15 : Dc cX6_dropLoop 15 (.ireturn) 1 16 := ⟨DX6_dropLoop_c0.2.2.2.2.2.2.2.1, rfl⟩
theorem dX6_dropLoop_16 : Dc cX6_dropLoop 16 (.aload_n 0) 1 17 := ⟨DX6_dropLoop_c0.2.2.2.2.2.2.2.2.1, rfl⟩
theorem dX6_dropLoop_17 : Dc cX6_dropLoop 17 (.getfield 19) 3 20 := ⟨DX6_dropLoop_c0.2.2.2.2.2.2.2.2.2.1, rfl⟩
theorem dX6_dropLoop_20 : Dc cX6_dropLoop 20 (.aload_n 0) 1 21 := ⟨DX6_dropLoop_c0.2.2.2.2.2.2.2.2.2.2.1, rfl⟩
theorem dX6_dropLoop_21 : Dc cX6_dropLoop 21 (.getfield 12) 3 24 := ⟨DX6_dropLoop_c0.2.2.2.2.2.2.2.2.2.2.2.1, rfl⟩
theorem dX6_dropLoop_24 : Dc cX6_dropLoop 24 (.invokevirtual 67) 3 27 := ⟨DX6_dropLoop_c0.2.2.2.2.2.2.2.2.2.2.2.2.1, rfl⟩
theorem dX6_dropLoop_27 : Dc cX6_dropLoop 27 (.aload_n 0) 1 28 := ⟨DX6_dropLoop_c0.2.2.2.2.2.2.2.2.2.2.2.2.2.1, rfl⟩
theorem dX6_dropLoop_28 : Dc cX6_dropLoop 28 (.getfield 12) 3 31 := ⟨DX6_dropLoop_c0.2.2.2.2.2.2.2.2.2.2.2.2.2.2.1, rfl⟩
theorem dX6_dropLoop_31 : Dc cX6_dropLoop 31 (.getfield 115) 3 34 := ⟨DX6_dropLoop_c0.2.2.2.2.2.2.2.2.2.2.2.2.2.2.2, rfl⟩
theorem DX6_dropLoop_c1 : decode cX6_dropLoop 34 = .ok (.iload_n 1, 1) ∧ decode cX6_dropLoop 35 = .ok (.invokevirtual 108, 3) ∧ decode cX6_dropLoop 38 = .ok (.aload_n 0, 1) ∧ decode cX6_dropLoop 39 = .ok (.getfield 12, 3) ∧ decode cX6_dropLoop 42 = .ok (.getfield 115, 3) ∧ decode cX6_dropLoop 45 = .ok (.getfield 78, 3) ∧ decode cX6_dropLoop 48 = .ok (.ireturn, 1) := by decide +kernel
theorem dX6_dropLoop_34 : Dc cX6_dropLoop 34 (.iload_n 1) 1 35 := ⟨DX6_dropLoop_c1.1, rfl⟩
theorem dX6_dropLoop_35 : Dc cX6_dropLoop 35 (.invokevirtual 108) 3 38 := ⟨DX6_dropLoop_c1.2.1, rfl⟩
theorem dX6_dropLoop_38 : Dc cX6_dropLoop 38 (.aload_n 0) 1 39 := ⟨DX6_dropLoop_c1.2.2.1, rfl⟩
theorem dX6_dropLoop_39 : Dc cX6_dropLoop 39 (.getfield 12) 3 42 := ⟨DX6_dropLoop_c1.2.2.2.1, rfl⟩
theorem dX6_dropLoop_42 : Dc cX6_dropLoop 42 (.getfield 115) 3 45 := ⟨DX6_dropLoop_c1.2.2.2.2.1, rfl⟩
theorem dX6_dropLoop_45 : Dc cX6_dropLoop 45 (.getfield 78) 3 48 := ⟨DX6_dropLoop_c1.2.2.2.2.2.1, rfl⟩
theorem dX6_dropLoop_48 : Dc cX6_dropLoop 48 (.ireturn) 1 49 := ⟨DX6_dropLoop_c1.2.2.2.2.2.2, rfl⟩
theorem DX6_play_c0 : decode cX6_play 0 = .ok (.aload_n 0, 1) ∧ decode cX6_play 1 = .ok (.getfield 12, 3) ∧ decode cX6_play 4 = .ok (.getfield 115, 3) ∧ decode cX6_play 7 = .ok (.iload_n 1, 1) ∧ decode cX6_play 8 = .ok (.invokevirtual 105, 3) ∧ decode cX6_play 11 = .ok (.ifCond .ne 5, 3) ∧ decode cX6_play 14 = .ok (.iconst (-1), 1) ∧ decode cX6_play 15 = .ok (.ireturn, 1) ∧ decode cX6_play 16 = .ok (.aload_n 0, 1) ∧ decode cX6_play 17 = .ok (.getfield 12, 3) ∧ decode cX6_play 20 = .ok (.getfield 59, 3) ∧ decode cX6_play 23 = .ok (.ifCond .eq 6, 3) ∧ decode cX6_play 26 = .ok (.bipush (-4), 2) ∧ decode cX6_play 28 = .ok (.ireturn, 1) ∧ decode cX6_play 29 = .ok (.aload_n 0, 1) ∧ decode cX6_play 30 = .ok (.getfield 19, 3) := by decide +kernel
theorem dX6_play_0 : Dc cX6_play 0 (.aload_n 0) 1 1 := ⟨DX6_play_c0.1, rfl⟩
theorem dX6_play_1 : Dc cX6_play 1 (.getfield 12) 3 4 := ⟨DX6_play_c0.2.1, rfl⟩
theorem dX6_play_4 : Dc cX6_play 4 (.getfield 115) 3 7 := ⟨DX6_play_c0.2.2.1, rfl⟩
theorem dX6_play_7 : Dc cX6_play 7 (.iload_n 1) 1 8 := ⟨DX6_play_c0.2.2.2.1, rfl⟩
theorem dX6_play_8 : Dc cX6_play 8 (.invokevirtual 105) 3 11 := ⟨DX6_play_c0.2.2.2.2.1, rfl⟩
theorem dX6_play_11 : Db cX6_play 11 (fun o => .ifCond .ne o) 14 16 := ⟨5, DX6_play_c0.2.2.2.2.2.1, rfl, rfl⟩
theorem dX6_play_14 : Dc cX6_play 14 (.iconst (-1)) 1 15 := ⟨DX6_play_c0.2.2.2.2.2.2.1, rfl⟩
theorem dX6_play_15 : Dc cX6_play 15 (.ireturn) 1 16 := ⟨DX6_play_c0.2.2.2.2.2.2.2.1, rfl⟩
theorem dX6_play_16 : Dc cX6_play 16 (.aload_n 0) 1 17 := ⟨DX6_play_c0.2.2.2.2.2.2.2.2.1, rfl⟩
theorem dX6_play_17 : Dc cX6_play 17 (.getfield 12) 3 20 := ⟨DX6_play_c0.2.2.2.2.2.2.2.2.2.1, rfl⟩
theorem dX6_play_20 : Dc cX6_play 20 (.getfield 59) 3 23 := ⟨DX6_play_c0.2.2.2.2.2.2.2.2.2.2.1, rfl⟩
theorem dX6_play_23 : Db cX6_play 23 (fun o => .ifCond .eq o) 26 29 := ⟨6, DX6_play_c0.2.2.2.2.2.2.2.2.2.2.2.1, rfl, rfl⟩
theorem dX6_play_26 : Dc cX6_play 26 (.bipush (-4)) 2 28 := ⟨DX6_play_c0.2.2.2.2.2.2.2.2.2.2.2.2.1, rfl⟩
theorem dX6_play_28 : Dc cX6_play 28 (.ireturn) 1 29 := ⟨DX6_play_c0.2.2.2.2.2.2.2.2.2.2.2.2.2.1, rfl⟩
theorem dX6_play_29 : Dc cX6_play 29 (.aload_n 0) 1 30 := ⟨DX6_play_c0.2.2.2.2.2.2.2.2.2.2.2.2.2.2.1, rfl⟩
theorem dX6_play_30 : Dc cX6_play 30 (.getfield 19) 3 33 := ⟨DX6_play_c0.2.2.2.2.2.2.2.2.2.2.2.2.2.2.2, rfl⟩
theorem DX6_play_c1 : decode cX6_play 33 = .ok (.aload_n 0, 1) ∧ decode cX6_play 34 = .ok (.getfield 12, 3) ∧ decode cX6_play 37 = .ok (.invokevirtual 67, 3) ∧ decode cX6_play 40 = .ok (.aload_n 0, 1) ∧ decode cX6_play 41 = .ok (.getfield 12, 3) ∧ decode cX6_play 44 = .ok (.aload_n 0, 1) ∧ decode cX6_play 45 = .ok (.getfield 36, 3) ∧ decode cX6_play 48 = .ok (.aload_n 0, 1) ∧ decode cX6_play 49 = .ok (.getfield 12, 3) ∧ decode cX6_play 52 = .ok (.getfield 115, 3) ∧ decode cX6_play 55 = .ok (.iload_n 1, 1) ∧ decode cX6_play 56 = .ok (.invokevirtual 138, 3) ∧ decode cX6_play 59 = .ok (.ireturn, 1) := by decide +kernel
theorem dX6_play_33 : Dc cX6_play 33 (.aload_n 0) 1 34 := ⟨DX6_play_c1.1, rfl⟩
theorem dX6_play_34 : Dc cX6_play 34 (.getfield 12) 3 37 := ⟨DX6_play_c1.2.1, rfl⟩
theorem dX6_play_37 : Dc cX6_play 37 (.invokevirtual 67) 3 40 := ⟨DX6_play_c1.2.2.1, rfl⟩
theorem dX6_play_40 : Dc cX6_play 40 (.aload_n 0) 1 41 := ⟨DX6_play_c1.2.2.2.1, rfl⟩
theorem dX6_play_41 : Dc cX6_play 41 (.getfield 12) 3 44 := ⟨DX6_play_c1.2.2.2.2.1, rfl⟩
theorem dX6_play_44 : Dc cX6_play 44 (.aload_n 0) 1 45 := ⟨DX6_play_c1.2.2.2.2.2.1, rfl⟩
theorem dX6_play_45 : Dc cX6_play 45 (.getfield 36) 3 48 := ⟨DX6_play_c1.2.2.2.2.2.2.1, rfl⟩
theorem dX6_play_48 : Dc cX6_play 48 (.aload_n 0) 1 49 := ⟨DX6_play_c1.2.2.2.2.2.2.2.1, rfl⟩
theorem dX6_play_49 : Dc cX6_play 49 (.getfield 12) 3 52 := ⟨DX6_play_c1.2.2.2.2.2.2.2.2.1, rfl⟩
theorem dX6_play_52 : Dc cX6_play 52 (.getfield 115) 3 55 := ⟨DX6_play_c1.2.2.2.2.2.2.2.2.2.1, rfl⟩
theorem dX6_play_55 : Dc cX6_play 55 (.iload_n 1) 1 56 := ⟨DX6_play_c1.2.2.2.2.2.2.2.2.2.2.1, rfl⟩
theorem dX6_play_56 : Dc cX6_play 56 (.invokevirtual 138) 3 59 := ⟨DX6_play_c1.2.2.2.2.2.2.2.2.2.2.2.1, rfl⟩
theorem dX6_play_59 : Dc cX6_play 59 (.ireturn) 1 60 := ⟨DX6_play_c1.2.2.2.2.2.2.2.2.2.2.2.2, rfl⟩
theorem DX6_clearText_c0 : decode cX6_clearText 0 = .ok (.aload_n 0, 1) ∧ decode cX6_clearText 1 = .ok (.getfield 29, 3) ∧ decode cX6_clearText 4 = .ok (.getfield 145, 3) ∧ decode cX6_clearText 7 = .ok (.istore_n 1, 1) ∧ decode cX6_clearText 8 = .ok (.aload_n 0, 1) ∧ decode cX6_clearText 9 = .ok (.getfield 29, 3) ∧ decode cX6_clearText 12 = .ok (.iconst 0, 1) ∧ decode cX6_clearText 13 = .ok (.putfield 145, 3) ∧ decode cX6_clearText 16 = .ok (.iload_n 1, 1) ∧ decode cX6_clearText 17 = .ok (.ireturn, 1) := by decide +kernel
theorem dX6_clearText_0 : Dc cX6_clearText 0 (.aload_n 0) 1 1 := ⟨DX6_clearText_c0.1, rfl⟩
theorem dX6_clearText_1 : Dc cX6_clearText 1 (.getfield 29) 3 4 := ⟨DX6_clearText_c0.2.1, rfl⟩
theorem dX6_clearText_4 : Dc cX6_clearText 4 (.getfield 145) 3 7 := ⟨DX6_clearText_c0.2.2.1, rfl⟩
theorem dX6_clearText_7 : Dc cX6_clearText 7 (.istore_n 1) 1 8 := ⟨DX6_clearText_c0.2.2.2.1, rfl⟩
theorem dX6_clearText_8 : Dc cX6_clearText 8 (.aload_n 0) 1 9 := ⟨DX6_clearText_c0.2.2.2.2.1, rfl⟩
theorem dX6_clearText_9 : Dc cX6_clearText 9 (.getfield 29) 3 12 := ⟨DX6_clearText_c0.2.2.2.2.2.1, rfl⟩
theorem dX6_clearText_12 : Dc cX6_clearText 12 (.iconst 0) 1 13 := ⟨DX6_clearText_c0.2.2.2.2.2.2.1, rfl⟩
theorem dX6_clearText_13 : Dc cX6_clearText 13 (.putfield 145) 3 16 := ⟨DX6_clearText_c0.2.2.2.2.2.2.2.1, rfl⟩
theorem dX6_clearText_16 : Dc cX6_clearText 16 (.iload_n 1) 1 17 := ⟨DX6_clearText_c0.2.2.2.2.2.2.2.2.1, rfl⟩
theorem dX6_clearText_17 : Dc cX6_clearText 17 (.ireturn) 1 18 := ⟨DX6_clearText_c0.2.2.2.2.2.2.2.2.2, rfl⟩
theorem DX6_perform_c0 : decode cX6_perform 0 = .ok (.aload_n 0, 1) ∧ decode cX6_perform 1 = .ok (.getfield 29, 3) ∧ decode cX6_perform 4 = .ok (.invokevirtual 148, 3) ∧ decode cX6_perform 7 = .ok (.ifCond .ne 14, 3) ∧ decode cX6_perform 10 = .ok (.bipush (-100), 2) ∧ decode cX6_perform 12 = .ok (.aload_n 0, 1) ∧ decode cX6_perform 13 = .ok (.getfield 29, 3) ∧ decode cX6_perform 16 = .ok (.getfield 151, 3) ∧ decode cX6_perform 19 = .ok (.isub, 1) ∧ decode cX6_perform 20 = .ok (.ireturn, 1) ∧ decode cX6_perform 21 = .ok (.aload_n 0, 1) ∧ decode cX6_perform 22 = .ok (.getfield 12, 3) ∧ decode cX6_perform 25 = .ok (.getfield 59, 3) ∧ decode cX6_perform 28 = .ok (.ifCond .eq 6, 3) ∧ decode cX6_perform 31 = .ok (.bipush (-4), 2) ∧ decode cX6_perform 33 = .ok (.ireturn, 1) := by decide +kernel
theorem dX6_perform_0 : Dc cX6_perform 0 (.aload_n 0) 1 1 := ⟨DX6_perform_c0.1, rfl⟩
theorem dX6_perform_1 : Dc cX6_perform 1 (.getfield 29) 3 4 := ⟨DX6_perform_c0.2.1, rfl⟩
theorem dX6_perform_4 : Dc cX6_perform 4 (.invokevirtual 148) 3 7 := ⟨DX6_perform_c0.2.2.1, rfl⟩
theorem dX6_perform_7 : Db cX6_perform 7 (fun o => .ifCond .ne o) 10 21 := ⟨14, DX6_perform_c0.2.2.2.1, rfl, rfl⟩
theorem dX6_perform_10 : Dc cX6_perform 10 (.bipush (-100)) 2 12 := ⟨DX6_perform_c0.2.2.2.2.1, rfl⟩
theorem dX6_perform_12 : Dc cX6_perform 12 (.aload_n 0) 1 13 := ⟨DX6_perform_c0.2.2.2.2.2.1, rfl⟩
theorem dX6_perform_13 : Dc cX6_perform 13 (.getfield 29) 3 16 := ⟨DX6_perform_c0.2.2.2.2.2.2.1, rfl⟩
theorem dX6_perform_16 : Dc cX6_perform 16 (.getfield 151) 3 19 := ⟨DX6_perform_c0.2.2.2.2.2.2.2.1, rfl⟩
theorem dX6_perform_19 : Dc cX6_perform 19 (.isub) 1 20 := ⟨DX6_perform_c0.2.2.2.2.2.2.2.2.1, rfl⟩
theorem dX6_perform_20 : Dc cX6_perform 20 (.ireturn) 1 21 := ⟨DX6_perform_c0.2.2.2.2.2.2.2.2.2.1, rfl⟩
theorem dX6_perform_21 : Dc cX6_perform 21 (.aload_n 0) 1 22 := ⟨DX6_perform_c0.2.2.2.2.2.2.2.2.2.2.1, rfl⟩
theorem dX6_perform_22 : Dc cX6_perform 22 (.getfield 12) 3 25 := ⟨DX6_perform_c0.2.2.2.2.2.2.2.2.2.2.2.1, rfl⟩
theorem dX6_perform_25 : Dc cX6_perform 25 (.getfield 59) 3 28 := ⟨DX6_perform_c0.2.2.2.2.2.2.2.2.2.2.2.2.1, rfl⟩
theorem dX6_perform_28 : Db cX6_perform 28 (fun o => .ifCond .eq o) 31 34 := ⟨6, DX6_perform_c0.2.2.2.2.2.2.2.2.2.2.2.2.2.1, rfl, rfl⟩
theorem dX6_perform_31 : Dc cX6_perform 31 (.bipush (-4)) 2 33 := ⟨DX6_perform_c0.2.2.2.2.2.2.2.2.2.2.2.2.2.2.1, rfl⟩
theorem dX6_perform_33 : Dc cX6_perform 33 (.ireturn) 1 34 := ⟨DX6_perform_c0.2.2.2.2.2.2.2.2.2.2.2.2.2.2.2, rfl⟩
theorem DX6_perform_c1 : decode cX6_perform 34 = .ok (.aload_n 0, 1) ∧ decode cX6_perform 35 = .ok (.getfield 19, 3) ∧ decode cX6_perform 38 = .ok (.aload_n 0, 1) ∧ decode cX6_perform 39 = .ok (.getfield 12, 3) ∧ decode cX6_perform 42 = .ok (.invokevirtual 67, 3) ∧ decode cX6_perform 45 = .ok (.aload_n 0, 1) ∧ decode cX6_perform 46 = .ok (.getfield 29, 3) ∧ decode cX6_perform 49 = .ok (.getfield 154, 3) ∧ decode cX6_perform 52 = .ok (.astore_n 1, 1) ∧ decode cX6_perform 53 = .ok (.iconst 0, 1) ∧ decode cX6_perform 54 = .ok (.istore_n 2, 1) ∧ decode cX6_perform 55 = .ok (.iconst 0, 1) ∧ decode cX6_perform 56 = .ok (.istore_n 3, 1) ∧ decode cX6_perform 57 = .ok (.iload_n 3, 1) ∧ decode cX6_perform 58 = .ok (.aload_n 1, 1) ∧ decode cX6_perform 59 = .ok (.getfield 78, 3) := by decide +kernel
theorem dX6_perform_34 : Dc cX6_perform 34 (.aload_n 0) 1 35 := ⟨DX6_perform_c1.1, rfl⟩
theorem dX6_perform_35 : Dc cX6_perform 35 (.getfield 19) 3 38 := ⟨DX6_perform_c1.2.1, rfl⟩
theorem dX6_perform_38 : Dc cX6_perform 38 (.aload_n 0) 1 39 := ⟨DX6_perform_c1.2.2.1, rfl⟩
theorem dX6_perform_39 : Dc cX6_perform 39 (.getfield 12) 3 42 := ⟨DX6_perform_c1.2.2.2.1, rfl⟩
theorem dX6_perform_42 : Dc cX6_perform 42 (.invokevirtual 67) 3 45 := ⟨DX6_perform_c1.2.2.2.2.1, rfl⟩
theorem dX6_perform_45 : Dc cX6_perform 45 (.aload_n 0) 1 46 := ⟨DX6_perform_c1.2.2.2.2.2.1, rfl⟩
theorem dX6_perform_46 : Dc cX6_perform 46 (.getfield 29) 3 49 := ⟨DX6_perform_c1.2.2.2.2.2.2.1, rfl⟩
theorem dX6_perform_49 : Dc cX6_perform 49 (.getfield 154) 3 52 := ⟨DX6_perform_c1.2.2.2.2.2.2.2.1, rfl⟩
theorem dX6_perform_52 : Dc cX6_perform 52 (.astore_n 1) 1 53 := ⟨DX6_perform_c1.2.2.2.2.2.2.2.2.1, rfl⟩
theorem dX6_perform_53 : Dc cX6_perform 53 (.iconst 0) 1 54 := ⟨DX6_perform_c1.2.2.2.2.2.2.2.2.2.1, rfl⟩
theorem dX6_perform_54 : Dc cX6_perform 54 (.istore_n 2) 1 55 := ⟨DX6_perform_c1.2.2.2.2.2.2.2.2.2.2.1, rfl⟩
theorem dX6_perform_55 : Dc cX6_perform 55 (.iconst 0) 1 56 := ⟨DX6_perform_c1.2.2.2.2.2.2.2.2.2.2.2.1, rfl⟩
theorem dX6_perform_56 : Dc cX6_perform 56 (.istore_n 3) 1 57 := ⟨DX6_perform_c1.2.2.2.2.2.2.2.2.2.2.2.2.1, rfl⟩
theorem dX6_perform_57 : Dc cX6_perform 57 (.iload_n 3) 1 58 := ⟨DX6_perform_c1.2.2.2.2.2.2.2.2.2.2.2.2.2.1, rfl⟩
theorem dX6_perform_58 : Dc cX6_perform 58 (.aload_n 1) 1 59 := ⟨DX6_perform_c1.2.2.2.2.2.2.2.2.2.2.2.2.2.2.1, rfl⟩
theorem dX6_perform_59 : Dc cX6_perform 59 (.getfield 78) 3 62 := ⟨DX6_perform_c1.2.2.2.2.2.2.2.2.2.2.2.2.2.2.2, rfl⟩
theorem DX6_perform_c2 : decode cX6_perform 62 = .ok (.if_icmp .ge 59, 3) ∧ decode cX6_perform 65 = .ok (.aload_n 1, 1) ∧ decode cX6_perform 66 = .ok (.iload_n 3, 1) ∧ decode cX6_perform 67 = .ok (.invokevirtual 131, 3) ∧ decode cX6_perform 70 = .ok (.ifCond .le 22, 3) ∧ decode cX6_perform 73 = .ok (.iload_n 2, 1) ∧ decode cX6_perform 74 = .ok (.aload_n 0, 1) ∧ decode cX6_perform 75 = .ok (.getfield 12, 3) ∧ decode cX6_perform 78 = .ok (.aload_n 0, 1) ∧ decode cX6_perform 79 = .ok (.getfield 36, 3) ∧ decode cX6_perform 82 = .ok (.aload_n 1, 1) ∧ decode cX6_perform 83 = .ok (.iload_n 3, 1) ∧ decode cX6_perform 84 = .ok (.invokevirtual 138, 3) ∧ decode cX6_perform 87 = .ok (.iadd, 1) ∧ decode cX6_perform 88 = .ok (.istore_n 2, 1) ∧ decode cX6_perform 89 = .ok (.goto 26, 3) := by decide +kernel
theorem dX6_perform_62 : Db cX6_perform 62 (fun o => .if_icmp .ge o) 65 121 := ⟨59, DX6_perform_c2.1, rfl, rfl⟩
theorem dX6_perform_65 : Dc cX6_perform 65 (.aload_n 1) 1 66 := ⟨DX6_perform_c2.2.1, rfl⟩
theorem dX6_perform_66 : Dc cX6_perform 66 (.iload_n 3) 1 67 := ⟨DX6_perform_c2.2.2.1, rfl⟩
theorem dX6_perform_67 : Dc cX6_perform 67 (.invokevirtual 131) 3 70 := ⟨DX6_perform_c2.2.2.2.1, rfl⟩
theorem dX6_perform_70 : Db cX6_perform 70 (fun o => .ifCond .le o) 73 92 := ⟨22, DX6_perform_c2.2.2.2.2.1, rfl, rfl⟩
theorem dX6_perform_73 : Dc cX6_perform 73 (.iload_n 2) 1 74 := ⟨DX6_perform_c2.2.2.2.2.2.1, rfl⟩
theorem dX6_perform_74 : Dc cX6_perform 74 (.aload_n 0) 1 75 := ⟨DX6_perform_c2.2.2.2.2.2.2.1, rfl⟩
theorem dX6_perform_75 : Dc cX6_perform 75 (.getfield 12) 3 78 := ⟨DX6_perform_c2.2.2.2.2.2.2.2.1, rfl⟩
theorem dX6_perform_78 : Dc cX6_perform 78 (.aload_n 0) 1 79 := ⟨DX6_perform_c2.2.2.2.2.2.2.2.2.1, rfl⟩
theorem dX6_perform_79 : Dc cX6_perform 79 (.getfield 36) 3 82 := ⟨DX6_perform_c2.2.2.2.2.2.2.2.2.2.1, rfl⟩
theorem dX6_perform_82 : Dc cX6_perform 82 (.aload_n 1) 1 83 := ⟨DX6_perform_c2.2.2.2.2.2.2.2.2.2.2.1, rfl⟩
theorem dX6_perform_83 : Dc cX6_perform 83 (.iload_n 3) 1 84 := ⟨DX6_perform_c2.2.2.2.2.2.2.2.2.2.2.2.1, rfl⟩
theorem dX6_perform_84 : Dc cX6_perform 84 (.invokevirtual 138) 3 87 := ⟨DX6_perform_c2.2.2.2.2.2.2.2.2.2.2.2.2.1, rfl⟩
theorem dX6_perform_87 : Dc cX6_perform 87 (.iadd) 1 88 := ⟨DX6_perform_c2.2.2.2.2.2.2.2.2.2.2.2.2.2.1, rfl⟩
theorem dX6_perform_88 : Dc cX6_perform 88 (.istore_n 2) 1 89 := ⟨DX6_perform_c2.2.2.2.2.2.2.2.2.2.2.2.2.2.2.1, rfl⟩
theorem dX6_perform_89 : Db cX6_perform 89 .goto 92 115 := ⟨26, DX6_perform_c2.2.2.2.2.2.2.2.2.2.2.2.2.2.2.2, rfl, rfl⟩
theorem DX6_perform_c3 : decode cX6_perform 92 = .ok (.aload_n 0, 1) ∧ decode cX6_perform 93 = .ok (.getfield 12, 3) ∧ decode cX6_perform 96 = .ok (.aload_n 1, 1) ∧ decode cX6_perform 97 = .ok (.iload_n 3, 1) ∧ decode cX6_perform 98 = .ok (.iconst 0, 1) ∧ decode cX6_perform 99 = .ok (.invokevirtual 157, 3) ∧ decode cX6_perform 102 = .ok (.aload_n 1, 1) ∧ decode cX6_perform 103 = .ok (.iload_n 3, 1) ∧ decode cX6_perform 104 = .ok (.iconst 0, 1) ∧ decode cX6_perform 105 = .ok (.invokevirtual 161, 3) ∧ decode cX6_perform 108 = .ok (.invokevirtual 71, 3) ∧ decode cX6_perform 111 = .ok (.pop, 1) ∧ decode cX6_perform 112 = .ok (.iinc 2 1, 3) ∧ decode cX6_perform 115 = .ok (.iinc 3 1, 3) ∧ decode cX6_perform 118 = .ok (.goto (-61), 3) ∧ decode cX6_perform 121 = .ok (.iload_n 2, 1) := by decide +kernel
theorem dX6_perform_92 : Dc cX6_perform 92 (.aload_n 0) 1 93 := ⟨DX6_perform_c3.1, rfl⟩
theorem dX6_perform_93 : Dc cX6_perform 93 (.getfield 12) 3 96 := ⟨DX6_perform_c3.2.1, rfl⟩
theorem dX6_perform_96 : Dc cX6_perform 96 (.aload_n 1) 1 97 := ⟨DX6_perform_c3.2.2.1, rfl⟩
theorem dX6_perform_97 : Dc cX6_perform 97 (.iload_n 3) 1 98 := ⟨DX6_perform_c3.2.2.2.1, rfl⟩
theorem dX6_perform_98 : Dc cX6_perform 98 (.iconst 0) 1 99 := ⟨DX6_perform_c3.2.2.2.2.1, rfl⟩
theorem dX6_perform_99 : Dc cX6_perform 99 (.invokevirtual 157) 3 102 := ⟨DX6_perform_c3.2.2.2.2.2.1, rfl⟩
theorem dX6_perform_102 : Dc cX6_perform 102 (.aload_n 1) 1 103 := ⟨DX6_perform_c3.2.2.2.2.2.2.1, rfl⟩
theorem dX6_perform_103 : Dc cX6_perform 103 (.iload_n 3) 1 104 := ⟨DX6_perform_c3.2.2.2.2.2.2.2.1, rfl⟩
theorem dX6_perform_104 : Dc cX6_perform 104 (.iconst 0) 1 105 := ⟨DX6_perform_c3.2.2.2.2.2.2.2.2.1, rfl⟩
theorem dX6_perform_105 : Dc cX6_perform 105 (.invokevirtual 161) 3 108 := ⟨DX6_perform_c3.2.2.2.2.2.2.2.2.2.1, rfl⟩
theorem dX6_perform_108 : Dc cX6_perform 108 (.invokevirtual 71) 3 111 := ⟨DX6_perform_c3.2.2.2.2.2.2.2.2.2.2.1, rfl⟩
theorem dX6_perform_111 : Dc cX6_perform 111 (.pop) 1 112 := ⟨DX6_perform_c3.2.2.2.2.2.2.2.2.2.2.2.1, rfl⟩
theorem dX6_perform_112 : Dc cX6_perform 112 (.iinc 2 1) 3 115 := ⟨DX6_perform_c3.2.2.2.2.2.2.2.2.2.2.2.2.1, rfl⟩
theorem dX6_perform_115 : Dc cX6_perform 115 (.iinc 3 1) 3 118 := ⟨DX6_perform_c3.2.2.2.2.2.2.2.2.2.2.2.2.2.1, rfl⟩
theorem dX6_perform_118 : Db cX6_perform 118 .goto 121 57 := ⟨-61, DX6_perform_c3.2.2.2.2.2.2.2.2.2.2.2.2.2.2.1, rfl, rfl⟩
theorem dX6_perform_121 : Dc cX6_perform 121 (.iload_n 2) 1 122 := ⟨DX6_perform_c3.2.2.2.2.2.2.2.2.2.2.2.2.2.2.2, rfl⟩
theorem DX6_perform_c4 : decode cX6_perform 122 = .ok (.ireturn, 1) := by decide +kernel
theorem dX6_perform_122 : Dc cX6_perform 122 (.ireturn) 1 123 := ⟨DX6_perform_c4, rfl⟩
theorem DX6_undo_c0 : decode cX6_undo 0 = .ok (.aload_n 0, 1) ∧ decode cX6_undo 1 = .ok (.getfield 19, 3) ∧ decode cX6_undo 4 = .ok (.aload_n 0, 1) ∧ decode cX6_undo 5 = .ok (.getfield 12, 3) ∧ decode cX6_undo 8 = .ok (.invokevirtual 164, 3) ∧ decode cX6_undo 11 = .ok (.ifCond .eq 13, 3) ∧ decode cX6_undo 14 = .ok (.aload_n 0, 1) ∧ decode cX6_undo 15 = .ok (.getfield 19, 3) ∧ decode cX6_undo 18 = .ok (.getfield 168, 3) ∧ decode cX6_undo 21 = .ok (.goto 5, 3) ∧ decode cX6_undo 24 = .ok (.bipush (-5), 2) ∧ decode cX6_undo 26 = .ok (.ireturn, 1) := by decide +kernel
theorem dX6_undo_0 : Dc cX6_undo 0 (.aload_n 0) 1 1 := ⟨DX6_undo_c0.1, rfl⟩
theorem dX6_undo_1 : Dc cX6_undo 1 (.getfield 19) 3 4 := ⟨DX6_undo_c0.2.1, rfl⟩
theorem dX6_undo_4 : Dc cX6_undo 4 (.aload_n 0) 1 5 := ⟨DX6_undo_c0.2.2.1, rfl⟩
theorem dX6_undo_5 : Dc cX6_undo 5 (.getfield 12) 3 8 := ⟨DX6_undo_c0.2.2.2.1, rfl⟩
theorem dX6_undo_8 : Dc cX6_undo 8 (.invokevirtual 164) 3 11 := ⟨DX6_undo_c0.2.2.2.2.1, rfl⟩
theorem dX6_undo_11 : Db cX6_undo 11 (fun o => .ifCond .eq o) 14 24 := ⟨13, DX6_undo_c0.2.2.2.2.2.1, rfl, rfl⟩
theorem dX6_undo_14 : Dc cX6_undo 14 (.aload_n 0) 1 15 := ⟨DX6_undo_c0.2.2.2.2.2.2.1, rfl⟩
theorem dX6_undo_15 : Dc cX6_undo 15 (.getfield 19) 3 18 := ⟨DX6_undo_c0.2.2.2.2.2.2.2.1, rfl⟩
theorem dX6_undo_18 : Dc cX6_undo 18 (.getfield 168) 3 21 := ⟨DX6_undo_c0.2.2.2.2.2.2.2.2.1, rfl⟩
theorem dX6_undo_21 : Db cX6_undo 21 .goto 24 26 := ⟨5, DX6_undo_c0.2.2.2.2.2.2.2.2.2.1, rfl, rfl⟩
theorem dX6_undo_24 : Dc cX6_undo 24 (.bipush (-5)) 2 26 := ⟨DX6_undo_c0.2.2.2.2.2.2.2.2.2.2.1, rfl⟩
theorem dX6_undo_26 : Dc cX6_undo 26 (.ireturn) 1 27 := ⟨DX6_undo_c0.2.2.2.2.2.2.2.2.2.2.2, rfl⟩
theorem DX6_keep_c0 : decode cX6_keep 0 = .ok (.aload_n 0, 1) ∧ decode cX6_keep 1 = .ok (.getfield 23, 3) ∧ decode cX6_keep 4 = .ok (.aload_n 0, 1) ∧ decode cX6_keep 5 = .ok (.getfield 12, 3) ∧ decode cX6_keep 8 = .ok (.invokevirtual 169, 3) ∧ decode cX6_keep 11 = .ok (.aload_n 0, 1) ∧ decode cX6_keep 12 = .ok (.iconst 1, 1) ∧ decode cX6_keep 13 = .ok (.putfield 172, 3) ∧ decode cX6_keep 16 = .ok (.aload_n 0, 1) ∧ decode cX6_keep 17 = .ok (.getfield 12, 3) ∧ decode cX6_keep 20 = .ok (.getfield 74, 3) ∧ decode cX6_keep 23 = .ok (.getfield 78, 3) ∧ decode cX6_keep 26 = .ok (.ireturn, 1) := by decide +kernel
theorem dX6_keep_0 : Dc cX6_keep 0 (.aload_n 0) 1 1 := ⟨DX6_keep_c0.1, rfl⟩
theorem dX6_keep_1 : Dc cX6_keep 1 (.getfield 23) 3 4 := ⟨DX6_keep_c0.2.1, rfl⟩
theorem dX6_keep_4 : Dc cX6_keep 4 (.aload_n 0) 1 5 := ⟨DX6_keep_c0.2.2.1, rfl⟩
theorem dX6_keep_5 : Dc cX6_keep 5 (.getfield 12) 3 8 := ⟨DX6_keep_c0.2.2.2.1, rfl⟩
theorem dX6_keep_8 : Dc cX6_keep 8 (.invokevirtual 169) 3 11 := ⟨DX6_keep_c0.2.2.2.2.1, rfl⟩
theorem dX6_keep_11 : Dc cX6_keep 11 (.aload_n 0) 1 12 := ⟨DX6_keep_c0.2.2.2.2.2.1, rfl⟩
theorem dX6_keep_12 : Dc cX6_keep 12 (.iconst 1) 1 13 := ⟨DX6_keep_c0.2.2.2.2.2.2.1, rfl⟩
theorem dX6_keep_13 : Dc cX6_keep 13 (.putfield 172) 3 16 := ⟨DX6_keep_c0.2.2.2.2.2.2.2.1, rfl⟩
theorem dX6_keep_16 : Dc cX6_keep 16 (.aload_n 0) 1 17 := ⟨DX6_keep_c0.2.2.2.2.2.2.2.2.1, rfl⟩
theorem dX6_keep_17 : Dc cX6_keep 17 (.getfield 12) 3 20 := ⟨DX6_keep_c0.2.2.2.2.2.2.2.2.2.1, rfl⟩
theorem dX6_keep_20 : Dc cX6_keep 20 (.getfield 74) 3 23 := ⟨DX6_keep_c0.2.2.2.2.2.2.2.2.2.2.1, rfl⟩
theorem dX6_keep_23 : Dc cX6_keep 23 (.getfield 78) 3 26 := ⟨DX6_keep_c0.2.2.2.2.2.2.2.2.2.2.2.1, rfl⟩
theorem dX6_keep_26 : Dc cX6_keep 26 (.ireturn) 1 27 := ⟨DX6_keep_c0.2.2.2.2.2.2.2.2.2.2.2.2, rfl⟩
theorem DX6_restore_c0 : decode cX6_restore 0 = .ok (.aload_n 0, 1) ∧ decode cX6_restore 1 = .ok (.getfield 172, 3) ∧ decode cX6_restore 4 = .ok (.ifCond .ne 6, 3) ∧ decode cX6_restore 7 = .ok (.bipush (-5), 2) ∧ decode cX6_restore 9 = .ok (.ireturn, 1) ∧ decode cX6_restore 10 = .ok (.aload_n 0, 1) ∧ decode cX6_restore 11 = .ok (.getfield 19, 3) ∧ decode cX6_restore 14 = .ok (.aload_n 0, 1) ∧ decode cX6_restore 15 = .ok (.getfield 12, 3) ∧ decode cX6_restore 18 = .ok (.invokevirtual 67, 3) ∧ decode cX6_restore 21 = .ok (.aload_n 0, 1) ∧ decode cX6_restore 22 = .ok (.getfield 12, 3) ∧ decode cX6_restore 25 = .ok (.aload_n 0, 1) ∧ decode cX6_restore 26 = .ok (.getfield 23, 3) ∧ decode cX6_restore 29 = .ok (.invokevirtual 169, 3) ∧ decode cX6_restore 32 = .ok (.aload_n 0, 1) := by decide +kernel
theorem dX6_restore_0 : Dc cX6_restore 0 (.aload_n 0) 1 1 := ⟨DX6_restore_c0.1, rfl⟩
theorem dX6_restore_1 : Dc cX6_restore 1 (.getfield 172) 3 4 := ⟨DX6_restore_c0.2.1, rfl⟩
theorem dX6_restore_4 : Db cX6_restore 4 (fun o => .ifCond .ne o) 7 10 := ⟨6, DX6_restore_c0.2.2.1, rfl, rfl⟩
theorem dX6_restore_7 : Dc cX6_restore 7 (.bipush (-5)) 2 9 := ⟨DX6_restore_c0.2.2.2.1, rfl⟩
theorem dX6_restore_9 : Dc cX6_restore 9 (.ireturn) 1 10 := ⟨DX6_restore_c0.2.2.2.2.1, rfl⟩
theorem dX6_restore_10 : Dc cX6_restore 10 (.aload_n 0) 1 11 := ⟨DX6_restore_c0.2.2.2.2.2.1, rfl⟩
theorem dX6_restore_11 : Dc cX6_restore 11 (.getfield 19) 3 14 := ⟨DX6_restore_c0.2.2.2.2.2.2.1, rfl⟩
theorem dX6_restore_14 : Dc cX6_restore 14 (.aload_n 0) 1 15 := ⟨DX6_restore_c0.2.2.2.2.2.2.2.1, rfl⟩
theorem dX6_restore_15 : Dc cX6_restore 15 (.getfield 12) 3 18 := ⟨DX6_restore_c0.2.2.2.2.2.2.2.2.1, rfl⟩
theorem dX6_restore_18 : Dc cX6_restore 18 (.invokevirtual 67) 3 21 := ⟨DX6_restore_c0.2.2.2.2.2.2.2.2.2.1, rfl⟩
theorem dX6_restore_21 : Dc cX6_restore 21 (.aload_n 0) 1 22 := ⟨DX6_restore_c0.2.2.2.2.2.2.2.2.2.2.1, rfl⟩
theorem dX6_restore_22 : Dc cX6_restore 22 (.getfield 12) 3 25 := ⟨DX6_restore_c0.2.2.2.2.2.2.2.2.2.2.2.1, rfl⟩
theorem dX6_restore_25 : Dc cX6_restore 25 (.aload_n 0) 1 26 := ⟨DX6_restore_c0.2.2.2.2.2.2.2.2.2.2.2.2.1, rfl⟩
theorem dX6_restore_26 : Dc cX6_restore 26 (.getfield 23) 3 29 := ⟨DX6_restore_c0.2.2.2.2.2.2.2.2.2.2.2.2.2.1, rfl⟩
theorem dX6_restore_29 : Dc cX6_restore 29 (.invokevirtual 169) 3 32 := ⟨DX6_restore_c0.2.2.2.2.2.2.2.2.2.2.2.2.2.2.1, rfl⟩
theorem dX6_restore_32 : Dc cX6_restore 32 (.aload_n 0) 1 33 := ⟨DX6_restore_c0.2.2.2.2.2.2.2.2.2.2.2.2.2.2.2, rfl⟩
theorem DX6_restore_c1 : decode cX6_restore 33 = .ok (.getfield 12, 3) ∧ decode cX6_restore 36 = .ok (.getfield 74, 3) ∧ decode cX6_restore 39 = .ok (.getfield 78, 3) ∧ decode cX6_restore 42 = .ok (.ireturn, 1) := by decide +kernel
theorem dX6_restore_33 : Dc cX6_restore 33 (.getfield 12) 3 36 := ⟨DX6_restore_c1.1, rfl⟩
theorem dX6_restore_36 : Dc cX6_restore 36 (.getfield 74) 3 39 := ⟨DX6_restore_c1.2.1, rfl⟩
theorem dX6_restore_39 : Dc cX6_restore 39 (.getfield 78) 3 42 := ⟨DX6_restore_c1.2.2.1, rfl⟩
theorem dX6_restore_42 : Dc cX6_restore 42 (.ireturn) 1 43 := ⟨DX6_restore_c1.2.2.2, rfl⟩
theorem DX6_cell_c0 : decode cX6_cell 0 = .ok (.iload_n 1, 1) ∧ decode cX6_cell 1 = .ok (.invokestatic 175, 3) ∧ decode cX6_cell 4 = .ok (.ifCond .eq 17, 3) ∧ decode cX6_cell 7 = .ok (.aload_n 0, 1) ∧ decode cX6_cell 8 = .ok (.getfield 12, 3) ∧ decode cX6_cell 11 = .ok (.getfield 88, 3) ∧ decode cX6_cell 14 = .ok (.iload_n 1, 1) ∧ decode cX6_cell 15 = .ok (.invokevirtual 178, 3) ∧ decode cX6_cell 18 = .ok (.goto 4, 3) ∧ decode cX6_cell 21 = .ok (.iconst (-1), 1) ∧ decode cX6_cell 22 = .ok (.ireturn, 1) := by decide +kernel
theorem dX6_cell_0 : Dc cX6_cell 0 (.iload_n 1) 1 1 := ⟨DX6_cell_c0.1, rfl⟩
theorem dX6_cell_1 : Dc cX6_cell 1 (.invokestatic 175) 3 4 := ⟨DX6_cell_c0.2.1, rfl⟩
theorem dX6_cell_4 : Db cX6_cell 4 (fun o => .ifCond .eq o) 7 21 := ⟨17, DX6_cell_c0.2.2.1, rfl, rfl⟩
theorem dX6_cell_7 : Dc cX6_cell 7 (.aload_n 0) 1 8 := ⟨DX6_cell_c0.2.2.2.1, rfl⟩
theorem dX6_cell_8 : Dc cX6_cell 8 (.getfield 12) 3 11 := ⟨DX6_cell_c0.2.2.2.2.1, rfl⟩
theorem dX6_cell_11 : Dc cX6_cell 11 (.getfield 88) 3 14 := ⟨DX6_cell_c0.2.2.2.2.2.1, rfl⟩
theorem dX6_cell_14 : Dc cX6_cell 14 (.iload_n 1) 1 15 := ⟨DX6_cell_c0.2.2.2.2.2.2.1, rfl⟩
theorem dX6_cell_15 : Dc cX6_cell 15 (.invokevirtual 178) 3 18 := ⟨DX6_cell_c0.2.2.2.2.2.2.2.1, rfl⟩
theorem dX6_cell_18 : Db cX6_cell 18 .goto 21 22 := ⟨4, DX6_cell_c0.2.2.2.2.2.2.2.2.1, rfl, rfl⟩
theorem dX6_cell_21 : Dc cX6_cell 21 (.iconst (-1)) 1 22 := ⟨DX6_cell_c0.2.2.2.2.2.2.2.2.2.1, rfl⟩
theorem dX6_cell_22 : Dc cX6_cell 22 (.ireturn) 1 23 := ⟨DX6_cell_c0.2.2.2.2.2.2.2.2.2.2, rfl⟩
theorem DX6_ofTry_c0 : decode cX6_ofTry 0 = .ok (.aload_n 0, 1) ∧ decode cX6_ofTry 1 = .ok (.getfield 12, 3) ∧ decode cX6_ofTry 4 = .ok (.getfield 59, 3) ∧ decode cX6_ofTry 7 = .ok (.ifCond .eq 21, 3) ∧ decode cX6_ofTry 10 = .ok (.iload_n 1, 1) ∧ decode cX6_ofTry 11 = .ok (.aload_n 0, 1) ∧ decode cX6_ofTry 12 = .ok (.getfield 12, 3) ∧ decode cX6_ofTry 15 = .ok (.getfield 74, 3) ∧ decode cX6_ofTry 18 = .ok (.getfield 78, 3) ∧ decode cX6_ofTry 21 = .ok (.if_icmp .ne 7, 3) ∧ decode cX6_ofTry 24 = .ok (.iconst 1, 1) ∧ decode cX6_ofTry 25 = .ok (.goto 4, 3) ∧ decode cX6_ofTry 28 = .ok (.iconst 0, 1) ∧ decode cX6_ofTry 29 = .ok (.istore 4, 2) ∧ decode cX6_ofTry 31 = .ok (.iload 4, 2) ∧ decode cX6_ofTry 33 = .ok (.ifCond .ne 19, 3) := by decide +kernel
theorem dX6_ofTry_0 : Dc cX6_ofTry 0 (.aload_n 0) 1 1 := ⟨DX6_ofTry_c0.1, rfl⟩
theorem dX6_ofTry_1 : Dc cX6_ofTry 1 (.getfield 12) 3 4 := ⟨DX6_ofTry_c0.2.1, rfl⟩
theorem dX6_ofTry_4 : Dc cX6_ofTry 4 (.getfield 59) 3 7 := ⟨DX6_ofTry_c0.2.2.1, rfl⟩
theorem dX6_ofTry_7 : Db cX6_ofTry 7 (fun o => .ifCond .eq o) 10 28 := ⟨21, DX6_ofTry_c0.2.2.2.1, rfl, rfl⟩
theorem dX6_ofTry_10 : Dc cX6_ofTry 10 (.iload_n 1) 1 11 := ⟨DX6_ofTry_c0.2.2.2.2.1, rfl⟩
theorem dX6_ofTry_11 : Dc cX6_ofTry 11 (.aload_n 0) 1 12 := ⟨DX6_ofTry_c0.2.2.2.2.2.1, rfl⟩
theorem dX6_ofTry_12 : Dc cX6_ofTry 12 (.getfield 12) 3 15 := ⟨DX6_ofTry_c0.2.2.2.2.2.2.1, rfl⟩
theorem dX6_ofTry_15 : Dc cX6_ofTry 15 (.getfield 74) 3 18 := ⟨DX6_ofTry_c0.2.2.2.2.2.2.2.1, rfl⟩
theorem dX6_ofTry_18 : Dc cX6_ofTry 18 (.getfield 78) 3 21 := ⟨DX6_ofTry_c0.2.2.2.2.2.2.2.2.1, rfl⟩
theorem dX6_ofTry_21 : Db cX6_ofTry 21 (fun o => .if_icmp .ne o) 24 28 := ⟨7, DX6_ofTry_c0.2.2.2.2.2.2.2.2.2.1, rfl, rfl⟩
theorem dX6_ofTry_24 : Dc cX6_ofTry 24 (.iconst 1) 1 25 := ⟨DX6_ofTry_c0.2.2.2.2.2.2.2.2.2.2.1, rfl⟩
theorem dX6_ofTry_25 : Db cX6_ofTry 25 .goto 28 29 := ⟨4, DX6_ofTry_c0.2.2.2.2.2.2.2.2.2.2.2.1, rfl, rfl⟩
theorem dX6_ofTry_28 : Dc cX6_ofTry 28 (.iconst 0) 1 29 := ⟨DX6_ofTry_c0.2.2.2.2.2.2.2.2.2.2.2.2.1, rfl⟩
theorem dX6_ofTry_29 : Dc cX6_ofTry 29 (.istore 4) 2 31 := ⟨DX6_ofTry_c0.2.2.2.2.2.2.2.2.2.2.2.2.2.1, rfl⟩
theorem dX6_ofTry_31 : Dc cX6_ofTry 31 (.iload 4) 2 33 := ⟨DX6_ofTry_c0.2.2.2.2.2.2.2.2.2.2.2.2.2.2.1, rfl⟩
theorem dX6_ofTry_33 : Db cX6_ofTry 33 (fun o => .ifCond .ne o) 36 52 := ⟨19, DX6_ofTry_c0.2.2.2.2.2.2.2.2.2.2.2.2.2.2.2, rfl, rfl⟩
theorem DX6_ofTry_c1 : decode cX6_ofTry 36 = .ok (.aload_n 0, 1) ∧ decode cX6_ofTry 37 = .ok (.getfield 12, 3) ∧ decode cX6_ofTry 40 = .ok (.getfield 74, 3) ∧ decode cX6_ofTry 43 = .ok (.iload_n 1, 1) ∧ decode cX6_ofTry 44 = .ok (.invokevirtual 105, 3) ∧ decode cX6_ofTry 47 = .ok (.ifCond .ne 5, 3) ∧ decode cX6_ofTry 50 = .ok (.iconst (-1), 1) ∧ decode cX6_ofTry 51 = .ok (.ireturn, 1) ∧ decode cX6_ofTry 52 = .ok (.aload_n 0, 1) ∧ decode cX6_ofTry 53 = .ok (.getfield 12, 3) ∧ decode cX6_ofTry 56 = .ok (.getfield 74, 3) ∧ decode cX6_ofTry 59 = .ok (.iload_n 1, 1) ∧ decode cX6_ofTry 60 = .ok (.iload_n 2, 1) ∧ decode cX6_ofTry 61 = .ok (.invokevirtual 181, 3) ∧ decode cX6_ofTry 64 = .ok (.ifCond .ne 5, 3) ∧ decode cX6_ofTry 67 = .ok (.iconst (-1), 1) := by decide +kernel
theorem dX6_ofTry_36 : Dc cX6_ofTry 36 (.aload_n 0) 1 37 := ⟨DX6_ofTry_c1.1, rfl⟩
theorem dX6_ofTry_37 : Dc cX6_ofTry 37 (.getfield 12) 3 40 := ⟨DX6_ofTry_c1.2.1, rfl⟩
theorem dX6_ofTry_40 : Dc cX6_ofTry 40 (.getfield 74) 3 43 := ⟨DX6_ofTry_c1.2.2.1, rfl⟩
theorem dX6_ofTry_43 : Dc cX6_ofTry 43 (.iload_n 1) 1 44 := ⟨DX6_ofTry_c1.2.2.2.1, rfl⟩
theorem dX6_ofTry_44 : Dc cX6_ofTry 44 (.invokevirtual 105) 3 47 := ⟨DX6_ofTry_c1.2.2.2.2.1, rfl⟩
theorem dX6_ofTry_47 : Db cX6_ofTry 47 (fun o => .ifCond .ne o) 50 52 := ⟨5, DX6_ofTry_c1.2.2.2.2.2.1, rfl, rfl⟩
theorem dX6_ofTry_50 : Dc cX6_ofTry 50 (.iconst (-1)) 1 51 := ⟨DX6_ofTry_c1.2.2.2.2.2.2.1, rfl⟩
theorem dX6_ofTry_51 : Dc cX6_ofTry 51 (.ireturn) 1 52 := ⟨DX6_ofTry_c1.2.2.2.2.2.2.2.1, rfl⟩
theorem dX6_ofTry_52 : Dc cX6_ofTry 52 (.aload_n 0) 1 53 := ⟨DX6_ofTry_c1.2.2.2.2.2.2.2.2.1, rfl⟩
theorem dX6_ofTry_53 : Dc cX6_ofTry 53 (.getfield 12) 3 56 := ⟨DX6_ofTry_c1.2.2.2.2.2.2.2.2.2.1, rfl⟩
theorem dX6_ofTry_56 : Dc cX6_ofTry 56 (.getfield 74) 3 59 := ⟨DX6_ofTry_c1.2.2.2.2.2.2.2.2.2.2.1, rfl⟩
theorem dX6_ofTry_59 : Dc cX6_ofTry 59 (.iload_n 1) 1 60 := ⟨DX6_ofTry_c1.2.2.2.2.2.2.2.2.2.2.2.1, rfl⟩
theorem dX6_ofTry_60 : Dc cX6_ofTry 60 (.iload_n 2) 1 61 := ⟨DX6_ofTry_c1.2.2.2.2.2.2.2.2.2.2.2.2.1, rfl⟩
theorem dX6_ofTry_61 : Dc cX6_ofTry 61 (.invokevirtual 181) 3 64 := ⟨DX6_ofTry_c1.2.2.2.2.2.2.2.2.2.2.2.2.2.1, rfl⟩
theorem dX6_ofTry_64 : Db cX6_ofTry 64 (fun o => .ifCond .ne o) 67 69 := ⟨5, DX6_ofTry_c1.2.2.2.2.2.2.2.2.2.2.2.2.2.2.1, rfl, rfl⟩
theorem dX6_ofTry_67 : Dc cX6_ofTry 67 (.iconst (-1)) 1 68 := ⟨DX6_ofTry_c1.2.2.2.2.2.2.2.2.2.2.2.2.2.2.2, rfl⟩
theorem DX6_ofTry_c2 : decode cX6_ofTry 68 = .ok (.ireturn, 1) ∧ decode cX6_ofTry 69 = .ok (.iload_n 3, 1) ∧ decode cX6_ofTry 70 = .ok (.lookupswitch 52 #[(0, 26), (1, 39)], 26) ∧ decode cX6_ofTry 96 = .ok (.aload_n 0, 1) ∧ decode cX6_ofTry 97 = .ok (.getfield 12, 3) ∧ decode cX6_ofTry 100 = .ok (.getfield 74, 3) ∧ decode cX6_ofTry 103 = .ok (.iload_n 1, 1) ∧ decode cX6_ofTry 104 = .ok (.iload_n 2, 1) ∧ decode cX6_ofTry 105 = .ok (.invokevirtual 157, 3) ∧ decode cX6_ofTry 108 = .ok (.ireturn, 1) ∧ decode cX6_ofTry 109 = .ok (.aload_n 0, 1) ∧ decode cX6_ofTry 110 = .ok (.getfield 12, 3) ∧ decode cX6_ofTry 113 = .ok (.getfield 74, 3) ∧ decode cX6_ofTry 116 = .ok (.iload_n 1, 1) ∧ decode cX6_ofTry 117 = .ok (.iload_n 2, 1) ∧ decode cX6_ofTry 118 = .ok (.invokevirtual 161, 3) := by decide +kernel
theorem dX6_ofTry_68 : Dc cX6_ofTry 68 (.ireturn) 1 69 := ⟨DX6_ofTry_c2.1, rfl⟩
theorem dX6_ofTry_69 : Dc cX6_ofTry 69 (.iload_n 3) 1 70 := ⟨DX6_ofTry_c2.2.1, rfl⟩
theorem dX6_ofTry_70 : decode cX6_ofTry 70 = .ok (.lookupswitch 52 #[(0, 26), (1, 39)], 26) := DX6_ofTry_c2.2.2.1
theorem dX6_ofTry_96 : Dc cX6_ofTry 96 (.aload_n 0) 1 97 := ⟨DX6_ofTry_c2.2.2.2.1, rfl⟩
theorem dX6_ofTry_97 : Dc cX6_ofTry 97 (.getfield 12) 3 100 := ⟨DX6_ofTry_c2.2.2.2.2.1, rfl⟩
theorem dX6_ofTry_100 : Dc cX6_ofTry 100 (.getfield 74) 3 103 := ⟨DX6_ofTry_c2.2.2.2.2.2.1, rfl⟩
theorem dX6_ofTry_103 : Dc cX6_ofTry 103 (.iload_n 1) 1 104 := ⟨DX6_ofTry_c2.2.2.2.2.2.2.1, rfl⟩
theorem dX6_ofTry_104 : Dc cX6_ofTry 104 (.iload_n 2) 1 105 := ⟨DX6_ofTry_c2.2.2.2.2.2.2.2.1, rfl⟩
theorem dX6_ofTry_105 : Dc cX6_ofTry 105 (.invokevirtual 157) 3 108 := ⟨DX6_ofTry_c2.2.2.2.2.2.2.2.2.1, rfl⟩
theorem dX6_ofTry_108 : Dc cX6_ofTry 108 (.ireturn) 1 109 := ⟨DX6_ofTry_c2.2.2.2.2.2.2.2.2.2.1, rfl⟩
theorem dX6_ofTry_109 : Dc cX6_ofTry 109 (.aload_n 0) 1 110 := ⟨DX6_ofTry_c2.2.2.2.2.2.2.2.2.2.2.1, rfl⟩
theorem dX6_ofTry_110 : Dc cX6_ofTry 110 (.getfield 12) 3 113 := ⟨DX6_ofTry_c2.2.2.2.2.2.2.2.2.2.2.2.1, rfl⟩
theorem dX6_ofTry_113 : Dc cX6_ofTry 113 (.getfield 74) 3 116 := ⟨DX6_ofTry_c2.2.2.2.2.2.2.2.2.2.2.2.2.1, rfl⟩
theorem dX6_ofTry_116 : Dc cX6_ofTry 116 (.iload_n 1) 1 117 := ⟨DX6_ofTry_c2.2.2.2.2.2.2.2.2.2.2.2.2.2.1, rfl⟩
theorem dX6_ofTry_117 : Dc cX6_ofTry 117 (.iload_n 2) 1 118 := ⟨DX6_ofTry_c2.2.2.2.2.2.2.2.2.2.2.2.2.2.2.1, rfl⟩
theorem dX6_ofTry_118 : Dc cX6_ofTry 118 (.invokevirtual 161) 3 121 := ⟨DX6_ofTry_c2.2.2.2.2.2.2.2.2.2.2.2.2.2.2.2, rfl⟩
theorem DX6_ofTry_c3 : decode cX6_ofTry 121 = .ok (.ireturn, 1) ∧ decode cX6_ofTry 122 = .ok (.bipush (-2), 2) ∧ decode cX6_ofTry 124 = .ok (.ireturn, 1) := by decide +kernel
theorem dX6_ofTry_121 : Dc cX6_ofTry 121 (.ireturn) 1 122 := ⟨DX6_ofTry_c3.1, rfl⟩
theorem dX6_ofTry_122 : Dc cX6_ofTry 122 (.bipush (-2)) 2 124 := ⟨DX6_ofTry_c3.2.1, rfl⟩
theorem dX6_ofTry_124 : Dc cX6_ofTry 124 (.ireturn) 1 125 := ⟨DX6_ofTry_c3.2.2, rfl⟩
theorem DX6_ofLoop_c0 : decode cX6_ofLoop 0 = .ok (.aload_n 0, 1) ∧ decode cX6_ofLoop 1 = .ok (.getfield 12, 3) ∧ decode cX6_ofLoop 4 = .ok (.getfield 115, 3) ∧ decode cX6_ofLoop 7 = .ok (.astore 4, 2) ∧ decode cX6_ofLoop 9 = .ok (.aload 4, 2) ∧ decode cX6_ofLoop 11 = .ok (.iload_n 1, 1) ∧ decode cX6_ofLoop 12 = .ok (.invokevirtual 105, 3) ∧ decode cX6_ofLoop 15 = .ok (.ifCond .eq 13, 3) ∧ decode cX6_ofLoop 18 = .ok (.aload 4, 2) ∧ decode cX6_ofLoop 20 = .ok (.iload_n 1, 1) ∧ decode cX6_ofLoop 21 = .ok (.iload_n 2, 1) ∧ decode cX6_ofLoop 22 = .ok (.invokevirtual 181, 3) ∧ decode cX6_ofLoop 25 = .ok (.ifCond .ne 5, 3) ∧ decode cX6_ofLoop 28 = .ok (.iconst (-1), 1) ∧ decode cX6_ofLoop 29 = .ok (.ireturn, 1) ∧ decode cX6_ofLoop 30 = .ok (.iload_n 3, 1) := by decide +kernel
theorem dX6_ofLoop_0 : Dc cX6_ofLoop 0 (.aload_n 0) 1 1 := ⟨DX6_ofLoop_c0.1, rfl⟩
theorem dX6_ofLoop_1 : Dc cX6_ofLoop 1 (.getfield 12) 3 4 := ⟨DX6_ofLoop_c0.2.1, rfl⟩
theorem dX6_ofLoop_4 : Dc cX6_ofLoop 4 (.getfield 115) 3 7 := ⟨DX6_ofLoop_c0.2.2.1, rfl⟩
theorem dX6_ofLoop_7 : Dc cX6_ofLoop 7 (.astore 4) 2 9 := ⟨DX6_ofLoop_c0.2.2.2.1, rfl⟩
theorem dX6_ofLoop_9 : Dc cX6_ofLoop 9 (.aload 4) 2 11 := ⟨DX6_ofLoop_c0.2.2.2.2.1, rfl⟩
theorem dX6_ofLoop_11 : Dc cX6_ofLoop 11 (.iload_n 1) 1 12 := ⟨DX6_ofLoop_c0.2.2.2.2.2.1, rfl⟩
theorem dX6_ofLoop_12 : Dc cX6_ofLoop 12 (.invokevirtual 105) 3 15 := ⟨DX6_ofLoop_c0.2.2.2.2.2.2.1, rfl⟩
theorem dX6_ofLoop_15 : Db cX6_ofLoop 15 (fun o => .ifCond .eq o) 18 28 := ⟨13, DX6_ofLoop_c0.2.2.2.2.2.2.2.1, rfl, rfl⟩
theorem dX6_ofLoop_18 : Dc cX6_ofLoop 18 (.aload 4) 2 20 := ⟨DX6_ofLoop_c0.2.2.2.2.2.2.2.2.1, rfl⟩
theorem dX6_ofLoop_20 : Dc cX6_ofLoop 20 (.iload_n 1) 1 21 := ⟨DX6_ofLoop_c0.2.2.2.2.2.2.2.2.2.1, rfl⟩
theorem dX6_ofLoop_21 : Dc cX6_ofLoop 21 (.iload_n 2) 1 22 := ⟨DX6_ofLoop_c0.2.2.2.2.2.2.2.2.2.2.1, rfl⟩
theorem dX6_ofLoop_22 : Dc cX6_ofLoop 22 (.invokevirtual 181) 3 25 := ⟨DX6_ofLoop_c0.2.2.2.2.2.2.2.2.2.2.2.1, rfl⟩
theorem dX6_ofLoop_25 : Db cX6_ofLoop 25 (fun o => .ifCond .ne o) 28 30 := ⟨5, DX6_ofLoop_c0.2.2.2.2.2.2.2.2.2.2.2.2.1, rfl, rfl⟩
theorem dX6_ofLoop_28 : Dc cX6_ofLoop 28 (.iconst (-1)) 1 29 := ⟨DX6_ofLoop_c0.2.2.2.2.2.2.2.2.2.2.2.2.2.1, rfl⟩
theorem dX6_ofLoop_29 : Dc cX6_ofLoop 29 (.ireturn) 1 30 := ⟨DX6_ofLoop_c0.2.2.2.2.2.2.2.2.2.2.2.2.2.2.1, rfl⟩
theorem dX6_ofLoop_30 : Dc cX6_ofLoop 30 (.iload_n 3) 1 31 := ⟨DX6_ofLoop_c0.2.2.2.2.2.2.2.2.2.2.2.2.2.2.2, rfl⟩
theorem DX6_ofLoop_c1 : decode cX6_ofLoop 31 = .ok (.tableswitch 77 0 3 #[29, 37, 45, 57], 29) ∧ decode cX6_ofLoop 60 = .ok (.aload 4, 2) ∧ decode cX6_ofLoop 62 = .ok (.iload_n 1, 1) ∧ decode cX6_ofLoop 63 = .ok (.iload_n 2, 1) ∧ decode cX6_ofLoop 64 = .ok (.invokevirtual 157, 3) ∧ decode cX6_ofLoop 67 = .ok (.ireturn, 1) ∧ decode cX6_ofLoop 68 = .ok (.aload 4, 2) ∧ decode cX6_ofLoop 70 = .ok (.iload_n 1, 1) ∧ decode cX6_ofLoop 71 = .ok (.iload_n 2, 1) ∧ decode cX6_ofLoop 72 = .ok (.invokevirtual 161, 3) ∧ decode cX6_ofLoop 75 = .ok (.ireturn, 1) ∧ decode cX6_ofLoop 76 = .ok (.aload 4, 2) ∧ decode cX6_ofLoop 78 = .ok (.iload_n 1, 1) ∧ decode cX6_ofLoop 79 = .ok (.iload_n 2, 1) ∧ decode cX6_ofLoop 80 = .ok (.invokevirtual 184, 3) ∧ decode cX6_ofLoop 83 = .ok (.sipush 1000, 3) := by decide +kernel
theorem dX6_ofLoop_31 : decode cX6_ofLoop 31 = .ok (.tableswitch 77 0 3 #[29, 37, 45, 57], 29) := DX6_ofLoop_c1.1
theorem dX6_ofLoop_60 : Dc cX6_ofLoop 60 (.aload 4) 2 62 := ⟨DX6_ofLoop_c1.2.1, rfl⟩
theorem dX6_ofLoop_62 : Dc cX6_ofLoop 62 (.iload_n 1) 1 63 := ⟨DX6_ofLoop_c1.2.2.1, rfl⟩
theorem dX6_ofLoop_63 : Dc cX6_ofLoop 63 (.iload_n 2) 1 64 := ⟨DX6_ofLoop_c1.2.2.2.1, rfl⟩
theorem dX6_ofLoop_64 : Dc cX6_ofLoop 64 (.invokevirtual 157) 3 67 := ⟨DX6_ofLoop_c1.2.2.2.2.1, rfl⟩
theorem dX6_ofLoop_67 : Dc cX6_ofLoop 67 (.ireturn) 1 68 := ⟨DX6_ofLoop_c1.2.2.2.2.2.1, rfl⟩
theorem dX6_ofLoop_68 : Dc cX6_ofLoop 68 (.aload 4) 2 70 := ⟨DX6_ofLoop_c1.2.2.2.2.2.2.1, rfl⟩
theorem dX6_ofLoop_70 : Dc cX6_ofLoop 70 (.iload_n 1) 1 71 := ⟨DX6_ofLoop_c1.2.2.2.2.2.2.2.1, rfl⟩
theorem dX6_ofLoop_71 : Dc cX6_ofLoop 71 (.iload_n 2) 1 72 := ⟨DX6_ofLoop_c1.2.2.2.2.2.2.2.2.1, rfl⟩
theorem dX6_ofLoop_72 : Dc cX6_ofLoop 72 (.invokevirtual 161) 3 75 := ⟨DX6_ofLoop_c1.2.2.2.2.2.2.2.2.2.1, rfl⟩
theorem dX6_ofLoop_75 : Dc cX6_ofLoop 75 (.ireturn) 1 76 := ⟨DX6_ofLoop_c1.2.2.2.2.2.2.2.2.2.2.1, rfl⟩
theorem dX6_ofLoop_76 : Dc cX6_ofLoop 76 (.aload 4) 2 78 := ⟨DX6_ofLoop_c1.2.2.2.2.2.2.2.2.2.2.2.1, rfl⟩
theorem dX6_ofLoop_78 : Dc cX6_ofLoop 78 (.iload_n 1) 1 79 := ⟨DX6_ofLoop_c1.2.2.2.2.2.2.2.2.2.2.2.2.1, rfl⟩
theorem dX6_ofLoop_79 : Dc cX6_ofLoop 79 (.iload_n 2) 1 80 := ⟨DX6_ofLoop_c1.2.2.2.2.2.2.2.2.2.2.2.2.2.1, rfl⟩
theorem dX6_ofLoop_80 : Dc cX6_ofLoop 80 (.invokevirtual 184) 3 83 := ⟨DX6_ofLoop_c1.2.2.2.2.2.2.2.2.2.2.2.2.2.2.1, rfl⟩
theorem dX6_ofLoop_83 : Dc cX6_ofLoop 83 (.sipush 1000) 3 86 := ⟨DX6_ofLoop_c1.2.2.2.2.2.2.2.2.2.2.2.2.2.2.2, rfl⟩
theorem DX6_ofLoop_c2 : decode cX6_ofLoop 86 = .ok (.iadd, 1) ∧ decode cX6_ofLoop 87 = .ok (.ireturn, 1) ∧ decode cX6_ofLoop 88 = .ok (.aload 4, 2) ∧ decode cX6_ofLoop 90 = .ok (.iload_n 1, 1) ∧ decode cX6_ofLoop 91 = .ok (.iload_n 2, 1) ∧ decode cX6_ofLoop 92 = .ok (.aload 4, 2) ∧ decode cX6_ofLoop 94 = .ok (.iload_n 1, 1) ∧ decode cX6_ofLoop 95 = .ok (.invokevirtual 131, 3) ∧ decode cX6_ofLoop 98 = .ok (.iconst 1, 1) ∧ decode cX6_ofLoop 99 = .ok (.isub, 1) ∧ decode cX6_ofLoop 100 = .ok (.invokevirtual 187, 3) ∧ decode cX6_ofLoop 103 = .ok (.sipush 10000, 3) ∧ decode cX6_ofLoop 106 = .ok (.iadd, 1) ∧ decode cX6_ofLoop 107 = .ok (.ireturn, 1) ∧ decode cX6_ofLoop 108 = .ok (.bipush (-2), 2) ∧ decode cX6_ofLoop 110 = .ok (.ireturn, 1) := by decide +kernel
theorem dX6_ofLoop_86 : Dc cX6_ofLoop 86 (.iadd) 1 87 := ⟨DX6_ofLoop_c2.1, rfl⟩
theorem dX6_ofLoop_87 : Dc cX6_ofLoop 87 (.ireturn) 1 88 := ⟨DX6_ofLoop_c2.2.1, rfl⟩
theorem dX6_ofLoop_88 : Dc cX6_ofLoop 88 (.aload 4) 2 90 := ⟨DX6_ofLoop_c2.2.2.1, rfl⟩
theorem dX6_ofLoop_90 : Dc cX6_ofLoop 90 (.iload_n 1) 1 91 := ⟨DX6_ofLoop_c2.2.2.2.1, rfl⟩
theorem dX6_ofLoop_91 : Dc cX6_ofLoop 91 (.iload_n 2) 1 92 := ⟨DX6_ofLoop_c2.2.2.2.2.1, rfl⟩
theorem dX6_ofLoop_92 : Dc cX6_ofLoop 92 (.aload 4) 2 94 := ⟨DX6_ofLoop_c2.2.2.2.2.2.1, rfl⟩
theorem dX6_ofLoop_94 : Dc cX6_ofLoop 94 (.iload_n 1) 1 95 := ⟨DX6_ofLoop_c2.2.2.2.2.2.2.1, rfl⟩
theorem dX6_ofLoop_95 : Dc cX6_ofLoop 95 (.invokevirtual 131) 3 98 := ⟨DX6_ofLoop_c2.2.2.2.2.2.2.2.1, rfl⟩
theorem dX6_ofLoop_98 : Dc cX6_ofLoop 98 (.iconst 1) 1 99 := ⟨DX6_ofLoop_c2.2.2.2.2.2.2.2.2.1, rfl⟩
theorem dX6_ofLoop_99 : Dc cX6_ofLoop 99 (.isub) 1 100 := ⟨DX6_ofLoop_c2.2.2.2.2.2.2.2.2.2.1, rfl⟩
theorem dX6_ofLoop_100 : Dc cX6_ofLoop 100 (.invokevirtual 187) 3 103 := ⟨DX6_ofLoop_c2.2.2.2.2.2.2.2.2.2.2.1, rfl⟩
theorem dX6_ofLoop_103 : Dc cX6_ofLoop 103 (.sipush 10000) 3 106 := ⟨DX6_ofLoop_c2.2.2.2.2.2.2.2.2.2.2.2.1, rfl⟩
theorem dX6_ofLoop_106 : Dc cX6_ofLoop 106 (.iadd) 1 107 := ⟨DX6_ofLoop_c2.2.2.2.2.2.2.2.2.2.2.2.2.1, rfl⟩
theorem dX6_ofLoop_107 : Dc cX6_ofLoop 107 (.ireturn) 1 108 := ⟨DX6_ofLoop_c2.2.2.2.2.2.2.2.2.2.2.2.2.2.1, rfl⟩
theorem dX6_ofLoop_108 : Dc cX6_ofLoop 108 (.bipush (-2)) 2 110 := ⟨DX6_ofLoop_c2.2.2.2.2.2.2.2.2.2.2.2.2.2.2.1, rfl⟩
theorem dX6_ofLoop_110 : Dc cX6_ofLoop 110 (.ireturn) 1 111 := ⟨DX6_ofLoop_c2.2.2.2.2.2.2.2.2.2.2.2.2.2.2.2, rfl⟩
theorem DX6_length_c0 : decode cX6_length 0 = .ok (.iload_n 2, 1) ∧ decode cX6_length 1 = .ok (.tableswitch 117 0 2 #[27, 57, 87], 27) ∧ decode cX6_length 28 = .ok (.aload_n 0, 1) ∧ decode cX6_length 29 = .ok (.getfield 12, 3) ∧ decode cX6_length 32 = .ok (.getfield 74, 3) ∧ decode cX6_length 35 = .ok (.iload_n 1, 1) ∧ decode cX6_length 36 = .ok (.invokevirtual 105, 3) ∧ decode cX6_length 39 = .ok (.ifCond .eq 17, 3) ∧ decode cX6_length 42 = .ok (.aload_n 0, 1) ∧ decode cX6_length 43 = .ok (.getfield 12, 3) ∧ decode cX6_length 46 = .ok (.getfield 74, 3) ∧ decode cX6_length 49 = .ok (.iload_n 1, 1) ∧ decode cX6_length 50 = .ok (.invokevirtual 118, 3) ∧ decode cX6_length 53 = .ok (.goto 4, 3) ∧ decode cX6_length 56 = .ok (.iconst (-1), 1) ∧ decode cX6_length 57 = .ok (.ireturn, 1) := by decide +kernel
theorem dX6_length_0 : Dc cX6_length 0 (.iload_n 2) 1 1 := ⟨DX6_length_c0.1, rfl⟩
theorem dX6_length_1 : decode cX6_length 1 = .ok (.tableswitch 117 0 2 #[27, 57, 87], 27) := DX6_length_c0.2.1
theorem dX6_length_28 : Dc cX6_length 28 (.aload_n 0) 1 29 := ⟨DX6_length_c0.2.2.1, rfl⟩
theorem dX6_length_29 : Dc cX6_length 29 (.getfield 12) 3 32 := ⟨DX6_length_c0.2.2.2.1, rfl⟩
theorem dX6_length_32 : Dc cX6_length 32 (.getfield 74) 3 35 := ⟨DX6_length_c0.2.2.2.2.1, rfl⟩
theorem dX6_length_35 : Dc cX6_length 35 (.iload_n 1) 1 36 := ⟨DX6_length_c0.2.2.2.2.2.1, rfl⟩
theorem dX6_length_36 : Dc cX6_length 36 (.invokevirtual 105) 3 39 := ⟨DX6_length_c0.2.2.2.2.2.2.1, rfl⟩
theorem dX6_length_39 : Db cX6_length 39 (fun o => .ifCond .eq o) 42 56 := ⟨17, DX6_length_c0.2.2.2.2.2.2.2.1, rfl, rfl⟩
theorem dX6_length_42 : Dc cX6_length 42 (.aload_n 0) 1 43 := ⟨DX6_length_c0.2.2.2.2.2.2.2.2.1, rfl⟩
theorem dX6_length_43 : Dc cX6_length 43 (.getfield 12) 3 46 := ⟨DX6_length_c0.2.2.2.2.2.2.2.2.2.1, rfl⟩
theorem dX6_length_46 : Dc cX6_length 46 (.getfield 74) 3 49 := ⟨DX6_length_c0.2.2.2.2.2.2.2.2.2.2.1, rfl⟩
theorem dX6_length_49 : Dc cX6_length 49 (.iload_n 1) 1 50 := ⟨DX6_length_c0.2.2.2.2.2.2.2.2.2.2.2.1, rfl⟩
theorem dX6_length_50 : Dc cX6_length 50 (.invokevirtual 118) 3 53 := ⟨DX6_length_c0.2.2.2.2.2.2.2.2.2.2.2.2.1, rfl⟩
theorem dX6_length_53 : Db cX6_length 53 .goto 56 57 := ⟨4, DX6_length_c0.2.2.2.2.2.2.2.2.2.2.2.2.2.1, rfl, rfl⟩
theorem dX6_length_56 : Dc cX6_length 56 (.iconst (-1)) 1 57 := ⟨DX6_length_c0.2.2.2.2.2.2.2.2.2.2.2.2.2.2.1, rfl⟩
theorem dX6_length_57 : Dc cX6_length 57 (.ireturn) 1 58 := ⟨DX6_length_c0.2.2.2.2.2.2.2.2.2.2.2.2.2.2.2, rfl⟩
theorem DX6_length_c1 : decode cX6_length 58 = .ok (.aload_n 0, 1) ∧ decode cX6_length 59 = .ok (.getfield 12, 3) ∧ decode cX6_length 62 = .ok (.getfield 115, 3) ∧ decode cX6_length 65 = .ok (.iload_n 1, 1) ∧ decode cX6_length 66 = .ok (.invokevirtual 105, 3) ∧ decode cX6_length 69 = .ok (.ifCond .eq 17, 3) ∧ decode cX6_length 72 = .ok (.aload_n 0, 1) ∧ decode cX6_length 73 = .ok (.getfield 12, 3) ∧ decode cX6_length 76 = .ok (.getfield 115, 3) ∧ decode cX6_length 79 = .ok (.iload_n 1, 1) ∧ decode cX6_length 80 = .ok (.invokevirtual 118, 3) ∧ decode cX6_length 83 = .ok (.goto 4, 3) ∧ decode cX6_length 86 = .ok (.iconst (-1), 1) ∧ decode cX6_length 87 = .ok (.ireturn, 1) ∧ decode cX6_length 88 = .ok (.aload_n 0, 1) ∧ decode cX6_length 89 = .ok (.getfield 12, 3) := by decide +kernel
theorem dX6_length_58 : Dc cX6_length 58 (.aload_n 0) 1 59 := ⟨DX6_length_c1.1, rfl⟩
theorem dX6_length_59 : Dc cX6_length 59 (.getfield 12) 3 62 := ⟨DX6_length_c1.2.1, rfl⟩
theorem dX6_length_62 : Dc cX6_length 62 (.getfield 115) 3 65 := ⟨DX6_length_c1.2.2.1, rfl⟩
theorem dX6_length_65 : Dc cX6_length 65 (.iload_n 1) 1 66 := ⟨DX6_length_c1.2.2.2.1, rfl⟩
theorem dX6_length_66 : Dc cX6_length 66 (.invokevirtual 105) 3 69 := ⟨DX6_length_c1.2.2.2.2.1, rfl⟩
theorem dX6_length_69 : Db cX6_length 69 (fun o => .ifCond .eq o) 72 86 := ⟨17, DX6_length_c1.2.2.2.2.2.1, rfl, rfl⟩
theorem dX6_length_72 : Dc cX6_length 72 (.aload_n 0) 1 73 := ⟨DX6_length_c1.2.2.2.2.2.2.1, rfl⟩
theorem dX6_length_73 : Dc cX6_length 73 (.getfield 12) 3 76 := ⟨DX6_length_c1.2.2.2.2.2.2.2.1, rfl⟩
theorem dX6_length_76 : Dc cX6_length 76 (.getfield 115) 3 79 := ⟨DX6_length_c1.2.2.2.2.2.2.2.2.1, rfl⟩
theorem dX6_length_79 : Dc cX6_length 79 (.iload_n 1) 1 80 := ⟨DX6_length_c1.2.2.2.2.2.2.2.2.2.1, rfl⟩
theorem dX6_length_80 : Dc cX6_length 80 (.invokevirtual 118) 3 83 := ⟨DX6_length_c1.2.2.2.2.2.2.2.2.2.2.1, rfl⟩
theorem dX6_length_83 : Db cX6_length 83 .goto 86 87 := ⟨4, DX6_length_c1.2.2.2.2.2.2.2.2.2.2.2.1, rfl, rfl⟩
theorem dX6_length_86 : Dc cX6_length 86 (.iconst (-1)) 1 87 := ⟨DX6_length_c1.2.2.2.2.2.2.2.2.2.2.2.2.1, rfl⟩
theorem dX6_length_87 : Dc cX6_length 87 (.ireturn) 1 88 := ⟨DX6_length_c1.2.2.2.2.2.2.2.2.2.2.2.2.2.1, rfl⟩
theorem dX6_length_88 : Dc cX6_length 88 (.aload_n 0) 1 89 := ⟨DX6_length_c1.2.2.2.2.2.2.2.2.2.2.2.2.2.2.1, rfl⟩
theorem dX6_length_89 : Dc cX6_length 89 (.getfield 12) 3 92 := ⟨DX6_length_c1.2.2.2.2.2.2.2.2.2.2.2.2.2.2.2, rfl⟩
theorem DX6_length_c2 : decode cX6_length 92 = .ok (.getfield 115, 3) ∧ decode cX6_length 95 = .ok (.iload_n 1, 1) ∧ decode cX6_length 96 = .ok (.invokevirtual 105, 3) ∧ decode cX6_length 99 = .ok (.ifCond .eq 17, 3) ∧ decode cX6_length 102 = .ok (.aload_n 0, 1) ∧ decode cX6_length 103 = .ok (.getfield 12, 3) ∧ decode cX6_length 106 = .ok (.getfield 115, 3) ∧ decode cX6_length 109 = .ok (.iload_n 1, 1) ∧ decode cX6_length 110 = .ok (.invokevirtual 131, 3) ∧ decode cX6_length 113 = .ok (.goto 4, 3) ∧ decode cX6_length 116 = .ok (.iconst (-1), 1) ∧ decode cX6_length 117 = .ok (.ireturn, 1) ∧ decode cX6_length 118 = .ok (.bipush (-2), 2) ∧ decode cX6_length 120 = .ok (.ireturn, 1) := by decide +kernel
theorem dX6_length_92 : Dc cX6_length 92 (.getfield 115) 3 95 := ⟨DX6_length_c2.1, rfl⟩
theorem dX6_length_95 : Dc cX6_length 95 (.iload_n 1) 1 96 := ⟨DX6_length_c2.2.1, rfl⟩
theorem dX6_length_96 : Dc cX6_length 96 (.invokevirtual 105) 3 99 := ⟨DX6_length_c2.2.2.1, rfl⟩
theorem dX6_length_99 : Db cX6_length 99 (fun o => .ifCond .eq o) 102 116 := ⟨17, DX6_length_c2.2.2.2.1, rfl, rfl⟩
theorem dX6_length_102 : Dc cX6_length 102 (.aload_n 0) 1 103 := ⟨DX6_length_c2.2.2.2.2.1, rfl⟩
theorem dX6_length_103 : Dc cX6_length 103 (.getfield 12) 3 106 := ⟨DX6_length_c2.2.2.2.2.2.1, rfl⟩
theorem dX6_length_106 : Dc cX6_length 106 (.getfield 115) 3 109 := ⟨DX6_length_c2.2.2.2.2.2.2.1, rfl⟩
theorem dX6_length_109 : Dc cX6_length 109 (.iload_n 1) 1 110 := ⟨DX6_length_c2.2.2.2.2.2.2.2.1, rfl⟩
theorem dX6_length_110 : Dc cX6_length 110 (.invokevirtual 131) 3 113 := ⟨DX6_length_c2.2.2.2.2.2.2.2.2.1, rfl⟩
theorem dX6_length_113 : Db cX6_length 113 .goto 116 117 := ⟨4, DX6_length_c2.2.2.2.2.2.2.2.2.2.1, rfl, rfl⟩
theorem dX6_length_116 : Dc cX6_length 116 (.iconst (-1)) 1 117 := ⟨DX6_length_c2.2.2.2.2.2.2.2.2.2.2.1, rfl⟩
theorem dX6_length_117 : Dc cX6_length 117 (.ireturn) 1 118 := ⟨DX6_length_c2.2.2.2.2.2.2.2.2.2.2.2.1, rfl⟩
theorem dX6_length_118 : Dc cX6_length 118 (.bipush (-2)) 2 120 := ⟨DX6_length_c2.2.2.2.2.2.2.2.2.2.2.2.2.1, rfl⟩
theorem dX6_length_120 : Dc cX6_length 120 (.ireturn) 1 121 := ⟨DX6_length_c2.2.2.2.2.2.2.2.2.2.2.2.2.2, rfl⟩
theorem DX6_total_c0 : decode cX6_total 0 = .ok (.iload_n 1, 1) ∧ decode cX6_total 1 = .ok (.tableswitch 183 0 11 #[63, 74, 85, 96, 119, 130, 138, 146, 154, 162, 167, 175], 63) ∧ decode cX6_total 64 = .ok (.aload_n 0, 1) ∧ decode cX6_total 65 = .ok (.getfield 12, 3) ∧ decode cX6_total 68 = .ok (.getfield 88, 3) ∧ decode cX6_total 71 = .ok (.getfield 191, 3) ∧ decode cX6_total 74 = .ok (.ireturn, 1) ∧ decode cX6_total 75 = .ok (.aload_n 0, 1) ∧ decode cX6_total 76 = .ok (.getfield 12, 3) ∧ decode cX6_total 79 = .ok (.getfield 88, 3) ∧ decode cX6_total 82 = .ok (.invokevirtual 194, 3) ∧ decode cX6_total 85 = .ok (.ireturn, 1) ∧ decode cX6_total 86 = .ok (.aload_n 0, 1) ∧ decode cX6_total 87 = .ok (.getfield 12, 3) ∧ decode cX6_total 90 = .ok (.getfield 74, 3) ∧ decode cX6_total 93 = .ok (.getfield 78, 3) := by decide +kernel
theorem dX6_total_0 : Dc cX6_total 0 (.iload_n 1) 1 1 := ⟨DX6_total_c0.1, rfl⟩
theorem dX6_total_1 : decode cX6_total 1 = .ok (.tableswitch 183 0 11 #[63, 74, 85, 96, 119, 130, 138, 146, 154, 162, 167, 175], 63) := DX6_total_c0.2.1
theorem dX6_total_64 : Dc cX6_total 64 (.aload_n 0) 1 65 := ⟨DX6_total_c0.2.2.1, rfl⟩
theorem dX6_total_65 : Dc cX6_total 65 (.getfield 12) 3 68 := ⟨DX6_total_c0.2.2.2.1, rfl⟩
theorem dX6_total_68 : Dc cX6_total 68 (.getfield 88) 3 71 := ⟨DX6_total_c0.2.2.2.2.1, rfl⟩
theorem dX6_total_71 : Dc cX6_total 71 (.getfield 191) 3 74 := ⟨DX6_total_c0.2.2.2.2.2.1, rfl⟩
theorem dX6_total_74 : Dc cX6_total 74 (.ireturn) 1 75 := ⟨DX6_total_c0.2.2.2.2.2.2.1, rfl⟩
theorem dX6_total_75 : Dc cX6_total 75 (.aload_n 0) 1 76 := ⟨DX6_total_c0.2.2.2.2.2.2.2.1, rfl⟩
theorem dX6_total_76 : Dc cX6_total 76 (.getfield 12) 3 79 := ⟨DX6_total_c0.2.2.2.2.2.2.2.2.1, rfl⟩
theorem dX6_total_79 : Dc cX6_total 79 (.getfield 88) 3 82 := ⟨DX6_total_c0.2.2.2.2.2.2.2.2.2.1, rfl⟩
theorem dX6_total_82 : Dc cX6_total 82 (.invokevirtual 194) 3 85 := ⟨DX6_total_c0.2.2.2.2.2.2.2.2.2.2.1, rfl⟩
theorem dX6_total_85 : Dc cX6_total 85 (.ireturn) 1 86 := ⟨DX6_total_c0.2.2.2.2.2.2.2.2.2.2.2.1, rfl⟩
theorem dX6_total_86 : Dc cX6_total 86 (.aload_n 0) 1 87 := ⟨DX6_total_c0.2.2.2.2.2.2.2.2.2.2.2.2.1, rfl⟩
theorem dX6_total_87 : Dc cX6_total 87 (.getfield 12) 3 90 := ⟨DX6_total_c0.2.2.2.2.2.2.2.2.2.2.2.2.2.1, rfl⟩
theorem dX6_total_90 : Dc cX6_total 90 (.getfield 74) 3 93 := ⟨DX6_total_c0.2.2.2.2.2.2.2.2.2.2.2.2.2.2.1, rfl⟩
theorem dX6_total_93 : Dc cX6_total 93 (.getfield 78) 3 96 := ⟨DX6_total_c0.2.2.2.2.2.2.2.2.2.2.2.2.2.2.2, rfl⟩
theorem DX6_total_c1 : decode cX6_total 96 = .ok (.ireturn, 1) ∧ decode cX6_total 97 = .ok (.aload_n 0, 1) ∧ decode cX6_total 98 = .ok (.getfield 12, 3) ∧ decode cX6_total 101 = .ok (.getfield 59, 3) ∧ decode cX6_total 104 = .ok (.ifCond .eq 13, 3) ∧ decode cX6_total 107 = .ok (.aload_n 0, 1) ∧ decode cX6_total 108 = .ok (.getfield 12, 3) ∧ decode cX6_total 111 = .ok (.invokevirtual 63, 3) ∧ decode cX6_total 114 = .ok (.goto 5, 3) ∧ decode cX6_total 117 = .ok (.bipush (-5), 2) ∧ decode cX6_total 119 = .ok (.ireturn, 1) ∧ decode cX6_total 120 = .ok (.aload_n 0, 1) ∧ decode cX6_total 121 = .ok (.getfield 12, 3) ∧ decode cX6_total 124 = .ok (.getfield 115, 3) ∧ decode cX6_total 127 = .ok (.getfield 78, 3) ∧ decode cX6_total 130 = .ok (.ireturn, 1) := by decide +kernel
theorem dX6_total_96 : Dc cX6_total 96 (.ireturn) 1 97 := ⟨DX6_total_c1.1, rfl⟩
theorem dX6_total_97 : Dc cX6_total 97 (.aload_n 0) 1 98 := ⟨DX6_total_c1.2.1, rfl⟩
theorem dX6_total_98 : Dc cX6_total 98 (.getfield 12) 3 101 := ⟨DX6_total_c1.2.2.1, rfl⟩
theorem dX6_total_101 : Dc cX6_total 101 (.getfield 59) 3 104 := ⟨DX6_total_c1.2.2.2.1, rfl⟩
theorem dX6_total_104 : Db cX6_total 104 (fun o => .ifCond .eq o) 107 117 := ⟨13, DX6_total_c1.2.2.2.2.1, rfl, rfl⟩
theorem dX6_total_107 : Dc cX6_total 107 (.aload_n 0) 1 108 := ⟨DX6_total_c1.2.2.2.2.2.1, rfl⟩
theorem dX6_total_108 : Dc cX6_total 108 (.getfield 12) 3 111 := ⟨DX6_total_c1.2.2.2.2.2.2.1, rfl⟩
theorem dX6_total_111 : Dc cX6_total 111 (.invokevirtual 63) 3 114 := ⟨DX6_total_c1.2.2.2.2.2.2.2.1, rfl⟩
theorem dX6_total_114 : Db cX6_total 114 .goto 117 119 := ⟨5, DX6_total_c1.2.2.2.2.2.2.2.2.1, rfl, rfl⟩
theorem dX6_total_117 : Dc cX6_total 117 (.bipush (-5)) 2 119 := ⟨DX6_total_c1.2.2.2.2.2.2.2.2.2.1, rfl⟩
theorem dX6_total_119 : Dc cX6_total 119 (.ireturn) 1 120 := ⟨DX6_total_c1.2.2.2.2.2.2.2.2.2.2.1, rfl⟩
theorem dX6_total_120 : Dc cX6_total 120 (.aload_n 0) 1 121 := ⟨DX6_total_c1.2.2.2.2.2.2.2.2.2.2.2.1, rfl⟩
theorem dX6_total_121 : Dc cX6_total 121 (.getfield 12) 3 124 := ⟨DX6_total_c1.2.2.2.2.2.2.2.2.2.2.2.2.1, rfl⟩
theorem dX6_total_124 : Dc cX6_total 124 (.getfield 115) 3 127 := ⟨DX6_total_c1.2.2.2.2.2.2.2.2.2.2.2.2.2.1, rfl⟩
theorem dX6_total_127 : Dc cX6_total 127 (.getfield 78) 3 130 := ⟨DX6_total_c1.2.2.2.2.2.2.2.2.2.2.2.2.2.2.1, rfl⟩
theorem dX6_total_130 : Dc cX6_total 130 (.ireturn) 1 131 := ⟨DX6_total_c1.2.2.2.2.2.2.2.2.2.2.2.2.2.2.2, rfl⟩
theorem DX6_total_c2 : decode cX6_total 131 = .ok (.aload_n 0, 1) ∧ decode cX6_total 132 = .ok (.getfield 12, 3) ∧ decode cX6_total 135 = .ok (.getfield 197, 3) ∧ decode cX6_total 138 = .ok (.ireturn, 1) ∧ decode cX6_total 139 = .ok (.aload_n 0, 1) ∧ decode cX6_total 140 = .ok (.getfield 12, 3) ∧ decode cX6_total 143 = .ok (.getfield 200, 3) ∧ decode cX6_total 146 = .ok (.ireturn, 1) ∧ decode cX6_total 147 = .ok (.aload_n 0, 1) ∧ decode cX6_total 148 = .ok (.getfield 12, 3) ∧ decode cX6_total 151 = .ok (.getfield 203, 3) ∧ decode cX6_total 154 = .ok (.ireturn, 1) ∧ decode cX6_total 155 = .ok (.aload_n 0, 1) ∧ decode cX6_total 156 = .ok (.getfield 12, 3) ∧ decode cX6_total 159 = .ok (.getfield 206, 3) ∧ decode cX6_total 162 = .ok (.ireturn, 1) := by decide +kernel
theorem dX6_total_131 : Dc cX6_total 131 (.aload_n 0) 1 132 := ⟨DX6_total_c2.1, rfl⟩
theorem dX6_total_132 : Dc cX6_total 132 (.getfield 12) 3 135 := ⟨DX6_total_c2.2.1, rfl⟩
theorem dX6_total_135 : Dc cX6_total 135 (.getfield 197) 3 138 := ⟨DX6_total_c2.2.2.1, rfl⟩
theorem dX6_total_138 : Dc cX6_total 138 (.ireturn) 1 139 := ⟨DX6_total_c2.2.2.2.1, rfl⟩
theorem dX6_total_139 : Dc cX6_total 139 (.aload_n 0) 1 140 := ⟨DX6_total_c2.2.2.2.2.1, rfl⟩
theorem dX6_total_140 : Dc cX6_total 140 (.getfield 12) 3 143 := ⟨DX6_total_c2.2.2.2.2.2.1, rfl⟩
theorem dX6_total_143 : Dc cX6_total 143 (.getfield 200) 3 146 := ⟨DX6_total_c2.2.2.2.2.2.2.1, rfl⟩
theorem dX6_total_146 : Dc cX6_total 146 (.ireturn) 1 147 := ⟨DX6_total_c2.2.2.2.2.2.2.2.1, rfl⟩
theorem dX6_total_147 : Dc cX6_total 147 (.aload_n 0) 1 148 := ⟨DX6_total_c2.2.2.2.2.2.2.2.2.1, rfl⟩
theorem dX6_total_148 : Dc cX6_total 148 (.getfield 12) 3 151 := ⟨DX6_total_c2.2.2.2.2.2.2.2.2.2.1, rfl⟩
theorem dX6_total_151 : Dc cX6_total 151 (.getfield 203) 3 154 := ⟨DX6_total_c2.2.2.2.2.2.2.2.2.2.2.1, rfl⟩
theorem dX6_total_154 : Dc cX6_total 154 (.ireturn) 1 155 := ⟨DX6_total_c2.2.2.2.2.2.2.2.2.2.2.2.1, rfl⟩
theorem dX6_total_155 : Dc cX6_total 155 (.aload_n 0) 1 156 := ⟨DX6_total_c2.2.2.2.2.2.2.2.2.2.2.2.2.1, rfl⟩
theorem dX6_total_156 : Dc cX6_total 156 (.getfield 12) 3 159 := ⟨DX6_total_c2.2.2.2.2.2.2.2.2.2.2.2.2.2.1, rfl⟩
theorem dX6_total_159 : Dc cX6_total 159 (.getfield 206) 3 162 := ⟨DX6_total_c2.2.2.2.2.2.2.2.2.2.2.2.2.2.2.1, rfl⟩
theorem dX6_total_162 : Dc cX6_total 162 (.ireturn) 1 163 := ⟨DX6_total_c2.2.2.2.2.2.2.2.2.2.2.2.2.2.2.2, rfl⟩
theorem DX6_total_c3 : decode cX6_total 163 = .ok (.aload_n 0, 1) ∧ decode cX6_total 164 = .ok (.invokevirtual 209, 3) ∧ decode cX6_total 167 = .ok (.ireturn, 1) ∧ decode cX6_total 168 = .ok (.aload_n 0, 1) ∧ decode cX6_total 169 = .ok (.getfield 19, 3) ∧ decode cX6_total 172 = .ok (.getfield 168, 3) ∧ decode cX6_total 175 = .ok (.ireturn, 1) ∧ decode cX6_total 176 = .ok (.aload_n 0, 1) ∧ decode cX6_total 177 = .ok (.getfield 29, 3) ∧ decode cX6_total 180 = .ok (.getfield 145, 3) ∧ decode cX6_total 183 = .ok (.ireturn, 1) ∧ decode cX6_total 184 = .ok (.bipush (-2), 2) ∧ decode cX6_total 186 = .ok (.ireturn, 1) := by decide +kernel
theorem dX6_total_163 : Dc cX6_total 163 (.aload_n 0) 1 164 := ⟨DX6_total_c3.1, rfl⟩
theorem dX6_total_164 : Dc cX6_total 164 (.invokevirtual 209) 3 167 := ⟨DX6_total_c3.2.1, rfl⟩
theorem dX6_total_167 : Dc cX6_total 167 (.ireturn) 1 168 := ⟨DX6_total_c3.2.2.1, rfl⟩
theorem dX6_total_168 : Dc cX6_total 168 (.aload_n 0) 1 169 := ⟨DX6_total_c3.2.2.2.1, rfl⟩
theorem dX6_total_169 : Dc cX6_total 169 (.getfield 19) 3 172 := ⟨DX6_total_c3.2.2.2.2.1, rfl⟩
theorem dX6_total_172 : Dc cX6_total 172 (.getfield 168) 3 175 := ⟨DX6_total_c3.2.2.2.2.2.1, rfl⟩
theorem dX6_total_175 : Dc cX6_total 175 (.ireturn) 1 176 := ⟨DX6_total_c3.2.2.2.2.2.2.1, rfl⟩
theorem dX6_total_176 : Dc cX6_total 176 (.aload_n 0) 1 177 := ⟨DX6_total_c3.2.2.2.2.2.2.2.1, rfl⟩
theorem dX6_total_177 : Dc cX6_total 177 (.getfield 29) 3 180 := ⟨DX6_total_c3.2.2.2.2.2.2.2.2.1, rfl⟩
theorem dX6_total_180 : Dc cX6_total 180 (.getfield 145) 3 183 := ⟨DX6_total_c3.2.2.2.2.2.2.2.2.2.1, rfl⟩
theorem dX6_total_183 : Dc cX6_total 183 (.ireturn) 1 184 := ⟨DX6_total_c3.2.2.2.2.2.2.2.2.2.2.1, rfl⟩
theorem dX6_total_184 : Dc cX6_total 184 (.bipush (-2)) 2 186 := ⟨DX6_total_c3.2.2.2.2.2.2.2.2.2.2.2.1, rfl⟩
theorem dX6_total_186 : Dc cX6_total 186 (.ireturn) 1 187 := ⟨DX6_total_c3.2.2.2.2.2.2.2.2.2.2.2.2, rfl⟩
theorem DX6_alike_c0 : decode cX6_alike 0 = .ok (.aload_n 0, 1) ∧ decode cX6_alike 1 = .ok (.getfield 12, 3) ∧ decode cX6_alike 4 = .ok (.getfield 74, 3) ∧ decode cX6_alike 7 = .ok (.iload_n 1, 1) ∧ decode cX6_alike 8 = .ok (.invokevirtual 105, 3) ∧ decode cX6_alike 11 = .ok (.ifCond .eq 17, 3) ∧ decode cX6_alike 14 = .ok (.aload_n 0, 1) ∧ decode cX6_alike 15 = .ok (.getfield 12, 3) ∧ decode cX6_alike 18 = .ok (.getfield 74, 3) ∧ decode cX6_alike 21 = .ok (.iload_n 2, 1) ∧ decode cX6_alike 22 = .ok (.invokevirtual 105, 3) ∧ decode cX6_alike 25 = .ok (.ifCond .ne 5, 3) ∧ decode cX6_alike 28 = .ok (.iconst (-1), 1) ∧ decode cX6_alike 29 = .ok (.ireturn, 1) ∧ decode cX6_alike 30 = .ok (.iload_n 3, 1) ∧ decode cX6_alike 31 = .ok (.ifCond .lt 8, 3) := by decide +kernel
theorem dX6_alike_0 : Dc cX6_alike 0 (.aload_n 0) 1 1 := ⟨DX6_alike_c0.1, rfl⟩
theorem dX6_alike_1 : Dc cX6_alike 1 (.getfield 12) 3 4 := ⟨DX6_alike_c0.2.1, rfl⟩
theorem dX6_alike_4 : Dc cX6_alike 4 (.getfield 74) 3 7 := ⟨DX6_alike_c0.2.2.1, rfl⟩
theorem dX6_alike_7 : Dc cX6_alike 7 (.iload_n 1) 1 8 := ⟨DX6_alike_c0.2.2.2.1, rfl⟩
theorem dX6_alike_8 : Dc cX6_alike 8 (.invokevirtual 105) 3 11 := ⟨DX6_alike_c0.2.2.2.2.1, rfl⟩
theorem dX6_alike_11 : Db cX6_alike 11 (fun o => .ifCond .eq o) 14 28 := ⟨17, DX6_alike_c0.2.2.2.2.2.1, rfl, rfl⟩
theorem dX6_alike_14 : Dc cX6_alike 14 (.aload_n 0) 1 15 := ⟨DX6_alike_c0.2.2.2.2.2.2.1, rfl⟩
theorem dX6_alike_15 : Dc cX6_alike 15 (.getfield 12) 3 18 := ⟨DX6_alike_c0.2.2.2.2.2.2.2.1, rfl⟩
theorem dX6_alike_18 : Dc cX6_alike 18 (.getfield 74) 3 21 := ⟨DX6_alike_c0.2.2.2.2.2.2.2.2.1, rfl⟩
theorem dX6_alike_21 : Dc cX6_alike 21 (.iload_n 2) 1 22 := ⟨DX6_alike_c0.2.2.2.2.2.2.2.2.2.1, rfl⟩
theorem dX6_alike_22 : Dc cX6_alike 22 (.invokevirtual 105) 3 25 := ⟨DX6_alike_c0.2.2.2.2.2.2.2.2.2.2.1, rfl⟩
theorem dX6_alike_25 : Db cX6_alike 25 (fun o => .ifCond .ne o) 28 30 := ⟨5, DX6_alike_c0.2.2.2.2.2.2.2.2.2.2.2.1, rfl, rfl⟩
theorem dX6_alike_28 : Dc cX6_alike 28 (.iconst (-1)) 1 29 := ⟨DX6_alike_c0.2.2.2.2.2.2.2.2.2.2.2.2.1, rfl⟩
theorem dX6_alike_29 : Dc cX6_alike 29 (.ireturn) 1 30 := ⟨DX6_alike_c0.2.2.2.2.2.2.2.2.2.2.2.2.2.1, rfl⟩
theorem dX6_alike_30 : Dc cX6_alike 30 (.iload_n 3) 1 31 := ⟨DX6_alike_c0.2.2.2.2.2.2.2.2.2.2.2.2.2.2.1, rfl⟩
theorem dX6_alike_31 : Db cX6_alike 31 (fun o => .ifCond .lt o) 34 39 := ⟨8, DX6_alike_c0.2.2.2.2.2.2.2.2.2.2.2.2.2.2.2, rfl, rfl⟩
theorem DX6_alike_c1 : decode cX6_alike 34 = .ok (.iload_n 3, 1) ∧ decode cX6_alike 35 = .ok (.iconst 1, 1) ∧ decode cX6_alike 36 = .ok (.if_icmp .le 6, 3) ∧ decode cX6_alike 39 = .ok (.bipush (-2), 2) ∧ decode cX6_alike 41 = .ok (.ireturn, 1) ∧ decode cX6_alike 42 = .ok (.aload_n 0, 1) ∧ decode cX6_alike 43 = .ok (.iload_n 1, 1) ∧ decode cX6_alike 44 = .ok (.iload_n 2, 1) ∧ decode cX6_alike 45 = .ok (.iload_n 3, 1) ∧ decode cX6_alike 46 = .ok (.iconst 1, 1) ∧ decode cX6_alike 47 = .ok (.if_icmp .ne 7, 3) ∧ decode cX6_alike 50 = .ok (.iconst 1, 1) ∧ decode cX6_alike 51 = .ok (.goto 4, 3) ∧ decode cX6_alike 54 = .ok (.iconst 0, 1) ∧ decode cX6_alike 55 = .ok (.invokevirtual 212, 3) ∧ decode cX6_alike 58 = .ok (.ireturn, 1) := by decide +kernel
theorem dX6_alike_34 : Dc cX6_alike 34 (.iload_n 3) 1 35 := ⟨DX6_alike_c1.1, rfl⟩
theorem dX6_alike_35 : Dc cX6_alike 35 (.iconst 1) 1 36 := ⟨DX6_alike_c1.2.1, rfl⟩
theorem dX6_alike_36 : Db cX6_alike 36 (fun o => .if_icmp .le o) 39 42 := ⟨6, DX6_alike_c1.2.2.1, rfl, rfl⟩
theorem dX6_alike_39 : Dc cX6_alike 39 (.bipush (-2)) 2 41 := ⟨DX6_alike_c1.2.2.2.1, rfl⟩
theorem dX6_alike_41 : Dc cX6_alike 41 (.ireturn) 1 42 := ⟨DX6_alike_c1.2.2.2.2.1, rfl⟩
theorem dX6_alike_42 : Dc cX6_alike 42 (.aload_n 0) 1 43 := ⟨DX6_alike_c1.2.2.2.2.2.1, rfl⟩
theorem dX6_alike_43 : Dc cX6_alike 43 (.iload_n 1) 1 44 := ⟨DX6_alike_c1.2.2.2.2.2.2.1, rfl⟩
theorem dX6_alike_44 : Dc cX6_alike 44 (.iload_n 2) 1 45 := ⟨DX6_alike_c1.2.2.2.2.2.2.2.1, rfl⟩
theorem dX6_alike_45 : Dc cX6_alike 45 (.iload_n 3) 1 46 := ⟨DX6_alike_c1.2.2.2.2.2.2.2.2.1, rfl⟩
theorem dX6_alike_46 : Dc cX6_alike 46 (.iconst 1) 1 47 := ⟨DX6_alike_c1.2.2.2.2.2.2.2.2.2.1, rfl⟩
theorem dX6_alike_47 : Db cX6_alike 47 (fun o => .if_icmp .ne o) 50 54 := ⟨7, DX6_alike_c1.2.2.2.2.2.2.2.2.2.2.1, rfl, rfl⟩
theorem dX6_alike_50 : Dc cX6_alike 50 (.iconst 1) 1 51 := ⟨DX6_alike_c1.2.2.2.2.2.2.2.2.2.2.2.1, rfl⟩
theorem dX6_alike_51 : Db cX6_alike 51 .goto 54 55 := ⟨4, DX6_alike_c1.2.2.2.2.2.2.2.2.2.2.2.2.1, rfl, rfl⟩
theorem dX6_alike_54 : Dc cX6_alike 54 (.iconst 0) 1 55 := ⟨DX6_alike_c1.2.2.2.2.2.2.2.2.2.2.2.2.2.1, rfl⟩
theorem dX6_alike_55 : Dc cX6_alike 55 (.invokevirtual 212) 3 58 := ⟨DX6_alike_c1.2.2.2.2.2.2.2.2.2.2.2.2.2.2.1, rfl⟩
theorem dX6_alike_58 : Dc cX6_alike 58 (.ireturn) 1 59 := ⟨DX6_alike_c1.2.2.2.2.2.2.2.2.2.2.2.2.2.2.2, rfl⟩
theorem DX6_bestPair_c0 : decode cX6_bestPair 0 = .ok (.iload_n 1, 1) ∧ decode cX6_bestPair 1 = .ok (.ifCond .lt 8, 3) ∧ decode cX6_bestPair 4 = .ok (.iload_n 1, 1) ∧ decode cX6_bestPair 5 = .ok (.iconst 1, 1) ∧ decode cX6_bestPair 6 = .ok (.if_icmp .le 6, 3) ∧ decode cX6_bestPair 9 = .ok (.bipush (-2), 2) ∧ decode cX6_bestPair 11 = .ok (.ireturn, 1) ∧ decode cX6_bestPair 12 = .ok (.bipush (-5), 2) ∧ decode cX6_bestPair 14 = .ok (.istore_n 2, 1) ∧ decode cX6_bestPair 15 = .ok (.iconst (-1), 1) ∧ decode cX6_bestPair 16 = .ok (.istore_n 3, 1) ∧ decode cX6_bestPair 17 = .ok (.aload_n 0, 1) ∧ decode cX6_bestPair 18 = .ok (.getfield 12, 3) ∧ decode cX6_bestPair 21 = .ok (.getfield 74, 3) ∧ decode cX6_bestPair 24 = .ok (.getfield 78, 3) ∧ decode cX6_bestPair 27 = .ok (.istore 4, 2) := by decide +kernel
theorem dX6_bestPair_0 : Dc cX6_bestPair 0 (.iload_n 1) 1 1 := ⟨DX6_bestPair_c0.1, rfl⟩
theorem dX6_bestPair_1 : Db cX6_bestPair 1 (fun o => .ifCond .lt o) 4 9 := ⟨8, DX6_bestPair_c0.2.1, rfl, rfl⟩
theorem dX6_bestPair_4 : Dc cX6_bestPair 4 (.iload_n 1) 1 5 := ⟨DX6_bestPair_c0.2.2.1, rfl⟩
theorem dX6_bestPair_5 : Dc cX6_bestPair 5 (.iconst 1) 1 6 := ⟨DX6_bestPair_c0.2.2.2.1, rfl⟩
theorem dX6_bestPair_6 : Db cX6_bestPair 6 (fun o => .if_icmp .le o) 9 12 := ⟨6, DX6_bestPair_c0.2.2.2.2.1, rfl, rfl⟩
theorem dX6_bestPair_9 : Dc cX6_bestPair 9 (.bipush (-2)) 2 11 := ⟨DX6_bestPair_c0.2.2.2.2.2.1, rfl⟩
theorem dX6_bestPair_11 : Dc cX6_bestPair 11 (.ireturn) 1 12 := ⟨DX6_bestPair_c0.2.2.2.2.2.2.1, rfl⟩
theorem dX6_bestPair_12 : Dc cX6_bestPair 12 (.bipush (-5)) 2 14 := ⟨DX6_bestPair_c0.2.2.2.2.2.2.2.1, rfl⟩
theorem dX6_bestPair_14 : Dc cX6_bestPair 14 (.istore_n 2) 1 15 := ⟨DX6_bestPair_c0.2.2.2.2.2.2.2.2.1, rfl⟩
theorem dX6_bestPair_15 : Dc cX6_bestPair 15 (.iconst (-1)) 1 16 := ⟨DX6_bestPair_c0.2.2.2.2.2.2.2.2.2.1, rfl⟩
theorem dX6_bestPair_16 : Dc cX6_bestPair 16 (.istore_n 3) 1 17 := ⟨DX6_bestPair_c0.2.2.2.2.2.2.2.2.2.2.1, rfl⟩
theorem dX6_bestPair_17 : Dc cX6_bestPair 17 (.aload_n 0) 1 18 := ⟨DX6_bestPair_c0.2.2.2.2.2.2.2.2.2.2.2.1, rfl⟩
theorem dX6_bestPair_18 : Dc cX6_bestPair 18 (.getfield 12) 3 21 := ⟨DX6_bestPair_c0.2.2.2.2.2.2.2.2.2.2.2.2.1, rfl⟩
theorem dX6_bestPair_21 : Dc cX6_bestPair 21 (.getfield 74) 3 24 := ⟨DX6_bestPair_c0.2.2.2.2.2.2.2.2.2.2.2.2.2.1, rfl⟩
theorem dX6_bestPair_24 : Dc cX6_bestPair 24 (.getfield 78) 3 27 := ⟨DX6_bestPair_c0.2.2.2.2.2.2.2.2.2.2.2.2.2.2.1, rfl⟩
theorem dX6_bestPair_27 : Dc cX6_bestPair 27 (.istore 4) 2 29 := ⟨DX6_bestPair_c0.2.2.2.2.2.2.2.2.2.2.2.2.2.2.2, rfl⟩
theorem DX6_bestPair_c1 : decode cX6_bestPair 29 = .ok (.iconst 0, 1) ∧ decode cX6_bestPair 30 = .ok (.istore 5, 2) ∧ decode cX6_bestPair 32 = .ok (.iload 5, 2) ∧ decode cX6_bestPair 34 = .ok (.iload 4, 2) ∧ decode cX6_bestPair 36 = .ok (.if_icmp .ge 71, 3) ∧ decode cX6_bestPair 39 = .ok (.iload 5, 2) ∧ decode cX6_bestPair 41 = .ok (.iconst 1, 1) ∧ decode cX6_bestPair 42 = .ok (.iadd, 1) ∧ decode cX6_bestPair 43 = .ok (.istore 6, 2) ∧ decode cX6_bestPair 45 = .ok (.iload 6, 2) ∧ decode cX6_bestPair 47 = .ok (.iload 4, 2) ∧ decode cX6_bestPair 49 = .ok (.if_icmp .ge 52, 3) ∧ decode cX6_bestPair 52 = .ok (.aload_n 0, 1) ∧ decode cX6_bestPair 53 = .ok (.iload 5, 2) ∧ decode cX6_bestPair 55 = .ok (.iload 6, 2) ∧ decode cX6_bestPair 57 = .ok (.invokevirtual 112, 3) := by decide +kernel
theorem dX6_bestPair_29 : Dc cX6_bestPair 29 (.iconst 0) 1 30 := ⟨DX6_bestPair_c1.1, rfl⟩
theorem dX6_bestPair_30 : Dc cX6_bestPair 30 (.istore 5) 2 32 := ⟨DX6_bestPair_c1.2.1, rfl⟩
theorem dX6_bestPair_32 : Dc cX6_bestPair 32 (.iload 5) 2 34 := ⟨DX6_bestPair_c1.2.2.1, rfl⟩
theorem dX6_bestPair_34 : Dc cX6_bestPair 34 (.iload 4) 2 36 := ⟨DX6_bestPair_c1.2.2.2.1, rfl⟩
theorem dX6_bestPair_36 : Db cX6_bestPair 36 (fun o => .if_icmp .ge o) 39 107 := ⟨71, DX6_bestPair_c1.2.2.2.2.1, rfl, rfl⟩
theorem dX6_bestPair_39 : Dc cX6_bestPair 39 (.iload 5) 2 41 := ⟨DX6_bestPair_c1.2.2.2.2.2.1, rfl⟩
theorem dX6_bestPair_41 : Dc cX6_bestPair 41 (.iconst 1) 1 42 := ⟨DX6_bestPair_c1.2.2.2.2.2.2.1, rfl⟩
theorem dX6_bestPair_42 : Dc cX6_bestPair 42 (.iadd) 1 43 := ⟨DX6_bestPair_c1.2.2.2.2.2.2.2.1, rfl⟩
theorem dX6_bestPair_43 : Dc cX6_bestPair 43 (.istore 6) 2 45 := ⟨DX6_bestPair_c1.2.2.2.2.2.2.2.2.1, rfl⟩
theorem dX6_bestPair_45 : Dc cX6_bestPair 45 (.iload 6) 2 47 := ⟨DX6_bestPair_c1.2.2.2.2.2.2.2.2.2.1, rfl⟩
theorem dX6_bestPair_47 : Dc cX6_bestPair 47 (.iload 4) 2 49 := ⟨DX6_bestPair_c1.2.2.2.2.2.2.2.2.2.2.1, rfl⟩
theorem dX6_bestPair_49 : Db cX6_bestPair 49 (fun o => .if_icmp .ge o) 52 101 := ⟨52, DX6_bestPair_c1.2.2.2.2.2.2.2.2.2.2.2.1, rfl, rfl⟩
theorem dX6_bestPair_52 : Dc cX6_bestPair 52 (.aload_n 0) 1 53 := ⟨DX6_bestPair_c1.2.2.2.2.2.2.2.2.2.2.2.2.1, rfl⟩
theorem dX6_bestPair_53 : Dc cX6_bestPair 53 (.iload 5) 2 55 := ⟨DX6_bestPair_c1.2.2.2.2.2.2.2.2.2.2.2.2.2.1, rfl⟩
theorem dX6_bestPair_55 : Dc cX6_bestPair 55 (.iload 6) 2 57 := ⟨DX6_bestPair_c1.2.2.2.2.2.2.2.2.2.2.2.2.2.2.1, rfl⟩
theorem dX6_bestPair_57 : Dc cX6_bestPair 57 (.invokevirtual 112) 3 60 := ⟨DX6_bestPair_c1.2.2.2.2.2.2.2.2.2.2.2.2.2.2.2, rfl⟩
theorem DX6_bestPair_c2 : decode cX6_bestPair 60 = .ok (.ifCond .eq 14, 3) ∧ decode cX6_bestPair 63 = .ok (.aload_n 0, 1) ∧ decode cX6_bestPair 64 = .ok (.iload 5, 2) ∧ decode cX6_bestPair 66 = .ok (.iload 6, 2) ∧ decode cX6_bestPair 68 = .ok (.invokevirtual 216, 3) ∧ decode cX6_bestPair 71 = .ok (.goto 4, 3) ∧ decode cX6_bestPair 74 = .ok (.iconst (-1), 1) ∧ decode cX6_bestPair 75 = .ok (.istore 7, 2) ∧ decode cX6_bestPair 77 = .ok (.iload 7, 2) ∧ decode cX6_bestPair 79 = .ok (.iload_n 3, 1) ∧ decode cX6_bestPair 80 = .ok (.if_icmp .le 15, 3) ∧ decode cX6_bestPair 83 = .ok (.iload 7, 2) ∧ decode cX6_bestPair 85 = .ok (.istore_n 3, 1) ∧ decode cX6_bestPair 86 = .ok (.bipush 10, 2) ∧ decode cX6_bestPair 88 = .ok (.iload 5, 2) ∧ decode cX6_bestPair 90 = .ok (.imul, 1) := by decide +kernel
theorem dX6_bestPair_60 : Db cX6_bestPair 60 (fun o => .ifCond .eq o) 63 74 := ⟨14, DX6_bestPair_c2.1, rfl, rfl⟩
theorem dX6_bestPair_63 : Dc cX6_bestPair 63 (.aload_n 0) 1 64 := ⟨DX6_bestPair_c2.2.1, rfl⟩
theorem dX6_bestPair_64 : Dc cX6_bestPair 64 (.iload 5) 2 66 := ⟨DX6_bestPair_c2.2.2.1, rfl⟩
theorem dX6_bestPair_66 : Dc cX6_bestPair 66 (.iload 6) 2 68 := ⟨DX6_bestPair_c2.2.2.2.1, rfl⟩
theorem dX6_bestPair_68 : Dc cX6_bestPair 68 (.invokevirtual 216) 3 71 := ⟨DX6_bestPair_c2.2.2.2.2.1, rfl⟩
theorem dX6_bestPair_71 : Db cX6_bestPair 71 .goto 74 75 := ⟨4, DX6_bestPair_c2.2.2.2.2.2.1, rfl, rfl⟩
theorem dX6_bestPair_74 : Dc cX6_bestPair 74 (.iconst (-1)) 1 75 := ⟨DX6_bestPair_c2.2.2.2.2.2.2.1, rfl⟩
theorem dX6_bestPair_75 : Dc cX6_bestPair 75 (.istore 7) 2 77 := ⟨DX6_bestPair_c2.2.2.2.2.2.2.2.1, rfl⟩
theorem dX6_bestPair_77 : Dc cX6_bestPair 77 (.iload 7) 2 79 := ⟨DX6_bestPair_c2.2.2.2.2.2.2.2.2.1, rfl⟩
theorem dX6_bestPair_79 : Dc cX6_bestPair 79 (.iload_n 3) 1 80 := ⟨DX6_bestPair_c2.2.2.2.2.2.2.2.2.2.1, rfl⟩
theorem dX6_bestPair_80 : Db cX6_bestPair 80 (fun o => .if_icmp .le o) 83 95 := ⟨15, DX6_bestPair_c2.2.2.2.2.2.2.2.2.2.2.1, rfl, rfl⟩
theorem dX6_bestPair_83 : Dc cX6_bestPair 83 (.iload 7) 2 85 := ⟨DX6_bestPair_c2.2.2.2.2.2.2.2.2.2.2.2.1, rfl⟩
theorem dX6_bestPair_85 : Dc cX6_bestPair 85 (.istore_n 3) 1 86 := ⟨DX6_bestPair_c2.2.2.2.2.2.2.2.2.2.2.2.2.1, rfl⟩
theorem dX6_bestPair_86 : Dc cX6_bestPair 86 (.bipush 10) 2 88 := ⟨DX6_bestPair_c2.2.2.2.2.2.2.2.2.2.2.2.2.2.1, rfl⟩
theorem dX6_bestPair_88 : Dc cX6_bestPair 88 (.iload 5) 2 90 := ⟨DX6_bestPair_c2.2.2.2.2.2.2.2.2.2.2.2.2.2.2.1, rfl⟩
theorem dX6_bestPair_90 : Dc cX6_bestPair 90 (.imul) 1 91 := ⟨DX6_bestPair_c2.2.2.2.2.2.2.2.2.2.2.2.2.2.2.2, rfl⟩
theorem DX6_bestPair_c3 : decode cX6_bestPair 91 = .ok (.iload 6, 2) ∧ decode cX6_bestPair 93 = .ok (.iadd, 1) ∧ decode cX6_bestPair 94 = .ok (.istore_n 2, 1) ∧ decode cX6_bestPair 95 = .ok (.iinc 6 1, 3) ∧ decode cX6_bestPair 98 = .ok (.goto (-53), 3) ∧ decode cX6_bestPair 101 = .ok (.iinc 5 1, 3) ∧ decode cX6_bestPair 104 = .ok (.goto (-72), 3) ∧ decode cX6_bestPair 107 = .ok (.iload_n 1, 1) ∧ decode cX6_bestPair 108 = .ok (.ifCond .eq 9, 3) ∧ decode cX6_bestPair 111 = .ok (.iload_n 2, 1) ∧ decode cX6_bestPair 112 = .ok (.bipush (-5), 2) ∧ decode cX6_bestPair 114 = .ok (.if_icmp .ne 7, 3) ∧ decode cX6_bestPair 117 = .ok (.iload_n 2, 1) ∧ decode cX6_bestPair 118 = .ok (.goto 4, 3) ∧ decode cX6_bestPair 121 = .ok (.iload_n 3, 1) ∧ decode cX6_bestPair 122 = .ok (.ireturn, 1) := by decide +kernel
theorem dX6_bestPair_91 : Dc cX6_bestPair 91 (.iload 6) 2 93 := ⟨DX6_bestPair_c3.1, rfl⟩
theorem dX6_bestPair_93 : Dc cX6_bestPair 93 (.iadd) 1 94 := ⟨DX6_bestPair_c3.2.1, rfl⟩
theorem dX6_bestPair_94 : Dc cX6_bestPair 94 (.istore_n 2) 1 95 := ⟨DX6_bestPair_c3.2.2.1, rfl⟩
theorem dX6_bestPair_95 : Dc cX6_bestPair 95 (.iinc 6 1) 3 98 := ⟨DX6_bestPair_c3.2.2.2.1, rfl⟩
theorem dX6_bestPair_98 : Db cX6_bestPair 98 .goto 101 45 := ⟨-53, DX6_bestPair_c3.2.2.2.2.1, rfl, rfl⟩
theorem dX6_bestPair_101 : Dc cX6_bestPair 101 (.iinc 5 1) 3 104 := ⟨DX6_bestPair_c3.2.2.2.2.2.1, rfl⟩
theorem dX6_bestPair_104 : Db cX6_bestPair 104 .goto 107 32 := ⟨-72, DX6_bestPair_c3.2.2.2.2.2.2.1, rfl, rfl⟩
theorem dX6_bestPair_107 : Dc cX6_bestPair 107 (.iload_n 1) 1 108 := ⟨DX6_bestPair_c3.2.2.2.2.2.2.2.1, rfl⟩
theorem dX6_bestPair_108 : Db cX6_bestPair 108 (fun o => .ifCond .eq o) 111 117 := ⟨9, DX6_bestPair_c3.2.2.2.2.2.2.2.2.1, rfl, rfl⟩
theorem dX6_bestPair_111 : Dc cX6_bestPair 111 (.iload_n 2) 1 112 := ⟨DX6_bestPair_c3.2.2.2.2.2.2.2.2.2.1, rfl⟩
theorem dX6_bestPair_112 : Dc cX6_bestPair 112 (.bipush (-5)) 2 114 := ⟨DX6_bestPair_c3.2.2.2.2.2.2.2.2.2.2.1, rfl⟩
theorem dX6_bestPair_114 : Db cX6_bestPair 114 (fun o => .if_icmp .ne o) 117 121 := ⟨7, DX6_bestPair_c3.2.2.2.2.2.2.2.2.2.2.2.1, rfl, rfl⟩
theorem dX6_bestPair_117 : Dc cX6_bestPair 117 (.iload_n 2) 1 118 := ⟨DX6_bestPair_c3.2.2.2.2.2.2.2.2.2.2.2.2.1, rfl⟩
theorem dX6_bestPair_118 : Db cX6_bestPair 118 .goto 121 122 := ⟨4, DX6_bestPair_c3.2.2.2.2.2.2.2.2.2.2.2.2.2.1, rfl, rfl⟩
theorem dX6_bestPair_121 : Dc cX6_bestPair 121 (.iload_n 3) 1 122 := ⟨DX6_bestPair_c3.2.2.2.2.2.2.2.2.2.2.2.2.2.2.1, rfl⟩
theorem dX6_bestPair_122 : Dc cX6_bestPair 122 (.ireturn) 1 123 := ⟨DX6_bestPair_c3.2.2.2.2.2.2.2.2.2.2.2.2.2.2.2, rfl⟩
theorem DX6_fits_c0 : decode cX6_fits 0 = .ok (.aload_n 0, 1) ∧ decode cX6_fits 1 = .ok (.getfield 12, 3) ∧ decode cX6_fits 4 = .ok (.getfield 115, 3) ∧ decode cX6_fits 7 = .ok (.iload_n 1, 1) ∧ decode cX6_fits 8 = .ok (.invokevirtual 105, 3) ∧ decode cX6_fits 11 = .ok (.ifCond .eq 17, 3) ∧ decode cX6_fits 14 = .ok (.aload_n 0, 1) ∧ decode cX6_fits 15 = .ok (.getfield 12, 3) ∧ decode cX6_fits 18 = .ok (.getfield 74, 3) ∧ decode cX6_fits 21 = .ok (.iload_n 2, 1) ∧ decode cX6_fits 22 = .ok (.invokevirtual 105, 3) ∧ decode cX6_fits 25 = .ok (.ifCond .ne 5, 3) ∧ decode cX6_fits 28 = .ok (.iconst (-1), 1) ∧ decode cX6_fits 29 = .ok (.ireturn, 1) ∧ decode cX6_fits 30 = .ok (.aload_n 0, 1) ∧ decode cX6_fits 31 = .ok (.getfield 12, 3) := by decide +kernel
theorem dX6_fits_0 : Dc cX6_fits 0 (.aload_n 0) 1 1 := ⟨DX6_fits_c0.1, rfl⟩
theorem dX6_fits_1 : Dc cX6_fits 1 (.getfield 12) 3 4 := ⟨DX6_fits_c0.2.1, rfl⟩
theorem dX6_fits_4 : Dc cX6_fits 4 (.getfield 115) 3 7 := ⟨DX6_fits_c0.2.2.1, rfl⟩
theorem dX6_fits_7 : Dc cX6_fits 7 (.iload_n 1) 1 8 := ⟨DX6_fits_c0.2.2.2.1, rfl⟩
theorem dX6_fits_8 : Dc cX6_fits 8 (.invokevirtual 105) 3 11 := ⟨DX6_fits_c0.2.2.2.2.1, rfl⟩
theorem dX6_fits_11 : Db cX6_fits 11 (fun o => .ifCond .eq o) 14 28 := ⟨17, DX6_fits_c0.2.2.2.2.2.1, rfl, rfl⟩
theorem dX6_fits_14 : Dc cX6_fits 14 (.aload_n 0) 1 15 := ⟨DX6_fits_c0.2.2.2.2.2.2.1, rfl⟩
theorem dX6_fits_15 : Dc cX6_fits 15 (.getfield 12) 3 18 := ⟨DX6_fits_c0.2.2.2.2.2.2.2.1, rfl⟩
theorem dX6_fits_18 : Dc cX6_fits 18 (.getfield 74) 3 21 := ⟨DX6_fits_c0.2.2.2.2.2.2.2.2.1, rfl⟩
theorem dX6_fits_21 : Dc cX6_fits 21 (.iload_n 2) 1 22 := ⟨DX6_fits_c0.2.2.2.2.2.2.2.2.2.1, rfl⟩
theorem dX6_fits_22 : Dc cX6_fits 22 (.invokevirtual 105) 3 25 := ⟨DX6_fits_c0.2.2.2.2.2.2.2.2.2.2.1, rfl⟩
theorem dX6_fits_25 : Db cX6_fits 25 (fun o => .ifCond .ne o) 28 30 := ⟨5, DX6_fits_c0.2.2.2.2.2.2.2.2.2.2.2.1, rfl, rfl⟩
theorem dX6_fits_28 : Dc cX6_fits 28 (.iconst (-1)) 1 29 := ⟨DX6_fits_c0.2.2.2.2.2.2.2.2.2.2.2.2.1, rfl⟩
theorem dX6_fits_29 : Dc cX6_fits 29 (.ireturn) 1 30 := ⟨DX6_fits_c0.2.2.2.2.2.2.2.2.2.2.2.2.2.1, rfl⟩
theorem dX6_fits_30 : Dc cX6_fits 30 (.aload_n 0) 1 31 := ⟨DX6_fits_c0.2.2.2.2.2.2.2.2.2.2.2.2.2.2.1, rfl⟩
theorem dX6_fits_31 : Dc cX6_fits 31 (.getfield 12) 3 34 := ⟨DX6_fits_c0.2.2.2.2.2.2.2.2.2.2.2.2.2.2.2, rfl⟩
theorem DX6_fits_c1 : decode cX6_fits 34 = .ok (.getfield 115, 3) ∧ decode cX6_fits 37 = .ok (.iload_n 1, 1) ∧ decode cX6_fits 38 = .ok (.invokevirtual 118, 3) ∧ decode cX6_fits 41 = .ok (.istore_n 3, 1) ∧ decode cX6_fits 42 = .ok (.aload_n 0, 1) ∧ decode cX6_fits 43 = .ok (.getfield 12, 3) ∧ decode cX6_fits 46 = .ok (.getfield 74, 3) ∧ decode cX6_fits 49 = .ok (.iload_n 2, 1) ∧ decode cX6_fits 50 = .ok (.invokevirtual 118, 3) ∧ decode cX6_fits 53 = .ok (.istore 4, 2) ∧ decode cX6_fits 55 = .ok (.iload_n 3, 1) ∧ decode cX6_fits 56 = .ok (.ifCond .le 10, 3) ∧ decode cX6_fits 59 = .ok (.iload 4, 2) ∧ decode cX6_fits 61 = .ok (.iload_n 3, 1) ∧ decode cX6_fits 62 = .ok (.irem, 1) ∧ decode cX6_fits 63 = .ok (.ifCond .eq 6, 3) := by decide +kernel
theorem dX6_fits_34 : Dc cX6_fits 34 (.getfield 115) 3 37 := ⟨DX6_fits_c1.1, rfl⟩
theorem dX6_fits_37 : Dc cX6_fits 37 (.iload_n 1) 1 38 := ⟨DX6_fits_c1.2.1, rfl⟩
theorem dX6_fits_38 : Dc cX6_fits 38 (.invokevirtual 118) 3 41 := ⟨DX6_fits_c1.2.2.1, rfl⟩
theorem dX6_fits_41 : Dc cX6_fits 41 (.istore_n 3) 1 42 := ⟨DX6_fits_c1.2.2.2.1, rfl⟩
theorem dX6_fits_42 : Dc cX6_fits 42 (.aload_n 0) 1 43 := ⟨DX6_fits_c1.2.2.2.2.1, rfl⟩
theorem dX6_fits_43 : Dc cX6_fits 43 (.getfield 12) 3 46 := ⟨DX6_fits_c1.2.2.2.2.2.1, rfl⟩
theorem dX6_fits_46 : Dc cX6_fits 46 (.getfield 74) 3 49 := ⟨DX6_fits_c1.2.2.2.2.2.2.1, rfl⟩
theorem dX6_fits_49 : Dc cX6_fits 49 (.iload_n 2) 1 50 := ⟨DX6_fits_c1.2.2.2.2.2.2.2.1, rfl⟩
theorem dX6_fits_50 : Dc cX6_fits 50 (.invokevirtual 118) 3 53 := ⟨DX6_fits_c1.2.2.2.2.2.2.2.2.1, rfl⟩
theorem dX6_fits_53 : Dc cX6_fits 53 (.istore 4) 2 55 := ⟨DX6_fits_c1.2.2.2.2.2.2.2.2.2.1, rfl⟩
theorem dX6_fits_55 : Dc cX6_fits 55 (.iload_n 3) 1 56 := ⟨DX6_fits_c1.2.2.2.2.2.2.2.2.2.2.1, rfl⟩
theorem dX6_fits_56 : Db cX6_fits 56 (fun o => .ifCond .le o) 59 66 := ⟨10, DX6_fits_c1.2.2.2.2.2.2.2.2.2.2.2.1, rfl, rfl⟩
theorem dX6_fits_59 : Dc cX6_fits 59 (.iload 4) 2 61 := ⟨DX6_fits_c1.2.2.2.2.2.2.2.2.2.2.2.2.1, rfl⟩
theorem dX6_fits_61 : Dc cX6_fits 61 (.iload_n 3) 1 62 := ⟨DX6_fits_c1.2.2.2.2.2.2.2.2.2.2.2.2.2.1, rfl⟩
theorem dX6_fits_62 : Dc cX6_fits 62 (.irem) 1 63 := ⟨DX6_fits_c1.2.2.2.2.2.2.2.2.2.2.2.2.2.2.1, rfl⟩
theorem dX6_fits_63 : Db cX6_fits 63 (fun o => .ifCond .eq o) 66 69 := ⟨6, DX6_fits_c1.2.2.2.2.2.2.2.2.2.2.2.2.2.2.2, rfl, rfl⟩
theorem DX6_fits_c2 : decode cX6_fits 66 = .ok (.bipush (-5), 2) ∧ decode cX6_fits 68 = .ok (.ireturn, 1) ∧ decode cX6_fits 69 = .ok (.iload 4, 2) ∧ decode cX6_fits 71 = .ok (.iload_n 3, 1) ∧ decode cX6_fits 72 = .ok (.idiv, 1) ∧ decode cX6_fits 73 = .ok (.istore 5, 2) ∧ decode cX6_fits 75 = .ok (.iconst 0, 1) ∧ decode cX6_fits 76 = .ok (.istore 6, 2) ∧ decode cX6_fits 78 = .ok (.iload 6, 2) ∧ decode cX6_fits 80 = .ok (.iload 5, 2) ∧ decode cX6_fits 82 = .ok (.if_icmp .ge 27, 3) ∧ decode cX6_fits 85 = .ok (.aload_n 0, 1) ∧ decode cX6_fits 86 = .ok (.iload_n 1, 1) ∧ decode cX6_fits 87 = .ok (.iload 6, 2) ∧ decode cX6_fits 89 = .ok (.iload_n 2, 1) ∧ decode cX6_fits 90 = .ok (.iload 6, 2) := by decide +kernel
theorem dX6_fits_66 : Dc cX6_fits 66 (.bipush (-5)) 2 68 := ⟨DX6_fits_c2.1, rfl⟩
theorem dX6_fits_68 : Dc cX6_fits 68 (.ireturn) 1 69 := ⟨DX6_fits_c2.2.1, rfl⟩
theorem dX6_fits_69 : Dc cX6_fits 69 (.iload 4) 2 71 := ⟨DX6_fits_c2.2.2.1, rfl⟩
theorem dX6_fits_71 : Dc cX6_fits 71 (.iload_n 3) 1 72 := ⟨DX6_fits_c2.2.2.2.1, rfl⟩
theorem dX6_fits_72 : Dc cX6_fits 72 (.idiv) 1 73 := ⟨DX6_fits_c2.2.2.2.2.1, rfl⟩
theorem dX6_fits_73 : Dc cX6_fits 73 (.istore 5) 2 75 := ⟨DX6_fits_c2.2.2.2.2.2.1, rfl⟩
theorem dX6_fits_75 : Dc cX6_fits 75 (.iconst 0) 1 76 := ⟨DX6_fits_c2.2.2.2.2.2.2.1, rfl⟩
theorem dX6_fits_76 : Dc cX6_fits 76 (.istore 6) 2 78 := ⟨DX6_fits_c2.2.2.2.2.2.2.2.1, rfl⟩
theorem dX6_fits_78 : Dc cX6_fits 78 (.iload 6) 2 80 := ⟨DX6_fits_c2.2.2.2.2.2.2.2.2.1, rfl⟩
theorem dX6_fits_80 : Dc cX6_fits 80 (.iload 5) 2 82 := ⟨DX6_fits_c2.2.2.2.2.2.2.2.2.2.1, rfl⟩
theorem dX6_fits_82 : Db cX6_fits 82 (fun o => .if_icmp .ge o) 85 109 := ⟨27, DX6_fits_c2.2.2.2.2.2.2.2.2.2.2.1, rfl, rfl⟩
theorem dX6_fits_85 : Dc cX6_fits 85 (.aload_n 0) 1 86 := ⟨DX6_fits_c2.2.2.2.2.2.2.2.2.2.2.2.1, rfl⟩
theorem dX6_fits_86 : Dc cX6_fits 86 (.iload_n 1) 1 87 := ⟨DX6_fits_c2.2.2.2.2.2.2.2.2.2.2.2.2.1, rfl⟩
theorem dX6_fits_87 : Dc cX6_fits 87 (.iload 6) 2 89 := ⟨DX6_fits_c2.2.2.2.2.2.2.2.2.2.2.2.2.2.1, rfl⟩
theorem dX6_fits_89 : Dc cX6_fits 89 (.iload_n 2) 1 90 := ⟨DX6_fits_c2.2.2.2.2.2.2.2.2.2.2.2.2.2.2.1, rfl⟩
theorem dX6_fits_90 : Dc cX6_fits 90 (.iload 6) 2 92 := ⟨DX6_fits_c2.2.2.2.2.2.2.2.2.2.2.2.2.2.2.2, rfl⟩
theorem DX6_fits_c3 : decode cX6_fits 92 = .ok (.iload_n 3, 1) ∧ decode cX6_fits 93 = .ok (.imul, 1) ∧ decode cX6_fits 94 = .ok (.invokevirtual 219, 3) ∧ decode cX6_fits 97 = .ok (.ifCond .ne 6, 3) ∧ decode cX6_fits 100 = .ok (.bipush (-5), 2) ∧ decode cX6_fits 102 = .ok (.ireturn, 1) ∧ decode cX6_fits 103 = .ok (.iinc 6 1, 3) ∧ decode cX6_fits 106 = .ok (.goto (-28), 3) ∧ decode cX6_fits 109 = .ok (.iload 5, 2) ∧ decode cX6_fits 111 = .ok (.ireturn, 1) := by decide +kernel
theorem dX6_fits_92 : Dc cX6_fits 92 (.iload_n 3) 1 93 := ⟨DX6_fits_c3.1, rfl⟩
theorem dX6_fits_93 : Dc cX6_fits 93 (.imul) 1 94 := ⟨DX6_fits_c3.2.1, rfl⟩
theorem dX6_fits_94 : Dc cX6_fits 94 (.invokevirtual 219) 3 97 := ⟨DX6_fits_c3.2.2.1, rfl⟩
theorem dX6_fits_97 : Db cX6_fits 97 (fun o => .ifCond .ne o) 100 103 := ⟨6, DX6_fits_c3.2.2.2.1, rfl, rfl⟩
theorem dX6_fits_100 : Dc cX6_fits 100 (.bipush (-5)) 2 102 := ⟨DX6_fits_c3.2.2.2.2.1, rfl⟩
theorem dX6_fits_102 : Dc cX6_fits 102 (.ireturn) 1 103 := ⟨DX6_fits_c3.2.2.2.2.2.1, rfl⟩
theorem dX6_fits_103 : Dc cX6_fits 103 (.iinc 6 1) 3 106 := ⟨DX6_fits_c3.2.2.2.2.2.2.1, rfl⟩
theorem dX6_fits_106 : Db cX6_fits 106 .goto 109 78 := ⟨-28, DX6_fits_c3.2.2.2.2.2.2.2.1, rfl, rfl⟩
theorem dX6_fits_109 : Dc cX6_fits 109 (.iload 5) 2 111 := ⟨DX6_fits_c3.2.2.2.2.2.2.2.2.1, rfl⟩
theorem dX6_fits_111 : Dc cX6_fits 111 (.ireturn) 1 112 := ⟨DX6_fits_c3.2.2.2.2.2.2.2.2.2, rfl⟩
theorem DX6_mostTurns_c0 : decode cX6_mostTurns 0 = .ok (.aload_n 0, 1) ∧ decode cX6_mostTurns 1 = .ok (.getfield 12, 3) ∧ decode cX6_mostTurns 4 = .ok (.getfield 115, 3) ∧ decode cX6_mostTurns 7 = .ok (.iload_n 1, 1) ∧ decode cX6_mostTurns 8 = .ok (.invokevirtual 105, 3) ∧ decode cX6_mostTurns 11 = .ok (.ifCond .ne 5, 3) ∧ decode cX6_mostTurns 14 = .ok (.iconst (-1), 1) ∧ decode cX6_mostTurns 15 = .ok (.ireturn, 1) ∧ decode cX6_mostTurns 16 = .ok (.bipush (-5), 2) ∧ decode cX6_mostTurns 18 = .ok (.istore_n 2, 1) ∧ decode cX6_mostTurns 19 = .ok (.aload_n 0, 1) ∧ decode cX6_mostTurns 20 = .ok (.getfield 12, 3) ∧ decode cX6_mostTurns 23 = .ok (.getfield 115, 3) ∧ decode cX6_mostTurns 26 = .ok (.iload_n 1, 1) ∧ decode cX6_mostTurns 27 = .ok (.invokevirtual 118, 3) ∧ decode cX6_mostTurns 30 = .ok (.istore_n 3, 1) := by decide +kernel
theorem dX6_mostTurns_0 : Dc cX6_mostTurns 0 (.aload_n 0) 1 1 := ⟨DX6_mostTurns_c0.1, rfl⟩
theorem dX6_mostTurns_1 : Dc cX6_mostTurns 1 (.getfield 12) 3 4 := ⟨DX6_mostTurns_c0.2.1, rfl⟩
theorem dX6_mostTurns_4 : Dc cX6_mostTurns 4 (.getfield 115) 3 7 := ⟨DX6_mostTurns_c0.2.2.1, rfl⟩
theorem dX6_mostTurns_7 : Dc cX6_mostTurns 7 (.iload_n 1) 1 8 := ⟨DX6_mostTurns_c0.2.2.2.1, rfl⟩
theorem dX6_mostTurns_8 : Dc cX6_mostTurns 8 (.invokevirtual 105) 3 11 := ⟨DX6_mostTurns_c0.2.2.2.2.1, rfl⟩
theorem dX6_mostTurns_11 : Db cX6_mostTurns 11 (fun o => .ifCond .ne o) 14 16 := ⟨5, DX6_mostTurns_c0.2.2.2.2.2.1, rfl, rfl⟩
theorem dX6_mostTurns_14 : Dc cX6_mostTurns 14 (.iconst (-1)) 1 15 := ⟨DX6_mostTurns_c0.2.2.2.2.2.2.1, rfl⟩
theorem dX6_mostTurns_15 : Dc cX6_mostTurns 15 (.ireturn) 1 16 := ⟨DX6_mostTurns_c0.2.2.2.2.2.2.2.1, rfl⟩
theorem dX6_mostTurns_16 : Dc cX6_mostTurns 16 (.bipush (-5)) 2 18 := ⟨DX6_mostTurns_c0.2.2.2.2.2.2.2.2.1, rfl⟩
theorem dX6_mostTurns_18 : Dc cX6_mostTurns 18 (.istore_n 2) 1 19 := ⟨DX6_mostTurns_c0.2.2.2.2.2.2.2.2.2.1, rfl⟩
theorem dX6_mostTurns_19 : Dc cX6_mostTurns 19 (.aload_n 0) 1 20 := ⟨DX6_mostTurns_c0.2.2.2.2.2.2.2.2.2.2.1, rfl⟩
theorem dX6_mostTurns_20 : Dc cX6_mostTurns 20 (.getfield 12) 3 23 := ⟨DX6_mostTurns_c0.2.2.2.2.2.2.2.2.2.2.2.1, rfl⟩
theorem dX6_mostTurns_23 : Dc cX6_mostTurns 23 (.getfield 115) 3 26 := ⟨DX6_mostTurns_c0.2.2.2.2.2.2.2.2.2.2.2.2.1, rfl⟩
theorem dX6_mostTurns_26 : Dc cX6_mostTurns 26 (.iload_n 1) 1 27 := ⟨DX6_mostTurns_c0.2.2.2.2.2.2.2.2.2.2.2.2.2.1, rfl⟩
theorem dX6_mostTurns_27 : Dc cX6_mostTurns 27 (.invokevirtual 118) 3 30 := ⟨DX6_mostTurns_c0.2.2.2.2.2.2.2.2.2.2.2.2.2.2.1, rfl⟩
theorem dX6_mostTurns_30 : Dc cX6_mostTurns 30 (.istore_n 3) 1 31 := ⟨DX6_mostTurns_c0.2.2.2.2.2.2.2.2.2.2.2.2.2.2.2, rfl⟩
theorem DX6_mostTurns_c1 : decode cX6_mostTurns 31 = .ok (.iconst 0, 1) ∧ decode cX6_mostTurns 32 = .ok (.istore 4, 2) ∧ decode cX6_mostTurns 34 = .ok (.iload 4, 2) ∧ decode cX6_mostTurns 36 = .ok (.iload_n 3, 1) ∧ decode cX6_mostTurns 37 = .ok (.if_icmp .ge 40, 3) ∧ decode cX6_mostTurns 40 = .ok (.aload_n 0, 1) ∧ decode cX6_mostTurns 41 = .ok (.iload_n 1, 1) ∧ decode cX6_mostTurns 42 = .ok (.iload 4, 2) ∧ decode cX6_mostTurns 44 = .ok (.invokevirtual 223, 3) ∧ decode cX6_mostTurns 47 = .ok (.istore 5, 2) ∧ decode cX6_mostTurns 49 = .ok (.iload 5, 2) ∧ decode cX6_mostTurns 51 = .ok (.bipush (-5), 2) ∧ decode cX6_mostTurns 53 = .ok (.if_icmp .eq 18, 3) ∧ decode cX6_mostTurns 56 = .ok (.iload_n 2, 1) ∧ decode cX6_mostTurns 57 = .ok (.bipush (-5), 2) ∧ decode cX6_mostTurns 59 = .ok (.if_icmp .eq 9, 3) := by decide +kernel
theorem dX6_mostTurns_31 : Dc cX6_mostTurns 31 (.iconst 0) 1 32 := ⟨DX6_mostTurns_c1.1, rfl⟩
theorem dX6_mostTurns_32 : Dc cX6_mostTurns 32 (.istore 4) 2 34 := ⟨DX6_mostTurns_c1.2.1, rfl⟩
theorem dX6_mostTurns_34 : Dc cX6_mostTurns 34 (.iload 4) 2 36 := ⟨DX6_mostTurns_c1.2.2.1, rfl⟩
theorem dX6_mostTurns_36 : Dc cX6_mostTurns 36 (.iload_n 3) 1 37 := ⟨DX6_mostTurns_c1.2.2.2.1, rfl⟩
theorem dX6_mostTurns_37 : Db cX6_mostTurns 37 (fun o => .if_icmp .ge o) 40 77 := ⟨40, DX6_mostTurns_c1.2.2.2.2.1, rfl, rfl⟩
theorem dX6_mostTurns_40 : Dc cX6_mostTurns 40 (.aload_n 0) 1 41 := ⟨DX6_mostTurns_c1.2.2.2.2.2.1, rfl⟩
theorem dX6_mostTurns_41 : Dc cX6_mostTurns 41 (.iload_n 1) 1 42 := ⟨DX6_mostTurns_c1.2.2.2.2.2.2.1, rfl⟩
theorem dX6_mostTurns_42 : Dc cX6_mostTurns 42 (.iload 4) 2 44 := ⟨DX6_mostTurns_c1.2.2.2.2.2.2.2.1, rfl⟩
theorem dX6_mostTurns_44 : Dc cX6_mostTurns 44 (.invokevirtual 223) 3 47 := ⟨DX6_mostTurns_c1.2.2.2.2.2.2.2.2.1, rfl⟩
theorem dX6_mostTurns_47 : Dc cX6_mostTurns 47 (.istore 5) 2 49 := ⟨DX6_mostTurns_c1.2.2.2.2.2.2.2.2.2.1, rfl⟩
theorem dX6_mostTurns_49 : Dc cX6_mostTurns 49 (.iload 5) 2 51 := ⟨DX6_mostTurns_c1.2.2.2.2.2.2.2.2.2.2.1, rfl⟩
theorem dX6_mostTurns_51 : Dc cX6_mostTurns 51 (.bipush (-5)) 2 53 := ⟨DX6_mostTurns_c1.2.2.2.2.2.2.2.2.2.2.2.1, rfl⟩
theorem dX6_mostTurns_53 : Db cX6_mostTurns 53 (fun o => .if_icmp .eq o) 56 71 := ⟨18, DX6_mostTurns_c1.2.2.2.2.2.2.2.2.2.2.2.2.1, rfl, rfl⟩
theorem dX6_mostTurns_56 : Dc cX6_mostTurns 56 (.iload_n 2) 1 57 := ⟨DX6_mostTurns_c1.2.2.2.2.2.2.2.2.2.2.2.2.2.1, rfl⟩
theorem dX6_mostTurns_57 : Dc cX6_mostTurns 57 (.bipush (-5)) 2 59 := ⟨DX6_mostTurns_c1.2.2.2.2.2.2.2.2.2.2.2.2.2.2.1, rfl⟩
theorem dX6_mostTurns_59 : Db cX6_mostTurns 59 (fun o => .if_icmp .eq o) 62 68 := ⟨9, DX6_mostTurns_c1.2.2.2.2.2.2.2.2.2.2.2.2.2.2.2, rfl, rfl⟩
theorem DX6_mostTurns_c2 : decode cX6_mostTurns 62 = .ok (.iload 5, 2) ∧ decode cX6_mostTurns 64 = .ok (.iload_n 2, 1) ∧ decode cX6_mostTurns 65 = .ok (.if_icmp .ge 6, 3) ∧ decode cX6_mostTurns 68 = .ok (.iload 5, 2) ∧ decode cX6_mostTurns 70 = .ok (.istore_n 2, 1) ∧ decode cX6_mostTurns 71 = .ok (.iinc 4 1, 3) ∧ decode cX6_mostTurns 74 = .ok (.goto (-40), 3) ∧ decode cX6_mostTurns 77 = .ok (.iload_n 2, 1) ∧ decode cX6_mostTurns 78 = .ok (.ireturn, 1) := by decide +kernel
theorem dX6_mostTurns_62 : Dc cX6_mostTurns 62 (.iload 5) 2 64 := ⟨DX6_mostTurns_c2.1, rfl⟩
theorem dX6_mostTurns_64 : Dc cX6_mostTurns 64 (.iload_n 2) 1 65 := ⟨DX6_mostTurns_c2.2.1, rfl⟩
theorem dX6_mostTurns_65 : Db cX6_mostTurns 65 (fun o => .if_icmp .ge o) 68 71 := ⟨6, DX6_mostTurns_c2.2.2.1, rfl, rfl⟩
theorem dX6_mostTurns_68 : Dc cX6_mostTurns 68 (.iload 5) 2 70 := ⟨DX6_mostTurns_c2.2.2.2.1, rfl⟩
theorem dX6_mostTurns_70 : Dc cX6_mostTurns 70 (.istore_n 2) 1 71 := ⟨DX6_mostTurns_c2.2.2.2.2.1, rfl⟩
theorem dX6_mostTurns_71 : Dc cX6_mostTurns 71 (.iinc 4 1) 3 74 := ⟨DX6_mostTurns_c2.2.2.2.2.2.1, rfl⟩
theorem dX6_mostTurns_74 : Db cX6_mostTurns 74 .goto 77 34 := ⟨-40, DX6_mostTurns_c2.2.2.2.2.2.2.1, rfl, rfl⟩
theorem dX6_mostTurns_77 : Dc cX6_mostTurns 77 (.iload_n 2) 1 78 := ⟨DX6_mostTurns_c2.2.2.2.2.2.2.2.1, rfl⟩
theorem dX6_mostTurns_78 : Dc cX6_mostTurns 78 (.ireturn) 1 79 := ⟨DX6_mostTurns_c2.2.2.2.2.2.2.2.2, rfl⟩
theorem DX6_ifPlayed_c0 : decode cX6_ifPlayed 0 = .ok (.aload_n 0, 1) ∧ decode cX6_ifPlayed 1 = .ok (.getfield 12, 3) ∧ decode cX6_ifPlayed 4 = .ok (.getfield 115, 3) ∧ decode cX6_ifPlayed 7 = .ok (.iload_n 1, 1) ∧ decode cX6_ifPlayed 8 = .ok (.invokevirtual 105, 3) ∧ decode cX6_ifPlayed 11 = .ok (.ifCond .ne 5, 3) ∧ decode cX6_ifPlayed 14 = .ok (.iconst (-1), 1) ∧ decode cX6_ifPlayed 15 = .ok (.ireturn, 1) ∧ decode cX6_ifPlayed 16 = .ok (.iload_n 2, 1) ∧ decode cX6_ifPlayed 17 = .ok (.invokestatic 128, 3) ∧ decode cX6_ifPlayed 20 = .ok (.ifCond .eq 12, 3) ∧ decode cX6_ifPlayed 23 = .ok (.iload_n 3, 1) ∧ decode cX6_ifPlayed 24 = .ok (.ifCond .lt 8, 3) ∧ decode cX6_ifPlayed 27 = .ok (.iload_n 3, 1) ∧ decode cX6_ifPlayed 28 = .ok (.iconst 4, 1) ∧ decode cX6_ifPlayed 29 = .ok (.if_icmp .le 6, 3) := by decide +kernel
theorem dX6_ifPlayed_0 : Dc cX6_ifPlayed 0 (.aload_n 0) 1 1 := ⟨DX6_ifPlayed_c0.1, rfl⟩
theorem dX6_ifPlayed_1 : Dc cX6_ifPlayed 1 (.getfield 12) 3 4 := ⟨DX6_ifPlayed_c0.2.1, rfl⟩
theorem dX6_ifPlayed_4 : Dc cX6_ifPlayed 4 (.getfield 115) 3 7 := ⟨DX6_ifPlayed_c0.2.2.1, rfl⟩
theorem dX6_ifPlayed_7 : Dc cX6_ifPlayed 7 (.iload_n 1) 1 8 := ⟨DX6_ifPlayed_c0.2.2.2.1, rfl⟩
theorem dX6_ifPlayed_8 : Dc cX6_ifPlayed 8 (.invokevirtual 105) 3 11 := ⟨DX6_ifPlayed_c0.2.2.2.2.1, rfl⟩
theorem dX6_ifPlayed_11 : Db cX6_ifPlayed 11 (fun o => .ifCond .ne o) 14 16 := ⟨5, DX6_ifPlayed_c0.2.2.2.2.2.1, rfl, rfl⟩
theorem dX6_ifPlayed_14 : Dc cX6_ifPlayed 14 (.iconst (-1)) 1 15 := ⟨DX6_ifPlayed_c0.2.2.2.2.2.2.1, rfl⟩
theorem dX6_ifPlayed_15 : Dc cX6_ifPlayed 15 (.ireturn) 1 16 := ⟨DX6_ifPlayed_c0.2.2.2.2.2.2.2.1, rfl⟩
theorem dX6_ifPlayed_16 : Dc cX6_ifPlayed 16 (.iload_n 2) 1 17 := ⟨DX6_ifPlayed_c0.2.2.2.2.2.2.2.2.1, rfl⟩
theorem dX6_ifPlayed_17 : Dc cX6_ifPlayed 17 (.invokestatic 128) 3 20 := ⟨DX6_ifPlayed_c0.2.2.2.2.2.2.2.2.2.1, rfl⟩
theorem dX6_ifPlayed_20 : Db cX6_ifPlayed 20 (fun o => .ifCond .eq o) 23 32 := ⟨12, DX6_ifPlayed_c0.2.2.2.2.2.2.2.2.2.2.1, rfl, rfl⟩
theorem dX6_ifPlayed_23 : Dc cX6_ifPlayed 23 (.iload_n 3) 1 24 := ⟨DX6_ifPlayed_c0.2.2.2.2.2.2.2.2.2.2.2.1, rfl⟩
theorem dX6_ifPlayed_24 : Db cX6_ifPlayed 24 (fun o => .ifCond .lt o) 27 32 := ⟨8, DX6_ifPlayed_c0.2.2.2.2.2.2.2.2.2.2.2.2.1, rfl, rfl⟩
theorem dX6_ifPlayed_27 : Dc cX6_ifPlayed 27 (.iload_n 3) 1 28 := ⟨DX6_ifPlayed_c0.2.2.2.2.2.2.2.2.2.2.2.2.2.1, rfl⟩
theorem dX6_ifPlayed_28 : Dc cX6_ifPlayed 28 (.iconst 4) 1 29 := ⟨DX6_ifPlayed_c0.2.2.2.2.2.2.2.2.2.2.2.2.2.2.1, rfl⟩
theorem dX6_ifPlayed_29 : Db cX6_ifPlayed 29 (fun o => .if_icmp .le o) 32 35 := ⟨6, DX6_ifPlayed_c0.2.2.2.2.2.2.2.2.2.2.2.2.2.2.2, rfl, rfl⟩
theorem DX6_ifPlayed_c1 : decode cX6_ifPlayed 32 = .ok (.bipush (-2), 2) ∧ decode cX6_ifPlayed 34 = .ok (.ireturn, 1) ∧ decode cX6_ifPlayed 35 = .ok (.aload_n 0, 1) ∧ decode cX6_ifPlayed 36 = .ok (.getfield 43, 3) ∧ decode cX6_ifPlayed 39 = .ok (.aload_n 0, 1) ∧ decode cX6_ifPlayed 40 = .ok (.getfield 12, 3) ∧ decode cX6_ifPlayed 43 = .ok (.getfield 88, 3) ∧ decode cX6_ifPlayed 46 = .ok (.invokevirtual 226, 3) ∧ decode cX6_ifPlayed 49 = .ok (.aload_n 0, 1) ∧ decode cX6_ifPlayed 50 = .ok (.getfield 36, 3) ∧ decode cX6_ifPlayed 53 = .ok (.aload_n 0, 1) ∧ decode cX6_ifPlayed 54 = .ok (.getfield 43, 3) ∧ decode cX6_ifPlayed 57 = .ok (.aload_n 0, 1) ∧ decode cX6_ifPlayed 58 = .ok (.getfield 12, 3) ∧ decode cX6_ifPlayed 61 = .ok (.getfield 115, 3) ∧ decode cX6_ifPlayed 64 = .ok (.iload_n 1, 1) := by decide +kernel
theorem dX6_ifPlayed_32 : Dc cX6_ifPlayed 32 (.bipush (-2)) 2 34 := ⟨DX6_ifPlayed_c1.1, rfl⟩
theorem dX6_ifPlayed_34 : Dc cX6_ifPlayed 34 (.ireturn) 1 35 := ⟨DX6_ifPlayed_c1.2.1, rfl⟩
theorem dX6_ifPlayed_35 : Dc cX6_ifPlayed 35 (.aload_n 0) 1 36 := ⟨DX6_ifPlayed_c1.2.2.1, rfl⟩
theorem dX6_ifPlayed_36 : Dc cX6_ifPlayed 36 (.getfield 43) 3 39 := ⟨DX6_ifPlayed_c1.2.2.2.1, rfl⟩
theorem dX6_ifPlayed_39 : Dc cX6_ifPlayed 39 (.aload_n 0) 1 40 := ⟨DX6_ifPlayed_c1.2.2.2.2.1, rfl⟩
theorem dX6_ifPlayed_40 : Dc cX6_ifPlayed 40 (.getfield 12) 3 43 := ⟨DX6_ifPlayed_c1.2.2.2.2.2.1, rfl⟩
theorem dX6_ifPlayed_43 : Dc cX6_ifPlayed 43 (.getfield 88) 3 46 := ⟨DX6_ifPlayed_c1.2.2.2.2.2.2.1, rfl⟩
theorem dX6_ifPlayed_46 : Dc cX6_ifPlayed 46 (.invokevirtual 226) 3 49 := ⟨DX6_ifPlayed_c1.2.2.2.2.2.2.2.1, rfl⟩
theorem dX6_ifPlayed_49 : Dc cX6_ifPlayed 49 (.aload_n 0) 1 50 := ⟨DX6_ifPlayed_c1.2.2.2.2.2.2.2.2.1, rfl⟩
theorem dX6_ifPlayed_50 : Dc cX6_ifPlayed 50 (.getfield 36) 3 53 := ⟨DX6_ifPlayed_c1.2.2.2.2.2.2.2.2.2.1, rfl⟩
theorem dX6_ifPlayed_53 : Dc cX6_ifPlayed 53 (.aload_n 0) 1 54 := ⟨DX6_ifPlayed_c1.2.2.2.2.2.2.2.2.2.2.1, rfl⟩
theorem dX6_ifPlayed_54 : Dc cX6_ifPlayed 54 (.getfield 43) 3 57 := ⟨DX6_ifPlayed_c1.2.2.2.2.2.2.2.2.2.2.2.1, rfl⟩
theorem dX6_ifPlayed_57 : Dc cX6_ifPlayed 57 (.aload_n 0) 1 58 := ⟨DX6_ifPlayed_c1.2.2.2.2.2.2.2.2.2.2.2.2.1, rfl⟩
theorem dX6_ifPlayed_58 : Dc cX6_ifPlayed 58 (.getfield 12) 3 61 := ⟨DX6_ifPlayed_c1.2.2.2.2.2.2.2.2.2.2.2.2.2.1, rfl⟩
theorem dX6_ifPlayed_61 : Dc cX6_ifPlayed 61 (.getfield 115) 3 64 := ⟨DX6_ifPlayed_c1.2.2.2.2.2.2.2.2.2.2.2.2.2.2.1, rfl⟩
theorem dX6_ifPlayed_64 : Dc cX6_ifPlayed 64 (.iload_n 1) 1 65 := ⟨DX6_ifPlayed_c1.2.2.2.2.2.2.2.2.2.2.2.2.2.2.2, rfl⟩
theorem DX6_ifPlayed_c2 : decode cX6_ifPlayed 65 = .ok (.iload_n 2, 1) ∧ decode cX6_ifPlayed 66 = .ok (.invokevirtual 229, 3) ∧ decode cX6_ifPlayed 69 = .ok (.iload_n 3, 1) ∧ decode cX6_ifPlayed 70 = .ok (.tableswitch 62 0 3 #[30, 38, 46, 54], 30) ∧ decode cX6_ifPlayed 100 = .ok (.aload_n 0, 1) ∧ decode cX6_ifPlayed 101 = .ok (.getfield 36, 3) ∧ decode cX6_ifPlayed 104 = .ok (.getfield 233, 3) ∧ decode cX6_ifPlayed 107 = .ok (.ireturn, 1) ∧ decode cX6_ifPlayed 108 = .ok (.aload_n 0, 1) ∧ decode cX6_ifPlayed 109 = .ok (.getfield 36, 3) ∧ decode cX6_ifPlayed 112 = .ok (.getfield 236, 3) ∧ decode cX6_ifPlayed 115 = .ok (.ireturn, 1) ∧ decode cX6_ifPlayed 116 = .ok (.aload_n 0, 1) ∧ decode cX6_ifPlayed 117 = .ok (.getfield 43, 3) ∧ decode cX6_ifPlayed 120 = .ok (.invokevirtual 194, 3) ∧ decode cX6_ifPlayed 123 = .ok (.ireturn, 1) := by decide +kernel
theorem dX6_ifPlayed_65 : Dc cX6_ifPlayed 65 (.iload_n 2) 1 66 := ⟨DX6_ifPlayed_c2.1, rfl⟩
theorem dX6_ifPlayed_66 : Dc cX6_ifPlayed 66 (.invokevirtual 229) 3 69 := ⟨DX6_ifPlayed_c2.2.1, rfl⟩
theorem dX6_ifPlayed_69 : Dc cX6_ifPlayed 69 (.iload_n 3) 1 70 := ⟨DX6_ifPlayed_c2.2.2.1, rfl⟩
theorem dX6_ifPlayed_70 : decode cX6_ifPlayed 70 = .ok (.tableswitch 62 0 3 #[30, 38, 46, 54], 30) := DX6_ifPlayed_c2.2.2.2.1
theorem dX6_ifPlayed_100 : Dc cX6_ifPlayed 100 (.aload_n 0) 1 101 := ⟨DX6_ifPlayed_c2.2.2.2.2.1, rfl⟩
theorem dX6_ifPlayed_101 : Dc cX6_ifPlayed 101 (.getfield 36) 3 104 := ⟨DX6_ifPlayed_c2.2.2.2.2.2.1, rfl⟩
theorem dX6_ifPlayed_104 : Dc cX6_ifPlayed 104 (.getfield 233) 3 107 := ⟨DX6_ifPlayed_c2.2.2.2.2.2.2.1, rfl⟩
theorem dX6_ifPlayed_107 : Dc cX6_ifPlayed 107 (.ireturn) 1 108 := ⟨DX6_ifPlayed_c2.2.2.2.2.2.2.2.1, rfl⟩
theorem dX6_ifPlayed_108 : Dc cX6_ifPlayed 108 (.aload_n 0) 1 109 := ⟨DX6_ifPlayed_c2.2.2.2.2.2.2.2.2.1, rfl⟩
theorem dX6_ifPlayed_109 : Dc cX6_ifPlayed 109 (.getfield 36) 3 112 := ⟨DX6_ifPlayed_c2.2.2.2.2.2.2.2.2.2.1, rfl⟩
theorem dX6_ifPlayed_112 : Dc cX6_ifPlayed 112 (.getfield 236) 3 115 := ⟨DX6_ifPlayed_c2.2.2.2.2.2.2.2.2.2.2.1, rfl⟩
theorem dX6_ifPlayed_115 : Dc cX6_ifPlayed 115 (.ireturn) 1 116 := ⟨DX6_ifPlayed_c2.2.2.2.2.2.2.2.2.2.2.2.1, rfl⟩
theorem dX6_ifPlayed_116 : Dc cX6_ifPlayed 116 (.aload_n 0) 1 117 := ⟨DX6_ifPlayed_c2.2.2.2.2.2.2.2.2.2.2.2.2.1, rfl⟩
theorem dX6_ifPlayed_117 : Dc cX6_ifPlayed 117 (.getfield 43) 3 120 := ⟨DX6_ifPlayed_c2.2.2.2.2.2.2.2.2.2.2.2.2.2.1, rfl⟩
theorem dX6_ifPlayed_120 : Dc cX6_ifPlayed 120 (.invokevirtual 194) 3 123 := ⟨DX6_ifPlayed_c2.2.2.2.2.2.2.2.2.2.2.2.2.2.2.1, rfl⟩
theorem dX6_ifPlayed_123 : Dc cX6_ifPlayed 123 (.ireturn) 1 124 := ⟨DX6_ifPlayed_c2.2.2.2.2.2.2.2.2.2.2.2.2.2.2.2, rfl⟩
theorem DX6_ifPlayed_c3 : decode cX6_ifPlayed 124 = .ok (.aload_n 0, 1) ∧ decode cX6_ifPlayed 125 = .ok (.getfield 43, 3) ∧ decode cX6_ifPlayed 128 = .ok (.getfield 191, 3) ∧ decode cX6_ifPlayed 131 = .ok (.ireturn, 1) ∧ decode cX6_ifPlayed 132 = .ok (.aload_n 0, 1) ∧ decode cX6_ifPlayed 133 = .ok (.getfield 36, 3) ∧ decode cX6_ifPlayed 136 = .ok (.getfield 239, 3) ∧ decode cX6_ifPlayed 139 = .ok (.ireturn, 1) := by decide +kernel
theorem dX6_ifPlayed_124 : Dc cX6_ifPlayed 124 (.aload_n 0) 1 125 := ⟨DX6_ifPlayed_c3.1, rfl⟩
theorem dX6_ifPlayed_125 : Dc cX6_ifPlayed 125 (.getfield 43) 3 128 := ⟨DX6_ifPlayed_c3.2.1, rfl⟩
theorem dX6_ifPlayed_128 : Dc cX6_ifPlayed 128 (.getfield 191) 3 131 := ⟨DX6_ifPlayed_c3.2.2.1, rfl⟩
theorem dX6_ifPlayed_131 : Dc cX6_ifPlayed 131 (.ireturn) 1 132 := ⟨DX6_ifPlayed_c3.2.2.2.1, rfl⟩
theorem dX6_ifPlayed_132 : Dc cX6_ifPlayed 132 (.aload_n 0) 1 133 := ⟨DX6_ifPlayed_c3.2.2.2.2.1, rfl⟩
theorem dX6_ifPlayed_133 : Dc cX6_ifPlayed 133 (.getfield 36) 3 136 := ⟨DX6_ifPlayed_c3.2.2.2.2.2.1, rfl⟩
theorem dX6_ifPlayed_136 : Dc cX6_ifPlayed 136 (.getfield 239) 3 139 := ⟨DX6_ifPlayed_c3.2.2.2.2.2.2.1, rfl⟩
theorem dX6_ifPlayed_139 : Dc cX6_ifPlayed 139 (.ireturn) 1 140 := ⟨DX6_ifPlayed_c3.2.2.2.2.2.2.2, rfl⟩
theorem DX6_fewestTurns_c0 : decode cX6_fewestTurns 0 = .ok (.aload_n 0, 1) ∧ decode cX6_fewestTurns 1 = .ok (.getfield 12, 3) ∧ decode cX6_fewestTurns 4 = .ok (.getfield 115, 3) ∧ decode cX6_fewestTurns 7 = .ok (.iload_n 1, 1) ∧ decode cX6_fewestTurns 8 = .ok (.invokevirtual 105, 3) ∧ decode cX6_fewestTurns 11 = .ok (.ifCond .eq 10, 3) ∧ decode cX6_fewestTurns 14 = .ok (.iload_n 2, 1) ∧ decode cX6_fewestTurns 15 = .ok (.invokestatic 175, 3) ∧ decode cX6_fewestTurns 18 = .ok (.ifCond .ne 5, 3) ∧ decode cX6_fewestTurns 21 = .ok (.iconst (-1), 1) ∧ decode cX6_fewestTurns 22 = .ok (.ireturn, 1) ∧ decode cX6_fewestTurns 23 = .ok (.iload_n 3, 1) ∧ decode cX6_fewestTurns 24 = .ok (.ifCond .lt 9, 3) ∧ decode cX6_fewestTurns 27 = .ok (.iload_n 3, 1) ∧ decode cX6_fewestTurns 28 = .ok (.bipush 100, 2) ∧ decode cX6_fewestTurns 30 = .ok (.if_icmp .lt 6, 3) := by decide +kernel
theorem dX6_fewestTurns_0 : Dc cX6_fewestTurns 0 (.aload_n 0) 1 1 := ⟨DX6_fewestTurns_c0.1, rfl⟩
theorem dX6_fewestTurns_1 : Dc cX6_fewestTurns 1 (.getfield 12) 3 4 := ⟨DX6_fewestTurns_c0.2.1, rfl⟩
theorem dX6_fewestTurns_4 : Dc cX6_fewestTurns 4 (.getfield 115) 3 7 := ⟨DX6_fewestTurns_c0.2.2.1, rfl⟩
theorem dX6_fewestTurns_7 : Dc cX6_fewestTurns 7 (.iload_n 1) 1 8 := ⟨DX6_fewestTurns_c0.2.2.2.1, rfl⟩
theorem dX6_fewestTurns_8 : Dc cX6_fewestTurns 8 (.invokevirtual 105) 3 11 := ⟨DX6_fewestTurns_c0.2.2.2.2.1, rfl⟩
theorem dX6_fewestTurns_11 : Db cX6_fewestTurns 11 (fun o => .ifCond .eq o) 14 21 := ⟨10, DX6_fewestTurns_c0.2.2.2.2.2.1, rfl, rfl⟩
theorem dX6_fewestTurns_14 : Dc cX6_fewestTurns 14 (.iload_n 2) 1 15 := ⟨DX6_fewestTurns_c0.2.2.2.2.2.2.1, rfl⟩
theorem dX6_fewestTurns_15 : Dc cX6_fewestTurns 15 (.invokestatic 175) 3 18 := ⟨DX6_fewestTurns_c0.2.2.2.2.2.2.2.1, rfl⟩
theorem dX6_fewestTurns_18 : Db cX6_fewestTurns 18 (fun o => .ifCond .ne o) 21 23 := ⟨5, DX6_fewestTurns_c0.2.2.2.2.2.2.2.2.1, rfl, rfl⟩
theorem dX6_fewestTurns_21 : Dc cX6_fewestTurns 21 (.iconst (-1)) 1 22 := ⟨DX6_fewestTurns_c0.2.2.2.2.2.2.2.2.2.1, rfl⟩
theorem dX6_fewestTurns_22 : Dc cX6_fewestTurns 22 (.ireturn) 1 23 := ⟨DX6_fewestTurns_c0.2.2.2.2.2.2.2.2.2.2.1, rfl⟩
theorem dX6_fewestTurns_23 : Dc cX6_fewestTurns 23 (.iload_n 3) 1 24 := ⟨DX6_fewestTurns_c0.2.2.2.2.2.2.2.2.2.2.2.1, rfl⟩
theorem dX6_fewestTurns_24 : Db cX6_fewestTurns 24 (fun o => .ifCond .lt o) 27 33 := ⟨9, DX6_fewestTurns_c0.2.2.2.2.2.2.2.2.2.2.2.2.1, rfl, rfl⟩
theorem dX6_fewestTurns_27 : Dc cX6_fewestTurns 27 (.iload_n 3) 1 28 := ⟨DX6_fewestTurns_c0.2.2.2.2.2.2.2.2.2.2.2.2.2.1, rfl⟩
theorem dX6_fewestTurns_28 : Dc cX6_fewestTurns 28 (.bipush 100) 2 30 := ⟨DX6_fewestTurns_c0.2.2.2.2.2.2.2.2.2.2.2.2.2.2.1, rfl⟩
theorem dX6_fewestTurns_30 : Db cX6_fewestTurns 30 (fun o => .if_icmp .lt o) 33 36 := ⟨6, DX6_fewestTurns_c0.2.2.2.2.2.2.2.2.2.2.2.2.2.2.2, rfl, rfl⟩
theorem DX6_fewestTurns_c1 : decode cX6_fewestTurns 33 = .ok (.bipush (-2), 2) ∧ decode cX6_fewestTurns 35 = .ok (.ireturn, 1) ∧ decode cX6_fewestTurns 36 = .ok (.aload_n 0, 1) ∧ decode cX6_fewestTurns 37 = .ok (.getfield 43, 3) ∧ decode cX6_fewestTurns 40 = .ok (.aload_n 0, 1) ∧ decode cX6_fewestTurns 41 = .ok (.getfield 12, 3) ∧ decode cX6_fewestTurns 44 = .ok (.getfield 88, 3) ∧ decode cX6_fewestTurns 47 = .ok (.invokevirtual 226, 3) ∧ decode cX6_fewestTurns 50 = .ok (.aload_n 0, 1) ∧ decode cX6_fewestTurns 51 = .ok (.getfield 36, 3) ∧ decode cX6_fewestTurns 54 = .ok (.invokevirtual 242, 3) ∧ decode cX6_fewestTurns 57 = .ok (.iconst 1, 1) ∧ decode cX6_fewestTurns 58 = .ok (.istore 4, 2) ∧ decode cX6_fewestTurns 60 = .ok (.iconst 0, 1) ∧ decode cX6_fewestTurns 61 = .ok (.istore 5, 2) ∧ decode cX6_fewestTurns 63 = .ok (.iload 4, 2) := by decide +kernel
theorem dX6_fewestTurns_33 : Dc cX6_fewestTurns 33 (.bipush (-2)) 2 35 := ⟨DX6_fewestTurns_c1.1, rfl⟩
theorem dX6_fewestTurns_35 : Dc cX6_fewestTurns 35 (.ireturn) 1 36 := ⟨DX6_fewestTurns_c1.2.1, rfl⟩
theorem dX6_fewestTurns_36 : Dc cX6_fewestTurns 36 (.aload_n 0) 1 37 := ⟨DX6_fewestTurns_c1.2.2.1, rfl⟩
theorem dX6_fewestTurns_37 : Dc cX6_fewestTurns 37 (.getfield 43) 3 40 := ⟨DX6_fewestTurns_c1.2.2.2.1, rfl⟩
theorem dX6_fewestTurns_40 : Dc cX6_fewestTurns 40 (.aload_n 0) 1 41 := ⟨DX6_fewestTurns_c1.2.2.2.2.1, rfl⟩
theorem dX6_fewestTurns_41 : Dc cX6_fewestTurns 41 (.getfield 12) 3 44 := ⟨DX6_fewestTurns_c1.2.2.2.2.2.1, rfl⟩
theorem dX6_fewestTurns_44 : Dc cX6_fewestTurns 44 (.getfield 88) 3 47 := ⟨DX6_fewestTurns_c1.2.2.2.2.2.2.1, rfl⟩
theorem dX6_fewestTurns_47 : Dc cX6_fewestTurns 47 (.invokevirtual 226) 3 50 := ⟨DX6_fewestTurns_c1.2.2.2.2.2.2.2.1, rfl⟩
theorem dX6_fewestTurns_50 : Dc cX6_fewestTurns 50 (.aload_n 0) 1 51 := ⟨DX6_fewestTurns_c1.2.2.2.2.2.2.2.2.1, rfl⟩
theorem dX6_fewestTurns_51 : Dc cX6_fewestTurns 51 (.getfield 36) 3 54 := ⟨DX6_fewestTurns_c1.2.2.2.2.2.2.2.2.2.1, rfl⟩
theorem dX6_fewestTurns_54 : Dc cX6_fewestTurns 54 (.invokevirtual 242) 3 57 := ⟨DX6_fewestTurns_c1.2.2.2.2.2.2.2.2.2.2.1, rfl⟩
theorem dX6_fewestTurns_57 : Dc cX6_fewestTurns 57 (.iconst 1) 1 58 := ⟨DX6_fewestTurns_c1.2.2.2.2.2.2.2.2.2.2.2.1, rfl⟩
theorem dX6_fewestTurns_58 : Dc cX6_fewestTurns 58 (.istore 4) 2 60 := ⟨DX6_fewestTurns_c1.2.2.2.2.2.2.2.2.2.2.2.2.1, rfl⟩
theorem dX6_fewestTurns_60 : Dc cX6_fewestTurns 60 (.iconst 0) 1 61 := ⟨DX6_fewestTurns_c1.2.2.2.2.2.2.2.2.2.2.2.2.2.1, rfl⟩
theorem dX6_fewestTurns_61 : Dc cX6_fewestTurns 61 (.istore 5) 2 63 := ⟨DX6_fewestTurns_c1.2.2.2.2.2.2.2.2.2.2.2.2.2.2.1, rfl⟩
theorem dX6_fewestTurns_63 : Dc cX6_fewestTurns 63 (.iload 4) 2 65 := ⟨DX6_fewestTurns_c1.2.2.2.2.2.2.2.2.2.2.2.2.2.2.2, rfl⟩
theorem DX6_fewestTurns_c2 : decode cX6_fewestTurns 65 = .ok (.ifCond .eq 56, 3) ∧ decode cX6_fewestTurns 68 = .ok (.iload 5, 2) ∧ decode cX6_fewestTurns 70 = .ok (.bipush 99, 2) ∧ decode cX6_fewestTurns 72 = .ok (.if_icmp .ge 49, 3) ∧ decode cX6_fewestTurns 75 = .ok (.aload_n 0, 1) ∧ decode cX6_fewestTurns 76 = .ok (.getfield 36, 3) ∧ decode cX6_fewestTurns 79 = .ok (.aload_n 0, 1) ∧ decode cX6_fewestTurns 80 = .ok (.getfield 43, 3) ∧ decode cX6_fewestTurns 83 = .ok (.aload_n 0, 1) ∧ decode cX6_fewestTurns 84 = .ok (.getfield 12, 3) ∧ decode cX6_fewestTurns 87 = .ok (.getfield 115, 3) ∧ decode cX6_fewestTurns 90 = .ok (.iload_n 1, 1) ∧ decode cX6_fewestTurns 91 = .ok (.iload 5, 2) ∧ decode cX6_fewestTurns 93 = .ok (.invokevirtual 245, 3) ∧ decode cX6_fewestTurns 96 = .ok (.istore 4, 2) ∧ decode cX6_fewestTurns 98 = .ok (.aload_n 0, 1) := by decide +kernel
theorem dX6_fewestTurns_65 : Db cX6_fewestTurns 65 (fun o => .ifCond .eq o) 68 121 := ⟨56, DX6_fewestTurns_c2.1, rfl, rfl⟩
theorem dX6_fewestTurns_68 : Dc cX6_fewestTurns 68 (.iload 5) 2 70 := ⟨DX6_fewestTurns_c2.2.1, rfl⟩
theorem dX6_fewestTurns_70 : Dc cX6_fewestTurns 70 (.bipush 99) 2 72 := ⟨DX6_fewestTurns_c2.2.2.1, rfl⟩
theorem dX6_fewestTurns_72 : Db cX6_fewestTurns 72 (fun o => .if_icmp .ge o) 75 121 := ⟨49, DX6_fewestTurns_c2.2.2.2.1, rfl, rfl⟩
theorem dX6_fewestTurns_75 : Dc cX6_fewestTurns 75 (.aload_n 0) 1 76 := ⟨DX6_fewestTurns_c2.2.2.2.2.1, rfl⟩
theorem dX6_fewestTurns_76 : Dc cX6_fewestTurns 76 (.getfield 36) 3 79 := ⟨DX6_fewestTurns_c2.2.2.2.2.2.1, rfl⟩
theorem dX6_fewestTurns_79 : Dc cX6_fewestTurns 79 (.aload_n 0) 1 80 := ⟨DX6_fewestTurns_c2.2.2.2.2.2.2.1, rfl⟩
theorem dX6_fewestTurns_80 : Dc cX6_fewestTurns 80 (.getfield 43) 3 83 := ⟨DX6_fewestTurns_c2.2.2.2.2.2.2.2.1, rfl⟩
theorem dX6_fewestTurns_83 : Dc cX6_fewestTurns 83 (.aload_n 0) 1 84 := ⟨DX6_fewestTurns_c2.2.2.2.2.2.2.2.2.1, rfl⟩
theorem dX6_fewestTurns_84 : Dc cX6_fewestTurns 84 (.getfield 12) 3 87 := ⟨DX6_fewestTurns_c2.2.2.2.2.2.2.2.2.2.1, rfl⟩
theorem dX6_fewestTurns_87 : Dc cX6_fewestTurns 87 (.getfield 115) 3 90 := ⟨DX6_fewestTurns_c2.2.2.2.2.2.2.2.2.2.2.1, rfl⟩
theorem dX6_fewestTurns_90 : Dc cX6_fewestTurns 90 (.iload_n 1) 1 91 := ⟨DX6_fewestTurns_c2.2.2.2.2.2.2.2.2.2.2.2.1, rfl⟩
theorem dX6_fewestTurns_91 : Dc cX6_fewestTurns 91 (.iload 5) 2 93 := ⟨DX6_fewestTurns_c2.2.2.2.2.2.2.2.2.2.2.2.2.1, rfl⟩
theorem dX6_fewestTurns_93 : Dc cX6_fewestTurns 93 (.invokevirtual 245) 3 96 := ⟨DX6_fewestTurns_c2.2.2.2.2.2.2.2.2.2.2.2.2.2.1, rfl⟩
theorem dX6_fewestTurns_96 : Dc cX6_fewestTurns 96 (.istore 4) 2 98 := ⟨DX6_fewestTurns_c2.2.2.2.2.2.2.2.2.2.2.2.2.2.2.1, rfl⟩
theorem dX6_fewestTurns_98 : Dc cX6_fewestTurns 98 (.aload_n 0) 1 99 := ⟨DX6_fewestTurns_c2.2.2.2.2.2.2.2.2.2.2.2.2.2.2.2, rfl⟩
theorem DX6_fewestTurns_c3 : decode cX6_fewestTurns 99 = .ok (.getfield 43, 3) ∧ decode cX6_fewestTurns 102 = .ok (.iload_n 2, 1) ∧ decode cX6_fewestTurns 103 = .ok (.invokevirtual 178, 3) ∧ decode cX6_fewestTurns 106 = .ok (.iload_n 3, 1) ∧ decode cX6_fewestTurns 107 = .ok (.if_icmp .ne 8, 3) ∧ decode cX6_fewestTurns 110 = .ok (.iload 5, 2) ∧ decode cX6_fewestTurns 112 = .ok (.iconst 1, 1) ∧ decode cX6_fewestTurns 113 = .ok (.iadd, 1) ∧ decode cX6_fewestTurns 114 = .ok (.ireturn, 1) ∧ decode cX6_fewestTurns 115 = .ok (.iinc 5 1, 3) ∧ decode cX6_fewestTurns 118 = .ok (.goto (-55), 3) ∧ decode cX6_fewestTurns 121 = .ok (.bipush (-5), 2) ∧ decode cX6_fewestTurns 123 = .ok (.ireturn, 1) := by decide +kernel
theorem dX6_fewestTurns_99 : Dc cX6_fewestTurns 99 (.getfield 43) 3 102 := ⟨DX6_fewestTurns_c3.1, rfl⟩
theorem dX6_fewestTurns_102 : Dc cX6_fewestTurns 102 (.iload_n 2) 1 103 := ⟨DX6_fewestTurns_c3.2.1, rfl⟩
theorem dX6_fewestTurns_103 : Dc cX6_fewestTurns 103 (.invokevirtual 178) 3 106 := ⟨DX6_fewestTurns_c3.2.2.1, rfl⟩
theorem dX6_fewestTurns_106 : Dc cX6_fewestTurns 106 (.iload_n 3) 1 107 := ⟨DX6_fewestTurns_c3.2.2.2.1, rfl⟩
theorem dX6_fewestTurns_107 : Db cX6_fewestTurns 107 (fun o => .if_icmp .ne o) 110 115 := ⟨8, DX6_fewestTurns_c3.2.2.2.2.1, rfl, rfl⟩
theorem dX6_fewestTurns_110 : Dc cX6_fewestTurns 110 (.iload 5) 2 112 := ⟨DX6_fewestTurns_c3.2.2.2.2.2.1, rfl⟩
theorem dX6_fewestTurns_112 : Dc cX6_fewestTurns 112 (.iconst 1) 1 113 := ⟨DX6_fewestTurns_c3.2.2.2.2.2.2.1, rfl⟩
theorem dX6_fewestTurns_113 : Dc cX6_fewestTurns 113 (.iadd) 1 114 := ⟨DX6_fewestTurns_c3.2.2.2.2.2.2.2.1, rfl⟩
theorem dX6_fewestTurns_114 : Dc cX6_fewestTurns 114 (.ireturn) 1 115 := ⟨DX6_fewestTurns_c3.2.2.2.2.2.2.2.2.1, rfl⟩
theorem dX6_fewestTurns_115 : Dc cX6_fewestTurns 115 (.iinc 5 1) 3 118 := ⟨DX6_fewestTurns_c3.2.2.2.2.2.2.2.2.2.1, rfl⟩
theorem dX6_fewestTurns_118 : Db cX6_fewestTurns 118 .goto 121 63 := ⟨-55, DX6_fewestTurns_c3.2.2.2.2.2.2.2.2.2.2.1, rfl, rfl⟩
theorem dX6_fewestTurns_121 : Dc cX6_fewestTurns 121 (.bipush (-5)) 2 123 := ⟨DX6_fewestTurns_c3.2.2.2.2.2.2.2.2.2.2.2.1, rfl⟩
theorem dX6_fewestTurns_123 : Dc cX6_fewestTurns 123 (.ireturn) 1 124 := ⟨DX6_fewestTurns_c3.2.2.2.2.2.2.2.2.2.2.2.2, rfl⟩
theorem DX6_isVerb_c0 : decode cX6_isVerb 0 = .ok (.iload_n 0, 1) ∧ decode cX6_isVerb 1 = .ok (.ifCond .lt 12, 3) ∧ decode cX6_isVerb 4 = .ok (.iload_n 0, 1) ∧ decode cX6_isVerb 5 = .ok (.iconst 5, 1) ∧ decode cX6_isVerb 6 = .ok (.if_icmp .gt 7, 3) ∧ decode cX6_isVerb 9 = .ok (.iconst 1, 1) ∧ decode cX6_isVerb 10 = .ok (.goto 4, 3) ∧ decode cX6_isVerb 13 = .ok (.iconst 0, 1) ∧ decode cX6_isVerb 14 = .ok (.ireturn, 1) := by decide +kernel
theorem dX6_isVerb_0 : Dc cX6_isVerb 0 (.iload_n 0) 1 1 := ⟨DX6_isVerb_c0.1, rfl⟩
theorem dX6_isVerb_1 : Db cX6_isVerb 1 (fun o => .ifCond .lt o) 4 13 := ⟨12, DX6_isVerb_c0.2.1, rfl, rfl⟩
theorem dX6_isVerb_4 : Dc cX6_isVerb 4 (.iload_n 0) 1 5 := ⟨DX6_isVerb_c0.2.2.1, rfl⟩
theorem dX6_isVerb_5 : Dc cX6_isVerb 5 (.iconst 5) 1 6 := ⟨DX6_isVerb_c0.2.2.2.1, rfl⟩
theorem dX6_isVerb_6 : Db cX6_isVerb 6 (fun o => .if_icmp .gt o) 9 13 := ⟨7, DX6_isVerb_c0.2.2.2.2.1, rfl, rfl⟩
theorem dX6_isVerb_9 : Dc cX6_isVerb 9 (.iconst 1) 1 10 := ⟨DX6_isVerb_c0.2.2.2.2.2.1, rfl⟩
theorem dX6_isVerb_10 : Db cX6_isVerb 10 .goto 13 14 := ⟨4, DX6_isVerb_c0.2.2.2.2.2.2.1, rfl, rfl⟩
theorem dX6_isVerb_13 : Dc cX6_isVerb 13 (.iconst 0) 1 14 := ⟨DX6_isVerb_c0.2.2.2.2.2.2.2.1, rfl⟩
theorem dX6_isVerb_14 : Dc cX6_isVerb 14 (.ireturn) 1 15 := ⟨DX6_isVerb_c0.2.2.2.2.2.2.2.2, rfl⟩
theorem DX6_isCell_c0 : decode cX6_isCell 0 = .ok (.iload_n 0, 1) ∧ decode cX6_isCell 1 = .ok (.ifCond .lt 13, 3) ∧ decode cX6_isCell 4 = .ok (.iload_n 0, 1) ∧ decode cX6_isCell 5 = .ok (.bipush 30, 2) ∧ decode cX6_isCell 7 = .ok (.if_icmp .ge 7, 3) ∧ decode cX6_isCell 10 = .ok (.iconst 1, 1) ∧ decode cX6_isCell 11 = .ok (.goto 4, 3) ∧ decode cX6_isCell 14 = .ok (.iconst 0, 1) ∧ decode cX6_isCell 15 = .ok (.ireturn, 1) := by decide +kernel
theorem dX6_isCell_0 : Dc cX6_isCell 0 (.iload_n 0) 1 1 := ⟨DX6_isCell_c0.1, rfl⟩
theorem dX6_isCell_1 : Db cX6_isCell 1 (fun o => .ifCond .lt o) 4 14 := ⟨13, DX6_isCell_c0.2.1, rfl, rfl⟩
theorem dX6_isCell_4 : Dc cX6_isCell 4 (.iload_n 0) 1 5 := ⟨DX6_isCell_c0.2.2.1, rfl⟩
theorem dX6_isCell_5 : Dc cX6_isCell 5 (.bipush 30) 2 7 := ⟨DX6_isCell_c0.2.2.2.1, rfl⟩
theorem dX6_isCell_7 : Db cX6_isCell 7 (fun o => .if_icmp .ge o) 10 14 := ⟨7, DX6_isCell_c0.2.2.2.2.1, rfl, rfl⟩
theorem dX6_isCell_10 : Dc cX6_isCell 10 (.iconst 1) 1 11 := ⟨DX6_isCell_c0.2.2.2.2.2.1, rfl⟩
theorem dX6_isCell_11 : Db cX6_isCell 11 .goto 14 15 := ⟨4, DX6_isCell_c0.2.2.2.2.2.2.1, rfl, rfl⟩
theorem dX6_isCell_14 : Dc cX6_isCell 14 (.iconst 0) 1 15 := ⟨DX6_isCell_c0.2.2.2.2.2.2.2.1, rfl⟩
theorem dX6_isCell_15 : Dc cX6_isCell 15 (.ireturn) 1 16 := ⟨DX6_isCell_c0.2.2.2.2.2.2.2.2, rfl⟩
theorem DX6_isTurns_c0 : decode cX6_isTurns 0 = .ok (.iload_n 0, 1) ∧ decode cX6_isTurns 1 = .ok (.iconst 1, 1) ∧ decode cX6_isTurns 2 = .ok (.if_icmp .lt 13, 3) ∧ decode cX6_isTurns 5 = .ok (.iload_n 0, 1) ∧ decode cX6_isTurns 6 = .ok (.bipush 99, 2) ∧ decode cX6_isTurns 8 = .ok (.if_icmp .gt 7, 3) ∧ decode cX6_isTurns 11 = .ok (.iconst 1, 1) ∧ decode cX6_isTurns 12 = .ok (.goto 4, 3) ∧ decode cX6_isTurns 15 = .ok (.iconst 0, 1) ∧ decode cX6_isTurns 16 = .ok (.ireturn, 1) := by decide +kernel
theorem dX6_isTurns_0 : Dc cX6_isTurns 0 (.iload_n 0) 1 1 := ⟨DX6_isTurns_c0.1, rfl⟩
theorem dX6_isTurns_1 : Dc cX6_isTurns 1 (.iconst 1) 1 2 := ⟨DX6_isTurns_c0.2.1, rfl⟩
theorem dX6_isTurns_2 : Db cX6_isTurns 2 (fun o => .if_icmp .lt o) 5 15 := ⟨13, DX6_isTurns_c0.2.2.1, rfl, rfl⟩
theorem dX6_isTurns_5 : Dc cX6_isTurns 5 (.iload_n 0) 1 6 := ⟨DX6_isTurns_c0.2.2.2.1, rfl⟩
theorem dX6_isTurns_6 : Dc cX6_isTurns 6 (.bipush 99) 2 8 := ⟨DX6_isTurns_c0.2.2.2.2.1, rfl⟩
theorem dX6_isTurns_8 : Db cX6_isTurns 8 (fun o => .if_icmp .gt o) 11 15 := ⟨7, DX6_isTurns_c0.2.2.2.2.2.1, rfl, rfl⟩
theorem dX6_isTurns_11 : Dc cX6_isTurns 11 (.iconst 1) 1 12 := ⟨DX6_isTurns_c0.2.2.2.2.2.2.1, rfl⟩
theorem dX6_isTurns_12 : Db cX6_isTurns 12 .goto 15 16 := ⟨4, DX6_isTurns_c0.2.2.2.2.2.2.2.1, rfl, rfl⟩
theorem dX6_isTurns_15 : Dc cX6_isTurns 15 (.iconst 0) 1 16 := ⟨DX6_isTurns_c0.2.2.2.2.2.2.2.2.1, rfl⟩
theorem dX6_isTurns_16 : Dc cX6_isTurns 16 (.ireturn) 1 17 := ⟨DX6_isTurns_c0.2.2.2.2.2.2.2.2.2, rfl⟩
theorem DX6_greatestNumber_c0 : decode cX6_greatestNumber 0 = .ok (.iload_n 0, 1) ∧ decode cX6_greatestNumber 1 = .ok (.ifCond .eq 13, 3) ∧ decode cX6_greatestNumber 4 = .ok (.iload_n 0, 1) ∧ decode cX6_greatestNumber 5 = .ok (.iconst 3, 1) ∧ decode cX6_greatestNumber 6 = .ok (.if_icmp .eq 8, 3) ∧ decode cX6_greatestNumber 9 = .ok (.iload_n 0, 1) ∧ decode cX6_greatestNumber 10 = .ok (.iconst 4, 1) ∧ decode cX6_greatestNumber 11 = .ok (.if_icmp .ne 7, 3) ∧ decode cX6_greatestNumber 14 = .ok (.iconst 1, 1) ∧ decode cX6_greatestNumber 15 = .ok (.goto 4, 3) ∧ decode cX6_greatestNumber 18 = .ok (.iconst 0, 1) ∧ decode cX6_greatestNumber 19 = .ok (.istore_n 1, 1) ∧ decode cX6_greatestNumber 20 = .ok (.iload_n 1, 1) ∧ decode cX6_greatestNumber 21 = .ok (.ifCond .eq 8, 3) ∧ decode cX6_greatestNumber 24 = .ok (.bipush 29, 2) ∧ decode cX6_greatestNumber 26 = .ok (.goto 5, 3) := by decide +kernel
theorem dX6_greatestNumber_0 : Dc cX6_greatestNumber 0 (.iload_n 0) 1 1 := ⟨DX6_greatestNumber_c0.1, rfl⟩
theorem dX6_greatestNumber_1 : Db cX6_greatestNumber 1 (fun o => .ifCond .eq o) 4 14 := ⟨13, DX6_greatestNumber_c0.2.1, rfl, rfl⟩
theorem dX6_greatestNumber_4 : Dc cX6_greatestNumber 4 (.iload_n 0) 1 5 := ⟨DX6_greatestNumber_c0.2.2.1, rfl⟩
theorem dX6_greatestNumber_5 : Dc cX6_greatestNumber 5 (.iconst 3) 1 6 := ⟨DX6_greatestNumber_c0.2.2.2.1, rfl⟩
theorem dX6_greatestNumber_6 : Db cX6_greatestNumber 6 (fun o => .if_icmp .eq o) 9 14 := ⟨8, DX6_greatestNumber_c0.2.2.2.2.1, rfl, rfl⟩
theorem dX6_greatestNumber_9 : Dc cX6_greatestNumber 9 (.iload_n 0) 1 10 := ⟨DX6_greatestNumber_c0.2.2.2.2.2.1, rfl⟩
theorem dX6_greatestNumber_10 : Dc cX6_greatestNumber 10 (.iconst 4) 1 11 := ⟨DX6_greatestNumber_c0.2.2.2.2.2.2.1, rfl⟩
theorem dX6_greatestNumber_11 : Db cX6_greatestNumber 11 (fun o => .if_icmp .ne o) 14 18 := ⟨7, DX6_greatestNumber_c0.2.2.2.2.2.2.2.1, rfl, rfl⟩
theorem dX6_greatestNumber_14 : Dc cX6_greatestNumber 14 (.iconst 1) 1 15 := ⟨DX6_greatestNumber_c0.2.2.2.2.2.2.2.2.1, rfl⟩
theorem dX6_greatestNumber_15 : Db cX6_greatestNumber 15 .goto 18 19 := ⟨4, DX6_greatestNumber_c0.2.2.2.2.2.2.2.2.2.1, rfl, rfl⟩
theorem dX6_greatestNumber_18 : Dc cX6_greatestNumber 18 (.iconst 0) 1 19 := ⟨DX6_greatestNumber_c0.2.2.2.2.2.2.2.2.2.2.1, rfl⟩
theorem dX6_greatestNumber_19 : Dc cX6_greatestNumber 19 (.istore_n 1) 1 20 := ⟨DX6_greatestNumber_c0.2.2.2.2.2.2.2.2.2.2.2.1, rfl⟩
theorem dX6_greatestNumber_20 : Dc cX6_greatestNumber 20 (.iload_n 1) 1 21 := ⟨DX6_greatestNumber_c0.2.2.2.2.2.2.2.2.2.2.2.2.1, rfl⟩
theorem dX6_greatestNumber_21 : Db cX6_greatestNumber 21 (fun o => .ifCond .eq o) 24 29 := ⟨8, DX6_greatestNumber_c0.2.2.2.2.2.2.2.2.2.2.2.2.2.1, rfl, rfl⟩
theorem dX6_greatestNumber_24 : Dc cX6_greatestNumber 24 (.bipush 29) 2 26 := ⟨DX6_greatestNumber_c0.2.2.2.2.2.2.2.2.2.2.2.2.2.2.1, rfl⟩
theorem dX6_greatestNumber_26 : Db cX6_greatestNumber 26 .goto 29 31 := ⟨5, DX6_greatestNumber_c0.2.2.2.2.2.2.2.2.2.2.2.2.2.2.2, rfl, rfl⟩
theorem DX6_greatestNumber_c1 : decode cX6_greatestNumber 29 = .ok (.bipush 99, 2) ∧ decode cX6_greatestNumber 31 = .ok (.ireturn, 1) := by decide +kernel
theorem dX6_greatestNumber_29 : Dc cX6_greatestNumber 29 (.bipush 99) 2 31 := ⟨DX6_greatestNumber_c1.1, rfl⟩
theorem dX6_greatestNumber_31 : Dc cX6_greatestNumber 31 (.ireturn) 1 32 := ⟨DX6_greatestNumber_c1.2, rfl⟩
theorem DX6_inRange_c0 : decode cX6_inRange 0 = .ok (.iload_n 1, 1) ∧ decode cX6_inRange 1 = .ok (.ifCond .lt 15, 3) ∧ decode cX6_inRange 4 = .ok (.iload_n 1, 1) ∧ decode cX6_inRange 5 = .ok (.iload_n 0, 1) ∧ decode cX6_inRange 6 = .ok (.invokestatic 249, 3) ∧ decode cX6_inRange 9 = .ok (.if_icmp .gt 7, 3) ∧ decode cX6_inRange 12 = .ok (.iconst 1, 1) ∧ decode cX6_inRange 13 = .ok (.goto 4, 3) ∧ decode cX6_inRange 16 = .ok (.iconst 0, 1) ∧ decode cX6_inRange 17 = .ok (.ireturn, 1) := by decide +kernel
theorem dX6_inRange_0 : Dc cX6_inRange 0 (.iload_n 1) 1 1 := ⟨DX6_inRange_c0.1, rfl⟩
theorem dX6_inRange_1 : Db cX6_inRange 1 (fun o => .ifCond .lt o) 4 16 := ⟨15, DX6_inRange_c0.2.1, rfl, rfl⟩
theorem dX6_inRange_4 : Dc cX6_inRange 4 (.iload_n 1) 1 5 := ⟨DX6_inRange_c0.2.2.1, rfl⟩
theorem dX6_inRange_5 : Dc cX6_inRange 5 (.iload_n 0) 1 6 := ⟨DX6_inRange_c0.2.2.2.1, rfl⟩
theorem dX6_inRange_6 : Dc cX6_inRange 6 (.invokestatic 249) 3 9 := ⟨DX6_inRange_c0.2.2.2.2.1, rfl⟩
theorem dX6_inRange_9 : Db cX6_inRange 9 (fun o => .if_icmp .gt o) 12 16 := ⟨7, DX6_inRange_c0.2.2.2.2.2.1, rfl, rfl⟩
theorem dX6_inRange_12 : Dc cX6_inRange 12 (.iconst 1) 1 13 := ⟨DX6_inRange_c0.2.2.2.2.2.2.1, rfl⟩
theorem dX6_inRange_13 : Db cX6_inRange 13 .goto 16 17 := ⟨4, DX6_inRange_c0.2.2.2.2.2.2.2.1, rfl, rfl⟩
theorem dX6_inRange_16 : Dc cX6_inRange 16 (.iconst 0) 1 17 := ⟨DX6_inRange_c0.2.2.2.2.2.2.2.2.1, rfl⟩
theorem dX6_inRange_17 : Dc cX6_inRange 17 (.ireturn) 1 18 := ⟨DX6_inRange_c0.2.2.2.2.2.2.2.2.2, rfl⟩
theorem DX6_canGeneralise_c0 : decode cX6_canGeneralise 0 = .ok (.iload_n 1, 1) ∧ decode cX6_canGeneralise 1 = .ok (.iload_n 2, 1) ∧ decode cX6_canGeneralise 2 = .ok (.if_icmp .eq 22, 3) ∧ decode cX6_canGeneralise 5 = .ok (.aload_n 0, 1) ∧ decode cX6_canGeneralise 6 = .ok (.getfield 12, 3) ∧ decode cX6_canGeneralise 9 = .ok (.getfield 74, 3) ∧ decode cX6_canGeneralise 12 = .ok (.iload_n 1, 1) ∧ decode cX6_canGeneralise 13 = .ok (.iload_n 2, 1) ∧ decode cX6_canGeneralise 14 = .ok (.invokevirtual 252, 3) ∧ decode cX6_canGeneralise 17 = .ok (.ifCond .eq 7, 3) ∧ decode cX6_canGeneralise 20 = .ok (.iconst 1, 1) ∧ decode cX6_canGeneralise 21 = .ok (.goto 4, 3) ∧ decode cX6_canGeneralise 24 = .ok (.iconst 0, 1) ∧ decode cX6_canGeneralise 25 = .ok (.ireturn, 1) := by decide +kernel
theorem dX6_canGeneralise_0 : Dc cX6_canGeneralise 0 (.iload_n 1) 1 1 := ⟨DX6_canGeneralise_c0.1, rfl⟩
theorem dX6_canGeneralise_1 : Dc cX6_canGeneralise 1 (.iload_n 2) 1 2 := ⟨DX6_canGeneralise_c0.2.1, rfl⟩
theorem dX6_canGeneralise_2 : Db cX6_canGeneralise 2 (fun o => .if_icmp .eq o) 5 24 := ⟨22, DX6_canGeneralise_c0.2.2.1, rfl, rfl⟩
theorem dX6_canGeneralise_5 : Dc cX6_canGeneralise 5 (.aload_n 0) 1 6 := ⟨DX6_canGeneralise_c0.2.2.2.1, rfl⟩
theorem dX6_canGeneralise_6 : Dc cX6_canGeneralise 6 (.getfield 12) 3 9 := ⟨DX6_canGeneralise_c0.2.2.2.2.1, rfl⟩
theorem dX6_canGeneralise_9 : Dc cX6_canGeneralise 9 (.getfield 74) 3 12 := ⟨DX6_canGeneralise_c0.2.2.2.2.2.1, rfl⟩
theorem dX6_canGeneralise_12 : Dc cX6_canGeneralise 12 (.iload_n 1) 1 13 := ⟨DX6_canGeneralise_c0.2.2.2.2.2.2.1, rfl⟩
theorem dX6_canGeneralise_13 : Dc cX6_canGeneralise 13 (.iload_n 2) 1 14 := ⟨DX6_canGeneralise_c0.2.2.2.2.2.2.2.1, rfl⟩
theorem dX6_canGeneralise_14 : Dc cX6_canGeneralise 14 (.invokevirtual 252) 3 17 := ⟨DX6_canGeneralise_c0.2.2.2.2.2.2.2.2.1, rfl⟩
theorem dX6_canGeneralise_17 : Db cX6_canGeneralise 17 (fun o => .ifCond .eq o) 20 24 := ⟨7, DX6_canGeneralise_c0.2.2.2.2.2.2.2.2.2.1, rfl, rfl⟩
theorem dX6_canGeneralise_20 : Dc cX6_canGeneralise 20 (.iconst 1) 1 21 := ⟨DX6_canGeneralise_c0.2.2.2.2.2.2.2.2.2.2.1, rfl⟩
theorem dX6_canGeneralise_21 : Db cX6_canGeneralise 21 .goto 24 25 := ⟨4, DX6_canGeneralise_c0.2.2.2.2.2.2.2.2.2.2.2.1, rfl, rfl⟩
theorem dX6_canGeneralise_24 : Dc cX6_canGeneralise 24 (.iconst 0) 1 25 := ⟨DX6_canGeneralise_c0.2.2.2.2.2.2.2.2.2.2.2.2.1, rfl⟩
theorem dX6_canGeneralise_25 : Dc cX6_canGeneralise 25 (.ireturn) 1 26 := ⟨DX6_canGeneralise_c0.2.2.2.2.2.2.2.2.2.2.2.2.2, rfl⟩
theorem DX6_countZeroStrides_c0 : decode cX6_countZeroStrides 0 = .ok (.iconst 0, 1) ∧ decode cX6_countZeroStrides 1 = .ok (.istore_n 3, 1) ∧ decode cX6_countZeroStrides 2 = .ok (.aload_n 0, 1) ∧ decode cX6_countZeroStrides 3 = .ok (.getfield 12, 3) ∧ decode cX6_countZeroStrides 6 = .ok (.getfield 74, 3) ∧ decode cX6_countZeroStrides 9 = .ok (.iload_n 1, 1) ∧ decode cX6_countZeroStrides 10 = .ok (.invokevirtual 118, 3) ∧ decode cX6_countZeroStrides 13 = .ok (.istore 4, 2) ∧ decode cX6_countZeroStrides 15 = .ok (.iconst 0, 1) ∧ decode cX6_countZeroStrides 16 = .ok (.istore 5, 2) ∧ decode cX6_countZeroStrides 18 = .ok (.iload 5, 2) ∧ decode cX6_countZeroStrides 20 = .ok (.iload 4, 2) ∧ decode cX6_countZeroStrides 22 = .ok (.if_icmp .ge 41, 3) ∧ decode cX6_countZeroStrides 25 = .ok (.aload_n 0, 1) ∧ decode cX6_countZeroStrides 26 = .ok (.getfield 12, 3) ∧ decode cX6_countZeroStrides 29 = .ok (.getfield 74, 3) := by decide +kernel
theorem dX6_countZeroStrides_0 : Dc cX6_countZeroStrides 0 (.iconst 0) 1 1 := ⟨DX6_countZeroStrides_c0.1, rfl⟩
theorem dX6_countZeroStrides_1 : Dc cX6_countZeroStrides 1 (.istore_n 3) 1 2 := ⟨DX6_countZeroStrides_c0.2.1, rfl⟩
theorem dX6_countZeroStrides_2 : Dc cX6_countZeroStrides 2 (.aload_n 0) 1 3 := ⟨DX6_countZeroStrides_c0.2.2.1, rfl⟩
theorem dX6_countZeroStrides_3 : Dc cX6_countZeroStrides 3 (.getfield 12) 3 6 := ⟨DX6_countZeroStrides_c0.2.2.2.1, rfl⟩
theorem dX6_countZeroStrides_6 : Dc cX6_countZeroStrides 6 (.getfield 74) 3 9 := ⟨DX6_countZeroStrides_c0.2.2.2.2.1, rfl⟩
theorem dX6_countZeroStrides_9 : Dc cX6_countZeroStrides 9 (.iload_n 1) 1 10 := ⟨DX6_countZeroStrides_c0.2.2.2.2.2.1, rfl⟩
theorem dX6_countZeroStrides_10 : Dc cX6_countZeroStrides 10 (.invokevirtual 118) 3 13 := ⟨DX6_countZeroStrides_c0.2.2.2.2.2.2.1, rfl⟩
theorem dX6_countZeroStrides_13 : Dc cX6_countZeroStrides 13 (.istore 4) 2 15 := ⟨DX6_countZeroStrides_c0.2.2.2.2.2.2.2.1, rfl⟩
theorem dX6_countZeroStrides_15 : Dc cX6_countZeroStrides 15 (.iconst 0) 1 16 := ⟨DX6_countZeroStrides_c0.2.2.2.2.2.2.2.2.1, rfl⟩
theorem dX6_countZeroStrides_16 : Dc cX6_countZeroStrides 16 (.istore 5) 2 18 := ⟨DX6_countZeroStrides_c0.2.2.2.2.2.2.2.2.2.1, rfl⟩
theorem dX6_countZeroStrides_18 : Dc cX6_countZeroStrides 18 (.iload 5) 2 20 := ⟨DX6_countZeroStrides_c0.2.2.2.2.2.2.2.2.2.2.1, rfl⟩
theorem dX6_countZeroStrides_20 : Dc cX6_countZeroStrides 20 (.iload 4) 2 22 := ⟨DX6_countZeroStrides_c0.2.2.2.2.2.2.2.2.2.2.2.1, rfl⟩
theorem dX6_countZeroStrides_22 : Db cX6_countZeroStrides 22 (fun o => .if_icmp .ge o) 25 63 := ⟨41, DX6_countZeroStrides_c0.2.2.2.2.2.2.2.2.2.2.2.2.1, rfl, rfl⟩
theorem dX6_countZeroStrides_25 : Dc cX6_countZeroStrides 25 (.aload_n 0) 1 26 := ⟨DX6_countZeroStrides_c0.2.2.2.2.2.2.2.2.2.2.2.2.2.1, rfl⟩
theorem dX6_countZeroStrides_26 : Dc cX6_countZeroStrides 26 (.getfield 12) 3 29 := ⟨DX6_countZeroStrides_c0.2.2.2.2.2.2.2.2.2.2.2.2.2.2.1, rfl⟩
theorem dX6_countZeroStrides_29 : Dc cX6_countZeroStrides 29 (.getfield 74) 3 32 := ⟨DX6_countZeroStrides_c0.2.2.2.2.2.2.2.2.2.2.2.2.2.2.2, rfl⟩
theorem DX6_countZeroStrides_c1 : decode cX6_countZeroStrides 32 = .ok (.iload_n 1, 1) ∧ decode cX6_countZeroStrides 33 = .ok (.iload 5, 2) ∧ decode cX6_countZeroStrides 35 = .ok (.invokevirtual 161, 3) ∧ decode cX6_countZeroStrides 38 = .ok (.aload_n 0, 1) ∧ decode cX6_countZeroStrides 39 = .ok (.getfield 12, 3) ∧ decode cX6_countZeroStrides 42 = .ok (.getfield 74, 3) ∧ decode cX6_countZeroStrides 45 = .ok (.iload_n 2, 1) ∧ decode cX6_countZeroStrides 46 = .ok (.iload 5, 2) ∧ decode cX6_countZeroStrides 48 = .ok (.invokevirtual 161, 3) ∧ decode cX6_countZeroStrides 51 = .ok (.if_icmp .ne 6, 3) ∧ decode cX6_countZeroStrides 54 = .ok (.iinc 3 1, 3) ∧ decode cX6_countZeroStrides 57 = .ok (.iinc 5 1, 3) ∧ decode cX6_countZeroStrides 60 = .ok (.goto (-42), 3) ∧ decode cX6_countZeroStrides 63 = .ok (.iload_n 3, 1) ∧ decode cX6_countZeroStrides 64 = .ok (.ireturn, 1) := by decide +kernel
theorem dX6_countZeroStrides_32 : Dc cX6_countZeroStrides 32 (.iload_n 1) 1 33 := ⟨DX6_countZeroStrides_c1.1, rfl⟩
theorem dX6_countZeroStrides_33 : Dc cX6_countZeroStrides 33 (.iload 5) 2 35 := ⟨DX6_countZeroStrides_c1.2.1, rfl⟩
theorem dX6_countZeroStrides_35 : Dc cX6_countZeroStrides 35 (.invokevirtual 161) 3 38 := ⟨DX6_countZeroStrides_c1.2.2.1, rfl⟩
theorem dX6_countZeroStrides_38 : Dc cX6_countZeroStrides 38 (.aload_n 0) 1 39 := ⟨DX6_countZeroStrides_c1.2.2.2.1, rfl⟩
theorem dX6_countZeroStrides_39 : Dc cX6_countZeroStrides 39 (.getfield 12) 3 42 := ⟨DX6_countZeroStrides_c1.2.2.2.2.1, rfl⟩
theorem dX6_countZeroStrides_42 : Dc cX6_countZeroStrides 42 (.getfield 74) 3 45 := ⟨DX6_countZeroStrides_c1.2.2.2.2.2.1, rfl⟩
theorem dX6_countZeroStrides_45 : Dc cX6_countZeroStrides 45 (.iload_n 2) 1 46 := ⟨DX6_countZeroStrides_c1.2.2.2.2.2.2.1, rfl⟩
theorem dX6_countZeroStrides_46 : Dc cX6_countZeroStrides 46 (.iload 5) 2 48 := ⟨DX6_countZeroStrides_c1.2.2.2.2.2.2.2.1, rfl⟩
theorem dX6_countZeroStrides_48 : Dc cX6_countZeroStrides 48 (.invokevirtual 161) 3 51 := ⟨DX6_countZeroStrides_c1.2.2.2.2.2.2.2.2.1, rfl⟩
theorem dX6_countZeroStrides_51 : Db cX6_countZeroStrides 51 (fun o => .if_icmp .ne o) 54 57 := ⟨6, DX6_countZeroStrides_c1.2.2.2.2.2.2.2.2.2.1, rfl, rfl⟩
theorem dX6_countZeroStrides_54 : Dc cX6_countZeroStrides 54 (.iinc 3 1) 3 57 := ⟨DX6_countZeroStrides_c1.2.2.2.2.2.2.2.2.2.2.1, rfl⟩
theorem dX6_countZeroStrides_57 : Dc cX6_countZeroStrides 57 (.iinc 5 1) 3 60 := ⟨DX6_countZeroStrides_c1.2.2.2.2.2.2.2.2.2.2.2.1, rfl⟩
theorem dX6_countZeroStrides_60 : Db cX6_countZeroStrides 60 .goto 63 18 := ⟨-42, DX6_countZeroStrides_c1.2.2.2.2.2.2.2.2.2.2.2.2.1, rfl, rfl⟩
theorem dX6_countZeroStrides_63 : Dc cX6_countZeroStrides 63 (.iload_n 3) 1 64 := ⟨DX6_countZeroStrides_c1.2.2.2.2.2.2.2.2.2.2.2.2.2.1, rfl⟩
theorem dX6_countZeroStrides_64 : Dc cX6_countZeroStrides 64 (.ireturn) 1 65 := ⟨DX6_countZeroStrides_c1.2.2.2.2.2.2.2.2.2.2.2.2.2.2, rfl⟩
theorem DX6_countVerbRows_c0 : decode cX6_countVerbRows 0 = .ok (.iconst 0, 1) ∧ decode cX6_countVerbRows 1 = .ok (.istore_n 1, 1) ∧ decode cX6_countVerbRows 2 = .ok (.iconst 0, 1) ∧ decode cX6_countVerbRows 3 = .ok (.istore_n 2, 1) ∧ decode cX6_countVerbRows 4 = .ok (.iload_n 2, 1) ∧ decode cX6_countVerbRows 5 = .ok (.aload_n 0, 1) ∧ decode cX6_countVerbRows 6 = .ok (.getfield 12, 3) ∧ decode cX6_countVerbRows 9 = .ok (.getfield 74, 3) ∧ decode cX6_countVerbRows 12 = .ok (.getfield 78, 3) ∧ decode cX6_countVerbRows 15 = .ok (.if_icmp .ge 59, 3) ∧ decode cX6_countVerbRows 18 = .ok (.iconst 1, 1) ∧ decode cX6_countVerbRows 19 = .ok (.istore_n 3, 1) ∧ decode cX6_countVerbRows 20 = .ok (.iconst 0, 1) ∧ decode cX6_countVerbRows 21 = .ok (.istore 4, 2) ∧ decode cX6_countVerbRows 23 = .ok (.iload_n 3, 1) ∧ decode cX6_countVerbRows 24 = .ok (.ifCond .eq 37, 3) := by decide +kernel
theorem dX6_countVerbRows_0 : Dc cX6_countVerbRows 0 (.iconst 0) 1 1 := ⟨DX6_countVerbRows_c0.1, rfl⟩
theorem dX6_countVerbRows_1 : Dc cX6_countVerbRows 1 (.istore_n 1) 1 2 := ⟨DX6_countVerbRows_c0.2.1, rfl⟩
theorem dX6_countVerbRows_2 : Dc cX6_countVerbRows 2 (.iconst 0) 1 3 := ⟨DX6_countVerbRows_c0.2.2.1, rfl⟩
theorem dX6_countVerbRows_3 : Dc cX6_countVerbRows 3 (.istore_n 2) 1 4 := ⟨DX6_countVerbRows_c0.2.2.2.1, rfl⟩
theorem dX6_countVerbRows_4 : Dc cX6_countVerbRows 4 (.iload_n 2) 1 5 := ⟨DX6_countVerbRows_c0.2.2.2.2.1, rfl⟩
theorem dX6_countVerbRows_5 : Dc cX6_countVerbRows 5 (.aload_n 0) 1 6 := ⟨DX6_countVerbRows_c0.2.2.2.2.2.1, rfl⟩
theorem dX6_countVerbRows_6 : Dc cX6_countVerbRows 6 (.getfield 12) 3 9 := ⟨DX6_countVerbRows_c0.2.2.2.2.2.2.1, rfl⟩
theorem dX6_countVerbRows_9 : Dc cX6_countVerbRows 9 (.getfield 74) 3 12 := ⟨DX6_countVerbRows_c0.2.2.2.2.2.2.2.1, rfl⟩
theorem dX6_countVerbRows_12 : Dc cX6_countVerbRows 12 (.getfield 78) 3 15 := ⟨DX6_countVerbRows_c0.2.2.2.2.2.2.2.2.1, rfl⟩
theorem dX6_countVerbRows_15 : Db cX6_countVerbRows 15 (fun o => .if_icmp .ge o) 18 74 := ⟨59, DX6_countVerbRows_c0.2.2.2.2.2.2.2.2.2.1, rfl, rfl⟩
theorem dX6_countVerbRows_18 : Dc cX6_countVerbRows 18 (.iconst 1) 1 19 := ⟨DX6_countVerbRows_c0.2.2.2.2.2.2.2.2.2.2.1, rfl⟩
theorem dX6_countVerbRows_19 : Dc cX6_countVerbRows 19 (.istore_n 3) 1 20 := ⟨DX6_countVerbRows_c0.2.2.2.2.2.2.2.2.2.2.2.1, rfl⟩
theorem dX6_countVerbRows_20 : Dc cX6_countVerbRows 20 (.iconst 0) 1 21 := ⟨DX6_countVerbRows_c0.2.2.2.2.2.2.2.2.2.2.2.2.1, rfl⟩
theorem dX6_countVerbRows_21 : Dc cX6_countVerbRows 21 (.istore 4) 2 23 := ⟨DX6_countVerbRows_c0.2.2.2.2.2.2.2.2.2.2.2.2.2.1, rfl⟩
theorem dX6_countVerbRows_23 : Dc cX6_countVerbRows 23 (.iload_n 3) 1 24 := ⟨DX6_countVerbRows_c0.2.2.2.2.2.2.2.2.2.2.2.2.2.2.1, rfl⟩
theorem dX6_countVerbRows_24 : Db cX6_countVerbRows 24 (fun o => .ifCond .eq o) 27 61 := ⟨37, DX6_countVerbRows_c0.2.2.2.2.2.2.2.2.2.2.2.2.2.2.2, rfl, rfl⟩
theorem DX6_countVerbRows_c1 : decode cX6_countVerbRows 27 = .ok (.iload 4, 2) ∧ decode cX6_countVerbRows 29 = .ok (.iload_n 2, 1) ∧ decode cX6_countVerbRows 30 = .ok (.if_icmp .ge 31, 3) ∧ decode cX6_countVerbRows 33 = .ok (.aload_n 0, 1) ∧ decode cX6_countVerbRows 34 = .ok (.getfield 12, 3) ∧ decode cX6_countVerbRows 37 = .ok (.getfield 74, 3) ∧ decode cX6_countVerbRows 40 = .ok (.iload 4, 2) ∧ decode cX6_countVerbRows 42 = .ok (.iload_n 2, 1) ∧ decode cX6_countVerbRows 43 = .ok (.invokevirtual 252, 3) ∧ decode cX6_countVerbRows 46 = .ok (.ifCond .ne 7, 3) ∧ decode cX6_countVerbRows 49 = .ok (.iconst 1, 1) ∧ decode cX6_countVerbRows 50 = .ok (.goto 4, 3) ∧ decode cX6_countVerbRows 53 = .ok (.iconst 0, 1) ∧ decode cX6_countVerbRows 54 = .ok (.istore_n 3, 1) ∧ decode cX6_countVerbRows 55 = .ok (.iinc 4 1, 3) ∧ decode cX6_countVerbRows 58 = .ok (.goto (-35), 3) := by decide +kernel
theorem dX6_countVerbRows_27 : Dc cX6_countVerbRows 27 (.iload 4) 2 29 := ⟨DX6_countVerbRows_c1.1, rfl⟩
theorem dX6_countVerbRows_29 : Dc cX6_countVerbRows 29 (.iload_n 2) 1 30 := ⟨DX6_countVerbRows_c1.2.1, rfl⟩
theorem dX6_countVerbRows_30 : Db cX6_countVerbRows 30 (fun o => .if_icmp .ge o) 33 61 := ⟨31, DX6_countVerbRows_c1.2.2.1, rfl, rfl⟩
theorem dX6_countVerbRows_33 : Dc cX6_countVerbRows 33 (.aload_n 0) 1 34 := ⟨DX6_countVerbRows_c1.2.2.2.1, rfl⟩
theorem dX6_countVerbRows_34 : Dc cX6_countVerbRows 34 (.getfield 12) 3 37 := ⟨DX6_countVerbRows_c1.2.2.2.2.1, rfl⟩
theorem dX6_countVerbRows_37 : Dc cX6_countVerbRows 37 (.getfield 74) 3 40 := ⟨DX6_countVerbRows_c1.2.2.2.2.2.1, rfl⟩
theorem dX6_countVerbRows_40 : Dc cX6_countVerbRows 40 (.iload 4) 2 42 := ⟨DX6_countVerbRows_c1.2.2.2.2.2.2.1, rfl⟩
theorem dX6_countVerbRows_42 : Dc cX6_countVerbRows 42 (.iload_n 2) 1 43 := ⟨DX6_countVerbRows_c1.2.2.2.2.2.2.2.1, rfl⟩
theorem dX6_countVerbRows_43 : Dc cX6_countVerbRows 43 (.invokevirtual 252) 3 46 := ⟨DX6_countVerbRows_c1.2.2.2.2.2.2.2.2.1, rfl⟩
theorem dX6_countVerbRows_46 : Db cX6_countVerbRows 46 (fun o => .ifCond .ne o) 49 53 := ⟨7, DX6_countVerbRows_c1.2.2.2.2.2.2.2.2.2.1, rfl, rfl⟩
theorem dX6_countVerbRows_49 : Dc cX6_countVerbRows 49 (.iconst 1) 1 50 := ⟨DX6_countVerbRows_c1.2.2.2.2.2.2.2.2.2.2.1, rfl⟩
theorem dX6_countVerbRows_50 : Db cX6_countVerbRows 50 .goto 53 54 := ⟨4, DX6_countVerbRows_c1.2.2.2.2.2.2.2.2.2.2.2.1, rfl, rfl⟩
theorem dX6_countVerbRows_53 : Dc cX6_countVerbRows 53 (.iconst 0) 1 54 := ⟨DX6_countVerbRows_c1.2.2.2.2.2.2.2.2.2.2.2.2.1, rfl⟩
theorem dX6_countVerbRows_54 : Dc cX6_countVerbRows 54 (.istore_n 3) 1 55 := ⟨DX6_countVerbRows_c1.2.2.2.2.2.2.2.2.2.2.2.2.2.1, rfl⟩
theorem dX6_countVerbRows_55 : Dc cX6_countVerbRows 55 (.iinc 4 1) 3 58 := ⟨DX6_countVerbRows_c1.2.2.2.2.2.2.2.2.2.2.2.2.2.2.1, rfl⟩
theorem dX6_countVerbRows_58 : Db cX6_countVerbRows 58 .goto 61 23 := ⟨-35, DX6_countVerbRows_c1.2.2.2.2.2.2.2.2.2.2.2.2.2.2.2, rfl, rfl⟩
theorem DX6_countVerbRows_c2 : decode cX6_countVerbRows 61 = .ok (.iload_n 3, 1) ∧ decode cX6_countVerbRows 62 = .ok (.ifCond .eq 6, 3) ∧ decode cX6_countVerbRows 65 = .ok (.iinc 1 1, 3) ∧ decode cX6_countVerbRows 68 = .ok (.iinc 2 1, 3) ∧ decode cX6_countVerbRows 71 = .ok (.goto (-67), 3) ∧ decode cX6_countVerbRows 74 = .ok (.iload_n 1, 1) ∧ decode cX6_countVerbRows 75 = .ok (.ireturn, 1) := by decide +kernel
theorem dX6_countVerbRows_61 : Dc cX6_countVerbRows 61 (.iload_n 3) 1 62 := ⟨DX6_countVerbRows_c2.1, rfl⟩
theorem dX6_countVerbRows_62 : Db cX6_countVerbRows 62 (fun o => .ifCond .eq o) 65 68 := ⟨6, DX6_countVerbRows_c2.2.1, rfl, rfl⟩
theorem dX6_countVerbRows_65 : Dc cX6_countVerbRows 65 (.iinc 1 1) 3 68 := ⟨DX6_countVerbRows_c2.2.2.1, rfl⟩
theorem dX6_countVerbRows_68 : Dc cX6_countVerbRows 68 (.iinc 2 1) 3 71 := ⟨DX6_countVerbRows_c2.2.2.2.1, rfl⟩
theorem dX6_countVerbRows_71 : Db cX6_countVerbRows 71 .goto 74 4 := ⟨-67, DX6_countVerbRows_c2.2.2.2.2.1, rfl, rfl⟩
theorem dX6_countVerbRows_74 : Dc cX6_countVerbRows 74 (.iload_n 1) 1 75 := ⟨DX6_countVerbRows_c2.2.2.2.2.2.1, rfl⟩
theorem dX6_countVerbRows_75 : Dc cX6_countVerbRows 75 (.ireturn) 1 76 := ⟨DX6_countVerbRows_c2.2.2.2.2.2.2, rfl⟩
theorem DX6_countCommon_c0 : decode cX6_countCommon 0 = .ok (.aload_n 0, 1) ∧ decode cX6_countCommon 1 = .ok (.getfield 12, 3) ∧ decode cX6_countCommon 4 = .ok (.getfield 74, 3) ∧ decode cX6_countCommon 7 = .ok (.iload_n 2, 1) ∧ decode cX6_countCommon 8 = .ok (.invokevirtual 118, 3) ∧ decode cX6_countCommon 11 = .ok (.aload_n 0, 1) ∧ decode cX6_countCommon 12 = .ok (.getfield 47, 3) ∧ decode cX6_countCommon 15 = .ok (.arraylength, 1) ∧ decode cX6_countCommon 16 = .ok (.iconst 1, 1) ∧ decode cX6_countCommon 17 = .ok (.isub, 1) ∧ decode cX6_countCommon 18 = .ok (.invokestatic 255, 3) ∧ decode cX6_countCommon 21 = .ok (.istore 4, 2) ∧ decode cX6_countCommon 23 = .ok (.iconst 0, 1) ∧ decode cX6_countCommon 24 = .ok (.istore 5, 2) ∧ decode cX6_countCommon 26 = .ok (.iload 5, 2) ∧ decode cX6_countCommon 28 = .ok (.iload 4, 2) := by decide +kernel
theorem dX6_countCommon_0 : Dc cX6_countCommon 0 (.aload_n 0) 1 1 := ⟨DX6_countCommon_c0.1, rfl⟩
theorem dX6_countCommon_1 : Dc cX6_countCommon 1 (.getfield 12) 3 4 := ⟨DX6_countCommon_c0.2.1, rfl⟩
theorem dX6_countCommon_4 : Dc cX6_countCommon 4 (.getfield 74) 3 7 := ⟨DX6_countCommon_c0.2.2.1, rfl⟩
theorem dX6_countCommon_7 : Dc cX6_countCommon 7 (.iload_n 2) 1 8 := ⟨DX6_countCommon_c0.2.2.2.1, rfl⟩
theorem dX6_countCommon_8 : Dc cX6_countCommon 8 (.invokevirtual 118) 3 11 := ⟨DX6_countCommon_c0.2.2.2.2.1, rfl⟩
theorem dX6_countCommon_11 : Dc cX6_countCommon 11 (.aload_n 0) 1 12 := ⟨DX6_countCommon_c0.2.2.2.2.2.1, rfl⟩
theorem dX6_countCommon_12 : Dc cX6_countCommon 12 (.getfield 47) 3 15 := ⟨DX6_countCommon_c0.2.2.2.2.2.2.1, rfl⟩
theorem dX6_countCommon_15 : Dc cX6_countCommon 15 (.arraylength) 1 16 := ⟨DX6_countCommon_c0.2.2.2.2.2.2.2.1, rfl⟩
theorem dX6_countCommon_16 : Dc cX6_countCommon 16 (.iconst 1) 1 17 := ⟨DX6_countCommon_c0.2.2.2.2.2.2.2.2.1, rfl⟩
theorem dX6_countCommon_17 : Dc cX6_countCommon 17 (.isub) 1 18 := ⟨DX6_countCommon_c0.2.2.2.2.2.2.2.2.2.1, rfl⟩
theorem dX6_countCommon_18 : Dc cX6_countCommon 18 (.invokestatic 255) 3 21 := ⟨DX6_countCommon_c0.2.2.2.2.2.2.2.2.2.2.1, rfl⟩
theorem dX6_countCommon_21 : Dc cX6_countCommon 21 (.istore 4) 2 23 := ⟨DX6_countCommon_c0.2.2.2.2.2.2.2.2.2.2.2.1, rfl⟩
theorem dX6_countCommon_23 : Dc cX6_countCommon 23 (.iconst 0) 1 24 := ⟨DX6_countCommon_c0.2.2.2.2.2.2.2.2.2.2.2.2.1, rfl⟩
theorem dX6_countCommon_24 : Dc cX6_countCommon 24 (.istore 5) 2 26 := ⟨DX6_countCommon_c0.2.2.2.2.2.2.2.2.2.2.2.2.2.1, rfl⟩
theorem dX6_countCommon_26 : Dc cX6_countCommon 26 (.iload 5) 2 28 := ⟨DX6_countCommon_c0.2.2.2.2.2.2.2.2.2.2.2.2.2.2.1, rfl⟩
theorem dX6_countCommon_28 : Dc cX6_countCommon 28 (.iload 4) 2 30 := ⟨DX6_countCommon_c0.2.2.2.2.2.2.2.2.2.2.2.2.2.2.2, rfl⟩
theorem DX6_countCommon_c1 : decode cX6_countCommon 30 = .ok (.if_icmp .gt 17, 3) ∧ decode cX6_countCommon 33 = .ok (.aload_n 0, 1) ∧ decode cX6_countCommon 34 = .ok (.getfield 47, 3) ∧ decode cX6_countCommon 37 = .ok (.iload 5, 2) ∧ decode cX6_countCommon 39 = .ok (.iconst 0, 1) ∧ decode cX6_countCommon 40 = .ok (.iastore, 1) ∧ decode cX6_countCommon 41 = .ok (.iinc 5 1, 3) ∧ decode cX6_countCommon 44 = .ok (.goto (-18), 3) ∧ decode cX6_countCommon 47 = .ok (.aload_n 0, 1) ∧ decode cX6_countCommon 48 = .ok (.getfield 12, 3) ∧ decode cX6_countCommon 51 = .ok (.getfield 74, 3) ∧ decode cX6_countCommon 54 = .ok (.iload_n 1, 1) ∧ decode cX6_countCommon 55 = .ok (.invokevirtual 118, 3) ∧ decode cX6_countCommon 58 = .ok (.istore 5, 2) ∧ decode cX6_countCommon 60 = .ok (.iconst 0, 1) ∧ decode cX6_countCommon 61 = .ok (.istore 6, 2) := by decide +kernel
theorem dX6_countCommon_30 : Db cX6_countCommon 30 (fun o => .if_icmp .gt o) 33 47 := ⟨17, DX6_countCommon_c1.1, rfl, rfl⟩
theorem dX6_countCommon_33 : Dc cX6_countCommon 33 (.aload_n 0) 1 34 := ⟨DX6_countCommon_c1.2.1, rfl⟩
theorem dX6_countCommon_34 : Dc cX6_countCommon 34 (.getfield 47) 3 37 := ⟨DX6_countCommon_c1.2.2.1, rfl⟩
theorem dX6_countCommon_37 : Dc cX6_countCommon 37 (.iload 5) 2 39 := ⟨DX6_countCommon_c1.2.2.2.1, rfl⟩
theorem dX6_countCommon_39 : Dc cX6_countCommon 39 (.iconst 0) 1 40 := ⟨DX6_countCommon_c1.2.2.2.2.1, rfl⟩
theorem dX6_countCommon_40 : Dc cX6_countCommon 40 (.iastore) 1 41 := ⟨DX6_countCommon_c1.2.2.2.2.2.1, rfl⟩
theorem dX6_countCommon_41 : Dc cX6_countCommon 41 (.iinc 5 1) 3 44 := ⟨DX6_countCommon_c1.2.2.2.2.2.2.1, rfl⟩
theorem dX6_countCommon_44 : Db cX6_countCommon 44 .goto 47 26 := ⟨-18, DX6_countCommon_c1.2.2.2.2.2.2.2.1, rfl, rfl⟩
theorem dX6_countCommon_47 : Dc cX6_countCommon 47 (.aload_n 0) 1 48 := ⟨DX6_countCommon_c1.2.2.2.2.2.2.2.2.1, rfl⟩
theorem dX6_countCommon_48 : Dc cX6_countCommon 48 (.getfield 12) 3 51 := ⟨DX6_countCommon_c1.2.2.2.2.2.2.2.2.2.1, rfl⟩
theorem dX6_countCommon_51 : Dc cX6_countCommon 51 (.getfield 74) 3 54 := ⟨DX6_countCommon_c1.2.2.2.2.2.2.2.2.2.2.1, rfl⟩
theorem dX6_countCommon_54 : Dc cX6_countCommon 54 (.iload_n 1) 1 55 := ⟨DX6_countCommon_c1.2.2.2.2.2.2.2.2.2.2.2.1, rfl⟩
theorem dX6_countCommon_55 : Dc cX6_countCommon 55 (.invokevirtual 118) 3 58 := ⟨DX6_countCommon_c1.2.2.2.2.2.2.2.2.2.2.2.2.1, rfl⟩
theorem dX6_countCommon_58 : Dc cX6_countCommon 58 (.istore 5) 2 60 := ⟨DX6_countCommon_c1.2.2.2.2.2.2.2.2.2.2.2.2.2.1, rfl⟩
theorem dX6_countCommon_60 : Dc cX6_countCommon 60 (.iconst 0) 1 61 := ⟨DX6_countCommon_c1.2.2.2.2.2.2.2.2.2.2.2.2.2.2.1, rfl⟩
theorem dX6_countCommon_61 : Dc cX6_countCommon 61 (.istore 6) 2 63 := ⟨DX6_countCommon_c1.2.2.2.2.2.2.2.2.2.2.2.2.2.2.2, rfl⟩
theorem DX6_countCommon_c2 : decode cX6_countCommon 63 = .ok (.iload 6, 2) ∧ decode cX6_countCommon 65 = .ok (.iload 5, 2) ∧ decode cX6_countCommon 67 = .ok (.if_icmp .ge 92, 3) ∧ decode cX6_countCommon 70 = .ok (.iconst 0, 1) ∧ decode cX6_countCommon 71 = .ok (.istore 7, 2) ∧ decode cX6_countCommon 73 = .ok (.iconst 1, 1) ∧ decode cX6_countCommon 74 = .ok (.istore 8, 2) ∧ decode cX6_countCommon 76 = .ok (.iload 8, 2) ∧ decode cX6_countCommon 78 = .ok (.iload 4, 2) ∧ decode cX6_countCommon 80 = .ok (.if_icmp .gt 73, 3) ∧ decode cX6_countCommon 83 = .ok (.aload_n 0, 1) ∧ decode cX6_countCommon 84 = .ok (.getfield 47, 3) ∧ decode cX6_countCommon 87 = .ok (.iload 8, 2) ∧ decode cX6_countCommon 89 = .ok (.iaload, 1) ∧ decode cX6_countCommon 90 = .ok (.istore 9, 2) ∧ decode cX6_countCommon 92 = .ok (.aload_n 0, 1) := by decide +kernel
theorem dX6_countCommon_63 : Dc cX6_countCommon 63 (.iload 6) 2 65 := ⟨DX6_countCommon_c2.1, rfl⟩
theorem dX6_countCommon_65 : Dc cX6_countCommon 65 (.iload 5) 2 67 := ⟨DX6_countCommon_c2.2.1, rfl⟩
theorem dX6_countCommon_67 : Db cX6_countCommon 67 (fun o => .if_icmp .ge o) 70 159 := ⟨92, DX6_countCommon_c2.2.2.1, rfl, rfl⟩
theorem dX6_countCommon_70 : Dc cX6_countCommon 70 (.iconst 0) 1 71 := ⟨DX6_countCommon_c2.2.2.2.1, rfl⟩
theorem dX6_countCommon_71 : Dc cX6_countCommon 71 (.istore 7) 2 73 := ⟨DX6_countCommon_c2.2.2.2.2.1, rfl⟩
theorem dX6_countCommon_73 : Dc cX6_countCommon 73 (.iconst 1) 1 74 := ⟨DX6_countCommon_c2.2.2.2.2.2.1, rfl⟩
theorem dX6_countCommon_74 : Dc cX6_countCommon 74 (.istore 8) 2 76 := ⟨DX6_countCommon_c2.2.2.2.2.2.2.1, rfl⟩
theorem dX6_countCommon_76 : Dc cX6_countCommon 76 (.iload 8) 2 78 := ⟨DX6_countCommon_c2.2.2.2.2.2.2.2.1, rfl⟩
theorem dX6_countCommon_78 : Dc cX6_countCommon 78 (.iload 4) 2 80 := ⟨DX6_countCommon_c2.2.2.2.2.2.2.2.2.1, rfl⟩
theorem dX6_countCommon_80 : Db cX6_countCommon 80 (fun o => .if_icmp .gt o) 83 153 := ⟨73, DX6_countCommon_c2.2.2.2.2.2.2.2.2.2.1, rfl, rfl⟩
theorem dX6_countCommon_83 : Dc cX6_countCommon 83 (.aload_n 0) 1 84 := ⟨DX6_countCommon_c2.2.2.2.2.2.2.2.2.2.2.1, rfl⟩
theorem dX6_countCommon_84 : Dc cX6_countCommon 84 (.getfield 47) 3 87 := ⟨DX6_countCommon_c2.2.2.2.2.2.2.2.2.2.2.2.1, rfl⟩
theorem dX6_countCommon_87 : Dc cX6_countCommon 87 (.iload 8) 2 89 := ⟨DX6_countCommon_c2.2.2.2.2.2.2.2.2.2.2.2.2.1, rfl⟩
theorem dX6_countCommon_89 : Dc cX6_countCommon 89 (.iaload) 1 90 := ⟨DX6_countCommon_c2.2.2.2.2.2.2.2.2.2.2.2.2.2.1, rfl⟩
theorem dX6_countCommon_90 : Dc cX6_countCommon 90 (.istore 9) 2 92 := ⟨DX6_countCommon_c2.2.2.2.2.2.2.2.2.2.2.2.2.2.2.1, rfl⟩
theorem dX6_countCommon_92 : Dc cX6_countCommon 92 (.aload_n 0) 1 93 := ⟨DX6_countCommon_c2.2.2.2.2.2.2.2.2.2.2.2.2.2.2.2, rfl⟩
theorem DX6_countCommon_c3 : decode cX6_countCommon 93 = .ok (.iload_n 1, 1) ∧ decode cX6_countCommon 94 = .ok (.iload 6, 2) ∧ decode cX6_countCommon 96 = .ok (.iload_n 2, 1) ∧ decode cX6_countCommon 97 = .ok (.iload 8, 2) ∧ decode cX6_countCommon 99 = .ok (.iconst 1, 1) ∧ decode cX6_countCommon 100 = .ok (.isub, 1) ∧ decode cX6_countCommon 101 = .ok (.iload_n 3, 1) ∧ decode cX6_countCommon 102 = .ok (.invokevirtual 260, 3) ∧ decode cX6_countCommon 105 = .ok (.ifCond .eq 17, 3) ∧ decode cX6_countCommon 108 = .ok (.aload_n 0, 1) ∧ decode cX6_countCommon 109 = .ok (.getfield 47, 3) ∧ decode cX6_countCommon 112 = .ok (.iload 8, 2) ∧ decode cX6_countCommon 114 = .ok (.iload 7, 2) ∧ decode cX6_countCommon 116 = .ok (.iconst 1, 1) ∧ decode cX6_countCommon 117 = .ok (.iadd, 1) ∧ decode cX6_countCommon 118 = .ok (.iastore, 1) := by decide +kernel
theorem dX6_countCommon_93 : Dc cX6_countCommon 93 (.iload_n 1) 1 94 := ⟨DX6_countCommon_c3.1, rfl⟩
theorem dX6_countCommon_94 : Dc cX6_countCommon 94 (.iload 6) 2 96 := ⟨DX6_countCommon_c3.2.1, rfl⟩
theorem dX6_countCommon_96 : Dc cX6_countCommon 96 (.iload_n 2) 1 97 := ⟨DX6_countCommon_c3.2.2.1, rfl⟩
theorem dX6_countCommon_97 : Dc cX6_countCommon 97 (.iload 8) 2 99 := ⟨DX6_countCommon_c3.2.2.2.1, rfl⟩
theorem dX6_countCommon_99 : Dc cX6_countCommon 99 (.iconst 1) 1 100 := ⟨DX6_countCommon_c3.2.2.2.2.1, rfl⟩
theorem dX6_countCommon_100 : Dc cX6_countCommon 100 (.isub) 1 101 := ⟨DX6_countCommon_c3.2.2.2.2.2.1, rfl⟩
theorem dX6_countCommon_101 : Dc cX6_countCommon 101 (.iload_n 3) 1 102 := ⟨DX6_countCommon_c3.2.2.2.2.2.2.1, rfl⟩
theorem dX6_countCommon_102 : Dc cX6_countCommon 102 (.invokevirtual 260) 3 105 := ⟨DX6_countCommon_c3.2.2.2.2.2.2.2.1, rfl⟩
theorem dX6_countCommon_105 : Db cX6_countCommon 105 (fun o => .ifCond .eq o) 108 122 := ⟨17, DX6_countCommon_c3.2.2.2.2.2.2.2.2.1, rfl, rfl⟩
theorem dX6_countCommon_108 : Dc cX6_countCommon 108 (.aload_n 0) 1 109 := ⟨DX6_countCommon_c3.2.2.2.2.2.2.2.2.2.1, rfl⟩
theorem dX6_countCommon_109 : Dc cX6_countCommon 109 (.getfield 47) 3 112 := ⟨DX6_countCommon_c3.2.2.2.2.2.2.2.2.2.2.1, rfl⟩
theorem dX6_countCommon_112 : Dc cX6_countCommon 112 (.iload 8) 2 114 := ⟨DX6_countCommon_c3.2.2.2.2.2.2.2.2.2.2.2.1, rfl⟩
theorem dX6_countCommon_114 : Dc cX6_countCommon 114 (.iload 7) 2 116 := ⟨DX6_countCommon_c3.2.2.2.2.2.2.2.2.2.2.2.2.1, rfl⟩
theorem dX6_countCommon_116 : Dc cX6_countCommon 116 (.iconst 1) 1 117 := ⟨DX6_countCommon_c3.2.2.2.2.2.2.2.2.2.2.2.2.2.1, rfl⟩
theorem dX6_countCommon_117 : Dc cX6_countCommon 117 (.iadd) 1 118 := ⟨DX6_countCommon_c3.2.2.2.2.2.2.2.2.2.2.2.2.2.2.1, rfl⟩
theorem dX6_countCommon_118 : Dc cX6_countCommon 118 (.iastore) 1 119 := ⟨DX6_countCommon_c3.2.2.2.2.2.2.2.2.2.2.2.2.2.2.2, rfl⟩
theorem DX6_countCommon_c4 : decode cX6_countCommon 119 = .ok (.goto 24, 3) ∧ decode cX6_countCommon 122 = .ok (.aload_n 0, 1) ∧ decode cX6_countCommon 123 = .ok (.getfield 47, 3) ∧ decode cX6_countCommon 126 = .ok (.iload 8, 2) ∧ decode cX6_countCommon 128 = .ok (.iload 9, 2) ∧ decode cX6_countCommon 130 = .ok (.aload_n 0, 1) ∧ decode cX6_countCommon 131 = .ok (.getfield 47, 3) ∧ decode cX6_countCommon 134 = .ok (.iload 8, 2) ∧ decode cX6_countCommon 136 = .ok (.iconst 1, 1) ∧ decode cX6_countCommon 137 = .ok (.isub, 1) ∧ decode cX6_countCommon 138 = .ok (.iaload, 1) ∧ decode cX6_countCommon 139 = .ok (.invokestatic 264, 3) ∧ decode cX6_countCommon 142 = .ok (.iastore, 1) ∧ decode cX6_countCommon 143 = .ok (.iload 9, 2) ∧ decode cX6_countCommon 145 = .ok (.istore 7, 2) ∧ decode cX6_countCommon 147 = .ok (.iinc 8 1, 3) := by decide +kernel
theorem dX6_countCommon_119 : Db cX6_countCommon 119 .goto 122 143 := ⟨24, DX6_countCommon_c4.1, rfl, rfl⟩
theorem dX6_countCommon_122 : Dc cX6_countCommon 122 (.aload_n 0) 1 123 := ⟨DX6_countCommon_c4.2.1, rfl⟩
theorem dX6_countCommon_123 : Dc cX6_countCommon 123 (.getfield 47) 3 126 := ⟨DX6_countCommon_c4.2.2.1, rfl⟩
theorem dX6_countCommon_126 : Dc cX6_countCommon 126 (.iload 8) 2 128 := ⟨DX6_countCommon_c4.2.2.2.1, rfl⟩
theorem dX6_countCommon_128 : Dc cX6_countCommon 128 (.iload 9) 2 130 := ⟨DX6_countCommon_c4.2.2.2.2.1, rfl⟩
theorem dX6_countCommon_130 : Dc cX6_countCommon 130 (.aload_n 0) 1 131 := ⟨DX6_countCommon_c4.2.2.2.2.2.1, rfl⟩
theorem dX6_countCommon_131 : Dc cX6_countCommon 131 (.getfield 47) 3 134 := ⟨DX6_countCommon_c4.2.2.2.2.2.2.1, rfl⟩
theorem dX6_countCommon_134 : Dc cX6_countCommon 134 (.iload 8) 2 136 := ⟨DX6_countCommon_c4.2.2.2.2.2.2.2.1, rfl⟩
theorem dX6_countCommon_136 : Dc cX6_countCommon 136 (.iconst 1) 1 137 := ⟨DX6_countCommon_c4.2.2.2.2.2.2.2.2.1, rfl⟩
theorem dX6_countCommon_137 : Dc cX6_countCommon 137 (.isub) 1 138 := ⟨DX6_countCommon_c4.2.2.2.2.2.2.2.2.2.1, rfl⟩
theorem dX6_countCommon_138 : Dc cX6_countCommon 138 (.iaload) 1 139 := ⟨DX6_countCommon_c4.2.2.2.2.2.2.2.2.2.2.1, rfl⟩
theorem dX6_countCommon_139 : Dc cX6_countCommon 139 (.invokestatic 264) 3 142 := ⟨DX6_countCommon_c4.2.2.2.2.2.2.2.2.2.2.2.1, rfl⟩
theorem dX6_countCommon_142 : Dc cX6_countCommon 142 (.iastore) 1 143 := ⟨DX6_countCommon_c4.2.2.2.2.2.2.2.2.2.2.2.2.1, rfl⟩
theorem dX6_countCommon_143 : Dc cX6_countCommon 143 (.iload 9) 2 145 := ⟨DX6_countCommon_c4.2.2.2.2.2.2.2.2.2.2.2.2.2.1, rfl⟩
theorem dX6_countCommon_145 : Dc cX6_countCommon 145 (.istore 7) 2 147 := ⟨DX6_countCommon_c4.2.2.2.2.2.2.2.2.2.2.2.2.2.2.1, rfl⟩
theorem dX6_countCommon_147 : Dc cX6_countCommon 147 (.iinc 8 1) 3 150 := ⟨DX6_countCommon_c4.2.2.2.2.2.2.2.2.2.2.2.2.2.2.2, rfl⟩
theorem DX6_countCommon_c5 : decode cX6_countCommon 150 = .ok (.goto (-74), 3) ∧ decode cX6_countCommon 153 = .ok (.iinc 6 1, 3) ∧ decode cX6_countCommon 156 = .ok (.goto (-93), 3) ∧ decode cX6_countCommon 159 = .ok (.iload 4, 2) ∧ decode cX6_countCommon 161 = .ok (.ifCond .ge 7, 3) ∧ decode cX6_countCommon 164 = .ok (.iconst 0, 1) ∧ decode cX6_countCommon 165 = .ok (.goto 10, 3) ∧ decode cX6_countCommon 168 = .ok (.aload_n 0, 1) ∧ decode cX6_countCommon 169 = .ok (.getfield 47, 3) ∧ decode cX6_countCommon 172 = .ok (.iload 4, 2) ∧ decode cX6_countCommon 174 = .ok (.iaload, 1) ∧ decode cX6_countCommon 175 = .ok (.ireturn, 1) := by decide +kernel
theorem dX6_countCommon_150 : Db cX6_countCommon 150 .goto 153 76 := ⟨-74, DX6_countCommon_c5.1, rfl, rfl⟩
theorem dX6_countCommon_153 : Dc cX6_countCommon 153 (.iinc 6 1) 3 156 := ⟨DX6_countCommon_c5.2.1, rfl⟩
theorem dX6_countCommon_156 : Db cX6_countCommon 156 .goto 159 63 := ⟨-93, DX6_countCommon_c5.2.2.1, rfl, rfl⟩
theorem dX6_countCommon_159 : Dc cX6_countCommon 159 (.iload 4) 2 161 := ⟨DX6_countCommon_c5.2.2.2.1, rfl⟩
theorem dX6_countCommon_161 : Db cX6_countCommon 161 (fun o => .ifCond .ge o) 164 168 := ⟨7, DX6_countCommon_c5.2.2.2.2.1, rfl, rfl⟩
theorem dX6_countCommon_164 : Dc cX6_countCommon 164 (.iconst 0) 1 165 := ⟨DX6_countCommon_c5.2.2.2.2.2.1, rfl⟩
theorem dX6_countCommon_165 : Db cX6_countCommon 165 .goto 168 175 := ⟨10, DX6_countCommon_c5.2.2.2.2.2.2.1, rfl, rfl⟩
theorem dX6_countCommon_168 : Dc cX6_countCommon 168 (.aload_n 0) 1 169 := ⟨DX6_countCommon_c5.2.2.2.2.2.2.2.1, rfl⟩
theorem dX6_countCommon_169 : Dc cX6_countCommon 169 (.getfield 47) 3 172 := ⟨DX6_countCommon_c5.2.2.2.2.2.2.2.2.1, rfl⟩
theorem dX6_countCommon_172 : Dc cX6_countCommon 172 (.iload 4) 2 174 := ⟨DX6_countCommon_c5.2.2.2.2.2.2.2.2.2.1, rfl⟩
theorem dX6_countCommon_174 : Dc cX6_countCommon 174 (.iaload) 1 175 := ⟨DX6_countCommon_c5.2.2.2.2.2.2.2.2.2.2.1, rfl⟩
theorem dX6_countCommon_175 : Dc cX6_countCommon 175 (.ireturn) 1 176 := ⟨DX6_countCommon_c5.2.2.2.2.2.2.2.2.2.2.2, rfl⟩
theorem DX6_areAlike_c0 : decode cX6_areAlike 0 = .ok (.aload_n 0, 1) ∧ decode cX6_areAlike 1 = .ok (.getfield 12, 3) ∧ decode cX6_areAlike 4 = .ok (.getfield 74, 3) ∧ decode cX6_areAlike 7 = .ok (.astore 6, 2) ∧ decode cX6_areAlike 9 = .ok (.aload 6, 2) ∧ decode cX6_areAlike 11 = .ok (.iload_n 1, 1) ∧ decode cX6_areAlike 12 = .ok (.iload_n 2, 1) ∧ decode cX6_areAlike 13 = .ok (.invokevirtual 157, 3) ∧ decode cX6_areAlike 16 = .ok (.aload 6, 2) ∧ decode cX6_areAlike 18 = .ok (.iload_n 3, 1) ∧ decode cX6_areAlike 19 = .ok (.iload 4, 2) ∧ decode cX6_areAlike 21 = .ok (.invokevirtual 157, 3) ∧ decode cX6_areAlike 24 = .ok (.if_icmp .eq 5, 3) ∧ decode cX6_areAlike 27 = .ok (.iconst 0, 1) ∧ decode cX6_areAlike 28 = .ok (.ireturn, 1) ∧ decode cX6_areAlike 29 = .ok (.iload 5, 2) := by decide +kernel
theorem dX6_areAlike_0 : Dc cX6_areAlike 0 (.aload_n 0) 1 1 := ⟨DX6_areAlike_c0.1, rfl⟩
theorem dX6_areAlike_1 : Dc cX6_areAlike 1 (.getfield 12) 3 4 := ⟨DX6_areAlike_c0.2.1, rfl⟩
theorem dX6_areAlike_4 : Dc cX6_areAlike 4 (.getfield 74) 3 7 := ⟨DX6_areAlike_c0.2.2.1, rfl⟩
theorem dX6_areAlike_7 : Dc cX6_areAlike 7 (.astore 6) 2 9 := ⟨DX6_areAlike_c0.2.2.2.1, rfl⟩
theorem dX6_areAlike_9 : Dc cX6_areAlike 9 (.aload 6) 2 11 := ⟨DX6_areAlike_c0.2.2.2.2.1, rfl⟩
theorem dX6_areAlike_11 : Dc cX6_areAlike 11 (.iload_n 1) 1 12 := ⟨DX6_areAlike_c0.2.2.2.2.2.1, rfl⟩
theorem dX6_areAlike_12 : Dc cX6_areAlike 12 (.iload_n 2) 1 13 := ⟨DX6_areAlike_c0.2.2.2.2.2.2.1, rfl⟩
theorem dX6_areAlike_13 : Dc cX6_areAlike 13 (.invokevirtual 157) 3 16 := ⟨DX6_areAlike_c0.2.2.2.2.2.2.2.1, rfl⟩
theorem dX6_areAlike_16 : Dc cX6_areAlike 16 (.aload 6) 2 18 := ⟨DX6_areAlike_c0.2.2.2.2.2.2.2.2.1, rfl⟩
theorem dX6_areAlike_18 : Dc cX6_areAlike 18 (.iload_n 3) 1 19 := ⟨DX6_areAlike_c0.2.2.2.2.2.2.2.2.2.1, rfl⟩
theorem dX6_areAlike_19 : Dc cX6_areAlike 19 (.iload 4) 2 21 := ⟨DX6_areAlike_c0.2.2.2.2.2.2.2.2.2.2.1, rfl⟩
theorem dX6_areAlike_21 : Dc cX6_areAlike 21 (.invokevirtual 157) 3 24 := ⟨DX6_areAlike_c0.2.2.2.2.2.2.2.2.2.2.2.1, rfl⟩
theorem dX6_areAlike_24 : Db cX6_areAlike 24 (fun o => .if_icmp .eq o) 27 29 := ⟨5, DX6_areAlike_c0.2.2.2.2.2.2.2.2.2.2.2.2.1, rfl, rfl⟩
theorem dX6_areAlike_27 : Dc cX6_areAlike 27 (.iconst 0) 1 28 := ⟨DX6_areAlike_c0.2.2.2.2.2.2.2.2.2.2.2.2.2.1, rfl⟩
theorem dX6_areAlike_28 : Dc cX6_areAlike 28 (.ireturn) 1 29 := ⟨DX6_areAlike_c0.2.2.2.2.2.2.2.2.2.2.2.2.2.2.1, rfl⟩
theorem dX6_areAlike_29 : Dc cX6_areAlike 29 (.iload 5) 2 31 := ⟨DX6_areAlike_c0.2.2.2.2.2.2.2.2.2.2.2.2.2.2.2, rfl⟩
theorem DX6_areAlike_c1 : decode cX6_areAlike 31 = .ok (.ifCond .eq 21, 3) ∧ decode cX6_areAlike 34 = .ok (.aload 6, 2) ∧ decode cX6_areAlike 36 = .ok (.iload_n 1, 1) ∧ decode cX6_areAlike 37 = .ok (.iload_n 2, 1) ∧ decode cX6_areAlike 38 = .ok (.invokevirtual 161, 3) ∧ decode cX6_areAlike 41 = .ok (.aload 6, 2) ∧ decode cX6_areAlike 43 = .ok (.iload_n 3, 1) ∧ decode cX6_areAlike 44 = .ok (.iload 4, 2) ∧ decode cX6_areAlike 46 = .ok (.invokevirtual 161, 3) ∧ decode cX6_areAlike 49 = .ok (.if_icmp .ne 7, 3) ∧ decode cX6_areAlike 52 = .ok (.iconst 1, 1) ∧ decode cX6_areAlike 53 = .ok (.goto 4, 3) ∧ decode cX6_areAlike 56 = .ok (.iconst 0, 1) ∧ decode cX6_areAlike 57 = .ok (.ireturn, 1) := by decide +kernel
theorem dX6_areAlike_31 : Db cX6_areAlike 31 (fun o => .ifCond .eq o) 34 52 := ⟨21, DX6_areAlike_c1.1, rfl, rfl⟩
theorem dX6_areAlike_34 : Dc cX6_areAlike 34 (.aload 6) 2 36 := ⟨DX6_areAlike_c1.2.1, rfl⟩
theorem dX6_areAlike_36 : Dc cX6_areAlike 36 (.iload_n 1) 1 37 := ⟨DX6_areAlike_c1.2.2.1, rfl⟩
theorem dX6_areAlike_37 : Dc cX6_areAlike 37 (.iload_n 2) 1 38 := ⟨DX6_areAlike_c1.2.2.2.1, rfl⟩
theorem dX6_areAlike_38 : Dc cX6_areAlike 38 (.invokevirtual 161) 3 41 := ⟨DX6_areAlike_c1.2.2.2.2.1, rfl⟩
theorem dX6_areAlike_41 : Dc cX6_areAlike 41 (.aload 6) 2 43 := ⟨DX6_areAlike_c1.2.2.2.2.2.1, rfl⟩
theorem dX6_areAlike_43 : Dc cX6_areAlike 43 (.iload_n 3) 1 44 := ⟨DX6_areAlike_c1.2.2.2.2.2.2.1, rfl⟩
theorem dX6_areAlike_44 : Dc cX6_areAlike 44 (.iload 4) 2 46 := ⟨DX6_areAlike_c1.2.2.2.2.2.2.2.1, rfl⟩
theorem dX6_areAlike_46 : Dc cX6_areAlike 46 (.invokevirtual 161) 3 49 := ⟨DX6_areAlike_c1.2.2.2.2.2.2.2.2.1, rfl⟩
theorem dX6_areAlike_49 : Db cX6_areAlike 49 (fun o => .if_icmp .ne o) 52 56 := ⟨7, DX6_areAlike_c1.2.2.2.2.2.2.2.2.2.1, rfl, rfl⟩
theorem dX6_areAlike_52 : Dc cX6_areAlike 52 (.iconst 1) 1 53 := ⟨DX6_areAlike_c1.2.2.2.2.2.2.2.2.2.2.1, rfl⟩
theorem dX6_areAlike_53 : Db cX6_areAlike 53 .goto 56 57 := ⟨4, DX6_areAlike_c1.2.2.2.2.2.2.2.2.2.2.2.1, rfl, rfl⟩
theorem dX6_areAlike_56 : Dc cX6_areAlike 56 (.iconst 0) 1 57 := ⟨DX6_areAlike_c1.2.2.2.2.2.2.2.2.2.2.2.2.1, rfl⟩
theorem dX6_areAlike_57 : Dc cX6_areAlike 57 (.ireturn) 1 58 := ⟨DX6_areAlike_c1.2.2.2.2.2.2.2.2.2.2.2.2.2, rfl⟩
theorem DX6_makeLoop_c0 : decode cX6_makeLoop 0 = .ok (.aload_n 0, 1) ∧ decode cX6_makeLoop 1 = .ok (.getfield 12, 3) ∧ decode cX6_makeLoop 4 = .ok (.getfield 74, 3) ∧ decode cX6_makeLoop 7 = .ok (.astore 6, 2) ∧ decode cX6_makeLoop 9 = .ok (.aload_n 0, 1) ∧ decode cX6_makeLoop 10 = .ok (.getfield 12, 3) ∧ decode cX6_makeLoop 13 = .ok (.getfield 115, 3) ∧ decode cX6_makeLoop 16 = .ok (.invokevirtual 98, 3) ∧ decode cX6_makeLoop 19 = .ok (.aload_n 0, 1) ∧ decode cX6_makeLoop 20 = .ok (.getfield 12, 3) ∧ decode cX6_makeLoop 23 = .ok (.getfield 115, 3) ∧ decode cX6_makeLoop 26 = .ok (.getfield 78, 3) ∧ decode cX6_makeLoop 29 = .ok (.istore 7, 2) ∧ decode cX6_makeLoop 31 = .ok (.iconst 0, 1) ∧ decode cX6_makeLoop 32 = .ok (.istore 8, 2) ∧ decode cX6_makeLoop 34 = .ok (.iload 8, 2) := by decide +kernel
theorem dX6_makeLoop_0 : Dc cX6_makeLoop 0 (.aload_n 0) 1 1 := ⟨DX6_makeLoop_c0.1, rfl⟩
theorem dX6_makeLoop_1 : Dc cX6_makeLoop 1 (.getfield 12) 3 4 := ⟨DX6_makeLoop_c0.2.1, rfl⟩
theorem dX6_makeLoop_4 : Dc cX6_makeLoop 4 (.getfield 74) 3 7 := ⟨DX6_makeLoop_c0.2.2.1, rfl⟩
theorem dX6_makeLoop_7 : Dc cX6_makeLoop 7 (.astore 6) 2 9 := ⟨DX6_makeLoop_c0.2.2.2.1, rfl⟩
theorem dX6_makeLoop_9 : Dc cX6_makeLoop 9 (.aload_n 0) 1 10 := ⟨DX6_makeLoop_c0.2.2.2.2.1, rfl⟩
theorem dX6_makeLoop_10 : Dc cX6_makeLoop 10 (.getfield 12) 3 13 := ⟨DX6_makeLoop_c0.2.2.2.2.2.1, rfl⟩
theorem dX6_makeLoop_13 : Dc cX6_makeLoop 13 (.getfield 115) 3 16 := ⟨DX6_makeLoop_c0.2.2.2.2.2.2.1, rfl⟩
theorem dX6_makeLoop_16 : Dc cX6_makeLoop 16 (.invokevirtual 98) 3 19 := ⟨DX6_makeLoop_c0.2.2.2.2.2.2.2.1, rfl⟩
theorem dX6_makeLoop_19 : Dc cX6_makeLoop 19 (.aload_n 0) 1 20 := ⟨DX6_makeLoop_c0.2.2.2.2.2.2.2.2.1, rfl⟩
theorem dX6_makeLoop_20 : Dc cX6_makeLoop 20 (.getfield 12) 3 23 := ⟨DX6_makeLoop_c0.2.2.2.2.2.2.2.2.2.1, rfl⟩
theorem dX6_makeLoop_23 : Dc cX6_makeLoop 23 (.getfield 115) 3 26 := ⟨DX6_makeLoop_c0.2.2.2.2.2.2.2.2.2.2.1, rfl⟩
theorem dX6_makeLoop_26 : Dc cX6_makeLoop 26 (.getfield 78) 3 29 := ⟨DX6_makeLoop_c0.2.2.2.2.2.2.2.2.2.2.2.1, rfl⟩
theorem dX6_makeLoop_29 : Dc cX6_makeLoop 29 (.istore 7) 2 31 := ⟨DX6_makeLoop_c0.2.2.2.2.2.2.2.2.2.2.2.2.1, rfl⟩
theorem dX6_makeLoop_31 : Dc cX6_makeLoop 31 (.iconst 0) 1 32 := ⟨DX6_makeLoop_c0.2.2.2.2.2.2.2.2.2.2.2.2.2.1, rfl⟩
theorem dX6_makeLoop_32 : Dc cX6_makeLoop 32 (.istore 8) 2 34 := ⟨DX6_makeLoop_c0.2.2.2.2.2.2.2.2.2.2.2.2.2.2.1, rfl⟩
theorem dX6_makeLoop_34 : Dc cX6_makeLoop 34 (.iload 8) 2 36 := ⟨DX6_makeLoop_c0.2.2.2.2.2.2.2.2.2.2.2.2.2.2.2, rfl⟩
theorem DX6_makeLoop_c1 : decode cX6_makeLoop 36 = .ok (.iload 4, 2) ∧ decode cX6_makeLoop 38 = .ok (.if_icmp .ge 58, 3) ∧ decode cX6_makeLoop 41 = .ok (.aload 6, 2) ∧ decode cX6_makeLoop 43 = .ok (.iload_n 1, 1) ∧ decode cX6_makeLoop 44 = .ok (.iload 8, 2) ∧ decode cX6_makeLoop 46 = .ok (.invokevirtual 161, 3) ∧ decode cX6_makeLoop 49 = .ok (.istore 9, 2) ∧ decode cX6_makeLoop 51 = .ok (.aload 6, 2) ∧ decode cX6_makeLoop 53 = .ok (.iload_n 2, 1) ∧ decode cX6_makeLoop 54 = .ok (.iload_n 3, 1) ∧ decode cX6_makeLoop 55 = .ok (.iload 8, 2) ∧ decode cX6_makeLoop 57 = .ok (.iadd, 1) ∧ decode cX6_makeLoop 58 = .ok (.invokevirtual 161, 3) ∧ decode cX6_makeLoop 61 = .ok (.iload 9, 2) ∧ decode cX6_makeLoop 63 = .ok (.isub, 1) ∧ decode cX6_makeLoop 64 = .ok (.istore 10, 2) := by decide +kernel
theorem dX6_makeLoop_36 : Dc cX6_makeLoop 36 (.iload 4) 2 38 := ⟨DX6_makeLoop_c1.1, rfl⟩
theorem dX6_makeLoop_38 : Db cX6_makeLoop 38 (fun o => .if_icmp .ge o) 41 96 := ⟨58, DX6_makeLoop_c1.2.1, rfl, rfl⟩
theorem dX6_makeLoop_41 : Dc cX6_makeLoop 41 (.aload 6) 2 43 := ⟨DX6_makeLoop_c1.2.2.1, rfl⟩
theorem dX6_makeLoop_43 : Dc cX6_makeLoop 43 (.iload_n 1) 1 44 := ⟨DX6_makeLoop_c1.2.2.2.1, rfl⟩
theorem dX6_makeLoop_44 : Dc cX6_makeLoop 44 (.iload 8) 2 46 := ⟨DX6_makeLoop_c1.2.2.2.2.1, rfl⟩
theorem dX6_makeLoop_46 : Dc cX6_makeLoop 46 (.invokevirtual 161) 3 49 := ⟨DX6_makeLoop_c1.2.2.2.2.2.1, rfl⟩
theorem dX6_makeLoop_49 : Dc cX6_makeLoop 49 (.istore 9) 2 51 := ⟨DX6_makeLoop_c1.2.2.2.2.2.2.1, rfl⟩
theorem dX6_makeLoop_51 : Dc cX6_makeLoop 51 (.aload 6) 2 53 := ⟨DX6_makeLoop_c1.2.2.2.2.2.2.2.1, rfl⟩
theorem dX6_makeLoop_53 : Dc cX6_makeLoop 53 (.iload_n 2) 1 54 := ⟨DX6_makeLoop_c1.2.2.2.2.2.2.2.2.1, rfl⟩
theorem dX6_makeLoop_54 : Dc cX6_makeLoop 54 (.iload_n 3) 1 55 := ⟨DX6_makeLoop_c1.2.2.2.2.2.2.2.2.2.1, rfl⟩
theorem dX6_makeLoop_55 : Dc cX6_makeLoop 55 (.iload 8) 2 57 := ⟨DX6_makeLoop_c1.2.2.2.2.2.2.2.2.2.2.1, rfl⟩
theorem dX6_makeLoop_57 : Dc cX6_makeLoop 57 (.iadd) 1 58 := ⟨DX6_makeLoop_c1.2.2.2.2.2.2.2.2.2.2.2.1, rfl⟩
theorem dX6_makeLoop_58 : Dc cX6_makeLoop 58 (.invokevirtual 161) 3 61 := ⟨DX6_makeLoop_c1.2.2.2.2.2.2.2.2.2.2.2.2.1, rfl⟩
theorem dX6_makeLoop_61 : Dc cX6_makeLoop 61 (.iload 9) 2 63 := ⟨DX6_makeLoop_c1.2.2.2.2.2.2.2.2.2.2.2.2.2.1, rfl⟩
theorem dX6_makeLoop_63 : Dc cX6_makeLoop 63 (.isub) 1 64 := ⟨DX6_makeLoop_c1.2.2.2.2.2.2.2.2.2.2.2.2.2.2.1, rfl⟩
theorem dX6_makeLoop_64 : Dc cX6_makeLoop 64 (.istore 10) 2 66 := ⟨DX6_makeLoop_c1.2.2.2.2.2.2.2.2.2.2.2.2.2.2.2, rfl⟩
theorem DX6_makeLoop_c2 : decode cX6_makeLoop 66 = .ok (.aload_n 0, 1) ∧ decode cX6_makeLoop 67 = .ok (.getfield 12, 3) ∧ decode cX6_makeLoop 70 = .ok (.getfield 115, 3) ∧ decode cX6_makeLoop 73 = .ok (.iload 7, 2) ∧ decode cX6_makeLoop 75 = .ok (.aload 6, 2) ∧ decode cX6_makeLoop 77 = .ok (.iload_n 1, 1) ∧ decode cX6_makeLoop 78 = .ok (.iload 8, 2) ∧ decode cX6_makeLoop 80 = .ok (.invokevirtual 157, 3) ∧ decode cX6_makeLoop 83 = .ok (.iload 9, 2) ∧ decode cX6_makeLoop 85 = .ok (.iload 10, 2) ∧ decode cX6_makeLoop 87 = .ok (.invokevirtual 84, 3) ∧ decode cX6_makeLoop 90 = .ok (.iinc 8 1, 3) ∧ decode cX6_makeLoop 93 = .ok (.goto (-59), 3) ∧ decode cX6_makeLoop 96 = .ok (.aload_n 0, 1) ∧ decode cX6_makeLoop 97 = .ok (.getfield 12, 3) ∧ decode cX6_makeLoop 100 = .ok (.getfield 115, 3) := by decide +kernel
theorem dX6_makeLoop_66 : Dc cX6_makeLoop 66 (.aload_n 0) 1 67 := ⟨DX6_makeLoop_c2.1, rfl⟩
theorem dX6_makeLoop_67 : Dc cX6_makeLoop 67 (.getfield 12) 3 70 := ⟨DX6_makeLoop_c2.2.1, rfl⟩
theorem dX6_makeLoop_70 : Dc cX6_makeLoop 70 (.getfield 115) 3 73 := ⟨DX6_makeLoop_c2.2.2.1, rfl⟩
theorem dX6_makeLoop_73 : Dc cX6_makeLoop 73 (.iload 7) 2 75 := ⟨DX6_makeLoop_c2.2.2.2.1, rfl⟩
theorem dX6_makeLoop_75 : Dc cX6_makeLoop 75 (.aload 6) 2 77 := ⟨DX6_makeLoop_c2.2.2.2.2.1, rfl⟩
theorem dX6_makeLoop_77 : Dc cX6_makeLoop 77 (.iload_n 1) 1 78 := ⟨DX6_makeLoop_c2.2.2.2.2.2.1, rfl⟩
theorem dX6_makeLoop_78 : Dc cX6_makeLoop 78 (.iload 8) 2 80 := ⟨DX6_makeLoop_c2.2.2.2.2.2.2.1, rfl⟩
theorem dX6_makeLoop_80 : Dc cX6_makeLoop 80 (.invokevirtual 157) 3 83 := ⟨DX6_makeLoop_c2.2.2.2.2.2.2.2.1, rfl⟩
theorem dX6_makeLoop_83 : Dc cX6_makeLoop 83 (.iload 9) 2 85 := ⟨DX6_makeLoop_c2.2.2.2.2.2.2.2.2.1, rfl⟩
theorem dX6_makeLoop_85 : Dc cX6_makeLoop 85 (.iload 10) 2 87 := ⟨DX6_makeLoop_c2.2.2.2.2.2.2.2.2.2.1, rfl⟩
theorem dX6_makeLoop_87 : Dc cX6_makeLoop 87 (.invokevirtual 84) 3 90 := ⟨DX6_makeLoop_c2.2.2.2.2.2.2.2.2.2.2.1, rfl⟩
theorem dX6_makeLoop_90 : Dc cX6_makeLoop 90 (.iinc 8 1) 3 93 := ⟨DX6_makeLoop_c2.2.2.2.2.2.2.2.2.2.2.2.1, rfl⟩
theorem dX6_makeLoop_93 : Db cX6_makeLoop 93 .goto 96 34 := ⟨-59, DX6_makeLoop_c2.2.2.2.2.2.2.2.2.2.2.2.2.1, rfl, rfl⟩
theorem dX6_makeLoop_96 : Dc cX6_makeLoop 96 (.aload_n 0) 1 97 := ⟨DX6_makeLoop_c2.2.2.2.2.2.2.2.2.2.2.2.2.2.1, rfl⟩
theorem dX6_makeLoop_97 : Dc cX6_makeLoop 97 (.getfield 12) 3 100 := ⟨DX6_makeLoop_c2.2.2.2.2.2.2.2.2.2.2.2.2.2.2.1, rfl⟩
theorem dX6_makeLoop_100 : Dc cX6_makeLoop 100 (.getfield 115) 3 103 := ⟨DX6_makeLoop_c2.2.2.2.2.2.2.2.2.2.2.2.2.2.2.2, rfl⟩
theorem DX6_makeLoop_c3 : decode cX6_makeLoop 103 = .ok (.iload 5, 2) ∧ decode cX6_makeLoop 105 = .ok (.invokevirtual 101, 3) ∧ decode cX6_makeLoop 108 = .ok (.ireturn, 1) := by decide +kernel
theorem dX6_makeLoop_103 : Dc cX6_makeLoop 103 (.iload 5) 2 105 := ⟨DX6_makeLoop_c3.1, rfl⟩
theorem dX6_makeLoop_105 : Dc cX6_makeLoop 105 (.invokevirtual 101) 3 108 := ⟨DX6_makeLoop_c3.2.1, rfl⟩
theorem dX6_makeLoop_108 : Dc cX6_makeLoop 108 (.ireturn) 1 109 := ⟨DX6_makeLoop_c3.2.2, rfl⟩
theorem DX6_leastPeriod_c0 : decode cX6_leastPeriod 0 = .ok (.aload_n 0, 1) ∧ decode cX6_leastPeriod 1 = .ok (.getfield 12, 3) ∧ decode cX6_leastPeriod 4 = .ok (.getfield 74, 3) ∧ decode cX6_leastPeriod 7 = .ok (.iload_n 1, 1) ∧ decode cX6_leastPeriod 8 = .ok (.invokevirtual 118, 3) ∧ decode cX6_leastPeriod 11 = .ok (.istore_n 2, 1) ∧ decode cX6_leastPeriod 12 = .ok (.iconst 1, 1) ∧ decode cX6_leastPeriod 13 = .ok (.istore_n 3, 1) ∧ decode cX6_leastPeriod 14 = .ok (.iconst 2, 1) ∧ decode cX6_leastPeriod 15 = .ok (.iload_n 3, 1) ∧ decode cX6_leastPeriod 16 = .ok (.imul, 1) ∧ decode cX6_leastPeriod 17 = .ok (.iload_n 2, 1) ∧ decode cX6_leastPeriod 18 = .ok (.if_icmp .gt 26, 3) ∧ decode cX6_leastPeriod 21 = .ok (.iload_n 2, 1) ∧ decode cX6_leastPeriod 22 = .ok (.iload_n 3, 1) ∧ decode cX6_leastPeriod 23 = .ok (.irem, 1) := by decide +kernel
theorem dX6_leastPeriod_0 : Dc cX6_leastPeriod 0 (.aload_n 0) 1 1 := ⟨DX6_leastPeriod_c0.1, rfl⟩
theorem dX6_leastPeriod_1 : Dc cX6_leastPeriod 1 (.getfield 12) 3 4 := ⟨DX6_leastPeriod_c0.2.1, rfl⟩
theorem dX6_leastPeriod_4 : Dc cX6_leastPeriod 4 (.getfield 74) 3 7 := ⟨DX6_leastPeriod_c0.2.2.1, rfl⟩
theorem dX6_leastPeriod_7 : Dc cX6_leastPeriod 7 (.iload_n 1) 1 8 := ⟨DX6_leastPeriod_c0.2.2.2.1, rfl⟩
theorem dX6_leastPeriod_8 : Dc cX6_leastPeriod 8 (.invokevirtual 118) 3 11 := ⟨DX6_leastPeriod_c0.2.2.2.2.1, rfl⟩
theorem dX6_leastPeriod_11 : Dc cX6_leastPeriod 11 (.istore_n 2) 1 12 := ⟨DX6_leastPeriod_c0.2.2.2.2.2.1, rfl⟩
theorem dX6_leastPeriod_12 : Dc cX6_leastPeriod 12 (.iconst 1) 1 13 := ⟨DX6_leastPeriod_c0.2.2.2.2.2.2.1, rfl⟩
theorem dX6_leastPeriod_13 : Dc cX6_leastPeriod 13 (.istore_n 3) 1 14 := ⟨DX6_leastPeriod_c0.2.2.2.2.2.2.2.1, rfl⟩
theorem dX6_leastPeriod_14 : Dc cX6_leastPeriod 14 (.iconst 2) 1 15 := ⟨DX6_leastPeriod_c0.2.2.2.2.2.2.2.2.1, rfl⟩
theorem dX6_leastPeriod_15 : Dc cX6_leastPeriod 15 (.iload_n 3) 1 16 := ⟨DX6_leastPeriod_c0.2.2.2.2.2.2.2.2.2.1, rfl⟩
theorem dX6_leastPeriod_16 : Dc cX6_leastPeriod 16 (.imul) 1 17 := ⟨DX6_leastPeriod_c0.2.2.2.2.2.2.2.2.2.2.1, rfl⟩
theorem dX6_leastPeriod_17 : Dc cX6_leastPeriod 17 (.iload_n 2) 1 18 := ⟨DX6_leastPeriod_c0.2.2.2.2.2.2.2.2.2.2.2.1, rfl⟩
theorem dX6_leastPeriod_18 : Db cX6_leastPeriod 18 (fun o => .if_icmp .gt o) 21 44 := ⟨26, DX6_leastPeriod_c0.2.2.2.2.2.2.2.2.2.2.2.2.1, rfl, rfl⟩
theorem dX6_leastPeriod_21 : Dc cX6_leastPeriod 21 (.iload_n 2) 1 22 := ⟨DX6_leastPeriod_c0.2.2.2.2.2.2.2.2.2.2.2.2.2.1, rfl⟩
theorem dX6_leastPeriod_22 : Dc cX6_leastPeriod 22 (.iload_n 3) 1 23 := ⟨DX6_leastPeriod_c0.2.2.2.2.2.2.2.2.2.2.2.2.2.2.1, rfl⟩
theorem dX6_leastPeriod_23 : Dc cX6_leastPeriod 23 (.irem) 1 24 := ⟨DX6_leastPeriod_c0.2.2.2.2.2.2.2.2.2.2.2.2.2.2.2, rfl⟩
theorem DX6_leastPeriod_c1 : decode cX6_leastPeriod 24 = .ok (.ifCond .ne 14, 3) ∧ decode cX6_leastPeriod 27 = .ok (.aload_n 0, 1) ∧ decode cX6_leastPeriod 28 = .ok (.iload_n 1, 1) ∧ decode cX6_leastPeriod 29 = .ok (.iload_n 3, 1) ∧ decode cX6_leastPeriod 30 = .ok (.invokevirtual 267, 3) ∧ decode cX6_leastPeriod 33 = .ok (.ifCond .eq 5, 3) ∧ decode cX6_leastPeriod 36 = .ok (.iload_n 3, 1) ∧ decode cX6_leastPeriod 37 = .ok (.ireturn, 1) ∧ decode cX6_leastPeriod 38 = .ok (.iinc 3 1, 3) ∧ decode cX6_leastPeriod 41 = .ok (.goto (-27), 3) ∧ decode cX6_leastPeriod 44 = .ok (.iconst 0, 1) ∧ decode cX6_leastPeriod 45 = .ok (.ireturn, 1) := by decide +kernel
theorem dX6_leastPeriod_24 : Db cX6_leastPeriod 24 (fun o => .ifCond .ne o) 27 38 := ⟨14, DX6_leastPeriod_c1.1, rfl, rfl⟩
theorem dX6_leastPeriod_27 : Dc cX6_leastPeriod 27 (.aload_n 0) 1 28 := ⟨DX6_leastPeriod_c1.2.1, rfl⟩
theorem dX6_leastPeriod_28 : Dc cX6_leastPeriod 28 (.iload_n 1) 1 29 := ⟨DX6_leastPeriod_c1.2.2.1, rfl⟩
theorem dX6_leastPeriod_29 : Dc cX6_leastPeriod 29 (.iload_n 3) 1 30 := ⟨DX6_leastPeriod_c1.2.2.2.1, rfl⟩
theorem dX6_leastPeriod_30 : Dc cX6_leastPeriod 30 (.invokevirtual 267) 3 33 := ⟨DX6_leastPeriod_c1.2.2.2.2.1, rfl⟩
theorem dX6_leastPeriod_33 : Db cX6_leastPeriod 33 (fun o => .ifCond .eq o) 36 38 := ⟨5, DX6_leastPeriod_c1.2.2.2.2.2.1, rfl, rfl⟩
theorem dX6_leastPeriod_36 : Dc cX6_leastPeriod 36 (.iload_n 3) 1 37 := ⟨DX6_leastPeriod_c1.2.2.2.2.2.2.1, rfl⟩
theorem dX6_leastPeriod_37 : Dc cX6_leastPeriod 37 (.ireturn) 1 38 := ⟨DX6_leastPeriod_c1.2.2.2.2.2.2.2.1, rfl⟩
theorem dX6_leastPeriod_38 : Dc cX6_leastPeriod 38 (.iinc 3 1) 3 41 := ⟨DX6_leastPeriod_c1.2.2.2.2.2.2.2.2.1, rfl⟩
theorem dX6_leastPeriod_41 : Db cX6_leastPeriod 41 .goto 44 14 := ⟨-27, DX6_leastPeriod_c1.2.2.2.2.2.2.2.2.2.1, rfl, rfl⟩
theorem dX6_leastPeriod_44 : Dc cX6_leastPeriod 44 (.iconst 0) 1 45 := ⟨DX6_leastPeriod_c1.2.2.2.2.2.2.2.2.2.2.1, rfl⟩
theorem dX6_leastPeriod_45 : Dc cX6_leastPeriod 45 (.ireturn) 1 46 := ⟨DX6_leastPeriod_c1.2.2.2.2.2.2.2.2.2.2.2, rfl⟩
theorem DX6_repeatsBy_c0 : decode cX6_repeatsBy 0 = .ok (.aload_n 0, 1) ∧ decode cX6_repeatsBy 1 = .ok (.getfield 12, 3) ∧ decode cX6_repeatsBy 4 = .ok (.getfield 74, 3) ∧ decode cX6_repeatsBy 7 = .ok (.astore_n 3, 1) ∧ decode cX6_repeatsBy 8 = .ok (.aload_n 3, 1) ∧ decode cX6_repeatsBy 9 = .ok (.iload_n 1, 1) ∧ decode cX6_repeatsBy 10 = .ok (.invokevirtual 118, 3) ∧ decode cX6_repeatsBy 13 = .ok (.istore 4, 2) ∧ decode cX6_repeatsBy 15 = .ok (.iload_n 2, 1) ∧ decode cX6_repeatsBy 16 = .ok (.istore 5, 2) ∧ decode cX6_repeatsBy 18 = .ok (.iload 5, 2) ∧ decode cX6_repeatsBy 20 = .ok (.iload 4, 2) ∧ decode cX6_repeatsBy 22 = .ok (.if_icmp .ge 61, 3) ∧ decode cX6_repeatsBy 25 = .ok (.aload_n 3, 1) ∧ decode cX6_repeatsBy 26 = .ok (.iload_n 1, 1) ∧ decode cX6_repeatsBy 27 = .ok (.iload 5, 2) := by decide +kernel
theorem dX6_repeatsBy_0 : Dc cX6_repeatsBy 0 (.aload_n 0) 1 1 := ⟨DX6_repeatsBy_c0.1, rfl⟩
theorem dX6_repeatsBy_1 : Dc cX6_repeatsBy 1 (.getfield 12) 3 4 := ⟨DX6_repeatsBy_c0.2.1, rfl⟩
theorem dX6_repeatsBy_4 : Dc cX6_repeatsBy 4 (.getfield 74) 3 7 := ⟨DX6_repeatsBy_c0.2.2.1, rfl⟩
theorem dX6_repeatsBy_7 : Dc cX6_repeatsBy 7 (.astore_n 3) 1 8 := ⟨DX6_repeatsBy_c0.2.2.2.1, rfl⟩
theorem dX6_repeatsBy_8 : Dc cX6_repeatsBy 8 (.aload_n 3) 1 9 := ⟨DX6_repeatsBy_c0.2.2.2.2.1, rfl⟩
theorem dX6_repeatsBy_9 : Dc cX6_repeatsBy 9 (.iload_n 1) 1 10 := ⟨DX6_repeatsBy_c0.2.2.2.2.2.1, rfl⟩
theorem dX6_repeatsBy_10 : Dc cX6_repeatsBy 10 (.invokevirtual 118) 3 13 := ⟨DX6_repeatsBy_c0.2.2.2.2.2.2.1, rfl⟩
theorem dX6_repeatsBy_13 : Dc cX6_repeatsBy 13 (.istore 4) 2 15 := ⟨DX6_repeatsBy_c0.2.2.2.2.2.2.2.1, rfl⟩
theorem dX6_repeatsBy_15 : Dc cX6_repeatsBy 15 (.iload_n 2) 1 16 := ⟨DX6_repeatsBy_c0.2.2.2.2.2.2.2.2.1, rfl⟩
theorem dX6_repeatsBy_16 : Dc cX6_repeatsBy 16 (.istore 5) 2 18 := ⟨DX6_repeatsBy_c0.2.2.2.2.2.2.2.2.2.1, rfl⟩
theorem dX6_repeatsBy_18 : Dc cX6_repeatsBy 18 (.iload 5) 2 20 := ⟨DX6_repeatsBy_c0.2.2.2.2.2.2.2.2.2.2.1, rfl⟩
theorem dX6_repeatsBy_20 : Dc cX6_repeatsBy 20 (.iload 4) 2 22 := ⟨DX6_repeatsBy_c0.2.2.2.2.2.2.2.2.2.2.2.1, rfl⟩
theorem dX6_repeatsBy_22 : Db cX6_repeatsBy 22 (fun o => .if_icmp .ge o) 25 83 := ⟨61, DX6_repeatsBy_c0.2.2.2.2.2.2.2.2.2.2.2.2.1, rfl, rfl⟩
theorem dX6_repeatsBy_25 : Dc cX6_repeatsBy 25 (.aload_n 3) 1 26 := ⟨DX6_repeatsBy_c0.2.2.2.2.2.2.2.2.2.2.2.2.2.1, rfl⟩
theorem dX6_repeatsBy_26 : Dc cX6_repeatsBy 26 (.iload_n 1) 1 27 := ⟨DX6_repeatsBy_c0.2.2.2.2.2.2.2.2.2.2.2.2.2.2.1, rfl⟩
theorem dX6_repeatsBy_27 : Dc cX6_repeatsBy 27 (.iload 5) 2 29 := ⟨DX6_repeatsBy_c0.2.2.2.2.2.2.2.2.2.2.2.2.2.2.2, rfl⟩
theorem DX6_repeatsBy_c1 : decode cX6_repeatsBy 29 = .ok (.invokevirtual 157, 3) ∧ decode cX6_repeatsBy 32 = .ok (.aload_n 3, 1) ∧ decode cX6_repeatsBy 33 = .ok (.iload_n 1, 1) ∧ decode cX6_repeatsBy 34 = .ok (.iload 5, 2) ∧ decode cX6_repeatsBy 36 = .ok (.iload_n 2, 1) ∧ decode cX6_repeatsBy 37 = .ok (.isub, 1) ∧ decode cX6_repeatsBy 38 = .ok (.invokevirtual 157, 3) ∧ decode cX6_repeatsBy 41 = .ok (.if_icmp .eq 5, 3) ∧ decode cX6_repeatsBy 44 = .ok (.iconst 0, 1) ∧ decode cX6_repeatsBy 45 = .ok (.ireturn, 1) ∧ decode cX6_repeatsBy 46 = .ok (.iload 5, 2) ∧ decode cX6_repeatsBy 48 = .ok (.iconst 2, 1) ∧ decode cX6_repeatsBy 49 = .ok (.iload_n 2, 1) ∧ decode cX6_repeatsBy 50 = .ok (.imul, 1) ∧ decode cX6_repeatsBy 51 = .ok (.if_icmp .lt 26, 3) ∧ decode cX6_repeatsBy 54 = .ok (.aload_n 0, 1) := by decide +kernel
theorem dX6_repeatsBy_29 : Dc cX6_repeatsBy 29 (.invokevirtual 157) 3 32 := ⟨DX6_repeatsBy_c1.1, rfl⟩
theorem dX6_repeatsBy_32 : Dc cX6_repeatsBy 32 (.aload_n 3) 1 33 := ⟨DX6_repeatsBy_c1.2.1, rfl⟩
theorem dX6_repeatsBy_33 : Dc cX6_repeatsBy 33 (.iload_n 1) 1 34 := ⟨DX6_repeatsBy_c1.2.2.1, rfl⟩
theorem dX6_repeatsBy_34 : Dc cX6_repeatsBy 34 (.iload 5) 2 36 := ⟨DX6_repeatsBy_c1.2.2.2.1, rfl⟩
theorem dX6_repeatsBy_36 : Dc cX6_repeatsBy 36 (.iload_n 2) 1 37 := ⟨DX6_repeatsBy_c1.2.2.2.2.1, rfl⟩
theorem dX6_repeatsBy_37 : Dc cX6_repeatsBy 37 (.isub) 1 38 := ⟨DX6_repeatsBy_c1.2.2.2.2.2.1, rfl⟩
theorem dX6_repeatsBy_38 : Dc cX6_repeatsBy 38 (.invokevirtual 157) 3 41 := ⟨DX6_repeatsBy_c1.2.2.2.2.2.2.1, rfl⟩
theorem dX6_repeatsBy_41 : Db cX6_repeatsBy 41 (fun o => .if_icmp .eq o) 44 46 := ⟨5, DX6_repeatsBy_c1.2.2.2.2.2.2.2.1, rfl, rfl⟩
theorem dX6_repeatsBy_44 : Dc cX6_repeatsBy 44 (.iconst 0) 1 45 := ⟨DX6_repeatsBy_c1.2.2.2.2.2.2.2.2.1, rfl⟩
theorem dX6_repeatsBy_45 : Dc cX6_repeatsBy 45 (.ireturn) 1 46 := ⟨DX6_repeatsBy_c1.2.2.2.2.2.2.2.2.2.1, rfl⟩
theorem dX6_repeatsBy_46 : Dc cX6_repeatsBy 46 (.iload 5) 2 48 := ⟨DX6_repeatsBy_c1.2.2.2.2.2.2.2.2.2.2.1, rfl⟩
theorem dX6_repeatsBy_48 : Dc cX6_repeatsBy 48 (.iconst 2) 1 49 := ⟨DX6_repeatsBy_c1.2.2.2.2.2.2.2.2.2.2.2.1, rfl⟩
theorem dX6_repeatsBy_49 : Dc cX6_repeatsBy 49 (.iload_n 2) 1 50 := ⟨DX6_repeatsBy_c1.2.2.2.2.2.2.2.2.2.2.2.2.1, rfl⟩
theorem dX6_repeatsBy_50 : Dc cX6_repeatsBy 50 (.imul) 1 51 := ⟨DX6_repeatsBy_c1.2.2.2.2.2.2.2.2.2.2.2.2.2.1, rfl⟩
theorem dX6_repeatsBy_51 : Db cX6_repeatsBy 51 (fun o => .if_icmp .lt o) 54 77 := ⟨26, DX6_repeatsBy_c1.2.2.2.2.2.2.2.2.2.2.2.2.2.2.1, rfl, rfl⟩
theorem dX6_repeatsBy_54 : Dc cX6_repeatsBy 54 (.aload_n 0) 1 55 := ⟨DX6_repeatsBy_c1.2.2.2.2.2.2.2.2.2.2.2.2.2.2.2, rfl⟩
theorem DX6_repeatsBy_c2 : decode cX6_repeatsBy 55 = .ok (.iload_n 1, 1) ∧ decode cX6_repeatsBy 56 = .ok (.iload 5, 2) ∧ decode cX6_repeatsBy 58 = .ok (.iload_n 2, 1) ∧ decode cX6_repeatsBy 59 = .ok (.invokevirtual 270, 3) ∧ decode cX6_repeatsBy 62 = .ok (.aload_n 0, 1) ∧ decode cX6_repeatsBy 63 = .ok (.iload_n 1, 1) ∧ decode cX6_repeatsBy 64 = .ok (.iload 5, 2) ∧ decode cX6_repeatsBy 66 = .ok (.iload_n 2, 1) ∧ decode cX6_repeatsBy 67 = .ok (.isub, 1) ∧ decode cX6_repeatsBy 68 = .ok (.iload_n 2, 1) ∧ decode cX6_repeatsBy 69 = .ok (.invokevirtual 270, 3) ∧ decode cX6_repeatsBy 72 = .ok (.if_icmp .eq 5, 3) ∧ decode cX6_repeatsBy 75 = .ok (.iconst 0, 1) ∧ decode cX6_repeatsBy 76 = .ok (.ireturn, 1) ∧ decode cX6_repeatsBy 77 = .ok (.iinc 5 1, 3) ∧ decode cX6_repeatsBy 80 = .ok (.goto (-62), 3) := by decide +kernel
theorem dX6_repeatsBy_55 : Dc cX6_repeatsBy 55 (.iload_n 1) 1 56 := ⟨DX6_repeatsBy_c2.1, rfl⟩
theorem dX6_repeatsBy_56 : Dc cX6_repeatsBy 56 (.iload 5) 2 58 := ⟨DX6_repeatsBy_c2.2.1, rfl⟩
theorem dX6_repeatsBy_58 : Dc cX6_repeatsBy 58 (.iload_n 2) 1 59 := ⟨DX6_repeatsBy_c2.2.2.1, rfl⟩
theorem dX6_repeatsBy_59 : Dc cX6_repeatsBy 59 (.invokevirtual 270) 3 62 := ⟨DX6_repeatsBy_c2.2.2.2.1, rfl⟩
theorem dX6_repeatsBy_62 : Dc cX6_repeatsBy 62 (.aload_n 0) 1 63 := ⟨DX6_repeatsBy_c2.2.2.2.2.1, rfl⟩
theorem dX6_repeatsBy_63 : Dc cX6_repeatsBy 63 (.iload_n 1) 1 64 := ⟨DX6_repeatsBy_c2.2.2.2.2.2.1, rfl⟩
theorem dX6_repeatsBy_64 : Dc cX6_repeatsBy 64 (.iload 5) 2 66 := ⟨DX6_repeatsBy_c2.2.2.2.2.2.2.1, rfl⟩
theorem dX6_repeatsBy_66 : Dc cX6_repeatsBy 66 (.iload_n 2) 1 67 := ⟨DX6_repeatsBy_c2.2.2.2.2.2.2.2.1, rfl⟩
theorem dX6_repeatsBy_67 : Dc cX6_repeatsBy 67 (.isub) 1 68 := ⟨DX6_repeatsBy_c2.2.2.2.2.2.2.2.2.1, rfl⟩
theorem dX6_repeatsBy_68 : Dc cX6_repeatsBy 68 (.iload_n 2) 1 69 := ⟨DX6_repeatsBy_c2.2.2.2.2.2.2.2.2.2.1, rfl⟩
theorem dX6_repeatsBy_69 : Dc cX6_repeatsBy 69 (.invokevirtual 270) 3 72 := ⟨DX6_repeatsBy_c2.2.2.2.2.2.2.2.2.2.2.1, rfl⟩
theorem dX6_repeatsBy_72 : Db cX6_repeatsBy 72 (fun o => .if_icmp .eq o) 75 77 := ⟨5, DX6_repeatsBy_c2.2.2.2.2.2.2.2.2.2.2.2.1, rfl, rfl⟩
theorem dX6_repeatsBy_75 : Dc cX6_repeatsBy 75 (.iconst 0) 1 76 := ⟨DX6_repeatsBy_c2.2.2.2.2.2.2.2.2.2.2.2.2.1, rfl⟩
theorem dX6_repeatsBy_76 : Dc cX6_repeatsBy 76 (.ireturn) 1 77 := ⟨DX6_repeatsBy_c2.2.2.2.2.2.2.2.2.2.2.2.2.2.1, rfl⟩
theorem dX6_repeatsBy_77 : Dc cX6_repeatsBy 77 (.iinc 5 1) 3 80 := ⟨DX6_repeatsBy_c2.2.2.2.2.2.2.2.2.2.2.2.2.2.2.1, rfl⟩
theorem dX6_repeatsBy_80 : Db cX6_repeatsBy 80 .goto 83 18 := ⟨-62, DX6_repeatsBy_c2.2.2.2.2.2.2.2.2.2.2.2.2.2.2.2, rfl, rfl⟩
theorem DX6_repeatsBy_c3 : decode cX6_repeatsBy 83 = .ok (.iconst 1, 1) ∧ decode cX6_repeatsBy 84 = .ok (.ireturn, 1) := by decide +kernel
theorem dX6_repeatsBy_83 : Dc cX6_repeatsBy 83 (.iconst 1) 1 84 := ⟨DX6_repeatsBy_c3.1, rfl⟩
theorem dX6_repeatsBy_84 : Dc cX6_repeatsBy 84 (.ireturn) 1 85 := ⟨DX6_repeatsBy_c3.2, rfl⟩
theorem DX6_riseAt_c0 : decode cX6_riseAt 0 = .ok (.aload_n 0, 1) ∧ decode cX6_riseAt 1 = .ok (.getfield 12, 3) ∧ decode cX6_riseAt 4 = .ok (.getfield 74, 3) ∧ decode cX6_riseAt 7 = .ok (.iload_n 1, 1) ∧ decode cX6_riseAt 8 = .ok (.iload_n 2, 1) ∧ decode cX6_riseAt 9 = .ok (.invokevirtual 161, 3) ∧ decode cX6_riseAt 12 = .ok (.aload_n 0, 1) ∧ decode cX6_riseAt 13 = .ok (.getfield 12, 3) ∧ decode cX6_riseAt 16 = .ok (.getfield 74, 3) ∧ decode cX6_riseAt 19 = .ok (.iload_n 1, 1) ∧ decode cX6_riseAt 20 = .ok (.iload_n 2, 1) ∧ decode cX6_riseAt 21 = .ok (.iload_n 3, 1) ∧ decode cX6_riseAt 22 = .ok (.isub, 1) ∧ decode cX6_riseAt 23 = .ok (.invokevirtual 161, 3) ∧ decode cX6_riseAt 26 = .ok (.isub, 1) ∧ decode cX6_riseAt 27 = .ok (.ireturn, 1) := by decide +kernel
theorem dX6_riseAt_0 : Dc cX6_riseAt 0 (.aload_n 0) 1 1 := ⟨DX6_riseAt_c0.1, rfl⟩
theorem dX6_riseAt_1 : Dc cX6_riseAt 1 (.getfield 12) 3 4 := ⟨DX6_riseAt_c0.2.1, rfl⟩
theorem dX6_riseAt_4 : Dc cX6_riseAt 4 (.getfield 74) 3 7 := ⟨DX6_riseAt_c0.2.2.1, rfl⟩
theorem dX6_riseAt_7 : Dc cX6_riseAt 7 (.iload_n 1) 1 8 := ⟨DX6_riseAt_c0.2.2.2.1, rfl⟩
theorem dX6_riseAt_8 : Dc cX6_riseAt 8 (.iload_n 2) 1 9 := ⟨DX6_riseAt_c0.2.2.2.2.1, rfl⟩
theorem dX6_riseAt_9 : Dc cX6_riseAt 9 (.invokevirtual 161) 3 12 := ⟨DX6_riseAt_c0.2.2.2.2.2.1, rfl⟩
theorem dX6_riseAt_12 : Dc cX6_riseAt 12 (.aload_n 0) 1 13 := ⟨DX6_riseAt_c0.2.2.2.2.2.2.1, rfl⟩
theorem dX6_riseAt_13 : Dc cX6_riseAt 13 (.getfield 12) 3 16 := ⟨DX6_riseAt_c0.2.2.2.2.2.2.2.1, rfl⟩
theorem dX6_riseAt_16 : Dc cX6_riseAt 16 (.getfield 74) 3 19 := ⟨DX6_riseAt_c0.2.2.2.2.2.2.2.2.1, rfl⟩
theorem dX6_riseAt_19 : Dc cX6_riseAt 19 (.iload_n 1) 1 20 := ⟨DX6_riseAt_c0.2.2.2.2.2.2.2.2.2.1, rfl⟩
theorem dX6_riseAt_20 : Dc cX6_riseAt 20 (.iload_n 2) 1 21 := ⟨DX6_riseAt_c0.2.2.2.2.2.2.2.2.2.2.1, rfl⟩
theorem dX6_riseAt_21 : Dc cX6_riseAt 21 (.iload_n 3) 1 22 := ⟨DX6_riseAt_c0.2.2.2.2.2.2.2.2.2.2.2.1, rfl⟩
theorem dX6_riseAt_22 : Dc cX6_riseAt 22 (.isub) 1 23 := ⟨DX6_riseAt_c0.2.2.2.2.2.2.2.2.2.2.2.2.1, rfl⟩
theorem dX6_riseAt_23 : Dc cX6_riseAt 23 (.invokevirtual 161) 3 26 := ⟨DX6_riseAt_c0.2.2.2.2.2.2.2.2.2.2.2.2.2.1, rfl⟩
theorem dX6_riseAt_26 : Dc cX6_riseAt 26 (.isub) 1 27 := ⟨DX6_riseAt_c0.2.2.2.2.2.2.2.2.2.2.2.2.2.2.1, rfl⟩
theorem dX6_riseAt_27 : Dc cX6_riseAt 27 (.ireturn) 1 28 := ⟨DX6_riseAt_c0.2.2.2.2.2.2.2.2.2.2.2.2.2.2.2, rfl⟩
theorem DX6_isTurn_c0 : decode cX6_isTurn 0 = .ok (.aload_n 0, 1) ∧ decode cX6_isTurn 1 = .ok (.getfield 12, 3) ∧ decode cX6_isTurn 4 = .ok (.getfield 115, 3) ∧ decode cX6_isTurn 7 = .ok (.iload_n 1, 1) ∧ decode cX6_isTurn 8 = .ok (.invokevirtual 118, 3) ∧ decode cX6_isTurn 11 = .ok (.istore 5, 2) ∧ decode cX6_isTurn 13 = .ok (.iconst 0, 1) ∧ decode cX6_isTurn 14 = .ok (.istore 6, 2) ∧ decode cX6_isTurn 16 = .ok (.iload 6, 2) ∧ decode cX6_isTurn 18 = .ok (.iload 5, 2) ∧ decode cX6_isTurn 20 = .ok (.if_icmp .ge 78, 3) ∧ decode cX6_isTurn 23 = .ok (.aload_n 0, 1) ∧ decode cX6_isTurn 24 = .ok (.getfield 12, 3) ∧ decode cX6_isTurn 27 = .ok (.getfield 115, 3) ∧ decode cX6_isTurn 30 = .ok (.iload_n 1, 1) ∧ decode cX6_isTurn 31 = .ok (.iload 6, 2) := by decide +kernel
theorem dX6_isTurn_0 : Dc cX6_isTurn 0 (.aload_n 0) 1 1 := ⟨DX6_isTurn_c0.1, rfl⟩
theorem dX6_isTurn_1 : Dc cX6_isTurn 1 (.getfield 12) 3 4 := ⟨DX6_isTurn_c0.2.1, rfl⟩
theorem dX6_isTurn_4 : Dc cX6_isTurn 4 (.getfield 115) 3 7 := ⟨DX6_isTurn_c0.2.2.1, rfl⟩
theorem dX6_isTurn_7 : Dc cX6_isTurn 7 (.iload_n 1) 1 8 := ⟨DX6_isTurn_c0.2.2.2.1, rfl⟩
theorem dX6_isTurn_8 : Dc cX6_isTurn 8 (.invokevirtual 118) 3 11 := ⟨DX6_isTurn_c0.2.2.2.2.1, rfl⟩
theorem dX6_isTurn_11 : Dc cX6_isTurn 11 (.istore 5) 2 13 := ⟨DX6_isTurn_c0.2.2.2.2.2.1, rfl⟩
theorem dX6_isTurn_13 : Dc cX6_isTurn 13 (.iconst 0) 1 14 := ⟨DX6_isTurn_c0.2.2.2.2.2.2.1, rfl⟩
theorem dX6_isTurn_14 : Dc cX6_isTurn 14 (.istore 6) 2 16 := ⟨DX6_isTurn_c0.2.2.2.2.2.2.2.1, rfl⟩
theorem dX6_isTurn_16 : Dc cX6_isTurn 16 (.iload 6) 2 18 := ⟨DX6_isTurn_c0.2.2.2.2.2.2.2.2.1, rfl⟩
theorem dX6_isTurn_18 : Dc cX6_isTurn 18 (.iload 5) 2 20 := ⟨DX6_isTurn_c0.2.2.2.2.2.2.2.2.2.1, rfl⟩
theorem dX6_isTurn_20 : Db cX6_isTurn 20 (fun o => .if_icmp .ge o) 23 98 := ⟨78, DX6_isTurn_c0.2.2.2.2.2.2.2.2.2.2.1, rfl, rfl⟩
theorem dX6_isTurn_23 : Dc cX6_isTurn 23 (.aload_n 0) 1 24 := ⟨DX6_isTurn_c0.2.2.2.2.2.2.2.2.2.2.2.1, rfl⟩
theorem dX6_isTurn_24 : Dc cX6_isTurn 24 (.getfield 12) 3 27 := ⟨DX6_isTurn_c0.2.2.2.2.2.2.2.2.2.2.2.2.1, rfl⟩
theorem dX6_isTurn_27 : Dc cX6_isTurn 27 (.getfield 115) 3 30 := ⟨DX6_isTurn_c0.2.2.2.2.2.2.2.2.2.2.2.2.2.1, rfl⟩
theorem dX6_isTurn_30 : Dc cX6_isTurn 30 (.iload_n 1) 1 31 := ⟨DX6_isTurn_c0.2.2.2.2.2.2.2.2.2.2.2.2.2.2.1, rfl⟩
theorem dX6_isTurn_31 : Dc cX6_isTurn 31 (.iload 6) 2 33 := ⟨DX6_isTurn_c0.2.2.2.2.2.2.2.2.2.2.2.2.2.2.2, rfl⟩
theorem DX6_isTurn_c1 : decode cX6_isTurn 33 = .ok (.invokevirtual 157, 3) ∧ decode cX6_isTurn 36 = .ok (.aload_n 0, 1) ∧ decode cX6_isTurn 37 = .ok (.getfield 12, 3) ∧ decode cX6_isTurn 40 = .ok (.getfield 74, 3) ∧ decode cX6_isTurn 43 = .ok (.iload_n 3, 1) ∧ decode cX6_isTurn 44 = .ok (.iload 4, 2) ∧ decode cX6_isTurn 46 = .ok (.iload 6, 2) ∧ decode cX6_isTurn 48 = .ok (.iadd, 1) ∧ decode cX6_isTurn 49 = .ok (.invokevirtual 157, 3) ∧ decode cX6_isTurn 52 = .ok (.if_icmp .eq 5, 3) ∧ decode cX6_isTurn 55 = .ok (.iconst 0, 1) ∧ decode cX6_isTurn 56 = .ok (.ireturn, 1) ∧ decode cX6_isTurn 57 = .ok (.aload_n 0, 1) ∧ decode cX6_isTurn 58 = .ok (.getfield 12, 3) ∧ decode cX6_isTurn 61 = .ok (.getfield 115, 3) ∧ decode cX6_isTurn 64 = .ok (.iload_n 1, 1) := by decide +kernel
theorem dX6_isTurn_33 : Dc cX6_isTurn 33 (.invokevirtual 157) 3 36 := ⟨DX6_isTurn_c1.1, rfl⟩
theorem dX6_isTurn_36 : Dc cX6_isTurn 36 (.aload_n 0) 1 37 := ⟨DX6_isTurn_c1.2.1, rfl⟩
theorem dX6_isTurn_37 : Dc cX6_isTurn 37 (.getfield 12) 3 40 := ⟨DX6_isTurn_c1.2.2.1, rfl⟩
theorem dX6_isTurn_40 : Dc cX6_isTurn 40 (.getfield 74) 3 43 := ⟨DX6_isTurn_c1.2.2.2.1, rfl⟩
theorem dX6_isTurn_43 : Dc cX6_isTurn 43 (.iload_n 3) 1 44 := ⟨DX6_isTurn_c1.2.2.2.2.1, rfl⟩
theorem dX6_isTurn_44 : Dc cX6_isTurn 44 (.iload 4) 2 46 := ⟨DX6_isTurn_c1.2.2.2.2.2.1, rfl⟩
theorem dX6_isTurn_46 : Dc cX6_isTurn 46 (.iload 6) 2 48 := ⟨DX6_isTurn_c1.2.2.2.2.2.2.1, rfl⟩
theorem dX6_isTurn_48 : Dc cX6_isTurn 48 (.iadd) 1 49 := ⟨DX6_isTurn_c1.2.2.2.2.2.2.2.1, rfl⟩
theorem dX6_isTurn_49 : Dc cX6_isTurn 49 (.invokevirtual 157) 3 52 := ⟨DX6_isTurn_c1.2.2.2.2.2.2.2.2.1, rfl⟩
theorem dX6_isTurn_52 : Db cX6_isTurn 52 (fun o => .if_icmp .eq o) 55 57 := ⟨5, DX6_isTurn_c1.2.2.2.2.2.2.2.2.2.1, rfl, rfl⟩
theorem dX6_isTurn_55 : Dc cX6_isTurn 55 (.iconst 0) 1 56 := ⟨DX6_isTurn_c1.2.2.2.2.2.2.2.2.2.2.1, rfl⟩
theorem dX6_isTurn_56 : Dc cX6_isTurn 56 (.ireturn) 1 57 := ⟨DX6_isTurn_c1.2.2.2.2.2.2.2.2.2.2.2.1, rfl⟩
theorem dX6_isTurn_57 : Dc cX6_isTurn 57 (.aload_n 0) 1 58 := ⟨DX6_isTurn_c1.2.2.2.2.2.2.2.2.2.2.2.2.1, rfl⟩
theorem dX6_isTurn_58 : Dc cX6_isTurn 58 (.getfield 12) 3 61 := ⟨DX6_isTurn_c1.2.2.2.2.2.2.2.2.2.2.2.2.2.1, rfl⟩
theorem dX6_isTurn_61 : Dc cX6_isTurn 61 (.getfield 115) 3 64 := ⟨DX6_isTurn_c1.2.2.2.2.2.2.2.2.2.2.2.2.2.2.1, rfl⟩
theorem dX6_isTurn_64 : Dc cX6_isTurn 64 (.iload_n 1) 1 65 := ⟨DX6_isTurn_c1.2.2.2.2.2.2.2.2.2.2.2.2.2.2.2, rfl⟩
theorem DX6_isTurn_c2 : decode cX6_isTurn 65 = .ok (.iload 6, 2) ∧ decode cX6_isTurn 67 = .ok (.iload_n 2, 1) ∧ decode cX6_isTurn 68 = .ok (.invokevirtual 187, 3) ∧ decode cX6_isTurn 71 = .ok (.aload_n 0, 1) ∧ decode cX6_isTurn 72 = .ok (.getfield 12, 3) ∧ decode cX6_isTurn 75 = .ok (.getfield 74, 3) ∧ decode cX6_isTurn 78 = .ok (.iload_n 3, 1) ∧ decode cX6_isTurn 79 = .ok (.iload 4, 2) ∧ decode cX6_isTurn 81 = .ok (.iload 6, 2) ∧ decode cX6_isTurn 83 = .ok (.iadd, 1) ∧ decode cX6_isTurn 84 = .ok (.invokevirtual 161, 3) ∧ decode cX6_isTurn 87 = .ok (.if_icmp .eq 5, 3) ∧ decode cX6_isTurn 90 = .ok (.iconst 0, 1) ∧ decode cX6_isTurn 91 = .ok (.ireturn, 1) ∧ decode cX6_isTurn 92 = .ok (.iinc 6 1, 3) ∧ decode cX6_isTurn 95 = .ok (.goto (-79), 3) := by decide +kernel
theorem dX6_isTurn_65 : Dc cX6_isTurn 65 (.iload 6) 2 67 := ⟨DX6_isTurn_c2.1, rfl⟩
theorem dX6_isTurn_67 : Dc cX6_isTurn 67 (.iload_n 2) 1 68 := ⟨DX6_isTurn_c2.2.1, rfl⟩
theorem dX6_isTurn_68 : Dc cX6_isTurn 68 (.invokevirtual 187) 3 71 := ⟨DX6_isTurn_c2.2.2.1, rfl⟩
theorem dX6_isTurn_71 : Dc cX6_isTurn 71 (.aload_n 0) 1 72 := ⟨DX6_isTurn_c2.2.2.2.1, rfl⟩
theorem dX6_isTurn_72 : Dc cX6_isTurn 72 (.getfield 12) 3 75 := ⟨DX6_isTurn_c2.2.2.2.2.1, rfl⟩
theorem dX6_isTurn_75 : Dc cX6_isTurn 75 (.getfield 74) 3 78 := ⟨DX6_isTurn_c2.2.2.2.2.2.1, rfl⟩
theorem dX6_isTurn_78 : Dc cX6_isTurn 78 (.iload_n 3) 1 79 := ⟨DX6_isTurn_c2.2.2.2.2.2.2.1, rfl⟩
theorem dX6_isTurn_79 : Dc cX6_isTurn 79 (.iload 4) 2 81 := ⟨DX6_isTurn_c2.2.2.2.2.2.2.2.1, rfl⟩
theorem dX6_isTurn_81 : Dc cX6_isTurn 81 (.iload 6) 2 83 := ⟨DX6_isTurn_c2.2.2.2.2.2.2.2.2.1, rfl⟩
theorem dX6_isTurn_83 : Dc cX6_isTurn 83 (.iadd) 1 84 := ⟨DX6_isTurn_c2.2.2.2.2.2.2.2.2.2.1, rfl⟩
theorem dX6_isTurn_84 : Dc cX6_isTurn 84 (.invokevirtual 161) 3 87 := ⟨DX6_isTurn_c2.2.2.2.2.2.2.2.2.2.2.1, rfl⟩
theorem dX6_isTurn_87 : Db cX6_isTurn 87 (fun o => .if_icmp .eq o) 90 92 := ⟨5, DX6_isTurn_c2.2.2.2.2.2.2.2.2.2.2.2.1, rfl, rfl⟩
theorem dX6_isTurn_90 : Dc cX6_isTurn 90 (.iconst 0) 1 91 := ⟨DX6_isTurn_c2.2.2.2.2.2.2.2.2.2.2.2.2.1, rfl⟩
theorem dX6_isTurn_91 : Dc cX6_isTurn 91 (.ireturn) 1 92 := ⟨DX6_isTurn_c2.2.2.2.2.2.2.2.2.2.2.2.2.2.1, rfl⟩
theorem dX6_isTurn_92 : Dc cX6_isTurn 92 (.iinc 6 1) 3 95 := ⟨DX6_isTurn_c2.2.2.2.2.2.2.2.2.2.2.2.2.2.2.1, rfl⟩
theorem dX6_isTurn_95 : Db cX6_isTurn 95 .goto 98 16 := ⟨-79, DX6_isTurn_c2.2.2.2.2.2.2.2.2.2.2.2.2.2.2.2, rfl, rfl⟩
theorem DX6_isTurn_c3 : decode cX6_isTurn 98 = .ok (.iconst 1, 1) ∧ decode cX6_isTurn 99 = .ok (.ireturn, 1) := by decide +kernel
theorem dX6_isTurn_98 : Dc cX6_isTurn 98 (.iconst 1) 1 99 := ⟨DX6_isTurn_c3.1, rfl⟩
theorem dX6_isTurn_99 : Dc cX6_isTurn 99 (.ireturn) 1 100 := ⟨DX6_isTurn_c3.2, rfl⟩
theorem DX6_turnsInRange_c0 : decode cX6_turnsInRange 0 = .ok (.aload_n 0, 1) ∧ decode cX6_turnsInRange 1 = .ok (.getfield 12, 3) ∧ decode cX6_turnsInRange 4 = .ok (.getfield 115, 3) ∧ decode cX6_turnsInRange 7 = .ok (.iload_n 1, 1) ∧ decode cX6_turnsInRange 8 = .ok (.iload_n 2, 1) ∧ decode cX6_turnsInRange 9 = .ok (.invokevirtual 161, 3) ∧ decode cX6_turnsInRange 12 = .ok (.istore_n 3, 1) ∧ decode cX6_turnsInRange 13 = .ok (.aload_n 0, 1) ∧ decode cX6_turnsInRange 14 = .ok (.getfield 12, 3) ∧ decode cX6_turnsInRange 17 = .ok (.getfield 115, 3) ∧ decode cX6_turnsInRange 20 = .ok (.iload_n 1, 1) ∧ decode cX6_turnsInRange 21 = .ok (.iload_n 2, 1) ∧ decode cX6_turnsInRange 22 = .ok (.invokevirtual 184, 3) ∧ decode cX6_turnsInRange 25 = .ok (.istore 4, 2) ∧ decode cX6_turnsInRange 27 = .ok (.iload 4, 2) ∧ decode cX6_turnsInRange 29 = .ok (.ifCond .le 26, 3) := by decide +kernel
theorem dX6_turnsInRange_0 : Dc cX6_turnsInRange 0 (.aload_n 0) 1 1 := ⟨DX6_turnsInRange_c0.1, rfl⟩
theorem dX6_turnsInRange_1 : Dc cX6_turnsInRange 1 (.getfield 12) 3 4 := ⟨DX6_turnsInRange_c0.2.1, rfl⟩
theorem dX6_turnsInRange_4 : Dc cX6_turnsInRange 4 (.getfield 115) 3 7 := ⟨DX6_turnsInRange_c0.2.2.1, rfl⟩
theorem dX6_turnsInRange_7 : Dc cX6_turnsInRange 7 (.iload_n 1) 1 8 := ⟨DX6_turnsInRange_c0.2.2.2.1, rfl⟩
theorem dX6_turnsInRange_8 : Dc cX6_turnsInRange 8 (.iload_n 2) 1 9 := ⟨DX6_turnsInRange_c0.2.2.2.2.1, rfl⟩
theorem dX6_turnsInRange_9 : Dc cX6_turnsInRange 9 (.invokevirtual 161) 3 12 := ⟨DX6_turnsInRange_c0.2.2.2.2.2.1, rfl⟩
theorem dX6_turnsInRange_12 : Dc cX6_turnsInRange 12 (.istore_n 3) 1 13 := ⟨DX6_turnsInRange_c0.2.2.2.2.2.2.1, rfl⟩
theorem dX6_turnsInRange_13 : Dc cX6_turnsInRange 13 (.aload_n 0) 1 14 := ⟨DX6_turnsInRange_c0.2.2.2.2.2.2.2.1, rfl⟩
theorem dX6_turnsInRange_14 : Dc cX6_turnsInRange 14 (.getfield 12) 3 17 := ⟨DX6_turnsInRange_c0.2.2.2.2.2.2.2.2.1, rfl⟩
theorem dX6_turnsInRange_17 : Dc cX6_turnsInRange 17 (.getfield 115) 3 20 := ⟨DX6_turnsInRange_c0.2.2.2.2.2.2.2.2.2.1, rfl⟩
theorem dX6_turnsInRange_20 : Dc cX6_turnsInRange 20 (.iload_n 1) 1 21 := ⟨DX6_turnsInRange_c0.2.2.2.2.2.2.2.2.2.2.1, rfl⟩
theorem dX6_turnsInRange_21 : Dc cX6_turnsInRange 21 (.iload_n 2) 1 22 := ⟨DX6_turnsInRange_c0.2.2.2.2.2.2.2.2.2.2.2.1, rfl⟩
theorem dX6_turnsInRange_22 : Dc cX6_turnsInRange 22 (.invokevirtual 184) 3 25 := ⟨DX6_turnsInRange_c0.2.2.2.2.2.2.2.2.2.2.2.2.1, rfl⟩
theorem dX6_turnsInRange_25 : Dc cX6_turnsInRange 25 (.istore 4) 2 27 := ⟨DX6_turnsInRange_c0.2.2.2.2.2.2.2.2.2.2.2.2.2.1, rfl⟩
theorem dX6_turnsInRange_27 : Dc cX6_turnsInRange 27 (.iload 4) 2 29 := ⟨DX6_turnsInRange_c0.2.2.2.2.2.2.2.2.2.2.2.2.2.2.1, rfl⟩
theorem dX6_turnsInRange_29 : Db cX6_turnsInRange 29 (fun o => .ifCond .le o) 32 55 := ⟨26, DX6_turnsInRange_c0.2.2.2.2.2.2.2.2.2.2.2.2.2.2.2, rfl, rfl⟩
theorem DX6_turnsInRange_c1 : decode cX6_turnsInRange 32 = .ok (.aload_n 0, 1) ∧ decode cX6_turnsInRange 33 = .ok (.getfield 12, 3) ∧ decode cX6_turnsInRange 36 = .ok (.getfield 115, 3) ∧ decode cX6_turnsInRange 39 = .ok (.iload_n 1, 1) ∧ decode cX6_turnsInRange 40 = .ok (.iload_n 2, 1) ∧ decode cX6_turnsInRange 41 = .ok (.invokevirtual 157, 3) ∧ decode cX6_turnsInRange 44 = .ok (.invokestatic 249, 3) ∧ decode cX6_turnsInRange 47 = .ok (.iload_n 3, 1) ∧ decode cX6_turnsInRange 48 = .ok (.isub, 1) ∧ decode cX6_turnsInRange 49 = .ok (.iload 4, 2) ∧ decode cX6_turnsInRange 51 = .ok (.idiv, 1) ∧ decode cX6_turnsInRange 52 = .ok (.iconst 1, 1) ∧ decode cX6_turnsInRange 53 = .ok (.iadd, 1) ∧ decode cX6_turnsInRange 54 = .ok (.ireturn, 1) ∧ decode cX6_turnsInRange 55 = .ok (.iload 4, 2) ∧ decode cX6_turnsInRange 57 = .ok (.ifCond .ge 11, 3) := by decide +kernel
theorem dX6_turnsInRange_32 : Dc cX6_turnsInRange 32 (.aload_n 0) 1 33 := ⟨DX6_turnsInRange_c1.1, rfl⟩
theorem dX6_turnsInRange_33 : Dc cX6_turnsInRange 33 (.getfield 12) 3 36 := ⟨DX6_turnsInRange_c1.2.1, rfl⟩
theorem dX6_turnsInRange_36 : Dc cX6_turnsInRange 36 (.getfield 115) 3 39 := ⟨DX6_turnsInRange_c1.2.2.1, rfl⟩
theorem dX6_turnsInRange_39 : Dc cX6_turnsInRange 39 (.iload_n 1) 1 40 := ⟨DX6_turnsInRange_c1.2.2.2.1, rfl⟩
theorem dX6_turnsInRange_40 : Dc cX6_turnsInRange 40 (.iload_n 2) 1 41 := ⟨DX6_turnsInRange_c1.2.2.2.2.1, rfl⟩
theorem dX6_turnsInRange_41 : Dc cX6_turnsInRange 41 (.invokevirtual 157) 3 44 := ⟨DX6_turnsInRange_c1.2.2.2.2.2.1, rfl⟩
theorem dX6_turnsInRange_44 : Dc cX6_turnsInRange 44 (.invokestatic 249) 3 47 := ⟨DX6_turnsInRange_c1.2.2.2.2.2.2.1, rfl⟩
theorem dX6_turnsInRange_47 : Dc cX6_turnsInRange 47 (.iload_n 3) 1 48 := ⟨DX6_turnsInRange_c1.2.2.2.2.2.2.2.1, rfl⟩
theorem dX6_turnsInRange_48 : Dc cX6_turnsInRange 48 (.isub) 1 49 := ⟨DX6_turnsInRange_c1.2.2.2.2.2.2.2.2.1, rfl⟩
theorem dX6_turnsInRange_49 : Dc cX6_turnsInRange 49 (.iload 4) 2 51 := ⟨DX6_turnsInRange_c1.2.2.2.2.2.2.2.2.2.1, rfl⟩
theorem dX6_turnsInRange_51 : Dc cX6_turnsInRange 51 (.idiv) 1 52 := ⟨DX6_turnsInRange_c1.2.2.2.2.2.2.2.2.2.2.1, rfl⟩
theorem dX6_turnsInRange_52 : Dc cX6_turnsInRange 52 (.iconst 1) 1 53 := ⟨DX6_turnsInRange_c1.2.2.2.2.2.2.2.2.2.2.2.1, rfl⟩
theorem dX6_turnsInRange_53 : Dc cX6_turnsInRange 53 (.iadd) 1 54 := ⟨DX6_turnsInRange_c1.2.2.2.2.2.2.2.2.2.2.2.2.1, rfl⟩
theorem dX6_turnsInRange_54 : Dc cX6_turnsInRange 54 (.ireturn) 1 55 := ⟨DX6_turnsInRange_c1.2.2.2.2.2.2.2.2.2.2.2.2.2.1, rfl⟩
theorem dX6_turnsInRange_55 : Dc cX6_turnsInRange 55 (.iload 4) 2 57 := ⟨DX6_turnsInRange_c1.2.2.2.2.2.2.2.2.2.2.2.2.2.2.1, rfl⟩
theorem dX6_turnsInRange_57 : Db cX6_turnsInRange 57 (fun o => .ifCond .ge o) 60 68 := ⟨11, DX6_turnsInRange_c1.2.2.2.2.2.2.2.2.2.2.2.2.2.2.2, rfl, rfl⟩
theorem DX6_turnsInRange_c2 : decode cX6_turnsInRange 60 = .ok (.iload_n 3, 1) ∧ decode cX6_turnsInRange 61 = .ok (.iload 4, 2) ∧ decode cX6_turnsInRange 63 = .ok (.ineg, 1) ∧ decode cX6_turnsInRange 64 = .ok (.idiv, 1) ∧ decode cX6_turnsInRange 65 = .ok (.iconst 1, 1) ∧ decode cX6_turnsInRange 66 = .ok (.iadd, 1) ∧ decode cX6_turnsInRange 67 = .ok (.ireturn, 1) ∧ decode cX6_turnsInRange 68 = .ok (.bipush (-5), 2) ∧ decode cX6_turnsInRange 70 = .ok (.ireturn, 1) := by decide +kernel
theorem dX6_turnsInRange_60 : Dc cX6_turnsInRange 60 (.iload_n 3) 1 61 := ⟨DX6_turnsInRange_c2.1, rfl⟩
theorem dX6_turnsInRange_61 : Dc cX6_turnsInRange 61 (.iload 4) 2 63 := ⟨DX6_turnsInRange_c2.2.1, rfl⟩
theorem dX6_turnsInRange_63 : Dc cX6_turnsInRange 63 (.ineg) 1 64 := ⟨DX6_turnsInRange_c2.2.2.1, rfl⟩
theorem dX6_turnsInRange_64 : Dc cX6_turnsInRange 64 (.idiv) 1 65 := ⟨DX6_turnsInRange_c2.2.2.2.1, rfl⟩
theorem dX6_turnsInRange_65 : Dc cX6_turnsInRange 65 (.iconst 1) 1 66 := ⟨DX6_turnsInRange_c2.2.2.2.2.1, rfl⟩
theorem dX6_turnsInRange_66 : Dc cX6_turnsInRange 66 (.iadd) 1 67 := ⟨DX6_turnsInRange_c2.2.2.2.2.2.1, rfl⟩
theorem dX6_turnsInRange_67 : Dc cX6_turnsInRange 67 (.ireturn) 1 68 := ⟨DX6_turnsInRange_c2.2.2.2.2.2.2.1, rfl⟩
theorem dX6_turnsInRange_68 : Dc cX6_turnsInRange 68 (.bipush (-5)) 2 70 := ⟨DX6_turnsInRange_c2.2.2.2.2.2.2.2.1, rfl⟩
theorem dX6_turnsInRange_70 : Dc cX6_turnsInRange 70 (.ireturn) 1 71 := ⟨DX6_turnsInRange_c2.2.2.2.2.2.2.2.2, rfl⟩
theorem DX6_copyNumbers_c0 : decode cX6_copyNumbers 0 = .ok (.aload_n 0, 1) ∧ decode cX6_copyNumbers 1 = .ok (.iconst 0, 1) ∧ decode cX6_copyNumbers 2 = .ok (.aload_n 1, 1) ∧ decode cX6_copyNumbers 3 = .ok (.iconst 0, 1) ∧ decode cX6_copyNumbers 4 = .ok (.aload_n 0, 1) ∧ decode cX6_copyNumbers 5 = .ok (.arraylength, 1) ∧ decode cX6_copyNumbers 6 = .ok (.aload_n 1, 1) ∧ decode cX6_copyNumbers 7 = .ok (.arraylength, 1) ∧ decode cX6_copyNumbers 8 = .ok (.invokestatic 255, 3) ∧ decode cX6_copyNumbers 11 = .ok (.invokestatic 273, 3) ∧ decode cX6_copyNumbers 14 = .ok (.return_, 1) := by decide +kernel
theorem dX6_copyNumbers_0 : Dc cX6_copyNumbers 0 (.aload_n 0) 1 1 := ⟨DX6_copyNumbers_c0.1, rfl⟩
theorem dX6_copyNumbers_1 : Dc cX6_copyNumbers 1 (.iconst 0) 1 2 := ⟨DX6_copyNumbers_c0.2.1, rfl⟩
theorem dX6_copyNumbers_2 : Dc cX6_copyNumbers 2 (.aload_n 1) 1 3 := ⟨DX6_copyNumbers_c0.2.2.1, rfl⟩
theorem dX6_copyNumbers_3 : Dc cX6_copyNumbers 3 (.iconst 0) 1 4 := ⟨DX6_copyNumbers_c0.2.2.2.1, rfl⟩
theorem dX6_copyNumbers_4 : Dc cX6_copyNumbers 4 (.aload_n 0) 1 5 := ⟨DX6_copyNumbers_c0.2.2.2.2.1, rfl⟩
theorem dX6_copyNumbers_5 : Dc cX6_copyNumbers 5 (.arraylength) 1 6 := ⟨DX6_copyNumbers_c0.2.2.2.2.2.1, rfl⟩
theorem dX6_copyNumbers_6 : Dc cX6_copyNumbers 6 (.aload_n 1) 1 7 := ⟨DX6_copyNumbers_c0.2.2.2.2.2.2.1, rfl⟩
theorem dX6_copyNumbers_7 : Dc cX6_copyNumbers 7 (.arraylength) 1 8 := ⟨DX6_copyNumbers_c0.2.2.2.2.2.2.2.1, rfl⟩
theorem dX6_copyNumbers_8 : Dc cX6_copyNumbers 8 (.invokestatic 255) 3 11 := ⟨DX6_copyNumbers_c0.2.2.2.2.2.2.2.2.1, rfl⟩
theorem dX6_copyNumbers_11 : Dc cX6_copyNumbers 11 (.invokestatic 273) 3 14 := ⟨DX6_copyNumbers_c0.2.2.2.2.2.2.2.2.2.1, rfl⟩
theorem dX6_copyNumbers_14 : Dc cX6_copyNumbers 14 (.return_) 1 15 := ⟨DX6_copyNumbers_c0.2.2.2.2.2.2.2.2.2.2, rfl⟩
