/-! decode rows (by program: wip/gen/g03.py) -/
theorem dc_M_init_0 : decode prog_10_method_1_code 0 = .ok (.aload_n 0, 1) ∧ 0 + 1 = 1 := ⟨by decide +kernel, rfl⟩
theorem dc_M_init_1 : decode prog_10_method_1_code 1 = .ok (.invokespecial 1, 3) ∧ 1 + 3 = 4 := ⟨by decide +kernel, rfl⟩
theorem dc_M_init_4 : decode prog_10_method_1_code 4 = .ok (.aload_n 0, 1) ∧ 4 + 1 = 5 := ⟨by decide +kernel, rfl⟩
theorem dc_M_init_5 : decode prog_10_method_1_code 5 = .ok (.bipush 80, 2) ∧ 5 + 2 = 7 := ⟨by decide +kernel, rfl⟩
theorem dc_M_init_7 : decode prog_10_method_1_code 7 = .ok (.newarray .int, 2) ∧ 7 + 2 = 9 := ⟨by decide +kernel, rfl⟩
theorem dc_M_init_9 : decode prog_10_method_1_code 9 = .ok (.putfield 7, 3) ∧ 9 + 3 = 12 := ⟨by decide +kernel, rfl⟩
theorem dc_M_init_12 : decode prog_10_method_1_code 12 = .ok (.aload_n 0, 1) ∧ 12 + 1 = 13 := ⟨by decide +kernel, rfl⟩
theorem dc_M_init_13 : decode prog_10_method_1_code 13 = .ok (.sipush 480, 3) ∧ 13 + 3 = 16 := ⟨by decide +kernel, rfl⟩
theorem dc_M_init_16 : decode prog_10_method_1_code 16 = .ok (.newarray .int, 2) ∧ 16 + 2 = 18 := ⟨by decide +kernel, rfl⟩
theorem dc_M_init_18 : decode prog_10_method_1_code 18 = .ok (.putfield 13, 3) ∧ 18 + 3 = 21 := ⟨by decide +kernel, rfl⟩
theorem dc_M_init_21 : decode prog_10_method_1_code 21 = .ok (.aload_n 0, 1) ∧ 21 + 1 = 22 := ⟨by decide +kernel, rfl⟩
theorem dc_M_init_22 : decode prog_10_method_1_code 22 = .ok (.sipush 160, 3) ∧ 22 + 3 = 25 := ⟨by decide +kernel, rfl⟩
theorem dc_M_init_25 : decode prog_10_method_1_code 25 = .ok (.newarray .int, 2) ∧ 25 + 2 = 27 := ⟨by decide +kernel, rfl⟩
theorem dc_M_init_27 : decode prog_10_method_1_code 27 = .ok (.putfield 16, 3) ∧ 27 + 3 = 30 := ⟨by decide +kernel, rfl⟩
theorem dc_M_init_30 : decode prog_10_method_1_code 30 = .ok (.aload_n 0, 1) ∧ 30 + 1 = 31 := ⟨by decide +kernel, rfl⟩
theorem dc_M_init_31 : decode prog_10_method_1_code 31 = .ok (.bipush 80, 2) ∧ 31 + 2 = 33 := ⟨by decide +kernel, rfl⟩
theorem dc_M_init_33 : decode prog_10_method_1_code 33 = .ok (.newarray .int, 2) ∧ 33 + 2 = 35 := ⟨by decide +kernel, rfl⟩
theorem dc_M_init_35 : decode prog_10_method_1_code 35 = .ok (.putfield 19, 3) ∧ 35 + 3 = 38 := ⟨by decide +kernel, rfl⟩
theorem dc_M_init_38 : decode prog_10_method_1_code 38 = .ok (.aload_n 0, 1) ∧ 38 + 1 = 39 := ⟨by decide +kernel, rfl⟩
theorem dc_M_init_39 : decode prog_10_method_1_code 39 = .ok (.bipush 100, 2) ∧ 39 + 2 = 41 := ⟨by decide +kernel, rfl⟩
theorem dc_M_init_41 : decode prog_10_method_1_code 41 = .ok (.newarray .byte, 2) ∧ 41 + 2 = 43 := ⟨by decide +kernel, rfl⟩
theorem dc_M_init_43 : decode prog_10_method_1_code 43 = .ok (.putfield 22, 3) ∧ 43 + 3 = 46 := ⟨by decide +kernel, rfl⟩
theorem dc_M_init_46 : decode prog_10_method_1_code 46 = .ok (.aload_n 0, 1) ∧ 46 + 1 = 47 := ⟨by decide +kernel, rfl⟩
theorem dc_M_init_47 : decode prog_10_method_1_code 47 = .ok (.getfield 7, 3) ∧ 47 + 3 = 50 := ⟨by decide +kernel, rfl⟩
theorem dc_M_init_50 : decode prog_10_method_1_code 50 = .ok (.iconst 0, 1) ∧ 50 + 1 = 51 := ⟨by decide +kernel, rfl⟩
theorem dc_M_init_51 : decode prog_10_method_1_code 51 = .ok (.iconst 4, 1) ∧ 51 + 1 = 52 := ⟨by decide +kernel, rfl⟩
theorem dc_M_init_52 : decode prog_10_method_1_code 52 = .ok (.iastore, 1) ∧ 52 + 1 = 53 := ⟨by decide +kernel, rfl⟩
theorem dc_M_init_53 : decode prog_10_method_1_code 53 = .ok (.aload_n 0, 1) ∧ 53 + 1 = 54 := ⟨by decide +kernel, rfl⟩
theorem dc_M_init_54 : decode prog_10_method_1_code 54 = .ok (.getfield 7, 3) ∧ 54 + 3 = 57 := ⟨by decide +kernel, rfl⟩
theorem dc_M_init_57 : decode prog_10_method_1_code 57 = .ok (.iconst 1, 1) ∧ 57 + 1 = 58 := ⟨by decide +kernel, rfl⟩
theorem dc_M_init_58 : decode prog_10_method_1_code 58 = .ok (.bipush 100, 2) ∧ 58 + 2 = 60 := ⟨by decide +kernel, rfl⟩
theorem dc_M_init_60 : decode prog_10_method_1_code 60 = .ok (.iastore, 1) ∧ 60 + 1 = 61 := ⟨by decide +kernel, rfl⟩
theorem dc_M_init_61 : decode prog_10_method_1_code 61 = .ok (.aload_n 0, 1) ∧ 61 + 1 = 62 := ⟨by decide +kernel, rfl⟩
theorem dc_M_init_62 : decode prog_10_method_1_code 62 = .ok (.getfield 7, 3) ∧ 62 + 3 = 65 := ⟨by decide +kernel, rfl⟩
theorem dc_M_init_65 : decode prog_10_method_1_code 65 = .ok (.iconst 2, 1) ∧ 65 + 1 = 66 := ⟨by decide +kernel, rfl⟩
theorem dc_M_init_66 : decode prog_10_method_1_code 66 = .ok (.bipush 100, 2) ∧ 66 + 2 = 68 := ⟨by decide +kernel, rfl⟩
theorem dc_M_init_68 : decode prog_10_method_1_code 68 = .ok (.iastore, 1) ∧ 68 + 1 = 69 := ⟨by decide +kernel, rfl⟩
theorem dc_M_init_69 : decode prog_10_method_1_code 69 = .ok (.aload_n 0, 1) ∧ 69 + 1 = 70 := ⟨by decide +kernel, rfl⟩
theorem dc_M_init_70 : decode prog_10_method_1_code 70 = .ok (.getfield 7, 3) ∧ 70 + 3 = 73 := ⟨by decide +kernel, rfl⟩
theorem dc_M_init_73 : decode prog_10_method_1_code 73 = .ok (.iconst 3, 1) ∧ 73 + 1 = 74 := ⟨by decide +kernel, rfl⟩
theorem dc_M_init_74 : decode prog_10_method_1_code 74 = .ok (.bipush 10, 2) ∧ 74 + 2 = 76 := ⟨by decide +kernel, rfl⟩
theorem dc_M_init_76 : decode prog_10_method_1_code 76 = .ok (.iastore, 1) ∧ 76 + 1 = 77 := ⟨by decide +kernel, rfl⟩
theorem dc_M_init_77 : decode prog_10_method_1_code 77 = .ok (.return_, 1) := by decide +kernel
theorem dc_M_undo_0 : decode prog_10_method_7_code 0 = .ok (.aload_n 0, 1) ∧ 0 + 1 = 1 := ⟨by decide +kernel, rfl⟩
theorem dc_M_undo_1 : decode prog_10_method_7_code 1 = .ok (.getfield 26, 3) ∧ 1 + 3 = 4 := ⟨by decide +kernel, rfl⟩
theorem dc_M_undo_4 : decode prog_10_method_7_code 4 = .ok (.ifCond .ne 6, 3) ∧ ((4 : Nat) : Int) + (6) = ((10 : Nat) : Int) ∧ 4 + 3 = 7 := ⟨by decide +kernel, by decide, rfl⟩
theorem dc_M_undo_7 : decode prog_10_method_7_code 7 = .ok (.ldc 30, 2) ∧ 7 + 2 = 9 := ⟨by decide +kernel, rfl⟩
theorem dc_M_undo_9 : decode prog_10_method_7_code 9 = .ok (.ireturn, 1) := by decide +kernel
theorem dc_M_undo_10 : decode prog_10_method_7_code 10 = .ok (.aload_n 0, 1) ∧ 10 + 1 = 11 := ⟨by decide +kernel, rfl⟩
theorem dc_M_undo_11 : decode prog_10_method_7_code 11 = .ok (.dup, 1) ∧ 11 + 1 = 12 := ⟨by decide +kernel, rfl⟩
theorem dc_M_undo_12 : decode prog_10_method_7_code 12 = .ok (.getfield 26, 3) ∧ 12 + 3 = 15 := ⟨by decide +kernel, rfl⟩
theorem dc_M_undo_15 : decode prog_10_method_7_code 15 = .ok (.iconst 1, 1) ∧ 15 + 1 = 16 := ⟨by decide +kernel, rfl⟩
theorem dc_M_undo_16 : decode prog_10_method_7_code 16 = .ok (.isub, 1) ∧ 16 + 1 = 17 := ⟨by decide +kernel, rfl⟩
theorem dc_M_undo_17 : decode prog_10_method_7_code 17 = .ok (.putfield 26, 3) ∧ 17 + 3 = 20 := ⟨by decide +kernel, rfl⟩
theorem dc_M_undo_20 : decode prog_10_method_7_code 20 = .ok (.iconst 0, 1) ∧ 20 + 1 = 21 := ⟨by decide +kernel, rfl⟩
theorem dc_M_undo_21 : decode prog_10_method_7_code 21 = .ok (.istore_n 1, 1) ∧ 21 + 1 = 22 := ⟨by decide +kernel, rfl⟩
theorem dc_M_undo_22 : decode prog_10_method_7_code 22 = .ok (.iload_n 1, 1) ∧ 22 + 1 = 23 := ⟨by decide +kernel, rfl⟩
theorem dc_M_undo_23 : decode prog_10_method_7_code 23 = .ok (.bipush 80, 2) ∧ 23 + 2 = 25 := ⟨by decide +kernel, rfl⟩
theorem dc_M_undo_25 : decode prog_10_method_7_code 25 = .ok (.if_icmp .ge 29, 3) ∧ ((25 : Nat) : Int) + (29) = ((54 : Nat) : Int) ∧ 25 + 3 = 28 := ⟨by decide +kernel, by decide, rfl⟩
theorem dc_M_undo_28 : decode prog_10_method_7_code 28 = .ok (.aload_n 0, 1) ∧ 28 + 1 = 29 := ⟨by decide +kernel, rfl⟩
theorem dc_M_undo_29 : decode prog_10_method_7_code 29 = .ok (.getfield 7, 3) ∧ 29 + 3 = 32 := ⟨by decide +kernel, rfl⟩
theorem dc_M_undo_32 : decode prog_10_method_7_code 32 = .ok (.iload_n 1, 1) ∧ 32 + 1 = 33 := ⟨by decide +kernel, rfl⟩
theorem dc_M_undo_33 : decode prog_10_method_7_code 33 = .ok (.aload_n 0, 1) ∧ 33 + 1 = 34 := ⟨by decide +kernel, rfl⟩
theorem dc_M_undo_34 : decode prog_10_method_7_code 34 = .ok (.getfield 13, 3) ∧ 34 + 3 = 37 := ⟨by decide +kernel, rfl⟩
theorem dc_M_undo_37 : decode prog_10_method_7_code 37 = .ok (.bipush 80, 2) ∧ 37 + 2 = 39 := ⟨by decide +kernel, rfl⟩
theorem dc_M_undo_39 : decode prog_10_method_7_code 39 = .ok (.aload_n 0, 1) ∧ 39 + 1 = 40 := ⟨by decide +kernel, rfl⟩
theorem dc_M_undo_40 : decode prog_10_method_7_code 40 = .ok (.getfield 26, 3) ∧ 40 + 3 = 43 := ⟨by decide +kernel, rfl⟩
theorem dc_M_undo_43 : decode prog_10_method_7_code 43 = .ok (.imul, 1) ∧ 43 + 1 = 44 := ⟨by decide +kernel, rfl⟩
theorem dc_M_undo_44 : decode prog_10_method_7_code 44 = .ok (.iload_n 1, 1) ∧ 44 + 1 = 45 := ⟨by decide +kernel, rfl⟩
theorem dc_M_undo_45 : decode prog_10_method_7_code 45 = .ok (.iadd, 1) ∧ 45 + 1 = 46 := ⟨by decide +kernel, rfl⟩
theorem dc_M_undo_46 : decode prog_10_method_7_code 46 = .ok (.iaload, 1) ∧ 46 + 1 = 47 := ⟨by decide +kernel, rfl⟩
theorem dc_M_undo_47 : decode prog_10_method_7_code 47 = .ok (.iastore, 1) ∧ 47 + 1 = 48 := ⟨by decide +kernel, rfl⟩
theorem dc_M_undo_48 : decode prog_10_method_7_code 48 = .ok (.iinc 1 1, 3) ∧ 48 + 3 = 51 := ⟨by decide +kernel, rfl⟩
theorem dc_M_undo_51 : decode prog_10_method_7_code 51 = .ok (.goto (-29), 3) ∧ ((51 : Nat) : Int) + (-29) = ((22 : Nat) : Int) := ⟨by decide +kernel, by decide⟩
theorem dc_M_undo_54 : decode prog_10_method_7_code 54 = .ok (.aload_n 0, 1) ∧ 54 + 1 = 55 := ⟨by decide +kernel, rfl⟩
theorem dc_M_undo_55 : decode prog_10_method_7_code 55 = .ok (.getfield 26, 3) ∧ 55 + 3 = 58 := ⟨by decide +kernel, rfl⟩
theorem dc_M_undo_58 : decode prog_10_method_7_code 58 = .ok (.ireturn, 1) := by decide +kernel
theorem dc_M_setNumber_0 : decode prog_10_method_20_code 0 = .ok (.iload_n 1, 1) ∧ 0 + 1 = 1 := ⟨by decide +kernel, rfl⟩
theorem dc_M_setNumber_1 : decode prog_10_method_20_code 1 = .ok (.iload_n 2, 1) ∧ 1 + 1 = 2 := ⟨by decide +kernel, rfl⟩
theorem dc_M_setNumber_2 : decode prog_10_method_20_code 2 = .ok (.invokestatic 61, 3) ∧ 2 + 3 = 5 := ⟨by decide +kernel, rfl⟩
theorem dc_M_setNumber_5 : decode prog_10_method_20_code 5 = .ok (.ifCond .ne 6, 3) ∧ ((5 : Nat) : Int) + (6) = ((11 : Nat) : Int) ∧ 5 + 3 = 8 := ⟨by decide +kernel, by decide, rfl⟩
theorem dc_M_setNumber_8 : decode prog_10_method_20_code 8 = .ok (.ldc 64, 2) ∧ 8 + 2 = 10 := ⟨by decide +kernel, rfl⟩
theorem dc_M_setNumber_10 : decode prog_10_method_20_code 10 = .ok (.ireturn, 1) := by decide +kernel
theorem dc_M_setNumber_11 : decode prog_10_method_20_code 11 = .ok (.aload_n 0, 1) ∧ 11 + 1 = 12 := ⟨by decide +kernel, rfl⟩
theorem dc_M_setNumber_12 : decode prog_10_method_20_code 12 = .ok (.invokevirtual 47, 3) ∧ 12 + 3 = 15 := ⟨by decide +kernel, rfl⟩
theorem dc_M_setNumber_15 : decode prog_10_method_20_code 15 = .ok (.aload_n 0, 1) ∧ 15 + 1 = 16 := ⟨by decide +kernel, rfl⟩
theorem dc_M_setNumber_16 : decode prog_10_method_20_code 16 = .ok (.getfield 7, 3) ∧ 16 + 3 = 19 := ⟨by decide +kernel, rfl⟩
theorem dc_M_setNumber_19 : decode prog_10_method_20_code 19 = .ok (.iload_n 1, 1) ∧ 19 + 1 = 20 := ⟨by decide +kernel, rfl⟩
theorem dc_M_setNumber_20 : decode prog_10_method_20_code 20 = .ok (.iaload, 1) ∧ 20 + 1 = 21 := ⟨by decide +kernel, rfl⟩
theorem dc_M_setNumber_21 : decode prog_10_method_20_code 21 = .ok (.istore_n 3, 1) ∧ 21 + 1 = 22 := ⟨by decide +kernel, rfl⟩
theorem dc_M_setNumber_22 : decode prog_10_method_20_code 22 = .ok (.aload_n 0, 1) ∧ 22 + 1 = 23 := ⟨by decide +kernel, rfl⟩
theorem dc_M_setNumber_23 : decode prog_10_method_20_code 23 = .ok (.getfield 7, 3) ∧ 23 + 3 = 26 := ⟨by decide +kernel, rfl⟩
theorem dc_M_setNumber_26 : decode prog_10_method_20_code 26 = .ok (.iload_n 1, 1) ∧ 26 + 1 = 27 := ⟨by decide +kernel, rfl⟩
theorem dc_M_setNumber_27 : decode prog_10_method_20_code 27 = .ok (.iload_n 2, 1) ∧ 27 + 1 = 28 := ⟨by decide +kernel, rfl⟩
theorem dc_M_setNumber_28 : decode prog_10_method_20_code 28 = .ok (.iastore, 1) ∧ 28 + 1 = 29 := ⟨by decide +kernel, rfl⟩
theorem dc_M_setNumber_29 : decode prog_10_method_20_code 29 = .ok (.iload_n 3, 1) ∧ 29 + 1 = 30 := ⟨by decide +kernel, rfl⟩
theorem dc_M_setNumber_30 : decode prog_10_method_20_code 30 = .ok (.ireturn, 1) := by decide +kernel
theorem dc_M_isNumber_0 : decode prog_10_method_19_code 0 = .ok (.iload_n 0, 1) ∧ 0 + 1 = 1 := ⟨by decide +kernel, rfl⟩
theorem dc_M_isNumber_1 : decode prog_10_method_19_code 1 = .ok (.tableswitch 106 0 5 #[39, 72, 81, 90, 98, 98], 39) ∧ ((1 : Nat) : Int) + (106) = ((107 : Nat) : Int) ∧ (5 : Int) + 1 - (0) = (([40, 73, 82, 91, 99, 99] : List Nat).length : Int) ∧ (#[39, 72, 81, 90, 98, 98] : Array Int).toList.map (fun o => ((1 : Nat) : Int) + o) = ([40, 73, 82, 91, 99, 99] : List Nat).map (fun t : Nat => (t : Int)) := ⟨by decide +kernel, by decide, by decide, by decide⟩
theorem dc_M_isNumber_40 : decode prog_10_method_19_code 40 = .ok (.iload_n 1, 1) ∧ 40 + 1 = 41 := ⟨by decide +kernel, rfl⟩
theorem dc_M_isNumber_41 : decode prog_10_method_19_code 41 = .ok (.iconst 1, 1) ∧ 41 + 1 = 42 := ⟨by decide +kernel, rfl⟩
theorem dc_M_isNumber_42 : decode prog_10_method_19_code 42 = .ok (.if_icmp .eq 25, 3) ∧ ((42 : Nat) : Int) + (25) = ((67 : Nat) : Int) ∧ 42 + 3 = 45 := ⟨by decide +kernel, by decide, rfl⟩
theorem dc_M_isNumber_45 : decode prog_10_method_19_code 45 = .ok (.iload_n 1, 1) ∧ 45 + 1 = 46 := ⟨by decide +kernel, rfl⟩
theorem dc_M_isNumber_46 : decode prog_10_method_19_code 46 = .ok (.iconst 2, 1) ∧ 46 + 1 = 47 := ⟨by decide +kernel, rfl⟩
theorem dc_M_isNumber_47 : decode prog_10_method_19_code 47 = .ok (.if_icmp .eq 20, 3) ∧ ((47 : Nat) : Int) + (20) = ((67 : Nat) : Int) ∧ 47 + 3 = 50 := ⟨by decide +kernel, by decide, rfl⟩
theorem dc_M_isNumber_50 : decode prog_10_method_19_code 50 = .ok (.iload_n 1, 1) ∧ 50 + 1 = 51 := ⟨by decide +kernel, rfl⟩
theorem dc_M_isNumber_51 : decode prog_10_method_19_code 51 = .ok (.iconst 4, 1) ∧ 51 + 1 = 52 := ⟨by decide +kernel, rfl⟩
theorem dc_M_isNumber_52 : decode prog_10_method_19_code 52 = .ok (.if_icmp .eq 15, 3) ∧ ((52 : Nat) : Int) + (15) = ((67 : Nat) : Int) ∧ 52 + 3 = 55 := ⟨by decide +kernel, by decide, rfl⟩
theorem dc_M_isNumber_55 : decode prog_10_method_19_code 55 = .ok (.iload_n 1, 1) ∧ 55 + 1 = 56 := ⟨by decide +kernel, rfl⟩
theorem dc_M_isNumber_56 : decode prog_10_method_19_code 56 = .ok (.bipush 8, 2) ∧ 56 + 2 = 58 := ⟨by decide +kernel, rfl⟩
theorem dc_M_isNumber_58 : decode prog_10_method_19_code 58 = .ok (.if_icmp .eq 9, 3) ∧ ((58 : Nat) : Int) + (9) = ((67 : Nat) : Int) ∧ 58 + 3 = 61 := ⟨by decide +kernel, by decide, rfl⟩
theorem dc_M_isNumber_61 : decode prog_10_method_19_code 61 = .ok (.iload_n 1, 1) ∧ 61 + 1 = 62 := ⟨by decide +kernel, rfl⟩
theorem dc_M_isNumber_62 : decode prog_10_method_19_code 62 = .ok (.bipush 16, 2) ∧ 62 + 2 = 64 := ⟨by decide +kernel, rfl⟩
theorem dc_M_isNumber_64 : decode prog_10_method_19_code 64 = .ok (.if_icmp .ne 7, 3) ∧ ((64 : Nat) : Int) + (7) = ((71 : Nat) : Int) ∧ 64 + 3 = 67 := ⟨by decide +kernel, by decide, rfl⟩
theorem dc_M_isNumber_67 : decode prog_10_method_19_code 67 = .ok (.iconst 1, 1) ∧ 67 + 1 = 68 := ⟨by decide +kernel, rfl⟩
theorem dc_M_isNumber_68 : decode prog_10_method_19_code 68 = .ok (.goto 4, 3) ∧ ((68 : Nat) : Int) + (4) = ((72 : Nat) : Int) := ⟨by decide +kernel, by decide⟩
theorem dc_M_isNumber_71 : decode prog_10_method_19_code 71 = .ok (.iconst 0, 1) ∧ 71 + 1 = 72 := ⟨by decide +kernel, rfl⟩
theorem dc_M_isNumber_72 : decode prog_10_method_19_code 72 = .ok (.ireturn, 1) := by decide +kernel
theorem dc_M_isNumber_73 : decode prog_10_method_19_code 73 = .ok (.iload_n 1, 1) ∧ 73 + 1 = 74 := ⟨by decide +kernel, rfl⟩
theorem dc_M_isNumber_74 : decode prog_10_method_19_code 74 = .ok (.iconst 0, 1) ∧ 74 + 1 = 75 := ⟨by decide +kernel, rfl⟩
theorem dc_M_isNumber_75 : decode prog_10_method_19_code 75 = .ok (.sipush 200, 3) ∧ 75 + 3 = 78 := ⟨by decide +kernel, rfl⟩
theorem dc_M_isNumber_78 : decode prog_10_method_19_code 78 = .ok (.invokestatic 31, 3) ∧ 78 + 3 = 81 := ⟨by decide +kernel, rfl⟩
theorem dc_M_isNumber_81 : decode prog_10_method_19_code 81 = .ok (.ireturn, 1) := by decide +kernel
theorem dc_M_isNumber_82 : decode prog_10_method_19_code 82 = .ok (.iload_n 1, 1) ∧ 82 + 1 = 83 := ⟨by decide +kernel, rfl⟩
theorem dc_M_isNumber_83 : decode prog_10_method_19_code 83 = .ok (.iconst 1, 1) ∧ 83 + 1 = 84 := ⟨by decide +kernel, rfl⟩
theorem dc_M_isNumber_84 : decode prog_10_method_19_code 84 = .ok (.sipush 1000, 3) ∧ 84 + 3 = 87 := ⟨by decide +kernel, rfl⟩
theorem dc_M_isNumber_87 : decode prog_10_method_19_code 87 = .ok (.invokestatic 31, 3) ∧ 87 + 3 = 90 := ⟨by decide +kernel, rfl⟩
theorem dc_M_isNumber_90 : decode prog_10_method_19_code 90 = .ok (.ireturn, 1) := by decide +kernel
theorem dc_M_isNumber_91 : decode prog_10_method_19_code 91 = .ok (.iload_n 1, 1) ∧ 91 + 1 = 92 := ⟨by decide +kernel, rfl⟩
theorem dc_M_isNumber_92 : decode prog_10_method_19_code 92 = .ok (.iconst 0, 1) ∧ 92 + 1 = 93 := ⟨by decide +kernel, rfl⟩
theorem dc_M_isNumber_93 : decode prog_10_method_19_code 93 = .ok (.bipush 100, 2) ∧ 93 + 2 = 95 := ⟨by decide +kernel, rfl⟩
theorem dc_M_isNumber_95 : decode prog_10_method_19_code 95 = .ok (.invokestatic 31, 3) ∧ 95 + 3 = 98 := ⟨by decide +kernel, rfl⟩
theorem dc_M_isNumber_98 : decode prog_10_method_19_code 98 = .ok (.ireturn, 1) := by decide +kernel
theorem dc_M_isNumber_99 : decode prog_10_method_19_code 99 = .ok (.iload_n 1, 1) ∧ 99 + 1 = 100 := ⟨by decide +kernel, rfl⟩
theorem dc_M_isNumber_100 : decode prog_10_method_19_code 100 = .ok (.iconst 0, 1) ∧ 100 + 1 = 101 := ⟨by decide +kernel, rfl⟩
theorem dc_M_isNumber_101 : decode prog_10_method_19_code 101 = .ok (.bipush 50, 2) ∧ 101 + 2 = 103 := ⟨by decide +kernel, rfl⟩
theorem dc_M_isNumber_103 : decode prog_10_method_19_code 103 = .ok (.invokestatic 31, 3) ∧ 103 + 3 = 106 := ⟨by decide +kernel, rfl⟩
theorem dc_M_isNumber_106 : decode prog_10_method_19_code 106 = .ok (.ireturn, 1) := by decide +kernel
theorem dc_M_isNumber_107 : decode prog_10_method_19_code 107 = .ok (.iconst 0, 1) ∧ 107 + 1 = 108 := ⟨by decide +kernel, rfl⟩
theorem dc_M_isNumber_108 : decode prog_10_method_19_code 108 = .ok (.ireturn, 1) := by decide +kernel
theorem dc_M_in_0 : decode prog_10_method_3_code 0 = .ok (.iload_n 0, 1) ∧ 0 + 1 = 1 := ⟨by decide +kernel, rfl⟩
theorem dc_M_in_1 : decode prog_10_method_3_code 1 = .ok (.iload_n 1, 1) ∧ 1 + 1 = 2 := ⟨by decide +kernel, rfl⟩
theorem dc_M_in_2 : decode prog_10_method_3_code 2 = .ok (.if_icmp .lt 12, 3) ∧ ((2 : Nat) : Int) + (12) = ((14 : Nat) : Int) ∧ 2 + 3 = 5 := ⟨by decide +kernel, by decide, rfl⟩
theorem dc_M_in_5 : decode prog_10_method_3_code 5 = .ok (.iload_n 0, 1) ∧ 5 + 1 = 6 := ⟨by decide +kernel, rfl⟩
theorem dc_M_in_6 : decode prog_10_method_3_code 6 = .ok (.iload_n 2, 1) ∧ 6 + 1 = 7 := ⟨by decide +kernel, rfl⟩
theorem dc_M_in_7 : decode prog_10_method_3_code 7 = .ok (.if_icmp .gt 7, 3) ∧ ((7 : Nat) : Int) + (7) = ((14 : Nat) : Int) ∧ 7 + 3 = 10 := ⟨by decide +kernel, by decide, rfl⟩
theorem dc_M_in_10 : decode prog_10_method_3_code 10 = .ok (.iconst 1, 1) ∧ 10 + 1 = 11 := ⟨by decide +kernel, rfl⟩
theorem dc_M_in_11 : decode prog_10_method_3_code 11 = .ok (.goto 4, 3) ∧ ((11 : Nat) : Int) + (4) = ((15 : Nat) : Int) := ⟨by decide +kernel, by decide⟩
theorem dc_M_in_14 : decode prog_10_method_3_code 14 = .ok (.iconst 0, 1) ∧ 14 + 1 = 15 := ⟨by decide +kernel, rfl⟩
theorem dc_M_in_15 : decode prog_10_method_3_code 15 = .ok (.ireturn, 1) := by decide +kernel
theorem dc_M_notes_0 : decode prog_10_method_6_code 0 = .ok (.aload_n 0, 1) ∧ 0 + 1 = 1 := ⟨by decide +kernel, rfl⟩
theorem dc_M_notes_1 : decode prog_10_method_6_code 1 = .ok (.getfield 26, 3) ∧ 1 + 3 = 4 := ⟨by decide +kernel, rfl⟩
theorem dc_M_notes_4 : decode prog_10_method_6_code 4 = .ok (.bipush 6, 2) ∧ 4 + 2 = 6 := ⟨by decide +kernel, rfl⟩
theorem dc_M_notes_6 : decode prog_10_method_6_code 6 = .ok (.if_icmp .ne 43, 3) ∧ ((6 : Nat) : Int) + (43) = ((49 : Nat) : Int) ∧ 6 + 3 = 9 := ⟨by decide +kernel, by decide, rfl⟩
theorem dc_M_notes_9 : decode prog_10_method_6_code 9 = .ok (.iconst 0, 1) ∧ 9 + 1 = 10 := ⟨by decide +kernel, rfl⟩
theorem dc_M_notes_10 : decode prog_10_method_6_code 10 = .ok (.istore_n 1, 1) ∧ 10 + 1 = 11 := ⟨by decide +kernel, rfl⟩
theorem dc_M_notes_11 : decode prog_10_method_6_code 11 = .ok (.iload_n 1, 1) ∧ 11 + 1 = 12 := ⟨by decide +kernel, rfl⟩
theorem dc_M_notes_12 : decode prog_10_method_6_code 12 = .ok (.sipush 400, 3) ∧ 12 + 3 = 15 := ⟨by decide +kernel, rfl⟩
theorem dc_M_notes_15 : decode prog_10_method_6_code 15 = .ok (.if_icmp .ge 24, 3) ∧ ((15 : Nat) : Int) + (24) = ((39 : Nat) : Int) ∧ 15 + 3 = 18 := ⟨by decide +kernel, by decide, rfl⟩
theorem dc_M_notes_18 : decode prog_10_method_6_code 18 = .ok (.aload_n 0, 1) ∧ 18 + 1 = 19 := ⟨by decide +kernel, rfl⟩
theorem dc_M_notes_19 : decode prog_10_method_6_code 19 = .ok (.getfield 13, 3) ∧ 19 + 3 = 22 := ⟨by decide +kernel, rfl⟩
theorem dc_M_notes_22 : decode prog_10_method_6_code 22 = .ok (.iload_n 1, 1) ∧ 22 + 1 = 23 := ⟨by decide +kernel, rfl⟩
theorem dc_M_notes_23 : decode prog_10_method_6_code 23 = .ok (.aload_n 0, 1) ∧ 23 + 1 = 24 := ⟨by decide +kernel, rfl⟩
theorem dc_M_notes_24 : decode prog_10_method_6_code 24 = .ok (.getfield 13, 3) ∧ 24 + 3 = 27 := ⟨by decide +kernel, rfl⟩
theorem dc_M_notes_27 : decode prog_10_method_6_code 27 = .ok (.iload_n 1, 1) ∧ 27 + 1 = 28 := ⟨by decide +kernel, rfl⟩
theorem dc_M_notes_28 : decode prog_10_method_6_code 28 = .ok (.bipush 80, 2) ∧ 28 + 2 = 30 := ⟨by decide +kernel, rfl⟩
theorem dc_M_notes_30 : decode prog_10_method_6_code 30 = .ok (.iadd, 1) ∧ 30 + 1 = 31 := ⟨by decide +kernel, rfl⟩
theorem dc_M_notes_31 : decode prog_10_method_6_code 31 = .ok (.iaload, 1) ∧ 31 + 1 = 32 := ⟨by decide +kernel, rfl⟩
theorem dc_M_notes_32 : decode prog_10_method_6_code 32 = .ok (.iastore, 1) ∧ 32 + 1 = 33 := ⟨by decide +kernel, rfl⟩
theorem dc_M_notes_33 : decode prog_10_method_6_code 33 = .ok (.iinc 1 1, 3) ∧ 33 + 3 = 36 := ⟨by decide +kernel, rfl⟩
theorem dc_M_notes_36 : decode prog_10_method_6_code 36 = .ok (.goto (-25), 3) ∧ ((36 : Nat) : Int) + (-25) = ((11 : Nat) : Int) := ⟨by decide +kernel, by decide⟩
theorem dc_M_notes_39 : decode prog_10_method_6_code 39 = .ok (.aload_n 0, 1) ∧ 39 + 1 = 40 := ⟨by decide +kernel, rfl⟩
theorem dc_M_notes_40 : decode prog_10_method_6_code 40 = .ok (.dup, 1) ∧ 40 + 1 = 41 := ⟨by decide +kernel, rfl⟩
theorem dc_M_notes_41 : decode prog_10_method_6_code 41 = .ok (.getfield 26, 3) ∧ 41 + 3 = 44 := ⟨by decide +kernel, rfl⟩
theorem dc_M_notes_44 : decode prog_10_method_6_code 44 = .ok (.iconst 1, 1) ∧ 44 + 1 = 45 := ⟨by decide +kernel, rfl⟩
theorem dc_M_notes_45 : decode prog_10_method_6_code 45 = .ok (.isub, 1) ∧ 45 + 1 = 46 := ⟨by decide +kernel, rfl⟩
theorem dc_M_notes_46 : decode prog_10_method_6_code 46 = .ok (.putfield 26, 3) ∧ 46 + 3 = 49 := ⟨by decide +kernel, rfl⟩
theorem dc_M_notes_49 : decode prog_10_method_6_code 49 = .ok (.iconst 0, 1) ∧ 49 + 1 = 50 := ⟨by decide +kernel, rfl⟩
theorem dc_M_notes_50 : decode prog_10_method_6_code 50 = .ok (.istore_n 1, 1) ∧ 50 + 1 = 51 := ⟨by decide +kernel, rfl⟩
theorem dc_M_notes_51 : decode prog_10_method_6_code 51 = .ok (.iload_n 1, 1) ∧ 51 + 1 = 52 := ⟨by decide +kernel, rfl⟩
theorem dc_M_notes_52 : decode prog_10_method_6_code 52 = .ok (.bipush 80, 2) ∧ 52 + 2 = 54 := ⟨by decide +kernel, rfl⟩
theorem dc_M_notes_54 : decode prog_10_method_6_code 54 = .ok (.if_icmp .ge 29, 3) ∧ ((54 : Nat) : Int) + (29) = ((83 : Nat) : Int) ∧ 54 + 3 = 57 := ⟨by decide +kernel, by decide, rfl⟩
theorem dc_M_notes_57 : decode prog_10_method_6_code 57 = .ok (.aload_n 0, 1) ∧ 57 + 1 = 58 := ⟨by decide +kernel, rfl⟩
theorem dc_M_notes_58 : decode prog_10_method_6_code 58 = .ok (.getfield 13, 3) ∧ 58 + 3 = 61 := ⟨by decide +kernel, rfl⟩
theorem dc_M_notes_61 : decode prog_10_method_6_code 61 = .ok (.bipush 80, 2) ∧ 61 + 2 = 63 := ⟨by decide +kernel, rfl⟩
theorem dc_M_notes_63 : decode prog_10_method_6_code 63 = .ok (.aload_n 0, 1) ∧ 63 + 1 = 64 := ⟨by decide +kernel, rfl⟩
theorem dc_M_notes_64 : decode prog_10_method_6_code 64 = .ok (.getfield 26, 3) ∧ 64 + 3 = 67 := ⟨by decide +kernel, rfl⟩
theorem dc_M_notes_67 : decode prog_10_method_6_code 67 = .ok (.imul, 1) ∧ 67 + 1 = 68 := ⟨by decide +kernel, rfl⟩
theorem dc_M_notes_68 : decode prog_10_method_6_code 68 = .ok (.iload_n 1, 1) ∧ 68 + 1 = 69 := ⟨by decide +kernel, rfl⟩
theorem dc_M_notes_69 : decode prog_10_method_6_code 69 = .ok (.iadd, 1) ∧ 69 + 1 = 70 := ⟨by decide +kernel, rfl⟩
theorem dc_M_notes_70 : decode prog_10_method_6_code 70 = .ok (.aload_n 0, 1) ∧ 70 + 1 = 71 := ⟨by decide +kernel, rfl⟩
theorem dc_M_notes_71 : decode prog_10_method_6_code 71 = .ok (.getfield 7, 3) ∧ 71 + 3 = 74 := ⟨by decide +kernel, rfl⟩
theorem dc_M_notes_74 : decode prog_10_method_6_code 74 = .ok (.iload_n 1, 1) ∧ 74 + 1 = 75 := ⟨by decide +kernel, rfl⟩
theorem dc_M_notes_75 : decode prog_10_method_6_code 75 = .ok (.iaload, 1) ∧ 75 + 1 = 76 := ⟨by decide +kernel, rfl⟩
theorem dc_M_notes_76 : decode prog_10_method_6_code 76 = .ok (.iastore, 1) ∧ 76 + 1 = 77 := ⟨by decide +kernel, rfl⟩
theorem dc_M_notes_77 : decode prog_10_method_6_code 77 = .ok (.iinc 1 1, 3) ∧ 77 + 3 = 80 := ⟨by decide +kernel, rfl⟩
theorem dc_M_notes_80 : decode prog_10_method_6_code 80 = .ok (.goto (-29), 3) ∧ ((80 : Nat) : Int) + (-29) = ((51 : Nat) : Int) := ⟨by decide +kernel, by decide⟩
theorem dc_M_notes_83 : decode prog_10_method_6_code 83 = .ok (.aload_n 0, 1) ∧ 83 + 1 = 84 := ⟨by decide +kernel, rfl⟩
theorem dc_M_notes_84 : decode prog_10_method_6_code 84 = .ok (.dup, 1) ∧ 84 + 1 = 85 := ⟨by decide +kernel, rfl⟩
theorem dc_M_notes_85 : decode prog_10_method_6_code 85 = .ok (.getfield 26, 3) ∧ 85 + 3 = 88 := ⟨by decide +kernel, rfl⟩
theorem dc_M_notes_88 : decode prog_10_method_6_code 88 = .ok (.iconst 1, 1) ∧ 88 + 1 = 89 := ⟨by decide +kernel, rfl⟩
theorem dc_M_notes_89 : decode prog_10_method_6_code 89 = .ok (.iadd, 1) ∧ 89 + 1 = 90 := ⟨by decide +kernel, rfl⟩
theorem dc_M_notes_90 : decode prog_10_method_6_code 90 = .ok (.putfield 26, 3) ∧ 90 + 3 = 93 := ⟨by decide +kernel, rfl⟩
theorem dc_M_notes_93 : decode prog_10_method_6_code 93 = .ok (.return_, 1) := by decide +kernel
theorem dc_M_setLoad_0 : decode prog_10_method_21_code 0 = .ok (.iload_n 1, 1) ∧ 0 + 1 = 1 := ⟨by decide +kernel, rfl⟩
theorem dc_M_setLoad_1 : decode prog_10_method_21_code 1 = .ok (.invokestatic 65, 3) ∧ 1 + 3 = 4 := ⟨by decide +kernel, rfl⟩
theorem dc_M_setLoad_4 : decode prog_10_method_21_code 4 = .ok (.ifCond .eq 26, 3) ∧ ((4 : Nat) : Int) + (26) = ((30 : Nat) : Int) ∧ 4 + 3 = 7 := ⟨by decide +kernel, by decide, rfl⟩
theorem dc_M_setLoad_7 : decode prog_10_method_21_code 7 = .ok (.iload_n 2, 1) ∧ 7 + 1 = 8 := ⟨by decide +kernel, rfl⟩
theorem dc_M_setLoad_8 : decode prog_10_method_21_code 8 = .ok (.iconst (-1), 1) ∧ 8 + 1 = 9 := ⟨by decide +kernel, rfl⟩
theorem dc_M_setLoad_9 : decode prog_10_method_21_code 9 = .ok (.sipush 200, 3) ∧ 9 + 3 = 12 := ⟨by decide +kernel, rfl⟩
theorem dc_M_setLoad_12 : decode prog_10_method_21_code 12 = .ok (.invokestatic 31, 3) ∧ 12 + 3 = 15 := ⟨by decide +kernel, rfl⟩
theorem dc_M_setLoad_15 : decode prog_10_method_21_code 15 = .ok (.ifCond .eq 15, 3) ∧ ((15 : Nat) : Int) + (15) = ((30 : Nat) : Int) ∧ 15 + 3 = 18 := ⟨by decide +kernel, by decide, rfl⟩
theorem dc_M_setLoad_18 : decode prog_10_method_21_code 18 = .ok (.aload_n 0, 1) ∧ 18 + 1 = 19 := ⟨by decide +kernel, rfl⟩
theorem dc_M_setLoad_19 : decode prog_10_method_21_code 19 = .ok (.bipush 21, 2) ∧ 19 + 2 = 21 := ⟨by decide +kernel, rfl⟩
theorem dc_M_setLoad_21 : decode prog_10_method_21_code 21 = .ok (.iload_n 1, 1) ∧ 21 + 1 = 22 := ⟨by decide +kernel, rfl⟩
theorem dc_M_setLoad_22 : decode prog_10_method_21_code 22 = .ok (.iload_n 2, 1) ∧ 22 + 1 = 23 := ⟨by decide +kernel, rfl⟩
theorem dc_M_setLoad_23 : decode prog_10_method_21_code 23 = .ok (.iconst (-1), 1) ∧ 23 + 1 = 24 := ⟨by decide +kernel, rfl⟩
theorem dc_M_setLoad_24 : decode prog_10_method_21_code 24 = .ok (.invokevirtual 69, 3) ∧ 24 + 3 = 27 := ⟨by decide +kernel, rfl⟩
theorem dc_M_setLoad_27 : decode prog_10_method_21_code 27 = .ok (.goto 5, 3) ∧ ((27 : Nat) : Int) + (5) = ((32 : Nat) : Int) := ⟨by decide +kernel, by decide⟩
theorem dc_M_setLoad_30 : decode prog_10_method_21_code 30 = .ok (.ldc 64, 2) ∧ 30 + 2 = 32 := ⟨by decide +kernel, rfl⟩
theorem dc_M_setLoad_32 : decode prog_10_method_21_code 32 = .ok (.ireturn, 1) := by decide +kernel
theorem dc_M_isPlace_0 : decode prog_10_method_11_code 0 = .ok (.iload_n 0, 1) ∧ 0 + 1 = 1 := ⟨by decide +kernel, rfl⟩
theorem dc_M_isPlace_1 : decode prog_10_method_11_code 1 = .ok (.sipush (-20000), 3) ∧ 1 + 3 = 4 := ⟨by decide +kernel, rfl⟩
theorem dc_M_isPlace_4 : decode prog_10_method_11_code 4 = .ok (.sipush 20000, 3) ∧ 4 + 3 = 7 := ⟨by decide +kernel, rfl⟩
theorem dc_M_isPlace_7 : decode prog_10_method_11_code 7 = .ok (.invokestatic 31, 3) ∧ 7 + 3 = 10 := ⟨by decide +kernel, rfl⟩
theorem dc_M_isPlace_10 : decode prog_10_method_11_code 10 = .ok (.ireturn, 1) := by decide +kernel
theorem dc_M_sets_0 : decode prog_10_method_18_code 0 = .ok (.aload_n 0, 1) ∧ 0 + 1 = 1 := ⟨by decide +kernel, rfl⟩
theorem dc_M_sets_1 : decode prog_10_method_18_code 1 = .ok (.iload_n 1, 1) ∧ 1 + 1 = 2 := ⟨by decide +kernel, rfl⟩
theorem dc_M_sets_2 : decode prog_10_method_18_code 2 = .ok (.iload_n 2, 1) ∧ 2 + 1 = 3 := ⟨by decide +kernel, rfl⟩
theorem dc_M_sets_3 : decode prog_10_method_18_code 3 = .ok (.invokevirtual 42, 3) ∧ 3 + 3 = 6 := ⟨by decide +kernel, rfl⟩
theorem dc_M_sets_6 : decode prog_10_method_18_code 6 = .ok (.istore 5, 2) ∧ 6 + 2 = 8 := ⟨by decide +kernel, rfl⟩
theorem dc_M_sets_8 : decode prog_10_method_18_code 8 = .ok (.iload_n 3, 1) ∧ 8 + 1 = 9 := ⟨by decide +kernel, rfl⟩
theorem dc_M_sets_9 : decode prog_10_method_18_code 9 = .ok (.iload 4, 2) ∧ 9 + 2 = 11 := ⟨by decide +kernel, rfl⟩
theorem dc_M_sets_11 : decode prog_10_method_18_code 11 = .ok (.if_icmp .ne 11, 3) ∧ ((11 : Nat) : Int) + (11) = ((22 : Nat) : Int) ∧ 11 + 3 = 14 := ⟨by decide +kernel, by decide, rfl⟩
theorem dc_M_sets_14 : decode prog_10_method_18_code 14 = .ok (.iload 5, 2) ∧ 14 + 2 = 16 := ⟨by decide +kernel, rfl⟩
theorem dc_M_sets_16 : decode prog_10_method_18_code 16 = .ok (.ifCond .ne 6, 3) ∧ ((16 : Nat) : Int) + (6) = ((22 : Nat) : Int) ∧ 16 + 3 = 19 := ⟨by decide +kernel, by decide, rfl⟩
theorem dc_M_sets_19 : decode prog_10_method_18_code 19 = .ok (.ldc 30, 2) ∧ 19 + 2 = 21 := ⟨by decide +kernel, rfl⟩
theorem dc_M_sets_21 : decode prog_10_method_18_code 21 = .ok (.ireturn, 1) := by decide +kernel
theorem dc_M_sets_22 : decode prog_10_method_18_code 22 = .ok (.iload_n 3, 1) ∧ 22 + 1 = 23 := ⟨by decide +kernel, rfl⟩
theorem dc_M_sets_23 : decode prog_10_method_18_code 23 = .ok (.iload 4, 2) ∧ 23 + 2 = 25 := ⟨by decide +kernel, rfl⟩
theorem dc_M_sets_25 : decode prog_10_method_18_code 25 = .ok (.if_icmp .eq 22, 3) ∧ ((25 : Nat) : Int) + (22) = ((47 : Nat) : Int) ∧ 25 + 3 = 28 := ⟨by decide +kernel, by decide, rfl⟩
theorem dc_M_sets_28 : decode prog_10_method_18_code 28 = .ok (.iload 5, 2) ∧ 28 + 2 = 30 := ⟨by decide +kernel, rfl⟩
theorem dc_M_sets_30 : decode prog_10_method_18_code 30 = .ok (.ifCond .ne 17, 3) ∧ ((30 : Nat) : Int) + (17) = ((47 : Nat) : Int) ∧ 30 + 3 = 33 := ⟨by decide +kernel, by decide, rfl⟩
theorem dc_M_sets_33 : decode prog_10_method_18_code 33 = .ok (.aload_n 0, 1) ∧ 33 + 1 = 34 := ⟨by decide +kernel, rfl⟩
theorem dc_M_sets_34 : decode prog_10_method_18_code 34 = .ok (.getfield 7, 3) ∧ 34 + 3 = 37 := ⟨by decide +kernel, rfl⟩
theorem dc_M_sets_37 : decode prog_10_method_18_code 37 = .ok (.iload_n 1, 1) ∧ 37 + 1 = 38 := ⟨by decide +kernel, rfl⟩
theorem dc_M_sets_38 : decode prog_10_method_18_code 38 = .ok (.iaload, 1) ∧ 38 + 1 = 39 := ⟨by decide +kernel, rfl⟩
theorem dc_M_sets_39 : decode prog_10_method_18_code 39 = .ok (.bipush 10, 2) ∧ 39 + 2 = 41 := ⟨by decide +kernel, rfl⟩
theorem dc_M_sets_41 : decode prog_10_method_18_code 41 = .ok (.if_icmp .ne 6, 3) ∧ ((41 : Nat) : Int) + (6) = ((47 : Nat) : Int) ∧ 41 + 3 = 44 := ⟨by decide +kernel, by decide, rfl⟩
theorem dc_M_sets_44 : decode prog_10_method_18_code 44 = .ok (.ldc 46, 2) ∧ 44 + 2 = 46 := ⟨by decide +kernel, rfl⟩
theorem dc_M_sets_46 : decode prog_10_method_18_code 46 = .ok (.ireturn, 1) := by decide +kernel
theorem dc_M_sets_47 : decode prog_10_method_18_code 47 = .ok (.aload_n 0, 1) ∧ 47 + 1 = 48 := ⟨by decide +kernel, rfl⟩
theorem dc_M_sets_48 : decode prog_10_method_18_code 48 = .ok (.invokevirtual 47, 3) ∧ 48 + 3 = 51 := ⟨by decide +kernel, rfl⟩
theorem dc_M_sets_51 : decode prog_10_method_18_code 51 = .ok (.iload 5, 2) ∧ 51 + 2 = 53 := ⟨by decide +kernel, rfl⟩
theorem dc_M_sets_53 : decode prog_10_method_18_code 53 = .ok (.ifCond .eq 19, 3) ∧ ((53 : Nat) : Int) + (19) = ((72 : Nat) : Int) ∧ 53 + 3 = 56 := ⟨by decide +kernel, by decide, rfl⟩
theorem dc_M_sets_56 : decode prog_10_method_18_code 56 = .ok (.aload_n 0, 1) ∧ 56 + 1 = 57 := ⟨by decide +kernel, rfl⟩
theorem dc_M_sets_57 : decode prog_10_method_18_code 57 = .ok (.iload_n 1, 1) ∧ 57 + 1 = 58 := ⟨by decide +kernel, rfl⟩
theorem dc_M_sets_58 : decode prog_10_method_18_code 58 = .ok (.aload_n 0, 1) ∧ 58 + 1 = 59 := ⟨by decide +kernel, rfl⟩
theorem dc_M_sets_59 : decode prog_10_method_18_code 59 = .ok (.iload_n 1, 1) ∧ 59 + 1 = 60 := ⟨by decide +kernel, rfl⟩
theorem dc_M_sets_60 : decode prog_10_method_18_code 60 = .ok (.iload_n 2, 1) ∧ 60 + 1 = 61 := ⟨by decide +kernel, rfl⟩
theorem dc_M_sets_61 : decode prog_10_method_18_code 61 = .ok (.invokevirtual 39, 3) ∧ 61 + 3 = 64 := ⟨by decide +kernel, rfl⟩
theorem dc_M_sets_64 : decode prog_10_method_18_code 64 = .ok (.iconst 1, 1) ∧ 64 + 1 = 65 := ⟨by decide +kernel, rfl⟩
theorem dc_M_sets_65 : decode prog_10_method_18_code 65 = .ok (.isub, 1) ∧ 65 + 1 = 66 := ⟨by decide +kernel, rfl⟩
theorem dc_M_sets_66 : decode prog_10_method_18_code 66 = .ok (.invokevirtual 50, 3) ∧ 66 + 3 = 69 := ⟨by decide +kernel, rfl⟩
theorem dc_M_sets_69 : decode prog_10_method_18_code 69 = .ok (.goto 5, 3) ∧ ((69 : Nat) : Int) + (5) = ((74 : Nat) : Int) := ⟨by decide +kernel, by decide⟩
theorem dc_M_sets_72 : decode prog_10_method_18_code 72 = .ok (.iload 4, 2) ∧ 72 + 2 = 74 := ⟨by decide +kernel, rfl⟩
theorem dc_M_sets_74 : decode prog_10_method_18_code 74 = .ok (.istore 6, 2) ∧ 74 + 2 = 76 := ⟨by decide +kernel, rfl⟩
theorem dc_M_sets_76 : decode prog_10_method_18_code 76 = .ok (.iload_n 3, 1) ∧ 76 + 1 = 77 := ⟨by decide +kernel, rfl⟩
theorem dc_M_sets_77 : decode prog_10_method_18_code 77 = .ok (.iload 4, 2) ∧ 77 + 2 = 79 := ⟨by decide +kernel, rfl⟩
theorem dc_M_sets_79 : decode prog_10_method_18_code 79 = .ok (.if_icmp .ne 12, 3) ∧ ((79 : Nat) : Int) + (12) = ((91 : Nat) : Int) ∧ 79 + 3 = 82 := ⟨by decide +kernel, by decide, rfl⟩
theorem dc_M_sets_82 : decode prog_10_method_18_code 82 = .ok (.aload_n 0, 1) ∧ 82 + 1 = 83 := ⟨by decide +kernel, rfl⟩
theorem dc_M_sets_83 : decode prog_10_method_18_code 83 = .ok (.iload_n 1, 1) ∧ 83 + 1 = 84 := ⟨by decide +kernel, rfl⟩
theorem dc_M_sets_84 : decode prog_10_method_18_code 84 = .ok (.iload_n 2, 1) ∧ 84 + 1 = 85 := ⟨by decide +kernel, rfl⟩
theorem dc_M_sets_85 : decode prog_10_method_18_code 85 = .ok (.invokevirtual 53, 3) ∧ 85 + 3 = 88 := ⟨by decide +kernel, rfl⟩
theorem dc_M_sets_88 : decode prog_10_method_18_code 88 = .ok (.goto 10, 3) ∧ ((88 : Nat) : Int) + (10) = ((98 : Nat) : Int) := ⟨by decide +kernel, by decide⟩
theorem dc_M_sets_91 : decode prog_10_method_18_code 91 = .ok (.aload_n 0, 1) ∧ 91 + 1 = 92 := ⟨by decide +kernel, rfl⟩
theorem dc_M_sets_92 : decode prog_10_method_18_code 92 = .ok (.iload_n 1, 1) ∧ 92 + 1 = 93 := ⟨by decide +kernel, rfl⟩
theorem dc_M_sets_93 : decode prog_10_method_18_code 93 = .ok (.iload_n 2, 1) ∧ 93 + 1 = 94 := ⟨by decide +kernel, rfl⟩
theorem dc_M_sets_94 : decode prog_10_method_18_code 94 = .ok (.iload_n 3, 1) ∧ 94 + 1 = 95 := ⟨by decide +kernel, rfl⟩
theorem dc_M_sets_95 : decode prog_10_method_18_code 95 = .ok (.invokevirtual 57, 3) ∧ 95 + 3 = 98 := ⟨by decide +kernel, rfl⟩
theorem dc_M_sets_98 : decode prog_10_method_18_code 98 = .ok (.iload 6, 2) ∧ 98 + 2 = 100 := ⟨by decide +kernel, rfl⟩
theorem dc_M_sets_100 : decode prog_10_method_18_code 100 = .ok (.ireturn, 1) := by decide +kernel
theorem dc_M_has_0 : decode prog_10_method_15_code 0 = .ok (.aload_n 0, 1) ∧ 0 + 1 = 1 := ⟨by decide +kernel, rfl⟩
theorem dc_M_has_1 : decode prog_10_method_15_code 1 = .ok (.iload_n 1, 1) ∧ 1 + 1 = 2 := ⟨by decide +kernel, rfl⟩
theorem dc_M_has_2 : decode prog_10_method_15_code 2 = .ok (.iload_n 2, 1) ∧ 2 + 1 = 3 := ⟨by decide +kernel, rfl⟩
theorem dc_M_has_3 : decode prog_10_method_15_code 3 = .ok (.invokevirtual 39, 3) ∧ 3 + 3 = 6 := ⟨by decide +kernel, rfl⟩
theorem dc_M_has_6 : decode prog_10_method_15_code 6 = .ok (.istore_n 3, 1) ∧ 6 + 1 = 7 := ⟨by decide +kernel, rfl⟩
theorem dc_M_has_7 : decode prog_10_method_15_code 7 = .ok (.iload_n 3, 1) ∧ 7 + 1 = 8 := ⟨by decide +kernel, rfl⟩
theorem dc_M_has_8 : decode prog_10_method_15_code 8 = .ok (.ifCond .le 19, 3) ∧ ((8 : Nat) : Int) + (19) = ((27 : Nat) : Int) ∧ 8 + 3 = 11 := ⟨by decide +kernel, by decide, rfl⟩
theorem dc_M_has_11 : decode prog_10_method_15_code 11 = .ok (.aload_n 0, 1) ∧ 11 + 1 = 12 := ⟨by decide +kernel, rfl⟩
theorem dc_M_has_12 : decode prog_10_method_15_code 12 = .ok (.iload_n 1, 1) ∧ 12 + 1 = 13 := ⟨by decide +kernel, rfl⟩
theorem dc_M_has_13 : decode prog_10_method_15_code 13 = .ok (.iload_n 3, 1) ∧ 13 + 1 = 14 := ⟨by decide +kernel, rfl⟩
theorem dc_M_has_14 : decode prog_10_method_15_code 14 = .ok (.iconst 1, 1) ∧ 14 + 1 = 15 := ⟨by decide +kernel, rfl⟩
theorem dc_M_has_15 : decode prog_10_method_15_code 15 = .ok (.isub, 1) ∧ 15 + 1 = 16 := ⟨by decide +kernel, rfl⟩
theorem dc_M_has_16 : decode prog_10_method_15_code 16 = .ok (.invokevirtual 35, 3) ∧ 16 + 3 = 19 := ⟨by decide +kernel, rfl⟩
theorem dc_M_has_19 : decode prog_10_method_15_code 19 = .ok (.iload_n 2, 1) ∧ 19 + 1 = 20 := ⟨by decide +kernel, rfl⟩
theorem dc_M_has_20 : decode prog_10_method_15_code 20 = .ok (.if_icmp .ne 7, 3) ∧ ((20 : Nat) : Int) + (7) = ((27 : Nat) : Int) ∧ 20 + 3 = 23 := ⟨by decide +kernel, by decide, rfl⟩
theorem dc_M_has_23 : decode prog_10_method_15_code 23 = .ok (.iconst 1, 1) ∧ 23 + 1 = 24 := ⟨by decide +kernel, rfl⟩
theorem dc_M_has_24 : decode prog_10_method_15_code 24 = .ok (.goto 4, 3) ∧ ((24 : Nat) : Int) + (4) = ((28 : Nat) : Int) := ⟨by decide +kernel, by decide⟩
theorem dc_M_has_27 : decode prog_10_method_15_code 27 = .ok (.iconst 0, 1) ∧ 27 + 1 = 28 := ⟨by decide +kernel, rfl⟩
theorem dc_M_has_28 : decode prog_10_method_15_code 28 = .ok (.ireturn, 1) := by decide +kernel
theorem dc_M_upTo_0 : decode prog_10_method_14_code 0 = .ok (.iconst 0, 1) ∧ 0 + 1 = 1 := ⟨by decide +kernel, rfl⟩
theorem dc_M_upTo_1 : decode prog_10_method_14_code 1 = .ok (.istore_n 3, 1) ∧ 1 + 1 = 2 := ⟨by decide +kernel, rfl⟩
theorem dc_M_upTo_2 : decode prog_10_method_14_code 2 = .ok (.iload_n 3, 1) ∧ 2 + 1 = 3 := ⟨by decide +kernel, rfl⟩
theorem dc_M_upTo_3 : decode prog_10_method_14_code 3 = .ok (.aload_n 0, 1) ∧ 3 + 1 = 4 := ⟨by decide +kernel, rfl⟩
theorem dc_M_upTo_4 : decode prog_10_method_14_code 4 = .ok (.getfield 7, 3) ∧ 4 + 3 = 7 := ⟨by decide +kernel, rfl⟩
theorem dc_M_upTo_7 : decode prog_10_method_14_code 7 = .ok (.iload_n 1, 1) ∧ 7 + 1 = 8 := ⟨by decide +kernel, rfl⟩
theorem dc_M_upTo_8 : decode prog_10_method_14_code 8 = .ok (.iaload, 1) ∧ 8 + 1 = 9 := ⟨by decide +kernel, rfl⟩
theorem dc_M_upTo_9 : decode prog_10_method_14_code 9 = .ok (.if_icmp .ge 19, 3) ∧ ((9 : Nat) : Int) + (19) = ((28 : Nat) : Int) ∧ 9 + 3 = 12 := ⟨by decide +kernel, by decide, rfl⟩
theorem dc_M_upTo_12 : decode prog_10_method_14_code 12 = .ok (.aload_n 0, 1) ∧ 12 + 1 = 13 := ⟨by decide +kernel, rfl⟩
theorem dc_M_upTo_13 : decode prog_10_method_14_code 13 = .ok (.iload_n 1, 1) ∧ 13 + 1 = 14 := ⟨by decide +kernel, rfl⟩
theorem dc_M_upTo_14 : decode prog_10_method_14_code 14 = .ok (.iload_n 3, 1) ∧ 14 + 1 = 15 := ⟨by decide +kernel, rfl⟩
theorem dc_M_upTo_15 : decode prog_10_method_14_code 15 = .ok (.invokevirtual 35, 3) ∧ 15 + 3 = 18 := ⟨by decide +kernel, rfl⟩
theorem dc_M_upTo_18 : decode prog_10_method_14_code 18 = .ok (.iload_n 2, 1) ∧ 18 + 1 = 19 := ⟨by decide +kernel, rfl⟩
theorem dc_M_upTo_19 : decode prog_10_method_14_code 19 = .ok (.if_icmp .gt 9, 3) ∧ ((19 : Nat) : Int) + (9) = ((28 : Nat) : Int) ∧ 19 + 3 = 22 := ⟨by decide +kernel, by decide, rfl⟩
theorem dc_M_upTo_22 : decode prog_10_method_14_code 22 = .ok (.iinc 3 1, 3) ∧ 22 + 3 = 25 := ⟨by decide +kernel, rfl⟩
theorem dc_M_upTo_25 : decode prog_10_method_14_code 25 = .ok (.goto (-23), 3) ∧ ((25 : Nat) : Int) + (-23) = ((2 : Nat) : Int) := ⟨by decide +kernel, by decide⟩
theorem dc_M_upTo_28 : decode prog_10_method_14_code 28 = .ok (.iload_n 3, 1) ∧ 28 + 1 = 29 := ⟨by decide +kernel, rfl⟩
theorem dc_M_upTo_29 : decode prog_10_method_14_code 29 = .ok (.ireturn, 1) := by decide +kernel
theorem dc_M_placeAt_0 : decode prog_10_method_12_code 0 = .ok (.aload_n 0, 1) ∧ 0 + 1 = 1 := ⟨by decide +kernel, rfl⟩
theorem dc_M_placeAt_1 : decode prog_10_method_12_code 1 = .ok (.getfield 7, 3) ∧ 1 + 3 = 4 := ⟨by decide +kernel, rfl⟩
theorem dc_M_placeAt_4 : decode prog_10_method_12_code 4 = .ok (.iload_n 1, 1) ∧ 4 + 1 = 5 := ⟨by decide +kernel, rfl⟩
theorem dc_M_placeAt_5 : decode prog_10_method_12_code 5 = .ok (.iconst 1, 1) ∧ 5 + 1 = 6 := ⟨by decide +kernel, rfl⟩
theorem dc_M_placeAt_6 : decode prog_10_method_12_code 6 = .ok (.iadd, 1) ∧ 6 + 1 = 7 := ⟨by decide +kernel, rfl⟩
theorem dc_M_placeAt_7 : decode prog_10_method_12_code 7 = .ok (.iconst 2, 1) ∧ 7 + 1 = 8 := ⟨by decide +kernel, rfl⟩
theorem dc_M_placeAt_8 : decode prog_10_method_12_code 8 = .ok (.iload_n 2, 1) ∧ 8 + 1 = 9 := ⟨by decide +kernel, rfl⟩
theorem dc_M_placeAt_9 : decode prog_10_method_12_code 9 = .ok (.imul, 1) ∧ 9 + 1 = 10 := ⟨by decide +kernel, rfl⟩
theorem dc_M_placeAt_10 : decode prog_10_method_12_code 10 = .ok (.iadd, 1) ∧ 10 + 1 = 11 := ⟨by decide +kernel, rfl⟩
theorem dc_M_placeAt_11 : decode prog_10_method_12_code 11 = .ok (.iaload, 1) ∧ 11 + 1 = 12 := ⟨by decide +kernel, rfl⟩
theorem dc_M_placeAt_12 : decode prog_10_method_12_code 12 = .ok (.ireturn, 1) := by decide +kernel
theorem dc_M_valueAt_0 : decode prog_10_method_13_code 0 = .ok (.aload_n 0, 1) ∧ 0 + 1 = 1 := ⟨by decide +kernel, rfl⟩
theorem dc_M_valueAt_1 : decode prog_10_method_13_code 1 = .ok (.getfield 7, 3) ∧ 1 + 3 = 4 := ⟨by decide +kernel, rfl⟩
theorem dc_M_valueAt_4 : decode prog_10_method_13_code 4 = .ok (.iload_n 1, 1) ∧ 4 + 1 = 5 := ⟨by decide +kernel, rfl⟩
theorem dc_M_valueAt_5 : decode prog_10_method_13_code 5 = .ok (.iconst 2, 1) ∧ 5 + 1 = 6 := ⟨by decide +kernel, rfl⟩
theorem dc_M_valueAt_6 : decode prog_10_method_13_code 6 = .ok (.iadd, 1) ∧ 6 + 1 = 7 := ⟨by decide +kernel, rfl⟩
theorem dc_M_valueAt_7 : decode prog_10_method_13_code 7 = .ok (.iconst 2, 1) ∧ 7 + 1 = 8 := ⟨by decide +kernel, rfl⟩
theorem dc_M_valueAt_8 : decode prog_10_method_13_code 8 = .ok (.iload_n 2, 1) ∧ 8 + 1 = 9 := ⟨by decide +kernel, rfl⟩
theorem dc_M_valueAt_9 : decode prog_10_method_13_code 9 = .ok (.imul, 1) ∧ 9 + 1 = 10 := ⟨by decide +kernel, rfl⟩
theorem dc_M_valueAt_10 : decode prog_10_method_13_code 10 = .ok (.iadd, 1) ∧ 10 + 1 = 11 := ⟨by decide +kernel, rfl⟩
theorem dc_M_valueAt_11 : decode prog_10_method_13_code 11 = .ok (.iaload, 1) ∧ 11 + 1 = 12 := ⟨by decide +kernel, rfl⟩
theorem dc_M_valueAt_12 : decode prog_10_method_13_code 12 = .ok (.ireturn, 1) := by decide +kernel
theorem dc_M_removes_0 : decode prog_10_method_17_code 0 = .ok (.aload_n 0, 1) ∧ 0 + 1 = 1 := ⟨by decide +kernel, rfl⟩
theorem dc_M_removes_1 : decode prog_10_method_17_code 1 = .ok (.iload_n 1, 1) ∧ 1 + 1 = 2 := ⟨by decide +kernel, rfl⟩
theorem dc_M_removes_2 : decode prog_10_method_17_code 2 = .ok (.iload_n 2, 1) ∧ 2 + 1 = 3 := ⟨by decide +kernel, rfl⟩
theorem dc_M_removes_3 : decode prog_10_method_17_code 3 = .ok (.invokevirtual 39, 3) ∧ 3 + 3 = 6 := ⟨by decide +kernel, rfl⟩
theorem dc_M_removes_6 : decode prog_10_method_17_code 6 = .ok (.iconst 1, 1) ∧ 6 + 1 = 7 := ⟨by decide +kernel, rfl⟩
theorem dc_M_removes_7 : decode prog_10_method_17_code 7 = .ok (.isub, 1) ∧ 7 + 1 = 8 := ⟨by decide +kernel, rfl⟩
theorem dc_M_removes_8 : decode prog_10_method_17_code 8 = .ok (.istore_n 3, 1) ∧ 8 + 1 = 9 := ⟨by decide +kernel, rfl⟩
theorem dc_M_removes_9 : decode prog_10_method_17_code 9 = .ok (.aload_n 0, 1) ∧ 9 + 1 = 10 := ⟨by decide +kernel, rfl⟩
theorem dc_M_removes_10 : decode prog_10_method_17_code 10 = .ok (.getfield 7, 3) ∧ 10 + 3 = 13 := ⟨by decide +kernel, rfl⟩
theorem dc_M_removes_13 : decode prog_10_method_17_code 13 = .ok (.iload_n 1, 1) ∧ 13 + 1 = 14 := ⟨by decide +kernel, rfl⟩
theorem dc_M_removes_14 : decode prog_10_method_17_code 14 = .ok (.dup2, 1) ∧ 14 + 1 = 15 := ⟨by decide +kernel, rfl⟩
theorem dc_M_removes_15 : decode prog_10_method_17_code 15 = .ok (.iaload, 1) ∧ 15 + 1 = 16 := ⟨by decide +kernel, rfl⟩
theorem dc_M_removes_16 : decode prog_10_method_17_code 16 = .ok (.iconst 1, 1) ∧ 16 + 1 = 17 := ⟨by decide +kernel, rfl⟩
theorem dc_M_removes_17 : decode prog_10_method_17_code 17 = .ok (.isub, 1) ∧ 17 + 1 = 18 := ⟨by decide +kernel, rfl⟩
theorem dc_M_removes_18 : decode prog_10_method_17_code 18 = .ok (.iastore, 1) ∧ 18 + 1 = 19 := ⟨by decide +kernel, rfl⟩
theorem dc_M_removes_19 : decode prog_10_method_17_code 19 = .ok (.iconst 2, 1) ∧ 19 + 1 = 20 := ⟨by decide +kernel, rfl⟩
theorem dc_M_removes_20 : decode prog_10_method_17_code 20 = .ok (.iload_n 3, 1) ∧ 20 + 1 = 21 := ⟨by decide +kernel, rfl⟩
theorem dc_M_removes_21 : decode prog_10_method_17_code 21 = .ok (.imul, 1) ∧ 21 + 1 = 22 := ⟨by decide +kernel, rfl⟩
theorem dc_M_removes_22 : decode prog_10_method_17_code 22 = .ok (.iconst 1, 1) ∧ 22 + 1 = 23 := ⟨by decide +kernel, rfl⟩
theorem dc_M_removes_23 : decode prog_10_method_17_code 23 = .ok (.iadd, 1) ∧ 23 + 1 = 24 := ⟨by decide +kernel, rfl⟩
theorem dc_M_removes_24 : decode prog_10_method_17_code 24 = .ok (.istore 4, 2) ∧ 24 + 2 = 26 := ⟨by decide +kernel, rfl⟩
theorem dc_M_removes_26 : decode prog_10_method_17_code 26 = .ok (.iload 4, 2) ∧ 26 + 2 = 28 := ⟨by decide +kernel, rfl⟩
theorem dc_M_removes_28 : decode prog_10_method_17_code 28 = .ok (.iconst 2, 1) ∧ 28 + 1 = 29 := ⟨by decide +kernel, rfl⟩
theorem dc_M_removes_29 : decode prog_10_method_17_code 29 = .ok (.aload_n 0, 1) ∧ 29 + 1 = 30 := ⟨by decide +kernel, rfl⟩
theorem dc_M_removes_30 : decode prog_10_method_17_code 30 = .ok (.getfield 7, 3) ∧ 30 + 3 = 33 := ⟨by decide +kernel, rfl⟩
theorem dc_M_removes_33 : decode prog_10_method_17_code 33 = .ok (.iload_n 1, 1) ∧ 33 + 1 = 34 := ⟨by decide +kernel, rfl⟩
theorem dc_M_removes_34 : decode prog_10_method_17_code 34 = .ok (.iaload, 1) ∧ 34 + 1 = 35 := ⟨by decide +kernel, rfl⟩
theorem dc_M_removes_35 : decode prog_10_method_17_code 35 = .ok (.imul, 1) ∧ 35 + 1 = 36 := ⟨by decide +kernel, rfl⟩
theorem dc_M_removes_36 : decode prog_10_method_17_code 36 = .ok (.if_icmp .gt 29, 3) ∧ ((36 : Nat) : Int) + (29) = ((65 : Nat) : Int) ∧ 36 + 3 = 39 := ⟨by decide +kernel, by decide, rfl⟩
theorem dc_M_removes_39 : decode prog_10_method_17_code 39 = .ok (.aload_n 0, 1) ∧ 39 + 1 = 40 := ⟨by decide +kernel, rfl⟩
theorem dc_M_removes_40 : decode prog_10_method_17_code 40 = .ok (.getfield 7, 3) ∧ 40 + 3 = 43 := ⟨by decide +kernel, rfl⟩
theorem dc_M_removes_43 : decode prog_10_method_17_code 43 = .ok (.iload_n 1, 1) ∧ 43 + 1 = 44 := ⟨by decide +kernel, rfl⟩
theorem dc_M_removes_44 : decode prog_10_method_17_code 44 = .ok (.iload 4, 2) ∧ 44 + 2 = 46 := ⟨by decide +kernel, rfl⟩
theorem dc_M_removes_46 : decode prog_10_method_17_code 46 = .ok (.iadd, 1) ∧ 46 + 1 = 47 := ⟨by decide +kernel, rfl⟩
theorem dc_M_removes_47 : decode prog_10_method_17_code 47 = .ok (.aload_n 0, 1) ∧ 47 + 1 = 48 := ⟨by decide +kernel, rfl⟩
theorem dc_M_removes_48 : decode prog_10_method_17_code 48 = .ok (.getfield 7, 3) ∧ 48 + 3 = 51 := ⟨by decide +kernel, rfl⟩
theorem dc_M_removes_51 : decode prog_10_method_17_code 51 = .ok (.iload_n 1, 1) ∧ 51 + 1 = 52 := ⟨by decide +kernel, rfl⟩
theorem dc_M_removes_52 : decode prog_10_method_17_code 52 = .ok (.iload 4, 2) ∧ 52 + 2 = 54 := ⟨by decide +kernel, rfl⟩
theorem dc_M_removes_54 : decode prog_10_method_17_code 54 = .ok (.iadd, 1) ∧ 54 + 1 = 55 := ⟨by decide +kernel, rfl⟩
theorem dc_M_removes_55 : decode prog_10_method_17_code 55 = .ok (.iconst 2, 1) ∧ 55 + 1 = 56 := ⟨by decide +kernel, rfl⟩
theorem dc_M_removes_56 : decode prog_10_method_17_code 56 = .ok (.iadd, 1) ∧ 56 + 1 = 57 := ⟨by decide +kernel, rfl⟩
theorem dc_M_removes_57 : decode prog_10_method_17_code 57 = .ok (.iaload, 1) ∧ 57 + 1 = 58 := ⟨by decide +kernel, rfl⟩
theorem dc_M_removes_58 : decode prog_10_method_17_code 58 = .ok (.iastore, 1) ∧ 58 + 1 = 59 := ⟨by decide +kernel, rfl⟩
theorem dc_M_removes_59 : decode prog_10_method_17_code 59 = .ok (.iinc 4 1, 3) ∧ 59 + 3 = 62 := ⟨by decide +kernel, rfl⟩
theorem dc_M_removes_62 : decode prog_10_method_17_code 62 = .ok (.goto (-36), 3) ∧ ((62 : Nat) : Int) + (-36) = ((26 : Nat) : Int) := ⟨by decide +kernel, by decide⟩
theorem dc_M_removes_65 : decode prog_10_method_17_code 65 = .ok (.return_, 1) := by decide +kernel
theorem dc_M_puts_0 : decode prog_10_method_16_code 0 = .ok (.aload_n 0, 1) ∧ 0 + 1 = 1 := ⟨by decide +kernel, rfl⟩
theorem dc_M_puts_1 : decode prog_10_method_16_code 1 = .ok (.iload_n 1, 1) ∧ 1 + 1 = 2 := ⟨by decide +kernel, rfl⟩
theorem dc_M_puts_2 : decode prog_10_method_16_code 2 = .ok (.iload_n 2, 1) ∧ 2 + 1 = 3 := ⟨by decide +kernel, rfl⟩
theorem dc_M_puts_3 : decode prog_10_method_16_code 3 = .ok (.invokevirtual 39, 3) ∧ 3 + 3 = 6 := ⟨by decide +kernel, rfl⟩
theorem dc_M_puts_6 : decode prog_10_method_16_code 6 = .ok (.istore 4, 2) ∧ 6 + 2 = 8 := ⟨by decide +kernel, rfl⟩
theorem dc_M_puts_8 : decode prog_10_method_16_code 8 = .ok (.aload_n 0, 1) ∧ 8 + 1 = 9 := ⟨by decide +kernel, rfl⟩
theorem dc_M_puts_9 : decode prog_10_method_16_code 9 = .ok (.iload_n 1, 1) ∧ 9 + 1 = 10 := ⟨by decide +kernel, rfl⟩
theorem dc_M_puts_10 : decode prog_10_method_16_code 10 = .ok (.iload_n 2, 1) ∧ 10 + 1 = 11 := ⟨by decide +kernel, rfl⟩
theorem dc_M_puts_11 : decode prog_10_method_16_code 11 = .ok (.invokevirtual 42, 3) ∧ 11 + 3 = 14 := ⟨by decide +kernel, rfl⟩
theorem dc_M_puts_14 : decode prog_10_method_16_code 14 = .ok (.ifCond .eq 9, 3) ∧ ((14 : Nat) : Int) + (9) = ((23 : Nat) : Int) ∧ 14 + 3 = 17 := ⟨by decide +kernel, by decide, rfl⟩
theorem dc_M_puts_17 : decode prog_10_method_16_code 17 = .ok (.iinc 4 (-1), 3) ∧ 17 + 3 = 20 := ⟨by decide +kernel, rfl⟩
theorem dc_M_puts_20 : decode prog_10_method_16_code 20 = .ok (.goto 62, 3) ∧ ((20 : Nat) : Int) + (62) = ((82 : Nat) : Int) := ⟨by decide +kernel, by decide⟩
theorem dc_M_puts_23 : decode prog_10_method_16_code 23 = .ok (.iconst 2, 1) ∧ 23 + 1 = 24 := ⟨by decide +kernel, rfl⟩
theorem dc_M_puts_24 : decode prog_10_method_16_code 24 = .ok (.aload_n 0, 1) ∧ 24 + 1 = 25 := ⟨by decide +kernel, rfl⟩
theorem dc_M_puts_25 : decode prog_10_method_16_code 25 = .ok (.getfield 7, 3) ∧ 25 + 3 = 28 := ⟨by decide +kernel, rfl⟩
theorem dc_M_puts_28 : decode prog_10_method_16_code 28 = .ok (.iload_n 1, 1) ∧ 28 + 1 = 29 := ⟨by decide +kernel, rfl⟩
theorem dc_M_puts_29 : decode prog_10_method_16_code 29 = .ok (.iaload, 1) ∧ 29 + 1 = 30 := ⟨by decide +kernel, rfl⟩
theorem dc_M_puts_30 : decode prog_10_method_16_code 30 = .ok (.imul, 1) ∧ 30 + 1 = 31 := ⟨by decide +kernel, rfl⟩
theorem dc_M_puts_31 : decode prog_10_method_16_code 31 = .ok (.iconst 2, 1) ∧ 31 + 1 = 32 := ⟨by decide +kernel, rfl⟩
theorem dc_M_puts_32 : decode prog_10_method_16_code 32 = .ok (.iadd, 1) ∧ 32 + 1 = 33 := ⟨by decide +kernel, rfl⟩
theorem dc_M_puts_33 : decode prog_10_method_16_code 33 = .ok (.istore 5, 2) ∧ 33 + 2 = 35 := ⟨by decide +kernel, rfl⟩
theorem dc_M_puts_35 : decode prog_10_method_16_code 35 = .ok (.iload 5, 2) ∧ 35 + 2 = 37 := ⟨by decide +kernel, rfl⟩
theorem dc_M_puts_37 : decode prog_10_method_16_code 37 = .ok (.iconst 2, 1) ∧ 37 + 1 = 38 := ⟨by decide +kernel, rfl⟩
theorem dc_M_puts_38 : decode prog_10_method_16_code 38 = .ok (.iload 4, 2) ∧ 38 + 2 = 40 := ⟨by decide +kernel, rfl⟩
theorem dc_M_puts_40 : decode prog_10_method_16_code 40 = .ok (.imul, 1) ∧ 40 + 1 = 41 := ⟨by decide +kernel, rfl⟩
theorem dc_M_puts_41 : decode prog_10_method_16_code 41 = .ok (.iconst 2, 1) ∧ 41 + 1 = 42 := ⟨by decide +kernel, rfl⟩
theorem dc_M_puts_42 : decode prog_10_method_16_code 42 = .ok (.iadd, 1) ∧ 42 + 1 = 43 := ⟨by decide +kernel, rfl⟩
theorem dc_M_puts_43 : decode prog_10_method_16_code 43 = .ok (.if_icmp .le 29, 3) ∧ ((43 : Nat) : Int) + (29) = ((72 : Nat) : Int) ∧ 43 + 3 = 46 := ⟨by decide +kernel, by decide, rfl⟩
theorem dc_M_puts_46 : decode prog_10_method_16_code 46 = .ok (.aload_n 0, 1) ∧ 46 + 1 = 47 := ⟨by decide +kernel, rfl⟩
theorem dc_M_puts_47 : decode prog_10_method_16_code 47 = .ok (.getfield 7, 3) ∧ 47 + 3 = 50 := ⟨by decide +kernel, rfl⟩
theorem dc_M_puts_50 : decode prog_10_method_16_code 50 = .ok (.iload_n 1, 1) ∧ 50 + 1 = 51 := ⟨by decide +kernel, rfl⟩
theorem dc_M_puts_51 : decode prog_10_method_16_code 51 = .ok (.iload 5, 2) ∧ 51 + 2 = 53 := ⟨by decide +kernel, rfl⟩
theorem dc_M_puts_53 : decode prog_10_method_16_code 53 = .ok (.iadd, 1) ∧ 53 + 1 = 54 := ⟨by decide +kernel, rfl⟩
theorem dc_M_puts_54 : decode prog_10_method_16_code 54 = .ok (.aload_n 0, 1) ∧ 54 + 1 = 55 := ⟨by decide +kernel, rfl⟩
theorem dc_M_puts_55 : decode prog_10_method_16_code 55 = .ok (.getfield 7, 3) ∧ 55 + 3 = 58 := ⟨by decide +kernel, rfl⟩
theorem dc_M_puts_58 : decode prog_10_method_16_code 58 = .ok (.iload_n 1, 1) ∧ 58 + 1 = 59 := ⟨by decide +kernel, rfl⟩
theorem dc_M_puts_59 : decode prog_10_method_16_code 59 = .ok (.iload 5, 2) ∧ 59 + 2 = 61 := ⟨by decide +kernel, rfl⟩
theorem dc_M_puts_61 : decode prog_10_method_16_code 61 = .ok (.iadd, 1) ∧ 61 + 1 = 62 := ⟨by decide +kernel, rfl⟩
theorem dc_M_puts_62 : decode prog_10_method_16_code 62 = .ok (.iconst 2, 1) ∧ 62 + 1 = 63 := ⟨by decide +kernel, rfl⟩
theorem dc_M_puts_63 : decode prog_10_method_16_code 63 = .ok (.isub, 1) ∧ 63 + 1 = 64 := ⟨by decide +kernel, rfl⟩
theorem dc_M_puts_64 : decode prog_10_method_16_code 64 = .ok (.iaload, 1) ∧ 64 + 1 = 65 := ⟨by decide +kernel, rfl⟩
theorem dc_M_puts_65 : decode prog_10_method_16_code 65 = .ok (.iastore, 1) ∧ 65 + 1 = 66 := ⟨by decide +kernel, rfl⟩
theorem dc_M_puts_66 : decode prog_10_method_16_code 66 = .ok (.iinc 5 (-1), 3) ∧ 66 + 3 = 69 := ⟨by decide +kernel, rfl⟩
theorem dc_M_puts_69 : decode prog_10_method_16_code 69 = .ok (.goto (-34), 3) ∧ ((69 : Nat) : Int) + (-34) = ((35 : Nat) : Int) := ⟨by decide +kernel, by decide⟩
theorem dc_M_puts_72 : decode prog_10_method_16_code 72 = .ok (.aload_n 0, 1) ∧ 72 + 1 = 73 := ⟨by decide +kernel, rfl⟩
theorem dc_M_puts_73 : decode prog_10_method_16_code 73 = .ok (.getfield 7, 3) ∧ 73 + 3 = 76 := ⟨by decide +kernel, rfl⟩
theorem dc_M_puts_76 : decode prog_10_method_16_code 76 = .ok (.iload_n 1, 1) ∧ 76 + 1 = 77 := ⟨by decide +kernel, rfl⟩
theorem dc_M_puts_77 : decode prog_10_method_16_code 77 = .ok (.dup2, 1) ∧ 77 + 1 = 78 := ⟨by decide +kernel, rfl⟩
theorem dc_M_puts_78 : decode prog_10_method_16_code 78 = .ok (.iaload, 1) ∧ 78 + 1 = 79 := ⟨by decide +kernel, rfl⟩
theorem dc_M_puts_79 : decode prog_10_method_16_code 79 = .ok (.iconst 1, 1) ∧ 79 + 1 = 80 := ⟨by decide +kernel, rfl⟩
theorem dc_M_puts_80 : decode prog_10_method_16_code 80 = .ok (.iadd, 1) ∧ 80 + 1 = 81 := ⟨by decide +kernel, rfl⟩
theorem dc_M_puts_81 : decode prog_10_method_16_code 81 = .ok (.iastore, 1) ∧ 81 + 1 = 82 := ⟨by decide +kernel, rfl⟩
theorem dc_M_puts_82 : decode prog_10_method_16_code 82 = .ok (.aload_n 0, 1) ∧ 82 + 1 = 83 := ⟨by decide +kernel, rfl⟩
theorem dc_M_puts_83 : decode prog_10_method_16_code 83 = .ok (.getfield 7, 3) ∧ 83 + 3 = 86 := ⟨by decide +kernel, rfl⟩
theorem dc_M_puts_86 : decode prog_10_method_16_code 86 = .ok (.iload_n 1, 1) ∧ 86 + 1 = 87 := ⟨by decide +kernel, rfl⟩
theorem dc_M_puts_87 : decode prog_10_method_16_code 87 = .ok (.iconst 1, 1) ∧ 87 + 1 = 88 := ⟨by decide +kernel, rfl⟩
theorem dc_M_puts_88 : decode prog_10_method_16_code 88 = .ok (.iadd, 1) ∧ 88 + 1 = 89 := ⟨by decide +kernel, rfl⟩
theorem dc_M_puts_89 : decode prog_10_method_16_code 89 = .ok (.iconst 2, 1) ∧ 89 + 1 = 90 := ⟨by decide +kernel, rfl⟩
theorem dc_M_puts_90 : decode prog_10_method_16_code 90 = .ok (.iload 4, 2) ∧ 90 + 2 = 92 := ⟨by decide +kernel, rfl⟩
theorem dc_M_puts_92 : decode prog_10_method_16_code 92 = .ok (.imul, 1) ∧ 92 + 1 = 93 := ⟨by decide +kernel, rfl⟩
theorem dc_M_puts_93 : decode prog_10_method_16_code 93 = .ok (.iadd, 1) ∧ 93 + 1 = 94 := ⟨by decide +kernel, rfl⟩
theorem dc_M_puts_94 : decode prog_10_method_16_code 94 = .ok (.iload_n 2, 1) ∧ 94 + 1 = 95 := ⟨by decide +kernel, rfl⟩
theorem dc_M_puts_95 : decode prog_10_method_16_code 95 = .ok (.iastore, 1) ∧ 95 + 1 = 96 := ⟨by decide +kernel, rfl⟩
theorem dc_M_puts_96 : decode prog_10_method_16_code 96 = .ok (.aload_n 0, 1) ∧ 96 + 1 = 97 := ⟨by decide +kernel, rfl⟩
theorem dc_M_puts_97 : decode prog_10_method_16_code 97 = .ok (.getfield 7, 3) ∧ 97 + 3 = 100 := ⟨by decide +kernel, rfl⟩
theorem dc_M_puts_100 : decode prog_10_method_16_code 100 = .ok (.iload_n 1, 1) ∧ 100 + 1 = 101 := ⟨by decide +kernel, rfl⟩
theorem dc_M_puts_101 : decode prog_10_method_16_code 101 = .ok (.iconst 2, 1) ∧ 101 + 1 = 102 := ⟨by decide +kernel, rfl⟩
theorem dc_M_puts_102 : decode prog_10_method_16_code 102 = .ok (.iadd, 1) ∧ 102 + 1 = 103 := ⟨by decide +kernel, rfl⟩
theorem dc_M_puts_103 : decode prog_10_method_16_code 103 = .ok (.iconst 2, 1) ∧ 103 + 1 = 104 := ⟨by decide +kernel, rfl⟩
theorem dc_M_puts_104 : decode prog_10_method_16_code 104 = .ok (.iload 4, 2) ∧ 104 + 2 = 106 := ⟨by decide +kernel, rfl⟩
theorem dc_M_puts_106 : decode prog_10_method_16_code 106 = .ok (.imul, 1) ∧ 106 + 1 = 107 := ⟨by decide +kernel, rfl⟩
theorem dc_M_puts_107 : decode prog_10_method_16_code 107 = .ok (.iadd, 1) ∧ 107 + 1 = 108 := ⟨by decide +kernel, rfl⟩
theorem dc_M_puts_108 : decode prog_10_method_16_code 108 = .ok (.iload_n 3, 1) ∧ 108 + 1 = 109 := ⟨by decide +kernel, rfl⟩
theorem dc_M_puts_109 : decode prog_10_method_16_code 109 = .ok (.iastore, 1) ∧ 109 + 1 = 110 := ⟨by decide +kernel, rfl⟩
theorem dc_M_puts_110 : decode prog_10_method_16_code 110 = .ok (.return_, 1) := by decide +kernel
theorem dc_M_setComb_0 : decode prog_10_method_22_code 0 = .ok (.iload_n 1, 1) ∧ 0 + 1 = 1 := ⟨by decide +kernel, rfl⟩
theorem dc_M_setComb_1 : decode prog_10_method_22_code 1 = .ok (.invokestatic 65, 3) ∧ 1 + 3 = 4 := ⟨by decide +kernel, rfl⟩
theorem dc_M_setComb_4 : decode prog_10_method_22_code 4 = .ok (.ifCond .eq 27, 3) ∧ ((4 : Nat) : Int) + (27) = ((31 : Nat) : Int) ∧ 4 + 3 = 7 := ⟨by decide +kernel, by decide, rfl⟩
theorem dc_M_setComb_7 : decode prog_10_method_22_code 7 = .ok (.iload_n 2, 1) ∧ 7 + 1 = 8 := ⟨by decide +kernel, rfl⟩
theorem dc_M_setComb_8 : decode prog_10_method_22_code 8 = .ok (.bipush (-99), 2) ∧ 8 + 2 = 10 := ⟨by decide +kernel, rfl⟩
theorem dc_M_setComb_10 : decode prog_10_method_22_code 10 = .ok (.bipush 100, 2) ∧ 10 + 2 = 12 := ⟨by decide +kernel, rfl⟩
theorem dc_M_setComb_12 : decode prog_10_method_22_code 12 = .ok (.invokestatic 31, 3) ∧ 12 + 3 = 15 := ⟨by decide +kernel, rfl⟩
theorem dc_M_setComb_15 : decode prog_10_method_22_code 15 = .ok (.ifCond .eq 16, 3) ∧ ((15 : Nat) : Int) + (16) = ((31 : Nat) : Int) ∧ 15 + 3 = 18 := ⟨by decide +kernel, by decide, rfl⟩
theorem dc_M_setComb_18 : decode prog_10_method_22_code 18 = .ok (.aload_n 0, 1) ∧ 18 + 1 = 19 := ⟨by decide +kernel, rfl⟩
theorem dc_M_setComb_19 : decode prog_10_method_22_code 19 = .ok (.bipush 42, 2) ∧ 19 + 2 = 21 := ⟨by decide +kernel, rfl⟩
theorem dc_M_setComb_21 : decode prog_10_method_22_code 21 = .ok (.iload_n 1, 1) ∧ 21 + 1 = 22 := ⟨by decide +kernel, rfl⟩
theorem dc_M_setComb_22 : decode prog_10_method_22_code 22 = .ok (.iload_n 2, 1) ∧ 22 + 1 = 23 := ⟨by decide +kernel, rfl⟩
theorem dc_M_setComb_23 : decode prog_10_method_22_code 23 = .ok (.bipush 100, 2) ∧ 23 + 2 = 25 := ⟨by decide +kernel, rfl⟩
theorem dc_M_setComb_25 : decode prog_10_method_22_code 25 = .ok (.invokevirtual 69, 3) ∧ 25 + 3 = 28 := ⟨by decide +kernel, rfl⟩
theorem dc_M_setComb_28 : decode prog_10_method_22_code 28 = .ok (.goto 5, 3) ∧ ((28 : Nat) : Int) + (5) = ((33 : Nat) : Int) := ⟨by decide +kernel, by decide⟩
theorem dc_M_setComb_31 : decode prog_10_method_22_code 31 = .ok (.ldc 64, 2) ∧ 31 + 2 = 33 := ⟨by decide +kernel, rfl⟩
theorem dc_M_setComb_33 : decode prog_10_method_22_code 33 = .ok (.ireturn, 1) := by decide +kernel
theorem dc_M_setFlag_0 : decode prog_10_method_24_code 0 = .ok (.iload_n 1, 1) ∧ 0 + 1 = 1 := ⟨by decide +kernel, rfl⟩
theorem dc_M_setFlag_1 : decode prog_10_method_24_code 1 = .ok (.invokestatic 65, 3) ∧ 1 + 3 = 4 := ⟨by decide +kernel, rfl⟩
theorem dc_M_setFlag_4 : decode prog_10_method_24_code 4 = .ok (.ifCond .eq 15, 3) ∧ ((4 : Nat) : Int) + (15) = ((19 : Nat) : Int) ∧ 4 + 3 = 7 := ⟨by decide +kernel, by decide, rfl⟩
theorem dc_M_setFlag_7 : decode prog_10_method_24_code 7 = .ok (.iload_n 2, 1) ∧ 7 + 1 = 8 := ⟨by decide +kernel, rfl⟩
theorem dc_M_setFlag_8 : decode prog_10_method_24_code 8 = .ok (.invokestatic 65, 3) ∧ 8 + 3 = 11 := ⟨by decide +kernel, rfl⟩
theorem dc_M_setFlag_11 : decode prog_10_method_24_code 11 = .ok (.ifCond .eq 8, 3) ∧ ((11 : Nat) : Int) + (8) = ((19 : Nat) : Int) ∧ 11 + 3 = 14 := ⟨by decide +kernel, by decide, rfl⟩
theorem dc_M_setFlag_14 : decode prog_10_method_24_code 14 = .ok (.iload_n 2, 1) ∧ 14 + 1 = 15 := ⟨by decide +kernel, rfl⟩
theorem dc_M_setFlag_15 : decode prog_10_method_24_code 15 = .ok (.iload_n 1, 1) ∧ 15 + 1 = 16 := ⟨by decide +kernel, rfl⟩
theorem dc_M_setFlag_16 : decode prog_10_method_24_code 16 = .ok (.if_icmp .gt 6, 3) ∧ ((16 : Nat) : Int) + (6) = ((22 : Nat) : Int) ∧ 16 + 3 = 19 := ⟨by decide +kernel, by decide, rfl⟩
theorem dc_M_setFlag_19 : decode prog_10_method_24_code 19 = .ok (.ldc 64, 2) ∧ 19 + 2 = 21 := ⟨by decide +kernel, rfl⟩
theorem dc_M_setFlag_21 : decode prog_10_method_24_code 21 = .ok (.ireturn, 1) := by decide +kernel
theorem dc_M_setFlag_22 : decode prog_10_method_24_code 22 = .ok (.aload_n 0, 1) ∧ 22 + 1 = 23 := ⟨by decide +kernel, rfl⟩
theorem dc_M_setFlag_23 : decode prog_10_method_24_code 23 = .ok (.invokevirtual 47, 3) ∧ 23 + 3 = 26 := ⟨by decide +kernel, rfl⟩
theorem dc_M_setFlag_26 : decode prog_10_method_24_code 26 = .ok (.aload_n 0, 1) ∧ 26 + 1 = 27 := ⟨by decide +kernel, rfl⟩
theorem dc_M_setFlag_27 : decode prog_10_method_24_code 27 = .ok (.getfield 7, 3) ∧ 27 + 3 = 30 := ⟨by decide +kernel, rfl⟩
theorem dc_M_setFlag_30 : decode prog_10_method_24_code 30 = .ok (.bipush 18, 2) ∧ 30 + 2 = 32 := ⟨by decide +kernel, rfl⟩
theorem dc_M_setFlag_32 : decode prog_10_method_24_code 32 = .ok (.iaload, 1) ∧ 32 + 1 = 33 := ⟨by decide +kernel, rfl⟩
theorem dc_M_setFlag_33 : decode prog_10_method_24_code 33 = .ok (.istore_n 3, 1) ∧ 33 + 1 = 34 := ⟨by decide +kernel, rfl⟩
theorem dc_M_setFlag_34 : decode prog_10_method_24_code 34 = .ok (.aload_n 0, 1) ∧ 34 + 1 = 35 := ⟨by decide +kernel, rfl⟩
theorem dc_M_setFlag_35 : decode prog_10_method_24_code 35 = .ok (.iload_n 1, 1) ∧ 35 + 1 = 36 := ⟨by decide +kernel, rfl⟩
theorem dc_M_setFlag_36 : decode prog_10_method_24_code 36 = .ok (.iload_n 2, 1) ∧ 36 + 1 = 37 := ⟨by decide +kernel, rfl⟩
theorem dc_M_setFlag_37 : decode prog_10_method_24_code 37 = .ok (.invokevirtual 73, 3) ∧ 37 + 3 = 40 := ⟨by decide +kernel, rfl⟩
theorem dc_M_setFlag_40 : decode prog_10_method_24_code 40 = .ok (.iload_n 3, 1) ∧ 40 + 1 = 41 := ⟨by decide +kernel, rfl⟩
theorem dc_M_setFlag_41 : decode prog_10_method_24_code 41 = .ok (.ireturn, 1) := by decide +kernel
theorem dc_M_flags_0 : decode prog_10_method_23_code 0 = .ok (.aload_n 0, 1) ∧ 0 + 1 = 1 := ⟨by decide +kernel, rfl⟩
theorem dc_M_flags_1 : decode prog_10_method_23_code 1 = .ok (.getfield 7, 3) ∧ 1 + 3 = 4 := ⟨by decide +kernel, rfl⟩
theorem dc_M_flags_4 : decode prog_10_method_23_code 4 = .ok (.bipush 18, 2) ∧ 4 + 2 = 6 := ⟨by decide +kernel, rfl⟩
theorem dc_M_flags_6 : decode prog_10_method_23_code 6 = .ok (.iconst 1, 1) ∧ 6 + 1 = 7 := ⟨by decide +kernel, rfl⟩
theorem dc_M_flags_7 : decode prog_10_method_23_code 7 = .ok (.iastore, 1) ∧ 7 + 1 = 8 := ⟨by decide +kernel, rfl⟩
theorem dc_M_flags_8 : decode prog_10_method_23_code 8 = .ok (.aload_n 0, 1) ∧ 8 + 1 = 9 := ⟨by decide +kernel, rfl⟩
theorem dc_M_flags_9 : decode prog_10_method_23_code 9 = .ok (.getfield 7, 3) ∧ 9 + 3 = 12 := ⟨by decide +kernel, rfl⟩
theorem dc_M_flags_12 : decode prog_10_method_23_code 12 = .ok (.bipush 19, 2) ∧ 12 + 2 = 14 := ⟨by decide +kernel, rfl⟩
theorem dc_M_flags_14 : decode prog_10_method_23_code 14 = .ok (.iload_n 1, 1) ∧ 14 + 1 = 15 := ⟨by decide +kernel, rfl⟩
theorem dc_M_flags_15 : decode prog_10_method_23_code 15 = .ok (.iastore, 1) ∧ 15 + 1 = 16 := ⟨by decide +kernel, rfl⟩
theorem dc_M_flags_16 : decode prog_10_method_23_code 16 = .ok (.aload_n 0, 1) ∧ 16 + 1 = 17 := ⟨by decide +kernel, rfl⟩
theorem dc_M_flags_17 : decode prog_10_method_23_code 17 = .ok (.getfield 7, 3) ∧ 17 + 3 = 20 := ⟨by decide +kernel, rfl⟩
theorem dc_M_flags_20 : decode prog_10_method_23_code 20 = .ok (.bipush 20, 2) ∧ 20 + 2 = 22 := ⟨by decide +kernel, rfl⟩
theorem dc_M_flags_22 : decode prog_10_method_23_code 22 = .ok (.iload_n 2, 1) ∧ 22 + 1 = 23 := ⟨by decide +kernel, rfl⟩
theorem dc_M_flags_23 : decode prog_10_method_23_code 23 = .ok (.iastore, 1) ∧ 23 + 1 = 24 := ⟨by decide +kernel, rfl⟩
theorem dc_M_flags_24 : decode prog_10_method_23_code 24 = .ok (.return_, 1) := by decide +kernel
theorem dc_M_appendCharacter_0 : decode prog_10_method_25_code 0 = .ok (.iload_n 1, 1) ∧ 0 + 1 = 1 := ⟨by decide +kernel, rfl⟩
theorem dc_M_appendCharacter_1 : decode prog_10_method_25_code 1 = .ok (.iconst 0, 1) ∧ 1 + 1 = 2 := ⟨by decide +kernel, rfl⟩
theorem dc_M_appendCharacter_2 : decode prog_10_method_25_code 2 = .ok (.sipush 255, 3) ∧ 2 + 3 = 5 := ⟨by decide +kernel, rfl⟩
theorem dc_M_appendCharacter_5 : decode prog_10_method_25_code 5 = .ok (.invokestatic 31, 3) ∧ 5 + 3 = 8 := ⟨by decide +kernel, rfl⟩
theorem dc_M_appendCharacter_8 : decode prog_10_method_25_code 8 = .ok (.ifCond .ne 6, 3) ∧ ((8 : Nat) : Int) + (6) = ((14 : Nat) : Int) ∧ 8 + 3 = 11 := ⟨by decide +kernel, by decide, rfl⟩
theorem dc_M_appendCharacter_11 : decode prog_10_method_25_code 11 = .ok (.ldc 64, 2) ∧ 11 + 2 = 13 := ⟨by decide +kernel, rfl⟩
theorem dc_M_appendCharacter_13 : decode prog_10_method_25_code 13 = .ok (.ireturn, 1) := by decide +kernel
theorem dc_M_appendCharacter_14 : decode prog_10_method_25_code 14 = .ok (.aload_n 0, 1) ∧ 14 + 1 = 15 := ⟨by decide +kernel, rfl⟩
theorem dc_M_appendCharacter_15 : decode prog_10_method_25_code 15 = .ok (.getfield 76, 3) ∧ 15 + 3 = 18 := ⟨by decide +kernel, rfl⟩
theorem dc_M_appendCharacter_18 : decode prog_10_method_25_code 18 = .ok (.bipush 100, 2) ∧ 18 + 2 = 20 := ⟨by decide +kernel, rfl⟩
theorem dc_M_appendCharacter_20 : decode prog_10_method_25_code 20 = .ok (.if_icmp .ne 6, 3) ∧ ((20 : Nat) : Int) + (6) = ((26 : Nat) : Int) ∧ 20 + 3 = 23 := ⟨by decide +kernel, by decide, rfl⟩
theorem dc_M_appendCharacter_23 : decode prog_10_method_25_code 23 = .ok (.ldc 46, 2) ∧ 23 + 2 = 25 := ⟨by decide +kernel, rfl⟩
theorem dc_M_appendCharacter_25 : decode prog_10_method_25_code 25 = .ok (.ireturn, 1) := by decide +kernel
theorem dc_M_appendCharacter_26 : decode prog_10_method_25_code 26 = .ok (.aload_n 0, 1) ∧ 26 + 1 = 27 := ⟨by decide +kernel, rfl⟩
theorem dc_M_appendCharacter_27 : decode prog_10_method_25_code 27 = .ok (.getfield 22, 3) ∧ 27 + 3 = 30 := ⟨by decide +kernel, rfl⟩
theorem dc_M_appendCharacter_30 : decode prog_10_method_25_code 30 = .ok (.aload_n 0, 1) ∧ 30 + 1 = 31 := ⟨by decide +kernel, rfl⟩
theorem dc_M_appendCharacter_31 : decode prog_10_method_25_code 31 = .ok (.getfield 76, 3) ∧ 31 + 3 = 34 := ⟨by decide +kernel, rfl⟩
theorem dc_M_appendCharacter_34 : decode prog_10_method_25_code 34 = .ok (.iload_n 1, 1) ∧ 34 + 1 = 35 := ⟨by decide +kernel, rfl⟩
theorem dc_M_appendCharacter_35 : decode prog_10_method_25_code 35 = .ok (.i2b, 1) ∧ 35 + 1 = 36 := ⟨by decide +kernel, rfl⟩
theorem dc_M_appendCharacter_36 : decode prog_10_method_25_code 36 = .ok (.bastore, 1) ∧ 36 + 1 = 37 := ⟨by decide +kernel, rfl⟩
theorem dc_M_appendCharacter_37 : decode prog_10_method_25_code 37 = .ok (.aload_n 0, 1) ∧ 37 + 1 = 38 := ⟨by decide +kernel, rfl⟩
theorem dc_M_appendCharacter_38 : decode prog_10_method_25_code 38 = .ok (.dup, 1) ∧ 38 + 1 = 39 := ⟨by decide +kernel, rfl⟩
theorem dc_M_appendCharacter_39 : decode prog_10_method_25_code 39 = .ok (.getfield 76, 3) ∧ 39 + 3 = 42 := ⟨by decide +kernel, rfl⟩
theorem dc_M_appendCharacter_42 : decode prog_10_method_25_code 42 = .ok (.iconst 1, 1) ∧ 42 + 1 = 43 := ⟨by decide +kernel, rfl⟩
theorem dc_M_appendCharacter_43 : decode prog_10_method_25_code 43 = .ok (.iadd, 1) ∧ 43 + 1 = 44 := ⟨by decide +kernel, rfl⟩
theorem dc_M_appendCharacter_44 : decode prog_10_method_25_code 44 = .ok (.putfield 76, 3) ∧ 44 + 3 = 47 := ⟨by decide +kernel, rfl⟩
theorem dc_M_appendCharacter_47 : decode prog_10_method_25_code 47 = .ok (.aload_n 0, 1) ∧ 47 + 1 = 48 := ⟨by decide +kernel, rfl⟩
theorem dc_M_appendCharacter_48 : decode prog_10_method_25_code 48 = .ok (.getfield 76, 3) ∧ 48 + 3 = 51 := ⟨by decide +kernel, rfl⟩
theorem dc_M_appendCharacter_51 : decode prog_10_method_25_code 51 = .ok (.ireturn, 1) := by decide +kernel
theorem dc_M_clearText_0 : decode prog_10_method_26_code 0 = .ok (.aload_n 0, 1) ∧ 0 + 1 = 1 := ⟨by decide +kernel, rfl⟩
theorem dc_M_clearText_1 : decode prog_10_method_26_code 1 = .ok (.getfield 76, 3) ∧ 1 + 3 = 4 := ⟨by decide +kernel, rfl⟩
theorem dc_M_clearText_4 : decode prog_10_method_26_code 4 = .ok (.istore_n 1, 1) ∧ 4 + 1 = 5 := ⟨by decide +kernel, rfl⟩
theorem dc_M_clearText_5 : decode prog_10_method_26_code 5 = .ok (.aload_n 0, 1) ∧ 5 + 1 = 6 := ⟨by decide +kernel, rfl⟩
theorem dc_M_clearText_6 : decode prog_10_method_26_code 6 = .ok (.iconst 0, 1) ∧ 6 + 1 = 7 := ⟨by decide +kernel, rfl⟩
theorem dc_M_clearText_7 : decode prog_10_method_26_code 7 = .ok (.putfield 76, 3) ∧ 7 + 3 = 10 := ⟨by decide +kernel, rfl⟩
theorem dc_M_clearText_10 : decode prog_10_method_26_code 10 = .ok (.iload_n 1, 1) ∧ 10 + 1 = 11 := ⟨by decide +kernel, rfl⟩
theorem dc_M_clearText_11 : decode prog_10_method_26_code 11 = .ok (.ireturn, 1) := by decide +kernel
theorem dc_M_load_0 : decode prog_10_method_32_code 0 = .ok (.aload_n 0, 1) ∧ 0 + 1 = 1 := ⟨by decide +kernel, rfl⟩
theorem dc_M_load_1 : decode prog_10_method_32_code 1 = .ok (.invokevirtual 99, 3) ∧ 1 + 3 = 4 := ⟨by decide +kernel, rfl⟩
theorem dc_M_load_4 : decode prog_10_method_32_code 4 = .ok (.aload_n 0, 1) ∧ 4 + 1 = 5 := ⟨by decide +kernel, rfl⟩
theorem dc_M_load_5 : decode prog_10_method_32_code 5 = .ok (.iconst 0, 1) ∧ 5 + 1 = 6 := ⟨by decide +kernel, rfl⟩
theorem dc_M_load_6 : decode prog_10_method_32_code 6 = .ok (.putfield 79, 3) ∧ 6 + 3 = 9 := ⟨by decide +kernel, rfl⟩
theorem dc_M_load_9 : decode prog_10_method_32_code 9 = .ok (.iconst 0, 1) ∧ 9 + 1 = 10 := ⟨by decide +kernel, rfl⟩
theorem dc_M_load_10 : decode prog_10_method_32_code 10 = .ok (.istore_n 1, 1) ∧ 10 + 1 = 11 := ⟨by decide +kernel, rfl⟩
theorem dc_M_load_11 : decode prog_10_method_32_code 11 = .ok (.iconst 1, 1) ∧ 11 + 1 = 12 := ⟨by decide +kernel, rfl⟩
theorem dc_M_load_12 : decode prog_10_method_32_code 12 = .ok (.istore_n 2, 1) ∧ 12 + 1 = 13 := ⟨by decide +kernel, rfl⟩
theorem dc_M_load_13 : decode prog_10_method_32_code 13 = .ok (.iload_n 2, 1) ∧ 13 + 1 = 14 := ⟨by decide +kernel, rfl⟩
theorem dc_M_load_14 : decode prog_10_method_32_code 14 = .ok (.ifCond .eq 21, 3) ∧ ((14 : Nat) : Int) + (21) = ((35 : Nat) : Int) ∧ 14 + 3 = 17 := ⟨by decide +kernel, by decide, rfl⟩
theorem dc_M_load_17 : decode prog_10_method_32_code 17 = .ok (.aload_n 0, 1) ∧ 17 + 1 = 18 := ⟨by decide +kernel, rfl⟩
theorem dc_M_load_18 : decode prog_10_method_32_code 18 = .ok (.invokevirtual 82, 3) ∧ 18 + 3 = 21 := ⟨by decide +kernel, rfl⟩
theorem dc_M_load_21 : decode prog_10_method_32_code 21 = .ok (.ifCond .lt 14, 3) ∧ ((21 : Nat) : Int) + (14) = ((35 : Nat) : Int) ∧ 21 + 3 = 24 := ⟨by decide +kernel, by decide, rfl⟩
theorem dc_M_load_24 : decode prog_10_method_32_code 24 = .ok (.aload_n 0, 1) ∧ 24 + 1 = 25 := ⟨by decide +kernel, rfl⟩
theorem dc_M_load_25 : decode prog_10_method_32_code 25 = .ok (.invokevirtual 102, 3) ∧ 25 + 3 = 28 := ⟨by decide +kernel, rfl⟩
theorem dc_M_load_28 : decode prog_10_method_32_code 28 = .ok (.istore_n 2, 1) ∧ 28 + 1 = 29 := ⟨by decide +kernel, rfl⟩
theorem dc_M_load_29 : decode prog_10_method_32_code 29 = .ok (.iinc 1 1, 3) ∧ 29 + 3 = 32 := ⟨by decide +kernel, rfl⟩
theorem dc_M_load_32 : decode prog_10_method_32_code 32 = .ok (.goto (-19), 3) ∧ ((32 : Nat) : Int) + (-19) = ((13 : Nat) : Int) := ⟨by decide +kernel, by decide⟩
theorem dc_M_load_35 : decode prog_10_method_32_code 35 = .ok (.aload_n 0, 1) ∧ 35 + 1 = 36 := ⟨by decide +kernel, rfl⟩
theorem dc_M_load_36 : decode prog_10_method_32_code 36 = .ok (.invokevirtual 106, 3) ∧ 36 + 3 = 39 := ⟨by decide +kernel, rfl⟩
theorem dc_M_load_39 : decode prog_10_method_32_code 39 = .ok (.iload_n 2, 1) ∧ 39 + 1 = 40 := ⟨by decide +kernel, rfl⟩
theorem dc_M_load_40 : decode prog_10_method_32_code 40 = .ok (.ifCond .ne 11, 3) ∧ ((40 : Nat) : Int) + (11) = ((51 : Nat) : Int) ∧ 40 + 3 = 43 := ⟨by decide +kernel, by decide, rfl⟩
theorem dc_M_load_43 : decode prog_10_method_32_code 43 = .ok (.ldc 109, 2) ∧ 43 + 2 = 45 := ⟨by decide +kernel, rfl⟩
theorem dc_M_load_45 : decode prog_10_method_32_code 45 = .ok (.aload_n 0, 1) ∧ 45 + 1 = 46 := ⟨by decide +kernel, rfl⟩
theorem dc_M_load_46 : decode prog_10_method_32_code 46 = .ok (.getfield 79, 3) ∧ 46 + 3 = 49 := ⟨by decide +kernel, rfl⟩
theorem dc_M_load_49 : decode prog_10_method_32_code 49 = .ok (.isub, 1) ∧ 49 + 1 = 50 := ⟨by decide +kernel, rfl⟩
theorem dc_M_load_50 : decode prog_10_method_32_code 50 = .ok (.ireturn, 1) := by decide +kernel
theorem dc_M_load_51 : decode prog_10_method_32_code 51 = .ok (.aload_n 0, 1) ∧ 51 + 1 = 52 := ⟨by decide +kernel, rfl⟩
theorem dc_M_load_52 : decode prog_10_method_32_code 52 = .ok (.invokevirtual 47, 3) ∧ 52 + 3 = 55 := ⟨by decide +kernel, rfl⟩
theorem dc_M_load_55 : decode prog_10_method_32_code 55 = .ok (.aload_n 0, 1) ∧ 55 + 1 = 56 := ⟨by decide +kernel, rfl⟩
theorem dc_M_load_56 : decode prog_10_method_32_code 56 = .ok (.invokevirtual 106, 3) ∧ 56 + 3 = 59 := ⟨by decide +kernel, rfl⟩
theorem dc_M_load_59 : decode prog_10_method_32_code 59 = .ok (.aload_n 0, 1) ∧ 59 + 1 = 60 := ⟨by decide +kernel, rfl⟩
theorem dc_M_load_60 : decode prog_10_method_32_code 60 = .ok (.iconst 0, 1) ∧ 60 + 1 = 61 := ⟨by decide +kernel, rfl⟩
theorem dc_M_load_61 : decode prog_10_method_32_code 61 = .ok (.putfield 76, 3) ∧ 61 + 3 = 64 := ⟨by decide +kernel, rfl⟩
theorem dc_M_load_64 : decode prog_10_method_32_code 64 = .ok (.iload_n 1, 1) ∧ 64 + 1 = 65 := ⟨by decide +kernel, rfl⟩
theorem dc_M_load_65 : decode prog_10_method_32_code 65 = .ok (.ireturn, 1) := by decide +kernel
theorem dc_M_putAside_0 : decode prog_10_method_8_code 0 = .ok (.iconst 0, 1) ∧ 0 + 1 = 1 := ⟨by decide +kernel, rfl⟩
theorem dc_M_putAside_1 : decode prog_10_method_8_code 1 = .ok (.istore_n 1, 1) ∧ 1 + 1 = 2 := ⟨by decide +kernel, rfl⟩
theorem dc_M_putAside_2 : decode prog_10_method_8_code 2 = .ok (.iload_n 1, 1) ∧ 2 + 1 = 3 := ⟨by decide +kernel, rfl⟩
theorem dc_M_putAside_3 : decode prog_10_method_8_code 3 = .ok (.bipush 80, 2) ∧ 3 + 2 = 5 := ⟨by decide +kernel, rfl⟩
theorem dc_M_putAside_5 : decode prog_10_method_8_code 5 = .ok (.if_icmp .ge 21, 3) ∧ ((5 : Nat) : Int) + (21) = ((26 : Nat) : Int) ∧ 5 + 3 = 8 := ⟨by decide +kernel, by decide, rfl⟩
theorem dc_M_putAside_8 : decode prog_10_method_8_code 8 = .ok (.aload_n 0, 1) ∧ 8 + 1 = 9 := ⟨by decide +kernel, rfl⟩
theorem dc_M_putAside_9 : decode prog_10_method_8_code 9 = .ok (.getfield 19, 3) ∧ 9 + 3 = 12 := ⟨by decide +kernel, rfl⟩
theorem dc_M_putAside_12 : decode prog_10_method_8_code 12 = .ok (.iload_n 1, 1) ∧ 12 + 1 = 13 := ⟨by decide +kernel, rfl⟩
theorem dc_M_putAside_13 : decode prog_10_method_8_code 13 = .ok (.aload_n 0, 1) ∧ 13 + 1 = 14 := ⟨by decide +kernel, rfl⟩
theorem dc_M_putAside_14 : decode prog_10_method_8_code 14 = .ok (.getfield 7, 3) ∧ 14 + 3 = 17 := ⟨by decide +kernel, rfl⟩
theorem dc_M_putAside_17 : decode prog_10_method_8_code 17 = .ok (.iload_n 1, 1) ∧ 17 + 1 = 18 := ⟨by decide +kernel, rfl⟩
theorem dc_M_putAside_18 : decode prog_10_method_8_code 18 = .ok (.iaload, 1) ∧ 18 + 1 = 19 := ⟨by decide +kernel, rfl⟩
theorem dc_M_putAside_19 : decode prog_10_method_8_code 19 = .ok (.iastore, 1) ∧ 19 + 1 = 20 := ⟨by decide +kernel, rfl⟩
theorem dc_M_putAside_20 : decode prog_10_method_8_code 20 = .ok (.iinc 1 1, 3) ∧ 20 + 3 = 23 := ⟨by decide +kernel, rfl⟩
theorem dc_M_putAside_23 : decode prog_10_method_8_code 23 = .ok (.goto (-21), 3) ∧ ((23 : Nat) : Int) + (-21) = ((2 : Nat) : Int) := ⟨by decide +kernel, by decide⟩
theorem dc_M_putAside_26 : decode prog_10_method_8_code 26 = .ok (.return_, 1) := by decide +kernel
theorem dc_M_here_0 : decode prog_10_method_27_code 0 = .ok (.aload_n 0, 1) ∧ 0 + 1 = 1 := ⟨by decide +kernel, rfl⟩
theorem dc_M_here_1 : decode prog_10_method_27_code 1 = .ok (.getfield 79, 3) ∧ 1 + 3 = 4 := ⟨by decide +kernel, rfl⟩
theorem dc_M_here_4 : decode prog_10_method_27_code 4 = .ok (.aload_n 0, 1) ∧ 4 + 1 = 5 := ⟨by decide +kernel, rfl⟩
theorem dc_M_here_5 : decode prog_10_method_27_code 5 = .ok (.getfield 76, 3) ∧ 5 + 3 = 8 := ⟨by decide +kernel, rfl⟩
theorem dc_M_here_8 : decode prog_10_method_27_code 8 = .ok (.if_icmp .ge 30, 3) ∧ ((8 : Nat) : Int) + (30) = ((38 : Nat) : Int) ∧ 8 + 3 = 11 := ⟨by decide +kernel, by decide, rfl⟩
theorem dc_M_here_11 : decode prog_10_method_27_code 11 = .ok (.aload_n 0, 1) ∧ 11 + 1 = 12 := ⟨by decide +kernel, rfl⟩
theorem dc_M_here_12 : decode prog_10_method_27_code 12 = .ok (.getfield 22, 3) ∧ 12 + 3 = 15 := ⟨by decide +kernel, rfl⟩
theorem dc_M_here_15 : decode prog_10_method_27_code 15 = .ok (.aload_n 0, 1) ∧ 15 + 1 = 16 := ⟨by decide +kernel, rfl⟩
theorem dc_M_here_16 : decode prog_10_method_27_code 16 = .ok (.getfield 79, 3) ∧ 16 + 3 = 19 := ⟨by decide +kernel, rfl⟩
theorem dc_M_here_19 : decode prog_10_method_27_code 19 = .ok (.baload, 1) ∧ 19 + 1 = 20 := ⟨by decide +kernel, rfl⟩
theorem dc_M_here_20 : decode prog_10_method_27_code 20 = .ok (.bipush 32, 2) ∧ 20 + 2 = 22 := ⟨by decide +kernel, rfl⟩
theorem dc_M_here_22 : decode prog_10_method_27_code 22 = .ok (.if_icmp .ne 16, 3) ∧ ((22 : Nat) : Int) + (16) = ((38 : Nat) : Int) ∧ 22 + 3 = 25 := ⟨by decide +kernel, by decide, rfl⟩
theorem dc_M_here_25 : decode prog_10_method_27_code 25 = .ok (.aload_n 0, 1) ∧ 25 + 1 = 26 := ⟨by decide +kernel, rfl⟩
theorem dc_M_here_26 : decode prog_10_method_27_code 26 = .ok (.dup, 1) ∧ 26 + 1 = 27 := ⟨by decide +kernel, rfl⟩
theorem dc_M_here_27 : decode prog_10_method_27_code 27 = .ok (.getfield 79, 3) ∧ 27 + 3 = 30 := ⟨by decide +kernel, rfl⟩
theorem dc_M_here_30 : decode prog_10_method_27_code 30 = .ok (.iconst 1, 1) ∧ 30 + 1 = 31 := ⟨by decide +kernel, rfl⟩
theorem dc_M_here_31 : decode prog_10_method_27_code 31 = .ok (.iadd, 1) ∧ 31 + 1 = 32 := ⟨by decide +kernel, rfl⟩
theorem dc_M_here_32 : decode prog_10_method_27_code 32 = .ok (.putfield 79, 3) ∧ 32 + 3 = 35 := ⟨by decide +kernel, rfl⟩
theorem dc_M_here_35 : decode prog_10_method_27_code 35 = .ok (.goto (-35), 3) ∧ ((35 : Nat) : Int) + (-35) = ((0 : Nat) : Int) := ⟨by decide +kernel, by decide⟩
theorem dc_M_here_38 : decode prog_10_method_27_code 38 = .ok (.aload_n 0, 1) ∧ 38 + 1 = 39 := ⟨by decide +kernel, rfl⟩
theorem dc_M_here_39 : decode prog_10_method_27_code 39 = .ok (.getfield 79, 3) ∧ 39 + 3 = 42 := ⟨by decide +kernel, rfl⟩
theorem dc_M_here_42 : decode prog_10_method_27_code 42 = .ok (.aload_n 0, 1) ∧ 42 + 1 = 43 := ⟨by decide +kernel, rfl⟩
theorem dc_M_here_43 : decode prog_10_method_27_code 43 = .ok (.getfield 76, 3) ∧ 43 + 3 = 46 := ⟨by decide +kernel, rfl⟩
theorem dc_M_here_46 : decode prog_10_method_27_code 46 = .ok (.if_icmp .ge 19, 3) ∧ ((46 : Nat) : Int) + (19) = ((65 : Nat) : Int) ∧ 46 + 3 = 49 := ⟨by decide +kernel, by decide, rfl⟩
theorem dc_M_here_49 : decode prog_10_method_27_code 49 = .ok (.aload_n 0, 1) ∧ 49 + 1 = 50 := ⟨by decide +kernel, rfl⟩
theorem dc_M_here_50 : decode prog_10_method_27_code 50 = .ok (.getfield 22, 3) ∧ 50 + 3 = 53 := ⟨by decide +kernel, rfl⟩
theorem dc_M_here_53 : decode prog_10_method_27_code 53 = .ok (.aload_n 0, 1) ∧ 53 + 1 = 54 := ⟨by decide +kernel, rfl⟩
theorem dc_M_here_54 : decode prog_10_method_27_code 54 = .ok (.getfield 79, 3) ∧ 54 + 3 = 57 := ⟨by decide +kernel, rfl⟩
theorem dc_M_here_57 : decode prog_10_method_27_code 57 = .ok (.baload, 1) ∧ 57 + 1 = 58 := ⟨by decide +kernel, rfl⟩
theorem dc_M_here_58 : decode prog_10_method_27_code 58 = .ok (.sipush 255, 3) ∧ 58 + 3 = 61 := ⟨by decide +kernel, rfl⟩
theorem dc_M_here_61 : decode prog_10_method_27_code 61 = .ok (.iand, 1) ∧ 61 + 1 = 62 := ⟨by decide +kernel, rfl⟩
theorem dc_M_here_62 : decode prog_10_method_27_code 62 = .ok (.goto 4, 3) ∧ ((62 : Nat) : Int) + (4) = ((66 : Nat) : Int) := ⟨by decide +kernel, by decide⟩
theorem dc_M_here_65 : decode prog_10_method_27_code 65 = .ok (.iconst (-1), 1) ∧ 65 + 1 = 66 := ⟨by decide +kernel, rfl⟩
theorem dc_M_here_66 : decode prog_10_method_27_code 66 = .ok (.ireturn, 1) := by decide +kernel
theorem dc_M_readsItem_0 : decode prog_10_method_31_code 0 = .ok (.aload_n 0, 1) ∧ 0 + 1 = 1 := ⟨by decide +kernel, rfl⟩
theorem dc_M_readsItem_1 : decode prog_10_method_31_code 1 = .ok (.invokevirtual 82, 3) ∧ 1 + 3 = 4 := ⟨by decide +kernel, rfl⟩
theorem dc_M_readsItem_4 : decode prog_10_method_31_code 4 = .ok (.istore_n 1, 1) ∧ 4 + 1 = 5 := ⟨by decide +kernel, rfl⟩
theorem dc_M_readsItem_5 : decode prog_10_method_31_code 5 = .ok (.aload_n 0, 1) ∧ 5 + 1 = 6 := ⟨by decide +kernel, rfl⟩
theorem dc_M_readsItem_6 : decode prog_10_method_31_code 6 = .ok (.getfield 79, 3) ∧ 6 + 3 = 9 := ⟨by decide +kernel, rfl⟩
theorem dc_M_readsItem_9 : decode prog_10_method_31_code 9 = .ok (.istore_n 2, 1) ∧ 9 + 1 = 10 := ⟨by decide +kernel, rfl⟩
theorem dc_M_readsItem_10 : decode prog_10_method_31_code 10 = .ok (.iload_n 1, 1) ∧ 10 + 1 = 11 := ⟨by decide +kernel, rfl⟩
theorem dc_M_readsItem_11 : decode prog_10_method_31_code 11 = .ok (.bipush 108, 2) ∧ 11 + 2 = 13 := ⟨by decide +kernel, rfl⟩
theorem dc_M_readsItem_13 : decode prog_10_method_31_code 13 = .ok (.if_icmp .eq 17, 3) ∧ ((13 : Nat) : Int) + (17) = ((30 : Nat) : Int) ∧ 13 + 3 = 16 := ⟨by decide +kernel, by decide, rfl⟩
theorem dc_M_readsItem_16 : decode prog_10_method_31_code 16 = .ok (.iload_n 1, 1) ∧ 16 + 1 = 17 := ⟨by decide +kernel, rfl⟩
theorem dc_M_readsItem_17 : decode prog_10_method_31_code 17 = .ok (.bipush 99, 2) ∧ 17 + 2 = 19 := ⟨by decide +kernel, rfl⟩
theorem dc_M_readsItem_19 : decode prog_10_method_31_code 19 = .ok (.if_icmp .eq 11, 3) ∧ ((19 : Nat) : Int) + (11) = ((30 : Nat) : Int) ∧ 19 + 3 = 22 := ⟨by decide +kernel, by decide, rfl⟩
theorem dc_M_readsItem_22 : decode prog_10_method_31_code 22 = .ok (.iload_n 1, 1) ∧ 22 + 1 = 23 := ⟨by decide +kernel, rfl⟩
theorem dc_M_readsItem_23 : decode prog_10_method_31_code 23 = .ok (.bipush 102, 2) ∧ 23 + 2 = 25 := ⟨by decide +kernel, rfl⟩
theorem dc_M_readsItem_25 : decode prog_10_method_31_code 25 = .ok (.if_icmp .eq 5, 3) ∧ ((25 : Nat) : Int) + (5) = ((30 : Nat) : Int) ∧ 25 + 3 = 28 := ⟨by decide +kernel, by decide, rfl⟩
theorem dc_M_readsItem_28 : decode prog_10_method_31_code 28 = .ok (.iconst 0, 1) ∧ 28 + 1 = 29 := ⟨by decide +kernel, rfl⟩
theorem dc_M_readsItem_29 : decode prog_10_method_31_code 29 = .ok (.ireturn, 1) := by decide +kernel
theorem dc_M_readsItem_30 : decode prog_10_method_31_code 30 = .ok (.aload_n 0, 1) ∧ 30 + 1 = 31 := ⟨by decide +kernel, rfl⟩
theorem dc_M_readsItem_31 : decode prog_10_method_31_code 31 = .ok (.dup, 1) ∧ 31 + 1 = 32 := ⟨by decide +kernel, rfl⟩
theorem dc_M_readsItem_32 : decode prog_10_method_31_code 32 = .ok (.getfield 79, 3) ∧ 32 + 3 = 35 := ⟨by decide +kernel, rfl⟩
theorem dc_M_readsItem_35 : decode prog_10_method_31_code 35 = .ok (.iconst 1, 1) ∧ 35 + 1 = 36 := ⟨by decide +kernel, rfl⟩
theorem dc_M_readsItem_36 : decode prog_10_method_31_code 36 = .ok (.iadd, 1) ∧ 36 + 1 = 37 := ⟨by decide +kernel, rfl⟩
theorem dc_M_readsItem_37 : decode prog_10_method_31_code 37 = .ok (.putfield 79, 3) ∧ 37 + 3 = 40 := ⟨by decide +kernel, rfl⟩
theorem dc_M_readsItem_40 : decode prog_10_method_31_code 40 = .ok (.iload_n 1, 1) ∧ 40 + 1 = 41 := ⟨by decide +kernel, rfl⟩
theorem dc_M_readsItem_41 : decode prog_10_method_31_code 41 = .ok (.bipush 102, 2) ∧ 41 + 2 = 43 := ⟨by decide +kernel, rfl⟩
theorem dc_M_readsItem_43 : decode prog_10_method_31_code 43 = .ok (.if_icmp .eq 22, 3) ∧ ((43 : Nat) : Int) + (22) = ((65 : Nat) : Int) ∧ 43 + 3 = 46 := ⟨by decide +kernel, by decide, rfl⟩
theorem dc_M_readsItem_46 : decode prog_10_method_31_code 46 = .ok (.aload_n 0, 1) ∧ 46 + 1 = 47 := ⟨by decide +kernel, rfl⟩
theorem dc_M_readsItem_47 : decode prog_10_method_31_code 47 = .ok (.iload_n 1, 1) ∧ 47 + 1 = 48 := ⟨by decide +kernel, rfl⟩
theorem dc_M_readsItem_48 : decode prog_10_method_31_code 48 = .ok (.bipush 108, 2) ∧ 48 + 2 = 50 := ⟨by decide +kernel, rfl⟩
theorem dc_M_readsItem_50 : decode prog_10_method_31_code 50 = .ok (.if_icmp .ne 8, 3) ∧ ((50 : Nat) : Int) + (8) = ((58 : Nat) : Int) ∧ 50 + 3 = 53 := ⟨by decide +kernel, by decide, rfl⟩
theorem dc_M_readsItem_53 : decode prog_10_method_31_code 53 = .ok (.bipush 21, 2) ∧ 53 + 2 = 55 := ⟨by decide +kernel, rfl⟩
theorem dc_M_readsItem_55 : decode prog_10_method_31_code 55 = .ok (.goto 5, 3) ∧ ((55 : Nat) : Int) + (5) = ((60 : Nat) : Int) := ⟨by decide +kernel, by decide⟩
theorem dc_M_readsItem_58 : decode prog_10_method_31_code 58 = .ok (.bipush 42, 2) ∧ 58 + 2 = 60 := ⟨by decide +kernel, rfl⟩
theorem dc_M_readsItem_60 : decode prog_10_method_31_code 60 = .ok (.iload_n 2, 1) ∧ 60 + 1 = 61 := ⟨by decide +kernel, rfl⟩
theorem dc_M_readsItem_61 : decode prog_10_method_31_code 61 = .ok (.invokevirtual 96, 3) ∧ 61 + 3 = 64 := ⟨by decide +kernel, rfl⟩
theorem dc_M_readsItem_64 : decode prog_10_method_31_code 64 = .ok (.ireturn, 1) := by decide +kernel
theorem dc_M_readsItem_65 : decode prog_10_method_31_code 65 = .ok (.aload_n 0, 1) ∧ 65 + 1 = 66 := ⟨by decide +kernel, rfl⟩
theorem dc_M_readsItem_66 : decode prog_10_method_31_code 66 = .ok (.iconst 1, 1) ∧ 66 + 1 = 67 := ⟨by decide +kernel, rfl⟩
theorem dc_M_readsItem_67 : decode prog_10_method_31_code 67 = .ok (.sipush (-20000), 3) ∧ 67 + 3 = 70 := ⟨by decide +kernel, rfl⟩
theorem dc_M_readsItem_70 : decode prog_10_method_31_code 70 = .ok (.sipush 20000, 3) ∧ 70 + 3 = 73 := ⟨by decide +kernel, rfl⟩
theorem dc_M_readsItem_73 : decode prog_10_method_31_code 73 = .ok (.invokevirtual 92, 3) ∧ 73 + 3 = 76 := ⟨by decide +kernel, rfl⟩
theorem dc_M_readsItem_76 : decode prog_10_method_31_code 76 = .ok (.ifCond .ne 5, 3) ∧ ((76 : Nat) : Int) + (5) = ((81 : Nat) : Int) ∧ 76 + 3 = 79 := ⟨by decide +kernel, by decide, rfl⟩
theorem dc_M_readsItem_79 : decode prog_10_method_31_code 79 = .ok (.iconst 0, 1) ∧ 79 + 1 = 80 := ⟨by decide +kernel, rfl⟩
theorem dc_M_readsItem_80 : decode prog_10_method_31_code 80 = .ok (.ireturn, 1) := by decide +kernel
theorem dc_M_readsItem_81 : decode prog_10_method_31_code 81 = .ok (.aload_n 0, 1) ∧ 81 + 1 = 82 := ⟨by decide +kernel, rfl⟩
theorem dc_M_readsItem_82 : decode prog_10_method_31_code 82 = .ok (.getfield 89, 3) ∧ 82 + 3 = 85 := ⟨by decide +kernel, rfl⟩
theorem dc_M_readsItem_85 : decode prog_10_method_31_code 85 = .ok (.istore_n 3, 1) ∧ 85 + 1 = 86 := ⟨by decide +kernel, rfl⟩
theorem dc_M_readsItem_86 : decode prog_10_method_31_code 86 = .ok (.aload_n 0, 1) ∧ 86 + 1 = 87 := ⟨by decide +kernel, rfl⟩
theorem dc_M_readsItem_87 : decode prog_10_method_31_code 87 = .ok (.bipush 58, 2) ∧ 87 + 2 = 89 := ⟨by decide +kernel, rfl⟩
theorem dc_M_readsItem_89 : decode prog_10_method_31_code 89 = .ok (.invokevirtual 86, 3) ∧ 89 + 3 = 92 := ⟨by decide +kernel, rfl⟩
theorem dc_M_readsItem_92 : decode prog_10_method_31_code 92 = .ok (.ifCond .eq 17, 3) ∧ ((92 : Nat) : Int) + (17) = ((109 : Nat) : Int) ∧ 92 + 3 = 95 := ⟨by decide +kernel, by decide, rfl⟩
theorem dc_M_readsItem_95 : decode prog_10_method_31_code 95 = .ok (.aload_n 0, 1) ∧ 95 + 1 = 96 := ⟨by decide +kernel, rfl⟩
theorem dc_M_readsItem_96 : decode prog_10_method_31_code 96 = .ok (.iconst 1, 1) ∧ 96 + 1 = 97 := ⟨by decide +kernel, rfl⟩
theorem dc_M_readsItem_97 : decode prog_10_method_31_code 97 = .ok (.iload_n 3, 1) ∧ 97 + 1 = 98 := ⟨by decide +kernel, rfl⟩
theorem dc_M_readsItem_98 : decode prog_10_method_31_code 98 = .ok (.iconst 1, 1) ∧ 98 + 1 = 99 := ⟨by decide +kernel, rfl⟩
theorem dc_M_readsItem_99 : decode prog_10_method_31_code 99 = .ok (.iadd, 1) ∧ 99 + 1 = 100 := ⟨by decide +kernel, rfl⟩
theorem dc_M_readsItem_100 : decode prog_10_method_31_code 100 = .ok (.sipush 20000, 3) ∧ 100 + 3 = 103 := ⟨by decide +kernel, rfl⟩
theorem dc_M_readsItem_103 : decode prog_10_method_31_code 103 = .ok (.invokevirtual 92, 3) ∧ 103 + 3 = 106 := ⟨by decide +kernel, rfl⟩
theorem dc_M_readsItem_106 : decode prog_10_method_31_code 106 = .ok (.ifCond .ne 5, 3) ∧ ((106 : Nat) : Int) + (5) = ((111 : Nat) : Int) ∧ 106 + 3 = 109 := ⟨by decide +kernel, by decide, rfl⟩
theorem dc_M_readsItem_109 : decode prog_10_method_31_code 109 = .ok (.iconst 0, 1) ∧ 109 + 1 = 110 := ⟨by decide +kernel, rfl⟩
theorem dc_M_readsItem_110 : decode prog_10_method_31_code 110 = .ok (.ireturn, 1) := by decide +kernel
theorem dc_M_readsItem_111 : decode prog_10_method_31_code 111 = .ok (.aload_n 0, 1) ∧ 111 + 1 = 112 := ⟨by decide +kernel, rfl⟩
theorem dc_M_readsItem_112 : decode prog_10_method_31_code 112 = .ok (.iload_n 3, 1) ∧ 112 + 1 = 113 := ⟨by decide +kernel, rfl⟩
theorem dc_M_readsItem_113 : decode prog_10_method_31_code 113 = .ok (.aload_n 0, 1) ∧ 113 + 1 = 114 := ⟨by decide +kernel, rfl⟩
theorem dc_M_readsItem_114 : decode prog_10_method_31_code 114 = .ok (.getfield 89, 3) ∧ 114 + 3 = 117 := ⟨by decide +kernel, rfl⟩
theorem dc_M_readsItem_117 : decode prog_10_method_31_code 117 = .ok (.invokevirtual 73, 3) ∧ 117 + 3 = 120 := ⟨by decide +kernel, rfl⟩
theorem dc_M_readsItem_120 : decode prog_10_method_31_code 120 = .ok (.aload_n 0, 1) ∧ 120 + 1 = 121 := ⟨by decide +kernel, rfl⟩
theorem dc_M_readsItem_121 : decode prog_10_method_31_code 121 = .ok (.bipush 59, 2) ∧ 121 + 2 = 123 := ⟨by decide +kernel, rfl⟩
theorem dc_M_readsItem_123 : decode prog_10_method_31_code 123 = .ok (.invokevirtual 86, 3) ∧ 123 + 3 = 126 := ⟨by decide +kernel, rfl⟩
theorem dc_M_readsItem_126 : decode prog_10_method_31_code 126 = .ok (.ireturn, 1) := by decide +kernel
theorem dc_M_readsPoint_0 : decode prog_10_method_30_code 0 = .ok (.iload_n 1, 1) ∧ 0 + 1 = 1 := ⟨by decide +kernel, rfl⟩
theorem dc_M_readsPoint_1 : decode prog_10_method_30_code 1 = .ok (.bipush 21, 2) ∧ 1 + 2 = 3 := ⟨by decide +kernel, rfl⟩
theorem dc_M_readsPoint_3 : decode prog_10_method_30_code 3 = .ok (.if_icmp .ne 7, 3) ∧ ((3 : Nat) : Int) + (7) = ((10 : Nat) : Int) ∧ 3 + 3 = 6 := ⟨by decide +kernel, by decide, rfl⟩
theorem dc_M_readsPoint_6 : decode prog_10_method_30_code 6 = .ok (.iconst 1, 1) ∧ 6 + 1 = 7 := ⟨by decide +kernel, rfl⟩
theorem dc_M_readsPoint_7 : decode prog_10_method_30_code 7 = .ok (.goto 4, 3) ∧ ((7 : Nat) : Int) + (4) = ((11 : Nat) : Int) := ⟨by decide +kernel, by decide⟩
theorem dc_M_readsPoint_10 : decode prog_10_method_30_code 10 = .ok (.iconst 0, 1) ∧ 10 + 1 = 11 := ⟨by decide +kernel, rfl⟩
theorem dc_M_readsPoint_11 : decode prog_10_method_30_code 11 = .ok (.istore_n 3, 1) ∧ 11 + 1 = 12 := ⟨by decide +kernel, rfl⟩
theorem dc_M_readsPoint_12 : decode prog_10_method_30_code 12 = .ok (.aload_n 0, 1) ∧ 12 + 1 = 13 := ⟨by decide +kernel, rfl⟩
theorem dc_M_readsPoint_13 : decode prog_10_method_30_code 13 = .ok (.iconst 1, 1) ∧ 13 + 1 = 14 := ⟨by decide +kernel, rfl⟩
theorem dc_M_readsPoint_14 : decode prog_10_method_30_code 14 = .ok (.sipush (-20000), 3) ∧ 14 + 3 = 17 := ⟨by decide +kernel, rfl⟩
theorem dc_M_readsPoint_17 : decode prog_10_method_30_code 17 = .ok (.sipush 20000, 3) ∧ 17 + 3 = 20 := ⟨by decide +kernel, rfl⟩
theorem dc_M_readsPoint_20 : decode prog_10_method_30_code 20 = .ok (.invokevirtual 92, 3) ∧ 20 + 3 = 23 := ⟨by decide +kernel, rfl⟩
theorem dc_M_readsPoint_23 : decode prog_10_method_30_code 23 = .ok (.ifCond .ne 5, 3) ∧ ((23 : Nat) : Int) + (5) = ((28 : Nat) : Int) ∧ 23 + 3 = 26 := ⟨by decide +kernel, by decide, rfl⟩
theorem dc_M_readsPoint_26 : decode prog_10_method_30_code 26 = .ok (.iconst 0, 1) ∧ 26 + 1 = 27 := ⟨by decide +kernel, rfl⟩
theorem dc_M_readsPoint_27 : decode prog_10_method_30_code 27 = .ok (.ireturn, 1) := by decide +kernel
theorem dc_M_readsPoint_28 : decode prog_10_method_30_code 28 = .ok (.aload_n 0, 1) ∧ 28 + 1 = 29 := ⟨by decide +kernel, rfl⟩
theorem dc_M_readsPoint_29 : decode prog_10_method_30_code 29 = .ok (.getfield 89, 3) ∧ 29 + 3 = 32 := ⟨by decide +kernel, rfl⟩
theorem dc_M_readsPoint_32 : decode prog_10_method_30_code 32 = .ok (.istore 4, 2) ∧ 32 + 2 = 34 := ⟨by decide +kernel, rfl⟩
theorem dc_M_readsPoint_34 : decode prog_10_method_30_code 34 = .ok (.aload_n 0, 1) ∧ 34 + 1 = 35 := ⟨by decide +kernel, rfl⟩
theorem dc_M_readsPoint_35 : decode prog_10_method_30_code 35 = .ok (.bipush 58, 2) ∧ 35 + 2 = 37 := ⟨by decide +kernel, rfl⟩
theorem dc_M_readsPoint_37 : decode prog_10_method_30_code 37 = .ok (.invokevirtual 86, 3) ∧ 37 + 3 = 40 := ⟨by decide +kernel, rfl⟩
theorem dc_M_readsPoint_40 : decode prog_10_method_30_code 40 = .ok (.ifCond .eq 41, 3) ∧ ((40 : Nat) : Int) + (41) = ((81 : Nat) : Int) ∧ 40 + 3 = 43 := ⟨by decide +kernel, by decide, rfl⟩
theorem dc_M_readsPoint_43 : decode prog_10_method_30_code 43 = .ok (.aload_n 0, 1) ∧ 43 + 1 = 44 := ⟨by decide +kernel, rfl⟩
theorem dc_M_readsPoint_44 : decode prog_10_method_30_code 44 = .ok (.iload_n 3, 1) ∧ 44 + 1 = 45 := ⟨by decide +kernel, rfl⟩
theorem dc_M_readsPoint_45 : decode prog_10_method_30_code 45 = .ok (.ifCond .ne 7, 3) ∧ ((45 : Nat) : Int) + (7) = ((52 : Nat) : Int) ∧ 45 + 3 = 48 := ⟨by decide +kernel, by decide, rfl⟩
theorem dc_M_readsPoint_48 : decode prog_10_method_30_code 48 = .ok (.iconst 1, 1) ∧ 48 + 1 = 49 := ⟨by decide +kernel, rfl⟩
theorem dc_M_readsPoint_49 : decode prog_10_method_30_code 49 = .ok (.goto 4, 3) ∧ ((49 : Nat) : Int) + (4) = ((53 : Nat) : Int) := ⟨by decide +kernel, by decide⟩
theorem dc_M_readsPoint_52 : decode prog_10_method_30_code 52 = .ok (.iconst 0, 1) ∧ 52 + 1 = 53 := ⟨by decide +kernel, rfl⟩
theorem dc_M_readsPoint_53 : decode prog_10_method_30_code 53 = .ok (.iload_n 3, 1) ∧ 53 + 1 = 54 := ⟨by decide +kernel, rfl⟩
theorem dc_M_readsPoint_54 : decode prog_10_method_30_code 54 = .ok (.ifCond .eq 7, 3) ∧ ((54 : Nat) : Int) + (7) = ((61 : Nat) : Int) ∧ 54 + 3 = 57 := ⟨by decide +kernel, by decide, rfl⟩
theorem dc_M_readsPoint_57 : decode prog_10_method_30_code 57 = .ok (.iconst 0, 1) ∧ 57 + 1 = 58 := ⟨by decide +kernel, rfl⟩
theorem dc_M_readsPoint_58 : decode prog_10_method_30_code 58 = .ok (.goto 5, 3) ∧ ((58 : Nat) : Int) + (5) = ((63 : Nat) : Int) := ⟨by decide +kernel, by decide⟩
theorem dc_M_readsPoint_61 : decode prog_10_method_30_code 61 = .ok (.bipush (-99), 2) ∧ 61 + 2 = 63 := ⟨by decide +kernel, rfl⟩
theorem dc_M_readsPoint_63 : decode prog_10_method_30_code 63 = .ok (.iload_n 3, 1) ∧ 63 + 1 = 64 := ⟨by decide +kernel, rfl⟩
theorem dc_M_readsPoint_64 : decode prog_10_method_30_code 64 = .ok (.ifCond .eq 9, 3) ∧ ((64 : Nat) : Int) + (9) = ((73 : Nat) : Int) ∧ 64 + 3 = 67 := ⟨by decide +kernel, by decide, rfl⟩
theorem dc_M_readsPoint_67 : decode prog_10_method_30_code 67 = .ok (.sipush 200, 3) ∧ 67 + 3 = 70 := ⟨by decide +kernel, rfl⟩
theorem dc_M_readsPoint_70 : decode prog_10_method_30_code 70 = .ok (.goto 5, 3) ∧ ((70 : Nat) : Int) + (5) = ((75 : Nat) : Int) := ⟨by decide +kernel, by decide⟩
theorem dc_M_readsPoint_73 : decode prog_10_method_30_code 73 = .ok (.bipush 99, 2) ∧ 73 + 2 = 75 := ⟨by decide +kernel, rfl⟩
theorem dc_M_readsPoint_75 : decode prog_10_method_30_code 75 = .ok (.invokevirtual 92, 3) ∧ 75 + 3 = 78 := ⟨by decide +kernel, rfl⟩
theorem dc_M_readsPoint_78 : decode prog_10_method_30_code 78 = .ok (.ifCond .ne 5, 3) ∧ ((78 : Nat) : Int) + (5) = ((83 : Nat) : Int) ∧ 78 + 3 = 81 := ⟨by decide +kernel, by decide, rfl⟩
theorem dc_M_readsPoint_81 : decode prog_10_method_30_code 81 = .ok (.iconst 0, 1) ∧ 81 + 1 = 82 := ⟨by decide +kernel, rfl⟩
theorem dc_M_readsPoint_82 : decode prog_10_method_30_code 82 = .ok (.ireturn, 1) := by decide +kernel
theorem dc_M_readsPoint_83 : decode prog_10_method_30_code 83 = .ok (.aload_n 0, 1) ∧ 83 + 1 = 84 := ⟨by decide +kernel, rfl⟩
theorem dc_M_readsPoint_84 : decode prog_10_method_30_code 84 = .ok (.getfield 89, 3) ∧ 84 + 3 = 87 := ⟨by decide +kernel, rfl⟩
theorem dc_M_readsPoint_87 : decode prog_10_method_30_code 87 = .ok (.istore 5, 2) ∧ 87 + 2 = 89 := ⟨by decide +kernel, rfl⟩
theorem dc_M_readsPoint_89 : decode prog_10_method_30_code 89 = .ok (.aload_n 0, 1) ∧ 89 + 1 = 90 := ⟨by decide +kernel, rfl⟩
theorem dc_M_readsPoint_90 : decode prog_10_method_30_code 90 = .ok (.bipush 59, 2) ∧ 90 + 2 = 92 := ⟨by decide +kernel, rfl⟩
theorem dc_M_readsPoint_92 : decode prog_10_method_30_code 92 = .ok (.invokevirtual 86, 3) ∧ 92 + 3 = 95 := ⟨by decide +kernel, rfl⟩
theorem dc_M_readsPoint_95 : decode prog_10_method_30_code 95 = .ok (.ifCond .ne 5, 3) ∧ ((95 : Nat) : Int) + (5) = ((100 : Nat) : Int) ∧ 95 + 3 = 98 := ⟨by decide +kernel, by decide, rfl⟩
theorem dc_M_readsPoint_98 : decode prog_10_method_30_code 98 = .ok (.iconst 0, 1) ∧ 98 + 1 = 99 := ⟨by decide +kernel, rfl⟩
theorem dc_M_readsPoint_99 : decode prog_10_method_30_code 99 = .ok (.ireturn, 1) := by decide +kernel
theorem dc_M_readsPoint_100 : decode prog_10_method_30_code 100 = .ok (.aload_n 0, 1) ∧ 100 + 1 = 101 := ⟨by decide +kernel, rfl⟩
theorem dc_M_readsPoint_101 : decode prog_10_method_30_code 101 = .ok (.getfield 7, 3) ∧ 101 + 3 = 104 := ⟨by decide +kernel, rfl⟩
theorem dc_M_readsPoint_104 : decode prog_10_method_30_code 104 = .ok (.iload_n 1, 1) ∧ 104 + 1 = 105 := ⟨by decide +kernel, rfl⟩
theorem dc_M_readsPoint_105 : decode prog_10_method_30_code 105 = .ok (.iaload, 1) ∧ 105 + 1 = 106 := ⟨by decide +kernel, rfl⟩
theorem dc_M_readsPoint_106 : decode prog_10_method_30_code 106 = .ok (.bipush 10, 2) ∧ 106 + 2 = 108 := ⟨by decide +kernel, rfl⟩
theorem dc_M_readsPoint_108 : decode prog_10_method_30_code 108 = .ok (.if_icmp .ne 20, 3) ∧ ((108 : Nat) : Int) + (20) = ((128 : Nat) : Int) ∧ 108 + 3 = 111 := ⟨by decide +kernel, by decide, rfl⟩
theorem dc_M_readsPoint_111 : decode prog_10_method_30_code 111 = .ok (.aload_n 0, 1) ∧ 111 + 1 = 112 := ⟨by decide +kernel, rfl⟩
theorem dc_M_readsPoint_112 : decode prog_10_method_30_code 112 = .ok (.iload_n 1, 1) ∧ 112 + 1 = 113 := ⟨by decide +kernel, rfl⟩
theorem dc_M_readsPoint_113 : decode prog_10_method_30_code 113 = .ok (.iload 4, 2) ∧ 113 + 2 = 115 := ⟨by decide +kernel, rfl⟩
theorem dc_M_readsPoint_115 : decode prog_10_method_30_code 115 = .ok (.invokevirtual 42, 3) ∧ 115 + 3 = 118 := ⟨by decide +kernel, rfl⟩
theorem dc_M_readsPoint_118 : decode prog_10_method_30_code 118 = .ok (.ifCond .ne 10, 3) ∧ ((118 : Nat) : Int) + (10) = ((128 : Nat) : Int) ∧ 118 + 3 = 121 := ⟨by decide +kernel, by decide, rfl⟩
theorem dc_M_readsPoint_121 : decode prog_10_method_30_code 121 = .ok (.aload_n 0, 1) ∧ 121 + 1 = 122 := ⟨by decide +kernel, rfl⟩
theorem dc_M_readsPoint_122 : decode prog_10_method_30_code 122 = .ok (.iload_n 2, 1) ∧ 122 + 1 = 123 := ⟨by decide +kernel, rfl⟩
theorem dc_M_readsPoint_123 : decode prog_10_method_30_code 123 = .ok (.putfield 79, 3) ∧ 123 + 3 = 126 := ⟨by decide +kernel, rfl⟩
theorem dc_M_readsPoint_126 : decode prog_10_method_30_code 126 = .ok (.iconst 0, 1) ∧ 126 + 1 = 127 := ⟨by decide +kernel, rfl⟩
theorem dc_M_readsPoint_127 : decode prog_10_method_30_code 127 = .ok (.ireturn, 1) := by decide +kernel
theorem dc_M_readsPoint_128 : decode prog_10_method_30_code 128 = .ok (.aload_n 0, 1) ∧ 128 + 1 = 129 := ⟨by decide +kernel, rfl⟩
theorem dc_M_readsPoint_129 : decode prog_10_method_30_code 129 = .ok (.iload_n 1, 1) ∧ 129 + 1 = 130 := ⟨by decide +kernel, rfl⟩
theorem dc_M_readsPoint_130 : decode prog_10_method_30_code 130 = .ok (.iload 4, 2) ∧ 130 + 2 = 132 := ⟨by decide +kernel, rfl⟩
theorem dc_M_readsPoint_132 : decode prog_10_method_30_code 132 = .ok (.iload 5, 2) ∧ 132 + 2 = 134 := ⟨by decide +kernel, rfl⟩
theorem dc_M_readsPoint_134 : decode prog_10_method_30_code 134 = .ok (.invokevirtual 57, 3) ∧ 134 + 3 = 137 := ⟨by decide +kernel, rfl⟩
theorem dc_M_readsPoint_137 : decode prog_10_method_30_code 137 = .ok (.iconst 1, 1) ∧ 137 + 1 = 138 := ⟨by decide +kernel, rfl⟩
theorem dc_M_readsPoint_138 : decode prog_10_method_30_code 138 = .ok (.ireturn, 1) := by decide +kernel
theorem dc_M_reads_0 : decode prog_10_method_29_code 0 = .ok (.iload_n 1, 1) ∧ 0 + 1 = 1 := ⟨by decide +kernel, rfl⟩
theorem dc_M_reads_1 : decode prog_10_method_29_code 1 = .ok (.ifCond .eq 16, 3) ∧ ((1 : Nat) : Int) + (16) = ((17 : Nat) : Int) ∧ 1 + 3 = 4 := ⟨by decide +kernel, by decide, rfl⟩
theorem dc_M_reads_4 : decode prog_10_method_29_code 4 = .ok (.aload_n 0, 1) ∧ 4 + 1 = 5 := ⟨by decide +kernel, rfl⟩
theorem dc_M_reads_5 : decode prog_10_method_29_code 5 = .ok (.bipush 45, 2) ∧ 5 + 2 = 7 := ⟨by decide +kernel, rfl⟩
theorem dc_M_reads_7 : decode prog_10_method_29_code 7 = .ok (.invokevirtual 86, 3) ∧ 7 + 3 = 10 := ⟨by decide +kernel, rfl⟩
theorem dc_M_reads_10 : decode prog_10_method_29_code 10 = .ok (.ifCond .eq 7, 3) ∧ ((10 : Nat) : Int) + (7) = ((17 : Nat) : Int) ∧ 10 + 3 = 13 := ⟨by decide +kernel, by decide, rfl⟩
theorem dc_M_reads_13 : decode prog_10_method_29_code 13 = .ok (.iconst 1, 1) ∧ 13 + 1 = 14 := ⟨by decide +kernel, rfl⟩
theorem dc_M_reads_14 : decode prog_10_method_29_code 14 = .ok (.goto 4, 3) ∧ ((14 : Nat) : Int) + (4) = ((18 : Nat) : Int) := ⟨by decide +kernel, by decide⟩
theorem dc_M_reads_17 : decode prog_10_method_29_code 17 = .ok (.iconst 0, 1) ∧ 17 + 1 = 18 := ⟨by decide +kernel, rfl⟩
theorem dc_M_reads_18 : decode prog_10_method_29_code 18 = .ok (.istore 4, 2) ∧ 18 + 2 = 20 := ⟨by decide +kernel, rfl⟩
theorem dc_M_reads_20 : decode prog_10_method_29_code 20 = .ok (.aload_n 0, 1) ∧ 20 + 1 = 21 := ⟨by decide +kernel, rfl⟩
theorem dc_M_reads_21 : decode prog_10_method_29_code 21 = .ok (.invokevirtual 82, 3) ∧ 21 + 3 = 24 := ⟨by decide +kernel, rfl⟩
theorem dc_M_reads_24 : decode prog_10_method_29_code 24 = .ok (.bipush 48, 2) ∧ 24 + 2 = 26 := ⟨by decide +kernel, rfl⟩
theorem dc_M_reads_26 : decode prog_10_method_29_code 26 = .ok (.bipush 57, 2) ∧ 26 + 2 = 28 := ⟨by decide +kernel, rfl⟩
theorem dc_M_reads_28 : decode prog_10_method_29_code 28 = .ok (.invokestatic 31, 3) ∧ 28 + 3 = 31 := ⟨by decide +kernel, rfl⟩
theorem dc_M_reads_31 : decode prog_10_method_29_code 31 = .ok (.ifCond .ne 5, 3) ∧ ((31 : Nat) : Int) + (5) = ((36 : Nat) : Int) ∧ 31 + 3 = 34 := ⟨by decide +kernel, by decide, rfl⟩
theorem dc_M_reads_34 : decode prog_10_method_29_code 34 = .ok (.iconst 0, 1) ∧ 34 + 1 = 35 := ⟨by decide +kernel, rfl⟩
theorem dc_M_reads_35 : decode prog_10_method_29_code 35 = .ok (.ireturn, 1) := by decide +kernel
theorem dc_M_reads_36 : decode prog_10_method_29_code 36 = .ok (.aload_n 0, 1) ∧ 36 + 1 = 37 := ⟨by decide +kernel, rfl⟩
theorem dc_M_reads_37 : decode prog_10_method_29_code 37 = .ok (.getfield 79, 3) ∧ 37 + 3 = 40 := ⟨by decide +kernel, rfl⟩
theorem dc_M_reads_40 : decode prog_10_method_29_code 40 = .ok (.istore 5, 2) ∧ 40 + 2 = 42 := ⟨by decide +kernel, rfl⟩
theorem dc_M_reads_42 : decode prog_10_method_29_code 42 = .ok (.aload_n 0, 1) ∧ 42 + 1 = 43 := ⟨by decide +kernel, rfl⟩
theorem dc_M_reads_43 : decode prog_10_method_29_code 43 = .ok (.iconst 0, 1) ∧ 43 + 1 = 44 := ⟨by decide +kernel, rfl⟩
theorem dc_M_reads_44 : decode prog_10_method_29_code 44 = .ok (.putfield 89, 3) ∧ 44 + 3 = 47 := ⟨by decide +kernel, rfl⟩
theorem dc_M_reads_47 : decode prog_10_method_29_code 47 = .ok (.aload_n 0, 1) ∧ 47 + 1 = 48 := ⟨by decide +kernel, rfl⟩
theorem dc_M_reads_48 : decode prog_10_method_29_code 48 = .ok (.getfield 79, 3) ∧ 48 + 3 = 51 := ⟨by decide +kernel, rfl⟩
theorem dc_M_reads_51 : decode prog_10_method_29_code 51 = .ok (.aload_n 0, 1) ∧ 51 + 1 = 52 := ⟨by decide +kernel, rfl⟩
theorem dc_M_reads_52 : decode prog_10_method_29_code 52 = .ok (.getfield 76, 3) ∧ 52 + 3 = 55 := ⟨by decide +kernel, rfl⟩
theorem dc_M_reads_55 : decode prog_10_method_29_code 55 = .ok (.if_icmp .ge 70, 3) ∧ ((55 : Nat) : Int) + (70) = ((125 : Nat) : Int) ∧ 55 + 3 = 58 := ⟨by decide +kernel, by decide, rfl⟩
theorem dc_M_reads_58 : decode prog_10_method_29_code 58 = .ok (.aload_n 0, 1) ∧ 58 + 1 = 59 := ⟨by decide +kernel, rfl⟩
theorem dc_M_reads_59 : decode prog_10_method_29_code 59 = .ok (.getfield 79, 3) ∧ 59 + 3 = 62 := ⟨by decide +kernel, rfl⟩
theorem dc_M_reads_62 : decode prog_10_method_29_code 62 = .ok (.iload 5, 2) ∧ 62 + 2 = 64 := ⟨by decide +kernel, rfl⟩
theorem dc_M_reads_64 : decode prog_10_method_29_code 64 = .ok (.isub, 1) ∧ 64 + 1 = 65 := ⟨by decide +kernel, rfl⟩
theorem dc_M_reads_65 : decode prog_10_method_29_code 65 = .ok (.iconst 5, 1) ∧ 65 + 1 = 66 := ⟨by decide +kernel, rfl⟩
theorem dc_M_reads_66 : decode prog_10_method_29_code 66 = .ok (.if_icmp .ge 59, 3) ∧ ((66 : Nat) : Int) + (59) = ((125 : Nat) : Int) ∧ 66 + 3 = 69 := ⟨by decide +kernel, by decide, rfl⟩
theorem dc_M_reads_69 : decode prog_10_method_29_code 69 = .ok (.aload_n 0, 1) ∧ 69 + 1 = 70 := ⟨by decide +kernel, rfl⟩
theorem dc_M_reads_70 : decode prog_10_method_29_code 70 = .ok (.getfield 22, 3) ∧ 70 + 3 = 73 := ⟨by decide +kernel, rfl⟩
theorem dc_M_reads_73 : decode prog_10_method_29_code 73 = .ok (.aload_n 0, 1) ∧ 73 + 1 = 74 := ⟨by decide +kernel, rfl⟩
theorem dc_M_reads_74 : decode prog_10_method_29_code 74 = .ok (.getfield 79, 3) ∧ 74 + 3 = 77 := ⟨by decide +kernel, rfl⟩
theorem dc_M_reads_77 : decode prog_10_method_29_code 77 = .ok (.baload, 1) ∧ 77 + 1 = 78 := ⟨by decide +kernel, rfl⟩
theorem dc_M_reads_78 : decode prog_10_method_29_code 78 = .ok (.bipush 48, 2) ∧ 78 + 2 = 80 := ⟨by decide +kernel, rfl⟩
theorem dc_M_reads_80 : decode prog_10_method_29_code 80 = .ok (.bipush 57, 2) ∧ 80 + 2 = 82 := ⟨by decide +kernel, rfl⟩
theorem dc_M_reads_82 : decode prog_10_method_29_code 82 = .ok (.invokestatic 31, 3) ∧ 82 + 3 = 85 := ⟨by decide +kernel, rfl⟩
theorem dc_M_reads_85 : decode prog_10_method_29_code 85 = .ok (.ifCond .eq 40, 3) ∧ ((85 : Nat) : Int) + (40) = ((125 : Nat) : Int) ∧ 85 + 3 = 88 := ⟨by decide +kernel, by decide, rfl⟩
theorem dc_M_reads_88 : decode prog_10_method_29_code 88 = .ok (.aload_n 0, 1) ∧ 88 + 1 = 89 := ⟨by decide +kernel, rfl⟩
theorem dc_M_reads_89 : decode prog_10_method_29_code 89 = .ok (.bipush 10, 2) ∧ 89 + 2 = 91 := ⟨by decide +kernel, rfl⟩
theorem dc_M_reads_91 : decode prog_10_method_29_code 91 = .ok (.aload_n 0, 1) ∧ 91 + 1 = 92 := ⟨by decide +kernel, rfl⟩
theorem dc_M_reads_92 : decode prog_10_method_29_code 92 = .ok (.getfield 89, 3) ∧ 92 + 3 = 95 := ⟨by decide +kernel, rfl⟩
theorem dc_M_reads_95 : decode prog_10_method_29_code 95 = .ok (.imul, 1) ∧ 95 + 1 = 96 := ⟨by decide +kernel, rfl⟩
theorem dc_M_reads_96 : decode prog_10_method_29_code 96 = .ok (.aload_n 0, 1) ∧ 96 + 1 = 97 := ⟨by decide +kernel, rfl⟩
theorem dc_M_reads_97 : decode prog_10_method_29_code 97 = .ok (.getfield 22, 3) ∧ 97 + 3 = 100 := ⟨by decide +kernel, rfl⟩
theorem dc_M_reads_100 : decode prog_10_method_29_code 100 = .ok (.aload_n 0, 1) ∧ 100 + 1 = 101 := ⟨by decide +kernel, rfl⟩
theorem dc_M_reads_101 : decode prog_10_method_29_code 101 = .ok (.getfield 79, 3) ∧ 101 + 3 = 104 := ⟨by decide +kernel, rfl⟩
theorem dc_M_reads_104 : decode prog_10_method_29_code 104 = .ok (.baload, 1) ∧ 104 + 1 = 105 := ⟨by decide +kernel, rfl⟩
theorem dc_M_reads_105 : decode prog_10_method_29_code 105 = .ok (.iadd, 1) ∧ 105 + 1 = 106 := ⟨by decide +kernel, rfl⟩
theorem dc_M_reads_106 : decode prog_10_method_29_code 106 = .ok (.bipush 48, 2) ∧ 106 + 2 = 108 := ⟨by decide +kernel, rfl⟩
theorem dc_M_reads_108 : decode prog_10_method_29_code 108 = .ok (.isub, 1) ∧ 108 + 1 = 109 := ⟨by decide +kernel, rfl⟩
theorem dc_M_reads_109 : decode prog_10_method_29_code 109 = .ok (.putfield 89, 3) ∧ 109 + 3 = 112 := ⟨by decide +kernel, rfl⟩
theorem dc_M_reads_112 : decode prog_10_method_29_code 112 = .ok (.aload_n 0, 1) ∧ 112 + 1 = 113 := ⟨by decide +kernel, rfl⟩
theorem dc_M_reads_113 : decode prog_10_method_29_code 113 = .ok (.dup, 1) ∧ 113 + 1 = 114 := ⟨by decide +kernel, rfl⟩
theorem dc_M_reads_114 : decode prog_10_method_29_code 114 = .ok (.getfield 79, 3) ∧ 114 + 3 = 117 := ⟨by decide +kernel, rfl⟩
theorem dc_M_reads_117 : decode prog_10_method_29_code 117 = .ok (.iconst 1, 1) ∧ 117 + 1 = 118 := ⟨by decide +kernel, rfl⟩
theorem dc_M_reads_118 : decode prog_10_method_29_code 118 = .ok (.iadd, 1) ∧ 118 + 1 = 119 := ⟨by decide +kernel, rfl⟩
theorem dc_M_reads_119 : decode prog_10_method_29_code 119 = .ok (.putfield 79, 3) ∧ 119 + 3 = 122 := ⟨by decide +kernel, rfl⟩
theorem dc_M_reads_122 : decode prog_10_method_29_code 122 = .ok (.goto (-75), 3) ∧ ((122 : Nat) : Int) + (-75) = ((47 : Nat) : Int) := ⟨by decide +kernel, by decide⟩
theorem dc_M_reads_125 : decode prog_10_method_29_code 125 = .ok (.aload_n 0, 1) ∧ 125 + 1 = 126 := ⟨by decide +kernel, rfl⟩
theorem dc_M_reads_126 : decode prog_10_method_29_code 126 = .ok (.iload 4, 2) ∧ 126 + 2 = 128 := ⟨by decide +kernel, rfl⟩
theorem dc_M_reads_128 : decode prog_10_method_29_code 128 = .ok (.ifCond .eq 11, 3) ∧ ((128 : Nat) : Int) + (11) = ((139 : Nat) : Int) ∧ 128 + 3 = 131 := ⟨by decide +kernel, by decide, rfl⟩
theorem dc_M_reads_131 : decode prog_10_method_29_code 131 = .ok (.aload_n 0, 1) ∧ 131 + 1 = 132 := ⟨by decide +kernel, rfl⟩
theorem dc_M_reads_132 : decode prog_10_method_29_code 132 = .ok (.getfield 89, 3) ∧ 132 + 3 = 135 := ⟨by decide +kernel, rfl⟩
theorem dc_M_reads_135 : decode prog_10_method_29_code 135 = .ok (.ineg, 1) ∧ 135 + 1 = 136 := ⟨by decide +kernel, rfl⟩
theorem dc_M_reads_136 : decode prog_10_method_29_code 136 = .ok (.goto 7, 3) ∧ ((136 : Nat) : Int) + (7) = ((143 : Nat) : Int) := ⟨by decide +kernel, by decide⟩
theorem dc_M_reads_139 : decode prog_10_method_29_code 139 = .ok (.aload_n 0, 1) ∧ 139 + 1 = 140 := ⟨by decide +kernel, rfl⟩
theorem dc_M_reads_140 : decode prog_10_method_29_code 140 = .ok (.getfield 89, 3) ∧ 140 + 3 = 143 := ⟨by decide +kernel, rfl⟩
theorem dc_M_reads_143 : decode prog_10_method_29_code 143 = .ok (.putfield 89, 3) ∧ 143 + 3 = 146 := ⟨by decide +kernel, rfl⟩
theorem dc_M_reads_146 : decode prog_10_method_29_code 146 = .ok (.aload_n 0, 1) ∧ 146 + 1 = 147 := ⟨by decide +kernel, rfl⟩
theorem dc_M_reads_147 : decode prog_10_method_29_code 147 = .ok (.getfield 89, 3) ∧ 147 + 3 = 150 := ⟨by decide +kernel, rfl⟩
theorem dc_M_reads_150 : decode prog_10_method_29_code 150 = .ok (.iload_n 2, 1) ∧ 150 + 1 = 151 := ⟨by decide +kernel, rfl⟩
theorem dc_M_reads_151 : decode prog_10_method_29_code 151 = .ok (.iload_n 3, 1) ∧ 151 + 1 = 152 := ⟨by decide +kernel, rfl⟩
theorem dc_M_reads_152 : decode prog_10_method_29_code 152 = .ok (.invokestatic 31, 3) ∧ 152 + 3 = 155 := ⟨by decide +kernel, rfl⟩
theorem dc_M_reads_155 : decode prog_10_method_29_code 155 = .ok (.ifCond .eq 26, 3) ∧ ((155 : Nat) : Int) + (26) = ((181 : Nat) : Int) ∧ 155 + 3 = 158 := ⟨by decide +kernel, by decide, rfl⟩
theorem dc_M_reads_158 : decode prog_10_method_29_code 158 = .ok (.aload_n 0, 1) ∧ 158 + 1 = 159 := ⟨by decide +kernel, rfl⟩
theorem dc_M_reads_159 : decode prog_10_method_29_code 159 = .ok (.getfield 22, 3) ∧ 159 + 3 = 162 := ⟨by decide +kernel, rfl⟩
theorem dc_M_reads_162 : decode prog_10_method_29_code 162 = .ok (.iload 5, 2) ∧ 162 + 2 = 164 := ⟨by decide +kernel, rfl⟩
theorem dc_M_reads_164 : decode prog_10_method_29_code 164 = .ok (.baload, 1) ∧ 164 + 1 = 165 := ⟨by decide +kernel, rfl⟩
theorem dc_M_reads_165 : decode prog_10_method_29_code 165 = .ok (.bipush 48, 2) ∧ 165 + 2 = 167 := ⟨by decide +kernel, rfl⟩
theorem dc_M_reads_167 : decode prog_10_method_29_code 167 = .ok (.if_icmp .ne 22, 3) ∧ ((167 : Nat) : Int) + (22) = ((189 : Nat) : Int) ∧ 167 + 3 = 170 := ⟨by decide +kernel, by decide, rfl⟩
theorem dc_M_reads_170 : decode prog_10_method_29_code 170 = .ok (.aload_n 0, 1) ∧ 170 + 1 = 171 := ⟨by decide +kernel, rfl⟩
theorem dc_M_reads_171 : decode prog_10_method_29_code 171 = .ok (.getfield 79, 3) ∧ 171 + 3 = 174 := ⟨by decide +kernel, rfl⟩
theorem dc_M_reads_174 : decode prog_10_method_29_code 174 = .ok (.iload 5, 2) ∧ 174 + 2 = 176 := ⟨by decide +kernel, rfl⟩
theorem dc_M_reads_176 : decode prog_10_method_29_code 176 = .ok (.iconst 1, 1) ∧ 176 + 1 = 177 := ⟨by decide +kernel, rfl⟩
theorem dc_M_reads_177 : decode prog_10_method_29_code 177 = .ok (.iadd, 1) ∧ 177 + 1 = 178 := ⟨by decide +kernel, rfl⟩
theorem dc_M_reads_178 : decode prog_10_method_29_code 178 = .ok (.if_icmp .le 11, 3) ∧ ((178 : Nat) : Int) + (11) = ((189 : Nat) : Int) ∧ 178 + 3 = 181 := ⟨by decide +kernel, by decide, rfl⟩
theorem dc_M_reads_181 : decode prog_10_method_29_code 181 = .ok (.aload_n 0, 1) ∧ 181 + 1 = 182 := ⟨by decide +kernel, rfl⟩
theorem dc_M_reads_182 : decode prog_10_method_29_code 182 = .ok (.iload 5, 2) ∧ 182 + 2 = 184 := ⟨by decide +kernel, rfl⟩
theorem dc_M_reads_184 : decode prog_10_method_29_code 184 = .ok (.putfield 79, 3) ∧ 184 + 3 = 187 := ⟨by decide +kernel, rfl⟩
theorem dc_M_reads_187 : decode prog_10_method_29_code 187 = .ok (.iconst 0, 1) ∧ 187 + 1 = 188 := ⟨by decide +kernel, rfl⟩
theorem dc_M_reads_188 : decode prog_10_method_29_code 188 = .ok (.ireturn, 1) := by decide +kernel
theorem dc_M_reads_189 : decode prog_10_method_29_code 189 = .ok (.iconst 1, 1) ∧ 189 + 1 = 190 := ⟨by decide +kernel, rfl⟩
theorem dc_M_reads_190 : decode prog_10_method_29_code 190 = .ok (.ireturn, 1) := by decide +kernel
theorem dc_M_takes_0 : decode prog_10_method_28_code 0 = .ok (.aload_n 0, 1) ∧ 0 + 1 = 1 := ⟨by decide +kernel, rfl⟩
theorem dc_M_takes_1 : decode prog_10_method_28_code 1 = .ok (.invokevirtual 82, 3) ∧ 1 + 3 = 4 := ⟨by decide +kernel, rfl⟩
theorem dc_M_takes_4 : decode prog_10_method_28_code 4 = .ok (.iload_n 1, 1) ∧ 4 + 1 = 5 := ⟨by decide +kernel, rfl⟩
theorem dc_M_takes_5 : decode prog_10_method_28_code 5 = .ok (.if_icmp .ne 7, 3) ∧ ((5 : Nat) : Int) + (7) = ((12 : Nat) : Int) ∧ 5 + 3 = 8 := ⟨by decide +kernel, by decide, rfl⟩
theorem dc_M_takes_8 : decode prog_10_method_28_code 8 = .ok (.iconst 1, 1) ∧ 8 + 1 = 9 := ⟨by decide +kernel, rfl⟩
theorem dc_M_takes_9 : decode prog_10_method_28_code 9 = .ok (.goto 4, 3) ∧ ((9 : Nat) : Int) + (4) = ((13 : Nat) : Int) := ⟨by decide +kernel, by decide⟩
theorem dc_M_takes_12 : decode prog_10_method_28_code 12 = .ok (.iconst 0, 1) ∧ 12 + 1 = 13 := ⟨by decide +kernel, rfl⟩
theorem dc_M_takes_13 : decode prog_10_method_28_code 13 = .ok (.istore_n 2, 1) ∧ 13 + 1 = 14 := ⟨by decide +kernel, rfl⟩
theorem dc_M_takes_14 : decode prog_10_method_28_code 14 = .ok (.aload_n 0, 1) ∧ 14 + 1 = 15 := ⟨by decide +kernel, rfl⟩
theorem dc_M_takes_15 : decode prog_10_method_28_code 15 = .ok (.dup, 1) ∧ 15 + 1 = 16 := ⟨by decide +kernel, rfl⟩
theorem dc_M_takes_16 : decode prog_10_method_28_code 16 = .ok (.getfield 79, 3) ∧ 16 + 3 = 19 := ⟨by decide +kernel, rfl⟩
theorem dc_M_takes_19 : decode prog_10_method_28_code 19 = .ok (.iload_n 2, 1) ∧ 19 + 1 = 20 := ⟨by decide +kernel, rfl⟩
theorem dc_M_takes_20 : decode prog_10_method_28_code 20 = .ok (.ifCond .eq 7, 3) ∧ ((20 : Nat) : Int) + (7) = ((27 : Nat) : Int) ∧ 20 + 3 = 23 := ⟨by decide +kernel, by decide, rfl⟩
theorem dc_M_takes_23 : decode prog_10_method_28_code 23 = .ok (.iconst 1, 1) ∧ 23 + 1 = 24 := ⟨by decide +kernel, rfl⟩
theorem dc_M_takes_24 : decode prog_10_method_28_code 24 = .ok (.goto 4, 3) ∧ ((24 : Nat) : Int) + (4) = ((28 : Nat) : Int) := ⟨by decide +kernel, by decide⟩
theorem dc_M_takes_27 : decode prog_10_method_28_code 27 = .ok (.iconst 0, 1) ∧ 27 + 1 = 28 := ⟨by decide +kernel, rfl⟩
theorem dc_M_takes_28 : decode prog_10_method_28_code 28 = .ok (.iadd, 1) ∧ 28 + 1 = 29 := ⟨by decide +kernel, rfl⟩
theorem dc_M_takes_29 : decode prog_10_method_28_code 29 = .ok (.putfield 79, 3) ∧ 29 + 3 = 32 := ⟨by decide +kernel, rfl⟩
theorem dc_M_takes_32 : decode prog_10_method_28_code 32 = .ok (.iload_n 2, 1) ∧ 32 + 1 = 33 := ⟨by decide +kernel, rfl⟩
theorem dc_M_takes_33 : decode prog_10_method_28_code 33 = .ok (.ireturn, 1) := by decide +kernel
theorem dc_M_swaps_0 : decode prog_10_method_10_code 0 = .ok (.iconst 0, 1) ∧ 0 + 1 = 1 := ⟨by decide +kernel, rfl⟩
theorem dc_M_swaps_1 : decode prog_10_method_10_code 1 = .ok (.istore_n 1, 1) ∧ 1 + 1 = 2 := ⟨by decide +kernel, rfl⟩
theorem dc_M_swaps_2 : decode prog_10_method_10_code 2 = .ok (.iload_n 1, 1) ∧ 2 + 1 = 3 := ⟨by decide +kernel, rfl⟩
theorem dc_M_swaps_3 : decode prog_10_method_10_code 3 = .ok (.bipush 80, 2) ∧ 3 + 2 = 5 := ⟨by decide +kernel, rfl⟩
theorem dc_M_swaps_5 : decode prog_10_method_10_code 5 = .ok (.if_icmp .ge 35, 3) ∧ ((5 : Nat) : Int) + (35) = ((40 : Nat) : Int) ∧ 5 + 3 = 8 := ⟨by decide +kernel, by decide, rfl⟩
theorem dc_M_swaps_8 : decode prog_10_method_10_code 8 = .ok (.aload_n 0, 1) ∧ 8 + 1 = 9 := ⟨by decide +kernel, rfl⟩
theorem dc_M_swaps_9 : decode prog_10_method_10_code 9 = .ok (.getfield 7, 3) ∧ 9 + 3 = 12 := ⟨by decide +kernel, rfl⟩
theorem dc_M_swaps_12 : decode prog_10_method_10_code 12 = .ok (.iload_n 1, 1) ∧ 12 + 1 = 13 := ⟨by decide +kernel, rfl⟩
theorem dc_M_swaps_13 : decode prog_10_method_10_code 13 = .ok (.iaload, 1) ∧ 13 + 1 = 14 := ⟨by decide +kernel, rfl⟩
theorem dc_M_swaps_14 : decode prog_10_method_10_code 14 = .ok (.istore_n 2, 1) ∧ 14 + 1 = 15 := ⟨by decide +kernel, rfl⟩
theorem dc_M_swaps_15 : decode prog_10_method_10_code 15 = .ok (.aload_n 0, 1) ∧ 15 + 1 = 16 := ⟨by decide +kernel, rfl⟩
theorem dc_M_swaps_16 : decode prog_10_method_10_code 16 = .ok (.getfield 7, 3) ∧ 16 + 3 = 19 := ⟨by decide +kernel, rfl⟩
theorem dc_M_swaps_19 : decode prog_10_method_10_code 19 = .ok (.iload_n 1, 1) ∧ 19 + 1 = 20 := ⟨by decide +kernel, rfl⟩
theorem dc_M_swaps_20 : decode prog_10_method_10_code 20 = .ok (.aload_n 0, 1) ∧ 20 + 1 = 21 := ⟨by decide +kernel, rfl⟩
theorem dc_M_swaps_21 : decode prog_10_method_10_code 21 = .ok (.getfield 19, 3) ∧ 21 + 3 = 24 := ⟨by decide +kernel, rfl⟩
theorem dc_M_swaps_24 : decode prog_10_method_10_code 24 = .ok (.iload_n 1, 1) ∧ 24 + 1 = 25 := ⟨by decide +kernel, rfl⟩
theorem dc_M_swaps_25 : decode prog_10_method_10_code 25 = .ok (.iaload, 1) ∧ 25 + 1 = 26 := ⟨by decide +kernel, rfl⟩
theorem dc_M_swaps_26 : decode prog_10_method_10_code 26 = .ok (.iastore, 1) ∧ 26 + 1 = 27 := ⟨by decide +kernel, rfl⟩
theorem dc_M_swaps_27 : decode prog_10_method_10_code 27 = .ok (.aload_n 0, 1) ∧ 27 + 1 = 28 := ⟨by decide +kernel, rfl⟩
theorem dc_M_swaps_28 : decode prog_10_method_10_code 28 = .ok (.getfield 19, 3) ∧ 28 + 3 = 31 := ⟨by decide +kernel, rfl⟩
theorem dc_M_swaps_31 : decode prog_10_method_10_code 31 = .ok (.iload_n 1, 1) ∧ 31 + 1 = 32 := ⟨by decide +kernel, rfl⟩
theorem dc_M_swaps_32 : decode prog_10_method_10_code 32 = .ok (.iload_n 2, 1) ∧ 32 + 1 = 33 := ⟨by decide +kernel, rfl⟩
theorem dc_M_swaps_33 : decode prog_10_method_10_code 33 = .ok (.iastore, 1) ∧ 33 + 1 = 34 := ⟨by decide +kernel, rfl⟩
theorem dc_M_swaps_34 : decode prog_10_method_10_code 34 = .ok (.iinc 1 1, 3) ∧ 34 + 3 = 37 := ⟨by decide +kernel, rfl⟩
theorem dc_M_swaps_37 : decode prog_10_method_10_code 37 = .ok (.goto (-35), 3) ∧ ((37 : Nat) : Int) + (-35) = ((2 : Nat) : Int) := ⟨by decide +kernel, by decide⟩
theorem dc_M_swaps_40 : decode prog_10_method_10_code 40 = .ok (.return_, 1) := by decide +kernel
theorem dc_M_moveTo_0 : decode prog_10_method_40_code 0 = .ok (.iload_n 1, 1) ∧ 0 + 1 = 1 := ⟨by decide +kernel, rfl⟩
theorem dc_M_moveTo_1 : decode prog_10_method_40_code 1 = .ok (.invokestatic 65, 3) ∧ 1 + 3 = 4 := ⟨by decide +kernel, rfl⟩
theorem dc_M_moveTo_4 : decode prog_10_method_40_code 4 = .ok (.ifCond .ne 6, 3) ∧ ((4 : Nat) : Int) + (6) = ((10 : Nat) : Int) ∧ 4 + 3 = 7 := ⟨by decide +kernel, by decide, rfl⟩
theorem dc_M_moveTo_7 : decode prog_10_method_40_code 7 = .ok (.ldc 64, 2) ∧ 7 + 2 = 9 := ⟨by decide +kernel, rfl⟩
theorem dc_M_moveTo_9 : decode prog_10_method_40_code 9 = .ok (.ireturn, 1) := by decide +kernel
theorem dc_M_moveTo_10 : decode prog_10_method_40_code 10 = .ok (.aload_n 0, 1) ∧ 10 + 1 = 11 := ⟨by decide +kernel, rfl⟩
theorem dc_M_moveTo_11 : decode prog_10_method_40_code 11 = .ok (.iload_n 1, 1) ∧ 11 + 1 = 12 := ⟨by decide +kernel, rfl⟩
theorem dc_M_moveTo_12 : decode prog_10_method_40_code 12 = .ok (.invokevirtual 129, 3) ∧ 12 + 3 = 15 := ⟨by decide +kernel, rfl⟩
theorem dc_M_moveTo_15 : decode prog_10_method_40_code 15 = .ok (.invokestatic 65, 3) ∧ 15 + 3 = 18 := ⟨by decide +kernel, rfl⟩
theorem dc_M_moveTo_18 : decode prog_10_method_40_code 18 = .ok (.ifCond .ne 6, 3) ∧ ((18 : Nat) : Int) + (6) = ((24 : Nat) : Int) ∧ 18 + 3 = 21 := ⟨by decide +kernel, by decide, rfl⟩
theorem dc_M_moveTo_21 : decode prog_10_method_40_code 21 = .ok (.ldc 30, 2) ∧ 21 + 2 = 23 := ⟨by decide +kernel, rfl⟩
theorem dc_M_moveTo_23 : decode prog_10_method_40_code 23 = .ok (.ireturn, 1) := by decide +kernel
theorem dc_M_moveTo_24 : decode prog_10_method_40_code 24 = .ok (.aload_n 0, 1) ∧ 24 + 1 = 25 := ⟨by decide +kernel, rfl⟩
theorem dc_M_moveTo_25 : decode prog_10_method_40_code 25 = .ok (.invokevirtual 47, 3) ∧ 25 + 3 = 28 := ⟨by decide +kernel, rfl⟩
theorem dc_M_moveTo_28 : decode prog_10_method_40_code 28 = .ok (.aload_n 0, 1) ∧ 28 + 1 = 29 := ⟨by decide +kernel, rfl⟩
theorem dc_M_moveTo_29 : decode prog_10_method_40_code 29 = .ok (.getfield 7, 3) ∧ 29 + 3 = 32 := ⟨by decide +kernel, rfl⟩
theorem dc_M_moveTo_32 : decode prog_10_method_40_code 32 = .ok (.bipush 10, 2) ∧ 32 + 2 = 34 := ⟨by decide +kernel, rfl⟩
theorem dc_M_moveTo_34 : decode prog_10_method_40_code 34 = .ok (.iaload, 1) ∧ 34 + 1 = 35 := ⟨by decide +kernel, rfl⟩
theorem dc_M_moveTo_35 : decode prog_10_method_40_code 35 = .ok (.istore_n 2, 1) ∧ 35 + 1 = 36 := ⟨by decide +kernel, rfl⟩
theorem dc_M_moveTo_36 : decode prog_10_method_40_code 36 = .ok (.aload_n 0, 1) ∧ 36 + 1 = 37 := ⟨by decide +kernel, rfl⟩
theorem dc_M_moveTo_37 : decode prog_10_method_40_code 37 = .ok (.iload_n 1, 1) ∧ 37 + 1 = 38 := ⟨by decide +kernel, rfl⟩
theorem dc_M_moveTo_38 : decode prog_10_method_40_code 38 = .ok (.invokevirtual 136, 3) ∧ 38 + 3 = 41 := ⟨by decide +kernel, rfl⟩
theorem dc_M_moveTo_41 : decode prog_10_method_40_code 41 = .ok (.aload_n 0, 1) ∧ 41 + 1 = 42 := ⟨by decide +kernel, rfl⟩
theorem dc_M_moveTo_42 : decode prog_10_method_40_code 42 = .ok (.getfield 7, 3) ∧ 42 + 3 = 45 := ⟨by decide +kernel, rfl⟩
theorem dc_M_moveTo_45 : decode prog_10_method_40_code 45 = .ok (.bipush 10, 2) ∧ 45 + 2 = 47 := ⟨by decide +kernel, rfl⟩
theorem dc_M_moveTo_47 : decode prog_10_method_40_code 47 = .ok (.iaload, 1) ∧ 47 + 1 = 48 := ⟨by decide +kernel, rfl⟩
theorem dc_M_moveTo_48 : decode prog_10_method_40_code 48 = .ok (.iload_n 2, 1) ∧ 48 + 1 = 49 := ⟨by decide +kernel, rfl⟩
theorem dc_M_moveTo_49 : decode prog_10_method_40_code 49 = .ok (.isub, 1) ∧ 49 + 1 = 50 := ⟨by decide +kernel, rfl⟩
theorem dc_M_moveTo_50 : decode prog_10_method_40_code 50 = .ok (.ireturn, 1) := by decide +kernel
theorem dc_M_aimOf_0 : decode prog_10_method_38_code 0 = .ok (.iload_n 1, 1) ∧ 0 + 1 = 1 := ⟨by decide +kernel, rfl⟩
theorem dc_M_aimOf_1 : decode prog_10_method_38_code 1 = .ok (.aload_n 0, 1) ∧ 1 + 1 = 2 := ⟨by decide +kernel, rfl⟩
theorem dc_M_aimOf_2 : decode prog_10_method_38_code 2 = .ok (.iload_n 1, 1) ∧ 2 + 1 = 3 := ⟨by decide +kernel, rfl⟩
theorem dc_M_aimOf_3 : decode prog_10_method_38_code 3 = .ok (.invokevirtual 126, 3) ∧ 3 + 3 = 6 := ⟨by decide +kernel, rfl⟩
theorem dc_M_aimOf_6 : decode prog_10_method_38_code 6 = .ok (.iadd, 1) ∧ 6 + 1 = 7 := ⟨by decide +kernel, rfl⟩
theorem dc_M_aimOf_7 : decode prog_10_method_38_code 7 = .ok (.ireturn, 1) := by decide +kernel
theorem dc_M_errorOf_0 : decode prog_10_method_34_code 0 = .ok (.aload_n 0, 1) ∧ 0 + 1 = 1 := ⟨by decide +kernel, rfl⟩
theorem dc_M_errorOf_1 : decode prog_10_method_34_code 1 = .ok (.getfield 7, 3) ∧ 1 + 3 = 4 := ⟨by decide +kernel, rfl⟩
theorem dc_M_errorOf_4 : decode prog_10_method_34_code 4 = .ok (.bipush 42, 2) ∧ 4 + 2 = 6 := ⟨by decide +kernel, rfl⟩
theorem dc_M_errorOf_6 : decode prog_10_method_34_code 6 = .ok (.iaload, 1) ∧ 6 + 1 = 7 := ⟨by decide +kernel, rfl⟩
theorem dc_M_errorOf_7 : decode prog_10_method_34_code 7 = .ok (.ifCond .ne 5, 3) ∧ ((7 : Nat) : Int) + (5) = ((12 : Nat) : Int) ∧ 7 + 3 = 10 := ⟨by decide +kernel, by decide, rfl⟩
theorem dc_M_errorOf_10 : decode prog_10_method_34_code 10 = .ok (.iconst 0, 1) ∧ 10 + 1 = 11 := ⟨by decide +kernel, rfl⟩
theorem dc_M_errorOf_11 : decode prog_10_method_34_code 11 = .ok (.ireturn, 1) := by decide +kernel
theorem dc_M_errorOf_12 : decode prog_10_method_34_code 12 = .ok (.aload_n 0, 1) ∧ 12 + 1 = 13 := ⟨by decide +kernel, rfl⟩
theorem dc_M_errorOf_13 : decode prog_10_method_34_code 13 = .ok (.bipush 42, 2) ∧ 13 + 2 = 15 := ⟨by decide +kernel, rfl⟩
theorem dc_M_errorOf_15 : decode prog_10_method_34_code 15 = .ok (.iload_n 1, 1) ∧ 15 + 1 = 16 := ⟨by decide +kernel, rfl⟩
theorem dc_M_errorOf_16 : decode prog_10_method_34_code 16 = .ok (.invokevirtual 39, 3) ∧ 16 + 3 = 19 := ⟨by decide +kernel, rfl⟩
theorem dc_M_errorOf_19 : decode prog_10_method_34_code 19 = .ok (.istore_n 2, 1) ∧ 19 + 1 = 20 := ⟨by decide +kernel, rfl⟩
theorem dc_M_errorOf_20 : decode prog_10_method_34_code 20 = .ok (.iload_n 2, 1) ∧ 20 + 1 = 21 := ⟨by decide +kernel, rfl⟩
theorem dc_M_errorOf_21 : decode prog_10_method_34_code 21 = .ok (.ifCond .ne 11, 3) ∧ ((21 : Nat) : Int) + (11) = ((32 : Nat) : Int) ∧ 21 + 3 = 24 := ⟨by decide +kernel, by decide, rfl⟩
theorem dc_M_errorOf_24 : decode prog_10_method_34_code 24 = .ok (.aload_n 0, 1) ∧ 24 + 1 = 25 := ⟨by decide +kernel, rfl⟩
theorem dc_M_errorOf_25 : decode prog_10_method_34_code 25 = .ok (.bipush 42, 2) ∧ 25 + 2 = 27 := ⟨by decide +kernel, rfl⟩
theorem dc_M_errorOf_27 : decode prog_10_method_34_code 27 = .ok (.iconst 0, 1) ∧ 27 + 1 = 28 := ⟨by decide +kernel, rfl⟩
theorem dc_M_errorOf_28 : decode prog_10_method_34_code 28 = .ok (.invokevirtual 50, 3) ∧ 28 + 3 = 31 := ⟨by decide +kernel, rfl⟩
theorem dc_M_errorOf_31 : decode prog_10_method_34_code 31 = .ok (.ireturn, 1) := by decide +kernel
theorem dc_M_errorOf_32 : decode prog_10_method_34_code 32 = .ok (.aload_n 0, 1) ∧ 32 + 1 = 33 := ⟨by decide +kernel, rfl⟩
theorem dc_M_errorOf_33 : decode prog_10_method_34_code 33 = .ok (.bipush 42, 2) ∧ 33 + 2 = 35 := ⟨by decide +kernel, rfl⟩
theorem dc_M_errorOf_35 : decode prog_10_method_34_code 35 = .ok (.iload_n 2, 1) ∧ 35 + 1 = 36 := ⟨by decide +kernel, rfl⟩
theorem dc_M_errorOf_36 : decode prog_10_method_34_code 36 = .ok (.iconst 1, 1) ∧ 36 + 1 = 37 := ⟨by decide +kernel, rfl⟩
theorem dc_M_errorOf_37 : decode prog_10_method_34_code 37 = .ok (.isub, 1) ∧ 37 + 1 = 38 := ⟨by decide +kernel, rfl⟩
theorem dc_M_errorOf_38 : decode prog_10_method_34_code 38 = .ok (.invokevirtual 50, 3) ∧ 38 + 3 = 41 := ⟨by decide +kernel, rfl⟩
theorem dc_M_errorOf_41 : decode prog_10_method_34_code 41 = .ok (.istore_n 3, 1) ∧ 41 + 1 = 42 := ⟨by decide +kernel, rfl⟩
theorem dc_M_errorOf_42 : decode prog_10_method_34_code 42 = .ok (.iload_n 2, 1) ∧ 42 + 1 = 43 := ⟨by decide +kernel, rfl⟩
theorem dc_M_errorOf_43 : decode prog_10_method_34_code 43 = .ok (.aload_n 0, 1) ∧ 43 + 1 = 44 := ⟨by decide +kernel, rfl⟩
theorem dc_M_errorOf_44 : decode prog_10_method_34_code 44 = .ok (.getfield 7, 3) ∧ 44 + 3 = 47 := ⟨by decide +kernel, rfl⟩
theorem dc_M_errorOf_47 : decode prog_10_method_34_code 47 = .ok (.bipush 42, 2) ∧ 47 + 2 = 49 := ⟨by decide +kernel, rfl⟩
theorem dc_M_errorOf_49 : decode prog_10_method_34_code 49 = .ok (.iaload, 1) ∧ 49 + 1 = 50 := ⟨by decide +kernel, rfl⟩
theorem dc_M_errorOf_50 : decode prog_10_method_34_code 50 = .ok (.if_icmp .ne 5, 3) ∧ ((50 : Nat) : Int) + (5) = ((55 : Nat) : Int) ∧ 50 + 3 = 53 := ⟨by decide +kernel, by decide, rfl⟩
theorem dc_M_errorOf_53 : decode prog_10_method_34_code 53 = .ok (.iload_n 3, 1) ∧ 53 + 1 = 54 := ⟨by decide +kernel, rfl⟩
theorem dc_M_errorOf_54 : decode prog_10_method_34_code 54 = .ok (.ireturn, 1) := by decide +kernel
theorem dc_M_errorOf_55 : decode prog_10_method_34_code 55 = .ok (.aload_n 0, 1) ∧ 55 + 1 = 56 := ⟨by decide +kernel, rfl⟩
theorem dc_M_errorOf_56 : decode prog_10_method_34_code 56 = .ok (.bipush 42, 2) ∧ 56 + 2 = 58 := ⟨by decide +kernel, rfl⟩
theorem dc_M_errorOf_58 : decode prog_10_method_34_code 58 = .ok (.iload_n 2, 1) ∧ 58 + 1 = 59 := ⟨by decide +kernel, rfl⟩
theorem dc_M_errorOf_59 : decode prog_10_method_34_code 59 = .ok (.iconst 1, 1) ∧ 59 + 1 = 60 := ⟨by decide +kernel, rfl⟩
theorem dc_M_errorOf_60 : decode prog_10_method_34_code 60 = .ok (.isub, 1) ∧ 60 + 1 = 61 := ⟨by decide +kernel, rfl⟩
theorem dc_M_errorOf_61 : decode prog_10_method_34_code 61 = .ok (.invokevirtual 35, 3) ∧ 61 + 3 = 64 := ⟨by decide +kernel, rfl⟩
theorem dc_M_errorOf_64 : decode prog_10_method_34_code 64 = .ok (.istore 4, 2) ∧ 64 + 2 = 66 := ⟨by decide +kernel, rfl⟩
theorem dc_M_errorOf_66 : decode prog_10_method_34_code 66 = .ok (.iload_n 3, 1) ∧ 66 + 1 = 67 := ⟨by decide +kernel, rfl⟩
theorem dc_M_errorOf_67 : decode prog_10_method_34_code 67 = .ok (.aload_n 0, 1) ∧ 67 + 1 = 68 := ⟨by decide +kernel, rfl⟩
theorem dc_M_errorOf_68 : decode prog_10_method_34_code 68 = .ok (.bipush 42, 2) ∧ 68 + 2 = 70 := ⟨by decide +kernel, rfl⟩
theorem dc_M_errorOf_70 : decode prog_10_method_34_code 70 = .ok (.iload_n 2, 1) ∧ 70 + 1 = 71 := ⟨by decide +kernel, rfl⟩
theorem dc_M_errorOf_71 : decode prog_10_method_34_code 71 = .ok (.invokevirtual 50, 3) ∧ 71 + 3 = 74 := ⟨by decide +kernel, rfl⟩
theorem dc_M_errorOf_74 : decode prog_10_method_34_code 74 = .ok (.iload_n 3, 1) ∧ 74 + 1 = 75 := ⟨by decide +kernel, rfl⟩
theorem dc_M_errorOf_75 : decode prog_10_method_34_code 75 = .ok (.isub, 1) ∧ 75 + 1 = 76 := ⟨by decide +kernel, rfl⟩
theorem dc_M_errorOf_76 : decode prog_10_method_34_code 76 = .ok (.iload_n 1, 1) ∧ 76 + 1 = 77 := ⟨by decide +kernel, rfl⟩
theorem dc_M_errorOf_77 : decode prog_10_method_34_code 77 = .ok (.iload 4, 2) ∧ 77 + 2 = 79 := ⟨by decide +kernel, rfl⟩
theorem dc_M_errorOf_79 : decode prog_10_method_34_code 79 = .ok (.isub, 1) ∧ 79 + 1 = 80 := ⟨by decide +kernel, rfl⟩
theorem dc_M_errorOf_80 : decode prog_10_method_34_code 80 = .ok (.imul, 1) ∧ 80 + 1 = 81 := ⟨by decide +kernel, rfl⟩
theorem dc_M_errorOf_81 : decode prog_10_method_34_code 81 = .ok (.aload_n 0, 1) ∧ 81 + 1 = 82 := ⟨by decide +kernel, rfl⟩
theorem dc_M_errorOf_82 : decode prog_10_method_34_code 82 = .ok (.bipush 42, 2) ∧ 82 + 2 = 84 := ⟨by decide +kernel, rfl⟩
theorem dc_M_errorOf_84 : decode prog_10_method_34_code 84 = .ok (.iload_n 2, 1) ∧ 84 + 1 = 85 := ⟨by decide +kernel, rfl⟩
theorem dc_M_errorOf_85 : decode prog_10_method_34_code 85 = .ok (.invokevirtual 35, 3) ∧ 85 + 3 = 88 := ⟨by decide +kernel, rfl⟩
theorem dc_M_errorOf_88 : decode prog_10_method_34_code 88 = .ok (.iload 4, 2) ∧ 88 + 2 = 90 := ⟨by decide +kernel, rfl⟩
theorem dc_M_errorOf_90 : decode prog_10_method_34_code 90 = .ok (.isub, 1) ∧ 90 + 1 = 91 := ⟨by decide +kernel, rfl⟩
theorem dc_M_errorOf_91 : decode prog_10_method_34_code 91 = .ok (.invokestatic 110, 3) ∧ 91 + 3 = 94 := ⟨by decide +kernel, rfl⟩
theorem dc_M_errorOf_94 : decode prog_10_method_34_code 94 = .ok (.iadd, 1) ∧ 94 + 1 = 95 := ⟨by decide +kernel, rfl⟩
theorem dc_M_errorOf_95 : decode prog_10_method_34_code 95 = .ok (.ireturn, 1) := by decide +kernel
theorem dc_M_down_0 : decode prog_10_method_5_code 0 = .ok (.iload_n 0, 1) ∧ 0 + 1 = 1 := ⟨by decide +kernel, rfl⟩
theorem dc_M_down_1 : decode prog_10_method_5_code 1 = .ok (.ifCond .lt 9, 3) ∧ ((1 : Nat) : Int) + (9) = ((10 : Nat) : Int) ∧ 1 + 3 = 4 := ⟨by decide +kernel, by decide, rfl⟩
theorem dc_M_down_4 : decode prog_10_method_5_code 4 = .ok (.iload_n 0, 1) ∧ 4 + 1 = 5 := ⟨by decide +kernel, rfl⟩
theorem dc_M_down_5 : decode prog_10_method_5_code 5 = .ok (.iload_n 1, 1) ∧ 5 + 1 = 6 := ⟨by decide +kernel, rfl⟩
theorem dc_M_down_6 : decode prog_10_method_5_code 6 = .ok (.idiv, 1) ∧ 6 + 1 = 7 := ⟨by decide +kernel, rfl⟩
theorem dc_M_down_7 : decode prog_10_method_5_code 7 = .ok (.goto 11, 3) ∧ ((7 : Nat) : Int) + (11) = ((18 : Nat) : Int) := ⟨by decide +kernel, by decide⟩
theorem dc_M_down_10 : decode prog_10_method_5_code 10 = .ok (.iload_n 1, 1) ∧ 10 + 1 = 11 := ⟨by decide +kernel, rfl⟩
theorem dc_M_down_11 : decode prog_10_method_5_code 11 = .ok (.iconst 1, 1) ∧ 11 + 1 = 12 := ⟨by decide +kernel, rfl⟩
theorem dc_M_down_12 : decode prog_10_method_5_code 12 = .ok (.isub, 1) ∧ 12 + 1 = 13 := ⟨by decide +kernel, rfl⟩
theorem dc_M_down_13 : decode prog_10_method_5_code 13 = .ok (.iload_n 0, 1) ∧ 13 + 1 = 14 := ⟨by decide +kernel, rfl⟩
theorem dc_M_down_14 : decode prog_10_method_5_code 14 = .ok (.isub, 1) ∧ 14 + 1 = 15 := ⟨by decide +kernel, rfl⟩
theorem dc_M_down_15 : decode prog_10_method_5_code 15 = .ok (.iload_n 1, 1) ∧ 15 + 1 = 16 := ⟨by decide +kernel, rfl⟩
theorem dc_M_down_16 : decode prog_10_method_5_code 16 = .ok (.idiv, 1) ∧ 16 + 1 = 17 := ⟨by decide +kernel, rfl⟩
theorem dc_M_down_17 : decode prog_10_method_5_code 17 = .ok (.ineg, 1) ∧ 17 + 1 = 18 := ⟨by decide +kernel, rfl⟩
theorem dc_M_down_18 : decode prog_10_method_5_code 18 = .ok (.ireturn, 1) := by decide +kernel
theorem dc_M_moves_0 : decode prog_10_method_39_code 0 = .ok (.aload_n 0, 1) ∧ 0 + 1 = 1 := ⟨by decide +kernel, rfl⟩
theorem dc_M_moves_1 : decode prog_10_method_39_code 1 = .ok (.iload_n 1, 1) ∧ 1 + 1 = 2 := ⟨by decide +kernel, rfl⟩
theorem dc_M_moves_2 : decode prog_10_method_39_code 2 = .ok (.invokevirtual 129, 3) ∧ 2 + 3 = 5 := ⟨by decide +kernel, rfl⟩
theorem dc_M_moves_5 : decode prog_10_method_39_code 5 = .ok (.aload_n 0, 1) ∧ 5 + 1 = 6 := ⟨by decide +kernel, rfl⟩
theorem dc_M_moves_6 : decode prog_10_method_39_code 6 = .ok (.getfield 7, 3) ∧ 6 + 3 = 9 := ⟨by decide +kernel, rfl⟩
theorem dc_M_moves_9 : decode prog_10_method_39_code 9 = .ok (.bipush 6, 2) ∧ 9 + 2 = 11 := ⟨by decide +kernel, rfl⟩
theorem dc_M_moves_11 : decode prog_10_method_39_code 11 = .ok (.iaload, 1) ∧ 11 + 1 = 12 := ⟨by decide +kernel, rfl⟩
theorem dc_M_moves_12 : decode prog_10_method_39_code 12 = .ok (.isub, 1) ∧ 12 + 1 = 13 := ⟨by decide +kernel, rfl⟩
theorem dc_M_moves_13 : decode prog_10_method_39_code 13 = .ok (.aload_n 0, 1) ∧ 13 + 1 = 14 := ⟨by decide +kernel, rfl⟩
theorem dc_M_moves_14 : decode prog_10_method_39_code 14 = .ok (.getfield 7, 3) ∧ 14 + 3 = 17 := ⟨by decide +kernel, rfl⟩
theorem dc_M_moves_17 : decode prog_10_method_39_code 17 = .ok (.iconst 0, 1) ∧ 17 + 1 = 18 := ⟨by decide +kernel, rfl⟩
theorem dc_M_moves_18 : decode prog_10_method_39_code 18 = .ok (.iaload, 1) ∧ 18 + 1 = 19 := ⟨by decide +kernel, rfl⟩
theorem dc_M_moves_19 : decode prog_10_method_39_code 19 = .ok (.idiv, 1) ∧ 19 + 1 = 20 := ⟨by decide +kernel, rfl⟩
theorem dc_M_moves_20 : decode prog_10_method_39_code 20 = .ok (.istore_n 2, 1) ∧ 20 + 1 = 21 := ⟨by decide +kernel, rfl⟩
theorem dc_M_moves_21 : decode prog_10_method_39_code 21 = .ok (.iload_n 2, 1) ∧ 21 + 1 = 22 := ⟨by decide +kernel, rfl⟩
theorem dc_M_moves_22 : decode prog_10_method_39_code 22 = .ok (.ifCond .ge 7, 3) ∧ ((22 : Nat) : Int) + (7) = ((29 : Nat) : Int) ∧ 22 + 3 = 25 := ⟨by decide +kernel, by decide, rfl⟩
theorem dc_M_moves_25 : decode prog_10_method_39_code 25 = .ok (.iconst (-1), 1) ∧ 25 + 1 = 26 := ⟨by decide +kernel, rfl⟩
theorem dc_M_moves_26 : decode prog_10_method_39_code 26 = .ok (.goto 4, 3) ∧ ((26 : Nat) : Int) + (4) = ((30 : Nat) : Int) := ⟨by decide +kernel, by decide⟩
theorem dc_M_moves_29 : decode prog_10_method_39_code 29 = .ok (.iconst 1, 1) ∧ 29 + 1 = 30 := ⟨by decide +kernel, rfl⟩
theorem dc_M_moves_30 : decode prog_10_method_39_code 30 = .ok (.istore_n 3, 1) ∧ 30 + 1 = 31 := ⟨by decide +kernel, rfl⟩
theorem dc_M_moves_31 : decode prog_10_method_39_code 31 = .ok (.iconst 0, 1) ∧ 31 + 1 = 32 := ⟨by decide +kernel, rfl⟩
theorem dc_M_moves_32 : decode prog_10_method_39_code 32 = .ok (.istore 4, 2) ∧ 32 + 2 = 34 := ⟨by decide +kernel, rfl⟩
theorem dc_M_moves_34 : decode prog_10_method_39_code 34 = .ok (.iload 4, 2) ∧ 34 + 2 = 36 := ⟨by decide +kernel, rfl⟩
theorem dc_M_moves_36 : decode prog_10_method_39_code 36 = .ok (.iload_n 2, 1) ∧ 36 + 1 = 37 := ⟨by decide +kernel, rfl⟩
theorem dc_M_moves_37 : decode prog_10_method_39_code 37 = .ok (.invokestatic 120, 3) ∧ 37 + 3 = 40 := ⟨by decide +kernel, rfl⟩
theorem dc_M_moves_40 : decode prog_10_method_39_code 40 = .ok (.if_icmp .ge 14, 3) ∧ ((40 : Nat) : Int) + (14) = ((54 : Nat) : Int) ∧ 40 + 3 = 43 := ⟨by decide +kernel, by decide, rfl⟩
theorem dc_M_moves_43 : decode prog_10_method_39_code 43 = .ok (.aload_n 0, 1) ∧ 43 + 1 = 44 := ⟨by decide +kernel, rfl⟩
theorem dc_M_moves_44 : decode prog_10_method_39_code 44 = .ok (.iload_n 3, 1) ∧ 44 + 1 = 45 := ⟨by decide +kernel, rfl⟩
theorem dc_M_moves_45 : decode prog_10_method_39_code 45 = .ok (.invokevirtual 132, 3) ∧ 45 + 3 = 48 := ⟨by decide +kernel, rfl⟩
theorem dc_M_moves_48 : decode prog_10_method_39_code 48 = .ok (.iinc 4 1, 3) ∧ 48 + 3 = 51 := ⟨by decide +kernel, rfl⟩
theorem dc_M_moves_51 : decode prog_10_method_39_code 51 = .ok (.goto (-17), 3) ∧ ((51 : Nat) : Int) + (-17) = ((34 : Nat) : Int) := ⟨by decide +kernel, by decide⟩
theorem dc_M_moves_54 : decode prog_10_method_39_code 54 = .ok (.return_, 1) := by decide +kernel
theorem dc_M_size_0 : decode prog_10_method_4_code 0 = .ok (.iload_n 0, 1) ∧ 0 + 1 = 1 := ⟨by decide +kernel, rfl⟩
theorem dc_M_size_1 : decode prog_10_method_4_code 1 = .ok (.ifCond .ge 8, 3) ∧ ((1 : Nat) : Int) + (8) = ((9 : Nat) : Int) ∧ 1 + 3 = 4 := ⟨by decide +kernel, by decide, rfl⟩
theorem dc_M_size_4 : decode prog_10_method_4_code 4 = .ok (.iload_n 0, 1) ∧ 4 + 1 = 5 := ⟨by decide +kernel, rfl⟩
theorem dc_M_size_5 : decode prog_10_method_4_code 5 = .ok (.ineg, 1) ∧ 5 + 1 = 6 := ⟨by decide +kernel, rfl⟩
theorem dc_M_size_6 : decode prog_10_method_4_code 6 = .ok (.goto 4, 3) ∧ ((6 : Nat) : Int) + (4) = ((10 : Nat) : Int) := ⟨by decide +kernel, by decide⟩
theorem dc_M_size_9 : decode prog_10_method_4_code 9 = .ok (.iload_n 0, 1) ∧ 9 + 1 = 10 := ⟨by decide +kernel, rfl⟩
theorem dc_M_size_10 : decode prog_10_method_4_code 10 = .ok (.ireturn, 1) := by decide +kernel
theorem dc_M_microstep_0 : decode prog_10_method_37_code 0 = .ok (.aload_n 0, 1) ∧ 0 + 1 = 1 := ⟨by decide +kernel, rfl⟩
theorem dc_M_microstep_1 : decode prog_10_method_37_code 1 = .ok (.getfield 7, 3) ∧ 1 + 3 = 4 := ⟨by decide +kernel, rfl⟩
theorem dc_M_microstep_4 : decode prog_10_method_37_code 4 = .ok (.bipush 12, 2) ∧ 4 + 2 = 6 := ⟨by decide +kernel, rfl⟩
theorem dc_M_microstep_6 : decode prog_10_method_37_code 6 = .ok (.dup2, 1) ∧ 6 + 1 = 7 := ⟨by decide +kernel, rfl⟩
theorem dc_M_microstep_7 : decode prog_10_method_37_code 7 = .ok (.iaload, 1) ∧ 7 + 1 = 8 := ⟨by decide +kernel, rfl⟩
theorem dc_M_microstep_8 : decode prog_10_method_37_code 8 = .ok (.iconst 1, 1) ∧ 8 + 1 = 9 := ⟨by decide +kernel, rfl⟩
theorem dc_M_microstep_9 : decode prog_10_method_37_code 9 = .ok (.iadd, 1) ∧ 9 + 1 = 10 := ⟨by decide +kernel, rfl⟩
theorem dc_M_microstep_10 : decode prog_10_method_37_code 10 = .ok (.iastore, 1) ∧ 10 + 1 = 11 := ⟨by decide +kernel, rfl⟩
theorem dc_M_microstep_11 : decode prog_10_method_37_code 11 = .ok (.aload_n 0, 1) ∧ 11 + 1 = 12 := ⟨by decide +kernel, rfl⟩
theorem dc_M_microstep_12 : decode prog_10_method_37_code 12 = .ok (.getfield 7, 3) ∧ 12 + 3 = 15 := ⟨by decide +kernel, rfl⟩
theorem dc_M_microstep_15 : decode prog_10_method_37_code 15 = .ok (.bipush 6, 2) ∧ 15 + 2 = 17 := ⟨by decide +kernel, rfl⟩
theorem dc_M_microstep_17 : decode prog_10_method_37_code 17 = .ok (.dup2, 1) ∧ 17 + 1 = 18 := ⟨by decide +kernel, rfl⟩
theorem dc_M_microstep_18 : decode prog_10_method_37_code 18 = .ok (.iaload, 1) ∧ 18 + 1 = 19 := ⟨by decide +kernel, rfl⟩
theorem dc_M_microstep_19 : decode prog_10_method_37_code 19 = .ok (.iload_n 1, 1) ∧ 19 + 1 = 20 := ⟨by decide +kernel, rfl⟩
theorem dc_M_microstep_20 : decode prog_10_method_37_code 20 = .ok (.aload_n 0, 1) ∧ 20 + 1 = 21 := ⟨by decide +kernel, rfl⟩
theorem dc_M_microstep_21 : decode prog_10_method_37_code 21 = .ok (.getfield 7, 3) ∧ 21 + 3 = 24 := ⟨by decide +kernel, rfl⟩
theorem dc_M_microstep_24 : decode prog_10_method_37_code 24 = .ok (.iconst 0, 1) ∧ 24 + 1 = 25 := ⟨by decide +kernel, rfl⟩
theorem dc_M_microstep_25 : decode prog_10_method_37_code 25 = .ok (.iaload, 1) ∧ 25 + 1 = 26 := ⟨by decide +kernel, rfl⟩
theorem dc_M_microstep_26 : decode prog_10_method_37_code 26 = .ok (.imul, 1) ∧ 26 + 1 = 27 := ⟨by decide +kernel, rfl⟩
theorem dc_M_microstep_27 : decode prog_10_method_37_code 27 = .ok (.iadd, 1) ∧ 27 + 1 = 28 := ⟨by decide +kernel, rfl⟩
theorem dc_M_microstep_28 : decode prog_10_method_37_code 28 = .ok (.iastore, 1) ∧ 28 + 1 = 29 := ⟨by decide +kernel, rfl⟩
theorem dc_M_microstep_29 : decode prog_10_method_37_code 29 = .ok (.aload_n 0, 1) ∧ 29 + 1 = 30 := ⟨by decide +kernel, rfl⟩
theorem dc_M_microstep_30 : decode prog_10_method_37_code 30 = .ok (.getfield 7, 3) ∧ 30 + 3 = 33 := ⟨by decide +kernel, rfl⟩
theorem dc_M_microstep_33 : decode prog_10_method_37_code 33 = .ok (.bipush 9, 2) ∧ 33 + 2 = 35 := ⟨by decide +kernel, rfl⟩
theorem dc_M_microstep_35 : decode prog_10_method_37_code 35 = .ok (.dup2, 1) ∧ 35 + 1 = 36 := ⟨by decide +kernel, rfl⟩
theorem dc_M_microstep_36 : decode prog_10_method_37_code 36 = .ok (.iaload, 1) ∧ 36 + 1 = 37 := ⟨by decide +kernel, rfl⟩
theorem dc_M_microstep_37 : decode prog_10_method_37_code 37 = .ok (.iload_n 1, 1) ∧ 37 + 1 = 38 := ⟨by decide +kernel, rfl⟩
theorem dc_M_microstep_38 : decode prog_10_method_37_code 38 = .ok (.aload_n 0, 1) ∧ 38 + 1 = 39 := ⟨by decide +kernel, rfl⟩
theorem dc_M_microstep_39 : decode prog_10_method_37_code 39 = .ok (.getfield 7, 3) ∧ 39 + 3 = 42 := ⟨by decide +kernel, rfl⟩
theorem dc_M_microstep_42 : decode prog_10_method_37_code 42 = .ok (.iconst 0, 1) ∧ 42 + 1 = 43 := ⟨by decide +kernel, rfl⟩
theorem dc_M_microstep_43 : decode prog_10_method_37_code 43 = .ok (.iaload, 1) ∧ 43 + 1 = 44 := ⟨by decide +kernel, rfl⟩
theorem dc_M_microstep_44 : decode prog_10_method_37_code 44 = .ok (.imul, 1) ∧ 44 + 1 = 45 := ⟨by decide +kernel, rfl⟩
theorem dc_M_microstep_45 : decode prog_10_method_37_code 45 = .ok (.iadd, 1) ∧ 45 + 1 = 46 := ⟨by decide +kernel, rfl⟩
theorem dc_M_microstep_46 : decode prog_10_method_37_code 46 = .ok (.iastore, 1) ∧ 46 + 1 = 47 := ⟨by decide +kernel, rfl⟩
theorem dc_M_microstep_47 : decode prog_10_method_37_code 47 = .ok (.aload_n 0, 1) ∧ 47 + 1 = 48 := ⟨by decide +kernel, rfl⟩
theorem dc_M_microstep_48 : decode prog_10_method_37_code 48 = .ok (.invokevirtual 113, 3) ∧ 48 + 3 = 51 := ⟨by decide +kernel, rfl⟩
theorem dc_M_microstep_51 : decode prog_10_method_37_code 51 = .ok (.aload_n 0, 1) ∧ 51 + 1 = 52 := ⟨by decide +kernel, rfl⟩
theorem dc_M_microstep_52 : decode prog_10_method_37_code 52 = .ok (.aload_n 0, 1) ∧ 52 + 1 = 53 := ⟨by decide +kernel, rfl⟩
theorem dc_M_microstep_53 : decode prog_10_method_37_code 53 = .ok (.getfield 7, 3) ∧ 53 + 3 = 56 := ⟨by decide +kernel, rfl⟩
theorem dc_M_microstep_56 : decode prog_10_method_37_code 56 = .ok (.bipush 8, 2) ∧ 56 + 2 = 58 := ⟨by decide +kernel, rfl⟩
theorem dc_M_microstep_58 : decode prog_10_method_37_code 58 = .ok (.iaload, 1) ∧ 58 + 1 = 59 := ⟨by decide +kernel, rfl⟩
theorem dc_M_microstep_59 : decode prog_10_method_37_code 59 = .ok (.invokevirtual 116, 3) ∧ 59 + 3 = 62 := ⟨by decide +kernel, rfl⟩
theorem dc_M_microstep_62 : decode prog_10_method_37_code 62 = .ok (.if_icmp .lt 53, 3) ∧ ((62 : Nat) : Int) + (53) = ((115 : Nat) : Int) ∧ 62 + 3 = 65 := ⟨by decide +kernel, by decide, rfl⟩
theorem dc_M_microstep_65 : decode prog_10_method_37_code 65 = .ok (.aload_n 0, 1) ∧ 65 + 1 = 66 := ⟨by decide +kernel, rfl⟩
theorem dc_M_microstep_66 : decode prog_10_method_37_code 66 = .ok (.getfield 7, 3) ∧ 66 + 3 = 69 := ⟨by decide +kernel, rfl⟩
theorem dc_M_microstep_69 : decode prog_10_method_37_code 69 = .ok (.bipush 16, 2) ∧ 69 + 2 = 71 := ⟨by decide +kernel, rfl⟩
theorem dc_M_microstep_71 : decode prog_10_method_37_code 71 = .ok (.dup2, 1) ∧ 71 + 1 = 72 := ⟨by decide +kernel, rfl⟩
theorem dc_M_microstep_72 : decode prog_10_method_37_code 72 = .ok (.iaload, 1) ∧ 72 + 1 = 73 := ⟨by decide +kernel, rfl⟩
theorem dc_M_microstep_73 : decode prog_10_method_37_code 73 = .ok (.aload_n 0, 1) ∧ 73 + 1 = 74 := ⟨by decide +kernel, rfl⟩
theorem dc_M_microstep_74 : decode prog_10_method_37_code 74 = .ok (.getfield 7, 3) ∧ 74 + 3 = 77 := ⟨by decide +kernel, rfl⟩
theorem dc_M_microstep_77 : decode prog_10_method_37_code 77 = .ok (.bipush 9, 2) ∧ 77 + 2 = 79 := ⟨by decide +kernel, rfl⟩
theorem dc_M_microstep_79 : decode prog_10_method_37_code 79 = .ok (.iaload, 1) ∧ 79 + 1 = 80 := ⟨by decide +kernel, rfl⟩
theorem dc_M_microstep_80 : decode prog_10_method_37_code 80 = .ok (.invokestatic 120, 3) ∧ 80 + 3 = 83 := ⟨by decide +kernel, rfl⟩
theorem dc_M_microstep_83 : decode prog_10_method_37_code 83 = .ok (.iadd, 1) ∧ 83 + 1 = 84 := ⟨by decide +kernel, rfl⟩
theorem dc_M_microstep_84 : decode prog_10_method_37_code 84 = .ok (.iastore, 1) ∧ 84 + 1 = 85 := ⟨by decide +kernel, rfl⟩
theorem dc_M_microstep_85 : decode prog_10_method_37_code 85 = .ok (.aload_n 0, 1) ∧ 85 + 1 = 86 := ⟨by decide +kernel, rfl⟩
theorem dc_M_microstep_86 : decode prog_10_method_37_code 86 = .ok (.getfield 7, 3) ∧ 86 + 3 = 89 := ⟨by decide +kernel, rfl⟩
theorem dc_M_microstep_89 : decode prog_10_method_37_code 89 = .ok (.bipush 7, 2) ∧ 89 + 2 = 91 := ⟨by decide +kernel, rfl⟩
theorem dc_M_microstep_91 : decode prog_10_method_37_code 91 = .ok (.dup2, 1) ∧ 91 + 1 = 92 := ⟨by decide +kernel, rfl⟩
theorem dc_M_microstep_92 : decode prog_10_method_37_code 92 = .ok (.iaload, 1) ∧ 92 + 1 = 93 := ⟨by decide +kernel, rfl⟩
theorem dc_M_microstep_93 : decode prog_10_method_37_code 93 = .ok (.aload_n 0, 1) ∧ 93 + 1 = 94 := ⟨by decide +kernel, rfl⟩
theorem dc_M_microstep_94 : decode prog_10_method_37_code 94 = .ok (.getfield 7, 3) ∧ 94 + 3 = 97 := ⟨by decide +kernel, rfl⟩
theorem dc_M_microstep_97 : decode prog_10_method_37_code 97 = .ok (.bipush 9, 2) ∧ 97 + 2 = 99 := ⟨by decide +kernel, rfl⟩
theorem dc_M_microstep_99 : decode prog_10_method_37_code 99 = .ok (.iaload, 1) ∧ 99 + 1 = 100 := ⟨by decide +kernel, rfl⟩
theorem dc_M_microstep_100 : decode prog_10_method_37_code 100 = .ok (.iadd, 1) ∧ 100 + 1 = 101 := ⟨by decide +kernel, rfl⟩
theorem dc_M_microstep_101 : decode prog_10_method_37_code 101 = .ok (.iastore, 1) ∧ 101 + 1 = 102 := ⟨by decide +kernel, rfl⟩
theorem dc_M_microstep_102 : decode prog_10_method_37_code 102 = .ok (.aload_n 0, 1) ∧ 102 + 1 = 103 := ⟨by decide +kernel, rfl⟩
theorem dc_M_microstep_103 : decode prog_10_method_37_code 103 = .ok (.getfield 7, 3) ∧ 103 + 3 = 106 := ⟨by decide +kernel, rfl⟩
theorem dc_M_microstep_106 : decode prog_10_method_37_code 106 = .ok (.bipush 9, 2) ∧ 106 + 2 = 108 := ⟨by decide +kernel, rfl⟩
theorem dc_M_microstep_108 : decode prog_10_method_37_code 108 = .ok (.iconst 0, 1) ∧ 108 + 1 = 109 := ⟨by decide +kernel, rfl⟩
theorem dc_M_microstep_109 : decode prog_10_method_37_code 109 = .ok (.iastore, 1) ∧ 109 + 1 = 110 := ⟨by decide +kernel, rfl⟩
theorem dc_M_microstep_110 : decode prog_10_method_37_code 110 = .ok (.aload_n 0, 1) ∧ 110 + 1 = 111 := ⟨by decide +kernel, rfl⟩
theorem dc_M_microstep_111 : decode prog_10_method_37_code 111 = .ok (.invokevirtual 123, 3) ∧ 111 + 3 = 114 := ⟨by decide +kernel, rfl⟩
theorem dc_M_microstep_114 : decode prog_10_method_37_code 114 = .ok (.return_, 1) := by decide +kernel
theorem dc_M_microstep_115 : decode prog_10_method_37_code 115 = .ok (.aload_n 0, 1) ∧ 115 + 1 = 116 := ⟨by decide +kernel, rfl⟩
theorem dc_M_microstep_116 : decode prog_10_method_37_code 116 = .ok (.getfield 7, 3) ∧ 116 + 3 = 119 := ⟨by decide +kernel, rfl⟩
theorem dc_M_microstep_119 : decode prog_10_method_37_code 119 = .ok (.bipush 13, 2) ∧ 119 + 2 = 121 := ⟨by decide +kernel, rfl⟩
theorem dc_M_microstep_121 : decode prog_10_method_37_code 121 = .ok (.dup2, 1) ∧ 121 + 1 = 122 := ⟨by decide +kernel, rfl⟩
theorem dc_M_microstep_122 : decode prog_10_method_37_code 122 = .ok (.iaload, 1) ∧ 122 + 1 = 123 := ⟨by decide +kernel, rfl⟩
theorem dc_M_microstep_123 : decode prog_10_method_37_code 123 = .ok (.iconst 1, 1) ∧ 123 + 1 = 124 := ⟨by decide +kernel, rfl⟩
theorem dc_M_microstep_124 : decode prog_10_method_37_code 124 = .ok (.iadd, 1) ∧ 124 + 1 = 125 := ⟨by decide +kernel, rfl⟩
theorem dc_M_microstep_125 : decode prog_10_method_37_code 125 = .ok (.iastore, 1) ∧ 125 + 1 = 126 := ⟨by decide +kernel, rfl⟩
theorem dc_M_microstep_126 : decode prog_10_method_37_code 126 = .ok (.aload_n 0, 1) ∧ 126 + 1 = 127 := ⟨by decide +kernel, rfl⟩
theorem dc_M_microstep_127 : decode prog_10_method_37_code 127 = .ok (.getfield 7, 3) ∧ 127 + 3 = 130 := ⟨by decide +kernel, rfl⟩
theorem dc_M_microstep_130 : decode prog_10_method_37_code 130 = .ok (.bipush 9, 2) ∧ 130 + 2 = 132 := ⟨by decide +kernel, rfl⟩
theorem dc_M_microstep_132 : decode prog_10_method_37_code 132 = .ok (.iaload, 1) ∧ 132 + 1 = 133 := ⟨by decide +kernel, rfl⟩
theorem dc_M_microstep_133 : decode prog_10_method_37_code 133 = .ok (.bipush 32, 2) ∧ 133 + 2 = 135 := ⟨by decide +kernel, rfl⟩
theorem dc_M_microstep_135 : decode prog_10_method_37_code 135 = .ok (.if_icmp .lt 41, 3) ∧ ((135 : Nat) : Int) + (41) = ((176 : Nat) : Int) ∧ 135 + 3 = 138 := ⟨by decide +kernel, by decide, rfl⟩
theorem dc_M_microstep_138 : decode prog_10_method_37_code 138 = .ok (.aload_n 0, 1) ∧ 138 + 1 = 139 := ⟨by decide +kernel, rfl⟩
theorem dc_M_microstep_139 : decode prog_10_method_37_code 139 = .ok (.getfield 7, 3) ∧ 139 + 3 = 142 := ⟨by decide +kernel, rfl⟩
theorem dc_M_microstep_142 : decode prog_10_method_37_code 142 = .ok (.bipush 14, 2) ∧ 142 + 2 = 144 := ⟨by decide +kernel, rfl⟩
theorem dc_M_microstep_144 : decode prog_10_method_37_code 144 = .ok (.dup2, 1) ∧ 144 + 1 = 145 := ⟨by decide +kernel, rfl⟩
theorem dc_M_microstep_145 : decode prog_10_method_37_code 145 = .ok (.iaload, 1) ∧ 145 + 1 = 146 := ⟨by decide +kernel, rfl⟩
theorem dc_M_microstep_146 : decode prog_10_method_37_code 146 = .ok (.iconst 1, 1) ∧ 146 + 1 = 147 := ⟨by decide +kernel, rfl⟩
theorem dc_M_microstep_147 : decode prog_10_method_37_code 147 = .ok (.iadd, 1) ∧ 147 + 1 = 148 := ⟨by decide +kernel, rfl⟩
theorem dc_M_microstep_148 : decode prog_10_method_37_code 148 = .ok (.iastore, 1) ∧ 148 + 1 = 149 := ⟨by decide +kernel, rfl⟩
theorem dc_M_microstep_149 : decode prog_10_method_37_code 149 = .ok (.aload_n 0, 1) ∧ 149 + 1 = 150 := ⟨by decide +kernel, rfl⟩
theorem dc_M_microstep_150 : decode prog_10_method_37_code 150 = .ok (.getfield 7, 3) ∧ 150 + 3 = 153 := ⟨by decide +kernel, rfl⟩
theorem dc_M_microstep_153 : decode prog_10_method_37_code 153 = .ok (.bipush 10, 2) ∧ 153 + 2 = 155 := ⟨by decide +kernel, rfl⟩
theorem dc_M_microstep_155 : decode prog_10_method_37_code 155 = .ok (.dup2, 1) ∧ 155 + 1 = 156 := ⟨by decide +kernel, rfl⟩
theorem dc_M_microstep_156 : decode prog_10_method_37_code 156 = .ok (.iaload, 1) ∧ 156 + 1 = 157 := ⟨by decide +kernel, rfl⟩
theorem dc_M_microstep_157 : decode prog_10_method_37_code 157 = .ok (.bipush 64, 2) ∧ 157 + 2 = 159 := ⟨by decide +kernel, rfl⟩
theorem dc_M_microstep_159 : decode prog_10_method_37_code 159 = .ok (.iadd, 1) ∧ 159 + 1 = 160 := ⟨by decide +kernel, rfl⟩
theorem dc_M_microstep_160 : decode prog_10_method_37_code 160 = .ok (.iastore, 1) ∧ 160 + 1 = 161 := ⟨by decide +kernel, rfl⟩
theorem dc_M_microstep_161 : decode prog_10_method_37_code 161 = .ok (.aload_n 0, 1) ∧ 161 + 1 = 162 := ⟨by decide +kernel, rfl⟩
theorem dc_M_microstep_162 : decode prog_10_method_37_code 162 = .ok (.getfield 7, 3) ∧ 162 + 3 = 165 := ⟨by decide +kernel, rfl⟩
theorem dc_M_microstep_165 : decode prog_10_method_37_code 165 = .ok (.bipush 9, 2) ∧ 165 + 2 = 167 := ⟨by decide +kernel, rfl⟩
theorem dc_M_microstep_167 : decode prog_10_method_37_code 167 = .ok (.dup2, 1) ∧ 167 + 1 = 168 := ⟨by decide +kernel, rfl⟩
theorem dc_M_microstep_168 : decode prog_10_method_37_code 168 = .ok (.iaload, 1) ∧ 168 + 1 = 169 := ⟨by decide +kernel, rfl⟩
theorem dc_M_microstep_169 : decode prog_10_method_37_code 169 = .ok (.bipush 64, 2) ∧ 169 + 2 = 171 := ⟨by decide +kernel, rfl⟩
theorem dc_M_microstep_171 : decode prog_10_method_37_code 171 = .ok (.isub, 1) ∧ 171 + 1 = 172 := ⟨by decide +kernel, rfl⟩
theorem dc_M_microstep_172 : decode prog_10_method_37_code 172 = .ok (.iastore, 1) ∧ 172 + 1 = 173 := ⟨by decide +kernel, rfl⟩
theorem dc_M_microstep_173 : decode prog_10_method_37_code 173 = .ok (.goto 50, 3) ∧ ((173 : Nat) : Int) + (50) = ((223 : Nat) : Int) := ⟨by decide +kernel, by decide⟩
theorem dc_M_microstep_176 : decode prog_10_method_37_code 176 = .ok (.aload_n 0, 1) ∧ 176 + 1 = 177 := ⟨by decide +kernel, rfl⟩
theorem dc_M_microstep_177 : decode prog_10_method_37_code 177 = .ok (.getfield 7, 3) ∧ 177 + 3 = 180 := ⟨by decide +kernel, rfl⟩
theorem dc_M_microstep_180 : decode prog_10_method_37_code 180 = .ok (.bipush 9, 2) ∧ 180 + 2 = 182 := ⟨by decide +kernel, rfl⟩
theorem dc_M_microstep_182 : decode prog_10_method_37_code 182 = .ok (.iaload, 1) ∧ 182 + 1 = 183 := ⟨by decide +kernel, rfl⟩
theorem dc_M_microstep_183 : decode prog_10_method_37_code 183 = .ok (.bipush (-32), 2) ∧ 183 + 2 = 185 := ⟨by decide +kernel, rfl⟩
theorem dc_M_microstep_185 : decode prog_10_method_37_code 185 = .ok (.if_icmp .gt 38, 3) ∧ ((185 : Nat) : Int) + (38) = ((223 : Nat) : Int) ∧ 185 + 3 = 188 := ⟨by decide +kernel, by decide, rfl⟩
theorem dc_M_microstep_188 : decode prog_10_method_37_code 188 = .ok (.aload_n 0, 1) ∧ 188 + 1 = 189 := ⟨by decide +kernel, rfl⟩
theorem dc_M_microstep_189 : decode prog_10_method_37_code 189 = .ok (.getfield 7, 3) ∧ 189 + 3 = 192 := ⟨by decide +kernel, rfl⟩
theorem dc_M_microstep_192 : decode prog_10_method_37_code 192 = .ok (.bipush 15, 2) ∧ 192 + 2 = 194 := ⟨by decide +kernel, rfl⟩
theorem dc_M_microstep_194 : decode prog_10_method_37_code 194 = .ok (.dup2, 1) ∧ 194 + 1 = 195 := ⟨by decide +kernel, rfl⟩
theorem dc_M_microstep_195 : decode prog_10_method_37_code 195 = .ok (.iaload, 1) ∧ 195 + 1 = 196 := ⟨by decide +kernel, rfl⟩
theorem dc_M_microstep_196 : decode prog_10_method_37_code 196 = .ok (.iconst 1, 1) ∧ 196 + 1 = 197 := ⟨by decide +kernel, rfl⟩
theorem dc_M_microstep_197 : decode prog_10_method_37_code 197 = .ok (.iadd, 1) ∧ 197 + 1 = 198 := ⟨by decide +kernel, rfl⟩
theorem dc_M_microstep_198 : decode prog_10_method_37_code 198 = .ok (.iastore, 1) ∧ 198 + 1 = 199 := ⟨by decide +kernel, rfl⟩
theorem dc_M_microstep_199 : decode prog_10_method_37_code 199 = .ok (.aload_n 0, 1) ∧ 199 + 1 = 200 := ⟨by decide +kernel, rfl⟩
theorem dc_M_microstep_200 : decode prog_10_method_37_code 200 = .ok (.getfield 7, 3) ∧ 200 + 3 = 203 := ⟨by decide +kernel, rfl⟩
theorem dc_M_microstep_203 : decode prog_10_method_37_code 203 = .ok (.bipush 10, 2) ∧ 203 + 2 = 205 := ⟨by decide +kernel, rfl⟩
theorem dc_M_microstep_205 : decode prog_10_method_37_code 205 = .ok (.dup2, 1) ∧ 205 + 1 = 206 := ⟨by decide +kernel, rfl⟩
theorem dc_M_microstep_206 : decode prog_10_method_37_code 206 = .ok (.iaload, 1) ∧ 206 + 1 = 207 := ⟨by decide +kernel, rfl⟩
theorem dc_M_microstep_207 : decode prog_10_method_37_code 207 = .ok (.bipush 64, 2) ∧ 207 + 2 = 209 := ⟨by decide +kernel, rfl⟩
theorem dc_M_microstep_209 : decode prog_10_method_37_code 209 = .ok (.isub, 1) ∧ 209 + 1 = 210 := ⟨by decide +kernel, rfl⟩
theorem dc_M_microstep_210 : decode prog_10_method_37_code 210 = .ok (.iastore, 1) ∧ 210 + 1 = 211 := ⟨by decide +kernel, rfl⟩
theorem dc_M_microstep_211 : decode prog_10_method_37_code 211 = .ok (.aload_n 0, 1) ∧ 211 + 1 = 212 := ⟨by decide +kernel, rfl⟩
theorem dc_M_microstep_212 : decode prog_10_method_37_code 212 = .ok (.getfield 7, 3) ∧ 212 + 3 = 215 := ⟨by decide +kernel, rfl⟩
theorem dc_M_microstep_215 : decode prog_10_method_37_code 215 = .ok (.bipush 9, 2) ∧ 215 + 2 = 217 := ⟨by decide +kernel, rfl⟩
theorem dc_M_microstep_217 : decode prog_10_method_37_code 217 = .ok (.dup2, 1) ∧ 217 + 1 = 218 := ⟨by decide +kernel, rfl⟩
theorem dc_M_microstep_218 : decode prog_10_method_37_code 218 = .ok (.iaload, 1) ∧ 218 + 1 = 219 := ⟨by decide +kernel, rfl⟩
theorem dc_M_microstep_219 : decode prog_10_method_37_code 219 = .ok (.bipush 64, 2) ∧ 219 + 2 = 221 := ⟨by decide +kernel, rfl⟩
theorem dc_M_microstep_221 : decode prog_10_method_37_code 221 = .ok (.iadd, 1) ∧ 221 + 1 = 222 := ⟨by decide +kernel, rfl⟩
theorem dc_M_microstep_222 : decode prog_10_method_37_code 222 = .ok (.iastore, 1) ∧ 222 + 1 = 223 := ⟨by decide +kernel, rfl⟩
theorem dc_M_microstep_223 : decode prog_10_method_37_code 223 = .ok (.return_, 1) := by decide +kernel
theorem dc_M_torque_0 : decode prog_10_method_35_code 0 = .ok (.aload_n 0, 1) ∧ 0 + 1 = 1 := ⟨by decide +kernel, rfl⟩
theorem dc_M_torque_1 : decode prog_10_method_35_code 1 = .ok (.getfield 7, 3) ∧ 1 + 3 = 4 := ⟨by decide +kernel, rfl⟩
theorem dc_M_torque_4 : decode prog_10_method_35_code 4 = .ok (.iconst 1, 1) ∧ 4 + 1 = 5 := ⟨by decide +kernel, rfl⟩
theorem dc_M_torque_5 : decode prog_10_method_35_code 5 = .ok (.iaload, 1) ∧ 5 + 1 = 6 := ⟨by decide +kernel, rfl⟩
theorem dc_M_torque_6 : decode prog_10_method_35_code 6 = .ok (.aload_n 0, 1) ∧ 6 + 1 = 7 := ⟨by decide +kernel, rfl⟩
theorem dc_M_torque_7 : decode prog_10_method_35_code 7 = .ok (.getfield 7, 3) ∧ 7 + 3 = 10 := ⟨by decide +kernel, rfl⟩
theorem dc_M_torque_10 : decode prog_10_method_35_code 10 = .ok (.iconst 2, 1) ∧ 10 + 1 = 11 := ⟨by decide +kernel, rfl⟩
theorem dc_M_torque_11 : decode prog_10_method_35_code 11 = .ok (.iaload, 1) ∧ 11 + 1 = 12 := ⟨by decide +kernel, rfl⟩
theorem dc_M_torque_12 : decode prog_10_method_35_code 12 = .ok (.aload_n 0, 1) ∧ 12 + 1 = 13 := ⟨by decide +kernel, rfl⟩
theorem dc_M_torque_13 : decode prog_10_method_35_code 13 = .ok (.getfield 7, 3) ∧ 13 + 3 = 16 := ⟨by decide +kernel, rfl⟩
theorem dc_M_torque_16 : decode prog_10_method_35_code 16 = .ok (.iconst 3, 1) ∧ 16 + 1 = 17 := ⟨by decide +kernel, rfl⟩
theorem dc_M_torque_17 : decode prog_10_method_35_code 17 = .ok (.iaload, 1) ∧ 17 + 1 = 18 := ⟨by decide +kernel, rfl⟩
theorem dc_M_torque_18 : decode prog_10_method_35_code 18 = .ok (.imul, 1) ∧ 18 + 1 = 19 := ⟨by decide +kernel, rfl⟩
theorem dc_M_torque_19 : decode prog_10_method_35_code 19 = .ok (.bipush 100, 2) ∧ 19 + 2 = 21 := ⟨by decide +kernel, rfl⟩
theorem dc_M_torque_21 : decode prog_10_method_35_code 21 = .ok (.idiv, 1) ∧ 21 + 1 = 22 := ⟨by decide +kernel, rfl⟩
theorem dc_M_torque_22 : decode prog_10_method_35_code 22 = .ok (.isub, 1) ∧ 22 + 1 = 23 := ⟨by decide +kernel, rfl⟩
theorem dc_M_torque_23 : decode prog_10_method_35_code 23 = .ok (.istore_n 1, 1) ∧ 23 + 1 = 24 := ⟨by decide +kernel, rfl⟩
theorem dc_M_torque_24 : decode prog_10_method_35_code 24 = .ok (.iload_n 1, 1) ∧ 24 + 1 = 25 := ⟨by decide +kernel, rfl⟩
theorem dc_M_torque_25 : decode prog_10_method_35_code 25 = .ok (.ifCond .ge 7, 3) ∧ ((25 : Nat) : Int) + (7) = ((32 : Nat) : Int) ∧ 25 + 3 = 28 := ⟨by decide +kernel, by decide, rfl⟩
theorem dc_M_torque_28 : decode prog_10_method_35_code 28 = .ok (.iconst 0, 1) ∧ 28 + 1 = 29 := ⟨by decide +kernel, rfl⟩
theorem dc_M_torque_29 : decode prog_10_method_35_code 29 = .ok (.goto 4, 3) ∧ ((29 : Nat) : Int) + (4) = ((33 : Nat) : Int) := ⟨by decide +kernel, by decide⟩
theorem dc_M_torque_32 : decode prog_10_method_35_code 32 = .ok (.iload_n 1, 1) ∧ 32 + 1 = 33 := ⟨by decide +kernel, rfl⟩
theorem dc_M_torque_33 : decode prog_10_method_35_code 33 = .ok (.ireturn, 1) := by decide +kernel
theorem dc_M_loadOf_0 : decode prog_10_method_33_code 0 = .ok (.aload_n 0, 1) ∧ 0 + 1 = 1 := ⟨by decide +kernel, rfl⟩
theorem dc_M_loadOf_1 : decode prog_10_method_33_code 1 = .ok (.bipush 21, 2) ∧ 1 + 2 = 3 := ⟨by decide +kernel, rfl⟩
theorem dc_M_loadOf_3 : decode prog_10_method_33_code 3 = .ok (.iload_n 1, 1) ∧ 3 + 1 = 4 := ⟨by decide +kernel, rfl⟩
theorem dc_M_loadOf_4 : decode prog_10_method_33_code 4 = .ok (.invokevirtual 39, 3) ∧ 4 + 3 = 7 := ⟨by decide +kernel, rfl⟩
theorem dc_M_loadOf_7 : decode prog_10_method_33_code 7 = .ok (.istore_n 2, 1) ∧ 7 + 1 = 8 := ⟨by decide +kernel, rfl⟩
theorem dc_M_loadOf_8 : decode prog_10_method_33_code 8 = .ok (.iload_n 2, 1) ∧ 8 + 1 = 9 := ⟨by decide +kernel, rfl⟩
theorem dc_M_loadOf_9 : decode prog_10_method_33_code 9 = .ok (.ifCond .ne 7, 3) ∧ ((9 : Nat) : Int) + (7) = ((16 : Nat) : Int) ∧ 9 + 3 = 12 := ⟨by decide +kernel, by decide, rfl⟩
theorem dc_M_loadOf_12 : decode prog_10_method_33_code 12 = .ok (.iconst 0, 1) ∧ 12 + 1 = 13 := ⟨by decide +kernel, rfl⟩
theorem dc_M_loadOf_13 : decode prog_10_method_33_code 13 = .ok (.goto 12, 3) ∧ ((13 : Nat) : Int) + (12) = ((25 : Nat) : Int) := ⟨by decide +kernel, by decide⟩
theorem dc_M_loadOf_16 : decode prog_10_method_33_code 16 = .ok (.aload_n 0, 1) ∧ 16 + 1 = 17 := ⟨by decide +kernel, rfl⟩
theorem dc_M_loadOf_17 : decode prog_10_method_33_code 17 = .ok (.bipush 21, 2) ∧ 17 + 2 = 19 := ⟨by decide +kernel, rfl⟩
theorem dc_M_loadOf_19 : decode prog_10_method_33_code 19 = .ok (.iload_n 2, 1) ∧ 19 + 1 = 20 := ⟨by decide +kernel, rfl⟩
theorem dc_M_loadOf_20 : decode prog_10_method_33_code 20 = .ok (.iconst 1, 1) ∧ 20 + 1 = 21 := ⟨by decide +kernel, rfl⟩
theorem dc_M_loadOf_21 : decode prog_10_method_33_code 21 = .ok (.isub, 1) ∧ 21 + 1 = 22 := ⟨by decide +kernel, rfl⟩
theorem dc_M_loadOf_22 : decode prog_10_method_33_code 22 = .ok (.invokevirtual 50, 3) ∧ 22 + 3 = 25 := ⟨by decide +kernel, rfl⟩
theorem dc_M_loadOf_25 : decode prog_10_method_33_code 25 = .ok (.ireturn, 1) := by decide +kernel
theorem dc_M_follows_0 : decode prog_10_method_36_code 0 = .ok (.aload_n 0, 1) ∧ 0 + 1 = 1 := ⟨by decide +kernel, rfl⟩
theorem dc_M_follows_1 : decode prog_10_method_36_code 1 = .ok (.getfield 7, 3) ∧ 1 + 3 = 4 := ⟨by decide +kernel, rfl⟩
theorem dc_M_follows_4 : decode prog_10_method_36_code 4 = .ok (.bipush 7, 2) ∧ 4 + 2 = 6 := ⟨by decide +kernel, rfl⟩
theorem dc_M_follows_6 : decode prog_10_method_36_code 6 = .ok (.iaload, 1) ∧ 6 + 1 = 7 := ⟨by decide +kernel, rfl⟩
theorem dc_M_follows_7 : decode prog_10_method_36_code 7 = .ok (.aload_n 0, 1) ∧ 7 + 1 = 8 := ⟨by decide +kernel, rfl⟩
theorem dc_M_follows_8 : decode prog_10_method_36_code 8 = .ok (.getfield 7, 3) ∧ 8 + 3 = 11 := ⟨by decide +kernel, rfl⟩
theorem dc_M_follows_11 : decode prog_10_method_36_code 11 = .ok (.iconst 4, 1) ∧ 11 + 1 = 12 := ⟨by decide +kernel, rfl⟩
theorem dc_M_follows_12 : decode prog_10_method_36_code 12 = .ok (.iaload, 1) ∧ 12 + 1 = 13 := ⟨by decide +kernel, rfl⟩
theorem dc_M_follows_13 : decode prog_10_method_36_code 13 = .ok (.isub, 1) ∧ 13 + 1 = 14 := ⟨by decide +kernel, rfl⟩
theorem dc_M_follows_14 : decode prog_10_method_36_code 14 = .ok (.istore_n 1, 1) ∧ 14 + 1 = 15 := ⟨by decide +kernel, rfl⟩
theorem dc_M_follows_15 : decode prog_10_method_36_code 15 = .ok (.aload_n 0, 1) ∧ 15 + 1 = 16 := ⟨by decide +kernel, rfl⟩
theorem dc_M_follows_16 : decode prog_10_method_36_code 16 = .ok (.getfield 7, 3) ∧ 16 + 3 = 19 := ⟨by decide +kernel, rfl⟩
theorem dc_M_follows_19 : decode prog_10_method_36_code 19 = .ok (.bipush 8, 2) ∧ 19 + 2 = 21 := ⟨by decide +kernel, rfl⟩
theorem dc_M_follows_21 : decode prog_10_method_36_code 21 = .ok (.aload_n 0, 1) ∧ 21 + 1 = 22 := ⟨by decide +kernel, rfl⟩
theorem dc_M_follows_22 : decode prog_10_method_36_code 22 = .ok (.getfield 7, 3) ∧ 22 + 3 = 25 := ⟨by decide +kernel, rfl⟩
theorem dc_M_follows_25 : decode prog_10_method_36_code 25 = .ok (.bipush 8, 2) ∧ 25 + 2 = 27 := ⟨by decide +kernel, rfl⟩
theorem dc_M_follows_27 : decode prog_10_method_36_code 27 = .ok (.iaload, 1) ∧ 27 + 1 = 28 := ⟨by decide +kernel, rfl⟩
theorem dc_M_follows_28 : decode prog_10_method_36_code 28 = .ok (.iload_n 1, 1) ∧ 28 + 1 = 29 := ⟨by decide +kernel, rfl⟩
theorem dc_M_follows_29 : decode prog_10_method_36_code 29 = .ok (.if_icmp .ge 7, 3) ∧ ((29 : Nat) : Int) + (7) = ((36 : Nat) : Int) ∧ 29 + 3 = 32 := ⟨by decide +kernel, by decide, rfl⟩
theorem dc_M_follows_32 : decode prog_10_method_36_code 32 = .ok (.iload_n 1, 1) ∧ 32 + 1 = 33 := ⟨by decide +kernel, rfl⟩
theorem dc_M_follows_33 : decode prog_10_method_36_code 33 = .ok (.goto 37, 3) ∧ ((33 : Nat) : Int) + (37) = ((70 : Nat) : Int) := ⟨by decide +kernel, by decide⟩
theorem dc_M_follows_36 : decode prog_10_method_36_code 36 = .ok (.aload_n 0, 1) ∧ 36 + 1 = 37 := ⟨by decide +kernel, rfl⟩
theorem dc_M_follows_37 : decode prog_10_method_36_code 37 = .ok (.getfield 7, 3) ∧ 37 + 3 = 40 := ⟨by decide +kernel, rfl⟩
theorem dc_M_follows_40 : decode prog_10_method_36_code 40 = .ok (.bipush 8, 2) ∧ 40 + 2 = 42 := ⟨by decide +kernel, rfl⟩
theorem dc_M_follows_42 : decode prog_10_method_36_code 42 = .ok (.iaload, 1) ∧ 42 + 1 = 43 := ⟨by decide +kernel, rfl⟩
theorem dc_M_follows_43 : decode prog_10_method_36_code 43 = .ok (.aload_n 0, 1) ∧ 43 + 1 = 44 := ⟨by decide +kernel, rfl⟩
theorem dc_M_follows_44 : decode prog_10_method_36_code 44 = .ok (.getfield 7, 3) ∧ 44 + 3 = 47 := ⟨by decide +kernel, rfl⟩
theorem dc_M_follows_47 : decode prog_10_method_36_code 47 = .ok (.bipush 7, 2) ∧ 47 + 2 = 49 := ⟨by decide +kernel, rfl⟩
theorem dc_M_follows_49 : decode prog_10_method_36_code 49 = .ok (.iaload, 1) ∧ 49 + 1 = 50 := ⟨by decide +kernel, rfl⟩
theorem dc_M_follows_50 : decode prog_10_method_36_code 50 = .ok (.if_icmp .le 13, 3) ∧ ((50 : Nat) : Int) + (13) = ((63 : Nat) : Int) ∧ 50 + 3 = 53 := ⟨by decide +kernel, by decide, rfl⟩
theorem dc_M_follows_53 : decode prog_10_method_36_code 53 = .ok (.aload_n 0, 1) ∧ 53 + 1 = 54 := ⟨by decide +kernel, rfl⟩
theorem dc_M_follows_54 : decode prog_10_method_36_code 54 = .ok (.getfield 7, 3) ∧ 54 + 3 = 57 := ⟨by decide +kernel, rfl⟩
theorem dc_M_follows_57 : decode prog_10_method_36_code 57 = .ok (.bipush 7, 2) ∧ 57 + 2 = 59 := ⟨by decide +kernel, rfl⟩
theorem dc_M_follows_59 : decode prog_10_method_36_code 59 = .ok (.iaload, 1) ∧ 59 + 1 = 60 := ⟨by decide +kernel, rfl⟩
theorem dc_M_follows_60 : decode prog_10_method_36_code 60 = .ok (.goto 10, 3) ∧ ((60 : Nat) : Int) + (10) = ((70 : Nat) : Int) := ⟨by decide +kernel, by decide⟩
theorem dc_M_follows_63 : decode prog_10_method_36_code 63 = .ok (.aload_n 0, 1) ∧ 63 + 1 = 64 := ⟨by decide +kernel, rfl⟩
theorem dc_M_follows_64 : decode prog_10_method_36_code 64 = .ok (.getfield 7, 3) ∧ 64 + 3 = 67 := ⟨by decide +kernel, rfl⟩
theorem dc_M_follows_67 : decode prog_10_method_36_code 67 = .ok (.bipush 8, 2) ∧ 67 + 2 = 69 := ⟨by decide +kernel, rfl⟩
theorem dc_M_follows_69 : decode prog_10_method_36_code 69 = .ok (.iaload, 1) ∧ 69 + 1 = 70 := ⟨by decide +kernel, rfl⟩
theorem dc_M_follows_70 : decode prog_10_method_36_code 70 = .ok (.iastore, 1) ∧ 70 + 1 = 71 := ⟨by decide +kernel, rfl⟩
theorem dc_M_follows_71 : decode prog_10_method_36_code 71 = .ok (.return_, 1) := by decide +kernel
theorem dc_M_addCommand_0 : decode prog_10_method_42_code 0 = .ok (.iload_n 1, 1) ∧ 0 + 1 = 1 := ⟨by decide +kernel, rfl⟩
theorem dc_M_addCommand_1 : decode prog_10_method_42_code 1 = .ok (.invokestatic 65, 3) ∧ 1 + 3 = 4 := ⟨by decide +kernel, rfl⟩
theorem dc_M_addCommand_4 : decode prog_10_method_42_code 4 = .ok (.ifCond .eq 13, 3) ∧ ((4 : Nat) : Int) + (13) = ((17 : Nat) : Int) ∧ 4 + 3 = 7 := ⟨by decide +kernel, by decide, rfl⟩
theorem dc_M_addCommand_7 : decode prog_10_method_42_code 7 = .ok (.iload_n 2, 1) ∧ 7 + 1 = 8 := ⟨by decide +kernel, rfl⟩
theorem dc_M_addCommand_8 : decode prog_10_method_42_code 8 = .ok (.iconst 0, 1) ∧ 8 + 1 = 9 := ⟨by decide +kernel, rfl⟩
theorem dc_M_addCommand_9 : decode prog_10_method_42_code 9 = .ok (.bipush 9, 2) ∧ 9 + 2 = 11 := ⟨by decide +kernel, rfl⟩
theorem dc_M_addCommand_11 : decode prog_10_method_42_code 11 = .ok (.invokestatic 31, 3) ∧ 11 + 3 = 14 := ⟨by decide +kernel, rfl⟩
theorem dc_M_addCommand_14 : decode prog_10_method_42_code 14 = .ok (.ifCond .ne 6, 3) ∧ ((14 : Nat) : Int) + (6) = ((20 : Nat) : Int) ∧ 14 + 3 = 17 := ⟨by decide +kernel, by decide, rfl⟩
theorem dc_M_addCommand_17 : decode prog_10_method_42_code 17 = .ok (.ldc 64, 2) ∧ 17 + 2 = 19 := ⟨by decide +kernel, rfl⟩
theorem dc_M_addCommand_19 : decode prog_10_method_42_code 19 = .ok (.ireturn, 1) := by decide +kernel
theorem dc_M_addCommand_20 : decode prog_10_method_42_code 20 = .ok (.aload_n 0, 1) ∧ 20 + 1 = 21 := ⟨by decide +kernel, rfl⟩
theorem dc_M_addCommand_21 : decode prog_10_method_42_code 21 = .ok (.getfield 7, 3) ∧ 21 + 3 = 24 := ⟨by decide +kernel, rfl⟩
theorem dc_M_addCommand_24 : decode prog_10_method_42_code 24 = .ok (.bipush 63, 2) ∧ 24 + 2 = 26 := ⟨by decide +kernel, rfl⟩
theorem dc_M_addCommand_26 : decode prog_10_method_42_code 26 = .ok (.iaload, 1) ∧ 26 + 1 = 27 := ⟨by decide +kernel, rfl⟩
theorem dc_M_addCommand_27 : decode prog_10_method_42_code 27 = .ok (.bipush 8, 2) ∧ 27 + 2 = 29 := ⟨by decide +kernel, rfl⟩
theorem dc_M_addCommand_29 : decode prog_10_method_42_code 29 = .ok (.if_icmp .ne 6, 3) ∧ ((29 : Nat) : Int) + (6) = ((35 : Nat) : Int) ∧ 29 + 3 = 32 := ⟨by decide +kernel, by decide, rfl⟩
theorem dc_M_addCommand_32 : decode prog_10_method_42_code 32 = .ok (.ldc 46, 2) ∧ 32 + 2 = 34 := ⟨by decide +kernel, rfl⟩
theorem dc_M_addCommand_34 : decode prog_10_method_42_code 34 = .ok (.ireturn, 1) := by decide +kernel
theorem dc_M_addCommand_35 : decode prog_10_method_42_code 35 = .ok (.aload_n 0, 1) ∧ 35 + 1 = 36 := ⟨by decide +kernel, rfl⟩
theorem dc_M_addCommand_36 : decode prog_10_method_42_code 36 = .ok (.invokevirtual 47, 3) ∧ 36 + 3 = 39 := ⟨by decide +kernel, rfl⟩
theorem dc_M_addCommand_39 : decode prog_10_method_42_code 39 = .ok (.aload_n 0, 1) ∧ 39 + 1 = 40 := ⟨by decide +kernel, rfl⟩
theorem dc_M_addCommand_40 : decode prog_10_method_42_code 40 = .ok (.getfield 7, 3) ∧ 40 + 3 = 43 := ⟨by decide +kernel, rfl⟩
theorem dc_M_addCommand_43 : decode prog_10_method_42_code 43 = .ok (.bipush 63, 2) ∧ 43 + 2 = 45 := ⟨by decide +kernel, rfl⟩
theorem dc_M_addCommand_45 : decode prog_10_method_42_code 45 = .ok (.iaload, 1) ∧ 45 + 1 = 46 := ⟨by decide +kernel, rfl⟩
theorem dc_M_addCommand_46 : decode prog_10_method_42_code 46 = .ok (.istore_n 3, 1) ∧ 46 + 1 = 47 := ⟨by decide +kernel, rfl⟩
theorem dc_M_addCommand_47 : decode prog_10_method_42_code 47 = .ok (.iload_n 3, 1) ∧ 47 + 1 = 48 := ⟨by decide +kernel, rfl⟩
theorem dc_M_addCommand_48 : decode prog_10_method_42_code 48 = .ok (.ifCond .le 59, 3) ∧ ((48 : Nat) : Int) + (59) = ((107 : Nat) : Int) ∧ 48 + 3 = 51 := ⟨by decide +kernel, by decide, rfl⟩
theorem dc_M_addCommand_51 : decode prog_10_method_42_code 51 = .ok (.aload_n 0, 1) ∧ 51 + 1 = 52 := ⟨by decide +kernel, rfl⟩
theorem dc_M_addCommand_52 : decode prog_10_method_42_code 52 = .ok (.iload_n 3, 1) ∧ 52 + 1 = 53 := ⟨by decide +kernel, rfl⟩
theorem dc_M_addCommand_53 : decode prog_10_method_42_code 53 = .ok (.iconst 1, 1) ∧ 53 + 1 = 54 := ⟨by decide +kernel, rfl⟩
theorem dc_M_addCommand_54 : decode prog_10_method_42_code 54 = .ok (.isub, 1) ∧ 54 + 1 = 55 := ⟨by decide +kernel, rfl⟩
theorem dc_M_addCommand_55 : decode prog_10_method_42_code 55 = .ok (.iconst 1, 1) ∧ 55 + 1 = 56 := ⟨by decide +kernel, rfl⟩
theorem dc_M_addCommand_56 : decode prog_10_method_42_code 56 = .ok (.invokevirtual 139, 3) ∧ 56 + 3 = 59 := ⟨by decide +kernel, rfl⟩
theorem dc_M_addCommand_59 : decode prog_10_method_42_code 59 = .ok (.iload_n 2, 1) ∧ 59 + 1 = 60 := ⟨by decide +kernel, rfl⟩
theorem dc_M_addCommand_60 : decode prog_10_method_42_code 60 = .ok (.if_icmp .ge 47, 3) ∧ ((60 : Nat) : Int) + (47) = ((107 : Nat) : Int) ∧ 60 + 3 = 63 := ⟨by decide +kernel, by decide, rfl⟩
theorem dc_M_addCommand_63 : decode prog_10_method_42_code 63 = .ok (.aload_n 0, 1) ∧ 63 + 1 = 64 := ⟨by decide +kernel, rfl⟩
theorem dc_M_addCommand_64 : decode prog_10_method_42_code 64 = .ok (.getfield 7, 3) ∧ 64 + 3 = 67 := ⟨by decide +kernel, rfl⟩
theorem dc_M_addCommand_67 : decode prog_10_method_42_code 67 = .ok (.bipush 64, 2) ∧ 67 + 2 = 69 := ⟨by decide +kernel, rfl⟩
theorem dc_M_addCommand_69 : decode prog_10_method_42_code 69 = .ok (.iconst 2, 1) ∧ 69 + 1 = 70 := ⟨by decide +kernel, rfl⟩
theorem dc_M_addCommand_70 : decode prog_10_method_42_code 70 = .ok (.iload_n 3, 1) ∧ 70 + 1 = 71 := ⟨by decide +kernel, rfl⟩
theorem dc_M_addCommand_71 : decode prog_10_method_42_code 71 = .ok (.imul, 1) ∧ 71 + 1 = 72 := ⟨by decide +kernel, rfl⟩
theorem dc_M_addCommand_72 : decode prog_10_method_42_code 72 = .ok (.iadd, 1) ∧ 72 + 1 = 73 := ⟨by decide +kernel, rfl⟩
theorem dc_M_addCommand_73 : decode prog_10_method_42_code 73 = .ok (.aload_n 0, 1) ∧ 73 + 1 = 74 := ⟨by decide +kernel, rfl⟩
theorem dc_M_addCommand_74 : decode prog_10_method_42_code 74 = .ok (.iload_n 3, 1) ∧ 74 + 1 = 75 := ⟨by decide +kernel, rfl⟩
theorem dc_M_addCommand_75 : decode prog_10_method_42_code 75 = .ok (.iconst 1, 1) ∧ 75 + 1 = 76 := ⟨by decide +kernel, rfl⟩
theorem dc_M_addCommand_76 : decode prog_10_method_42_code 76 = .ok (.isub, 1) ∧ 76 + 1 = 77 := ⟨by decide +kernel, rfl⟩
theorem dc_M_addCommand_77 : decode prog_10_method_42_code 77 = .ok (.iconst 0, 1) ∧ 77 + 1 = 78 := ⟨by decide +kernel, rfl⟩
theorem dc_M_addCommand_78 : decode prog_10_method_42_code 78 = .ok (.invokevirtual 139, 3) ∧ 78 + 3 = 81 := ⟨by decide +kernel, rfl⟩
theorem dc_M_addCommand_81 : decode prog_10_method_42_code 81 = .ok (.iastore, 1) ∧ 81 + 1 = 82 := ⟨by decide +kernel, rfl⟩
theorem dc_M_addCommand_82 : decode prog_10_method_42_code 82 = .ok (.aload_n 0, 1) ∧ 82 + 1 = 83 := ⟨by decide +kernel, rfl⟩
theorem dc_M_addCommand_83 : decode prog_10_method_42_code 83 = .ok (.getfield 7, 3) ∧ 83 + 3 = 86 := ⟨by decide +kernel, rfl⟩
theorem dc_M_addCommand_86 : decode prog_10_method_42_code 86 = .ok (.bipush 65, 2) ∧ 86 + 2 = 88 := ⟨by decide +kernel, rfl⟩
theorem dc_M_addCommand_88 : decode prog_10_method_42_code 88 = .ok (.iconst 2, 1) ∧ 88 + 1 = 89 := ⟨by decide +kernel, rfl⟩
theorem dc_M_addCommand_89 : decode prog_10_method_42_code 89 = .ok (.iload_n 3, 1) ∧ 89 + 1 = 90 := ⟨by decide +kernel, rfl⟩
theorem dc_M_addCommand_90 : decode prog_10_method_42_code 90 = .ok (.imul, 1) ∧ 90 + 1 = 91 := ⟨by decide +kernel, rfl⟩
theorem dc_M_addCommand_91 : decode prog_10_method_42_code 91 = .ok (.iadd, 1) ∧ 91 + 1 = 92 := ⟨by decide +kernel, rfl⟩
theorem dc_M_addCommand_92 : decode prog_10_method_42_code 92 = .ok (.aload_n 0, 1) ∧ 92 + 1 = 93 := ⟨by decide +kernel, rfl⟩
theorem dc_M_addCommand_93 : decode prog_10_method_42_code 93 = .ok (.iload_n 3, 1) ∧ 93 + 1 = 94 := ⟨by decide +kernel, rfl⟩
theorem dc_M_addCommand_94 : decode prog_10_method_42_code 94 = .ok (.iconst 1, 1) ∧ 94 + 1 = 95 := ⟨by decide +kernel, rfl⟩
theorem dc_M_addCommand_95 : decode prog_10_method_42_code 95 = .ok (.isub, 1) ∧ 95 + 1 = 96 := ⟨by decide +kernel, rfl⟩
theorem dc_M_addCommand_96 : decode prog_10_method_42_code 96 = .ok (.iconst 1, 1) ∧ 96 + 1 = 97 := ⟨by decide +kernel, rfl⟩
theorem dc_M_addCommand_97 : decode prog_10_method_42_code 97 = .ok (.invokevirtual 139, 3) ∧ 97 + 3 = 100 := ⟨by decide +kernel, rfl⟩
theorem dc_M_addCommand_100 : decode prog_10_method_42_code 100 = .ok (.iastore, 1) ∧ 100 + 1 = 101 := ⟨by decide +kernel, rfl⟩
theorem dc_M_addCommand_101 : decode prog_10_method_42_code 101 = .ok (.iinc 3 (-1), 3) ∧ 101 + 3 = 104 := ⟨by decide +kernel, rfl⟩
theorem dc_M_addCommand_104 : decode prog_10_method_42_code 104 = .ok (.goto (-57), 3) ∧ ((104 : Nat) : Int) + (-57) = ((47 : Nat) : Int) := ⟨by decide +kernel, by decide⟩
theorem dc_M_addCommand_107 : decode prog_10_method_42_code 107 = .ok (.aload_n 0, 1) ∧ 107 + 1 = 108 := ⟨by decide +kernel, rfl⟩
theorem dc_M_addCommand_108 : decode prog_10_method_42_code 108 = .ok (.getfield 7, 3) ∧ 108 + 3 = 111 := ⟨by decide +kernel, rfl⟩
theorem dc_M_addCommand_111 : decode prog_10_method_42_code 111 = .ok (.bipush 64, 2) ∧ 111 + 2 = 113 := ⟨by decide +kernel, rfl⟩
theorem dc_M_addCommand_113 : decode prog_10_method_42_code 113 = .ok (.iconst 2, 1) ∧ 113 + 1 = 114 := ⟨by decide +kernel, rfl⟩
theorem dc_M_addCommand_114 : decode prog_10_method_42_code 114 = .ok (.iload_n 3, 1) ∧ 114 + 1 = 115 := ⟨by decide +kernel, rfl⟩
theorem dc_M_addCommand_115 : decode prog_10_method_42_code 115 = .ok (.imul, 1) ∧ 115 + 1 = 116 := ⟨by decide +kernel, rfl⟩
theorem dc_M_addCommand_116 : decode prog_10_method_42_code 116 = .ok (.iadd, 1) ∧ 116 + 1 = 117 := ⟨by decide +kernel, rfl⟩
theorem dc_M_addCommand_117 : decode prog_10_method_42_code 117 = .ok (.iload_n 1, 1) ∧ 117 + 1 = 118 := ⟨by decide +kernel, rfl⟩
theorem dc_M_addCommand_118 : decode prog_10_method_42_code 118 = .ok (.iastore, 1) ∧ 118 + 1 = 119 := ⟨by decide +kernel, rfl⟩
theorem dc_M_addCommand_119 : decode prog_10_method_42_code 119 = .ok (.aload_n 0, 1) ∧ 119 + 1 = 120 := ⟨by decide +kernel, rfl⟩
theorem dc_M_addCommand_120 : decode prog_10_method_42_code 120 = .ok (.getfield 7, 3) ∧ 120 + 3 = 123 := ⟨by decide +kernel, rfl⟩
theorem dc_M_addCommand_123 : decode prog_10_method_42_code 123 = .ok (.bipush 65, 2) ∧ 123 + 2 = 125 := ⟨by decide +kernel, rfl⟩
theorem dc_M_addCommand_125 : decode prog_10_method_42_code 125 = .ok (.iconst 2, 1) ∧ 125 + 1 = 126 := ⟨by decide +kernel, rfl⟩
theorem dc_M_addCommand_126 : decode prog_10_method_42_code 126 = .ok (.iload_n 3, 1) ∧ 126 + 1 = 127 := ⟨by decide +kernel, rfl⟩
theorem dc_M_addCommand_127 : decode prog_10_method_42_code 127 = .ok (.imul, 1) ∧ 127 + 1 = 128 := ⟨by decide +kernel, rfl⟩
theorem dc_M_addCommand_128 : decode prog_10_method_42_code 128 = .ok (.iadd, 1) ∧ 128 + 1 = 129 := ⟨by decide +kernel, rfl⟩
theorem dc_M_addCommand_129 : decode prog_10_method_42_code 129 = .ok (.iload_n 2, 1) ∧ 129 + 1 = 130 := ⟨by decide +kernel, rfl⟩
theorem dc_M_addCommand_130 : decode prog_10_method_42_code 130 = .ok (.iastore, 1) ∧ 130 + 1 = 131 := ⟨by decide +kernel, rfl⟩
theorem dc_M_addCommand_131 : decode prog_10_method_42_code 131 = .ok (.aload_n 0, 1) ∧ 131 + 1 = 132 := ⟨by decide +kernel, rfl⟩
theorem dc_M_addCommand_132 : decode prog_10_method_42_code 132 = .ok (.getfield 7, 3) ∧ 132 + 3 = 135 := ⟨by decide +kernel, rfl⟩
theorem dc_M_addCommand_135 : decode prog_10_method_42_code 135 = .ok (.bipush 63, 2) ∧ 135 + 2 = 137 := ⟨by decide +kernel, rfl⟩
theorem dc_M_addCommand_137 : decode prog_10_method_42_code 137 = .ok (.dup2, 1) ∧ 137 + 1 = 138 := ⟨by decide +kernel, rfl⟩
theorem dc_M_addCommand_138 : decode prog_10_method_42_code 138 = .ok (.iaload, 1) ∧ 138 + 1 = 139 := ⟨by decide +kernel, rfl⟩
theorem dc_M_addCommand_139 : decode prog_10_method_42_code 139 = .ok (.iconst 1, 1) ∧ 139 + 1 = 140 := ⟨by decide +kernel, rfl⟩
theorem dc_M_addCommand_140 : decode prog_10_method_42_code 140 = .ok (.iadd, 1) ∧ 140 + 1 = 141 := ⟨by decide +kernel, rfl⟩
theorem dc_M_addCommand_141 : decode prog_10_method_42_code 141 = .ok (.iastore, 1) ∧ 141 + 1 = 142 := ⟨by decide +kernel, rfl⟩
theorem dc_M_addCommand_142 : decode prog_10_method_42_code 142 = .ok (.aload_n 0, 1) ∧ 142 + 1 = 143 := ⟨by decide +kernel, rfl⟩
theorem dc_M_addCommand_143 : decode prog_10_method_42_code 143 = .ok (.getfield 7, 3) ∧ 143 + 3 = 146 := ⟨by decide +kernel, rfl⟩
theorem dc_M_addCommand_146 : decode prog_10_method_42_code 146 = .ok (.bipush 63, 2) ∧ 146 + 2 = 148 := ⟨by decide +kernel, rfl⟩
theorem dc_M_addCommand_148 : decode prog_10_method_42_code 148 = .ok (.iaload, 1) ∧ 148 + 1 = 149 := ⟨by decide +kernel, rfl⟩
theorem dc_M_addCommand_149 : decode prog_10_method_42_code 149 = .ok (.ireturn, 1) := by decide +kernel
theorem dc_M_commandOf_0 : decode prog_10_method_41_code 0 = .ok (.aload_n 0, 1) ∧ 0 + 1 = 1 := ⟨by decide +kernel, rfl⟩
theorem dc_M_commandOf_1 : decode prog_10_method_41_code 1 = .ok (.getfield 7, 3) ∧ 1 + 3 = 4 := ⟨by decide +kernel, rfl⟩
theorem dc_M_commandOf_4 : decode prog_10_method_41_code 4 = .ok (.bipush 64, 2) ∧ 4 + 2 = 6 := ⟨by decide +kernel, rfl⟩
theorem dc_M_commandOf_6 : decode prog_10_method_41_code 6 = .ok (.iconst 2, 1) ∧ 6 + 1 = 7 := ⟨by decide +kernel, rfl⟩
theorem dc_M_commandOf_7 : decode prog_10_method_41_code 7 = .ok (.iload_n 1, 1) ∧ 7 + 1 = 8 := ⟨by decide +kernel, rfl⟩
theorem dc_M_commandOf_8 : decode prog_10_method_41_code 8 = .ok (.imul, 1) ∧ 8 + 1 = 9 := ⟨by decide +kernel, rfl⟩
theorem dc_M_commandOf_9 : decode prog_10_method_41_code 9 = .ok (.iadd, 1) ∧ 9 + 1 = 10 := ⟨by decide +kernel, rfl⟩
theorem dc_M_commandOf_10 : decode prog_10_method_41_code 10 = .ok (.iload_n 2, 1) ∧ 10 + 1 = 11 := ⟨by decide +kernel, rfl⟩
theorem dc_M_commandOf_11 : decode prog_10_method_41_code 11 = .ok (.iadd, 1) ∧ 11 + 1 = 12 := ⟨by decide +kernel, rfl⟩
theorem dc_M_commandOf_12 : decode prog_10_method_41_code 12 = .ok (.iaload, 1) ∧ 12 + 1 = 13 := ⟨by decide +kernel, rfl⟩
theorem dc_M_commandOf_13 : decode prog_10_method_41_code 13 = .ok (.ireturn, 1) := by decide +kernel
theorem dc_M_run_0 : decode prog_10_method_43_code 0 = .ok (.iload_n 1, 1) ∧ 0 + 1 = 1 := ⟨by decide +kernel, rfl⟩
theorem dc_M_run_1 : decode prog_10_method_43_code 1 = .ok (.iconst 1, 1) ∧ 1 + 1 = 2 := ⟨by decide +kernel, rfl⟩
theorem dc_M_run_2 : decode prog_10_method_43_code 2 = .ok (.bipush 8, 2) ∧ 2 + 2 = 4 := ⟨by decide +kernel, rfl⟩
theorem dc_M_run_4 : decode prog_10_method_43_code 4 = .ok (.invokestatic 31, 3) ∧ 4 + 3 = 7 := ⟨by decide +kernel, rfl⟩
theorem dc_M_run_7 : decode prog_10_method_43_code 7 = .ok (.ifCond .ne 6, 3) ∧ ((7 : Nat) : Int) + (6) = ((13 : Nat) : Int) ∧ 7 + 3 = 10 := ⟨by decide +kernel, by decide, rfl⟩
theorem dc_M_run_10 : decode prog_10_method_43_code 10 = .ok (.ldc 64, 2) ∧ 10 + 2 = 12 := ⟨by decide +kernel, rfl⟩
theorem dc_M_run_12 : decode prog_10_method_43_code 12 = .ok (.ireturn, 1) := by decide +kernel
theorem dc_M_run_13 : decode prog_10_method_43_code 13 = .ok (.aload_n 0, 1) ∧ 13 + 1 = 14 := ⟨by decide +kernel, rfl⟩
theorem dc_M_run_14 : decode prog_10_method_43_code 14 = .ok (.getfield 7, 3) ∧ 14 + 3 = 17 := ⟨by decide +kernel, rfl⟩
theorem dc_M_run_17 : decode prog_10_method_43_code 17 = .ok (.bipush 63, 2) ∧ 17 + 2 = 19 := ⟨by decide +kernel, rfl⟩
theorem dc_M_run_19 : decode prog_10_method_43_code 19 = .ok (.iaload, 1) ∧ 19 + 1 = 20 := ⟨by decide +kernel, rfl⟩
theorem dc_M_run_20 : decode prog_10_method_43_code 20 = .ok (.ifCond .ne 6, 3) ∧ ((20 : Nat) : Int) + (6) = ((26 : Nat) : Int) ∧ 20 + 3 = 23 := ⟨by decide +kernel, by decide, rfl⟩
theorem dc_M_run_23 : decode prog_10_method_43_code 23 = .ok (.ldc 30, 2) ∧ 23 + 2 = 25 := ⟨by decide +kernel, rfl⟩
theorem dc_M_run_25 : decode prog_10_method_43_code 25 = .ok (.ireturn, 1) := by decide +kernel
theorem dc_M_run_26 : decode prog_10_method_43_code 26 = .ok (.aload_n 0, 1) ∧ 26 + 1 = 27 := ⟨by decide +kernel, rfl⟩
theorem dc_M_run_27 : decode prog_10_method_43_code 27 = .ok (.invokevirtual 47, 3) ∧ 27 + 3 = 30 := ⟨by decide +kernel, rfl⟩
theorem dc_M_run_30 : decode prog_10_method_43_code 30 = .ok (.iconst 0, 1) ∧ 30 + 1 = 31 := ⟨by decide +kernel, rfl⟩
theorem dc_M_run_31 : decode prog_10_method_43_code 31 = .ok (.istore_n 2, 1) ∧ 31 + 1 = 32 := ⟨by decide +kernel, rfl⟩
theorem dc_M_run_32 : decode prog_10_method_43_code 32 = .ok (.iload_n 2, 1) ∧ 32 + 1 = 33 := ⟨by decide +kernel, rfl⟩
theorem dc_M_run_33 : decode prog_10_method_43_code 33 = .ok (.iload_n 1, 1) ∧ 33 + 1 = 34 := ⟨by decide +kernel, rfl⟩
theorem dc_M_run_34 : decode prog_10_method_43_code 34 = .ok (.if_icmp .ge 98, 3) ∧ ((34 : Nat) : Int) + (98) = ((132 : Nat) : Int) ∧ 34 + 3 = 37 := ⟨by decide +kernel, by decide, rfl⟩
theorem dc_M_run_37 : decode prog_10_method_43_code 37 = .ok (.aload_n 0, 1) ∧ 37 + 1 = 38 := ⟨by decide +kernel, rfl⟩
theorem dc_M_run_38 : decode prog_10_method_43_code 38 = .ok (.getfield 7, 3) ∧ 38 + 3 = 41 := ⟨by decide +kernel, rfl⟩
theorem dc_M_run_41 : decode prog_10_method_43_code 41 = .ok (.bipush 63, 2) ∧ 41 + 2 = 43 := ⟨by decide +kernel, rfl⟩
theorem dc_M_run_43 : decode prog_10_method_43_code 43 = .ok (.iaload, 1) ∧ 43 + 1 = 44 := ⟨by decide +kernel, rfl⟩
theorem dc_M_run_44 : decode prog_10_method_43_code 44 = .ok (.ifCond .le 88, 3) ∧ ((44 : Nat) : Int) + (88) = ((132 : Nat) : Int) ∧ 44 + 3 = 47 := ⟨by decide +kernel, by decide, rfl⟩
theorem dc_M_run_47 : decode prog_10_method_43_code 47 = .ok (.aload_n 0, 1) ∧ 47 + 1 = 48 := ⟨by decide +kernel, rfl⟩
theorem dc_M_run_48 : decode prog_10_method_43_code 48 = .ok (.iconst 0, 1) ∧ 48 + 1 = 49 := ⟨by decide +kernel, rfl⟩
theorem dc_M_run_49 : decode prog_10_method_43_code 49 = .ok (.iconst 0, 1) ∧ 49 + 1 = 50 := ⟨by decide +kernel, rfl⟩
theorem dc_M_run_50 : decode prog_10_method_43_code 50 = .ok (.invokevirtual 139, 3) ∧ 50 + 3 = 53 := ⟨by decide +kernel, rfl⟩
theorem dc_M_run_53 : decode prog_10_method_43_code 53 = .ok (.istore_n 3, 1) ∧ 53 + 1 = 54 := ⟨by decide +kernel, rfl⟩
theorem dc_M_run_54 : decode prog_10_method_43_code 54 = .ok (.aload_n 0, 1) ∧ 54 + 1 = 55 := ⟨by decide +kernel, rfl⟩
theorem dc_M_run_55 : decode prog_10_method_43_code 55 = .ok (.getfield 7, 3) ∧ 55 + 3 = 58 := ⟨by decide +kernel, rfl⟩
theorem dc_M_run_58 : decode prog_10_method_43_code 58 = .ok (.bipush 63, 2) ∧ 58 + 2 = 60 := ⟨by decide +kernel, rfl⟩
theorem dc_M_run_60 : decode prog_10_method_43_code 60 = .ok (.dup2, 1) ∧ 60 + 1 = 61 := ⟨by decide +kernel, rfl⟩
theorem dc_M_run_61 : decode prog_10_method_43_code 61 = .ok (.iaload, 1) ∧ 61 + 1 = 62 := ⟨by decide +kernel, rfl⟩
theorem dc_M_run_62 : decode prog_10_method_43_code 62 = .ok (.iconst 1, 1) ∧ 62 + 1 = 63 := ⟨by decide +kernel, rfl⟩
theorem dc_M_run_63 : decode prog_10_method_43_code 63 = .ok (.isub, 1) ∧ 63 + 1 = 64 := ⟨by decide +kernel, rfl⟩
theorem dc_M_run_64 : decode prog_10_method_43_code 64 = .ok (.iastore, 1) ∧ 64 + 1 = 65 := ⟨by decide +kernel, rfl⟩
theorem dc_M_run_65 : decode prog_10_method_43_code 65 = .ok (.iconst 1, 1) ∧ 65 + 1 = 66 := ⟨by decide +kernel, rfl⟩
theorem dc_M_run_66 : decode prog_10_method_43_code 66 = .ok (.istore 4, 2) ∧ 66 + 2 = 68 := ⟨by decide +kernel, rfl⟩
theorem dc_M_run_68 : decode prog_10_method_43_code 68 = .ok (.iload 4, 2) ∧ 68 + 2 = 70 := ⟨by decide +kernel, rfl⟩
theorem dc_M_run_70 : decode prog_10_method_43_code 70 = .ok (.iconst 2, 1) ∧ 70 + 1 = 71 := ⟨by decide +kernel, rfl⟩
theorem dc_M_run_71 : decode prog_10_method_43_code 71 = .ok (.aload_n 0, 1) ∧ 71 + 1 = 72 := ⟨by decide +kernel, rfl⟩
theorem dc_M_run_72 : decode prog_10_method_43_code 72 = .ok (.getfield 7, 3) ∧ 72 + 3 = 75 := ⟨by decide +kernel, rfl⟩
theorem dc_M_run_75 : decode prog_10_method_43_code 75 = .ok (.bipush 63, 2) ∧ 75 + 2 = 77 := ⟨by decide +kernel, rfl⟩
theorem dc_M_run_77 : decode prog_10_method_43_code 77 = .ok (.iaload, 1) ∧ 77 + 1 = 78 := ⟨by decide +kernel, rfl⟩
theorem dc_M_run_78 : decode prog_10_method_43_code 78 = .ok (.imul, 1) ∧ 78 + 1 = 79 := ⟨by decide +kernel, rfl⟩
theorem dc_M_run_79 : decode prog_10_method_43_code 79 = .ok (.if_icmp .gt 31, 3) ∧ ((79 : Nat) : Int) + (31) = ((110 : Nat) : Int) ∧ 79 + 3 = 82 := ⟨by decide +kernel, by decide, rfl⟩
theorem dc_M_run_82 : decode prog_10_method_43_code 82 = .ok (.aload_n 0, 1) ∧ 82 + 1 = 83 := ⟨by decide +kernel, rfl⟩
theorem dc_M_run_83 : decode prog_10_method_43_code 83 = .ok (.getfield 7, 3) ∧ 83 + 3 = 86 := ⟨by decide +kernel, rfl⟩
theorem dc_M_run_86 : decode prog_10_method_43_code 86 = .ok (.bipush 63, 2) ∧ 86 + 2 = 88 := ⟨by decide +kernel, rfl⟩
theorem dc_M_run_88 : decode prog_10_method_43_code 88 = .ok (.iload 4, 2) ∧ 88 + 2 = 90 := ⟨by decide +kernel, rfl⟩
theorem dc_M_run_90 : decode prog_10_method_43_code 90 = .ok (.iadd, 1) ∧ 90 + 1 = 91 := ⟨by decide +kernel, rfl⟩
theorem dc_M_run_91 : decode prog_10_method_43_code 91 = .ok (.aload_n 0, 1) ∧ 91 + 1 = 92 := ⟨by decide +kernel, rfl⟩
theorem dc_M_run_92 : decode prog_10_method_43_code 92 = .ok (.getfield 7, 3) ∧ 92 + 3 = 95 := ⟨by decide +kernel, rfl⟩
theorem dc_M_run_95 : decode prog_10_method_43_code 95 = .ok (.bipush 63, 2) ∧ 95 + 2 = 97 := ⟨by decide +kernel, rfl⟩
theorem dc_M_run_97 : decode prog_10_method_43_code 97 = .ok (.iload 4, 2) ∧ 97 + 2 = 99 := ⟨by decide +kernel, rfl⟩
theorem dc_M_run_99 : decode prog_10_method_43_code 99 = .ok (.iadd, 1) ∧ 99 + 1 = 100 := ⟨by decide +kernel, rfl⟩
theorem dc_M_run_100 : decode prog_10_method_43_code 100 = .ok (.iconst 2, 1) ∧ 100 + 1 = 101 := ⟨by decide +kernel, rfl⟩
theorem dc_M_run_101 : decode prog_10_method_43_code 101 = .ok (.iadd, 1) ∧ 101 + 1 = 102 := ⟨by decide +kernel, rfl⟩
theorem dc_M_run_102 : decode prog_10_method_43_code 102 = .ok (.iaload, 1) ∧ 102 + 1 = 103 := ⟨by decide +kernel, rfl⟩
theorem dc_M_run_103 : decode prog_10_method_43_code 103 = .ok (.iastore, 1) ∧ 103 + 1 = 104 := ⟨by decide +kernel, rfl⟩
theorem dc_M_run_104 : decode prog_10_method_43_code 104 = .ok (.iinc 4 1, 3) ∧ 104 + 3 = 107 := ⟨by decide +kernel, rfl⟩
theorem dc_M_run_107 : decode prog_10_method_43_code 107 = .ok (.goto (-39), 3) ∧ ((107 : Nat) : Int) + (-39) = ((68 : Nat) : Int) := ⟨by decide +kernel, by decide⟩
theorem dc_M_run_110 : decode prog_10_method_43_code 110 = .ok (.aload_n 0, 1) ∧ 110 + 1 = 111 := ⟨by decide +kernel, rfl⟩
theorem dc_M_run_111 : decode prog_10_method_43_code 111 = .ok (.iload_n 3, 1) ∧ 111 + 1 = 112 := ⟨by decide +kernel, rfl⟩
theorem dc_M_run_112 : decode prog_10_method_43_code 112 = .ok (.invokevirtual 129, 3) ∧ 112 + 3 = 115 := ⟨by decide +kernel, rfl⟩
theorem dc_M_run_115 : decode prog_10_method_43_code 115 = .ok (.invokestatic 65, 3) ∧ 115 + 3 = 118 := ⟨by decide +kernel, rfl⟩
theorem dc_M_run_118 : decode prog_10_method_43_code 118 = .ok (.ifCond .eq 8, 3) ∧ ((118 : Nat) : Int) + (8) = ((126 : Nat) : Int) ∧ 118 + 3 = 121 := ⟨by decide +kernel, by decide, rfl⟩
theorem dc_M_run_121 : decode prog_10_method_43_code 121 = .ok (.aload_n 0, 1) ∧ 121 + 1 = 122 := ⟨by decide +kernel, rfl⟩
theorem dc_M_run_122 : decode prog_10_method_43_code 122 = .ok (.iload_n 3, 1) ∧ 122 + 1 = 123 := ⟨by decide +kernel, rfl⟩
theorem dc_M_run_123 : decode prog_10_method_43_code 123 = .ok (.invokevirtual 136, 3) ∧ 123 + 3 = 126 := ⟨by decide +kernel, rfl⟩
theorem dc_M_run_126 : decode prog_10_method_43_code 126 = .ok (.iinc 2 1, 3) ∧ 126 + 3 = 129 := ⟨by decide +kernel, rfl⟩
theorem dc_M_run_129 : decode prog_10_method_43_code 129 = .ok (.goto (-97), 3) ∧ ((129 : Nat) : Int) + (-97) = ((32 : Nat) : Int) := ⟨by decide +kernel, by decide⟩
theorem dc_M_run_132 : decode prog_10_method_43_code 132 = .ok (.aload_n 0, 1) ∧ 132 + 1 = 133 := ⟨by decide +kernel, rfl⟩
theorem dc_M_run_133 : decode prog_10_method_43_code 133 = .ok (.getfield 7, 3) ∧ 133 + 3 = 136 := ⟨by decide +kernel, rfl⟩
theorem dc_M_run_136 : decode prog_10_method_43_code 136 = .ok (.bipush 63, 2) ∧ 136 + 2 = 138 := ⟨by decide +kernel, rfl⟩
theorem dc_M_run_138 : decode prog_10_method_43_code 138 = .ok (.iaload, 1) ∧ 138 + 1 = 139 := ⟨by decide +kernel, rfl⟩
theorem dc_M_run_139 : decode prog_10_method_43_code 139 = .ok (.ireturn, 1) := by decide +kernel
theorem dc_M_home_0 : decode prog_10_method_47_code 0 = .ok (.aload_n 0, 1) ∧ 0 + 1 = 1 := ⟨by decide +kernel, rfl⟩
theorem dc_M_home_1 : decode prog_10_method_47_code 1 = .ok (.iload_n 1, 1) ∧ 1 + 1 = 2 := ⟨by decide +kernel, rfl⟩
theorem dc_M_home_2 : decode prog_10_method_47_code 2 = .ok (.invokevirtual 146, 3) ∧ 2 + 3 = 5 := ⟨by decide +kernel, rfl⟩
theorem dc_M_home_5 : decode prog_10_method_47_code 5 = .ok (.istore_n 2, 1) ∧ 5 + 1 = 6 := ⟨by decide +kernel, rfl⟩
theorem dc_M_home_6 : decode prog_10_method_47_code 6 = .ok (.iload_n 2, 1) ∧ 6 + 1 = 7 := ⟨by decide +kernel, rfl⟩
theorem dc_M_home_7 : decode prog_10_method_47_code 7 = .ok (.ifCond .eq 5, 3) ∧ ((7 : Nat) : Int) + (5) = ((12 : Nat) : Int) ∧ 7 + 3 = 10 := ⟨by decide +kernel, by decide, rfl⟩
theorem dc_M_home_10 : decode prog_10_method_47_code 10 = .ok (.iload_n 2, 1) ∧ 10 + 1 = 11 := ⟨by decide +kernel, rfl⟩
theorem dc_M_home_11 : decode prog_10_method_47_code 11 = .ok (.ireturn, 1) := by decide +kernel
theorem dc_M_home_12 : decode prog_10_method_47_code 12 = .ok (.aload_n 0, 1) ∧ 12 + 1 = 13 := ⟨by decide +kernel, rfl⟩
theorem dc_M_home_13 : decode prog_10_method_47_code 13 = .ok (.iload_n 1, 1) ∧ 13 + 1 = 14 := ⟨by decide +kernel, rfl⟩
theorem dc_M_home_14 : decode prog_10_method_47_code 14 = .ok (.invokevirtual 149, 3) ∧ 14 + 3 = 17 := ⟨by decide +kernel, rfl⟩
theorem dc_M_home_17 : decode prog_10_method_47_code 17 = .ok (.aload_n 0, 1) ∧ 17 + 1 = 18 := ⟨by decide +kernel, rfl⟩
theorem dc_M_home_18 : decode prog_10_method_47_code 18 = .ok (.getfield 7, 3) ∧ 18 + 3 = 21 := ⟨by decide +kernel, rfl⟩
theorem dc_M_home_21 : decode prog_10_method_47_code 21 = .ok (.bipush 6, 2) ∧ 21 + 2 = 23 := ⟨by decide +kernel, rfl⟩
theorem dc_M_home_23 : decode prog_10_method_47_code 23 = .ok (.iaload, 1) ∧ 23 + 1 = 24 := ⟨by decide +kernel, rfl⟩
theorem dc_M_home_24 : decode prog_10_method_47_code 24 = .ok (.isub, 1) ∧ 24 + 1 = 25 := ⟨by decide +kernel, rfl⟩
theorem dc_M_home_25 : decode prog_10_method_47_code 25 = .ok (.istore_n 3, 1) ∧ 25 + 1 = 26 := ⟨by decide +kernel, rfl⟩
theorem dc_M_home_26 : decode prog_10_method_47_code 26 = .ok (.aload_n 0, 1) ∧ 26 + 1 = 27 := ⟨by decide +kernel, rfl⟩
theorem dc_M_home_27 : decode prog_10_method_47_code 27 = .ok (.getfield 7, 3) ∧ 27 + 3 = 30 := ⟨by decide +kernel, rfl⟩
theorem dc_M_home_30 : decode prog_10_method_47_code 30 = .ok (.bipush 6, 2) ∧ 30 + 2 = 32 := ⟨by decide +kernel, rfl⟩
theorem dc_M_home_32 : decode prog_10_method_47_code 32 = .ok (.dup2, 1) ∧ 32 + 1 = 33 := ⟨by decide +kernel, rfl⟩
theorem dc_M_home_33 : decode prog_10_method_47_code 33 = .ok (.iaload, 1) ∧ 33 + 1 = 34 := ⟨by decide +kernel, rfl⟩
theorem dc_M_home_34 : decode prog_10_method_47_code 34 = .ok (.iload_n 3, 1) ∧ 34 + 1 = 35 := ⟨by decide +kernel, rfl⟩
theorem dc_M_home_35 : decode prog_10_method_47_code 35 = .ok (.iadd, 1) ∧ 35 + 1 = 36 := ⟨by decide +kernel, rfl⟩
theorem dc_M_home_36 : decode prog_10_method_47_code 36 = .ok (.iastore, 1) ∧ 36 + 1 = 37 := ⟨by decide +kernel, rfl⟩
theorem dc_M_home_37 : decode prog_10_method_47_code 37 = .ok (.aload_n 0, 1) ∧ 37 + 1 = 38 := ⟨by decide +kernel, rfl⟩
theorem dc_M_home_38 : decode prog_10_method_47_code 38 = .ok (.getfield 7, 3) ∧ 38 + 3 = 41 := ⟨by decide +kernel, rfl⟩
theorem dc_M_home_41 : decode prog_10_method_47_code 41 = .ok (.bipush 11, 2) ∧ 41 + 2 = 43 := ⟨by decide +kernel, rfl⟩
theorem dc_M_home_43 : decode prog_10_method_47_code 43 = .ok (.dup2, 1) ∧ 43 + 1 = 44 := ⟨by decide +kernel, rfl⟩
theorem dc_M_home_44 : decode prog_10_method_47_code 44 = .ok (.iaload, 1) ∧ 44 + 1 = 45 := ⟨by decide +kernel, rfl⟩
theorem dc_M_home_45 : decode prog_10_method_47_code 45 = .ok (.iload_n 3, 1) ∧ 45 + 1 = 46 := ⟨by decide +kernel, rfl⟩
theorem dc_M_home_46 : decode prog_10_method_47_code 46 = .ok (.iadd, 1) ∧ 46 + 1 = 47 := ⟨by decide +kernel, rfl⟩
theorem dc_M_home_47 : decode prog_10_method_47_code 47 = .ok (.iastore, 1) ∧ 47 + 1 = 48 := ⟨by decide +kernel, rfl⟩
theorem dc_M_home_48 : decode prog_10_method_47_code 48 = .ok (.iload_n 3, 1) ∧ 48 + 1 = 49 := ⟨by decide +kernel, rfl⟩
theorem dc_M_home_49 : decode prog_10_method_47_code 49 = .ok (.ireturn, 1) := by decide +kernel
theorem dc_M_reaches_0 : decode prog_10_method_46_code 0 = .ok (.iload_n 1, 1) ∧ 0 + 1 = 1 := ⟨by decide +kernel, rfl⟩
theorem dc_M_reaches_1 : decode prog_10_method_46_code 1 = .ok (.iconst 0, 1) ∧ 1 + 1 = 2 := ⟨by decide +kernel, rfl⟩
theorem dc_M_reaches_2 : decode prog_10_method_46_code 2 = .ok (.iconst 1, 1) ∧ 2 + 1 = 3 := ⟨by decide +kernel, rfl⟩
theorem dc_M_reaches_3 : decode prog_10_method_46_code 3 = .ok (.invokestatic 31, 3) ∧ 3 + 3 = 6 := ⟨by decide +kernel, rfl⟩
theorem dc_M_reaches_6 : decode prog_10_method_46_code 6 = .ok (.ifCond .ne 6, 3) ∧ ((6 : Nat) : Int) + (6) = ((12 : Nat) : Int) ∧ 6 + 3 = 9 := ⟨by decide +kernel, by decide, rfl⟩
theorem dc_M_reaches_9 : decode prog_10_method_46_code 9 = .ok (.ldc 64, 2) ∧ 9 + 2 = 11 := ⟨by decide +kernel, rfl⟩
theorem dc_M_reaches_11 : decode prog_10_method_46_code 11 = .ok (.ireturn, 1) := by decide +kernel
theorem dc_M_reaches_12 : decode prog_10_method_46_code 12 = .ok (.aload_n 0, 1) ∧ 12 + 1 = 13 := ⟨by decide +kernel, rfl⟩
theorem dc_M_reaches_13 : decode prog_10_method_46_code 13 = .ok (.getfield 7, 3) ∧ 13 + 3 = 16 := ⟨by decide +kernel, rfl⟩
theorem dc_M_reaches_16 : decode prog_10_method_46_code 16 = .ok (.bipush 18, 2) ∧ 16 + 2 = 18 := ⟨by decide +kernel, rfl⟩
theorem dc_M_reaches_18 : decode prog_10_method_46_code 18 = .ok (.iaload, 1) ∧ 18 + 1 = 19 := ⟨by decide +kernel, rfl⟩
theorem dc_M_reaches_19 : decode prog_10_method_46_code 19 = .ok (.ifCond .ne 6, 3) ∧ ((19 : Nat) : Int) + (6) = ((25 : Nat) : Int) ∧ 19 + 3 = 22 := ⟨by decide +kernel, by decide, rfl⟩
theorem dc_M_reaches_22 : decode prog_10_method_46_code 22 = .ok (.ldc 30, 2) ∧ 22 + 2 = 24 := ⟨by decide +kernel, rfl⟩
theorem dc_M_reaches_24 : decode prog_10_method_46_code 24 = .ok (.ireturn, 1) := by decide +kernel
theorem dc_M_reaches_25 : decode prog_10_method_46_code 25 = .ok (.aload_n 0, 1) ∧ 25 + 1 = 26 := ⟨by decide +kernel, rfl⟩
theorem dc_M_reaches_26 : decode prog_10_method_46_code 26 = .ok (.invokevirtual 99, 3) ∧ 26 + 3 = 29 := ⟨by decide +kernel, rfl⟩
theorem dc_M_reaches_29 : decode prog_10_method_46_code 29 = .ok (.aload_n 0, 1) ∧ 29 + 1 = 30 := ⟨by decide +kernel, rfl⟩
theorem dc_M_reaches_30 : decode prog_10_method_46_code 30 = .ok (.iload_n 1, 1) ∧ 30 + 1 = 31 := ⟨by decide +kernel, rfl⟩
theorem dc_M_reaches_31 : decode prog_10_method_46_code 31 = .ok (.invokevirtual 142, 3) ∧ 31 + 3 = 34 := ⟨by decide +kernel, rfl⟩
theorem dc_M_reaches_34 : decode prog_10_method_46_code 34 = .ok (.istore_n 2, 1) ∧ 34 + 1 = 35 := ⟨by decide +kernel, rfl⟩
theorem dc_M_reaches_35 : decode prog_10_method_46_code 35 = .ok (.aload_n 0, 1) ∧ 35 + 1 = 36 := ⟨by decide +kernel, rfl⟩
theorem dc_M_reaches_36 : decode prog_10_method_46_code 36 = .ok (.invokevirtual 106, 3) ∧ 36 + 3 = 39 := ⟨by decide +kernel, rfl⟩
theorem dc_M_reaches_39 : decode prog_10_method_46_code 39 = .ok (.iload_n 2, 1) ∧ 39 + 1 = 40 := ⟨by decide +kernel, rfl⟩
theorem dc_M_reaches_40 : decode prog_10_method_46_code 40 = .ok (.ifCond .ne 6, 3) ∧ ((40 : Nat) : Int) + (6) = ((46 : Nat) : Int) ∧ 40 + 3 = 43 := ⟨by decide +kernel, by decide, rfl⟩
theorem dc_M_reaches_43 : decode prog_10_method_46_code 43 = .ok (.ldc 145, 2) ∧ 43 + 2 = 45 := ⟨by decide +kernel, rfl⟩
theorem dc_M_reaches_45 : decode prog_10_method_46_code 45 = .ok (.ireturn, 1) := by decide +kernel
theorem dc_M_reaches_46 : decode prog_10_method_46_code 46 = .ok (.aload_n 0, 1) ∧ 46 + 1 = 47 := ⟨by decide +kernel, rfl⟩
theorem dc_M_reaches_47 : decode prog_10_method_46_code 47 = .ok (.invokevirtual 47, 3) ∧ 47 + 3 = 50 := ⟨by decide +kernel, rfl⟩
theorem dc_M_reaches_50 : decode prog_10_method_46_code 50 = .ok (.aload_n 0, 1) ∧ 50 + 1 = 51 := ⟨by decide +kernel, rfl⟩
theorem dc_M_reaches_51 : decode prog_10_method_46_code 51 = .ok (.invokevirtual 106, 3) ∧ 51 + 3 = 54 := ⟨by decide +kernel, rfl⟩
theorem dc_M_reaches_54 : decode prog_10_method_46_code 54 = .ok (.aload_n 0, 1) ∧ 54 + 1 = 55 := ⟨by decide +kernel, rfl⟩
theorem dc_M_reaches_55 : decode prog_10_method_46_code 55 = .ok (.getfield 7, 3) ∧ 55 + 3 = 58 := ⟨by decide +kernel, rfl⟩
theorem dc_M_reaches_58 : decode prog_10_method_46_code 58 = .ok (.bipush 17, 2) ∧ 58 + 2 = 60 := ⟨by decide +kernel, rfl⟩
theorem dc_M_reaches_60 : decode prog_10_method_46_code 60 = .ok (.dup2, 1) ∧ 60 + 1 = 61 := ⟨by decide +kernel, rfl⟩
theorem dc_M_reaches_61 : decode prog_10_method_46_code 61 = .ok (.iaload, 1) ∧ 61 + 1 = 62 := ⟨by decide +kernel, rfl⟩
theorem dc_M_reaches_62 : decode prog_10_method_46_code 62 = .ok (.iconst 1, 1) ∧ 62 + 1 = 63 := ⟨by decide +kernel, rfl⟩
theorem dc_M_reaches_63 : decode prog_10_method_46_code 63 = .ok (.iadd, 1) ∧ 63 + 1 = 64 := ⟨by decide +kernel, rfl⟩
theorem dc_M_reaches_64 : decode prog_10_method_46_code 64 = .ok (.iastore, 1) ∧ 64 + 1 = 65 := ⟨by decide +kernel, rfl⟩
theorem dc_M_reaches_65 : decode prog_10_method_46_code 65 = .ok (.iconst 0, 1) ∧ 65 + 1 = 66 := ⟨by decide +kernel, rfl⟩
theorem dc_M_reaches_66 : decode prog_10_method_46_code 66 = .ok (.ireturn, 1) := by decide +kernel
theorem dc_M_seeks_0 : decode prog_10_method_44_code 0 = .ok (.aload_n 0, 1) ∧ 0 + 1 = 1 := ⟨by decide +kernel, rfl⟩
theorem dc_M_seeks_1 : decode prog_10_method_44_code 1 = .ok (.getfield 7, 3) ∧ 1 + 3 = 4 := ⟨by decide +kernel, rfl⟩
theorem dc_M_seeks_4 : decode prog_10_method_44_code 4 = .ok (.bipush 19, 2) ∧ 4 + 2 = 6 := ⟨by decide +kernel, rfl⟩
theorem dc_M_seeks_6 : decode prog_10_method_44_code 6 = .ok (.iaload, 1) ∧ 6 + 1 = 7 := ⟨by decide +kernel, rfl⟩
theorem dc_M_seeks_7 : decode prog_10_method_44_code 7 = .ok (.istore_n 2, 1) ∧ 7 + 1 = 8 := ⟨by decide +kernel, rfl⟩
theorem dc_M_seeks_8 : decode prog_10_method_44_code 8 = .ok (.aload_n 0, 1) ∧ 8 + 1 = 9 := ⟨by decide +kernel, rfl⟩
theorem dc_M_seeks_9 : decode prog_10_method_44_code 9 = .ok (.getfield 7, 3) ∧ 9 + 3 = 12 := ⟨by decide +kernel, rfl⟩
theorem dc_M_seeks_12 : decode prog_10_method_44_code 12 = .ok (.bipush 20, 2) ∧ 12 + 2 = 14 := ⟨by decide +kernel, rfl⟩
theorem dc_M_seeks_14 : decode prog_10_method_44_code 14 = .ok (.iaload, 1) ∧ 14 + 1 = 15 := ⟨by decide +kernel, rfl⟩
theorem dc_M_seeks_15 : decode prog_10_method_44_code 15 = .ok (.istore_n 3, 1) ∧ 15 + 1 = 16 := ⟨by decide +kernel, rfl⟩
theorem dc_M_seeks_16 : decode prog_10_method_44_code 16 = .ok (.sipush 20001, 3) ∧ 16 + 3 = 19 := ⟨by decide +kernel, rfl⟩
theorem dc_M_seeks_19 : decode prog_10_method_44_code 19 = .ok (.istore 4, 2) ∧ 19 + 2 = 21 := ⟨by decide +kernel, rfl⟩
theorem dc_M_seeks_21 : decode prog_10_method_44_code 21 = .ok (.iload 4, 2) ∧ 21 + 2 = 23 := ⟨by decide +kernel, rfl⟩
theorem dc_M_seeks_23 : decode prog_10_method_44_code 23 = .ok (.ifCond .le 57, 3) ∧ ((23 : Nat) : Int) + (57) = ((80 : Nat) : Int) ∧ 23 + 3 = 26 := ⟨by decide +kernel, by decide, rfl⟩
theorem dc_M_seeks_26 : decode prog_10_method_44_code 26 = .ok (.iload_n 1, 1) ∧ 26 + 1 = 27 := ⟨by decide +kernel, rfl⟩
theorem dc_M_seeks_27 : decode prog_10_method_44_code 27 = .ok (.ifCond .ne 20, 3) ∧ ((27 : Nat) : Int) + (20) = ((47 : Nat) : Int) ∧ 27 + 3 = 30 := ⟨by decide +kernel, by decide, rfl⟩
theorem dc_M_seeks_30 : decode prog_10_method_44_code 30 = .ok (.aload_n 0, 1) ∧ 30 + 1 = 31 := ⟨by decide +kernel, rfl⟩
theorem dc_M_seeks_31 : decode prog_10_method_44_code 31 = .ok (.getfield 7, 3) ∧ 31 + 3 = 34 := ⟨by decide +kernel, rfl⟩
theorem dc_M_seeks_34 : decode prog_10_method_44_code 34 = .ok (.bipush 8, 2) ∧ 34 + 2 = 36 := ⟨by decide +kernel, rfl⟩
theorem dc_M_seeks_36 : decode prog_10_method_44_code 36 = .ok (.iaload, 1) ∧ 36 + 1 = 37 := ⟨by decide +kernel, rfl⟩
theorem dc_M_seeks_37 : decode prog_10_method_44_code 37 = .ok (.iload_n 2, 1) ∧ 37 + 1 = 38 := ⟨by decide +kernel, rfl⟩
theorem dc_M_seeks_38 : decode prog_10_method_44_code 38 = .ok (.bipush 16, 2) ∧ 38 + 2 = 40 := ⟨by decide +kernel, rfl⟩
theorem dc_M_seeks_40 : decode prog_10_method_44_code 40 = .ok (.isub, 1) ∧ 40 + 1 = 41 := ⟨by decide +kernel, rfl⟩
theorem dc_M_seeks_41 : decode prog_10_method_44_code 41 = .ok (.if_icmp .lt 39, 3) ∧ ((41 : Nat) : Int) + (39) = ((80 : Nat) : Int) ∧ 41 + 3 = 44 := ⟨by decide +kernel, by decide, rfl⟩
theorem dc_M_seeks_44 : decode prog_10_method_44_code 44 = .ok (.goto 17, 3) ∧ ((44 : Nat) : Int) + (17) = ((61 : Nat) : Int) := ⟨by decide +kernel, by decide⟩
theorem dc_M_seeks_47 : decode prog_10_method_44_code 47 = .ok (.aload_n 0, 1) ∧ 47 + 1 = 48 := ⟨by decide +kernel, rfl⟩
theorem dc_M_seeks_48 : decode prog_10_method_44_code 48 = .ok (.getfield 7, 3) ∧ 48 + 3 = 51 := ⟨by decide +kernel, rfl⟩
theorem dc_M_seeks_51 : decode prog_10_method_44_code 51 = .ok (.bipush 8, 2) ∧ 51 + 2 = 53 := ⟨by decide +kernel, rfl⟩
theorem dc_M_seeks_53 : decode prog_10_method_44_code 53 = .ok (.iaload, 1) ∧ 53 + 1 = 54 := ⟨by decide +kernel, rfl⟩
theorem dc_M_seeks_54 : decode prog_10_method_44_code 54 = .ok (.iload_n 3, 1) ∧ 54 + 1 = 55 := ⟨by decide +kernel, rfl⟩
theorem dc_M_seeks_55 : decode prog_10_method_44_code 55 = .ok (.bipush 16, 2) ∧ 55 + 2 = 57 := ⟨by decide +kernel, rfl⟩
theorem dc_M_seeks_57 : decode prog_10_method_44_code 57 = .ok (.iadd, 1) ∧ 57 + 1 = 58 := ⟨by decide +kernel, rfl⟩
theorem dc_M_seeks_58 : decode prog_10_method_44_code 58 = .ok (.if_icmp .gt 22, 3) ∧ ((58 : Nat) : Int) + (22) = ((80 : Nat) : Int) ∧ 58 + 3 = 61 := ⟨by decide +kernel, by decide, rfl⟩
theorem dc_M_seeks_61 : decode prog_10_method_44_code 61 = .ok (.aload_n 0, 1) ∧ 61 + 1 = 62 := ⟨by decide +kernel, rfl⟩
theorem dc_M_seeks_62 : decode prog_10_method_44_code 62 = .ok (.iload_n 1, 1) ∧ 62 + 1 = 63 := ⟨by decide +kernel, rfl⟩
theorem dc_M_seeks_63 : decode prog_10_method_44_code 63 = .ok (.ifCond .ne 7, 3) ∧ ((63 : Nat) : Int) + (7) = ((70 : Nat) : Int) ∧ 63 + 3 = 66 := ⟨by decide +kernel, by decide, rfl⟩
theorem dc_M_seeks_66 : decode prog_10_method_44_code 66 = .ok (.iconst (-1), 1) ∧ 66 + 1 = 67 := ⟨by decide +kernel, rfl⟩
theorem dc_M_seeks_67 : decode prog_10_method_44_code 67 = .ok (.goto 4, 3) ∧ ((67 : Nat) : Int) + (4) = ((71 : Nat) : Int) := ⟨by decide +kernel, by decide⟩
theorem dc_M_seeks_70 : decode prog_10_method_44_code 70 = .ok (.iconst 1, 1) ∧ 70 + 1 = 71 := ⟨by decide +kernel, rfl⟩
theorem dc_M_seeks_71 : decode prog_10_method_44_code 71 = .ok (.invokevirtual 132, 3) ∧ 71 + 3 = 74 := ⟨by decide +kernel, rfl⟩
theorem dc_M_seeks_74 : decode prog_10_method_44_code 74 = .ok (.iinc 4 (-1), 3) ∧ 74 + 3 = 77 := ⟨by decide +kernel, rfl⟩
theorem dc_M_seeks_77 : decode prog_10_method_44_code 77 = .ok (.goto (-56), 3) ∧ ((77 : Nat) : Int) + (-56) = ((21 : Nat) : Int) := ⟨by decide +kernel, by decide⟩
theorem dc_M_seeks_80 : decode prog_10_method_44_code 80 = .ok (.iload 4, 2) ∧ 80 + 2 = 82 := ⟨by decide +kernel, rfl⟩
theorem dc_M_seeks_82 : decode prog_10_method_44_code 82 = .ok (.ifCond .le 51, 3) ∧ ((82 : Nat) : Int) + (51) = ((133 : Nat) : Int) ∧ 82 + 3 = 85 := ⟨by decide +kernel, by decide, rfl⟩
theorem dc_M_seeks_85 : decode prog_10_method_44_code 85 = .ok (.iload_n 1, 1) ∧ 85 + 1 = 86 := ⟨by decide +kernel, rfl⟩
theorem dc_M_seeks_86 : decode prog_10_method_44_code 86 = .ok (.ifCond .ne 17, 3) ∧ ((86 : Nat) : Int) + (17) = ((103 : Nat) : Int) ∧ 86 + 3 = 89 := ⟨by decide +kernel, by decide, rfl⟩
theorem dc_M_seeks_89 : decode prog_10_method_44_code 89 = .ok (.aload_n 0, 1) ∧ 89 + 1 = 90 := ⟨by decide +kernel, rfl⟩
theorem dc_M_seeks_90 : decode prog_10_method_44_code 90 = .ok (.getfield 7, 3) ∧ 90 + 3 = 93 := ⟨by decide +kernel, rfl⟩
theorem dc_M_seeks_93 : decode prog_10_method_44_code 93 = .ok (.bipush 8, 2) ∧ 93 + 2 = 95 := ⟨by decide +kernel, rfl⟩
theorem dc_M_seeks_95 : decode prog_10_method_44_code 95 = .ok (.iaload, 1) ∧ 95 + 1 = 96 := ⟨by decide +kernel, rfl⟩
theorem dc_M_seeks_96 : decode prog_10_method_44_code 96 = .ok (.iload_n 2, 1) ∧ 96 + 1 = 97 := ⟨by decide +kernel, rfl⟩
theorem dc_M_seeks_97 : decode prog_10_method_44_code 97 = .ok (.if_icmp .ge 36, 3) ∧ ((97 : Nat) : Int) + (36) = ((133 : Nat) : Int) ∧ 97 + 3 = 100 := ⟨by decide +kernel, by decide, rfl⟩
theorem dc_M_seeks_100 : decode prog_10_method_44_code 100 = .ok (.goto 14, 3) ∧ ((100 : Nat) : Int) + (14) = ((114 : Nat) : Int) := ⟨by decide +kernel, by decide⟩
theorem dc_M_seeks_103 : decode prog_10_method_44_code 103 = .ok (.aload_n 0, 1) ∧ 103 + 1 = 104 := ⟨by decide +kernel, rfl⟩
theorem dc_M_seeks_104 : decode prog_10_method_44_code 104 = .ok (.getfield 7, 3) ∧ 104 + 3 = 107 := ⟨by decide +kernel, rfl⟩
theorem dc_M_seeks_107 : decode prog_10_method_44_code 107 = .ok (.bipush 8, 2) ∧ 107 + 2 = 109 := ⟨by decide +kernel, rfl⟩
theorem dc_M_seeks_109 : decode prog_10_method_44_code 109 = .ok (.iaload, 1) ∧ 109 + 1 = 110 := ⟨by decide +kernel, rfl⟩
theorem dc_M_seeks_110 : decode prog_10_method_44_code 110 = .ok (.iload_n 3, 1) ∧ 110 + 1 = 111 := ⟨by decide +kernel, rfl⟩
theorem dc_M_seeks_111 : decode prog_10_method_44_code 111 = .ok (.if_icmp .le 22, 3) ∧ ((111 : Nat) : Int) + (22) = ((133 : Nat) : Int) ∧ 111 + 3 = 114 := ⟨by decide +kernel, by decide, rfl⟩
theorem dc_M_seeks_114 : decode prog_10_method_44_code 114 = .ok (.aload_n 0, 1) ∧ 114 + 1 = 115 := ⟨by decide +kernel, rfl⟩
theorem dc_M_seeks_115 : decode prog_10_method_44_code 115 = .ok (.iload_n 1, 1) ∧ 115 + 1 = 116 := ⟨by decide +kernel, rfl⟩
theorem dc_M_seeks_116 : decode prog_10_method_44_code 116 = .ok (.ifCond .ne 7, 3) ∧ ((116 : Nat) : Int) + (7) = ((123 : Nat) : Int) ∧ 116 + 3 = 119 := ⟨by decide +kernel, by decide, rfl⟩
theorem dc_M_seeks_119 : decode prog_10_method_44_code 119 = .ok (.iconst 1, 1) ∧ 119 + 1 = 120 := ⟨by decide +kernel, rfl⟩
theorem dc_M_seeks_120 : decode prog_10_method_44_code 120 = .ok (.goto 4, 3) ∧ ((120 : Nat) : Int) + (4) = ((124 : Nat) : Int) := ⟨by decide +kernel, by decide⟩
theorem dc_M_seeks_123 : decode prog_10_method_44_code 123 = .ok (.iconst (-1), 1) ∧ 123 + 1 = 124 := ⟨by decide +kernel, rfl⟩
theorem dc_M_seeks_124 : decode prog_10_method_44_code 124 = .ok (.invokevirtual 132, 3) ∧ 124 + 3 = 127 := ⟨by decide +kernel, rfl⟩
theorem dc_M_seeks_127 : decode prog_10_method_44_code 127 = .ok (.iinc 4 (-1), 3) ∧ 127 + 3 = 130 := ⟨by decide +kernel, rfl⟩
theorem dc_M_seeks_130 : decode prog_10_method_44_code 130 = .ok (.goto (-50), 3) ∧ ((130 : Nat) : Int) + (-50) = ((80 : Nat) : Int) := ⟨by decide +kernel, by decide⟩
theorem dc_M_seeks_133 : decode prog_10_method_44_code 133 = .ok (.iload 4, 2) ∧ 133 + 2 = 135 := ⟨by decide +kernel, rfl⟩
theorem dc_M_seeks_135 : decode prog_10_method_44_code 135 = .ok (.ifCond .le 7, 3) ∧ ((135 : Nat) : Int) + (7) = ((142 : Nat) : Int) ∧ 135 + 3 = 138 := ⟨by decide +kernel, by decide, rfl⟩
theorem dc_M_seeks_138 : decode prog_10_method_44_code 138 = .ok (.iconst 1, 1) ∧ 138 + 1 = 139 := ⟨by decide +kernel, rfl⟩
theorem dc_M_seeks_139 : decode prog_10_method_44_code 139 = .ok (.goto 4, 3) ∧ ((139 : Nat) : Int) + (4) = ((143 : Nat) : Int) := ⟨by decide +kernel, by decide⟩
theorem dc_M_seeks_142 : decode prog_10_method_44_code 142 = .ok (.iconst 0, 1) ∧ 142 + 1 = 143 := ⟨by decide +kernel, rfl⟩
theorem dc_M_seeks_143 : decode prog_10_method_44_code 143 = .ok (.ireturn, 1) := by decide +kernel
theorem dc_M_due_0 : decode prog_10_method_45_code 0 = .ok (.iload_n 1, 1) ∧ 0 + 1 = 1 := ⟨by decide +kernel, rfl⟩
theorem dc_M_due_1 : decode prog_10_method_45_code 1 = .ok (.ifCond .ne 20, 3) ∧ ((1 : Nat) : Int) + (20) = ((21 : Nat) : Int) ∧ 1 + 3 = 4 := ⟨by decide +kernel, by decide, rfl⟩
theorem dc_M_due_4 : decode prog_10_method_45_code 4 = .ok (.aload_n 0, 1) ∧ 4 + 1 = 5 := ⟨by decide +kernel, rfl⟩
theorem dc_M_due_5 : decode prog_10_method_45_code 5 = .ok (.getfield 7, 3) ∧ 5 + 3 = 8 := ⟨by decide +kernel, rfl⟩
theorem dc_M_due_8 : decode prog_10_method_45_code 8 = .ok (.bipush 19, 2) ∧ 8 + 2 = 10 := ⟨by decide +kernel, rfl⟩
theorem dc_M_due_10 : decode prog_10_method_45_code 10 = .ok (.iaload, 1) ∧ 10 + 1 = 11 := ⟨by decide +kernel, rfl⟩
theorem dc_M_due_11 : decode prog_10_method_45_code 11 = .ok (.aload_n 0, 1) ∧ 11 + 1 = 12 := ⟨by decide +kernel, rfl⟩
theorem dc_M_due_12 : decode prog_10_method_45_code 12 = .ok (.getfield 7, 3) ∧ 12 + 3 = 15 := ⟨by decide +kernel, rfl⟩
theorem dc_M_due_15 : decode prog_10_method_45_code 15 = .ok (.iconst 5, 1) ∧ 15 + 1 = 16 := ⟨by decide +kernel, rfl⟩
theorem dc_M_due_16 : decode prog_10_method_45_code 16 = .ok (.iaload, 1) ∧ 16 + 1 = 17 := ⟨by decide +kernel, rfl⟩
theorem dc_M_due_17 : decode prog_10_method_45_code 17 = .ok (.iadd, 1) ∧ 17 + 1 = 18 := ⟨by decide +kernel, rfl⟩
theorem dc_M_due_18 : decode prog_10_method_45_code 18 = .ok (.goto 10, 3) ∧ ((18 : Nat) : Int) + (10) = ((28 : Nat) : Int) := ⟨by decide +kernel, by decide⟩
theorem dc_M_due_21 : decode prog_10_method_45_code 21 = .ok (.aload_n 0, 1) ∧ 21 + 1 = 22 := ⟨by decide +kernel, rfl⟩
theorem dc_M_due_22 : decode prog_10_method_45_code 22 = .ok (.getfield 7, 3) ∧ 22 + 3 = 25 := ⟨by decide +kernel, rfl⟩
theorem dc_M_due_25 : decode prog_10_method_45_code 25 = .ok (.bipush 20, 2) ∧ 25 + 2 = 27 := ⟨by decide +kernel, rfl⟩
theorem dc_M_due_27 : decode prog_10_method_45_code 27 = .ok (.iaload, 1) ∧ 27 + 1 = 28 := ⟨by decide +kernel, rfl⟩
theorem dc_M_due_28 : decode prog_10_method_45_code 28 = .ok (.ireturn, 1) := by decide +kernel
theorem dc_M_check_0 : decode prog_10_method_48_code 0 = .ok (.aload_n 0, 1) ∧ 0 + 1 = 1 := ⟨by decide +kernel, rfl⟩
theorem dc_M_check_1 : decode prog_10_method_48_code 1 = .ok (.iload_n 1, 1) ∧ 1 + 1 = 2 := ⟨by decide +kernel, rfl⟩
theorem dc_M_check_2 : decode prog_10_method_48_code 2 = .ok (.invokevirtual 146, 3) ∧ 2 + 3 = 5 := ⟨by decide +kernel, rfl⟩
theorem dc_M_check_5 : decode prog_10_method_48_code 5 = .ok (.istore_n 2, 1) ∧ 5 + 1 = 6 := ⟨by decide +kernel, rfl⟩
theorem dc_M_check_6 : decode prog_10_method_48_code 6 = .ok (.iload_n 2, 1) ∧ 6 + 1 = 7 := ⟨by decide +kernel, rfl⟩
theorem dc_M_check_7 : decode prog_10_method_48_code 7 = .ok (.ifCond .eq 7, 3) ∧ ((7 : Nat) : Int) + (7) = ((14 : Nat) : Int) ∧ 7 + 3 = 10 := ⟨by decide +kernel, by decide, rfl⟩
theorem dc_M_check_10 : decode prog_10_method_48_code 10 = .ok (.iload_n 2, 1) ∧ 10 + 1 = 11 := ⟨by decide +kernel, rfl⟩
theorem dc_M_check_11 : decode prog_10_method_48_code 11 = .ok (.goto 16, 3) ∧ ((11 : Nat) : Int) + (16) = ((27 : Nat) : Int) := ⟨by decide +kernel, by decide⟩
theorem dc_M_check_14 : decode prog_10_method_48_code 14 = .ok (.aload_n 0, 1) ∧ 14 + 1 = 15 := ⟨by decide +kernel, rfl⟩
theorem dc_M_check_15 : decode prog_10_method_48_code 15 = .ok (.getfield 7, 3) ∧ 15 + 3 = 18 := ⟨by decide +kernel, rfl⟩
theorem dc_M_check_18 : decode prog_10_method_48_code 18 = .ok (.bipush 6, 2) ∧ 18 + 2 = 20 := ⟨by decide +kernel, rfl⟩
theorem dc_M_check_20 : decode prog_10_method_48_code 20 = .ok (.iaload, 1) ∧ 20 + 1 = 21 := ⟨by decide +kernel, rfl⟩
theorem dc_M_check_21 : decode prog_10_method_48_code 21 = .ok (.aload_n 0, 1) ∧ 21 + 1 = 22 := ⟨by decide +kernel, rfl⟩
theorem dc_M_check_22 : decode prog_10_method_48_code 22 = .ok (.iload_n 1, 1) ∧ 22 + 1 = 23 := ⟨by decide +kernel, rfl⟩
theorem dc_M_check_23 : decode prog_10_method_48_code 23 = .ok (.invokevirtual 149, 3) ∧ 23 + 3 = 26 := ⟨by decide +kernel, rfl⟩
theorem dc_M_check_26 : decode prog_10_method_48_code 26 = .ok (.isub, 1) ∧ 26 + 1 = 27 := ⟨by decide +kernel, rfl⟩
theorem dc_M_check_27 : decode prog_10_method_48_code 27 = .ok (.ireturn, 1) := by decide +kernel
theorem dc_M_correct_0 : decode prog_10_method_49_code 0 = .ok (.iload_n 1, 1) ∧ 0 + 1 = 1 := ⟨by decide +kernel, rfl⟩
theorem dc_M_correct_1 : decode prog_10_method_49_code 1 = .ok (.sipush (-9999), 3) ∧ 1 + 3 = 4 := ⟨by decide +kernel, rfl⟩
theorem dc_M_correct_4 : decode prog_10_method_49_code 4 = .ok (.sipush 9999, 3) ∧ 4 + 3 = 7 := ⟨by decide +kernel, rfl⟩
theorem dc_M_correct_7 : decode prog_10_method_49_code 7 = .ok (.invokestatic 31, 3) ∧ 7 + 3 = 10 := ⟨by decide +kernel, rfl⟩
theorem dc_M_correct_10 : decode prog_10_method_49_code 10 = .ok (.ifCond .ne 6, 3) ∧ ((10 : Nat) : Int) + (6) = ((16 : Nat) : Int) ∧ 10 + 3 = 13 := ⟨by decide +kernel, by decide, rfl⟩
theorem dc_M_correct_13 : decode prog_10_method_49_code 13 = .ok (.ldc 64, 2) ∧ 13 + 2 = 15 := ⟨by decide +kernel, rfl⟩
theorem dc_M_correct_15 : decode prog_10_method_49_code 15 = .ok (.ireturn, 1) := by decide +kernel
theorem dc_M_correct_16 : decode prog_10_method_49_code 16 = .ok (.aload_n 0, 1) ∧ 16 + 1 = 17 := ⟨by decide +kernel, rfl⟩
theorem dc_M_correct_17 : decode prog_10_method_49_code 17 = .ok (.getfield 7, 3) ∧ 17 + 3 = 20 := ⟨by decide +kernel, rfl⟩
theorem dc_M_correct_20 : decode prog_10_method_49_code 20 = .ok (.bipush 6, 2) ∧ 20 + 2 = 22 := ⟨by decide +kernel, rfl⟩
theorem dc_M_correct_22 : decode prog_10_method_49_code 22 = .ok (.iaload, 1) ∧ 22 + 1 = 23 := ⟨by decide +kernel, rfl⟩
theorem dc_M_correct_23 : decode prog_10_method_49_code 23 = .ok (.iload_n 1, 1) ∧ 23 + 1 = 24 := ⟨by decide +kernel, rfl⟩
theorem dc_M_correct_24 : decode prog_10_method_49_code 24 = .ok (.isub, 1) ∧ 24 + 1 = 25 := ⟨by decide +kernel, rfl⟩
theorem dc_M_correct_25 : decode prog_10_method_49_code 25 = .ok (.ldc 152, 2) ∧ 25 + 2 = 27 := ⟨by decide +kernel, rfl⟩
theorem dc_M_correct_27 : decode prog_10_method_49_code 27 = .ok (.ldc 153, 2) ∧ 27 + 2 = 29 := ⟨by decide +kernel, rfl⟩
theorem dc_M_correct_29 : decode prog_10_method_49_code 29 = .ok (.invokestatic 31, 3) ∧ 29 + 3 = 32 := ⟨by decide +kernel, rfl⟩
theorem dc_M_correct_32 : decode prog_10_method_49_code 32 = .ok (.ifCond .ne 6, 3) ∧ ((32 : Nat) : Int) + (6) = ((38 : Nat) : Int) ∧ 32 + 3 = 35 := ⟨by decide +kernel, by decide, rfl⟩
theorem dc_M_correct_35 : decode prog_10_method_49_code 35 = .ok (.ldc 30, 2) ∧ 35 + 2 = 37 := ⟨by decide +kernel, rfl⟩
theorem dc_M_correct_37 : decode prog_10_method_49_code 37 = .ok (.ireturn, 1) := by decide +kernel
theorem dc_M_correct_38 : decode prog_10_method_49_code 38 = .ok (.aload_n 0, 1) ∧ 38 + 1 = 39 := ⟨by decide +kernel, rfl⟩
theorem dc_M_correct_39 : decode prog_10_method_49_code 39 = .ok (.invokevirtual 47, 3) ∧ 39 + 3 = 42 := ⟨by decide +kernel, rfl⟩
theorem dc_M_correct_42 : decode prog_10_method_49_code 42 = .ok (.aload_n 0, 1) ∧ 42 + 1 = 43 := ⟨by decide +kernel, rfl⟩
theorem dc_M_correct_43 : decode prog_10_method_49_code 43 = .ok (.getfield 7, 3) ∧ 43 + 3 = 46 := ⟨by decide +kernel, rfl⟩
theorem dc_M_correct_46 : decode prog_10_method_49_code 46 = .ok (.bipush 6, 2) ∧ 46 + 2 = 48 := ⟨by decide +kernel, rfl⟩
theorem dc_M_correct_48 : decode prog_10_method_49_code 48 = .ok (.dup2, 1) ∧ 48 + 1 = 49 := ⟨by decide +kernel, rfl⟩
theorem dc_M_correct_49 : decode prog_10_method_49_code 49 = .ok (.iaload, 1) ∧ 49 + 1 = 50 := ⟨by decide +kernel, rfl⟩
theorem dc_M_correct_50 : decode prog_10_method_49_code 50 = .ok (.iload_n 1, 1) ∧ 50 + 1 = 51 := ⟨by decide +kernel, rfl⟩
theorem dc_M_correct_51 : decode prog_10_method_49_code 51 = .ok (.isub, 1) ∧ 51 + 1 = 52 := ⟨by decide +kernel, rfl⟩
theorem dc_M_correct_52 : decode prog_10_method_49_code 52 = .ok (.iastore, 1) ∧ 52 + 1 = 53 := ⟨by decide +kernel, rfl⟩
theorem dc_M_correct_53 : decode prog_10_method_49_code 53 = .ok (.aload_n 0, 1) ∧ 53 + 1 = 54 := ⟨by decide +kernel, rfl⟩
theorem dc_M_correct_54 : decode prog_10_method_49_code 54 = .ok (.getfield 7, 3) ∧ 54 + 3 = 57 := ⟨by decide +kernel, rfl⟩
theorem dc_M_correct_57 : decode prog_10_method_49_code 57 = .ok (.bipush 11, 2) ∧ 57 + 2 = 59 := ⟨by decide +kernel, rfl⟩
theorem dc_M_correct_59 : decode prog_10_method_49_code 59 = .ok (.dup2, 1) ∧ 59 + 1 = 60 := ⟨by decide +kernel, rfl⟩
theorem dc_M_correct_60 : decode prog_10_method_49_code 60 = .ok (.iaload, 1) ∧ 60 + 1 = 61 := ⟨by decide +kernel, rfl⟩
theorem dc_M_correct_61 : decode prog_10_method_49_code 61 = .ok (.iload_n 1, 1) ∧ 61 + 1 = 62 := ⟨by decide +kernel, rfl⟩
theorem dc_M_correct_62 : decode prog_10_method_49_code 62 = .ok (.isub, 1) ∧ 62 + 1 = 63 := ⟨by decide +kernel, rfl⟩
theorem dc_M_correct_63 : decode prog_10_method_49_code 63 = .ok (.iastore, 1) ∧ 63 + 1 = 64 := ⟨by decide +kernel, rfl⟩
theorem dc_M_correct_64 : decode prog_10_method_49_code 64 = .ok (.aload_n 0, 1) ∧ 64 + 1 = 65 := ⟨by decide +kernel, rfl⟩
theorem dc_M_correct_65 : decode prog_10_method_49_code 65 = .ok (.getfield 7, 3) ∧ 65 + 3 = 68 := ⟨by decide +kernel, rfl⟩
theorem dc_M_correct_68 : decode prog_10_method_49_code 68 = .ok (.bipush 6, 2) ∧ 68 + 2 = 70 := ⟨by decide +kernel, rfl⟩
theorem dc_M_correct_70 : decode prog_10_method_49_code 70 = .ok (.iaload, 1) ∧ 70 + 1 = 71 := ⟨by decide +kernel, rfl⟩
theorem dc_M_correct_71 : decode prog_10_method_49_code 71 = .ok (.ireturn, 1) := by decide +kernel
theorem dc_M_keep_0 : decode prog_10_method_51_code 0 = .ok (.iload_n 1, 1) ∧ 0 + 1 = 1 := ⟨by decide +kernel, rfl⟩
theorem dc_M_keep_1 : decode prog_10_method_51_code 1 = .ok (.invokestatic 154, 3) ∧ 1 + 3 = 4 := ⟨by decide +kernel, rfl⟩
theorem dc_M_keep_4 : decode prog_10_method_51_code 4 = .ok (.ifCond .ne 6, 3) ∧ ((4 : Nat) : Int) + (6) = ((10 : Nat) : Int) ∧ 4 + 3 = 7 := ⟨by decide +kernel, by decide, rfl⟩
theorem dc_M_keep_7 : decode prog_10_method_51_code 7 = .ok (.ldc 64, 2) ∧ 7 + 2 = 9 := ⟨by decide +kernel, rfl⟩
theorem dc_M_keep_9 : decode prog_10_method_51_code 9 = .ok (.ireturn, 1) := by decide +kernel
theorem dc_M_keep_10 : decode prog_10_method_51_code 10 = .ok (.iconst 0, 1) ∧ 10 + 1 = 11 := ⟨by decide +kernel, rfl⟩
theorem dc_M_keep_11 : decode prog_10_method_51_code 11 = .ok (.istore_n 2, 1) ∧ 11 + 1 = 12 := ⟨by decide +kernel, rfl⟩
theorem dc_M_keep_12 : decode prog_10_method_51_code 12 = .ok (.iload_n 2, 1) ∧ 12 + 1 = 13 := ⟨by decide +kernel, rfl⟩
theorem dc_M_keep_13 : decode prog_10_method_51_code 13 = .ok (.bipush 80, 2) ∧ 13 + 2 = 15 := ⟨by decide +kernel, rfl⟩
theorem dc_M_keep_15 : decode prog_10_method_51_code 15 = .ok (.if_icmp .ge 26, 3) ∧ ((15 : Nat) : Int) + (26) = ((41 : Nat) : Int) ∧ 15 + 3 = 18 := ⟨by decide +kernel, by decide, rfl⟩
theorem dc_M_keep_18 : decode prog_10_method_51_code 18 = .ok (.aload_n 0, 1) ∧ 18 + 1 = 19 := ⟨by decide +kernel, rfl⟩
theorem dc_M_keep_19 : decode prog_10_method_51_code 19 = .ok (.getfield 16, 3) ∧ 19 + 3 = 22 := ⟨by decide +kernel, rfl⟩
theorem dc_M_keep_22 : decode prog_10_method_51_code 22 = .ok (.bipush 80, 2) ∧ 22 + 2 = 24 := ⟨by decide +kernel, rfl⟩
theorem dc_M_keep_24 : decode prog_10_method_51_code 24 = .ok (.iload_n 1, 1) ∧ 24 + 1 = 25 := ⟨by decide +kernel, rfl⟩
theorem dc_M_keep_25 : decode prog_10_method_51_code 25 = .ok (.imul, 1) ∧ 25 + 1 = 26 := ⟨by decide +kernel, rfl⟩
theorem dc_M_keep_26 : decode prog_10_method_51_code 26 = .ok (.iload_n 2, 1) ∧ 26 + 1 = 27 := ⟨by decide +kernel, rfl⟩
theorem dc_M_keep_27 : decode prog_10_method_51_code 27 = .ok (.iadd, 1) ∧ 27 + 1 = 28 := ⟨by decide +kernel, rfl⟩
theorem dc_M_keep_28 : decode prog_10_method_51_code 28 = .ok (.aload_n 0, 1) ∧ 28 + 1 = 29 := ⟨by decide +kernel, rfl⟩
theorem dc_M_keep_29 : decode prog_10_method_51_code 29 = .ok (.getfield 7, 3) ∧ 29 + 3 = 32 := ⟨by decide +kernel, rfl⟩
theorem dc_M_keep_32 : decode prog_10_method_51_code 32 = .ok (.iload_n 2, 1) ∧ 32 + 1 = 33 := ⟨by decide +kernel, rfl⟩
theorem dc_M_keep_33 : decode prog_10_method_51_code 33 = .ok (.iaload, 1) ∧ 33 + 1 = 34 := ⟨by decide +kernel, rfl⟩
theorem dc_M_keep_34 : decode prog_10_method_51_code 34 = .ok (.iastore, 1) ∧ 34 + 1 = 35 := ⟨by decide +kernel, rfl⟩
theorem dc_M_keep_35 : decode prog_10_method_51_code 35 = .ok (.iinc 2 1, 3) ∧ 35 + 3 = 38 := ⟨by decide +kernel, rfl⟩
theorem dc_M_keep_38 : decode prog_10_method_51_code 38 = .ok (.goto (-26), 3) ∧ ((38 : Nat) : Int) + (-26) = ((12 : Nat) : Int) := ⟨by decide +kernel, by decide⟩
theorem dc_M_keep_41 : decode prog_10_method_51_code 41 = .ok (.aload_n 0, 1) ∧ 41 + 1 = 42 := ⟨by decide +kernel, rfl⟩
theorem dc_M_keep_42 : decode prog_10_method_51_code 42 = .ok (.dup, 1) ∧ 42 + 1 = 43 := ⟨by decide +kernel, rfl⟩
theorem dc_M_keep_43 : decode prog_10_method_51_code 43 = .ok (.getfield 157, 3) ∧ 43 + 3 = 46 := ⟨by decide +kernel, rfl⟩
theorem dc_M_keep_46 : decode prog_10_method_51_code 46 = .ok (.iconst 1, 1) ∧ 46 + 1 = 47 := ⟨by decide +kernel, rfl⟩
theorem dc_M_keep_47 : decode prog_10_method_51_code 47 = .ok (.iload_n 1, 1) ∧ 47 + 1 = 48 := ⟨by decide +kernel, rfl⟩
theorem dc_M_keep_48 : decode prog_10_method_51_code 48 = .ok (.ishl, 1) ∧ 48 + 1 = 49 := ⟨by decide +kernel, rfl⟩
theorem dc_M_keep_49 : decode prog_10_method_51_code 49 = .ok (.ior, 1) ∧ 49 + 1 = 50 := ⟨by decide +kernel, rfl⟩
theorem dc_M_keep_50 : decode prog_10_method_51_code 50 = .ok (.putfield 157, 3) ∧ 50 + 3 = 53 := ⟨by decide +kernel, rfl⟩
theorem dc_M_keep_53 : decode prog_10_method_51_code 53 = .ok (.aload_n 0, 1) ∧ 53 + 1 = 54 := ⟨by decide +kernel, rfl⟩
theorem dc_M_keep_54 : decode prog_10_method_51_code 54 = .ok (.getfield 7, 3) ∧ 54 + 3 = 57 := ⟨by decide +kernel, rfl⟩
theorem dc_M_keep_57 : decode prog_10_method_51_code 57 = .ok (.bipush 6, 2) ∧ 57 + 2 = 59 := ⟨by decide +kernel, rfl⟩
theorem dc_M_keep_59 : decode prog_10_method_51_code 59 = .ok (.iaload, 1) ∧ 59 + 1 = 60 := ⟨by decide +kernel, rfl⟩
theorem dc_M_keep_60 : decode prog_10_method_51_code 60 = .ok (.ireturn, 1) := by decide +kernel
theorem dc_M_isImage_0 : decode prog_10_method_50_code 0 = .ok (.iload_n 0, 1) ∧ 0 + 1 = 1 := ⟨by decide +kernel, rfl⟩
theorem dc_M_isImage_1 : decode prog_10_method_50_code 1 = .ok (.iconst 0, 1) ∧ 1 + 1 = 2 := ⟨by decide +kernel, rfl⟩
theorem dc_M_isImage_2 : decode prog_10_method_50_code 2 = .ok (.iconst 1, 1) ∧ 2 + 1 = 3 := ⟨by decide +kernel, rfl⟩
theorem dc_M_isImage_3 : decode prog_10_method_50_code 3 = .ok (.invokestatic 31, 3) ∧ 3 + 3 = 6 := ⟨by decide +kernel, rfl⟩
theorem dc_M_isImage_6 : decode prog_10_method_50_code 6 = .ok (.ireturn, 1) := by decide +kernel
theorem dc_M_back_0 : decode prog_10_method_52_code 0 = .ok (.iload_n 1, 1) ∧ 0 + 1 = 1 := ⟨by decide +kernel, rfl⟩
theorem dc_M_back_1 : decode prog_10_method_52_code 1 = .ok (.invokestatic 154, 3) ∧ 1 + 3 = 4 := ⟨by decide +kernel, rfl⟩
theorem dc_M_back_4 : decode prog_10_method_52_code 4 = .ok (.ifCond .ne 6, 3) ∧ ((4 : Nat) : Int) + (6) = ((10 : Nat) : Int) ∧ 4 + 3 = 7 := ⟨by decide +kernel, by decide, rfl⟩
theorem dc_M_back_7 : decode prog_10_method_52_code 7 = .ok (.ldc 64, 2) ∧ 7 + 2 = 9 := ⟨by decide +kernel, rfl⟩
theorem dc_M_back_9 : decode prog_10_method_52_code 9 = .ok (.ireturn, 1) := by decide +kernel
theorem dc_M_back_10 : decode prog_10_method_52_code 10 = .ok (.aload_n 0, 1) ∧ 10 + 1 = 11 := ⟨by decide +kernel, rfl⟩
theorem dc_M_back_11 : decode prog_10_method_52_code 11 = .ok (.getfield 157, 3) ∧ 11 + 3 = 14 := ⟨by decide +kernel, rfl⟩
theorem dc_M_back_14 : decode prog_10_method_52_code 14 = .ok (.iload_n 1, 1) ∧ 14 + 1 = 15 := ⟨by decide +kernel, rfl⟩
theorem dc_M_back_15 : decode prog_10_method_52_code 15 = .ok (.ishr, 1) ∧ 15 + 1 = 16 := ⟨by decide +kernel, rfl⟩
theorem dc_M_back_16 : decode prog_10_method_52_code 16 = .ok (.iconst 1, 1) ∧ 16 + 1 = 17 := ⟨by decide +kernel, rfl⟩
theorem dc_M_back_17 : decode prog_10_method_52_code 17 = .ok (.iand, 1) ∧ 17 + 1 = 18 := ⟨by decide +kernel, rfl⟩
theorem dc_M_back_18 : decode prog_10_method_52_code 18 = .ok (.ifCond .ne 6, 3) ∧ ((18 : Nat) : Int) + (6) = ((24 : Nat) : Int) ∧ 18 + 3 = 21 := ⟨by decide +kernel, by decide, rfl⟩
theorem dc_M_back_21 : decode prog_10_method_52_code 21 = .ok (.ldc 30, 2) ∧ 21 + 2 = 23 := ⟨by decide +kernel, rfl⟩
theorem dc_M_back_23 : decode prog_10_method_52_code 23 = .ok (.ireturn, 1) := by decide +kernel
theorem dc_M_back_24 : decode prog_10_method_52_code 24 = .ok (.aload_n 0, 1) ∧ 24 + 1 = 25 := ⟨by decide +kernel, rfl⟩
theorem dc_M_back_25 : decode prog_10_method_52_code 25 = .ok (.invokevirtual 47, 3) ∧ 25 + 3 = 28 := ⟨by decide +kernel, rfl⟩
theorem dc_M_back_28 : decode prog_10_method_52_code 28 = .ok (.iconst 0, 1) ∧ 28 + 1 = 29 := ⟨by decide +kernel, rfl⟩
theorem dc_M_back_29 : decode prog_10_method_52_code 29 = .ok (.istore_n 2, 1) ∧ 29 + 1 = 30 := ⟨by decide +kernel, rfl⟩
theorem dc_M_back_30 : decode prog_10_method_52_code 30 = .ok (.iload_n 2, 1) ∧ 30 + 1 = 31 := ⟨by decide +kernel, rfl⟩
theorem dc_M_back_31 : decode prog_10_method_52_code 31 = .ok (.bipush 80, 2) ∧ 31 + 2 = 33 := ⟨by decide +kernel, rfl⟩
theorem dc_M_back_33 : decode prog_10_method_52_code 33 = .ok (.if_icmp .ge 26, 3) ∧ ((33 : Nat) : Int) + (26) = ((59 : Nat) : Int) ∧ 33 + 3 = 36 := ⟨by decide +kernel, by decide, rfl⟩
theorem dc_M_back_36 : decode prog_10_method_52_code 36 = .ok (.aload_n 0, 1) ∧ 36 + 1 = 37 := ⟨by decide +kernel, rfl⟩
theorem dc_M_back_37 : decode prog_10_method_52_code 37 = .ok (.getfield 7, 3) ∧ 37 + 3 = 40 := ⟨by decide +kernel, rfl⟩
theorem dc_M_back_40 : decode prog_10_method_52_code 40 = .ok (.iload_n 2, 1) ∧ 40 + 1 = 41 := ⟨by decide +kernel, rfl⟩
theorem dc_M_back_41 : decode prog_10_method_52_code 41 = .ok (.aload_n 0, 1) ∧ 41 + 1 = 42 := ⟨by decide +kernel, rfl⟩
theorem dc_M_back_42 : decode prog_10_method_52_code 42 = .ok (.getfield 16, 3) ∧ 42 + 3 = 45 := ⟨by decide +kernel, rfl⟩
theorem dc_M_back_45 : decode prog_10_method_52_code 45 = .ok (.bipush 80, 2) ∧ 45 + 2 = 47 := ⟨by decide +kernel, rfl⟩
theorem dc_M_back_47 : decode prog_10_method_52_code 47 = .ok (.iload_n 1, 1) ∧ 47 + 1 = 48 := ⟨by decide +kernel, rfl⟩
theorem dc_M_back_48 : decode prog_10_method_52_code 48 = .ok (.imul, 1) ∧ 48 + 1 = 49 := ⟨by decide +kernel, rfl⟩
theorem dc_M_back_49 : decode prog_10_method_52_code 49 = .ok (.iload_n 2, 1) ∧ 49 + 1 = 50 := ⟨by decide +kernel, rfl⟩
theorem dc_M_back_50 : decode prog_10_method_52_code 50 = .ok (.iadd, 1) ∧ 50 + 1 = 51 := ⟨by decide +kernel, rfl⟩
theorem dc_M_back_51 : decode prog_10_method_52_code 51 = .ok (.iaload, 1) ∧ 51 + 1 = 52 := ⟨by decide +kernel, rfl⟩
theorem dc_M_back_52 : decode prog_10_method_52_code 52 = .ok (.iastore, 1) ∧ 52 + 1 = 53 := ⟨by decide +kernel, rfl⟩
theorem dc_M_back_53 : decode prog_10_method_52_code 53 = .ok (.iinc 2 1, 3) ∧ 53 + 3 = 56 := ⟨by decide +kernel, rfl⟩
theorem dc_M_back_56 : decode prog_10_method_52_code 56 = .ok (.goto (-26), 3) ∧ ((56 : Nat) : Int) + (-26) = ((30 : Nat) : Int) := ⟨by decide +kernel, by decide⟩
theorem dc_M_back_59 : decode prog_10_method_52_code 59 = .ok (.aload_n 0, 1) ∧ 59 + 1 = 60 := ⟨by decide +kernel, rfl⟩
theorem dc_M_back_60 : decode prog_10_method_52_code 60 = .ok (.getfield 7, 3) ∧ 60 + 3 = 63 := ⟨by decide +kernel, rfl⟩
theorem dc_M_back_63 : decode prog_10_method_52_code 63 = .ok (.bipush 6, 2) ∧ 63 + 2 = 65 := ⟨by decide +kernel, rfl⟩
theorem dc_M_back_65 : decode prog_10_method_52_code 65 = .ok (.iaload, 1) ∧ 65 + 1 = 66 := ⟨by decide +kernel, rfl⟩
theorem dc_M_back_66 : decode prog_10_method_52_code 66 = .ok (.ireturn, 1) := by decide +kernel
theorem dc_M_count_0 : decode prog_10_method_53_code 0 = .ok (.iload_n 1, 1) ∧ 0 + 1 = 1 := ⟨by decide +kernel, rfl⟩
theorem dc_M_count_1 : decode prog_10_method_53_code 1 = .ok (.tableswitch 151 12 20 #[51, 56, 68, 112, 120, 128, 136, 141, 146], 51) ∧ ((1 : Nat) : Int) + (151) = ((152 : Nat) : Int) ∧ (20 : Int) + 1 - (12) = (([52, 57, 69, 113, 121, 129, 137, 142, 147] : List Nat).length : Int) ∧ (#[51, 56, 68, 112, 120, 128, 136, 141, 146] : Array Int).toList.map (fun o => ((1 : Nat) : Int) + o) = ([52, 57, 69, 113, 121, 129, 137, 142, 147] : List Nat).map (fun t : Nat => (t : Int)) := ⟨by decide +kernel, by decide, by decide, by decide⟩
theorem dc_M_count_52 : decode prog_10_method_53_code 52 = .ok (.aload_n 0, 1) ∧ 52 + 1 = 53 := ⟨by decide +kernel, rfl⟩
theorem dc_M_count_53 : decode prog_10_method_53_code 53 = .ok (.invokevirtual 113, 3) ∧ 53 + 3 = 56 := ⟨by decide +kernel, rfl⟩
theorem dc_M_count_56 : decode prog_10_method_53_code 56 = .ok (.ireturn, 1) := by decide +kernel
theorem dc_M_count_57 : decode prog_10_method_53_code 57 = .ok (.aload_n 0, 1) ∧ 57 + 1 = 58 := ⟨by decide +kernel, rfl⟩
theorem dc_M_count_58 : decode prog_10_method_53_code 58 = .ok (.aload_n 0, 1) ∧ 58 + 1 = 59 := ⟨by decide +kernel, rfl⟩
theorem dc_M_count_59 : decode prog_10_method_53_code 59 = .ok (.getfield 7, 3) ∧ 59 + 3 = 62 := ⟨by decide +kernel, rfl⟩
theorem dc_M_count_62 : decode prog_10_method_53_code 62 = .ok (.bipush 8, 2) ∧ 62 + 2 = 64 := ⟨by decide +kernel, rfl⟩
theorem dc_M_count_64 : decode prog_10_method_53_code 64 = .ok (.iaload, 1) ∧ 64 + 1 = 65 := ⟨by decide +kernel, rfl⟩
theorem dc_M_count_65 : decode prog_10_method_53_code 65 = .ok (.invokevirtual 116, 3) ∧ 65 + 3 = 68 := ⟨by decide +kernel, rfl⟩
theorem dc_M_count_68 : decode prog_10_method_53_code 68 = .ok (.ireturn, 1) := by decide +kernel
theorem dc_M_count_69 : decode prog_10_method_53_code 69 = .ok (.aload_n 0, 1) ∧ 69 + 1 = 70 := ⟨by decide +kernel, rfl⟩
theorem dc_M_count_70 : decode prog_10_method_53_code 70 = .ok (.getfield 7, 3) ∧ 70 + 3 = 73 := ⟨by decide +kernel, rfl⟩
theorem dc_M_count_73 : decode prog_10_method_53_code 73 = .ok (.bipush 18, 2) ∧ 73 + 2 = 75 := ⟨by decide +kernel, rfl⟩
theorem dc_M_count_75 : decode prog_10_method_53_code 75 = .ok (.iaload, 1) ∧ 75 + 1 = 76 := ⟨by decide +kernel, rfl⟩
theorem dc_M_count_76 : decode prog_10_method_53_code 76 = .ok (.iconst 1, 1) ∧ 76 + 1 = 77 := ⟨by decide +kernel, rfl⟩
theorem dc_M_count_77 : decode prog_10_method_53_code 77 = .ok (.if_icmp .ne 34, 3) ∧ ((77 : Nat) : Int) + (34) = ((111 : Nat) : Int) ∧ 77 + 3 = 80 := ⟨by decide +kernel, by decide, rfl⟩
theorem dc_M_count_80 : decode prog_10_method_53_code 80 = .ok (.aload_n 0, 1) ∧ 80 + 1 = 81 := ⟨by decide +kernel, rfl⟩
theorem dc_M_count_81 : decode prog_10_method_53_code 81 = .ok (.getfield 7, 3) ∧ 81 + 3 = 84 := ⟨by decide +kernel, rfl⟩
theorem dc_M_count_84 : decode prog_10_method_53_code 84 = .ok (.bipush 8, 2) ∧ 84 + 2 = 86 := ⟨by decide +kernel, rfl⟩
theorem dc_M_count_86 : decode prog_10_method_53_code 86 = .ok (.iaload, 1) ∧ 86 + 1 = 87 := ⟨by decide +kernel, rfl⟩
theorem dc_M_count_87 : decode prog_10_method_53_code 87 = .ok (.aload_n 0, 1) ∧ 87 + 1 = 88 := ⟨by decide +kernel, rfl⟩
theorem dc_M_count_88 : decode prog_10_method_53_code 88 = .ok (.getfield 7, 3) ∧ 88 + 3 = 91 := ⟨by decide +kernel, rfl⟩
theorem dc_M_count_91 : decode prog_10_method_53_code 91 = .ok (.bipush 19, 2) ∧ 91 + 2 = 93 := ⟨by decide +kernel, rfl⟩
theorem dc_M_count_93 : decode prog_10_method_53_code 93 = .ok (.iaload, 1) ∧ 93 + 1 = 94 := ⟨by decide +kernel, rfl⟩
theorem dc_M_count_94 : decode prog_10_method_53_code 94 = .ok (.aload_n 0, 1) ∧ 94 + 1 = 95 := ⟨by decide +kernel, rfl⟩
theorem dc_M_count_95 : decode prog_10_method_53_code 95 = .ok (.getfield 7, 3) ∧ 95 + 3 = 98 := ⟨by decide +kernel, rfl⟩
theorem dc_M_count_98 : decode prog_10_method_53_code 98 = .ok (.bipush 20, 2) ∧ 98 + 2 = 100 := ⟨by decide +kernel, rfl⟩
theorem dc_M_count_100 : decode prog_10_method_53_code 100 = .ok (.iaload, 1) ∧ 100 + 1 = 101 := ⟨by decide +kernel, rfl⟩
theorem dc_M_count_101 : decode prog_10_method_53_code 101 = .ok (.invokestatic 31, 3) ∧ 101 + 3 = 104 := ⟨by decide +kernel, rfl⟩
theorem dc_M_count_104 : decode prog_10_method_53_code 104 = .ok (.ifCond .eq 7, 3) ∧ ((104 : Nat) : Int) + (7) = ((111 : Nat) : Int) ∧ 104 + 3 = 107 := ⟨by decide +kernel, by decide, rfl⟩
theorem dc_M_count_107 : decode prog_10_method_53_code 107 = .ok (.iconst 1, 1) ∧ 107 + 1 = 108 := ⟨by decide +kernel, rfl⟩
theorem dc_M_count_108 : decode prog_10_method_53_code 108 = .ok (.goto 4, 3) ∧ ((108 : Nat) : Int) + (4) = ((112 : Nat) : Int) := ⟨by decide +kernel, by decide⟩
theorem dc_M_count_111 : decode prog_10_method_53_code 111 = .ok (.iconst 0, 1) ∧ 111 + 1 = 112 := ⟨by decide +kernel, rfl⟩
theorem dc_M_count_112 : decode prog_10_method_53_code 112 = .ok (.ireturn, 1) := by decide +kernel
theorem dc_M_count_113 : decode prog_10_method_53_code 113 = .ok (.aload_n 0, 1) ∧ 113 + 1 = 114 := ⟨by decide +kernel, rfl⟩
theorem dc_M_count_114 : decode prog_10_method_53_code 114 = .ok (.getfield 7, 3) ∧ 114 + 3 = 117 := ⟨by decide +kernel, rfl⟩
theorem dc_M_count_117 : decode prog_10_method_53_code 117 = .ok (.bipush 21, 2) ∧ 117 + 2 = 119 := ⟨by decide +kernel, rfl⟩
theorem dc_M_count_119 : decode prog_10_method_53_code 119 = .ok (.iaload, 1) ∧ 119 + 1 = 120 := ⟨by decide +kernel, rfl⟩
theorem dc_M_count_120 : decode prog_10_method_53_code 120 = .ok (.ireturn, 1) := by decide +kernel
theorem dc_M_count_121 : decode prog_10_method_53_code 121 = .ok (.aload_n 0, 1) ∧ 121 + 1 = 122 := ⟨by decide +kernel, rfl⟩
theorem dc_M_count_122 : decode prog_10_method_53_code 122 = .ok (.getfield 7, 3) ∧ 122 + 3 = 125 := ⟨by decide +kernel, rfl⟩
theorem dc_M_count_125 : decode prog_10_method_53_code 125 = .ok (.bipush 42, 2) ∧ 125 + 2 = 127 := ⟨by decide +kernel, rfl⟩
theorem dc_M_count_127 : decode prog_10_method_53_code 127 = .ok (.iaload, 1) ∧ 127 + 1 = 128 := ⟨by decide +kernel, rfl⟩
theorem dc_M_count_128 : decode prog_10_method_53_code 128 = .ok (.ireturn, 1) := by decide +kernel
theorem dc_M_count_129 : decode prog_10_method_53_code 129 = .ok (.aload_n 0, 1) ∧ 129 + 1 = 130 := ⟨by decide +kernel, rfl⟩
theorem dc_M_count_130 : decode prog_10_method_53_code 130 = .ok (.getfield 7, 3) ∧ 130 + 3 = 133 := ⟨by decide +kernel, rfl⟩
theorem dc_M_count_133 : decode prog_10_method_53_code 133 = .ok (.bipush 63, 2) ∧ 133 + 2 = 135 := ⟨by decide +kernel, rfl⟩
theorem dc_M_count_135 : decode prog_10_method_53_code 135 = .ok (.iaload, 1) ∧ 135 + 1 = 136 := ⟨by decide +kernel, rfl⟩
theorem dc_M_count_136 : decode prog_10_method_53_code 136 = .ok (.ireturn, 1) := by decide +kernel
theorem dc_M_count_137 : decode prog_10_method_53_code 137 = .ok (.aload_n 0, 1) ∧ 137 + 1 = 138 := ⟨by decide +kernel, rfl⟩
theorem dc_M_count_138 : decode prog_10_method_53_code 138 = .ok (.getfield 76, 3) ∧ 138 + 3 = 141 := ⟨by decide +kernel, rfl⟩
theorem dc_M_count_141 : decode prog_10_method_53_code 141 = .ok (.ireturn, 1) := by decide +kernel
theorem dc_M_count_142 : decode prog_10_method_53_code 142 = .ok (.aload_n 0, 1) ∧ 142 + 1 = 143 := ⟨by decide +kernel, rfl⟩
theorem dc_M_count_143 : decode prog_10_method_53_code 143 = .ok (.getfield 26, 3) ∧ 143 + 3 = 146 := ⟨by decide +kernel, rfl⟩
theorem dc_M_count_146 : decode prog_10_method_53_code 146 = .ok (.ireturn, 1) := by decide +kernel
theorem dc_M_count_147 : decode prog_10_method_53_code 147 = .ok (.aload_n 0, 1) ∧ 147 + 1 = 148 := ⟨by decide +kernel, rfl⟩
theorem dc_M_count_148 : decode prog_10_method_53_code 148 = .ok (.getfield 157, 3) ∧ 148 + 3 = 151 := ⟨by decide +kernel, rfl⟩
theorem dc_M_count_151 : decode prog_10_method_53_code 151 = .ok (.ireturn, 1) := by decide +kernel
theorem dc_M_count_152 : decode prog_10_method_53_code 152 = .ok (.iload_n 1, 1) ∧ 152 + 1 = 153 := ⟨by decide +kernel, rfl⟩
theorem dc_M_count_153 : decode prog_10_method_53_code 153 = .ok (.iconst 0, 1) ∧ 153 + 1 = 154 := ⟨by decide +kernel, rfl⟩
theorem dc_M_count_154 : decode prog_10_method_53_code 154 = .ok (.bipush 11, 2) ∧ 154 + 2 = 156 := ⟨by decide +kernel, rfl⟩
theorem dc_M_count_156 : decode prog_10_method_53_code 156 = .ok (.invokestatic 31, 3) ∧ 156 + 3 = 159 := ⟨by decide +kernel, rfl⟩
theorem dc_M_count_159 : decode prog_10_method_53_code 159 = .ok (.ifCond .eq 12, 3) ∧ ((159 : Nat) : Int) + (12) = ((171 : Nat) : Int) ∧ 159 + 3 = 162 := ⟨by decide +kernel, by decide, rfl⟩
theorem dc_M_count_162 : decode prog_10_method_53_code 162 = .ok (.aload_n 0, 1) ∧ 162 + 1 = 163 := ⟨by decide +kernel, rfl⟩
theorem dc_M_count_163 : decode prog_10_method_53_code 163 = .ok (.getfield 7, 3) ∧ 163 + 3 = 166 := ⟨by decide +kernel, rfl⟩
theorem dc_M_count_166 : decode prog_10_method_53_code 166 = .ok (.iload_n 1, 1) ∧ 166 + 1 = 167 := ⟨by decide +kernel, rfl⟩
theorem dc_M_count_167 : decode prog_10_method_53_code 167 = .ok (.iaload, 1) ∧ 167 + 1 = 168 := ⟨by decide +kernel, rfl⟩
theorem dc_M_count_168 : decode prog_10_method_53_code 168 = .ok (.goto 5, 3) ∧ ((168 : Nat) : Int) + (5) = ((173 : Nat) : Int) := ⟨by decide +kernel, by decide⟩
theorem dc_M_count_171 : decode prog_10_method_53_code 171 = .ok (.ldc 64, 2) ∧ 171 + 2 = 173 := ⟨by decide +kernel, rfl⟩
theorem dc_M_count_173 : decode prog_10_method_53_code 173 = .ok (.ireturn, 1) := by decide +kernel
theorem dc_M_account_0 : decode prog_10_method_54_code 0 = .ok (.iload_n 1, 1) ∧ 0 + 1 = 1 := ⟨by decide +kernel, rfl⟩
theorem dc_M_account_1 : decode prog_10_method_54_code 1 = .ok (.iconst 0, 1) ∧ 1 + 1 = 2 := ⟨by decide +kernel, rfl⟩
theorem dc_M_account_2 : decode prog_10_method_54_code 2 = .ok (.iconst 5, 1) ∧ 2 + 1 = 3 := ⟨by decide +kernel, rfl⟩
theorem dc_M_account_3 : decode prog_10_method_54_code 3 = .ok (.invokestatic 31, 3) ∧ 3 + 3 = 6 := ⟨by decide +kernel, rfl⟩
theorem dc_M_account_6 : decode prog_10_method_54_code 6 = .ok (.ifCond .eq 15, 3) ∧ ((6 : Nat) : Int) + (15) = ((21 : Nat) : Int) ∧ 6 + 3 = 9 := ⟨by decide +kernel, by decide, rfl⟩
theorem dc_M_account_9 : decode prog_10_method_54_code 9 = .ok (.aload_n 0, 1) ∧ 9 + 1 = 10 := ⟨by decide +kernel, rfl⟩
theorem dc_M_account_10 : decode prog_10_method_54_code 10 = .ok (.getfield 7, 3) ∧ 10 + 3 = 13 := ⟨by decide +kernel, rfl⟩
theorem dc_M_account_13 : decode prog_10_method_54_code 13 = .ok (.bipush 12, 2) ∧ 13 + 2 = 15 := ⟨by decide +kernel, rfl⟩
theorem dc_M_account_15 : decode prog_10_method_54_code 15 = .ok (.iload_n 1, 1) ∧ 15 + 1 = 16 := ⟨by decide +kernel, rfl⟩
theorem dc_M_account_16 : decode prog_10_method_54_code 16 = .ok (.iadd, 1) ∧ 16 + 1 = 17 := ⟨by decide +kernel, rfl⟩
theorem dc_M_account_17 : decode prog_10_method_54_code 17 = .ok (.iaload, 1) ∧ 17 + 1 = 18 := ⟨by decide +kernel, rfl⟩
theorem dc_M_account_18 : decode prog_10_method_54_code 18 = .ok (.goto 5, 3) ∧ ((18 : Nat) : Int) + (5) = ((23 : Nat) : Int) := ⟨by decide +kernel, by decide⟩
theorem dc_M_account_21 : decode prog_10_method_54_code 21 = .ok (.ldc 64, 2) ∧ 21 + 2 = 23 := ⟨by decide +kernel, rfl⟩
theorem dc_M_account_23 : decode prog_10_method_54_code 23 = .ok (.ireturn, 1) := by decide +kernel
theorem dc_M_loadAt_0 : decode prog_10_method_55_code 0 = .ok (.iload_n 1, 1) ∧ 0 + 1 = 1 := ⟨by decide +kernel, rfl⟩
theorem dc_M_loadAt_1 : decode prog_10_method_55_code 1 = .ok (.invokestatic 65, 3) ∧ 1 + 3 = 4 := ⟨by decide +kernel, rfl⟩
theorem dc_M_loadAt_4 : decode prog_10_method_55_code 4 = .ok (.ifCond .eq 11, 3) ∧ ((4 : Nat) : Int) + (11) = ((15 : Nat) : Int) ∧ 4 + 3 = 7 := ⟨by decide +kernel, by decide, rfl⟩
theorem dc_M_loadAt_7 : decode prog_10_method_55_code 7 = .ok (.aload_n 0, 1) ∧ 7 + 1 = 8 := ⟨by decide +kernel, rfl⟩
theorem dc_M_loadAt_8 : decode prog_10_method_55_code 8 = .ok (.iload_n 1, 1) ∧ 8 + 1 = 9 := ⟨by decide +kernel, rfl⟩
theorem dc_M_loadAt_9 : decode prog_10_method_55_code 9 = .ok (.invokevirtual 116, 3) ∧ 9 + 3 = 12 := ⟨by decide +kernel, rfl⟩
theorem dc_M_loadAt_12 : decode prog_10_method_55_code 12 = .ok (.goto 5, 3) ∧ ((12 : Nat) : Int) + (5) = ((17 : Nat) : Int) := ⟨by decide +kernel, by decide⟩
theorem dc_M_loadAt_15 : decode prog_10_method_55_code 15 = .ok (.ldc 64, 2) ∧ 15 + 2 = 17 := ⟨by decide +kernel, rfl⟩
theorem dc_M_loadAt_17 : decode prog_10_method_55_code 17 = .ok (.ireturn, 1) := by decide +kernel
theorem dc_M_errorAt_0 : decode prog_10_method_56_code 0 = .ok (.iload_n 1, 1) ∧ 0 + 1 = 1 := ⟨by decide +kernel, rfl⟩
theorem dc_M_errorAt_1 : decode prog_10_method_56_code 1 = .ok (.invokestatic 65, 3) ∧ 1 + 3 = 4 := ⟨by decide +kernel, rfl⟩
theorem dc_M_errorAt_4 : decode prog_10_method_56_code 4 = .ok (.ifCond .eq 11, 3) ∧ ((4 : Nat) : Int) + (11) = ((15 : Nat) : Int) ∧ 4 + 3 = 7 := ⟨by decide +kernel, by decide, rfl⟩
theorem dc_M_errorAt_7 : decode prog_10_method_56_code 7 = .ok (.aload_n 0, 1) ∧ 7 + 1 = 8 := ⟨by decide +kernel, rfl⟩
theorem dc_M_errorAt_8 : decode prog_10_method_56_code 8 = .ok (.iload_n 1, 1) ∧ 8 + 1 = 9 := ⟨by decide +kernel, rfl⟩
theorem dc_M_errorAt_9 : decode prog_10_method_56_code 9 = .ok (.invokevirtual 126, 3) ∧ 9 + 3 = 12 := ⟨by decide +kernel, rfl⟩
theorem dc_M_errorAt_12 : decode prog_10_method_56_code 12 = .ok (.goto 5, 3) ∧ ((12 : Nat) : Int) + (5) = ((17 : Nat) : Int) := ⟨by decide +kernel, by decide⟩
theorem dc_M_errorAt_15 : decode prog_10_method_56_code 15 = .ok (.ldc 64, 2) ∧ 15 + 2 = 17 := ⟨by decide +kernel, rfl⟩
theorem dc_M_errorAt_17 : decode prog_10_method_56_code 17 = .ok (.ireturn, 1) := by decide +kernel
theorem dc_M_command_0 : decode prog_10_method_57_code 0 = .ok (.iload_n 1, 1) ∧ 0 + 1 = 1 := ⟨by decide +kernel, rfl⟩
theorem dc_M_command_1 : decode prog_10_method_57_code 1 = .ok (.ifCond .lt 12, 3) ∧ ((1 : Nat) : Int) + (12) = ((13 : Nat) : Int) ∧ 1 + 3 = 4 := ⟨by decide +kernel, by decide, rfl⟩
theorem dc_M_command_4 : decode prog_10_method_57_code 4 = .ok (.iload_n 2, 1) ∧ 4 + 1 = 5 := ⟨by decide +kernel, rfl⟩
theorem dc_M_command_5 : decode prog_10_method_57_code 5 = .ok (.iconst 0, 1) ∧ 5 + 1 = 6 := ⟨by decide +kernel, rfl⟩
theorem dc_M_command_6 : decode prog_10_method_57_code 6 = .ok (.iconst 1, 1) ∧ 6 + 1 = 7 := ⟨by decide +kernel, rfl⟩
theorem dc_M_command_7 : decode prog_10_method_57_code 7 = .ok (.invokestatic 31, 3) ∧ 7 + 3 = 10 := ⟨by decide +kernel, rfl⟩
theorem dc_M_command_10 : decode prog_10_method_57_code 10 = .ok (.ifCond .ne 6, 3) ∧ ((10 : Nat) : Int) + (6) = ((16 : Nat) : Int) ∧ 10 + 3 = 13 := ⟨by decide +kernel, by decide, rfl⟩
theorem dc_M_command_13 : decode prog_10_method_57_code 13 = .ok (.ldc 64, 2) ∧ 13 + 2 = 15 := ⟨by decide +kernel, rfl⟩
theorem dc_M_command_15 : decode prog_10_method_57_code 15 = .ok (.ireturn, 1) := by decide +kernel
theorem dc_M_command_16 : decode prog_10_method_57_code 16 = .ok (.iload_n 1, 1) ∧ 16 + 1 = 17 := ⟨by decide +kernel, rfl⟩
theorem dc_M_command_17 : decode prog_10_method_57_code 17 = .ok (.aload_n 0, 1) ∧ 17 + 1 = 18 := ⟨by decide +kernel, rfl⟩
theorem dc_M_command_18 : decode prog_10_method_57_code 18 = .ok (.getfield 7, 3) ∧ 18 + 3 = 21 := ⟨by decide +kernel, rfl⟩
theorem dc_M_command_21 : decode prog_10_method_57_code 21 = .ok (.bipush 63, 2) ∧ 21 + 2 = 23 := ⟨by decide +kernel, rfl⟩
theorem dc_M_command_23 : decode prog_10_method_57_code 23 = .ok (.iaload, 1) ∧ 23 + 1 = 24 := ⟨by decide +kernel, rfl⟩
theorem dc_M_command_24 : decode prog_10_method_57_code 24 = .ok (.if_icmp .ge 12, 3) ∧ ((24 : Nat) : Int) + (12) = ((36 : Nat) : Int) ∧ 24 + 3 = 27 := ⟨by decide +kernel, by decide, rfl⟩
theorem dc_M_command_27 : decode prog_10_method_57_code 27 = .ok (.aload_n 0, 1) ∧ 27 + 1 = 28 := ⟨by decide +kernel, rfl⟩
theorem dc_M_command_28 : decode prog_10_method_57_code 28 = .ok (.iload_n 1, 1) ∧ 28 + 1 = 29 := ⟨by decide +kernel, rfl⟩
theorem dc_M_command_29 : decode prog_10_method_57_code 29 = .ok (.iload_n 2, 1) ∧ 29 + 1 = 30 := ⟨by decide +kernel, rfl⟩
theorem dc_M_command_30 : decode prog_10_method_57_code 30 = .ok (.invokevirtual 139, 3) ∧ 30 + 3 = 33 := ⟨by decide +kernel, rfl⟩
theorem dc_M_command_33 : decode prog_10_method_57_code 33 = .ok (.goto 5, 3) ∧ ((33 : Nat) : Int) + (5) = ((38 : Nat) : Int) := ⟨by decide +kernel, by decide⟩
theorem dc_M_command_36 : decode prog_10_method_57_code 36 = .ok (.ldc 145, 2) ∧ 36 + 2 = 38 := ⟨by decide +kernel, rfl⟩
theorem dc_M_command_38 : decode prog_10_method_57_code 38 = .ok (.ireturn, 1) := by decide +kernel
theorem dc_M_flag_0 : decode prog_10_method_58_code 0 = .ok (.iload_n 1, 1) ∧ 0 + 1 = 1 := ⟨by decide +kernel, rfl⟩
theorem dc_M_flag_1 : decode prog_10_method_58_code 1 = .ok (.iconst 0, 1) ∧ 1 + 1 = 2 := ⟨by decide +kernel, rfl⟩
theorem dc_M_flag_2 : decode prog_10_method_58_code 2 = .ok (.iconst 1, 1) ∧ 2 + 1 = 3 := ⟨by decide +kernel, rfl⟩
theorem dc_M_flag_3 : decode prog_10_method_58_code 3 = .ok (.invokestatic 31, 3) ∧ 3 + 3 = 6 := ⟨by decide +kernel, rfl⟩
theorem dc_M_flag_6 : decode prog_10_method_58_code 6 = .ok (.ifCond .ne 6, 3) ∧ ((6 : Nat) : Int) + (6) = ((12 : Nat) : Int) ∧ 6 + 3 = 9 := ⟨by decide +kernel, by decide, rfl⟩
theorem dc_M_flag_9 : decode prog_10_method_58_code 9 = .ok (.ldc 64, 2) ∧ 9 + 2 = 11 := ⟨by decide +kernel, rfl⟩
theorem dc_M_flag_11 : decode prog_10_method_58_code 11 = .ok (.ireturn, 1) := by decide +kernel
theorem dc_M_flag_12 : decode prog_10_method_58_code 12 = .ok (.aload_n 0, 1) ∧ 12 + 1 = 13 := ⟨by decide +kernel, rfl⟩
theorem dc_M_flag_13 : decode prog_10_method_58_code 13 = .ok (.getfield 7, 3) ∧ 13 + 3 = 16 := ⟨by decide +kernel, rfl⟩
theorem dc_M_flag_16 : decode prog_10_method_58_code 16 = .ok (.bipush 18, 2) ∧ 16 + 2 = 18 := ⟨by decide +kernel, rfl⟩
theorem dc_M_flag_18 : decode prog_10_method_58_code 18 = .ok (.iaload, 1) ∧ 18 + 1 = 19 := ⟨by decide +kernel, rfl⟩
theorem dc_M_flag_19 : decode prog_10_method_58_code 19 = .ok (.iconst 1, 1) ∧ 19 + 1 = 20 := ⟨by decide +kernel, rfl⟩
theorem dc_M_flag_20 : decode prog_10_method_58_code 20 = .ok (.if_icmp .ne 15, 3) ∧ ((20 : Nat) : Int) + (15) = ((35 : Nat) : Int) ∧ 20 + 3 = 23 := ⟨by decide +kernel, by decide, rfl⟩
theorem dc_M_flag_23 : decode prog_10_method_58_code 23 = .ok (.aload_n 0, 1) ∧ 23 + 1 = 24 := ⟨by decide +kernel, rfl⟩
theorem dc_M_flag_24 : decode prog_10_method_58_code 24 = .ok (.getfield 7, 3) ∧ 24 + 3 = 27 := ⟨by decide +kernel, rfl⟩
theorem dc_M_flag_27 : decode prog_10_method_58_code 27 = .ok (.bipush 19, 2) ∧ 27 + 2 = 29 := ⟨by decide +kernel, rfl⟩
theorem dc_M_flag_29 : decode prog_10_method_58_code 29 = .ok (.iload_n 1, 1) ∧ 29 + 1 = 30 := ⟨by decide +kernel, rfl⟩
theorem dc_M_flag_30 : decode prog_10_method_58_code 30 = .ok (.iadd, 1) ∧ 30 + 1 = 31 := ⟨by decide +kernel, rfl⟩
theorem dc_M_flag_31 : decode prog_10_method_58_code 31 = .ok (.iaload, 1) ∧ 31 + 1 = 32 := ⟨by decide +kernel, rfl⟩
theorem dc_M_flag_32 : decode prog_10_method_58_code 32 = .ok (.goto 5, 3) ∧ ((32 : Nat) : Int) + (5) = ((37 : Nat) : Int) := ⟨by decide +kernel, by decide⟩
theorem dc_M_flag_35 : decode prog_10_method_58_code 35 = .ok (.ldc 145, 2) ∧ 35 + 2 = 37 := ⟨by decide +kernel, rfl⟩
theorem dc_M_flag_37 : decode prog_10_method_58_code 37 = .ok (.ireturn, 1) := by decide +kernel
theorem dc_M_why_0 : decode prog_10_method_59_code 0 = .ok (.iload_n 1, 1) ∧ 0 + 1 = 1 := ⟨by decide +kernel, rfl⟩
theorem dc_M_why_1 : decode prog_10_method_59_code 1 = .ok (.invokestatic 65, 3) ∧ 1 + 3 = 4 := ⟨by decide +kernel, rfl⟩
theorem dc_M_why_4 : decode prog_10_method_59_code 4 = .ok (.ifCond .ne 6, 3) ∧ ((4 : Nat) : Int) + (6) = ((10 : Nat) : Int) ∧ 4 + 3 = 7 := ⟨by decide +kernel, by decide, rfl⟩
theorem dc_M_why_7 : decode prog_10_method_59_code 7 = .ok (.ldc 64, 2) ∧ 7 + 2 = 9 := ⟨by decide +kernel, rfl⟩
theorem dc_M_why_9 : decode prog_10_method_59_code 9 = .ok (.ireturn, 1) := by decide +kernel
theorem dc_M_why_10 : decode prog_10_method_59_code 10 = .ok (.aload_n 0, 1) ∧ 10 + 1 = 11 := ⟨by decide +kernel, rfl⟩
theorem dc_M_why_11 : decode prog_10_method_59_code 11 = .ok (.iload_n 1, 1) ∧ 11 + 1 = 12 := ⟨by decide +kernel, rfl⟩
theorem dc_M_why_12 : decode prog_10_method_59_code 12 = .ok (.invokevirtual 129, 3) ∧ 12 + 3 = 15 := ⟨by decide +kernel, rfl⟩
theorem dc_M_why_15 : decode prog_10_method_59_code 15 = .ok (.istore_n 2, 1) ∧ 15 + 1 = 16 := ⟨by decide +kernel, rfl⟩
theorem dc_M_why_16 : decode prog_10_method_59_code 16 = .ok (.iload_n 2, 1) ∧ 16 + 1 = 17 := ⟨by decide +kernel, rfl⟩
theorem dc_M_why_17 : decode prog_10_method_59_code 17 = .ok (.invokestatic 65, 3) ∧ 17 + 3 = 20 := ⟨by decide +kernel, rfl⟩
theorem dc_M_why_20 : decode prog_10_method_59_code 20 = .ok (.ifCond .ne 5, 3) ∧ ((20 : Nat) : Int) + (5) = ((25 : Nat) : Int) ∧ 20 + 3 = 23 := ⟨by decide +kernel, by decide, rfl⟩
theorem dc_M_why_23 : decode prog_10_method_59_code 23 = .ok (.iconst 1, 1) ∧ 23 + 1 = 24 := ⟨by decide +kernel, rfl⟩
theorem dc_M_why_24 : decode prog_10_method_59_code 24 = .ok (.ireturn, 1) := by decide +kernel
theorem dc_M_why_25 : decode prog_10_method_59_code 25 = .ok (.aload_n 0, 1) ∧ 25 + 1 = 26 := ⟨by decide +kernel, rfl⟩
theorem dc_M_why_26 : decode prog_10_method_59_code 26 = .ok (.invokevirtual 99, 3) ∧ 26 + 3 = 29 := ⟨by decide +kernel, rfl⟩
theorem dc_M_why_29 : decode prog_10_method_59_code 29 = .ok (.aload_n 0, 1) ∧ 29 + 1 = 30 := ⟨by decide +kernel, rfl⟩
theorem dc_M_why_30 : decode prog_10_method_59_code 30 = .ok (.iload_n 1, 1) ∧ 30 + 1 = 31 := ⟨by decide +kernel, rfl⟩
theorem dc_M_why_31 : decode prog_10_method_59_code 31 = .ok (.invokevirtual 136, 3) ∧ 31 + 3 = 34 := ⟨by decide +kernel, rfl⟩
theorem dc_M_why_34 : decode prog_10_method_59_code 34 = .ok (.aload_n 0, 1) ∧ 34 + 1 = 35 := ⟨by decide +kernel, rfl⟩
theorem dc_M_why_35 : decode prog_10_method_59_code 35 = .ok (.invokevirtual 106, 3) ∧ 35 + 3 = 38 := ⟨by decide +kernel, rfl⟩
theorem dc_M_why_38 : decode prog_10_method_59_code 38 = .ok (.aload_n 0, 1) ∧ 38 + 1 = 39 := ⟨by decide +kernel, rfl⟩
theorem dc_M_why_39 : decode prog_10_method_59_code 39 = .ok (.getfield 19, 3) ∧ 39 + 3 = 42 := ⟨by decide +kernel, rfl⟩
theorem dc_M_why_42 : decode prog_10_method_59_code 42 = .ok (.bipush 6, 2) ∧ 42 + 2 = 44 := ⟨by decide +kernel, rfl⟩
theorem dc_M_why_44 : decode prog_10_method_59_code 44 = .ok (.iaload, 1) ∧ 44 + 1 = 45 := ⟨by decide +kernel, rfl⟩
theorem dc_M_why_45 : decode prog_10_method_59_code 45 = .ok (.iload_n 2, 1) ∧ 45 + 1 = 46 := ⟨by decide +kernel, rfl⟩
theorem dc_M_why_46 : decode prog_10_method_59_code 46 = .ok (.if_icmp .eq 5, 3) ∧ ((46 : Nat) : Int) + (5) = ((51 : Nat) : Int) ∧ 46 + 3 = 49 := ⟨by decide +kernel, by decide, rfl⟩
theorem dc_M_why_49 : decode prog_10_method_59_code 49 = .ok (.iconst 2, 1) ∧ 49 + 1 = 50 := ⟨by decide +kernel, rfl⟩
theorem dc_M_why_50 : decode prog_10_method_59_code 50 = .ok (.ireturn, 1) := by decide +kernel
theorem dc_M_why_51 : decode prog_10_method_59_code 51 = .ok (.aload_n 0, 1) ∧ 51 + 1 = 52 := ⟨by decide +kernel, rfl⟩
theorem dc_M_why_52 : decode prog_10_method_59_code 52 = .ok (.getfield 19, 3) ∧ 52 + 3 = 55 := ⟨by decide +kernel, rfl⟩
theorem dc_M_why_55 : decode prog_10_method_59_code 55 = .ok (.bipush 9, 2) ∧ 55 + 2 = 57 := ⟨by decide +kernel, rfl⟩
theorem dc_M_why_57 : decode prog_10_method_59_code 57 = .ok (.iaload, 1) ∧ 57 + 1 = 58 := ⟨by decide +kernel, rfl⟩
theorem dc_M_why_58 : decode prog_10_method_59_code 58 = .ok (.ifCond .eq 5, 3) ∧ ((58 : Nat) : Int) + (5) = ((63 : Nat) : Int) ∧ 58 + 3 = 61 := ⟨by decide +kernel, by decide, rfl⟩
theorem dc_M_why_61 : decode prog_10_method_59_code 61 = .ok (.iconst 3, 1) ∧ 61 + 1 = 62 := ⟨by decide +kernel, rfl⟩
theorem dc_M_why_62 : decode prog_10_method_59_code 62 = .ok (.ireturn, 1) := by decide +kernel
theorem dc_M_why_63 : decode prog_10_method_59_code 63 = .ok (.aload_n 0, 1) ∧ 63 + 1 = 64 := ⟨by decide +kernel, rfl⟩
theorem dc_M_why_64 : decode prog_10_method_59_code 64 = .ok (.getfield 19, 3) ∧ 64 + 3 = 67 := ⟨by decide +kernel, rfl⟩
theorem dc_M_why_67 : decode prog_10_method_59_code 67 = .ok (.bipush 7, 2) ∧ 67 + 2 = 69 := ⟨by decide +kernel, rfl⟩
theorem dc_M_why_69 : decode prog_10_method_59_code 69 = .ok (.iaload, 1) ∧ 69 + 1 = 70 := ⟨by decide +kernel, rfl⟩
theorem dc_M_why_70 : decode prog_10_method_59_code 70 = .ok (.iload_n 2, 1) ∧ 70 + 1 = 71 := ⟨by decide +kernel, rfl⟩
theorem dc_M_why_71 : decode prog_10_method_59_code 71 = .ok (.if_icmp .eq 19, 3) ∧ ((71 : Nat) : Int) + (19) = ((90 : Nat) : Int) ∧ 71 + 3 = 74 := ⟨by decide +kernel, by decide, rfl⟩
theorem dc_M_why_74 : decode prog_10_method_59_code 74 = .ok (.aload_n 0, 1) ∧ 74 + 1 = 75 := ⟨by decide +kernel, rfl⟩
theorem dc_M_why_75 : decode prog_10_method_59_code 75 = .ok (.getfield 19, 3) ∧ 75 + 3 = 78 := ⟨by decide +kernel, rfl⟩
theorem dc_M_why_78 : decode prog_10_method_59_code 78 = .ok (.bipush 10, 2) ∧ 78 + 2 = 80 := ⟨by decide +kernel, rfl⟩
theorem dc_M_why_80 : decode prog_10_method_59_code 80 = .ok (.iaload, 1) ∧ 80 + 1 = 81 := ⟨by decide +kernel, rfl⟩
theorem dc_M_why_81 : decode prog_10_method_59_code 81 = .ok (.ifCond .eq 7, 3) ∧ ((81 : Nat) : Int) + (7) = ((88 : Nat) : Int) ∧ 81 + 3 = 84 := ⟨by decide +kernel, by decide, rfl⟩
theorem dc_M_why_84 : decode prog_10_method_59_code 84 = .ok (.iconst 4, 1) ∧ 84 + 1 = 85 := ⟨by decide +kernel, rfl⟩
theorem dc_M_why_85 : decode prog_10_method_59_code 85 = .ok (.goto 4, 3) ∧ ((85 : Nat) : Int) + (4) = ((89 : Nat) : Int) := ⟨by decide +kernel, by decide⟩
theorem dc_M_why_88 : decode prog_10_method_59_code 88 = .ok (.iconst 5, 1) ∧ 88 + 1 = 89 := ⟨by decide +kernel, rfl⟩
theorem dc_M_why_89 : decode prog_10_method_59_code 89 = .ok (.ireturn, 1) := by decide +kernel
theorem dc_M_why_90 : decode prog_10_method_59_code 90 = .ok (.aload_n 0, 1) ∧ 90 + 1 = 91 := ⟨by decide +kernel, rfl⟩
theorem dc_M_why_91 : decode prog_10_method_59_code 91 = .ok (.getfield 19, 3) ∧ 91 + 3 = 94 := ⟨by decide +kernel, rfl⟩
theorem dc_M_why_94 : decode prog_10_method_59_code 94 = .ok (.bipush 8, 2) ∧ 94 + 2 = 96 := ⟨by decide +kernel, rfl⟩
theorem dc_M_why_96 : decode prog_10_method_59_code 96 = .ok (.iaload, 1) ∧ 96 + 1 = 97 := ⟨by decide +kernel, rfl⟩
theorem dc_M_why_97 : decode prog_10_method_59_code 97 = .ok (.iload_n 2, 1) ∧ 97 + 1 = 98 := ⟨by decide +kernel, rfl⟩
theorem dc_M_why_98 : decode prog_10_method_59_code 98 = .ok (.if_icmp .eq 8, 3) ∧ ((98 : Nat) : Int) + (8) = ((106 : Nat) : Int) ∧ 98 + 3 = 101 := ⟨by decide +kernel, by decide, rfl⟩
theorem dc_M_why_101 : decode prog_10_method_59_code 101 = .ok (.bipush 6, 2) ∧ 101 + 2 = 103 := ⟨by decide +kernel, rfl⟩
theorem dc_M_why_103 : decode prog_10_method_59_code 103 = .ok (.goto 4, 3) ∧ ((103 : Nat) : Int) + (4) = ((107 : Nat) : Int) := ⟨by decide +kernel, by decide⟩
theorem dc_M_why_106 : decode prog_10_method_59_code 106 = .ok (.iconst 0, 1) ∧ 106 + 1 = 107 := ⟨by decide +kernel, rfl⟩
theorem dc_M_why_107 : decode prog_10_method_59_code 107 = .ok (.ireturn, 1) := by decide +kernel
theorem dc_M_losses_0 : decode prog_10_method_60_code 0 = .ok (.iload_n 1, 1) ∧ 0 + 1 = 1 := ⟨by decide +kernel, rfl⟩
theorem dc_M_losses_1 : decode prog_10_method_60_code 1 = .ok (.invokestatic 65, 3) ∧ 1 + 3 = 4 := ⟨by decide +kernel, rfl⟩
theorem dc_M_losses_4 : decode prog_10_method_60_code 4 = .ok (.ifCond .eq 14, 3) ∧ ((4 : Nat) : Int) + (14) = ((18 : Nat) : Int) ∧ 4 + 3 = 7 := ⟨by decide +kernel, by decide, rfl⟩
theorem dc_M_losses_7 : decode prog_10_method_60_code 7 = .ok (.iload_n 2, 1) ∧ 7 + 1 = 8 := ⟨by decide +kernel, rfl⟩
theorem dc_M_losses_8 : decode prog_10_method_60_code 8 = .ok (.iconst 1, 1) ∧ 8 + 1 = 9 := ⟨by decide +kernel, rfl⟩
theorem dc_M_losses_9 : decode prog_10_method_60_code 9 = .ok (.sipush 1000, 3) ∧ 9 + 3 = 12 := ⟨by decide +kernel, rfl⟩
theorem dc_M_losses_12 : decode prog_10_method_60_code 12 = .ok (.invokestatic 31, 3) ∧ 12 + 3 = 15 := ⟨by decide +kernel, rfl⟩
theorem dc_M_losses_15 : decode prog_10_method_60_code 15 = .ok (.ifCond .ne 6, 3) ∧ ((15 : Nat) : Int) + (6) = ((21 : Nat) : Int) ∧ 15 + 3 = 18 := ⟨by decide +kernel, by decide, rfl⟩
theorem dc_M_losses_18 : decode prog_10_method_60_code 18 = .ok (.ldc 64, 2) ∧ 18 + 2 = 20 := ⟨by decide +kernel, rfl⟩
theorem dc_M_losses_20 : decode prog_10_method_60_code 20 = .ok (.ireturn, 1) := by decide +kernel
theorem dc_M_losses_21 : decode prog_10_method_60_code 21 = .ok (.aload_n 0, 1) ∧ 21 + 1 = 22 := ⟨by decide +kernel, rfl⟩
theorem dc_M_losses_22 : decode prog_10_method_60_code 22 = .ok (.iload_n 1, 1) ∧ 22 + 1 = 23 := ⟨by decide +kernel, rfl⟩
theorem dc_M_losses_23 : decode prog_10_method_60_code 23 = .ok (.invokevirtual 129, 3) ∧ 23 + 3 = 26 := ⟨by decide +kernel, rfl⟩
theorem dc_M_losses_26 : decode prog_10_method_60_code 26 = .ok (.invokestatic 65, 3) ∧ 26 + 3 = 29 := ⟨by decide +kernel, rfl⟩
theorem dc_M_losses_29 : decode prog_10_method_60_code 29 = .ok (.ifCond .ne 6, 3) ∧ ((29 : Nat) : Int) + (6) = ((35 : Nat) : Int) ∧ 29 + 3 = 32 := ⟨by decide +kernel, by decide, rfl⟩
theorem dc_M_losses_32 : decode prog_10_method_60_code 32 = .ok (.ldc 145, 2) ∧ 32 + 2 = 34 := ⟨by decide +kernel, rfl⟩
theorem dc_M_losses_34 : decode prog_10_method_60_code 34 = .ok (.ireturn, 1) := by decide +kernel
theorem dc_M_losses_35 : decode prog_10_method_60_code 35 = .ok (.aload_n 0, 1) ∧ 35 + 1 = 36 := ⟨by decide +kernel, rfl⟩
theorem dc_M_losses_36 : decode prog_10_method_60_code 36 = .ok (.invokevirtual 99, 3) ∧ 36 + 3 = 39 := ⟨by decide +kernel, rfl⟩
theorem dc_M_losses_39 : decode prog_10_method_60_code 39 = .ok (.aload_n 0, 1) ∧ 39 + 1 = 40 := ⟨by decide +kernel, rfl⟩
theorem dc_M_losses_40 : decode prog_10_method_60_code 40 = .ok (.getfield 7, 3) ∧ 40 + 3 = 43 := ⟨by decide +kernel, rfl⟩
theorem dc_M_losses_43 : decode prog_10_method_60_code 43 = .ok (.iconst 2, 1) ∧ 43 + 1 = 44 := ⟨by decide +kernel, rfl⟩
theorem dc_M_losses_44 : decode prog_10_method_60_code 44 = .ok (.iload_n 2, 1) ∧ 44 + 1 = 45 := ⟨by decide +kernel, rfl⟩
theorem dc_M_losses_45 : decode prog_10_method_60_code 45 = .ok (.iastore, 1) ∧ 45 + 1 = 46 := ⟨by decide +kernel, rfl⟩
theorem dc_M_losses_46 : decode prog_10_method_60_code 46 = .ok (.aload_n 0, 1) ∧ 46 + 1 = 47 := ⟨by decide +kernel, rfl⟩
theorem dc_M_losses_47 : decode prog_10_method_60_code 47 = .ok (.iload_n 1, 1) ∧ 47 + 1 = 48 := ⟨by decide +kernel, rfl⟩
theorem dc_M_losses_48 : decode prog_10_method_60_code 48 = .ok (.invokevirtual 136, 3) ∧ 48 + 3 = 51 := ⟨by decide +kernel, rfl⟩
theorem dc_M_losses_51 : decode prog_10_method_60_code 51 = .ok (.aload_n 0, 1) ∧ 51 + 1 = 52 := ⟨by decide +kernel, rfl⟩
theorem dc_M_losses_52 : decode prog_10_method_60_code 52 = .ok (.invokevirtual 106, 3) ∧ 52 + 3 = 55 := ⟨by decide +kernel, rfl⟩
theorem dc_M_losses_55 : decode prog_10_method_60_code 55 = .ok (.aload_n 0, 1) ∧ 55 + 1 = 56 := ⟨by decide +kernel, rfl⟩
theorem dc_M_losses_56 : decode prog_10_method_60_code 56 = .ok (.getfield 19, 3) ∧ 56 + 3 = 59 := ⟨by decide +kernel, rfl⟩
theorem dc_M_losses_59 : decode prog_10_method_60_code 59 = .ok (.bipush 10, 2) ∧ 59 + 2 = 61 := ⟨by decide +kernel, rfl⟩
theorem dc_M_losses_61 : decode prog_10_method_60_code 61 = .ok (.iaload, 1) ∧ 61 + 1 = 62 := ⟨by decide +kernel, rfl⟩
theorem dc_M_losses_62 : decode prog_10_method_60_code 62 = .ok (.aload_n 0, 1) ∧ 62 + 1 = 63 := ⟨by decide +kernel, rfl⟩
theorem dc_M_losses_63 : decode prog_10_method_60_code 63 = .ok (.getfield 7, 3) ∧ 63 + 3 = 66 := ⟨by decide +kernel, rfl⟩
theorem dc_M_losses_66 : decode prog_10_method_60_code 66 = .ok (.bipush 10, 2) ∧ 66 + 2 = 68 := ⟨by decide +kernel, rfl⟩
theorem dc_M_losses_68 : decode prog_10_method_60_code 68 = .ok (.iaload, 1) ∧ 68 + 1 = 69 := ⟨by decide +kernel, rfl⟩
theorem dc_M_losses_69 : decode prog_10_method_60_code 69 = .ok (.isub, 1) ∧ 69 + 1 = 70 := ⟨by decide +kernel, rfl⟩
theorem dc_M_losses_70 : decode prog_10_method_60_code 70 = .ok (.ireturn, 1) := by decide +kernel
theorem dc_M_fastest_0 : decode prog_10_method_62_code 0 = .ok (.iload_n 1, 1) ∧ 0 + 1 = 1 := ⟨by decide +kernel, rfl⟩
theorem dc_M_fastest_1 : decode prog_10_method_62_code 1 = .ok (.invokestatic 65, 3) ∧ 1 + 3 = 4 := ⟨by decide +kernel, rfl⟩
theorem dc_M_fastest_4 : decode prog_10_method_62_code 4 = .ok (.ifCond .ne 6, 3) ∧ ((4 : Nat) : Int) + (6) = ((10 : Nat) : Int) ∧ 4 + 3 = 7 := ⟨by decide +kernel, by decide, rfl⟩
theorem dc_M_fastest_7 : decode prog_10_method_62_code 7 = .ok (.ldc 64, 2) ∧ 7 + 2 = 9 := ⟨by decide +kernel, rfl⟩
theorem dc_M_fastest_9 : decode prog_10_method_62_code 9 = .ok (.ireturn, 1) := by decide +kernel
theorem dc_M_fastest_10 : decode prog_10_method_62_code 10 = .ok (.aload_n 0, 1) ∧ 10 + 1 = 11 := ⟨by decide +kernel, rfl⟩
theorem dc_M_fastest_11 : decode prog_10_method_62_code 11 = .ok (.iload_n 1, 1) ∧ 11 + 1 = 12 := ⟨by decide +kernel, rfl⟩
theorem dc_M_fastest_12 : decode prog_10_method_62_code 12 = .ok (.invokevirtual 129, 3) ∧ 12 + 3 = 15 := ⟨by decide +kernel, rfl⟩
theorem dc_M_fastest_15 : decode prog_10_method_62_code 15 = .ok (.invokestatic 65, 3) ∧ 15 + 3 = 18 := ⟨by decide +kernel, rfl⟩
theorem dc_M_fastest_18 : decode prog_10_method_62_code 18 = .ok (.ifCond .ne 6, 3) ∧ ((18 : Nat) : Int) + (6) = ((24 : Nat) : Int) ∧ 18 + 3 = 21 := ⟨by decide +kernel, by decide, rfl⟩
theorem dc_M_fastest_21 : decode prog_10_method_62_code 21 = .ok (.ldc 145, 2) ∧ 21 + 2 = 23 := ⟨by decide +kernel, rfl⟩
theorem dc_M_fastest_23 : decode prog_10_method_62_code 23 = .ok (.ireturn, 1) := by decide +kernel
theorem dc_M_fastest_24 : decode prog_10_method_62_code 24 = .ok (.sipush 1000, 3) ∧ 24 + 3 = 27 := ⟨by decide +kernel, rfl⟩
theorem dc_M_fastest_27 : decode prog_10_method_62_code 27 = .ok (.istore_n 2, 1) ∧ 27 + 1 = 28 := ⟨by decide +kernel, rfl⟩
theorem dc_M_fastest_28 : decode prog_10_method_62_code 28 = .ok (.iload_n 2, 1) ∧ 28 + 1 = 29 := ⟨by decide +kernel, rfl⟩
theorem dc_M_fastest_29 : decode prog_10_method_62_code 29 = .ok (.ifCond .le 18, 3) ∧ ((29 : Nat) : Int) + (18) = ((47 : Nat) : Int) ∧ 29 + 3 = 32 := ⟨by decide +kernel, by decide, rfl⟩
theorem dc_M_fastest_32 : decode prog_10_method_62_code 32 = .ok (.aload_n 0, 1) ∧ 32 + 1 = 33 := ⟨by decide +kernel, rfl⟩
theorem dc_M_fastest_33 : decode prog_10_method_62_code 33 = .ok (.iload_n 1, 1) ∧ 33 + 1 = 34 := ⟨by decide +kernel, rfl⟩
theorem dc_M_fastest_34 : decode prog_10_method_62_code 34 = .ok (.iload_n 2, 1) ∧ 34 + 1 = 35 := ⟨by decide +kernel, rfl⟩
theorem dc_M_fastest_35 : decode prog_10_method_62_code 35 = .ok (.invokevirtual 160, 3) ∧ 35 + 3 = 38 := ⟨by decide +kernel, rfl⟩
theorem dc_M_fastest_38 : decode prog_10_method_62_code 38 = .ok (.ifCond .eq 9, 3) ∧ ((38 : Nat) : Int) + (9) = ((47 : Nat) : Int) ∧ 38 + 3 = 41 := ⟨by decide +kernel, by decide, rfl⟩
theorem dc_M_fastest_41 : decode prog_10_method_62_code 41 = .ok (.iinc 2 (-50), 3) ∧ 41 + 3 = 44 := ⟨by decide +kernel, rfl⟩
theorem dc_M_fastest_44 : decode prog_10_method_62_code 44 = .ok (.goto (-16), 3) ∧ ((44 : Nat) : Int) + (-16) = ((28 : Nat) : Int) := ⟨by decide +kernel, by decide⟩
theorem dc_M_fastest_47 : decode prog_10_method_62_code 47 = .ok (.iload_n 2, 1) ∧ 47 + 1 = 48 := ⟨by decide +kernel, rfl⟩
theorem dc_M_fastest_48 : decode prog_10_method_62_code 48 = .ok (.ifCond .ne 8, 3) ∧ ((48 : Nat) : Int) + (8) = ((56 : Nat) : Int) ∧ 48 + 3 = 51 := ⟨by decide +kernel, by decide, rfl⟩
theorem dc_M_fastest_51 : decode prog_10_method_62_code 51 = .ok (.ldc 145, 2) ∧ 51 + 2 = 53 := ⟨by decide +kernel, rfl⟩
theorem dc_M_fastest_53 : decode prog_10_method_62_code 53 = .ok (.goto 4, 3) ∧ ((53 : Nat) : Int) + (4) = ((57 : Nat) : Int) := ⟨by decide +kernel, by decide⟩
theorem dc_M_fastest_56 : decode prog_10_method_62_code 56 = .ok (.iload_n 2, 1) ∧ 56 + 1 = 57 := ⟨by decide +kernel, rfl⟩
theorem dc_M_fastest_57 : decode prog_10_method_62_code 57 = .ok (.ireturn, 1) := by decide +kernel
theorem dc_M_stallsAt_0 : decode prog_10_method_61_code 0 = .ok (.aload_n 0, 1) ∧ 0 + 1 = 1 := ⟨by decide +kernel, rfl⟩
theorem dc_M_stallsAt_1 : decode prog_10_method_61_code 1 = .ok (.invokevirtual 99, 3) ∧ 1 + 3 = 4 := ⟨by decide +kernel, rfl⟩
theorem dc_M_stallsAt_4 : decode prog_10_method_61_code 4 = .ok (.aload_n 0, 1) ∧ 4 + 1 = 5 := ⟨by decide +kernel, rfl⟩
theorem dc_M_stallsAt_5 : decode prog_10_method_61_code 5 = .ok (.getfield 7, 3) ∧ 5 + 3 = 8 := ⟨by decide +kernel, rfl⟩
theorem dc_M_stallsAt_8 : decode prog_10_method_61_code 8 = .ok (.iconst 2, 1) ∧ 8 + 1 = 9 := ⟨by decide +kernel, rfl⟩
theorem dc_M_stallsAt_9 : decode prog_10_method_61_code 9 = .ok (.iload_n 2, 1) ∧ 9 + 1 = 10 := ⟨by decide +kernel, rfl⟩
theorem dc_M_stallsAt_10 : decode prog_10_method_61_code 10 = .ok (.iastore, 1) ∧ 10 + 1 = 11 := ⟨by decide +kernel, rfl⟩
theorem dc_M_stallsAt_11 : decode prog_10_method_61_code 11 = .ok (.aload_n 0, 1) ∧ 11 + 1 = 12 := ⟨by decide +kernel, rfl⟩
theorem dc_M_stallsAt_12 : decode prog_10_method_61_code 12 = .ok (.iload_n 1, 1) ∧ 12 + 1 = 13 := ⟨by decide +kernel, rfl⟩
theorem dc_M_stallsAt_13 : decode prog_10_method_61_code 13 = .ok (.invokevirtual 136, 3) ∧ 13 + 3 = 16 := ⟨by decide +kernel, rfl⟩
theorem dc_M_stallsAt_16 : decode prog_10_method_61_code 16 = .ok (.aload_n 0, 1) ∧ 16 + 1 = 17 := ⟨by decide +kernel, rfl⟩
theorem dc_M_stallsAt_17 : decode prog_10_method_61_code 17 = .ok (.invokevirtual 106, 3) ∧ 17 + 3 = 20 := ⟨by decide +kernel, rfl⟩
theorem dc_M_stallsAt_20 : decode prog_10_method_61_code 20 = .ok (.aload_n 0, 1) ∧ 20 + 1 = 21 := ⟨by decide +kernel, rfl⟩
theorem dc_M_stallsAt_21 : decode prog_10_method_61_code 21 = .ok (.getfield 19, 3) ∧ 21 + 3 = 24 := ⟨by decide +kernel, rfl⟩
theorem dc_M_stallsAt_24 : decode prog_10_method_61_code 24 = .ok (.bipush 13, 2) ∧ 24 + 2 = 26 := ⟨by decide +kernel, rfl⟩
theorem dc_M_stallsAt_26 : decode prog_10_method_61_code 26 = .ok (.iaload, 1) ∧ 26 + 1 = 27 := ⟨by decide +kernel, rfl⟩
theorem dc_M_stallsAt_27 : decode prog_10_method_61_code 27 = .ok (.aload_n 0, 1) ∧ 27 + 1 = 28 := ⟨by decide +kernel, rfl⟩
theorem dc_M_stallsAt_28 : decode prog_10_method_61_code 28 = .ok (.getfield 7, 3) ∧ 28 + 3 = 31 := ⟨by decide +kernel, rfl⟩
theorem dc_M_stallsAt_31 : decode prog_10_method_61_code 31 = .ok (.bipush 13, 2) ∧ 31 + 2 = 33 := ⟨by decide +kernel, rfl⟩
theorem dc_M_stallsAt_33 : decode prog_10_method_61_code 33 = .ok (.iaload, 1) ∧ 33 + 1 = 34 := ⟨by decide +kernel, rfl⟩
theorem dc_M_stallsAt_34 : decode prog_10_method_61_code 34 = .ok (.if_icmp .le 7, 3) ∧ ((34 : Nat) : Int) + (7) = ((41 : Nat) : Int) ∧ 34 + 3 = 37 := ⟨by decide +kernel, by decide, rfl⟩
theorem dc_M_stallsAt_37 : decode prog_10_method_61_code 37 = .ok (.iconst 1, 1) ∧ 37 + 1 = 38 := ⟨by decide +kernel, rfl⟩
theorem dc_M_stallsAt_38 : decode prog_10_method_61_code 38 = .ok (.goto 4, 3) ∧ ((38 : Nat) : Int) + (4) = ((42 : Nat) : Int) := ⟨by decide +kernel, by decide⟩
theorem dc_M_stallsAt_41 : decode prog_10_method_61_code 41 = .ok (.iconst 0, 1) ∧ 41 + 1 = 42 := ⟨by decide +kernel, rfl⟩
theorem dc_M_stallsAt_42 : decode prog_10_method_61_code 42 = .ok (.ireturn, 1) := by decide +kernel
theorem dc_M_counter_0 : decode prog_10_method_63_code 0 = .ok (.iload_n 1, 1) ∧ 0 + 1 = 1 := ⟨by decide +kernel, rfl⟩
theorem dc_M_counter_1 : decode prog_10_method_63_code 1 = .ok (.iconst 0, 1) ∧ 1 + 1 = 2 := ⟨by decide +kernel, rfl⟩
theorem dc_M_counter_2 : decode prog_10_method_63_code 2 = .ok (.iconst 1, 1) ∧ 2 + 1 = 3 := ⟨by decide +kernel, rfl⟩
theorem dc_M_counter_3 : decode prog_10_method_63_code 3 = .ok (.invokestatic 31, 3) ∧ 3 + 3 = 6 := ⟨by decide +kernel, rfl⟩
theorem dc_M_counter_6 : decode prog_10_method_63_code 6 = .ok (.ifCond .ne 6, 3) ∧ ((6 : Nat) : Int) + (6) = ((12 : Nat) : Int) ∧ 6 + 3 = 9 := ⟨by decide +kernel, by decide, rfl⟩
theorem dc_M_counter_9 : decode prog_10_method_63_code 9 = .ok (.ldc 64, 2) ∧ 9 + 2 = 11 := ⟨by decide +kernel, rfl⟩
theorem dc_M_counter_11 : decode prog_10_method_63_code 11 = .ok (.ireturn, 1) := by decide +kernel
theorem dc_M_counter_12 : decode prog_10_method_63_code 12 = .ok (.iload_n 1, 1) ∧ 12 + 1 = 13 := ⟨by decide +kernel, rfl⟩
theorem dc_M_counter_13 : decode prog_10_method_63_code 13 = .ok (.ifCond .ne 13, 3) ∧ ((13 : Nat) : Int) + (13) = ((26 : Nat) : Int) ∧ 13 + 3 = 16 := ⟨by decide +kernel, by decide, rfl⟩
theorem dc_M_counter_16 : decode prog_10_method_63_code 16 = .ok (.aload_n 0, 1) ∧ 16 + 1 = 17 := ⟨by decide +kernel, rfl⟩
theorem dc_M_counter_17 : decode prog_10_method_63_code 17 = .ok (.getfield 7, 3) ∧ 17 + 3 = 20 := ⟨by decide +kernel, rfl⟩
theorem dc_M_counter_20 : decode prog_10_method_63_code 20 = .ok (.bipush 6, 2) ∧ 20 + 2 = 22 := ⟨by decide +kernel, rfl⟩
theorem dc_M_counter_22 : decode prog_10_method_63_code 22 = .ok (.iaload, 1) ∧ 22 + 1 = 23 := ⟨by decide +kernel, rfl⟩
theorem dc_M_counter_23 : decode prog_10_method_63_code 23 = .ok (.goto 34, 3) ∧ ((23 : Nat) : Int) + (34) = ((57 : Nat) : Int) := ⟨by decide +kernel, by decide⟩
theorem dc_M_counter_26 : decode prog_10_method_63_code 26 = .ok (.aload_n 0, 1) ∧ 26 + 1 = 27 := ⟨by decide +kernel, rfl⟩
theorem dc_M_counter_27 : decode prog_10_method_63_code 27 = .ok (.getfield 7, 3) ∧ 27 + 3 = 30 := ⟨by decide +kernel, rfl⟩
theorem dc_M_counter_30 : decode prog_10_method_63_code 30 = .ok (.bipush 7, 2) ∧ 30 + 2 = 32 := ⟨by decide +kernel, rfl⟩
theorem dc_M_counter_32 : decode prog_10_method_63_code 32 = .ok (.iaload, 1) ∧ 32 + 1 = 33 := ⟨by decide +kernel, rfl⟩
theorem dc_M_counter_33 : decode prog_10_method_63_code 33 = .ok (.aload_n 0, 1) ∧ 33 + 1 = 34 := ⟨by decide +kernel, rfl⟩
theorem dc_M_counter_34 : decode prog_10_method_63_code 34 = .ok (.getfield 7, 3) ∧ 34 + 3 = 37 := ⟨by decide +kernel, rfl⟩
theorem dc_M_counter_37 : decode prog_10_method_63_code 37 = .ok (.bipush 9, 2) ∧ 37 + 2 = 39 := ⟨by decide +kernel, rfl⟩
theorem dc_M_counter_39 : decode prog_10_method_63_code 39 = .ok (.iaload, 1) ∧ 39 + 1 = 40 := ⟨by decide +kernel, rfl⟩
theorem dc_M_counter_40 : decode prog_10_method_63_code 40 = .ok (.iadd, 1) ∧ 40 + 1 = 41 := ⟨by decide +kernel, rfl⟩
theorem dc_M_counter_41 : decode prog_10_method_63_code 41 = .ok (.aload_n 0, 1) ∧ 41 + 1 = 42 := ⟨by decide +kernel, rfl⟩
theorem dc_M_counter_42 : decode prog_10_method_63_code 42 = .ok (.getfield 7, 3) ∧ 42 + 3 = 45 := ⟨by decide +kernel, rfl⟩
theorem dc_M_counter_45 : decode prog_10_method_63_code 45 = .ok (.bipush 10, 2) ∧ 45 + 2 = 47 := ⟨by decide +kernel, rfl⟩
theorem dc_M_counter_47 : decode prog_10_method_63_code 47 = .ok (.iaload, 1) ∧ 47 + 1 = 48 := ⟨by decide +kernel, rfl⟩
theorem dc_M_counter_48 : decode prog_10_method_63_code 48 = .ok (.iadd, 1) ∧ 48 + 1 = 49 := ⟨by decide +kernel, rfl⟩
theorem dc_M_counter_49 : decode prog_10_method_63_code 49 = .ok (.aload_n 0, 1) ∧ 49 + 1 = 50 := ⟨by decide +kernel, rfl⟩
theorem dc_M_counter_50 : decode prog_10_method_63_code 50 = .ok (.getfield 7, 3) ∧ 50 + 3 = 53 := ⟨by decide +kernel, rfl⟩
theorem dc_M_counter_53 : decode prog_10_method_63_code 53 = .ok (.bipush 11, 2) ∧ 53 + 2 = 55 := ⟨by decide +kernel, rfl⟩
theorem dc_M_counter_55 : decode prog_10_method_63_code 55 = .ok (.iaload, 1) ∧ 55 + 1 = 56 := ⟨by decide +kernel, rfl⟩
theorem dc_M_counter_56 : decode prog_10_method_63_code 56 = .ok (.iadd, 1) ∧ 56 + 1 = 57 := ⟨by decide +kernel, rfl⟩
theorem dc_M_counter_57 : decode prog_10_method_63_code 57 = .ok (.ireturn, 1) := by decide +kernel
theorem dc_L_law_0 : decode code 0 = .ok (.new 7, 3) ∧ 0 + 3 = 3 := ⟨by decide +kernel, rfl⟩
theorem dc_L_law_3 : decode code 3 = .ok (.dup, 1) ∧ 3 + 1 = 4 := ⟨by decide +kernel, rfl⟩
theorem dc_L_law_4 : decode code 4 = .ok (.invokespecial 9, 3) ∧ 4 + 3 = 7 := ⟨by decide +kernel, rfl⟩
theorem dc_L_law_7 : decode code 7 = .ok (.astore_n 1, 1) ∧ 7 + 1 = 8 := ⟨by decide +kernel, rfl⟩
theorem dc_L_law_8 : decode code 8 = .ok (.new 10, 3) ∧ 8 + 3 = 11 := ⟨by decide +kernel, rfl⟩
theorem dc_L_law_11 : decode code 11 = .ok (.dup, 1) ∧ 11 + 1 = 12 := ⟨by decide +kernel, rfl⟩
theorem dc_L_law_12 : decode code 12 = .ok (.invokespecial 12, 3) ∧ 12 + 3 = 15 := ⟨by decide +kernel, rfl⟩
theorem dc_L_law_15 : decode code 15 = .ok (.astore_n 2, 1) ∧ 15 + 1 = 16 := ⟨by decide +kernel, rfl⟩
theorem dc_L_law_16 : decode code 16 = .ok (.iconst 0, 1) ∧ 16 + 1 = 17 := ⟨by decide +kernel, rfl⟩
theorem dc_L_law_17 : decode code 17 = .ok (.istore_n 3, 1) ∧ 17 + 1 = 18 := ⟨by decide +kernel, rfl⟩
theorem dc_L_law_18 : decode code 18 = .ok (.iload_n 3, 1) ∧ 18 + 1 = 19 := ⟨by decide +kernel, rfl⟩
theorem dc_L_law_19 : decode code 19 = .ok (.aload_n 0, 1) ∧ 19 + 1 = 20 := ⟨by decide +kernel, rfl⟩
theorem dc_L_law_20 : decode code 20 = .ok (.arraylength, 1) ∧ 20 + 1 = 21 := ⟨by decide +kernel, rfl⟩
theorem dc_L_law_21 : decode code 21 = .ok (.iconst 3, 1) ∧ 21 + 1 = 22 := ⟨by decide +kernel, rfl⟩
theorem dc_L_law_22 : decode code 22 = .ok (.isub, 1) ∧ 22 + 1 = 23 := ⟨by decide +kernel, rfl⟩
theorem dc_L_law_23 : decode code 23 = .ok (.if_icmp .gt 773, 3) ∧ ((23 : Nat) : Int) + (773) = ((796 : Nat) : Int) ∧ 23 + 3 = 26 := ⟨by decide +kernel, by decide, rfl⟩
theorem dc_L_law_26 : decode code 26 = .ok (.aload_n 0, 1) ∧ 26 + 1 = 27 := ⟨by decide +kernel, rfl⟩
theorem dc_L_law_27 : decode code 27 = .ok (.iload_n 3, 1) ∧ 27 + 1 = 28 := ⟨by decide +kernel, rfl⟩
theorem dc_L_law_28 : decode code 28 = .ok (.iaload, 1) ∧ 28 + 1 = 29 := ⟨by decide +kernel, rfl⟩
theorem dc_L_law_29 : decode code 29 = .ok (.bipush 31, 2) ∧ 29 + 2 = 31 := ⟨by decide +kernel, rfl⟩
theorem dc_L_law_31 : decode code 31 = .ok (.iand, 1) ∧ 31 + 1 = 32 := ⟨by decide +kernel, rfl⟩
theorem dc_L_law_32 : decode code 32 = .ok (.tableswitch 758 0 25 #[120, 153, 186, 219, 252, 275, 288, 301, 324, 357, 380, 403, 426, 449, 472, 495, 508, 531, 554, 577, 600, 633, 656, 679, 712, 735], 120) ∧ ((32 : Nat) : Int) + (758) = ((790 : Nat) : Int) ∧ (25 : Int) + 1 - (0) = (([152, 185, 218, 251, 284, 307, 320, 333, 356, 389, 412, 435, 458, 481, 504, 527, 540, 563, 586, 609, 632, 665, 688, 711, 744, 767] : List Nat).length : Int) ∧ (#[120, 153, 186, 219, 252, 275, 288, 301, 324, 357, 380, 403, 426, 449, 472, 495, 508, 531, 554, 577, 600, 633, 656, 679, 712, 735] : Array Int).toList.map (fun o => ((32 : Nat) : Int) + o) = ([152, 185, 218, 251, 284, 307, 320, 333, 356, 389, 412, 435, 458, 481, 504, 527, 540, 563, 586, 609, 632, 665, 688, 711, 744, 767] : List Nat).map (fun t : Nat => (t : Int)) := ⟨by decide +kernel, by decide, by decide, by decide⟩
theorem dc_L_law_152 : decode code 152 = .ok (.aload_n 1, 1) ∧ 152 + 1 = 153 := ⟨by decide +kernel, rfl⟩
theorem dc_L_law_153 : decode code 153 = .ok (.aload_n 0, 1) ∧ 153 + 1 = 154 := ⟨by decide +kernel, rfl⟩
theorem dc_L_law_154 : decode code 154 = .ok (.iload_n 3, 1) ∧ 154 + 1 = 155 := ⟨by decide +kernel, rfl⟩
theorem dc_L_law_155 : decode code 155 = .ok (.iconst 1, 1) ∧ 155 + 1 = 156 := ⟨by decide +kernel, rfl⟩
theorem dc_L_law_156 : decode code 156 = .ok (.iadd, 1) ∧ 156 + 1 = 157 := ⟨by decide +kernel, rfl⟩
theorem dc_L_law_157 : decode code 157 = .ok (.iaload, 1) ∧ 157 + 1 = 158 := ⟨by decide +kernel, rfl⟩
theorem dc_L_law_158 : decode code 158 = .ok (.aload_n 0, 1) ∧ 158 + 1 = 159 := ⟨by decide +kernel, rfl⟩
theorem dc_L_law_159 : decode code 159 = .ok (.iload_n 3, 1) ∧ 159 + 1 = 160 := ⟨by decide +kernel, rfl⟩
theorem dc_L_law_160 : decode code 160 = .ok (.iconst 2, 1) ∧ 160 + 1 = 161 := ⟨by decide +kernel, rfl⟩
theorem dc_L_law_161 : decode code 161 = .ok (.iadd, 1) ∧ 161 + 1 = 162 := ⟨by decide +kernel, rfl⟩
theorem dc_L_law_162 : decode code 162 = .ok (.iaload, 1) ∧ 162 + 1 = 163 := ⟨by decide +kernel, rfl⟩
theorem dc_L_law_163 : decode code 163 = .ok (.invokevirtual 13, 3) ∧ 163 + 3 = 166 := ⟨by decide +kernel, rfl⟩
theorem dc_L_law_166 : decode code 166 = .ok (.aload_n 2, 1) ∧ 166 + 1 = 167 := ⟨by decide +kernel, rfl⟩
theorem dc_L_law_167 : decode code 167 = .ok (.aload_n 0, 1) ∧ 167 + 1 = 168 := ⟨by decide +kernel, rfl⟩
theorem dc_L_law_168 : decode code 168 = .ok (.iload_n 3, 1) ∧ 168 + 1 = 169 := ⟨by decide +kernel, rfl⟩
theorem dc_L_law_169 : decode code 169 = .ok (.iconst 1, 1) ∧ 169 + 1 = 170 := ⟨by decide +kernel, rfl⟩
theorem dc_L_law_170 : decode code 170 = .ok (.iadd, 1) ∧ 170 + 1 = 171 := ⟨by decide +kernel, rfl⟩
theorem dc_L_law_171 : decode code 171 = .ok (.iaload, 1) ∧ 171 + 1 = 172 := ⟨by decide +kernel, rfl⟩
theorem dc_L_law_172 : decode code 172 = .ok (.aload_n 0, 1) ∧ 172 + 1 = 173 := ⟨by decide +kernel, rfl⟩
theorem dc_L_law_173 : decode code 173 = .ok (.iload_n 3, 1) ∧ 173 + 1 = 174 := ⟨by decide +kernel, rfl⟩
theorem dc_L_law_174 : decode code 174 = .ok (.iconst 2, 1) ∧ 174 + 1 = 175 := ⟨by decide +kernel, rfl⟩
theorem dc_L_law_175 : decode code 175 = .ok (.iadd, 1) ∧ 175 + 1 = 176 := ⟨by decide +kernel, rfl⟩
theorem dc_L_law_176 : decode code 176 = .ok (.iaload, 1) ∧ 176 + 1 = 177 := ⟨by decide +kernel, rfl⟩
theorem dc_L_law_177 : decode code 177 = .ok (.invokevirtual 17, 3) ∧ 177 + 3 = 180 := ⟨by decide +kernel, rfl⟩
theorem dc_L_law_180 : decode code 180 = .ok (.if_icmp .eq 610, 3) ∧ ((180 : Nat) : Int) + (610) = ((790 : Nat) : Int) ∧ 180 + 3 = 183 := ⟨by decide +kernel, by decide, rfl⟩
theorem dc_L_law_183 : decode code 183 = .ok (.iconst 0, 1) ∧ 183 + 1 = 184 := ⟨by decide +kernel, rfl⟩
theorem dc_L_law_184 : decode code 184 = .ok (.ireturn, 1) := by decide +kernel
theorem dc_L_law_185 : decode code 185 = .ok (.aload_n 1, 1) ∧ 185 + 1 = 186 := ⟨by decide +kernel, rfl⟩
theorem dc_L_law_186 : decode code 186 = .ok (.aload_n 0, 1) ∧ 186 + 1 = 187 := ⟨by decide +kernel, rfl⟩
theorem dc_L_law_187 : decode code 187 = .ok (.iload_n 3, 1) ∧ 187 + 1 = 188 := ⟨by decide +kernel, rfl⟩
theorem dc_L_law_188 : decode code 188 = .ok (.iconst 1, 1) ∧ 188 + 1 = 189 := ⟨by decide +kernel, rfl⟩
theorem dc_L_law_189 : decode code 189 = .ok (.iadd, 1) ∧ 189 + 1 = 190 := ⟨by decide +kernel, rfl⟩
theorem dc_L_law_190 : decode code 190 = .ok (.iaload, 1) ∧ 190 + 1 = 191 := ⟨by decide +kernel, rfl⟩
theorem dc_L_law_191 : decode code 191 = .ok (.aload_n 0, 1) ∧ 191 + 1 = 192 := ⟨by decide +kernel, rfl⟩
theorem dc_L_law_192 : decode code 192 = .ok (.iload_n 3, 1) ∧ 192 + 1 = 193 := ⟨by decide +kernel, rfl⟩
theorem dc_L_law_193 : decode code 193 = .ok (.iconst 2, 1) ∧ 193 + 1 = 194 := ⟨by decide +kernel, rfl⟩
theorem dc_L_law_194 : decode code 194 = .ok (.iadd, 1) ∧ 194 + 1 = 195 := ⟨by decide +kernel, rfl⟩
theorem dc_L_law_195 : decode code 195 = .ok (.iaload, 1) ∧ 195 + 1 = 196 := ⟨by decide +kernel, rfl⟩
theorem dc_L_law_196 : decode code 196 = .ok (.invokevirtual 18, 3) ∧ 196 + 3 = 199 := ⟨by decide +kernel, rfl⟩
theorem dc_L_law_199 : decode code 199 = .ok (.aload_n 2, 1) ∧ 199 + 1 = 200 := ⟨by decide +kernel, rfl⟩
theorem dc_L_law_200 : decode code 200 = .ok (.aload_n 0, 1) ∧ 200 + 1 = 201 := ⟨by decide +kernel, rfl⟩
theorem dc_L_law_201 : decode code 201 = .ok (.iload_n 3, 1) ∧ 201 + 1 = 202 := ⟨by decide +kernel, rfl⟩
theorem dc_L_law_202 : decode code 202 = .ok (.iconst 1, 1) ∧ 202 + 1 = 203 := ⟨by decide +kernel, rfl⟩
theorem dc_L_law_203 : decode code 203 = .ok (.iadd, 1) ∧ 203 + 1 = 204 := ⟨by decide +kernel, rfl⟩
theorem dc_L_law_204 : decode code 204 = .ok (.iaload, 1) ∧ 204 + 1 = 205 := ⟨by decide +kernel, rfl⟩
theorem dc_L_law_205 : decode code 205 = .ok (.aload_n 0, 1) ∧ 205 + 1 = 206 := ⟨by decide +kernel, rfl⟩
theorem dc_L_law_206 : decode code 206 = .ok (.iload_n 3, 1) ∧ 206 + 1 = 207 := ⟨by decide +kernel, rfl⟩
theorem dc_L_law_207 : decode code 207 = .ok (.iconst 2, 1) ∧ 207 + 1 = 208 := ⟨by decide +kernel, rfl⟩
theorem dc_L_law_208 : decode code 208 = .ok (.iadd, 1) ∧ 208 + 1 = 209 := ⟨by decide +kernel, rfl⟩
theorem dc_L_law_209 : decode code 209 = .ok (.iaload, 1) ∧ 209 + 1 = 210 := ⟨by decide +kernel, rfl⟩
theorem dc_L_law_210 : decode code 210 = .ok (.invokevirtual 21, 3) ∧ 210 + 3 = 213 := ⟨by decide +kernel, rfl⟩
theorem dc_L_law_213 : decode code 213 = .ok (.if_icmp .eq 577, 3) ∧ ((213 : Nat) : Int) + (577) = ((790 : Nat) : Int) ∧ 213 + 3 = 216 := ⟨by decide +kernel, by decide, rfl⟩
theorem dc_L_law_216 : decode code 216 = .ok (.iconst 0, 1) ∧ 216 + 1 = 217 := ⟨by decide +kernel, rfl⟩
theorem dc_L_law_217 : decode code 217 = .ok (.ireturn, 1) := by decide +kernel
theorem dc_L_law_218 : decode code 218 = .ok (.aload_n 1, 1) ∧ 218 + 1 = 219 := ⟨by decide +kernel, rfl⟩
theorem dc_L_law_219 : decode code 219 = .ok (.aload_n 0, 1) ∧ 219 + 1 = 220 := ⟨by decide +kernel, rfl⟩
theorem dc_L_law_220 : decode code 220 = .ok (.iload_n 3, 1) ∧ 220 + 1 = 221 := ⟨by decide +kernel, rfl⟩
theorem dc_L_law_221 : decode code 221 = .ok (.iconst 1, 1) ∧ 221 + 1 = 222 := ⟨by decide +kernel, rfl⟩
theorem dc_L_law_222 : decode code 222 = .ok (.iadd, 1) ∧ 222 + 1 = 223 := ⟨by decide +kernel, rfl⟩
theorem dc_L_law_223 : decode code 223 = .ok (.iaload, 1) ∧ 223 + 1 = 224 := ⟨by decide +kernel, rfl⟩
theorem dc_L_law_224 : decode code 224 = .ok (.aload_n 0, 1) ∧ 224 + 1 = 225 := ⟨by decide +kernel, rfl⟩
theorem dc_L_law_225 : decode code 225 = .ok (.iload_n 3, 1) ∧ 225 + 1 = 226 := ⟨by decide +kernel, rfl⟩
theorem dc_L_law_226 : decode code 226 = .ok (.iconst 2, 1) ∧ 226 + 1 = 227 := ⟨by decide +kernel, rfl⟩
theorem dc_L_law_227 : decode code 227 = .ok (.iadd, 1) ∧ 227 + 1 = 228 := ⟨by decide +kernel, rfl⟩
theorem dc_L_law_228 : decode code 228 = .ok (.iaload, 1) ∧ 228 + 1 = 229 := ⟨by decide +kernel, rfl⟩
theorem dc_L_law_229 : decode code 229 = .ok (.invokevirtual 22, 3) ∧ 229 + 3 = 232 := ⟨by decide +kernel, rfl⟩
theorem dc_L_law_232 : decode code 232 = .ok (.aload_n 2, 1) ∧ 232 + 1 = 233 := ⟨by decide +kernel, rfl⟩
theorem dc_L_law_233 : decode code 233 = .ok (.aload_n 0, 1) ∧ 233 + 1 = 234 := ⟨by decide +kernel, rfl⟩
theorem dc_L_law_234 : decode code 234 = .ok (.iload_n 3, 1) ∧ 234 + 1 = 235 := ⟨by decide +kernel, rfl⟩
theorem dc_L_law_235 : decode code 235 = .ok (.iconst 1, 1) ∧ 235 + 1 = 236 := ⟨by decide +kernel, rfl⟩
theorem dc_L_law_236 : decode code 236 = .ok (.iadd, 1) ∧ 236 + 1 = 237 := ⟨by decide +kernel, rfl⟩
theorem dc_L_law_237 : decode code 237 = .ok (.iaload, 1) ∧ 237 + 1 = 238 := ⟨by decide +kernel, rfl⟩
theorem dc_L_law_238 : decode code 238 = .ok (.aload_n 0, 1) ∧ 238 + 1 = 239 := ⟨by decide +kernel, rfl⟩
theorem dc_L_law_239 : decode code 239 = .ok (.iload_n 3, 1) ∧ 239 + 1 = 240 := ⟨by decide +kernel, rfl⟩
theorem dc_L_law_240 : decode code 240 = .ok (.iconst 2, 1) ∧ 240 + 1 = 241 := ⟨by decide +kernel, rfl⟩
theorem dc_L_law_241 : decode code 241 = .ok (.iadd, 1) ∧ 241 + 1 = 242 := ⟨by decide +kernel, rfl⟩
theorem dc_L_law_242 : decode code 242 = .ok (.iaload, 1) ∧ 242 + 1 = 243 := ⟨by decide +kernel, rfl⟩
theorem dc_L_law_243 : decode code 243 = .ok (.invokevirtual 25, 3) ∧ 243 + 3 = 246 := ⟨by decide +kernel, rfl⟩
theorem dc_L_law_246 : decode code 246 = .ok (.if_icmp .eq 544, 3) ∧ ((246 : Nat) : Int) + (544) = ((790 : Nat) : Int) ∧ 246 + 3 = 249 := ⟨by decide +kernel, by decide, rfl⟩
theorem dc_L_law_249 : decode code 249 = .ok (.iconst 0, 1) ∧ 249 + 1 = 250 := ⟨by decide +kernel, rfl⟩
theorem dc_L_law_250 : decode code 250 = .ok (.ireturn, 1) := by decide +kernel
theorem dc_L_law_251 : decode code 251 = .ok (.aload_n 1, 1) ∧ 251 + 1 = 252 := ⟨by decide +kernel, rfl⟩
theorem dc_L_law_252 : decode code 252 = .ok (.aload_n 0, 1) ∧ 252 + 1 = 253 := ⟨by decide +kernel, rfl⟩
theorem dc_L_law_253 : decode code 253 = .ok (.iload_n 3, 1) ∧ 253 + 1 = 254 := ⟨by decide +kernel, rfl⟩
theorem dc_L_law_254 : decode code 254 = .ok (.iconst 1, 1) ∧ 254 + 1 = 255 := ⟨by decide +kernel, rfl⟩
theorem dc_L_law_255 : decode code 255 = .ok (.iadd, 1) ∧ 255 + 1 = 256 := ⟨by decide +kernel, rfl⟩
theorem dc_L_law_256 : decode code 256 = .ok (.iaload, 1) ∧ 256 + 1 = 257 := ⟨by decide +kernel, rfl⟩
theorem dc_L_law_257 : decode code 257 = .ok (.aload_n 0, 1) ∧ 257 + 1 = 258 := ⟨by decide +kernel, rfl⟩
theorem dc_L_law_258 : decode code 258 = .ok (.iload_n 3, 1) ∧ 258 + 1 = 259 := ⟨by decide +kernel, rfl⟩
theorem dc_L_law_259 : decode code 259 = .ok (.iconst 2, 1) ∧ 259 + 1 = 260 := ⟨by decide +kernel, rfl⟩
theorem dc_L_law_260 : decode code 260 = .ok (.iadd, 1) ∧ 260 + 1 = 261 := ⟨by decide +kernel, rfl⟩
theorem dc_L_law_261 : decode code 261 = .ok (.iaload, 1) ∧ 261 + 1 = 262 := ⟨by decide +kernel, rfl⟩
theorem dc_L_law_262 : decode code 262 = .ok (.invokevirtual 26, 3) ∧ 262 + 3 = 265 := ⟨by decide +kernel, rfl⟩
theorem dc_L_law_265 : decode code 265 = .ok (.aload_n 2, 1) ∧ 265 + 1 = 266 := ⟨by decide +kernel, rfl⟩
theorem dc_L_law_266 : decode code 266 = .ok (.aload_n 0, 1) ∧ 266 + 1 = 267 := ⟨by decide +kernel, rfl⟩
theorem dc_L_law_267 : decode code 267 = .ok (.iload_n 3, 1) ∧ 267 + 1 = 268 := ⟨by decide +kernel, rfl⟩
theorem dc_L_law_268 : decode code 268 = .ok (.iconst 1, 1) ∧ 268 + 1 = 269 := ⟨by decide +kernel, rfl⟩
theorem dc_L_law_269 : decode code 269 = .ok (.iadd, 1) ∧ 269 + 1 = 270 := ⟨by decide +kernel, rfl⟩
theorem dc_L_law_270 : decode code 270 = .ok (.iaload, 1) ∧ 270 + 1 = 271 := ⟨by decide +kernel, rfl⟩
theorem dc_L_law_271 : decode code 271 = .ok (.aload_n 0, 1) ∧ 271 + 1 = 272 := ⟨by decide +kernel, rfl⟩
theorem dc_L_law_272 : decode code 272 = .ok (.iload_n 3, 1) ∧ 272 + 1 = 273 := ⟨by decide +kernel, rfl⟩
theorem dc_L_law_273 : decode code 273 = .ok (.iconst 2, 1) ∧ 273 + 1 = 274 := ⟨by decide +kernel, rfl⟩
theorem dc_L_law_274 : decode code 274 = .ok (.iadd, 1) ∧ 274 + 1 = 275 := ⟨by decide +kernel, rfl⟩
theorem dc_L_law_275 : decode code 275 = .ok (.iaload, 1) ∧ 275 + 1 = 276 := ⟨by decide +kernel, rfl⟩
theorem dc_L_law_276 : decode code 276 = .ok (.invokevirtual 29, 3) ∧ 276 + 3 = 279 := ⟨by decide +kernel, rfl⟩
theorem dc_L_law_279 : decode code 279 = .ok (.if_icmp .eq 511, 3) ∧ ((279 : Nat) : Int) + (511) = ((790 : Nat) : Int) ∧ 279 + 3 = 282 := ⟨by decide +kernel, by decide, rfl⟩
theorem dc_L_law_282 : decode code 282 = .ok (.iconst 0, 1) ∧ 282 + 1 = 283 := ⟨by decide +kernel, rfl⟩
theorem dc_L_law_283 : decode code 283 = .ok (.ireturn, 1) := by decide +kernel
theorem dc_L_law_284 : decode code 284 = .ok (.aload_n 1, 1) ∧ 284 + 1 = 285 := ⟨by decide +kernel, rfl⟩
theorem dc_L_law_285 : decode code 285 = .ok (.aload_n 0, 1) ∧ 285 + 1 = 286 := ⟨by decide +kernel, rfl⟩
theorem dc_L_law_286 : decode code 286 = .ok (.iload_n 3, 1) ∧ 286 + 1 = 287 := ⟨by decide +kernel, rfl⟩
theorem dc_L_law_287 : decode code 287 = .ok (.iconst 1, 1) ∧ 287 + 1 = 288 := ⟨by decide +kernel, rfl⟩
theorem dc_L_law_288 : decode code 288 = .ok (.iadd, 1) ∧ 288 + 1 = 289 := ⟨by decide +kernel, rfl⟩
theorem dc_L_law_289 : decode code 289 = .ok (.iaload, 1) ∧ 289 + 1 = 290 := ⟨by decide +kernel, rfl⟩
theorem dc_L_law_290 : decode code 290 = .ok (.invokevirtual 30, 3) ∧ 290 + 3 = 293 := ⟨by decide +kernel, rfl⟩
theorem dc_L_law_293 : decode code 293 = .ok (.aload_n 2, 1) ∧ 293 + 1 = 294 := ⟨by decide +kernel, rfl⟩
theorem dc_L_law_294 : decode code 294 = .ok (.aload_n 0, 1) ∧ 294 + 1 = 295 := ⟨by decide +kernel, rfl⟩
theorem dc_L_law_295 : decode code 295 = .ok (.iload_n 3, 1) ∧ 295 + 1 = 296 := ⟨by decide +kernel, rfl⟩
theorem dc_L_law_296 : decode code 296 = .ok (.iconst 1, 1) ∧ 296 + 1 = 297 := ⟨by decide +kernel, rfl⟩
theorem dc_L_law_297 : decode code 297 = .ok (.iadd, 1) ∧ 297 + 1 = 298 := ⟨by decide +kernel, rfl⟩
theorem dc_L_law_298 : decode code 298 = .ok (.iaload, 1) ∧ 298 + 1 = 299 := ⟨by decide +kernel, rfl⟩
theorem dc_L_law_299 : decode code 299 = .ok (.invokevirtual 34, 3) ∧ 299 + 3 = 302 := ⟨by decide +kernel, rfl⟩
theorem dc_L_law_302 : decode code 302 = .ok (.if_icmp .eq 488, 3) ∧ ((302 : Nat) : Int) + (488) = ((790 : Nat) : Int) ∧ 302 + 3 = 305 := ⟨by decide +kernel, by decide, rfl⟩
theorem dc_L_law_305 : decode code 305 = .ok (.iconst 0, 1) ∧ 305 + 1 = 306 := ⟨by decide +kernel, rfl⟩
theorem dc_L_law_306 : decode code 306 = .ok (.ireturn, 1) := by decide +kernel
theorem dc_L_law_307 : decode code 307 = .ok (.aload_n 1, 1) ∧ 307 + 1 = 308 := ⟨by decide +kernel, rfl⟩
theorem dc_L_law_308 : decode code 308 = .ok (.invokevirtual 35, 3) ∧ 308 + 3 = 311 := ⟨by decide +kernel, rfl⟩
theorem dc_L_law_311 : decode code 311 = .ok (.aload_n 2, 1) ∧ 311 + 1 = 312 := ⟨by decide +kernel, rfl⟩
theorem dc_L_law_312 : decode code 312 = .ok (.invokevirtual 39, 3) ∧ 312 + 3 = 315 := ⟨by decide +kernel, rfl⟩
theorem dc_L_law_315 : decode code 315 = .ok (.if_icmp .eq 475, 3) ∧ ((315 : Nat) : Int) + (475) = ((790 : Nat) : Int) ∧ 315 + 3 = 318 := ⟨by decide +kernel, by decide, rfl⟩
theorem dc_L_law_318 : decode code 318 = .ok (.iconst 0, 1) ∧ 318 + 1 = 319 := ⟨by decide +kernel, rfl⟩
theorem dc_L_law_319 : decode code 319 = .ok (.ireturn, 1) := by decide +kernel
theorem dc_L_law_320 : decode code 320 = .ok (.aload_n 1, 1) ∧ 320 + 1 = 321 := ⟨by decide +kernel, rfl⟩
theorem dc_L_law_321 : decode code 321 = .ok (.invokevirtual 40, 3) ∧ 321 + 3 = 324 := ⟨by decide +kernel, rfl⟩
theorem dc_L_law_324 : decode code 324 = .ok (.aload_n 2, 1) ∧ 324 + 1 = 325 := ⟨by decide +kernel, rfl⟩
theorem dc_L_law_325 : decode code 325 = .ok (.invokevirtual 43, 3) ∧ 325 + 3 = 328 := ⟨by decide +kernel, rfl⟩
theorem dc_L_law_328 : decode code 328 = .ok (.if_icmp .eq 462, 3) ∧ ((328 : Nat) : Int) + (462) = ((790 : Nat) : Int) ∧ 328 + 3 = 331 := ⟨by decide +kernel, by decide, rfl⟩
theorem dc_L_law_331 : decode code 331 = .ok (.iconst 0, 1) ∧ 331 + 1 = 332 := ⟨by decide +kernel, rfl⟩
theorem dc_L_law_332 : decode code 332 = .ok (.ireturn, 1) := by decide +kernel
theorem dc_L_law_333 : decode code 333 = .ok (.aload_n 1, 1) ∧ 333 + 1 = 334 := ⟨by decide +kernel, rfl⟩
theorem dc_L_law_334 : decode code 334 = .ok (.aload_n 0, 1) ∧ 334 + 1 = 335 := ⟨by decide +kernel, rfl⟩
theorem dc_L_law_335 : decode code 335 = .ok (.iload_n 3, 1) ∧ 335 + 1 = 336 := ⟨by decide +kernel, rfl⟩
theorem dc_L_law_336 : decode code 336 = .ok (.iconst 1, 1) ∧ 336 + 1 = 337 := ⟨by decide +kernel, rfl⟩
theorem dc_L_law_337 : decode code 337 = .ok (.iadd, 1) ∧ 337 + 1 = 338 := ⟨by decide +kernel, rfl⟩
theorem dc_L_law_338 : decode code 338 = .ok (.iaload, 1) ∧ 338 + 1 = 339 := ⟨by decide +kernel, rfl⟩
theorem dc_L_law_339 : decode code 339 = .ok (.invokevirtual 44, 3) ∧ 339 + 3 = 342 := ⟨by decide +kernel, rfl⟩
theorem dc_L_law_342 : decode code 342 = .ok (.aload_n 2, 1) ∧ 342 + 1 = 343 := ⟨by decide +kernel, rfl⟩
theorem dc_L_law_343 : decode code 343 = .ok (.aload_n 0, 1) ∧ 343 + 1 = 344 := ⟨by decide +kernel, rfl⟩
theorem dc_L_law_344 : decode code 344 = .ok (.iload_n 3, 1) ∧ 344 + 1 = 345 := ⟨by decide +kernel, rfl⟩
theorem dc_L_law_345 : decode code 345 = .ok (.iconst 1, 1) ∧ 345 + 1 = 346 := ⟨by decide +kernel, rfl⟩
theorem dc_L_law_346 : decode code 346 = .ok (.iadd, 1) ∧ 346 + 1 = 347 := ⟨by decide +kernel, rfl⟩
theorem dc_L_law_347 : decode code 347 = .ok (.iaload, 1) ∧ 347 + 1 = 348 := ⟨by decide +kernel, rfl⟩
theorem dc_L_law_348 : decode code 348 = .ok (.invokevirtual 47, 3) ∧ 348 + 3 = 351 := ⟨by decide +kernel, rfl⟩
theorem dc_L_law_351 : decode code 351 = .ok (.if_icmp .eq 439, 3) ∧ ((351 : Nat) : Int) + (439) = ((790 : Nat) : Int) ∧ 351 + 3 = 354 := ⟨by decide +kernel, by decide, rfl⟩
theorem dc_L_law_354 : decode code 354 = .ok (.iconst 0, 1) ∧ 354 + 1 = 355 := ⟨by decide +kernel, rfl⟩
theorem dc_L_law_355 : decode code 355 = .ok (.ireturn, 1) := by decide +kernel
theorem dc_L_law_356 : decode code 356 = .ok (.aload_n 1, 1) ∧ 356 + 1 = 357 := ⟨by decide +kernel, rfl⟩
theorem dc_L_law_357 : decode code 357 = .ok (.aload_n 0, 1) ∧ 357 + 1 = 358 := ⟨by decide +kernel, rfl⟩
theorem dc_L_law_358 : decode code 358 = .ok (.iload_n 3, 1) ∧ 358 + 1 = 359 := ⟨by decide +kernel, rfl⟩
theorem dc_L_law_359 : decode code 359 = .ok (.iconst 1, 1) ∧ 359 + 1 = 360 := ⟨by decide +kernel, rfl⟩
theorem dc_L_law_360 : decode code 360 = .ok (.iadd, 1) ∧ 360 + 1 = 361 := ⟨by decide +kernel, rfl⟩
theorem dc_L_law_361 : decode code 361 = .ok (.iaload, 1) ∧ 361 + 1 = 362 := ⟨by decide +kernel, rfl⟩
theorem dc_L_law_362 : decode code 362 = .ok (.aload_n 0, 1) ∧ 362 + 1 = 363 := ⟨by decide +kernel, rfl⟩
theorem dc_L_law_363 : decode code 363 = .ok (.iload_n 3, 1) ∧ 363 + 1 = 364 := ⟨by decide +kernel, rfl⟩
theorem dc_L_law_364 : decode code 364 = .ok (.iconst 2, 1) ∧ 364 + 1 = 365 := ⟨by decide +kernel, rfl⟩
theorem dc_L_law_365 : decode code 365 = .ok (.iadd, 1) ∧ 365 + 1 = 366 := ⟨by decide +kernel, rfl⟩
theorem dc_L_law_366 : decode code 366 = .ok (.iaload, 1) ∧ 366 + 1 = 367 := ⟨by decide +kernel, rfl⟩
theorem dc_L_law_367 : decode code 367 = .ok (.invokevirtual 48, 3) ∧ 367 + 3 = 370 := ⟨by decide +kernel, rfl⟩
theorem dc_L_law_370 : decode code 370 = .ok (.aload_n 2, 1) ∧ 370 + 1 = 371 := ⟨by decide +kernel, rfl⟩
theorem dc_L_law_371 : decode code 371 = .ok (.aload_n 0, 1) ∧ 371 + 1 = 372 := ⟨by decide +kernel, rfl⟩
theorem dc_L_law_372 : decode code 372 = .ok (.iload_n 3, 1) ∧ 372 + 1 = 373 := ⟨by decide +kernel, rfl⟩
theorem dc_L_law_373 : decode code 373 = .ok (.iconst 1, 1) ∧ 373 + 1 = 374 := ⟨by decide +kernel, rfl⟩
theorem dc_L_law_374 : decode code 374 = .ok (.iadd, 1) ∧ 374 + 1 = 375 := ⟨by decide +kernel, rfl⟩
theorem dc_L_law_375 : decode code 375 = .ok (.iaload, 1) ∧ 375 + 1 = 376 := ⟨by decide +kernel, rfl⟩
theorem dc_L_law_376 : decode code 376 = .ok (.aload_n 0, 1) ∧ 376 + 1 = 377 := ⟨by decide +kernel, rfl⟩
theorem dc_L_law_377 : decode code 377 = .ok (.iload_n 3, 1) ∧ 377 + 1 = 378 := ⟨by decide +kernel, rfl⟩
theorem dc_L_law_378 : decode code 378 = .ok (.iconst 2, 1) ∧ 378 + 1 = 379 := ⟨by decide +kernel, rfl⟩
theorem dc_L_law_379 : decode code 379 = .ok (.iadd, 1) ∧ 379 + 1 = 380 := ⟨by decide +kernel, rfl⟩
theorem dc_L_law_380 : decode code 380 = .ok (.iaload, 1) ∧ 380 + 1 = 381 := ⟨by decide +kernel, rfl⟩
theorem dc_L_law_381 : decode code 381 = .ok (.invokevirtual 51, 3) ∧ 381 + 3 = 384 := ⟨by decide +kernel, rfl⟩
theorem dc_L_law_384 : decode code 384 = .ok (.if_icmp .eq 406, 3) ∧ ((384 : Nat) : Int) + (406) = ((790 : Nat) : Int) ∧ 384 + 3 = 387 := ⟨by decide +kernel, by decide, rfl⟩
theorem dc_L_law_387 : decode code 387 = .ok (.iconst 0, 1) ∧ 387 + 1 = 388 := ⟨by decide +kernel, rfl⟩
theorem dc_L_law_388 : decode code 388 = .ok (.ireturn, 1) := by decide +kernel
theorem dc_L_law_389 : decode code 389 = .ok (.aload_n 1, 1) ∧ 389 + 1 = 390 := ⟨by decide +kernel, rfl⟩
theorem dc_L_law_390 : decode code 390 = .ok (.aload_n 0, 1) ∧ 390 + 1 = 391 := ⟨by decide +kernel, rfl⟩
theorem dc_L_law_391 : decode code 391 = .ok (.iload_n 3, 1) ∧ 391 + 1 = 392 := ⟨by decide +kernel, rfl⟩
theorem dc_L_law_392 : decode code 392 = .ok (.iconst 1, 1) ∧ 392 + 1 = 393 := ⟨by decide +kernel, rfl⟩
theorem dc_L_law_393 : decode code 393 = .ok (.iadd, 1) ∧ 393 + 1 = 394 := ⟨by decide +kernel, rfl⟩
theorem dc_L_law_394 : decode code 394 = .ok (.iaload, 1) ∧ 394 + 1 = 395 := ⟨by decide +kernel, rfl⟩
theorem dc_L_law_395 : decode code 395 = .ok (.invokevirtual 52, 3) ∧ 395 + 3 = 398 := ⟨by decide +kernel, rfl⟩
theorem dc_L_law_398 : decode code 398 = .ok (.aload_n 2, 1) ∧ 398 + 1 = 399 := ⟨by decide +kernel, rfl⟩
theorem dc_L_law_399 : decode code 399 = .ok (.aload_n 0, 1) ∧ 399 + 1 = 400 := ⟨by decide +kernel, rfl⟩
theorem dc_L_law_400 : decode code 400 = .ok (.iload_n 3, 1) ∧ 400 + 1 = 401 := ⟨by decide +kernel, rfl⟩
theorem dc_L_law_401 : decode code 401 = .ok (.iconst 1, 1) ∧ 401 + 1 = 402 := ⟨by decide +kernel, rfl⟩
theorem dc_L_law_402 : decode code 402 = .ok (.iadd, 1) ∧ 402 + 1 = 403 := ⟨by decide +kernel, rfl⟩
theorem dc_L_law_403 : decode code 403 = .ok (.iaload, 1) ∧ 403 + 1 = 404 := ⟨by decide +kernel, rfl⟩
theorem dc_L_law_404 : decode code 404 = .ok (.invokevirtual 55, 3) ∧ 404 + 3 = 407 := ⟨by decide +kernel, rfl⟩
theorem dc_L_law_407 : decode code 407 = .ok (.if_icmp .eq 383, 3) ∧ ((407 : Nat) : Int) + (383) = ((790 : Nat) : Int) ∧ 407 + 3 = 410 := ⟨by decide +kernel, by decide, rfl⟩
theorem dc_L_law_410 : decode code 410 = .ok (.iconst 0, 1) ∧ 410 + 1 = 411 := ⟨by decide +kernel, rfl⟩
theorem dc_L_law_411 : decode code 411 = .ok (.ireturn, 1) := by decide +kernel
theorem dc_L_law_412 : decode code 412 = .ok (.aload_n 1, 1) ∧ 412 + 1 = 413 := ⟨by decide +kernel, rfl⟩
theorem dc_L_law_413 : decode code 413 = .ok (.aload_n 0, 1) ∧ 413 + 1 = 414 := ⟨by decide +kernel, rfl⟩
theorem dc_L_law_414 : decode code 414 = .ok (.iload_n 3, 1) ∧ 414 + 1 = 415 := ⟨by decide +kernel, rfl⟩
theorem dc_L_law_415 : decode code 415 = .ok (.iconst 1, 1) ∧ 415 + 1 = 416 := ⟨by decide +kernel, rfl⟩
theorem dc_L_law_416 : decode code 416 = .ok (.iadd, 1) ∧ 416 + 1 = 417 := ⟨by decide +kernel, rfl⟩
theorem dc_L_law_417 : decode code 417 = .ok (.iaload, 1) ∧ 417 + 1 = 418 := ⟨by decide +kernel, rfl⟩
theorem dc_L_law_418 : decode code 418 = .ok (.invokevirtual 56, 3) ∧ 418 + 3 = 421 := ⟨by decide +kernel, rfl⟩
theorem dc_L_law_421 : decode code 421 = .ok (.aload_n 2, 1) ∧ 421 + 1 = 422 := ⟨by decide +kernel, rfl⟩
theorem dc_L_law_422 : decode code 422 = .ok (.aload_n 0, 1) ∧ 422 + 1 = 423 := ⟨by decide +kernel, rfl⟩
theorem dc_L_law_423 : decode code 423 = .ok (.iload_n 3, 1) ∧ 423 + 1 = 424 := ⟨by decide +kernel, rfl⟩
theorem dc_L_law_424 : decode code 424 = .ok (.iconst 1, 1) ∧ 424 + 1 = 425 := ⟨by decide +kernel, rfl⟩
theorem dc_L_law_425 : decode code 425 = .ok (.iadd, 1) ∧ 425 + 1 = 426 := ⟨by decide +kernel, rfl⟩
theorem dc_L_law_426 : decode code 426 = .ok (.iaload, 1) ∧ 426 + 1 = 427 := ⟨by decide +kernel, rfl⟩
theorem dc_L_law_427 : decode code 427 = .ok (.invokevirtual 59, 3) ∧ 427 + 3 = 430 := ⟨by decide +kernel, rfl⟩
theorem dc_L_law_430 : decode code 430 = .ok (.if_icmp .eq 360, 3) ∧ ((430 : Nat) : Int) + (360) = ((790 : Nat) : Int) ∧ 430 + 3 = 433 := ⟨by decide +kernel, by decide, rfl⟩
theorem dc_L_law_433 : decode code 433 = .ok (.iconst 0, 1) ∧ 433 + 1 = 434 := ⟨by decide +kernel, rfl⟩
theorem dc_L_law_434 : decode code 434 = .ok (.ireturn, 1) := by decide +kernel
theorem dc_L_law_435 : decode code 435 = .ok (.aload_n 1, 1) ∧ 435 + 1 = 436 := ⟨by decide +kernel, rfl⟩
theorem dc_L_law_436 : decode code 436 = .ok (.aload_n 0, 1) ∧ 436 + 1 = 437 := ⟨by decide +kernel, rfl⟩
theorem dc_L_law_437 : decode code 437 = .ok (.iload_n 3, 1) ∧ 437 + 1 = 438 := ⟨by decide +kernel, rfl⟩
theorem dc_L_law_438 : decode code 438 = .ok (.iconst 1, 1) ∧ 438 + 1 = 439 := ⟨by decide +kernel, rfl⟩
theorem dc_L_law_439 : decode code 439 = .ok (.iadd, 1) ∧ 439 + 1 = 440 := ⟨by decide +kernel, rfl⟩
theorem dc_L_law_440 : decode code 440 = .ok (.iaload, 1) ∧ 440 + 1 = 441 := ⟨by decide +kernel, rfl⟩
theorem dc_L_law_441 : decode code 441 = .ok (.invokevirtual 60, 3) ∧ 441 + 3 = 444 := ⟨by decide +kernel, rfl⟩
theorem dc_L_law_444 : decode code 444 = .ok (.aload_n 2, 1) ∧ 444 + 1 = 445 := ⟨by decide +kernel, rfl⟩
theorem dc_L_law_445 : decode code 445 = .ok (.aload_n 0, 1) ∧ 445 + 1 = 446 := ⟨by decide +kernel, rfl⟩
theorem dc_L_law_446 : decode code 446 = .ok (.iload_n 3, 1) ∧ 446 + 1 = 447 := ⟨by decide +kernel, rfl⟩
theorem dc_L_law_447 : decode code 447 = .ok (.iconst 1, 1) ∧ 447 + 1 = 448 := ⟨by decide +kernel, rfl⟩
theorem dc_L_law_448 : decode code 448 = .ok (.iadd, 1) ∧ 448 + 1 = 449 := ⟨by decide +kernel, rfl⟩
theorem dc_L_law_449 : decode code 449 = .ok (.iaload, 1) ∧ 449 + 1 = 450 := ⟨by decide +kernel, rfl⟩
theorem dc_L_law_450 : decode code 450 = .ok (.invokevirtual 63, 3) ∧ 450 + 3 = 453 := ⟨by decide +kernel, rfl⟩
theorem dc_L_law_453 : decode code 453 = .ok (.if_icmp .eq 337, 3) ∧ ((453 : Nat) : Int) + (337) = ((790 : Nat) : Int) ∧ 453 + 3 = 456 := ⟨by decide +kernel, by decide, rfl⟩
theorem dc_L_law_456 : decode code 456 = .ok (.iconst 0, 1) ∧ 456 + 1 = 457 := ⟨by decide +kernel, rfl⟩
theorem dc_L_law_457 : decode code 457 = .ok (.ireturn, 1) := by decide +kernel
theorem dc_L_law_458 : decode code 458 = .ok (.aload_n 1, 1) ∧ 458 + 1 = 459 := ⟨by decide +kernel, rfl⟩
theorem dc_L_law_459 : decode code 459 = .ok (.aload_n 0, 1) ∧ 459 + 1 = 460 := ⟨by decide +kernel, rfl⟩
theorem dc_L_law_460 : decode code 460 = .ok (.iload_n 3, 1) ∧ 460 + 1 = 461 := ⟨by decide +kernel, rfl⟩
theorem dc_L_law_461 : decode code 461 = .ok (.iconst 1, 1) ∧ 461 + 1 = 462 := ⟨by decide +kernel, rfl⟩
theorem dc_L_law_462 : decode code 462 = .ok (.iadd, 1) ∧ 462 + 1 = 463 := ⟨by decide +kernel, rfl⟩
theorem dc_L_law_463 : decode code 463 = .ok (.iaload, 1) ∧ 463 + 1 = 464 := ⟨by decide +kernel, rfl⟩
theorem dc_L_law_464 : decode code 464 = .ok (.invokevirtual 64, 3) ∧ 464 + 3 = 467 := ⟨by decide +kernel, rfl⟩
theorem dc_L_law_467 : decode code 467 = .ok (.aload_n 2, 1) ∧ 467 + 1 = 468 := ⟨by decide +kernel, rfl⟩
theorem dc_L_law_468 : decode code 468 = .ok (.aload_n 0, 1) ∧ 468 + 1 = 469 := ⟨by decide +kernel, rfl⟩
theorem dc_L_law_469 : decode code 469 = .ok (.iload_n 3, 1) ∧ 469 + 1 = 470 := ⟨by decide +kernel, rfl⟩
theorem dc_L_law_470 : decode code 470 = .ok (.iconst 1, 1) ∧ 470 + 1 = 471 := ⟨by decide +kernel, rfl⟩
theorem dc_L_law_471 : decode code 471 = .ok (.iadd, 1) ∧ 471 + 1 = 472 := ⟨by decide +kernel, rfl⟩
theorem dc_L_law_472 : decode code 472 = .ok (.iaload, 1) ∧ 472 + 1 = 473 := ⟨by decide +kernel, rfl⟩
theorem dc_L_law_473 : decode code 473 = .ok (.invokevirtual 67, 3) ∧ 473 + 3 = 476 := ⟨by decide +kernel, rfl⟩
theorem dc_L_law_476 : decode code 476 = .ok (.if_icmp .eq 314, 3) ∧ ((476 : Nat) : Int) + (314) = ((790 : Nat) : Int) ∧ 476 + 3 = 479 := ⟨by decide +kernel, by decide, rfl⟩
theorem dc_L_law_479 : decode code 479 = .ok (.iconst 0, 1) ∧ 479 + 1 = 480 := ⟨by decide +kernel, rfl⟩
theorem dc_L_law_480 : decode code 480 = .ok (.ireturn, 1) := by decide +kernel
theorem dc_L_law_481 : decode code 481 = .ok (.aload_n 1, 1) ∧ 481 + 1 = 482 := ⟨by decide +kernel, rfl⟩
theorem dc_L_law_482 : decode code 482 = .ok (.aload_n 0, 1) ∧ 482 + 1 = 483 := ⟨by decide +kernel, rfl⟩
theorem dc_L_law_483 : decode code 483 = .ok (.iload_n 3, 1) ∧ 483 + 1 = 484 := ⟨by decide +kernel, rfl⟩
theorem dc_L_law_484 : decode code 484 = .ok (.iconst 1, 1) ∧ 484 + 1 = 485 := ⟨by decide +kernel, rfl⟩
theorem dc_L_law_485 : decode code 485 = .ok (.iadd, 1) ∧ 485 + 1 = 486 := ⟨by decide +kernel, rfl⟩
theorem dc_L_law_486 : decode code 486 = .ok (.iaload, 1) ∧ 486 + 1 = 487 := ⟨by decide +kernel, rfl⟩
theorem dc_L_law_487 : decode code 487 = .ok (.invokevirtual 68, 3) ∧ 487 + 3 = 490 := ⟨by decide +kernel, rfl⟩
theorem dc_L_law_490 : decode code 490 = .ok (.aload_n 2, 1) ∧ 490 + 1 = 491 := ⟨by decide +kernel, rfl⟩
theorem dc_L_law_491 : decode code 491 = .ok (.aload_n 0, 1) ∧ 491 + 1 = 492 := ⟨by decide +kernel, rfl⟩
theorem dc_L_law_492 : decode code 492 = .ok (.iload_n 3, 1) ∧ 492 + 1 = 493 := ⟨by decide +kernel, rfl⟩
theorem dc_L_law_493 : decode code 493 = .ok (.iconst 1, 1) ∧ 493 + 1 = 494 := ⟨by decide +kernel, rfl⟩
theorem dc_L_law_494 : decode code 494 = .ok (.iadd, 1) ∧ 494 + 1 = 495 := ⟨by decide +kernel, rfl⟩
theorem dc_L_law_495 : decode code 495 = .ok (.iaload, 1) ∧ 495 + 1 = 496 := ⟨by decide +kernel, rfl⟩
theorem dc_L_law_496 : decode code 496 = .ok (.invokevirtual 71, 3) ∧ 496 + 3 = 499 := ⟨by decide +kernel, rfl⟩
theorem dc_L_law_499 : decode code 499 = .ok (.if_icmp .eq 291, 3) ∧ ((499 : Nat) : Int) + (291) = ((790 : Nat) : Int) ∧ 499 + 3 = 502 := ⟨by decide +kernel, by decide, rfl⟩
theorem dc_L_law_502 : decode code 502 = .ok (.iconst 0, 1) ∧ 502 + 1 = 503 := ⟨by decide +kernel, rfl⟩
theorem dc_L_law_503 : decode code 503 = .ok (.ireturn, 1) := by decide +kernel
theorem dc_L_law_504 : decode code 504 = .ok (.aload_n 1, 1) ∧ 504 + 1 = 505 := ⟨by decide +kernel, rfl⟩
theorem dc_L_law_505 : decode code 505 = .ok (.aload_n 0, 1) ∧ 505 + 1 = 506 := ⟨by decide +kernel, rfl⟩
theorem dc_L_law_506 : decode code 506 = .ok (.iload_n 3, 1) ∧ 506 + 1 = 507 := ⟨by decide +kernel, rfl⟩
theorem dc_L_law_507 : decode code 507 = .ok (.iconst 1, 1) ∧ 507 + 1 = 508 := ⟨by decide +kernel, rfl⟩
theorem dc_L_law_508 : decode code 508 = .ok (.iadd, 1) ∧ 508 + 1 = 509 := ⟨by decide +kernel, rfl⟩
theorem dc_L_law_509 : decode code 509 = .ok (.iaload, 1) ∧ 509 + 1 = 510 := ⟨by decide +kernel, rfl⟩
theorem dc_L_law_510 : decode code 510 = .ok (.invokevirtual 72, 3) ∧ 510 + 3 = 513 := ⟨by decide +kernel, rfl⟩
theorem dc_L_law_513 : decode code 513 = .ok (.aload_n 2, 1) ∧ 513 + 1 = 514 := ⟨by decide +kernel, rfl⟩
theorem dc_L_law_514 : decode code 514 = .ok (.aload_n 0, 1) ∧ 514 + 1 = 515 := ⟨by decide +kernel, rfl⟩
theorem dc_L_law_515 : decode code 515 = .ok (.iload_n 3, 1) ∧ 515 + 1 = 516 := ⟨by decide +kernel, rfl⟩
theorem dc_L_law_516 : decode code 516 = .ok (.iconst 1, 1) ∧ 516 + 1 = 517 := ⟨by decide +kernel, rfl⟩
theorem dc_L_law_517 : decode code 517 = .ok (.iadd, 1) ∧ 517 + 1 = 518 := ⟨by decide +kernel, rfl⟩
theorem dc_L_law_518 : decode code 518 = .ok (.iaload, 1) ∧ 518 + 1 = 519 := ⟨by decide +kernel, rfl⟩
theorem dc_L_law_519 : decode code 519 = .ok (.invokevirtual 75, 3) ∧ 519 + 3 = 522 := ⟨by decide +kernel, rfl⟩
theorem dc_L_law_522 : decode code 522 = .ok (.if_icmp .eq 268, 3) ∧ ((522 : Nat) : Int) + (268) = ((790 : Nat) : Int) ∧ 522 + 3 = 525 := ⟨by decide +kernel, by decide, rfl⟩
theorem dc_L_law_525 : decode code 525 = .ok (.iconst 0, 1) ∧ 525 + 1 = 526 := ⟨by decide +kernel, rfl⟩
theorem dc_L_law_526 : decode code 526 = .ok (.ireturn, 1) := by decide +kernel
theorem dc_L_law_527 : decode code 527 = .ok (.aload_n 1, 1) ∧ 527 + 1 = 528 := ⟨by decide +kernel, rfl⟩
theorem dc_L_law_528 : decode code 528 = .ok (.invokevirtual 76, 3) ∧ 528 + 3 = 531 := ⟨by decide +kernel, rfl⟩
theorem dc_L_law_531 : decode code 531 = .ok (.aload_n 2, 1) ∧ 531 + 1 = 532 := ⟨by decide +kernel, rfl⟩
theorem dc_L_law_532 : decode code 532 = .ok (.invokevirtual 79, 3) ∧ 532 + 3 = 535 := ⟨by decide +kernel, rfl⟩
theorem dc_L_law_535 : decode code 535 = .ok (.if_icmp .eq 255, 3) ∧ ((535 : Nat) : Int) + (255) = ((790 : Nat) : Int) ∧ 535 + 3 = 538 := ⟨by decide +kernel, by decide, rfl⟩
theorem dc_L_law_538 : decode code 538 = .ok (.iconst 0, 1) ∧ 538 + 1 = 539 := ⟨by decide +kernel, rfl⟩
theorem dc_L_law_539 : decode code 539 = .ok (.ireturn, 1) := by decide +kernel
theorem dc_L_law_540 : decode code 540 = .ok (.aload_n 1, 1) ∧ 540 + 1 = 541 := ⟨by decide +kernel, rfl⟩
theorem dc_L_law_541 : decode code 541 = .ok (.aload_n 0, 1) ∧ 541 + 1 = 542 := ⟨by decide +kernel, rfl⟩
theorem dc_L_law_542 : decode code 542 = .ok (.iload_n 3, 1) ∧ 542 + 1 = 543 := ⟨by decide +kernel, rfl⟩
theorem dc_L_law_543 : decode code 543 = .ok (.iconst 1, 1) ∧ 543 + 1 = 544 := ⟨by decide +kernel, rfl⟩
theorem dc_L_law_544 : decode code 544 = .ok (.iadd, 1) ∧ 544 + 1 = 545 := ⟨by decide +kernel, rfl⟩
theorem dc_L_law_545 : decode code 545 = .ok (.iaload, 1) ∧ 545 + 1 = 546 := ⟨by decide +kernel, rfl⟩
theorem dc_L_law_546 : decode code 546 = .ok (.invokevirtual 80, 3) ∧ 546 + 3 = 549 := ⟨by decide +kernel, rfl⟩
theorem dc_L_law_549 : decode code 549 = .ok (.aload_n 2, 1) ∧ 549 + 1 = 550 := ⟨by decide +kernel, rfl⟩
theorem dc_L_law_550 : decode code 550 = .ok (.aload_n 0, 1) ∧ 550 + 1 = 551 := ⟨by decide +kernel, rfl⟩
theorem dc_L_law_551 : decode code 551 = .ok (.iload_n 3, 1) ∧ 551 + 1 = 552 := ⟨by decide +kernel, rfl⟩
theorem dc_L_law_552 : decode code 552 = .ok (.iconst 1, 1) ∧ 552 + 1 = 553 := ⟨by decide +kernel, rfl⟩
theorem dc_L_law_553 : decode code 553 = .ok (.iadd, 1) ∧ 553 + 1 = 554 := ⟨by decide +kernel, rfl⟩
theorem dc_L_law_554 : decode code 554 = .ok (.iaload, 1) ∧ 554 + 1 = 555 := ⟨by decide +kernel, rfl⟩
theorem dc_L_law_555 : decode code 555 = .ok (.invokevirtual 83, 3) ∧ 555 + 3 = 558 := ⟨by decide +kernel, rfl⟩
theorem dc_L_law_558 : decode code 558 = .ok (.if_icmp .eq 232, 3) ∧ ((558 : Nat) : Int) + (232) = ((790 : Nat) : Int) ∧ 558 + 3 = 561 := ⟨by decide +kernel, by decide, rfl⟩
theorem dc_L_law_561 : decode code 561 = .ok (.iconst 0, 1) ∧ 561 + 1 = 562 := ⟨by decide +kernel, rfl⟩
theorem dc_L_law_562 : decode code 562 = .ok (.ireturn, 1) := by decide +kernel
theorem dc_L_law_563 : decode code 563 = .ok (.aload_n 1, 1) ∧ 563 + 1 = 564 := ⟨by decide +kernel, rfl⟩
theorem dc_L_law_564 : decode code 564 = .ok (.aload_n 0, 1) ∧ 564 + 1 = 565 := ⟨by decide +kernel, rfl⟩
theorem dc_L_law_565 : decode code 565 = .ok (.iload_n 3, 1) ∧ 565 + 1 = 566 := ⟨by decide +kernel, rfl⟩
theorem dc_L_law_566 : decode code 566 = .ok (.iconst 1, 1) ∧ 566 + 1 = 567 := ⟨by decide +kernel, rfl⟩
theorem dc_L_law_567 : decode code 567 = .ok (.iadd, 1) ∧ 567 + 1 = 568 := ⟨by decide +kernel, rfl⟩
theorem dc_L_law_568 : decode code 568 = .ok (.iaload, 1) ∧ 568 + 1 = 569 := ⟨by decide +kernel, rfl⟩
theorem dc_L_law_569 : decode code 569 = .ok (.invokevirtual 84, 3) ∧ 569 + 3 = 572 := ⟨by decide +kernel, rfl⟩
theorem dc_L_law_572 : decode code 572 = .ok (.aload_n 2, 1) ∧ 572 + 1 = 573 := ⟨by decide +kernel, rfl⟩
theorem dc_L_law_573 : decode code 573 = .ok (.aload_n 0, 1) ∧ 573 + 1 = 574 := ⟨by decide +kernel, rfl⟩
theorem dc_L_law_574 : decode code 574 = .ok (.iload_n 3, 1) ∧ 574 + 1 = 575 := ⟨by decide +kernel, rfl⟩
theorem dc_L_law_575 : decode code 575 = .ok (.iconst 1, 1) ∧ 575 + 1 = 576 := ⟨by decide +kernel, rfl⟩
theorem dc_L_law_576 : decode code 576 = .ok (.iadd, 1) ∧ 576 + 1 = 577 := ⟨by decide +kernel, rfl⟩
theorem dc_L_law_577 : decode code 577 = .ok (.iaload, 1) ∧ 577 + 1 = 578 := ⟨by decide +kernel, rfl⟩
theorem dc_L_law_578 : decode code 578 = .ok (.invokevirtual 87, 3) ∧ 578 + 3 = 581 := ⟨by decide +kernel, rfl⟩
theorem dc_L_law_581 : decode code 581 = .ok (.if_icmp .eq 209, 3) ∧ ((581 : Nat) : Int) + (209) = ((790 : Nat) : Int) ∧ 581 + 3 = 584 := ⟨by decide +kernel, by decide, rfl⟩
theorem dc_L_law_584 : decode code 584 = .ok (.iconst 0, 1) ∧ 584 + 1 = 585 := ⟨by decide +kernel, rfl⟩
theorem dc_L_law_585 : decode code 585 = .ok (.ireturn, 1) := by decide +kernel
theorem dc_L_law_586 : decode code 586 = .ok (.aload_n 1, 1) ∧ 586 + 1 = 587 := ⟨by decide +kernel, rfl⟩
theorem dc_L_law_587 : decode code 587 = .ok (.aload_n 0, 1) ∧ 587 + 1 = 588 := ⟨by decide +kernel, rfl⟩
theorem dc_L_law_588 : decode code 588 = .ok (.iload_n 3, 1) ∧ 588 + 1 = 589 := ⟨by decide +kernel, rfl⟩
theorem dc_L_law_589 : decode code 589 = .ok (.iconst 1, 1) ∧ 589 + 1 = 590 := ⟨by decide +kernel, rfl⟩
theorem dc_L_law_590 : decode code 590 = .ok (.iadd, 1) ∧ 590 + 1 = 591 := ⟨by decide +kernel, rfl⟩
theorem dc_L_law_591 : decode code 591 = .ok (.iaload, 1) ∧ 591 + 1 = 592 := ⟨by decide +kernel, rfl⟩
theorem dc_L_law_592 : decode code 592 = .ok (.invokevirtual 88, 3) ∧ 592 + 3 = 595 := ⟨by decide +kernel, rfl⟩
theorem dc_L_law_595 : decode code 595 = .ok (.aload_n 2, 1) ∧ 595 + 1 = 596 := ⟨by decide +kernel, rfl⟩
theorem dc_L_law_596 : decode code 596 = .ok (.aload_n 0, 1) ∧ 596 + 1 = 597 := ⟨by decide +kernel, rfl⟩
theorem dc_L_law_597 : decode code 597 = .ok (.iload_n 3, 1) ∧ 597 + 1 = 598 := ⟨by decide +kernel, rfl⟩
theorem dc_L_law_598 : decode code 598 = .ok (.iconst 1, 1) ∧ 598 + 1 = 599 := ⟨by decide +kernel, rfl⟩
theorem dc_L_law_599 : decode code 599 = .ok (.iadd, 1) ∧ 599 + 1 = 600 := ⟨by decide +kernel, rfl⟩
theorem dc_L_law_600 : decode code 600 = .ok (.iaload, 1) ∧ 600 + 1 = 601 := ⟨by decide +kernel, rfl⟩
theorem dc_L_law_601 : decode code 601 = .ok (.invokevirtual 91, 3) ∧ 601 + 3 = 604 := ⟨by decide +kernel, rfl⟩
theorem dc_L_law_604 : decode code 604 = .ok (.if_icmp .eq 186, 3) ∧ ((604 : Nat) : Int) + (186) = ((790 : Nat) : Int) ∧ 604 + 3 = 607 := ⟨by decide +kernel, by decide, rfl⟩
theorem dc_L_law_607 : decode code 607 = .ok (.iconst 0, 1) ∧ 607 + 1 = 608 := ⟨by decide +kernel, rfl⟩
theorem dc_L_law_608 : decode code 608 = .ok (.ireturn, 1) := by decide +kernel
theorem dc_L_law_609 : decode code 609 = .ok (.aload_n 1, 1) ∧ 609 + 1 = 610 := ⟨by decide +kernel, rfl⟩
theorem dc_L_law_610 : decode code 610 = .ok (.aload_n 0, 1) ∧ 610 + 1 = 611 := ⟨by decide +kernel, rfl⟩
theorem dc_L_law_611 : decode code 611 = .ok (.iload_n 3, 1) ∧ 611 + 1 = 612 := ⟨by decide +kernel, rfl⟩
theorem dc_L_law_612 : decode code 612 = .ok (.iconst 1, 1) ∧ 612 + 1 = 613 := ⟨by decide +kernel, rfl⟩
theorem dc_L_law_613 : decode code 613 = .ok (.iadd, 1) ∧ 613 + 1 = 614 := ⟨by decide +kernel, rfl⟩
theorem dc_L_law_614 : decode code 614 = .ok (.iaload, 1) ∧ 614 + 1 = 615 := ⟨by decide +kernel, rfl⟩
theorem dc_L_law_615 : decode code 615 = .ok (.invokevirtual 92, 3) ∧ 615 + 3 = 618 := ⟨by decide +kernel, rfl⟩
theorem dc_L_law_618 : decode code 618 = .ok (.aload_n 2, 1) ∧ 618 + 1 = 619 := ⟨by decide +kernel, rfl⟩
theorem dc_L_law_619 : decode code 619 = .ok (.aload_n 0, 1) ∧ 619 + 1 = 620 := ⟨by decide +kernel, rfl⟩
theorem dc_L_law_620 : decode code 620 = .ok (.iload_n 3, 1) ∧ 620 + 1 = 621 := ⟨by decide +kernel, rfl⟩
theorem dc_L_law_621 : decode code 621 = .ok (.iconst 1, 1) ∧ 621 + 1 = 622 := ⟨by decide +kernel, rfl⟩
theorem dc_L_law_622 : decode code 622 = .ok (.iadd, 1) ∧ 622 + 1 = 623 := ⟨by decide +kernel, rfl⟩
theorem dc_L_law_623 : decode code 623 = .ok (.iaload, 1) ∧ 623 + 1 = 624 := ⟨by decide +kernel, rfl⟩
theorem dc_L_law_624 : decode code 624 = .ok (.invokevirtual 95, 3) ∧ 624 + 3 = 627 := ⟨by decide +kernel, rfl⟩
theorem dc_L_law_627 : decode code 627 = .ok (.if_icmp .eq 163, 3) ∧ ((627 : Nat) : Int) + (163) = ((790 : Nat) : Int) ∧ 627 + 3 = 630 := ⟨by decide +kernel, by decide, rfl⟩
theorem dc_L_law_630 : decode code 630 = .ok (.iconst 0, 1) ∧ 630 + 1 = 631 := ⟨by decide +kernel, rfl⟩
theorem dc_L_law_631 : decode code 631 = .ok (.ireturn, 1) := by decide +kernel
theorem dc_L_law_632 : decode code 632 = .ok (.aload_n 1, 1) ∧ 632 + 1 = 633 := ⟨by decide +kernel, rfl⟩
theorem dc_L_law_633 : decode code 633 = .ok (.aload_n 0, 1) ∧ 633 + 1 = 634 := ⟨by decide +kernel, rfl⟩
theorem dc_L_law_634 : decode code 634 = .ok (.iload_n 3, 1) ∧ 634 + 1 = 635 := ⟨by decide +kernel, rfl⟩
theorem dc_L_law_635 : decode code 635 = .ok (.iconst 1, 1) ∧ 635 + 1 = 636 := ⟨by decide +kernel, rfl⟩
theorem dc_L_law_636 : decode code 636 = .ok (.iadd, 1) ∧ 636 + 1 = 637 := ⟨by decide +kernel, rfl⟩
theorem dc_L_law_637 : decode code 637 = .ok (.iaload, 1) ∧ 637 + 1 = 638 := ⟨by decide +kernel, rfl⟩
theorem dc_L_law_638 : decode code 638 = .ok (.aload_n 0, 1) ∧ 638 + 1 = 639 := ⟨by decide +kernel, rfl⟩
theorem dc_L_law_639 : decode code 639 = .ok (.iload_n 3, 1) ∧ 639 + 1 = 640 := ⟨by decide +kernel, rfl⟩
theorem dc_L_law_640 : decode code 640 = .ok (.iconst 2, 1) ∧ 640 + 1 = 641 := ⟨by decide +kernel, rfl⟩
theorem dc_L_law_641 : decode code 641 = .ok (.iadd, 1) ∧ 641 + 1 = 642 := ⟨by decide +kernel, rfl⟩
theorem dc_L_law_642 : decode code 642 = .ok (.iaload, 1) ∧ 642 + 1 = 643 := ⟨by decide +kernel, rfl⟩
theorem dc_L_law_643 : decode code 643 = .ok (.invokevirtual 96, 3) ∧ 643 + 3 = 646 := ⟨by decide +kernel, rfl⟩
theorem dc_L_law_646 : decode code 646 = .ok (.aload_n 2, 1) ∧ 646 + 1 = 647 := ⟨by decide +kernel, rfl⟩
theorem dc_L_law_647 : decode code 647 = .ok (.aload_n 0, 1) ∧ 647 + 1 = 648 := ⟨by decide +kernel, rfl⟩
theorem dc_L_law_648 : decode code 648 = .ok (.iload_n 3, 1) ∧ 648 + 1 = 649 := ⟨by decide +kernel, rfl⟩
theorem dc_L_law_649 : decode code 649 = .ok (.iconst 1, 1) ∧ 649 + 1 = 650 := ⟨by decide +kernel, rfl⟩
theorem dc_L_law_650 : decode code 650 = .ok (.iadd, 1) ∧ 650 + 1 = 651 := ⟨by decide +kernel, rfl⟩
theorem dc_L_law_651 : decode code 651 = .ok (.iaload, 1) ∧ 651 + 1 = 652 := ⟨by decide +kernel, rfl⟩
theorem dc_L_law_652 : decode code 652 = .ok (.aload_n 0, 1) ∧ 652 + 1 = 653 := ⟨by decide +kernel, rfl⟩
theorem dc_L_law_653 : decode code 653 = .ok (.iload_n 3, 1) ∧ 653 + 1 = 654 := ⟨by decide +kernel, rfl⟩
theorem dc_L_law_654 : decode code 654 = .ok (.iconst 2, 1) ∧ 654 + 1 = 655 := ⟨by decide +kernel, rfl⟩
theorem dc_L_law_655 : decode code 655 = .ok (.iadd, 1) ∧ 655 + 1 = 656 := ⟨by decide +kernel, rfl⟩
theorem dc_L_law_656 : decode code 656 = .ok (.iaload, 1) ∧ 656 + 1 = 657 := ⟨by decide +kernel, rfl⟩
theorem dc_L_law_657 : decode code 657 = .ok (.invokevirtual 99, 3) ∧ 657 + 3 = 660 := ⟨by decide +kernel, rfl⟩
theorem dc_L_law_660 : decode code 660 = .ok (.if_icmp .eq 130, 3) ∧ ((660 : Nat) : Int) + (130) = ((790 : Nat) : Int) ∧ 660 + 3 = 663 := ⟨by decide +kernel, by decide, rfl⟩
theorem dc_L_law_663 : decode code 663 = .ok (.iconst 0, 1) ∧ 663 + 1 = 664 := ⟨by decide +kernel, rfl⟩
theorem dc_L_law_664 : decode code 664 = .ok (.ireturn, 1) := by decide +kernel
theorem dc_L_law_665 : decode code 665 = .ok (.aload_n 1, 1) ∧ 665 + 1 = 666 := ⟨by decide +kernel, rfl⟩
theorem dc_L_law_666 : decode code 666 = .ok (.aload_n 0, 1) ∧ 666 + 1 = 667 := ⟨by decide +kernel, rfl⟩
theorem dc_L_law_667 : decode code 667 = .ok (.iload_n 3, 1) ∧ 667 + 1 = 668 := ⟨by decide +kernel, rfl⟩
theorem dc_L_law_668 : decode code 668 = .ok (.iconst 1, 1) ∧ 668 + 1 = 669 := ⟨by decide +kernel, rfl⟩
theorem dc_L_law_669 : decode code 669 = .ok (.iadd, 1) ∧ 669 + 1 = 670 := ⟨by decide +kernel, rfl⟩
theorem dc_L_law_670 : decode code 670 = .ok (.iaload, 1) ∧ 670 + 1 = 671 := ⟨by decide +kernel, rfl⟩
theorem dc_L_law_671 : decode code 671 = .ok (.invokevirtual 100, 3) ∧ 671 + 3 = 674 := ⟨by decide +kernel, rfl⟩
theorem dc_L_law_674 : decode code 674 = .ok (.aload_n 2, 1) ∧ 674 + 1 = 675 := ⟨by decide +kernel, rfl⟩
theorem dc_L_law_675 : decode code 675 = .ok (.aload_n 0, 1) ∧ 675 + 1 = 676 := ⟨by decide +kernel, rfl⟩
theorem dc_L_law_676 : decode code 676 = .ok (.iload_n 3, 1) ∧ 676 + 1 = 677 := ⟨by decide +kernel, rfl⟩
theorem dc_L_law_677 : decode code 677 = .ok (.iconst 1, 1) ∧ 677 + 1 = 678 := ⟨by decide +kernel, rfl⟩
theorem dc_L_law_678 : decode code 678 = .ok (.iadd, 1) ∧ 678 + 1 = 679 := ⟨by decide +kernel, rfl⟩
theorem dc_L_law_679 : decode code 679 = .ok (.iaload, 1) ∧ 679 + 1 = 680 := ⟨by decide +kernel, rfl⟩
theorem dc_L_law_680 : decode code 680 = .ok (.invokevirtual 103, 3) ∧ 680 + 3 = 683 := ⟨by decide +kernel, rfl⟩
theorem dc_L_law_683 : decode code 683 = .ok (.if_icmp .eq 107, 3) ∧ ((683 : Nat) : Int) + (107) = ((790 : Nat) : Int) ∧ 683 + 3 = 686 := ⟨by decide +kernel, by decide, rfl⟩
theorem dc_L_law_686 : decode code 686 = .ok (.iconst 0, 1) ∧ 686 + 1 = 687 := ⟨by decide +kernel, rfl⟩
theorem dc_L_law_687 : decode code 687 = .ok (.ireturn, 1) := by decide +kernel
theorem dc_L_law_688 : decode code 688 = .ok (.aload_n 1, 1) ∧ 688 + 1 = 689 := ⟨by decide +kernel, rfl⟩
theorem dc_L_law_689 : decode code 689 = .ok (.aload_n 0, 1) ∧ 689 + 1 = 690 := ⟨by decide +kernel, rfl⟩
theorem dc_L_law_690 : decode code 690 = .ok (.iload_n 3, 1) ∧ 690 + 1 = 691 := ⟨by decide +kernel, rfl⟩
theorem dc_L_law_691 : decode code 691 = .ok (.iconst 1, 1) ∧ 691 + 1 = 692 := ⟨by decide +kernel, rfl⟩
theorem dc_L_law_692 : decode code 692 = .ok (.iadd, 1) ∧ 692 + 1 = 693 := ⟨by decide +kernel, rfl⟩
theorem dc_L_law_693 : decode code 693 = .ok (.iaload, 1) ∧ 693 + 1 = 694 := ⟨by decide +kernel, rfl⟩
theorem dc_L_law_694 : decode code 694 = .ok (.invokevirtual 104, 3) ∧ 694 + 3 = 697 := ⟨by decide +kernel, rfl⟩
theorem dc_L_law_697 : decode code 697 = .ok (.aload_n 2, 1) ∧ 697 + 1 = 698 := ⟨by decide +kernel, rfl⟩
theorem dc_L_law_698 : decode code 698 = .ok (.aload_n 0, 1) ∧ 698 + 1 = 699 := ⟨by decide +kernel, rfl⟩
theorem dc_L_law_699 : decode code 699 = .ok (.iload_n 3, 1) ∧ 699 + 1 = 700 := ⟨by decide +kernel, rfl⟩
theorem dc_L_law_700 : decode code 700 = .ok (.iconst 1, 1) ∧ 700 + 1 = 701 := ⟨by decide +kernel, rfl⟩
theorem dc_L_law_701 : decode code 701 = .ok (.iadd, 1) ∧ 701 + 1 = 702 := ⟨by decide +kernel, rfl⟩
theorem dc_L_law_702 : decode code 702 = .ok (.iaload, 1) ∧ 702 + 1 = 703 := ⟨by decide +kernel, rfl⟩
theorem dc_L_law_703 : decode code 703 = .ok (.invokevirtual 107, 3) ∧ 703 + 3 = 706 := ⟨by decide +kernel, rfl⟩
theorem dc_L_law_706 : decode code 706 = .ok (.if_icmp .eq 84, 3) ∧ ((706 : Nat) : Int) + (84) = ((790 : Nat) : Int) ∧ 706 + 3 = 709 := ⟨by decide +kernel, by decide, rfl⟩
theorem dc_L_law_709 : decode code 709 = .ok (.iconst 0, 1) ∧ 709 + 1 = 710 := ⟨by decide +kernel, rfl⟩
theorem dc_L_law_710 : decode code 710 = .ok (.ireturn, 1) := by decide +kernel
theorem dc_L_law_711 : decode code 711 = .ok (.aload_n 1, 1) ∧ 711 + 1 = 712 := ⟨by decide +kernel, rfl⟩
theorem dc_L_law_712 : decode code 712 = .ok (.aload_n 0, 1) ∧ 712 + 1 = 713 := ⟨by decide +kernel, rfl⟩
theorem dc_L_law_713 : decode code 713 = .ok (.iload_n 3, 1) ∧ 713 + 1 = 714 := ⟨by decide +kernel, rfl⟩
theorem dc_L_law_714 : decode code 714 = .ok (.iconst 1, 1) ∧ 714 + 1 = 715 := ⟨by decide +kernel, rfl⟩
theorem dc_L_law_715 : decode code 715 = .ok (.iadd, 1) ∧ 715 + 1 = 716 := ⟨by decide +kernel, rfl⟩
theorem dc_L_law_716 : decode code 716 = .ok (.iaload, 1) ∧ 716 + 1 = 717 := ⟨by decide +kernel, rfl⟩
theorem dc_L_law_717 : decode code 717 = .ok (.aload_n 0, 1) ∧ 717 + 1 = 718 := ⟨by decide +kernel, rfl⟩
theorem dc_L_law_718 : decode code 718 = .ok (.iload_n 3, 1) ∧ 718 + 1 = 719 := ⟨by decide +kernel, rfl⟩
theorem dc_L_law_719 : decode code 719 = .ok (.iconst 2, 1) ∧ 719 + 1 = 720 := ⟨by decide +kernel, rfl⟩
theorem dc_L_law_720 : decode code 720 = .ok (.iadd, 1) ∧ 720 + 1 = 721 := ⟨by decide +kernel, rfl⟩
theorem dc_L_law_721 : decode code 721 = .ok (.iaload, 1) ∧ 721 + 1 = 722 := ⟨by decide +kernel, rfl⟩
theorem dc_L_law_722 : decode code 722 = .ok (.invokevirtual 108, 3) ∧ 722 + 3 = 725 := ⟨by decide +kernel, rfl⟩
theorem dc_L_law_725 : decode code 725 = .ok (.aload_n 2, 1) ∧ 725 + 1 = 726 := ⟨by decide +kernel, rfl⟩
theorem dc_L_law_726 : decode code 726 = .ok (.aload_n 0, 1) ∧ 726 + 1 = 727 := ⟨by decide +kernel, rfl⟩
theorem dc_L_law_727 : decode code 727 = .ok (.iload_n 3, 1) ∧ 727 + 1 = 728 := ⟨by decide +kernel, rfl⟩
theorem dc_L_law_728 : decode code 728 = .ok (.iconst 1, 1) ∧ 728 + 1 = 729 := ⟨by decide +kernel, rfl⟩
theorem dc_L_law_729 : decode code 729 = .ok (.iadd, 1) ∧ 729 + 1 = 730 := ⟨by decide +kernel, rfl⟩
theorem dc_L_law_730 : decode code 730 = .ok (.iaload, 1) ∧ 730 + 1 = 731 := ⟨by decide +kernel, rfl⟩
theorem dc_L_law_731 : decode code 731 = .ok (.aload_n 0, 1) ∧ 731 + 1 = 732 := ⟨by decide +kernel, rfl⟩
theorem dc_L_law_732 : decode code 732 = .ok (.iload_n 3, 1) ∧ 732 + 1 = 733 := ⟨by decide +kernel, rfl⟩
theorem dc_L_law_733 : decode code 733 = .ok (.iconst 2, 1) ∧ 733 + 1 = 734 := ⟨by decide +kernel, rfl⟩
theorem dc_L_law_734 : decode code 734 = .ok (.iadd, 1) ∧ 734 + 1 = 735 := ⟨by decide +kernel, rfl⟩
theorem dc_L_law_735 : decode code 735 = .ok (.iaload, 1) ∧ 735 + 1 = 736 := ⟨by decide +kernel, rfl⟩
theorem dc_L_law_736 : decode code 736 = .ok (.invokevirtual 111, 3) ∧ 736 + 3 = 739 := ⟨by decide +kernel, rfl⟩
theorem dc_L_law_739 : decode code 739 = .ok (.if_icmp .eq 51, 3) ∧ ((739 : Nat) : Int) + (51) = ((790 : Nat) : Int) ∧ 739 + 3 = 742 := ⟨by decide +kernel, by decide, rfl⟩
theorem dc_L_law_742 : decode code 742 = .ok (.iconst 0, 1) ∧ 742 + 1 = 743 := ⟨by decide +kernel, rfl⟩
theorem dc_L_law_743 : decode code 743 = .ok (.ireturn, 1) := by decide +kernel
theorem dc_L_law_744 : decode code 744 = .ok (.aload_n 1, 1) ∧ 744 + 1 = 745 := ⟨by decide +kernel, rfl⟩
theorem dc_L_law_745 : decode code 745 = .ok (.aload_n 0, 1) ∧ 745 + 1 = 746 := ⟨by decide +kernel, rfl⟩
theorem dc_L_law_746 : decode code 746 = .ok (.iload_n 3, 1) ∧ 746 + 1 = 747 := ⟨by decide +kernel, rfl⟩
theorem dc_L_law_747 : decode code 747 = .ok (.iconst 1, 1) ∧ 747 + 1 = 748 := ⟨by decide +kernel, rfl⟩
theorem dc_L_law_748 : decode code 748 = .ok (.iadd, 1) ∧ 748 + 1 = 749 := ⟨by decide +kernel, rfl⟩
theorem dc_L_law_749 : decode code 749 = .ok (.iaload, 1) ∧ 749 + 1 = 750 := ⟨by decide +kernel, rfl⟩
theorem dc_L_law_750 : decode code 750 = .ok (.invokevirtual 112, 3) ∧ 750 + 3 = 753 := ⟨by decide +kernel, rfl⟩
theorem dc_L_law_753 : decode code 753 = .ok (.aload_n 2, 1) ∧ 753 + 1 = 754 := ⟨by decide +kernel, rfl⟩
theorem dc_L_law_754 : decode code 754 = .ok (.aload_n 0, 1) ∧ 754 + 1 = 755 := ⟨by decide +kernel, rfl⟩
theorem dc_L_law_755 : decode code 755 = .ok (.iload_n 3, 1) ∧ 755 + 1 = 756 := ⟨by decide +kernel, rfl⟩
theorem dc_L_law_756 : decode code 756 = .ok (.iconst 1, 1) ∧ 756 + 1 = 757 := ⟨by decide +kernel, rfl⟩
theorem dc_L_law_757 : decode code 757 = .ok (.iadd, 1) ∧ 757 + 1 = 758 := ⟨by decide +kernel, rfl⟩
theorem dc_L_law_758 : decode code 758 = .ok (.iaload, 1) ∧ 758 + 1 = 759 := ⟨by decide +kernel, rfl⟩
theorem dc_L_law_759 : decode code 759 = .ok (.invokevirtual 115, 3) ∧ 759 + 3 = 762 := ⟨by decide +kernel, rfl⟩
theorem dc_L_law_762 : decode code 762 = .ok (.if_icmp .eq 28, 3) ∧ ((762 : Nat) : Int) + (28) = ((790 : Nat) : Int) ∧ 762 + 3 = 765 := ⟨by decide +kernel, by decide, rfl⟩
theorem dc_L_law_765 : decode code 765 = .ok (.iconst 0, 1) ∧ 765 + 1 = 766 := ⟨by decide +kernel, rfl⟩
theorem dc_L_law_766 : decode code 766 = .ok (.ireturn, 1) := by decide +kernel
theorem dc_L_law_767 : decode code 767 = .ok (.aload_n 1, 1) ∧ 767 + 1 = 768 := ⟨by decide +kernel, rfl⟩
theorem dc_L_law_768 : decode code 768 = .ok (.aload_n 0, 1) ∧ 768 + 1 = 769 := ⟨by decide +kernel, rfl⟩
theorem dc_L_law_769 : decode code 769 = .ok (.iload_n 3, 1) ∧ 769 + 1 = 770 := ⟨by decide +kernel, rfl⟩
theorem dc_L_law_770 : decode code 770 = .ok (.iconst 1, 1) ∧ 770 + 1 = 771 := ⟨by decide +kernel, rfl⟩
theorem dc_L_law_771 : decode code 771 = .ok (.iadd, 1) ∧ 771 + 1 = 772 := ⟨by decide +kernel, rfl⟩
theorem dc_L_law_772 : decode code 772 = .ok (.iaload, 1) ∧ 772 + 1 = 773 := ⟨by decide +kernel, rfl⟩
theorem dc_L_law_773 : decode code 773 = .ok (.invokevirtual 116, 3) ∧ 773 + 3 = 776 := ⟨by decide +kernel, rfl⟩
theorem dc_L_law_776 : decode code 776 = .ok (.aload_n 2, 1) ∧ 776 + 1 = 777 := ⟨by decide +kernel, rfl⟩
theorem dc_L_law_777 : decode code 777 = .ok (.aload_n 0, 1) ∧ 777 + 1 = 778 := ⟨by decide +kernel, rfl⟩
theorem dc_L_law_778 : decode code 778 = .ok (.iload_n 3, 1) ∧ 778 + 1 = 779 := ⟨by decide +kernel, rfl⟩
theorem dc_L_law_779 : decode code 779 = .ok (.iconst 1, 1) ∧ 779 + 1 = 780 := ⟨by decide +kernel, rfl⟩
theorem dc_L_law_780 : decode code 780 = .ok (.iadd, 1) ∧ 780 + 1 = 781 := ⟨by decide +kernel, rfl⟩
theorem dc_L_law_781 : decode code 781 = .ok (.iaload, 1) ∧ 781 + 1 = 782 := ⟨by decide +kernel, rfl⟩
theorem dc_L_law_782 : decode code 782 = .ok (.invokevirtual 119, 3) ∧ 782 + 3 = 785 := ⟨by decide +kernel, rfl⟩
theorem dc_L_law_785 : decode code 785 = .ok (.if_icmp .eq 5, 3) ∧ ((785 : Nat) : Int) + (5) = ((790 : Nat) : Int) ∧ 785 + 3 = 788 := ⟨by decide +kernel, by decide, rfl⟩
theorem dc_L_law_788 : decode code 788 = .ok (.iconst 0, 1) ∧ 788 + 1 = 789 := ⟨by decide +kernel, rfl⟩
theorem dc_L_law_789 : decode code 789 = .ok (.ireturn, 1) := by decide +kernel
theorem dc_L_law_790 : decode code 790 = .ok (.iinc 3 3, 3) ∧ 790 + 3 = 793 := ⟨by decide +kernel, rfl⟩
theorem dc_L_law_793 : decode code 793 = .ok (.goto (-775), 3) ∧ ((793 : Nat) : Int) + (-775) = ((18 : Nat) : Int) := ⟨by decide +kernel, by decide⟩
theorem dc_L_law_796 : decode code 796 = .ok (.iconst 1, 1) ∧ 796 + 1 = 797 := ⟨by decide +kernel, rfl⟩
theorem dc_L_law_797 : decode code 797 = .ok (.ireturn, 1) := by decide +kernel
