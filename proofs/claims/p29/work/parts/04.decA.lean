/-! decode rows (by program: wip/gen/g03.py) -/
theorem dc_F_init_0 : decode prog_1_method_1_code 0 = .ok (.aload_n 0, 1) ∧ 0 + 1 = 1 := ⟨by decide +kernel, rfl⟩
theorem dc_F_init_1 : decode prog_1_method_1_code 1 = .ok (.invokespecial 1, 3) ∧ 1 + 3 = 4 := ⟨by decide +kernel, rfl⟩
theorem dc_F_init_4 : decode prog_1_method_1_code 4 = .ok (.aload_n 0, 1) ∧ 4 + 1 = 5 := ⟨by decide +kernel, rfl⟩
theorem dc_F_init_5 : decode prog_1_method_1_code 5 = .ok (.new 7, 3) ∧ 5 + 3 = 8 := ⟨by decide +kernel, rfl⟩
theorem dc_F_init_8 : decode prog_1_method_1_code 8 = .ok (.dup, 1) ∧ 8 + 1 = 9 := ⟨by decide +kernel, rfl⟩
theorem dc_F_init_9 : decode prog_1_method_1_code 9 = .ok (.invokespecial 9, 3) ∧ 9 + 3 = 12 := ⟨by decide +kernel, rfl⟩
theorem dc_F_init_12 : decode prog_1_method_1_code 12 = .ok (.putfield 10, 3) ∧ 12 + 3 = 15 := ⟨by decide +kernel, rfl⟩
theorem dc_F_init_15 : decode prog_1_method_1_code 15 = .ok (.aload_n 0, 1) ∧ 15 + 1 = 16 := ⟨by decide +kernel, rfl⟩
theorem dc_F_init_16 : decode prog_1_method_1_code 16 = .ok (.new 7, 3) ∧ 16 + 3 = 19 := ⟨by decide +kernel, rfl⟩
theorem dc_F_init_19 : decode prog_1_method_1_code 19 = .ok (.dup, 1) ∧ 19 + 1 = 20 := ⟨by decide +kernel, rfl⟩
theorem dc_F_init_20 : decode prog_1_method_1_code 20 = .ok (.invokespecial 9, 3) ∧ 20 + 3 = 23 := ⟨by decide +kernel, rfl⟩
theorem dc_F_init_23 : decode prog_1_method_1_code 23 = .ok (.putfield 16, 3) ∧ 23 + 3 = 26 := ⟨by decide +kernel, rfl⟩
theorem dc_F_init_26 : decode prog_1_method_1_code 26 = .ok (.aload_n 0, 1) ∧ 26 + 1 = 27 := ⟨by decide +kernel, rfl⟩
theorem dc_F_init_27 : decode prog_1_method_1_code 27 = .ok (.iconst 2, 1) ∧ 27 + 1 = 28 := ⟨by decide +kernel, rfl⟩
theorem dc_F_init_28 : decode prog_1_method_1_code 28 = .ok (.anewarray 7, 3) ∧ 28 + 3 = 31 := ⟨by decide +kernel, rfl⟩
theorem dc_F_init_31 : decode prog_1_method_1_code 31 = .ok (.putfield 19, 3) ∧ 31 + 3 = 34 := ⟨by decide +kernel, rfl⟩
theorem dc_F_init_34 : decode prog_1_method_1_code 34 = .ok (.iconst 0, 1) ∧ 34 + 1 = 35 := ⟨by decide +kernel, rfl⟩
theorem dc_F_init_35 : decode prog_1_method_1_code 35 = .ok (.istore_n 1, 1) ∧ 35 + 1 = 36 := ⟨by decide +kernel, rfl⟩
theorem dc_F_init_36 : decode prog_1_method_1_code 36 = .ok (.iload_n 1, 1) ∧ 36 + 1 = 37 := ⟨by decide +kernel, rfl⟩
theorem dc_F_init_37 : decode prog_1_method_1_code 37 = .ok (.iconst 2, 1) ∧ 37 + 1 = 38 := ⟨by decide +kernel, rfl⟩
theorem dc_F_init_38 : decode prog_1_method_1_code 38 = .ok (.if_icmp .ge 22, 3) ∧ ((38 : Nat) : Int) + (22) = ((60 : Nat) : Int) ∧ 38 + 3 = 41 := ⟨by decide +kernel, by decide, rfl⟩
theorem dc_F_init_41 : decode prog_1_method_1_code 41 = .ok (.aload_n 0, 1) ∧ 41 + 1 = 42 := ⟨by decide +kernel, rfl⟩
theorem dc_F_init_42 : decode prog_1_method_1_code 42 = .ok (.getfield 19, 3) ∧ 42 + 3 = 45 := ⟨by decide +kernel, rfl⟩
theorem dc_F_init_45 : decode prog_1_method_1_code 45 = .ok (.iload_n 1, 1) ∧ 45 + 1 = 46 := ⟨by decide +kernel, rfl⟩
theorem dc_F_init_46 : decode prog_1_method_1_code 46 = .ok (.new 7, 3) ∧ 46 + 3 = 49 := ⟨by decide +kernel, rfl⟩
theorem dc_F_init_49 : decode prog_1_method_1_code 49 = .ok (.dup, 1) ∧ 49 + 1 = 50 := ⟨by decide +kernel, rfl⟩
theorem dc_F_init_50 : decode prog_1_method_1_code 50 = .ok (.invokespecial 9, 3) ∧ 50 + 3 = 53 := ⟨by decide +kernel, rfl⟩
theorem dc_F_init_53 : decode prog_1_method_1_code 53 = .ok (.aastore, 1) ∧ 53 + 1 = 54 := ⟨by decide +kernel, rfl⟩
theorem dc_F_init_54 : decode prog_1_method_1_code 54 = .ok (.iinc 1 1, 3) ∧ 54 + 3 = 57 := ⟨by decide +kernel, rfl⟩
theorem dc_F_init_57 : decode prog_1_method_1_code 57 = .ok (.goto (-21), 3) ∧ ((57 : Nat) : Int) + (-21) = ((36 : Nat) : Int) := ⟨by decide +kernel, by decide⟩
theorem dc_F_init_60 : decode prog_1_method_1_code 60 = .ok (.aload_n 0, 1) ∧ 60 + 1 = 61 := ⟨by decide +kernel, rfl⟩
theorem dc_F_init_61 : decode prog_1_method_1_code 61 = .ok (.iconst 0, 1) ∧ 61 + 1 = 62 := ⟨by decide +kernel, rfl⟩
theorem dc_F_init_62 : decode prog_1_method_1_code 62 = .ok (.putfield 23, 3) ∧ 62 + 3 = 65 := ⟨by decide +kernel, rfl⟩
theorem dc_F_init_65 : decode prog_1_method_1_code 65 = .ok (.aload_n 0, 1) ∧ 65 + 1 = 66 := ⟨by decide +kernel, rfl⟩
theorem dc_F_init_66 : decode prog_1_method_1_code 66 = .ok (.new 27, 3) ∧ 66 + 3 = 69 := ⟨by decide +kernel, rfl⟩
theorem dc_F_init_69 : decode prog_1_method_1_code 69 = .ok (.dup, 1) ∧ 69 + 1 = 70 := ⟨by decide +kernel, rfl⟩
theorem dc_F_init_70 : decode prog_1_method_1_code 70 = .ok (.invokespecial 29, 3) ∧ 70 + 3 = 73 := ⟨by decide +kernel, rfl⟩
theorem dc_F_init_73 : decode prog_1_method_1_code 73 = .ok (.putfield 30, 3) ∧ 73 + 3 = 76 := ⟨by decide +kernel, rfl⟩
theorem dc_F_init_76 : decode prog_1_method_1_code 76 = .ok (.aload_n 0, 1) ∧ 76 + 1 = 77 := ⟨by decide +kernel, rfl⟩
theorem dc_F_init_77 : decode prog_1_method_1_code 77 = .ok (.new 34, 3) ∧ 77 + 3 = 80 := ⟨by decide +kernel, rfl⟩
theorem dc_F_init_80 : decode prog_1_method_1_code 80 = .ok (.dup, 1) ∧ 80 + 1 = 81 := ⟨by decide +kernel, rfl⟩
theorem dc_F_init_81 : decode prog_1_method_1_code 81 = .ok (.invokespecial 36, 3) ∧ 81 + 3 = 84 := ⟨by decide +kernel, rfl⟩
theorem dc_F_init_84 : decode prog_1_method_1_code 84 = .ok (.putfield 37, 3) ∧ 84 + 3 = 87 := ⟨by decide +kernel, rfl⟩
theorem dc_F_init_87 : decode prog_1_method_1_code 87 = .ok (.return_, 1) := by decide +kernel
theorem dc_A_init_0 : decode prog_2_method_1_code 0 = .ok (.aload_n 0, 1) ∧ 0 + 1 = 1 := ⟨by decide +kernel, rfl⟩
theorem dc_A_init_1 : decode prog_2_method_1_code 1 = .ok (.invokespecial 3, 3) ∧ 1 + 3 = 4 := ⟨by decide +kernel, rfl⟩
theorem dc_A_init_4 : decode prog_2_method_1_code 4 = .ok (.aload_n 0, 1) ∧ 4 + 1 = 5 := ⟨by decide +kernel, rfl⟩
theorem dc_A_init_5 : decode prog_2_method_1_code 5 = .ok (.bipush 6, 2) ∧ 5 + 2 = 7 := ⟨by decide +kernel, rfl⟩
theorem dc_A_init_7 : decode prog_2_method_1_code 7 = .ok (.newarray .int, 2) ∧ 7 + 2 = 9 := ⟨by decide +kernel, rfl⟩
theorem dc_A_init_9 : decode prog_2_method_1_code 9 = .ok (.dup, 1) ∧ 9 + 1 = 10 := ⟨by decide +kernel, rfl⟩
theorem dc_A_init_10 : decode prog_2_method_1_code 10 = .ok (.iconst 0, 1) ∧ 10 + 1 = 11 := ⟨by decide +kernel, rfl⟩
theorem dc_A_init_11 : decode prog_2_method_1_code 11 = .ok (.iconst 4, 1) ∧ 11 + 1 = 12 := ⟨by decide +kernel, rfl⟩
theorem dc_A_init_12 : decode prog_2_method_1_code 12 = .ok (.iastore, 1) ∧ 12 + 1 = 13 := ⟨by decide +kernel, rfl⟩
theorem dc_A_init_13 : decode prog_2_method_1_code 13 = .ok (.dup, 1) ∧ 13 + 1 = 14 := ⟨by decide +kernel, rfl⟩
theorem dc_A_init_14 : decode prog_2_method_1_code 14 = .ok (.iconst 1, 1) ∧ 14 + 1 = 15 := ⟨by decide +kernel, rfl⟩
theorem dc_A_init_15 : decode prog_2_method_1_code 15 = .ok (.bipush 100, 2) ∧ 15 + 2 = 17 := ⟨by decide +kernel, rfl⟩
theorem dc_A_init_17 : decode prog_2_method_1_code 17 = .ok (.iastore, 1) ∧ 17 + 1 = 18 := ⟨by decide +kernel, rfl⟩
theorem dc_A_init_18 : decode prog_2_method_1_code 18 = .ok (.dup, 1) ∧ 18 + 1 = 19 := ⟨by decide +kernel, rfl⟩
theorem dc_A_init_19 : decode prog_2_method_1_code 19 = .ok (.iconst 2, 1) ∧ 19 + 1 = 20 := ⟨by decide +kernel, rfl⟩
theorem dc_A_init_20 : decode prog_2_method_1_code 20 = .ok (.bipush 100, 2) ∧ 20 + 2 = 22 := ⟨by decide +kernel, rfl⟩
theorem dc_A_init_22 : decode prog_2_method_1_code 22 = .ok (.iastore, 1) ∧ 22 + 1 = 23 := ⟨by decide +kernel, rfl⟩
theorem dc_A_init_23 : decode prog_2_method_1_code 23 = .ok (.dup, 1) ∧ 23 + 1 = 24 := ⟨by decide +kernel, rfl⟩
theorem dc_A_init_24 : decode prog_2_method_1_code 24 = .ok (.iconst 3, 1) ∧ 24 + 1 = 25 := ⟨by decide +kernel, rfl⟩
theorem dc_A_init_25 : decode prog_2_method_1_code 25 = .ok (.bipush 10, 2) ∧ 25 + 2 = 27 := ⟨by decide +kernel, rfl⟩
theorem dc_A_init_27 : decode prog_2_method_1_code 27 = .ok (.iastore, 1) ∧ 27 + 1 = 28 := ⟨by decide +kernel, rfl⟩
theorem dc_A_init_28 : decode prog_2_method_1_code 28 = .ok (.dup, 1) ∧ 28 + 1 = 29 := ⟨by decide +kernel, rfl⟩
theorem dc_A_init_29 : decode prog_2_method_1_code 29 = .ok (.iconst 4, 1) ∧ 29 + 1 = 30 := ⟨by decide +kernel, rfl⟩
theorem dc_A_init_30 : decode prog_2_method_1_code 30 = .ok (.iconst 0, 1) ∧ 30 + 1 = 31 := ⟨by decide +kernel, rfl⟩
theorem dc_A_init_31 : decode prog_2_method_1_code 31 = .ok (.iastore, 1) ∧ 31 + 1 = 32 := ⟨by decide +kernel, rfl⟩
theorem dc_A_init_32 : decode prog_2_method_1_code 32 = .ok (.dup, 1) ∧ 32 + 1 = 33 := ⟨by decide +kernel, rfl⟩
theorem dc_A_init_33 : decode prog_2_method_1_code 33 = .ok (.iconst 5, 1) ∧ 33 + 1 = 34 := ⟨by decide +kernel, rfl⟩
theorem dc_A_init_34 : decode prog_2_method_1_code 34 = .ok (.iconst 0, 1) ∧ 34 + 1 = 35 := ⟨by decide +kernel, rfl⟩
theorem dc_A_init_35 : decode prog_2_method_1_code 35 = .ok (.iastore, 1) ∧ 35 + 1 = 36 := ⟨by decide +kernel, rfl⟩
theorem dc_A_init_36 : decode prog_2_method_1_code 36 = .ok (.putfield 9, 3) ∧ 36 + 3 = 39 := ⟨by decide +kernel, rfl⟩
theorem dc_A_init_39 : decode prog_2_method_1_code 39 = .ok (.aload_n 0, 1) ∧ 39 + 1 = 40 := ⟨by decide +kernel, rfl⟩
theorem dc_A_init_40 : decode prog_2_method_1_code 40 = .ok (.bipush 6, 2) ∧ 40 + 2 = 42 := ⟨by decide +kernel, rfl⟩
theorem dc_A_init_42 : decode prog_2_method_1_code 42 = .ok (.newarray .int, 2) ∧ 42 + 2 = 44 := ⟨by decide +kernel, rfl⟩
theorem dc_A_init_44 : decode prog_2_method_1_code 44 = .ok (.putfield 15, 3) ∧ 44 + 3 = 47 := ⟨by decide +kernel, rfl⟩
theorem dc_A_init_47 : decode prog_2_method_1_code 47 = .ok (.aload_n 0, 1) ∧ 47 + 1 = 48 := ⟨by decide +kernel, rfl⟩
theorem dc_A_init_48 : decode prog_2_method_1_code 48 = .ok (.new 18, 3) ∧ 48 + 3 = 51 := ⟨by decide +kernel, rfl⟩
theorem dc_A_init_51 : decode prog_2_method_1_code 51 = .ok (.dup, 1) ∧ 51 + 1 = 52 := ⟨by decide +kernel, rfl⟩
theorem dc_A_init_52 : decode prog_2_method_1_code 52 = .ok (.invokespecial 20, 3) ∧ 52 + 3 = 55 := ⟨by decide +kernel, rfl⟩
theorem dc_A_init_55 : decode prog_2_method_1_code 55 = .ok (.putfield 21, 3) ∧ 55 + 3 = 58 := ⟨by decide +kernel, rfl⟩
theorem dc_A_init_58 : decode prog_2_method_1_code 58 = .ok (.aload_n 0, 1) ∧ 58 + 1 = 59 := ⟨by decide +kernel, rfl⟩
theorem dc_A_init_59 : decode prog_2_method_1_code 59 = .ok (.new 18, 3) ∧ 59 + 3 = 62 := ⟨by decide +kernel, rfl⟩
theorem dc_A_init_62 : decode prog_2_method_1_code 62 = .ok (.dup, 1) ∧ 62 + 1 = 63 := ⟨by decide +kernel, rfl⟩
theorem dc_A_init_63 : decode prog_2_method_1_code 63 = .ok (.invokespecial 20, 3) ∧ 63 + 3 = 66 := ⟨by decide +kernel, rfl⟩
theorem dc_A_init_66 : decode prog_2_method_1_code 66 = .ok (.putfield 25, 3) ∧ 66 + 3 = 69 := ⟨by decide +kernel, rfl⟩
theorem dc_A_init_69 : decode prog_2_method_1_code 69 = .ok (.aload_n 0, 1) ∧ 69 + 1 = 70 := ⟨by decide +kernel, rfl⟩
theorem dc_A_init_70 : decode prog_2_method_1_code 70 = .ok (.new 28, 3) ∧ 70 + 3 = 73 := ⟨by decide +kernel, rfl⟩
theorem dc_A_init_73 : decode prog_2_method_1_code 73 = .ok (.dup, 1) ∧ 73 + 1 = 74 := ⟨by decide +kernel, rfl⟩
theorem dc_A_init_74 : decode prog_2_method_1_code 74 = .ok (.invokespecial 30, 3) ∧ 74 + 3 = 77 := ⟨by decide +kernel, rfl⟩
theorem dc_A_init_77 : decode prog_2_method_1_code 77 = .ok (.putfield 31, 3) ∧ 77 + 3 = 80 := ⟨by decide +kernel, rfl⟩
theorem dc_A_init_80 : decode prog_2_method_1_code 80 = .ok (.return_, 1) := by decide +kernel
theorem dc_P_init_0 : decode prog_5_method_1_code 0 = .ok (.aload_n 0, 1) ∧ 0 + 1 = 1 := ⟨by decide +kernel, rfl⟩
theorem dc_P_init_1 : decode prog_5_method_1_code 1 = .ok (.bipush 10, 2) ∧ 1 + 2 = 3 := ⟨by decide +kernel, rfl⟩
theorem dc_P_init_3 : decode prog_5_method_1_code 3 = .ok (.invokespecial 5, 3) ∧ 3 + 3 = 6 := ⟨by decide +kernel, rfl⟩
theorem dc_P_init_6 : decode prog_5_method_1_code 6 = .ok (.return_, 1) := by decide +kernel
theorem dc_Q_init_0 : decode prog_4_method_1_code 0 = .ok (.aload_n 0, 1) ∧ 0 + 1 = 1 := ⟨by decide +kernel, rfl⟩
theorem dc_Q_init_1 : decode prog_4_method_1_code 1 = .ok (.invokespecial 1, 3) ∧ 1 + 3 = 4 := ⟨by decide +kernel, rfl⟩
theorem dc_Q_init_4 : decode prog_4_method_1_code 4 = .ok (.iconst 0, 1) ∧ 4 + 1 = 5 := ⟨by decide +kernel, rfl⟩
theorem dc_Q_init_5 : decode prog_4_method_1_code 5 = .ok (.iload_n 1, 1) ∧ 5 + 1 = 6 := ⟨by decide +kernel, rfl⟩
theorem dc_Q_init_6 : decode prog_4_method_1_code 6 = .ok (.invokestatic 7, 3) ∧ 6 + 3 = 9 := ⟨by decide +kernel, rfl⟩
theorem dc_Q_init_9 : decode prog_4_method_1_code 9 = .ok (.istore_n 2, 1) ∧ 9 + 1 = 10 := ⟨by decide +kernel, rfl⟩
theorem dc_Q_init_10 : decode prog_4_method_1_code 10 = .ok (.aload_n 0, 1) ∧ 10 + 1 = 11 := ⟨by decide +kernel, rfl⟩
theorem dc_Q_init_11 : decode prog_4_method_1_code 11 = .ok (.iload_n 2, 1) ∧ 11 + 1 = 12 := ⟨by decide +kernel, rfl⟩
theorem dc_Q_init_12 : decode prog_4_method_1_code 12 = .ok (.newarray .int, 2) ∧ 12 + 2 = 14 := ⟨by decide +kernel, rfl⟩
theorem dc_Q_init_14 : decode prog_4_method_1_code 14 = .ok (.putfield 13, 3) ∧ 14 + 3 = 17 := ⟨by decide +kernel, rfl⟩
theorem dc_Q_init_17 : decode prog_4_method_1_code 17 = .ok (.aload_n 0, 1) ∧ 17 + 1 = 18 := ⟨by decide +kernel, rfl⟩
theorem dc_Q_init_18 : decode prog_4_method_1_code 18 = .ok (.iload_n 2, 1) ∧ 18 + 1 = 19 := ⟨by decide +kernel, rfl⟩
theorem dc_Q_init_19 : decode prog_4_method_1_code 19 = .ok (.newarray .int, 2) ∧ 19 + 2 = 21 := ⟨by decide +kernel, rfl⟩
theorem dc_Q_init_21 : decode prog_4_method_1_code 21 = .ok (.putfield 19, 3) ∧ 21 + 3 = 24 := ⟨by decide +kernel, rfl⟩
theorem dc_Q_init_24 : decode prog_4_method_1_code 24 = .ok (.aload_n 0, 1) ∧ 24 + 1 = 25 := ⟨by decide +kernel, rfl⟩
theorem dc_Q_init_25 : decode prog_4_method_1_code 25 = .ok (.iconst 0, 1) ∧ 25 + 1 = 26 := ⟨by decide +kernel, rfl⟩
theorem dc_Q_init_26 : decode prog_4_method_1_code 26 = .ok (.putfield 22, 3) ∧ 26 + 3 = 29 := ⟨by decide +kernel, rfl⟩
theorem dc_Q_init_29 : decode prog_4_method_1_code 29 = .ok (.return_, 1) := by decide +kernel
theorem dc_J_max_0 : decode prog_12_method_65_code 0 = .ok (.iload_n 0, 1) ∧ 0 + 1 = 1 := ⟨by decide +kernel, rfl⟩
theorem dc_J_max_1 : decode prog_12_method_65_code 1 = .ok (.iload_n 1, 1) ∧ 1 + 1 = 2 := ⟨by decide +kernel, rfl⟩
theorem dc_J_max_2 : decode prog_12_method_65_code 2 = .ok (.if_icmp .lt 7, 3) ∧ ((2 : Nat) : Int) + (7) = ((9 : Nat) : Int) ∧ 2 + 3 = 5 := ⟨by decide +kernel, by decide, rfl⟩
theorem dc_J_max_5 : decode prog_12_method_65_code 5 = .ok (.iload_n 0, 1) ∧ 5 + 1 = 6 := ⟨by decide +kernel, rfl⟩
theorem dc_J_max_6 : decode prog_12_method_65_code 6 = .ok (.goto 4, 3) ∧ ((6 : Nat) : Int) + (4) = ((10 : Nat) : Int) := ⟨by decide +kernel, by decide⟩
theorem dc_J_max_9 : decode prog_12_method_65_code 9 = .ok (.iload_n 1, 1) ∧ 9 + 1 = 10 := ⟨by decide +kernel, rfl⟩
theorem dc_J_max_10 : decode prog_12_method_65_code 10 = .ok (.ireturn, 1) := by decide +kernel
theorem dc_C_init_0 : decode prog_3_method_1_code 0 = .ok (.aload_n 0, 1) ∧ 0 + 1 = 1 := ⟨by decide +kernel, rfl⟩
theorem dc_C_init_1 : decode prog_3_method_1_code 1 = .ok (.bipush 8, 2) ∧ 1 + 2 = 3 := ⟨by decide +kernel, rfl⟩
theorem dc_C_init_3 : decode prog_3_method_1_code 3 = .ok (.invokespecial 3, 3) ∧ 3 + 3 = 6 := ⟨by decide +kernel, rfl⟩
theorem dc_C_init_6 : decode prog_3_method_1_code 6 = .ok (.return_, 1) := by decide +kernel
theorem dc_S_init_0 : decode prog_7_method_1_code 0 = .ok (.aload_n 0, 1) ∧ 0 + 1 = 1 := ⟨by decide +kernel, rfl⟩
theorem dc_S_init_1 : decode prog_7_method_1_code 1 = .ok (.invokespecial 1, 3) ∧ 1 + 3 = 4 := ⟨by decide +kernel, rfl⟩
theorem dc_S_init_4 : decode prog_7_method_1_code 4 = .ok (.aload_n 0, 1) ∧ 4 + 1 = 5 := ⟨by decide +kernel, rfl⟩
theorem dc_S_init_5 : decode prog_7_method_1_code 5 = .ok (.bipush 6, 2) ∧ 5 + 2 = 7 := ⟨by decide +kernel, rfl⟩
theorem dc_S_init_7 : decode prog_7_method_1_code 7 = .ok (.anewarray 9, 3) ∧ 7 + 3 = 10 := ⟨by decide +kernel, rfl⟩
theorem dc_S_init_10 : decode prog_7_method_1_code 10 = .ok (.putfield 11, 3) ∧ 10 + 3 = 13 := ⟨by decide +kernel, rfl⟩
theorem dc_S_init_13 : decode prog_7_method_1_code 13 = .ok (.iconst 0, 1) ∧ 13 + 1 = 14 := ⟨by decide +kernel, rfl⟩
theorem dc_S_init_14 : decode prog_7_method_1_code 14 = .ok (.istore_n 1, 1) ∧ 14 + 1 = 15 := ⟨by decide +kernel, rfl⟩
theorem dc_S_init_15 : decode prog_7_method_1_code 15 = .ok (.iload_n 1, 1) ∧ 15 + 1 = 16 := ⟨by decide +kernel, rfl⟩
theorem dc_S_init_16 : decode prog_7_method_1_code 16 = .ok (.bipush 6, 2) ∧ 16 + 2 = 18 := ⟨by decide +kernel, rfl⟩
theorem dc_S_init_18 : decode prog_7_method_1_code 18 = .ok (.if_icmp .ge 22, 3) ∧ ((18 : Nat) : Int) + (22) = ((40 : Nat) : Int) ∧ 18 + 3 = 21 := ⟨by decide +kernel, by decide, rfl⟩
theorem dc_S_init_21 : decode prog_7_method_1_code 21 = .ok (.aload_n 0, 1) ∧ 21 + 1 = 22 := ⟨by decide +kernel, rfl⟩
theorem dc_S_init_22 : decode prog_7_method_1_code 22 = .ok (.getfield 11, 3) ∧ 22 + 3 = 25 := ⟨by decide +kernel, rfl⟩
theorem dc_S_init_25 : decode prog_7_method_1_code 25 = .ok (.iload_n 1, 1) ∧ 25 + 1 = 26 := ⟨by decide +kernel, rfl⟩
theorem dc_S_init_26 : decode prog_7_method_1_code 26 = .ok (.new 9, 3) ∧ 26 + 3 = 29 := ⟨by decide +kernel, rfl⟩
theorem dc_S_init_29 : decode prog_7_method_1_code 29 = .ok (.dup, 1) ∧ 29 + 1 = 30 := ⟨by decide +kernel, rfl⟩
theorem dc_S_init_30 : decode prog_7_method_1_code 30 = .ok (.invokespecial 15, 3) ∧ 30 + 3 = 33 := ⟨by decide +kernel, rfl⟩
theorem dc_S_init_33 : decode prog_7_method_1_code 33 = .ok (.aastore, 1) ∧ 33 + 1 = 34 := ⟨by decide +kernel, rfl⟩
theorem dc_S_init_34 : decode prog_7_method_1_code 34 = .ok (.iinc 1 1, 3) ∧ 34 + 3 = 37 := ⟨by decide +kernel, rfl⟩
theorem dc_S_init_37 : decode prog_7_method_1_code 37 = .ok (.goto (-22), 3) ∧ ((37 : Nat) : Int) + (-22) = ((15 : Nat) : Int) := ⟨by decide +kernel, by decide⟩
theorem dc_S_init_40 : decode prog_7_method_1_code 40 = .ok (.aload_n 0, 1) ∧ 40 + 1 = 41 := ⟨by decide +kernel, rfl⟩
theorem dc_S_init_41 : decode prog_7_method_1_code 41 = .ok (.iconst 0, 1) ∧ 41 + 1 = 42 := ⟨by decide +kernel, rfl⟩
theorem dc_S_init_42 : decode prog_7_method_1_code 42 = .ok (.putfield 16, 3) ∧ 42 + 3 = 45 := ⟨by decide +kernel, rfl⟩
theorem dc_S_init_45 : decode prog_7_method_1_code 45 = .ok (.aload_n 0, 1) ∧ 45 + 1 = 46 := ⟨by decide +kernel, rfl⟩
theorem dc_S_init_46 : decode prog_7_method_1_code 46 = .ok (.iconst 0, 1) ∧ 46 + 1 = 47 := ⟨by decide +kernel, rfl⟩
theorem dc_S_init_47 : decode prog_7_method_1_code 47 = .ok (.putfield 20, 3) ∧ 47 + 3 = 50 := ⟨by decide +kernel, rfl⟩
theorem dc_S_init_50 : decode prog_7_method_1_code 50 = .ok (.return_, 1) := by decide +kernel
theorem dc_T_init_0 : decode prog_8_method_1_code 0 = .ok (.aload_n 0, 1) ∧ 0 + 1 = 1 := ⟨by decide +kernel, rfl⟩
theorem dc_T_init_1 : decode prog_8_method_1_code 1 = .ok (.invokespecial 3, 3) ∧ 1 + 3 = 4 := ⟨by decide +kernel, rfl⟩
theorem dc_T_init_4 : decode prog_8_method_1_code 4 = .ok (.aload_n 0, 1) ∧ 4 + 1 = 5 := ⟨by decide +kernel, rfl⟩
theorem dc_T_init_5 : decode prog_8_method_1_code 5 = .ok (.bipush 100, 2) ∧ 5 + 2 = 7 := ⟨by decide +kernel, rfl⟩
theorem dc_T_init_7 : decode prog_8_method_1_code 7 = .ok (.newarray .int, 2) ∧ 7 + 2 = 9 := ⟨by decide +kernel, rfl⟩
theorem dc_T_init_9 : decode prog_8_method_1_code 9 = .ok (.putfield 11, 3) ∧ 9 + 3 = 12 := ⟨by decide +kernel, rfl⟩
theorem dc_T_init_12 : decode prog_8_method_1_code 12 = .ok (.aload_n 0, 1) ∧ 12 + 1 = 13 := ⟨by decide +kernel, rfl⟩
theorem dc_T_init_13 : decode prog_8_method_1_code 13 = .ok (.iconst 0, 1) ∧ 13 + 1 = 14 := ⟨by decide +kernel, rfl⟩
theorem dc_T_init_14 : decode prog_8_method_1_code 14 = .ok (.putfield 15, 3) ∧ 14 + 3 = 17 := ⟨by decide +kernel, rfl⟩
theorem dc_T_init_17 : decode prog_8_method_1_code 17 = .ok (.aload_n 0, 1) ∧ 17 + 1 = 18 := ⟨by decide +kernel, rfl⟩
theorem dc_T_init_18 : decode prog_8_method_1_code 18 = .ok (.iconst 0, 1) ∧ 18 + 1 = 19 := ⟨by decide +kernel, rfl⟩
theorem dc_T_init_19 : decode prog_8_method_1_code 19 = .ok (.putfield 19, 3) ∧ 19 + 3 = 22 := ⟨by decide +kernel, rfl⟩
theorem dc_T_init_22 : decode prog_8_method_1_code 22 = .ok (.aload_n 0, 1) ∧ 22 + 1 = 23 := ⟨by decide +kernel, rfl⟩
theorem dc_T_init_23 : decode prog_8_method_1_code 23 = .ok (.iconst (-1), 1) ∧ 23 + 1 = 24 := ⟨by decide +kernel, rfl⟩
theorem dc_T_init_24 : decode prog_8_method_1_code 24 = .ok (.putfield 22, 3) ∧ 24 + 3 = 27 := ⟨by decide +kernel, rfl⟩
theorem dc_T_init_27 : decode prog_8_method_1_code 27 = .ok (.return_, 1) := by decide +kernel
theorem dc_F_keep_0 : decode prog_1_method_15_code 0 = .ok (.aload_n 0, 1) ∧ 0 + 1 = 1 := ⟨by decide +kernel, rfl⟩
theorem dc_F_keep_1 : decode prog_1_method_15_code 1 = .ok (.iload_n 1, 1) ∧ 1 + 1 = 2 := ⟨by decide +kernel, rfl⟩
theorem dc_F_keep_2 : decode prog_1_method_15_code 2 = .ok (.invokevirtual 145, 3) ∧ 2 + 3 = 5 := ⟨by decide +kernel, rfl⟩
theorem dc_F_keep_5 : decode prog_1_method_15_code 5 = .ok (.astore_n 2, 1) ∧ 5 + 1 = 6 := ⟨by decide +kernel, rfl⟩
theorem dc_F_keep_6 : decode prog_1_method_15_code 6 = .ok (.aload_n 2, 1) ∧ 6 + 1 = 7 := ⟨by decide +kernel, rfl⟩
theorem dc_F_keep_7 : decode prog_1_method_15_code 7 = .ok (.ifnonnull 6, 3) ∧ ((7 : Nat) : Int) + (6) = ((13 : Nat) : Int) ∧ 7 + 3 = 10 := ⟨by decide +kernel, by decide, rfl⟩
theorem dc_F_keep_10 : decode prog_1_method_15_code 10 = .ok (.ldc 45, 2) ∧ 10 + 2 = 12 := ⟨by decide +kernel, rfl⟩
theorem dc_F_keep_12 : decode prog_1_method_15_code 12 = .ok (.ireturn, 1) := by decide +kernel
theorem dc_F_keep_13 : decode prog_1_method_15_code 13 = .ok (.aload_n 2, 1) ∧ 13 + 1 = 14 := ⟨by decide +kernel, rfl⟩
theorem dc_F_keep_14 : decode prog_1_method_15_code 14 = .ok (.aload_n 0, 1) ∧ 14 + 1 = 15 := ⟨by decide +kernel, rfl⟩
theorem dc_F_keep_15 : decode prog_1_method_15_code 15 = .ok (.getfield 10, 3) ∧ 15 + 3 = 18 := ⟨by decide +kernel, rfl⟩
theorem dc_F_keep_18 : decode prog_1_method_15_code 18 = .ok (.invokevirtual 87, 3) ∧ 18 + 3 = 21 := ⟨by decide +kernel, rfl⟩
theorem dc_F_keep_21 : decode prog_1_method_15_code 21 = .ok (.aload_n 0, 1) ∧ 21 + 1 = 22 := ⟨by decide +kernel, rfl⟩
theorem dc_F_keep_22 : decode prog_1_method_15_code 22 = .ok (.dup, 1) ∧ 22 + 1 = 23 := ⟨by decide +kernel, rfl⟩
theorem dc_F_keep_23 : decode prog_1_method_15_code 23 = .ok (.getfield 23, 3) ∧ 23 + 3 = 26 := ⟨by decide +kernel, rfl⟩
theorem dc_F_keep_26 : decode prog_1_method_15_code 26 = .ok (.iconst 1, 1) ∧ 26 + 1 = 27 := ⟨by decide +kernel, rfl⟩
theorem dc_F_keep_27 : decode prog_1_method_15_code 27 = .ok (.iload_n 1, 1) ∧ 27 + 1 = 28 := ⟨by decide +kernel, rfl⟩
theorem dc_F_keep_28 : decode prog_1_method_15_code 28 = .ok (.ishl, 1) ∧ 28 + 1 = 29 := ⟨by decide +kernel, rfl⟩
theorem dc_F_keep_29 : decode prog_1_method_15_code 29 = .ok (.ior, 1) ∧ 29 + 1 = 30 := ⟨by decide +kernel, rfl⟩
theorem dc_F_keep_30 : decode prog_1_method_15_code 30 = .ok (.putfield 23, 3) ∧ 30 + 3 = 33 := ⟨by decide +kernel, rfl⟩
theorem dc_F_keep_33 : decode prog_1_method_15_code 33 = .ok (.aload_n 0, 1) ∧ 33 + 1 = 34 := ⟨by decide +kernel, rfl⟩
theorem dc_F_keep_34 : decode prog_1_method_15_code 34 = .ok (.getfield 10, 3) ∧ 34 + 3 = 37 := ⟨by decide +kernel, rfl⟩
theorem dc_F_keep_37 : decode prog_1_method_15_code 37 = .ok (.getfield 136, 3) ∧ 37 + 3 = 40 := ⟨by decide +kernel, rfl⟩
theorem dc_F_keep_40 : decode prog_1_method_15_code 40 = .ok (.ireturn, 1) := by decide +kernel
theorem dc_F_imageNumbered_0 : decode prog_1_method_32_code 0 = .ok (.iload_n 1, 1) ∧ 0 + 1 = 1 := ⟨by decide +kernel, rfl⟩
theorem dc_F_imageNumbered_1 : decode prog_1_method_32_code 1 = .ok (.ifCond .lt 21, 3) ∧ ((1 : Nat) : Int) + (21) = ((22 : Nat) : Int) ∧ 1 + 3 = 4 := ⟨by decide +kernel, by decide, rfl⟩
theorem dc_F_imageNumbered_4 : decode prog_1_method_32_code 4 = .ok (.iload_n 1, 1) ∧ 4 + 1 = 5 := ⟨by decide +kernel, rfl⟩
theorem dc_F_imageNumbered_5 : decode prog_1_method_32_code 5 = .ok (.aload_n 0, 1) ∧ 5 + 1 = 6 := ⟨by decide +kernel, rfl⟩
theorem dc_F_imageNumbered_6 : decode prog_1_method_32_code 6 = .ok (.getfield 19, 3) ∧ 6 + 3 = 9 := ⟨by decide +kernel, rfl⟩
theorem dc_F_imageNumbered_9 : decode prog_1_method_32_code 9 = .ok (.arraylength, 1) ∧ 9 + 1 = 10 := ⟨by decide +kernel, rfl⟩
theorem dc_F_imageNumbered_10 : decode prog_1_method_32_code 10 = .ok (.if_icmp .ge 12, 3) ∧ ((10 : Nat) : Int) + (12) = ((22 : Nat) : Int) ∧ 10 + 3 = 13 := ⟨by decide +kernel, by decide, rfl⟩
theorem dc_F_imageNumbered_13 : decode prog_1_method_32_code 13 = .ok (.aload_n 0, 1) ∧ 13 + 1 = 14 := ⟨by decide +kernel, rfl⟩
theorem dc_F_imageNumbered_14 : decode prog_1_method_32_code 14 = .ok (.getfield 19, 3) ∧ 14 + 3 = 17 := ⟨by decide +kernel, rfl⟩
theorem dc_F_imageNumbered_17 : decode prog_1_method_32_code 17 = .ok (.iload_n 1, 1) ∧ 17 + 1 = 18 := ⟨by decide +kernel, rfl⟩
theorem dc_F_imageNumbered_18 : decode prog_1_method_32_code 18 = .ok (.aaload, 1) ∧ 18 + 1 = 19 := ⟨by decide +kernel, rfl⟩
theorem dc_F_imageNumbered_19 : decode prog_1_method_32_code 19 = .ok (.goto 4, 3) ∧ ((19 : Nat) : Int) + (4) = ((23 : Nat) : Int) := ⟨by decide +kernel, by decide⟩
theorem dc_F_imageNumbered_22 : decode prog_1_method_32_code 22 = .ok (.aconst_null, 1) ∧ 22 + 1 = 23 := ⟨by decide +kernel, rfl⟩
theorem dc_F_imageNumbered_23 : decode prog_1_method_32_code 23 = .ok (.areturn, 1) := by decide +kernel
theorem dc_A_copyFrom_0 : decode prog_2_method_2_code 0 = .ok (.aload_n 1, 1) ∧ 0 + 1 = 1 := ⟨by decide +kernel, rfl⟩
theorem dc_A_copyFrom_1 : decode prog_2_method_2_code 1 = .ok (.getfield 9, 3) ∧ 1 + 3 = 4 := ⟨by decide +kernel, rfl⟩
theorem dc_A_copyFrom_4 : decode prog_2_method_2_code 4 = .ok (.aload_n 0, 1) ∧ 4 + 1 = 5 := ⟨by decide +kernel, rfl⟩
theorem dc_A_copyFrom_5 : decode prog_2_method_2_code 5 = .ok (.getfield 9, 3) ∧ 5 + 3 = 8 := ⟨by decide +kernel, rfl⟩
theorem dc_A_copyFrom_8 : decode prog_2_method_2_code 8 = .ok (.invokestatic 35, 3) ∧ 8 + 3 = 11 := ⟨by decide +kernel, rfl⟩
theorem dc_A_copyFrom_11 : decode prog_2_method_2_code 11 = .ok (.aload_n 1, 1) ∧ 11 + 1 = 12 := ⟨by decide +kernel, rfl⟩
theorem dc_A_copyFrom_12 : decode prog_2_method_2_code 12 = .ok (.getfield 15, 3) ∧ 12 + 3 = 15 := ⟨by decide +kernel, rfl⟩
theorem dc_A_copyFrom_15 : decode prog_2_method_2_code 15 = .ok (.aload_n 0, 1) ∧ 15 + 1 = 16 := ⟨by decide +kernel, rfl⟩
theorem dc_A_copyFrom_16 : decode prog_2_method_2_code 16 = .ok (.getfield 15, 3) ∧ 16 + 3 = 19 := ⟨by decide +kernel, rfl⟩
theorem dc_A_copyFrom_19 : decode prog_2_method_2_code 19 = .ok (.invokestatic 35, 3) ∧ 19 + 3 = 22 := ⟨by decide +kernel, rfl⟩
theorem dc_A_copyFrom_22 : decode prog_2_method_2_code 22 = .ok (.aload_n 0, 1) ∧ 22 + 1 = 23 := ⟨by decide +kernel, rfl⟩
theorem dc_A_copyFrom_23 : decode prog_2_method_2_code 23 = .ok (.getfield 21, 3) ∧ 23 + 3 = 26 := ⟨by decide +kernel, rfl⟩
theorem dc_A_copyFrom_26 : decode prog_2_method_2_code 26 = .ok (.aload_n 1, 1) ∧ 26 + 1 = 27 := ⟨by decide +kernel, rfl⟩
theorem dc_A_copyFrom_27 : decode prog_2_method_2_code 27 = .ok (.getfield 21, 3) ∧ 27 + 3 = 30 := ⟨by decide +kernel, rfl⟩
theorem dc_A_copyFrom_30 : decode prog_2_method_2_code 30 = .ok (.invokevirtual 41, 3) ∧ 30 + 3 = 33 := ⟨by decide +kernel, rfl⟩
theorem dc_A_copyFrom_33 : decode prog_2_method_2_code 33 = .ok (.aload_n 0, 1) ∧ 33 + 1 = 34 := ⟨by decide +kernel, rfl⟩
theorem dc_A_copyFrom_34 : decode prog_2_method_2_code 34 = .ok (.getfield 25, 3) ∧ 34 + 3 = 37 := ⟨by decide +kernel, rfl⟩
theorem dc_A_copyFrom_37 : decode prog_2_method_2_code 37 = .ok (.aload_n 1, 1) ∧ 37 + 1 = 38 := ⟨by decide +kernel, rfl⟩
theorem dc_A_copyFrom_38 : decode prog_2_method_2_code 38 = .ok (.getfield 25, 3) ∧ 38 + 3 = 41 := ⟨by decide +kernel, rfl⟩
theorem dc_A_copyFrom_41 : decode prog_2_method_2_code 41 = .ok (.invokevirtual 41, 3) ∧ 41 + 3 = 44 := ⟨by decide +kernel, rfl⟩
theorem dc_A_copyFrom_44 : decode prog_2_method_2_code 44 = .ok (.aload_n 0, 1) ∧ 44 + 1 = 45 := ⟨by decide +kernel, rfl⟩
theorem dc_A_copyFrom_45 : decode prog_2_method_2_code 45 = .ok (.getfield 31, 3) ∧ 45 + 3 = 48 := ⟨by decide +kernel, rfl⟩
theorem dc_A_copyFrom_48 : decode prog_2_method_2_code 48 = .ok (.aload_n 1, 1) ∧ 48 + 1 = 49 := ⟨by decide +kernel, rfl⟩
theorem dc_A_copyFrom_49 : decode prog_2_method_2_code 49 = .ok (.getfield 31, 3) ∧ 49 + 3 = 52 := ⟨by decide +kernel, rfl⟩
theorem dc_A_copyFrom_52 : decode prog_2_method_2_code 52 = .ok (.invokevirtual 45, 3) ∧ 52 + 3 = 55 := ⟨by decide +kernel, rfl⟩
theorem dc_A_copyFrom_55 : decode prog_2_method_2_code 55 = .ok (.aload_n 0, 1) ∧ 55 + 1 = 56 := ⟨by decide +kernel, rfl⟩
theorem dc_A_copyFrom_56 : decode prog_2_method_2_code 56 = .ok (.aload_n 1, 1) ∧ 56 + 1 = 57 := ⟨by decide +kernel, rfl⟩
theorem dc_A_copyFrom_57 : decode prog_2_method_2_code 57 = .ok (.getfield 46, 3) ∧ 57 + 3 = 60 := ⟨by decide +kernel, rfl⟩
theorem dc_A_copyFrom_60 : decode prog_2_method_2_code 60 = .ok (.putfield 46, 3) ∧ 60 + 3 = 63 := ⟨by decide +kernel, rfl⟩
theorem dc_A_copyFrom_63 : decode prog_2_method_2_code 63 = .ok (.aload_n 0, 1) ∧ 63 + 1 = 64 := ⟨by decide +kernel, rfl⟩
theorem dc_A_copyFrom_64 : decode prog_2_method_2_code 64 = .ok (.aload_n 1, 1) ∧ 64 + 1 = 65 := ⟨by decide +kernel, rfl⟩
theorem dc_A_copyFrom_65 : decode prog_2_method_2_code 65 = .ok (.getfield 50, 3) ∧ 65 + 3 = 68 := ⟨by decide +kernel, rfl⟩
theorem dc_A_copyFrom_68 : decode prog_2_method_2_code 68 = .ok (.putfield 50, 3) ∧ 68 + 3 = 71 := ⟨by decide +kernel, rfl⟩
theorem dc_A_copyFrom_71 : decode prog_2_method_2_code 71 = .ok (.aload_n 0, 1) ∧ 71 + 1 = 72 := ⟨by decide +kernel, rfl⟩
theorem dc_A_copyFrom_72 : decode prog_2_method_2_code 72 = .ok (.aload_n 1, 1) ∧ 72 + 1 = 73 := ⟨by decide +kernel, rfl⟩
theorem dc_A_copyFrom_73 : decode prog_2_method_2_code 73 = .ok (.getfield 54, 3) ∧ 73 + 3 = 76 := ⟨by decide +kernel, rfl⟩
theorem dc_A_copyFrom_76 : decode prog_2_method_2_code 76 = .ok (.putfield 54, 3) ∧ 76 + 3 = 79 := ⟨by decide +kernel, rfl⟩
theorem dc_A_copyFrom_79 : decode prog_2_method_2_code 79 = .ok (.aload_n 0, 1) ∧ 79 + 1 = 80 := ⟨by decide +kernel, rfl⟩
theorem dc_A_copyFrom_80 : decode prog_2_method_2_code 80 = .ok (.aload_n 1, 1) ∧ 80 + 1 = 81 := ⟨by decide +kernel, rfl⟩
theorem dc_A_copyFrom_81 : decode prog_2_method_2_code 81 = .ok (.getfield 57, 3) ∧ 81 + 3 = 84 := ⟨by decide +kernel, rfl⟩
theorem dc_A_copyFrom_84 : decode prog_2_method_2_code 84 = .ok (.putfield 57, 3) ∧ 84 + 3 = 87 := ⟨by decide +kernel, rfl⟩
theorem dc_A_copyFrom_87 : decode prog_2_method_2_code 87 = .ok (.aload_n 0, 1) ∧ 87 + 1 = 88 := ⟨by decide +kernel, rfl⟩
theorem dc_A_copyFrom_88 : decode prog_2_method_2_code 88 = .ok (.aload_n 1, 1) ∧ 88 + 1 = 89 := ⟨by decide +kernel, rfl⟩
theorem dc_A_copyFrom_89 : decode prog_2_method_2_code 89 = .ok (.getfield 60, 3) ∧ 89 + 3 = 92 := ⟨by decide +kernel, rfl⟩
theorem dc_A_copyFrom_92 : decode prog_2_method_2_code 92 = .ok (.putfield 60, 3) ∧ 92 + 3 = 95 := ⟨by decide +kernel, rfl⟩
theorem dc_A_copyFrom_95 : decode prog_2_method_2_code 95 = .ok (.aload_n 0, 1) ∧ 95 + 1 = 96 := ⟨by decide +kernel, rfl⟩
theorem dc_A_copyFrom_96 : decode prog_2_method_2_code 96 = .ok (.aload_n 1, 1) ∧ 96 + 1 = 97 := ⟨by decide +kernel, rfl⟩
theorem dc_A_copyFrom_97 : decode prog_2_method_2_code 97 = .ok (.getfield 63, 3) ∧ 97 + 3 = 100 := ⟨by decide +kernel, rfl⟩
theorem dc_A_copyFrom_100 : decode prog_2_method_2_code 100 = .ok (.putfield 63, 3) ∧ 100 + 3 = 103 := ⟨by decide +kernel, rfl⟩
theorem dc_A_copyFrom_103 : decode prog_2_method_2_code 103 = .ok (.aload_n 0, 1) ∧ 103 + 1 = 104 := ⟨by decide +kernel, rfl⟩
theorem dc_A_copyFrom_104 : decode prog_2_method_2_code 104 = .ok (.aload_n 1, 1) ∧ 104 + 1 = 105 := ⟨by decide +kernel, rfl⟩
theorem dc_A_copyFrom_105 : decode prog_2_method_2_code 105 = .ok (.getfield 66, 3) ∧ 105 + 3 = 108 := ⟨by decide +kernel, rfl⟩
theorem dc_A_copyFrom_108 : decode prog_2_method_2_code 108 = .ok (.putfield 66, 3) ∧ 108 + 3 = 111 := ⟨by decide +kernel, rfl⟩
theorem dc_A_copyFrom_111 : decode prog_2_method_2_code 111 = .ok (.aload_n 0, 1) ∧ 111 + 1 = 112 := ⟨by decide +kernel, rfl⟩
theorem dc_A_copyFrom_112 : decode prog_2_method_2_code 112 = .ok (.aload_n 1, 1) ∧ 112 + 1 = 113 := ⟨by decide +kernel, rfl⟩
theorem dc_A_copyFrom_113 : decode prog_2_method_2_code 113 = .ok (.getfield 69, 3) ∧ 113 + 3 = 116 := ⟨by decide +kernel, rfl⟩
theorem dc_A_copyFrom_116 : decode prog_2_method_2_code 116 = .ok (.putfield 69, 3) ∧ 116 + 3 = 119 := ⟨by decide +kernel, rfl⟩
theorem dc_A_copyFrom_119 : decode prog_2_method_2_code 119 = .ok (.aload_n 0, 1) ∧ 119 + 1 = 120 := ⟨by decide +kernel, rfl⟩
theorem dc_A_copyFrom_120 : decode prog_2_method_2_code 120 = .ok (.aload_n 1, 1) ∧ 120 + 1 = 121 := ⟨by decide +kernel, rfl⟩
theorem dc_A_copyFrom_121 : decode prog_2_method_2_code 121 = .ok (.getfield 72, 3) ∧ 121 + 3 = 124 := ⟨by decide +kernel, rfl⟩
theorem dc_A_copyFrom_124 : decode prog_2_method_2_code 124 = .ok (.putfield 72, 3) ∧ 124 + 3 = 127 := ⟨by decide +kernel, rfl⟩
theorem dc_A_copyFrom_127 : decode prog_2_method_2_code 127 = .ok (.return_, 1) := by decide +kernel
theorem dc_R_copy_0 : decode prog_6_method_4_code 0 = .ok (.aload_n 0, 1) ∧ 0 + 1 = 1 := ⟨by decide +kernel, rfl⟩
theorem dc_R_copy_1 : decode prog_6_method_4_code 1 = .ok (.iconst 0, 1) ∧ 1 + 1 = 2 := ⟨by decide +kernel, rfl⟩
theorem dc_R_copy_2 : decode prog_6_method_4_code 2 = .ok (.aload_n 1, 1) ∧ 2 + 1 = 3 := ⟨by decide +kernel, rfl⟩
theorem dc_R_copy_3 : decode prog_6_method_4_code 3 = .ok (.iconst 0, 1) ∧ 3 + 1 = 4 := ⟨by decide +kernel, rfl⟩
theorem dc_R_copy_4 : decode prog_6_method_4_code 4 = .ok (.aload_n 0, 1) ∧ 4 + 1 = 5 := ⟨by decide +kernel, rfl⟩
theorem dc_R_copy_5 : decode prog_6_method_4_code 5 = .ok (.arraylength, 1) ∧ 5 + 1 = 6 := ⟨by decide +kernel, rfl⟩
theorem dc_R_copy_6 : decode prog_6_method_4_code 6 = .ok (.aload_n 1, 1) ∧ 6 + 1 = 7 := ⟨by decide +kernel, rfl⟩
theorem dc_R_copy_7 : decode prog_6_method_4_code 7 = .ok (.arraylength, 1) ∧ 7 + 1 = 8 := ⟨by decide +kernel, rfl⟩
theorem dc_R_copy_8 : decode prog_6_method_4_code 8 = .ok (.invokestatic 7, 3) ∧ 8 + 3 = 11 := ⟨by decide +kernel, rfl⟩
theorem dc_R_copy_11 : decode prog_6_method_4_code 11 = .ok (.invokestatic 13, 3) ∧ 11 + 3 = 14 := ⟨by decide +kernel, rfl⟩
theorem dc_R_copy_14 : decode prog_6_method_4_code 14 = .ok (.return_, 1) := by decide +kernel
theorem dc_J_min_0 : decode prog_12_method_69_code 0 = .ok (.iload_n 0, 1) ∧ 0 + 1 = 1 := ⟨by decide +kernel, rfl⟩
theorem dc_J_min_1 : decode prog_12_method_69_code 1 = .ok (.iload_n 1, 1) ∧ 1 + 1 = 2 := ⟨by decide +kernel, rfl⟩
theorem dc_J_min_2 : decode prog_12_method_69_code 2 = .ok (.if_icmp .gt 7, 3) ∧ ((2 : Nat) : Int) + (7) = ((9 : Nat) : Int) ∧ 2 + 3 = 5 := ⟨by decide +kernel, by decide, rfl⟩
theorem dc_J_min_5 : decode prog_12_method_69_code 5 = .ok (.iload_n 0, 1) ∧ 5 + 1 = 6 := ⟨by decide +kernel, rfl⟩
theorem dc_J_min_6 : decode prog_12_method_69_code 6 = .ok (.goto 4, 3) ∧ ((6 : Nat) : Int) + (4) = ((10 : Nat) : Int) := ⟨by decide +kernel, by decide⟩
theorem dc_J_min_9 : decode prog_12_method_69_code 9 = .ok (.iload_n 1, 1) ∧ 9 + 1 = 10 := ⟨by decide +kernel, rfl⟩
theorem dc_J_min_10 : decode prog_12_method_69_code 10 = .ok (.ireturn, 1) := by decide +kernel
theorem dc_Q_copyFrom_0 : decode prog_4_method_2_code 0 = .ok (.aload_n 1, 1) ∧ 0 + 1 = 1 := ⟨by decide +kernel, rfl⟩
theorem dc_Q_copyFrom_1 : decode prog_4_method_2_code 1 = .ok (.getfield 13, 3) ∧ 1 + 3 = 4 := ⟨by decide +kernel, rfl⟩
theorem dc_Q_copyFrom_4 : decode prog_4_method_2_code 4 = .ok (.aload_n 0, 1) ∧ 4 + 1 = 5 := ⟨by decide +kernel, rfl⟩
theorem dc_Q_copyFrom_5 : decode prog_4_method_2_code 5 = .ok (.getfield 13, 3) ∧ 5 + 3 = 8 := ⟨by decide +kernel, rfl⟩
theorem dc_Q_copyFrom_8 : decode prog_4_method_2_code 8 = .ok (.invokestatic 26, 3) ∧ 8 + 3 = 11 := ⟨by decide +kernel, rfl⟩
theorem dc_Q_copyFrom_11 : decode prog_4_method_2_code 11 = .ok (.aload_n 1, 1) ∧ 11 + 1 = 12 := ⟨by decide +kernel, rfl⟩
theorem dc_Q_copyFrom_12 : decode prog_4_method_2_code 12 = .ok (.getfield 19, 3) ∧ 12 + 3 = 15 := ⟨by decide +kernel, rfl⟩
theorem dc_Q_copyFrom_15 : decode prog_4_method_2_code 15 = .ok (.aload_n 0, 1) ∧ 15 + 1 = 16 := ⟨by decide +kernel, rfl⟩
theorem dc_Q_copyFrom_16 : decode prog_4_method_2_code 16 = .ok (.getfield 19, 3) ∧ 16 + 3 = 19 := ⟨by decide +kernel, rfl⟩
theorem dc_Q_copyFrom_19 : decode prog_4_method_2_code 19 = .ok (.invokestatic 26, 3) ∧ 19 + 3 = 22 := ⟨by decide +kernel, rfl⟩
theorem dc_Q_copyFrom_22 : decode prog_4_method_2_code 22 = .ok (.aload_n 0, 1) ∧ 22 + 1 = 23 := ⟨by decide +kernel, rfl⟩
theorem dc_Q_copyFrom_23 : decode prog_4_method_2_code 23 = .ok (.aload_n 1, 1) ∧ 23 + 1 = 24 := ⟨by decide +kernel, rfl⟩
theorem dc_Q_copyFrom_24 : decode prog_4_method_2_code 24 = .ok (.getfield 22, 3) ∧ 24 + 3 = 27 := ⟨by decide +kernel, rfl⟩
theorem dc_Q_copyFrom_27 : decode prog_4_method_2_code 27 = .ok (.putfield 22, 3) ∧ 27 + 3 = 30 := ⟨by decide +kernel, rfl⟩
theorem dc_Q_copyFrom_30 : decode prog_4_method_2_code 30 = .ok (.return_, 1) := by decide +kernel
theorem dc_F_undo_0 : decode prog_1_method_17_code 0 = .ok (.aload_n 0, 1) ∧ 0 + 1 = 1 := ⟨by decide +kernel, rfl⟩
theorem dc_F_undo_1 : decode prog_1_method_17_code 1 = .ok (.getfield 30, 3) ∧ 1 + 3 = 4 := ⟨by decide +kernel, rfl⟩
theorem dc_F_undo_4 : decode prog_1_method_17_code 4 = .ok (.aload_n 0, 1) ∧ 4 + 1 = 5 := ⟨by decide +kernel, rfl⟩
theorem dc_F_undo_5 : decode prog_1_method_17_code 5 = .ok (.getfield 10, 3) ∧ 5 + 3 = 8 := ⟨by decide +kernel, rfl⟩
theorem dc_F_undo_8 : decode prog_1_method_17_code 8 = .ok (.invokevirtual 149, 3) ∧ 8 + 3 = 11 := ⟨by decide +kernel, rfl⟩
theorem dc_F_undo_11 : decode prog_1_method_17_code 11 = .ok (.ifCond .ne 6, 3) ∧ ((11 : Nat) : Int) + (6) = ((17 : Nat) : Int) ∧ 11 + 3 = 14 := ⟨by decide +kernel, by decide, rfl⟩
theorem dc_F_undo_14 : decode prog_1_method_17_code 14 = .ok (.ldc 100, 2) ∧ 14 + 2 = 16 := ⟨by decide +kernel, rfl⟩
theorem dc_F_undo_16 : decode prog_1_method_17_code 16 = .ok (.ireturn, 1) := by decide +kernel
theorem dc_F_undo_17 : decode prog_1_method_17_code 17 = .ok (.aload_n 0, 1) ∧ 17 + 1 = 18 := ⟨by decide +kernel, rfl⟩
theorem dc_F_undo_18 : decode prog_1_method_17_code 18 = .ok (.getfield 30, 3) ∧ 18 + 3 = 21 := ⟨by decide +kernel, rfl⟩
theorem dc_F_undo_21 : decode prog_1_method_17_code 21 = .ok (.getfield 153, 3) ∧ 21 + 3 = 24 := ⟨by decide +kernel, rfl⟩
theorem dc_F_undo_24 : decode prog_1_method_17_code 24 = .ok (.ireturn, 1) := by decide +kernel
theorem dc_S_popInto_0 : decode prog_7_method_3_code 0 = .ok (.aload_n 0, 1) ∧ 0 + 1 = 1 := ⟨by decide +kernel, rfl⟩
theorem dc_S_popInto_1 : decode prog_7_method_3_code 1 = .ok (.getfield 16, 3) ∧ 1 + 3 = 4 := ⟨by decide +kernel, rfl⟩
theorem dc_S_popInto_4 : decode prog_7_method_3_code 4 = .ok (.bipush 6, 2) ∧ 4 + 2 = 6 := ⟨by decide +kernel, rfl⟩
theorem dc_S_popInto_6 : decode prog_7_method_3_code 6 = .ok (.iadd, 1) ∧ 6 + 1 = 7 := ⟨by decide +kernel, rfl⟩
theorem dc_S_popInto_7 : decode prog_7_method_3_code 7 = .ok (.iconst 1, 1) ∧ 7 + 1 = 8 := ⟨by decide +kernel, rfl⟩
theorem dc_S_popInto_8 : decode prog_7_method_3_code 8 = .ok (.isub, 1) ∧ 8 + 1 = 9 := ⟨by decide +kernel, rfl⟩
theorem dc_S_popInto_9 : decode prog_7_method_3_code 9 = .ok (.bipush 6, 2) ∧ 9 + 2 = 11 := ⟨by decide +kernel, rfl⟩
theorem dc_S_popInto_11 : decode prog_7_method_3_code 11 = .ok (.irem, 1) ∧ 11 + 1 = 12 := ⟨by decide +kernel, rfl⟩
theorem dc_S_popInto_12 : decode prog_7_method_3_code 12 = .ok (.istore_n 2, 1) ∧ 12 + 1 = 13 := ⟨by decide +kernel, rfl⟩
theorem dc_S_popInto_13 : decode prog_7_method_3_code 13 = .ok (.aload_n 0, 1) ∧ 13 + 1 = 14 := ⟨by decide +kernel, rfl⟩
theorem dc_S_popInto_14 : decode prog_7_method_3_code 14 = .ok (.iload_n 2, 1) ∧ 14 + 1 = 15 := ⟨by decide +kernel, rfl⟩
theorem dc_S_popInto_15 : decode prog_7_method_3_code 15 = .ok (.invokevirtual 23, 3) ∧ 15 + 3 = 18 := ⟨by decide +kernel, rfl⟩
theorem dc_S_popInto_18 : decode prog_7_method_3_code 18 = .ok (.astore_n 3, 1) ∧ 18 + 1 = 19 := ⟨by decide +kernel, rfl⟩
theorem dc_S_popInto_19 : decode prog_7_method_3_code 19 = .ok (.aload_n 0, 1) ∧ 19 + 1 = 20 := ⟨by decide +kernel, rfl⟩
theorem dc_S_popInto_20 : decode prog_7_method_3_code 20 = .ok (.getfield 20, 3) ∧ 20 + 3 = 23 := ⟨by decide +kernel, rfl⟩
theorem dc_S_popInto_23 : decode prog_7_method_3_code 23 = .ok (.ifCond .eq 7, 3) ∧ ((23 : Nat) : Int) + (7) = ((30 : Nat) : Int) ∧ 23 + 3 = 26 := ⟨by decide +kernel, by decide, rfl⟩
theorem dc_S_popInto_26 : decode prog_7_method_3_code 26 = .ok (.aload_n 3, 1) ∧ 26 + 1 = 27 := ⟨by decide +kernel, rfl⟩
theorem dc_S_popInto_27 : decode prog_7_method_3_code 27 = .ok (.ifnonnull 5, 3) ∧ ((27 : Nat) : Int) + (5) = ((32 : Nat) : Int) ∧ 27 + 3 = 30 := ⟨by decide +kernel, by decide, rfl⟩
theorem dc_S_popInto_30 : decode prog_7_method_3_code 30 = .ok (.iconst 0, 1) ∧ 30 + 1 = 31 := ⟨by decide +kernel, rfl⟩
theorem dc_S_popInto_31 : decode prog_7_method_3_code 31 = .ok (.ireturn, 1) := by decide +kernel
theorem dc_S_popInto_32 : decode prog_7_method_3_code 32 = .ok (.aload_n 1, 1) ∧ 32 + 1 = 33 := ⟨by decide +kernel, rfl⟩
theorem dc_S_popInto_33 : decode prog_7_method_3_code 33 = .ok (.aload_n 3, 1) ∧ 33 + 1 = 34 := ⟨by decide +kernel, rfl⟩
theorem dc_S_popInto_34 : decode prog_7_method_3_code 34 = .ok (.invokevirtual 27, 3) ∧ 34 + 3 = 37 := ⟨by decide +kernel, rfl⟩
theorem dc_S_popInto_37 : decode prog_7_method_3_code 37 = .ok (.aload_n 0, 1) ∧ 37 + 1 = 38 := ⟨by decide +kernel, rfl⟩
theorem dc_S_popInto_38 : decode prog_7_method_3_code 38 = .ok (.iload_n 2, 1) ∧ 38 + 1 = 39 := ⟨by decide +kernel, rfl⟩
theorem dc_S_popInto_39 : decode prog_7_method_3_code 39 = .ok (.putfield 16, 3) ∧ 39 + 3 = 42 := ⟨by decide +kernel, rfl⟩
theorem dc_S_popInto_42 : decode prog_7_method_3_code 42 = .ok (.aload_n 0, 1) ∧ 42 + 1 = 43 := ⟨by decide +kernel, rfl⟩
theorem dc_S_popInto_43 : decode prog_7_method_3_code 43 = .ok (.dup, 1) ∧ 43 + 1 = 44 := ⟨by decide +kernel, rfl⟩
theorem dc_S_popInto_44 : decode prog_7_method_3_code 44 = .ok (.getfield 20, 3) ∧ 44 + 3 = 47 := ⟨by decide +kernel, rfl⟩
theorem dc_S_popInto_47 : decode prog_7_method_3_code 47 = .ok (.iconst 1, 1) ∧ 47 + 1 = 48 := ⟨by decide +kernel, rfl⟩
theorem dc_S_popInto_48 : decode prog_7_method_3_code 48 = .ok (.isub, 1) ∧ 48 + 1 = 49 := ⟨by decide +kernel, rfl⟩
theorem dc_S_popInto_49 : decode prog_7_method_3_code 49 = .ok (.putfield 20, 3) ∧ 49 + 3 = 52 := ⟨by decide +kernel, rfl⟩
theorem dc_S_popInto_52 : decode prog_7_method_3_code 52 = .ok (.iconst 1, 1) ∧ 52 + 1 = 53 := ⟨by decide +kernel, rfl⟩
theorem dc_S_popInto_53 : decode prog_7_method_3_code 53 = .ok (.ireturn, 1) := by decide +kernel
theorem dc_S_rowAt_0 : decode prog_7_method_4_code 0 = .ok (.iload_n 1, 1) ∧ 0 + 1 = 1 := ⟨by decide +kernel, rfl⟩
theorem dc_S_rowAt_1 : decode prog_7_method_4_code 1 = .ok (.ifCond .lt 21, 3) ∧ ((1 : Nat) : Int) + (21) = ((22 : Nat) : Int) ∧ 1 + 3 = 4 := ⟨by decide +kernel, by decide, rfl⟩
theorem dc_S_rowAt_4 : decode prog_7_method_4_code 4 = .ok (.iload_n 1, 1) ∧ 4 + 1 = 5 := ⟨by decide +kernel, rfl⟩
theorem dc_S_rowAt_5 : decode prog_7_method_4_code 5 = .ok (.aload_n 0, 1) ∧ 5 + 1 = 6 := ⟨by decide +kernel, rfl⟩
theorem dc_S_rowAt_6 : decode prog_7_method_4_code 6 = .ok (.getfield 11, 3) ∧ 6 + 3 = 9 := ⟨by decide +kernel, rfl⟩
theorem dc_S_rowAt_9 : decode prog_7_method_4_code 9 = .ok (.arraylength, 1) ∧ 9 + 1 = 10 := ⟨by decide +kernel, rfl⟩
theorem dc_S_rowAt_10 : decode prog_7_method_4_code 10 = .ok (.if_icmp .ge 12, 3) ∧ ((10 : Nat) : Int) + (12) = ((22 : Nat) : Int) ∧ 10 + 3 = 13 := ⟨by decide +kernel, by decide, rfl⟩
theorem dc_S_rowAt_13 : decode prog_7_method_4_code 13 = .ok (.aload_n 0, 1) ∧ 13 + 1 = 14 := ⟨by decide +kernel, rfl⟩
theorem dc_S_rowAt_14 : decode prog_7_method_4_code 14 = .ok (.getfield 11, 3) ∧ 14 + 3 = 17 := ⟨by decide +kernel, rfl⟩
theorem dc_S_rowAt_17 : decode prog_7_method_4_code 17 = .ok (.iload_n 1, 1) ∧ 17 + 1 = 18 := ⟨by decide +kernel, rfl⟩
theorem dc_S_rowAt_18 : decode prog_7_method_4_code 18 = .ok (.aaload, 1) ∧ 18 + 1 = 19 := ⟨by decide +kernel, rfl⟩
theorem dc_S_rowAt_19 : decode prog_7_method_4_code 19 = .ok (.goto 4, 3) ∧ ((19 : Nat) : Int) + (4) = ((23 : Nat) : Int) := ⟨by decide +kernel, by decide⟩
theorem dc_S_rowAt_22 : decode prog_7_method_4_code 22 = .ok (.aconst_null, 1) ∧ 22 + 1 = 23 := ⟨by decide +kernel, rfl⟩
theorem dc_S_rowAt_23 : decode prog_7_method_4_code 23 = .ok (.areturn, 1) := by decide +kernel
theorem dc_F_count_0 : decode prog_1_method_18_code 0 = .ok (.iload_n 1, 1) ∧ 0 + 1 = 1 := ⟨by decide +kernel, rfl⟩
theorem dc_F_count_1 : decode prog_1_method_18_code 1 = .ok (.tableswitch 48 18 20 #[27, 35, 43], 27) ∧ ((1 : Nat) : Int) + (48) = ((49 : Nat) : Int) ∧ (20 : Int) + 1 - (18) = (([28, 36, 44] : List Nat).length : Int) ∧ (#[27, 35, 43] : Array Int).toList.map (fun o => ((1 : Nat) : Int) + o) = ([28, 36, 44] : List Nat).map (fun t : Nat => (t : Int)) := ⟨by decide +kernel, by decide, by decide, by decide⟩
theorem dc_F_count_28 : decode prog_1_method_18_code 28 = .ok (.aload_n 0, 1) ∧ 28 + 1 = 29 := ⟨by decide +kernel, rfl⟩
theorem dc_F_count_29 : decode prog_1_method_18_code 29 = .ok (.getfield 37, 3) ∧ 29 + 3 = 32 := ⟨by decide +kernel, rfl⟩
theorem dc_F_count_32 : decode prog_1_method_18_code 32 = .ok (.getfield 84, 3) ∧ 32 + 3 = 35 := ⟨by decide +kernel, rfl⟩
theorem dc_F_count_35 : decode prog_1_method_18_code 35 = .ok (.ireturn, 1) := by decide +kernel
theorem dc_F_count_36 : decode prog_1_method_18_code 36 = .ok (.aload_n 0, 1) ∧ 36 + 1 = 37 := ⟨by decide +kernel, rfl⟩
theorem dc_F_count_37 : decode prog_1_method_18_code 37 = .ok (.getfield 30, 3) ∧ 37 + 3 = 40 := ⟨by decide +kernel, rfl⟩
theorem dc_F_count_40 : decode prog_1_method_18_code 40 = .ok (.getfield 153, 3) ∧ 40 + 3 = 43 := ⟨by decide +kernel, rfl⟩
theorem dc_F_count_43 : decode prog_1_method_18_code 43 = .ok (.ireturn, 1) := by decide +kernel
theorem dc_F_count_44 : decode prog_1_method_18_code 44 = .ok (.aload_n 0, 1) ∧ 44 + 1 = 45 := ⟨by decide +kernel, rfl⟩
theorem dc_F_count_45 : decode prog_1_method_18_code 45 = .ok (.getfield 23, 3) ∧ 45 + 3 = 48 := ⟨by decide +kernel, rfl⟩
theorem dc_F_count_48 : decode prog_1_method_18_code 48 = .ok (.ireturn, 1) := by decide +kernel
theorem dc_F_count_49 : decode prog_1_method_18_code 49 = .ok (.iload_n 1, 1) ∧ 49 + 1 = 50 := ⟨by decide +kernel, rfl⟩
theorem dc_F_count_50 : decode prog_1_method_18_code 50 = .ok (.invokestatic 154, 3) ∧ 50 + 3 = 53 := ⟨by decide +kernel, rfl⟩
theorem dc_F_count_53 : decode prog_1_method_18_code 53 = .ok (.ifCond .eq 14, 3) ∧ ((53 : Nat) : Int) + (14) = ((67 : Nat) : Int) ∧ 53 + 3 = 56 := ⟨by decide +kernel, by decide, rfl⟩
theorem dc_F_count_56 : decode prog_1_method_18_code 56 = .ok (.aload_n 0, 1) ∧ 56 + 1 = 57 := ⟨by decide +kernel, rfl⟩
theorem dc_F_count_57 : decode prog_1_method_18_code 57 = .ok (.getfield 10, 3) ∧ 57 + 3 = 60 := ⟨by decide +kernel, rfl⟩
theorem dc_F_count_60 : decode prog_1_method_18_code 60 = .ok (.iload_n 1, 1) ∧ 60 + 1 = 61 := ⟨by decide +kernel, rfl⟩
theorem dc_F_count_61 : decode prog_1_method_18_code 61 = .ok (.invokevirtual 157, 3) ∧ 61 + 3 = 64 := ⟨by decide +kernel, rfl⟩
theorem dc_F_count_64 : decode prog_1_method_18_code 64 = .ok (.goto 5, 3) ∧ ((64 : Nat) : Int) + (5) = ((69 : Nat) : Int) := ⟨by decide +kernel, by decide⟩
theorem dc_F_count_67 : decode prog_1_method_18_code 67 = .ok (.ldc 45, 2) ∧ 67 + 2 = 69 := ⟨by decide +kernel, rfl⟩
theorem dc_F_count_69 : decode prog_1_method_18_code 69 = .ok (.ireturn, 1) := by decide +kernel
theorem dc_A_isReading_0 : decode prog_2_method_7_code 0 = .ok (.iload_n 0, 1) ∧ 0 + 1 = 1 := ⟨by decide +kernel, rfl⟩
theorem dc_A_isReading_1 : decode prog_2_method_7_code 1 = .ok (.ifCond .lt 13, 3) ∧ ((1 : Nat) : Int) + (13) = ((14 : Nat) : Int) ∧ 1 + 3 = 4 := ⟨by decide +kernel, by decide, rfl⟩
theorem dc_A_isReading_4 : decode prog_2_method_7_code 4 = .ok (.iload_n 0, 1) ∧ 4 + 1 = 5 := ⟨by decide +kernel, rfl⟩
theorem dc_A_isReading_5 : decode prog_2_method_7_code 5 = .ok (.bipush 17, 2) ∧ 5 + 2 = 7 := ⟨by decide +kernel, rfl⟩
theorem dc_A_isReading_7 : decode prog_2_method_7_code 7 = .ok (.if_icmp .gt 7, 3) ∧ ((7 : Nat) : Int) + (7) = ((14 : Nat) : Int) ∧ 7 + 3 = 10 := ⟨by decide +kernel, by decide, rfl⟩
theorem dc_A_isReading_10 : decode prog_2_method_7_code 10 = .ok (.iconst 1, 1) ∧ 10 + 1 = 11 := ⟨by decide +kernel, rfl⟩
theorem dc_A_isReading_11 : decode prog_2_method_7_code 11 = .ok (.goto 4, 3) ∧ ((11 : Nat) : Int) + (4) = ((15 : Nat) : Int) := ⟨by decide +kernel, by decide⟩
theorem dc_A_isReading_14 : decode prog_2_method_7_code 14 = .ok (.iconst 0, 1) ∧ 14 + 1 = 15 := ⟨by decide +kernel, rfl⟩
theorem dc_A_isReading_15 : decode prog_2_method_7_code 15 = .ok (.ireturn, 1) := by decide +kernel
theorem dc_A_reading_0 : decode prog_2_method_8_code 0 = .ok (.iload_n 1, 1) ∧ 0 + 1 = 1 := ⟨by decide +kernel, rfl⟩
theorem dc_A_reading_1 : decode prog_2_method_8_code 1 = .ok (.tableswitch 171 6 17 #[63, 68, 73, 78, 83, 88, 93, 103, 112, 147, 155, 163], 63) ∧ ((1 : Nat) : Int) + (171) = ((172 : Nat) : Int) ∧ (17 : Int) + 1 - (6) = (([64, 69, 74, 79, 84, 89, 94, 104, 113, 148, 156, 164] : List Nat).length : Int) ∧ (#[63, 68, 73, 78, 83, 88, 93, 103, 112, 147, 155, 163] : Array Int).toList.map (fun o => ((1 : Nat) : Int) + o) = ([64, 69, 74, 79, 84, 89, 94, 104, 113, 148, 156, 164] : List Nat).map (fun t : Nat => (t : Int)) := ⟨by decide +kernel, by decide, by decide, by decide⟩
theorem dc_A_reading_64 : decode prog_2_method_8_code 64 = .ok (.aload_n 0, 1) ∧ 64 + 1 = 65 := ⟨by decide +kernel, rfl⟩
theorem dc_A_reading_65 : decode prog_2_method_8_code 65 = .ok (.getfield 57, 3) ∧ 65 + 3 = 68 := ⟨by decide +kernel, rfl⟩
theorem dc_A_reading_68 : decode prog_2_method_8_code 68 = .ok (.ireturn, 1) := by decide +kernel
theorem dc_A_reading_69 : decode prog_2_method_8_code 69 = .ok (.aload_n 0, 1) ∧ 69 + 1 = 70 := ⟨by decide +kernel, rfl⟩
theorem dc_A_reading_70 : decode prog_2_method_8_code 70 = .ok (.getfield 60, 3) ∧ 70 + 3 = 73 := ⟨by decide +kernel, rfl⟩
theorem dc_A_reading_73 : decode prog_2_method_8_code 73 = .ok (.ireturn, 1) := by decide +kernel
theorem dc_A_reading_74 : decode prog_2_method_8_code 74 = .ok (.aload_n 0, 1) ∧ 74 + 1 = 75 := ⟨by decide +kernel, rfl⟩
theorem dc_A_reading_75 : decode prog_2_method_8_code 75 = .ok (.getfield 63, 3) ∧ 75 + 3 = 78 := ⟨by decide +kernel, rfl⟩
theorem dc_A_reading_78 : decode prog_2_method_8_code 78 = .ok (.ireturn, 1) := by decide +kernel
theorem dc_A_reading_79 : decode prog_2_method_8_code 79 = .ok (.aload_n 0, 1) ∧ 79 + 1 = 80 := ⟨by decide +kernel, rfl⟩
theorem dc_A_reading_80 : decode prog_2_method_8_code 80 = .ok (.getfield 66, 3) ∧ 80 + 3 = 83 := ⟨by decide +kernel, rfl⟩
theorem dc_A_reading_83 : decode prog_2_method_8_code 83 = .ok (.ireturn, 1) := by decide +kernel
theorem dc_A_reading_84 : decode prog_2_method_8_code 84 = .ok (.aload_n 0, 1) ∧ 84 + 1 = 85 := ⟨by decide +kernel, rfl⟩
theorem dc_A_reading_85 : decode prog_2_method_8_code 85 = .ok (.getfield 69, 3) ∧ 85 + 3 = 88 := ⟨by decide +kernel, rfl⟩
theorem dc_A_reading_88 : decode prog_2_method_8_code 88 = .ok (.ireturn, 1) := by decide +kernel
theorem dc_A_reading_89 : decode prog_2_method_8_code 89 = .ok (.aload_n 0, 1) ∧ 89 + 1 = 90 := ⟨by decide +kernel, rfl⟩
theorem dc_A_reading_90 : decode prog_2_method_8_code 90 = .ok (.getfield 72, 3) ∧ 90 + 3 = 93 := ⟨by decide +kernel, rfl⟩
theorem dc_A_reading_93 : decode prog_2_method_8_code 93 = .ok (.ireturn, 1) := by decide +kernel
theorem dc_A_reading_94 : decode prog_2_method_8_code 94 = .ok (.aload_n 0, 1) ∧ 94 + 1 = 95 := ⟨by decide +kernel, rfl⟩
theorem dc_A_reading_95 : decode prog_2_method_8_code 95 = .ok (.aload_n 0, 1) ∧ 95 + 1 = 96 := ⟨by decide +kernel, rfl⟩
theorem dc_A_reading_96 : decode prog_2_method_8_code 96 = .ok (.iconst 2, 1) ∧ 96 + 1 = 97 := ⟨by decide +kernel, rfl⟩
theorem dc_A_reading_97 : decode prog_2_method_8_code 97 = .ok (.invokevirtual 95, 3) ∧ 97 + 3 = 100 := ⟨by decide +kernel, rfl⟩
theorem dc_A_reading_100 : decode prog_2_method_8_code 100 = .ok (.invokevirtual 98, 3) ∧ 100 + 3 = 103 := ⟨by decide +kernel, rfl⟩
theorem dc_A_reading_103 : decode prog_2_method_8_code 103 = .ok (.ireturn, 1) := by decide +kernel
theorem dc_A_reading_104 : decode prog_2_method_8_code 104 = .ok (.aload_n 0, 1) ∧ 104 + 1 = 105 := ⟨by decide +kernel, rfl⟩
theorem dc_A_reading_105 : decode prog_2_method_8_code 105 = .ok (.aload_n 0, 1) ∧ 105 + 1 = 106 := ⟨by decide +kernel, rfl⟩
theorem dc_A_reading_106 : decode prog_2_method_8_code 106 = .ok (.getfield 63, 3) ∧ 106 + 3 = 109 := ⟨by decide +kernel, rfl⟩
theorem dc_A_reading_109 : decode prog_2_method_8_code 109 = .ok (.invokevirtual 101, 3) ∧ 109 + 3 = 112 := ⟨by decide +kernel, rfl⟩
theorem dc_A_reading_112 : decode prog_2_method_8_code 112 = .ok (.ireturn, 1) := by decide +kernel
theorem dc_A_reading_113 : decode prog_2_method_8_code 113 = .ok (.aload_n 0, 1) ∧ 113 + 1 = 114 := ⟨by decide +kernel, rfl⟩
theorem dc_A_reading_114 : decode prog_2_method_8_code 114 = .ok (.getfield 46, 3) ∧ 114 + 3 = 117 := ⟨by decide +kernel, rfl⟩
theorem dc_A_reading_117 : decode prog_2_method_8_code 117 = .ok (.ifCond .eq 29, 3) ∧ ((117 : Nat) : Int) + (29) = ((146 : Nat) : Int) ∧ 117 + 3 = 120 := ⟨by decide +kernel, by decide, rfl⟩
theorem dc_A_reading_120 : decode prog_2_method_8_code 120 = .ok (.aload_n 0, 1) ∧ 120 + 1 = 121 := ⟨by decide +kernel, rfl⟩
theorem dc_A_reading_121 : decode prog_2_method_8_code 121 = .ok (.getfield 63, 3) ∧ 121 + 3 = 124 := ⟨by decide +kernel, rfl⟩
theorem dc_A_reading_124 : decode prog_2_method_8_code 124 = .ok (.aload_n 0, 1) ∧ 124 + 1 = 125 := ⟨by decide +kernel, rfl⟩
theorem dc_A_reading_125 : decode prog_2_method_8_code 125 = .ok (.getfield 50, 3) ∧ 125 + 3 = 128 := ⟨by decide +kernel, rfl⟩
theorem dc_A_reading_128 : decode prog_2_method_8_code 128 = .ok (.if_icmp .lt 18, 3) ∧ ((128 : Nat) : Int) + (18) = ((146 : Nat) : Int) ∧ 128 + 3 = 131 := ⟨by decide +kernel, by decide, rfl⟩
theorem dc_A_reading_131 : decode prog_2_method_8_code 131 = .ok (.aload_n 0, 1) ∧ 131 + 1 = 132 := ⟨by decide +kernel, rfl⟩
theorem dc_A_reading_132 : decode prog_2_method_8_code 132 = .ok (.getfield 63, 3) ∧ 132 + 3 = 135 := ⟨by decide +kernel, rfl⟩
theorem dc_A_reading_135 : decode prog_2_method_8_code 135 = .ok (.aload_n 0, 1) ∧ 135 + 1 = 136 := ⟨by decide +kernel, rfl⟩
theorem dc_A_reading_136 : decode prog_2_method_8_code 136 = .ok (.getfield 54, 3) ∧ 136 + 3 = 139 := ⟨by decide +kernel, rfl⟩
theorem dc_A_reading_139 : decode prog_2_method_8_code 139 = .ok (.if_icmp .gt 7, 3) ∧ ((139 : Nat) : Int) + (7) = ((146 : Nat) : Int) ∧ 139 + 3 = 142 := ⟨by decide +kernel, by decide, rfl⟩
theorem dc_A_reading_142 : decode prog_2_method_8_code 142 = .ok (.iconst 1, 1) ∧ 142 + 1 = 143 := ⟨by decide +kernel, rfl⟩
theorem dc_A_reading_143 : decode prog_2_method_8_code 143 = .ok (.goto 4, 3) ∧ ((143 : Nat) : Int) + (4) = ((147 : Nat) : Int) := ⟨by decide +kernel, by decide⟩
theorem dc_A_reading_146 : decode prog_2_method_8_code 146 = .ok (.iconst 0, 1) ∧ 146 + 1 = 147 := ⟨by decide +kernel, rfl⟩
theorem dc_A_reading_147 : decode prog_2_method_8_code 147 = .ok (.ireturn, 1) := by decide +kernel
theorem dc_A_reading_148 : decode prog_2_method_8_code 148 = .ok (.aload_n 0, 1) ∧ 148 + 1 = 149 := ⟨by decide +kernel, rfl⟩
theorem dc_A_reading_149 : decode prog_2_method_8_code 149 = .ok (.getfield 21, 3) ∧ 149 + 3 = 152 := ⟨by decide +kernel, rfl⟩
theorem dc_A_reading_152 : decode prog_2_method_8_code 152 = .ok (.getfield 104, 3) ∧ 152 + 3 = 155 := ⟨by decide +kernel, rfl⟩
theorem dc_A_reading_155 : decode prog_2_method_8_code 155 = .ok (.ireturn, 1) := by decide +kernel
theorem dc_A_reading_156 : decode prog_2_method_8_code 156 = .ok (.aload_n 0, 1) ∧ 156 + 1 = 157 := ⟨by decide +kernel, rfl⟩
theorem dc_A_reading_157 : decode prog_2_method_8_code 157 = .ok (.getfield 25, 3) ∧ 157 + 3 = 160 := ⟨by decide +kernel, rfl⟩
theorem dc_A_reading_160 : decode prog_2_method_8_code 160 = .ok (.getfield 104, 3) ∧ 160 + 3 = 163 := ⟨by decide +kernel, rfl⟩
theorem dc_A_reading_163 : decode prog_2_method_8_code 163 = .ok (.ireturn, 1) := by decide +kernel
theorem dc_A_reading_164 : decode prog_2_method_8_code 164 = .ok (.aload_n 0, 1) ∧ 164 + 1 = 165 := ⟨by decide +kernel, rfl⟩
theorem dc_A_reading_165 : decode prog_2_method_8_code 165 = .ok (.getfield 31, 3) ∧ 165 + 3 = 168 := ⟨by decide +kernel, rfl⟩
theorem dc_A_reading_168 : decode prog_2_method_8_code 168 = .ok (.getfield 107, 3) ∧ 168 + 3 = 171 := ⟨by decide +kernel, rfl⟩
theorem dc_A_reading_171 : decode prog_2_method_8_code 171 = .ok (.ireturn, 1) := by decide +kernel
theorem dc_A_reading_172 : decode prog_2_method_8_code 172 = .ok (.aload_n 0, 1) ∧ 172 + 1 = 173 := ⟨by decide +kernel, rfl⟩
theorem dc_A_reading_173 : decode prog_2_method_8_code 173 = .ok (.iload_n 1, 1) ∧ 173 + 1 = 174 := ⟨by decide +kernel, rfl⟩
theorem dc_A_reading_174 : decode prog_2_method_8_code 174 = .ok (.invokevirtual 95, 3) ∧ 174 + 3 = 177 := ⟨by decide +kernel, rfl⟩
theorem dc_A_reading_177 : decode prog_2_method_8_code 177 = .ok (.ireturn, 1) := by decide +kernel
theorem dc_A_number_0 : decode prog_2_method_4_code 0 = .ok (.iload_n 1, 1) ∧ 0 + 1 = 1 := ⟨by decide +kernel, rfl⟩
theorem dc_A_number_1 : decode prog_2_method_4_code 1 = .ok (.ifCond .lt 21, 3) ∧ ((1 : Nat) : Int) + (21) = ((22 : Nat) : Int) ∧ 1 + 3 = 4 := ⟨by decide +kernel, by decide, rfl⟩
theorem dc_A_number_4 : decode prog_2_method_4_code 4 = .ok (.iload_n 1, 1) ∧ 4 + 1 = 5 := ⟨by decide +kernel, rfl⟩
theorem dc_A_number_5 : decode prog_2_method_4_code 5 = .ok (.aload_n 0, 1) ∧ 5 + 1 = 6 := ⟨by decide +kernel, rfl⟩
theorem dc_A_number_6 : decode prog_2_method_4_code 6 = .ok (.getfield 9, 3) ∧ 6 + 3 = 9 := ⟨by decide +kernel, rfl⟩
theorem dc_A_number_9 : decode prog_2_method_4_code 9 = .ok (.arraylength, 1) ∧ 9 + 1 = 10 := ⟨by decide +kernel, rfl⟩
theorem dc_A_number_10 : decode prog_2_method_4_code 10 = .ok (.if_icmp .ge 12, 3) ∧ ((10 : Nat) : Int) + (12) = ((22 : Nat) : Int) ∧ 10 + 3 = 13 := ⟨by decide +kernel, by decide, rfl⟩
theorem dc_A_number_13 : decode prog_2_method_4_code 13 = .ok (.aload_n 0, 1) ∧ 13 + 1 = 14 := ⟨by decide +kernel, rfl⟩
theorem dc_A_number_14 : decode prog_2_method_4_code 14 = .ok (.getfield 9, 3) ∧ 14 + 3 = 17 := ⟨by decide +kernel, rfl⟩
theorem dc_A_number_17 : decode prog_2_method_4_code 17 = .ok (.iload_n 1, 1) ∧ 17 + 1 = 18 := ⟨by decide +kernel, rfl⟩
theorem dc_A_number_18 : decode prog_2_method_4_code 18 = .ok (.iaload, 1) ∧ 18 + 1 = 19 := ⟨by decide +kernel, rfl⟩
theorem dc_A_number_19 : decode prog_2_method_4_code 19 = .ok (.goto 4, 3) ∧ ((19 : Nat) : Int) + (4) = ((23 : Nat) : Int) := ⟨by decide +kernel, by decide⟩
theorem dc_A_number_22 : decode prog_2_method_4_code 22 = .ok (.iconst 0, 1) ∧ 22 + 1 = 23 := ⟨by decide +kernel, rfl⟩
theorem dc_A_number_23 : decode prog_2_method_4_code 23 = .ok (.ireturn, 1) := by decide +kernel
theorem dc_A_torqueAt_0 : decode prog_2_method_9_code 0 = .ok (.iconst 0, 1) ∧ 0 + 1 = 1 := ⟨by decide +kernel, rfl⟩
theorem dc_A_torqueAt_1 : decode prog_2_method_9_code 1 = .ok (.aload_n 0, 1) ∧ 1 + 1 = 2 := ⟨by decide +kernel, rfl⟩
theorem dc_A_torqueAt_2 : decode prog_2_method_9_code 2 = .ok (.iconst 1, 1) ∧ 2 + 1 = 3 := ⟨by decide +kernel, rfl⟩
theorem dc_A_torqueAt_3 : decode prog_2_method_9_code 3 = .ok (.invokevirtual 95, 3) ∧ 3 + 3 = 6 := ⟨by decide +kernel, rfl⟩
theorem dc_A_torqueAt_6 : decode prog_2_method_9_code 6 = .ok (.iload_n 1, 1) ∧ 6 + 1 = 7 := ⟨by decide +kernel, rfl⟩
theorem dc_A_torqueAt_7 : decode prog_2_method_9_code 7 = .ok (.aload_n 0, 1) ∧ 7 + 1 = 8 := ⟨by decide +kernel, rfl⟩
theorem dc_A_torqueAt_8 : decode prog_2_method_9_code 8 = .ok (.iconst 3, 1) ∧ 8 + 1 = 9 := ⟨by decide +kernel, rfl⟩
theorem dc_A_torqueAt_9 : decode prog_2_method_9_code 9 = .ok (.invokevirtual 95, 3) ∧ 9 + 3 = 12 := ⟨by decide +kernel, rfl⟩
theorem dc_A_torqueAt_12 : decode prog_2_method_9_code 12 = .ok (.imul, 1) ∧ 12 + 1 = 13 := ⟨by decide +kernel, rfl⟩
theorem dc_A_torqueAt_13 : decode prog_2_method_9_code 13 = .ok (.bipush 100, 2) ∧ 13 + 2 = 15 := ⟨by decide +kernel, rfl⟩
theorem dc_A_torqueAt_15 : decode prog_2_method_9_code 15 = .ok (.idiv, 1) ∧ 15 + 1 = 16 := ⟨by decide +kernel, rfl⟩
theorem dc_A_torqueAt_16 : decode prog_2_method_9_code 16 = .ok (.isub, 1) ∧ 16 + 1 = 17 := ⟨by decide +kernel, rfl⟩
theorem dc_A_torqueAt_17 : decode prog_2_method_9_code 17 = .ok (.invokestatic 108, 3) ∧ 17 + 3 = 20 := ⟨by decide +kernel, rfl⟩
theorem dc_A_torqueAt_20 : decode prog_2_method_9_code 20 = .ok (.ireturn, 1) := by decide +kernel
theorem dc_A_loadOn_0 : decode prog_2_method_10_code 0 = .ok (.aload_n 0, 1) ∧ 0 + 1 = 1 := ⟨by decide +kernel, rfl⟩
theorem dc_A_loadOn_1 : decode prog_2_method_10_code 1 = .ok (.getfield 21, 3) ∧ 1 + 3 = 4 := ⟨by decide +kernel, rfl⟩
theorem dc_A_loadOn_4 : decode prog_2_method_10_code 4 = .ok (.iload_n 1, 1) ∧ 4 + 1 = 5 := ⟨by decide +kernel, rfl⟩
theorem dc_A_loadOn_5 : decode prog_2_method_10_code 5 = .ok (.iconst 0, 1) ∧ 5 + 1 = 6 := ⟨by decide +kernel, rfl⟩
theorem dc_A_loadOn_6 : decode prog_2_method_10_code 6 = .ok (.invokevirtual 114, 3) ∧ 6 + 3 = 9 := ⟨by decide +kernel, rfl⟩
theorem dc_A_loadOn_9 : decode prog_2_method_10_code 9 = .ok (.ireturn, 1) := by decide +kernel
theorem dc_P_valueUpTo_0 : decode prog_5_method_3_code 0 = .ok (.aload_n 0, 1) ∧ 0 + 1 = 1 := ⟨by decide +kernel, rfl⟩
theorem dc_P_valueUpTo_1 : decode prog_5_method_3_code 1 = .ok (.iload_n 1, 1) ∧ 1 + 1 = 2 := ⟨by decide +kernel, rfl⟩
theorem dc_P_valueUpTo_2 : decode prog_5_method_3_code 2 = .ok (.invokevirtual 11, 3) ∧ 2 + 3 = 5 := ⟨by decide +kernel, rfl⟩
theorem dc_P_valueUpTo_5 : decode prog_5_method_3_code 5 = .ok (.istore_n 3, 1) ∧ 5 + 1 = 6 := ⟨by decide +kernel, rfl⟩
theorem dc_P_valueUpTo_6 : decode prog_5_method_3_code 6 = .ok (.iload_n 3, 1) ∧ 6 + 1 = 7 := ⟨by decide +kernel, rfl⟩
theorem dc_P_valueUpTo_7 : decode prog_5_method_3_code 7 = .ok (.ifCond .lt 14, 3) ∧ ((7 : Nat) : Int) + (14) = ((21 : Nat) : Int) ∧ 7 + 3 = 10 := ⟨by decide +kernel, by decide, rfl⟩
theorem dc_P_valueUpTo_10 : decode prog_5_method_3_code 10 = .ok (.aload_n 0, 1) ∧ 10 + 1 = 11 := ⟨by decide +kernel, rfl⟩
theorem dc_P_valueUpTo_11 : decode prog_5_method_3_code 11 = .ok (.getfield 19, 3) ∧ 11 + 3 = 14 := ⟨by decide +kernel, rfl⟩
theorem dc_P_valueUpTo_14 : decode prog_5_method_3_code 14 = .ok (.iload_n 3, 1) ∧ 14 + 1 = 15 := ⟨by decide +kernel, rfl⟩
theorem dc_P_valueUpTo_15 : decode prog_5_method_3_code 15 = .ok (.invokestatic 23, 3) ∧ 15 + 3 = 18 := ⟨by decide +kernel, rfl⟩
theorem dc_P_valueUpTo_18 : decode prog_5_method_3_code 18 = .ok (.goto 4, 3) ∧ ((18 : Nat) : Int) + (4) = ((22 : Nat) : Int) := ⟨by decide +kernel, by decide⟩
theorem dc_P_valueUpTo_21 : decode prog_5_method_3_code 21 = .ok (.iload_n 2, 1) ∧ 21 + 1 = 22 := ⟨by decide +kernel, rfl⟩
theorem dc_P_valueUpTo_22 : decode prog_5_method_3_code 22 = .ok (.ireturn, 1) := by decide +kernel
theorem dc_P_lastUpTo_0 : decode prog_5_method_11_code 0 = .ok (.iconst (-1), 1) ∧ 0 + 1 = 1 := ⟨by decide +kernel, rfl⟩
theorem dc_P_lastUpTo_1 : decode prog_5_method_11_code 1 = .ok (.istore_n 2, 1) ∧ 1 + 1 = 2 := ⟨by decide +kernel, rfl⟩
theorem dc_P_lastUpTo_2 : decode prog_5_method_11_code 2 = .ok (.iconst 0, 1) ∧ 2 + 1 = 3 := ⟨by decide +kernel, rfl⟩
theorem dc_P_lastUpTo_3 : decode prog_5_method_11_code 3 = .ok (.istore_n 3, 1) ∧ 3 + 1 = 4 := ⟨by decide +kernel, rfl⟩
theorem dc_P_lastUpTo_4 : decode prog_5_method_11_code 4 = .ok (.iload_n 3, 1) ∧ 4 + 1 = 5 := ⟨by decide +kernel, rfl⟩
theorem dc_P_lastUpTo_5 : decode prog_5_method_11_code 5 = .ok (.aload_n 0, 1) ∧ 5 + 1 = 6 := ⟨by decide +kernel, rfl⟩
theorem dc_P_lastUpTo_6 : decode prog_5_method_11_code 6 = .ok (.getfield 33, 3) ∧ 6 + 3 = 9 := ⟨by decide +kernel, rfl⟩
theorem dc_P_lastUpTo_9 : decode prog_5_method_11_code 9 = .ok (.if_icmp .ge 30, 3) ∧ ((9 : Nat) : Int) + (30) = ((39 : Nat) : Int) ∧ 9 + 3 = 12 := ⟨by decide +kernel, by decide, rfl⟩
theorem dc_P_lastUpTo_12 : decode prog_5_method_11_code 12 = .ok (.iload_n 3, 1) ∧ 12 + 1 = 13 := ⟨by decide +kernel, rfl⟩
theorem dc_P_lastUpTo_13 : decode prog_5_method_11_code 13 = .ok (.aload_n 0, 1) ∧ 13 + 1 = 14 := ⟨by decide +kernel, rfl⟩
theorem dc_P_lastUpTo_14 : decode prog_5_method_11_code 14 = .ok (.getfield 29, 3) ∧ 14 + 3 = 17 := ⟨by decide +kernel, rfl⟩
theorem dc_P_lastUpTo_17 : decode prog_5_method_11_code 17 = .ok (.arraylength, 1) ∧ 17 + 1 = 18 := ⟨by decide +kernel, rfl⟩
theorem dc_P_lastUpTo_18 : decode prog_5_method_11_code 18 = .ok (.if_icmp .ge 21, 3) ∧ ((18 : Nat) : Int) + (21) = ((39 : Nat) : Int) ∧ 18 + 3 = 21 := ⟨by decide +kernel, by decide, rfl⟩
theorem dc_P_lastUpTo_21 : decode prog_5_method_11_code 21 = .ok (.aload_n 0, 1) ∧ 21 + 1 = 22 := ⟨by decide +kernel, rfl⟩
theorem dc_P_lastUpTo_22 : decode prog_5_method_11_code 22 = .ok (.getfield 29, 3) ∧ 22 + 3 = 25 := ⟨by decide +kernel, rfl⟩
theorem dc_P_lastUpTo_25 : decode prog_5_method_11_code 25 = .ok (.iload_n 3, 1) ∧ 25 + 1 = 26 := ⟨by decide +kernel, rfl⟩
theorem dc_P_lastUpTo_26 : decode prog_5_method_11_code 26 = .ok (.iaload, 1) ∧ 26 + 1 = 27 := ⟨by decide +kernel, rfl⟩
theorem dc_P_lastUpTo_27 : decode prog_5_method_11_code 27 = .ok (.iload_n 1, 1) ∧ 27 + 1 = 28 := ⟨by decide +kernel, rfl⟩
theorem dc_P_lastUpTo_28 : decode prog_5_method_11_code 28 = .ok (.if_icmp .gt 11, 3) ∧ ((28 : Nat) : Int) + (11) = ((39 : Nat) : Int) ∧ 28 + 3 = 31 := ⟨by decide +kernel, by decide, rfl⟩
theorem dc_P_lastUpTo_31 : decode prog_5_method_11_code 31 = .ok (.iload_n 3, 1) ∧ 31 + 1 = 32 := ⟨by decide +kernel, rfl⟩
theorem dc_P_lastUpTo_32 : decode prog_5_method_11_code 32 = .ok (.istore_n 2, 1) ∧ 32 + 1 = 33 := ⟨by decide +kernel, rfl⟩
theorem dc_P_lastUpTo_33 : decode prog_5_method_11_code 33 = .ok (.iinc 3 1, 3) ∧ 33 + 3 = 36 := ⟨by decide +kernel, rfl⟩
theorem dc_P_lastUpTo_36 : decode prog_5_method_11_code 36 = .ok (.goto (-32), 3) ∧ ((36 : Nat) : Int) + (-32) = ((4 : Nat) : Int) := ⟨by decide +kernel, by decide⟩
theorem dc_P_lastUpTo_39 : decode prog_5_method_11_code 39 = .ok (.iload_n 2, 1) ∧ 39 + 1 = 40 := ⟨by decide +kernel, rfl⟩
theorem dc_P_lastUpTo_40 : decode prog_5_method_11_code 40 = .ok (.ireturn, 1) := by decide +kernel
theorem dc_R_at_0 : decode prog_6_method_2_code 0 = .ok (.iload_n 1, 1) ∧ 0 + 1 = 1 := ⟨by decide +kernel, rfl⟩
theorem dc_R_at_1 : decode prog_6_method_2_code 1 = .ok (.ifCond .lt 15, 3) ∧ ((1 : Nat) : Int) + (15) = ((16 : Nat) : Int) ∧ 1 + 3 = 4 := ⟨by decide +kernel, by decide, rfl⟩
theorem dc_R_at_4 : decode prog_6_method_2_code 4 = .ok (.iload_n 1, 1) ∧ 4 + 1 = 5 := ⟨by decide +kernel, rfl⟩
theorem dc_R_at_5 : decode prog_6_method_2_code 5 = .ok (.aload_n 0, 1) ∧ 5 + 1 = 6 := ⟨by decide +kernel, rfl⟩
theorem dc_R_at_6 : decode prog_6_method_2_code 6 = .ok (.arraylength, 1) ∧ 6 + 1 = 7 := ⟨by decide +kernel, rfl⟩
theorem dc_R_at_7 : decode prog_6_method_2_code 7 = .ok (.if_icmp .ge 9, 3) ∧ ((7 : Nat) : Int) + (9) = ((16 : Nat) : Int) ∧ 7 + 3 = 10 := ⟨by decide +kernel, by decide, rfl⟩
theorem dc_R_at_10 : decode prog_6_method_2_code 10 = .ok (.aload_n 0, 1) ∧ 10 + 1 = 11 := ⟨by decide +kernel, rfl⟩
theorem dc_R_at_11 : decode prog_6_method_2_code 11 = .ok (.iload_n 1, 1) ∧ 11 + 1 = 12 := ⟨by decide +kernel, rfl⟩
theorem dc_R_at_12 : decode prog_6_method_2_code 12 = .ok (.iaload, 1) ∧ 12 + 1 = 13 := ⟨by decide +kernel, rfl⟩
theorem dc_R_at_13 : decode prog_6_method_2_code 13 = .ok (.goto 4, 3) ∧ ((13 : Nat) : Int) + (4) = ((17 : Nat) : Int) := ⟨by decide +kernel, by decide⟩
theorem dc_R_at_16 : decode prog_6_method_2_code 16 = .ok (.iconst 0, 1) ∧ 16 + 1 = 17 := ⟨by decide +kernel, rfl⟩
theorem dc_R_at_17 : decode prog_6_method_2_code 17 = .ok (.ireturn, 1) := by decide +kernel
theorem dc_F_account_0 : decode prog_1_method_19_code 0 = .ok (.iload_n 1, 1) ∧ 0 + 1 = 1 := ⟨by decide +kernel, rfl⟩
theorem dc_F_account_1 : decode prog_1_method_19_code 1 = .ok (.ifCond .lt 9, 3) ∧ ((1 : Nat) : Int) + (9) = ((10 : Nat) : Int) ∧ 1 + 3 = 4 := ⟨by decide +kernel, by decide, rfl⟩
theorem dc_F_account_4 : decode prog_1_method_19_code 4 = .ok (.iload_n 1, 1) ∧ 4 + 1 = 5 := ⟨by decide +kernel, rfl⟩
theorem dc_F_account_5 : decode prog_1_method_19_code 5 = .ok (.bipush 6, 2) ∧ 5 + 2 = 7 := ⟨by decide +kernel, rfl⟩
theorem dc_F_account_7 : decode prog_1_method_19_code 7 = .ok (.if_icmp .lt 6, 3) ∧ ((7 : Nat) : Int) + (6) = ((13 : Nat) : Int) ∧ 7 + 3 = 10 := ⟨by decide +kernel, by decide, rfl⟩
theorem dc_F_account_10 : decode prog_1_method_19_code 10 = .ok (.ldc 45, 2) ∧ 10 + 2 = 12 := ⟨by decide +kernel, rfl⟩
theorem dc_F_account_12 : decode prog_1_method_19_code 12 = .ok (.ireturn, 1) := by decide +kernel
theorem dc_F_account_13 : decode prog_1_method_19_code 13 = .ok (.aload_n 0, 1) ∧ 13 + 1 = 14 := ⟨by decide +kernel, rfl⟩
theorem dc_F_account_14 : decode prog_1_method_19_code 14 = .ok (.getfield 10, 3) ∧ 14 + 3 = 17 := ⟨by decide +kernel, rfl⟩
theorem dc_F_account_17 : decode prog_1_method_19_code 17 = .ok (.getfield 160, 3) ∧ 17 + 3 = 20 := ⟨by decide +kernel, rfl⟩
theorem dc_F_account_20 : decode prog_1_method_19_code 20 = .ok (.iload_n 1, 1) ∧ 20 + 1 = 21 := ⟨by decide +kernel, rfl⟩
theorem dc_F_account_21 : decode prog_1_method_19_code 21 = .ok (.invokestatic 164, 3) ∧ 21 + 3 = 24 := ⟨by decide +kernel, rfl⟩
theorem dc_F_account_24 : decode prog_1_method_19_code 24 = .ok (.ireturn, 1) := by decide +kernel
theorem dc_F_command_0 : decode prog_1_method_22_code 0 = .ok (.iload_n 1, 1) ∧ 0 + 1 = 1 := ⟨by decide +kernel, rfl⟩
theorem dc_F_command_1 : decode prog_1_method_22_code 1 = .ok (.ifCond .lt 12, 3) ∧ ((1 : Nat) : Int) + (12) = ((13 : Nat) : Int) ∧ 1 + 3 = 4 := ⟨by decide +kernel, by decide, rfl⟩
theorem dc_F_command_4 : decode prog_1_method_22_code 4 = .ok (.iload_n 2, 1) ∧ 4 + 1 = 5 := ⟨by decide +kernel, rfl⟩
theorem dc_F_command_5 : decode prog_1_method_22_code 5 = .ok (.ifCond .lt 8, 3) ∧ ((5 : Nat) : Int) + (8) = ((13 : Nat) : Int) ∧ 5 + 3 = 8 := ⟨by decide +kernel, by decide, rfl⟩
theorem dc_F_command_8 : decode prog_1_method_22_code 8 = .ok (.iload_n 2, 1) ∧ 8 + 1 = 9 := ⟨by decide +kernel, rfl⟩
theorem dc_F_command_9 : decode prog_1_method_22_code 9 = .ok (.iconst 1, 1) ∧ 9 + 1 = 10 := ⟨by decide +kernel, rfl⟩
theorem dc_F_command_10 : decode prog_1_method_22_code 10 = .ok (.if_icmp .le 6, 3) ∧ ((10 : Nat) : Int) + (6) = ((16 : Nat) : Int) ∧ 10 + 3 = 13 := ⟨by decide +kernel, by decide, rfl⟩
theorem dc_F_command_13 : decode prog_1_method_22_code 13 = .ok (.ldc 45, 2) ∧ 13 + 2 = 15 := ⟨by decide +kernel, rfl⟩
theorem dc_F_command_15 : decode prog_1_method_22_code 15 = .ok (.ireturn, 1) := by decide +kernel
theorem dc_F_command_16 : decode prog_1_method_22_code 16 = .ok (.iload_n 1, 1) ∧ 16 + 1 = 17 := ⟨by decide +kernel, rfl⟩
theorem dc_F_command_17 : decode prog_1_method_22_code 17 = .ok (.aload_n 0, 1) ∧ 17 + 1 = 18 := ⟨by decide +kernel, rfl⟩
theorem dc_F_command_18 : decode prog_1_method_22_code 18 = .ok (.getfield 10, 3) ∧ 18 + 3 = 21 := ⟨by decide +kernel, rfl⟩
theorem dc_F_command_21 : decode prog_1_method_22_code 21 = .ok (.getfield 107, 3) ∧ 21 + 3 = 24 := ⟨by decide +kernel, rfl⟩
theorem dc_F_command_24 : decode prog_1_method_22_code 24 = .ok (.getfield 120, 3) ∧ 24 + 3 = 27 := ⟨by decide +kernel, rfl⟩
theorem dc_F_command_27 : decode prog_1_method_22_code 27 = .ok (.if_icmp .lt 6, 3) ∧ ((27 : Nat) : Int) + (6) = ((33 : Nat) : Int) ∧ 27 + 3 = 30 := ⟨by decide +kernel, by decide, rfl⟩
theorem dc_F_command_30 : decode prog_1_method_22_code 30 = .ok (.ldc 132, 2) ∧ 30 + 2 = 32 := ⟨by decide +kernel, rfl⟩
theorem dc_F_command_32 : decode prog_1_method_22_code 32 = .ok (.ireturn, 1) := by decide +kernel
theorem dc_F_command_33 : decode prog_1_method_22_code 33 = .ok (.iload_n 2, 1) ∧ 33 + 1 = 34 := ⟨by decide +kernel, rfl⟩
theorem dc_F_command_34 : decode prog_1_method_22_code 34 = .ok (.ifCond .ne 17, 3) ∧ ((34 : Nat) : Int) + (17) = ((51 : Nat) : Int) ∧ 34 + 3 = 37 := ⟨by decide +kernel, by decide, rfl⟩
theorem dc_F_command_37 : decode prog_1_method_22_code 37 = .ok (.aload_n 0, 1) ∧ 37 + 1 = 38 := ⟨by decide +kernel, rfl⟩
theorem dc_F_command_38 : decode prog_1_method_22_code 38 = .ok (.getfield 10, 3) ∧ 38 + 3 = 41 := ⟨by decide +kernel, rfl⟩
theorem dc_F_command_41 : decode prog_1_method_22_code 41 = .ok (.getfield 107, 3) ∧ 41 + 3 = 44 := ⟨by decide +kernel, rfl⟩
theorem dc_F_command_44 : decode prog_1_method_22_code 44 = .ok (.iload_n 1, 1) ∧ 44 + 1 = 45 := ⟨by decide +kernel, rfl⟩
theorem dc_F_command_45 : decode prog_1_method_22_code 45 = .ok (.invokevirtual 178, 3) ∧ 45 + 3 = 48 := ⟨by decide +kernel, rfl⟩
theorem dc_F_command_48 : decode prog_1_method_22_code 48 = .ok (.goto 14, 3) ∧ ((48 : Nat) : Int) + (14) = ((62 : Nat) : Int) := ⟨by decide +kernel, by decide⟩
theorem dc_F_command_51 : decode prog_1_method_22_code 51 = .ok (.aload_n 0, 1) ∧ 51 + 1 = 52 := ⟨by decide +kernel, rfl⟩
theorem dc_F_command_52 : decode prog_1_method_22_code 52 = .ok (.getfield 10, 3) ∧ 52 + 3 = 55 := ⟨by decide +kernel, rfl⟩
theorem dc_F_command_55 : decode prog_1_method_22_code 55 = .ok (.getfield 107, 3) ∧ 55 + 3 = 58 := ⟨by decide +kernel, rfl⟩
theorem dc_F_command_58 : decode prog_1_method_22_code 58 = .ok (.iload_n 1, 1) ∧ 58 + 1 = 59 := ⟨by decide +kernel, rfl⟩
theorem dc_F_command_59 : decode prog_1_method_22_code 59 = .ok (.invokevirtual 181, 3) ∧ 59 + 3 = 62 := ⟨by decide +kernel, rfl⟩
theorem dc_F_command_62 : decode prog_1_method_22_code 62 = .ok (.ireturn, 1) := by decide +kernel
theorem dc_C_placeOf_0 : decode prog_3_method_2_code 0 = .ok (.aload_n 0, 1) ∧ 0 + 1 = 1 := ⟨by decide +kernel, rfl⟩
theorem dc_C_placeOf_1 : decode prog_3_method_2_code 1 = .ok (.getfield 9, 3) ∧ 1 + 3 = 4 := ⟨by decide +kernel, rfl⟩
theorem dc_C_placeOf_4 : decode prog_3_method_2_code 4 = .ok (.iload_n 1, 1) ∧ 4 + 1 = 5 := ⟨by decide +kernel, rfl⟩
theorem dc_C_placeOf_5 : decode prog_3_method_2_code 5 = .ok (.invokestatic 13, 3) ∧ 5 + 3 = 8 := ⟨by decide +kernel, rfl⟩
theorem dc_C_placeOf_8 : decode prog_3_method_2_code 8 = .ok (.ireturn, 1) := by decide +kernel
theorem dc_C_priorityOf_0 : decode prog_3_method_3_code 0 = .ok (.aload_n 0, 1) ∧ 0 + 1 = 1 := ⟨by decide +kernel, rfl⟩
theorem dc_C_priorityOf_1 : decode prog_3_method_3_code 1 = .ok (.getfield 19, 3) ∧ 1 + 3 = 4 := ⟨by decide +kernel, rfl⟩
theorem dc_C_priorityOf_4 : decode prog_3_method_3_code 4 = .ok (.iload_n 1, 1) ∧ 4 + 1 = 5 := ⟨by decide +kernel, rfl⟩
theorem dc_C_priorityOf_5 : decode prog_3_method_3_code 5 = .ok (.invokestatic 13, 3) ∧ 5 + 3 = 8 := ⟨by decide +kernel, rfl⟩
theorem dc_C_priorityOf_8 : decode prog_3_method_3_code 8 = .ok (.ireturn, 1) := by decide +kernel
theorem dc_F_losses_0 : decode prog_1_method_25_code 0 = .ok (.iload_n 1, 1) ∧ 0 + 1 = 1 := ⟨by decide +kernel, rfl⟩
theorem dc_F_losses_1 : decode prog_1_method_25_code 1 = .ok (.invokestatic 58, 3) ∧ 1 + 3 = 4 := ⟨by decide +kernel, rfl⟩
theorem dc_F_losses_4 : decode prog_1_method_25_code 4 = .ok (.ifCond .eq 11, 3) ∧ ((4 : Nat) : Int) + (11) = ((15 : Nat) : Int) ∧ 4 + 3 = 7 := ⟨by decide +kernel, by decide, rfl⟩
theorem dc_F_losses_7 : decode prog_1_method_25_code 7 = .ok (.iconst 2, 1) ∧ 7 + 1 = 8 := ⟨by decide +kernel, rfl⟩
theorem dc_F_losses_8 : decode prog_1_method_25_code 8 = .ok (.iload_n 2, 1) ∧ 8 + 1 = 9 := ⟨by decide +kernel, rfl⟩
theorem dc_F_losses_9 : decode prog_1_method_25_code 9 = .ok (.invokestatic 41, 3) ∧ 9 + 3 = 12 := ⟨by decide +kernel, rfl⟩
theorem dc_F_losses_12 : decode prog_1_method_25_code 12 = .ok (.ifCond .ne 6, 3) ∧ ((12 : Nat) : Int) + (6) = ((18 : Nat) : Int) ∧ 12 + 3 = 15 := ⟨by decide +kernel, by decide, rfl⟩
theorem dc_F_losses_15 : decode prog_1_method_25_code 15 = .ok (.ldc 45, 2) ∧ 15 + 2 = 17 := ⟨by decide +kernel, rfl⟩
theorem dc_F_losses_17 : decode prog_1_method_25_code 17 = .ok (.ireturn, 1) := by decide +kernel
theorem dc_F_losses_18 : decode prog_1_method_25_code 18 = .ok (.aload_n 0, 1) ∧ 18 + 1 = 19 := ⟨by decide +kernel, rfl⟩
theorem dc_F_losses_19 : decode prog_1_method_25_code 19 = .ok (.getfield 10, 3) ∧ 19 + 3 = 22 := ⟨by decide +kernel, rfl⟩
theorem dc_F_losses_22 : decode prog_1_method_25_code 22 = .ok (.iload_n 1, 1) ∧ 22 + 1 = 23 := ⟨by decide +kernel, rfl⟩
theorem dc_F_losses_23 : decode prog_1_method_25_code 23 = .ok (.invokevirtual 97, 3) ∧ 23 + 3 = 26 := ⟨by decide +kernel, rfl⟩
theorem dc_F_losses_26 : decode prog_1_method_25_code 26 = .ok (.ifCond .eq 6, 3) ∧ ((26 : Nat) : Int) + (6) = ((32 : Nat) : Int) ∧ 26 + 3 = 29 := ⟨by decide +kernel, by decide, rfl⟩
theorem dc_F_losses_29 : decode prog_1_method_25_code 29 = .ok (.ldc 132, 2) ∧ 29 + 2 = 31 := ⟨by decide +kernel, rfl⟩
theorem dc_F_losses_31 : decode prog_1_method_25_code 31 = .ok (.ireturn, 1) := by decide +kernel
theorem dc_F_losses_32 : decode prog_1_method_25_code 32 = .ok (.aload_n 0, 1) ∧ 32 + 1 = 33 := ⟨by decide +kernel, rfl⟩
theorem dc_F_losses_33 : decode prog_1_method_25_code 33 = .ok (.getfield 16, 3) ∧ 33 + 3 = 36 := ⟨by decide +kernel, rfl⟩
theorem dc_F_losses_36 : decode prog_1_method_25_code 36 = .ok (.aload_n 0, 1) ∧ 36 + 1 = 37 := ⟨by decide +kernel, rfl⟩
theorem dc_F_losses_37 : decode prog_1_method_25_code 37 = .ok (.getfield 10, 3) ∧ 37 + 3 = 40 := ⟨by decide +kernel, rfl⟩
theorem dc_F_losses_40 : decode prog_1_method_25_code 40 = .ok (.invokevirtual 87, 3) ∧ 40 + 3 = 43 := ⟨by decide +kernel, rfl⟩
theorem dc_F_losses_43 : decode prog_1_method_25_code 43 = .ok (.aload_n 0, 1) ∧ 43 + 1 = 44 := ⟨by decide +kernel, rfl⟩
theorem dc_F_losses_44 : decode prog_1_method_25_code 44 = .ok (.getfield 16, 3) ∧ 44 + 3 = 47 := ⟨by decide +kernel, rfl⟩
theorem dc_F_losses_47 : decode prog_1_method_25_code 47 = .ok (.iconst 2, 1) ∧ 47 + 1 = 48 := ⟨by decide +kernel, rfl⟩
theorem dc_F_losses_48 : decode prog_1_method_25_code 48 = .ok (.iload_n 2, 1) ∧ 48 + 1 = 49 := ⟨by decide +kernel, rfl⟩
theorem dc_F_losses_49 : decode prog_1_method_25_code 49 = .ok (.invokevirtual 54, 3) ∧ 49 + 3 = 52 := ⟨by decide +kernel, rfl⟩
theorem dc_F_losses_52 : decode prog_1_method_25_code 52 = .ok (.aload_n 0, 1) ∧ 52 + 1 = 53 := ⟨by decide +kernel, rfl⟩
theorem dc_F_losses_53 : decode prog_1_method_25_code 53 = .ok (.getfield 16, 3) ∧ 53 + 3 = 56 := ⟨by decide +kernel, rfl⟩
theorem dc_F_losses_56 : decode prog_1_method_25_code 56 = .ok (.iload_n 1, 1) ∧ 56 + 1 = 57 := ⟨by decide +kernel, rfl⟩
theorem dc_F_losses_57 : decode prog_1_method_25_code 57 = .ok (.invokevirtual 104, 3) ∧ 57 + 3 = 60 := ⟨by decide +kernel, rfl⟩
theorem dc_F_losses_60 : decode prog_1_method_25_code 60 = .ok (.pop, 1) ∧ 60 + 1 = 61 := ⟨by decide +kernel, rfl⟩
theorem dc_F_losses_61 : decode prog_1_method_25_code 61 = .ok (.aload_n 0, 1) ∧ 61 + 1 = 62 := ⟨by decide +kernel, rfl⟩
theorem dc_F_losses_62 : decode prog_1_method_25_code 62 = .ok (.getfield 16, 3) ∧ 62 + 3 = 65 := ⟨by decide +kernel, rfl⟩
theorem dc_F_losses_65 : decode prog_1_method_25_code 65 = .ok (.getfield 101, 3) ∧ 65 + 3 = 68 := ⟨by decide +kernel, rfl⟩
theorem dc_F_losses_68 : decode prog_1_method_25_code 68 = .ok (.aload_n 0, 1) ∧ 68 + 1 = 69 := ⟨by decide +kernel, rfl⟩
theorem dc_F_losses_69 : decode prog_1_method_25_code 69 = .ok (.getfield 10, 3) ∧ 69 + 3 = 72 := ⟨by decide +kernel, rfl⟩
theorem dc_F_losses_72 : decode prog_1_method_25_code 72 = .ok (.getfield 101, 3) ∧ 72 + 3 = 75 := ⟨by decide +kernel, rfl⟩
theorem dc_F_losses_75 : decode prog_1_method_25_code 75 = .ok (.isub, 1) ∧ 75 + 1 = 76 := ⟨by decide +kernel, rfl⟩
theorem dc_F_losses_76 : decode prog_1_method_25_code 76 = .ok (.ireturn, 1) := by decide +kernel
theorem dc_F_isPlace_0 : decode prog_1_method_28_code 0 = .ok (.iload_n 0, 1) ∧ 0 + 1 = 1 := ⟨by decide +kernel, rfl⟩
theorem dc_F_isPlace_1 : decode prog_1_method_28_code 1 = .ok (.sipush (-20000), 3) ∧ 1 + 3 = 4 := ⟨by decide +kernel, rfl⟩
theorem dc_F_isPlace_4 : decode prog_1_method_28_code 4 = .ok (.if_icmp .lt 14, 3) ∧ ((4 : Nat) : Int) + (14) = ((18 : Nat) : Int) ∧ 4 + 3 = 7 := ⟨by decide +kernel, by decide, rfl⟩
theorem dc_F_isPlace_7 : decode prog_1_method_28_code 7 = .ok (.iload_n 0, 1) ∧ 7 + 1 = 8 := ⟨by decide +kernel, rfl⟩
theorem dc_F_isPlace_8 : decode prog_1_method_28_code 8 = .ok (.sipush 20000, 3) ∧ 8 + 3 = 11 := ⟨by decide +kernel, rfl⟩
theorem dc_F_isPlace_11 : decode prog_1_method_28_code 11 = .ok (.if_icmp .gt 7, 3) ∧ ((11 : Nat) : Int) + (7) = ((18 : Nat) : Int) ∧ 11 + 3 = 14 := ⟨by decide +kernel, by decide, rfl⟩
theorem dc_F_isPlace_14 : decode prog_1_method_28_code 14 = .ok (.iconst 1, 1) ∧ 14 + 1 = 15 := ⟨by decide +kernel, rfl⟩
theorem dc_F_isPlace_15 : decode prog_1_method_28_code 15 = .ok (.goto 4, 3) ∧ ((15 : Nat) : Int) + (4) = ((19 : Nat) : Int) := ⟨by decide +kernel, by decide⟩
theorem dc_F_isPlace_18 : decode prog_1_method_28_code 18 = .ok (.iconst 0, 1) ∧ 18 + 1 = 19 := ⟨by decide +kernel, rfl⟩
theorem dc_F_isPlace_19 : decode prog_1_method_28_code 19 = .ok (.ireturn, 1) := by decide +kernel
theorem dc_A_isNumberInRange_0 : decode prog_2_method_3_code 0 = .ok (.iload_n 0, 1) ∧ 0 + 1 = 1 := ⟨by decide +kernel, rfl⟩
theorem dc_A_isNumberInRange_1 : decode prog_2_method_3_code 1 = .ok (.ifCond .lt 9, 3) ∧ ((1 : Nat) : Int) + (9) = ((10 : Nat) : Int) ∧ 1 + 3 = 4 := ⟨by decide +kernel, by decide, rfl⟩
theorem dc_A_isNumberInRange_4 : decode prog_2_method_3_code 4 = .ok (.iload_n 0, 1) ∧ 4 + 1 = 5 := ⟨by decide +kernel, rfl⟩
theorem dc_A_isNumberInRange_5 : decode prog_2_method_3_code 5 = .ok (.bipush 6, 2) ∧ 5 + 2 = 7 := ⟨by decide +kernel, rfl⟩
theorem dc_A_isNumberInRange_7 : decode prog_2_method_3_code 7 = .ok (.if_icmp .lt 5, 3) ∧ ((7 : Nat) : Int) + (5) = ((12 : Nat) : Int) ∧ 7 + 3 = 10 := ⟨by decide +kernel, by decide, rfl⟩
theorem dc_A_isNumberInRange_10 : decode prog_2_method_3_code 10 = .ok (.iconst 0, 1) ∧ 10 + 1 = 11 := ⟨by decide +kernel, rfl⟩
theorem dc_A_isNumberInRange_11 : decode prog_2_method_3_code 11 = .ok (.ireturn, 1) := by decide +kernel
theorem dc_A_isNumberInRange_12 : decode prog_2_method_3_code 12 = .ok (.iload_n 1, 1) ∧ 12 + 1 = 13 := ⟨by decide +kernel, rfl⟩
theorem dc_A_isNumberInRange_13 : decode prog_2_method_3_code 13 = .ok (.getstatic 75, 3) ∧ 13 + 3 = 16 := ⟨by decide +kernel, rfl⟩
theorem dc_A_isNumberInRange_16 : decode prog_2_method_3_code 16 = .ok (.iload_n 0, 1) ∧ 16 + 1 = 17 := ⟨by decide +kernel, rfl⟩
theorem dc_A_isNumberInRange_17 : decode prog_2_method_3_code 17 = .ok (.invokestatic 78, 3) ∧ 17 + 3 = 20 := ⟨by decide +kernel, rfl⟩
theorem dc_A_isNumberInRange_20 : decode prog_2_method_3_code 20 = .ok (.if_icmp .lt 14, 3) ∧ ((20 : Nat) : Int) + (14) = ((34 : Nat) : Int) ∧ 20 + 3 = 23 := ⟨by decide +kernel, by decide, rfl⟩
theorem dc_A_isNumberInRange_23 : decode prog_2_method_3_code 23 = .ok (.iload_n 1, 1) ∧ 23 + 1 = 24 := ⟨by decide +kernel, rfl⟩
theorem dc_A_isNumberInRange_24 : decode prog_2_method_3_code 24 = .ok (.getstatic 82, 3) ∧ 24 + 3 = 27 := ⟨by decide +kernel, rfl⟩
theorem dc_A_isNumberInRange_27 : decode prog_2_method_3_code 27 = .ok (.iload_n 0, 1) ∧ 27 + 1 = 28 := ⟨by decide +kernel, rfl⟩
theorem dc_A_isNumberInRange_28 : decode prog_2_method_3_code 28 = .ok (.invokestatic 78, 3) ∧ 28 + 3 = 31 := ⟨by decide +kernel, rfl⟩
theorem dc_A_isNumberInRange_31 : decode prog_2_method_3_code 31 = .ok (.if_icmp .le 5, 3) ∧ ((31 : Nat) : Int) + (5) = ((36 : Nat) : Int) ∧ 31 + 3 = 34 := ⟨by decide +kernel, by decide, rfl⟩
theorem dc_A_isNumberInRange_34 : decode prog_2_method_3_code 34 = .ok (.iconst 0, 1) ∧ 34 + 1 = 35 := ⟨by decide +kernel, rfl⟩
theorem dc_A_isNumberInRange_35 : decode prog_2_method_3_code 35 = .ok (.ireturn, 1) := by decide +kernel
theorem dc_A_isNumberInRange_36 : decode prog_2_method_3_code 36 = .ok (.iload_n 0, 1) ∧ 36 + 1 = 37 := ⟨by decide +kernel, rfl⟩
theorem dc_A_isNumberInRange_37 : decode prog_2_method_3_code 37 = .ok (.ifCond .ne 11, 3) ∧ ((37 : Nat) : Int) + (11) = ((48 : Nat) : Int) ∧ 37 + 3 = 40 := ⟨by decide +kernel, by decide, rfl⟩
theorem dc_A_isNumberInRange_40 : decode prog_2_method_3_code 40 = .ok (.iload_n 1, 1) ∧ 40 + 1 = 41 := ⟨by decide +kernel, rfl⟩
theorem dc_A_isNumberInRange_41 : decode prog_2_method_3_code 41 = .ok (.invokestatic 85, 3) ∧ 41 + 3 = 44 := ⟨by decide +kernel, rfl⟩
theorem dc_A_isNumberInRange_44 : decode prog_2_method_3_code 44 = .ok (.iconst 1, 1) ∧ 44 + 1 = 45 := ⟨by decide +kernel, rfl⟩
theorem dc_A_isNumberInRange_45 : decode prog_2_method_3_code 45 = .ok (.if_icmp .ne 7, 3) ∧ ((45 : Nat) : Int) + (7) = ((52 : Nat) : Int) ∧ 45 + 3 = 48 := ⟨by decide +kernel, by decide, rfl⟩
theorem dc_A_isNumberInRange_48 : decode prog_2_method_3_code 48 = .ok (.iconst 1, 1) ∧ 48 + 1 = 49 := ⟨by decide +kernel, rfl⟩
theorem dc_A_isNumberInRange_49 : decode prog_2_method_3_code 49 = .ok (.goto 4, 3) ∧ ((49 : Nat) : Int) + (4) = ((53 : Nat) : Int) := ⟨by decide +kernel, by decide⟩
theorem dc_A_isNumberInRange_52 : decode prog_2_method_3_code 52 = .ok (.iconst 0, 1) ∧ 52 + 1 = 53 := ⟨by decide +kernel, rfl⟩
theorem dc_A_isNumberInRange_53 : decode prog_2_method_3_code 53 = .ok (.ireturn, 1) := by decide +kernel
theorem dc_J_bitCount_0 : decode prog_11_method_49_code 0 = .ok (.iload_n 0, 1) ∧ 0 + 1 = 1 := ⟨by decide +kernel, rfl⟩
theorem dc_J_bitCount_1 : decode prog_11_method_49_code 1 = .ok (.iload_n 0, 1) ∧ 1 + 1 = 2 := ⟨by decide +kernel, rfl⟩
theorem dc_J_bitCount_2 : decode prog_11_method_49_code 2 = .ok (.iconst 1, 1) ∧ 2 + 1 = 3 := ⟨by decide +kernel, rfl⟩
theorem dc_J_bitCount_3 : decode prog_11_method_49_code 3 = .ok (.iushr, 1) ∧ 3 + 1 = 4 := ⟨by decide +kernel, rfl⟩
theorem dc_J_bitCount_4 : decode prog_11_method_49_code 4 = .ok (.ldc_w 265, 3) ∧ 4 + 3 = 7 := ⟨by decide +kernel, rfl⟩
theorem dc_J_bitCount_7 : decode prog_11_method_49_code 7 = .ok (.iand, 1) ∧ 7 + 1 = 8 := ⟨by decide +kernel, rfl⟩
theorem dc_J_bitCount_8 : decode prog_11_method_49_code 8 = .ok (.isub, 1) ∧ 8 + 1 = 9 := ⟨by decide +kernel, rfl⟩
theorem dc_J_bitCount_9 : decode prog_11_method_49_code 9 = .ok (.istore_n 0, 1) ∧ 9 + 1 = 10 := ⟨by decide +kernel, rfl⟩
theorem dc_J_bitCount_10 : decode prog_11_method_49_code 10 = .ok (.iload_n 0, 1) ∧ 10 + 1 = 11 := ⟨by decide +kernel, rfl⟩
theorem dc_J_bitCount_11 : decode prog_11_method_49_code 11 = .ok (.ldc_w 266, 3) ∧ 11 + 3 = 14 := ⟨by decide +kernel, rfl⟩
theorem dc_J_bitCount_14 : decode prog_11_method_49_code 14 = .ok (.iand, 1) ∧ 14 + 1 = 15 := ⟨by decide +kernel, rfl⟩
theorem dc_J_bitCount_15 : decode prog_11_method_49_code 15 = .ok (.iload_n 0, 1) ∧ 15 + 1 = 16 := ⟨by decide +kernel, rfl⟩
theorem dc_J_bitCount_16 : decode prog_11_method_49_code 16 = .ok (.iconst 2, 1) ∧ 16 + 1 = 17 := ⟨by decide +kernel, rfl⟩
theorem dc_J_bitCount_17 : decode prog_11_method_49_code 17 = .ok (.iushr, 1) ∧ 17 + 1 = 18 := ⟨by decide +kernel, rfl⟩
theorem dc_J_bitCount_18 : decode prog_11_method_49_code 18 = .ok (.ldc_w 266, 3) ∧ 18 + 3 = 21 := ⟨by decide +kernel, rfl⟩
theorem dc_J_bitCount_21 : decode prog_11_method_49_code 21 = .ok (.iand, 1) ∧ 21 + 1 = 22 := ⟨by decide +kernel, rfl⟩
theorem dc_J_bitCount_22 : decode prog_11_method_49_code 22 = .ok (.iadd, 1) ∧ 22 + 1 = 23 := ⟨by decide +kernel, rfl⟩
theorem dc_J_bitCount_23 : decode prog_11_method_49_code 23 = .ok (.istore_n 0, 1) ∧ 23 + 1 = 24 := ⟨by decide +kernel, rfl⟩
theorem dc_J_bitCount_24 : decode prog_11_method_49_code 24 = .ok (.iload_n 0, 1) ∧ 24 + 1 = 25 := ⟨by decide +kernel, rfl⟩
theorem dc_J_bitCount_25 : decode prog_11_method_49_code 25 = .ok (.iload_n 0, 1) ∧ 25 + 1 = 26 := ⟨by decide +kernel, rfl⟩
theorem dc_J_bitCount_26 : decode prog_11_method_49_code 26 = .ok (.iconst 4, 1) ∧ 26 + 1 = 27 := ⟨by decide +kernel, rfl⟩
theorem dc_J_bitCount_27 : decode prog_11_method_49_code 27 = .ok (.iushr, 1) ∧ 27 + 1 = 28 := ⟨by decide +kernel, rfl⟩
theorem dc_J_bitCount_28 : decode prog_11_method_49_code 28 = .ok (.iadd, 1) ∧ 28 + 1 = 29 := ⟨by decide +kernel, rfl⟩
theorem dc_J_bitCount_29 : decode prog_11_method_49_code 29 = .ok (.ldc_w 267, 3) ∧ 29 + 3 = 32 := ⟨by decide +kernel, rfl⟩
theorem dc_J_bitCount_32 : decode prog_11_method_49_code 32 = .ok (.iand, 1) ∧ 32 + 1 = 33 := ⟨by decide +kernel, rfl⟩
theorem dc_J_bitCount_33 : decode prog_11_method_49_code 33 = .ok (.istore_n 0, 1) ∧ 33 + 1 = 34 := ⟨by decide +kernel, rfl⟩
theorem dc_J_bitCount_34 : decode prog_11_method_49_code 34 = .ok (.iload_n 0, 1) ∧ 34 + 1 = 35 := ⟨by decide +kernel, rfl⟩
theorem dc_J_bitCount_35 : decode prog_11_method_49_code 35 = .ok (.iload_n 0, 1) ∧ 35 + 1 = 36 := ⟨by decide +kernel, rfl⟩
theorem dc_J_bitCount_36 : decode prog_11_method_49_code 36 = .ok (.bipush 8, 2) ∧ 36 + 2 = 38 := ⟨by decide +kernel, rfl⟩
theorem dc_J_bitCount_38 : decode prog_11_method_49_code 38 = .ok (.iushr, 1) ∧ 38 + 1 = 39 := ⟨by decide +kernel, rfl⟩
theorem dc_J_bitCount_39 : decode prog_11_method_49_code 39 = .ok (.iadd, 1) ∧ 39 + 1 = 40 := ⟨by decide +kernel, rfl⟩
theorem dc_J_bitCount_40 : decode prog_11_method_49_code 40 = .ok (.istore_n 0, 1) ∧ 40 + 1 = 41 := ⟨by decide +kernel, rfl⟩
theorem dc_J_bitCount_41 : decode prog_11_method_49_code 41 = .ok (.iload_n 0, 1) ∧ 41 + 1 = 42 := ⟨by decide +kernel, rfl⟩
theorem dc_J_bitCount_42 : decode prog_11_method_49_code 42 = .ok (.iload_n 0, 1) ∧ 42 + 1 = 43 := ⟨by decide +kernel, rfl⟩
theorem dc_J_bitCount_43 : decode prog_11_method_49_code 43 = .ok (.bipush 16, 2) ∧ 43 + 2 = 45 := ⟨by decide +kernel, rfl⟩
theorem dc_J_bitCount_45 : decode prog_11_method_49_code 45 = .ok (.iushr, 1) ∧ 45 + 1 = 46 := ⟨by decide +kernel, rfl⟩
theorem dc_J_bitCount_46 : decode prog_11_method_49_code 46 = .ok (.iadd, 1) ∧ 46 + 1 = 47 := ⟨by decide +kernel, rfl⟩
theorem dc_J_bitCount_47 : decode prog_11_method_49_code 47 = .ok (.istore_n 0, 1) ∧ 47 + 1 = 48 := ⟨by decide +kernel, rfl⟩
theorem dc_J_bitCount_48 : decode prog_11_method_49_code 48 = .ok (.iload_n 0, 1) ∧ 48 + 1 = 49 := ⟨by decide +kernel, rfl⟩
theorem dc_J_bitCount_49 : decode prog_11_method_49_code 49 = .ok (.bipush 63, 2) ∧ 49 + 2 = 51 := ⟨by decide +kernel, rfl⟩
theorem dc_J_bitCount_51 : decode prog_11_method_49_code 51 = .ok (.iand, 1) ∧ 51 + 1 = 52 := ⟨by decide +kernel, rfl⟩
theorem dc_J_bitCount_52 : decode prog_11_method_49_code 52 = .ok (.ireturn, 1) := by decide +kernel
theorem dc_A_refuses_0 : decode prog_2_method_12_code 0 = .ok (.aload_n 0, 1) ∧ 0 + 1 = 1 := ⟨by decide +kernel, rfl⟩
theorem dc_A_refuses_1 : decode prog_2_method_12_code 1 = .ok (.iload_n 1, 1) ∧ 1 + 1 = 2 := ⟨by decide +kernel, rfl⟩
theorem dc_A_refuses_2 : decode prog_2_method_12_code 2 = .ok (.invokevirtual 120, 3) ∧ 2 + 3 = 5 := ⟨by decide +kernel, rfl⟩
theorem dc_A_refuses_5 : decode prog_2_method_12_code 5 = .ok (.invokestatic 123, 3) ∧ 5 + 3 = 8 := ⟨by decide +kernel, rfl⟩
theorem dc_A_refuses_8 : decode prog_2_method_12_code 8 = .ok (.ifCond .ne 7, 3) ∧ ((8 : Nat) : Int) + (7) = ((15 : Nat) : Int) ∧ 8 + 3 = 11 := ⟨by decide +kernel, by decide, rfl⟩
theorem dc_A_refuses_11 : decode prog_2_method_12_code 11 = .ok (.iconst 1, 1) ∧ 11 + 1 = 12 := ⟨by decide +kernel, rfl⟩
theorem dc_A_refuses_12 : decode prog_2_method_12_code 12 = .ok (.goto 4, 3) ∧ ((12 : Nat) : Int) + (4) = ((16 : Nat) : Int) := ⟨by decide +kernel, by decide⟩
theorem dc_A_refuses_15 : decode prog_2_method_12_code 15 = .ok (.iconst 0, 1) ∧ 15 + 1 = 16 := ⟨by decide +kernel, rfl⟩
theorem dc_A_refuses_16 : decode prog_2_method_12_code 16 = .ok (.ireturn, 1) := by decide +kernel
theorem dc_A_target_0 : decode prog_2_method_11_code 0 = .ok (.iload_n 1, 1) ∧ 0 + 1 = 1 := ⟨by decide +kernel, rfl⟩
theorem dc_A_target_1 : decode prog_2_method_11_code 1 = .ok (.aload_n 0, 1) ∧ 1 + 1 = 2 := ⟨by decide +kernel, rfl⟩
theorem dc_A_target_2 : decode prog_2_method_11_code 2 = .ok (.getfield 25, 3) ∧ 2 + 3 = 5 := ⟨by decide +kernel, rfl⟩
theorem dc_A_target_5 : decode prog_2_method_11_code 5 = .ok (.iload_n 1, 1) ∧ 5 + 1 = 6 := ⟨by decide +kernel, rfl⟩
theorem dc_A_target_6 : decode prog_2_method_11_code 6 = .ok (.invokevirtual 117, 3) ∧ 6 + 3 = 9 := ⟨by decide +kernel, rfl⟩
theorem dc_A_target_9 : decode prog_2_method_11_code 9 = .ok (.iadd, 1) ∧ 9 + 1 = 10 := ⟨by decide +kernel, rfl⟩
theorem dc_A_target_10 : decode prog_2_method_11_code 10 = .ok (.ireturn, 1) := by decide +kernel
theorem dc_P_valueBetween_0 : decode prog_5_method_6_code 0 = .ok (.aload_n 0, 1) ∧ 0 + 1 = 1 := ⟨by decide +kernel, rfl⟩
theorem dc_P_valueBetween_1 : decode prog_5_method_6_code 1 = .ok (.iload_n 1, 1) ∧ 1 + 1 = 2 := ⟨by decide +kernel, rfl⟩
theorem dc_P_valueBetween_2 : decode prog_5_method_6_code 2 = .ok (.invokevirtual 11, 3) ∧ 2 + 3 = 5 := ⟨by decide +kernel, rfl⟩
theorem dc_P_valueBetween_5 : decode prog_5_method_6_code 5 = .ok (.istore_n 2, 1) ∧ 5 + 1 = 6 := ⟨by decide +kernel, rfl⟩
theorem dc_P_valueBetween_6 : decode prog_5_method_6_code 6 = .ok (.iload_n 2, 1) ∧ 6 + 1 = 7 := ⟨by decide +kernel, rfl⟩
theorem dc_P_valueBetween_7 : decode prog_5_method_6_code 7 = .ok (.ifCond .ge 23, 3) ∧ ((7 : Nat) : Int) + (23) = ((30 : Nat) : Int) ∧ 7 + 3 = 10 := ⟨by decide +kernel, by decide, rfl⟩
theorem dc_P_valueBetween_10 : decode prog_5_method_6_code 10 = .ok (.aload_n 0, 1) ∧ 10 + 1 = 11 := ⟨by decide +kernel, rfl⟩
theorem dc_P_valueBetween_11 : decode prog_5_method_6_code 11 = .ok (.getfield 33, 3) ∧ 11 + 3 = 14 := ⟨by decide +kernel, rfl⟩
theorem dc_P_valueBetween_14 : decode prog_5_method_6_code 14 = .ok (.ifCond .le 14, 3) ∧ ((14 : Nat) : Int) + (14) = ((28 : Nat) : Int) ∧ 14 + 3 = 17 := ⟨by decide +kernel, by decide, rfl⟩
theorem dc_P_valueBetween_17 : decode prog_5_method_6_code 17 = .ok (.aload_n 0, 1) ∧ 17 + 1 = 18 := ⟨by decide +kernel, rfl⟩
theorem dc_P_valueBetween_18 : decode prog_5_method_6_code 18 = .ok (.getfield 19, 3) ∧ 18 + 3 = 21 := ⟨by decide +kernel, rfl⟩
theorem dc_P_valueBetween_21 : decode prog_5_method_6_code 21 = .ok (.iconst 0, 1) ∧ 21 + 1 = 22 := ⟨by decide +kernel, rfl⟩
theorem dc_P_valueBetween_22 : decode prog_5_method_6_code 22 = .ok (.invokestatic 23, 3) ∧ 22 + 3 = 25 := ⟨by decide +kernel, rfl⟩
theorem dc_P_valueBetween_25 : decode prog_5_method_6_code 25 = .ok (.goto 4, 3) ∧ ((25 : Nat) : Int) + (4) = ((29 : Nat) : Int) := ⟨by decide +kernel, by decide⟩
theorem dc_P_valueBetween_28 : decode prog_5_method_6_code 28 = .ok (.iconst 0, 1) ∧ 28 + 1 = 29 := ⟨by decide +kernel, rfl⟩
theorem dc_P_valueBetween_29 : decode prog_5_method_6_code 29 = .ok (.ireturn, 1) := by decide +kernel
theorem dc_P_valueBetween_30 : decode prog_5_method_6_code 30 = .ok (.aload_n 0, 1) ∧ 30 + 1 = 31 := ⟨by decide +kernel, rfl⟩
theorem dc_P_valueBetween_31 : decode prog_5_method_6_code 31 = .ok (.getfield 19, 3) ∧ 31 + 3 = 34 := ⟨by decide +kernel, rfl⟩
theorem dc_P_valueBetween_34 : decode prog_5_method_6_code 34 = .ok (.iload_n 2, 1) ∧ 34 + 1 = 35 := ⟨by decide +kernel, rfl⟩
theorem dc_P_valueBetween_35 : decode prog_5_method_6_code 35 = .ok (.invokestatic 23, 3) ∧ 35 + 3 = 38 := ⟨by decide +kernel, rfl⟩
theorem dc_P_valueBetween_38 : decode prog_5_method_6_code 38 = .ok (.istore_n 3, 1) ∧ 38 + 1 = 39 := ⟨by decide +kernel, rfl⟩
theorem dc_P_valueBetween_39 : decode prog_5_method_6_code 39 = .ok (.iload_n 2, 1) ∧ 39 + 1 = 40 := ⟨by decide +kernel, rfl⟩
theorem dc_P_valueBetween_40 : decode prog_5_method_6_code 40 = .ok (.iconst 1, 1) ∧ 40 + 1 = 41 := ⟨by decide +kernel, rfl⟩
theorem dc_P_valueBetween_41 : decode prog_5_method_6_code 41 = .ok (.iadd, 1) ∧ 41 + 1 = 42 := ⟨by decide +kernel, rfl⟩
theorem dc_P_valueBetween_42 : decode prog_5_method_6_code 42 = .ok (.aload_n 0, 1) ∧ 42 + 1 = 43 := ⟨by decide +kernel, rfl⟩
theorem dc_P_valueBetween_43 : decode prog_5_method_6_code 43 = .ok (.getfield 33, 3) ∧ 43 + 3 = 46 := ⟨by decide +kernel, rfl⟩
theorem dc_P_valueBetween_46 : decode prog_5_method_6_code 46 = .ok (.if_icmp .lt 5, 3) ∧ ((46 : Nat) : Int) + (5) = ((51 : Nat) : Int) ∧ 46 + 3 = 49 := ⟨by decide +kernel, by decide, rfl⟩
theorem dc_P_valueBetween_49 : decode prog_5_method_6_code 49 = .ok (.iload_n 3, 1) ∧ 49 + 1 = 50 := ⟨by decide +kernel, rfl⟩
theorem dc_P_valueBetween_50 : decode prog_5_method_6_code 50 = .ok (.ireturn, 1) := by decide +kernel
theorem dc_P_valueBetween_51 : decode prog_5_method_6_code 51 = .ok (.aload_n 0, 1) ∧ 51 + 1 = 52 := ⟨by decide +kernel, rfl⟩
theorem dc_P_valueBetween_52 : decode prog_5_method_6_code 52 = .ok (.getfield 29, 3) ∧ 52 + 3 = 55 := ⟨by decide +kernel, rfl⟩
theorem dc_P_valueBetween_55 : decode prog_5_method_6_code 55 = .ok (.iload_n 2, 1) ∧ 55 + 1 = 56 := ⟨by decide +kernel, rfl⟩
theorem dc_P_valueBetween_56 : decode prog_5_method_6_code 56 = .ok (.invokestatic 23, 3) ∧ 56 + 3 = 59 := ⟨by decide +kernel, rfl⟩
theorem dc_P_valueBetween_59 : decode prog_5_method_6_code 59 = .ok (.istore 4, 2) ∧ 59 + 2 = 61 := ⟨by decide +kernel, rfl⟩
theorem dc_P_valueBetween_61 : decode prog_5_method_6_code 61 = .ok (.aload_n 0, 1) ∧ 61 + 1 = 62 := ⟨by decide +kernel, rfl⟩
theorem dc_P_valueBetween_62 : decode prog_5_method_6_code 62 = .ok (.getfield 29, 3) ∧ 62 + 3 = 65 := ⟨by decide +kernel, rfl⟩
theorem dc_P_valueBetween_65 : decode prog_5_method_6_code 65 = .ok (.iload_n 2, 1) ∧ 65 + 1 = 66 := ⟨by decide +kernel, rfl⟩
theorem dc_P_valueBetween_66 : decode prog_5_method_6_code 66 = .ok (.iconst 1, 1) ∧ 66 + 1 = 67 := ⟨by decide +kernel, rfl⟩
theorem dc_P_valueBetween_67 : decode prog_5_method_6_code 67 = .ok (.iadd, 1) ∧ 67 + 1 = 68 := ⟨by decide +kernel, rfl⟩
theorem dc_P_valueBetween_68 : decode prog_5_method_6_code 68 = .ok (.invokestatic 23, 3) ∧ 68 + 3 = 71 := ⟨by decide +kernel, rfl⟩
theorem dc_P_valueBetween_71 : decode prog_5_method_6_code 71 = .ok (.iload 4, 2) ∧ 71 + 2 = 73 := ⟨by decide +kernel, rfl⟩
theorem dc_P_valueBetween_73 : decode prog_5_method_6_code 73 = .ok (.isub, 1) ∧ 73 + 1 = 74 := ⟨by decide +kernel, rfl⟩
theorem dc_P_valueBetween_74 : decode prog_5_method_6_code 74 = .ok (.istore 5, 2) ∧ 74 + 2 = 76 := ⟨by decide +kernel, rfl⟩
theorem dc_P_valueBetween_76 : decode prog_5_method_6_code 76 = .ok (.iload 5, 2) ∧ 76 + 2 = 78 := ⟨by decide +kernel, rfl⟩
theorem dc_P_valueBetween_78 : decode prog_5_method_6_code 78 = .ok (.ifCond .gt 5, 3) ∧ ((78 : Nat) : Int) + (5) = ((83 : Nat) : Int) ∧ 78 + 3 = 81 := ⟨by decide +kernel, by decide, rfl⟩
theorem dc_P_valueBetween_81 : decode prog_5_method_6_code 81 = .ok (.iload_n 3, 1) ∧ 81 + 1 = 82 := ⟨by decide +kernel, rfl⟩
theorem dc_P_valueBetween_82 : decode prog_5_method_6_code 82 = .ok (.ireturn, 1) := by decide +kernel
theorem dc_P_valueBetween_83 : decode prog_5_method_6_code 83 = .ok (.aload_n 0, 1) ∧ 83 + 1 = 84 := ⟨by decide +kernel, rfl⟩
theorem dc_P_valueBetween_84 : decode prog_5_method_6_code 84 = .ok (.getfield 19, 3) ∧ 84 + 3 = 87 := ⟨by decide +kernel, rfl⟩
theorem dc_P_valueBetween_87 : decode prog_5_method_6_code 87 = .ok (.iload_n 2, 1) ∧ 87 + 1 = 88 := ⟨by decide +kernel, rfl⟩
theorem dc_P_valueBetween_88 : decode prog_5_method_6_code 88 = .ok (.iconst 1, 1) ∧ 88 + 1 = 89 := ⟨by decide +kernel, rfl⟩
theorem dc_P_valueBetween_89 : decode prog_5_method_6_code 89 = .ok (.iadd, 1) ∧ 89 + 1 = 90 := ⟨by decide +kernel, rfl⟩
theorem dc_P_valueBetween_90 : decode prog_5_method_6_code 90 = .ok (.invokestatic 23, 3) ∧ 90 + 3 = 93 := ⟨by decide +kernel, rfl⟩
theorem dc_P_valueBetween_93 : decode prog_5_method_6_code 93 = .ok (.iload_n 3, 1) ∧ 93 + 1 = 94 := ⟨by decide +kernel, rfl⟩
theorem dc_P_valueBetween_94 : decode prog_5_method_6_code 94 = .ok (.isub, 1) ∧ 94 + 1 = 95 := ⟨by decide +kernel, rfl⟩
theorem dc_P_valueBetween_95 : decode prog_5_method_6_code 95 = .ok (.istore 6, 2) ∧ 95 + 2 = 97 := ⟨by decide +kernel, rfl⟩
theorem dc_P_valueBetween_97 : decode prog_5_method_6_code 97 = .ok (.iload_n 3, 1) ∧ 97 + 1 = 98 := ⟨by decide +kernel, rfl⟩
theorem dc_P_valueBetween_98 : decode prog_5_method_6_code 98 = .ok (.iload 6, 2) ∧ 98 + 2 = 100 := ⟨by decide +kernel, rfl⟩
theorem dc_P_valueBetween_100 : decode prog_5_method_6_code 100 = .ok (.iload_n 1, 1) ∧ 100 + 1 = 101 := ⟨by decide +kernel, rfl⟩
theorem dc_P_valueBetween_101 : decode prog_5_method_6_code 101 = .ok (.iload 4, 2) ∧ 101 + 2 = 103 := ⟨by decide +kernel, rfl⟩
theorem dc_P_valueBetween_103 : decode prog_5_method_6_code 103 = .ok (.isub, 1) ∧ 103 + 1 = 104 := ⟨by decide +kernel, rfl⟩
theorem dc_P_valueBetween_104 : decode prog_5_method_6_code 104 = .ok (.imul, 1) ∧ 104 + 1 = 105 := ⟨by decide +kernel, rfl⟩
theorem dc_P_valueBetween_105 : decode prog_5_method_6_code 105 = .ok (.iload 5, 2) ∧ 105 + 2 = 107 := ⟨by decide +kernel, rfl⟩
theorem dc_P_valueBetween_107 : decode prog_5_method_6_code 107 = .ok (.invokestatic 38, 3) ∧ 107 + 3 = 110 := ⟨by decide +kernel, rfl⟩
theorem dc_P_valueBetween_110 : decode prog_5_method_6_code 110 = .ok (.iadd, 1) ∧ 110 + 1 = 111 := ⟨by decide +kernel, rfl⟩
theorem dc_P_valueBetween_111 : decode prog_5_method_6_code 111 = .ok (.ireturn, 1) := by decide +kernel
theorem dc_J_floorDiv_0 : decode prog_12_method_47_code 0 = .ok (.iload_n 0, 1) ∧ 0 + 1 = 1 := ⟨by decide +kernel, rfl⟩
theorem dc_J_floorDiv_1 : decode prog_12_method_47_code 1 = .ok (.iload_n 1, 1) ∧ 1 + 1 = 2 := ⟨by decide +kernel, rfl⟩
theorem dc_J_floorDiv_2 : decode prog_12_method_47_code 2 = .ok (.idiv, 1) ∧ 2 + 1 = 3 := ⟨by decide +kernel, rfl⟩
theorem dc_J_floorDiv_3 : decode prog_12_method_47_code 3 = .ok (.istore_n 2, 1) ∧ 3 + 1 = 4 := ⟨by decide +kernel, rfl⟩
theorem dc_J_floorDiv_4 : decode prog_12_method_47_code 4 = .ok (.iload_n 0, 1) ∧ 4 + 1 = 5 := ⟨by decide +kernel, rfl⟩
theorem dc_J_floorDiv_5 : decode prog_12_method_47_code 5 = .ok (.iload_n 1, 1) ∧ 5 + 1 = 6 := ⟨by decide +kernel, rfl⟩
theorem dc_J_floorDiv_6 : decode prog_12_method_47_code 6 = .ok (.ixor, 1) ∧ 6 + 1 = 7 := ⟨by decide +kernel, rfl⟩
theorem dc_J_floorDiv_7 : decode prog_12_method_47_code 7 = .ok (.ifCond .ge 14, 3) ∧ ((7 : Nat) : Int) + (14) = ((21 : Nat) : Int) ∧ 7 + 3 = 10 := ⟨by decide +kernel, by decide, rfl⟩
theorem dc_J_floorDiv_10 : decode prog_12_method_47_code 10 = .ok (.iload_n 2, 1) ∧ 10 + 1 = 11 := ⟨by decide +kernel, rfl⟩
theorem dc_J_floorDiv_11 : decode prog_12_method_47_code 11 = .ok (.iload_n 1, 1) ∧ 11 + 1 = 12 := ⟨by decide +kernel, rfl⟩
theorem dc_J_floorDiv_12 : decode prog_12_method_47_code 12 = .ok (.imul, 1) ∧ 12 + 1 = 13 := ⟨by decide +kernel, rfl⟩
theorem dc_J_floorDiv_13 : decode prog_12_method_47_code 13 = .ok (.iload_n 0, 1) ∧ 13 + 1 = 14 := ⟨by decide +kernel, rfl⟩
theorem dc_J_floorDiv_14 : decode prog_12_method_47_code 14 = .ok (.if_icmp .eq 7, 3) ∧ ((14 : Nat) : Int) + (7) = ((21 : Nat) : Int) ∧ 14 + 3 = 17 := ⟨by decide +kernel, by decide, rfl⟩
theorem dc_J_floorDiv_17 : decode prog_12_method_47_code 17 = .ok (.iload_n 2, 1) ∧ 17 + 1 = 18 := ⟨by decide +kernel, rfl⟩
theorem dc_J_floorDiv_18 : decode prog_12_method_47_code 18 = .ok (.iconst 1, 1) ∧ 18 + 1 = 19 := ⟨by decide +kernel, rfl⟩
theorem dc_J_floorDiv_19 : decode prog_12_method_47_code 19 = .ok (.isub, 1) ∧ 19 + 1 = 20 := ⟨by decide +kernel, rfl⟩
theorem dc_J_floorDiv_20 : decode prog_12_method_47_code 20 = .ok (.ireturn, 1) := by decide +kernel
theorem dc_J_floorDiv_21 : decode prog_12_method_47_code 21 = .ok (.iload_n 2, 1) ∧ 21 + 1 = 22 := ⟨by decide +kernel, rfl⟩
theorem dc_J_floorDiv_22 : decode prog_12_method_47_code 22 = .ok (.ireturn, 1) := by decide +kernel
theorem dc_A_changeNumber_0 : decode prog_2_method_5_code 0 = .ok (.aload_n 0, 1) ∧ 0 + 1 = 1 := ⟨by decide +kernel, rfl⟩
theorem dc_A_changeNumber_1 : decode prog_2_method_5_code 1 = .ok (.getfield 9, 3) ∧ 1 + 3 = 4 := ⟨by decide +kernel, rfl⟩
theorem dc_A_changeNumber_4 : decode prog_2_method_5_code 4 = .ok (.iload_n 1, 1) ∧ 4 + 1 = 5 := ⟨by decide +kernel, rfl⟩
theorem dc_A_changeNumber_5 : decode prog_2_method_5_code 5 = .ok (.iload_n 2, 1) ∧ 5 + 1 = 6 := ⟨by decide +kernel, rfl⟩
theorem dc_A_changeNumber_6 : decode prog_2_method_5_code 6 = .ok (.invokestatic 91, 3) ∧ 6 + 3 = 9 := ⟨by decide +kernel, rfl⟩
theorem dc_A_changeNumber_9 : decode prog_2_method_5_code 9 = .ok (.return_, 1) := by decide +kernel
theorem dc_R_put_0 : decode prog_6_method_3_code 0 = .ok (.iload_n 1, 1) ∧ 0 + 1 = 1 := ⟨by decide +kernel, rfl⟩
theorem dc_R_put_1 : decode prog_6_method_3_code 1 = .ok (.ifCond .lt 13, 3) ∧ ((1 : Nat) : Int) + (13) = ((14 : Nat) : Int) ∧ 1 + 3 = 4 := ⟨by decide +kernel, by decide, rfl⟩
theorem dc_R_put_4 : decode prog_6_method_3_code 4 = .ok (.iload_n 1, 1) ∧ 4 + 1 = 5 := ⟨by decide +kernel, rfl⟩
theorem dc_R_put_5 : decode prog_6_method_3_code 5 = .ok (.aload_n 0, 1) ∧ 5 + 1 = 6 := ⟨by decide +kernel, rfl⟩
theorem dc_R_put_6 : decode prog_6_method_3_code 6 = .ok (.arraylength, 1) ∧ 6 + 1 = 7 := ⟨by decide +kernel, rfl⟩
theorem dc_R_put_7 : decode prog_6_method_3_code 7 = .ok (.if_icmp .ge 7, 3) ∧ ((7 : Nat) : Int) + (7) = ((14 : Nat) : Int) ∧ 7 + 3 = 10 := ⟨by decide +kernel, by decide, rfl⟩
theorem dc_R_put_10 : decode prog_6_method_3_code 10 = .ok (.aload_n 0, 1) ∧ 10 + 1 = 11 := ⟨by decide +kernel, rfl⟩
theorem dc_R_put_11 : decode prog_6_method_3_code 11 = .ok (.iload_n 1, 1) ∧ 11 + 1 = 12 := ⟨by decide +kernel, rfl⟩
theorem dc_R_put_12 : decode prog_6_method_3_code 12 = .ok (.iload_n 2, 1) ∧ 12 + 1 = 13 := ⟨by decide +kernel, rfl⟩
theorem dc_R_put_13 : decode prog_6_method_3_code 13 = .ok (.iastore, 1) ∧ 13 + 1 = 14 := ⟨by decide +kernel, rfl⟩
theorem dc_R_put_14 : decode prog_6_method_3_code 14 = .ok (.return_, 1) := by decide +kernel
theorem dc_A_travel_0 : decode prog_2_method_13_code 0 = .ok (.iconst 0, 1) ∧ 0 + 1 = 1 := ⟨by decide +kernel, rfl⟩
theorem dc_A_travel_1 : decode prog_2_method_13_code 1 = .ok (.istore_n 2, 1) ∧ 1 + 1 = 2 := ⟨by decide +kernel, rfl⟩
theorem dc_A_travel_2 : decode prog_2_method_13_code 2 = .ok (.aload_n 0, 1) ∧ 2 + 1 = 3 := ⟨by decide +kernel, rfl⟩
theorem dc_A_travel_3 : decode prog_2_method_13_code 3 = .ok (.iload_n 1, 1) ∧ 3 + 1 = 4 := ⟨by decide +kernel, rfl⟩
theorem dc_A_travel_4 : decode prog_2_method_13_code 4 = .ok (.invokevirtual 127, 3) ∧ 4 + 3 = 7 := ⟨by decide +kernel, rfl⟩
theorem dc_A_travel_7 : decode prog_2_method_13_code 7 = .ok (.ifCond .eq 5, 3) ∧ ((7 : Nat) : Int) + (5) = ((12 : Nat) : Int) ∧ 7 + 3 = 10 := ⟨by decide +kernel, by decide, rfl⟩
theorem dc_A_travel_10 : decode prog_2_method_13_code 10 = .ok (.iload_n 2, 1) ∧ 10 + 1 = 11 := ⟨by decide +kernel, rfl⟩
theorem dc_A_travel_11 : decode prog_2_method_13_code 11 = .ok (.ireturn, 1) := by decide +kernel
theorem dc_A_travel_12 : decode prog_2_method_13_code 12 = .ok (.aload_n 0, 1) ∧ 12 + 1 = 13 := ⟨by decide +kernel, rfl⟩
theorem dc_A_travel_13 : decode prog_2_method_13_code 13 = .ok (.aload_n 0, 1) ∧ 13 + 1 = 14 := ⟨by decide +kernel, rfl⟩
theorem dc_A_travel_14 : decode prog_2_method_13_code 14 = .ok (.iload_n 1, 1) ∧ 14 + 1 = 15 := ⟨by decide +kernel, rfl⟩
theorem dc_A_travel_15 : decode prog_2_method_13_code 15 = .ok (.invokevirtual 120, 3) ∧ 15 + 3 = 18 := ⟨by decide +kernel, rfl⟩
theorem dc_A_travel_18 : decode prog_2_method_13_code 18 = .ok (.invokevirtual 130, 3) ∧ 18 + 3 = 21 := ⟨by decide +kernel, rfl⟩
theorem dc_A_travel_21 : decode prog_2_method_13_code 21 = .ok (.istore_n 3, 1) ∧ 21 + 1 = 22 := ⟨by decide +kernel, rfl⟩
theorem dc_A_travel_22 : decode prog_2_method_13_code 22 = .ok (.iload_n 3, 1) ∧ 22 + 1 = 23 := ⟨by decide +kernel, rfl⟩
theorem dc_A_travel_23 : decode prog_2_method_13_code 23 = .ok (.invokestatic 133, 3) ∧ 23 + 3 = 26 := ⟨by decide +kernel, rfl⟩
theorem dc_A_travel_26 : decode prog_2_method_13_code 26 = .ok (.istore 4, 2) ∧ 26 + 2 = 28 := ⟨by decide +kernel, rfl⟩
theorem dc_A_travel_28 : decode prog_2_method_13_code 28 = .ok (.iload_n 3, 1) ∧ 28 + 1 = 29 := ⟨by decide +kernel, rfl⟩
theorem dc_A_travel_29 : decode prog_2_method_13_code 29 = .ok (.invokestatic 136, 3) ∧ 29 + 3 = 32 := ⟨by decide +kernel, rfl⟩
theorem dc_A_travel_32 : decode prog_2_method_13_code 32 = .ok (.istore 5, 2) ∧ 32 + 2 = 34 := ⟨by decide +kernel, rfl⟩
theorem dc_A_travel_34 : decode prog_2_method_13_code 34 = .ok (.iload 5, 2) ∧ 34 + 2 = 36 := ⟨by decide +kernel, rfl⟩
theorem dc_A_travel_36 : decode prog_2_method_13_code 36 = .ok (.ifCond .le 51, 3) ∧ ((36 : Nat) : Int) + (51) = ((87 : Nat) : Int) ∧ 36 + 3 = 39 := ⟨by decide +kernel, by decide, rfl⟩
theorem dc_A_travel_39 : decode prog_2_method_13_code 39 = .ok (.iload_n 2, 1) ∧ 39 + 1 = 40 := ⟨by decide +kernel, rfl⟩
theorem dc_A_travel_40 : decode prog_2_method_13_code 40 = .ok (.aload_n 0, 1) ∧ 40 + 1 = 41 := ⟨by decide +kernel, rfl⟩
theorem dc_A_travel_41 : decode prog_2_method_13_code 41 = .ok (.aload_n 0, 1) ∧ 41 + 1 = 42 := ⟨by decide +kernel, rfl⟩
theorem dc_A_travel_42 : decode prog_2_method_13_code 42 = .ok (.getfield 63, 3) ∧ 42 + 3 = 45 := ⟨by decide +kernel, rfl⟩
theorem dc_A_travel_45 : decode prog_2_method_13_code 45 = .ok (.invokevirtual 101, 3) ∧ 45 + 3 = 48 := ⟨by decide +kernel, rfl⟩
theorem dc_A_travel_48 : decode prog_2_method_13_code 48 = .ok (.invokestatic 108, 3) ∧ 48 + 3 = 51 := ⟨by decide +kernel, rfl⟩
theorem dc_A_travel_51 : decode prog_2_method_13_code 51 = .ok (.istore_n 2, 1) ∧ 51 + 1 = 52 := ⟨by decide +kernel, rfl⟩
theorem dc_A_travel_52 : decode prog_2_method_13_code 52 = .ok (.iload 5, 2) ∧ 52 + 2 = 54 := ⟨by decide +kernel, rfl⟩
theorem dc_A_travel_54 : decode prog_2_method_13_code 54 = .ok (.iconst 1, 1) ∧ 54 + 1 = 55 := ⟨by decide +kernel, rfl⟩
theorem dc_A_travel_55 : decode prog_2_method_13_code 55 = .ok (.aload_n 0, 1) ∧ 55 + 1 = 56 := ⟨by decide +kernel, rfl⟩
theorem dc_A_travel_56 : decode prog_2_method_13_code 56 = .ok (.iload 4, 2) ∧ 56 + 2 = 58 := ⟨by decide +kernel, rfl⟩
theorem dc_A_travel_58 : decode prog_2_method_13_code 58 = .ok (.invokevirtual 139, 3) ∧ 58 + 3 = 61 := ⟨by decide +kernel, rfl⟩
theorem dc_A_travel_61 : decode prog_2_method_13_code 61 = .ok (.invokestatic 108, 3) ∧ 61 + 3 = 64 := ⟨by decide +kernel, rfl⟩
theorem dc_A_travel_64 : decode prog_2_method_13_code 64 = .ok (.invokestatic 142, 3) ∧ 64 + 3 = 67 := ⟨by decide +kernel, rfl⟩
theorem dc_A_travel_67 : decode prog_2_method_13_code 67 = .ok (.istore 6, 2) ∧ 67 + 2 = 69 := ⟨by decide +kernel, rfl⟩
theorem dc_A_travel_69 : decode prog_2_method_13_code 69 = .ok (.aload_n 0, 1) ∧ 69 + 1 = 70 := ⟨by decide +kernel, rfl⟩
theorem dc_A_travel_70 : decode prog_2_method_13_code 70 = .ok (.iload 4, 2) ∧ 70 + 2 = 72 := ⟨by decide +kernel, rfl⟩
theorem dc_A_travel_72 : decode prog_2_method_13_code 72 = .ok (.iload 6, 2) ∧ 72 + 2 = 74 := ⟨by decide +kernel, rfl⟩
theorem dc_A_travel_74 : decode prog_2_method_13_code 74 = .ok (.invokevirtual 145, 3) ∧ 74 + 3 = 77 := ⟨by decide +kernel, rfl⟩
theorem dc_A_travel_77 : decode prog_2_method_13_code 77 = .ok (.iload 5, 2) ∧ 77 + 2 = 79 := ⟨by decide +kernel, rfl⟩
theorem dc_A_travel_79 : decode prog_2_method_13_code 79 = .ok (.iload 6, 2) ∧ 79 + 2 = 81 := ⟨by decide +kernel, rfl⟩
theorem dc_A_travel_81 : decode prog_2_method_13_code 81 = .ok (.isub, 1) ∧ 81 + 1 = 82 := ⟨by decide +kernel, rfl⟩
theorem dc_A_travel_82 : decode prog_2_method_13_code 82 = .ok (.istore 5, 2) ∧ 82 + 2 = 84 := ⟨by decide +kernel, rfl⟩
theorem dc_A_travel_84 : decode prog_2_method_13_code 84 = .ok (.goto (-50), 3) ∧ ((84 : Nat) : Int) + (-50) = ((34 : Nat) : Int) := ⟨by decide +kernel, by decide⟩
theorem dc_A_travel_87 : decode prog_2_method_13_code 87 = .ok (.iload_n 2, 1) ∧ 87 + 1 = 88 := ⟨by decide +kernel, rfl⟩
theorem dc_A_travel_88 : decode prog_2_method_13_code 88 = .ok (.ireturn, 1) := by decide +kernel
theorem dc_A_microstepsTo_0 : decode prog_2_method_22_code 0 = .ok (.aload_n 0, 1) ∧ 0 + 1 = 1 := ⟨by decide +kernel, rfl⟩
theorem dc_A_microstepsTo_1 : decode prog_2_method_22_code 1 = .ok (.iconst 0, 1) ∧ 1 + 1 = 2 := ⟨by decide +kernel, rfl⟩
theorem dc_A_microstepsTo_2 : decode prog_2_method_22_code 2 = .ok (.invokevirtual 95, 3) ∧ 2 + 3 = 5 := ⟨by decide +kernel, rfl⟩
theorem dc_A_microstepsTo_5 : decode prog_2_method_22_code 5 = .ok (.istore_n 2, 1) ∧ 5 + 1 = 6 := ⟨by decide +kernel, rfl⟩
theorem dc_A_microstepsTo_6 : decode prog_2_method_22_code 6 = .ok (.iload_n 2, 1) ∧ 6 + 1 = 7 := ⟨by decide +kernel, rfl⟩
theorem dc_A_microstepsTo_7 : decode prog_2_method_22_code 7 = .ok (.ifCond .le 14, 3) ∧ ((7 : Nat) : Int) + (14) = ((21 : Nat) : Int) ∧ 7 + 3 = 10 := ⟨by decide +kernel, by decide, rfl⟩
theorem dc_A_microstepsTo_10 : decode prog_2_method_22_code 10 = .ok (.iload_n 1, 1) ∧ 10 + 1 = 11 := ⟨by decide +kernel, rfl⟩
theorem dc_A_microstepsTo_11 : decode prog_2_method_22_code 11 = .ok (.aload_n 0, 1) ∧ 11 + 1 = 12 := ⟨by decide +kernel, rfl⟩
theorem dc_A_microstepsTo_12 : decode prog_2_method_22_code 12 = .ok (.getfield 57, 3) ∧ 12 + 3 = 15 := ⟨by decide +kernel, rfl⟩
theorem dc_A_microstepsTo_15 : decode prog_2_method_22_code 15 = .ok (.isub, 1) ∧ 15 + 1 = 16 := ⟨by decide +kernel, rfl⟩
theorem dc_A_microstepsTo_16 : decode prog_2_method_22_code 16 = .ok (.iload_n 2, 1) ∧ 16 + 1 = 17 := ⟨by decide +kernel, rfl⟩
theorem dc_A_microstepsTo_17 : decode prog_2_method_22_code 17 = .ok (.idiv, 1) ∧ 17 + 1 = 18 := ⟨by decide +kernel, rfl⟩
theorem dc_A_microstepsTo_18 : decode prog_2_method_22_code 18 = .ok (.goto 4, 3) ∧ ((18 : Nat) : Int) + (4) = ((22 : Nat) : Int) := ⟨by decide +kernel, by decide⟩
theorem dc_A_microstepsTo_21 : decode prog_2_method_22_code 21 = .ok (.iconst 0, 1) ∧ 21 + 1 = 22 := ⟨by decide +kernel, rfl⟩
theorem dc_A_microstepsTo_22 : decode prog_2_method_22_code 22 = .ok (.ireturn, 1) := by decide +kernel
theorem dc_J_signum_0 : decode prog_11_method_56_code 0 = .ok (.iload_n 0, 1) ∧ 0 + 1 = 1 := ⟨by decide +kernel, rfl⟩
theorem dc_J_signum_1 : decode prog_11_method_56_code 1 = .ok (.bipush 31, 2) ∧ 1 + 2 = 3 := ⟨by decide +kernel, rfl⟩
theorem dc_J_signum_3 : decode prog_11_method_56_code 3 = .ok (.ishr, 1) ∧ 3 + 1 = 4 := ⟨by decide +kernel, rfl⟩
theorem dc_J_signum_4 : decode prog_11_method_56_code 4 = .ok (.iload_n 0, 1) ∧ 4 + 1 = 5 := ⟨by decide +kernel, rfl⟩
theorem dc_J_signum_5 : decode prog_11_method_56_code 5 = .ok (.ineg, 1) ∧ 5 + 1 = 6 := ⟨by decide +kernel, rfl⟩
theorem dc_J_signum_6 : decode prog_11_method_56_code 6 = .ok (.bipush 31, 2) ∧ 6 + 2 = 8 := ⟨by decide +kernel, rfl⟩
theorem dc_J_signum_8 : decode prog_11_method_56_code 8 = .ok (.iushr, 1) ∧ 8 + 1 = 9 := ⟨by decide +kernel, rfl⟩
theorem dc_J_signum_9 : decode prog_11_method_56_code 9 = .ok (.ior, 1) ∧ 9 + 1 = 10 := ⟨by decide +kernel, rfl⟩
theorem dc_J_signum_10 : decode prog_11_method_56_code 10 = .ok (.ireturn, 1) := by decide +kernel
theorem dc_J_abs_0 : decode prog_12_method_59_code 0 = .ok (.iload_n 0, 1) ∧ 0 + 1 = 1 := ⟨by decide +kernel, rfl⟩
theorem dc_J_abs_1 : decode prog_12_method_59_code 1 = .ok (.ifCond .ge 8, 3) ∧ ((1 : Nat) : Int) + (8) = ((9 : Nat) : Int) ∧ 1 + 3 = 4 := ⟨by decide +kernel, by decide, rfl⟩
theorem dc_J_abs_4 : decode prog_12_method_59_code 4 = .ok (.iload_n 0, 1) ∧ 4 + 1 = 5 := ⟨by decide +kernel, rfl⟩
theorem dc_J_abs_5 : decode prog_12_method_59_code 5 = .ok (.ineg, 1) ∧ 5 + 1 = 6 := ⟨by decide +kernel, rfl⟩
theorem dc_J_abs_6 : decode prog_12_method_59_code 6 = .ok (.goto 4, 3) ∧ ((6 : Nat) : Int) + (4) = ((10 : Nat) : Int) := ⟨by decide +kernel, by decide⟩
theorem dc_J_abs_9 : decode prog_12_method_59_code 9 = .ok (.iload_n 0, 1) ∧ 9 + 1 = 10 := ⟨by decide +kernel, rfl⟩
theorem dc_J_abs_10 : decode prog_12_method_59_code 10 = .ok (.ireturn, 1) := by decide +kernel
theorem dc_A_microstepsAlike_0 : decode prog_2_method_24_code 0 = .ok (.aload_n 0, 1) ∧ 0 + 1 = 1 := ⟨by decide +kernel, rfl⟩
theorem dc_A_microstepsAlike_1 : decode prog_2_method_24_code 1 = .ok (.invokevirtual 166, 3) ∧ 1 + 3 = 4 := ⟨by decide +kernel, rfl⟩
theorem dc_A_microstepsAlike_4 : decode prog_2_method_24_code 4 = .ok (.ifCond .eq 6, 3) ∧ ((4 : Nat) : Int) + (6) = ((10 : Nat) : Int) ∧ 4 + 3 = 7 := ⟨by decide +kernel, by decide, rfl⟩
theorem dc_A_microstepsAlike_7 : decode prog_2_method_24_code 7 = .ok (.ldc 173, 2) ∧ 7 + 2 = 9 := ⟨by decide +kernel, rfl⟩
theorem dc_A_microstepsAlike_9 : decode prog_2_method_24_code 9 = .ok (.ireturn, 1) := by decide +kernel
theorem dc_A_microstepsAlike_10 : decode prog_2_method_24_code 10 = .ok (.aload_n 0, 1) ∧ 10 + 1 = 11 := ⟨by decide +kernel, rfl⟩
theorem dc_A_microstepsAlike_11 : decode prog_2_method_24_code 11 = .ok (.iconst 0, 1) ∧ 11 + 1 = 12 := ⟨by decide +kernel, rfl⟩
theorem dc_A_microstepsAlike_12 : decode prog_2_method_24_code 12 = .ok (.invokevirtual 95, 3) ∧ 12 + 3 = 15 := ⟨by decide +kernel, rfl⟩
theorem dc_A_microstepsAlike_15 : decode prog_2_method_24_code 15 = .ok (.istore_n 2, 1) ∧ 15 + 1 = 16 := ⟨by decide +kernel, rfl⟩
theorem dc_A_microstepsAlike_16 : decode prog_2_method_24_code 16 = .ok (.aload_n 0, 1) ∧ 16 + 1 = 17 := ⟨by decide +kernel, rfl⟩
theorem dc_A_microstepsAlike_17 : decode prog_2_method_24_code 17 = .ok (.getfield 60, 3) ∧ 17 + 3 = 20 := ⟨by decide +kernel, rfl⟩
theorem dc_A_microstepsAlike_20 : decode prog_2_method_24_code 20 = .ok (.aload_n 0, 1) ∧ 20 + 1 = 21 := ⟨by decide +kernel, rfl⟩
theorem dc_A_microstepsAlike_21 : decode prog_2_method_24_code 21 = .ok (.iconst 4, 1) ∧ 21 + 1 = 22 := ⟨by decide +kernel, rfl⟩
theorem dc_A_microstepsAlike_22 : decode prog_2_method_24_code 22 = .ok (.invokevirtual 95, 3) ∧ 22 + 3 = 25 := ⟨by decide +kernel, rfl⟩
theorem dc_A_microstepsAlike_25 : decode prog_2_method_24_code 25 = .ok (.isub, 1) ∧ 25 + 1 = 26 := ⟨by decide +kernel, rfl⟩
theorem dc_A_microstepsAlike_26 : decode prog_2_method_24_code 26 = .ok (.istore_n 3, 1) ∧ 26 + 1 = 27 := ⟨by decide +kernel, rfl⟩
theorem dc_A_microstepsAlike_27 : decode prog_2_method_24_code 27 = .ok (.iload_n 2, 1) ∧ 27 + 1 = 28 := ⟨by decide +kernel, rfl⟩
theorem dc_A_microstepsAlike_28 : decode prog_2_method_24_code 28 = .ok (.ifCond .le 29, 3) ∧ ((28 : Nat) : Int) + (29) = ((57 : Nat) : Int) ∧ 28 + 3 = 31 := ⟨by decide +kernel, by decide, rfl⟩
theorem dc_A_microstepsAlike_31 : decode prog_2_method_24_code 31 = .ok (.aload_n 0, 1) ∧ 31 + 1 = 32 := ⟨by decide +kernel, rfl⟩
theorem dc_A_microstepsAlike_32 : decode prog_2_method_24_code 32 = .ok (.getfield 66, 3) ∧ 32 + 3 = 35 := ⟨by decide +kernel, rfl⟩
theorem dc_A_microstepsAlike_35 : decode prog_2_method_24_code 35 = .ok (.ifCond .ne 22, 3) ∧ ((35 : Nat) : Int) + (22) = ((57 : Nat) : Int) ∧ 35 + 3 = 38 := ⟨by decide +kernel, by decide, rfl⟩
theorem dc_A_microstepsAlike_38 : decode prog_2_method_24_code 38 = .ok (.aload_n 0, 1) ∧ 38 + 1 = 39 := ⟨by decide +kernel, rfl⟩
theorem dc_A_microstepsAlike_39 : decode prog_2_method_24_code 39 = .ok (.getfield 63, 3) ∧ 39 + 3 = 42 := ⟨by decide +kernel, rfl⟩
theorem dc_A_microstepsAlike_42 : decode prog_2_method_24_code 42 = .ok (.iload_n 3, 1) ∧ 42 + 1 = 43 := ⟨by decide +kernel, rfl⟩
theorem dc_A_microstepsAlike_43 : decode prog_2_method_24_code 43 = .ok (.if_icmp .lt 14, 3) ∧ ((43 : Nat) : Int) + (14) = ((57 : Nat) : Int) ∧ 43 + 3 = 46 := ⟨by decide +kernel, by decide, rfl⟩
theorem dc_A_microstepsAlike_46 : decode prog_2_method_24_code 46 = .ok (.aload_n 0, 1) ∧ 46 + 1 = 47 := ⟨by decide +kernel, rfl⟩
theorem dc_A_microstepsAlike_47 : decode prog_2_method_24_code 47 = .ok (.getfield 63, 3) ∧ 47 + 3 = 50 := ⟨by decide +kernel, rfl⟩
theorem dc_A_microstepsAlike_50 : decode prog_2_method_24_code 50 = .ok (.aload_n 0, 1) ∧ 50 + 1 = 51 := ⟨by decide +kernel, rfl⟩
theorem dc_A_microstepsAlike_51 : decode prog_2_method_24_code 51 = .ok (.getfield 60, 3) ∧ 51 + 3 = 54 := ⟨by decide +kernel, rfl⟩
theorem dc_A_microstepsAlike_54 : decode prog_2_method_24_code 54 = .ok (.if_icmp .le 5, 3) ∧ ((54 : Nat) : Int) + (5) = ((59 : Nat) : Int) ∧ 54 + 3 = 57 := ⟨by decide +kernel, by decide, rfl⟩
theorem dc_A_microstepsAlike_57 : decode prog_2_method_24_code 57 = .ok (.iconst 1, 1) ∧ 57 + 1 = 58 := ⟨by decide +kernel, rfl⟩
theorem dc_A_microstepsAlike_58 : decode prog_2_method_24_code 58 = .ok (.ireturn, 1) := by decide +kernel
theorem dc_A_microstepsAlike_59 : decode prog_2_method_24_code 59 = .ok (.iload_n 1, 1) ∧ 59 + 1 = 60 := ⟨by decide +kernel, rfl⟩
theorem dc_A_microstepsAlike_60 : decode prog_2_method_24_code 60 = .ok (.ifCond .le 21, 3) ∧ ((60 : Nat) : Int) + (21) = ((81 : Nat) : Int) ∧ 60 + 3 = 63 := ⟨by decide +kernel, by decide, rfl⟩
theorem dc_A_microstepsAlike_63 : decode prog_2_method_24_code 63 = .ok (.aload_n 0, 1) ∧ 63 + 1 = 64 := ⟨by decide +kernel, rfl⟩
theorem dc_A_microstepsAlike_64 : decode prog_2_method_24_code 64 = .ok (.getfield 21, 3) ∧ 64 + 3 = 67 := ⟨by decide +kernel, rfl⟩
theorem dc_A_microstepsAlike_67 : decode prog_2_method_24_code 67 = .ok (.aload_n 0, 1) ∧ 67 + 1 = 68 := ⟨by decide +kernel, rfl⟩
theorem dc_A_microstepsAlike_68 : decode prog_2_method_24_code 68 = .ok (.getfield 63, 3) ∧ 68 + 3 = 71 := ⟨by decide +kernel, rfl⟩
theorem dc_A_microstepsAlike_71 : decode prog_2_method_24_code 71 = .ok (.invokevirtual 174, 3) ∧ 71 + 3 = 74 := ⟨by decide +kernel, rfl⟩
theorem dc_A_microstepsAlike_74 : decode prog_2_method_24_code 74 = .ok (.iconst 1, 1) ∧ 74 + 1 = 75 := ⟨by decide +kernel, rfl⟩
theorem dc_A_microstepsAlike_75 : decode prog_2_method_24_code 75 = .ok (.isub, 1) ∧ 75 + 1 = 76 := ⟨by decide +kernel, rfl⟩
theorem dc_A_microstepsAlike_76 : decode prog_2_method_24_code 76 = .ok (.iload_n 3, 1) ∧ 76 + 1 = 77 := ⟨by decide +kernel, rfl⟩
theorem dc_A_microstepsAlike_77 : decode prog_2_method_24_code 77 = .ok (.isub, 1) ∧ 77 + 1 = 78 := ⟨by decide +kernel, rfl⟩
theorem dc_A_microstepsAlike_78 : decode prog_2_method_24_code 78 = .ok (.goto 19, 3) ∧ ((78 : Nat) : Int) + (19) = ((97 : Nat) : Int) := ⟨by decide +kernel, by decide⟩
theorem dc_A_microstepsAlike_81 : decode prog_2_method_24_code 81 = .ok (.aload_n 0, 1) ∧ 81 + 1 = 82 := ⟨by decide +kernel, rfl⟩
theorem dc_A_microstepsAlike_82 : decode prog_2_method_24_code 82 = .ok (.getfield 60, 3) ∧ 82 + 3 = 85 := ⟨by decide +kernel, rfl⟩
theorem dc_A_microstepsAlike_85 : decode prog_2_method_24_code 85 = .ok (.aload_n 0, 1) ∧ 85 + 1 = 86 := ⟨by decide +kernel, rfl⟩
theorem dc_A_microstepsAlike_86 : decode prog_2_method_24_code 86 = .ok (.getfield 21, 3) ∧ 86 + 3 = 89 := ⟨by decide +kernel, rfl⟩
theorem dc_A_microstepsAlike_89 : decode prog_2_method_24_code 89 = .ok (.aload_n 0, 1) ∧ 89 + 1 = 90 := ⟨by decide +kernel, rfl⟩
theorem dc_A_microstepsAlike_90 : decode prog_2_method_24_code 90 = .ok (.getfield 63, 3) ∧ 90 + 3 = 93 := ⟨by decide +kernel, rfl⟩
theorem dc_A_microstepsAlike_93 : decode prog_2_method_24_code 93 = .ok (.invokevirtual 177, 3) ∧ 93 + 3 = 96 := ⟨by decide +kernel, rfl⟩
theorem dc_A_microstepsAlike_96 : decode prog_2_method_24_code 96 = .ok (.isub, 1) ∧ 96 + 1 = 97 := ⟨by decide +kernel, rfl⟩
theorem dc_A_microstepsAlike_97 : decode prog_2_method_24_code 97 = .ok (.istore 4, 2) ∧ 97 + 2 = 99 := ⟨by decide +kernel, rfl⟩
theorem dc_A_microstepsAlike_99 : decode prog_2_method_24_code 99 = .ok (.iload 4, 2) ∧ 99 + 2 = 101 := ⟨by decide +kernel, rfl⟩
theorem dc_A_microstepsAlike_101 : decode prog_2_method_24_code 101 = .ok (.iload_n 2, 1) ∧ 101 + 1 = 102 := ⟨by decide +kernel, rfl⟩
theorem dc_A_microstepsAlike_102 : decode prog_2_method_24_code 102 = .ok (.idiv, 1) ∧ 102 + 1 = 103 := ⟨by decide +kernel, rfl⟩
theorem dc_A_microstepsAlike_103 : decode prog_2_method_24_code 103 = .ok (.iconst 1, 1) ∧ 103 + 1 = 104 := ⟨by decide +kernel, rfl⟩
theorem dc_A_microstepsAlike_104 : decode prog_2_method_24_code 104 = .ok (.iadd, 1) ∧ 104 + 1 = 105 := ⟨by decide +kernel, rfl⟩
theorem dc_A_microstepsAlike_105 : decode prog_2_method_24_code 105 = .ok (.ireturn, 1) := by decide +kernel
theorem dc_A_stalls_0 : decode prog_2_method_23_code 0 = .ok (.aload_n 0, 1) ∧ 0 + 1 = 1 := ⟨by decide +kernel, rfl⟩
theorem dc_A_stalls_1 : decode prog_2_method_23_code 1 = .ok (.aload_n 0, 1) ∧ 1 + 1 = 2 := ⟨by decide +kernel, rfl⟩
theorem dc_A_stalls_2 : decode prog_2_method_23_code 2 = .ok (.iconst 2, 1) ∧ 2 + 1 = 3 := ⟨by decide +kernel, rfl⟩
theorem dc_A_stalls_3 : decode prog_2_method_23_code 3 = .ok (.invokevirtual 95, 3) ∧ 3 + 3 = 6 := ⟨by decide +kernel, rfl⟩
theorem dc_A_stalls_6 : decode prog_2_method_23_code 6 = .ok (.invokevirtual 98, 3) ∧ 6 + 3 = 9 := ⟨by decide +kernel, rfl⟩
theorem dc_A_stalls_9 : decode prog_2_method_23_code 9 = .ok (.aload_n 0, 1) ∧ 9 + 1 = 10 := ⟨by decide +kernel, rfl⟩
theorem dc_A_stalls_10 : decode prog_2_method_23_code 10 = .ok (.getfield 21, 3) ∧ 10 + 3 = 13 := ⟨by decide +kernel, rfl⟩
theorem dc_A_stalls_13 : decode prog_2_method_23_code 13 = .ok (.aload_n 0, 1) ∧ 13 + 1 = 14 := ⟨by decide +kernel, rfl⟩
theorem dc_A_stalls_14 : decode prog_2_method_23_code 14 = .ok (.getfield 63, 3) ∧ 14 + 3 = 17 := ⟨by decide +kernel, rfl⟩
theorem dc_A_stalls_17 : decode prog_2_method_23_code 17 = .ok (.iconst 0, 1) ∧ 17 + 1 = 18 := ⟨by decide +kernel, rfl⟩
theorem dc_A_stalls_18 : decode prog_2_method_23_code 18 = .ok (.invokevirtual 114, 3) ∧ 18 + 3 = 21 := ⟨by decide +kernel, rfl⟩
theorem dc_A_stalls_21 : decode prog_2_method_23_code 21 = .ok (.if_icmp .ge 7, 3) ∧ ((21 : Nat) : Int) + (7) = ((28 : Nat) : Int) ∧ 21 + 3 = 24 := ⟨by decide +kernel, by decide, rfl⟩
theorem dc_A_stalls_24 : decode prog_2_method_23_code 24 = .ok (.iconst 1, 1) ∧ 24 + 1 = 25 := ⟨by decide +kernel, rfl⟩
theorem dc_A_stalls_25 : decode prog_2_method_23_code 25 = .ok (.goto 4, 3) ∧ ((25 : Nat) : Int) + (4) = ((29 : Nat) : Int) := ⟨by decide +kernel, by decide⟩
theorem dc_A_stalls_28 : decode prog_2_method_23_code 28 = .ok (.iconst 0, 1) ∧ 28 + 1 = 29 := ⟨by decide +kernel, rfl⟩
theorem dc_A_stalls_29 : decode prog_2_method_23_code 29 = .ok (.ireturn, 1) := by decide +kernel
theorem dc_P_placeAbove_0 : decode prog_5_method_5_code 0 = .ok (.aload_n 0, 1) ∧ 0 + 1 = 1 := ⟨by decide +kernel, rfl⟩
theorem dc_P_placeAbove_1 : decode prog_5_method_5_code 1 = .ok (.iload_n 1, 1) ∧ 1 + 1 = 2 := ⟨by decide +kernel, rfl⟩
theorem dc_P_placeAbove_2 : decode prog_5_method_5_code 2 = .ok (.invokevirtual 11, 3) ∧ 2 + 3 = 5 := ⟨by decide +kernel, rfl⟩
theorem dc_P_placeAbove_5 : decode prog_5_method_5_code 5 = .ok (.iconst 1, 1) ∧ 5 + 1 = 6 := ⟨by decide +kernel, rfl⟩
theorem dc_P_placeAbove_6 : decode prog_5_method_5_code 6 = .ok (.iadd, 1) ∧ 6 + 1 = 7 := ⟨by decide +kernel, rfl⟩
theorem dc_P_placeAbove_7 : decode prog_5_method_5_code 7 = .ok (.istore_n 2, 1) ∧ 7 + 1 = 8 := ⟨by decide +kernel, rfl⟩
theorem dc_P_placeAbove_8 : decode prog_5_method_5_code 8 = .ok (.iload_n 2, 1) ∧ 8 + 1 = 9 := ⟨by decide +kernel, rfl⟩
theorem dc_P_placeAbove_9 : decode prog_5_method_5_code 9 = .ok (.aload_n 0, 1) ∧ 9 + 1 = 10 := ⟨by decide +kernel, rfl⟩
theorem dc_P_placeAbove_10 : decode prog_5_method_5_code 10 = .ok (.getfield 33, 3) ∧ 10 + 3 = 13 := ⟨by decide +kernel, rfl⟩
theorem dc_P_placeAbove_13 : decode prog_5_method_5_code 13 = .ok (.if_icmp .ge 14, 3) ∧ ((13 : Nat) : Int) + (14) = ((27 : Nat) : Int) ∧ 13 + 3 = 16 := ⟨by decide +kernel, by decide, rfl⟩
theorem dc_P_placeAbove_16 : decode prog_5_method_5_code 16 = .ok (.aload_n 0, 1) ∧ 16 + 1 = 17 := ⟨by decide +kernel, rfl⟩
theorem dc_P_placeAbove_17 : decode prog_5_method_5_code 17 = .ok (.getfield 29, 3) ∧ 17 + 3 = 20 := ⟨by decide +kernel, rfl⟩
theorem dc_P_placeAbove_20 : decode prog_5_method_5_code 20 = .ok (.iload_n 2, 1) ∧ 20 + 1 = 21 := ⟨by decide +kernel, rfl⟩
theorem dc_P_placeAbove_21 : decode prog_5_method_5_code 21 = .ok (.invokestatic 23, 3) ∧ 21 + 3 = 24 := ⟨by decide +kernel, rfl⟩
theorem dc_P_placeAbove_24 : decode prog_5_method_5_code 24 = .ok (.goto 5, 3) ∧ ((24 : Nat) : Int) + (5) = ((29 : Nat) : Int) := ⟨by decide +kernel, by decide⟩
theorem dc_P_placeAbove_27 : decode prog_5_method_5_code 27 = .ok (.ldc 37, 2) ∧ 27 + 2 = 29 := ⟨by decide +kernel, rfl⟩
theorem dc_P_placeAbove_29 : decode prog_5_method_5_code 29 = .ok (.ireturn, 1) := by decide +kernel
theorem dc_P_placeUpTo_0 : decode prog_5_method_4_code 0 = .ok (.aload_n 0, 1) ∧ 0 + 1 = 1 := ⟨by decide +kernel, rfl⟩
theorem dc_P_placeUpTo_1 : decode prog_5_method_4_code 1 = .ok (.iload_n 1, 1) ∧ 1 + 1 = 2 := ⟨by decide +kernel, rfl⟩
theorem dc_P_placeUpTo_2 : decode prog_5_method_4_code 2 = .ok (.invokevirtual 11, 3) ∧ 2 + 3 = 5 := ⟨by decide +kernel, rfl⟩
theorem dc_P_placeUpTo_5 : decode prog_5_method_4_code 5 = .ok (.istore_n 2, 1) ∧ 5 + 1 = 6 := ⟨by decide +kernel, rfl⟩
theorem dc_P_placeUpTo_6 : decode prog_5_method_4_code 6 = .ok (.iload_n 2, 1) ∧ 6 + 1 = 7 := ⟨by decide +kernel, rfl⟩
theorem dc_P_placeUpTo_7 : decode prog_5_method_4_code 7 = .ok (.ifCond .lt 14, 3) ∧ ((7 : Nat) : Int) + (14) = ((21 : Nat) : Int) ∧ 7 + 3 = 10 := ⟨by decide +kernel, by decide, rfl⟩
theorem dc_P_placeUpTo_10 : decode prog_5_method_4_code 10 = .ok (.aload_n 0, 1) ∧ 10 + 1 = 11 := ⟨by decide +kernel, rfl⟩
theorem dc_P_placeUpTo_11 : decode prog_5_method_4_code 11 = .ok (.getfield 29, 3) ∧ 11 + 3 = 14 := ⟨by decide +kernel, rfl⟩
theorem dc_P_placeUpTo_14 : decode prog_5_method_4_code 14 = .ok (.iload_n 2, 1) ∧ 14 + 1 = 15 := ⟨by decide +kernel, rfl⟩
theorem dc_P_placeUpTo_15 : decode prog_5_method_4_code 15 = .ok (.invokestatic 23, 3) ∧ 15 + 3 = 18 := ⟨by decide +kernel, rfl⟩
theorem dc_P_placeUpTo_18 : decode prog_5_method_4_code 18 = .ok (.goto 5, 3) ∧ ((18 : Nat) : Int) + (5) = ((23 : Nat) : Int) := ⟨by decide +kernel, by decide⟩
theorem dc_P_placeUpTo_21 : decode prog_5_method_4_code 21 = .ok (.ldc 32, 2) ∧ 21 + 2 = 23 := ⟨by decide +kernel, rfl⟩
theorem dc_P_placeUpTo_23 : decode prog_5_method_4_code 23 = .ok (.ireturn, 1) := by decide +kernel
theorem dc_A_makeMicrosteps_0 : decode prog_2_method_25_code 0 = .ok (.aload_n 0, 1) ∧ 0 + 1 = 1 := ⟨by decide +kernel, rfl⟩
theorem dc_A_makeMicrosteps_1 : decode prog_2_method_25_code 1 = .ok (.invokevirtual 166, 3) ∧ 1 + 3 = 4 := ⟨by decide +kernel, rfl⟩
theorem dc_A_makeMicrosteps_4 : decode prog_2_method_25_code 4 = .ok (.istore_n 3, 1) ∧ 4 + 1 = 5 := ⟨by decide +kernel, rfl⟩
theorem dc_A_makeMicrosteps_5 : decode prog_2_method_25_code 5 = .ok (.iload_n 1, 1) ∧ 5 + 1 = 6 := ⟨by decide +kernel, rfl⟩
theorem dc_A_makeMicrosteps_6 : decode prog_2_method_25_code 6 = .ok (.iload_n 2, 1) ∧ 6 + 1 = 7 := ⟨by decide +kernel, rfl⟩
theorem dc_A_makeMicrosteps_7 : decode prog_2_method_25_code 7 = .ok (.imul, 1) ∧ 7 + 1 = 8 := ⟨by decide +kernel, rfl⟩
theorem dc_A_makeMicrosteps_8 : decode prog_2_method_25_code 8 = .ok (.aload_n 0, 1) ∧ 8 + 1 = 9 := ⟨by decide +kernel, rfl⟩
theorem dc_A_makeMicrosteps_9 : decode prog_2_method_25_code 9 = .ok (.iconst 0, 1) ∧ 9 + 1 = 10 := ⟨by decide +kernel, rfl⟩
theorem dc_A_makeMicrosteps_10 : decode prog_2_method_25_code 10 = .ok (.invokevirtual 95, 3) ∧ 10 + 3 = 13 := ⟨by decide +kernel, rfl⟩
theorem dc_A_makeMicrosteps_13 : decode prog_2_method_25_code 13 = .ok (.imul, 1) ∧ 13 + 1 = 14 := ⟨by decide +kernel, rfl⟩
theorem dc_A_makeMicrosteps_14 : decode prog_2_method_25_code 14 = .ok (.istore 4, 2) ∧ 14 + 2 = 16 := ⟨by decide +kernel, rfl⟩
theorem dc_A_makeMicrosteps_16 : decode prog_2_method_25_code 16 = .ok (.aload_n 0, 1) ∧ 16 + 1 = 17 := ⟨by decide +kernel, rfl⟩
theorem dc_A_makeMicrosteps_17 : decode prog_2_method_25_code 17 = .ok (.dup, 1) ∧ 17 + 1 = 18 := ⟨by decide +kernel, rfl⟩
theorem dc_A_makeMicrosteps_18 : decode prog_2_method_25_code 18 = .ok (.getfield 57, 3) ∧ 18 + 3 = 21 := ⟨by decide +kernel, rfl⟩
theorem dc_A_makeMicrosteps_21 : decode prog_2_method_25_code 21 = .ok (.iload 4, 2) ∧ 21 + 2 = 23 := ⟨by decide +kernel, rfl⟩
theorem dc_A_makeMicrosteps_23 : decode prog_2_method_25_code 23 = .ok (.iadd, 1) ∧ 23 + 1 = 24 := ⟨by decide +kernel, rfl⟩
theorem dc_A_makeMicrosteps_24 : decode prog_2_method_25_code 24 = .ok (.putfield 57, 3) ∧ 24 + 3 = 27 := ⟨by decide +kernel, rfl⟩
theorem dc_A_makeMicrosteps_27 : decode prog_2_method_25_code 27 = .ok (.aload_n 0, 1) ∧ 27 + 1 = 28 := ⟨by decide +kernel, rfl⟩
theorem dc_A_makeMicrosteps_28 : decode prog_2_method_25_code 28 = .ok (.dup, 1) ∧ 28 + 1 = 29 := ⟨by decide +kernel, rfl⟩
theorem dc_A_makeMicrosteps_29 : decode prog_2_method_25_code 29 = .ok (.getfield 66, 3) ∧ 29 + 3 = 32 := ⟨by decide +kernel, rfl⟩
theorem dc_A_makeMicrosteps_32 : decode prog_2_method_25_code 32 = .ok (.iload 4, 2) ∧ 32 + 2 = 34 := ⟨by decide +kernel, rfl⟩
theorem dc_A_makeMicrosteps_34 : decode prog_2_method_25_code 34 = .ok (.iadd, 1) ∧ 34 + 1 = 35 := ⟨by decide +kernel, rfl⟩
theorem dc_A_makeMicrosteps_35 : decode prog_2_method_25_code 35 = .ok (.putfield 66, 3) ∧ 35 + 3 = 38 := ⟨by decide +kernel, rfl⟩
theorem dc_A_makeMicrosteps_38 : decode prog_2_method_25_code 38 = .ok (.aload_n 0, 1) ∧ 38 + 1 = 39 := ⟨by decide +kernel, rfl⟩
theorem dc_A_makeMicrosteps_39 : decode prog_2_method_25_code 39 = .ok (.iconst 0, 1) ∧ 39 + 1 = 40 := ⟨by decide +kernel, rfl⟩
theorem dc_A_makeMicrosteps_40 : decode prog_2_method_25_code 40 = .ok (.iload_n 2, 1) ∧ 40 + 1 = 41 := ⟨by decide +kernel, rfl⟩
theorem dc_A_makeMicrosteps_41 : decode prog_2_method_25_code 41 = .ok (.invokevirtual 163, 3) ∧ 41 + 3 = 44 := ⟨by decide +kernel, rfl⟩
theorem dc_A_makeMicrosteps_44 : decode prog_2_method_25_code 44 = .ok (.iload_n 3, 1) ∧ 44 + 1 = 45 := ⟨by decide +kernel, rfl⟩
theorem dc_A_makeMicrosteps_45 : decode prog_2_method_25_code 45 = .ok (.ifCond .eq 16, 3) ∧ ((45 : Nat) : Int) + (16) = ((61 : Nat) : Int) ∧ 45 + 3 = 48 := ⟨by decide +kernel, by decide, rfl⟩
theorem dc_A_makeMicrosteps_48 : decode prog_2_method_25_code 48 = .ok (.aload_n 0, 1) ∧ 48 + 1 = 49 := ⟨by decide +kernel, rfl⟩
theorem dc_A_makeMicrosteps_49 : decode prog_2_method_25_code 49 = .ok (.iconst 1, 1) ∧ 49 + 1 = 50 := ⟨by decide +kernel, rfl⟩
theorem dc_A_makeMicrosteps_50 : decode prog_2_method_25_code 50 = .ok (.iload_n 2, 1) ∧ 50 + 1 = 51 := ⟨by decide +kernel, rfl⟩
theorem dc_A_makeMicrosteps_51 : decode prog_2_method_25_code 51 = .ok (.invokevirtual 163, 3) ∧ 51 + 3 = 54 := ⟨by decide +kernel, rfl⟩
theorem dc_A_makeMicrosteps_54 : decode prog_2_method_25_code 54 = .ok (.aload_n 0, 1) ∧ 54 + 1 = 55 := ⟨by decide +kernel, rfl⟩
theorem dc_A_makeMicrosteps_55 : decode prog_2_method_25_code 55 = .ok (.invokevirtual 180, 3) ∧ 55 + 3 = 58 := ⟨by decide +kernel, rfl⟩
theorem dc_A_makeMicrosteps_58 : decode prog_2_method_25_code 58 = .ok (.goto 7, 3) ∧ ((58 : Nat) : Int) + (7) = ((65 : Nat) : Int) := ⟨by decide +kernel, by decide⟩
theorem dc_A_makeMicrosteps_61 : decode prog_2_method_25_code 61 = .ok (.aload_n 0, 1) ∧ 61 + 1 = 62 := ⟨by decide +kernel, rfl⟩
theorem dc_A_makeMicrosteps_62 : decode prog_2_method_25_code 62 = .ok (.invokevirtual 183, 3) ∧ 62 + 3 = 65 := ⟨by decide +kernel, rfl⟩
theorem dc_A_makeMicrosteps_65 : decode prog_2_method_25_code 65 = .ok (.return_, 1) := by decide +kernel
theorem dc_A_tally_0 : decode prog_2_method_28_code 0 = .ok (.aload_n 0, 1) ∧ 0 + 1 = 1 := ⟨by decide +kernel, rfl⟩
theorem dc_A_tally_1 : decode prog_2_method_28_code 1 = .ok (.getfield 15, 3) ∧ 1 + 3 = 4 := ⟨by decide +kernel, rfl⟩
theorem dc_A_tally_4 : decode prog_2_method_28_code 4 = .ok (.iload_n 1, 1) ∧ 4 + 1 = 5 := ⟨by decide +kernel, rfl⟩
theorem dc_A_tally_5 : decode prog_2_method_28_code 5 = .ok (.aload_n 0, 1) ∧ 5 + 1 = 6 := ⟨by decide +kernel, rfl⟩
theorem dc_A_tally_6 : decode prog_2_method_28_code 6 = .ok (.getfield 15, 3) ∧ 6 + 3 = 9 := ⟨by decide +kernel, rfl⟩
theorem dc_A_tally_9 : decode prog_2_method_28_code 9 = .ok (.iload_n 1, 1) ∧ 9 + 1 = 10 := ⟨by decide +kernel, rfl⟩
theorem dc_A_tally_10 : decode prog_2_method_28_code 10 = .ok (.invokestatic 78, 3) ∧ 10 + 3 = 13 := ⟨by decide +kernel, rfl⟩
theorem dc_A_tally_13 : decode prog_2_method_28_code 13 = .ok (.iload_n 2, 1) ∧ 13 + 1 = 14 := ⟨by decide +kernel, rfl⟩
theorem dc_A_tally_14 : decode prog_2_method_28_code 14 = .ok (.iadd, 1) ∧ 14 + 1 = 15 := ⟨by decide +kernel, rfl⟩
theorem dc_A_tally_15 : decode prog_2_method_28_code 15 = .ok (.invokestatic 91, 3) ∧ 15 + 3 = 18 := ⟨by decide +kernel, rfl⟩
theorem dc_A_tally_18 : decode prog_2_method_28_code 18 = .ok (.return_, 1) := by decide +kernel
theorem dc_A_slip_0 : decode prog_2_method_27_code 0 = .ok (.aload_n 0, 1) ∧ 0 + 1 = 1 := ⟨by decide +kernel, rfl⟩
theorem dc_A_slip_1 : decode prog_2_method_27_code 1 = .ok (.getfield 66, 3) ∧ 1 + 3 = 4 := ⟨by decide +kernel, rfl⟩
theorem dc_A_slip_4 : decode prog_2_method_27_code 4 = .ok (.bipush 32, 2) ∧ 4 + 2 = 6 := ⟨by decide +kernel, rfl⟩
theorem dc_A_slip_6 : decode prog_2_method_27_code 6 = .ok (.if_icmp .lt 49, 3) ∧ ((6 : Nat) : Int) + (49) = ((55 : Nat) : Int) ∧ 6 + 3 = 9 := ⟨by decide +kernel, by decide, rfl⟩
theorem dc_A_slip_9 : decode prog_2_method_27_code 9 = .ok (.aload_n 0, 1) ∧ 9 + 1 = 10 := ⟨by decide +kernel, rfl⟩
theorem dc_A_slip_10 : decode prog_2_method_27_code 10 = .ok (.getfield 66, 3) ∧ 10 + 3 = 13 := ⟨by decide +kernel, rfl⟩
theorem dc_A_slip_13 : decode prog_2_method_27_code 13 = .ok (.bipush 32, 2) ∧ 13 + 2 = 15 := ⟨by decide +kernel, rfl⟩
theorem dc_A_slip_15 : decode prog_2_method_27_code 15 = .ok (.iadd, 1) ∧ 15 + 1 = 16 := ⟨by decide +kernel, rfl⟩
theorem dc_A_slip_16 : decode prog_2_method_27_code 16 = .ok (.bipush 64, 2) ∧ 16 + 2 = 18 := ⟨by decide +kernel, rfl⟩
theorem dc_A_slip_18 : decode prog_2_method_27_code 18 = .ok (.idiv, 1) ∧ 18 + 1 = 19 := ⟨by decide +kernel, rfl⟩
theorem dc_A_slip_19 : decode prog_2_method_27_code 19 = .ok (.istore_n 1, 1) ∧ 19 + 1 = 20 := ⟨by decide +kernel, rfl⟩
theorem dc_A_slip_20 : decode prog_2_method_27_code 20 = .ok (.aload_n 0, 1) ∧ 20 + 1 = 21 := ⟨by decide +kernel, rfl⟩
theorem dc_A_slip_21 : decode prog_2_method_27_code 21 = .ok (.iconst 2, 1) ∧ 21 + 1 = 22 := ⟨by decide +kernel, rfl⟩
theorem dc_A_slip_22 : decode prog_2_method_27_code 22 = .ok (.iload_n 1, 1) ∧ 22 + 1 = 23 := ⟨by decide +kernel, rfl⟩
theorem dc_A_slip_23 : decode prog_2_method_27_code 23 = .ok (.invokevirtual 163, 3) ∧ 23 + 3 = 26 := ⟨by decide +kernel, rfl⟩
theorem dc_A_slip_26 : decode prog_2_method_27_code 26 = .ok (.aload_n 0, 1) ∧ 26 + 1 = 27 := ⟨by decide +kernel, rfl⟩
theorem dc_A_slip_27 : decode prog_2_method_27_code 27 = .ok (.dup, 1) ∧ 27 + 1 = 28 := ⟨by decide +kernel, rfl⟩
theorem dc_A_slip_28 : decode prog_2_method_27_code 28 = .ok (.getfield 69, 3) ∧ 28 + 3 = 31 := ⟨by decide +kernel, rfl⟩
theorem dc_A_slip_31 : decode prog_2_method_27_code 31 = .ok (.iload_n 1, 1) ∧ 31 + 1 = 32 := ⟨by decide +kernel, rfl⟩
theorem dc_A_slip_32 : decode prog_2_method_27_code 32 = .ok (.bipush 64, 2) ∧ 32 + 2 = 34 := ⟨by decide +kernel, rfl⟩
theorem dc_A_slip_34 : decode prog_2_method_27_code 34 = .ok (.imul, 1) ∧ 34 + 1 = 35 := ⟨by decide +kernel, rfl⟩
theorem dc_A_slip_35 : decode prog_2_method_27_code 35 = .ok (.iadd, 1) ∧ 35 + 1 = 36 := ⟨by decide +kernel, rfl⟩
theorem dc_A_slip_36 : decode prog_2_method_27_code 36 = .ok (.putfield 69, 3) ∧ 36 + 3 = 39 := ⟨by decide +kernel, rfl⟩
theorem dc_A_slip_39 : decode prog_2_method_27_code 39 = .ok (.aload_n 0, 1) ∧ 39 + 1 = 40 := ⟨by decide +kernel, rfl⟩
theorem dc_A_slip_40 : decode prog_2_method_27_code 40 = .ok (.dup, 1) ∧ 40 + 1 = 41 := ⟨by decide +kernel, rfl⟩
theorem dc_A_slip_41 : decode prog_2_method_27_code 41 = .ok (.getfield 66, 3) ∧ 41 + 3 = 44 := ⟨by decide +kernel, rfl⟩
theorem dc_A_slip_44 : decode prog_2_method_27_code 44 = .ok (.iload_n 1, 1) ∧ 44 + 1 = 45 := ⟨by decide +kernel, rfl⟩
theorem dc_A_slip_45 : decode prog_2_method_27_code 45 = .ok (.bipush 64, 2) ∧ 45 + 2 = 47 := ⟨by decide +kernel, rfl⟩
theorem dc_A_slip_47 : decode prog_2_method_27_code 47 = .ok (.imul, 1) ∧ 47 + 1 = 48 := ⟨by decide +kernel, rfl⟩
theorem dc_A_slip_48 : decode prog_2_method_27_code 48 = .ok (.isub, 1) ∧ 48 + 1 = 49 := ⟨by decide +kernel, rfl⟩
theorem dc_A_slip_49 : decode prog_2_method_27_code 49 = .ok (.putfield 66, 3) ∧ 49 + 3 = 52 := ⟨by decide +kernel, rfl⟩
theorem dc_A_slip_52 : decode prog_2_method_27_code 52 = .ok (.goto 55, 3) ∧ ((52 : Nat) : Int) + (55) = ((107 : Nat) : Int) := ⟨by decide +kernel, by decide⟩
theorem dc_A_slip_55 : decode prog_2_method_27_code 55 = .ok (.aload_n 0, 1) ∧ 55 + 1 = 56 := ⟨by decide +kernel, rfl⟩
theorem dc_A_slip_56 : decode prog_2_method_27_code 56 = .ok (.getfield 66, 3) ∧ 56 + 3 = 59 := ⟨by decide +kernel, rfl⟩
theorem dc_A_slip_59 : decode prog_2_method_27_code 59 = .ok (.bipush (-32), 2) ∧ 59 + 2 = 61 := ⟨by decide +kernel, rfl⟩
theorem dc_A_slip_61 : decode prog_2_method_27_code 61 = .ok (.if_icmp .gt 46, 3) ∧ ((61 : Nat) : Int) + (46) = ((107 : Nat) : Int) ∧ 61 + 3 = 64 := ⟨by decide +kernel, by decide, rfl⟩
theorem dc_A_slip_64 : decode prog_2_method_27_code 64 = .ok (.bipush 32, 2) ∧ 64 + 2 = 66 := ⟨by decide +kernel, rfl⟩
theorem dc_A_slip_66 : decode prog_2_method_27_code 66 = .ok (.aload_n 0, 1) ∧ 66 + 1 = 67 := ⟨by decide +kernel, rfl⟩
theorem dc_A_slip_67 : decode prog_2_method_27_code 67 = .ok (.getfield 66, 3) ∧ 67 + 3 = 70 := ⟨by decide +kernel, rfl⟩
theorem dc_A_slip_70 : decode prog_2_method_27_code 70 = .ok (.isub, 1) ∧ 70 + 1 = 71 := ⟨by decide +kernel, rfl⟩
theorem dc_A_slip_71 : decode prog_2_method_27_code 71 = .ok (.bipush 64, 2) ∧ 71 + 2 = 73 := ⟨by decide +kernel, rfl⟩
theorem dc_A_slip_73 : decode prog_2_method_27_code 73 = .ok (.idiv, 1) ∧ 73 + 1 = 74 := ⟨by decide +kernel, rfl⟩
theorem dc_A_slip_74 : decode prog_2_method_27_code 74 = .ok (.istore_n 1, 1) ∧ 74 + 1 = 75 := ⟨by decide +kernel, rfl⟩
theorem dc_A_slip_75 : decode prog_2_method_27_code 75 = .ok (.aload_n 0, 1) ∧ 75 + 1 = 76 := ⟨by decide +kernel, rfl⟩
theorem dc_A_slip_76 : decode prog_2_method_27_code 76 = .ok (.iconst 3, 1) ∧ 76 + 1 = 77 := ⟨by decide +kernel, rfl⟩
theorem dc_A_slip_77 : decode prog_2_method_27_code 77 = .ok (.iload_n 1, 1) ∧ 77 + 1 = 78 := ⟨by decide +kernel, rfl⟩
theorem dc_A_slip_78 : decode prog_2_method_27_code 78 = .ok (.invokevirtual 163, 3) ∧ 78 + 3 = 81 := ⟨by decide +kernel, rfl⟩
theorem dc_A_slip_81 : decode prog_2_method_27_code 81 = .ok (.aload_n 0, 1) ∧ 81 + 1 = 82 := ⟨by decide +kernel, rfl⟩
theorem dc_A_slip_82 : decode prog_2_method_27_code 82 = .ok (.dup, 1) ∧ 82 + 1 = 83 := ⟨by decide +kernel, rfl⟩
theorem dc_A_slip_83 : decode prog_2_method_27_code 83 = .ok (.getfield 69, 3) ∧ 83 + 3 = 86 := ⟨by decide +kernel, rfl⟩
theorem dc_A_slip_86 : decode prog_2_method_27_code 86 = .ok (.iload_n 1, 1) ∧ 86 + 1 = 87 := ⟨by decide +kernel, rfl⟩
theorem dc_A_slip_87 : decode prog_2_method_27_code 87 = .ok (.bipush 64, 2) ∧ 87 + 2 = 89 := ⟨by decide +kernel, rfl⟩
theorem dc_A_slip_89 : decode prog_2_method_27_code 89 = .ok (.imul, 1) ∧ 89 + 1 = 90 := ⟨by decide +kernel, rfl⟩
theorem dc_A_slip_90 : decode prog_2_method_27_code 90 = .ok (.isub, 1) ∧ 90 + 1 = 91 := ⟨by decide +kernel, rfl⟩
theorem dc_A_slip_91 : decode prog_2_method_27_code 91 = .ok (.putfield 69, 3) ∧ 91 + 3 = 94 := ⟨by decide +kernel, rfl⟩
theorem dc_A_slip_94 : decode prog_2_method_27_code 94 = .ok (.aload_n 0, 1) ∧ 94 + 1 = 95 := ⟨by decide +kernel, rfl⟩
theorem dc_A_slip_95 : decode prog_2_method_27_code 95 = .ok (.dup, 1) ∧ 95 + 1 = 96 := ⟨by decide +kernel, rfl⟩
theorem dc_A_slip_96 : decode prog_2_method_27_code 96 = .ok (.getfield 66, 3) ∧ 96 + 3 = 99 := ⟨by decide +kernel, rfl⟩
theorem dc_A_slip_99 : decode prog_2_method_27_code 99 = .ok (.iload_n 1, 1) ∧ 99 + 1 = 100 := ⟨by decide +kernel, rfl⟩
theorem dc_A_slip_100 : decode prog_2_method_27_code 100 = .ok (.bipush 64, 2) ∧ 100 + 2 = 102 := ⟨by decide +kernel, rfl⟩
theorem dc_A_slip_102 : decode prog_2_method_27_code 102 = .ok (.imul, 1) ∧ 102 + 1 = 103 := ⟨by decide +kernel, rfl⟩
theorem dc_A_slip_103 : decode prog_2_method_27_code 103 = .ok (.iadd, 1) ∧ 103 + 1 = 104 := ⟨by decide +kernel, rfl⟩
theorem dc_A_slip_104 : decode prog_2_method_27_code 104 = .ok (.putfield 66, 3) ∧ 104 + 3 = 107 := ⟨by decide +kernel, rfl⟩
theorem dc_A_slip_107 : decode prog_2_method_27_code 107 = .ok (.return_, 1) := by decide +kernel
theorem dc_A_turnMotor_0 : decode prog_2_method_26_code 0 = .ok (.aload_n 0, 1) ∧ 0 + 1 = 1 := ⟨by decide +kernel, rfl⟩
theorem dc_A_turnMotor_1 : decode prog_2_method_26_code 1 = .ok (.iconst 4, 1) ∧ 1 + 1 = 2 := ⟨by decide +kernel, rfl⟩
theorem dc_A_turnMotor_2 : decode prog_2_method_26_code 2 = .ok (.aload_n 0, 1) ∧ 2 + 1 = 3 := ⟨by decide +kernel, rfl⟩
theorem dc_A_turnMotor_3 : decode prog_2_method_26_code 3 = .ok (.getfield 66, 3) ∧ 3 + 3 = 6 := ⟨by decide +kernel, rfl⟩
theorem dc_A_turnMotor_6 : decode prog_2_method_26_code 6 = .ok (.invokestatic 136, 3) ∧ 6 + 3 = 9 := ⟨by decide +kernel, rfl⟩
theorem dc_A_turnMotor_9 : decode prog_2_method_26_code 9 = .ok (.invokevirtual 163, 3) ∧ 9 + 3 = 12 := ⟨by decide +kernel, rfl⟩
theorem dc_A_turnMotor_12 : decode prog_2_method_26_code 12 = .ok (.aload_n 0, 1) ∧ 12 + 1 = 13 := ⟨by decide +kernel, rfl⟩
theorem dc_A_turnMotor_13 : decode prog_2_method_26_code 13 = .ok (.dup, 1) ∧ 13 + 1 = 14 := ⟨by decide +kernel, rfl⟩
theorem dc_A_turnMotor_14 : decode prog_2_method_26_code 14 = .ok (.getfield 60, 3) ∧ 14 + 3 = 17 := ⟨by decide +kernel, rfl⟩
theorem dc_A_turnMotor_17 : decode prog_2_method_26_code 17 = .ok (.aload_n 0, 1) ∧ 17 + 1 = 18 := ⟨by decide +kernel, rfl⟩
theorem dc_A_turnMotor_18 : decode prog_2_method_26_code 18 = .ok (.getfield 66, 3) ∧ 18 + 3 = 21 := ⟨by decide +kernel, rfl⟩
theorem dc_A_turnMotor_21 : decode prog_2_method_26_code 21 = .ok (.iadd, 1) ∧ 21 + 1 = 22 := ⟨by decide +kernel, rfl⟩
theorem dc_A_turnMotor_22 : decode prog_2_method_26_code 22 = .ok (.putfield 60, 3) ∧ 22 + 3 = 25 := ⟨by decide +kernel, rfl⟩
theorem dc_A_turnMotor_25 : decode prog_2_method_26_code 25 = .ok (.aload_n 0, 1) ∧ 25 + 1 = 26 := ⟨by decide +kernel, rfl⟩
theorem dc_A_turnMotor_26 : decode prog_2_method_26_code 26 = .ok (.iconst 0, 1) ∧ 26 + 1 = 27 := ⟨by decide +kernel, rfl⟩
theorem dc_A_turnMotor_27 : decode prog_2_method_26_code 27 = .ok (.putfield 66, 3) ∧ 27 + 3 = 30 := ⟨by decide +kernel, rfl⟩
theorem dc_A_turnMotor_30 : decode prog_2_method_26_code 30 = .ok (.aload_n 0, 1) ∧ 30 + 1 = 31 := ⟨by decide +kernel, rfl⟩
theorem dc_A_turnMotor_31 : decode prog_2_method_26_code 31 = .ok (.aload_n 0, 1) ∧ 31 + 1 = 32 := ⟨by decide +kernel, rfl⟩
theorem dc_A_turnMotor_32 : decode prog_2_method_26_code 32 = .ok (.getfield 60, 3) ∧ 32 + 3 = 35 := ⟨by decide +kernel, rfl⟩
theorem dc_A_turnMotor_35 : decode prog_2_method_26_code 35 = .ok (.aload_n 0, 1) ∧ 35 + 1 = 36 := ⟨by decide +kernel, rfl⟩
theorem dc_A_turnMotor_36 : decode prog_2_method_26_code 36 = .ok (.getfield 63, 3) ∧ 36 + 3 = 39 := ⟨by decide +kernel, rfl⟩
theorem dc_A_turnMotor_39 : decode prog_2_method_26_code 39 = .ok (.aload_n 0, 1) ∧ 39 + 1 = 40 := ⟨by decide +kernel, rfl⟩
theorem dc_A_turnMotor_40 : decode prog_2_method_26_code 40 = .ok (.getfield 60, 3) ∧ 40 + 3 = 43 := ⟨by decide +kernel, rfl⟩
theorem dc_A_turnMotor_43 : decode prog_2_method_26_code 43 = .ok (.aload_n 0, 1) ∧ 43 + 1 = 44 := ⟨by decide +kernel, rfl⟩
theorem dc_A_turnMotor_44 : decode prog_2_method_26_code 44 = .ok (.iconst 4, 1) ∧ 44 + 1 = 45 := ⟨by decide +kernel, rfl⟩
theorem dc_A_turnMotor_45 : decode prog_2_method_26_code 45 = .ok (.invokevirtual 95, 3) ∧ 45 + 3 = 48 := ⟨by decide +kernel, rfl⟩
theorem dc_A_turnMotor_48 : decode prog_2_method_26_code 48 = .ok (.isub, 1) ∧ 48 + 1 = 49 := ⟨by decide +kernel, rfl⟩
theorem dc_A_turnMotor_49 : decode prog_2_method_26_code 49 = .ok (.invokestatic 108, 3) ∧ 49 + 3 = 52 := ⟨by decide +kernel, rfl⟩
theorem dc_A_turnMotor_52 : decode prog_2_method_26_code 52 = .ok (.invokestatic 142, 3) ∧ 52 + 3 = 55 := ⟨by decide +kernel, rfl⟩
theorem dc_A_turnMotor_55 : decode prog_2_method_26_code 55 = .ok (.putfield 63, 3) ∧ 55 + 3 = 58 := ⟨by decide +kernel, rfl⟩
theorem dc_A_turnMotor_58 : decode prog_2_method_26_code 58 = .ok (.return_, 1) := by decide +kernel
theorem dc_F_fastest_0 : decode prog_1_method_26_code 0 = .ok (.iload_n 1, 1) ∧ 0 + 1 = 1 := ⟨by decide +kernel, rfl⟩
theorem dc_F_fastest_1 : decode prog_1_method_26_code 1 = .ok (.invokestatic 58, 3) ∧ 1 + 3 = 4 := ⟨by decide +kernel, rfl⟩
theorem dc_F_fastest_4 : decode prog_1_method_26_code 4 = .ok (.ifCond .ne 6, 3) ∧ ((4 : Nat) : Int) + (6) = ((10 : Nat) : Int) ∧ 4 + 3 = 7 := ⟨by decide +kernel, by decide, rfl⟩
theorem dc_F_fastest_7 : decode prog_1_method_26_code 7 = .ok (.ldc 45, 2) ∧ 7 + 2 = 9 := ⟨by decide +kernel, rfl⟩
theorem dc_F_fastest_9 : decode prog_1_method_26_code 9 = .ok (.ireturn, 1) := by decide +kernel
theorem dc_F_fastest_10 : decode prog_1_method_26_code 10 = .ok (.aload_n 0, 1) ∧ 10 + 1 = 11 := ⟨by decide +kernel, rfl⟩
theorem dc_F_fastest_11 : decode prog_1_method_26_code 11 = .ok (.getfield 10, 3) ∧ 11 + 3 = 14 := ⟨by decide +kernel, rfl⟩
theorem dc_F_fastest_14 : decode prog_1_method_26_code 14 = .ok (.iload_n 1, 1) ∧ 14 + 1 = 15 := ⟨by decide +kernel, rfl⟩
theorem dc_F_fastest_15 : decode prog_1_method_26_code 15 = .ok (.invokevirtual 97, 3) ∧ 15 + 3 = 18 := ⟨by decide +kernel, rfl⟩
theorem dc_F_fastest_18 : decode prog_1_method_26_code 18 = .ok (.ifCond .eq 6, 3) ∧ ((18 : Nat) : Int) + (6) = ((24 : Nat) : Int) ∧ 18 + 3 = 21 := ⟨by decide +kernel, by decide, rfl⟩
theorem dc_F_fastest_21 : decode prog_1_method_26_code 21 = .ok (.ldc 132, 2) ∧ 21 + 2 = 23 := ⟨by decide +kernel, rfl⟩
theorem dc_F_fastest_23 : decode prog_1_method_26_code 23 = .ok (.ireturn, 1) := by decide +kernel
theorem dc_F_fastest_24 : decode prog_1_method_26_code 24 = .ok (.aload_n 0, 1) ∧ 24 + 1 = 25 := ⟨by decide +kernel, rfl⟩
theorem dc_F_fastest_25 : decode prog_1_method_26_code 25 = .ok (.getfield 16, 3) ∧ 25 + 3 = 28 := ⟨by decide +kernel, rfl⟩
theorem dc_F_fastest_28 : decode prog_1_method_26_code 28 = .ok (.aload_n 0, 1) ∧ 28 + 1 = 29 := ⟨by decide +kernel, rfl⟩
theorem dc_F_fastest_29 : decode prog_1_method_26_code 29 = .ok (.getfield 10, 3) ∧ 29 + 3 = 32 := ⟨by decide +kernel, rfl⟩
theorem dc_F_fastest_32 : decode prog_1_method_26_code 32 = .ok (.invokevirtual 87, 3) ∧ 32 + 3 = 35 := ⟨by decide +kernel, rfl⟩
theorem dc_F_fastest_35 : decode prog_1_method_26_code 35 = .ok (.aload_n 0, 1) ∧ 35 + 1 = 36 := ⟨by decide +kernel, rfl⟩
theorem dc_F_fastest_36 : decode prog_1_method_26_code 36 = .ok (.getfield 16, 3) ∧ 36 + 3 = 39 := ⟨by decide +kernel, rfl⟩
theorem dc_F_fastest_39 : decode prog_1_method_26_code 39 = .ok (.iload_n 1, 1) ∧ 39 + 1 = 40 := ⟨by decide +kernel, rfl⟩
theorem dc_F_fastest_40 : decode prog_1_method_26_code 40 = .ok (.invokevirtual 196, 3) ∧ 40 + 3 = 43 := ⟨by decide +kernel, rfl⟩
theorem dc_F_fastest_43 : decode prog_1_method_26_code 43 = .ok (.istore_n 2, 1) ∧ 43 + 1 = 44 := ⟨by decide +kernel, rfl⟩
theorem dc_F_fastest_44 : decode prog_1_method_26_code 44 = .ok (.sipush 1000, 3) ∧ 44 + 3 = 47 := ⟨by decide +kernel, rfl⟩
theorem dc_F_fastest_47 : decode prog_1_method_26_code 47 = .ok (.istore_n 3, 1) ∧ 47 + 1 = 48 := ⟨by decide +kernel, rfl⟩
theorem dc_F_fastest_48 : decode prog_1_method_26_code 48 = .ok (.iload_n 3, 1) ∧ 48 + 1 = 49 := ⟨by decide +kernel, rfl⟩
theorem dc_F_fastest_49 : decode prog_1_method_26_code 49 = .ok (.ifCond .le 23, 3) ∧ ((49 : Nat) : Int) + (23) = ((72 : Nat) : Int) ∧ 49 + 3 = 52 := ⟨by decide +kernel, by decide, rfl⟩
theorem dc_F_fastest_52 : decode prog_1_method_26_code 52 = .ok (.aload_n 0, 1) ∧ 52 + 1 = 53 := ⟨by decide +kernel, rfl⟩
theorem dc_F_fastest_53 : decode prog_1_method_26_code 53 = .ok (.getfield 10, 3) ∧ 53 + 3 = 56 := ⟨by decide +kernel, rfl⟩
theorem dc_F_fastest_56 : decode prog_1_method_26_code 56 = .ok (.iload_n 3, 1) ∧ 56 + 1 = 57 := ⟨by decide +kernel, rfl⟩
theorem dc_F_fastest_57 : decode prog_1_method_26_code 57 = .ok (.invokevirtual 199, 3) ∧ 57 + 3 = 60 := ⟨by decide +kernel, rfl⟩
theorem dc_F_fastest_60 : decode prog_1_method_26_code 60 = .ok (.iload_n 2, 1) ∧ 60 + 1 = 61 := ⟨by decide +kernel, rfl⟩
theorem dc_F_fastest_61 : decode prog_1_method_26_code 61 = .ok (.if_icmp .lt 5, 3) ∧ ((61 : Nat) : Int) + (5) = ((66 : Nat) : Int) ∧ 61 + 3 = 64 := ⟨by decide +kernel, by decide, rfl⟩
theorem dc_F_fastest_64 : decode prog_1_method_26_code 64 = .ok (.iload_n 3, 1) ∧ 64 + 1 = 65 := ⟨by decide +kernel, rfl⟩
theorem dc_F_fastest_65 : decode prog_1_method_26_code 65 = .ok (.ireturn, 1) := by decide +kernel
theorem dc_F_fastest_66 : decode prog_1_method_26_code 66 = .ok (.iinc 3 (-50), 3) ∧ 66 + 3 = 69 := ⟨by decide +kernel, rfl⟩
theorem dc_F_fastest_69 : decode prog_1_method_26_code 69 = .ok (.goto (-21), 3) ∧ ((69 : Nat) : Int) + (-21) = ((48 : Nat) : Int) := ⟨by decide +kernel, by decide⟩
theorem dc_F_fastest_72 : decode prog_1_method_26_code 72 = .ok (.ldc 132, 2) ∧ 72 + 2 = 74 := ⟨by decide +kernel, rfl⟩
theorem dc_F_fastest_74 : decode prog_1_method_26_code 74 = .ok (.ireturn, 1) := by decide +kernel
theorem dc_A_travelUnstalled_0 : decode prog_2_method_14_code 0 = .ok (.aload_n 0, 1) ∧ 0 + 1 = 1 := ⟨by decide +kernel, rfl⟩
theorem dc_A_travelUnstalled_1 : decode prog_2_method_14_code 1 = .ok (.iconst 1, 1) ∧ 1 + 1 = 2 := ⟨by decide +kernel, rfl⟩
theorem dc_A_travelUnstalled_2 : decode prog_2_method_14_code 2 = .ok (.sipush 200, 3) ∧ 2 + 3 = 5 := ⟨by decide +kernel, rfl⟩
theorem dc_A_travelUnstalled_5 : decode prog_2_method_14_code 5 = .ok (.invokevirtual 149, 3) ∧ 5 + 3 = 8 := ⟨by decide +kernel, rfl⟩
theorem dc_A_travelUnstalled_8 : decode prog_2_method_14_code 8 = .ok (.aload_n 0, 1) ∧ 8 + 1 = 9 := ⟨by decide +kernel, rfl⟩
theorem dc_A_travelUnstalled_9 : decode prog_2_method_14_code 9 = .ok (.iconst 3, 1) ∧ 9 + 1 = 10 := ⟨by decide +kernel, rfl⟩
theorem dc_A_travelUnstalled_10 : decode prog_2_method_14_code 10 = .ok (.iconst 0, 1) ∧ 10 + 1 = 11 := ⟨by decide +kernel, rfl⟩
theorem dc_A_travelUnstalled_11 : decode prog_2_method_14_code 11 = .ok (.invokevirtual 149, 3) ∧ 11 + 3 = 14 := ⟨by decide +kernel, rfl⟩
theorem dc_A_travelUnstalled_14 : decode prog_2_method_14_code 14 = .ok (.aload_n 0, 1) ∧ 14 + 1 = 15 := ⟨by decide +kernel, rfl⟩
theorem dc_A_travelUnstalled_15 : decode prog_2_method_14_code 15 = .ok (.iload_n 1, 1) ∧ 15 + 1 = 16 := ⟨by decide +kernel, rfl⟩
theorem dc_A_travelUnstalled_16 : decode prog_2_method_14_code 16 = .ok (.invokevirtual 152, 3) ∧ 16 + 3 = 19 := ⟨by decide +kernel, rfl⟩
theorem dc_A_travelUnstalled_19 : decode prog_2_method_14_code 19 = .ok (.ireturn, 1) := by decide +kernel
theorem dc_F_counter_0 : decode prog_1_method_27_code 0 = .ok (.iload_n 1, 1) ∧ 0 + 1 = 1 := ⟨by decide +kernel, rfl⟩
theorem dc_F_counter_1 : decode prog_1_method_27_code 1 = .ok (.ifCond .lt 8, 3) ∧ ((1 : Nat) : Int) + (8) = ((9 : Nat) : Int) ∧ 1 + 3 = 4 := ⟨by decide +kernel, by decide, rfl⟩
theorem dc_F_counter_4 : decode prog_1_method_27_code 4 = .ok (.iload_n 1, 1) ∧ 4 + 1 = 5 := ⟨by decide +kernel, rfl⟩
theorem dc_F_counter_5 : decode prog_1_method_27_code 5 = .ok (.iconst 1, 1) ∧ 5 + 1 = 6 := ⟨by decide +kernel, rfl⟩
theorem dc_F_counter_6 : decode prog_1_method_27_code 6 = .ok (.if_icmp .le 6, 3) ∧ ((6 : Nat) : Int) + (6) = ((12 : Nat) : Int) ∧ 6 + 3 = 9 := ⟨by decide +kernel, by decide, rfl⟩
theorem dc_F_counter_9 : decode prog_1_method_27_code 9 = .ok (.ldc 45, 2) ∧ 9 + 2 = 11 := ⟨by decide +kernel, rfl⟩
theorem dc_F_counter_11 : decode prog_1_method_27_code 11 = .ok (.ireturn, 1) := by decide +kernel
theorem dc_F_counter_12 : decode prog_1_method_27_code 12 = .ok (.iload_n 1, 1) ∧ 12 + 1 = 13 := ⟨by decide +kernel, rfl⟩
theorem dc_F_counter_13 : decode prog_1_method_27_code 13 = .ok (.ifCond .ne 13, 3) ∧ ((13 : Nat) : Int) + (13) = ((26 : Nat) : Int) ∧ 13 + 3 = 16 := ⟨by decide +kernel, by decide, rfl⟩
theorem dc_F_counter_16 : decode prog_1_method_27_code 16 = .ok (.aload_n 0, 1) ∧ 16 + 1 = 17 := ⟨by decide +kernel, rfl⟩
theorem dc_F_counter_17 : decode prog_1_method_27_code 17 = .ok (.getfield 10, 3) ∧ 17 + 3 = 20 := ⟨by decide +kernel, rfl⟩
theorem dc_F_counter_20 : decode prog_1_method_27_code 20 = .ok (.getfield 136, 3) ∧ 20 + 3 = 23 := ⟨by decide +kernel, rfl⟩
theorem dc_F_counter_23 : decode prog_1_method_27_code 23 = .ok (.goto 34, 3) ∧ ((23 : Nat) : Int) + (34) = ((57 : Nat) : Int) := ⟨by decide +kernel, by decide⟩
theorem dc_F_counter_26 : decode prog_1_method_27_code 26 = .ok (.aload_n 0, 1) ∧ 26 + 1 = 27 := ⟨by decide +kernel, rfl⟩
theorem dc_F_counter_27 : decode prog_1_method_27_code 27 = .ok (.getfield 10, 3) ∧ 27 + 3 = 30 := ⟨by decide +kernel, rfl⟩
theorem dc_F_counter_30 : decode prog_1_method_27_code 30 = .ok (.getfield 202, 3) ∧ 30 + 3 = 33 := ⟨by decide +kernel, rfl⟩
theorem dc_F_counter_33 : decode prog_1_method_27_code 33 = .ok (.aload_n 0, 1) ∧ 33 + 1 = 34 := ⟨by decide +kernel, rfl⟩
theorem dc_F_counter_34 : decode prog_1_method_27_code 34 = .ok (.getfield 10, 3) ∧ 34 + 3 = 37 := ⟨by decide +kernel, rfl⟩
theorem dc_F_counter_37 : decode prog_1_method_27_code 37 = .ok (.getfield 205, 3) ∧ 37 + 3 = 40 := ⟨by decide +kernel, rfl⟩
theorem dc_F_counter_40 : decode prog_1_method_27_code 40 = .ok (.iadd, 1) ∧ 40 + 1 = 41 := ⟨by decide +kernel, rfl⟩
theorem dc_F_counter_41 : decode prog_1_method_27_code 41 = .ok (.aload_n 0, 1) ∧ 41 + 1 = 42 := ⟨by decide +kernel, rfl⟩
theorem dc_F_counter_42 : decode prog_1_method_27_code 42 = .ok (.getfield 10, 3) ∧ 42 + 3 = 45 := ⟨by decide +kernel, rfl⟩
theorem dc_F_counter_45 : decode prog_1_method_27_code 45 = .ok (.getfield 101, 3) ∧ 45 + 3 = 48 := ⟨by decide +kernel, rfl⟩
theorem dc_F_counter_48 : decode prog_1_method_27_code 48 = .ok (.iadd, 1) ∧ 48 + 1 = 49 := ⟨by decide +kernel, rfl⟩
theorem dc_F_counter_49 : decode prog_1_method_27_code 49 = .ok (.aload_n 0, 1) ∧ 49 + 1 = 50 := ⟨by decide +kernel, rfl⟩
theorem dc_F_counter_50 : decode prog_1_method_27_code 50 = .ok (.getfield 10, 3) ∧ 50 + 3 = 53 := ⟨by decide +kernel, rfl⟩
theorem dc_F_counter_53 : decode prog_1_method_27_code 53 = .ok (.getfield 208, 3) ∧ 53 + 3 = 56 := ⟨by decide +kernel, rfl⟩
theorem dc_F_counter_56 : decode prog_1_method_27_code 56 = .ok (.iadd, 1) ∧ 56 + 1 = 57 := ⟨by decide +kernel, rfl⟩
theorem dc_F_counter_57 : decode prog_1_method_27_code 57 = .ok (.ireturn, 1) := by decide +kernel
theorem dc_F_loadAt_0 : decode prog_1_method_20_code 0 = .ok (.iload_n 1, 1) ∧ 0 + 1 = 1 := ⟨by decide +kernel, rfl⟩
theorem dc_F_loadAt_1 : decode prog_1_method_20_code 1 = .ok (.invokestatic 58, 3) ∧ 1 + 3 = 4 := ⟨by decide +kernel, rfl⟩
theorem dc_F_loadAt_4 : decode prog_1_method_20_code 4 = .ok (.ifCond .ne 6, 3) ∧ ((4 : Nat) : Int) + (6) = ((10 : Nat) : Int) ∧ 4 + 3 = 7 := ⟨by decide +kernel, by decide, rfl⟩
theorem dc_F_loadAt_7 : decode prog_1_method_20_code 7 = .ok (.ldc 45, 2) ∧ 7 + 2 = 9 := ⟨by decide +kernel, rfl⟩
theorem dc_F_loadAt_9 : decode prog_1_method_20_code 9 = .ok (.ireturn, 1) := by decide +kernel
theorem dc_F_loadAt_10 : decode prog_1_method_20_code 10 = .ok (.aload_n 0, 1) ∧ 10 + 1 = 11 := ⟨by decide +kernel, rfl⟩
theorem dc_F_loadAt_11 : decode prog_1_method_20_code 11 = .ok (.getfield 10, 3) ∧ 11 + 3 = 14 := ⟨by decide +kernel, rfl⟩
theorem dc_F_loadAt_14 : decode prog_1_method_20_code 14 = .ok (.iload_n 1, 1) ∧ 14 + 1 = 15 := ⟨by decide +kernel, rfl⟩
theorem dc_F_loadAt_15 : decode prog_1_method_20_code 15 = .ok (.invokevirtual 170, 3) ∧ 15 + 3 = 18 := ⟨by decide +kernel, rfl⟩
theorem dc_F_loadAt_18 : decode prog_1_method_20_code 18 = .ok (.ireturn, 1) := by decide +kernel
theorem dc_F_errorAt_0 : decode prog_1_method_21_code 0 = .ok (.iload_n 1, 1) ∧ 0 + 1 = 1 := ⟨by decide +kernel, rfl⟩
theorem dc_F_errorAt_1 : decode prog_1_method_21_code 1 = .ok (.invokestatic 58, 3) ∧ 1 + 3 = 4 := ⟨by decide +kernel, rfl⟩
theorem dc_F_errorAt_4 : decode prog_1_method_21_code 4 = .ok (.ifCond .ne 6, 3) ∧ ((4 : Nat) : Int) + (6) = ((10 : Nat) : Int) ∧ 4 + 3 = 7 := ⟨by decide +kernel, by decide, rfl⟩
theorem dc_F_errorAt_7 : decode prog_1_method_21_code 7 = .ok (.ldc 45, 2) ∧ 7 + 2 = 9 := ⟨by decide +kernel, rfl⟩
theorem dc_F_errorAt_9 : decode prog_1_method_21_code 9 = .ok (.ireturn, 1) := by decide +kernel
theorem dc_F_errorAt_10 : decode prog_1_method_21_code 10 = .ok (.aload_n 0, 1) ∧ 10 + 1 = 11 := ⟨by decide +kernel, rfl⟩
theorem dc_F_errorAt_11 : decode prog_1_method_21_code 11 = .ok (.getfield 10, 3) ∧ 11 + 3 = 14 := ⟨by decide +kernel, rfl⟩
theorem dc_F_errorAt_14 : decode prog_1_method_21_code 14 = .ok (.getfield 70, 3) ∧ 14 + 3 = 17 := ⟨by decide +kernel, rfl⟩
theorem dc_F_errorAt_17 : decode prog_1_method_21_code 17 = .ok (.iload_n 1, 1) ∧ 17 + 1 = 18 := ⟨by decide +kernel, rfl⟩
theorem dc_F_errorAt_18 : decode prog_1_method_21_code 18 = .ok (.invokevirtual 173, 3) ∧ 18 + 3 = 21 := ⟨by decide +kernel, rfl⟩
theorem dc_F_errorAt_21 : decode prog_1_method_21_code 21 = .ok (.ireturn, 1) := by decide +kernel
theorem dc_F_flag_0 : decode prog_1_method_23_code 0 = .ok (.iload_n 1, 1) ∧ 0 + 1 = 1 := ⟨by decide +kernel, rfl⟩
theorem dc_F_flag_1 : decode prog_1_method_23_code 1 = .ok (.ifCond .lt 8, 3) ∧ ((1 : Nat) : Int) + (8) = ((9 : Nat) : Int) ∧ 1 + 3 = 4 := ⟨by decide +kernel, by decide, rfl⟩
theorem dc_F_flag_4 : decode prog_1_method_23_code 4 = .ok (.iload_n 1, 1) ∧ 4 + 1 = 5 := ⟨by decide +kernel, rfl⟩
theorem dc_F_flag_5 : decode prog_1_method_23_code 5 = .ok (.iconst 1, 1) ∧ 5 + 1 = 6 := ⟨by decide +kernel, rfl⟩
theorem dc_F_flag_6 : decode prog_1_method_23_code 6 = .ok (.if_icmp .le 6, 3) ∧ ((6 : Nat) : Int) + (6) = ((12 : Nat) : Int) ∧ 6 + 3 = 9 := ⟨by decide +kernel, by decide, rfl⟩
theorem dc_F_flag_9 : decode prog_1_method_23_code 9 = .ok (.ldc 45, 2) ∧ 9 + 2 = 11 := ⟨by decide +kernel, rfl⟩
theorem dc_F_flag_11 : decode prog_1_method_23_code 11 = .ok (.ireturn, 1) := by decide +kernel
theorem dc_F_flag_12 : decode prog_1_method_23_code 12 = .ok (.aload_n 0, 1) ∧ 12 + 1 = 13 := ⟨by decide +kernel, rfl⟩
theorem dc_F_flag_13 : decode prog_1_method_23_code 13 = .ok (.getfield 10, 3) ∧ 13 + 3 = 16 := ⟨by decide +kernel, rfl⟩
theorem dc_F_flag_16 : decode prog_1_method_23_code 16 = .ok (.getfield 73, 3) ∧ 16 + 3 = 19 := ⟨by decide +kernel, rfl⟩
theorem dc_F_flag_19 : decode prog_1_method_23_code 19 = .ok (.ifCond .ne 6, 3) ∧ ((19 : Nat) : Int) + (6) = ((25 : Nat) : Int) ∧ 19 + 3 = 22 := ⟨by decide +kernel, by decide, rfl⟩
theorem dc_F_flag_22 : decode prog_1_method_23_code 22 = .ok (.ldc 132, 2) ∧ 22 + 2 = 24 := ⟨by decide +kernel, rfl⟩
theorem dc_F_flag_24 : decode prog_1_method_23_code 24 = .ok (.ireturn, 1) := by decide +kernel
theorem dc_F_flag_25 : decode prog_1_method_23_code 25 = .ok (.iload_n 1, 1) ∧ 25 + 1 = 26 := ⟨by decide +kernel, rfl⟩
theorem dc_F_flag_26 : decode prog_1_method_23_code 26 = .ok (.ifCond .ne 13, 3) ∧ ((26 : Nat) : Int) + (13) = ((39 : Nat) : Int) ∧ 26 + 3 = 29 := ⟨by decide +kernel, by decide, rfl⟩
theorem dc_F_flag_29 : decode prog_1_method_23_code 29 = .ok (.aload_n 0, 1) ∧ 29 + 1 = 30 := ⟨by decide +kernel, rfl⟩
theorem dc_F_flag_30 : decode prog_1_method_23_code 30 = .ok (.getfield 10, 3) ∧ 30 + 3 = 33 := ⟨by decide +kernel, rfl⟩
theorem dc_F_flag_33 : decode prog_1_method_23_code 33 = .ok (.getfield 184, 3) ∧ 33 + 3 = 36 := ⟨by decide +kernel, rfl⟩
theorem dc_F_flag_36 : decode prog_1_method_23_code 36 = .ok (.goto 10, 3) ∧ ((36 : Nat) : Int) + (10) = ((46 : Nat) : Int) := ⟨by decide +kernel, by decide⟩
theorem dc_F_flag_39 : decode prog_1_method_23_code 39 = .ok (.aload_n 0, 1) ∧ 39 + 1 = 40 := ⟨by decide +kernel, rfl⟩
theorem dc_F_flag_40 : decode prog_1_method_23_code 40 = .ok (.getfield 10, 3) ∧ 40 + 3 = 43 := ⟨by decide +kernel, rfl⟩
theorem dc_F_flag_43 : decode prog_1_method_23_code 43 = .ok (.getfield 187, 3) ∧ 43 + 3 = 46 := ⟨by decide +kernel, rfl⟩
theorem dc_F_flag_46 : decode prog_1_method_23_code 46 = .ok (.ireturn, 1) := by decide +kernel
theorem dc_F_setNumber_0 : decode prog_1_method_2_code 0 = .ok (.iload_n 1, 1) ∧ 0 + 1 = 1 := ⟨by decide +kernel, rfl⟩
theorem dc_F_setNumber_1 : decode prog_1_method_2_code 1 = .ok (.iload_n 2, 1) ∧ 1 + 1 = 2 := ⟨by decide +kernel, rfl⟩
theorem dc_F_setNumber_2 : decode prog_1_method_2_code 2 = .ok (.invokestatic 41, 3) ∧ 2 + 3 = 5 := ⟨by decide +kernel, rfl⟩
theorem dc_F_setNumber_5 : decode prog_1_method_2_code 5 = .ok (.ifCond .ne 6, 3) ∧ ((5 : Nat) : Int) + (6) = ((11 : Nat) : Int) ∧ 5 + 3 = 8 := ⟨by decide +kernel, by decide, rfl⟩
theorem dc_F_setNumber_8 : decode prog_1_method_2_code 8 = .ok (.ldc 45, 2) ∧ 8 + 2 = 10 := ⟨by decide +kernel, rfl⟩
theorem dc_F_setNumber_10 : decode prog_1_method_2_code 10 = .ok (.ireturn, 1) := by decide +kernel
theorem dc_F_setNumber_11 : decode prog_1_method_2_code 11 = .ok (.aload_n 0, 1) ∧ 11 + 1 = 12 := ⟨by decide +kernel, rfl⟩
theorem dc_F_setNumber_12 : decode prog_1_method_2_code 12 = .ok (.getfield 10, 3) ∧ 12 + 3 = 15 := ⟨by decide +kernel, rfl⟩
theorem dc_F_setNumber_15 : decode prog_1_method_2_code 15 = .ok (.iload_n 1, 1) ∧ 15 + 1 = 16 := ⟨by decide +kernel, rfl⟩
theorem dc_F_setNumber_16 : decode prog_1_method_2_code 16 = .ok (.invokevirtual 46, 3) ∧ 16 + 3 = 19 := ⟨by decide +kernel, rfl⟩
theorem dc_F_setNumber_19 : decode prog_1_method_2_code 19 = .ok (.istore_n 3, 1) ∧ 19 + 1 = 20 := ⟨by decide +kernel, rfl⟩
theorem dc_F_setNumber_20 : decode prog_1_method_2_code 20 = .ok (.aload_n 0, 1) ∧ 20 + 1 = 21 := ⟨by decide +kernel, rfl⟩
theorem dc_F_setNumber_21 : decode prog_1_method_2_code 21 = .ok (.getfield 30, 3) ∧ 21 + 3 = 24 := ⟨by decide +kernel, rfl⟩
theorem dc_F_setNumber_24 : decode prog_1_method_2_code 24 = .ok (.aload_n 0, 1) ∧ 24 + 1 = 25 := ⟨by decide +kernel, rfl⟩
theorem dc_F_setNumber_25 : decode prog_1_method_2_code 25 = .ok (.getfield 10, 3) ∧ 25 + 3 = 28 := ⟨by decide +kernel, rfl⟩
theorem dc_F_setNumber_28 : decode prog_1_method_2_code 28 = .ok (.invokevirtual 50, 3) ∧ 28 + 3 = 31 := ⟨by decide +kernel, rfl⟩
theorem dc_F_setNumber_31 : decode prog_1_method_2_code 31 = .ok (.aload_n 0, 1) ∧ 31 + 1 = 32 := ⟨by decide +kernel, rfl⟩
theorem dc_F_setNumber_32 : decode prog_1_method_2_code 32 = .ok (.getfield 10, 3) ∧ 32 + 3 = 35 := ⟨by decide +kernel, rfl⟩
theorem dc_F_setNumber_35 : decode prog_1_method_2_code 35 = .ok (.iload_n 1, 1) ∧ 35 + 1 = 36 := ⟨by decide +kernel, rfl⟩
theorem dc_F_setNumber_36 : decode prog_1_method_2_code 36 = .ok (.iload_n 2, 1) ∧ 36 + 1 = 37 := ⟨by decide +kernel, rfl⟩
theorem dc_F_setNumber_37 : decode prog_1_method_2_code 37 = .ok (.invokevirtual 54, 3) ∧ 37 + 3 = 40 := ⟨by decide +kernel, rfl⟩
theorem dc_F_setNumber_40 : decode prog_1_method_2_code 40 = .ok (.iload_n 3, 1) ∧ 40 + 1 = 41 := ⟨by decide +kernel, rfl⟩
theorem dc_F_setNumber_41 : decode prog_1_method_2_code 41 = .ok (.ireturn, 1) := by decide +kernel
theorem dc_S_push_0 : decode prog_7_method_2_code 0 = .ok (.aload_n 0, 1) ∧ 0 + 1 = 1 := ⟨by decide +kernel, rfl⟩
theorem dc_S_push_1 : decode prog_7_method_2_code 1 = .ok (.aload_n 0, 1) ∧ 1 + 1 = 2 := ⟨by decide +kernel, rfl⟩
theorem dc_S_push_2 : decode prog_7_method_2_code 2 = .ok (.getfield 16, 3) ∧ 2 + 3 = 5 := ⟨by decide +kernel, rfl⟩
theorem dc_S_push_5 : decode prog_7_method_2_code 5 = .ok (.invokevirtual 23, 3) ∧ 5 + 3 = 8 := ⟨by decide +kernel, rfl⟩
theorem dc_S_push_8 : decode prog_7_method_2_code 8 = .ok (.astore_n 2, 1) ∧ 8 + 1 = 9 := ⟨by decide +kernel, rfl⟩
theorem dc_S_push_9 : decode prog_7_method_2_code 9 = .ok (.aload_n 2, 1) ∧ 9 + 1 = 10 := ⟨by decide +kernel, rfl⟩
theorem dc_S_push_10 : decode prog_7_method_2_code 10 = .ok (.ifnonnull 4, 3) ∧ ((10 : Nat) : Int) + (4) = ((14 : Nat) : Int) ∧ 10 + 3 = 13 := ⟨by decide +kernel, by decide, rfl⟩
theorem dc_S_push_13 : decode prog_7_method_2_code 13 = .ok (.return_, 1) := by decide +kernel
theorem dc_S_push_14 : decode prog_7_method_2_code 14 = .ok (.aload_n 2, 1) ∧ 14 + 1 = 15 := ⟨by decide +kernel, rfl⟩
theorem dc_S_push_15 : decode prog_7_method_2_code 15 = .ok (.aload_n 1, 1) ∧ 15 + 1 = 16 := ⟨by decide +kernel, rfl⟩
theorem dc_S_push_16 : decode prog_7_method_2_code 16 = .ok (.invokevirtual 27, 3) ∧ 16 + 3 = 19 := ⟨by decide +kernel, rfl⟩
theorem dc_S_push_19 : decode prog_7_method_2_code 19 = .ok (.aload_n 0, 1) ∧ 19 + 1 = 20 := ⟨by decide +kernel, rfl⟩
theorem dc_S_push_20 : decode prog_7_method_2_code 20 = .ok (.aload_n 0, 1) ∧ 20 + 1 = 21 := ⟨by decide +kernel, rfl⟩
theorem dc_S_push_21 : decode prog_7_method_2_code 21 = .ok (.getfield 16, 3) ∧ 21 + 3 = 24 := ⟨by decide +kernel, rfl⟩
theorem dc_S_push_24 : decode prog_7_method_2_code 24 = .ok (.iconst 1, 1) ∧ 24 + 1 = 25 := ⟨by decide +kernel, rfl⟩
theorem dc_S_push_25 : decode prog_7_method_2_code 25 = .ok (.iadd, 1) ∧ 25 + 1 = 26 := ⟨by decide +kernel, rfl⟩
theorem dc_S_push_26 : decode prog_7_method_2_code 26 = .ok (.bipush 6, 2) ∧ 26 + 2 = 28 := ⟨by decide +kernel, rfl⟩
theorem dc_S_push_28 : decode prog_7_method_2_code 28 = .ok (.irem, 1) ∧ 28 + 1 = 29 := ⟨by decide +kernel, rfl⟩
theorem dc_S_push_29 : decode prog_7_method_2_code 29 = .ok (.putfield 16, 3) ∧ 29 + 3 = 32 := ⟨by decide +kernel, rfl⟩
theorem dc_S_push_32 : decode prog_7_method_2_code 32 = .ok (.aload_n 0, 1) ∧ 32 + 1 = 33 := ⟨by decide +kernel, rfl⟩
theorem dc_S_push_33 : decode prog_7_method_2_code 33 = .ok (.aload_n 0, 1) ∧ 33 + 1 = 34 := ⟨by decide +kernel, rfl⟩
theorem dc_S_push_34 : decode prog_7_method_2_code 34 = .ok (.getfield 20, 3) ∧ 34 + 3 = 37 := ⟨by decide +kernel, rfl⟩
theorem dc_S_push_37 : decode prog_7_method_2_code 37 = .ok (.iconst 1, 1) ∧ 37 + 1 = 38 := ⟨by decide +kernel, rfl⟩
theorem dc_S_push_38 : decode prog_7_method_2_code 38 = .ok (.iadd, 1) ∧ 38 + 1 = 39 := ⟨by decide +kernel, rfl⟩
theorem dc_S_push_39 : decode prog_7_method_2_code 39 = .ok (.bipush 6, 2) ∧ 39 + 2 = 41 := ⟨by decide +kernel, rfl⟩
theorem dc_S_push_41 : decode prog_7_method_2_code 41 = .ok (.invokestatic 31, 3) ∧ 41 + 3 = 44 := ⟨by decide +kernel, rfl⟩
theorem dc_S_push_44 : decode prog_7_method_2_code 44 = .ok (.putfield 20, 3) ∧ 44 + 3 = 47 := ⟨by decide +kernel, rfl⟩
theorem dc_S_push_47 : decode prog_7_method_2_code 47 = .ok (.return_, 1) := by decide +kernel
theorem dc_F_setLoad_0 : decode prog_1_method_3_code 0 = .ok (.iload_n 1, 1) ∧ 0 + 1 = 1 := ⟨by decide +kernel, rfl⟩
theorem dc_F_setLoad_1 : decode prog_1_method_3_code 1 = .ok (.invokestatic 58, 3) ∧ 1 + 3 = 4 := ⟨by decide +kernel, rfl⟩
theorem dc_F_setLoad_4 : decode prog_1_method_3_code 4 = .ok (.ifCond .eq 15, 3) ∧ ((4 : Nat) : Int) + (15) = ((19 : Nat) : Int) ∧ 4 + 3 = 7 := ⟨by decide +kernel, by decide, rfl⟩
theorem dc_F_setLoad_7 : decode prog_1_method_3_code 7 = .ok (.iload_n 2, 1) ∧ 7 + 1 = 8 := ⟨by decide +kernel, rfl⟩
theorem dc_F_setLoad_8 : decode prog_1_method_3_code 8 = .ok (.iconst (-1), 1) ∧ 8 + 1 = 9 := ⟨by decide +kernel, rfl⟩
theorem dc_F_setLoad_9 : decode prog_1_method_3_code 9 = .ok (.if_icmp .lt 10, 3) ∧ ((9 : Nat) : Int) + (10) = ((19 : Nat) : Int) ∧ 9 + 3 = 12 := ⟨by decide +kernel, by decide, rfl⟩
theorem dc_F_setLoad_12 : decode prog_1_method_3_code 12 = .ok (.iload_n 2, 1) ∧ 12 + 1 = 13 := ⟨by decide +kernel, rfl⟩
theorem dc_F_setLoad_13 : decode prog_1_method_3_code 13 = .ok (.sipush 200, 3) ∧ 13 + 3 = 16 := ⟨by decide +kernel, rfl⟩
theorem dc_F_setLoad_16 : decode prog_1_method_3_code 16 = .ok (.if_icmp .le 6, 3) ∧ ((16 : Nat) : Int) + (6) = ((22 : Nat) : Int) ∧ 16 + 3 = 19 := ⟨by decide +kernel, by decide, rfl⟩
theorem dc_F_setLoad_19 : decode prog_1_method_3_code 19 = .ok (.ldc 45, 2) ∧ 19 + 2 = 21 := ⟨by decide +kernel, rfl⟩
theorem dc_F_setLoad_21 : decode prog_1_method_3_code 21 = .ok (.ireturn, 1) := by decide +kernel
theorem dc_F_setLoad_22 : decode prog_1_method_3_code 22 = .ok (.aload_n 0, 1) ∧ 22 + 1 = 23 := ⟨by decide +kernel, rfl⟩
theorem dc_F_setLoad_23 : decode prog_1_method_3_code 23 = .ok (.aload_n 0, 1) ∧ 23 + 1 = 24 := ⟨by decide +kernel, rfl⟩
theorem dc_F_setLoad_24 : decode prog_1_method_3_code 24 = .ok (.getfield 10, 3) ∧ 24 + 3 = 27 := ⟨by decide +kernel, rfl⟩
theorem dc_F_setLoad_27 : decode prog_1_method_3_code 27 = .ok (.getfield 62, 3) ∧ 27 + 3 = 30 := ⟨by decide +kernel, rfl⟩
theorem dc_F_setLoad_30 : decode prog_1_method_3_code 30 = .ok (.iload_n 1, 1) ∧ 30 + 1 = 31 := ⟨by decide +kernel, rfl⟩
theorem dc_F_setLoad_31 : decode prog_1_method_3_code 31 = .ok (.iload_n 2, 1) ∧ 31 + 1 = 32 := ⟨by decide +kernel, rfl⟩
theorem dc_F_setLoad_32 : decode prog_1_method_3_code 32 = .ok (.iconst (-1), 1) ∧ 32 + 1 = 33 := ⟨by decide +kernel, rfl⟩
theorem dc_F_setLoad_33 : decode prog_1_method_3_code 33 = .ok (.invokevirtual 66, 3) ∧ 33 + 3 = 36 := ⟨by decide +kernel, rfl⟩
theorem dc_F_setLoad_36 : decode prog_1_method_3_code 36 = .ok (.ireturn, 1) := by decide +kernel
theorem dc_F_setPoint_0 : decode prog_1_method_30_code 0 = .ok (.aload_n 1, 1) ∧ 0 + 1 = 1 := ⟨by decide +kernel, rfl⟩
theorem dc_F_setPoint_1 : decode prog_1_method_30_code 1 = .ok (.iload_n 2, 1) ∧ 1 + 1 = 2 := ⟨by decide +kernel, rfl⟩
theorem dc_F_setPoint_2 : decode prog_1_method_30_code 2 = .ok (.iload 4, 2) ∧ 2 + 2 = 4 := ⟨by decide +kernel, rfl⟩
theorem dc_F_setPoint_4 : decode prog_1_method_30_code 4 = .ok (.invokevirtual 211, 3) ∧ 4 + 3 = 7 := ⟨by decide +kernel, rfl⟩
theorem dc_F_setPoint_7 : decode prog_1_method_30_code 7 = .ok (.istore 5, 2) ∧ 7 + 2 = 9 := ⟨by decide +kernel, rfl⟩
theorem dc_F_setPoint_9 : decode prog_1_method_30_code 9 = .ok (.iload_n 3, 1) ∧ 9 + 1 = 10 := ⟨by decide +kernel, rfl⟩
theorem dc_F_setPoint_10 : decode prog_1_method_30_code 10 = .ok (.iload 4, 2) ∧ 10 + 2 = 12 := ⟨by decide +kernel, rfl⟩
theorem dc_F_setPoint_12 : decode prog_1_method_30_code 12 = .ok (.if_icmp .ne 32, 3) ∧ ((12 : Nat) : Int) + (32) = ((44 : Nat) : Int) ∧ 12 + 3 = 15 := ⟨by decide +kernel, by decide, rfl⟩
theorem dc_F_setPoint_15 : decode prog_1_method_30_code 15 = .ok (.iload 5, 2) ∧ 15 + 2 = 17 := ⟨by decide +kernel, rfl⟩
theorem dc_F_setPoint_17 : decode prog_1_method_30_code 17 = .ok (.iload 4, 2) ∧ 17 + 2 = 19 := ⟨by decide +kernel, rfl⟩
theorem dc_F_setPoint_19 : decode prog_1_method_30_code 19 = .ok (.if_icmp .ne 6, 3) ∧ ((19 : Nat) : Int) + (6) = ((25 : Nat) : Int) ∧ 19 + 3 = 22 := ⟨by decide +kernel, by decide, rfl⟩
theorem dc_F_setPoint_22 : decode prog_1_method_30_code 22 = .ok (.ldc 100, 2) ∧ 22 + 2 = 24 := ⟨by decide +kernel, rfl⟩
theorem dc_F_setPoint_24 : decode prog_1_method_30_code 24 = .ok (.ireturn, 1) := by decide +kernel
theorem dc_F_setPoint_25 : decode prog_1_method_30_code 25 = .ok (.aload_n 0, 1) ∧ 25 + 1 = 26 := ⟨by decide +kernel, rfl⟩
theorem dc_F_setPoint_26 : decode prog_1_method_30_code 26 = .ok (.getfield 30, 3) ∧ 26 + 3 = 29 := ⟨by decide +kernel, rfl⟩
theorem dc_F_setPoint_29 : decode prog_1_method_30_code 29 = .ok (.aload_n 0, 1) ∧ 29 + 1 = 30 := ⟨by decide +kernel, rfl⟩
theorem dc_F_setPoint_30 : decode prog_1_method_30_code 30 = .ok (.getfield 10, 3) ∧ 30 + 3 = 33 := ⟨by decide +kernel, rfl⟩
theorem dc_F_setPoint_33 : decode prog_1_method_30_code 33 = .ok (.invokevirtual 50, 3) ∧ 33 + 3 = 36 := ⟨by decide +kernel, rfl⟩
theorem dc_F_setPoint_36 : decode prog_1_method_30_code 36 = .ok (.aload_n 1, 1) ∧ 36 + 1 = 37 := ⟨by decide +kernel, rfl⟩
theorem dc_F_setPoint_37 : decode prog_1_method_30_code 37 = .ok (.iload_n 2, 1) ∧ 37 + 1 = 38 := ⟨by decide +kernel, rfl⟩
theorem dc_F_setPoint_38 : decode prog_1_method_30_code 38 = .ok (.invokevirtual 215, 3) ∧ 38 + 3 = 41 := ⟨by decide +kernel, rfl⟩
theorem dc_F_setPoint_41 : decode prog_1_method_30_code 41 = .ok (.iload 5, 2) ∧ 41 + 2 = 43 := ⟨by decide +kernel, rfl⟩
theorem dc_F_setPoint_43 : decode prog_1_method_30_code 43 = .ok (.ireturn, 1) := by decide +kernel
theorem dc_F_setPoint_44 : decode prog_1_method_30_code 44 = .ok (.aload_n 1, 1) ∧ 44 + 1 = 45 := ⟨by decide +kernel, rfl⟩
theorem dc_F_setPoint_45 : decode prog_1_method_30_code 45 = .ok (.iload_n 2, 1) ∧ 45 + 1 = 46 := ⟨by decide +kernel, rfl⟩
theorem dc_F_setPoint_46 : decode prog_1_method_30_code 46 = .ok (.invokevirtual 218, 3) ∧ 46 + 3 = 49 := ⟨by decide +kernel, rfl⟩
theorem dc_F_setPoint_49 : decode prog_1_method_30_code 49 = .ok (.ifCond .ne 6, 3) ∧ ((49 : Nat) : Int) + (6) = ((55 : Nat) : Int) ∧ 49 + 3 = 52 := ⟨by decide +kernel, by decide, rfl⟩
theorem dc_F_setPoint_52 : decode prog_1_method_30_code 52 = .ok (.ldc 83, 2) ∧ 52 + 2 = 54 := ⟨by decide +kernel, rfl⟩
theorem dc_F_setPoint_54 : decode prog_1_method_30_code 54 = .ok (.ireturn, 1) := by decide +kernel
theorem dc_F_setPoint_55 : decode prog_1_method_30_code 55 = .ok (.aload_n 0, 1) ∧ 55 + 1 = 56 := ⟨by decide +kernel, rfl⟩
theorem dc_F_setPoint_56 : decode prog_1_method_30_code 56 = .ok (.getfield 30, 3) ∧ 56 + 3 = 59 := ⟨by decide +kernel, rfl⟩
theorem dc_F_setPoint_59 : decode prog_1_method_30_code 59 = .ok (.aload_n 0, 1) ∧ 59 + 1 = 60 := ⟨by decide +kernel, rfl⟩
theorem dc_F_setPoint_60 : decode prog_1_method_30_code 60 = .ok (.getfield 10, 3) ∧ 60 + 3 = 63 := ⟨by decide +kernel, rfl⟩
theorem dc_F_setPoint_63 : decode prog_1_method_30_code 63 = .ok (.invokevirtual 50, 3) ∧ 63 + 3 = 66 := ⟨by decide +kernel, rfl⟩
theorem dc_F_setPoint_66 : decode prog_1_method_30_code 66 = .ok (.aload_n 1, 1) ∧ 66 + 1 = 67 := ⟨by decide +kernel, rfl⟩
theorem dc_F_setPoint_67 : decode prog_1_method_30_code 67 = .ok (.iload_n 2, 1) ∧ 67 + 1 = 68 := ⟨by decide +kernel, rfl⟩
theorem dc_F_setPoint_68 : decode prog_1_method_30_code 68 = .ok (.iload_n 3, 1) ∧ 68 + 1 = 69 := ⟨by decide +kernel, rfl⟩
theorem dc_F_setPoint_69 : decode prog_1_method_30_code 69 = .ok (.invokevirtual 221, 3) ∧ 69 + 3 = 72 := ⟨by decide +kernel, rfl⟩
theorem dc_F_setPoint_72 : decode prog_1_method_30_code 72 = .ok (.iload 5, 2) ∧ 72 + 2 = 74 := ⟨by decide +kernel, rfl⟩
theorem dc_F_setPoint_74 : decode prog_1_method_30_code 74 = .ok (.ireturn, 1) := by decide +kernel
theorem dc_P_valueAt_0 : decode prog_5_method_2_code 0 = .ok (.aload_n 0, 1) ∧ 0 + 1 = 1 := ⟨by decide +kernel, rfl⟩
theorem dc_P_valueAt_1 : decode prog_5_method_2_code 1 = .ok (.iload_n 1, 1) ∧ 1 + 1 = 2 := ⟨by decide +kernel, rfl⟩
theorem dc_P_valueAt_2 : decode prog_5_method_2_code 2 = .ok (.invokevirtual 11, 3) ∧ 2 + 3 = 5 := ⟨by decide +kernel, rfl⟩
theorem dc_P_valueAt_5 : decode prog_5_method_2_code 5 = .ok (.istore_n 3, 1) ∧ 5 + 1 = 6 := ⟨by decide +kernel, rfl⟩
theorem dc_P_valueAt_6 : decode prog_5_method_2_code 6 = .ok (.aload_n 0, 1) ∧ 6 + 1 = 7 := ⟨by decide +kernel, rfl⟩
theorem dc_P_valueAt_7 : decode prog_5_method_2_code 7 = .ok (.iload_n 3, 1) ∧ 7 + 1 = 8 := ⟨by decide +kernel, rfl⟩
theorem dc_P_valueAt_8 : decode prog_5_method_2_code 8 = .ok (.iload_n 1, 1) ∧ 8 + 1 = 9 := ⟨by decide +kernel, rfl⟩
theorem dc_P_valueAt_9 : decode prog_5_method_2_code 9 = .ok (.invokevirtual 15, 3) ∧ 9 + 3 = 12 := ⟨by decide +kernel, rfl⟩
theorem dc_P_valueAt_12 : decode prog_5_method_2_code 12 = .ok (.ifCond .eq 14, 3) ∧ ((12 : Nat) : Int) + (14) = ((26 : Nat) : Int) ∧ 12 + 3 = 15 := ⟨by decide +kernel, by decide, rfl⟩
theorem dc_P_valueAt_15 : decode prog_5_method_2_code 15 = .ok (.aload_n 0, 1) ∧ 15 + 1 = 16 := ⟨by decide +kernel, rfl⟩
theorem dc_P_valueAt_16 : decode prog_5_method_2_code 16 = .ok (.getfield 19, 3) ∧ 16 + 3 = 19 := ⟨by decide +kernel, rfl⟩
theorem dc_P_valueAt_19 : decode prog_5_method_2_code 19 = .ok (.iload_n 3, 1) ∧ 19 + 1 = 20 := ⟨by decide +kernel, rfl⟩
theorem dc_P_valueAt_20 : decode prog_5_method_2_code 20 = .ok (.invokestatic 23, 3) ∧ 20 + 3 = 23 := ⟨by decide +kernel, rfl⟩
theorem dc_P_valueAt_23 : decode prog_5_method_2_code 23 = .ok (.goto 4, 3) ∧ ((23 : Nat) : Int) + (4) = ((27 : Nat) : Int) := ⟨by decide +kernel, by decide⟩
theorem dc_P_valueAt_26 : decode prog_5_method_2_code 26 = .ok (.iload_n 2, 1) ∧ 26 + 1 = 27 := ⟨by decide +kernel, rfl⟩
theorem dc_P_valueAt_27 : decode prog_5_method_2_code 27 = .ok (.ireturn, 1) := by decide +kernel
theorem dc_P_isAt_0 : decode prog_5_method_10_code 0 = .ok (.iload_n 1, 1) ∧ 0 + 1 = 1 := ⟨by decide +kernel, rfl⟩
theorem dc_P_isAt_1 : decode prog_5_method_10_code 1 = .ok (.ifCond .lt 19, 3) ∧ ((1 : Nat) : Int) + (19) = ((20 : Nat) : Int) ∧ 1 + 3 = 4 := ⟨by decide +kernel, by decide, rfl⟩
theorem dc_P_isAt_4 : decode prog_5_method_10_code 4 = .ok (.aload_n 0, 1) ∧ 4 + 1 = 5 := ⟨by decide +kernel, rfl⟩
theorem dc_P_isAt_5 : decode prog_5_method_10_code 5 = .ok (.getfield 29, 3) ∧ 5 + 3 = 8 := ⟨by decide +kernel, rfl⟩
theorem dc_P_isAt_8 : decode prog_5_method_10_code 8 = .ok (.iload_n 1, 1) ∧ 8 + 1 = 9 := ⟨by decide +kernel, rfl⟩
theorem dc_P_isAt_9 : decode prog_5_method_10_code 9 = .ok (.invokestatic 23, 3) ∧ 9 + 3 = 12 := ⟨by decide +kernel, rfl⟩
theorem dc_P_isAt_12 : decode prog_5_method_10_code 12 = .ok (.iload_n 2, 1) ∧ 12 + 1 = 13 := ⟨by decide +kernel, rfl⟩
theorem dc_P_isAt_13 : decode prog_5_method_10_code 13 = .ok (.if_icmp .ne 7, 3) ∧ ((13 : Nat) : Int) + (7) = ((20 : Nat) : Int) ∧ 13 + 3 = 16 := ⟨by decide +kernel, by decide, rfl⟩
theorem dc_P_isAt_16 : decode prog_5_method_10_code 16 = .ok (.iconst 1, 1) ∧ 16 + 1 = 17 := ⟨by decide +kernel, rfl⟩
theorem dc_P_isAt_17 : decode prog_5_method_10_code 17 = .ok (.goto 4, 3) ∧ ((17 : Nat) : Int) + (4) = ((21 : Nat) : Int) := ⟨by decide +kernel, by decide⟩
theorem dc_P_isAt_20 : decode prog_5_method_10_code 20 = .ok (.iconst 0, 1) ∧ 20 + 1 = 21 := ⟨by decide +kernel, rfl⟩
theorem dc_P_isAt_21 : decode prog_5_method_10_code 21 = .ok (.ireturn, 1) := by decide +kernel
theorem dc_P_remove_0 : decode prog_5_method_9_code 0 = .ok (.aload_n 0, 1) ∧ 0 + 1 = 1 := ⟨by decide +kernel, rfl⟩
theorem dc_P_remove_1 : decode prog_5_method_9_code 1 = .ok (.iload_n 1, 1) ∧ 1 + 1 = 2 := ⟨by decide +kernel, rfl⟩
theorem dc_P_remove_2 : decode prog_5_method_9_code 2 = .ok (.invokevirtual 11, 3) ∧ 2 + 3 = 5 := ⟨by decide +kernel, rfl⟩
theorem dc_P_remove_5 : decode prog_5_method_9_code 5 = .ok (.istore_n 2, 1) ∧ 5 + 1 = 6 := ⟨by decide +kernel, rfl⟩
theorem dc_P_remove_6 : decode prog_5_method_9_code 6 = .ok (.aload_n 0, 1) ∧ 6 + 1 = 7 := ⟨by decide +kernel, rfl⟩
theorem dc_P_remove_7 : decode prog_5_method_9_code 7 = .ok (.iload_n 2, 1) ∧ 7 + 1 = 8 := ⟨by decide +kernel, rfl⟩
theorem dc_P_remove_8 : decode prog_5_method_9_code 8 = .ok (.iload_n 1, 1) ∧ 8 + 1 = 9 := ⟨by decide +kernel, rfl⟩
theorem dc_P_remove_9 : decode prog_5_method_9_code 9 = .ok (.invokevirtual 15, 3) ∧ 9 + 3 = 12 := ⟨by decide +kernel, rfl⟩
theorem dc_P_remove_12 : decode prog_5_method_9_code 12 = .ok (.ifCond .eq 8, 3) ∧ ((12 : Nat) : Int) + (8) = ((20 : Nat) : Int) ∧ 12 + 3 = 15 := ⟨by decide +kernel, by decide, rfl⟩
theorem dc_P_remove_15 : decode prog_5_method_9_code 15 = .ok (.aload_n 0, 1) ∧ 15 + 1 = 16 := ⟨by decide +kernel, rfl⟩
theorem dc_P_remove_16 : decode prog_5_method_9_code 16 = .ok (.iload_n 2, 1) ∧ 16 + 1 = 17 := ⟨by decide +kernel, rfl⟩
theorem dc_P_remove_17 : decode prog_5_method_9_code 17 = .ok (.invokevirtual 56, 3) ∧ 17 + 3 = 20 := ⟨by decide +kernel, rfl⟩
theorem dc_P_remove_20 : decode prog_5_method_9_code 20 = .ok (.return_, 1) := by decide +kernel
theorem dc_Q_removeAt_0 : decode prog_4_method_5_code 0 = .ok (.iload_n 1, 1) ∧ 0 + 1 = 1 := ⟨by decide +kernel, rfl⟩
theorem dc_Q_removeAt_1 : decode prog_4_method_5_code 1 = .ok (.istore_n 2, 1) ∧ 1 + 1 = 2 := ⟨by decide +kernel, rfl⟩
theorem dc_Q_removeAt_2 : decode prog_4_method_5_code 2 = .ok (.iload_n 2, 1) ∧ 2 + 1 = 3 := ⟨by decide +kernel, rfl⟩
theorem dc_Q_removeAt_3 : decode prog_4_method_5_code 3 = .ok (.aload_n 0, 1) ∧ 3 + 1 = 4 := ⟨by decide +kernel, rfl⟩
theorem dc_Q_removeAt_4 : decode prog_4_method_5_code 4 = .ok (.getfield 22, 3) ∧ 4 + 3 = 7 := ⟨by decide +kernel, rfl⟩
theorem dc_Q_removeAt_7 : decode prog_4_method_5_code 7 = .ok (.iconst 1, 1) ∧ 7 + 1 = 8 := ⟨by decide +kernel, rfl⟩
theorem dc_Q_removeAt_8 : decode prog_4_method_5_code 8 = .ok (.isub, 1) ∧ 8 + 1 = 9 := ⟨by decide +kernel, rfl⟩
theorem dc_Q_removeAt_9 : decode prog_4_method_5_code 9 = .ok (.if_icmp .ge 45, 3) ∧ ((9 : Nat) : Int) + (45) = ((54 : Nat) : Int) ∧ 9 + 3 = 12 := ⟨by decide +kernel, by decide, rfl⟩
theorem dc_Q_removeAt_12 : decode prog_4_method_5_code 12 = .ok (.aload_n 0, 1) ∧ 12 + 1 = 13 := ⟨by decide +kernel, rfl⟩
theorem dc_Q_removeAt_13 : decode prog_4_method_5_code 13 = .ok (.getfield 13, 3) ∧ 13 + 3 = 16 := ⟨by decide +kernel, rfl⟩
theorem dc_Q_removeAt_16 : decode prog_4_method_5_code 16 = .ok (.iload_n 2, 1) ∧ 16 + 1 = 17 := ⟨by decide +kernel, rfl⟩
theorem dc_Q_removeAt_17 : decode prog_4_method_5_code 17 = .ok (.aload_n 0, 1) ∧ 17 + 1 = 18 := ⟨by decide +kernel, rfl⟩
theorem dc_Q_removeAt_18 : decode prog_4_method_5_code 18 = .ok (.getfield 13, 3) ∧ 18 + 3 = 21 := ⟨by decide +kernel, rfl⟩
theorem dc_Q_removeAt_21 : decode prog_4_method_5_code 21 = .ok (.iload_n 2, 1) ∧ 21 + 1 = 22 := ⟨by decide +kernel, rfl⟩
theorem dc_Q_removeAt_22 : decode prog_4_method_5_code 22 = .ok (.iconst 1, 1) ∧ 22 + 1 = 23 := ⟨by decide +kernel, rfl⟩
theorem dc_Q_removeAt_23 : decode prog_4_method_5_code 23 = .ok (.iadd, 1) ∧ 23 + 1 = 24 := ⟨by decide +kernel, rfl⟩
theorem dc_Q_removeAt_24 : decode prog_4_method_5_code 24 = .ok (.invokestatic 32, 3) ∧ 24 + 3 = 27 := ⟨by decide +kernel, rfl⟩
theorem dc_Q_removeAt_27 : decode prog_4_method_5_code 27 = .ok (.invokestatic 36, 3) ∧ 27 + 3 = 30 := ⟨by decide +kernel, rfl⟩
theorem dc_Q_removeAt_30 : decode prog_4_method_5_code 30 = .ok (.aload_n 0, 1) ∧ 30 + 1 = 31 := ⟨by decide +kernel, rfl⟩
theorem dc_Q_removeAt_31 : decode prog_4_method_5_code 31 = .ok (.getfield 19, 3) ∧ 31 + 3 = 34 := ⟨by decide +kernel, rfl⟩
theorem dc_Q_removeAt_34 : decode prog_4_method_5_code 34 = .ok (.iload_n 2, 1) ∧ 34 + 1 = 35 := ⟨by decide +kernel, rfl⟩
theorem dc_Q_removeAt_35 : decode prog_4_method_5_code 35 = .ok (.aload_n 0, 1) ∧ 35 + 1 = 36 := ⟨by decide +kernel, rfl⟩
theorem dc_Q_removeAt_36 : decode prog_4_method_5_code 36 = .ok (.getfield 19, 3) ∧ 36 + 3 = 39 := ⟨by decide +kernel, rfl⟩
theorem dc_Q_removeAt_39 : decode prog_4_method_5_code 39 = .ok (.iload_n 2, 1) ∧ 39 + 1 = 40 := ⟨by decide +kernel, rfl⟩
theorem dc_Q_removeAt_40 : decode prog_4_method_5_code 40 = .ok (.iconst 1, 1) ∧ 40 + 1 = 41 := ⟨by decide +kernel, rfl⟩
theorem dc_Q_removeAt_41 : decode prog_4_method_5_code 41 = .ok (.iadd, 1) ∧ 41 + 1 = 42 := ⟨by decide +kernel, rfl⟩
theorem dc_Q_removeAt_42 : decode prog_4_method_5_code 42 = .ok (.invokestatic 32, 3) ∧ 42 + 3 = 45 := ⟨by decide +kernel, rfl⟩
theorem dc_Q_removeAt_45 : decode prog_4_method_5_code 45 = .ok (.invokestatic 36, 3) ∧ 45 + 3 = 48 := ⟨by decide +kernel, rfl⟩
theorem dc_Q_removeAt_48 : decode prog_4_method_5_code 48 = .ok (.iinc 2 1, 3) ∧ 48 + 3 = 51 := ⟨by decide +kernel, rfl⟩
theorem dc_Q_removeAt_51 : decode prog_4_method_5_code 51 = .ok (.goto (-49), 3) ∧ ((51 : Nat) : Int) + (-49) = ((2 : Nat) : Int) := ⟨by decide +kernel, by decide⟩
theorem dc_Q_removeAt_54 : decode prog_4_method_5_code 54 = .ok (.aload_n 0, 1) ∧ 54 + 1 = 55 := ⟨by decide +kernel, rfl⟩
theorem dc_Q_removeAt_55 : decode prog_4_method_5_code 55 = .ok (.dup, 1) ∧ 55 + 1 = 56 := ⟨by decide +kernel, rfl⟩
theorem dc_Q_removeAt_56 : decode prog_4_method_5_code 56 = .ok (.getfield 22, 3) ∧ 56 + 3 = 59 := ⟨by decide +kernel, rfl⟩
theorem dc_Q_removeAt_59 : decode prog_4_method_5_code 59 = .ok (.iconst 1, 1) ∧ 59 + 1 = 60 := ⟨by decide +kernel, rfl⟩
theorem dc_Q_removeAt_60 : decode prog_4_method_5_code 60 = .ok (.isub, 1) ∧ 60 + 1 = 61 := ⟨by decide +kernel, rfl⟩
theorem dc_Q_removeAt_61 : decode prog_4_method_5_code 61 = .ok (.putfield 22, 3) ∧ 61 + 3 = 64 := ⟨by decide +kernel, rfl⟩
theorem dc_Q_removeAt_64 : decode prog_4_method_5_code 64 = .ok (.return_, 1) := by decide +kernel
theorem dc_P_hasRoomFor_0 : decode prog_5_method_7_code 0 = .ok (.aload_n 0, 1) ∧ 0 + 1 = 1 := ⟨by decide +kernel, rfl⟩
theorem dc_P_hasRoomFor_1 : decode prog_5_method_7_code 1 = .ok (.invokevirtual 44, 3) ∧ 1 + 3 = 4 := ⟨by decide +kernel, rfl⟩
theorem dc_P_hasRoomFor_4 : decode prog_5_method_7_code 4 = .ok (.ifCond .eq 16, 3) ∧ ((4 : Nat) : Int) + (16) = ((20 : Nat) : Int) ∧ 4 + 3 = 7 := ⟨by decide +kernel, by decide, rfl⟩
theorem dc_P_hasRoomFor_7 : decode prog_5_method_7_code 7 = .ok (.aload_n 0, 1) ∧ 7 + 1 = 8 := ⟨by decide +kernel, rfl⟩
theorem dc_P_hasRoomFor_8 : decode prog_5_method_7_code 8 = .ok (.aload_n 0, 1) ∧ 8 + 1 = 9 := ⟨by decide +kernel, rfl⟩
theorem dc_P_hasRoomFor_9 : decode prog_5_method_7_code 9 = .ok (.iload_n 1, 1) ∧ 9 + 1 = 10 := ⟨by decide +kernel, rfl⟩
theorem dc_P_hasRoomFor_10 : decode prog_5_method_7_code 10 = .ok (.invokevirtual 11, 3) ∧ 10 + 3 = 13 := ⟨by decide +kernel, rfl⟩
theorem dc_P_hasRoomFor_13 : decode prog_5_method_7_code 13 = .ok (.iload_n 1, 1) ∧ 13 + 1 = 14 := ⟨by decide +kernel, rfl⟩
theorem dc_P_hasRoomFor_14 : decode prog_5_method_7_code 14 = .ok (.invokevirtual 15, 3) ∧ 14 + 3 = 17 := ⟨by decide +kernel, rfl⟩
theorem dc_P_hasRoomFor_17 : decode prog_5_method_7_code 17 = .ok (.ifCond .eq 7, 3) ∧ ((17 : Nat) : Int) + (7) = ((24 : Nat) : Int) ∧ 17 + 3 = 20 := ⟨by decide +kernel, by decide, rfl⟩
theorem dc_P_hasRoomFor_20 : decode prog_5_method_7_code 20 = .ok (.iconst 1, 1) ∧ 20 + 1 = 21 := ⟨by decide +kernel, rfl⟩
theorem dc_P_hasRoomFor_21 : decode prog_5_method_7_code 21 = .ok (.goto 4, 3) ∧ ((21 : Nat) : Int) + (4) = ((25 : Nat) : Int) := ⟨by decide +kernel, by decide⟩
theorem dc_P_hasRoomFor_24 : decode prog_5_method_7_code 24 = .ok (.iconst 0, 1) ∧ 24 + 1 = 25 := ⟨by decide +kernel, rfl⟩
theorem dc_P_hasRoomFor_25 : decode prog_5_method_7_code 25 = .ok (.ireturn, 1) := by decide +kernel
theorem dc_Q_isFull_0 : decode prog_4_method_3_code 0 = .ok (.aload_n 0, 1) ∧ 0 + 1 = 1 := ⟨by decide +kernel, rfl⟩
theorem dc_Q_isFull_1 : decode prog_4_method_3_code 1 = .ok (.getfield 22, 3) ∧ 1 + 3 = 4 := ⟨by decide +kernel, rfl⟩
theorem dc_Q_isFull_4 : decode prog_4_method_3_code 4 = .ok (.aload_n 0, 1) ∧ 4 + 1 = 5 := ⟨by decide +kernel, rfl⟩
theorem dc_Q_isFull_5 : decode prog_4_method_3_code 5 = .ok (.getfield 13, 3) ∧ 5 + 3 = 8 := ⟨by decide +kernel, rfl⟩
theorem dc_Q_isFull_8 : decode prog_4_method_3_code 8 = .ok (.arraylength, 1) ∧ 8 + 1 = 9 := ⟨by decide +kernel, rfl⟩
theorem dc_Q_isFull_9 : decode prog_4_method_3_code 9 = .ok (.if_icmp .lt 7, 3) ∧ ((9 : Nat) : Int) + (7) = ((16 : Nat) : Int) ∧ 9 + 3 = 12 := ⟨by decide +kernel, by decide, rfl⟩
theorem dc_Q_isFull_12 : decode prog_4_method_3_code 12 = .ok (.iconst 1, 1) ∧ 12 + 1 = 13 := ⟨by decide +kernel, rfl⟩
theorem dc_Q_isFull_13 : decode prog_4_method_3_code 13 = .ok (.goto 4, 3) ∧ ((13 : Nat) : Int) + (4) = ((17 : Nat) : Int) := ⟨by decide +kernel, by decide⟩
theorem dc_Q_isFull_16 : decode prog_4_method_3_code 16 = .ok (.iconst 0, 1) ∧ 16 + 1 = 17 := ⟨by decide +kernel, rfl⟩
theorem dc_Q_isFull_17 : decode prog_4_method_3_code 17 = .ok (.ireturn, 1) := by decide +kernel
theorem dc_P_put_0 : decode prog_5_method_8_code 0 = .ok (.aload_n 0, 1) ∧ 0 + 1 = 1 := ⟨by decide +kernel, rfl⟩
theorem dc_P_put_1 : decode prog_5_method_8_code 1 = .ok (.iload_n 1, 1) ∧ 1 + 1 = 2 := ⟨by decide +kernel, rfl⟩
theorem dc_P_put_2 : decode prog_5_method_8_code 2 = .ok (.invokevirtual 11, 3) ∧ 2 + 3 = 5 := ⟨by decide +kernel, rfl⟩
theorem dc_P_put_5 : decode prog_5_method_8_code 5 = .ok (.istore_n 3, 1) ∧ 5 + 1 = 6 := ⟨by decide +kernel, rfl⟩
theorem dc_P_put_6 : decode prog_5_method_8_code 6 = .ok (.aload_n 0, 1) ∧ 6 + 1 = 7 := ⟨by decide +kernel, rfl⟩
theorem dc_P_put_7 : decode prog_5_method_8_code 7 = .ok (.iload_n 3, 1) ∧ 7 + 1 = 8 := ⟨by decide +kernel, rfl⟩
theorem dc_P_put_8 : decode prog_5_method_8_code 8 = .ok (.iload_n 1, 1) ∧ 8 + 1 = 9 := ⟨by decide +kernel, rfl⟩
theorem dc_P_put_9 : decode prog_5_method_8_code 9 = .ok (.invokevirtual 15, 3) ∧ 9 + 3 = 12 := ⟨by decide +kernel, rfl⟩
theorem dc_P_put_12 : decode prog_5_method_8_code 12 = .ok (.ifCond .eq 15, 3) ∧ ((12 : Nat) : Int) + (15) = ((27 : Nat) : Int) ∧ 12 + 3 = 15 := ⟨by decide +kernel, by decide, rfl⟩
theorem dc_P_put_15 : decode prog_5_method_8_code 15 = .ok (.aload_n 0, 1) ∧ 15 + 1 = 16 := ⟨by decide +kernel, rfl⟩
theorem dc_P_put_16 : decode prog_5_method_8_code 16 = .ok (.getfield 19, 3) ∧ 16 + 3 = 19 := ⟨by decide +kernel, rfl⟩
theorem dc_P_put_19 : decode prog_5_method_8_code 19 = .ok (.iload_n 3, 1) ∧ 19 + 1 = 20 := ⟨by decide +kernel, rfl⟩
theorem dc_P_put_20 : decode prog_5_method_8_code 20 = .ok (.iload_n 2, 1) ∧ 20 + 1 = 21 := ⟨by decide +kernel, rfl⟩
theorem dc_P_put_21 : decode prog_5_method_8_code 21 = .ok (.invokestatic 48, 3) ∧ 21 + 3 = 24 := ⟨by decide +kernel, rfl⟩
theorem dc_P_put_24 : decode prog_5_method_8_code 24 = .ok (.goto 12, 3) ∧ ((24 : Nat) : Int) + (12) = ((36 : Nat) : Int) := ⟨by decide +kernel, by decide⟩
theorem dc_P_put_27 : decode prog_5_method_8_code 27 = .ok (.aload_n 0, 1) ∧ 27 + 1 = 28 := ⟨by decide +kernel, rfl⟩
theorem dc_P_put_28 : decode prog_5_method_8_code 28 = .ok (.iload_n 3, 1) ∧ 28 + 1 = 29 := ⟨by decide +kernel, rfl⟩
theorem dc_P_put_29 : decode prog_5_method_8_code 29 = .ok (.iconst 1, 1) ∧ 29 + 1 = 30 := ⟨by decide +kernel, rfl⟩
theorem dc_P_put_30 : decode prog_5_method_8_code 30 = .ok (.iadd, 1) ∧ 30 + 1 = 31 := ⟨by decide +kernel, rfl⟩
theorem dc_P_put_31 : decode prog_5_method_8_code 31 = .ok (.iload_n 1, 1) ∧ 31 + 1 = 32 := ⟨by decide +kernel, rfl⟩
theorem dc_P_put_32 : decode prog_5_method_8_code 32 = .ok (.iload_n 2, 1) ∧ 32 + 1 = 33 := ⟨by decide +kernel, rfl⟩
theorem dc_P_put_33 : decode prog_5_method_8_code 33 = .ok (.invokevirtual 52, 3) ∧ 33 + 3 = 36 := ⟨by decide +kernel, rfl⟩
theorem dc_P_put_36 : decode prog_5_method_8_code 36 = .ok (.return_, 1) := by decide +kernel
theorem dc_Q_insertAt_0 : decode prog_4_method_4_code 0 = .ok (.aload_n 0, 1) ∧ 0 + 1 = 1 := ⟨by decide +kernel, rfl⟩
theorem dc_Q_insertAt_1 : decode prog_4_method_4_code 1 = .ok (.getfield 22, 3) ∧ 1 + 3 = 4 := ⟨by decide +kernel, rfl⟩
theorem dc_Q_insertAt_4 : decode prog_4_method_4_code 4 = .ok (.istore 4, 2) ∧ 4 + 2 = 6 := ⟨by decide +kernel, rfl⟩
theorem dc_Q_insertAt_6 : decode prog_4_method_4_code 6 = .ok (.iload 4, 2) ∧ 6 + 2 = 8 := ⟨by decide +kernel, rfl⟩
theorem dc_Q_insertAt_8 : decode prog_4_method_4_code 8 = .ok (.iload_n 1, 1) ∧ 8 + 1 = 9 := ⟨by decide +kernel, rfl⟩
theorem dc_Q_insertAt_9 : decode prog_4_method_4_code 9 = .ok (.if_icmp .le 49, 3) ∧ ((9 : Nat) : Int) + (49) = ((58 : Nat) : Int) ∧ 9 + 3 = 12 := ⟨by decide +kernel, by decide, rfl⟩
theorem dc_Q_insertAt_12 : decode prog_4_method_4_code 12 = .ok (.aload_n 0, 1) ∧ 12 + 1 = 13 := ⟨by decide +kernel, rfl⟩
theorem dc_Q_insertAt_13 : decode prog_4_method_4_code 13 = .ok (.getfield 13, 3) ∧ 13 + 3 = 16 := ⟨by decide +kernel, rfl⟩
theorem dc_Q_insertAt_16 : decode prog_4_method_4_code 16 = .ok (.iload 4, 2) ∧ 16 + 2 = 18 := ⟨by decide +kernel, rfl⟩
theorem dc_Q_insertAt_18 : decode prog_4_method_4_code 18 = .ok (.aload_n 0, 1) ∧ 18 + 1 = 19 := ⟨by decide +kernel, rfl⟩
theorem dc_Q_insertAt_19 : decode prog_4_method_4_code 19 = .ok (.getfield 13, 3) ∧ 19 + 3 = 22 := ⟨by decide +kernel, rfl⟩
theorem dc_Q_insertAt_22 : decode prog_4_method_4_code 22 = .ok (.iload 4, 2) ∧ 22 + 2 = 24 := ⟨by decide +kernel, rfl⟩
theorem dc_Q_insertAt_24 : decode prog_4_method_4_code 24 = .ok (.iconst 1, 1) ∧ 24 + 1 = 25 := ⟨by decide +kernel, rfl⟩
theorem dc_Q_insertAt_25 : decode prog_4_method_4_code 25 = .ok (.isub, 1) ∧ 25 + 1 = 26 := ⟨by decide +kernel, rfl⟩
theorem dc_Q_insertAt_26 : decode prog_4_method_4_code 26 = .ok (.invokestatic 32, 3) ∧ 26 + 3 = 29 := ⟨by decide +kernel, rfl⟩
theorem dc_Q_insertAt_29 : decode prog_4_method_4_code 29 = .ok (.invokestatic 36, 3) ∧ 29 + 3 = 32 := ⟨by decide +kernel, rfl⟩
theorem dc_Q_insertAt_32 : decode prog_4_method_4_code 32 = .ok (.aload_n 0, 1) ∧ 32 + 1 = 33 := ⟨by decide +kernel, rfl⟩
theorem dc_Q_insertAt_33 : decode prog_4_method_4_code 33 = .ok (.getfield 19, 3) ∧ 33 + 3 = 36 := ⟨by decide +kernel, rfl⟩
theorem dc_Q_insertAt_36 : decode prog_4_method_4_code 36 = .ok (.iload 4, 2) ∧ 36 + 2 = 38 := ⟨by decide +kernel, rfl⟩
theorem dc_Q_insertAt_38 : decode prog_4_method_4_code 38 = .ok (.aload_n 0, 1) ∧ 38 + 1 = 39 := ⟨by decide +kernel, rfl⟩
theorem dc_Q_insertAt_39 : decode prog_4_method_4_code 39 = .ok (.getfield 19, 3) ∧ 39 + 3 = 42 := ⟨by decide +kernel, rfl⟩
theorem dc_Q_insertAt_42 : decode prog_4_method_4_code 42 = .ok (.iload 4, 2) ∧ 42 + 2 = 44 := ⟨by decide +kernel, rfl⟩
theorem dc_Q_insertAt_44 : decode prog_4_method_4_code 44 = .ok (.iconst 1, 1) ∧ 44 + 1 = 45 := ⟨by decide +kernel, rfl⟩
theorem dc_Q_insertAt_45 : decode prog_4_method_4_code 45 = .ok (.isub, 1) ∧ 45 + 1 = 46 := ⟨by decide +kernel, rfl⟩
theorem dc_Q_insertAt_46 : decode prog_4_method_4_code 46 = .ok (.invokestatic 32, 3) ∧ 46 + 3 = 49 := ⟨by decide +kernel, rfl⟩
theorem dc_Q_insertAt_49 : decode prog_4_method_4_code 49 = .ok (.invokestatic 36, 3) ∧ 49 + 3 = 52 := ⟨by decide +kernel, rfl⟩
theorem dc_Q_insertAt_52 : decode prog_4_method_4_code 52 = .ok (.iinc 4 (-1), 3) ∧ 52 + 3 = 55 := ⟨by decide +kernel, rfl⟩
theorem dc_Q_insertAt_55 : decode prog_4_method_4_code 55 = .ok (.goto (-49), 3) ∧ ((55 : Nat) : Int) + (-49) = ((6 : Nat) : Int) := ⟨by decide +kernel, by decide⟩
theorem dc_Q_insertAt_58 : decode prog_4_method_4_code 58 = .ok (.aload_n 0, 1) ∧ 58 + 1 = 59 := ⟨by decide +kernel, rfl⟩
theorem dc_Q_insertAt_59 : decode prog_4_method_4_code 59 = .ok (.getfield 13, 3) ∧ 59 + 3 = 62 := ⟨by decide +kernel, rfl⟩
theorem dc_Q_insertAt_62 : decode prog_4_method_4_code 62 = .ok (.iload_n 1, 1) ∧ 62 + 1 = 63 := ⟨by decide +kernel, rfl⟩
theorem dc_Q_insertAt_63 : decode prog_4_method_4_code 63 = .ok (.iload_n 2, 1) ∧ 63 + 1 = 64 := ⟨by decide +kernel, rfl⟩
theorem dc_Q_insertAt_64 : decode prog_4_method_4_code 64 = .ok (.invokestatic 36, 3) ∧ 64 + 3 = 67 := ⟨by decide +kernel, rfl⟩
theorem dc_Q_insertAt_67 : decode prog_4_method_4_code 67 = .ok (.aload_n 0, 1) ∧ 67 + 1 = 68 := ⟨by decide +kernel, rfl⟩
theorem dc_Q_insertAt_68 : decode prog_4_method_4_code 68 = .ok (.getfield 19, 3) ∧ 68 + 3 = 71 := ⟨by decide +kernel, rfl⟩
theorem dc_Q_insertAt_71 : decode prog_4_method_4_code 71 = .ok (.iload_n 1, 1) ∧ 71 + 1 = 72 := ⟨by decide +kernel, rfl⟩
theorem dc_Q_insertAt_72 : decode prog_4_method_4_code 72 = .ok (.iload_n 3, 1) ∧ 72 + 1 = 73 := ⟨by decide +kernel, rfl⟩
theorem dc_Q_insertAt_73 : decode prog_4_method_4_code 73 = .ok (.invokestatic 36, 3) ∧ 73 + 3 = 76 := ⟨by decide +kernel, rfl⟩
theorem dc_Q_insertAt_76 : decode prog_4_method_4_code 76 = .ok (.aload_n 0, 1) ∧ 76 + 1 = 77 := ⟨by decide +kernel, rfl⟩
theorem dc_Q_insertAt_77 : decode prog_4_method_4_code 77 = .ok (.dup, 1) ∧ 77 + 1 = 78 := ⟨by decide +kernel, rfl⟩
theorem dc_Q_insertAt_78 : decode prog_4_method_4_code 78 = .ok (.getfield 22, 3) ∧ 78 + 3 = 81 := ⟨by decide +kernel, rfl⟩
theorem dc_Q_insertAt_81 : decode prog_4_method_4_code 81 = .ok (.iconst 1, 1) ∧ 81 + 1 = 82 := ⟨by decide +kernel, rfl⟩
theorem dc_Q_insertAt_82 : decode prog_4_method_4_code 82 = .ok (.iadd, 1) ∧ 82 + 1 = 83 := ⟨by decide +kernel, rfl⟩
theorem dc_Q_insertAt_83 : decode prog_4_method_4_code 83 = .ok (.putfield 22, 3) ∧ 83 + 3 = 86 := ⟨by decide +kernel, rfl⟩
theorem dc_Q_insertAt_86 : decode prog_4_method_4_code 86 = .ok (.return_, 1) := by decide +kernel
theorem dc_F_setComb_0 : decode prog_1_method_4_code 0 = .ok (.iload_n 1, 1) ∧ 0 + 1 = 1 := ⟨by decide +kernel, rfl⟩
theorem dc_F_setComb_1 : decode prog_1_method_4_code 1 = .ok (.invokestatic 58, 3) ∧ 1 + 3 = 4 := ⟨by decide +kernel, rfl⟩
theorem dc_F_setComb_4 : decode prog_1_method_4_code 4 = .ok (.ifCond .eq 15, 3) ∧ ((4 : Nat) : Int) + (15) = ((19 : Nat) : Int) ∧ 4 + 3 = 7 := ⟨by decide +kernel, by decide, rfl⟩
theorem dc_F_setComb_7 : decode prog_1_method_4_code 7 = .ok (.iload_n 2, 1) ∧ 7 + 1 = 8 := ⟨by decide +kernel, rfl⟩
theorem dc_F_setComb_8 : decode prog_1_method_4_code 8 = .ok (.bipush (-99), 2) ∧ 8 + 2 = 10 := ⟨by decide +kernel, rfl⟩
theorem dc_F_setComb_10 : decode prog_1_method_4_code 10 = .ok (.if_icmp .lt 9, 3) ∧ ((10 : Nat) : Int) + (9) = ((19 : Nat) : Int) ∧ 10 + 3 = 13 := ⟨by decide +kernel, by decide, rfl⟩
theorem dc_F_setComb_13 : decode prog_1_method_4_code 13 = .ok (.iload_n 2, 1) ∧ 13 + 1 = 14 := ⟨by decide +kernel, rfl⟩
theorem dc_F_setComb_14 : decode prog_1_method_4_code 14 = .ok (.bipush 100, 2) ∧ 14 + 2 = 16 := ⟨by decide +kernel, rfl⟩
theorem dc_F_setComb_16 : decode prog_1_method_4_code 16 = .ok (.if_icmp .le 6, 3) ∧ ((16 : Nat) : Int) + (6) = ((22 : Nat) : Int) ∧ 16 + 3 = 19 := ⟨by decide +kernel, by decide, rfl⟩
theorem dc_F_setComb_19 : decode prog_1_method_4_code 19 = .ok (.ldc 45, 2) ∧ 19 + 2 = 21 := ⟨by decide +kernel, rfl⟩
theorem dc_F_setComb_21 : decode prog_1_method_4_code 21 = .ok (.ireturn, 1) := by decide +kernel
theorem dc_F_setComb_22 : decode prog_1_method_4_code 22 = .ok (.aload_n 0, 1) ∧ 22 + 1 = 23 := ⟨by decide +kernel, rfl⟩
theorem dc_F_setComb_23 : decode prog_1_method_4_code 23 = .ok (.aload_n 0, 1) ∧ 23 + 1 = 24 := ⟨by decide +kernel, rfl⟩
theorem dc_F_setComb_24 : decode prog_1_method_4_code 24 = .ok (.getfield 10, 3) ∧ 24 + 3 = 27 := ⟨by decide +kernel, rfl⟩
theorem dc_F_setComb_27 : decode prog_1_method_4_code 27 = .ok (.getfield 70, 3) ∧ 27 + 3 = 30 := ⟨by decide +kernel, rfl⟩
theorem dc_F_setComb_30 : decode prog_1_method_4_code 30 = .ok (.iload_n 1, 1) ∧ 30 + 1 = 31 := ⟨by decide +kernel, rfl⟩
theorem dc_F_setComb_31 : decode prog_1_method_4_code 31 = .ok (.iload_n 2, 1) ∧ 31 + 1 = 32 := ⟨by decide +kernel, rfl⟩
theorem dc_F_setComb_32 : decode prog_1_method_4_code 32 = .ok (.bipush 100, 2) ∧ 32 + 2 = 34 := ⟨by decide +kernel, rfl⟩
theorem dc_F_setComb_34 : decode prog_1_method_4_code 34 = .ok (.invokevirtual 66, 3) ∧ 34 + 3 = 37 := ⟨by decide +kernel, rfl⟩
theorem dc_F_setComb_37 : decode prog_1_method_4_code 37 = .ok (.ireturn, 1) := by decide +kernel
theorem dc_F_setFlag_0 : decode prog_1_method_5_code 0 = .ok (.iload_n 1, 1) ∧ 0 + 1 = 1 := ⟨by decide +kernel, rfl⟩
theorem dc_F_setFlag_1 : decode prog_1_method_5_code 1 = .ok (.invokestatic 58, 3) ∧ 1 + 3 = 4 := ⟨by decide +kernel, rfl⟩
theorem dc_F_setFlag_4 : decode prog_1_method_5_code 4 = .ok (.ifCond .eq 15, 3) ∧ ((4 : Nat) : Int) + (15) = ((19 : Nat) : Int) ∧ 4 + 3 = 7 := ⟨by decide +kernel, by decide, rfl⟩
theorem dc_F_setFlag_7 : decode prog_1_method_5_code 7 = .ok (.iload_n 2, 1) ∧ 7 + 1 = 8 := ⟨by decide +kernel, rfl⟩
theorem dc_F_setFlag_8 : decode prog_1_method_5_code 8 = .ok (.invokestatic 58, 3) ∧ 8 + 3 = 11 := ⟨by decide +kernel, rfl⟩
theorem dc_F_setFlag_11 : decode prog_1_method_5_code 11 = .ok (.ifCond .eq 8, 3) ∧ ((11 : Nat) : Int) + (8) = ((19 : Nat) : Int) ∧ 11 + 3 = 14 := ⟨by decide +kernel, by decide, rfl⟩
theorem dc_F_setFlag_14 : decode prog_1_method_5_code 14 = .ok (.iload_n 2, 1) ∧ 14 + 1 = 15 := ⟨by decide +kernel, rfl⟩
theorem dc_F_setFlag_15 : decode prog_1_method_5_code 15 = .ok (.iload_n 1, 1) ∧ 15 + 1 = 16 := ⟨by decide +kernel, rfl⟩
theorem dc_F_setFlag_16 : decode prog_1_method_5_code 16 = .ok (.if_icmp .gt 6, 3) ∧ ((16 : Nat) : Int) + (6) = ((22 : Nat) : Int) ∧ 16 + 3 = 19 := ⟨by decide +kernel, by decide, rfl⟩
theorem dc_F_setFlag_19 : decode prog_1_method_5_code 19 = .ok (.ldc 45, 2) ∧ 19 + 2 = 21 := ⟨by decide +kernel, rfl⟩
theorem dc_F_setFlag_21 : decode prog_1_method_5_code 21 = .ok (.ireturn, 1) := by decide +kernel
theorem dc_F_setFlag_22 : decode prog_1_method_5_code 22 = .ok (.aload_n 0, 1) ∧ 22 + 1 = 23 := ⟨by decide +kernel, rfl⟩
theorem dc_F_setFlag_23 : decode prog_1_method_5_code 23 = .ok (.getfield 10, 3) ∧ 23 + 3 = 26 := ⟨by decide +kernel, rfl⟩
theorem dc_F_setFlag_26 : decode prog_1_method_5_code 26 = .ok (.getfield 73, 3) ∧ 26 + 3 = 29 := ⟨by decide +kernel, rfl⟩
theorem dc_F_setFlag_29 : decode prog_1_method_5_code 29 = .ok (.ifCond .eq 7, 3) ∧ ((29 : Nat) : Int) + (7) = ((36 : Nat) : Int) ∧ 29 + 3 = 32 := ⟨by decide +kernel, by decide, rfl⟩
theorem dc_F_setFlag_32 : decode prog_1_method_5_code 32 = .ok (.iconst 1, 1) ∧ 32 + 1 = 33 := ⟨by decide +kernel, rfl⟩
theorem dc_F_setFlag_33 : decode prog_1_method_5_code 33 = .ok (.goto 4, 3) ∧ ((33 : Nat) : Int) + (4) = ((37 : Nat) : Int) := ⟨by decide +kernel, by decide⟩
theorem dc_F_setFlag_36 : decode prog_1_method_5_code 36 = .ok (.iconst 0, 1) ∧ 36 + 1 = 37 := ⟨by decide +kernel, rfl⟩
theorem dc_F_setFlag_37 : decode prog_1_method_5_code 37 = .ok (.istore_n 3, 1) ∧ 37 + 1 = 38 := ⟨by decide +kernel, rfl⟩
theorem dc_F_setFlag_38 : decode prog_1_method_5_code 38 = .ok (.aload_n 0, 1) ∧ 38 + 1 = 39 := ⟨by decide +kernel, rfl⟩
theorem dc_F_setFlag_39 : decode prog_1_method_5_code 39 = .ok (.getfield 30, 3) ∧ 39 + 3 = 42 := ⟨by decide +kernel, rfl⟩
theorem dc_F_setFlag_42 : decode prog_1_method_5_code 42 = .ok (.aload_n 0, 1) ∧ 42 + 1 = 43 := ⟨by decide +kernel, rfl⟩
theorem dc_F_setFlag_43 : decode prog_1_method_5_code 43 = .ok (.getfield 10, 3) ∧ 43 + 3 = 46 := ⟨by decide +kernel, rfl⟩
theorem dc_F_setFlag_46 : decode prog_1_method_5_code 46 = .ok (.invokevirtual 50, 3) ∧ 46 + 3 = 49 := ⟨by decide +kernel, rfl⟩
theorem dc_F_setFlag_49 : decode prog_1_method_5_code 49 = .ok (.aload_n 0, 1) ∧ 49 + 1 = 50 := ⟨by decide +kernel, rfl⟩
theorem dc_F_setFlag_50 : decode prog_1_method_5_code 50 = .ok (.getfield 10, 3) ∧ 50 + 3 = 53 := ⟨by decide +kernel, rfl⟩
theorem dc_F_setFlag_53 : decode prog_1_method_5_code 53 = .ok (.iload_n 1, 1) ∧ 53 + 1 = 54 := ⟨by decide +kernel, rfl⟩
theorem dc_F_setFlag_54 : decode prog_1_method_5_code 54 = .ok (.iload_n 2, 1) ∧ 54 + 1 = 55 := ⟨by decide +kernel, rfl⟩
theorem dc_F_setFlag_55 : decode prog_1_method_5_code 55 = .ok (.invokevirtual 77, 3) ∧ 55 + 3 = 58 := ⟨by decide +kernel, rfl⟩
theorem dc_F_setFlag_58 : decode prog_1_method_5_code 58 = .ok (.iload_n 3, 1) ∧ 58 + 1 = 59 := ⟨by decide +kernel, rfl⟩
theorem dc_F_setFlag_59 : decode prog_1_method_5_code 59 = .ok (.ireturn, 1) := by decide +kernel
theorem dc_A_placeFlag_0 : decode prog_2_method_6_code 0 = .ok (.aload_n 0, 1) ∧ 0 + 1 = 1 := ⟨by decide +kernel, rfl⟩
theorem dc_A_placeFlag_1 : decode prog_2_method_6_code 1 = .ok (.iconst 1, 1) ∧ 1 + 1 = 2 := ⟨by decide +kernel, rfl⟩
theorem dc_A_placeFlag_2 : decode prog_2_method_6_code 2 = .ok (.putfield 46, 3) ∧ 2 + 3 = 5 := ⟨by decide +kernel, rfl⟩
theorem dc_A_placeFlag_5 : decode prog_2_method_6_code 5 = .ok (.aload_n 0, 1) ∧ 5 + 1 = 6 := ⟨by decide +kernel, rfl⟩
theorem dc_A_placeFlag_6 : decode prog_2_method_6_code 6 = .ok (.iload_n 1, 1) ∧ 6 + 1 = 7 := ⟨by decide +kernel, rfl⟩
theorem dc_A_placeFlag_7 : decode prog_2_method_6_code 7 = .ok (.putfield 50, 3) ∧ 7 + 3 = 10 := ⟨by decide +kernel, rfl⟩
theorem dc_A_placeFlag_10 : decode prog_2_method_6_code 10 = .ok (.aload_n 0, 1) ∧ 10 + 1 = 11 := ⟨by decide +kernel, rfl⟩
theorem dc_A_placeFlag_11 : decode prog_2_method_6_code 11 = .ok (.iload_n 2, 1) ∧ 11 + 1 = 12 := ⟨by decide +kernel, rfl⟩
theorem dc_A_placeFlag_12 : decode prog_2_method_6_code 12 = .ok (.putfield 54, 3) ∧ 12 + 3 = 15 := ⟨by decide +kernel, rfl⟩
theorem dc_A_placeFlag_15 : decode prog_2_method_6_code 15 = .ok (.return_, 1) := by decide +kernel
theorem dc_F_home_0 : decode prog_1_method_12_code 0 = .ok (.iload_n 1, 1) ∧ 0 + 1 = 1 := ⟨by decide +kernel, rfl⟩
theorem dc_F_home_1 : decode prog_1_method_12_code 1 = .ok (.invokestatic 126, 3) ∧ 1 + 3 = 4 := ⟨by decide +kernel, rfl⟩
theorem dc_F_home_4 : decode prog_1_method_12_code 4 = .ok (.ifCond .ne 6, 3) ∧ ((4 : Nat) : Int) + (6) = ((10 : Nat) : Int) ∧ 4 + 3 = 7 := ⟨by decide +kernel, by decide, rfl⟩
theorem dc_F_home_7 : decode prog_1_method_12_code 7 = .ok (.ldc 45, 2) ∧ 7 + 2 = 9 := ⟨by decide +kernel, rfl⟩
theorem dc_F_home_9 : decode prog_1_method_12_code 9 = .ok (.ireturn, 1) := by decide +kernel
theorem dc_F_home_10 : decode prog_1_method_12_code 10 = .ok (.aload_n 0, 1) ∧ 10 + 1 = 11 := ⟨by decide +kernel, rfl⟩
theorem dc_F_home_11 : decode prog_1_method_12_code 11 = .ok (.getfield 10, 3) ∧ 11 + 3 = 14 := ⟨by decide +kernel, rfl⟩
theorem dc_F_home_14 : decode prog_1_method_12_code 14 = .ok (.getfield 73, 3) ∧ 14 + 3 = 17 := ⟨by decide +kernel, rfl⟩
theorem dc_F_home_17 : decode prog_1_method_12_code 17 = .ok (.ifCond .ne 6, 3) ∧ ((17 : Nat) : Int) + (6) = ((23 : Nat) : Int) ∧ 17 + 3 = 20 := ⟨by decide +kernel, by decide, rfl⟩
theorem dc_F_home_20 : decode prog_1_method_12_code 20 = .ok (.ldc 100, 2) ∧ 20 + 2 = 22 := ⟨by decide +kernel, rfl⟩
theorem dc_F_home_22 : decode prog_1_method_12_code 22 = .ok (.ireturn, 1) := by decide +kernel
theorem dc_F_home_23 : decode prog_1_method_12_code 23 = .ok (.aload_n 0, 1) ∧ 23 + 1 = 24 := ⟨by decide +kernel, rfl⟩
theorem dc_F_home_24 : decode prog_1_method_12_code 24 = .ok (.getfield 16, 3) ∧ 24 + 3 = 27 := ⟨by decide +kernel, rfl⟩
theorem dc_F_home_27 : decode prog_1_method_12_code 27 = .ok (.aload_n 0, 1) ∧ 27 + 1 = 28 := ⟨by decide +kernel, rfl⟩
theorem dc_F_home_28 : decode prog_1_method_12_code 28 = .ok (.getfield 10, 3) ∧ 28 + 3 = 31 := ⟨by decide +kernel, rfl⟩
theorem dc_F_home_31 : decode prog_1_method_12_code 31 = .ok (.invokevirtual 87, 3) ∧ 31 + 3 = 34 := ⟨by decide +kernel, rfl⟩
theorem dc_F_home_34 : decode prog_1_method_12_code 34 = .ok (.aload_n 0, 1) ∧ 34 + 1 = 35 := ⟨by decide +kernel, rfl⟩
theorem dc_F_home_35 : decode prog_1_method_12_code 35 = .ok (.getfield 16, 3) ∧ 35 + 3 = 38 := ⟨by decide +kernel, rfl⟩
theorem dc_F_home_38 : decode prog_1_method_12_code 38 = .ok (.iload_n 1, 1) ∧ 38 + 1 = 39 := ⟨by decide +kernel, rfl⟩
theorem dc_F_home_39 : decode prog_1_method_12_code 39 = .ok (.invokevirtual 129, 3) ∧ 39 + 3 = 42 := ⟨by decide +kernel, rfl⟩
theorem dc_F_home_42 : decode prog_1_method_12_code 42 = .ok (.ifCond .ne 6, 3) ∧ ((42 : Nat) : Int) + (6) = ((48 : Nat) : Int) ∧ 42 + 3 = 45 := ⟨by decide +kernel, by decide, rfl⟩
theorem dc_F_home_45 : decode prog_1_method_12_code 45 = .ok (.ldc 132, 2) ∧ 45 + 2 = 47 := ⟨by decide +kernel, rfl⟩
theorem dc_F_home_47 : decode prog_1_method_12_code 47 = .ok (.ireturn, 1) := by decide +kernel
theorem dc_F_home_48 : decode prog_1_method_12_code 48 = .ok (.aload_n 0, 1) ∧ 48 + 1 = 49 := ⟨by decide +kernel, rfl⟩
theorem dc_F_home_49 : decode prog_1_method_12_code 49 = .ok (.getfield 16, 3) ∧ 49 + 3 = 52 := ⟨by decide +kernel, rfl⟩
theorem dc_F_home_52 : decode prog_1_method_12_code 52 = .ok (.iload_n 1, 1) ∧ 52 + 1 = 53 := ⟨by decide +kernel, rfl⟩
theorem dc_F_home_53 : decode prog_1_method_12_code 53 = .ok (.invokevirtual 133, 3) ∧ 53 + 3 = 56 := ⟨by decide +kernel, rfl⟩
theorem dc_F_home_56 : decode prog_1_method_12_code 56 = .ok (.aload_n 0, 1) ∧ 56 + 1 = 57 := ⟨by decide +kernel, rfl⟩
theorem dc_F_home_57 : decode prog_1_method_12_code 57 = .ok (.getfield 16, 3) ∧ 57 + 3 = 60 := ⟨by decide +kernel, rfl⟩
theorem dc_F_home_60 : decode prog_1_method_12_code 60 = .ok (.getfield 136, 3) ∧ 60 + 3 = 63 := ⟨by decide +kernel, rfl⟩
theorem dc_F_home_63 : decode prog_1_method_12_code 63 = .ok (.isub, 1) ∧ 63 + 1 = 64 := ⟨by decide +kernel, rfl⟩
theorem dc_F_home_64 : decode prog_1_method_12_code 64 = .ok (.istore_n 2, 1) ∧ 64 + 1 = 65 := ⟨by decide +kernel, rfl⟩
theorem dc_F_home_65 : decode prog_1_method_12_code 65 = .ok (.aload_n 0, 1) ∧ 65 + 1 = 66 := ⟨by decide +kernel, rfl⟩
theorem dc_F_home_66 : decode prog_1_method_12_code 66 = .ok (.getfield 16, 3) ∧ 66 + 3 = 69 := ⟨by decide +kernel, rfl⟩
theorem dc_F_home_69 : decode prog_1_method_12_code 69 = .ok (.iload_n 2, 1) ∧ 69 + 1 = 70 := ⟨by decide +kernel, rfl⟩
theorem dc_F_home_70 : decode prog_1_method_12_code 70 = .ok (.invokevirtual 139, 3) ∧ 70 + 3 = 73 := ⟨by decide +kernel, rfl⟩
theorem dc_F_home_73 : decode prog_1_method_12_code 73 = .ok (.aload_n 0, 1) ∧ 73 + 1 = 74 := ⟨by decide +kernel, rfl⟩
theorem dc_F_home_74 : decode prog_1_method_12_code 74 = .ok (.invokevirtual 94, 3) ∧ 74 + 3 = 77 := ⟨by decide +kernel, rfl⟩
theorem dc_F_home_77 : decode prog_1_method_12_code 77 = .ok (.iload_n 2, 1) ∧ 77 + 1 = 78 := ⟨by decide +kernel, rfl⟩
theorem dc_F_home_78 : decode prog_1_method_12_code 78 = .ok (.ireturn, 1) := by decide +kernel
theorem dc_F_isSide_0 : decode prog_1_method_29_code 0 = .ok (.iload_n 0, 1) ∧ 0 + 1 = 1 := ⟨by decide +kernel, rfl⟩
theorem dc_F_isSide_1 : decode prog_1_method_29_code 1 = .ok (.ifCond .eq 8, 3) ∧ ((1 : Nat) : Int) + (8) = ((9 : Nat) : Int) ∧ 1 + 3 = 4 := ⟨by decide +kernel, by decide, rfl⟩
theorem dc_F_isSide_4 : decode prog_1_method_29_code 4 = .ok (.iload_n 0, 1) ∧ 4 + 1 = 5 := ⟨by decide +kernel, rfl⟩
theorem dc_F_isSide_5 : decode prog_1_method_29_code 5 = .ok (.iconst 1, 1) ∧ 5 + 1 = 6 := ⟨by decide +kernel, rfl⟩
theorem dc_F_isSide_6 : decode prog_1_method_29_code 6 = .ok (.if_icmp .ne 7, 3) ∧ ((6 : Nat) : Int) + (7) = ((13 : Nat) : Int) ∧ 6 + 3 = 9 := ⟨by decide +kernel, by decide, rfl⟩
theorem dc_F_isSide_9 : decode prog_1_method_29_code 9 = .ok (.iconst 1, 1) ∧ 9 + 1 = 10 := ⟨by decide +kernel, rfl⟩
theorem dc_F_isSide_10 : decode prog_1_method_29_code 10 = .ok (.goto 4, 3) ∧ ((10 : Nat) : Int) + (4) = ((14 : Nat) : Int) := ⟨by decide +kernel, by decide⟩
theorem dc_F_isSide_13 : decode prog_1_method_29_code 13 = .ok (.iconst 0, 1) ∧ 13 + 1 = 14 := ⟨by decide +kernel, rfl⟩
theorem dc_F_isSide_14 : decode prog_1_method_29_code 14 = .ok (.ireturn, 1) := by decide +kernel
theorem dc_A_seek_0 : decode prog_2_method_16_code 0 = .ok (.iload_n 1, 1) ∧ 0 + 1 = 1 := ⟨by decide +kernel, rfl⟩
theorem dc_A_seek_1 : decode prog_2_method_16_code 1 = .ok (.ifCond .ne 7, 3) ∧ ((1 : Nat) : Int) + (7) = ((8 : Nat) : Int) ∧ 1 + 3 = 4 := ⟨by decide +kernel, by decide, rfl⟩
theorem dc_A_seek_4 : decode prog_2_method_16_code 4 = .ok (.iconst (-1), 1) ∧ 4 + 1 = 5 := ⟨by decide +kernel, rfl⟩
theorem dc_A_seek_5 : decode prog_2_method_16_code 5 = .ok (.goto 4, 3) ∧ ((5 : Nat) : Int) + (4) = ((9 : Nat) : Int) := ⟨by decide +kernel, by decide⟩
theorem dc_A_seek_8 : decode prog_2_method_16_code 8 = .ok (.iconst 1, 1) ∧ 8 + 1 = 9 := ⟨by decide +kernel, rfl⟩
theorem dc_A_seek_9 : decode prog_2_method_16_code 9 = .ok (.istore_n 2, 1) ∧ 9 + 1 = 10 := ⟨by decide +kernel, rfl⟩
theorem dc_A_seek_10 : decode prog_2_method_16_code 10 = .ok (.iload_n 1, 1) ∧ 10 + 1 = 11 := ⟨by decide +kernel, rfl⟩
theorem dc_A_seek_11 : decode prog_2_method_16_code 11 = .ok (.ifCond .ne 10, 3) ∧ ((11 : Nat) : Int) + (10) = ((21 : Nat) : Int) ∧ 11 + 3 = 14 := ⟨by decide +kernel, by decide, rfl⟩
theorem dc_A_seek_14 : decode prog_2_method_16_code 14 = .ok (.aload_n 0, 1) ∧ 14 + 1 = 15 := ⟨by decide +kernel, rfl⟩
theorem dc_A_seek_15 : decode prog_2_method_16_code 15 = .ok (.getfield 50, 3) ∧ 15 + 3 = 18 := ⟨by decide +kernel, rfl⟩
theorem dc_A_seek_18 : decode prog_2_method_16_code 18 = .ok (.goto 7, 3) ∧ ((18 : Nat) : Int) + (7) = ((25 : Nat) : Int) := ⟨by decide +kernel, by decide⟩
theorem dc_A_seek_21 : decode prog_2_method_16_code 21 = .ok (.aload_n 0, 1) ∧ 21 + 1 = 22 := ⟨by decide +kernel, rfl⟩
theorem dc_A_seek_22 : decode prog_2_method_16_code 22 = .ok (.getfield 54, 3) ∧ 22 + 3 = 25 := ⟨by decide +kernel, rfl⟩
theorem dc_A_seek_25 : decode prog_2_method_16_code 25 = .ok (.istore_n 3, 1) ∧ 25 + 1 = 26 := ⟨by decide +kernel, rfl⟩
theorem dc_A_seek_26 : decode prog_2_method_16_code 26 = .ok (.aload_n 0, 1) ∧ 26 + 1 = 27 := ⟨by decide +kernel, rfl⟩
theorem dc_A_seek_27 : decode prog_2_method_16_code 27 = .ok (.iload_n 3, 1) ∧ 27 + 1 = 28 := ⟨by decide +kernel, rfl⟩
theorem dc_A_seek_28 : decode prog_2_method_16_code 28 = .ok (.iload_n 2, 1) ∧ 28 + 1 = 29 := ⟨by decide +kernel, rfl⟩
theorem dc_A_seek_29 : decode prog_2_method_16_code 29 = .ok (.bipush 17, 2) ∧ 29 + 2 = 31 := ⟨by decide +kernel, rfl⟩
theorem dc_A_seek_31 : decode prog_2_method_16_code 31 = .ok (.imul, 1) ∧ 31 + 1 = 32 := ⟨by decide +kernel, rfl⟩
theorem dc_A_seek_32 : decode prog_2_method_16_code 32 = .ok (.iadd, 1) ∧ 32 + 1 = 33 := ⟨by decide +kernel, rfl⟩
theorem dc_A_seek_33 : decode prog_2_method_16_code 33 = .ok (.iload_n 2, 1) ∧ 33 + 1 = 34 := ⟨by decide +kernel, rfl⟩
theorem dc_A_seek_34 : decode prog_2_method_16_code 34 = .ok (.sipush 20000, 3) ∧ 34 + 3 = 37 := ⟨by decide +kernel, rfl⟩
theorem dc_A_seek_37 : decode prog_2_method_16_code 37 = .ok (.invokevirtual 159, 3) ∧ 37 + 3 = 40 := ⟨by decide +kernel, rfl⟩
theorem dc_A_seek_40 : decode prog_2_method_16_code 40 = .ok (.istore 4, 2) ∧ 40 + 2 = 42 := ⟨by decide +kernel, rfl⟩
theorem dc_A_seek_42 : decode prog_2_method_16_code 42 = .ok (.aload_n 0, 1) ∧ 42 + 1 = 43 := ⟨by decide +kernel, rfl⟩
theorem dc_A_seek_43 : decode prog_2_method_16_code 43 = .ok (.iload_n 3, 1) ∧ 43 + 1 = 44 := ⟨by decide +kernel, rfl⟩
theorem dc_A_seek_44 : decode prog_2_method_16_code 44 = .ok (.iload_n 2, 1) ∧ 44 + 1 = 45 := ⟨by decide +kernel, rfl⟩
theorem dc_A_seek_45 : decode prog_2_method_16_code 45 = .ok (.ineg, 1) ∧ 45 + 1 = 46 := ⟨by decide +kernel, rfl⟩
theorem dc_A_seek_46 : decode prog_2_method_16_code 46 = .ok (.iload 4, 2) ∧ 46 + 2 = 48 := ⟨by decide +kernel, rfl⟩
theorem dc_A_seek_48 : decode prog_2_method_16_code 48 = .ok (.invokevirtual 159, 3) ∧ 48 + 3 = 51 := ⟨by decide +kernel, rfl⟩
theorem dc_A_seek_51 : decode prog_2_method_16_code 51 = .ok (.istore 4, 2) ∧ 51 + 2 = 53 := ⟨by decide +kernel, rfl⟩
theorem dc_A_seek_53 : decode prog_2_method_16_code 53 = .ok (.iload 4, 2) ∧ 53 + 2 = 55 := ⟨by decide +kernel, rfl⟩
theorem dc_A_seek_55 : decode prog_2_method_16_code 55 = .ok (.ifCond .ge 5, 3) ∧ ((55 : Nat) : Int) + (5) = ((60 : Nat) : Int) ∧ 55 + 3 = 58 := ⟨by decide +kernel, by decide, rfl⟩
theorem dc_A_seek_58 : decode prog_2_method_16_code 58 = .ok (.iconst 0, 1) ∧ 58 + 1 = 59 := ⟨by decide +kernel, rfl⟩
theorem dc_A_seek_59 : decode prog_2_method_16_code 59 = .ok (.ireturn, 1) := by decide +kernel
theorem dc_A_seek_60 : decode prog_2_method_16_code 60 = .ok (.aload_n 0, 1) ∧ 60 + 1 = 61 := ⟨by decide +kernel, rfl⟩
theorem dc_A_seek_61 : decode prog_2_method_16_code 61 = .ok (.iconst 5, 1) ∧ 61 + 1 = 62 := ⟨by decide +kernel, rfl⟩
theorem dc_A_seek_62 : decode prog_2_method_16_code 62 = .ok (.iconst 1, 1) ∧ 62 + 1 = 63 := ⟨by decide +kernel, rfl⟩
theorem dc_A_seek_63 : decode prog_2_method_16_code 63 = .ok (.invokevirtual 163, 3) ∧ 63 + 3 = 66 := ⟨by decide +kernel, rfl⟩
theorem dc_A_seek_66 : decode prog_2_method_16_code 66 = .ok (.iconst 1, 1) ∧ 66 + 1 = 67 := ⟨by decide +kernel, rfl⟩
theorem dc_A_seek_67 : decode prog_2_method_16_code 67 = .ok (.ireturn, 1) := by decide +kernel
theorem dc_A_approach_0 : decode prog_2_method_20_code 0 = .ok (.iload_n 3, 1) ∧ 0 + 1 = 1 := ⟨by decide +kernel, rfl⟩
theorem dc_A_approach_1 : decode prog_2_method_20_code 1 = .ok (.istore 4, 2) ∧ 1 + 2 = 3 := ⟨by decide +kernel, rfl⟩
theorem dc_A_approach_3 : decode prog_2_method_20_code 3 = .ok (.iload 4, 2) ∧ 3 + 2 = 5 := ⟨by decide +kernel, rfl⟩
theorem dc_A_approach_5 : decode prog_2_method_20_code 5 = .ok (.ifCond .lt 74, 3) ∧ ((5 : Nat) : Int) + (74) = ((79 : Nat) : Int) ∧ 5 + 3 = 8 := ⟨by decide +kernel, by decide, rfl⟩
theorem dc_A_approach_8 : decode prog_2_method_20_code 8 = .ok (.iload_n 1, 1) ∧ 8 + 1 = 9 := ⟨by decide +kernel, rfl⟩
theorem dc_A_approach_9 : decode prog_2_method_20_code 9 = .ok (.aload_n 0, 1) ∧ 9 + 1 = 10 := ⟨by decide +kernel, rfl⟩
theorem dc_A_approach_10 : decode prog_2_method_20_code 10 = .ok (.getfield 63, 3) ∧ 10 + 3 = 13 := ⟨by decide +kernel, rfl⟩
theorem dc_A_approach_13 : decode prog_2_method_20_code 13 = .ok (.isub, 1) ∧ 13 + 1 = 14 := ⟨by decide +kernel, rfl⟩
theorem dc_A_approach_14 : decode prog_2_method_20_code 14 = .ok (.iload_n 2, 1) ∧ 14 + 1 = 15 := ⟨by decide +kernel, rfl⟩
theorem dc_A_approach_15 : decode prog_2_method_20_code 15 = .ok (.imul, 1) ∧ 15 + 1 = 16 := ⟨by decide +kernel, rfl⟩
theorem dc_A_approach_16 : decode prog_2_method_20_code 16 = .ok (.ifCond .le 63, 3) ∧ ((16 : Nat) : Int) + (63) = ((79 : Nat) : Int) ∧ 16 + 3 = 19 := ⟨by decide +kernel, by decide, rfl⟩
theorem dc_A_approach_19 : decode prog_2_method_20_code 19 = .ok (.iload 4, 2) ∧ 19 + 2 = 21 := ⟨by decide +kernel, rfl⟩
theorem dc_A_approach_21 : decode prog_2_method_20_code 21 = .ok (.ifCond .eq 10, 3) ∧ ((21 : Nat) : Int) + (10) = ((31 : Nat) : Int) ∧ 21 + 3 = 24 := ⟨by decide +kernel, by decide, rfl⟩
theorem dc_A_approach_24 : decode prog_2_method_20_code 24 = .ok (.aload_n 0, 1) ∧ 24 + 1 = 25 := ⟨by decide +kernel, rfl⟩
theorem dc_A_approach_25 : decode prog_2_method_20_code 25 = .ok (.invokevirtual 166, 3) ∧ 25 + 3 = 28 := ⟨by decide +kernel, rfl⟩
theorem dc_A_approach_28 : decode prog_2_method_20_code 28 = .ok (.ifCond .eq 5, 3) ∧ ((28 : Nat) : Int) + (5) = ((33 : Nat) : Int) ∧ 28 + 3 = 31 := ⟨by decide +kernel, by decide, rfl⟩
theorem dc_A_approach_31 : decode prog_2_method_20_code 31 = .ok (.iconst (-1), 1) ∧ 31 + 1 = 32 := ⟨by decide +kernel, rfl⟩
theorem dc_A_approach_32 : decode prog_2_method_20_code 32 = .ok (.ireturn, 1) := by decide +kernel
theorem dc_A_approach_33 : decode prog_2_method_20_code 33 = .ok (.aload_n 0, 1) ∧ 33 + 1 = 34 := ⟨by decide +kernel, rfl⟩
theorem dc_A_approach_34 : decode prog_2_method_20_code 34 = .ok (.iload_n 2, 1) ∧ 34 + 1 = 35 := ⟨by decide +kernel, rfl⟩
theorem dc_A_approach_35 : decode prog_2_method_20_code 35 = .ok (.invokevirtual 139, 3) ∧ 35 + 3 = 38 := ⟨by decide +kernel, rfl⟩
theorem dc_A_approach_38 : decode prog_2_method_20_code 38 = .ok (.aload_n 0, 1) ∧ 38 + 1 = 39 := ⟨by decide +kernel, rfl⟩
theorem dc_A_approach_39 : decode prog_2_method_20_code 39 = .ok (.iload_n 1, 1) ∧ 39 + 1 = 40 := ⟨by decide +kernel, rfl⟩
theorem dc_A_approach_40 : decode prog_2_method_20_code 40 = .ok (.iload_n 2, 1) ∧ 40 + 1 = 41 := ⟨by decide +kernel, rfl⟩
theorem dc_A_approach_41 : decode prog_2_method_20_code 41 = .ok (.invokevirtual 170, 3) ∧ 41 + 3 = 44 := ⟨by decide +kernel, rfl⟩
theorem dc_A_approach_44 : decode prog_2_method_20_code 44 = .ok (.invokestatic 142, 3) ∧ 44 + 3 = 47 := ⟨by decide +kernel, rfl⟩
theorem dc_A_approach_47 : decode prog_2_method_20_code 47 = .ok (.istore 5, 2) ∧ 47 + 2 = 49 := ⟨by decide +kernel, rfl⟩
theorem dc_A_approach_49 : decode prog_2_method_20_code 49 = .ok (.iload 4, 2) ∧ 49 + 2 = 51 := ⟨by decide +kernel, rfl⟩
theorem dc_A_approach_51 : decode prog_2_method_20_code 51 = .ok (.iconst 1, 1) ∧ 51 + 1 = 52 := ⟨by decide +kernel, rfl⟩
theorem dc_A_approach_52 : decode prog_2_method_20_code 52 = .ok (.iload 5, 2) ∧ 52 + 2 = 54 := ⟨by decide +kernel, rfl⟩
theorem dc_A_approach_54 : decode prog_2_method_20_code 54 = .ok (.invokestatic 108, 3) ∧ 54 + 3 = 57 := ⟨by decide +kernel, rfl⟩
theorem dc_A_approach_57 : decode prog_2_method_20_code 57 = .ok (.invokestatic 142, 3) ∧ 57 + 3 = 60 := ⟨by decide +kernel, rfl⟩
theorem dc_A_approach_60 : decode prog_2_method_20_code 60 = .ok (.istore 6, 2) ∧ 60 + 2 = 62 := ⟨by decide +kernel, rfl⟩
theorem dc_A_approach_62 : decode prog_2_method_20_code 62 = .ok (.aload_n 0, 1) ∧ 62 + 1 = 63 := ⟨by decide +kernel, rfl⟩
theorem dc_A_approach_63 : decode prog_2_method_20_code 63 = .ok (.iload_n 2, 1) ∧ 63 + 1 = 64 := ⟨by decide +kernel, rfl⟩
theorem dc_A_approach_64 : decode prog_2_method_20_code 64 = .ok (.iload 6, 2) ∧ 64 + 2 = 66 := ⟨by decide +kernel, rfl⟩
theorem dc_A_approach_66 : decode prog_2_method_20_code 66 = .ok (.invokevirtual 145, 3) ∧ 66 + 3 = 69 := ⟨by decide +kernel, rfl⟩
theorem dc_A_approach_69 : decode prog_2_method_20_code 69 = .ok (.iload 4, 2) ∧ 69 + 2 = 71 := ⟨by decide +kernel, rfl⟩
theorem dc_A_approach_71 : decode prog_2_method_20_code 71 = .ok (.iload 6, 2) ∧ 71 + 2 = 73 := ⟨by decide +kernel, rfl⟩
theorem dc_A_approach_73 : decode prog_2_method_20_code 73 = .ok (.isub, 1) ∧ 73 + 1 = 74 := ⟨by decide +kernel, rfl⟩
theorem dc_A_approach_74 : decode prog_2_method_20_code 74 = .ok (.istore 4, 2) ∧ 74 + 2 = 76 := ⟨by decide +kernel, rfl⟩
theorem dc_A_approach_76 : decode prog_2_method_20_code 76 = .ok (.goto (-73), 3) ∧ ((76 : Nat) : Int) + (-73) = ((3 : Nat) : Int) := ⟨by decide +kernel, by decide⟩
theorem dc_A_approach_79 : decode prog_2_method_20_code 79 = .ok (.iload 4, 2) ∧ 79 + 2 = 81 := ⟨by decide +kernel, rfl⟩
theorem dc_A_approach_81 : decode prog_2_method_20_code 81 = .ok (.ireturn, 1) := by decide +kernel
theorem dc_A_microstepsOfTable_0 : decode prog_2_method_21_code 0 = .ok (.aload_n 0, 1) ∧ 0 + 1 = 1 := ⟨by decide +kernel, rfl⟩
theorem dc_A_microstepsOfTable_1 : decode prog_2_method_21_code 1 = .ok (.iconst 0, 1) ∧ 1 + 1 = 2 := ⟨by decide +kernel, rfl⟩
theorem dc_A_microstepsOfTable_2 : decode prog_2_method_21_code 2 = .ok (.invokevirtual 95, 3) ∧ 2 + 3 = 5 := ⟨by decide +kernel, rfl⟩
theorem dc_A_microstepsOfTable_5 : decode prog_2_method_21_code 5 = .ok (.istore_n 3, 1) ∧ 5 + 1 = 6 := ⟨by decide +kernel, rfl⟩
theorem dc_A_microstepsOfTable_6 : decode prog_2_method_21_code 6 = .ok (.iload_n 2, 1) ∧ 6 + 1 = 7 := ⟨by decide +kernel, rfl⟩
theorem dc_A_microstepsOfTable_7 : decode prog_2_method_21_code 7 = .ok (.ifCond .le 16, 3) ∧ ((7 : Nat) : Int) + (16) = ((23 : Nat) : Int) ∧ 7 + 3 = 10 := ⟨by decide +kernel, by decide, rfl⟩
theorem dc_A_microstepsOfTable_10 : decode prog_2_method_21_code 10 = .ok (.aload_n 0, 1) ∧ 10 + 1 = 11 := ⟨by decide +kernel, rfl⟩
theorem dc_A_microstepsOfTable_11 : decode prog_2_method_21_code 11 = .ok (.getfield 60, 3) ∧ 11 + 3 = 14 := ⟨by decide +kernel, rfl⟩
theorem dc_A_microstepsOfTable_14 : decode prog_2_method_21_code 14 = .ok (.aload_n 0, 1) ∧ 14 + 1 = 15 := ⟨by decide +kernel, rfl⟩
theorem dc_A_microstepsOfTable_15 : decode prog_2_method_21_code 15 = .ok (.iconst 4, 1) ∧ 15 + 1 = 16 := ⟨by decide +kernel, rfl⟩
theorem dc_A_microstepsOfTable_16 : decode prog_2_method_21_code 16 = .ok (.invokevirtual 95, 3) ∧ 16 + 3 = 19 := ⟨by decide +kernel, rfl⟩
theorem dc_A_microstepsOfTable_19 : decode prog_2_method_21_code 19 = .ok (.isub, 1) ∧ 19 + 1 = 20 := ⟨by decide +kernel, rfl⟩
theorem dc_A_microstepsOfTable_20 : decode prog_2_method_21_code 20 = .ok (.goto 7, 3) ∧ ((20 : Nat) : Int) + (7) = ((27 : Nat) : Int) := ⟨by decide +kernel, by decide⟩
theorem dc_A_microstepsOfTable_23 : decode prog_2_method_21_code 23 = .ok (.aload_n 0, 1) ∧ 23 + 1 = 24 := ⟨by decide +kernel, rfl⟩
theorem dc_A_microstepsOfTable_24 : decode prog_2_method_21_code 24 = .ok (.getfield 60, 3) ∧ 24 + 3 = 27 := ⟨by decide +kernel, rfl⟩
theorem dc_A_microstepsOfTable_27 : decode prog_2_method_21_code 27 = .ok (.istore 4, 2) ∧ 27 + 2 = 29 := ⟨by decide +kernel, rfl⟩
theorem dc_A_microstepsOfTable_29 : decode prog_2_method_21_code 29 = .ok (.iload_n 3, 1) ∧ 29 + 1 = 30 := ⟨by decide +kernel, rfl⟩
theorem dc_A_microstepsOfTable_30 : decode prog_2_method_21_code 30 = .ok (.ifCond .le 18, 3) ∧ ((30 : Nat) : Int) + (18) = ((48 : Nat) : Int) ∧ 30 + 3 = 33 := ⟨by decide +kernel, by decide, rfl⟩
theorem dc_A_microstepsOfTable_33 : decode prog_2_method_21_code 33 = .ok (.iload_n 1, 1) ∧ 33 + 1 = 34 := ⟨by decide +kernel, rfl⟩
theorem dc_A_microstepsOfTable_34 : decode prog_2_method_21_code 34 = .ok (.iload 4, 2) ∧ 34 + 2 = 36 := ⟨by decide +kernel, rfl⟩
theorem dc_A_microstepsOfTable_36 : decode prog_2_method_21_code 36 = .ok (.isub, 1) ∧ 36 + 1 = 37 := ⟨by decide +kernel, rfl⟩
theorem dc_A_microstepsOfTable_37 : decode prog_2_method_21_code 37 = .ok (.iload_n 2, 1) ∧ 37 + 1 = 38 := ⟨by decide +kernel, rfl⟩
theorem dc_A_microstepsOfTable_38 : decode prog_2_method_21_code 38 = .ok (.imul, 1) ∧ 38 + 1 = 39 := ⟨by decide +kernel, rfl⟩
theorem dc_A_microstepsOfTable_39 : decode prog_2_method_21_code 39 = .ok (.iload_n 3, 1) ∧ 39 + 1 = 40 := ⟨by decide +kernel, rfl⟩
theorem dc_A_microstepsOfTable_40 : decode prog_2_method_21_code 40 = .ok (.iadd, 1) ∧ 40 + 1 = 41 := ⟨by decide +kernel, rfl⟩
theorem dc_A_microstepsOfTable_41 : decode prog_2_method_21_code 41 = .ok (.iconst 1, 1) ∧ 41 + 1 = 42 := ⟨by decide +kernel, rfl⟩
theorem dc_A_microstepsOfTable_42 : decode prog_2_method_21_code 42 = .ok (.isub, 1) ∧ 42 + 1 = 43 := ⟨by decide +kernel, rfl⟩
theorem dc_A_microstepsOfTable_43 : decode prog_2_method_21_code 43 = .ok (.iload_n 3, 1) ∧ 43 + 1 = 44 := ⟨by decide +kernel, rfl⟩
theorem dc_A_microstepsOfTable_44 : decode prog_2_method_21_code 44 = .ok (.idiv, 1) ∧ 44 + 1 = 45 := ⟨by decide +kernel, rfl⟩
theorem dc_A_microstepsOfTable_45 : decode prog_2_method_21_code 45 = .ok (.goto 4, 3) ∧ ((45 : Nat) : Int) + (4) = ((49 : Nat) : Int) := ⟨by decide +kernel, by decide⟩
theorem dc_A_microstepsOfTable_48 : decode prog_2_method_21_code 48 = .ok (.iconst 0, 1) ∧ 48 + 1 = 49 := ⟨by decide +kernel, rfl⟩
theorem dc_A_microstepsOfTable_49 : decode prog_2_method_21_code 49 = .ok (.ireturn, 1) := by decide +kernel
theorem dc_A_counterDue_0 : decode prog_2_method_17_code 0 = .ok (.iload_n 1, 1) ∧ 0 + 1 = 1 := ⟨by decide +kernel, rfl⟩
theorem dc_A_counterDue_1 : decode prog_2_method_17_code 1 = .ok (.ifCond .ne 16, 3) ∧ ((1 : Nat) : Int) + (16) = ((17 : Nat) : Int) ∧ 1 + 3 = 4 := ⟨by decide +kernel, by decide, rfl⟩
theorem dc_A_counterDue_4 : decode prog_2_method_17_code 4 = .ok (.aload_n 0, 1) ∧ 4 + 1 = 5 := ⟨by decide +kernel, rfl⟩
theorem dc_A_counterDue_5 : decode prog_2_method_17_code 5 = .ok (.getfield 50, 3) ∧ 5 + 3 = 8 := ⟨by decide +kernel, rfl⟩
theorem dc_A_counterDue_8 : decode prog_2_method_17_code 8 = .ok (.aload_n 0, 1) ∧ 8 + 1 = 9 := ⟨by decide +kernel, rfl⟩
theorem dc_A_counterDue_9 : decode prog_2_method_17_code 9 = .ok (.iconst 5, 1) ∧ 9 + 1 = 10 := ⟨by decide +kernel, rfl⟩
theorem dc_A_counterDue_10 : decode prog_2_method_17_code 10 = .ok (.invokevirtual 95, 3) ∧ 10 + 3 = 13 := ⟨by decide +kernel, rfl⟩
theorem dc_A_counterDue_13 : decode prog_2_method_17_code 13 = .ok (.iadd, 1) ∧ 13 + 1 = 14 := ⟨by decide +kernel, rfl⟩
theorem dc_A_counterDue_14 : decode prog_2_method_17_code 14 = .ok (.goto 7, 3) ∧ ((14 : Nat) : Int) + (7) = ((21 : Nat) : Int) := ⟨by decide +kernel, by decide⟩
theorem dc_A_counterDue_17 : decode prog_2_method_17_code 17 = .ok (.aload_n 0, 1) ∧ 17 + 1 = 18 := ⟨by decide +kernel, rfl⟩
theorem dc_A_counterDue_18 : decode prog_2_method_17_code 18 = .ok (.getfield 54, 3) ∧ 18 + 3 = 21 := ⟨by decide +kernel, rfl⟩
theorem dc_A_counterDue_21 : decode prog_2_method_17_code 21 = .ok (.ireturn, 1) := by decide +kernel
theorem dc_A_moveCounterAlone_0 : decode prog_2_method_18_code 0 = .ok (.aload_n 0, 1) ∧ 0 + 1 = 1 := ⟨by decide +kernel, rfl⟩
theorem dc_A_moveCounterAlone_1 : decode prog_2_method_18_code 1 = .ok (.dup, 1) ∧ 1 + 1 = 2 := ⟨by decide +kernel, rfl⟩
theorem dc_A_moveCounterAlone_2 : decode prog_2_method_18_code 2 = .ok (.getfield 57, 3) ∧ 2 + 3 = 5 := ⟨by decide +kernel, rfl⟩
theorem dc_A_moveCounterAlone_5 : decode prog_2_method_18_code 5 = .ok (.iload_n 1, 1) ∧ 5 + 1 = 6 := ⟨by decide +kernel, rfl⟩
theorem dc_A_moveCounterAlone_6 : decode prog_2_method_18_code 6 = .ok (.iadd, 1) ∧ 6 + 1 = 7 := ⟨by decide +kernel, rfl⟩
theorem dc_A_moveCounterAlone_7 : decode prog_2_method_18_code 7 = .ok (.putfield 57, 3) ∧ 7 + 3 = 10 := ⟨by decide +kernel, rfl⟩
theorem dc_A_moveCounterAlone_10 : decode prog_2_method_18_code 10 = .ok (.aload_n 0, 1) ∧ 10 + 1 = 11 := ⟨by decide +kernel, rfl⟩
theorem dc_A_moveCounterAlone_11 : decode prog_2_method_18_code 11 = .ok (.dup, 1) ∧ 11 + 1 = 12 := ⟨by decide +kernel, rfl⟩
theorem dc_A_moveCounterAlone_12 : decode prog_2_method_18_code 12 = .ok (.getfield 72, 3) ∧ 12 + 3 = 15 := ⟨by decide +kernel, rfl⟩
theorem dc_A_moveCounterAlone_15 : decode prog_2_method_18_code 15 = .ok (.iload_n 1, 1) ∧ 15 + 1 = 16 := ⟨by decide +kernel, rfl⟩
theorem dc_A_moveCounterAlone_16 : decode prog_2_method_18_code 16 = .ok (.iadd, 1) ∧ 16 + 1 = 17 := ⟨by decide +kernel, rfl⟩
theorem dc_A_moveCounterAlone_17 : decode prog_2_method_18_code 17 = .ok (.putfield 72, 3) ∧ 17 + 3 = 20 := ⟨by decide +kernel, rfl⟩
theorem dc_A_moveCounterAlone_20 : decode prog_2_method_18_code 20 = .ok (.return_, 1) := by decide +kernel
theorem dc_F_adoptTrial_0 : decode prog_1_method_31_code 0 = .ok (.aload_n 0, 1) ∧ 0 + 1 = 1 := ⟨by decide +kernel, rfl⟩
theorem dc_F_adoptTrial_1 : decode prog_1_method_31_code 1 = .ok (.getfield 30, 3) ∧ 1 + 3 = 4 := ⟨by decide +kernel, rfl⟩
theorem dc_F_adoptTrial_4 : decode prog_1_method_31_code 4 = .ok (.aload_n 0, 1) ∧ 4 + 1 = 5 := ⟨by decide +kernel, rfl⟩
theorem dc_F_adoptTrial_5 : decode prog_1_method_31_code 5 = .ok (.getfield 10, 3) ∧ 5 + 3 = 8 := ⟨by decide +kernel, rfl⟩
theorem dc_F_adoptTrial_8 : decode prog_1_method_31_code 8 = .ok (.invokevirtual 50, 3) ∧ 8 + 3 = 11 := ⟨by decide +kernel, rfl⟩
theorem dc_F_adoptTrial_11 : decode prog_1_method_31_code 11 = .ok (.aload_n 0, 1) ∧ 11 + 1 = 12 := ⟨by decide +kernel, rfl⟩
theorem dc_F_adoptTrial_12 : decode prog_1_method_31_code 12 = .ok (.getfield 10, 3) ∧ 12 + 3 = 15 := ⟨by decide +kernel, rfl⟩
theorem dc_F_adoptTrial_15 : decode prog_1_method_31_code 15 = .ok (.aload_n 0, 1) ∧ 15 + 1 = 16 := ⟨by decide +kernel, rfl⟩
theorem dc_F_adoptTrial_16 : decode prog_1_method_31_code 16 = .ok (.getfield 16, 3) ∧ 16 + 3 = 19 := ⟨by decide +kernel, rfl⟩
theorem dc_F_adoptTrial_19 : decode prog_1_method_31_code 19 = .ok (.invokevirtual 87, 3) ∧ 19 + 3 = 22 := ⟨by decide +kernel, rfl⟩
theorem dc_F_adoptTrial_22 : decode prog_1_method_31_code 22 = .ok (.return_, 1) := by decide +kernel
theorem dc_F_check_0 : decode prog_1_method_13_code 0 = .ok (.iload_n 1, 1) ∧ 0 + 1 = 1 := ⟨by decide +kernel, rfl⟩
theorem dc_F_check_1 : decode prog_1_method_13_code 1 = .ok (.invokestatic 126, 3) ∧ 1 + 3 = 4 := ⟨by decide +kernel, rfl⟩
theorem dc_F_check_4 : decode prog_1_method_13_code 4 = .ok (.ifCond .ne 6, 3) ∧ ((4 : Nat) : Int) + (6) = ((10 : Nat) : Int) ∧ 4 + 3 = 7 := ⟨by decide +kernel, by decide, rfl⟩
theorem dc_F_check_7 : decode prog_1_method_13_code 7 = .ok (.ldc 45, 2) ∧ 7 + 2 = 9 := ⟨by decide +kernel, rfl⟩
theorem dc_F_check_9 : decode prog_1_method_13_code 9 = .ok (.ireturn, 1) := by decide +kernel
theorem dc_F_check_10 : decode prog_1_method_13_code 10 = .ok (.aload_n 0, 1) ∧ 10 + 1 = 11 := ⟨by decide +kernel, rfl⟩
theorem dc_F_check_11 : decode prog_1_method_13_code 11 = .ok (.getfield 10, 3) ∧ 11 + 3 = 14 := ⟨by decide +kernel, rfl⟩
theorem dc_F_check_14 : decode prog_1_method_13_code 14 = .ok (.getfield 73, 3) ∧ 14 + 3 = 17 := ⟨by decide +kernel, rfl⟩
theorem dc_F_check_17 : decode prog_1_method_13_code 17 = .ok (.ifCond .ne 6, 3) ∧ ((17 : Nat) : Int) + (6) = ((23 : Nat) : Int) ∧ 17 + 3 = 20 := ⟨by decide +kernel, by decide, rfl⟩
theorem dc_F_check_20 : decode prog_1_method_13_code 20 = .ok (.ldc 100, 2) ∧ 20 + 2 = 22 := ⟨by decide +kernel, rfl⟩
theorem dc_F_check_22 : decode prog_1_method_13_code 22 = .ok (.ireturn, 1) := by decide +kernel
theorem dc_F_check_23 : decode prog_1_method_13_code 23 = .ok (.aload_n 0, 1) ∧ 23 + 1 = 24 := ⟨by decide +kernel, rfl⟩
theorem dc_F_check_24 : decode prog_1_method_13_code 24 = .ok (.getfield 16, 3) ∧ 24 + 3 = 27 := ⟨by decide +kernel, rfl⟩
theorem dc_F_check_27 : decode prog_1_method_13_code 27 = .ok (.aload_n 0, 1) ∧ 27 + 1 = 28 := ⟨by decide +kernel, rfl⟩
theorem dc_F_check_28 : decode prog_1_method_13_code 28 = .ok (.getfield 10, 3) ∧ 28 + 3 = 31 := ⟨by decide +kernel, rfl⟩
theorem dc_F_check_31 : decode prog_1_method_13_code 31 = .ok (.invokevirtual 87, 3) ∧ 31 + 3 = 34 := ⟨by decide +kernel, rfl⟩
theorem dc_F_check_34 : decode prog_1_method_13_code 34 = .ok (.aload_n 0, 1) ∧ 34 + 1 = 35 := ⟨by decide +kernel, rfl⟩
theorem dc_F_check_35 : decode prog_1_method_13_code 35 = .ok (.getfield 16, 3) ∧ 35 + 3 = 38 := ⟨by decide +kernel, rfl⟩
theorem dc_F_check_38 : decode prog_1_method_13_code 38 = .ok (.iload_n 1, 1) ∧ 38 + 1 = 39 := ⟨by decide +kernel, rfl⟩
theorem dc_F_check_39 : decode prog_1_method_13_code 39 = .ok (.invokevirtual 129, 3) ∧ 39 + 3 = 42 := ⟨by decide +kernel, rfl⟩
theorem dc_F_check_42 : decode prog_1_method_13_code 42 = .ok (.ifCond .ne 6, 3) ∧ ((42 : Nat) : Int) + (6) = ((48 : Nat) : Int) ∧ 42 + 3 = 45 := ⟨by decide +kernel, by decide, rfl⟩
theorem dc_F_check_45 : decode prog_1_method_13_code 45 = .ok (.ldc 132, 2) ∧ 45 + 2 = 47 := ⟨by decide +kernel, rfl⟩
theorem dc_F_check_47 : decode prog_1_method_13_code 47 = .ok (.ireturn, 1) := by decide +kernel
theorem dc_F_check_48 : decode prog_1_method_13_code 48 = .ok (.aload_n 0, 1) ∧ 48 + 1 = 49 := ⟨by decide +kernel, rfl⟩
theorem dc_F_check_49 : decode prog_1_method_13_code 49 = .ok (.invokevirtual 94, 3) ∧ 49 + 3 = 52 := ⟨by decide +kernel, rfl⟩
theorem dc_F_check_52 : decode prog_1_method_13_code 52 = .ok (.aload_n 0, 1) ∧ 52 + 1 = 53 := ⟨by decide +kernel, rfl⟩
theorem dc_F_check_53 : decode prog_1_method_13_code 53 = .ok (.getfield 10, 3) ∧ 53 + 3 = 56 := ⟨by decide +kernel, rfl⟩
theorem dc_F_check_56 : decode prog_1_method_13_code 56 = .ok (.getfield 136, 3) ∧ 56 + 3 = 59 := ⟨by decide +kernel, rfl⟩
theorem dc_F_check_59 : decode prog_1_method_13_code 59 = .ok (.aload_n 0, 1) ∧ 59 + 1 = 60 := ⟨by decide +kernel, rfl⟩
theorem dc_F_check_60 : decode prog_1_method_13_code 60 = .ok (.getfield 10, 3) ∧ 60 + 3 = 63 := ⟨by decide +kernel, rfl⟩
theorem dc_F_check_63 : decode prog_1_method_13_code 63 = .ok (.iload_n 1, 1) ∧ 63 + 1 = 64 := ⟨by decide +kernel, rfl⟩
theorem dc_F_check_64 : decode prog_1_method_13_code 64 = .ok (.invokevirtual 133, 3) ∧ 64 + 3 = 67 := ⟨by decide +kernel, rfl⟩
theorem dc_F_check_67 : decode prog_1_method_13_code 67 = .ok (.isub, 1) ∧ 67 + 1 = 68 := ⟨by decide +kernel, rfl⟩
theorem dc_F_check_68 : decode prog_1_method_13_code 68 = .ok (.ireturn, 1) := by decide +kernel
theorem dc_F_correct_0 : decode prog_1_method_14_code 0 = .ok (.iload_n 1, 1) ∧ 0 + 1 = 1 := ⟨by decide +kernel, rfl⟩
theorem dc_F_correct_1 : decode prog_1_method_14_code 1 = .ok (.sipush (-9999), 3) ∧ 1 + 3 = 4 := ⟨by decide +kernel, rfl⟩
theorem dc_F_correct_4 : decode prog_1_method_14_code 4 = .ok (.if_icmp .lt 10, 3) ∧ ((4 : Nat) : Int) + (10) = ((14 : Nat) : Int) ∧ 4 + 3 = 7 := ⟨by decide +kernel, by decide, rfl⟩
theorem dc_F_correct_7 : decode prog_1_method_14_code 7 = .ok (.iload_n 1, 1) ∧ 7 + 1 = 8 := ⟨by decide +kernel, rfl⟩
theorem dc_F_correct_8 : decode prog_1_method_14_code 8 = .ok (.sipush 9999, 3) ∧ 8 + 3 = 11 := ⟨by decide +kernel, rfl⟩
theorem dc_F_correct_11 : decode prog_1_method_14_code 11 = .ok (.if_icmp .le 6, 3) ∧ ((11 : Nat) : Int) + (6) = ((17 : Nat) : Int) ∧ 11 + 3 = 14 := ⟨by decide +kernel, by decide, rfl⟩
theorem dc_F_correct_14 : decode prog_1_method_14_code 14 = .ok (.ldc 45, 2) ∧ 14 + 2 = 16 := ⟨by decide +kernel, rfl⟩
theorem dc_F_correct_16 : decode prog_1_method_14_code 16 = .ok (.ireturn, 1) := by decide +kernel
theorem dc_F_correct_17 : decode prog_1_method_14_code 17 = .ok (.aload_n 0, 1) ∧ 17 + 1 = 18 := ⟨by decide +kernel, rfl⟩
theorem dc_F_correct_18 : decode prog_1_method_14_code 18 = .ok (.getfield 10, 3) ∧ 18 + 3 = 21 := ⟨by decide +kernel, rfl⟩
theorem dc_F_correct_21 : decode prog_1_method_14_code 21 = .ok (.getfield 136, 3) ∧ 21 + 3 = 24 := ⟨by decide +kernel, rfl⟩
theorem dc_F_correct_24 : decode prog_1_method_14_code 24 = .ok (.iload_n 1, 1) ∧ 24 + 1 = 25 := ⟨by decide +kernel, rfl⟩
theorem dc_F_correct_25 : decode prog_1_method_14_code 25 = .ok (.isub, 1) ∧ 25 + 1 = 26 := ⟨by decide +kernel, rfl⟩
theorem dc_F_correct_26 : decode prog_1_method_14_code 26 = .ok (.istore_n 2, 1) ∧ 26 + 1 = 27 := ⟨by decide +kernel, rfl⟩
theorem dc_F_correct_27 : decode prog_1_method_14_code 27 = .ok (.iload_n 2, 1) ∧ 27 + 1 = 28 := ⟨by decide +kernel, rfl⟩
theorem dc_F_correct_28 : decode prog_1_method_14_code 28 = .ok (.ldc 143, 2) ∧ 28 + 2 = 30 := ⟨by decide +kernel, rfl⟩
theorem dc_F_correct_30 : decode prog_1_method_14_code 30 = .ok (.if_icmp .lt 9, 3) ∧ ((30 : Nat) : Int) + (9) = ((39 : Nat) : Int) ∧ 30 + 3 = 33 := ⟨by decide +kernel, by decide, rfl⟩
theorem dc_F_correct_33 : decode prog_1_method_14_code 33 = .ok (.iload_n 2, 1) ∧ 33 + 1 = 34 := ⟨by decide +kernel, rfl⟩
theorem dc_F_correct_34 : decode prog_1_method_14_code 34 = .ok (.ldc 144, 2) ∧ 34 + 2 = 36 := ⟨by decide +kernel, rfl⟩
theorem dc_F_correct_36 : decode prog_1_method_14_code 36 = .ok (.if_icmp .le 6, 3) ∧ ((36 : Nat) : Int) + (6) = ((42 : Nat) : Int) ∧ 36 + 3 = 39 := ⟨by decide +kernel, by decide, rfl⟩
theorem dc_F_correct_39 : decode prog_1_method_14_code 39 = .ok (.ldc 100, 2) ∧ 39 + 2 = 41 := ⟨by decide +kernel, rfl⟩
theorem dc_F_correct_41 : decode prog_1_method_14_code 41 = .ok (.ireturn, 1) := by decide +kernel
theorem dc_F_correct_42 : decode prog_1_method_14_code 42 = .ok (.aload_n 0, 1) ∧ 42 + 1 = 43 := ⟨by decide +kernel, rfl⟩
theorem dc_F_correct_43 : decode prog_1_method_14_code 43 = .ok (.getfield 30, 3) ∧ 43 + 3 = 46 := ⟨by decide +kernel, rfl⟩
theorem dc_F_correct_46 : decode prog_1_method_14_code 46 = .ok (.aload_n 0, 1) ∧ 46 + 1 = 47 := ⟨by decide +kernel, rfl⟩
theorem dc_F_correct_47 : decode prog_1_method_14_code 47 = .ok (.getfield 10, 3) ∧ 47 + 3 = 50 := ⟨by decide +kernel, rfl⟩
theorem dc_F_correct_50 : decode prog_1_method_14_code 50 = .ok (.invokevirtual 50, 3) ∧ 50 + 3 = 53 := ⟨by decide +kernel, rfl⟩
theorem dc_F_correct_53 : decode prog_1_method_14_code 53 = .ok (.aload_n 0, 1) ∧ 53 + 1 = 54 := ⟨by decide +kernel, rfl⟩
theorem dc_F_correct_54 : decode prog_1_method_14_code 54 = .ok (.getfield 10, 3) ∧ 54 + 3 = 57 := ⟨by decide +kernel, rfl⟩
theorem dc_F_correct_57 : decode prog_1_method_14_code 57 = .ok (.iload_n 1, 1) ∧ 57 + 1 = 58 := ⟨by decide +kernel, rfl⟩
theorem dc_F_correct_58 : decode prog_1_method_14_code 58 = .ok (.ineg, 1) ∧ 58 + 1 = 59 := ⟨by decide +kernel, rfl⟩
theorem dc_F_correct_59 : decode prog_1_method_14_code 59 = .ok (.invokevirtual 139, 3) ∧ 59 + 3 = 62 := ⟨by decide +kernel, rfl⟩
theorem dc_F_correct_62 : decode prog_1_method_14_code 62 = .ok (.aload_n 0, 1) ∧ 62 + 1 = 63 := ⟨by decide +kernel, rfl⟩
theorem dc_F_correct_63 : decode prog_1_method_14_code 63 = .ok (.getfield 10, 3) ∧ 63 + 3 = 66 := ⟨by decide +kernel, rfl⟩
theorem dc_F_correct_66 : decode prog_1_method_14_code 66 = .ok (.getfield 136, 3) ∧ 66 + 3 = 69 := ⟨by decide +kernel, rfl⟩
theorem dc_F_correct_69 : decode prog_1_method_14_code 69 = .ok (.ireturn, 1) := by decide +kernel
theorem dc_F_addCommand_0 : decode prog_1_method_10_code 0 = .ok (.iload_n 1, 1) ∧ 0 + 1 = 1 := ⟨by decide +kernel, rfl⟩
theorem dc_F_addCommand_1 : decode prog_1_method_10_code 1 = .ok (.invokestatic 58, 3) ∧ 1 + 3 = 4 := ⟨by decide +kernel, rfl⟩
theorem dc_F_addCommand_4 : decode prog_1_method_10_code 4 = .ok (.ifCond .eq 13, 3) ∧ ((4 : Nat) : Int) + (13) = ((17 : Nat) : Int) ∧ 4 + 3 = 7 := ⟨by decide +kernel, by decide, rfl⟩
theorem dc_F_addCommand_7 : decode prog_1_method_10_code 7 = .ok (.iload_n 2, 1) ∧ 7 + 1 = 8 := ⟨by decide +kernel, rfl⟩
theorem dc_F_addCommand_8 : decode prog_1_method_10_code 8 = .ok (.ifCond .lt 9, 3) ∧ ((8 : Nat) : Int) + (9) = ((17 : Nat) : Int) ∧ 8 + 3 = 11 := ⟨by decide +kernel, by decide, rfl⟩
theorem dc_F_addCommand_11 : decode prog_1_method_10_code 11 = .ok (.iload_n 2, 1) ∧ 11 + 1 = 12 := ⟨by decide +kernel, rfl⟩
theorem dc_F_addCommand_12 : decode prog_1_method_10_code 12 = .ok (.bipush 9, 2) ∧ 12 + 2 = 14 := ⟨by decide +kernel, rfl⟩
theorem dc_F_addCommand_14 : decode prog_1_method_10_code 14 = .ok (.if_icmp .le 6, 3) ∧ ((14 : Nat) : Int) + (6) = ((20 : Nat) : Int) ∧ 14 + 3 = 17 := ⟨by decide +kernel, by decide, rfl⟩
theorem dc_F_addCommand_17 : decode prog_1_method_10_code 17 = .ok (.ldc 45, 2) ∧ 17 + 2 = 19 := ⟨by decide +kernel, rfl⟩
theorem dc_F_addCommand_19 : decode prog_1_method_10_code 19 = .ok (.ireturn, 1) := by decide +kernel
theorem dc_F_addCommand_20 : decode prog_1_method_10_code 20 = .ok (.aload_n 0, 1) ∧ 20 + 1 = 21 := ⟨by decide +kernel, rfl⟩
theorem dc_F_addCommand_21 : decode prog_1_method_10_code 21 = .ok (.getfield 10, 3) ∧ 21 + 3 = 24 := ⟨by decide +kernel, rfl⟩
theorem dc_F_addCommand_24 : decode prog_1_method_10_code 24 = .ok (.getfield 107, 3) ∧ 24 + 3 = 27 := ⟨by decide +kernel, rfl⟩
theorem dc_F_addCommand_27 : decode prog_1_method_10_code 27 = .ok (.invokevirtual 111, 3) ∧ 27 + 3 = 30 := ⟨by decide +kernel, rfl⟩
theorem dc_F_addCommand_30 : decode prog_1_method_10_code 30 = .ok (.ifCond .eq 6, 3) ∧ ((30 : Nat) : Int) + (6) = ((36 : Nat) : Int) ∧ 30 + 3 = 33 := ⟨by decide +kernel, by decide, rfl⟩
theorem dc_F_addCommand_33 : decode prog_1_method_10_code 33 = .ok (.ldc 83, 2) ∧ 33 + 2 = 35 := ⟨by decide +kernel, rfl⟩
theorem dc_F_addCommand_35 : decode prog_1_method_10_code 35 = .ok (.ireturn, 1) := by decide +kernel
theorem dc_F_addCommand_36 : decode prog_1_method_10_code 36 = .ok (.aload_n 0, 1) ∧ 36 + 1 = 37 := ⟨by decide +kernel, rfl⟩
theorem dc_F_addCommand_37 : decode prog_1_method_10_code 37 = .ok (.getfield 30, 3) ∧ 37 + 3 = 40 := ⟨by decide +kernel, rfl⟩
theorem dc_F_addCommand_40 : decode prog_1_method_10_code 40 = .ok (.aload_n 0, 1) ∧ 40 + 1 = 41 := ⟨by decide +kernel, rfl⟩
theorem dc_F_addCommand_41 : decode prog_1_method_10_code 41 = .ok (.getfield 10, 3) ∧ 41 + 3 = 44 := ⟨by decide +kernel, rfl⟩
theorem dc_F_addCommand_44 : decode prog_1_method_10_code 44 = .ok (.invokevirtual 50, 3) ∧ 44 + 3 = 47 := ⟨by decide +kernel, rfl⟩
theorem dc_F_addCommand_47 : decode prog_1_method_10_code 47 = .ok (.aload_n 0, 1) ∧ 47 + 1 = 48 := ⟨by decide +kernel, rfl⟩
theorem dc_F_addCommand_48 : decode prog_1_method_10_code 48 = .ok (.getfield 10, 3) ∧ 48 + 3 = 51 := ⟨by decide +kernel, rfl⟩
theorem dc_F_addCommand_51 : decode prog_1_method_10_code 51 = .ok (.getfield 107, 3) ∧ 51 + 3 = 54 := ⟨by decide +kernel, rfl⟩
theorem dc_F_addCommand_54 : decode prog_1_method_10_code 54 = .ok (.iload_n 1, 1) ∧ 54 + 1 = 55 := ⟨by decide +kernel, rfl⟩
theorem dc_F_addCommand_55 : decode prog_1_method_10_code 55 = .ok (.iload_n 2, 1) ∧ 55 + 1 = 56 := ⟨by decide +kernel, rfl⟩
theorem dc_F_addCommand_56 : decode prog_1_method_10_code 56 = .ok (.invokevirtual 117, 3) ∧ 56 + 3 = 59 := ⟨by decide +kernel, rfl⟩
theorem dc_F_addCommand_59 : decode prog_1_method_10_code 59 = .ok (.aload_n 0, 1) ∧ 59 + 1 = 60 := ⟨by decide +kernel, rfl⟩
theorem dc_F_addCommand_60 : decode prog_1_method_10_code 60 = .ok (.getfield 10, 3) ∧ 60 + 3 = 63 := ⟨by decide +kernel, rfl⟩
theorem dc_F_addCommand_63 : decode prog_1_method_10_code 63 = .ok (.getfield 107, 3) ∧ 63 + 3 = 66 := ⟨by decide +kernel, rfl⟩
theorem dc_F_addCommand_66 : decode prog_1_method_10_code 66 = .ok (.getfield 120, 3) ∧ 66 + 3 = 69 := ⟨by decide +kernel, rfl⟩
theorem dc_F_addCommand_69 : decode prog_1_method_10_code 69 = .ok (.ireturn, 1) := by decide +kernel
theorem dc_C_insert_0 : decode prog_3_method_4_code 0 = .ok (.iconst 0, 1) ∧ 0 + 1 = 1 := ⟨by decide +kernel, rfl⟩
theorem dc_C_insert_1 : decode prog_3_method_4_code 1 = .ok (.istore_n 3, 1) ∧ 1 + 1 = 2 := ⟨by decide +kernel, rfl⟩
theorem dc_C_insert_2 : decode prog_3_method_4_code 2 = .ok (.iload_n 3, 1) ∧ 2 + 1 = 3 := ⟨by decide +kernel, rfl⟩
theorem dc_C_insert_3 : decode prog_3_method_4_code 3 = .ok (.aload_n 0, 1) ∧ 3 + 1 = 4 := ⟨by decide +kernel, rfl⟩
theorem dc_C_insert_4 : decode prog_3_method_4_code 4 = .ok (.getfield 22, 3) ∧ 4 + 3 = 7 := ⟨by decide +kernel, rfl⟩
theorem dc_C_insert_7 : decode prog_3_method_4_code 7 = .ok (.if_icmp .ge 18, 3) ∧ ((7 : Nat) : Int) + (18) = ((25 : Nat) : Int) ∧ 7 + 3 = 10 := ⟨by decide +kernel, by decide, rfl⟩
theorem dc_C_insert_10 : decode prog_3_method_4_code 10 = .ok (.aload_n 0, 1) ∧ 10 + 1 = 11 := ⟨by decide +kernel, rfl⟩
theorem dc_C_insert_11 : decode prog_3_method_4_code 11 = .ok (.iload_n 3, 1) ∧ 11 + 1 = 12 := ⟨by decide +kernel, rfl⟩
theorem dc_C_insert_12 : decode prog_3_method_4_code 12 = .ok (.invokevirtual 26, 3) ∧ 12 + 3 = 15 := ⟨by decide +kernel, rfl⟩
theorem dc_C_insert_15 : decode prog_3_method_4_code 15 = .ok (.iload_n 2, 1) ∧ 15 + 1 = 16 := ⟨by decide +kernel, rfl⟩
theorem dc_C_insert_16 : decode prog_3_method_4_code 16 = .ok (.if_icmp .lt 9, 3) ∧ ((16 : Nat) : Int) + (9) = ((25 : Nat) : Int) ∧ 16 + 3 = 19 := ⟨by decide +kernel, by decide, rfl⟩
theorem dc_C_insert_19 : decode prog_3_method_4_code 19 = .ok (.iinc 3 1, 3) ∧ 19 + 3 = 22 := ⟨by decide +kernel, rfl⟩
theorem dc_C_insert_22 : decode prog_3_method_4_code 22 = .ok (.goto (-20), 3) ∧ ((22 : Nat) : Int) + (-20) = ((2 : Nat) : Int) := ⟨by decide +kernel, by decide⟩
theorem dc_C_insert_25 : decode prog_3_method_4_code 25 = .ok (.aload_n 0, 1) ∧ 25 + 1 = 26 := ⟨by decide +kernel, rfl⟩
theorem dc_C_insert_26 : decode prog_3_method_4_code 26 = .ok (.iload_n 3, 1) ∧ 26 + 1 = 27 := ⟨by decide +kernel, rfl⟩
theorem dc_C_insert_27 : decode prog_3_method_4_code 27 = .ok (.iload_n 1, 1) ∧ 27 + 1 = 28 := ⟨by decide +kernel, rfl⟩
theorem dc_C_insert_28 : decode prog_3_method_4_code 28 = .ok (.iload_n 2, 1) ∧ 28 + 1 = 29 := ⟨by decide +kernel, rfl⟩
theorem dc_C_insert_29 : decode prog_3_method_4_code 29 = .ok (.invokevirtual 30, 3) ∧ 29 + 3 = 32 := ⟨by decide +kernel, rfl⟩
theorem dc_C_insert_32 : decode prog_3_method_4_code 32 = .ok (.return_, 1) := by decide +kernel
theorem dc_F_run_0 : decode prog_1_method_11_code 0 = .ok (.iload_n 1, 1) ∧ 0 + 1 = 1 := ⟨by decide +kernel, rfl⟩
theorem dc_F_run_1 : decode prog_1_method_11_code 1 = .ok (.iconst 1, 1) ∧ 1 + 1 = 2 := ⟨by decide +kernel, rfl⟩
theorem dc_F_run_2 : decode prog_1_method_11_code 2 = .ok (.if_icmp .lt 9, 3) ∧ ((2 : Nat) : Int) + (9) = ((11 : Nat) : Int) ∧ 2 + 3 = 5 := ⟨by decide +kernel, by decide, rfl⟩
theorem dc_F_run_5 : decode prog_1_method_11_code 5 = .ok (.iload_n 1, 1) ∧ 5 + 1 = 6 := ⟨by decide +kernel, rfl⟩
theorem dc_F_run_6 : decode prog_1_method_11_code 6 = .ok (.bipush 8, 2) ∧ 6 + 2 = 8 := ⟨by decide +kernel, rfl⟩
theorem dc_F_run_8 : decode prog_1_method_11_code 8 = .ok (.if_icmp .le 6, 3) ∧ ((8 : Nat) : Int) + (6) = ((14 : Nat) : Int) ∧ 8 + 3 = 11 := ⟨by decide +kernel, by decide, rfl⟩
theorem dc_F_run_11 : decode prog_1_method_11_code 11 = .ok (.ldc 45, 2) ∧ 11 + 2 = 13 := ⟨by decide +kernel, rfl⟩
theorem dc_F_run_13 : decode prog_1_method_11_code 13 = .ok (.ireturn, 1) := by decide +kernel
theorem dc_F_run_14 : decode prog_1_method_11_code 14 = .ok (.aload_n 0, 1) ∧ 14 + 1 = 15 := ⟨by decide +kernel, rfl⟩
theorem dc_F_run_15 : decode prog_1_method_11_code 15 = .ok (.getfield 10, 3) ∧ 15 + 3 = 18 := ⟨by decide +kernel, rfl⟩
theorem dc_F_run_18 : decode prog_1_method_11_code 18 = .ok (.getfield 107, 3) ∧ 18 + 3 = 21 := ⟨by decide +kernel, rfl⟩
theorem dc_F_run_21 : decode prog_1_method_11_code 21 = .ok (.getfield 120, 3) ∧ 21 + 3 = 24 := ⟨by decide +kernel, rfl⟩
theorem dc_F_run_24 : decode prog_1_method_11_code 24 = .ok (.ifCond .ne 6, 3) ∧ ((24 : Nat) : Int) + (6) = ((30 : Nat) : Int) ∧ 24 + 3 = 27 := ⟨by decide +kernel, by decide, rfl⟩
theorem dc_F_run_27 : decode prog_1_method_11_code 27 = .ok (.ldc 100, 2) ∧ 27 + 2 = 29 := ⟨by decide +kernel, rfl⟩
theorem dc_F_run_29 : decode prog_1_method_11_code 29 = .ok (.ireturn, 1) := by decide +kernel
theorem dc_F_run_30 : decode prog_1_method_11_code 30 = .ok (.aload_n 0, 1) ∧ 30 + 1 = 31 := ⟨by decide +kernel, rfl⟩
theorem dc_F_run_31 : decode prog_1_method_11_code 31 = .ok (.getfield 30, 3) ∧ 31 + 3 = 34 := ⟨by decide +kernel, rfl⟩
theorem dc_F_run_34 : decode prog_1_method_11_code 34 = .ok (.aload_n 0, 1) ∧ 34 + 1 = 35 := ⟨by decide +kernel, rfl⟩
theorem dc_F_run_35 : decode prog_1_method_11_code 35 = .ok (.getfield 10, 3) ∧ 35 + 3 = 38 := ⟨by decide +kernel, rfl⟩
theorem dc_F_run_38 : decode prog_1_method_11_code 38 = .ok (.invokevirtual 50, 3) ∧ 38 + 3 = 41 := ⟨by decide +kernel, rfl⟩
theorem dc_F_run_41 : decode prog_1_method_11_code 41 = .ok (.iconst 0, 1) ∧ 41 + 1 = 42 := ⟨by decide +kernel, rfl⟩
theorem dc_F_run_42 : decode prog_1_method_11_code 42 = .ok (.istore_n 2, 1) ∧ 42 + 1 = 43 := ⟨by decide +kernel, rfl⟩
theorem dc_F_run_43 : decode prog_1_method_11_code 43 = .ok (.iload_n 2, 1) ∧ 43 + 1 = 44 := ⟨by decide +kernel, rfl⟩
theorem dc_F_run_44 : decode prog_1_method_11_code 44 = .ok (.iload_n 1, 1) ∧ 44 + 1 = 45 := ⟨by decide +kernel, rfl⟩
theorem dc_F_run_45 : decode prog_1_method_11_code 45 = .ok (.if_icmp .ge 29, 3) ∧ ((45 : Nat) : Int) + (29) = ((74 : Nat) : Int) ∧ 45 + 3 = 48 := ⟨by decide +kernel, by decide, rfl⟩
theorem dc_F_run_48 : decode prog_1_method_11_code 48 = .ok (.aload_n 0, 1) ∧ 48 + 1 = 49 := ⟨by decide +kernel, rfl⟩
theorem dc_F_run_49 : decode prog_1_method_11_code 49 = .ok (.getfield 10, 3) ∧ 49 + 3 = 52 := ⟨by decide +kernel, rfl⟩
theorem dc_F_run_52 : decode prog_1_method_11_code 52 = .ok (.getfield 107, 3) ∧ 52 + 3 = 55 := ⟨by decide +kernel, rfl⟩
theorem dc_F_run_55 : decode prog_1_method_11_code 55 = .ok (.getfield 120, 3) ∧ 55 + 3 = 58 := ⟨by decide +kernel, rfl⟩
theorem dc_F_run_58 : decode prog_1_method_11_code 58 = .ok (.ifCond .le 16, 3) ∧ ((58 : Nat) : Int) + (16) = ((74 : Nat) : Int) ∧ 58 + 3 = 61 := ⟨by decide +kernel, by decide, rfl⟩
theorem dc_F_run_61 : decode prog_1_method_11_code 61 = .ok (.aload_n 0, 1) ∧ 61 + 1 = 62 := ⟨by decide +kernel, rfl⟩
theorem dc_F_run_62 : decode prog_1_method_11_code 62 = .ok (.getfield 10, 3) ∧ 62 + 3 = 65 := ⟨by decide +kernel, rfl⟩
theorem dc_F_run_65 : decode prog_1_method_11_code 65 = .ok (.invokevirtual 123, 3) ∧ 65 + 3 = 68 := ⟨by decide +kernel, rfl⟩
theorem dc_F_run_68 : decode prog_1_method_11_code 68 = .ok (.iinc 2 1, 3) ∧ 68 + 3 = 71 := ⟨by decide +kernel, rfl⟩
theorem dc_F_run_71 : decode prog_1_method_11_code 71 = .ok (.goto (-28), 3) ∧ ((71 : Nat) : Int) + (-28) = ((43 : Nat) : Int) := ⟨by decide +kernel, by decide⟩
theorem dc_F_run_74 : decode prog_1_method_11_code 74 = .ok (.aload_n 0, 1) ∧ 74 + 1 = 75 := ⟨by decide +kernel, rfl⟩
theorem dc_F_run_75 : decode prog_1_method_11_code 75 = .ok (.getfield 10, 3) ∧ 75 + 3 = 78 := ⟨by decide +kernel, rfl⟩
theorem dc_F_run_78 : decode prog_1_method_11_code 78 = .ok (.getfield 107, 3) ∧ 78 + 3 = 81 := ⟨by decide +kernel, rfl⟩
theorem dc_F_run_81 : decode prog_1_method_11_code 81 = .ok (.getfield 120, 3) ∧ 81 + 3 = 84 := ⟨by decide +kernel, rfl⟩
theorem dc_F_run_84 : decode prog_1_method_11_code 84 = .ok (.ireturn, 1) := by decide +kernel
theorem dc_A_carryOutNext_0 : decode prog_2_method_15_code 0 = .ok (.aload_n 0, 1) ∧ 0 + 1 = 1 := ⟨by decide +kernel, rfl⟩
theorem dc_A_carryOutNext_1 : decode prog_2_method_15_code 1 = .ok (.aload_n 0, 1) ∧ 1 + 1 = 2 := ⟨by decide +kernel, rfl⟩
theorem dc_A_carryOutNext_2 : decode prog_2_method_15_code 2 = .ok (.getfield 31, 3) ∧ 2 + 3 = 5 := ⟨by decide +kernel, rfl⟩
theorem dc_A_carryOutNext_5 : decode prog_2_method_15_code 5 = .ok (.invokevirtual 155, 3) ∧ 5 + 3 = 8 := ⟨by decide +kernel, rfl⟩
theorem dc_A_carryOutNext_8 : decode prog_2_method_15_code 8 = .ok (.invokevirtual 152, 3) ∧ 8 + 3 = 11 := ⟨by decide +kernel, rfl⟩
theorem dc_A_carryOutNext_11 : decode prog_2_method_15_code 11 = .ok (.pop, 1) ∧ 11 + 1 = 12 := ⟨by decide +kernel, rfl⟩
theorem dc_A_carryOutNext_12 : decode prog_2_method_15_code 12 = .ok (.return_, 1) := by decide +kernel
theorem dc_C_takeNext_0 : decode prog_3_method_5_code 0 = .ok (.aload_n 0, 1) ∧ 0 + 1 = 1 := ⟨by decide +kernel, rfl⟩
theorem dc_C_takeNext_1 : decode prog_3_method_5_code 1 = .ok (.iconst 0, 1) ∧ 1 + 1 = 2 := ⟨by decide +kernel, rfl⟩
theorem dc_C_takeNext_2 : decode prog_3_method_5_code 2 = .ok (.invokevirtual 34, 3) ∧ 2 + 3 = 5 := ⟨by decide +kernel, rfl⟩
theorem dc_C_takeNext_5 : decode prog_3_method_5_code 5 = .ok (.istore_n 1, 1) ∧ 5 + 1 = 6 := ⟨by decide +kernel, rfl⟩
theorem dc_C_takeNext_6 : decode prog_3_method_5_code 6 = .ok (.aload_n 0, 1) ∧ 6 + 1 = 7 := ⟨by decide +kernel, rfl⟩
theorem dc_C_takeNext_7 : decode prog_3_method_5_code 7 = .ok (.iconst 0, 1) ∧ 7 + 1 = 8 := ⟨by decide +kernel, rfl⟩
theorem dc_C_takeNext_8 : decode prog_3_method_5_code 8 = .ok (.invokevirtual 37, 3) ∧ 8 + 3 = 11 := ⟨by decide +kernel, rfl⟩
theorem dc_C_takeNext_11 : decode prog_3_method_5_code 11 = .ok (.iload_n 1, 1) ∧ 11 + 1 = 12 := ⟨by decide +kernel, rfl⟩
theorem dc_C_takeNext_12 : decode prog_3_method_5_code 12 = .ok (.ireturn, 1) := by decide +kernel
theorem dc_F_back_0 : decode prog_1_method_16_code 0 = .ok (.aload_n 0, 1) ∧ 0 + 1 = 1 := ⟨by decide +kernel, rfl⟩
theorem dc_F_back_1 : decode prog_1_method_16_code 1 = .ok (.iload_n 1, 1) ∧ 1 + 1 = 2 := ⟨by decide +kernel, rfl⟩
theorem dc_F_back_2 : decode prog_1_method_16_code 2 = .ok (.invokevirtual 145, 3) ∧ 2 + 3 = 5 := ⟨by decide +kernel, rfl⟩
theorem dc_F_back_5 : decode prog_1_method_16_code 5 = .ok (.astore_n 2, 1) ∧ 5 + 1 = 6 := ⟨by decide +kernel, rfl⟩
theorem dc_F_back_6 : decode prog_1_method_16_code 6 = .ok (.aload_n 2, 1) ∧ 6 + 1 = 7 := ⟨by decide +kernel, rfl⟩
theorem dc_F_back_7 : decode prog_1_method_16_code 7 = .ok (.ifnonnull 6, 3) ∧ ((7 : Nat) : Int) + (6) = ((13 : Nat) : Int) ∧ 7 + 3 = 10 := ⟨by decide +kernel, by decide, rfl⟩
theorem dc_F_back_10 : decode prog_1_method_16_code 10 = .ok (.ldc 45, 2) ∧ 10 + 2 = 12 := ⟨by decide +kernel, rfl⟩
theorem dc_F_back_12 : decode prog_1_method_16_code 12 = .ok (.ireturn, 1) := by decide +kernel
theorem dc_F_back_13 : decode prog_1_method_16_code 13 = .ok (.aload_n 0, 1) ∧ 13 + 1 = 14 := ⟨by decide +kernel, rfl⟩
theorem dc_F_back_14 : decode prog_1_method_16_code 14 = .ok (.getfield 23, 3) ∧ 14 + 3 = 17 := ⟨by decide +kernel, rfl⟩
theorem dc_F_back_17 : decode prog_1_method_16_code 17 = .ok (.iconst 1, 1) ∧ 17 + 1 = 18 := ⟨by decide +kernel, rfl⟩
theorem dc_F_back_18 : decode prog_1_method_16_code 18 = .ok (.iload_n 1, 1) ∧ 18 + 1 = 19 := ⟨by decide +kernel, rfl⟩
theorem dc_F_back_19 : decode prog_1_method_16_code 19 = .ok (.ishl, 1) ∧ 19 + 1 = 20 := ⟨by decide +kernel, rfl⟩
theorem dc_F_back_20 : decode prog_1_method_16_code 20 = .ok (.iand, 1) ∧ 20 + 1 = 21 := ⟨by decide +kernel, rfl⟩
theorem dc_F_back_21 : decode prog_1_method_16_code 21 = .ok (.ifCond .ne 6, 3) ∧ ((21 : Nat) : Int) + (6) = ((27 : Nat) : Int) ∧ 21 + 3 = 24 := ⟨by decide +kernel, by decide, rfl⟩
theorem dc_F_back_24 : decode prog_1_method_16_code 24 = .ok (.ldc 100, 2) ∧ 24 + 2 = 26 := ⟨by decide +kernel, rfl⟩
theorem dc_F_back_26 : decode prog_1_method_16_code 26 = .ok (.ireturn, 1) := by decide +kernel
theorem dc_F_back_27 : decode prog_1_method_16_code 27 = .ok (.aload_n 0, 1) ∧ 27 + 1 = 28 := ⟨by decide +kernel, rfl⟩
theorem dc_F_back_28 : decode prog_1_method_16_code 28 = .ok (.getfield 30, 3) ∧ 28 + 3 = 31 := ⟨by decide +kernel, rfl⟩
theorem dc_F_back_31 : decode prog_1_method_16_code 31 = .ok (.aload_n 0, 1) ∧ 31 + 1 = 32 := ⟨by decide +kernel, rfl⟩
theorem dc_F_back_32 : decode prog_1_method_16_code 32 = .ok (.getfield 10, 3) ∧ 32 + 3 = 35 := ⟨by decide +kernel, rfl⟩
theorem dc_F_back_35 : decode prog_1_method_16_code 35 = .ok (.invokevirtual 50, 3) ∧ 35 + 3 = 38 := ⟨by decide +kernel, rfl⟩
theorem dc_F_back_38 : decode prog_1_method_16_code 38 = .ok (.aload_n 0, 1) ∧ 38 + 1 = 39 := ⟨by decide +kernel, rfl⟩
theorem dc_F_back_39 : decode prog_1_method_16_code 39 = .ok (.getfield 10, 3) ∧ 39 + 3 = 42 := ⟨by decide +kernel, rfl⟩
theorem dc_F_back_42 : decode prog_1_method_16_code 42 = .ok (.aload_n 2, 1) ∧ 42 + 1 = 43 := ⟨by decide +kernel, rfl⟩
theorem dc_F_back_43 : decode prog_1_method_16_code 43 = .ok (.invokevirtual 87, 3) ∧ 43 + 3 = 46 := ⟨by decide +kernel, rfl⟩
theorem dc_F_back_46 : decode prog_1_method_16_code 46 = .ok (.aload_n 0, 1) ∧ 46 + 1 = 47 := ⟨by decide +kernel, rfl⟩
theorem dc_F_back_47 : decode prog_1_method_16_code 47 = .ok (.getfield 10, 3) ∧ 47 + 3 = 50 := ⟨by decide +kernel, rfl⟩
theorem dc_F_back_50 : decode prog_1_method_16_code 50 = .ok (.getfield 136, 3) ∧ 50 + 3 = 53 := ⟨by decide +kernel, rfl⟩
theorem dc_F_back_53 : decode prog_1_method_16_code 53 = .ok (.ireturn, 1) := by decide +kernel
theorem dc_F_moveTo_0 : decode prog_1_method_9_code 0 = .ok (.iload_n 1, 1) ∧ 0 + 1 = 1 := ⟨by decide +kernel, rfl⟩
theorem dc_F_moveTo_1 : decode prog_1_method_9_code 1 = .ok (.invokestatic 58, 3) ∧ 1 + 3 = 4 := ⟨by decide +kernel, rfl⟩
theorem dc_F_moveTo_4 : decode prog_1_method_9_code 4 = .ok (.ifCond .ne 6, 3) ∧ ((4 : Nat) : Int) + (6) = ((10 : Nat) : Int) ∧ 4 + 3 = 7 := ⟨by decide +kernel, by decide, rfl⟩
theorem dc_F_moveTo_7 : decode prog_1_method_9_code 7 = .ok (.ldc 45, 2) ∧ 7 + 2 = 9 := ⟨by decide +kernel, rfl⟩
theorem dc_F_moveTo_9 : decode prog_1_method_9_code 9 = .ok (.ireturn, 1) := by decide +kernel
theorem dc_F_moveTo_10 : decode prog_1_method_9_code 10 = .ok (.aload_n 0, 1) ∧ 10 + 1 = 11 := ⟨by decide +kernel, rfl⟩
theorem dc_F_moveTo_11 : decode prog_1_method_9_code 11 = .ok (.getfield 10, 3) ∧ 11 + 3 = 14 := ⟨by decide +kernel, rfl⟩
theorem dc_F_moveTo_14 : decode prog_1_method_9_code 14 = .ok (.iload_n 1, 1) ∧ 14 + 1 = 15 := ⟨by decide +kernel, rfl⟩
theorem dc_F_moveTo_15 : decode prog_1_method_9_code 15 = .ok (.invokevirtual 97, 3) ∧ 15 + 3 = 18 := ⟨by decide +kernel, rfl⟩
theorem dc_F_moveTo_18 : decode prog_1_method_9_code 18 = .ok (.ifCond .eq 6, 3) ∧ ((18 : Nat) : Int) + (6) = ((24 : Nat) : Int) ∧ 18 + 3 = 21 := ⟨by decide +kernel, by decide, rfl⟩
theorem dc_F_moveTo_21 : decode prog_1_method_9_code 21 = .ok (.ldc 100, 2) ∧ 21 + 2 = 23 := ⟨by decide +kernel, rfl⟩
theorem dc_F_moveTo_23 : decode prog_1_method_9_code 23 = .ok (.ireturn, 1) := by decide +kernel
theorem dc_F_moveTo_24 : decode prog_1_method_9_code 24 = .ok (.aload_n 0, 1) ∧ 24 + 1 = 25 := ⟨by decide +kernel, rfl⟩
theorem dc_F_moveTo_25 : decode prog_1_method_9_code 25 = .ok (.getfield 10, 3) ∧ 25 + 3 = 28 := ⟨by decide +kernel, rfl⟩
theorem dc_F_moveTo_28 : decode prog_1_method_9_code 28 = .ok (.getfield 101, 3) ∧ 28 + 3 = 31 := ⟨by decide +kernel, rfl⟩
theorem dc_F_moveTo_31 : decode prog_1_method_9_code 31 = .ok (.istore_n 2, 1) ∧ 31 + 1 = 32 := ⟨by decide +kernel, rfl⟩
theorem dc_F_moveTo_32 : decode prog_1_method_9_code 32 = .ok (.aload_n 0, 1) ∧ 32 + 1 = 33 := ⟨by decide +kernel, rfl⟩
theorem dc_F_moveTo_33 : decode prog_1_method_9_code 33 = .ok (.getfield 30, 3) ∧ 33 + 3 = 36 := ⟨by decide +kernel, rfl⟩
theorem dc_F_moveTo_36 : decode prog_1_method_9_code 36 = .ok (.aload_n 0, 1) ∧ 36 + 1 = 37 := ⟨by decide +kernel, rfl⟩
theorem dc_F_moveTo_37 : decode prog_1_method_9_code 37 = .ok (.getfield 10, 3) ∧ 37 + 3 = 40 := ⟨by decide +kernel, rfl⟩
theorem dc_F_moveTo_40 : decode prog_1_method_9_code 40 = .ok (.invokevirtual 50, 3) ∧ 40 + 3 = 43 := ⟨by decide +kernel, rfl⟩
theorem dc_F_moveTo_43 : decode prog_1_method_9_code 43 = .ok (.aload_n 0, 1) ∧ 43 + 1 = 44 := ⟨by decide +kernel, rfl⟩
theorem dc_F_moveTo_44 : decode prog_1_method_9_code 44 = .ok (.getfield 10, 3) ∧ 44 + 3 = 47 := ⟨by decide +kernel, rfl⟩
theorem dc_F_moveTo_47 : decode prog_1_method_9_code 47 = .ok (.iload_n 1, 1) ∧ 47 + 1 = 48 := ⟨by decide +kernel, rfl⟩
theorem dc_F_moveTo_48 : decode prog_1_method_9_code 48 = .ok (.invokevirtual 104, 3) ∧ 48 + 3 = 51 := ⟨by decide +kernel, rfl⟩
theorem dc_F_moveTo_51 : decode prog_1_method_9_code 51 = .ok (.pop, 1) ∧ 51 + 1 = 52 := ⟨by decide +kernel, rfl⟩
theorem dc_F_moveTo_52 : decode prog_1_method_9_code 52 = .ok (.aload_n 0, 1) ∧ 52 + 1 = 53 := ⟨by decide +kernel, rfl⟩
theorem dc_F_moveTo_53 : decode prog_1_method_9_code 53 = .ok (.getfield 10, 3) ∧ 53 + 3 = 56 := ⟨by decide +kernel, rfl⟩
theorem dc_F_moveTo_56 : decode prog_1_method_9_code 56 = .ok (.getfield 101, 3) ∧ 56 + 3 = 59 := ⟨by decide +kernel, rfl⟩
theorem dc_F_moveTo_59 : decode prog_1_method_9_code 59 = .ok (.iload_n 2, 1) ∧ 59 + 1 = 60 := ⟨by decide +kernel, rfl⟩
theorem dc_F_moveTo_60 : decode prog_1_method_9_code 60 = .ok (.isub, 1) ∧ 60 + 1 = 61 := ⟨by decide +kernel, rfl⟩
theorem dc_F_moveTo_61 : decode prog_1_method_9_code 61 = .ok (.ireturn, 1) := by decide +kernel
