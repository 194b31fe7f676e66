/-! decode rows (by program: wip/gen/g03.py) -/
theorem dc_L_cell_0 : decode method_2_code 0 = .ok (.iload_n 1, 1) ∧ 0 + 1 = 1 := ⟨by decide +kernel, rfl⟩
theorem dc_L_cell_1 : decode method_2_code 1 = .ok (.aload_n 0, 1) ∧ 1 + 1 = 2 := ⟨by decide +kernel, rfl⟩
theorem dc_L_cell_2 : decode method_2_code 2 = .ok (.arraylength, 1) ∧ 2 + 1 = 3 := ⟨by decide +kernel, rfl⟩
theorem dc_L_cell_3 : decode method_2_code 3 = .ok (.if_icmp .ge 9, 3) ∧ ((3 : Nat) : Int) + (9) = ((12 : Nat) : Int) ∧ 3 + 3 = 6 := ⟨by decide +kernel, by decide, rfl⟩
theorem dc_L_cell_6 : decode method_2_code 6 = .ok (.aload_n 0, 1) ∧ 6 + 1 = 7 := ⟨by decide +kernel, rfl⟩
theorem dc_L_cell_7 : decode method_2_code 7 = .ok (.iload_n 1, 1) ∧ 7 + 1 = 8 := ⟨by decide +kernel, rfl⟩
theorem dc_L_cell_8 : decode method_2_code 8 = .ok (.iaload, 1) ∧ 8 + 1 = 9 := ⟨by decide +kernel, rfl⟩
theorem dc_L_cell_9 : decode method_2_code 9 = .ok (.goto 15, 3) ∧ ((9 : Nat) : Int) + (15) = ((24 : Nat) : Int) := ⟨by decide +kernel, by decide⟩
theorem dc_L_cell_12 : decode method_2_code 12 = .ok (.sipush 7919, 3) ∧ 12 + 3 = 15 := ⟨by decide +kernel, rfl⟩
theorem dc_L_cell_15 : decode method_2_code 15 = .ok (.iload_n 1, 1) ∧ 15 + 1 = 16 := ⟨by decide +kernel, rfl⟩
theorem dc_L_cell_16 : decode method_2_code 16 = .ok (.iconst 3, 1) ∧ 16 + 1 = 17 := ⟨by decide +kernel, rfl⟩
theorem dc_L_cell_17 : decode method_2_code 17 = .ok (.iadd, 1) ∧ 17 + 1 = 18 := ⟨by decide +kernel, rfl⟩
theorem dc_L_cell_18 : decode method_2_code 18 = .ok (.imul, 1) ∧ 18 + 1 = 19 := ⟨by decide +kernel, rfl⟩
theorem dc_L_cell_19 : decode method_2_code 19 = .ok (.iload_n 1, 1) ∧ 19 + 1 = 20 := ⟨by decide +kernel, rfl⟩
theorem dc_L_cell_20 : decode method_2_code 20 = .ok (.bipush 11, 2) ∧ 20 + 2 = 22 := ⟨by decide +kernel, rfl⟩
theorem dc_L_cell_22 : decode method_2_code 22 = .ok (.iadd, 1) ∧ 22 + 1 = 23 := ⟨by decide +kernel, rfl⟩
theorem dc_L_cell_23 : decode method_2_code 23 = .ok (.imul, 1) ∧ 23 + 1 = 24 := ⟨by decide +kernel, rfl⟩
theorem dc_L_cell_24 : decode method_2_code 24 = .ok (.ireturn, 1) := by decide +kernel
theorem dc_L_low_0 : decode method_3_code 0 = .ok (.iload_n 0, 1) ∧ 0 + 1 = 1 := ⟨by decide +kernel, rfl⟩
theorem dc_L_low_1 : decode method_3_code 1 = .ok (.ldc 7, 2) ∧ 1 + 2 = 3 := ⟨by decide +kernel, rfl⟩
theorem dc_L_low_3 : decode method_3_code 3 = .ok (.iand, 1) ∧ 3 + 1 = 4 := ⟨by decide +kernel, rfl⟩
theorem dc_L_low_4 : decode method_3_code 4 = .ok (.iload_n 1, 1) ∧ 4 + 1 = 5 := ⟨by decide +kernel, rfl⟩
theorem dc_L_low_5 : decode method_3_code 5 = .ok (.irem, 1) ∧ 5 + 1 = 6 := ⟨by decide +kernel, rfl⟩
theorem dc_L_low_6 : decode method_3_code 6 = .ok (.ireturn, 1) := by decide +kernel
theorem dc_L_tale_0 : decode method_4_code 0 = .ok (.ldc2_w 8, 3) ∧ 0 + 3 = 3 := ⟨by decide +kernel, rfl⟩
theorem dc_L_tale_3 : decode method_4_code 3 = .ok (.lstore_n 1, 1) ∧ 3 + 1 = 4 := ⟨by decide +kernel, rfl⟩
theorem dc_L_tale_4 : decode method_4_code 4 = .ok (.iconst 0, 1) ∧ 4 + 1 = 5 := ⟨by decide +kernel, rfl⟩
theorem dc_L_tale_5 : decode method_4_code 5 = .ok (.istore_n 3, 1) ∧ 5 + 1 = 6 := ⟨by decide +kernel, rfl⟩
theorem dc_L_tale_6 : decode method_4_code 6 = .ok (.iload_n 3, 1) ∧ 6 + 1 = 7 := ⟨by decide +kernel, rfl⟩
theorem dc_L_tale_7 : decode method_4_code 7 = .ok (.bipush 18, 2) ∧ 7 + 2 = 9 := ⟨by decide +kernel, rfl⟩
theorem dc_L_tale_9 : decode method_4_code 9 = .ok (.if_icmp .ge 22, 3) ∧ ((9 : Nat) : Int) + (22) = ((31 : Nat) : Int) ∧ 9 + 3 = 12 := ⟨by decide +kernel, by decide, rfl⟩
theorem dc_L_tale_12 : decode method_4_code 12 = .ok (.lload_n 1, 1) ∧ 12 + 1 = 13 := ⟨by decide +kernel, rfl⟩
theorem dc_L_tale_13 : decode method_4_code 13 = .ok (.ldc2_w 10, 3) ∧ 13 + 3 = 16 := ⟨by decide +kernel, rfl⟩
theorem dc_L_tale_16 : decode method_4_code 16 = .ok (.lmul, 1) ∧ 16 + 1 = 17 := ⟨by decide +kernel, rfl⟩
theorem dc_L_tale_17 : decode method_4_code 17 = .ok (.aload_n 0, 1) ∧ 17 + 1 = 18 := ⟨by decide +kernel, rfl⟩
theorem dc_L_tale_18 : decode method_4_code 18 = .ok (.iload_n 3, 1) ∧ 18 + 1 = 19 := ⟨by decide +kernel, rfl⟩
theorem dc_L_tale_19 : decode method_4_code 19 = .ok (.invokevirtual 12, 3) ∧ 19 + 3 = 22 := ⟨by decide +kernel, rfl⟩
theorem dc_L_tale_22 : decode method_4_code 22 = .ok (.i2l, 1) ∧ 22 + 1 = 23 := ⟨by decide +kernel, rfl⟩
theorem dc_L_tale_23 : decode method_4_code 23 = .ok (.ladd, 1) ∧ 23 + 1 = 24 := ⟨by decide +kernel, rfl⟩
theorem dc_L_tale_24 : decode method_4_code 24 = .ok (.lstore_n 1, 1) ∧ 24 + 1 = 25 := ⟨by decide +kernel, rfl⟩
theorem dc_L_tale_25 : decode method_4_code 25 = .ok (.iinc 3 1, 3) ∧ 25 + 3 = 28 := ⟨by decide +kernel, rfl⟩
theorem dc_L_tale_28 : decode method_4_code 28 = .ok (.goto (-22), 3) ∧ ((28 : Nat) : Int) + (-22) = ((6 : Nat) : Int) := ⟨by decide +kernel, by decide⟩
theorem dc_L_tale_31 : decode method_4_code 31 = .ok (.iconst 0, 1) ∧ 31 + 1 = 32 := ⟨by decide +kernel, rfl⟩
theorem dc_L_tale_32 : decode method_4_code 32 = .ok (.istore_n 3, 1) ∧ 32 + 1 = 33 := ⟨by decide +kernel, rfl⟩
theorem dc_L_tale_33 : decode method_4_code 33 = .ok (.iload_n 3, 1) ∧ 33 + 1 = 34 := ⟨by decide +kernel, rfl⟩
theorem dc_L_tale_34 : decode method_4_code 34 = .ok (.bipush 6, 2) ∧ 34 + 2 = 36 := ⟨by decide +kernel, rfl⟩
theorem dc_L_tale_36 : decode method_4_code 36 = .ok (.if_icmp .ge 22, 3) ∧ ((36 : Nat) : Int) + (22) = ((58 : Nat) : Int) ∧ 36 + 3 = 39 := ⟨by decide +kernel, by decide, rfl⟩
theorem dc_L_tale_39 : decode method_4_code 39 = .ok (.lload_n 1, 1) ∧ 39 + 1 = 40 := ⟨by decide +kernel, rfl⟩
theorem dc_L_tale_40 : decode method_4_code 40 = .ok (.ldc2_w 18, 3) ∧ 40 + 3 = 43 := ⟨by decide +kernel, rfl⟩
theorem dc_L_tale_43 : decode method_4_code 43 = .ok (.lmul, 1) ∧ 43 + 1 = 44 := ⟨by decide +kernel, rfl⟩
theorem dc_L_tale_44 : decode method_4_code 44 = .ok (.aload_n 0, 1) ∧ 44 + 1 = 45 := ⟨by decide +kernel, rfl⟩
theorem dc_L_tale_45 : decode method_4_code 45 = .ok (.iload_n 3, 1) ∧ 45 + 1 = 46 := ⟨by decide +kernel, rfl⟩
theorem dc_L_tale_46 : decode method_4_code 46 = .ok (.invokevirtual 20, 3) ∧ 46 + 3 = 49 := ⟨by decide +kernel, rfl⟩
theorem dc_L_tale_49 : decode method_4_code 49 = .ok (.i2l, 1) ∧ 49 + 1 = 50 := ⟨by decide +kernel, rfl⟩
theorem dc_L_tale_50 : decode method_4_code 50 = .ok (.ladd, 1) ∧ 50 + 1 = 51 := ⟨by decide +kernel, rfl⟩
theorem dc_L_tale_51 : decode method_4_code 51 = .ok (.lstore_n 1, 1) ∧ 51 + 1 = 52 := ⟨by decide +kernel, rfl⟩
theorem dc_L_tale_52 : decode method_4_code 52 = .ok (.iinc 3 1, 3) ∧ 52 + 3 = 55 := ⟨by decide +kernel, rfl⟩
theorem dc_L_tale_55 : decode method_4_code 55 = .ok (.goto (-22), 3) ∧ ((55 : Nat) : Int) + (-22) = ((33 : Nat) : Int) := ⟨by decide +kernel, by decide⟩
theorem dc_L_tale_58 : decode method_4_code 58 = .ok (.sipush (-400), 3) ∧ 58 + 3 = 61 := ⟨by decide +kernel, rfl⟩
theorem dc_L_tale_61 : decode method_4_code 61 = .ok (.istore_n 3, 1) ∧ 61 + 1 = 62 := ⟨by decide +kernel, rfl⟩
theorem dc_L_tale_62 : decode method_4_code 62 = .ok (.iload_n 3, 1) ∧ 62 + 1 = 63 := ⟨by decide +kernel, rfl⟩
theorem dc_L_tale_63 : decode method_4_code 63 = .ok (.sipush 400, 3) ∧ 63 + 3 = 66 := ⟨by decide +kernel, rfl⟩
theorem dc_L_tale_66 : decode method_4_code 66 = .ok (.if_icmp .gt 33, 3) ∧ ((66 : Nat) : Int) + (33) = ((99 : Nat) : Int) ∧ 66 + 3 = 69 := ⟨by decide +kernel, by decide, rfl⟩
theorem dc_L_tale_69 : decode method_4_code 69 = .ok (.lload_n 1, 1) ∧ 69 + 1 = 70 := ⟨by decide +kernel, rfl⟩
theorem dc_L_tale_70 : decode method_4_code 70 = .ok (.ldc2_w 23, 3) ∧ 70 + 3 = 73 := ⟨by decide +kernel, rfl⟩
theorem dc_L_tale_73 : decode method_4_code 73 = .ok (.lmul, 1) ∧ 73 + 1 = 74 := ⟨by decide +kernel, rfl⟩
theorem dc_L_tale_74 : decode method_4_code 74 = .ok (.aload_n 0, 1) ∧ 74 + 1 = 75 := ⟨by decide +kernel, rfl⟩
theorem dc_L_tale_75 : decode method_4_code 75 = .ok (.iload_n 3, 1) ∧ 75 + 1 = 76 := ⟨by decide +kernel, rfl⟩
theorem dc_L_tale_76 : decode method_4_code 76 = .ok (.invokevirtual 25, 3) ∧ 76 + 3 = 79 := ⟨by decide +kernel, rfl⟩
theorem dc_L_tale_79 : decode method_4_code 79 = .ok (.i2l, 1) ∧ 79 + 1 = 80 := ⟨by decide +kernel, rfl⟩
theorem dc_L_tale_80 : decode method_4_code 80 = .ok (.ladd, 1) ∧ 80 + 1 = 81 := ⟨by decide +kernel, rfl⟩
theorem dc_L_tale_81 : decode method_4_code 81 = .ok (.ldc2_w 8, 3) ∧ 81 + 3 = 84 := ⟨by decide +kernel, rfl⟩
theorem dc_L_tale_84 : decode method_4_code 84 = .ok (.aload_n 0, 1) ∧ 84 + 1 = 85 := ⟨by decide +kernel, rfl⟩
theorem dc_L_tale_85 : decode method_4_code 85 = .ok (.iload_n 3, 1) ∧ 85 + 1 = 86 := ⟨by decide +kernel, rfl⟩
theorem dc_L_tale_86 : decode method_4_code 86 = .ok (.invokevirtual 28, 3) ∧ 86 + 3 = 89 := ⟨by decide +kernel, rfl⟩
theorem dc_L_tale_89 : decode method_4_code 89 = .ok (.i2l, 1) ∧ 89 + 1 = 90 := ⟨by decide +kernel, rfl⟩
theorem dc_L_tale_90 : decode method_4_code 90 = .ok (.lmul, 1) ∧ 90 + 1 = 91 := ⟨by decide +kernel, rfl⟩
theorem dc_L_tale_91 : decode method_4_code 91 = .ok (.ladd, 1) ∧ 91 + 1 = 92 := ⟨by decide +kernel, rfl⟩
theorem dc_L_tale_92 : decode method_4_code 92 = .ok (.lstore_n 1, 1) ∧ 92 + 1 = 93 := ⟨by decide +kernel, rfl⟩
theorem dc_L_tale_93 : decode method_4_code 93 = .ok (.iinc 3 25, 3) ∧ 93 + 3 = 96 := ⟨by decide +kernel, rfl⟩
theorem dc_L_tale_96 : decode method_4_code 96 = .ok (.goto (-34), 3) ∧ ((96 : Nat) : Int) + (-34) = ((62 : Nat) : Int) := ⟨by decide +kernel, by decide⟩
theorem dc_L_tale_99 : decode method_4_code 99 = .ok (.iconst 0, 1) ∧ 99 + 1 = 100 := ⟨by decide +kernel, rfl⟩
theorem dc_L_tale_100 : decode method_4_code 100 = .ok (.istore_n 3, 1) ∧ 100 + 1 = 101 := ⟨by decide +kernel, rfl⟩
theorem dc_L_tale_101 : decode method_4_code 101 = .ok (.iload_n 3, 1) ∧ 101 + 1 = 102 := ⟨by decide +kernel, rfl⟩
theorem dc_L_tale_102 : decode method_4_code 102 = .ok (.bipush 8, 2) ∧ 102 + 2 = 104 := ⟨by decide +kernel, rfl⟩
theorem dc_L_tale_104 : decode method_4_code 104 = .ok (.if_icmp .ge 35, 3) ∧ ((104 : Nat) : Int) + (35) = ((139 : Nat) : Int) ∧ 104 + 3 = 107 := ⟨by decide +kernel, by decide, rfl⟩
theorem dc_L_tale_107 : decode method_4_code 107 = .ok (.lload_n 1, 1) ∧ 107 + 1 = 108 := ⟨by decide +kernel, rfl⟩
theorem dc_L_tale_108 : decode method_4_code 108 = .ok (.ldc2_w 31, 3) ∧ 108 + 3 = 111 := ⟨by decide +kernel, rfl⟩
theorem dc_L_tale_111 : decode method_4_code 111 = .ok (.lmul, 1) ∧ 111 + 1 = 112 := ⟨by decide +kernel, rfl⟩
theorem dc_L_tale_112 : decode method_4_code 112 = .ok (.aload_n 0, 1) ∧ 112 + 1 = 113 := ⟨by decide +kernel, rfl⟩
theorem dc_L_tale_113 : decode method_4_code 113 = .ok (.iload_n 3, 1) ∧ 113 + 1 = 114 := ⟨by decide +kernel, rfl⟩
theorem dc_L_tale_114 : decode method_4_code 114 = .ok (.iconst 0, 1) ∧ 114 + 1 = 115 := ⟨by decide +kernel, rfl⟩
theorem dc_L_tale_115 : decode method_4_code 115 = .ok (.invokevirtual 33, 3) ∧ 115 + 3 = 118 := ⟨by decide +kernel, rfl⟩
theorem dc_L_tale_118 : decode method_4_code 118 = .ok (.i2l, 1) ∧ 118 + 1 = 119 := ⟨by decide +kernel, rfl⟩
theorem dc_L_tale_119 : decode method_4_code 119 = .ok (.ladd, 1) ∧ 119 + 1 = 120 := ⟨by decide +kernel, rfl⟩
theorem dc_L_tale_120 : decode method_4_code 120 = .ok (.ldc2_w 8, 3) ∧ 120 + 3 = 123 := ⟨by decide +kernel, rfl⟩
theorem dc_L_tale_123 : decode method_4_code 123 = .ok (.aload_n 0, 1) ∧ 123 + 1 = 124 := ⟨by decide +kernel, rfl⟩
theorem dc_L_tale_124 : decode method_4_code 124 = .ok (.iload_n 3, 1) ∧ 124 + 1 = 125 := ⟨by decide +kernel, rfl⟩
theorem dc_L_tale_125 : decode method_4_code 125 = .ok (.iconst 1, 1) ∧ 125 + 1 = 126 := ⟨by decide +kernel, rfl⟩
theorem dc_L_tale_126 : decode method_4_code 126 = .ok (.invokevirtual 33, 3) ∧ 126 + 3 = 129 := ⟨by decide +kernel, rfl⟩
theorem dc_L_tale_129 : decode method_4_code 129 = .ok (.i2l, 1) ∧ 129 + 1 = 130 := ⟨by decide +kernel, rfl⟩
theorem dc_L_tale_130 : decode method_4_code 130 = .ok (.lmul, 1) ∧ 130 + 1 = 131 := ⟨by decide +kernel, rfl⟩
theorem dc_L_tale_131 : decode method_4_code 131 = .ok (.ladd, 1) ∧ 131 + 1 = 132 := ⟨by decide +kernel, rfl⟩
theorem dc_L_tale_132 : decode method_4_code 132 = .ok (.lstore_n 1, 1) ∧ 132 + 1 = 133 := ⟨by decide +kernel, rfl⟩
theorem dc_L_tale_133 : decode method_4_code 133 = .ok (.iinc 3 1, 3) ∧ 133 + 3 = 136 := ⟨by decide +kernel, rfl⟩
theorem dc_L_tale_136 : decode method_4_code 136 = .ok (.goto (-35), 3) ∧ ((136 : Nat) : Int) + (-35) = ((101 : Nat) : Int) := ⟨by decide +kernel, by decide⟩
theorem dc_L_tale_139 : decode method_4_code 139 = .ok (.lload_n 1, 1) ∧ 139 + 1 = 140 := ⟨by decide +kernel, rfl⟩
theorem dc_L_tale_140 : decode method_4_code 140 = .ok (.ldc2_w 37, 3) ∧ 140 + 3 = 143 := ⟨by decide +kernel, rfl⟩
theorem dc_L_tale_143 : decode method_4_code 143 = .ok (.lmul, 1) ∧ 143 + 1 = 144 := ⟨by decide +kernel, rfl⟩
theorem dc_L_tale_144 : decode method_4_code 144 = .ok (.aload_n 0, 1) ∧ 144 + 1 = 145 := ⟨by decide +kernel, rfl⟩
theorem dc_L_tale_145 : decode method_4_code 145 = .ok (.iconst 0, 1) ∧ 145 + 1 = 146 := ⟨by decide +kernel, rfl⟩
theorem dc_L_tale_146 : decode method_4_code 146 = .ok (.invokevirtual 39, 3) ∧ 146 + 3 = 149 := ⟨by decide +kernel, rfl⟩
theorem dc_L_tale_149 : decode method_4_code 149 = .ok (.i2l, 1) ∧ 149 + 1 = 150 := ⟨by decide +kernel, rfl⟩
theorem dc_L_tale_150 : decode method_4_code 150 = .ok (.ladd, 1) ∧ 150 + 1 = 151 := ⟨by decide +kernel, rfl⟩
theorem dc_L_tale_151 : decode method_4_code 151 = .ok (.ldc2_w 8, 3) ∧ 151 + 3 = 154 := ⟨by decide +kernel, rfl⟩
theorem dc_L_tale_154 : decode method_4_code 154 = .ok (.aload_n 0, 1) ∧ 154 + 1 = 155 := ⟨by decide +kernel, rfl⟩
theorem dc_L_tale_155 : decode method_4_code 155 = .ok (.iconst 1, 1) ∧ 155 + 1 = 156 := ⟨by decide +kernel, rfl⟩
theorem dc_L_tale_156 : decode method_4_code 156 = .ok (.invokevirtual 39, 3) ∧ 156 + 3 = 159 := ⟨by decide +kernel, rfl⟩
theorem dc_L_tale_159 : decode method_4_code 159 = .ok (.i2l, 1) ∧ 159 + 1 = 160 := ⟨by decide +kernel, rfl⟩
theorem dc_L_tale_160 : decode method_4_code 160 = .ok (.lmul, 1) ∧ 160 + 1 = 161 := ⟨by decide +kernel, rfl⟩
theorem dc_L_tale_161 : decode method_4_code 161 = .ok (.ladd, 1) ∧ 161 + 1 = 162 := ⟨by decide +kernel, rfl⟩
theorem dc_L_tale_162 : decode method_4_code 162 = .ok (.lreturn, 1) := by decide +kernel
theorem dc_L_does_0 : decode method_5_code 0 = .ok (.iload_n 1, 1) ∧ 0 + 1 = 1 := ⟨by decide +kernel, rfl⟩
theorem dc_L_does_1 : decode method_5_code 1 = .ok (.iconst 4, 1) ∧ 1 + 1 = 2 := ⟨by decide +kernel, rfl⟩
theorem dc_L_does_2 : decode method_5_code 2 = .ok (.ishr, 1) ∧ 2 + 1 = 3 := ⟨by decide +kernel, rfl⟩
theorem dc_L_does_3 : decode method_5_code 3 = .ok (.sipush 801, 3) ∧ 3 + 3 = 6 := ⟨by decide +kernel, rfl⟩
theorem dc_L_does_6 : decode method_5_code 6 = .ok (.invokestatic 42, 3) ∧ 6 + 3 = 9 := ⟨by decide +kernel, rfl⟩
theorem dc_L_does_9 : decode method_5_code 9 = .ok (.sipush 400, 3) ∧ 9 + 3 = 12 := ⟨by decide +kernel, rfl⟩
theorem dc_L_does_12 : decode method_5_code 12 = .ok (.isub, 1) ∧ 12 + 1 = 13 := ⟨by decide +kernel, rfl⟩
theorem dc_L_does_13 : decode method_5_code 13 = .ok (.istore_n 2, 1) ∧ 13 + 1 = 14 := ⟨by decide +kernel, rfl⟩
theorem dc_L_does_14 : decode method_5_code 14 = .ok (.iload_n 1, 1) ∧ 14 + 1 = 15 := ⟨by decide +kernel, rfl⟩
theorem dc_L_does_15 : decode method_5_code 15 = .ok (.bipush 15, 2) ∧ 15 + 2 = 17 := ⟨by decide +kernel, rfl⟩
theorem dc_L_does_17 : decode method_5_code 17 = .ok (.iand, 1) ∧ 17 + 1 = 18 := ⟨by decide +kernel, rfl⟩
theorem dc_L_does_18 : decode method_5_code 18 = .ok (.tableswitch 246 0 11 #[62, 84, 99, 99, 117, 140, 159, 172, 185, 204, 219, 233], 62) ∧ ((18 : Nat) : Int) + (246) = ((264 : Nat) : Int) ∧ (11 : Int) + 1 - (0) = (([80, 102, 117, 117, 135, 158, 177, 190, 203, 222, 237, 251] : List Nat).length : Int) ∧ (#[62, 84, 99, 99, 117, 140, 159, 172, 185, 204, 219, 233] : Array Int).toList.map (fun o => ((18 : Nat) : Int) + o) = ([80, 102, 117, 117, 135, 158, 177, 190, 203, 222, 237, 251] : List Nat).map (fun t : Nat => (t : Int)) := ⟨by decide +kernel, by decide, by decide, by decide⟩
theorem dc_L_does_80 : decode method_5_code 80 = .ok (.aload_n 0, 1) ∧ 80 + 1 = 81 := ⟨by decide +kernel, rfl⟩
theorem dc_L_does_81 : decode method_5_code 81 = .ok (.iload_n 1, 1) ∧ 81 + 1 = 82 := ⟨by decide +kernel, rfl⟩
theorem dc_L_does_82 : decode method_5_code 82 = .ok (.iconst 4, 1) ∧ 82 + 1 = 83 := ⟨by decide +kernel, rfl⟩
theorem dc_L_does_83 : decode method_5_code 83 = .ok (.ishr, 1) ∧ 83 + 1 = 84 := ⟨by decide +kernel, rfl⟩
theorem dc_L_does_84 : decode method_5_code 84 = .ok (.bipush 6, 2) ∧ 84 + 2 = 86 := ⟨by decide +kernel, rfl⟩
theorem dc_L_does_86 : decode method_5_code 86 = .ok (.invokestatic 42, 3) ∧ 86 + 3 = 89 := ⟨by decide +kernel, rfl⟩
theorem dc_L_does_89 : decode method_5_code 89 = .ok (.iload_n 1, 1) ∧ 89 + 1 = 90 := ⟨by decide +kernel, rfl⟩
theorem dc_L_does_90 : decode method_5_code 90 = .ok (.bipush 7, 2) ∧ 90 + 2 = 92 := ⟨by decide +kernel, rfl⟩
theorem dc_L_does_92 : decode method_5_code 92 = .ok (.ishr, 1) ∧ 92 + 1 = 93 := ⟨by decide +kernel, rfl⟩
theorem dc_L_does_93 : decode method_5_code 93 = .ok (.bipush 60, 2) ∧ 93 + 2 = 95 := ⟨by decide +kernel, rfl⟩
theorem dc_L_does_95 : decode method_5_code 95 = .ok (.invokestatic 42, 3) ∧ 95 + 3 = 98 := ⟨by decide +kernel, rfl⟩
theorem dc_L_does_98 : decode method_5_code 98 = .ok (.invokevirtual 47, 3) ∧ 98 + 3 = 101 := ⟨by decide +kernel, rfl⟩
theorem dc_L_does_101 : decode method_5_code 101 = .ok (.ireturn, 1) := by decide +kernel
theorem dc_L_does_102 : decode method_5_code 102 = .ok (.aload_n 0, 1) ∧ 102 + 1 = 103 := ⟨by decide +kernel, rfl⟩
theorem dc_L_does_103 : decode method_5_code 103 = .ok (.iconst 0, 1) ∧ 103 + 1 = 104 := ⟨by decide +kernel, rfl⟩
theorem dc_L_does_104 : decode method_5_code 104 = .ok (.iconst 1, 1) ∧ 104 + 1 = 105 := ⟨by decide +kernel, rfl⟩
theorem dc_L_does_105 : decode method_5_code 105 = .ok (.iload_n 1, 1) ∧ 105 + 1 = 106 := ⟨by decide +kernel, rfl⟩
theorem dc_L_does_106 : decode method_5_code 106 = .ok (.iconst 4, 1) ∧ 106 + 1 = 107 := ⟨by decide +kernel, rfl⟩
theorem dc_L_does_107 : decode method_5_code 107 = .ok (.ishr, 1) ∧ 107 + 1 = 108 := ⟨by decide +kernel, rfl⟩
theorem dc_L_does_108 : decode method_5_code 108 = .ok (.iconst 5, 1) ∧ 108 + 1 = 109 := ⟨by decide +kernel, rfl⟩
theorem dc_L_does_109 : decode method_5_code 109 = .ok (.invokestatic 42, 3) ∧ 109 + 3 = 112 := ⟨by decide +kernel, rfl⟩
theorem dc_L_does_112 : decode method_5_code 112 = .ok (.ishl, 1) ∧ 112 + 1 = 113 := ⟨by decide +kernel, rfl⟩
theorem dc_L_does_113 : decode method_5_code 113 = .ok (.invokevirtual 47, 3) ∧ 113 + 3 = 116 := ⟨by decide +kernel, rfl⟩
theorem dc_L_does_116 : decode method_5_code 116 = .ok (.ireturn, 1) := by decide +kernel
theorem dc_L_does_117 : decode method_5_code 117 = .ok (.aload_n 0, 1) ∧ 117 + 1 = 118 := ⟨by decide +kernel, rfl⟩
theorem dc_L_does_118 : decode method_5_code 118 = .ok (.iload_n 2, 1) ∧ 118 + 1 = 119 := ⟨by decide +kernel, rfl⟩
theorem dc_L_does_119 : decode method_5_code 119 = .ok (.iload_n 1, 1) ∧ 119 + 1 = 120 := ⟨by decide +kernel, rfl⟩
theorem dc_L_does_120 : decode method_5_code 120 = .ok (.bipush 14, 2) ∧ 120 + 2 = 122 := ⟨by decide +kernel, rfl⟩
theorem dc_L_does_122 : decode method_5_code 122 = .ok (.ishr, 1) ∧ 122 + 1 = 123 := ⟨by decide +kernel, rfl⟩
theorem dc_L_does_123 : decode method_5_code 123 = .ok (.sipush 150, 3) ∧ 123 + 3 = 126 := ⟨by decide +kernel, rfl⟩
theorem dc_L_does_126 : decode method_5_code 126 = .ok (.invokestatic 42, 3) ∧ 126 + 3 = 129 := ⟨by decide +kernel, rfl⟩
theorem dc_L_does_129 : decode method_5_code 129 = .ok (.iconst 1, 1) ∧ 129 + 1 = 130 := ⟨by decide +kernel, rfl⟩
theorem dc_L_does_130 : decode method_5_code 130 = .ok (.isub, 1) ∧ 130 + 1 = 131 := ⟨by decide +kernel, rfl⟩
theorem dc_L_does_131 : decode method_5_code 131 = .ok (.invokevirtual 50, 3) ∧ 131 + 3 = 134 := ⟨by decide +kernel, rfl⟩
theorem dc_L_does_134 : decode method_5_code 134 = .ok (.ireturn, 1) := by decide +kernel
theorem dc_L_does_135 : decode method_5_code 135 = .ok (.aload_n 0, 1) ∧ 135 + 1 = 136 := ⟨by decide +kernel, rfl⟩
theorem dc_L_does_136 : decode method_5_code 136 = .ok (.iload_n 2, 1) ∧ 136 + 1 = 137 := ⟨by decide +kernel, rfl⟩
theorem dc_L_does_137 : decode method_5_code 137 = .ok (.iload_n 1, 1) ∧ 137 + 1 = 138 := ⟨by decide +kernel, rfl⟩
theorem dc_L_does_138 : decode method_5_code 138 = .ok (.bipush 14, 2) ∧ 138 + 2 = 140 := ⟨by decide +kernel, rfl⟩
theorem dc_L_does_140 : decode method_5_code 140 = .ok (.ishr, 1) ∧ 140 + 1 = 141 := ⟨by decide +kernel, rfl⟩
theorem dc_L_does_141 : decode method_5_code 141 = .ok (.sipush 200, 3) ∧ 141 + 3 = 144 := ⟨by decide +kernel, rfl⟩
theorem dc_L_does_144 : decode method_5_code 144 = .ok (.invokestatic 42, 3) ∧ 144 + 3 = 147 := ⟨by decide +kernel, rfl⟩
theorem dc_L_does_147 : decode method_5_code 147 = .ok (.bipush 99, 2) ∧ 147 + 2 = 149 := ⟨by decide +kernel, rfl⟩
theorem dc_L_does_149 : decode method_5_code 149 = .ok (.isub, 1) ∧ 149 + 1 = 150 := ⟨by decide +kernel, rfl⟩
theorem dc_L_does_150 : decode method_5_code 150 = .ok (.invokevirtual 53, 3) ∧ 150 + 3 = 153 := ⟨by decide +kernel, rfl⟩
theorem dc_L_does_153 : decode method_5_code 153 = .ok (.sipush 200, 3) ∧ 153 + 3 = 156 := ⟨by decide +kernel, rfl⟩
theorem dc_L_does_156 : decode method_5_code 156 = .ok (.iadd, 1) ∧ 156 + 1 = 157 := ⟨by decide +kernel, rfl⟩
theorem dc_L_does_157 : decode method_5_code 157 = .ok (.ireturn, 1) := by decide +kernel
theorem dc_L_does_158 : decode method_5_code 158 = .ok (.aload_n 0, 1) ∧ 158 + 1 = 159 := ⟨by decide +kernel, rfl⟩
theorem dc_L_does_159 : decode method_5_code 159 = .ok (.iload_n 2, 1) ∧ 159 + 1 = 160 := ⟨by decide +kernel, rfl⟩
theorem dc_L_does_160 : decode method_5_code 160 = .ok (.iload_n 2, 1) ∧ 160 + 1 = 161 := ⟨by decide +kernel, rfl⟩
theorem dc_L_does_161 : decode method_5_code 161 = .ok (.iconst 1, 1) ∧ 161 + 1 = 162 := ⟨by decide +kernel, rfl⟩
theorem dc_L_does_162 : decode method_5_code 162 = .ok (.iadd, 1) ∧ 162 + 1 = 163 := ⟨by decide +kernel, rfl⟩
theorem dc_L_does_163 : decode method_5_code 163 = .ok (.iload_n 1, 1) ∧ 163 + 1 = 164 := ⟨by decide +kernel, rfl⟩
theorem dc_L_does_164 : decode method_5_code 164 = .ok (.bipush 14, 2) ∧ 164 + 2 = 166 := ⟨by decide +kernel, rfl⟩
theorem dc_L_does_166 : decode method_5_code 166 = .ok (.ishr, 1) ∧ 166 + 1 = 167 := ⟨by decide +kernel, rfl⟩
theorem dc_L_does_167 : decode method_5_code 167 = .ok (.bipush 100, 2) ∧ 167 + 2 = 169 := ⟨by decide +kernel, rfl⟩
theorem dc_L_does_169 : decode method_5_code 169 = .ok (.invokestatic 42, 3) ∧ 169 + 3 = 172 := ⟨by decide +kernel, rfl⟩
theorem dc_L_does_172 : decode method_5_code 172 = .ok (.iadd, 1) ∧ 172 + 1 = 173 := ⟨by decide +kernel, rfl⟩
theorem dc_L_does_173 : decode method_5_code 173 = .ok (.invokevirtual 56, 3) ∧ 173 + 3 = 176 := ⟨by decide +kernel, rfl⟩
theorem dc_L_does_176 : decode method_5_code 176 = .ok (.ireturn, 1) := by decide +kernel
theorem dc_L_does_177 : decode method_5_code 177 = .ok (.aload_n 0, 1) ∧ 177 + 1 = 178 := ⟨by decide +kernel, rfl⟩
theorem dc_L_does_178 : decode method_5_code 178 = .ok (.iload_n 1, 1) ∧ 178 + 1 = 179 := ⟨by decide +kernel, rfl⟩
theorem dc_L_does_179 : decode method_5_code 179 = .ok (.iconst 4, 1) ∧ 179 + 1 = 180 := ⟨by decide +kernel, rfl⟩
theorem dc_L_does_180 : decode method_5_code 180 = .ok (.ishr, 1) ∧ 180 + 1 = 181 := ⟨by decide +kernel, rfl⟩
theorem dc_L_does_181 : decode method_5_code 181 = .ok (.iconst 1, 1) ∧ 181 + 1 = 182 := ⟨by decide +kernel, rfl⟩
theorem dc_L_does_182 : decode method_5_code 182 = .ok (.iand, 1) ∧ 182 + 1 = 183 := ⟨by decide +kernel, rfl⟩
theorem dc_L_does_183 : decode method_5_code 183 = .ok (.invokevirtual 59, 3) ∧ 183 + 3 = 186 := ⟨by decide +kernel, rfl⟩
theorem dc_L_does_186 : decode method_5_code 186 = .ok (.ldc 62, 2) ∧ 186 + 2 = 188 := ⟨by decide +kernel, rfl⟩
theorem dc_L_does_188 : decode method_5_code 188 = .ok (.iadd, 1) ∧ 188 + 1 = 189 := ⟨by decide +kernel, rfl⟩
theorem dc_L_does_189 : decode method_5_code 189 = .ok (.ireturn, 1) := by decide +kernel
theorem dc_L_does_190 : decode method_5_code 190 = .ok (.aload_n 0, 1) ∧ 190 + 1 = 191 := ⟨by decide +kernel, rfl⟩
theorem dc_L_does_191 : decode method_5_code 191 = .ok (.iload_n 1, 1) ∧ 191 + 1 = 192 := ⟨by decide +kernel, rfl⟩
theorem dc_L_does_192 : decode method_5_code 192 = .ok (.iconst 4, 1) ∧ 192 + 1 = 193 := ⟨by decide +kernel, rfl⟩
theorem dc_L_does_193 : decode method_5_code 193 = .ok (.ishr, 1) ∧ 193 + 1 = 194 := ⟨by decide +kernel, rfl⟩
theorem dc_L_does_194 : decode method_5_code 194 = .ok (.iconst 1, 1) ∧ 194 + 1 = 195 := ⟨by decide +kernel, rfl⟩
theorem dc_L_does_195 : decode method_5_code 195 = .ok (.iand, 1) ∧ 195 + 1 = 196 := ⟨by decide +kernel, rfl⟩
theorem dc_L_does_196 : decode method_5_code 196 = .ok (.invokevirtual 63, 3) ∧ 196 + 3 = 199 := ⟨by decide +kernel, rfl⟩
theorem dc_L_does_199 : decode method_5_code 199 = .ok (.ldc 62, 2) ∧ 199 + 2 = 201 := ⟨by decide +kernel, rfl⟩
theorem dc_L_does_201 : decode method_5_code 201 = .ok (.iadd, 1) ∧ 201 + 1 = 202 := ⟨by decide +kernel, rfl⟩
theorem dc_L_does_202 : decode method_5_code 202 = .ok (.ireturn, 1) := by decide +kernel
theorem dc_L_does_203 : decode method_5_code 203 = .ok (.aload_n 0, 1) ∧ 203 + 1 = 204 := ⟨by decide +kernel, rfl⟩
theorem dc_L_does_204 : decode method_5_code 204 = .ok (.iload_n 1, 1) ∧ 204 + 1 = 205 := ⟨by decide +kernel, rfl⟩
theorem dc_L_does_205 : decode method_5_code 205 = .ok (.iconst 4, 1) ∧ 205 + 1 = 206 := ⟨by decide +kernel, rfl⟩
theorem dc_L_does_206 : decode method_5_code 206 = .ok (.ishr, 1) ∧ 206 + 1 = 207 := ⟨by decide +kernel, rfl⟩
theorem dc_L_does_207 : decode method_5_code 207 = .ok (.bipush 100, 2) ∧ 207 + 2 = 209 := ⟨by decide +kernel, rfl⟩
theorem dc_L_does_209 : decode method_5_code 209 = .ok (.invokestatic 42, 3) ∧ 209 + 3 = 212 := ⟨by decide +kernel, rfl⟩
theorem dc_L_does_212 : decode method_5_code 212 = .ok (.bipush 50, 2) ∧ 212 + 2 = 214 := ⟨by decide +kernel, rfl⟩
theorem dc_L_does_214 : decode method_5_code 214 = .ok (.isub, 1) ∧ 214 + 1 = 215 := ⟨by decide +kernel, rfl⟩
theorem dc_L_does_215 : decode method_5_code 215 = .ok (.invokevirtual 66, 3) ∧ 215 + 3 = 218 := ⟨by decide +kernel, rfl⟩
theorem dc_L_does_218 : decode method_5_code 218 = .ok (.ldc 69, 2) ∧ 218 + 2 = 220 := ⟨by decide +kernel, rfl⟩
theorem dc_L_does_220 : decode method_5_code 220 = .ok (.iadd, 1) ∧ 220 + 1 = 221 := ⟨by decide +kernel, rfl⟩
theorem dc_L_does_221 : decode method_5_code 221 = .ok (.ireturn, 1) := by decide +kernel
theorem dc_L_does_222 : decode method_5_code 222 = .ok (.aload_n 0, 1) ∧ 222 + 1 = 223 := ⟨by decide +kernel, rfl⟩
theorem dc_L_does_223 : decode method_5_code 223 = .ok (.iload_n 2, 1) ∧ 223 + 1 = 224 := ⟨by decide +kernel, rfl⟩
theorem dc_L_does_224 : decode method_5_code 224 = .ok (.iload_n 1, 1) ∧ 224 + 1 = 225 := ⟨by decide +kernel, rfl⟩
theorem dc_L_does_225 : decode method_5_code 225 = .ok (.bipush 14, 2) ∧ 225 + 2 = 227 := ⟨by decide +kernel, rfl⟩
theorem dc_L_does_227 : decode method_5_code 227 = .ok (.ishr, 1) ∧ 227 + 1 = 228 := ⟨by decide +kernel, rfl⟩
theorem dc_L_does_228 : decode method_5_code 228 = .ok (.bipush 10, 2) ∧ 228 + 2 = 230 := ⟨by decide +kernel, rfl⟩
theorem dc_L_does_230 : decode method_5_code 230 = .ok (.invokestatic 42, 3) ∧ 230 + 3 = 233 := ⟨by decide +kernel, rfl⟩
theorem dc_L_does_233 : decode method_5_code 233 = .ok (.invokevirtual 70, 3) ∧ 233 + 3 = 236 := ⟨by decide +kernel, rfl⟩
theorem dc_L_does_236 : decode method_5_code 236 = .ok (.ireturn, 1) := by decide +kernel
theorem dc_L_does_237 : decode method_5_code 237 = .ok (.aload_n 0, 1) ∧ 237 + 1 = 238 := ⟨by decide +kernel, rfl⟩
theorem dc_L_does_238 : decode method_5_code 238 = .ok (.iconst 1, 1) ∧ 238 + 1 = 239 := ⟨by decide +kernel, rfl⟩
theorem dc_L_does_239 : decode method_5_code 239 = .ok (.iload_n 1, 1) ∧ 239 + 1 = 240 := ⟨by decide +kernel, rfl⟩
theorem dc_L_does_240 : decode method_5_code 240 = .ok (.iconst 4, 1) ∧ 240 + 1 = 241 := ⟨by decide +kernel, rfl⟩
theorem dc_L_does_241 : decode method_5_code 241 = .ok (.ishr, 1) ∧ 241 + 1 = 242 := ⟨by decide +kernel, rfl⟩
theorem dc_L_does_242 : decode method_5_code 242 = .ok (.iconst 3, 1) ∧ 242 + 1 = 243 := ⟨by decide +kernel, rfl⟩
theorem dc_L_does_243 : decode method_5_code 243 = .ok (.invokestatic 42, 3) ∧ 243 + 3 = 246 := ⟨by decide +kernel, rfl⟩
theorem dc_L_does_246 : decode method_5_code 246 = .ok (.iadd, 1) ∧ 246 + 1 = 247 := ⟨by decide +kernel, rfl⟩
theorem dc_L_does_247 : decode method_5_code 247 = .ok (.invokevirtual 73, 3) ∧ 247 + 3 = 250 := ⟨by decide +kernel, rfl⟩
theorem dc_L_does_250 : decode method_5_code 250 = .ok (.ireturn, 1) := by decide +kernel
theorem dc_L_does_251 : decode method_5_code 251 = .ok (.aload_n 0, 1) ∧ 251 + 1 = 252 := ⟨by decide +kernel, rfl⟩
theorem dc_L_does_252 : decode method_5_code 252 = .ok (.iload_n 1, 1) ∧ 252 + 1 = 253 := ⟨by decide +kernel, rfl⟩
theorem dc_L_does_253 : decode method_5_code 253 = .ok (.iconst 4, 1) ∧ 253 + 1 = 254 := ⟨by decide +kernel, rfl⟩
theorem dc_L_does_254 : decode method_5_code 254 = .ok (.ishr, 1) ∧ 254 + 1 = 255 := ⟨by decide +kernel, rfl⟩
theorem dc_L_does_255 : decode method_5_code 255 = .ok (.iconst 1, 1) ∧ 255 + 1 = 256 := ⟨by decide +kernel, rfl⟩
theorem dc_L_does_256 : decode method_5_code 256 = .ok (.iand, 1) ∧ 256 + 1 = 257 := ⟨by decide +kernel, rfl⟩
theorem dc_L_does_257 : decode method_5_code 257 = .ok (.invokevirtual 76, 3) ∧ 257 + 3 = 260 := ⟨by decide +kernel, rfl⟩
theorem dc_L_does_260 : decode method_5_code 260 = .ok (.ldc 69, 2) ∧ 260 + 2 = 262 := ⟨by decide +kernel, rfl⟩
theorem dc_L_does_262 : decode method_5_code 262 = .ok (.iadd, 1) ∧ 262 + 1 = 263 := ⟨by decide +kernel, rfl⟩
theorem dc_L_does_263 : decode method_5_code 263 = .ok (.ireturn, 1) := by decide +kernel
theorem dc_L_does_264 : decode method_5_code 264 = .ok (.aload_n 0, 1) ∧ 264 + 1 = 265 := ⟨by decide +kernel, rfl⟩
theorem dc_L_does_265 : decode method_5_code 265 = .ok (.iload_n 2, 1) ∧ 265 + 1 = 266 := ⟨by decide +kernel, rfl⟩
theorem dc_L_does_266 : decode method_5_code 266 = .ok (.invokevirtual 79, 3) ∧ 266 + 3 = 269 := ⟨by decide +kernel, rfl⟩
theorem dc_L_does_269 : decode method_5_code 269 = .ok (.ldc 69, 2) ∧ 269 + 2 = 271 := ⟨by decide +kernel, rfl⟩
theorem dc_L_does_271 : decode method_5_code 271 = .ok (.iadd, 1) ∧ 271 + 1 = 272 := ⟨by decide +kernel, rfl⟩
theorem dc_L_does_272 : decode method_5_code 272 = .ok (.ireturn, 1) := by decide +kernel
theorem dc_L_law_0 : decode code 0 = .ok (.new 13, 3) ∧ 0 + 3 = 3 := ⟨by decide +kernel, rfl⟩
theorem dc_L_law_3 : decode code 3 = .ok (.dup, 1) ∧ 3 + 1 = 4 := ⟨by decide +kernel, rfl⟩
theorem dc_L_law_4 : decode code 4 = .ok (.invokespecial 82, 3) ∧ 4 + 3 = 7 := ⟨by decide +kernel, rfl⟩
theorem dc_L_law_7 : decode code 7 = .ok (.astore_n 1, 1) ∧ 7 + 1 = 8 := ⟨by decide +kernel, rfl⟩
theorem dc_L_law_8 : decode code 8 = .ok (.iconst 0, 1) ∧ 8 + 1 = 9 := ⟨by decide +kernel, rfl⟩
theorem dc_L_law_9 : decode code 9 = .ok (.istore_n 2, 1) ∧ 9 + 1 = 10 := ⟨by decide +kernel, rfl⟩
theorem dc_L_law_10 : decode code 10 = .ok (.iconst 0, 1) ∧ 10 + 1 = 11 := ⟨by decide +kernel, rfl⟩
theorem dc_L_law_11 : decode code 11 = .ok (.istore_n 3, 1) ∧ 11 + 1 = 12 := ⟨by decide +kernel, rfl⟩
theorem dc_L_law_12 : decode code 12 = .ok (.iload_n 3, 1) ∧ 12 + 1 = 13 := ⟨by decide +kernel, rfl⟩
theorem dc_L_law_13 : decode code 13 = .ok (.bipush 32, 2) ∧ 13 + 2 = 15 := ⟨by decide +kernel, rfl⟩
theorem dc_L_law_15 : decode code 15 = .ok (.if_icmp .ge 398, 3) ∧ ((15 : Nat) : Int) + (398) = ((413 : Nat) : Int) ∧ 15 + 3 = 18 := ⟨by decide +kernel, by decide, rfl⟩
theorem dc_L_law_18 : decode code 18 = .ok (.aload_n 0, 1) ∧ 18 + 1 = 19 := ⟨by decide +kernel, rfl⟩
theorem dc_L_law_19 : decode code 19 = .ok (.iload_n 3, 1) ∧ 19 + 1 = 20 := ⟨by decide +kernel, rfl⟩
theorem dc_L_law_20 : decode code 20 = .ok (.invokestatic 83, 3) ∧ 20 + 3 = 23 := ⟨by decide +kernel, rfl⟩
theorem dc_L_law_23 : decode code 23 = .ok (.istore 4, 2) ∧ 23 + 2 = 25 := ⟨by decide +kernel, rfl⟩
theorem dc_L_law_25 : decode code 25 = .ok (.aload_n 1, 1) ∧ 25 + 1 = 26 := ⟨by decide +kernel, rfl⟩
theorem dc_L_law_26 : decode code 26 = .ok (.invokestatic 87, 3) ∧ 26 + 3 = 29 := ⟨by decide +kernel, rfl⟩
theorem dc_L_law_29 : decode code 29 = .ok (.lstore 5, 2) ∧ 29 + 2 = 31 := ⟨by decide +kernel, rfl⟩
theorem dc_L_law_31 : decode code 31 = .ok (.aload_n 1, 1) ∧ 31 + 1 = 32 := ⟨by decide +kernel, rfl⟩
theorem dc_L_law_32 : decode code 32 = .ok (.iload 4, 2) ∧ 32 + 2 = 34 := ⟨by decide +kernel, rfl⟩
theorem dc_L_law_34 : decode code 34 = .ok (.invokestatic 91, 3) ∧ 34 + 3 = 37 := ⟨by decide +kernel, rfl⟩
theorem dc_L_law_37 : decode code 37 = .ok (.istore 7, 2) ∧ 37 + 2 = 39 := ⟨by decide +kernel, rfl⟩
theorem dc_L_law_39 : decode code 39 = .ok (.iload 7, 2) ∧ 39 + 2 = 41 := ⟨by decide +kernel, rfl⟩
theorem dc_L_law_41 : decode code 41 = .ok (.ldc 95, 2) ∧ 41 + 2 = 43 := ⟨by decide +kernel, rfl⟩
theorem dc_L_law_43 : decode code 43 = .ok (.if_icmp .le 7, 3) ∧ ((43 : Nat) : Int) + (7) = ((50 : Nat) : Int) ∧ 43 + 3 = 46 := ⟨by decide +kernel, by decide, rfl⟩
theorem dc_L_law_46 : decode code 46 = .ok (.iconst 1, 1) ∧ 46 + 1 = 47 := ⟨by decide +kernel, rfl⟩
theorem dc_L_law_47 : decode code 47 = .ok (.goto 4, 3) ∧ ((47 : Nat) : Int) + (4) = ((51 : Nat) : Int) := ⟨by decide +kernel, by decide⟩
theorem dc_L_law_50 : decode code 50 = .ok (.iconst 0, 1) ∧ 50 + 1 = 51 := ⟨by decide +kernel, rfl⟩
theorem dc_L_law_51 : decode code 51 = .ok (.istore 8, 2) ∧ 51 + 2 = 53 := ⟨by decide +kernel, rfl⟩
theorem dc_L_law_53 : decode code 53 = .ok (.iload 8, 2) ∧ 53 + 2 = 55 := ⟨by decide +kernel, rfl⟩
theorem dc_L_law_55 : decode code 55 = .ok (.ifCond .ne 15, 3) ∧ ((55 : Nat) : Int) + (15) = ((70 : Nat) : Int) ∧ 55 + 3 = 58 := ⟨by decide +kernel, by decide, rfl⟩
theorem dc_L_law_58 : decode code 58 = .ok (.aload_n 1, 1) ∧ 58 + 1 = 59 := ⟨by decide +kernel, rfl⟩
theorem dc_L_law_59 : decode code 59 = .ok (.invokestatic 87, 3) ∧ 59 + 3 = 62 := ⟨by decide +kernel, rfl⟩
theorem dc_L_law_62 : decode code 62 = .ok (.lload 5, 2) ∧ 62 + 2 = 64 := ⟨by decide +kernel, rfl⟩
theorem dc_L_law_64 : decode code 64 = .ok (.lcmp, 1) ∧ 64 + 1 = 65 := ⟨by decide +kernel, rfl⟩
theorem dc_L_law_65 : decode code 65 = .ok (.ifCond .eq 5, 3) ∧ ((65 : Nat) : Int) + (5) = ((70 : Nat) : Int) ∧ 65 + 3 = 68 := ⟨by decide +kernel, by decide, rfl⟩
theorem dc_L_law_68 : decode code 68 = .ok (.iconst 0, 1) ∧ 68 + 1 = 69 := ⟨by decide +kernel, rfl⟩
theorem dc_L_law_69 : decode code 69 = .ok (.ireturn, 1) := by decide +kernel
theorem dc_L_law_70 : decode code 70 = .ok (.iload 8, 2) ∧ 70 + 2 = 72 := ⟨by decide +kernel, rfl⟩
theorem dc_L_law_72 : decode code 72 = .ok (.ifCond .ne 7, 3) ∧ ((72 : Nat) : Int) + (7) = ((79 : Nat) : Int) ∧ 72 + 3 = 75 := ⟨by decide +kernel, by decide, rfl⟩
theorem dc_L_law_75 : decode code 75 = .ok (.iload_n 2, 1) ∧ 75 + 1 = 76 := ⟨by decide +kernel, rfl⟩
theorem dc_L_law_76 : decode code 76 = .ok (.goto 17, 3) ∧ ((76 : Nat) : Int) + (17) = ((93 : Nat) : Int) := ⟨by decide +kernel, by decide⟩
theorem dc_L_law_79 : decode code 79 = .ok (.iload_n 2, 1) ∧ 79 + 1 = 80 := ⟨by decide +kernel, rfl⟩
theorem dc_L_law_80 : decode code 80 = .ok (.bipush 6, 2) ∧ 80 + 2 = 82 := ⟨by decide +kernel, rfl⟩
theorem dc_L_law_82 : decode code 82 = .ok (.if_icmp .ge 9, 3) ∧ ((82 : Nat) : Int) + (9) = ((91 : Nat) : Int) ∧ 82 + 3 = 85 := ⟨by decide +kernel, by decide, rfl⟩
theorem dc_L_law_85 : decode code 85 = .ok (.iload_n 2, 1) ∧ 85 + 1 = 86 := ⟨by decide +kernel, rfl⟩
theorem dc_L_law_86 : decode code 86 = .ok (.iconst 1, 1) ∧ 86 + 1 = 87 := ⟨by decide +kernel, rfl⟩
theorem dc_L_law_87 : decode code 87 = .ok (.iadd, 1) ∧ 87 + 1 = 88 := ⟨by decide +kernel, rfl⟩
theorem dc_L_law_88 : decode code 88 = .ok (.goto 5, 3) ∧ ((88 : Nat) : Int) + (5) = ((93 : Nat) : Int) := ⟨by decide +kernel, by decide⟩
theorem dc_L_law_91 : decode code 91 = .ok (.bipush 6, 2) ∧ 91 + 2 = 93 := ⟨by decide +kernel, rfl⟩
theorem dc_L_law_93 : decode code 93 = .ok (.istore_n 2, 1) ∧ 93 + 1 = 94 := ⟨by decide +kernel, rfl⟩
theorem dc_L_law_94 : decode code 94 = .ok (.iload 8, 2) ∧ 94 + 2 = 96 := ⟨by decide +kernel, rfl⟩
theorem dc_L_law_96 : decode code 96 = .ok (.ifCond .eq 38, 3) ∧ ((96 : Nat) : Int) + (38) = ((134 : Nat) : Int) ∧ 96 + 3 = 99 := ⟨by decide +kernel, by decide, rfl⟩
theorem dc_L_law_99 : decode code 99 = .ok (.iload 4, 2) ∧ 99 + 2 = 101 := ⟨by decide +kernel, rfl⟩
theorem dc_L_law_101 : decode code 101 = .ok (.bipush 27, 2) ∧ 101 + 2 = 103 := ⟨by decide +kernel, rfl⟩
theorem dc_L_law_103 : decode code 103 = .ok (.ishr, 1) ∧ 103 + 1 = 104 := ⟨by decide +kernel, rfl⟩
theorem dc_L_law_104 : decode code 104 = .ok (.iconst 3, 1) ∧ 104 + 1 = 105 := ⟨by decide +kernel, rfl⟩
theorem dc_L_law_105 : decode code 105 = .ok (.iand, 1) ∧ 105 + 1 = 106 := ⟨by decide +kernel, rfl⟩
theorem dc_L_law_106 : decode code 106 = .ok (.ifCond .ne 28, 3) ∧ ((106 : Nat) : Int) + (28) = ((134 : Nat) : Int) ∧ 106 + 3 = 109 := ⟨by decide +kernel, by decide, rfl⟩
theorem dc_L_law_109 : decode code 109 = .ok (.aload_n 1, 1) ∧ 109 + 1 = 110 := ⟨by decide +kernel, rfl⟩
theorem dc_L_law_110 : decode code 110 = .ok (.invokevirtual 96, 3) ∧ 110 + 3 = 113 := ⟨by decide +kernel, rfl⟩
theorem dc_L_law_113 : decode code 113 = .ok (.iload_n 2, 1) ∧ 113 + 1 = 114 := ⟨by decide +kernel, rfl⟩
theorem dc_L_law_114 : decode code 114 = .ok (.iconst 1, 1) ∧ 114 + 1 = 115 := ⟨by decide +kernel, rfl⟩
theorem dc_L_law_115 : decode code 115 = .ok (.isub, 1) ∧ 115 + 1 = 116 := ⟨by decide +kernel, rfl⟩
theorem dc_L_law_116 : decode code 116 = .ok (.if_icmp .ne 13, 3) ∧ ((116 : Nat) : Int) + (13) = ((129 : Nat) : Int) ∧ 116 + 3 = 119 := ⟨by decide +kernel, by decide, rfl⟩
theorem dc_L_law_119 : decode code 119 = .ok (.aload_n 1, 1) ∧ 119 + 1 = 120 := ⟨by decide +kernel, rfl⟩
theorem dc_L_law_120 : decode code 120 = .ok (.invokestatic 87, 3) ∧ 120 + 3 = 123 := ⟨by decide +kernel, rfl⟩
theorem dc_L_law_123 : decode code 123 = .ok (.lload 5, 2) ∧ 123 + 2 = 125 := ⟨by decide +kernel, rfl⟩
theorem dc_L_law_125 : decode code 125 = .ok (.lcmp, 1) ∧ 125 + 1 = 126 := ⟨by decide +kernel, rfl⟩
theorem dc_L_law_126 : decode code 126 = .ok (.ifCond .eq 5, 3) ∧ ((126 : Nat) : Int) + (5) = ((131 : Nat) : Int) ∧ 126 + 3 = 129 := ⟨by decide +kernel, by decide, rfl⟩
theorem dc_L_law_129 : decode code 129 = .ok (.iconst 0, 1) ∧ 129 + 1 = 130 := ⟨by decide +kernel, rfl⟩
theorem dc_L_law_130 : decode code 130 = .ok (.ireturn, 1) := by decide +kernel
theorem dc_L_law_131 : decode code 131 = .ok (.iinc 2 (-1), 3) ∧ 131 + 3 = 134 := ⟨by decide +kernel, rfl⟩
theorem dc_L_law_134 : decode code 134 = .ok (.iload 4, 2) ∧ 134 + 2 = 136 := ⟨by decide +kernel, rfl⟩
theorem dc_L_law_136 : decode code 136 = .ok (.bipush 25, 2) ∧ 136 + 2 = 138 := ⟨by decide +kernel, rfl⟩
theorem dc_L_law_138 : decode code 138 = .ok (.ishr, 1) ∧ 138 + 1 = 139 := ⟨by decide +kernel, rfl⟩
theorem dc_L_law_139 : decode code 139 = .ok (.iconst 3, 1) ∧ 139 + 1 = 140 := ⟨by decide +kernel, rfl⟩
theorem dc_L_law_140 : decode code 140 = .ok (.iand, 1) ∧ 140 + 1 = 141 := ⟨by decide +kernel, rfl⟩
theorem dc_L_law_141 : decode code 141 = .ok (.iconst 1, 1) ∧ 141 + 1 = 142 := ⟨by decide +kernel, rfl⟩
theorem dc_L_law_142 : decode code 142 = .ok (.if_icmp .ne 44, 3) ∧ ((142 : Nat) : Int) + (44) = ((186 : Nat) : Int) ∧ 142 + 3 = 145 := ⟨by decide +kernel, by decide, rfl⟩
theorem dc_L_law_145 : decode code 145 = .ok (.aload_n 1, 1) ∧ 145 + 1 = 146 := ⟨by decide +kernel, rfl⟩
theorem dc_L_law_146 : decode code 146 = .ok (.iload 4, 2) ∧ 146 + 2 = 148 := ⟨by decide +kernel, rfl⟩
theorem dc_L_law_148 : decode code 148 = .ok (.bipush 24, 2) ∧ 148 + 2 = 150 := ⟨by decide +kernel, rfl⟩
theorem dc_L_law_150 : decode code 150 = .ok (.ishr, 1) ∧ 150 + 1 = 151 := ⟨by decide +kernel, rfl⟩
theorem dc_L_law_151 : decode code 151 = .ok (.iconst 1, 1) ∧ 151 + 1 = 152 := ⟨by decide +kernel, rfl⟩
theorem dc_L_law_152 : decode code 152 = .ok (.iand, 1) ∧ 152 + 1 = 153 := ⟨by decide +kernel, rfl⟩
theorem dc_L_law_153 : decode code 153 = .ok (.invokevirtual 100, 3) ∧ 153 + 3 = 156 := ⟨by decide +kernel, rfl⟩
theorem dc_L_law_156 : decode code 156 = .ok (.aload_n 1, 1) ∧ 156 + 1 = 157 := ⟨by decide +kernel, rfl⟩
theorem dc_L_law_157 : decode code 157 = .ok (.bipush 6, 2) ∧ 157 + 2 = 159 := ⟨by decide +kernel, rfl⟩
theorem dc_L_law_159 : decode code 159 = .ok (.invokevirtual 12, 3) ∧ 159 + 3 = 162 := ⟨by decide +kernel, rfl⟩
theorem dc_L_law_162 : decode code 162 = .ok (.if_icmp .ne 22, 3) ∧ ((162 : Nat) : Int) + (22) = ((184 : Nat) : Int) ∧ 162 + 3 = 165 := ⟨by decide +kernel, by decide, rfl⟩
theorem dc_L_law_165 : decode code 165 = .ok (.aload_n 1, 1) ∧ 165 + 1 = 166 := ⟨by decide +kernel, rfl⟩
theorem dc_L_law_166 : decode code 166 = .ok (.bipush 20, 2) ∧ 166 + 2 = 168 := ⟨by decide +kernel, rfl⟩
theorem dc_L_law_168 : decode code 168 = .ok (.invokevirtual 12, 3) ∧ 168 + 3 = 171 := ⟨by decide +kernel, rfl⟩
theorem dc_L_law_171 : decode code 171 = .ok (.iload 4, 2) ∧ 171 + 2 = 173 := ⟨by decide +kernel, rfl⟩
theorem dc_L_law_173 : decode code 173 = .ok (.bipush 24, 2) ∧ 173 + 2 = 175 := ⟨by decide +kernel, rfl⟩
theorem dc_L_law_175 : decode code 175 = .ok (.ishr, 1) ∧ 175 + 1 = 176 := ⟨by decide +kernel, rfl⟩
theorem dc_L_law_176 : decode code 176 = .ok (.iconst 1, 1) ∧ 176 + 1 = 177 := ⟨by decide +kernel, rfl⟩
theorem dc_L_law_177 : decode code 177 = .ok (.iand, 1) ∧ 177 + 1 = 178 := ⟨by decide +kernel, rfl⟩
theorem dc_L_law_178 : decode code 178 = .ok (.ishr, 1) ∧ 178 + 1 = 179 := ⟨by decide +kernel, rfl⟩
theorem dc_L_law_179 : decode code 179 = .ok (.iconst 1, 1) ∧ 179 + 1 = 180 := ⟨by decide +kernel, rfl⟩
theorem dc_L_law_180 : decode code 180 = .ok (.iand, 1) ∧ 180 + 1 = 181 := ⟨by decide +kernel, rfl⟩
theorem dc_L_law_181 : decode code 181 = .ok (.ifCond .ne 5, 3) ∧ ((181 : Nat) : Int) + (5) = ((186 : Nat) : Int) ∧ 181 + 3 = 184 := ⟨by decide +kernel, by decide, rfl⟩
theorem dc_L_law_184 : decode code 184 = .ok (.iconst 0, 1) ∧ 184 + 1 = 185 := ⟨by decide +kernel, rfl⟩
theorem dc_L_law_185 : decode code 185 = .ok (.ireturn, 1) := by decide +kernel
theorem dc_L_law_186 : decode code 186 = .ok (.aload_n 1, 1) ∧ 186 + 1 = 187 := ⟨by decide +kernel, rfl⟩
theorem dc_L_law_187 : decode code 187 = .ok (.bipush 19, 2) ∧ 187 + 2 = 189 := ⟨by decide +kernel, rfl⟩
theorem dc_L_law_189 : decode code 189 = .ok (.invokevirtual 12, 3) ∧ 189 + 3 = 192 := ⟨by decide +kernel, rfl⟩
theorem dc_L_law_192 : decode code 192 = .ok (.iload_n 2, 1) ∧ 192 + 1 = 193 := ⟨by decide +kernel, rfl⟩
theorem dc_L_law_193 : decode code 193 = .ok (.if_icmp .ne 52, 3) ∧ ((193 : Nat) : Int) + (52) = ((245 : Nat) : Int) ∧ 193 + 3 = 196 := ⟨by decide +kernel, by decide, rfl⟩
theorem dc_L_law_196 : decode code 196 = .ok (.aload_n 1, 1) ∧ 196 + 1 = 197 := ⟨by decide +kernel, rfl⟩
theorem dc_L_law_197 : decode code 197 = .ok (.iconst 0, 1) ∧ 197 + 1 = 198 := ⟨by decide +kernel, rfl⟩
theorem dc_L_law_198 : decode code 198 = .ok (.invokevirtual 103, 3) ∧ 198 + 3 = 201 := ⟨by decide +kernel, rfl⟩
theorem dc_L_law_201 : decode code 201 = .ok (.aload_n 1, 1) ∧ 201 + 1 = 202 := ⟨by decide +kernel, rfl⟩
theorem dc_L_law_202 : decode code 202 = .ok (.iconst 1, 1) ∧ 202 + 1 = 203 := ⟨by decide +kernel, rfl⟩
theorem dc_L_law_203 : decode code 203 = .ok (.invokevirtual 103, 3) ∧ 203 + 3 = 206 := ⟨by decide +kernel, rfl⟩
theorem dc_L_law_206 : decode code 206 = .ok (.if_icmp .ne 39, 3) ∧ ((206 : Nat) : Int) + (39) = ((245 : Nat) : Int) ∧ 206 + 3 = 209 := ⟨by decide +kernel, by decide, rfl⟩
theorem dc_L_law_209 : decode code 209 = .ok (.aload_n 1, 1) ∧ 209 + 1 = 210 := ⟨by decide +kernel, rfl⟩
theorem dc_L_law_210 : decode code 210 = .ok (.bipush 6, 2) ∧ 210 + 2 = 212 := ⟨by decide +kernel, rfl⟩
theorem dc_L_law_212 : decode code 212 = .ok (.invokevirtual 12, 3) ∧ 212 + 3 = 215 := ⟨by decide +kernel, rfl⟩
theorem dc_L_law_215 : decode code 215 = .ok (.aload_n 1, 1) ∧ 215 + 1 = 216 := ⟨by decide +kernel, rfl⟩
theorem dc_L_law_216 : decode code 216 = .ok (.bipush 7, 2) ∧ 216 + 2 = 218 := ⟨by decide +kernel, rfl⟩
theorem dc_L_law_218 : decode code 218 = .ok (.invokevirtual 12, 3) ∧ 218 + 3 = 221 := ⟨by decide +kernel, rfl⟩
theorem dc_L_law_221 : decode code 221 = .ok (.aload_n 1, 1) ∧ 221 + 1 = 222 := ⟨by decide +kernel, rfl⟩
theorem dc_L_law_222 : decode code 222 = .ok (.bipush 9, 2) ∧ 222 + 2 = 224 := ⟨by decide +kernel, rfl⟩
theorem dc_L_law_224 : decode code 224 = .ok (.invokevirtual 12, 3) ∧ 224 + 3 = 227 := ⟨by decide +kernel, rfl⟩
theorem dc_L_law_227 : decode code 227 = .ok (.iadd, 1) ∧ 227 + 1 = 228 := ⟨by decide +kernel, rfl⟩
theorem dc_L_law_228 : decode code 228 = .ok (.aload_n 1, 1) ∧ 228 + 1 = 229 := ⟨by decide +kernel, rfl⟩
theorem dc_L_law_229 : decode code 229 = .ok (.bipush 10, 2) ∧ 229 + 2 = 231 := ⟨by decide +kernel, rfl⟩
theorem dc_L_law_231 : decode code 231 = .ok (.invokevirtual 12, 3) ∧ 231 + 3 = 234 := ⟨by decide +kernel, rfl⟩
theorem dc_L_law_234 : decode code 234 = .ok (.iadd, 1) ∧ 234 + 1 = 235 := ⟨by decide +kernel, rfl⟩
theorem dc_L_law_235 : decode code 235 = .ok (.aload_n 1, 1) ∧ 235 + 1 = 236 := ⟨by decide +kernel, rfl⟩
theorem dc_L_law_236 : decode code 236 = .ok (.bipush 11, 2) ∧ 236 + 2 = 238 := ⟨by decide +kernel, rfl⟩
theorem dc_L_law_238 : decode code 238 = .ok (.invokevirtual 12, 3) ∧ 238 + 3 = 241 := ⟨by decide +kernel, rfl⟩
theorem dc_L_law_241 : decode code 241 = .ok (.iadd, 1) ∧ 241 + 1 = 242 := ⟨by decide +kernel, rfl⟩
theorem dc_L_law_242 : decode code 242 = .ok (.if_icmp .eq 5, 3) ∧ ((242 : Nat) : Int) + (5) = ((247 : Nat) : Int) ∧ 242 + 3 = 245 := ⟨by decide +kernel, by decide, rfl⟩
theorem dc_L_law_245 : decode code 245 = .ok (.iconst 0, 1) ∧ 245 + 1 = 246 := ⟨by decide +kernel, rfl⟩
theorem dc_L_law_246 : decode code 246 = .ok (.ireturn, 1) := by decide +kernel
theorem dc_L_law_247 : decode code 247 = .ok (.aload_n 1, 1) ∧ 247 + 1 = 248 := ⟨by decide +kernel, rfl⟩
theorem dc_L_law_248 : decode code 248 = .ok (.bipush 9, 2) ∧ 248 + 2 = 250 := ⟨by decide +kernel, rfl⟩
theorem dc_L_law_250 : decode code 250 = .ok (.invokevirtual 12, 3) ∧ 250 + 3 = 253 := ⟨by decide +kernel, rfl⟩
theorem dc_L_law_253 : decode code 253 = .ok (.bipush 32, 2) ∧ 253 + 2 = 255 := ⟨by decide +kernel, rfl⟩
theorem dc_L_law_255 : decode code 255 = .ok (.if_icmp .gt 58, 3) ∧ ((255 : Nat) : Int) + (58) = ((313 : Nat) : Int) ∧ 255 + 3 = 258 := ⟨by decide +kernel, by decide, rfl⟩
theorem dc_L_law_258 : decode code 258 = .ok (.aload_n 1, 1) ∧ 258 + 1 = 259 := ⟨by decide +kernel, rfl⟩
theorem dc_L_law_259 : decode code 259 = .ok (.bipush 9, 2) ∧ 259 + 2 = 261 := ⟨by decide +kernel, rfl⟩
theorem dc_L_law_261 : decode code 261 = .ok (.invokevirtual 12, 3) ∧ 261 + 3 = 264 := ⟨by decide +kernel, rfl⟩
theorem dc_L_law_264 : decode code 264 = .ok (.bipush (-32), 2) ∧ 264 + 2 = 266 := ⟨by decide +kernel, rfl⟩
theorem dc_L_law_266 : decode code 266 = .ok (.if_icmp .lt 47, 3) ∧ ((266 : Nat) : Int) + (47) = ((313 : Nat) : Int) ∧ 266 + 3 = 269 := ⟨by decide +kernel, by decide, rfl⟩
theorem dc_L_law_269 : decode code 269 = .ok (.aload_n 1, 1) ∧ 269 + 1 = 270 := ⟨by decide +kernel, rfl⟩
theorem dc_L_law_270 : decode code 270 = .ok (.bipush 10, 2) ∧ 270 + 2 = 272 := ⟨by decide +kernel, rfl⟩
theorem dc_L_law_272 : decode code 272 = .ok (.invokevirtual 12, 3) ∧ 272 + 3 = 275 := ⟨by decide +kernel, rfl⟩
theorem dc_L_law_275 : decode code 275 = .ok (.bipush 64, 2) ∧ 275 + 2 = 277 := ⟨by decide +kernel, rfl⟩
theorem dc_L_law_277 : decode code 277 = .ok (.irem, 1) ∧ 277 + 1 = 278 := ⟨by decide +kernel, rfl⟩
theorem dc_L_law_278 : decode code 278 = .ok (.ifCond .ne 35, 3) ∧ ((278 : Nat) : Int) + (35) = ((313 : Nat) : Int) ∧ 278 + 3 = 281 := ⟨by decide +kernel, by decide, rfl⟩
theorem dc_L_law_281 : decode code 281 = .ok (.aload_n 1, 1) ∧ 281 + 1 = 282 := ⟨by decide +kernel, rfl⟩
theorem dc_L_law_282 : decode code 282 = .ok (.iconst 1, 1) ∧ 282 + 1 = 283 := ⟨by decide +kernel, rfl⟩
theorem dc_L_law_283 : decode code 283 = .ok (.invokevirtual 20, 3) ∧ 283 + 3 = 286 := ⟨by decide +kernel, rfl⟩
theorem dc_L_law_286 : decode code 286 = .ok (.aload_n 1, 1) ∧ 286 + 1 = 287 := ⟨by decide +kernel, rfl⟩
theorem dc_L_law_287 : decode code 287 = .ok (.iconst 0, 1) ∧ 287 + 1 = 288 := ⟨by decide +kernel, rfl⟩
theorem dc_L_law_288 : decode code 288 = .ok (.invokevirtual 20, 3) ∧ 288 + 3 = 291 := ⟨by decide +kernel, rfl⟩
theorem dc_L_law_291 : decode code 291 = .ok (.if_icmp .gt 22, 3) ∧ ((291 : Nat) : Int) + (22) = ((313 : Nat) : Int) ∧ 291 + 3 = 294 := ⟨by decide +kernel, by decide, rfl⟩
theorem dc_L_law_294 : decode code 294 = .ok (.aload_n 1, 1) ∧ 294 + 1 = 295 := ⟨by decide +kernel, rfl⟩
theorem dc_L_law_295 : decode code 295 = .ok (.iconst 2, 1) ∧ 295 + 1 = 296 := ⟨by decide +kernel, rfl⟩
theorem dc_L_law_296 : decode code 296 = .ok (.invokevirtual 20, 3) ∧ 296 + 3 = 299 := ⟨by decide +kernel, rfl⟩
theorem dc_L_law_299 : decode code 299 = .ok (.aload_n 1, 1) ∧ 299 + 1 = 300 := ⟨by decide +kernel, rfl⟩
theorem dc_L_law_300 : decode code 300 = .ok (.iconst 3, 1) ∧ 300 + 1 = 301 := ⟨by decide +kernel, rfl⟩
theorem dc_L_law_301 : decode code 301 = .ok (.invokevirtual 20, 3) ∧ 301 + 3 = 304 := ⟨by decide +kernel, rfl⟩
theorem dc_L_law_304 : decode code 304 = .ok (.iadd, 1) ∧ 304 + 1 = 305 := ⟨by decide +kernel, rfl⟩
theorem dc_L_law_305 : decode code 305 = .ok (.aload_n 1, 1) ∧ 305 + 1 = 306 := ⟨by decide +kernel, rfl⟩
theorem dc_L_law_306 : decode code 306 = .ok (.iconst 1, 1) ∧ 306 + 1 = 307 := ⟨by decide +kernel, rfl⟩
theorem dc_L_law_307 : decode code 307 = .ok (.invokevirtual 20, 3) ∧ 307 + 3 = 310 := ⟨by decide +kernel, rfl⟩
theorem dc_L_law_310 : decode code 310 = .ok (.if_icmp .le 5, 3) ∧ ((310 : Nat) : Int) + (5) = ((315 : Nat) : Int) ∧ 310 + 3 = 313 := ⟨by decide +kernel, by decide, rfl⟩
theorem dc_L_law_313 : decode code 313 = .ok (.iconst 0, 1) ∧ 313 + 1 = 314 := ⟨by decide +kernel, rfl⟩
theorem dc_L_law_314 : decode code 314 = .ok (.ireturn, 1) := by decide +kernel
theorem dc_L_law_315 : decode code 315 = .ok (.iconst 1, 1) ∧ 315 + 1 = 316 := ⟨by decide +kernel, rfl⟩
theorem dc_L_law_316 : decode code 316 = .ok (.istore 9, 2) ∧ 316 + 2 = 318 := ⟨by decide +kernel, rfl⟩
theorem dc_L_law_318 : decode code 318 = .ok (.iload 9, 2) ∧ 318 + 2 = 320 := ⟨by decide +kernel, rfl⟩
theorem dc_L_law_320 : decode code 320 = .ok (.aload_n 1, 1) ∧ 320 + 1 = 321 := ⟨by decide +kernel, rfl⟩
theorem dc_L_law_321 : decode code 321 = .ok (.bipush 17, 2) ∧ 321 + 2 = 323 := ⟨by decide +kernel, rfl⟩
theorem dc_L_law_323 : decode code 323 = .ok (.invokevirtual 12, 3) ∧ 323 + 3 = 326 := ⟨by decide +kernel, rfl⟩
theorem dc_L_law_326 : decode code 326 = .ok (.if_icmp .ge 30, 3) ∧ ((326 : Nat) : Int) + (30) = ((356 : Nat) : Int) ∧ 326 + 3 = 329 := ⟨by decide +kernel, by decide, rfl⟩
theorem dc_L_law_329 : decode code 329 = .ok (.aload_n 1, 1) ∧ 329 + 1 = 330 := ⟨by decide +kernel, rfl⟩
theorem dc_L_law_330 : decode code 330 = .ok (.iload 9, 2) ∧ 330 + 2 = 332 := ⟨by decide +kernel, rfl⟩
theorem dc_L_law_332 : decode code 332 = .ok (.iconst 1, 1) ∧ 332 + 1 = 333 := ⟨by decide +kernel, rfl⟩
theorem dc_L_law_333 : decode code 333 = .ok (.invokevirtual 33, 3) ∧ 333 + 3 = 336 := ⟨by decide +kernel, rfl⟩
theorem dc_L_law_336 : decode code 336 = .ok (.aload_n 1, 1) ∧ 336 + 1 = 337 := ⟨by decide +kernel, rfl⟩
theorem dc_L_law_337 : decode code 337 = .ok (.iload 9, 2) ∧ 337 + 2 = 339 := ⟨by decide +kernel, rfl⟩
theorem dc_L_law_339 : decode code 339 = .ok (.iconst 1, 1) ∧ 339 + 1 = 340 := ⟨by decide +kernel, rfl⟩
theorem dc_L_law_340 : decode code 340 = .ok (.isub, 1) ∧ 340 + 1 = 341 := ⟨by decide +kernel, rfl⟩
theorem dc_L_law_341 : decode code 341 = .ok (.iconst 1, 1) ∧ 341 + 1 = 342 := ⟨by decide +kernel, rfl⟩
theorem dc_L_law_342 : decode code 342 = .ok (.invokevirtual 33, 3) ∧ 342 + 3 = 345 := ⟨by decide +kernel, rfl⟩
theorem dc_L_law_345 : decode code 345 = .ok (.if_icmp .le 5, 3) ∧ ((345 : Nat) : Int) + (5) = ((350 : Nat) : Int) ∧ 345 + 3 = 348 := ⟨by decide +kernel, by decide, rfl⟩
theorem dc_L_law_348 : decode code 348 = .ok (.iconst 0, 1) ∧ 348 + 1 = 349 := ⟨by decide +kernel, rfl⟩
theorem dc_L_law_349 : decode code 349 = .ok (.ireturn, 1) := by decide +kernel
theorem dc_L_law_350 : decode code 350 = .ok (.iinc 9 1, 3) ∧ 350 + 3 = 353 := ⟨by decide +kernel, rfl⟩
theorem dc_L_law_353 : decode code 353 = .ok (.goto (-35), 3) ∧ ((353 : Nat) : Int) + (-35) = ((318 : Nat) : Int) := ⟨by decide +kernel, by decide⟩
theorem dc_L_law_356 : decode code 356 = .ok (.iload 4, 2) ∧ 356 + 2 = 358 := ⟨by decide +kernel, rfl⟩
theorem dc_L_law_358 : decode code 358 = .ok (.bipush 8, 2) ∧ 358 + 2 = 360 := ⟨by decide +kernel, rfl⟩
theorem dc_L_law_360 : decode code 360 = .ok (.ishr, 1) ∧ 360 + 1 = 361 := ⟨by decide +kernel, rfl⟩
theorem dc_L_law_361 : decode code 361 = .ok (.sipush 600, 3) ∧ 361 + 3 = 364 := ⟨by decide +kernel, rfl⟩
theorem dc_L_law_364 : decode code 364 = .ok (.invokestatic 42, 3) ∧ 364 + 3 = 367 := ⟨by decide +kernel, rfl⟩
theorem dc_L_law_367 : decode code 367 = .ok (.sipush 300, 3) ∧ 367 + 3 = 370 := ⟨by decide +kernel, rfl⟩
theorem dc_L_law_370 : decode code 370 = .ok (.isub, 1) ∧ 370 + 1 = 371 := ⟨by decide +kernel, rfl⟩
theorem dc_L_law_371 : decode code 371 = .ok (.istore 9, 2) ∧ 371 + 2 = 373 := ⟨by decide +kernel, rfl⟩
theorem dc_L_law_373 : decode code 373 = .ok (.aload_n 1, 1) ∧ 373 + 1 = 374 := ⟨by decide +kernel, rfl⟩
theorem dc_L_law_374 : decode code 374 = .ok (.iload 9, 2) ∧ 374 + 2 = 376 := ⟨by decide +kernel, rfl⟩
theorem dc_L_law_376 : decode code 376 = .ok (.invokevirtual 106, 3) ∧ 376 + 3 = 379 := ⟨by decide +kernel, rfl⟩
theorem dc_L_law_379 : decode code 379 = .ok (.istore 10, 2) ∧ 379 + 2 = 381 := ⟨by decide +kernel, rfl⟩
theorem dc_L_law_381 : decode code 381 = .ok (.iload 10, 2) ∧ 381 + 2 = 383 := ⟨by decide +kernel, rfl⟩
theorem dc_L_law_383 : decode code 383 = .ok (.ifCond .le 24, 3) ∧ ((383 : Nat) : Int) + (24) = ((407 : Nat) : Int) ∧ 383 + 3 = 386 := ⟨by decide +kernel, by decide, rfl⟩
theorem dc_L_law_386 : decode code 386 = .ok (.iload 10, 2) ∧ 386 + 2 = 388 := ⟨by decide +kernel, rfl⟩
theorem dc_L_law_388 : decode code 388 = .ok (.bipush 50, 2) ∧ 388 + 2 = 390 := ⟨by decide +kernel, rfl⟩
theorem dc_L_law_390 : decode code 390 = .ok (.irem, 1) ∧ 390 + 1 = 391 := ⟨by decide +kernel, rfl⟩
theorem dc_L_law_391 : decode code 391 = .ok (.ifCond .ne 14, 3) ∧ ((391 : Nat) : Int) + (14) = ((405 : Nat) : Int) ∧ 391 + 3 = 394 := ⟨by decide +kernel, by decide, rfl⟩
theorem dc_L_law_394 : decode code 394 = .ok (.aload_n 1, 1) ∧ 394 + 1 = 395 := ⟨by decide +kernel, rfl⟩
theorem dc_L_law_395 : decode code 395 = .ok (.iload 9, 2) ∧ 395 + 2 = 397 := ⟨by decide +kernel, rfl⟩
theorem dc_L_law_397 : decode code 397 = .ok (.iload 10, 2) ∧ 397 + 2 = 399 := ⟨by decide +kernel, rfl⟩
theorem dc_L_law_399 : decode code 399 = .ok (.invokevirtual 109, 3) ∧ 399 + 3 = 402 := ⟨by decide +kernel, rfl⟩
theorem dc_L_law_402 : decode code 402 = .ok (.ifCond .eq 5, 3) ∧ ((402 : Nat) : Int) + (5) = ((407 : Nat) : Int) ∧ 402 + 3 = 405 := ⟨by decide +kernel, by decide, rfl⟩
theorem dc_L_law_405 : decode code 405 = .ok (.iconst 0, 1) ∧ 405 + 1 = 406 := ⟨by decide +kernel, rfl⟩
theorem dc_L_law_406 : decode code 406 = .ok (.ireturn, 1) := by decide +kernel
theorem dc_L_law_407 : decode code 407 = .ok (.iinc 3 1, 3) ∧ 407 + 3 = 410 := ⟨by decide +kernel, rfl⟩
theorem dc_L_law_410 : decode code 410 = .ok (.goto (-398), 3) ∧ ((410 : Nat) : Int) + (-398) = ((12 : Nat) : Int) := ⟨by decide +kernel, by decide⟩
theorem dc_L_law_413 : decode code 413 = .ok (.aload_n 1, 1) ∧ 413 + 1 = 414 := ⟨by decide +kernel, rfl⟩
theorem dc_L_law_414 : decode code 414 = .ok (.invokevirtual 96, 3) ∧ 414 + 3 = 417 := ⟨by decide +kernel, rfl⟩
theorem dc_L_law_417 : decode code 417 = .ok (.iload_n 2, 1) ∧ 417 + 1 = 418 := ⟨by decide +kernel, rfl⟩
theorem dc_L_law_418 : decode code 418 = .ok (.ifCond .ne 8, 3) ∧ ((418 : Nat) : Int) + (8) = ((426 : Nat) : Int) ∧ 418 + 3 = 421 := ⟨by decide +kernel, by decide, rfl⟩
theorem dc_L_law_421 : decode code 421 = .ok (.ldc 112, 2) ∧ 421 + 2 = 423 := ⟨by decide +kernel, rfl⟩
theorem dc_L_law_423 : decode code 423 = .ok (.goto 6, 3) ∧ ((423 : Nat) : Int) + (6) = ((429 : Nat) : Int) := ⟨by decide +kernel, by decide⟩
theorem dc_L_law_426 : decode code 426 = .ok (.iload_n 2, 1) ∧ 426 + 1 = 427 := ⟨by decide +kernel, rfl⟩
theorem dc_L_law_427 : decode code 427 = .ok (.iconst 1, 1) ∧ 427 + 1 = 428 := ⟨by decide +kernel, rfl⟩
theorem dc_L_law_428 : decode code 428 = .ok (.isub, 1) ∧ 428 + 1 = 429 := ⟨by decide +kernel, rfl⟩
theorem dc_L_law_429 : decode code 429 = .ok (.if_icmp .ne 7, 3) ∧ ((429 : Nat) : Int) + (7) = ((436 : Nat) : Int) ∧ 429 + 3 = 432 := ⟨by decide +kernel, by decide, rfl⟩
theorem dc_L_law_432 : decode code 432 = .ok (.iconst 1, 1) ∧ 432 + 1 = 433 := ⟨by decide +kernel, rfl⟩
theorem dc_L_law_433 : decode code 433 = .ok (.goto 4, 3) ∧ ((433 : Nat) : Int) + (4) = ((437 : Nat) : Int) := ⟨by decide +kernel, by decide⟩
theorem dc_L_law_436 : decode code 436 = .ok (.iconst 0, 1) ∧ 436 + 1 = 437 := ⟨by decide +kernel, rfl⟩
theorem dc_L_law_437 : decode code 437 = .ok (.ireturn, 1) := by decide +kernel
