theorem dP_init_0 : decode bP_init 0 = .ok (.aload_n 0, 1) := by decide +kernel
theorem dP_init_1 : decode bP_init 1 = .ok (.invokespecial 1, 3) := by decide +kernel
theorem dP_init_4 : decode bP_init 4 = .ok (.aload_n 0, 1) := by decide +kernel
theorem dP_init_5 : decode bP_init 5 = .ok (.new 7, 3) := by decide +kernel
theorem dP_init_8 : decode bP_init 8 = .ok (.dup, 1) := by decide +kernel
theorem dP_init_9 : decode bP_init 9 = .ok (.invokespecial 9, 3) := by decide +kernel
theorem dP_init_12 : decode bP_init 12 = .ok (.putfield 10, 3) := by decide +kernel
theorem dP_init_15 : decode bP_init 15 = .ok (.aload_n 0, 1) := by decide +kernel
theorem dP_init_16 : decode bP_init 16 = .ok (.new 16, 3) := by decide +kernel
theorem dP_init_19 : decode bP_init 19 = .ok (.dup, 1) := by decide +kernel
theorem dP_init_20 : decode bP_init 20 = .ok (.invokespecial 18, 3) := by decide +kernel
theorem dP_init_23 : decode bP_init 23 = .ok (.putfield 19, 3) := by decide +kernel
theorem dP_init_26 : decode bP_init 26 = .ok (.aload_n 0, 1) := by decide +kernel
theorem dP_init_27 : decode bP_init 27 = .ok (.new 16, 3) := by decide +kernel
theorem dP_init_30 : decode bP_init 30 = .ok (.dup, 1) := by decide +kernel
theorem dP_init_31 : decode bP_init 31 = .ok (.invokespecial 18, 3) := by decide +kernel
theorem dP_init_34 : decode bP_init 34 = .ok (.putfield 23, 3) := by decide +kernel
theorem dP_init_37 : decode bP_init 37 = .ok (.aload_n 0, 1) := by decide +kernel
theorem dP_init_38 : decode bP_init 38 = .ok (.new 26, 3) := by decide +kernel
theorem dP_init_41 : decode bP_init 41 = .ok (.dup, 1) := by decide +kernel
theorem dP_init_42 : decode bP_init 42 = .ok (.invokespecial 28, 3) := by decide +kernel
theorem dP_init_45 : decode bP_init 45 = .ok (.putfield 29, 3) := by decide +kernel
theorem dP_init_48 : decode bP_init 48 = .ok (.aload_n 0, 1) := by decide +kernel
theorem dP_init_49 : decode bP_init 49 = .ok (.new 33, 3) := by decide +kernel
theorem dP_init_52 : decode bP_init 52 = .ok (.dup, 1) := by decide +kernel
theorem dP_init_53 : decode bP_init 53 = .ok (.invokespecial 35, 3) := by decide +kernel
theorem dP_init_56 : decode bP_init 56 = .ok (.putfield 36, 3) := by decide +kernel
theorem dP_init_59 : decode bP_init 59 = .ok (.aload_n 0, 1) := by decide +kernel
theorem dP_init_60 : decode bP_init 60 = .ok (.new 40, 3) := by decide +kernel
theorem dP_init_63 : decode bP_init 63 = .ok (.dup, 1) := by decide +kernel
theorem dP_init_64 : decode bP_init 64 = .ok (.invokespecial 42, 3) := by decide +kernel
theorem dP_init_67 : decode bP_init 67 = .ok (.putfield 43, 3) := by decide +kernel
theorem dP_init_70 : decode bP_init 70 = .ok (.aload_n 0, 1) := by decide +kernel
theorem dP_init_71 : decode bP_init 71 = .ok (.new 40, 3) := by decide +kernel
theorem dP_init_74 : decode bP_init 74 = .ok (.dup, 1) := by decide +kernel
theorem dP_init_75 : decode bP_init 75 = .ok (.invokespecial 42, 3) := by decide +kernel
theorem dP_init_78 : decode bP_init 78 = .ok (.putfield 47, 3) := by decide +kernel
theorem dP_init_81 : decode bP_init 81 = .ok (.aload_n 0, 1) := by decide +kernel
theorem dP_init_82 : decode bP_init 82 = .ok (.ldc2_w 50, 3) := by decide +kernel
theorem dP_init_85 : decode bP_init 85 = .ok (.putfield 52, 3) := by decide +kernel
theorem dP_init_88 : decode bP_init 88 = .ok (.aload_n 0, 1) := by decide +kernel
theorem dP_init_89 : decode bP_init 89 = .ok (.iconst 0, 1) := by decide +kernel
theorem dP_init_90 : decode bP_init 90 = .ok (.putfield 56, 3) := by decide +kernel
theorem dP_init_93 : decode bP_init 93 = .ok (.aload_n 0, 1) := by decide +kernel
theorem dP_init_94 : decode bP_init 94 = .ok (.iconst 0, 1) := by decide +kernel
theorem dP_init_95 : decode bP_init 95 = .ok (.putfield 60, 3) := by decide +kernel
theorem dP_init_98 : decode bP_init 98 = .ok (.return_, 1) := by decide +kernel
theorem dP_heights_0 : decode bP_heights 0 = .ok (.lload_n 1, 1) := by decide +kernel
theorem dP_heights_1 : decode bP_heights 1 = .ok (.lconst 1, 1) := by decide +kernel
theorem dP_heights_2 : decode bP_heights 2 = .ok (.lcmp, 1) := by decide +kernel
theorem dP_heights_3 : decode bP_heights 3 = .ok (.ifCond .lt 11, 3) := by decide +kernel
theorem dP_heights_6 : decode bP_heights 6 = .ok (.lload_n 1, 1) := by decide +kernel
theorem dP_heights_7 : decode bP_heights 7 = .ok (.ldc2_w 63, 3) := by decide +kernel
theorem dP_heights_10 : decode bP_heights 10 = .ok (.lcmp, 1) := by decide +kernel
theorem dP_heights_11 : decode bP_heights 11 = .ok (.ifCond .le 13, 3) := by decide +kernel
theorem dP_heights_14 : decode bP_heights 14 = .ok (.new 65, 3) := by decide +kernel
theorem dP_heights_17 : decode bP_heights 17 = .ok (.dup, 1) := by decide +kernel
theorem dP_heights_18 : decode bP_heights 18 = .ok (.ldc 67, 2) := by decide +kernel
theorem dP_heights_20 : decode bP_heights 20 = .ok (.invokespecial 69, 3) := by decide +kernel
theorem dP_heights_23 : decode bP_heights 23 = .ok (.athrow, 1) := by decide +kernel
theorem dP_heights_24 : decode bP_heights 24 = .ok (.lload_n 1, 1) := by decide +kernel
theorem dP_heights_25 : decode bP_heights 25 = .ok (.aload_n 0, 1) := by decide +kernel
theorem dP_heights_26 : decode bP_heights 26 = .ok (.getfield 52, 3) := by decide +kernel
theorem dP_heights_29 : decode bP_heights 29 = .ok (.lcmp, 1) := by decide +kernel
theorem dP_heights_30 : decode bP_heights 30 = .ok (.ifCond .ne 5, 3) := by decide +kernel
theorem dP_heights_33 : decode bP_heights 33 = .ok (.iconst 0, 1) := by decide +kernel
theorem dP_heights_34 : decode bP_heights 34 = .ok (.ireturn, 1) := by decide +kernel
theorem dP_heights_35 : decode bP_heights 35 = .ok (.aload_n 0, 1) := by decide +kernel
theorem dP_heights_36 : decode bP_heights 36 = .ok (.lload_n 1, 1) := by decide +kernel
theorem dP_heights_37 : decode bP_heights 37 = .ok (.putfield 52, 3) := by decide +kernel
theorem dP_heights_40 : decode bP_heights 40 = .ok (.aload_n 0, 1) := by decide +kernel
theorem dP_heights_41 : decode bP_heights 41 = .ok (.invokevirtual 72, 3) := by decide +kernel
theorem dP_heights_44 : decode bP_heights 44 = .ok (.iconst 1, 1) := by decide +kernel
theorem dP_heights_45 : decode bP_heights 45 = .ok (.ireturn, 1) := by decide +kernel
theorem dP_unit_0 : decode bP_unit 0 = .ok (.aload_n 0, 1) := by decide +kernel
theorem dP_unit_1 : decode bP_unit 1 = .ok (.getfield 10, 3) := by decide +kernel
theorem dP_unit_4 : decode bP_unit 4 = .ok (.iload_n 1, 1) := by decide +kernel
theorem dP_unit_5 : decode bP_unit 5 = .ok (.invokevirtual 75, 3) := by decide +kernel
theorem dP_unit_8 : decode bP_unit 8 = .ok (.ireturn, 1) := by decide +kernel
theorem dP_rules_0 : decode bP_rules 0 = .ok (.aload_n 0, 1) := by decide +kernel
theorem dP_rules_1 : decode bP_rules 1 = .ok (.getfield 10, 3) := by decide +kernel
theorem dP_rules_4 : decode bP_rules 4 = .ok (.aload_n 0, 1) := by decide +kernel
theorem dP_rules_5 : decode bP_rules 5 = .ok (.getfield 23, 3) := by decide +kernel
theorem dP_rules_8 : decode bP_rules 8 = .ok (.invokevirtual 79, 3) := by decide +kernel
theorem dP_rules_11 : decode bP_rules 11 = .ok (.istore_n 1, 1) := by decide +kernel
theorem dP_rules_12 : decode bP_rules 12 = .ok (.aload_n 0, 1) := by decide +kernel
theorem dP_rules_13 : decode bP_rules 13 = .ok (.getfield 10, 3) := by decide +kernel
theorem dP_rules_16 : decode bP_rules 16 = .ok (.getfield 83, 3) := by decide +kernel
theorem dP_rules_19 : decode bP_rules 19 = .ok (.istore_n 2, 1) := by decide +kernel
theorem dP_rules_20 : decode bP_rules 20 = .ok (.aload_n 0, 1) := by decide +kernel
theorem dP_rules_21 : decode bP_rules 21 = .ok (.getfield 10, 3) := by decide +kernel
theorem dP_rules_24 : decode bP_rules 24 = .ok (.invokevirtual 87, 3) := by decide +kernel
theorem dP_rules_27 : decode bP_rules 27 = .ok (.iload_n 1, 1) := by decide +kernel
theorem dP_rules_28 : decode bP_rules 28 = .ok (.ifCond .ne 7, 3) := by decide +kernel
theorem dP_rules_31 : decode bP_rules 31 = .ok (.iconst (-1), 1) := by decide +kernel
theorem dP_rules_32 : decode bP_rules 32 = .ok (.iload_n 2, 1) := by decide +kernel
theorem dP_rules_33 : decode bP_rules 33 = .ok (.isub, 1) := by decide +kernel
theorem dP_rules_34 : decode bP_rules 34 = .ok (.ireturn, 1) := by decide +kernel
theorem dP_rules_35 : decode bP_rules 35 = .ok (.aload_n 0, 1) := by decide +kernel
theorem dP_rules_36 : decode bP_rules 36 = .ok (.getfield 23, 3) := by decide +kernel
theorem dP_rules_39 : decode bP_rules 39 = .ok (.astore_n 3, 1) := by decide +kernel
theorem dP_rules_40 : decode bP_rules 40 = .ok (.aload_n 0, 1) := by decide +kernel
theorem dP_rules_41 : decode bP_rules 41 = .ok (.aload_n 0, 1) := by decide +kernel
theorem dP_rules_42 : decode bP_rules 42 = .ok (.getfield 19, 3) := by decide +kernel
theorem dP_rules_45 : decode bP_rules 45 = .ok (.putfield 23, 3) := by decide +kernel
theorem dP_rules_48 : decode bP_rules 48 = .ok (.aload_n 0, 1) := by decide +kernel
theorem dP_rules_49 : decode bP_rules 49 = .ok (.aload_n 3, 1) := by decide +kernel
theorem dP_rules_50 : decode bP_rules 50 = .ok (.putfield 19, 3) := by decide +kernel
theorem dP_rules_53 : decode bP_rules 53 = .ok (.aload_n 0, 1) := by decide +kernel
theorem dP_rules_54 : decode bP_rules 54 = .ok (.invokevirtual 72, 3) := by decide +kernel
theorem dP_rules_57 : decode bP_rules 57 = .ok (.aload_n 0, 1) := by decide +kernel
theorem dP_rules_58 : decode bP_rules 58 = .ok (.getfield 19, 3) := by decide +kernel
theorem dP_rules_61 : decode bP_rules 61 = .ok (.getfield 90, 3) := by decide +kernel
theorem dP_rules_64 : decode bP_rules 64 = .ok (.ireturn, 1) := by decide +kernel
theorem dP_run_0 : decode bP_run 0 = .ok (.aload_n 0, 1) := by decide +kernel
theorem dP_run_1 : decode bP_run 1 = .ok (.getfield 19, 3) := by decide +kernel
theorem dP_run_4 : decode bP_run 4 = .ok (.getfield 90, 3) := by decide +kernel
theorem dP_run_7 : decode bP_run 7 = .ok (.ifCond .ne 13, 3) := by decide +kernel
theorem dP_run_10 : decode bP_run 10 = .ok (.new 93, 3) := by decide +kernel
theorem dP_run_13 : decode bP_run 13 = .ok (.dup, 1) := by decide +kernel
theorem dP_run_14 : decode bP_run 14 = .ok (.ldc 95, 2) := by decide +kernel
theorem dP_run_16 : decode bP_run 16 = .ok (.invokespecial 97, 3) := by decide +kernel
theorem dP_run_19 : decode bP_run 19 = .ok (.athrow, 1) := by decide +kernel
theorem dP_run_20 : decode bP_run 20 = .ok (.iload_n 1, 1) := by decide +kernel
theorem dP_run_21 : decode bP_run 21 = .ok (.ifCond .lt 8, 3) := by decide +kernel
theorem dP_run_24 : decode bP_run 24 = .ok (.iload_n 1, 1) := by decide +kernel
theorem dP_run_25 : decode bP_run 25 = .ok (.iconst 2, 1) := by decide +kernel
theorem dP_run_26 : decode bP_run 26 = .ok (.if_icmp .le 13, 3) := by decide +kernel
theorem dP_run_29 : decode bP_run 29 = .ok (.new 65, 3) := by decide +kernel
theorem dP_run_32 : decode bP_run 32 = .ok (.dup, 1) := by decide +kernel
theorem dP_run_33 : decode bP_run 33 = .ok (.ldc 98, 2) := by decide +kernel
theorem dP_run_35 : decode bP_run 35 = .ok (.invokespecial 69, 3) := by decide +kernel
theorem dP_run_38 : decode bP_run 38 = .ok (.athrow, 1) := by decide +kernel
theorem dP_run_39 : decode bP_run 39 = .ok (.lload_n 2, 1) := by decide +kernel
theorem dP_run_40 : decode bP_run 40 = .ok (.lconst 1, 1) := by decide +kernel
theorem dP_run_41 : decode bP_run 41 = .ok (.lcmp, 1) := by decide +kernel
theorem dP_run_42 : decode bP_run 42 = .ok (.ifCond .lt 27, 3) := by decide +kernel
theorem dP_run_45 : decode bP_run 45 = .ok (.lload_n 2, 1) := by decide +kernel
theorem dP_run_46 : decode bP_run 46 = .ok (.ldc2_w 100, 3) := by decide +kernel
theorem dP_run_49 : decode bP_run 49 = .ok (.lcmp, 1) := by decide +kernel
theorem dP_run_50 : decode bP_run 50 = .ok (.ifCond .gt 19, 3) := by decide +kernel
theorem dP_run_53 : decode bP_run 53 = .ok (.lload 4, 2) := by decide +kernel
theorem dP_run_55 : decode bP_run 55 = .ok (.lconst 1, 1) := by decide +kernel
theorem dP_run_56 : decode bP_run 56 = .ok (.lcmp, 1) := by decide +kernel
theorem dP_run_57 : decode bP_run 57 = .ok (.ifCond .lt 12, 3) := by decide +kernel
theorem dP_run_60 : decode bP_run 60 = .ok (.lload 4, 2) := by decide +kernel
theorem dP_run_62 : decode bP_run 62 = .ok (.ldc2_w 100, 3) := by decide +kernel
theorem dP_run_65 : decode bP_run 65 = .ok (.lcmp, 1) := by decide +kernel
theorem dP_run_66 : decode bP_run 66 = .ok (.ifCond .le 13, 3) := by decide +kernel
theorem dP_run_69 : decode bP_run 69 = .ok (.new 65, 3) := by decide +kernel
theorem dP_run_72 : decode bP_run 72 = .ok (.dup, 1) := by decide +kernel
theorem dP_run_73 : decode bP_run 73 = .ok (.ldc 102, 2) := by decide +kernel
theorem dP_run_75 : decode bP_run 75 = .ok (.invokespecial 69, 3) := by decide +kernel
theorem dP_run_78 : decode bP_run 78 = .ok (.athrow, 1) := by decide +kernel
theorem dP_run_79 : decode bP_run 79 = .ok (.aload_n 0, 1) := by decide +kernel
theorem dP_run_80 : decode bP_run 80 = .ok (.invokevirtual 72, 3) := by decide +kernel
theorem dP_run_83 : decode bP_run 83 = .ok (.aload_n 0, 1) := by decide +kernel
theorem dP_run_84 : decode bP_run 84 = .ok (.getfield 36, 3) := by decide +kernel
theorem dP_run_87 : decode bP_run 87 = .ok (.iload_n 1, 1) := by decide +kernel
theorem dP_run_88 : decode bP_run 88 = .ok (.aload_n 0, 1) := by decide +kernel
theorem dP_run_89 : decode bP_run 89 = .ok (.getfield 52, 3) := by decide +kernel
theorem dP_run_92 : decode bP_run 92 = .ok (.lload_n 2, 1) := by decide +kernel
theorem dP_run_93 : decode bP_run 93 = .ok (.lload 4, 2) := by decide +kernel
theorem dP_run_95 : decode bP_run 95 = .ok (.invokevirtual 104, 3) := by decide +kernel
theorem dP_run_98 : decode bP_run 98 = .ok (.iconst 0, 1) := by decide +kernel
theorem dP_run_99 : decode bP_run 99 = .ok (.istore 6, 2) := by decide +kernel
theorem dP_run_101 : decode bP_run 101 = .ok (.aload_n 0, 1) := by decide +kernel
theorem dP_run_102 : decode bP_run 102 = .ok (.getfield 36, 3) := by decide +kernel
theorem dP_run_105 : decode bP_run 105 = .ok (.invokevirtual 108, 3) := by decide +kernel
theorem dP_run_108 : decode bP_run 108 = .ok (.istore 7, 2) := by decide +kernel
theorem dP_run_110 : decode bP_run 110 = .ok (.iload 7, 2) := by decide +kernel
theorem dP_run_112 : decode bP_run 112 = .ok (.bipush 60, 2) := by decide +kernel
theorem dP_run_114 : decode bP_run 114 = .ok (.if_icmp .gt 74, 3) := by decide +kernel
theorem dP_run_117 : decode bP_run 117 = .ok (.aload_n 0, 1) := by decide +kernel
theorem dP_run_118 : decode bP_run 118 = .ok (.getfield 36, 3) := by decide +kernel
theorem dP_run_121 : decode bP_run 121 = .ok (.iload 7, 2) := by decide +kernel
theorem dP_run_123 : decode bP_run 123 = .ok (.invokevirtual 112, 3) := by decide +kernel
theorem dP_run_126 : decode bP_run 126 = .ok (.aload_n 0, 1) := by decide +kernel
theorem dP_run_127 : decode bP_run 127 = .ok (.getfield 19, 3) := by decide +kernel
theorem dP_run_130 : decode bP_run 130 = .ok (.aload_n 0, 1) := by decide +kernel
theorem dP_run_131 : decode bP_run 131 = .ok (.getfield 36, 3) := by decide +kernel
theorem dP_run_134 : decode bP_run 134 = .ok (.invokevirtual 116, 3) := by decide +kernel
theorem dP_run_137 : decode bP_run 137 = .ok (.istore 8, 2) := by decide +kernel
theorem dP_run_139 : decode bP_run 139 = .ok (.iload 8, 2) := by decide +kernel
theorem dP_run_141 : decode bP_run 141 = .ok (.aload_n 0, 1) := by decide +kernel
theorem dP_run_142 : decode bP_run 142 = .ok (.getfield 19, 3) := by decide +kernel
theorem dP_run_145 : decode bP_run 145 = .ok (.getfield 90, 3) := by decide +kernel
theorem dP_run_148 : decode bP_run 148 = .ok (.if_icmp .ne 25, 3) := by decide +kernel
theorem dP_run_151 : decode bP_run 151 = .ok (.aload_n 0, 1) := by decide +kernel
theorem dP_run_152 : decode bP_run 152 = .ok (.iconst 1, 1) := by decide +kernel
theorem dP_run_153 : decode bP_run 153 = .ok (.putfield 56, 3) := by decide +kernel
theorem dP_run_156 : decode bP_run 156 = .ok (.aload_n 0, 1) := by decide +kernel
theorem dP_run_157 : decode bP_run 157 = .ok (.getfield 43, 3) := by decide +kernel
theorem dP_run_160 : decode bP_run 160 = .ok (.aload_n 0, 1) := by decide +kernel
theorem dP_run_161 : decode bP_run 161 = .ok (.getfield 52, 3) := by decide +kernel
theorem dP_run_164 : decode bP_run 164 = .ok (.iload 7, 2) := by decide +kernel
theorem dP_run_166 : decode bP_run 166 = .ok (.i2l, 1) := by decide +kernel
theorem dP_run_167 : decode bP_run 167 = .ok (.invokevirtual 120, 3) := by decide +kernel
theorem dP_run_170 : decode bP_run 170 = .ok (.iload 7, 2) := by decide +kernel
theorem dP_run_172 : decode bP_run 172 = .ok (.ireturn, 1) := by decide +kernel
theorem dP_run_173 : decode bP_run 173 = .ok (.iload 6, 2) := by decide +kernel
theorem dP_run_175 : decode bP_run 175 = .ok (.iload 8, 2) := by decide +kernel
theorem dP_run_177 : decode bP_run 177 = .ok (.invokestatic 124, 3) := by decide +kernel
theorem dP_run_180 : decode bP_run 180 = .ok (.istore 6, 2) := by decide +kernel
theorem dP_run_182 : decode bP_run 182 = .ok (.iinc 7 1, 3) := by decide +kernel
theorem dP_run_185 : decode bP_run 185 = .ok (.goto (-75), 3) := by decide +kernel
theorem dP_run_188 : decode bP_run 188 = .ok (.iconst (-1), 1) := by decide +kernel
theorem dP_run_189 : decode bP_run 189 = .ok (.iload 6, 2) := by decide +kernel
theorem dP_run_191 : decode bP_run 191 = .ok (.isub, 1) := by decide +kernel
theorem dP_run_192 : decode bP_run 192 = .ok (.ireturn, 1) := by decide +kernel
theorem dP_rise_0 : decode bP_rise 0 = .ok (.aload_n 0, 1) := by decide +kernel
theorem dP_rise_1 : decode bP_rise 1 = .ok (.invokevirtual 130, 3) := by decide +kernel
theorem dP_rise_4 : decode bP_rise 4 = .ok (.iload_n 1, 1) := by decide +kernel
theorem dP_rise_5 : decode bP_rise 5 = .ok (.iconst 2, 1) := by decide +kernel
theorem dP_rise_6 : decode bP_rise 6 = .ok (.invokestatic 133, 3) := by decide +kernel
theorem dP_rise_9 : decode bP_rise 9 = .ok (.iload_n 1, 1) := by decide +kernel
theorem dP_rise_10 : decode bP_rise 10 = .ok (.ifCond .ne 13, 3) := by decide +kernel
theorem dP_rise_13 : decode bP_rise 13 = .ok (.aload_n 0, 1) := by decide +kernel
theorem dP_rise_14 : decode bP_rise 14 = .ok (.getfield 43, 3) := by decide +kernel
theorem dP_rise_17 : decode bP_rise 17 = .ok (.getfield 137, 3) := by decide +kernel
theorem dP_rise_20 : decode bP_rise 20 = .ok (.goto 10, 3) := by decide +kernel
theorem dP_rise_23 : decode bP_rise 23 = .ok (.aload_n 0, 1) := by decide +kernel
theorem dP_rise_24 : decode bP_rise 24 = .ok (.getfield 43, 3) := by decide +kernel
theorem dP_rise_27 : decode bP_rise 27 = .ok (.getfield 140, 3) := by decide +kernel
theorem dP_rise_30 : decode bP_rise 30 = .ok (.lreturn, 1) := by decide +kernel
theorem dP_step_0 : decode bP_step 0 = .ok (.aload_n 0, 1) := by decide +kernel
theorem dP_step_1 : decode bP_step 1 = .ok (.invokevirtual 130, 3) := by decide +kernel
theorem dP_step_4 : decode bP_step 4 = .ok (.iload_n 1, 1) := by decide +kernel
theorem dP_step_5 : decode bP_step 5 = .ok (.aload_n 0, 1) := by decide +kernel
theorem dP_step_6 : decode bP_step 6 = .ok (.getfield 36, 3) := by decide +kernel
theorem dP_step_9 : decode bP_step 9 = .ok (.invokevirtual 143, 3) := by decide +kernel
theorem dP_step_12 : decode bP_step 12 = .ok (.invokestatic 133, 3) := by decide +kernel
theorem dP_step_15 : decode bP_step 15 = .ok (.iload_n 2, 1) := by decide +kernel
theorem dP_step_16 : decode bP_step 16 = .ok (.tableswitch 95 0 5 #[40, 49, 58, 67, 76, 86], 40) := by decide +kernel
theorem dP_step_56 : decode bP_step 56 = .ok (.aload_n 0, 1) := by decide +kernel
theorem dP_step_57 : decode bP_step 57 = .ok (.getfield 36, 3) := by decide +kernel
theorem dP_step_60 : decode bP_step 60 = .ok (.iload_n 1, 1) := by decide +kernel
theorem dP_step_61 : decode bP_step 61 = .ok (.invokevirtual 146, 3) := by decide +kernel
theorem dP_step_64 : decode bP_step 64 = .ok (.lreturn, 1) := by decide +kernel
theorem dP_step_65 : decode bP_step 65 = .ok (.aload_n 0, 1) := by decide +kernel
theorem dP_step_66 : decode bP_step 66 = .ok (.getfield 36, 3) := by decide +kernel
theorem dP_step_69 : decode bP_step 69 = .ok (.iload_n 1, 1) := by decide +kernel
theorem dP_step_70 : decode bP_step 70 = .ok (.invokevirtual 150, 3) := by decide +kernel
theorem dP_step_73 : decode bP_step 73 = .ok (.lreturn, 1) := by decide +kernel
theorem dP_step_74 : decode bP_step 74 = .ok (.aload_n 0, 1) := by decide +kernel
theorem dP_step_75 : decode bP_step 75 = .ok (.getfield 36, 3) := by decide +kernel
theorem dP_step_78 : decode bP_step 78 = .ok (.iload_n 1, 1) := by decide +kernel
theorem dP_step_79 : decode bP_step 79 = .ok (.invokevirtual 153, 3) := by decide +kernel
theorem dP_step_82 : decode bP_step 82 = .ok (.lreturn, 1) := by decide +kernel
theorem dP_step_83 : decode bP_step 83 = .ok (.aload_n 0, 1) := by decide +kernel
theorem dP_step_84 : decode bP_step 84 = .ok (.getfield 36, 3) := by decide +kernel
theorem dP_step_87 : decode bP_step 87 = .ok (.iload_n 1, 1) := by decide +kernel
theorem dP_step_88 : decode bP_step 88 = .ok (.invokevirtual 156, 3) := by decide +kernel
theorem dP_step_91 : decode bP_step 91 = .ok (.lreturn, 1) := by decide +kernel
theorem dP_step_92 : decode bP_step 92 = .ok (.aload_n 0, 1) := by decide +kernel
theorem dP_step_93 : decode bP_step 93 = .ok (.getfield 36, 3) := by decide +kernel
theorem dP_step_96 : decode bP_step 96 = .ok (.iload_n 1, 1) := by decide +kernel
theorem dP_step_97 : decode bP_step 97 = .ok (.invokevirtual 159, 3) := by decide +kernel
theorem dP_step_100 : decode bP_step 100 = .ok (.i2l, 1) := by decide +kernel
theorem dP_step_101 : decode bP_step 101 = .ok (.lreturn, 1) := by decide +kernel
theorem dP_step_102 : decode bP_step 102 = .ok (.aload_n 0, 1) := by decide +kernel
theorem dP_step_103 : decode bP_step 103 = .ok (.getfield 36, 3) := by decide +kernel
theorem dP_step_106 : decode bP_step 106 = .ok (.iload_n 1, 1) := by decide +kernel
theorem dP_step_107 : decode bP_step 107 = .ok (.invokevirtual 163, 3) := by decide +kernel
theorem dP_step_110 : decode bP_step 110 = .ok (.lreturn, 1) := by decide +kernel
theorem dP_step_111 : decode bP_step 111 = .ok (.new 65, 3) := by decide +kernel
theorem dP_step_114 : decode bP_step 114 = .ok (.dup, 1) := by decide +kernel
theorem dP_step_115 : decode bP_step 115 = .ok (.ldc 166, 2) := by decide +kernel
theorem dP_step_117 : decode bP_step 117 = .ok (.invokespecial 69, 3) := by decide +kernel
theorem dP_step_120 : decode bP_step 120 = .ok (.athrow, 1) := by decide +kernel
theorem dP_winder_0 : decode bP_winder 0 = .ok (.aload_n 0, 1) := by decide +kernel
theorem dP_winder_1 : decode bP_winder 1 = .ok (.invokevirtual 168, 3) := by decide +kernel
theorem dP_winder_4 : decode bP_winder 4 = .ok (.iload_n 1, 1) := by decide +kernel
theorem dP_winder_5 : decode bP_winder 5 = .ok (.iconst 4, 1) := by decide +kernel
theorem dP_winder_6 : decode bP_winder 6 = .ok (.invokestatic 133, 3) := by decide +kernel
theorem dP_winder_9 : decode bP_winder 9 = .ok (.iload_n 2, 1) := by decide +kernel
theorem dP_winder_10 : decode bP_winder 10 = .ok (.iconst 2, 1) := by decide +kernel
theorem dP_winder_11 : decode bP_winder 11 = .ok (.invokestatic 133, 3) := by decide +kernel
theorem dP_winder_14 : decode bP_winder 14 = .ok (.iload_n 2, 1) := by decide +kernel
theorem dP_winder_15 : decode bP_winder 15 = .ok (.ifCond .ne 14, 3) := by decide +kernel
theorem dP_winder_18 : decode bP_winder 18 = .ok (.aload_n 0, 1) := by decide +kernel
theorem dP_winder_19 : decode bP_winder 19 = .ok (.getfield 36, 3) := by decide +kernel
theorem dP_winder_22 : decode bP_winder 22 = .ok (.iload_n 1, 1) := by decide +kernel
theorem dP_winder_23 : decode bP_winder 23 = .ok (.invokevirtual 171, 3) := by decide +kernel
theorem dP_winder_26 : decode bP_winder 26 = .ok (.goto 11, 3) := by decide +kernel
theorem dP_winder_29 : decode bP_winder 29 = .ok (.aload_n 0, 1) := by decide +kernel
theorem dP_winder_30 : decode bP_winder 30 = .ok (.getfield 36, 3) := by decide +kernel
theorem dP_winder_33 : decode bP_winder 33 = .ok (.iload_n 1, 1) := by decide +kernel
theorem dP_winder_34 : decode bP_winder 34 = .ok (.invokevirtual 174, 3) := by decide +kernel
theorem dP_winder_37 : decode bP_winder 37 = .ok (.lreturn, 1) := by decide +kernel
theorem dP_area_0 : decode bP_area 0 = .ok (.aload_n 0, 1) := by decide +kernel
theorem dP_area_1 : decode bP_area 1 = .ok (.invokevirtual 168, 3) := by decide +kernel
theorem dP_area_4 : decode bP_area 4 = .ok (.iload_n 1, 1) := by decide +kernel
theorem dP_area_5 : decode bP_area 5 = .ok (.iconst 3, 1) := by decide +kernel
theorem dP_area_6 : decode bP_area 6 = .ok (.invokestatic 133, 3) := by decide +kernel
theorem dP_area_9 : decode bP_area 9 = .ok (.aload_n 0, 1) := by decide +kernel
theorem dP_area_10 : decode bP_area 10 = .ok (.getfield 36, 3) := by decide +kernel
theorem dP_area_13 : decode bP_area 13 = .ok (.invokevirtual 177, 3) := by decide +kernel
theorem dP_area_16 : decode bP_area 16 = .ok (.lreturn, 1) := by decide +kernel
theorem dP_meets_0 : decode bP_meets 0 = .ok (.aload_n 0, 1) := by decide +kernel
theorem dP_meets_1 : decode bP_meets 1 = .ok (.invokevirtual 130, 3) := by decide +kernel
theorem dP_meets_4 : decode bP_meets 4 = .ok (.iload_n 1, 1) := by decide +kernel
theorem dP_meets_5 : decode bP_meets 5 = .ok (.aload_n 0, 1) := by decide +kernel
theorem dP_meets_6 : decode bP_meets 6 = .ok (.getfield 19, 3) := by decide +kernel
theorem dP_meets_9 : decode bP_meets 9 = .ok (.getfield 90, 3) := by decide +kernel
theorem dP_meets_12 : decode bP_meets 12 = .ok (.invokestatic 133, 3) := by decide +kernel
theorem dP_meets_15 : decode bP_meets 15 = .ok (.aload_n 0, 1) := by decide +kernel
theorem dP_meets_16 : decode bP_meets 16 = .ok (.getfield 19, 3) := by decide +kernel
theorem dP_meets_19 : decode bP_meets 19 = .ok (.iload_n 1, 1) := by decide +kernel
theorem dP_meets_20 : decode bP_meets 20 = .ok (.aload_n 0, 1) := by decide +kernel
theorem dP_meets_21 : decode bP_meets 21 = .ok (.getfield 36, 3) := by decide +kernel
theorem dP_meets_24 : decode bP_meets 24 = .ok (.invokevirtual 181, 3) := by decide +kernel
theorem dP_meets_27 : decode bP_meets 27 = .ok (.ireturn, 1) := by decide +kernel
theorem dP_floor_0 : decode bP_floor 0 = .ok (.lload_n 1, 1) := by decide +kernel
theorem dP_floor_1 : decode bP_floor 1 = .ok (.invokestatic 185, 3) := by decide +kernel
theorem dP_floor_4 : decode bP_floor 4 = .ok (.ifCond .eq 26, 3) := by decide +kernel
theorem dP_floor_7 : decode bP_floor 7 = .ok (.lload_n 3, 1) := by decide +kernel
theorem dP_floor_8 : decode bP_floor 8 = .ok (.invokestatic 185, 3) := by decide +kernel
theorem dP_floor_11 : decode bP_floor 11 = .ok (.ifCond .eq 19, 3) := by decide +kernel
theorem dP_floor_14 : decode bP_floor 14 = .ok (.lload 5, 2) := by decide +kernel
theorem dP_floor_16 : decode bP_floor 16 = .ok (.invokestatic 185, 3) := by decide +kernel
theorem dP_floor_19 : decode bP_floor 19 = .ok (.ifCond .eq 11, 3) := by decide +kernel
theorem dP_floor_22 : decode bP_floor 22 = .ok (.lload 7, 2) := by decide +kernel
theorem dP_floor_24 : decode bP_floor 24 = .ok (.invokestatic 185, 3) := by decide +kernel
theorem dP_floor_27 : decode bP_floor 27 = .ok (.ifCond .ne 13, 3) := by decide +kernel
theorem dP_floor_30 : decode bP_floor 30 = .ok (.new 65, 3) := by decide +kernel
theorem dP_floor_33 : decode bP_floor 33 = .ok (.dup, 1) := by decide +kernel
theorem dP_floor_34 : decode bP_floor 34 = .ok (.ldc 189, 2) := by decide +kernel
theorem dP_floor_36 : decode bP_floor 36 = .ok (.invokespecial 69, 3) := by decide +kernel
theorem dP_floor_39 : decode bP_floor 39 = .ok (.athrow, 1) := by decide +kernel
theorem dP_floor_40 : decode bP_floor 40 = .ok (.lload 5, 2) := by decide +kernel
theorem dP_floor_42 : decode bP_floor 42 = .ok (.lload_n 1, 1) := by decide +kernel
theorem dP_floor_43 : decode bP_floor 43 = .ok (.lcmp, 1) := by decide +kernel
theorem dP_floor_44 : decode bP_floor 44 = .ok (.ifCond .le 10, 3) := by decide +kernel
theorem dP_floor_47 : decode bP_floor 47 = .ok (.lload 7, 2) := by decide +kernel
theorem dP_floor_49 : decode bP_floor 49 = .ok (.lload_n 3, 1) := by decide +kernel
theorem dP_floor_50 : decode bP_floor 50 = .ok (.lcmp, 1) := by decide +kernel
theorem dP_floor_51 : decode bP_floor 51 = .ok (.ifCond .gt 13, 3) := by decide +kernel
theorem dP_floor_54 : decode bP_floor 54 = .ok (.new 65, 3) := by decide +kernel
theorem dP_floor_57 : decode bP_floor 57 = .ok (.dup, 1) := by decide +kernel
theorem dP_floor_58 : decode bP_floor 58 = .ok (.ldc 191, 2) := by decide +kernel
theorem dP_floor_60 : decode bP_floor 60 = .ok (.invokespecial 69, 3) := by decide +kernel
theorem dP_floor_63 : decode bP_floor 63 = .ok (.athrow, 1) := by decide +kernel
theorem dP_floor_64 : decode bP_floor 64 = .ok (.lload 9, 2) := by decide +kernel
theorem dP_floor_66 : decode bP_floor 66 = .ok (.invokestatic 193, 3) := by decide +kernel
theorem dP_floor_69 : decode bP_floor 69 = .ok (.ifCond .ne 13, 3) := by decide +kernel
theorem dP_floor_72 : decode bP_floor 72 = .ok (.new 65, 3) := by decide +kernel
theorem dP_floor_75 : decode bP_floor 75 = .ok (.dup, 1) := by decide +kernel
theorem dP_floor_76 : decode bP_floor 76 = .ok (.ldc 196, 2) := by decide +kernel
theorem dP_floor_78 : decode bP_floor 78 = .ok (.invokespecial 69, 3) := by decide +kernel
theorem dP_floor_81 : decode bP_floor 81 = .ok (.athrow, 1) := by decide +kernel
theorem dP_floor_82 : decode bP_floor 82 = .ok (.aload_n 0, 1) := by decide +kernel
theorem dP_floor_83 : decode bP_floor 83 = .ok (.getfield 29, 3) := by decide +kernel
theorem dP_floor_86 : decode bP_floor 86 = .ok (.lload_n 1, 1) := by decide +kernel
theorem dP_floor_87 : decode bP_floor 87 = .ok (.lload_n 3, 1) := by decide +kernel
theorem dP_floor_88 : decode bP_floor 88 = .ok (.lload 5, 2) := by decide +kernel
theorem dP_floor_90 : decode bP_floor 90 = .ok (.lload 7, 2) := by decide +kernel
theorem dP_floor_92 : decode bP_floor 92 = .ok (.lload 9, 2) := by decide +kernel
theorem dP_floor_94 : decode bP_floor 94 = .ok (.invokevirtual 198, 3) := by decide +kernel
theorem dP_floor_97 : decode bP_floor 97 = .ok (.ireturn, 1) := by decide +kernel
theorem dP_headRoom_0 : decode bP_headRoom 0 = .ok (.aload_n 0, 1) := by decide +kernel
theorem dP_headRoom_1 : decode bP_headRoom 1 = .ok (.invokevirtual 130, 3) := by decide +kernel
theorem dP_headRoom_4 : decode bP_headRoom 4 = .ok (.aload_n 0, 1) := by decide +kernel
theorem dP_headRoom_5 : decode bP_headRoom 5 = .ok (.getfield 29, 3) := by decide +kernel
theorem dP_headRoom_8 : decode bP_headRoom 8 = .ok (.aload_n 0, 1) := by decide +kernel
theorem dP_headRoom_9 : decode bP_headRoom 9 = .ok (.getfield 36, 3) := by decide +kernel
theorem dP_headRoom_12 : decode bP_headRoom 12 = .ok (.invokevirtual 201, 3) := by decide +kernel
theorem dP_headRoom_15 : decode bP_headRoom 15 = .ok (.lreturn, 1) := by decide +kernel
theorem dP_string_0 : decode bP_string 0 = .ok (.aload_n 0, 1) := by decide +kernel
theorem dP_string_1 : decode bP_string 1 = .ok (.invokevirtual 130, 3) := by decide +kernel
theorem dP_string_4 : decode bP_string 4 = .ok (.iload_n 1, 1) := by decide +kernel
theorem dP_string_5 : decode bP_string 5 = .ok (.iconst 2, 1) := by decide +kernel
theorem dP_string_6 : decode bP_string 6 = .ok (.invokestatic 133, 3) := by decide +kernel
theorem dP_string_9 : decode bP_string 9 = .ok (.aload_n 0, 1) := by decide +kernel
theorem dP_string_10 : decode bP_string 10 = .ok (.getfield 36, 3) := by decide +kernel
theorem dP_string_13 : decode bP_string 13 = .ok (.invokevirtual 205, 3) := by decide +kernel
theorem dP_string_16 : decode bP_string 16 = .ok (.lstore_n 2, 1) := by decide +kernel
theorem dP_string_17 : decode bP_string 17 = .ok (.iload_n 1, 1) := by decide +kernel
theorem dP_string_18 : decode bP_string 18 = .ok (.ifCond .eq 14, 3) := by decide +kernel
theorem dP_string_21 : decode bP_string 21 = .ok (.aload_n 0, 1) := by decide +kernel
theorem dP_string_22 : decode bP_string 22 = .ok (.getfield 36, 3) := by decide +kernel
theorem dP_string_25 : decode bP_string 25 = .ok (.lload_n 2, 1) := by decide +kernel
theorem dP_string_26 : decode bP_string 26 = .ok (.invokevirtual 208, 3) := by decide +kernel
theorem dP_string_29 : decode bP_string 29 = .ok (.ifCond .eq 7, 3) := by decide +kernel
theorem dP_string_32 : decode bP_string 32 = .ok (.lload_n 2, 1) := by decide +kernel
theorem dP_string_33 : decode bP_string 33 = .ok (.goto 6, 3) := by decide +kernel
theorem dP_string_36 : decode bP_string 36 = .ok (.lload_n 2, 1) := by decide +kernel
theorem dP_string_37 : decode bP_string 37 = .ok (.lconst 1, 1) := by decide +kernel
theorem dP_string_38 : decode bP_string 38 = .ok (.ladd, 1) := by decide +kernel
theorem dP_string_39 : decode bP_string 39 = .ok (.lreturn, 1) := by decide +kernel
theorem dP_balusters_0 : decode bP_balusters 0 = .ok (.aload_n 0, 1) := by decide +kernel
theorem dP_balusters_1 : decode bP_balusters 1 = .ok (.invokevirtual 130, 3) := by decide +kernel
theorem dP_balusters_4 : decode bP_balusters 4 = .ok (.lload_n 1, 1) := by decide +kernel
theorem dP_balusters_5 : decode bP_balusters 5 = .ok (.lconst 1, 1) := by decide +kernel
theorem dP_balusters_6 : decode bP_balusters 6 = .ok (.lcmp, 1) := by decide +kernel
theorem dP_balusters_7 : decode bP_balusters 7 = .ok (.ifCond .lt 11, 3) := by decide +kernel
theorem dP_balusters_10 : decode bP_balusters 10 = .ok (.lload_n 1, 1) := by decide +kernel
theorem dP_balusters_11 : decode bP_balusters 11 = .ok (.ldc2_w 211, 3) := by decide +kernel
theorem dP_balusters_14 : decode bP_balusters 14 = .ok (.lcmp, 1) := by decide +kernel
theorem dP_balusters_15 : decode bP_balusters 15 = .ok (.ifCond .le 13, 3) := by decide +kernel
theorem dP_balusters_18 : decode bP_balusters 18 = .ok (.new 65, 3) := by decide +kernel
theorem dP_balusters_21 : decode bP_balusters 21 = .ok (.dup, 1) := by decide +kernel
theorem dP_balusters_22 : decode bP_balusters 22 = .ok (.ldc 213, 2) := by decide +kernel
theorem dP_balusters_24 : decode bP_balusters 24 = .ok (.invokespecial 69, 3) := by decide +kernel
theorem dP_balusters_27 : decode bP_balusters 27 = .ok (.athrow, 1) := by decide +kernel
theorem dP_balusters_28 : decode bP_balusters 28 = .ok (.lload_n 3, 1) := by decide +kernel
theorem dP_balusters_29 : decode bP_balusters 29 = .ok (.lconst 0, 1) := by decide +kernel
theorem dP_balusters_30 : decode bP_balusters 30 = .ok (.lcmp, 1) := by decide +kernel
theorem dP_balusters_31 : decode bP_balusters 31 = .ok (.ifCond .ge 13, 3) := by decide +kernel
theorem dP_balusters_34 : decode bP_balusters 34 = .ok (.new 65, 3) := by decide +kernel
theorem dP_balusters_37 : decode bP_balusters 37 = .ok (.dup, 1) := by decide +kernel
theorem dP_balusters_38 : decode bP_balusters 38 = .ok (.ldc 215, 2) := by decide +kernel
theorem dP_balusters_40 : decode bP_balusters 40 = .ok (.invokespecial 69, 3) := by decide +kernel
theorem dP_balusters_43 : decode bP_balusters 43 = .ok (.athrow, 1) := by decide +kernel
theorem dP_balusters_44 : decode bP_balusters 44 = .ok (.aload_n 0, 1) := by decide +kernel
theorem dP_balusters_45 : decode bP_balusters 45 = .ok (.getfield 36, 3) := by decide +kernel
theorem dP_balusters_48 : decode bP_balusters 48 = .ok (.invokevirtual 217, 3) := by decide +kernel
theorem dP_balusters_51 : decode bP_balusters 51 = .ok (.lstore 5, 2) := by decide +kernel
theorem dP_balusters_53 : decode bP_balusters 53 = .ok (.lload 5, 2) := by decide +kernel
theorem dP_balusters_55 : decode bP_balusters 55 = .ok (.lload_n 1, 1) := by decide +kernel
theorem dP_balusters_56 : decode bP_balusters 56 = .ok (.lload_n 3, 1) := by decide +kernel
theorem dP_balusters_57 : decode bP_balusters 57 = .ok (.invokestatic 220, 3) := by decide +kernel
theorem dP_balusters_60 : decode bP_balusters 60 = .ok (.istore 7, 2) := by decide +kernel
theorem dP_balusters_62 : decode bP_balusters 62 = .ok (.aload_n 0, 1) := by decide +kernel
theorem dP_balusters_63 : decode bP_balusters 63 = .ok (.iload 7, 2) := by decide +kernel
theorem dP_balusters_65 : decode bP_balusters 65 = .ok (.iconst (-1), 1) := by decide +kernel
theorem dP_balusters_66 : decode bP_balusters 66 = .ok (.if_icmp .eq 7, 3) := by decide +kernel
theorem dP_balusters_69 : decode bP_balusters 69 = .ok (.iconst 1, 1) := by decide +kernel
theorem dP_balusters_70 : decode bP_balusters 70 = .ok (.goto 4, 3) := by decide +kernel
theorem dP_balusters_73 : decode bP_balusters 73 = .ok (.iconst 0, 1) := by decide +kernel
theorem dP_balusters_74 : decode bP_balusters 74 = .ok (.putfield 60, 3) := by decide +kernel
theorem dP_balusters_77 : decode bP_balusters 77 = .ok (.aload_n 0, 1) := by decide +kernel
theorem dP_balusters_78 : decode bP_balusters 78 = .ok (.getfield 60, 3) := by decide +kernel
theorem dP_balusters_81 : decode bP_balusters 81 = .ok (.ifCond .eq 23, 3) := by decide +kernel
theorem dP_balusters_84 : decode bP_balusters 84 = .ok (.aload_n 0, 1) := by decide +kernel
theorem dP_balusters_85 : decode bP_balusters 85 = .ok (.getfield 47, 3) := by decide +kernel
theorem dP_balusters_88 : decode bP_balusters 88 = .ok (.lload 5, 2) := by decide +kernel
theorem dP_balusters_90 : decode bP_balusters 90 = .ok (.iload 7, 2) := by decide +kernel
theorem dP_balusters_92 : decode bP_balusters 92 = .ok (.i2l, 1) := by decide +kernel
theorem dP_balusters_93 : decode bP_balusters 93 = .ok (.lload_n 1, 1) := by decide +kernel
theorem dP_balusters_94 : decode bP_balusters 94 = .ok (.lmul, 1) := by decide +kernel
theorem dP_balusters_95 : decode bP_balusters 95 = .ok (.lsub, 1) := by decide +kernel
theorem dP_balusters_96 : decode bP_balusters 96 = .ok (.iload 7, 2) := by decide +kernel
theorem dP_balusters_98 : decode bP_balusters 98 = .ok (.iconst 1, 1) := by decide +kernel
theorem dP_balusters_99 : decode bP_balusters 99 = .ok (.iadd, 1) := by decide +kernel
theorem dP_balusters_100 : decode bP_balusters 100 = .ok (.i2l, 1) := by decide +kernel
theorem dP_balusters_101 : decode bP_balusters 101 = .ok (.invokevirtual 120, 3) := by decide +kernel
theorem dP_balusters_104 : decode bP_balusters 104 = .ok (.iload 7, 2) := by decide +kernel
theorem dP_balusters_106 : decode bP_balusters 106 = .ok (.ireturn, 1) := by decide +kernel
theorem dP_gap_0 : decode bP_gap 0 = .ok (.aload_n 0, 1) := by decide +kernel
theorem dP_gap_1 : decode bP_gap 1 = .ok (.getfield 60, 3) := by decide +kernel
theorem dP_gap_4 : decode bP_gap 4 = .ok (.ifCond .ne 13, 3) := by decide +kernel
theorem dP_gap_7 : decode bP_gap 7 = .ok (.new 93, 3) := by decide +kernel
theorem dP_gap_10 : decode bP_gap 10 = .ok (.dup, 1) := by decide +kernel
theorem dP_gap_11 : decode bP_gap 11 = .ok (.ldc 224, 2) := by decide +kernel
theorem dP_gap_13 : decode bP_gap 13 = .ok (.invokespecial 97, 3) := by decide +kernel
theorem dP_gap_16 : decode bP_gap 16 = .ok (.athrow, 1) := by decide +kernel
theorem dP_gap_17 : decode bP_gap 17 = .ok (.iload_n 1, 1) := by decide +kernel
theorem dP_gap_18 : decode bP_gap 18 = .ok (.iconst 2, 1) := by decide +kernel
theorem dP_gap_19 : decode bP_gap 19 = .ok (.invokestatic 133, 3) := by decide +kernel
theorem dP_gap_22 : decode bP_gap 22 = .ok (.iload_n 1, 1) := by decide +kernel
theorem dP_gap_23 : decode bP_gap 23 = .ok (.ifCond .ne 13, 3) := by decide +kernel
theorem dP_gap_26 : decode bP_gap 26 = .ok (.aload_n 0, 1) := by decide +kernel
theorem dP_gap_27 : decode bP_gap 27 = .ok (.getfield 47, 3) := by decide +kernel
theorem dP_gap_30 : decode bP_gap 30 = .ok (.getfield 137, 3) := by decide +kernel
theorem dP_gap_33 : decode bP_gap 33 = .ok (.goto 10, 3) := by decide +kernel
theorem dP_gap_36 : decode bP_gap 36 = .ok (.aload_n 0, 1) := by decide +kernel
theorem dP_gap_37 : decode bP_gap 37 = .ok (.getfield 47, 3) := by decide +kernel
theorem dP_gap_40 : decode bP_gap 40 = .ok (.getfield 140, 3) := by decide +kernel
theorem dP_gap_43 : decode bP_gap 43 = .ok (.lreturn, 1) := by decide +kernel
theorem dP_list_0 : decode bP_list 0 = .ok (.aload_n 0, 1) := by decide +kernel
theorem dP_list_1 : decode bP_list 1 = .ok (.invokevirtual 130, 3) := by decide +kernel
theorem dP_list_4 : decode bP_list 4 = .ok (.iload_n 1, 1) := by decide +kernel
theorem dP_list_5 : decode bP_list 5 = .ok (.iconst 4, 1) := by decide +kernel
theorem dP_list_6 : decode bP_list 6 = .ok (.invokestatic 133, 3) := by decide +kernel
theorem dP_list_9 : decode bP_list 9 = .ok (.iload_n 1, 1) := by decide +kernel
theorem dP_list_10 : decode bP_list 10 = .ok (.tableswitch 66 0 2 #[26, 50, 58], 26) := by decide +kernel
theorem dP_list_36 : decode bP_list 36 = .ok (.aload_n 0, 1) := by decide +kernel
theorem dP_list_37 : decode bP_list 37 = .ok (.getfield 36, 3) := by decide +kernel
theorem dP_list_40 : decode bP_list 40 = .ok (.invokevirtual 143, 3) := by decide +kernel
theorem dP_list_43 : decode bP_list 43 = .ok (.aload_n 0, 1) := by decide +kernel
theorem dP_list_44 : decode bP_list 44 = .ok (.getfield 36, 3) := by decide +kernel
theorem dP_list_47 : decode bP_list 47 = .ok (.invokevirtual 226, 3) := by decide +kernel
theorem dP_list_50 : decode bP_list 50 = .ok (.isub, 1) := by decide +kernel
theorem dP_list_51 : decode bP_list 51 = .ok (.aload_n 0, 1) := by decide +kernel
theorem dP_list_52 : decode bP_list 52 = .ok (.getfield 36, 3) := by decide +kernel
theorem dP_list_55 : decode bP_list 55 = .ok (.invokevirtual 229, 3) := by decide +kernel
theorem dP_list_58 : decode bP_list 58 = .ok (.isub, 1) := by decide +kernel
theorem dP_list_59 : decode bP_list 59 = .ok (.ireturn, 1) := by decide +kernel
theorem dP_list_60 : decode bP_list 60 = .ok (.aload_n 0, 1) := by decide +kernel
theorem dP_list_61 : decode bP_list 61 = .ok (.getfield 36, 3) := by decide +kernel
theorem dP_list_64 : decode bP_list 64 = .ok (.invokevirtual 226, 3) := by decide +kernel
theorem dP_list_67 : decode bP_list 67 = .ok (.ireturn, 1) := by decide +kernel
theorem dP_list_68 : decode bP_list 68 = .ok (.aload_n 0, 1) := by decide +kernel
theorem dP_list_69 : decode bP_list 69 = .ok (.getfield 36, 3) := by decide +kernel
theorem dP_list_72 : decode bP_list 72 = .ok (.invokevirtual 229, 3) := by decide +kernel
theorem dP_list_75 : decode bP_list 75 = .ok (.ireturn, 1) := by decide +kernel
theorem dP_list_76 : decode bP_list 76 = .ok (.aload_n 0, 1) := by decide +kernel
theorem dP_list_77 : decode bP_list 77 = .ok (.getfield 36, 3) := by decide +kernel
theorem dP_list_80 : decode bP_list 80 = .ok (.getfield 232, 3) := by decide +kernel
theorem dP_list_83 : decode bP_list 83 = .ok (.ireturn, 1) := by decide +kernel
theorem dP_forgetPlan_0 : decode bP_forgetPlan 0 = .ok (.aload_n 0, 1) := by decide +kernel
theorem dP_forgetPlan_1 : decode bP_forgetPlan 1 = .ok (.iconst 0, 1) := by decide +kernel
theorem dP_forgetPlan_2 : decode bP_forgetPlan 2 = .ok (.putfield 56, 3) := by decide +kernel
theorem dP_forgetPlan_5 : decode bP_forgetPlan 5 = .ok (.aload_n 0, 1) := by decide +kernel
theorem dP_forgetPlan_6 : decode bP_forgetPlan 6 = .ok (.iconst 0, 1) := by decide +kernel
theorem dP_forgetPlan_7 : decode bP_forgetPlan 7 = .ok (.putfield 60, 3) := by decide +kernel
theorem dP_forgetPlan_10 : decode bP_forgetPlan 10 = .ok (.return_, 1) := by decide +kernel
theorem dP_requirePlan_0 : decode bP_requirePlan 0 = .ok (.aload_n 0, 1) := by decide +kernel
theorem dP_requirePlan_1 : decode bP_requirePlan 1 = .ok (.getfield 56, 3) := by decide +kernel
theorem dP_requirePlan_4 : decode bP_requirePlan 4 = .ok (.ifCond .ne 13, 3) := by decide +kernel
theorem dP_requirePlan_7 : decode bP_requirePlan 7 = .ok (.new 93, 3) := by decide +kernel
theorem dP_requirePlan_10 : decode bP_requirePlan 10 = .ok (.dup, 1) := by decide +kernel
theorem dP_requirePlan_11 : decode bP_requirePlan 11 = .ok (.ldc 235, 2) := by decide +kernel
theorem dP_requirePlan_13 : decode bP_requirePlan 13 = .ok (.invokespecial 97, 3) := by decide +kernel
theorem dP_requirePlan_16 : decode bP_requirePlan 16 = .ok (.athrow, 1) := by decide +kernel
theorem dP_requirePlan_17 : decode bP_requirePlan 17 = .ok (.return_, 1) := by decide +kernel
theorem dP_requireWinders_0 : decode bP_requireWinders 0 = .ok (.aload_n 0, 1) := by decide +kernel
theorem dP_requireWinders_1 : decode bP_requireWinders 1 = .ok (.invokevirtual 130, 3) := by decide +kernel
theorem dP_requireWinders_4 : decode bP_requireWinders 4 = .ok (.aload_n 0, 1) := by decide +kernel
theorem dP_requireWinders_5 : decode bP_requireWinders 5 = .ok (.getfield 36, 3) := by decide +kernel
theorem dP_requireWinders_8 : decode bP_requireWinders 8 = .ok (.invokevirtual 229, 3) := by decide +kernel
theorem dP_requireWinders_11 : decode bP_requireWinders 11 = .ok (.ifCond .ne 13, 3) := by decide +kernel
theorem dP_requireWinders_14 : decode bP_requireWinders 14 = .ok (.new 93, 3) := by decide +kernel
theorem dP_requireWinders_17 : decode bP_requireWinders 17 = .ok (.dup, 1) := by decide +kernel
theorem dP_requireWinders_18 : decode bP_requireWinders 18 = .ok (.ldc 237, 2) := by decide +kernel
theorem dP_requireWinders_20 : decode bP_requireWinders 20 = .ok (.invokespecial 97, 3) := by decide +kernel
theorem dP_requireWinders_23 : decode bP_requireWinders 23 = .ok (.athrow, 1) := by decide +kernel
theorem dP_requireWinders_24 : decode bP_requireWinders 24 = .ok (.return_, 1) := by decide +kernel
theorem dP_requireIndex_0 : decode bP_requireIndex 0 = .ok (.iload_n 0, 1) := by decide +kernel
theorem dP_requireIndex_1 : decode bP_requireIndex 1 = .ok (.ifCond .lt 8, 3) := by decide +kernel
theorem dP_requireIndex_4 : decode bP_requireIndex 4 = .ok (.iload_n 0, 1) := by decide +kernel
theorem dP_requireIndex_5 : decode bP_requireIndex 5 = .ok (.iload_n 1, 1) := by decide +kernel
theorem dP_requireIndex_6 : decode bP_requireIndex 6 = .ok (.if_icmp .lt 13, 3) := by decide +kernel
theorem dP_requireIndex_9 : decode bP_requireIndex 9 = .ok (.new 239, 3) := by decide +kernel
theorem dP_requireIndex_12 : decode bP_requireIndex 12 = .ok (.dup, 1) := by decide +kernel
theorem dP_requireIndex_13 : decode bP_requireIndex 13 = .ok (.ldc 241, 2) := by decide +kernel
theorem dP_requireIndex_15 : decode bP_requireIndex 15 = .ok (.invokespecial 243, 3) := by decide +kernel
theorem dP_requireIndex_18 : decode bP_requireIndex 18 = .ok (.athrow, 1) := by decide +kernel
theorem dP_requireIndex_19 : decode bP_requireIndex 19 = .ok (.return_, 1) := by decide +kernel
theorem dP_fewestBalusters_0 : decode bP_fewestBalusters 0 = .ok (.lload 4, 2) := by decide +kernel
theorem dP_fewestBalusters_2 : decode bP_fewestBalusters 2 = .ok (.lload_n 0, 1) := by decide +kernel
theorem dP_fewestBalusters_3 : decode bP_fewestBalusters 3 = .ok (.invokestatic 244, 3) := by decide +kernel
theorem dP_fewestBalusters_6 : decode bP_fewestBalusters 6 = .ok (.lstore 6, 2) := by decide +kernel
theorem dP_fewestBalusters_8 : decode bP_fewestBalusters 8 = .ok (.iconst 0, 1) := by decide +kernel
theorem dP_fewestBalusters_9 : decode bP_fewestBalusters 9 = .ok (.istore 8, 2) := by decide +kernel
theorem dP_fewestBalusters_11 : decode bP_fewestBalusters 11 = .ok (.iload 8, 2) := by decide +kernel
theorem dP_fewestBalusters_13 : decode bP_fewestBalusters 13 = .ok (.sipush 1000, 3) := by decide +kernel
theorem dP_fewestBalusters_16 : decode bP_fewestBalusters 16 = .ok (.if_icmp .gt 44, 3) := by decide +kernel
theorem dP_fewestBalusters_19 : decode bP_fewestBalusters 19 = .ok (.lload_n 0, 1) := by decide +kernel
theorem dP_fewestBalusters_20 : decode bP_fewestBalusters 20 = .ok (.iload 8, 2) := by decide +kernel
theorem dP_fewestBalusters_22 : decode bP_fewestBalusters 22 = .ok (.i2l, 1) := by decide +kernel
theorem dP_fewestBalusters_23 : decode bP_fewestBalusters 23 = .ok (.lload_n 2, 1) := by decide +kernel
theorem dP_fewestBalusters_24 : decode bP_fewestBalusters 24 = .ok (.lmul, 1) := by decide +kernel
theorem dP_fewestBalusters_25 : decode bP_fewestBalusters 25 = .ok (.lsub, 1) := by decide +kernel
theorem dP_fewestBalusters_26 : decode bP_fewestBalusters 26 = .ok (.lstore 9, 2) := by decide +kernel
theorem dP_fewestBalusters_28 : decode bP_fewestBalusters 28 = .ok (.lload 9, 2) := by decide +kernel
theorem dP_fewestBalusters_30 : decode bP_fewestBalusters 30 = .ok (.lconst 0, 1) := by decide +kernel
theorem dP_fewestBalusters_31 : decode bP_fewestBalusters 31 = .ok (.lcmp, 1) := by decide +kernel
theorem dP_fewestBalusters_32 : decode bP_fewestBalusters 32 = .ok (.ifCond .ge 5, 3) := by decide +kernel
theorem dP_fewestBalusters_35 : decode bP_fewestBalusters 35 = .ok (.iconst (-1), 1) := by decide +kernel
theorem dP_fewestBalusters_36 : decode bP_fewestBalusters 36 = .ok (.ireturn, 1) := by decide +kernel
theorem dP_fewestBalusters_37 : decode bP_fewestBalusters 37 = .ok (.lload 9, 2) := by decide +kernel
theorem dP_fewestBalusters_39 : decode bP_fewestBalusters 39 = .ok (.lload 6, 2) := by decide +kernel
theorem dP_fewestBalusters_41 : decode bP_fewestBalusters 41 = .ok (.iload 8, 2) := by decide +kernel
theorem dP_fewestBalusters_43 : decode bP_fewestBalusters 43 = .ok (.iconst 1, 1) := by decide +kernel
theorem dP_fewestBalusters_44 : decode bP_fewestBalusters 44 = .ok (.iadd, 1) := by decide +kernel
theorem dP_fewestBalusters_45 : decode bP_fewestBalusters 45 = .ok (.i2l, 1) := by decide +kernel
theorem dP_fewestBalusters_46 : decode bP_fewestBalusters 46 = .ok (.lmul, 1) := by decide +kernel
theorem dP_fewestBalusters_47 : decode bP_fewestBalusters 47 = .ok (.lcmp, 1) := by decide +kernel
theorem dP_fewestBalusters_48 : decode bP_fewestBalusters 48 = .ok (.ifCond .gt 6, 3) := by decide +kernel
theorem dP_fewestBalusters_51 : decode bP_fewestBalusters 51 = .ok (.iload 8, 2) := by decide +kernel
theorem dP_fewestBalusters_53 : decode bP_fewestBalusters 53 = .ok (.ireturn, 1) := by decide +kernel
theorem dP_fewestBalusters_54 : decode bP_fewestBalusters 54 = .ok (.iinc 8 1, 3) := by decide +kernel
theorem dP_fewestBalusters_57 : decode bP_fewestBalusters 57 = .ok (.goto (-46), 3) := by decide +kernel
theorem dP_fewestBalusters_60 : decode bP_fewestBalusters 60 = .ok (.iconst (-1), 1) := by decide +kernel
theorem dP_fewestBalusters_61 : decode bP_fewestBalusters 61 = .ok (.ireturn, 1) := by decide +kernel
