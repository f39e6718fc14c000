theorem dM_init_0 : decode bM_init 0 = .ok (.aload_n 0, 1) := by decide +kernel
theorem dM_init_1 : decode bM_init 1 = .ok (.invokespecial 1, 3) := by decide +kernel
theorem dM_init_4 : decode bM_init 4 = .ok (.aload_n 0, 1) := by decide +kernel
theorem dM_init_5 : decode bM_init 5 = .ok (.ldc2_w 7, 3) := by decide +kernel
theorem dM_init_8 : decode bM_init 8 = .ok (.putfield 9, 3) := by decide +kernel
theorem dM_init_11 : decode bM_init 11 = .ok (.aload_n 0, 1) := by decide +kernel
theorem dM_init_12 : decode bM_init 12 = .ok (.bipush 120, 2) := by decide +kernel
theorem dM_init_14 : decode bM_init 14 = .ok (.newarray .int, 2) := by decide +kernel
theorem dM_init_16 : decode bM_init 16 = .ok (.putfield 15, 3) := by decide +kernel
theorem dM_init_19 : decode bM_init 19 = .ok (.aload_n 0, 1) := by decide +kernel
theorem dM_init_20 : decode bM_init 20 = .ok (.bipush 56, 2) := by decide +kernel
theorem dM_init_22 : decode bM_init 22 = .ok (.newarray .int, 2) := by decide +kernel
theorem dM_init_24 : decode bM_init 24 = .ok (.putfield 19, 3) := by decide +kernel
theorem dM_init_27 : decode bM_init 27 = .ok (.aload_n 0, 1) := by decide +kernel
theorem dM_init_28 : decode bM_init 28 = .ok (.bipush 56, 2) := by decide +kernel
theorem dM_init_30 : decode bM_init 30 = .ok (.newarray .int, 2) := by decide +kernel
theorem dM_init_32 : decode bM_init 32 = .ok (.putfield 22, 3) := by decide +kernel
theorem dM_init_35 : decode bM_init 35 = .ok (.aload_n 0, 1) := by decide +kernel
theorem dM_init_36 : decode bM_init 36 = .ok (.bipush 40, 2) := by decide +kernel
theorem dM_init_38 : decode bM_init 38 = .ok (.newarray .long, 2) := by decide +kernel
theorem dM_init_40 : decode bM_init 40 = .ok (.putfield 25, 3) := by decide +kernel
theorem dM_init_43 : decode bM_init 43 = .ok (.return_, 1) := by decide +kernel
theorem dM_thrown_0 : decode bM_thrown 0 = .ok (.aload_n 0, 1) := by decide +kernel
theorem dM_thrown_1 : decode bM_thrown 1 = .ok (.getfield 29, 3) := by decide +kernel
theorem dM_thrown_4 : decode bM_thrown 4 = .ok (.ireturn, 1) := by decide +kernel
theorem dM_isIn_0 : decode bM_isIn 0 = .ok (.lload_n 0, 1) := by decide +kernel
theorem dM_isIn_1 : decode bM_isIn 1 = .ok (.lload_n 2, 1) := by decide +kernel
theorem dM_isIn_2 : decode bM_isIn 2 = .ok (.lcmp, 1) := by decide +kernel
theorem dM_isIn_3 : decode bM_isIn 3 = .ok (.ifCond .lt 14, 3) := by decide +kernel
theorem dM_isIn_6 : decode bM_isIn 6 = .ok (.lload_n 0, 1) := by decide +kernel
theorem dM_isIn_7 : decode bM_isIn 7 = .ok (.lload 4, 2) := by decide +kernel
theorem dM_isIn_9 : decode bM_isIn 9 = .ok (.lcmp, 1) := by decide +kernel
theorem dM_isIn_10 : decode bM_isIn 10 = .ok (.ifCond .gt 7, 3) := by decide +kernel
theorem dM_isIn_13 : decode bM_isIn 13 = .ok (.iconst 1, 1) := by decide +kernel
theorem dM_isIn_14 : decode bM_isIn 14 = .ok (.goto 4, 3) := by decide +kernel
theorem dM_isIn_17 : decode bM_isIn 17 = .ok (.iconst 0, 1) := by decide +kernel
theorem dM_isIn_18 : decode bM_isIn 18 = .ok (.ireturn, 1) := by decide +kernel
theorem dM_heights_0 : decode bM_heights 0 = .ok (.aload_n 0, 1) := by decide +kernel
theorem dM_heights_1 : decode bM_heights 1 = .ok (.lload_n 1, 1) := by decide +kernel
theorem dM_heights_2 : decode bM_heights 2 = .ok (.lconst 1, 1) := by decide +kernel
theorem dM_heights_3 : decode bM_heights 3 = .ok (.ldc2_w 33, 3) := by decide +kernel
theorem dM_heights_6 : decode bM_heights 6 = .ok (.invokestatic 35, 3) := by decide +kernel
theorem dM_heights_9 : decode bM_heights 9 = .ok (.ifCond .eq 7, 3) := by decide +kernel
theorem dM_heights_12 : decode bM_heights 12 = .ok (.iconst 0, 1) := by decide +kernel
theorem dM_heights_13 : decode bM_heights 13 = .ok (.goto 4, 3) := by decide +kernel
theorem dM_heights_16 : decode bM_heights 16 = .ok (.iconst 1, 1) := by decide +kernel
theorem dM_heights_17 : decode bM_heights 17 = .ok (.putfield 29, 3) := by decide +kernel
theorem dM_heights_20 : decode bM_heights 20 = .ok (.aload_n 0, 1) := by decide +kernel
theorem dM_heights_21 : decode bM_heights 21 = .ok (.getfield 29, 3) := by decide +kernel
theorem dM_heights_24 : decode bM_heights 24 = .ok (.ifCond .gt 12, 3) := by decide +kernel
theorem dM_heights_27 : decode bM_heights 27 = .ok (.lload_n 1, 1) := by decide +kernel
theorem dM_heights_28 : decode bM_heights 28 = .ok (.aload_n 0, 1) := by decide +kernel
theorem dM_heights_29 : decode bM_heights 29 = .ok (.getfield 9, 3) := by decide +kernel
theorem dM_heights_32 : decode bM_heights 32 = .ok (.lcmp, 1) := by decide +kernel
theorem dM_heights_33 : decode bM_heights 33 = .ok (.ifCond .ne 5, 3) := by decide +kernel
theorem dM_heights_36 : decode bM_heights 36 = .ok (.iconst 0, 1) := by decide +kernel
theorem dM_heights_37 : decode bM_heights 37 = .ok (.ireturn, 1) := by decide +kernel
theorem dM_heights_38 : decode bM_heights 38 = .ok (.aload_n 0, 1) := by decide +kernel
theorem dM_heights_39 : decode bM_heights 39 = .ok (.lload_n 1, 1) := by decide +kernel
theorem dM_heights_40 : decode bM_heights 40 = .ok (.putfield 9, 3) := by decide +kernel
theorem dM_heights_43 : decode bM_heights 43 = .ok (.aload_n 0, 1) := by decide +kernel
theorem dM_heights_44 : decode bM_heights 44 = .ok (.iconst 0, 1) := by decide +kernel
theorem dM_heights_45 : decode bM_heights 45 = .ok (.putfield 39, 3) := by decide +kernel
theorem dM_heights_48 : decode bM_heights 48 = .ok (.iconst 1, 1) := by decide +kernel
theorem dM_heights_49 : decode bM_heights 49 = .ok (.ireturn, 1) := by decide +kernel
theorem dM_unit_0 : decode bM_unit 0 = .ok (.aload_n 0, 1) := by decide +kernel
theorem dM_unit_1 : decode bM_unit 1 = .ok (.iconst 0, 1) := by decide +kernel
theorem dM_unit_2 : decode bM_unit 2 = .ok (.putfield 29, 3) := by decide +kernel
theorem dM_unit_5 : decode bM_unit 5 = .ok (.aload_n 0, 1) := by decide +kernel
theorem dM_unit_6 : decode bM_unit 6 = .ok (.getfield 43, 3) := by decide +kernel
theorem dM_unit_9 : decode bM_unit 9 = .ok (.bipush 120, 2) := by decide +kernel
theorem dM_unit_11 : decode bM_unit 11 = .ok (.if_icmp .ge 19, 3) := by decide +kernel
theorem dM_unit_14 : decode bM_unit 14 = .ok (.iload_n 1, 1) := by decide +kernel
theorem dM_unit_15 : decode bM_unit 15 = .ok (.bipush 33, 2) := by decide +kernel
theorem dM_unit_17 : decode bM_unit 17 = .ok (.if_icmp .lt 13, 3) := by decide +kernel
theorem dM_unit_20 : decode bM_unit 20 = .ok (.iload_n 1, 1) := by decide +kernel
theorem dM_unit_21 : decode bM_unit 21 = .ok (.bipush 126, 2) := by decide +kernel
theorem dM_unit_23 : decode bM_unit 23 = .ok (.if_icmp .gt 7, 3) := by decide +kernel
theorem dM_unit_26 : decode bM_unit 26 = .ok (.iconst 1, 1) := by decide +kernel
theorem dM_unit_27 : decode bM_unit 27 = .ok (.goto 4, 3) := by decide +kernel
theorem dM_unit_30 : decode bM_unit 30 = .ok (.iconst 0, 1) := by decide +kernel
theorem dM_unit_31 : decode bM_unit 31 = .ok (.istore_n 2, 1) := by decide +kernel
theorem dM_unit_32 : decode bM_unit 32 = .ok (.iload_n 2, 1) := by decide +kernel
theorem dM_unit_33 : decode bM_unit 33 = .ok (.ifCond .eq 23, 3) := by decide +kernel
theorem dM_unit_36 : decode bM_unit 36 = .ok (.aload_n 0, 1) := by decide +kernel
theorem dM_unit_37 : decode bM_unit 37 = .ok (.getfield 15, 3) := by decide +kernel
theorem dM_unit_40 : decode bM_unit 40 = .ok (.aload_n 0, 1) := by decide +kernel
theorem dM_unit_41 : decode bM_unit 41 = .ok (.getfield 43, 3) := by decide +kernel
theorem dM_unit_44 : decode bM_unit 44 = .ok (.iload_n 1, 1) := by decide +kernel
theorem dM_unit_45 : decode bM_unit 45 = .ok (.iastore, 1) := by decide +kernel
theorem dM_unit_46 : decode bM_unit 46 = .ok (.aload_n 0, 1) := by decide +kernel
theorem dM_unit_47 : decode bM_unit 47 = .ok (.dup, 1) := by decide +kernel
theorem dM_unit_48 : decode bM_unit 48 = .ok (.getfield 43, 3) := by decide +kernel
theorem dM_unit_51 : decode bM_unit 51 = .ok (.iconst 1, 1) := by decide +kernel
theorem dM_unit_52 : decode bM_unit 52 = .ok (.iadd, 1) := by decide +kernel
theorem dM_unit_53 : decode bM_unit 53 = .ok (.putfield 43, 3) := by decide +kernel
theorem dM_unit_56 : decode bM_unit 56 = .ok (.iload_n 2, 1) := by decide +kernel
theorem dM_unit_57 : decode bM_unit 57 = .ok (.ireturn, 1) := by decide +kernel
theorem dM_here_0 : decode bM_here 0 = .ok (.aload_n 0, 1) := by decide +kernel
theorem dM_here_1 : decode bM_here 1 = .ok (.getfield 46, 3) := by decide +kernel
theorem dM_here_4 : decode bM_here 4 = .ok (.aload_n 0, 1) := by decide +kernel
theorem dM_here_5 : decode bM_here 5 = .ok (.getfield 43, 3) := by decide +kernel
theorem dM_here_8 : decode bM_here 8 = .ok (.if_icmp .ge 15, 3) := by decide +kernel
theorem dM_here_11 : decode bM_here 11 = .ok (.aload_n 0, 1) := by decide +kernel
theorem dM_here_12 : decode bM_here 12 = .ok (.getfield 15, 3) := by decide +kernel
theorem dM_here_15 : decode bM_here 15 = .ok (.aload_n 0, 1) := by decide +kernel
theorem dM_here_16 : decode bM_here 16 = .ok (.getfield 46, 3) := by decide +kernel
theorem dM_here_19 : decode bM_here 19 = .ok (.iaload, 1) := by decide +kernel
theorem dM_here_20 : decode bM_here 20 = .ok (.goto 4, 3) := by decide +kernel
theorem dM_here_23 : decode bM_here 23 = .ok (.iconst (-1), 1) := by decide +kernel
theorem dM_here_24 : decode bM_here 24 = .ok (.ireturn, 1) := by decide +kernel
theorem dM_fail_0 : decode bM_fail 0 = .ok (.aload_n 0, 1) := by decide +kernel
theorem dM_fail_1 : decode bM_fail 1 = .ok (.aload_n 0, 1) := by decide +kernel
theorem dM_fail_2 : decode bM_fail 2 = .ok (.getfield 49, 3) := by decide +kernel
theorem dM_fail_5 : decode bM_fail 5 = .ok (.ifCond .ge 10, 3) := by decide +kernel
theorem dM_fail_8 : decode bM_fail 8 = .ok (.aload_n 0, 1) := by decide +kernel
theorem dM_fail_9 : decode bM_fail 9 = .ok (.getfield 46, 3) := by decide +kernel
theorem dM_fail_12 : decode bM_fail 12 = .ok (.goto 7, 3) := by decide +kernel
theorem dM_fail_15 : decode bM_fail 15 = .ok (.aload_n 0, 1) := by decide +kernel
theorem dM_fail_16 : decode bM_fail 16 = .ok (.getfield 49, 3) := by decide +kernel
theorem dM_fail_19 : decode bM_fail 19 = .ok (.putfield 49, 3) := by decide +kernel
theorem dM_fail_22 : decode bM_fail 22 = .ok (.return_, 1) := by decide +kernel
theorem dM_isDigit_0 : decode bM_isDigit 0 = .ok (.aload_n 0, 1) := by decide +kernel
theorem dM_isDigit_1 : decode bM_isDigit 1 = .ok (.invokevirtual 52, 3) := by decide +kernel
theorem dM_isDigit_4 : decode bM_isDigit 4 = .ok (.bipush 48, 2) := by decide +kernel
theorem dM_isDigit_6 : decode bM_isDigit 6 = .ok (.if_icmp .lt 16, 3) := by decide +kernel
theorem dM_isDigit_9 : decode bM_isDigit 9 = .ok (.aload_n 0, 1) := by decide +kernel
theorem dM_isDigit_10 : decode bM_isDigit 10 = .ok (.invokevirtual 52, 3) := by decide +kernel
theorem dM_isDigit_13 : decode bM_isDigit 13 = .ok (.bipush 57, 2) := by decide +kernel
theorem dM_isDigit_15 : decode bM_isDigit 15 = .ok (.if_icmp .gt 7, 3) := by decide +kernel
theorem dM_isDigit_18 : decode bM_isDigit 18 = .ok (.iconst 1, 1) := by decide +kernel
theorem dM_isDigit_19 : decode bM_isDigit 19 = .ok (.goto 4, 3) := by decide +kernel
theorem dM_isDigit_22 : decode bM_isDigit 22 = .ok (.iconst 0, 1) := by decide +kernel
theorem dM_isDigit_23 : decode bM_isDigit 23 = .ok (.ireturn, 1) := by decide +kernel
theorem dM_readDigits_0 : decode bM_readDigits 0 = .ok (.iconst 0, 1) := by decide +kernel
theorem dM_readDigits_1 : decode bM_readDigits 1 = .ok (.istore_n 2, 1) := by decide +kernel
theorem dM_readDigits_2 : decode bM_readDigits 2 = .ok (.iconst 0, 1) := by decide +kernel
theorem dM_readDigits_3 : decode bM_readDigits 3 = .ok (.istore_n 3, 1) := by decide +kernel
theorem dM_readDigits_4 : decode bM_readDigits 4 = .ok (.iload_n 3, 1) := by decide +kernel
theorem dM_readDigits_5 : decode bM_readDigits 5 = .ok (.iload_n 1, 1) := by decide +kernel
theorem dM_readDigits_6 : decode bM_readDigits 6 = .ok (.if_icmp .ge 39, 3) := by decide +kernel
theorem dM_readDigits_9 : decode bM_readDigits 9 = .ok (.aload_n 0, 1) := by decide +kernel
theorem dM_readDigits_10 : decode bM_readDigits 10 = .ok (.invokevirtual 56, 3) := by decide +kernel
theorem dM_readDigits_13 : decode bM_readDigits 13 = .ok (.ifCond .eq 32, 3) := by decide +kernel
theorem dM_readDigits_16 : decode bM_readDigits 16 = .ok (.bipush 10, 2) := by decide +kernel
theorem dM_readDigits_18 : decode bM_readDigits 18 = .ok (.iload_n 2, 1) := by decide +kernel
theorem dM_readDigits_19 : decode bM_readDigits 19 = .ok (.imul, 1) := by decide +kernel
theorem dM_readDigits_20 : decode bM_readDigits 20 = .ok (.aload_n 0, 1) := by decide +kernel
theorem dM_readDigits_21 : decode bM_readDigits 21 = .ok (.invokevirtual 52, 3) := by decide +kernel
theorem dM_readDigits_24 : decode bM_readDigits 24 = .ok (.iadd, 1) := by decide +kernel
theorem dM_readDigits_25 : decode bM_readDigits 25 = .ok (.bipush 48, 2) := by decide +kernel
theorem dM_readDigits_27 : decode bM_readDigits 27 = .ok (.isub, 1) := by decide +kernel
theorem dM_readDigits_28 : decode bM_readDigits 28 = .ok (.istore_n 2, 1) := by decide +kernel
theorem dM_readDigits_29 : decode bM_readDigits 29 = .ok (.iinc 3 1, 3) := by decide +kernel
theorem dM_readDigits_32 : decode bM_readDigits 32 = .ok (.aload_n 0, 1) := by decide +kernel
theorem dM_readDigits_33 : decode bM_readDigits 33 = .ok (.dup, 1) := by decide +kernel
theorem dM_readDigits_34 : decode bM_readDigits 34 = .ok (.getfield 46, 3) := by decide +kernel
theorem dM_readDigits_37 : decode bM_readDigits 37 = .ok (.iconst 1, 1) := by decide +kernel
theorem dM_readDigits_38 : decode bM_readDigits 38 = .ok (.iadd, 1) := by decide +kernel
theorem dM_readDigits_39 : decode bM_readDigits 39 = .ok (.putfield 46, 3) := by decide +kernel
theorem dM_readDigits_42 : decode bM_readDigits 42 = .ok (.goto (-38), 3) := by decide +kernel
theorem dM_readDigits_45 : decode bM_readDigits 45 = .ok (.iload_n 3, 1) := by decide +kernel
theorem dM_readDigits_46 : decode bM_readDigits 46 = .ok (.ifCond .ne 7, 3) := by decide +kernel
theorem dM_readDigits_49 : decode bM_readDigits 49 = .ok (.iconst (-1), 1) := by decide +kernel
theorem dM_readDigits_50 : decode bM_readDigits 50 = .ok (.goto 4, 3) := by decide +kernel
theorem dM_readDigits_53 : decode bM_readDigits 53 = .ok (.iload_n 2, 1) := by decide +kernel
theorem dM_readDigits_54 : decode bM_readDigits 54 = .ok (.ireturn, 1) := by decide +kernel
theorem dM_letterOf_0 : decode bM_letterOf 0 = .ok (.iload_n 0, 1) := by decide +kernel
theorem dM_letterOf_1 : decode bM_letterOf 1 = .ok (.bipush 114, 2) := by decide +kernel
theorem dM_letterOf_3 : decode bM_letterOf 3 = .ok (.if_icmp .ne 7, 3) := by decide +kernel
theorem dM_letterOf_6 : decode bM_letterOf 6 = .ok (.iconst 0, 1) := by decide +kernel
theorem dM_letterOf_7 : decode bM_letterOf 7 = .ok (.goto 44, 3) := by decide +kernel
theorem dM_letterOf_10 : decode bM_letterOf 10 = .ok (.iload_n 0, 1) := by decide +kernel
theorem dM_letterOf_11 : decode bM_letterOf 11 = .ok (.bipush 103, 2) := by decide +kernel
theorem dM_letterOf_13 : decode bM_letterOf 13 = .ok (.if_icmp .ne 7, 3) := by decide +kernel
theorem dM_letterOf_16 : decode bM_letterOf 16 = .ok (.iconst 1, 1) := by decide +kernel
theorem dM_letterOf_17 : decode bM_letterOf 17 = .ok (.goto 34, 3) := by decide +kernel
theorem dM_letterOf_20 : decode bM_letterOf 20 = .ok (.iload_n 0, 1) := by decide +kernel
theorem dM_letterOf_21 : decode bM_letterOf 21 = .ok (.bipush 110, 2) := by decide +kernel
theorem dM_letterOf_23 : decode bM_letterOf 23 = .ok (.if_icmp .ne 7, 3) := by decide +kernel
theorem dM_letterOf_26 : decode bM_letterOf 26 = .ok (.iconst 2, 1) := by decide +kernel
theorem dM_letterOf_27 : decode bM_letterOf 27 = .ok (.goto 24, 3) := by decide +kernel
theorem dM_letterOf_30 : decode bM_letterOf 30 = .ok (.iload_n 0, 1) := by decide +kernel
theorem dM_letterOf_31 : decode bM_letterOf 31 = .ok (.bipush 119, 2) := by decide +kernel
theorem dM_letterOf_33 : decode bM_letterOf 33 = .ok (.if_icmp .ne 7, 3) := by decide +kernel
theorem dM_letterOf_36 : decode bM_letterOf 36 = .ok (.iconst 3, 1) := by decide +kernel
theorem dM_letterOf_37 : decode bM_letterOf 37 = .ok (.goto 14, 3) := by decide +kernel
theorem dM_letterOf_40 : decode bM_letterOf 40 = .ok (.iload_n 0, 1) := by decide +kernel
theorem dM_letterOf_41 : decode bM_letterOf 41 = .ok (.bipush 116, 2) := by decide +kernel
theorem dM_letterOf_43 : decode bM_letterOf 43 = .ok (.if_icmp .ne 7, 3) := by decide +kernel
theorem dM_letterOf_46 : decode bM_letterOf 46 = .ok (.iconst 4, 1) := by decide +kernel
theorem dM_letterOf_47 : decode bM_letterOf 47 = .ok (.goto 4, 3) := by decide +kernel
theorem dM_letterOf_50 : decode bM_letterOf 50 = .ok (.iconst (-1), 1) := by decide +kernel
theorem dM_letterOf_51 : decode bM_letterOf 51 = .ok (.ireturn, 1) := by decide +kernel
theorem dM_readTerm_0 : decode bM_readTerm 0 = .ok (.aload_n 0, 1) := by decide +kernel
theorem dM_readTerm_1 : decode bM_readTerm 1 = .ok (.iconst 2, 1) := by decide +kernel
theorem dM_readTerm_2 : decode bM_readTerm 2 = .ok (.invokevirtual 60, 3) := by decide +kernel
theorem dM_readTerm_5 : decode bM_readTerm 5 = .ok (.istore_n 2, 1) := by decide +kernel
theorem dM_readTerm_6 : decode bM_readTerm 6 = .ok (.aload_n 0, 1) := by decide +kernel
theorem dM_readTerm_7 : decode bM_readTerm 7 = .ok (.invokevirtual 52, 3) := by decide +kernel
theorem dM_readTerm_10 : decode bM_readTerm 10 = .ok (.invokestatic 64, 3) := by decide +kernel
theorem dM_readTerm_13 : decode bM_readTerm 13 = .ok (.istore_n 3, 1) := by decide +kernel
theorem dM_readTerm_14 : decode bM_readTerm 14 = .ok (.iload_n 3, 1) := by decide +kernel
theorem dM_readTerm_15 : decode bM_readTerm 15 = .ok (.ifCond .ge 8, 3) := by decide +kernel
theorem dM_readTerm_18 : decode bM_readTerm 18 = .ok (.aload_n 0, 1) := by decide +kernel
theorem dM_readTerm_19 : decode bM_readTerm 19 = .ok (.invokevirtual 67, 3) := by decide +kernel
theorem dM_readTerm_22 : decode bM_readTerm 22 = .ok (.return_, 1) := by decide +kernel
theorem dM_readTerm_23 : decode bM_readTerm 23 = .ok (.aload_n 0, 1) := by decide +kernel
theorem dM_readTerm_24 : decode bM_readTerm 24 = .ok (.getfield 22, 3) := by decide +kernel
theorem dM_readTerm_27 : decode bM_readTerm 27 = .ok (.bipush 7, 2) := by decide +kernel
theorem dM_readTerm_29 : decode bM_readTerm 29 = .ok (.iload_n 1, 1) := by decide +kernel
theorem dM_readTerm_30 : decode bM_readTerm 30 = .ok (.imul, 1) := by decide +kernel
theorem dM_readTerm_31 : decode bM_readTerm 31 = .ok (.iload_n 3, 1) := by decide +kernel
theorem dM_readTerm_32 : decode bM_readTerm 32 = .ok (.iadd, 1) := by decide +kernel
theorem dM_readTerm_33 : decode bM_readTerm 33 = .ok (.aload_n 0, 1) := by decide +kernel
theorem dM_readTerm_34 : decode bM_readTerm 34 = .ok (.getfield 22, 3) := by decide +kernel
theorem dM_readTerm_37 : decode bM_readTerm 37 = .ok (.bipush 7, 2) := by decide +kernel
theorem dM_readTerm_39 : decode bM_readTerm 39 = .ok (.iload_n 1, 1) := by decide +kernel
theorem dM_readTerm_40 : decode bM_readTerm 40 = .ok (.imul, 1) := by decide +kernel
theorem dM_readTerm_41 : decode bM_readTerm 41 = .ok (.iload_n 3, 1) := by decide +kernel
theorem dM_readTerm_42 : decode bM_readTerm 42 = .ok (.iadd, 1) := by decide +kernel
theorem dM_readTerm_43 : decode bM_readTerm 43 = .ok (.iaload, 1) := by decide +kernel
theorem dM_readTerm_44 : decode bM_readTerm 44 = .ok (.iload_n 2, 1) := by decide +kernel
theorem dM_readTerm_45 : decode bM_readTerm 45 = .ok (.ifCond .ge 7, 3) := by decide +kernel
theorem dM_readTerm_48 : decode bM_readTerm 48 = .ok (.iconst 1, 1) := by decide +kernel
theorem dM_readTerm_49 : decode bM_readTerm 49 = .ok (.goto 4, 3) := by decide +kernel
theorem dM_readTerm_52 : decode bM_readTerm 52 = .ok (.iload_n 2, 1) := by decide +kernel
theorem dM_readTerm_53 : decode bM_readTerm 53 = .ok (.iadd, 1) := by decide +kernel
theorem dM_readTerm_54 : decode bM_readTerm 54 = .ok (.iastore, 1) := by decide +kernel
theorem dM_readTerm_55 : decode bM_readTerm 55 = .ok (.aload_n 0, 1) := by decide +kernel
theorem dM_readTerm_56 : decode bM_readTerm 56 = .ok (.dup, 1) := by decide +kernel
theorem dM_readTerm_57 : decode bM_readTerm 57 = .ok (.getfield 46, 3) := by decide +kernel
theorem dM_readTerm_60 : decode bM_readTerm 60 = .ok (.iconst 1, 1) := by decide +kernel
theorem dM_readTerm_61 : decode bM_readTerm 61 = .ok (.iadd, 1) := by decide +kernel
theorem dM_readTerm_62 : decode bM_readTerm 62 = .ok (.putfield 46, 3) := by decide +kernel
theorem dM_readTerm_65 : decode bM_readTerm 65 = .ok (.return_, 1) := by decide +kernel
theorem dM_readRule_0 : decode bM_readRule 0 = .ok (.iconst 0, 1) := by decide +kernel
theorem dM_readRule_1 : decode bM_readRule 1 = .ok (.istore_n 2, 1) := by decide +kernel
theorem dM_readRule_2 : decode bM_readRule 2 = .ok (.iload_n 2, 1) := by decide +kernel
theorem dM_readRule_3 : decode bM_readRule 3 = .ok (.bipush 7, 2) := by decide +kernel
theorem dM_readRule_5 : decode bM_readRule 5 = .ok (.if_icmp .ge 21, 3) := by decide +kernel
theorem dM_readRule_8 : decode bM_readRule 8 = .ok (.aload_n 0, 1) := by decide +kernel
theorem dM_readRule_9 : decode bM_readRule 9 = .ok (.getfield 22, 3) := by decide +kernel
theorem dM_readRule_12 : decode bM_readRule 12 = .ok (.bipush 7, 2) := by decide +kernel
theorem dM_readRule_14 : decode bM_readRule 14 = .ok (.iload_n 1, 1) := by decide +kernel
theorem dM_readRule_15 : decode bM_readRule 15 = .ok (.imul, 1) := by decide +kernel
theorem dM_readRule_16 : decode bM_readRule 16 = .ok (.iload_n 2, 1) := by decide +kernel
theorem dM_readRule_17 : decode bM_readRule 17 = .ok (.iadd, 1) := by decide +kernel
theorem dM_readRule_18 : decode bM_readRule 18 = .ok (.iconst 0, 1) := by decide +kernel
theorem dM_readRule_19 : decode bM_readRule 19 = .ok (.iastore, 1) := by decide +kernel
theorem dM_readRule_20 : decode bM_readRule 20 = .ok (.iinc 2 1, 3) := by decide +kernel
theorem dM_readRule_23 : decode bM_readRule 23 = .ok (.goto (-21), 3) := by decide +kernel
theorem dM_readRule_26 : decode bM_readRule 26 = .ok (.aload_n 0, 1) := by decide +kernel
theorem dM_readRule_27 : decode bM_readRule 27 = .ok (.iload_n 1, 1) := by decide +kernel
theorem dM_readRule_28 : decode bM_readRule 28 = .ok (.invokevirtual 70, 3) := by decide +kernel
theorem dM_readRule_31 : decode bM_readRule 31 = .ok (.iconst 1, 1) := by decide +kernel
theorem dM_readRule_32 : decode bM_readRule 32 = .ok (.istore_n 2, 1) := by decide +kernel
theorem dM_readRule_33 : decode bM_readRule 33 = .ok (.aload_n 0, 1) := by decide +kernel
theorem dM_readRule_34 : decode bM_readRule 34 = .ok (.getfield 49, 3) := by decide +kernel
theorem dM_readRule_37 : decode bM_readRule 37 = .ok (.ifCond .ge 38, 3) := by decide +kernel
theorem dM_readRule_40 : decode bM_readRule 40 = .ok (.aload_n 0, 1) := by decide +kernel
theorem dM_readRule_41 : decode bM_readRule 41 = .ok (.invokevirtual 52, 3) := by decide +kernel
theorem dM_readRule_44 : decode bM_readRule 44 = .ok (.bipush 43, 2) := by decide +kernel
theorem dM_readRule_46 : decode bM_readRule 46 = .ok (.if_icmp .ne 29, 3) := by decide +kernel
theorem dM_readRule_49 : decode bM_readRule 49 = .ok (.iload_n 2, 1) := by decide +kernel
theorem dM_readRule_50 : decode bM_readRule 50 = .ok (.iconst 4, 1) := by decide +kernel
theorem dM_readRule_51 : decode bM_readRule 51 = .ok (.if_icmp .ge 24, 3) := by decide +kernel
theorem dM_readRule_54 : decode bM_readRule 54 = .ok (.aload_n 0, 1) := by decide +kernel
theorem dM_readRule_55 : decode bM_readRule 55 = .ok (.dup, 1) := by decide +kernel
theorem dM_readRule_56 : decode bM_readRule 56 = .ok (.getfield 46, 3) := by decide +kernel
theorem dM_readRule_59 : decode bM_readRule 59 = .ok (.iconst 1, 1) := by decide +kernel
theorem dM_readRule_60 : decode bM_readRule 60 = .ok (.iadd, 1) := by decide +kernel
theorem dM_readRule_61 : decode bM_readRule 61 = .ok (.putfield 46, 3) := by decide +kernel
theorem dM_readRule_64 : decode bM_readRule 64 = .ok (.aload_n 0, 1) := by decide +kernel
theorem dM_readRule_65 : decode bM_readRule 65 = .ok (.iload_n 1, 1) := by decide +kernel
theorem dM_readRule_66 : decode bM_readRule 66 = .ok (.invokevirtual 70, 3) := by decide +kernel
theorem dM_readRule_69 : decode bM_readRule 69 = .ok (.iinc 2 1, 3) := by decide +kernel
theorem dM_readRule_72 : decode bM_readRule 72 = .ok (.goto (-39), 3) := by decide +kernel
theorem dM_readRule_75 : decode bM_readRule 75 = .ok (.aload_n 0, 1) := by decide +kernel
theorem dM_readRule_76 : decode bM_readRule 76 = .ok (.invokevirtual 52, 3) := by decide +kernel
theorem dM_readRule_79 : decode bM_readRule 79 = .ok (.istore_n 3, 1) := by decide +kernel
theorem dM_readRule_80 : decode bM_readRule 80 = .ok (.iload_n 3, 1) := by decide +kernel
theorem dM_readRule_81 : decode bM_readRule 81 = .ok (.bipush 60, 2) := by decide +kernel
theorem dM_readRule_83 : decode bM_readRule 83 = .ok (.if_icmp .eq 19, 3) := by decide +kernel
theorem dM_readRule_86 : decode bM_readRule 86 = .ok (.iload_n 3, 1) := by decide +kernel
theorem dM_readRule_87 : decode bM_readRule 87 = .ok (.bipush 62, 2) := by decide +kernel
theorem dM_readRule_89 : decode bM_readRule 89 = .ok (.if_icmp .eq 13, 3) := by decide +kernel
theorem dM_readRule_92 : decode bM_readRule 92 = .ok (.iload_n 3, 1) := by decide +kernel
theorem dM_readRule_93 : decode bM_readRule 93 = .ok (.bipush 61, 2) := by decide +kernel
theorem dM_readRule_95 : decode bM_readRule 95 = .ok (.if_icmp .eq 7, 3) := by decide +kernel
theorem dM_readRule_98 : decode bM_readRule 98 = .ok (.aload_n 0, 1) := by decide +kernel
theorem dM_readRule_99 : decode bM_readRule 99 = .ok (.invokevirtual 67, 3) := by decide +kernel
theorem dM_readRule_102 : decode bM_readRule 102 = .ok (.aload_n 0, 1) := by decide +kernel
theorem dM_readRule_103 : decode bM_readRule 103 = .ok (.dup, 1) := by decide +kernel
theorem dM_readRule_104 : decode bM_readRule 104 = .ok (.getfield 46, 3) := by decide +kernel
theorem dM_readRule_107 : decode bM_readRule 107 = .ok (.iconst 1, 1) := by decide +kernel
theorem dM_readRule_108 : decode bM_readRule 108 = .ok (.iadd, 1) := by decide +kernel
theorem dM_readRule_109 : decode bM_readRule 109 = .ok (.putfield 46, 3) := by decide +kernel
theorem dM_readRule_112 : decode bM_readRule 112 = .ok (.aload_n 0, 1) := by decide +kernel
theorem dM_readRule_113 : decode bM_readRule 113 = .ok (.getfield 49, 3) := by decide +kernel
theorem dM_readRule_116 : decode bM_readRule 116 = .ok (.ifCond .ge 52, 3) := by decide +kernel
theorem dM_readRule_119 : decode bM_readRule 119 = .ok (.aload_n 0, 1) := by decide +kernel
theorem dM_readRule_120 : decode bM_readRule 120 = .ok (.getfield 22, 3) := by decide +kernel
theorem dM_readRule_123 : decode bM_readRule 123 = .ok (.bipush 7, 2) := by decide +kernel
theorem dM_readRule_125 : decode bM_readRule 125 = .ok (.iload_n 1, 1) := by decide +kernel
theorem dM_readRule_126 : decode bM_readRule 126 = .ok (.imul, 1) := by decide +kernel
theorem dM_readRule_127 : decode bM_readRule 127 = .ok (.iconst 5, 1) := by decide +kernel
theorem dM_readRule_128 : decode bM_readRule 128 = .ok (.iadd, 1) := by decide +kernel
theorem dM_readRule_129 : decode bM_readRule 129 = .ok (.iload_n 3, 1) := by decide +kernel
theorem dM_readRule_130 : decode bM_readRule 130 = .ok (.iastore, 1) := by decide +kernel
theorem dM_readRule_131 : decode bM_readRule 131 = .ok (.aload_n 0, 1) := by decide +kernel
theorem dM_readRule_132 : decode bM_readRule 132 = .ok (.getfield 22, 3) := by decide +kernel
theorem dM_readRule_135 : decode bM_readRule 135 = .ok (.bipush 7, 2) := by decide +kernel
theorem dM_readRule_137 : decode bM_readRule 137 = .ok (.iload_n 1, 1) := by decide +kernel
theorem dM_readRule_138 : decode bM_readRule 138 = .ok (.imul, 1) := by decide +kernel
theorem dM_readRule_139 : decode bM_readRule 139 = .ok (.bipush 6, 2) := by decide +kernel
theorem dM_readRule_141 : decode bM_readRule 141 = .ok (.iadd, 1) := by decide +kernel
theorem dM_readRule_142 : decode bM_readRule 142 = .ok (.aload_n 0, 1) := by decide +kernel
theorem dM_readRule_143 : decode bM_readRule 143 = .ok (.bipush 6, 2) := by decide +kernel
theorem dM_readRule_145 : decode bM_readRule 145 = .ok (.invokevirtual 60, 3) := by decide +kernel
theorem dM_readRule_148 : decode bM_readRule 148 = .ok (.iastore, 1) := by decide +kernel
theorem dM_readRule_149 : decode bM_readRule 149 = .ok (.aload_n 0, 1) := by decide +kernel
theorem dM_readRule_150 : decode bM_readRule 150 = .ok (.getfield 22, 3) := by decide +kernel
theorem dM_readRule_153 : decode bM_readRule 153 = .ok (.bipush 7, 2) := by decide +kernel
theorem dM_readRule_155 : decode bM_readRule 155 = .ok (.iload_n 1, 1) := by decide +kernel
theorem dM_readRule_156 : decode bM_readRule 156 = .ok (.imul, 1) := by decide +kernel
theorem dM_readRule_157 : decode bM_readRule 157 = .ok (.bipush 6, 2) := by decide +kernel
theorem dM_readRule_159 : decode bM_readRule 159 = .ok (.iadd, 1) := by decide +kernel
theorem dM_readRule_160 : decode bM_readRule 160 = .ok (.iaload, 1) := by decide +kernel
theorem dM_readRule_161 : decode bM_readRule 161 = .ok (.ifCond .ge 7, 3) := by decide +kernel
theorem dM_readRule_164 : decode bM_readRule 164 = .ok (.aload_n 0, 1) := by decide +kernel
theorem dM_readRule_165 : decode bM_readRule 165 = .ok (.invokevirtual 67, 3) := by decide +kernel
theorem dM_readRule_168 : decode bM_readRule 168 = .ok (.return_, 1) := by decide +kernel
theorem dM_rules_0 : decode bM_rules 0 = .ok (.aload_n 0, 1) := by decide +kernel
theorem dM_rules_1 : decode bM_rules 1 = .ok (.iconst 0, 1) := by decide +kernel
theorem dM_rules_2 : decode bM_rules 2 = .ok (.putfield 29, 3) := by decide +kernel
theorem dM_rules_5 : decode bM_rules 5 = .ok (.aload_n 0, 1) := by decide +kernel
theorem dM_rules_6 : decode bM_rules 6 = .ok (.iconst 0, 1) := by decide +kernel
theorem dM_rules_7 : decode bM_rules 7 = .ok (.putfield 46, 3) := by decide +kernel
theorem dM_rules_10 : decode bM_rules 10 = .ok (.aload_n 0, 1) := by decide +kernel
theorem dM_rules_11 : decode bM_rules 11 = .ok (.iconst (-1), 1) := by decide +kernel
theorem dM_rules_12 : decode bM_rules 12 = .ok (.putfield 49, 3) := by decide +kernel
theorem dM_rules_15 : decode bM_rules 15 = .ok (.aload_n 0, 1) := by decide +kernel
theorem dM_rules_16 : decode bM_rules 16 = .ok (.iconst 0, 1) := by decide +kernel
theorem dM_rules_17 : decode bM_rules 17 = .ok (.invokevirtual 74, 3) := by decide +kernel
theorem dM_rules_20 : decode bM_rules 20 = .ok (.iconst 1, 1) := by decide +kernel
theorem dM_rules_21 : decode bM_rules 21 = .ok (.istore_n 1, 1) := by decide +kernel
theorem dM_rules_22 : decode bM_rules 22 = .ok (.aload_n 0, 1) := by decide +kernel
theorem dM_rules_23 : decode bM_rules 23 = .ok (.getfield 49, 3) := by decide +kernel
theorem dM_rules_26 : decode bM_rules 26 = .ok (.ifCond .ge 61, 3) := by decide +kernel
theorem dM_rules_29 : decode bM_rules 29 = .ok (.aload_n 0, 1) := by decide +kernel
theorem dM_rules_30 : decode bM_rules 30 = .ok (.getfield 46, 3) := by decide +kernel
theorem dM_rules_33 : decode bM_rules 33 = .ok (.aload_n 0, 1) := by decide +kernel
theorem dM_rules_34 : decode bM_rules 34 = .ok (.getfield 43, 3) := by decide +kernel
theorem dM_rules_37 : decode bM_rules 37 = .ok (.if_icmp .ge 50, 3) := by decide +kernel
theorem dM_rules_40 : decode bM_rules 40 = .ok (.aload_n 0, 1) := by decide +kernel
theorem dM_rules_41 : decode bM_rules 41 = .ok (.invokevirtual 52, 3) := by decide +kernel
theorem dM_rules_44 : decode bM_rules 44 = .ok (.bipush 59, 2) := by decide +kernel
theorem dM_rules_46 : decode bM_rules 46 = .ok (.if_icmp .ne 9, 3) := by decide +kernel
theorem dM_rules_49 : decode bM_rules 49 = .ok (.iload_n 1, 1) := by decide +kernel
theorem dM_rules_50 : decode bM_rules 50 = .ok (.bipush 8, 2) := by decide +kernel
theorem dM_rules_52 : decode bM_rules 52 = .ok (.if_icmp .ne 7, 3) := by decide +kernel
theorem dM_rules_55 : decode bM_rules 55 = .ok (.aload_n 0, 1) := by decide +kernel
theorem dM_rules_56 : decode bM_rules 56 = .ok (.invokevirtual 67, 3) := by decide +kernel
theorem dM_rules_59 : decode bM_rules 59 = .ok (.aload_n 0, 1) := by decide +kernel
theorem dM_rules_60 : decode bM_rules 60 = .ok (.dup, 1) := by decide +kernel
theorem dM_rules_61 : decode bM_rules 61 = .ok (.getfield 46, 3) := by decide +kernel
theorem dM_rules_64 : decode bM_rules 64 = .ok (.iconst 1, 1) := by decide +kernel
theorem dM_rules_65 : decode bM_rules 65 = .ok (.iadd, 1) := by decide +kernel
theorem dM_rules_66 : decode bM_rules 66 = .ok (.putfield 46, 3) := by decide +kernel
theorem dM_rules_69 : decode bM_rules 69 = .ok (.aload_n 0, 1) := by decide +kernel
theorem dM_rules_70 : decode bM_rules 70 = .ok (.getfield 49, 3) := by decide +kernel
theorem dM_rules_73 : decode bM_rules 73 = .ok (.ifCond .ge (-51), 3) := by decide +kernel
theorem dM_rules_76 : decode bM_rules 76 = .ok (.aload_n 0, 1) := by decide +kernel
theorem dM_rules_77 : decode bM_rules 77 = .ok (.iload_n 1, 1) := by decide +kernel
theorem dM_rules_78 : decode bM_rules 78 = .ok (.invokevirtual 74, 3) := by decide +kernel
theorem dM_rules_81 : decode bM_rules 81 = .ok (.iinc 1 1, 3) := by decide +kernel
theorem dM_rules_84 : decode bM_rules 84 = .ok (.goto (-62), 3) := by decide +kernel
theorem dM_rules_87 : decode bM_rules 87 = .ok (.aload_n 0, 1) := by decide +kernel
theorem dM_rules_88 : decode bM_rules 88 = .ok (.iconst 0, 1) := by decide +kernel
theorem dM_rules_89 : decode bM_rules 89 = .ok (.putfield 43, 3) := by decide +kernel
theorem dM_rules_92 : decode bM_rules 92 = .ok (.aload_n 0, 1) := by decide +kernel
theorem dM_rules_93 : decode bM_rules 93 = .ok (.getfield 49, 3) := by decide +kernel
theorem dM_rules_96 : decode bM_rules 96 = .ok (.ifCond .lt 10, 3) := by decide +kernel
theorem dM_rules_99 : decode bM_rules 99 = .ok (.iconst (-1), 1) := by decide +kernel
theorem dM_rules_100 : decode bM_rules 100 = .ok (.aload_n 0, 1) := by decide +kernel
theorem dM_rules_101 : decode bM_rules 101 = .ok (.getfield 49, 3) := by decide +kernel
theorem dM_rules_104 : decode bM_rules 104 = .ok (.isub, 1) := by decide +kernel
theorem dM_rules_105 : decode bM_rules 105 = .ok (.ireturn, 1) := by decide +kernel
theorem dM_rules_106 : decode bM_rules 106 = .ok (.aload_n 0, 1) := by decide +kernel
theorem dM_rules_107 : decode bM_rules 107 = .ok (.iload_n 1, 1) := by decide +kernel
theorem dM_rules_108 : decode bM_rules 108 = .ok (.putfield 77, 3) := by decide +kernel
theorem dM_rules_111 : decode bM_rules 111 = .ok (.iconst 0, 1) := by decide +kernel
theorem dM_rules_112 : decode bM_rules 112 = .ok (.istore_n 2, 1) := by decide +kernel
theorem dM_rules_113 : decode bM_rules 113 = .ok (.iload_n 2, 1) := by decide +kernel
theorem dM_rules_114 : decode bM_rules 114 = .ok (.bipush 7, 2) := by decide +kernel
theorem dM_rules_116 : decode bM_rules 116 = .ok (.iload_n 1, 1) := by decide +kernel
theorem dM_rules_117 : decode bM_rules 117 = .ok (.imul, 1) := by decide +kernel
theorem dM_rules_118 : decode bM_rules 118 = .ok (.if_icmp .ge 21, 3) := by decide +kernel
theorem dM_rules_121 : decode bM_rules 121 = .ok (.aload_n 0, 1) := by decide +kernel
theorem dM_rules_122 : decode bM_rules 122 = .ok (.getfield 19, 3) := by decide +kernel
theorem dM_rules_125 : decode bM_rules 125 = .ok (.iload_n 2, 1) := by decide +kernel
theorem dM_rules_126 : decode bM_rules 126 = .ok (.aload_n 0, 1) := by decide +kernel
theorem dM_rules_127 : decode bM_rules 127 = .ok (.getfield 22, 3) := by decide +kernel
theorem dM_rules_130 : decode bM_rules 130 = .ok (.iload_n 2, 1) := by decide +kernel
theorem dM_rules_131 : decode bM_rules 131 = .ok (.iaload, 1) := by decide +kernel
theorem dM_rules_132 : decode bM_rules 132 = .ok (.iastore, 1) := by decide +kernel
theorem dM_rules_133 : decode bM_rules 133 = .ok (.iinc 2 1, 3) := by decide +kernel
theorem dM_rules_136 : decode bM_rules 136 = .ok (.goto (-23), 3) := by decide +kernel
theorem dM_rules_139 : decode bM_rules 139 = .ok (.aload_n 0, 1) := by decide +kernel
theorem dM_rules_140 : decode bM_rules 140 = .ok (.iconst 0, 1) := by decide +kernel
theorem dM_rules_141 : decode bM_rules 141 = .ok (.putfield 39, 3) := by decide +kernel
theorem dM_rules_144 : decode bM_rules 144 = .ok (.iload_n 1, 1) := by decide +kernel
theorem dM_rules_145 : decode bM_rules 145 = .ok (.ireturn, 1) := by decide +kernel
theorem dM_holds_0 : decode bM_holds 0 = .ok (.aload_n 0, 1) := by decide +kernel
theorem dM_holds_1 : decode bM_holds 1 = .ok (.getfield 19, 3) := by decide +kernel
theorem dM_holds_4 : decode bM_holds 4 = .ok (.bipush 7, 2) := by decide +kernel
theorem dM_holds_6 : decode bM_holds 6 = .ok (.iload_n 1, 1) := by decide +kernel
theorem dM_holds_7 : decode bM_holds 7 = .ok (.imul, 1) := by decide +kernel
theorem dM_holds_8 : decode bM_holds 8 = .ok (.iaload, 1) := by decide +kernel
theorem dM_holds_9 : decode bM_holds 9 = .ok (.i2l, 1) := by decide +kernel
theorem dM_holds_10 : decode bM_holds 10 = .ok (.aload_n 0, 1) := by decide +kernel
theorem dM_holds_11 : decode bM_holds 11 = .ok (.getfield 9, 3) := by decide +kernel
theorem dM_holds_14 : decode bM_holds 14 = .ok (.lmul, 1) := by decide +kernel
theorem dM_holds_15 : decode bM_holds 15 = .ok (.iload 6, 2) := by decide +kernel
theorem dM_holds_17 : decode bM_holds 17 = .ok (.i2l, 1) := by decide +kernel
theorem dM_holds_18 : decode bM_holds 18 = .ok (.aload_n 0, 1) := by decide +kernel
theorem dM_holds_19 : decode bM_holds 19 = .ok (.getfield 19, 3) := by decide +kernel
theorem dM_holds_22 : decode bM_holds 22 = .ok (.bipush 7, 2) := by decide +kernel
theorem dM_holds_24 : decode bM_holds 24 = .ok (.iload_n 1, 1) := by decide +kernel
theorem dM_holds_25 : decode bM_holds 25 = .ok (.imul, 1) := by decide +kernel
theorem dM_holds_26 : decode bM_holds 26 = .ok (.iconst 1, 1) := by decide +kernel
theorem dM_holds_27 : decode bM_holds 27 = .ok (.iadd, 1) := by decide +kernel
theorem dM_holds_28 : decode bM_holds 28 = .ok (.iaload, 1) := by decide +kernel
theorem dM_holds_29 : decode bM_holds 29 = .ok (.i2l, 1) := by decide +kernel
theorem dM_holds_30 : decode bM_holds 30 = .ok (.lload_n 2, 1) := by decide +kernel
theorem dM_holds_31 : decode bM_holds 31 = .ok (.lmul, 1) := by decide +kernel
theorem dM_holds_32 : decode bM_holds 32 = .ok (.aload_n 0, 1) := by decide +kernel
theorem dM_holds_33 : decode bM_holds 33 = .ok (.getfield 19, 3) := by decide +kernel
theorem dM_holds_36 : decode bM_holds 36 = .ok (.bipush 7, 2) := by decide +kernel
theorem dM_holds_38 : decode bM_holds 38 = .ok (.iload_n 1, 1) := by decide +kernel
theorem dM_holds_39 : decode bM_holds 39 = .ok (.imul, 1) := by decide +kernel
theorem dM_holds_40 : decode bM_holds 40 = .ok (.iconst 2, 1) := by decide +kernel
theorem dM_holds_41 : decode bM_holds 41 = .ok (.iadd, 1) := by decide +kernel
theorem dM_holds_42 : decode bM_holds 42 = .ok (.iaload, 1) := by decide +kernel
theorem dM_holds_43 : decode bM_holds 43 = .ok (.iload 6, 2) := by decide +kernel
theorem dM_holds_45 : decode bM_holds 45 = .ok (.imul, 1) := by decide +kernel
theorem dM_holds_46 : decode bM_holds 46 = .ok (.i2l, 1) := by decide +kernel
theorem dM_holds_47 : decode bM_holds 47 = .ok (.ladd, 1) := by decide +kernel
theorem dM_holds_48 : decode bM_holds 48 = .ok (.aload_n 0, 1) := by decide +kernel
theorem dM_holds_49 : decode bM_holds 49 = .ok (.getfield 19, 3) := by decide +kernel
theorem dM_holds_52 : decode bM_holds 52 = .ok (.bipush 7, 2) := by decide +kernel
theorem dM_holds_54 : decode bM_holds 54 = .ok (.iload_n 1, 1) := by decide +kernel
theorem dM_holds_55 : decode bM_holds 55 = .ok (.imul, 1) := by decide +kernel
theorem dM_holds_56 : decode bM_holds 56 = .ok (.iconst 3, 1) := by decide +kernel
theorem dM_holds_57 : decode bM_holds 57 = .ok (.iadd, 1) := by decide +kernel
theorem dM_holds_58 : decode bM_holds 58 = .ok (.iaload, 1) := by decide +kernel
theorem dM_holds_59 : decode bM_holds 59 = .ok (.i2l, 1) := by decide +kernel
theorem dM_holds_60 : decode bM_holds 60 = .ok (.lload 4, 2) := by decide +kernel
theorem dM_holds_62 : decode bM_holds 62 = .ok (.lmul, 1) := by decide +kernel
theorem dM_holds_63 : decode bM_holds 63 = .ok (.ladd, 1) := by decide +kernel
theorem dM_holds_64 : decode bM_holds 64 = .ok (.aload_n 0, 1) := by decide +kernel
theorem dM_holds_65 : decode bM_holds 65 = .ok (.getfield 19, 3) := by decide +kernel
theorem dM_holds_68 : decode bM_holds 68 = .ok (.bipush 7, 2) := by decide +kernel
theorem dM_holds_70 : decode bM_holds 70 = .ok (.iload_n 1, 1) := by decide +kernel
theorem dM_holds_71 : decode bM_holds 71 = .ok (.imul, 1) := by decide +kernel
theorem dM_holds_72 : decode bM_holds 72 = .ok (.iconst 4, 1) := by decide +kernel
theorem dM_holds_73 : decode bM_holds 73 = .ok (.iadd, 1) := by decide +kernel
theorem dM_holds_74 : decode bM_holds 74 = .ok (.iaload, 1) := by decide +kernel
theorem dM_holds_75 : decode bM_holds 75 = .ok (.i2l, 1) := by decide +kernel
theorem dM_holds_76 : decode bM_holds 76 = .ok (.aload_n 0, 1) := by decide +kernel
theorem dM_holds_77 : decode bM_holds 77 = .ok (.getfield 9, 3) := by decide +kernel
theorem dM_holds_80 : decode bM_holds 80 = .ok (.lmul, 1) := by decide +kernel
theorem dM_holds_81 : decode bM_holds 81 = .ok (.ladd, 1) := by decide +kernel
theorem dM_holds_82 : decode bM_holds 82 = .ok (.lmul, 1) := by decide +kernel
theorem dM_holds_83 : decode bM_holds 83 = .ok (.ladd, 1) := by decide +kernel
theorem dM_holds_84 : decode bM_holds 84 = .ok (.lstore 7, 2) := by decide +kernel
theorem dM_holds_86 : decode bM_holds 86 = .ok (.aload_n 0, 1) := by decide +kernel
theorem dM_holds_87 : decode bM_holds 87 = .ok (.getfield 19, 3) := by decide +kernel
theorem dM_holds_90 : decode bM_holds 90 = .ok (.bipush 7, 2) := by decide +kernel
theorem dM_holds_92 : decode bM_holds 92 = .ok (.iload_n 1, 1) := by decide +kernel
theorem dM_holds_93 : decode bM_holds 93 = .ok (.imul, 1) := by decide +kernel
theorem dM_holds_94 : decode bM_holds 94 = .ok (.bipush 6, 2) := by decide +kernel
theorem dM_holds_96 : decode bM_holds 96 = .ok (.iadd, 1) := by decide +kernel
theorem dM_holds_97 : decode bM_holds 97 = .ok (.iaload, 1) := by decide +kernel
theorem dM_holds_98 : decode bM_holds 98 = .ok (.i2l, 1) := by decide +kernel
theorem dM_holds_99 : decode bM_holds 99 = .ok (.iload 6, 2) := by decide +kernel
theorem dM_holds_101 : decode bM_holds 101 = .ok (.i2l, 1) := by decide +kernel
theorem dM_holds_102 : decode bM_holds 102 = .ok (.lmul, 1) := by decide +kernel
theorem dM_holds_103 : decode bM_holds 103 = .ok (.lstore 9, 2) := by decide +kernel
theorem dM_holds_105 : decode bM_holds 105 = .ok (.aload_n 0, 1) := by decide +kernel
theorem dM_holds_106 : decode bM_holds 106 = .ok (.getfield 19, 3) := by decide +kernel
theorem dM_holds_109 : decode bM_holds 109 = .ok (.bipush 7, 2) := by decide +kernel
theorem dM_holds_111 : decode bM_holds 111 = .ok (.iload_n 1, 1) := by decide +kernel
theorem dM_holds_112 : decode bM_holds 112 = .ok (.imul, 1) := by decide +kernel
theorem dM_holds_113 : decode bM_holds 113 = .ok (.iconst 5, 1) := by decide +kernel
theorem dM_holds_114 : decode bM_holds 114 = .ok (.iadd, 1) := by decide +kernel
theorem dM_holds_115 : decode bM_holds 115 = .ok (.iaload, 1) := by decide +kernel
theorem dM_holds_116 : decode bM_holds 116 = .ok (.istore 11, 2) := by decide +kernel
theorem dM_holds_118 : decode bM_holds 118 = .ok (.iload 11, 2) := by decide +kernel
theorem dM_holds_120 : decode bM_holds 120 = .ok (.bipush 60, 2) := by decide +kernel
theorem dM_holds_122 : decode bM_holds 122 = .ok (.if_icmp .ne 19, 3) := by decide +kernel
theorem dM_holds_125 : decode bM_holds 125 = .ok (.lload 7, 2) := by decide +kernel
theorem dM_holds_127 : decode bM_holds 127 = .ok (.lload 9, 2) := by decide +kernel
theorem dM_holds_129 : decode bM_holds 129 = .ok (.lcmp, 1) := by decide +kernel
theorem dM_holds_130 : decode bM_holds 130 = .ok (.ifCond .ge 7, 3) := by decide +kernel
theorem dM_holds_133 : decode bM_holds 133 = .ok (.iconst 1, 1) := by decide +kernel
theorem dM_holds_134 : decode bM_holds 134 = .ok (.goto 43, 3) := by decide +kernel
theorem dM_holds_137 : decode bM_holds 137 = .ok (.iconst 0, 1) := by decide +kernel
theorem dM_holds_138 : decode bM_holds 138 = .ok (.goto 39, 3) := by decide +kernel
theorem dM_holds_141 : decode bM_holds 141 = .ok (.iload 11, 2) := by decide +kernel
theorem dM_holds_143 : decode bM_holds 143 = .ok (.bipush 62, 2) := by decide +kernel
theorem dM_holds_145 : decode bM_holds 145 = .ok (.if_icmp .ne 19, 3) := by decide +kernel
theorem dM_holds_148 : decode bM_holds 148 = .ok (.lload 7, 2) := by decide +kernel
theorem dM_holds_150 : decode bM_holds 150 = .ok (.lload 9, 2) := by decide +kernel
theorem dM_holds_152 : decode bM_holds 152 = .ok (.lcmp, 1) := by decide +kernel
theorem dM_holds_153 : decode bM_holds 153 = .ok (.ifCond .le 7, 3) := by decide +kernel
theorem dM_holds_156 : decode bM_holds 156 = .ok (.iconst 1, 1) := by decide +kernel
theorem dM_holds_157 : decode bM_holds 157 = .ok (.goto 20, 3) := by decide +kernel
theorem dM_holds_160 : decode bM_holds 160 = .ok (.iconst 0, 1) := by decide +kernel
theorem dM_holds_161 : decode bM_holds 161 = .ok (.goto 16, 3) := by decide +kernel
theorem dM_holds_164 : decode bM_holds 164 = .ok (.lload 7, 2) := by decide +kernel
theorem dM_holds_166 : decode bM_holds 166 = .ok (.lload 9, 2) := by decide +kernel
theorem dM_holds_168 : decode bM_holds 168 = .ok (.lcmp, 1) := by decide +kernel
theorem dM_holds_169 : decode bM_holds 169 = .ok (.ifCond .ne 7, 3) := by decide +kernel
theorem dM_holds_172 : decode bM_holds 172 = .ok (.iconst 1, 1) := by decide +kernel
theorem dM_holds_173 : decode bM_holds 173 = .ok (.goto 4, 3) := by decide +kernel
theorem dM_holds_176 : decode bM_holds 176 = .ok (.iconst 0, 1) := by decide +kernel
theorem dM_holds_177 : decode bM_holds 177 = .ok (.ireturn, 1) := by decide +kernel
theorem dM_holding_0 : decode bM_holding 0 = .ok (.iconst 0, 1) := by decide +kernel
theorem dM_holding_1 : decode bM_holding 1 = .ok (.istore 6, 2) := by decide +kernel
theorem dM_holding_3 : decode bM_holding 3 = .ok (.iload 6, 2) := by decide +kernel
theorem dM_holding_5 : decode bM_holding 5 = .ok (.aload_n 0, 1) := by decide +kernel
theorem dM_holding_6 : decode bM_holding 6 = .ok (.getfield 77, 3) := by decide +kernel
theorem dM_holding_9 : decode bM_holding 9 = .ok (.if_icmp .ge 22, 3) := by decide +kernel
theorem dM_holding_12 : decode bM_holding 12 = .ok (.aload_n 0, 1) := by decide +kernel
theorem dM_holding_13 : decode bM_holding 13 = .ok (.iload 6, 2) := by decide +kernel
theorem dM_holding_15 : decode bM_holding 15 = .ok (.lload_n 1, 1) := by decide +kernel
theorem dM_holding_16 : decode bM_holding 16 = .ok (.lload_n 3, 1) := by decide +kernel
theorem dM_holding_17 : decode bM_holding 17 = .ok (.iload 5, 2) := by decide +kernel
theorem dM_holding_19 : decode bM_holding 19 = .ok (.invokevirtual 80, 3) := by decide +kernel
theorem dM_holding_22 : decode bM_holding 22 = .ok (.ifCond .eq 9, 3) := by decide +kernel
theorem dM_holding_25 : decode bM_holding 25 = .ok (.iinc 6 1, 3) := by decide +kernel
theorem dM_holding_28 : decode bM_holding 28 = .ok (.goto (-25), 3) := by decide +kernel
theorem dM_holding_31 : decode bM_holding 31 = .ok (.iload 6, 2) := by decide +kernel
theorem dM_holding_33 : decode bM_holding 33 = .ok (.ireturn, 1) := by decide +kernel
theorem dM_run_0 : decode bM_run 0 = .ok (.aload_n 0, 1) := by decide +kernel
theorem dM_run_1 : decode bM_run 1 = .ok (.aload_n 0, 1) := by decide +kernel
theorem dM_run_2 : decode bM_run 2 = .ok (.getfield 77, 3) := by decide +kernel
theorem dM_run_5 : decode bM_run 5 = .ok (.ifCond .ne 7, 3) := by decide +kernel
theorem dM_run_8 : decode bM_run 8 = .ok (.iconst 1, 1) := by decide +kernel
theorem dM_run_9 : decode bM_run 9 = .ok (.goto 43, 3) := by decide +kernel
theorem dM_run_12 : decode bM_run 12 = .ok (.iload_n 1, 1) := by decide +kernel
theorem dM_run_13 : decode bM_run 13 = .ok (.i2l, 1) := by decide +kernel
theorem dM_run_14 : decode bM_run 14 = .ok (.lconst 0, 1) := by decide +kernel
theorem dM_run_15 : decode bM_run 15 = .ok (.ldc2_w 84, 3) := by decide +kernel
theorem dM_run_18 : decode bM_run 18 = .ok (.invokestatic 35, 3) := by decide +kernel
theorem dM_run_21 : decode bM_run 21 = .ok (.ifCond .eq 30, 3) := by decide +kernel
theorem dM_run_24 : decode bM_run 24 = .ok (.lload_n 2, 1) := by decide +kernel
theorem dM_run_25 : decode bM_run 25 = .ok (.lconst 1, 1) := by decide +kernel
theorem dM_run_26 : decode bM_run 26 = .ok (.ldc2_w 86, 3) := by decide +kernel
theorem dM_run_29 : decode bM_run 29 = .ok (.invokestatic 35, 3) := by decide +kernel
theorem dM_run_32 : decode bM_run 32 = .ok (.ifCond .eq 19, 3) := by decide +kernel
theorem dM_run_35 : decode bM_run 35 = .ok (.lload 4, 2) := by decide +kernel
theorem dM_run_37 : decode bM_run 37 = .ok (.lconst 1, 1) := by decide +kernel
theorem dM_run_38 : decode bM_run 38 = .ok (.ldc2_w 86, 3) := by decide +kernel
theorem dM_run_41 : decode bM_run 41 = .ok (.invokestatic 35, 3) := by decide +kernel
theorem dM_run_44 : decode bM_run 44 = .ok (.ifCond .eq 7, 3) := by decide +kernel
theorem dM_run_47 : decode bM_run 47 = .ok (.iconst 0, 1) := by decide +kernel
theorem dM_run_48 : decode bM_run 48 = .ok (.goto 4, 3) := by decide +kernel
theorem dM_run_51 : decode bM_run 51 = .ok (.iconst 2, 1) := by decide +kernel
theorem dM_run_52 : decode bM_run 52 = .ok (.putfield 29, 3) := by decide +kernel
theorem dM_run_55 : decode bM_run 55 = .ok (.aload_n 0, 1) := by decide +kernel
theorem dM_run_56 : decode bM_run 56 = .ok (.getfield 29, 3) := by decide +kernel
theorem dM_run_59 : decode bM_run 59 = .ok (.ifCond .le 5, 3) := by decide +kernel
theorem dM_run_62 : decode bM_run 62 = .ok (.iconst 0, 1) := by decide +kernel
theorem dM_run_63 : decode bM_run 63 = .ok (.ireturn, 1) := by decide +kernel
theorem dM_run_64 : decode bM_run 64 = .ok (.iconst 0, 1) := by decide +kernel
theorem dM_run_65 : decode bM_run 65 = .ok (.istore 6, 2) := by decide +kernel
theorem dM_run_67 : decode bM_run 67 = .ok (.iconst (-1), 1) := by decide +kernel
theorem dM_run_68 : decode bM_run 68 = .ok (.istore 7, 2) := by decide +kernel
theorem dM_run_70 : decode bM_run 70 = .ok (.bipush 60, 2) := by decide +kernel
theorem dM_run_72 : decode bM_run 72 = .ok (.istore 8, 2) := by decide +kernel
theorem dM_run_74 : decode bM_run 74 = .ok (.iload 8, 2) := by decide +kernel
theorem dM_run_76 : decode bM_run 76 = .ok (.iload_n 1, 1) := by decide +kernel
theorem dM_run_77 : decode bM_run 77 = .ok (.iconst 2, 1) := by decide +kernel
theorem dM_run_78 : decode bM_run 78 = .ok (.if_icmp .ne 7, 3) := by decide +kernel
theorem dM_run_81 : decode bM_run 81 = .ok (.iconst 4, 1) := by decide +kernel
theorem dM_run_82 : decode bM_run 82 = .ok (.goto 13, 3) := by decide +kernel
theorem dM_run_85 : decode bM_run 85 = .ok (.iload_n 1, 1) := by decide +kernel
theorem dM_run_86 : decode bM_run 86 = .ok (.iconst 1, 1) := by decide +kernel
theorem dM_run_87 : decode bM_run 87 = .ok (.if_icmp .ne 7, 3) := by decide +kernel
theorem dM_run_90 : decode bM_run 90 = .ok (.iconst 2, 1) := by decide +kernel
theorem dM_run_91 : decode bM_run 91 = .ok (.goto 4, 3) := by decide +kernel
theorem dM_run_94 : decode bM_run 94 = .ok (.iconst 1, 1) := by decide +kernel
theorem dM_run_95 : decode bM_run 95 = .ok (.if_icmp .lt 54, 3) := by decide +kernel
theorem dM_run_98 : decode bM_run 98 = .ok (.aload_n 0, 1) := by decide +kernel
theorem dM_run_99 : decode bM_run 99 = .ok (.lload_n 2, 1) := by decide +kernel
theorem dM_run_100 : decode bM_run 100 = .ok (.lload 4, 2) := by decide +kernel
theorem dM_run_102 : decode bM_run 102 = .ok (.iload 8, 2) := by decide +kernel
theorem dM_run_104 : decode bM_run 104 = .ok (.invokevirtual 88, 3) := by decide +kernel
theorem dM_run_107 : decode bM_run 107 = .ok (.istore 9, 2) := by decide +kernel
theorem dM_run_109 : decode bM_run 109 = .ok (.iload 9, 2) := by decide +kernel
theorem dM_run_111 : decode bM_run 111 = .ok (.aload_n 0, 1) := by decide +kernel
theorem dM_run_112 : decode bM_run 112 = .ok (.getfield 77, 3) := by decide +kernel
theorem dM_run_115 : decode bM_run 115 = .ok (.if_icmp .ne 8, 3) := by decide +kernel
theorem dM_run_118 : decode bM_run 118 = .ok (.iload 8, 2) := by decide +kernel
theorem dM_run_120 : decode bM_run 120 = .ok (.goto 5, 3) := by decide +kernel
theorem dM_run_123 : decode bM_run 123 = .ok (.iload 7, 2) := by decide +kernel
theorem dM_run_125 : decode bM_run 125 = .ok (.istore 7, 2) := by decide +kernel
theorem dM_run_127 : decode bM_run 127 = .ok (.iload 9, 2) := by decide +kernel
theorem dM_run_129 : decode bM_run 129 = .ok (.iload 6, 2) := by decide +kernel
theorem dM_run_131 : decode bM_run 131 = .ok (.if_icmp .le 8, 3) := by decide +kernel
theorem dM_run_134 : decode bM_run 134 = .ok (.iload 9, 2) := by decide +kernel
theorem dM_run_136 : decode bM_run 136 = .ok (.goto 5, 3) := by decide +kernel
theorem dM_run_139 : decode bM_run 139 = .ok (.iload 6, 2) := by decide +kernel
theorem dM_run_141 : decode bM_run 141 = .ok (.istore 6, 2) := by decide +kernel
theorem dM_run_143 : decode bM_run 143 = .ok (.iinc 8 (-1), 3) := by decide +kernel
theorem dM_run_146 : decode bM_run 146 = .ok (.goto (-72), 3) := by decide +kernel
theorem dM_run_149 : decode bM_run 149 = .ok (.aload_n 0, 1) := by decide +kernel
theorem dM_run_150 : decode bM_run 150 = .ok (.iload 7, 2) := by decide +kernel
theorem dM_run_152 : decode bM_run 152 = .ok (.ifCond .le 7, 3) := by decide +kernel
theorem dM_run_155 : decode bM_run 155 = .ok (.iconst 1, 1) := by decide +kernel
theorem dM_run_156 : decode bM_run 156 = .ok (.goto 4, 3) := by decide +kernel
theorem dM_run_159 : decode bM_run 159 = .ok (.iconst 0, 1) := by decide +kernel
theorem dM_run_160 : decode bM_run 160 = .ok (.putfield 39, 3) := by decide +kernel
theorem dM_run_163 : decode bM_run 163 = .ok (.aload_n 0, 1) := by decide +kernel
theorem dM_run_164 : decode bM_run 164 = .ok (.getfield 39, 3) := by decide +kernel
theorem dM_run_167 : decode bM_run 167 = .ok (.ifCond .ne 8, 3) := by decide +kernel
theorem dM_run_170 : decode bM_run 170 = .ok (.iconst (-1), 1) := by decide +kernel
theorem dM_run_171 : decode bM_run 171 = .ok (.iload 6, 2) := by decide +kernel
theorem dM_run_173 : decode bM_run 173 = .ok (.isub, 1) := by decide +kernel
theorem dM_run_174 : decode bM_run 174 = .ok (.ireturn, 1) := by decide +kernel
theorem dM_run_175 : decode bM_run 175 = .ok (.aload_n 0, 1) := by decide +kernel
theorem dM_run_176 : decode bM_run 176 = .ok (.iload_n 1, 1) := by decide +kernel
theorem dM_run_177 : decode bM_run 177 = .ok (.putfield 92, 3) := by decide +kernel
theorem dM_run_180 : decode bM_run 180 = .ok (.aload_n 0, 1) := by decide +kernel
theorem dM_run_181 : decode bM_run 181 = .ok (.lload_n 2, 1) := by decide +kernel
theorem dM_run_182 : decode bM_run 182 = .ok (.putfield 95, 3) := by decide +kernel
theorem dM_run_185 : decode bM_run 185 = .ok (.aload_n 0, 1) := by decide +kernel
theorem dM_run_186 : decode bM_run 186 = .ok (.lload 4, 2) := by decide +kernel
theorem dM_run_188 : decode bM_run 188 = .ok (.putfield 98, 3) := by decide +kernel
theorem dM_run_191 : decode bM_run 191 = .ok (.aload_n 0, 1) := by decide +kernel
theorem dM_run_192 : decode bM_run 192 = .ok (.iload 7, 2) := by decide +kernel
theorem dM_run_194 : decode bM_run 194 = .ok (.putfield 101, 3) := by decide +kernel
theorem dM_run_197 : decode bM_run 197 = .ok (.aload_n 0, 1) := by decide +kernel
theorem dM_run_198 : decode bM_run 198 = .ok (.iconst 0, 1) := by decide +kernel
theorem dM_run_199 : decode bM_run 199 = .ok (.putfield 104, 3) := by decide +kernel
theorem dM_run_202 : decode bM_run 202 = .ok (.aload_n 0, 1) := by decide +kernel
theorem dM_run_203 : decode bM_run 203 = .ok (.getfield 101, 3) := by decide +kernel
theorem dM_run_206 : decode bM_run 206 = .ok (.ireturn, 1) := by decide +kernel
theorem dM_none_0 : decode bM_none 0 = .ok (.aload_n 0, 1) := by decide +kernel
theorem dM_none_1 : decode bM_none 1 = .ok (.aload_n 0, 1) := by decide +kernel
theorem dM_none_2 : decode bM_none 2 = .ok (.getfield 39, 3) := by decide +kernel
theorem dM_none_5 : decode bM_none 5 = .ok (.ifCond .eq 7, 3) := by decide +kernel
theorem dM_none_8 : decode bM_none 8 = .ok (.iconst 0, 1) := by decide +kernel
theorem dM_none_9 : decode bM_none 9 = .ok (.goto 4, 3) := by decide +kernel
theorem dM_none_12 : decode bM_none 12 = .ok (.iconst 1, 1) := by decide +kernel
theorem dM_none_13 : decode bM_none 13 = .ok (.putfield 29, 3) := by decide +kernel
theorem dM_none_16 : decode bM_none 16 = .ok (.aload_n 0, 1) := by decide +kernel
theorem dM_none_17 : decode bM_none 17 = .ok (.getfield 29, 3) := by decide +kernel
theorem dM_none_20 : decode bM_none 20 = .ok (.ifCond .le 7, 3) := by decide +kernel
theorem dM_none_23 : decode bM_none 23 = .ok (.iconst 1, 1) := by decide +kernel
theorem dM_none_24 : decode bM_none 24 = .ok (.goto 4, 3) := by decide +kernel
theorem dM_none_27 : decode bM_none 27 = .ok (.iconst 0, 1) := by decide +kernel
theorem dM_none_28 : decode bM_none 28 = .ok (.ireturn, 1) := by decide +kernel
theorem dM_common_0 : decode bM_common 0 = .ok (.lload_n 0, 1) := by decide +kernel
theorem dM_common_1 : decode bM_common 1 = .ok (.lstore 4, 2) := by decide +kernel
theorem dM_common_3 : decode bM_common 3 = .ok (.lload_n 2, 1) := by decide +kernel
theorem dM_common_4 : decode bM_common 4 = .ok (.lstore 6, 2) := by decide +kernel
theorem dM_common_6 : decode bM_common 6 = .ok (.lload 6, 2) := by decide +kernel
theorem dM_common_8 : decode bM_common 8 = .ok (.lconst 0, 1) := by decide +kernel
theorem dM_common_9 : decode bM_common 9 = .ok (.lcmp, 1) := by decide +kernel
theorem dM_common_10 : decode bM_common 10 = .ok (.ifCond .eq 21, 3) := by decide +kernel
theorem dM_common_13 : decode bM_common 13 = .ok (.lload 4, 2) := by decide +kernel
theorem dM_common_15 : decode bM_common 15 = .ok (.lload 6, 2) := by decide +kernel
theorem dM_common_17 : decode bM_common 17 = .ok (.lrem, 1) := by decide +kernel
theorem dM_common_18 : decode bM_common 18 = .ok (.lstore 8, 2) := by decide +kernel
theorem dM_common_20 : decode bM_common 20 = .ok (.lload 6, 2) := by decide +kernel
theorem dM_common_22 : decode bM_common 22 = .ok (.lstore 4, 2) := by decide +kernel
theorem dM_common_24 : decode bM_common 24 = .ok (.lload 8, 2) := by decide +kernel
theorem dM_common_26 : decode bM_common 26 = .ok (.lstore 6, 2) := by decide +kernel
theorem dM_common_28 : decode bM_common 28 = .ok (.goto (-22), 3) := by decide +kernel
theorem dM_common_31 : decode bM_common 31 = .ok (.lload 4, 2) := by decide +kernel
theorem dM_common_33 : decode bM_common 33 = .ok (.lreturn, 1) := by decide +kernel
theorem dM_rise_0 : decode bM_rise 0 = .ok (.aload_n 0, 1) := by decide +kernel
theorem dM_rise_1 : decode bM_rise 1 = .ok (.invokevirtual 107, 3) := by decide +kernel
theorem dM_rise_4 : decode bM_rise 4 = .ok (.ifCond .eq 5, 3) := by decide +kernel
theorem dM_rise_7 : decode bM_rise 7 = .ok (.lconst 0, 1) := by decide +kernel
theorem dM_rise_8 : decode bM_rise 8 = .ok (.lreturn, 1) := by decide +kernel
theorem dM_rise_9 : decode bM_rise 9 = .ok (.aload_n 0, 1) := by decide +kernel
theorem dM_rise_10 : decode bM_rise 10 = .ok (.iload_n 1, 1) := by decide +kernel
theorem dM_rise_11 : decode bM_rise 11 = .ok (.i2l, 1) := by decide +kernel
theorem dM_rise_12 : decode bM_rise 12 = .ok (.lconst 0, 1) := by decide +kernel
theorem dM_rise_13 : decode bM_rise 13 = .ok (.lconst 1, 1) := by decide +kernel
theorem dM_rise_14 : decode bM_rise 14 = .ok (.invokestatic 35, 3) := by decide +kernel
theorem dM_rise_17 : decode bM_rise 17 = .ok (.ifCond .eq 7, 3) := by decide +kernel
theorem dM_rise_20 : decode bM_rise 20 = .ok (.iconst 0, 1) := by decide +kernel
theorem dM_rise_21 : decode bM_rise 21 = .ok (.goto 4, 3) := by decide +kernel
theorem dM_rise_24 : decode bM_rise 24 = .ok (.iconst 2, 1) := by decide +kernel
theorem dM_rise_25 : decode bM_rise 25 = .ok (.putfield 29, 3) := by decide +kernel
theorem dM_rise_28 : decode bM_rise 28 = .ok (.aload_n 0, 1) := by decide +kernel
theorem dM_rise_29 : decode bM_rise 29 = .ok (.getfield 29, 3) := by decide +kernel
theorem dM_rise_32 : decode bM_rise 32 = .ok (.ifCond .le 7, 3) := by decide +kernel
theorem dM_rise_35 : decode bM_rise 35 = .ok (.lconst 0, 1) := by decide +kernel
theorem dM_rise_36 : decode bM_rise 36 = .ok (.goto 32, 3) := by decide +kernel
theorem dM_rise_39 : decode bM_rise 39 = .ok (.iload_n 1, 1) := by decide +kernel
theorem dM_rise_40 : decode bM_rise 40 = .ok (.ifCond .ne 10, 3) := by decide +kernel
theorem dM_rise_43 : decode bM_rise 43 = .ok (.aload_n 0, 1) := by decide +kernel
theorem dM_rise_44 : decode bM_rise 44 = .ok (.getfield 9, 3) := by decide +kernel
theorem dM_rise_47 : decode bM_rise 47 = .ok (.goto 8, 3) := by decide +kernel
theorem dM_rise_50 : decode bM_rise 50 = .ok (.aload_n 0, 1) := by decide +kernel
theorem dM_rise_51 : decode bM_rise 51 = .ok (.getfield 101, 3) := by decide +kernel
theorem dM_rise_54 : decode bM_rise 54 = .ok (.i2l, 1) := by decide +kernel
theorem dM_rise_55 : decode bM_rise 55 = .ok (.aload_n 0, 1) := by decide +kernel
theorem dM_rise_56 : decode bM_rise 56 = .ok (.getfield 9, 3) := by decide +kernel
theorem dM_rise_59 : decode bM_rise 59 = .ok (.aload_n 0, 1) := by decide +kernel
theorem dM_rise_60 : decode bM_rise 60 = .ok (.getfield 101, 3) := by decide +kernel
theorem dM_rise_63 : decode bM_rise 63 = .ok (.i2l, 1) := by decide +kernel
theorem dM_rise_64 : decode bM_rise 64 = .ok (.invokestatic 110, 3) := by decide +kernel
theorem dM_rise_67 : decode bM_rise 67 = .ok (.ldiv, 1) := by decide +kernel
theorem dM_rise_68 : decode bM_rise 68 = .ok (.lreturn, 1) := by decide +kernel
theorem dM_before_0 : decode bM_before 0 = .ok (.aload_n 0, 1) := by decide +kernel
theorem dM_before_1 : decode bM_before 1 = .ok (.getfield 92, 3) := by decide +kernel
theorem dM_before_4 : decode bM_before 4 = .ok (.ifCond .ne 10, 3) := by decide +kernel
theorem dM_before_7 : decode bM_before 7 = .ok (.aload_n 0, 1) := by decide +kernel
theorem dM_before_8 : decode bM_before 8 = .ok (.getfield 101, 3) := by decide +kernel
theorem dM_before_11 : decode bM_before 11 = .ok (.goto 30, 3) := by decide +kernel
theorem dM_before_14 : decode bM_before 14 = .ok (.aload_n 0, 1) := by decide +kernel
theorem dM_before_15 : decode bM_before 15 = .ok (.getfield 92, 3) := by decide +kernel
theorem dM_before_18 : decode bM_before 18 = .ok (.iconst 1, 1) := by decide +kernel
theorem dM_before_19 : decode bM_before 19 = .ok (.if_icmp .ne 14, 3) := by decide +kernel
theorem dM_before_22 : decode bM_before 22 = .ok (.aload_n 0, 1) := by decide +kernel
theorem dM_before_23 : decode bM_before 23 = .ok (.getfield 101, 3) := by decide +kernel
theorem dM_before_26 : decode bM_before 26 = .ok (.iconst 2, 1) := by decide +kernel
theorem dM_before_27 : decode bM_before 27 = .ok (.isub, 1) := by decide +kernel
theorem dM_before_28 : decode bM_before 28 = .ok (.iconst 2, 1) := by decide +kernel
theorem dM_before_29 : decode bM_before 29 = .ok (.idiv, 1) := by decide +kernel
theorem dM_before_30 : decode bM_before 30 = .ok (.goto 11, 3) := by decide +kernel
theorem dM_before_33 : decode bM_before 33 = .ok (.aload_n 0, 1) := by decide +kernel
theorem dM_before_34 : decode bM_before 34 = .ok (.getfield 101, 3) := by decide +kernel
theorem dM_before_37 : decode bM_before 37 = .ok (.iconst 4, 1) := by decide +kernel
theorem dM_before_38 : decode bM_before 38 = .ok (.isub, 1) := by decide +kernel
theorem dM_before_39 : decode bM_before 39 = .ok (.iconst 2, 1) := by decide +kernel
theorem dM_before_40 : decode bM_before 40 = .ok (.idiv, 1) := by decide +kernel
theorem dM_before_41 : decode bM_before 41 = .ok (.ireturn, 1) := by decide +kernel
theorem dM_inSquare_0 : decode bM_inSquare 0 = .ok (.aload_n 0, 1) := by decide +kernel
theorem dM_inSquare_1 : decode bM_inSquare 1 = .ok (.getfield 92, 3) := by decide +kernel
theorem dM_inSquare_4 : decode bM_inSquare 4 = .ok (.ifCond .ne 7, 3) := by decide +kernel
theorem dM_inSquare_7 : decode bM_inSquare 7 = .ok (.iconst 0, 1) := by decide +kernel
theorem dM_inSquare_8 : decode bM_inSquare 8 = .ok (.goto 16, 3) := by decide +kernel
theorem dM_inSquare_11 : decode bM_inSquare 11 = .ok (.aload_n 0, 1) := by decide +kernel
theorem dM_inSquare_12 : decode bM_inSquare 12 = .ok (.getfield 92, 3) := by decide +kernel
theorem dM_inSquare_15 : decode bM_inSquare 15 = .ok (.iconst 1, 1) := by decide +kernel
theorem dM_inSquare_16 : decode bM_inSquare 16 = .ok (.if_icmp .ne 7, 3) := by decide +kernel
theorem dM_inSquare_19 : decode bM_inSquare 19 = .ok (.iconst 1, 1) := by decide +kernel
theorem dM_inSquare_20 : decode bM_inSquare 20 = .ok (.goto 4, 3) := by decide +kernel
theorem dM_inSquare_23 : decode bM_inSquare 23 = .ok (.iconst 3, 1) := by decide +kernel
theorem dM_inSquare_24 : decode bM_inSquare 24 = .ok (.ireturn, 1) := by decide +kernel
theorem dM_sort_0 : decode bM_sort 0 = .ok (.aload_n 0, 1) := by decide +kernel
theorem dM_sort_1 : decode bM_sort 1 = .ok (.invokevirtual 114, 3) := by decide +kernel
theorem dM_sort_4 : decode bM_sort 4 = .ok (.istore_n 2, 1) := by decide +kernel
theorem dM_sort_5 : decode bM_sort 5 = .ok (.iload_n 1, 1) := by decide +kernel
theorem dM_sort_6 : decode bM_sort 6 = .ok (.iload_n 2, 1) := by decide +kernel
theorem dM_sort_7 : decode bM_sort 7 = .ok (.if_icmp .ge 7, 3) := by decide +kernel
theorem dM_sort_10 : decode bM_sort 10 = .ok (.iconst 0, 1) := by decide +kernel
theorem dM_sort_11 : decode bM_sort 11 = .ok (.goto 23, 3) := by decide +kernel
theorem dM_sort_14 : decode bM_sort 14 = .ok (.iload_n 1, 1) := by decide +kernel
theorem dM_sort_15 : decode bM_sort 15 = .ok (.iload_n 2, 1) := by decide +kernel
theorem dM_sort_16 : decode bM_sort 16 = .ok (.aload_n 0, 1) := by decide +kernel
theorem dM_sort_17 : decode bM_sort 17 = .ok (.invokevirtual 117, 3) := by decide +kernel
theorem dM_sort_20 : decode bM_sort 20 = .ok (.iadd, 1) := by decide +kernel
theorem dM_sort_21 : decode bM_sort 21 = .ok (.if_icmp .ge 12, 3) := by decide +kernel
theorem dM_sort_24 : decode bM_sort 24 = .ok (.aload_n 0, 1) := by decide +kernel
theorem dM_sort_25 : decode bM_sort 25 = .ok (.getfield 92, 3) := by decide +kernel
theorem dM_sort_28 : decode bM_sort 28 = .ok (.iconst 1, 1) := by decide +kernel
theorem dM_sort_29 : decode bM_sort 29 = .ok (.iadd, 1) := by decide +kernel
theorem dM_sort_30 : decode bM_sort 30 = .ok (.goto 4, 3) := by decide +kernel
theorem dM_sort_33 : decode bM_sort 33 = .ok (.iconst 1, 1) := by decide +kernel
theorem dM_sort_34 : decode bM_sort 34 = .ok (.ireturn, 1) := by decide +kernel
theorem dM_side_0 : decode bM_side 0 = .ok (.aload_n 0, 1) := by decide +kernel
theorem dM_side_1 : decode bM_side 1 = .ok (.invokevirtual 114, 3) := by decide +kernel
theorem dM_side_4 : decode bM_side 4 = .ok (.i2l, 1) := by decide +kernel
theorem dM_side_5 : decode bM_side 5 = .ok (.aload_n 0, 1) := by decide +kernel
theorem dM_side_6 : decode bM_side 6 = .ok (.getfield 95, 3) := by decide +kernel
theorem dM_side_9 : decode bM_side 9 = .ok (.lmul, 1) := by decide +kernel
theorem dM_side_10 : decode bM_side 10 = .ok (.lstore_n 3, 1) := by decide +kernel
theorem dM_side_11 : decode bM_side 11 = .ok (.aload_n 0, 1) := by decide +kernel
theorem dM_side_12 : decode bM_side 12 = .ok (.iload_n 1, 1) := by decide +kernel
theorem dM_side_13 : decode bM_side 13 = .ok (.invokevirtual 120, 3) := by decide +kernel
theorem dM_side_16 : decode bM_side 16 = .ok (.istore 5, 2) := by decide +kernel
theorem dM_side_18 : decode bM_side 18 = .ok (.iload 5, 2) := by decide +kernel
theorem dM_side_20 : decode bM_side 20 = .ok (.ifCond .ne 48, 3) := by decide +kernel
theorem dM_side_23 : decode bM_side 23 = .ok (.iload_n 2, 1) := by decide +kernel
theorem dM_side_24 : decode bM_side 24 = .ok (.ifCond .ne 13, 3) := by decide +kernel
theorem dM_side_27 : decode bM_side 27 = .ok (.iload_n 1, 1) := by decide +kernel
theorem dM_side_28 : decode bM_side 28 = .ok (.i2l, 1) := by decide +kernel
theorem dM_side_29 : decode bM_side 29 = .ok (.aload_n 0, 1) := by decide +kernel
theorem dM_side_30 : decode bM_side 30 = .ok (.getfield 95, 3) := by decide +kernel
theorem dM_side_33 : decode bM_side 33 = .ok (.lmul, 1) := by decide +kernel
theorem dM_side_34 : decode bM_side 34 = .ok (.goto 33, 3) := by decide +kernel
theorem dM_side_37 : decode bM_side 37 = .ok (.iload_n 2, 1) := by decide +kernel
theorem dM_side_38 : decode bM_side 38 = .ok (.iconst 1, 1) := by decide +kernel
theorem dM_side_39 : decode bM_side 39 = .ok (.if_icmp .ne 7, 3) := by decide +kernel
theorem dM_side_42 : decode bM_side 42 = .ok (.lconst 0, 1) := by decide +kernel
theorem dM_side_43 : decode bM_side 43 = .ok (.goto 24, 3) := by decide +kernel
theorem dM_side_46 : decode bM_side 46 = .ok (.iload_n 2, 1) := by decide +kernel
theorem dM_side_47 : decode bM_side 47 = .ok (.iconst 2, 1) := by decide +kernel
theorem dM_side_48 : decode bM_side 48 = .ok (.if_icmp .ne 15, 3) := by decide +kernel
theorem dM_side_51 : decode bM_side 51 = .ok (.iload_n 1, 1) := by decide +kernel
theorem dM_side_52 : decode bM_side 52 = .ok (.iconst 1, 1) := by decide +kernel
theorem dM_side_53 : decode bM_side 53 = .ok (.iadd, 1) := by decide +kernel
theorem dM_side_54 : decode bM_side 54 = .ok (.i2l, 1) := by decide +kernel
theorem dM_side_55 : decode bM_side 55 = .ok (.aload_n 0, 1) := by decide +kernel
theorem dM_side_56 : decode bM_side 56 = .ok (.getfield 95, 3) := by decide +kernel
theorem dM_side_59 : decode bM_side 59 = .ok (.lmul, 1) := by decide +kernel
theorem dM_side_60 : decode bM_side 60 = .ok (.goto 7, 3) := by decide +kernel
theorem dM_side_63 : decode bM_side 63 = .ok (.aload_n 0, 1) := by decide +kernel
theorem dM_side_64 : decode bM_side 64 = .ok (.getfield 98, 3) := by decide +kernel
theorem dM_side_67 : decode bM_side 67 = .ok (.lreturn, 1) := by decide +kernel
theorem dM_side_68 : decode bM_side 68 = .ok (.iload 5, 2) := by decide +kernel
theorem dM_side_70 : decode bM_side 70 = .ok (.iconst 1, 1) := by decide +kernel
theorem dM_side_71 : decode bM_side 71 = .ok (.if_icmp .le 39, 3) := by decide +kernel
theorem dM_side_74 : decode bM_side 74 = .ok (.iload_n 2, 1) := by decide +kernel
theorem dM_side_75 : decode bM_side 75 = .ok (.ifCond .ne 7, 3) := by decide +kernel
theorem dM_side_78 : decode bM_side 78 = .ok (.lload_n 3, 1) := by decide +kernel
theorem dM_side_79 : decode bM_side 79 = .ok (.goto 30, 3) := by decide +kernel
theorem dM_side_82 : decode bM_side 82 = .ok (.iload_n 2, 1) := by decide +kernel
theorem dM_side_83 : decode bM_side 83 = .ok (.iconst 1, 1) := by decide +kernel
theorem dM_side_84 : decode bM_side 84 = .ok (.if_icmp .ne 7, 3) := by decide +kernel
theorem dM_side_87 : decode bM_side 87 = .ok (.lconst 0, 1) := by decide +kernel
theorem dM_side_88 : decode bM_side 88 = .ok (.goto 21, 3) := by decide +kernel
theorem dM_side_91 : decode bM_side 91 = .ok (.iload_n 2, 1) := by decide +kernel
theorem dM_side_92 : decode bM_side 92 = .ok (.iconst 2, 1) := by decide +kernel
theorem dM_side_93 : decode bM_side 93 = .ok (.if_icmp .ne 12, 3) := by decide +kernel
theorem dM_side_96 : decode bM_side 96 = .ok (.lload_n 3, 1) := by decide +kernel
theorem dM_side_97 : decode bM_side 97 = .ok (.aload_n 0, 1) := by decide +kernel
theorem dM_side_98 : decode bM_side 98 = .ok (.getfield 98, 3) := by decide +kernel
theorem dM_side_101 : decode bM_side 101 = .ok (.ladd, 1) := by decide +kernel
theorem dM_side_102 : decode bM_side 102 = .ok (.goto 7, 3) := by decide +kernel
theorem dM_side_105 : decode bM_side 105 = .ok (.aload_n 0, 1) := by decide +kernel
theorem dM_side_106 : decode bM_side 106 = .ok (.getfield 98, 3) := by decide +kernel
theorem dM_side_109 : decode bM_side 109 = .ok (.lreturn, 1) := by decide +kernel
theorem dM_side_110 : decode bM_side 110 = .ok (.aload_n 0, 1) := by decide +kernel
theorem dM_side_111 : decode bM_side 111 = .ok (.getfield 98, 3) := by decide +kernel
theorem dM_side_114 : decode bM_side 114 = .ok (.iload_n 1, 1) := by decide +kernel
theorem dM_side_115 : decode bM_side 115 = .ok (.aload_n 0, 1) := by decide +kernel
theorem dM_side_116 : decode bM_side 116 = .ok (.invokevirtual 114, 3) := by decide +kernel
theorem dM_side_119 : decode bM_side 119 = .ok (.isub, 1) := by decide +kernel
theorem dM_side_120 : decode bM_side 120 = .ok (.aload_n 0, 1) := by decide +kernel
theorem dM_side_121 : decode bM_side 121 = .ok (.invokevirtual 117, 3) := by decide +kernel
theorem dM_side_124 : decode bM_side 124 = .ok (.isub, 1) := by decide +kernel
theorem dM_side_125 : decode bM_side 125 = .ok (.i2l, 1) := by decide +kernel
theorem dM_side_126 : decode bM_side 126 = .ok (.aload_n 0, 1) := by decide +kernel
theorem dM_side_127 : decode bM_side 127 = .ok (.getfield 95, 3) := by decide +kernel
theorem dM_side_130 : decode bM_side 130 = .ok (.lmul, 1) := by decide +kernel
theorem dM_side_131 : decode bM_side 131 = .ok (.ladd, 1) := by decide +kernel
theorem dM_side_132 : decode bM_side 132 = .ok (.lstore 6, 2) := by decide +kernel
theorem dM_side_134 : decode bM_side 134 = .ok (.iload_n 2, 1) := by decide +kernel
theorem dM_side_135 : decode bM_side 135 = .ok (.ifCond .ne 7, 3) := by decide +kernel
theorem dM_side_138 : decode bM_side 138 = .ok (.lload_n 3, 1) := by decide +kernel
theorem dM_side_139 : decode bM_side 139 = .ok (.goto 34, 3) := by decide +kernel
theorem dM_side_142 : decode bM_side 142 = .ok (.iload_n 2, 1) := by decide +kernel
theorem dM_side_143 : decode bM_side 143 = .ok (.iconst 1, 1) := by decide +kernel
theorem dM_side_144 : decode bM_side 144 = .ok (.if_icmp .ne 8, 3) := by decide +kernel
theorem dM_side_147 : decode bM_side 147 = .ok (.lload 6, 2) := by decide +kernel
theorem dM_side_149 : decode bM_side 149 = .ok (.goto 24, 3) := by decide +kernel
theorem dM_side_152 : decode bM_side 152 = .ok (.iload_n 2, 1) := by decide +kernel
theorem dM_side_153 : decode bM_side 153 = .ok (.iconst 2, 1) := by decide +kernel
theorem dM_side_154 : decode bM_side 154 = .ok (.if_icmp .ne 12, 3) := by decide +kernel
theorem dM_side_157 : decode bM_side 157 = .ok (.lload_n 3, 1) := by decide +kernel
theorem dM_side_158 : decode bM_side 158 = .ok (.aload_n 0, 1) := by decide +kernel
theorem dM_side_159 : decode bM_side 159 = .ok (.getfield 98, 3) := by decide +kernel
theorem dM_side_162 : decode bM_side 162 = .ok (.ladd, 1) := by decide +kernel
theorem dM_side_163 : decode bM_side 163 = .ok (.goto 10, 3) := by decide +kernel
theorem dM_side_166 : decode bM_side 166 = .ok (.lload 6, 2) := by decide +kernel
theorem dM_side_168 : decode bM_side 168 = .ok (.aload_n 0, 1) := by decide +kernel
theorem dM_side_169 : decode bM_side 169 = .ok (.getfield 95, 3) := by decide +kernel
theorem dM_side_172 : decode bM_side 172 = .ok (.ladd, 1) := by decide +kernel
theorem dM_side_173 : decode bM_side 173 = .ok (.lreturn, 1) := by decide +kernel
theorem dM_step_0 : decode bM_step 0 = .ok (.aload_n 0, 1) := by decide +kernel
theorem dM_step_1 : decode bM_step 1 = .ok (.invokevirtual 107, 3) := by decide +kernel
theorem dM_step_4 : decode bM_step 4 = .ok (.ifCond .eq 5, 3) := by decide +kernel
theorem dM_step_7 : decode bM_step 7 = .ok (.lconst 0, 1) := by decide +kernel
theorem dM_step_8 : decode bM_step 8 = .ok (.lreturn, 1) := by decide +kernel
theorem dM_step_9 : decode bM_step 9 = .ok (.aload_n 0, 1) := by decide +kernel
theorem dM_step_10 : decode bM_step 10 = .ok (.iload_n 1, 1) := by decide +kernel
theorem dM_step_11 : decode bM_step 11 = .ok (.ifCond .lt 13, 3) := by decide +kernel
theorem dM_step_14 : decode bM_step 14 = .ok (.iload_n 1, 1) := by decide +kernel
theorem dM_step_15 : decode bM_step 15 = .ok (.aload_n 0, 1) := by decide +kernel
theorem dM_step_16 : decode bM_step 16 = .ok (.getfield 101, 3) := by decide +kernel
theorem dM_step_19 : decode bM_step 19 = .ok (.iconst 1, 1) := by decide +kernel
theorem dM_step_20 : decode bM_step 20 = .ok (.isub, 1) := by decide +kernel
theorem dM_step_21 : decode bM_step 21 = .ok (.if_icmp .lt 7, 3) := by decide +kernel
theorem dM_step_24 : decode bM_step 24 = .ok (.iconst 2, 1) := by decide +kernel
theorem dM_step_25 : decode bM_step 25 = .ok (.goto 20, 3) := by decide +kernel
theorem dM_step_28 : decode bM_step 28 = .ok (.iload_n 2, 1) := by decide +kernel
theorem dM_step_29 : decode bM_step 29 = .ok (.i2l, 1) := by decide +kernel
theorem dM_step_30 : decode bM_step 30 = .ok (.lconst 0, 1) := by decide +kernel
theorem dM_step_31 : decode bM_step 31 = .ok (.ldc2_w 123, 3) := by decide +kernel
theorem dM_step_34 : decode bM_step 34 = .ok (.invokestatic 35, 3) := by decide +kernel
theorem dM_step_37 : decode bM_step 37 = .ok (.ifCond .eq 7, 3) := by decide +kernel
theorem dM_step_40 : decode bM_step 40 = .ok (.iconst 0, 1) := by decide +kernel
theorem dM_step_41 : decode bM_step 41 = .ok (.goto 4, 3) := by decide +kernel
theorem dM_step_44 : decode bM_step 44 = .ok (.iconst 3, 1) := by decide +kernel
theorem dM_step_45 : decode bM_step 45 = .ok (.putfield 29, 3) := by decide +kernel
theorem dM_step_48 : decode bM_step 48 = .ok (.aload_n 0, 1) := by decide +kernel
theorem dM_step_49 : decode bM_step 49 = .ok (.getfield 29, 3) := by decide +kernel
theorem dM_step_52 : decode bM_step 52 = .ok (.ifCond .le 5, 3) := by decide +kernel
theorem dM_step_55 : decode bM_step 55 = .ok (.lconst 0, 1) := by decide +kernel
theorem dM_step_56 : decode bM_step 56 = .ok (.lreturn, 1) := by decide +kernel
theorem dM_step_57 : decode bM_step 57 = .ok (.iload_n 2, 1) := by decide +kernel
theorem dM_step_58 : decode bM_step 58 = .ok (.iconst 4, 1) := by decide +kernel
theorem dM_step_59 : decode bM_step 59 = .ok (.if_icmp .ne 12, 3) := by decide +kernel
theorem dM_step_62 : decode bM_step 62 = .ok (.aload_n 0, 1) := by decide +kernel
theorem dM_step_63 : decode bM_step 63 = .ok (.iload_n 1, 1) := by decide +kernel
theorem dM_step_64 : decode bM_step 64 = .ok (.invokevirtual 120, 3) := by decide +kernel
theorem dM_step_67 : decode bM_step 67 = .ok (.i2l, 1) := by decide +kernel
theorem dM_step_68 : decode bM_step 68 = .ok (.goto 26, 3) := by decide +kernel
theorem dM_step_71 : decode bM_step 71 = .ok (.iload_n 2, 1) := by decide +kernel
theorem dM_step_72 : decode bM_step 72 = .ok (.iconst 5, 1) := by decide +kernel
theorem dM_step_73 : decode bM_step 73 = .ok (.if_icmp .ne 15, 3) := by decide +kernel
theorem dM_step_76 : decode bM_step 76 = .ok (.iload_n 1, 1) := by decide +kernel
theorem dM_step_77 : decode bM_step 77 = .ok (.iconst 1, 1) := by decide +kernel
theorem dM_step_78 : decode bM_step 78 = .ok (.iadd, 1) := by decide +kernel
theorem dM_step_79 : decode bM_step 79 = .ok (.i2l, 1) := by decide +kernel
theorem dM_step_80 : decode bM_step 80 = .ok (.aload_n 0, 1) := by decide +kernel
theorem dM_step_81 : decode bM_step 81 = .ok (.getfield 9, 3) := by decide +kernel
theorem dM_step_84 : decode bM_step 84 = .ok (.lmul, 1) := by decide +kernel
theorem dM_step_85 : decode bM_step 85 = .ok (.goto 9, 3) := by decide +kernel
theorem dM_step_88 : decode bM_step 88 = .ok (.aload_n 0, 1) := by decide +kernel
theorem dM_step_89 : decode bM_step 89 = .ok (.iload_n 1, 1) := by decide +kernel
theorem dM_step_90 : decode bM_step 90 = .ok (.iload_n 2, 1) := by decide +kernel
theorem dM_step_91 : decode bM_step 91 = .ok (.invokevirtual 125, 3) := by decide +kernel
theorem dM_step_94 : decode bM_step 94 = .ok (.lreturn, 1) := by decide +kernel
theorem dM_noWinders_0 : decode bM_noWinders 0 = .ok (.aload_n 0, 1) := by decide +kernel
theorem dM_noWinders_1 : decode bM_noWinders 1 = .ok (.aload_n 0, 1) := by decide +kernel
theorem dM_noWinders_2 : decode bM_noWinders 2 = .ok (.getfield 39, 3) := by decide +kernel
theorem dM_noWinders_5 : decode bM_noWinders 5 = .ok (.ifCond .eq 15, 3) := by decide +kernel
theorem dM_noWinders_8 : decode bM_noWinders 8 = .ok (.aload_n 0, 1) := by decide +kernel
theorem dM_noWinders_9 : decode bM_noWinders 9 = .ok (.getfield 92, 3) := by decide +kernel
theorem dM_noWinders_12 : decode bM_noWinders 12 = .ok (.iconst 2, 1) := by decide +kernel
theorem dM_noWinders_13 : decode bM_noWinders 13 = .ok (.if_icmp .ne 7, 3) := by decide +kernel
theorem dM_noWinders_16 : decode bM_noWinders 16 = .ok (.iconst 0, 1) := by decide +kernel
theorem dM_noWinders_17 : decode bM_noWinders 17 = .ok (.goto 4, 3) := by decide +kernel
theorem dM_noWinders_20 : decode bM_noWinders 20 = .ok (.iconst 1, 1) := by decide +kernel
theorem dM_noWinders_21 : decode bM_noWinders 21 = .ok (.putfield 29, 3) := by decide +kernel
theorem dM_noWinders_24 : decode bM_noWinders 24 = .ok (.aload_n 0, 1) := by decide +kernel
theorem dM_noWinders_25 : decode bM_noWinders 25 = .ok (.getfield 29, 3) := by decide +kernel
theorem dM_noWinders_28 : decode bM_noWinders 28 = .ok (.ifCond .le 7, 3) := by decide +kernel
theorem dM_noWinders_31 : decode bM_noWinders 31 = .ok (.iconst 1, 1) := by decide +kernel
theorem dM_noWinders_32 : decode bM_noWinders 32 = .ok (.goto 4, 3) := by decide +kernel
theorem dM_noWinders_35 : decode bM_noWinders 35 = .ok (.iconst 0, 1) := by decide +kernel
theorem dM_noWinders_36 : decode bM_noWinders 36 = .ok (.ireturn, 1) := by decide +kernel
theorem dM_winder_0 : decode bM_winder 0 = .ok (.aload_n 0, 1) := by decide +kernel
theorem dM_winder_1 : decode bM_winder 1 = .ok (.invokevirtual 129, 3) := by decide +kernel
theorem dM_winder_4 : decode bM_winder 4 = .ok (.ifCond .eq 5, 3) := by decide +kernel
theorem dM_winder_7 : decode bM_winder 7 = .ok (.lconst 0, 1) := by decide +kernel
theorem dM_winder_8 : decode bM_winder 8 = .ok (.lreturn, 1) := by decide +kernel
theorem dM_winder_9 : decode bM_winder 9 = .ok (.aload_n 0, 1) := by decide +kernel
theorem dM_winder_10 : decode bM_winder 10 = .ok (.iload_n 1, 1) := by decide +kernel
theorem dM_winder_11 : decode bM_winder 11 = .ok (.i2l, 1) := by decide +kernel
theorem dM_winder_12 : decode bM_winder 12 = .ok (.lconst 0, 1) := by decide +kernel
theorem dM_winder_13 : decode bM_winder 13 = .ok (.ldc2_w 132, 3) := by decide +kernel
theorem dM_winder_16 : decode bM_winder 16 = .ok (.invokestatic 35, 3) := by decide +kernel
theorem dM_winder_19 : decode bM_winder 19 = .ok (.ifCond .eq 17, 3) := by decide +kernel
theorem dM_winder_22 : decode bM_winder 22 = .ok (.iload_n 2, 1) := by decide +kernel
theorem dM_winder_23 : decode bM_winder 23 = .ok (.i2l, 1) := by decide +kernel
theorem dM_winder_24 : decode bM_winder 24 = .ok (.lconst 0, 1) := by decide +kernel
theorem dM_winder_25 : decode bM_winder 25 = .ok (.lconst 1, 1) := by decide +kernel
theorem dM_winder_26 : decode bM_winder 26 = .ok (.invokestatic 35, 3) := by decide +kernel
theorem dM_winder_29 : decode bM_winder 29 = .ok (.ifCond .eq 7, 3) := by decide +kernel
theorem dM_winder_32 : decode bM_winder 32 = .ok (.iconst 0, 1) := by decide +kernel
theorem dM_winder_33 : decode bM_winder 33 = .ok (.goto 4, 3) := by decide +kernel
theorem dM_winder_36 : decode bM_winder 36 = .ok (.iconst 2, 1) := by decide +kernel
theorem dM_winder_37 : decode bM_winder 37 = .ok (.putfield 29, 3) := by decide +kernel
theorem dM_winder_40 : decode bM_winder 40 = .ok (.aload_n 0, 1) := by decide +kernel
theorem dM_winder_41 : decode bM_winder 41 = .ok (.getfield 29, 3) := by decide +kernel
theorem dM_winder_44 : decode bM_winder 44 = .ok (.ifCond .le 5, 3) := by decide +kernel
theorem dM_winder_47 : decode bM_winder 47 = .ok (.lconst 0, 1) := by decide +kernel
theorem dM_winder_48 : decode bM_winder 48 = .ok (.lreturn, 1) := by decide +kernel
theorem dM_winder_49 : decode bM_winder 49 = .ok (.ldc2_w 84, 3) := by decide +kernel
theorem dM_winder_52 : decode bM_winder 52 = .ok (.iload_n 1, 1) := by decide +kernel
theorem dM_winder_53 : decode bM_winder 53 = .ok (.i2l, 1) := by decide +kernel
theorem dM_winder_54 : decode bM_winder 54 = .ok (.lmul, 1) := by decide +kernel
theorem dM_winder_55 : decode bM_winder 55 = .ok (.aload_n 0, 1) := by decide +kernel
theorem dM_winder_56 : decode bM_winder 56 = .ok (.getfield 98, 3) := by decide +kernel
theorem dM_winder_59 : decode bM_winder 59 = .ok (.lmul, 1) := by decide +kernel
theorem dM_winder_60 : decode bM_winder 60 = .ok (.lstore_n 3, 1) := by decide +kernel
theorem dM_winder_61 : decode bM_winder 61 = .ok (.ldc2_w 132, 3) := by decide +kernel
theorem dM_winder_64 : decode bM_winder 64 = .ok (.aload_n 0, 1) := by decide +kernel
theorem dM_winder_65 : decode bM_winder 65 = .ok (.getfield 98, 3) := by decide +kernel
theorem dM_winder_68 : decode bM_winder 68 = .ok (.lmul, 1) := by decide +kernel
theorem dM_winder_69 : decode bM_winder 69 = .ok (.lstore 5, 2) := by decide +kernel
theorem dM_winder_71 : decode bM_winder 71 = .ok (.iload_n 2, 1) := by decide +kernel
theorem dM_winder_72 : decode bM_winder 72 = .ok (.iconst 1, 1) := by decide +kernel
theorem dM_winder_73 : decode bM_winder 73 = .ok (.if_icmp .ne 21, 3) := by decide +kernel
theorem dM_winder_76 : decode bM_winder 76 = .ok (.lload_n 3, 1) := by decide +kernel
theorem dM_winder_77 : decode bM_winder 77 = .ok (.lload 5, 2) := by decide +kernel
theorem dM_winder_79 : decode bM_winder 79 = .ok (.lcmp, 1) := by decide +kernel
theorem dM_winder_80 : decode bM_winder 80 = .ok (.ifCond .le 10, 3) := by decide +kernel
theorem dM_winder_83 : decode bM_winder 83 = .ok (.lload_n 3, 1) := by decide +kernel
theorem dM_winder_84 : decode bM_winder 84 = .ok (.lload 5, 2) := by decide +kernel
theorem dM_winder_86 : decode bM_winder 86 = .ok (.lsub, 1) := by decide +kernel
theorem dM_winder_87 : decode bM_winder 87 = .ok (.goto 35, 3) := by decide +kernel
theorem dM_winder_90 : decode bM_winder 90 = .ok (.lconst 0, 1) := by decide +kernel
theorem dM_winder_91 : decode bM_winder 91 = .ok (.goto 31, 3) := by decide +kernel
theorem dM_winder_94 : decode bM_winder 94 = .ok (.ldc2_w 132, 3) := by decide +kernel
theorem dM_winder_97 : decode bM_winder 97 = .ok (.aload_n 0, 1) := by decide +kernel
theorem dM_winder_98 : decode bM_winder 98 = .ok (.invokevirtual 114, 3) := by decide +kernel
theorem dM_winder_101 : decode bM_winder 101 = .ok (.i2l, 1) := by decide +kernel
theorem dM_winder_102 : decode bM_winder 102 = .ok (.lmul, 1) := by decide +kernel
theorem dM_winder_103 : decode bM_winder 103 = .ok (.aload_n 0, 1) := by decide +kernel
theorem dM_winder_104 : decode bM_winder 104 = .ok (.getfield 95, 3) := by decide +kernel
theorem dM_winder_107 : decode bM_winder 107 = .ok (.lmul, 1) := by decide +kernel
theorem dM_winder_108 : decode bM_winder 108 = .ok (.lload_n 3, 1) := by decide +kernel
theorem dM_winder_109 : decode bM_winder 109 = .ok (.lload 5, 2) := by decide +kernel
theorem dM_winder_111 : decode bM_winder 111 = .ok (.lcmp, 1) := by decide +kernel
theorem dM_winder_112 : decode bM_winder 112 = .ok (.ifCond .le 8, 3) := by decide +kernel
theorem dM_winder_115 : decode bM_winder 115 = .ok (.lload 5, 2) := by decide +kernel
theorem dM_winder_117 : decode bM_winder 117 = .ok (.goto 4, 3) := by decide +kernel
theorem dM_winder_120 : decode bM_winder 120 = .ok (.lload_n 3, 1) := by decide +kernel
theorem dM_winder_121 : decode bM_winder 121 = .ok (.ladd, 1) := by decide +kernel
theorem dM_winder_122 : decode bM_winder 122 = .ok (.lreturn, 1) := by decide +kernel
theorem dM_area_0 : decode bM_area 0 = .ok (.aload_n 0, 1) := by decide +kernel
theorem dM_area_1 : decode bM_area 1 = .ok (.invokevirtual 129, 3) := by decide +kernel
theorem dM_area_4 : decode bM_area 4 = .ok (.ifCond .eq 5, 3) := by decide +kernel
theorem dM_area_7 : decode bM_area 7 = .ok (.lconst 0, 1) := by decide +kernel
theorem dM_area_8 : decode bM_area 8 = .ok (.lreturn, 1) := by decide +kernel
theorem dM_area_9 : decode bM_area 9 = .ok (.aload_n 0, 1) := by decide +kernel
theorem dM_area_10 : decode bM_area 10 = .ok (.iload_n 1, 1) := by decide +kernel
theorem dM_area_11 : decode bM_area 11 = .ok (.i2l, 1) := by decide +kernel
theorem dM_area_12 : decode bM_area 12 = .ok (.lconst 0, 1) := by decide +kernel
theorem dM_area_13 : decode bM_area 13 = .ok (.ldc2_w 84, 3) := by decide +kernel
theorem dM_area_16 : decode bM_area 16 = .ok (.invokestatic 35, 3) := by decide +kernel
theorem dM_area_19 : decode bM_area 19 = .ok (.ifCond .eq 7, 3) := by decide +kernel
theorem dM_area_22 : decode bM_area 22 = .ok (.iconst 0, 1) := by decide +kernel
theorem dM_area_23 : decode bM_area 23 = .ok (.goto 4, 3) := by decide +kernel
theorem dM_area_26 : decode bM_area 26 = .ok (.iconst 2, 1) := by decide +kernel
theorem dM_area_27 : decode bM_area 27 = .ok (.putfield 29, 3) := by decide +kernel
theorem dM_area_30 : decode bM_area 30 = .ok (.aload_n 0, 1) := by decide +kernel
theorem dM_area_31 : decode bM_area 31 = .ok (.getfield 29, 3) := by decide +kernel
theorem dM_area_34 : decode bM_area 34 = .ok (.ifCond .le 7, 3) := by decide +kernel
theorem dM_area_37 : decode bM_area 37 = .ok (.lconst 0, 1) := by decide +kernel
theorem dM_area_38 : decode bM_area 38 = .ok (.goto 16, 3) := by decide +kernel
theorem dM_area_41 : decode bM_area 41 = .ok (.ldc2_w 84, 3) := by decide +kernel
theorem dM_area_44 : decode bM_area 44 = .ok (.aload_n 0, 1) := by decide +kernel
theorem dM_area_45 : decode bM_area 45 = .ok (.getfield 98, 3) := by decide +kernel
theorem dM_area_48 : decode bM_area 48 = .ok (.lmul, 1) := by decide +kernel
theorem dM_area_49 : decode bM_area 49 = .ok (.aload_n 0, 1) := by decide +kernel
theorem dM_area_50 : decode bM_area 50 = .ok (.getfield 98, 3) := by decide +kernel
theorem dM_area_53 : decode bM_area 53 = .ok (.lmul, 1) := by decide +kernel
theorem dM_area_54 : decode bM_area 54 = .ok (.lreturn, 1) := by decide +kernel
theorem dM_meets_0 : decode bM_meets 0 = .ok (.aload_n 0, 1) := by decide +kernel
theorem dM_meets_1 : decode bM_meets 1 = .ok (.invokevirtual 107, 3) := by decide +kernel
theorem dM_meets_4 : decode bM_meets 4 = .ok (.ifCond .eq 5, 3) := by decide +kernel
theorem dM_meets_7 : decode bM_meets 7 = .ok (.iconst 0, 1) := by decide +kernel
theorem dM_meets_8 : decode bM_meets 8 = .ok (.ireturn, 1) := by decide +kernel
theorem dM_meets_9 : decode bM_meets 9 = .ok (.aload_n 0, 1) := by decide +kernel
theorem dM_meets_10 : decode bM_meets 10 = .ok (.iload_n 1, 1) := by decide +kernel
theorem dM_meets_11 : decode bM_meets 11 = .ok (.i2l, 1) := by decide +kernel
theorem dM_meets_12 : decode bM_meets 12 = .ok (.lconst 0, 1) := by decide +kernel
theorem dM_meets_13 : decode bM_meets 13 = .ok (.aload_n 0, 1) := by decide +kernel
theorem dM_meets_14 : decode bM_meets 14 = .ok (.getfield 77, 3) := by decide +kernel
theorem dM_meets_17 : decode bM_meets 17 = .ok (.iconst 1, 1) := by decide +kernel
theorem dM_meets_18 : decode bM_meets 18 = .ok (.isub, 1) := by decide +kernel
theorem dM_meets_19 : decode bM_meets 19 = .ok (.i2l, 1) := by decide +kernel
theorem dM_meets_20 : decode bM_meets 20 = .ok (.invokestatic 35, 3) := by decide +kernel
theorem dM_meets_23 : decode bM_meets 23 = .ok (.ifCond .eq 7, 3) := by decide +kernel
theorem dM_meets_26 : decode bM_meets 26 = .ok (.iconst 0, 1) := by decide +kernel
theorem dM_meets_27 : decode bM_meets 27 = .ok (.goto 4, 3) := by decide +kernel
theorem dM_meets_30 : decode bM_meets 30 = .ok (.iconst 2, 1) := by decide +kernel
theorem dM_meets_31 : decode bM_meets 31 = .ok (.putfield 29, 3) := by decide +kernel
theorem dM_meets_34 : decode bM_meets 34 = .ok (.aload_n 0, 1) := by decide +kernel
theorem dM_meets_35 : decode bM_meets 35 = .ok (.getfield 29, 3) := by decide +kernel
theorem dM_meets_38 : decode bM_meets 38 = .ok (.ifCond .ne 27, 3) := by decide +kernel
theorem dM_meets_41 : decode bM_meets 41 = .ok (.aload_n 0, 1) := by decide +kernel
theorem dM_meets_42 : decode bM_meets 42 = .ok (.iload_n 1, 1) := by decide +kernel
theorem dM_meets_43 : decode bM_meets 43 = .ok (.aload_n 0, 1) := by decide +kernel
theorem dM_meets_44 : decode bM_meets 44 = .ok (.getfield 95, 3) := by decide +kernel
theorem dM_meets_47 : decode bM_meets 47 = .ok (.aload_n 0, 1) := by decide +kernel
theorem dM_meets_48 : decode bM_meets 48 = .ok (.getfield 98, 3) := by decide +kernel
theorem dM_meets_51 : decode bM_meets 51 = .ok (.aload_n 0, 1) := by decide +kernel
theorem dM_meets_52 : decode bM_meets 52 = .ok (.getfield 101, 3) := by decide +kernel
theorem dM_meets_55 : decode bM_meets 55 = .ok (.invokevirtual 80, 3) := by decide +kernel
theorem dM_meets_58 : decode bM_meets 58 = .ok (.ifCond .eq 7, 3) := by decide +kernel
theorem dM_meets_61 : decode bM_meets 61 = .ok (.iconst 1, 1) := by decide +kernel
theorem dM_meets_62 : decode bM_meets 62 = .ok (.goto 4, 3) := by decide +kernel
theorem dM_meets_65 : decode bM_meets 65 = .ok (.iconst 0, 1) := by decide +kernel
theorem dM_meets_66 : decode bM_meets 66 = .ok (.ireturn, 1) := by decide +kernel
theorem dM_isPlace_0 : decode bM_isPlace 0 = .ok (.lload_n 0, 1) := by decide +kernel
theorem dM_isPlace_1 : decode bM_isPlace 1 = .ok (.ldc2_w 134, 3) := by decide +kernel
theorem dM_isPlace_4 : decode bM_isPlace 4 = .ok (.lcmp, 1) := by decide +kernel
theorem dM_isPlace_5 : decode bM_isPlace 5 = .ok (.ifCond .lt 15, 3) := by decide +kernel
theorem dM_isPlace_8 : decode bM_isPlace 8 = .ok (.lload_n 0, 1) := by decide +kernel
theorem dM_isPlace_9 : decode bM_isPlace 9 = .ok (.ldc2_w 136, 3) := by decide +kernel
theorem dM_isPlace_12 : decode bM_isPlace 12 = .ok (.lcmp, 1) := by decide +kernel
theorem dM_isPlace_13 : decode bM_isPlace 13 = .ok (.ifCond .gt 7, 3) := by decide +kernel
theorem dM_isPlace_16 : decode bM_isPlace 16 = .ok (.iconst 1, 1) := by decide +kernel
theorem dM_isPlace_17 : decode bM_isPlace 17 = .ok (.goto 4, 3) := by decide +kernel
theorem dM_isPlace_20 : decode bM_isPlace 20 = .ok (.iconst 0, 1) := by decide +kernel
theorem dM_isPlace_21 : decode bM_isPlace 21 = .ok (.ireturn, 1) := by decide +kernel
theorem dM_floor_0 : decode bM_floor 0 = .ok (.lload_n 1, 1) := by decide +kernel
theorem dM_floor_1 : decode bM_floor 1 = .ok (.invokestatic 138, 3) := by decide +kernel
theorem dM_floor_4 : decode bM_floor 4 = .ok (.ifCond .eq 56, 3) := by decide +kernel
theorem dM_floor_7 : decode bM_floor 7 = .ok (.lload_n 3, 1) := by decide +kernel
theorem dM_floor_8 : decode bM_floor 8 = .ok (.invokestatic 138, 3) := by decide +kernel
theorem dM_floor_11 : decode bM_floor 11 = .ok (.ifCond .eq 49, 3) := by decide +kernel
theorem dM_floor_14 : decode bM_floor 14 = .ok (.lload 5, 2) := by decide +kernel
theorem dM_floor_16 : decode bM_floor 16 = .ok (.invokestatic 138, 3) := by decide +kernel
theorem dM_floor_19 : decode bM_floor 19 = .ok (.ifCond .eq 41, 3) := by decide +kernel
theorem dM_floor_22 : decode bM_floor 22 = .ok (.lload 7, 2) := by decide +kernel
theorem dM_floor_24 : decode bM_floor 24 = .ok (.invokestatic 138, 3) := by decide +kernel
theorem dM_floor_27 : decode bM_floor 27 = .ok (.ifCond .eq 33, 3) := by decide +kernel
theorem dM_floor_30 : decode bM_floor 30 = .ok (.lload 5, 2) := by decide +kernel
theorem dM_floor_32 : decode bM_floor 32 = .ok (.lload_n 1, 1) := by decide +kernel
theorem dM_floor_33 : decode bM_floor 33 = .ok (.lcmp, 1) := by decide +kernel
theorem dM_floor_34 : decode bM_floor 34 = .ok (.ifCond .le 26, 3) := by decide +kernel
theorem dM_floor_37 : decode bM_floor 37 = .ok (.lload 7, 2) := by decide +kernel
theorem dM_floor_39 : decode bM_floor 39 = .ok (.lload_n 3, 1) := by decide +kernel
theorem dM_floor_40 : decode bM_floor 40 = .ok (.lcmp, 1) := by decide +kernel
theorem dM_floor_41 : decode bM_floor 41 = .ok (.ifCond .le 19, 3) := by decide +kernel
theorem dM_floor_44 : decode bM_floor 44 = .ok (.lload 9, 2) := by decide +kernel
theorem dM_floor_46 : decode bM_floor 46 = .ok (.lconst 0, 1) := by decide +kernel
theorem dM_floor_47 : decode bM_floor 47 = .ok (.ldc2_w 136, 3) := by decide +kernel
theorem dM_floor_50 : decode bM_floor 50 = .ok (.invokestatic 35, 3) := by decide +kernel
theorem dM_floor_53 : decode bM_floor 53 = .ok (.ifCond .eq 7, 3) := by decide +kernel
theorem dM_floor_56 : decode bM_floor 56 = .ok (.iconst 1, 1) := by decide +kernel
theorem dM_floor_57 : decode bM_floor 57 = .ok (.goto 4, 3) := by decide +kernel
theorem dM_floor_60 : decode bM_floor 60 = .ok (.iconst 0, 1) := by decide +kernel
theorem dM_floor_61 : decode bM_floor 61 = .ok (.istore 11, 2) := by decide +kernel
theorem dM_floor_63 : decode bM_floor 63 = .ok (.aload_n 0, 1) := by decide +kernel
theorem dM_floor_64 : decode bM_floor 64 = .ok (.iload 11, 2) := by decide +kernel
theorem dM_floor_66 : decode bM_floor 66 = .ok (.ifCond .eq 7, 3) := by decide +kernel
theorem dM_floor_69 : decode bM_floor 69 = .ok (.iconst 0, 1) := by decide +kernel
theorem dM_floor_70 : decode bM_floor 70 = .ok (.goto 4, 3) := by decide +kernel
theorem dM_floor_73 : decode bM_floor 73 = .ok (.iconst 1, 1) := by decide +kernel
theorem dM_floor_74 : decode bM_floor 74 = .ok (.putfield 29, 3) := by decide +kernel
theorem dM_floor_77 : decode bM_floor 77 = .ok (.aload_n 0, 1) := by decide +kernel
theorem dM_floor_78 : decode bM_floor 78 = .ok (.getfield 29, 3) := by decide +kernel
theorem dM_floor_81 : decode bM_floor 81 = .ok (.ifCond .gt 12, 3) := by decide +kernel
theorem dM_floor_84 : decode bM_floor 84 = .ok (.aload_n 0, 1) := by decide +kernel
theorem dM_floor_85 : decode bM_floor 85 = .ok (.getfield 142, 3) := by decide +kernel
theorem dM_floor_88 : decode bM_floor 88 = .ok (.bipush 8, 2) := by decide +kernel
theorem dM_floor_90 : decode bM_floor 90 = .ok (.if_icmp .ne 5, 3) := by decide +kernel
theorem dM_floor_93 : decode bM_floor 93 = .ok (.iconst 0, 1) := by decide +kernel
theorem dM_floor_94 : decode bM_floor 94 = .ok (.ireturn, 1) := by decide +kernel
theorem dM_floor_95 : decode bM_floor 95 = .ok (.aload_n 0, 1) := by decide +kernel
theorem dM_floor_96 : decode bM_floor 96 = .ok (.getfield 25, 3) := by decide +kernel
theorem dM_floor_99 : decode bM_floor 99 = .ok (.iconst 5, 1) := by decide +kernel
theorem dM_floor_100 : decode bM_floor 100 = .ok (.aload_n 0, 1) := by decide +kernel
theorem dM_floor_101 : decode bM_floor 101 = .ok (.getfield 142, 3) := by decide +kernel
theorem dM_floor_104 : decode bM_floor 104 = .ok (.imul, 1) := by decide +kernel
theorem dM_floor_105 : decode bM_floor 105 = .ok (.lload_n 1, 1) := by decide +kernel
theorem dM_floor_106 : decode bM_floor 106 = .ok (.lastore, 1) := by decide +kernel
theorem dM_floor_107 : decode bM_floor 107 = .ok (.aload_n 0, 1) := by decide +kernel
theorem dM_floor_108 : decode bM_floor 108 = .ok (.getfield 25, 3) := by decide +kernel
theorem dM_floor_111 : decode bM_floor 111 = .ok (.iconst 5, 1) := by decide +kernel
theorem dM_floor_112 : decode bM_floor 112 = .ok (.aload_n 0, 1) := by decide +kernel
theorem dM_floor_113 : decode bM_floor 113 = .ok (.getfield 142, 3) := by decide +kernel
theorem dM_floor_116 : decode bM_floor 116 = .ok (.imul, 1) := by decide +kernel
theorem dM_floor_117 : decode bM_floor 117 = .ok (.iconst 1, 1) := by decide +kernel
theorem dM_floor_118 : decode bM_floor 118 = .ok (.iadd, 1) := by decide +kernel
theorem dM_floor_119 : decode bM_floor 119 = .ok (.lload_n 3, 1) := by decide +kernel
theorem dM_floor_120 : decode bM_floor 120 = .ok (.lastore, 1) := by decide +kernel
theorem dM_floor_121 : decode bM_floor 121 = .ok (.aload_n 0, 1) := by decide +kernel
theorem dM_floor_122 : decode bM_floor 122 = .ok (.getfield 25, 3) := by decide +kernel
theorem dM_floor_125 : decode bM_floor 125 = .ok (.iconst 5, 1) := by decide +kernel
theorem dM_floor_126 : decode bM_floor 126 = .ok (.aload_n 0, 1) := by decide +kernel
theorem dM_floor_127 : decode bM_floor 127 = .ok (.getfield 142, 3) := by decide +kernel
theorem dM_floor_130 : decode bM_floor 130 = .ok (.imul, 1) := by decide +kernel
theorem dM_floor_131 : decode bM_floor 131 = .ok (.iconst 2, 1) := by decide +kernel
theorem dM_floor_132 : decode bM_floor 132 = .ok (.iadd, 1) := by decide +kernel
theorem dM_floor_133 : decode bM_floor 133 = .ok (.lload 5, 2) := by decide +kernel
theorem dM_floor_135 : decode bM_floor 135 = .ok (.lastore, 1) := by decide +kernel
theorem dM_floor_136 : decode bM_floor 136 = .ok (.aload_n 0, 1) := by decide +kernel
theorem dM_floor_137 : decode bM_floor 137 = .ok (.getfield 25, 3) := by decide +kernel
theorem dM_floor_140 : decode bM_floor 140 = .ok (.iconst 5, 1) := by decide +kernel
theorem dM_floor_141 : decode bM_floor 141 = .ok (.aload_n 0, 1) := by decide +kernel
theorem dM_floor_142 : decode bM_floor 142 = .ok (.getfield 142, 3) := by decide +kernel
theorem dM_floor_145 : decode bM_floor 145 = .ok (.imul, 1) := by decide +kernel
theorem dM_floor_146 : decode bM_floor 146 = .ok (.iconst 3, 1) := by decide +kernel
theorem dM_floor_147 : decode bM_floor 147 = .ok (.iadd, 1) := by decide +kernel
theorem dM_floor_148 : decode bM_floor 148 = .ok (.lload 7, 2) := by decide +kernel
theorem dM_floor_150 : decode bM_floor 150 = .ok (.lastore, 1) := by decide +kernel
theorem dM_floor_151 : decode bM_floor 151 = .ok (.aload_n 0, 1) := by decide +kernel
theorem dM_floor_152 : decode bM_floor 152 = .ok (.getfield 25, 3) := by decide +kernel
theorem dM_floor_155 : decode bM_floor 155 = .ok (.iconst 5, 1) := by decide +kernel
theorem dM_floor_156 : decode bM_floor 156 = .ok (.aload_n 0, 1) := by decide +kernel
theorem dM_floor_157 : decode bM_floor 157 = .ok (.getfield 142, 3) := by decide +kernel
theorem dM_floor_160 : decode bM_floor 160 = .ok (.imul, 1) := by decide +kernel
theorem dM_floor_161 : decode bM_floor 161 = .ok (.iconst 4, 1) := by decide +kernel
theorem dM_floor_162 : decode bM_floor 162 = .ok (.iadd, 1) := by decide +kernel
theorem dM_floor_163 : decode bM_floor 163 = .ok (.lload 9, 2) := by decide +kernel
theorem dM_floor_165 : decode bM_floor 165 = .ok (.lastore, 1) := by decide +kernel
theorem dM_floor_166 : decode bM_floor 166 = .ok (.aload_n 0, 1) := by decide +kernel
theorem dM_floor_167 : decode bM_floor 167 = .ok (.dup, 1) := by decide +kernel
theorem dM_floor_168 : decode bM_floor 168 = .ok (.getfield 142, 3) := by decide +kernel
theorem dM_floor_171 : decode bM_floor 171 = .ok (.iconst 1, 1) := by decide +kernel
theorem dM_floor_172 : decode bM_floor 172 = .ok (.iadd, 1) := by decide +kernel
theorem dM_floor_173 : decode bM_floor 173 = .ok (.putfield 142, 3) := by decide +kernel
theorem dM_floor_176 : decode bM_floor 176 = .ok (.iconst 1, 1) := by decide +kernel
theorem dM_floor_177 : decode bM_floor 177 = .ok (.ireturn, 1) := by decide +kernel
theorem dM_headRoom_0 : decode bM_headRoom 0 = .ok (.aload_n 0, 1) := by decide +kernel
theorem dM_headRoom_1 : decode bM_headRoom 1 = .ok (.invokevirtual 107, 3) := by decide +kernel
theorem dM_headRoom_4 : decode bM_headRoom 4 = .ok (.ifCond .eq 5, 3) := by decide +kernel
theorem dM_headRoom_7 : decode bM_headRoom 7 = .ok (.lconst 0, 1) := by decide +kernel
theorem dM_headRoom_8 : decode bM_headRoom 8 = .ok (.lreturn, 1) := by decide +kernel
theorem dM_headRoom_9 : decode bM_headRoom 9 = .ok (.ldc2_w 145, 3) := by decide +kernel
theorem dM_headRoom_12 : decode bM_headRoom 12 = .ok (.lstore_n 1, 1) := by decide +kernel
theorem dM_headRoom_13 : decode bM_headRoom 13 = .ok (.iconst 0, 1) := by decide +kernel
theorem dM_headRoom_14 : decode bM_headRoom 14 = .ok (.istore_n 3, 1) := by decide +kernel
theorem dM_headRoom_15 : decode bM_headRoom 15 = .ok (.iload_n 3, 1) := by decide +kernel
theorem dM_headRoom_16 : decode bM_headRoom 16 = .ok (.iconst 5, 1) := by decide +kernel
theorem dM_headRoom_17 : decode bM_headRoom 17 = .ok (.aload_n 0, 1) := by decide +kernel
theorem dM_headRoom_18 : decode bM_headRoom 18 = .ok (.getfield 142, 3) := by decide +kernel
theorem dM_headRoom_21 : decode bM_headRoom 21 = .ok (.imul, 1) := by decide +kernel
theorem dM_headRoom_22 : decode bM_headRoom 22 = .ok (.if_icmp .ge 156, 3) := by decide +kernel
theorem dM_headRoom_25 : decode bM_headRoom 25 = .ok (.iconst 0, 1) := by decide +kernel
theorem dM_headRoom_26 : decode bM_headRoom 26 = .ok (.istore 4, 2) := by decide +kernel
theorem dM_headRoom_28 : decode bM_headRoom 28 = .ok (.iload 4, 2) := by decide +kernel
theorem dM_headRoom_30 : decode bM_headRoom 30 = .ok (.aload_n 0, 1) := by decide +kernel
theorem dM_headRoom_31 : decode bM_headRoom 31 = .ok (.getfield 101, 3) := by decide +kernel
theorem dM_headRoom_34 : decode bM_headRoom 34 = .ok (.iconst 1, 1) := by decide +kernel
theorem dM_headRoom_35 : decode bM_headRoom 35 = .ok (.isub, 1) := by decide +kernel
theorem dM_headRoom_36 : decode bM_headRoom 36 = .ok (.if_icmp .ge 136, 3) := by decide +kernel
theorem dM_headRoom_39 : decode bM_headRoom 39 = .ok (.aload_n 0, 1) := by decide +kernel
theorem dM_headRoom_40 : decode bM_headRoom 40 = .ok (.iload 4, 2) := by decide +kernel
theorem dM_headRoom_42 : decode bM_headRoom 42 = .ok (.iconst 0, 1) := by decide +kernel
theorem dM_headRoom_43 : decode bM_headRoom 43 = .ok (.invokevirtual 125, 3) := by decide +kernel
theorem dM_headRoom_46 : decode bM_headRoom 46 = .ok (.aload_n 0, 1) := by decide +kernel
theorem dM_headRoom_47 : decode bM_headRoom 47 = .ok (.getfield 25, 3) := by decide +kernel
theorem dM_headRoom_50 : decode bM_headRoom 50 = .ok (.iload_n 3, 1) := by decide +kernel
theorem dM_headRoom_51 : decode bM_headRoom 51 = .ok (.iconst 2, 1) := by decide +kernel
theorem dM_headRoom_52 : decode bM_headRoom 52 = .ok (.iadd, 1) := by decide +kernel
theorem dM_headRoom_53 : decode bM_headRoom 53 = .ok (.laload, 1) := by decide +kernel
theorem dM_headRoom_54 : decode bM_headRoom 54 = .ok (.lcmp, 1) := by decide +kernel
theorem dM_headRoom_55 : decode bM_headRoom 55 = .ok (.ifCond .ge 62, 3) := by decide +kernel
theorem dM_headRoom_58 : decode bM_headRoom 58 = .ok (.aload_n 0, 1) := by decide +kernel
theorem dM_headRoom_59 : decode bM_headRoom 59 = .ok (.iload 4, 2) := by decide +kernel
theorem dM_headRoom_61 : decode bM_headRoom 61 = .ok (.iconst 2, 1) := by decide +kernel
theorem dM_headRoom_62 : decode bM_headRoom 62 = .ok (.invokevirtual 125, 3) := by decide +kernel
theorem dM_headRoom_65 : decode bM_headRoom 65 = .ok (.aload_n 0, 1) := by decide +kernel
theorem dM_headRoom_66 : decode bM_headRoom 66 = .ok (.getfield 25, 3) := by decide +kernel
theorem dM_headRoom_69 : decode bM_headRoom 69 = .ok (.iload_n 3, 1) := by decide +kernel
theorem dM_headRoom_70 : decode bM_headRoom 70 = .ok (.laload, 1) := by decide +kernel
theorem dM_headRoom_71 : decode bM_headRoom 71 = .ok (.lcmp, 1) := by decide +kernel
theorem dM_headRoom_72 : decode bM_headRoom 72 = .ok (.ifCond .le 45, 3) := by decide +kernel
theorem dM_headRoom_75 : decode bM_headRoom 75 = .ok (.aload_n 0, 1) := by decide +kernel
theorem dM_headRoom_76 : decode bM_headRoom 76 = .ok (.iload 4, 2) := by decide +kernel
theorem dM_headRoom_78 : decode bM_headRoom 78 = .ok (.iconst 1, 1) := by decide +kernel
theorem dM_headRoom_79 : decode bM_headRoom 79 = .ok (.invokevirtual 125, 3) := by decide +kernel
theorem dM_headRoom_82 : decode bM_headRoom 82 = .ok (.aload_n 0, 1) := by decide +kernel
theorem dM_headRoom_83 : decode bM_headRoom 83 = .ok (.getfield 25, 3) := by decide +kernel
theorem dM_headRoom_86 : decode bM_headRoom 86 = .ok (.iload_n 3, 1) := by decide +kernel
theorem dM_headRoom_87 : decode bM_headRoom 87 = .ok (.iconst 3, 1) := by decide +kernel
theorem dM_headRoom_88 : decode bM_headRoom 88 = .ok (.iadd, 1) := by decide +kernel
theorem dM_headRoom_89 : decode bM_headRoom 89 = .ok (.laload, 1) := by decide +kernel
theorem dM_headRoom_90 : decode bM_headRoom 90 = .ok (.lcmp, 1) := by decide +kernel
theorem dM_headRoom_91 : decode bM_headRoom 91 = .ok (.ifCond .ge 26, 3) := by decide +kernel
theorem dM_headRoom_94 : decode bM_headRoom 94 = .ok (.aload_n 0, 1) := by decide +kernel
theorem dM_headRoom_95 : decode bM_headRoom 95 = .ok (.iload 4, 2) := by decide +kernel
theorem dM_headRoom_97 : decode bM_headRoom 97 = .ok (.iconst 3, 1) := by decide +kernel
theorem dM_headRoom_98 : decode bM_headRoom 98 = .ok (.invokevirtual 125, 3) := by decide +kernel
theorem dM_headRoom_101 : decode bM_headRoom 101 = .ok (.aload_n 0, 1) := by decide +kernel
theorem dM_headRoom_102 : decode bM_headRoom 102 = .ok (.getfield 25, 3) := by decide +kernel
theorem dM_headRoom_105 : decode bM_headRoom 105 = .ok (.iload_n 3, 1) := by decide +kernel
theorem dM_headRoom_106 : decode bM_headRoom 106 = .ok (.iconst 1, 1) := by decide +kernel
theorem dM_headRoom_107 : decode bM_headRoom 107 = .ok (.iadd, 1) := by decide +kernel
theorem dM_headRoom_108 : decode bM_headRoom 108 = .ok (.laload, 1) := by decide +kernel
theorem dM_headRoom_109 : decode bM_headRoom 109 = .ok (.lcmp, 1) := by decide +kernel
theorem dM_headRoom_110 : decode bM_headRoom 110 = .ok (.ifCond .le 7, 3) := by decide +kernel
theorem dM_headRoom_113 : decode bM_headRoom 113 = .ok (.iconst 1, 1) := by decide +kernel
theorem dM_headRoom_114 : decode bM_headRoom 114 = .ok (.goto 4, 3) := by decide +kernel
theorem dM_headRoom_117 : decode bM_headRoom 117 = .ok (.iconst 0, 1) := by decide +kernel
theorem dM_headRoom_118 : decode bM_headRoom 118 = .ok (.istore 5, 2) := by decide +kernel
theorem dM_headRoom_120 : decode bM_headRoom 120 = .ok (.aload_n 0, 1) := by decide +kernel
theorem dM_headRoom_121 : decode bM_headRoom 121 = .ok (.getfield 25, 3) := by decide +kernel
theorem dM_headRoom_124 : decode bM_headRoom 124 = .ok (.iload_n 3, 1) := by decide +kernel
theorem dM_headRoom_125 : decode bM_headRoom 125 = .ok (.iconst 4, 1) := by decide +kernel
theorem dM_headRoom_126 : decode bM_headRoom 126 = .ok (.iadd, 1) := by decide +kernel
theorem dM_headRoom_127 : decode bM_headRoom 127 = .ok (.laload, 1) := by decide +kernel
theorem dM_headRoom_128 : decode bM_headRoom 128 = .ok (.aload_n 0, 1) := by decide +kernel
theorem dM_headRoom_129 : decode bM_headRoom 129 = .ok (.getfield 101, 3) := by decide +kernel
theorem dM_headRoom_132 : decode bM_headRoom 132 = .ok (.i2l, 1) := by decide +kernel
theorem dM_headRoom_133 : decode bM_headRoom 133 = .ok (.lmul, 1) := by decide +kernel
theorem dM_headRoom_134 : decode bM_headRoom 134 = .ok (.iload 4, 2) := by decide +kernel
theorem dM_headRoom_136 : decode bM_headRoom 136 = .ok (.iconst 1, 1) := by decide +kernel
theorem dM_headRoom_137 : decode bM_headRoom 137 = .ok (.iadd, 1) := by decide +kernel
theorem dM_headRoom_138 : decode bM_headRoom 138 = .ok (.i2l, 1) := by decide +kernel
theorem dM_headRoom_139 : decode bM_headRoom 139 = .ok (.aload_n 0, 1) := by decide +kernel
theorem dM_headRoom_140 : decode bM_headRoom 140 = .ok (.getfield 9, 3) := by decide +kernel
theorem dM_headRoom_143 : decode bM_headRoom 143 = .ok (.lmul, 1) := by decide +kernel
theorem dM_headRoom_144 : decode bM_headRoom 144 = .ok (.lsub, 1) := by decide +kernel
theorem dM_headRoom_145 : decode bM_headRoom 145 = .ok (.lstore 6, 2) := by decide +kernel
theorem dM_headRoom_147 : decode bM_headRoom 147 = .ok (.iload 5, 2) := by decide +kernel
theorem dM_headRoom_149 : decode bM_headRoom 149 = .ok (.ifCond .eq 15, 3) := by decide +kernel
theorem dM_headRoom_152 : decode bM_headRoom 152 = .ok (.lload 6, 2) := by decide +kernel
theorem dM_headRoom_154 : decode bM_headRoom 154 = .ok (.lload_n 1, 1) := by decide +kernel
theorem dM_headRoom_155 : decode bM_headRoom 155 = .ok (.lcmp, 1) := by decide +kernel
theorem dM_headRoom_156 : decode bM_headRoom 156 = .ok (.ifCond .ge 8, 3) := by decide +kernel
theorem dM_headRoom_159 : decode bM_headRoom 159 = .ok (.lload 6, 2) := by decide +kernel
theorem dM_headRoom_161 : decode bM_headRoom 161 = .ok (.goto 4, 3) := by decide +kernel
theorem dM_headRoom_164 : decode bM_headRoom 164 = .ok (.lload_n 1, 1) := by decide +kernel
theorem dM_headRoom_165 : decode bM_headRoom 165 = .ok (.lstore_n 1, 1) := by decide +kernel
theorem dM_headRoom_166 : decode bM_headRoom 166 = .ok (.iinc 4 1, 3) := by decide +kernel
theorem dM_headRoom_169 : decode bM_headRoom 169 = .ok (.goto (-141), 3) := by decide +kernel
theorem dM_headRoom_172 : decode bM_headRoom 172 = .ok (.iinc 3 5, 3) := by decide +kernel
theorem dM_headRoom_175 : decode bM_headRoom 175 = .ok (.goto (-160), 3) := by decide +kernel
theorem dM_headRoom_178 : decode bM_headRoom 178 = .ok (.lload_n 1, 1) := by decide +kernel
theorem dM_headRoom_179 : decode bM_headRoom 179 = .ok (.lreturn, 1) := by decide +kernel
theorem dM_string_0 : decode bM_string 0 = .ok (.aload_n 0, 1) := by decide +kernel
theorem dM_string_1 : decode bM_string 1 = .ok (.invokevirtual 107, 3) := by decide +kernel
theorem dM_string_4 : decode bM_string 4 = .ok (.ifCond .eq 5, 3) := by decide +kernel
theorem dM_string_7 : decode bM_string 7 = .ok (.lconst 0, 1) := by decide +kernel
theorem dM_string_8 : decode bM_string 8 = .ok (.lreturn, 1) := by decide +kernel
theorem dM_string_9 : decode bM_string 9 = .ok (.aload_n 0, 1) := by decide +kernel
theorem dM_string_10 : decode bM_string 10 = .ok (.iload_n 1, 1) := by decide +kernel
theorem dM_string_11 : decode bM_string 11 = .ok (.i2l, 1) := by decide +kernel
theorem dM_string_12 : decode bM_string 12 = .ok (.lconst 0, 1) := by decide +kernel
theorem dM_string_13 : decode bM_string 13 = .ok (.lconst 1, 1) := by decide +kernel
theorem dM_string_14 : decode bM_string 14 = .ok (.invokestatic 35, 3) := by decide +kernel
theorem dM_string_17 : decode bM_string 17 = .ok (.ifCond .eq 7, 3) := by decide +kernel
theorem dM_string_20 : decode bM_string 20 = .ok (.iconst 0, 1) := by decide +kernel
theorem dM_string_21 : decode bM_string 21 = .ok (.goto 4, 3) := by decide +kernel
theorem dM_string_24 : decode bM_string 24 = .ok (.iconst 2, 1) := by decide +kernel
theorem dM_string_25 : decode bM_string 25 = .ok (.putfield 29, 3) := by decide +kernel
theorem dM_string_28 : decode bM_string 28 = .ok (.aload_n 0, 1) := by decide +kernel
theorem dM_string_29 : decode bM_string 29 = .ok (.getfield 29, 3) := by decide +kernel
theorem dM_string_32 : decode bM_string 32 = .ok (.ifCond .le 5, 3) := by decide +kernel
theorem dM_string_35 : decode bM_string 35 = .ok (.lconst 0, 1) := by decide +kernel
theorem dM_string_36 : decode bM_string 36 = .ok (.lreturn, 1) := by decide +kernel
theorem dM_string_37 : decode bM_string 37 = .ok (.aload_n 0, 1) := by decide +kernel
theorem dM_string_38 : decode bM_string 38 = .ok (.getfield 101, 3) := by decide +kernel
theorem dM_string_41 : decode bM_string 41 = .ok (.i2l, 1) := by decide +kernel
theorem dM_string_42 : decode bM_string 42 = .ok (.lconst 1, 1) := by decide +kernel
theorem dM_string_43 : decode bM_string 43 = .ok (.lsub, 1) := by decide +kernel
theorem dM_string_44 : decode bM_string 44 = .ok (.aload_n 0, 1) := by decide +kernel
theorem dM_string_45 : decode bM_string 45 = .ok (.getfield 95, 3) := by decide +kernel
theorem dM_string_48 : decode bM_string 48 = .ok (.lmul, 1) := by decide +kernel
theorem dM_string_49 : decode bM_string 49 = .ok (.aload_n 0, 1) := by decide +kernel
theorem dM_string_50 : decode bM_string 50 = .ok (.getfield 101, 3) := by decide +kernel
theorem dM_string_53 : decode bM_string 53 = .ok (.i2l, 1) := by decide +kernel
theorem dM_string_54 : decode bM_string 54 = .ok (.lmul, 1) := by decide +kernel
theorem dM_string_55 : decode bM_string 55 = .ok (.lstore_n 2, 1) := by decide +kernel
theorem dM_string_56 : decode bM_string 56 = .ok (.aload_n 0, 1) := by decide +kernel
theorem dM_string_57 : decode bM_string 57 = .ok (.getfield 101, 3) := by decide +kernel
theorem dM_string_60 : decode bM_string 60 = .ok (.i2l, 1) := by decide +kernel
theorem dM_string_61 : decode bM_string 61 = .ok (.lconst 1, 1) := by decide +kernel
theorem dM_string_62 : decode bM_string 62 = .ok (.lsub, 1) := by decide +kernel
theorem dM_string_63 : decode bM_string 63 = .ok (.aload_n 0, 1) := by decide +kernel
theorem dM_string_64 : decode bM_string 64 = .ok (.getfield 9, 3) := by decide +kernel
theorem dM_string_67 : decode bM_string 67 = .ok (.lmul, 1) := by decide +kernel
theorem dM_string_68 : decode bM_string 68 = .ok (.lstore 4, 2) := by decide +kernel
theorem dM_string_70 : decode bM_string 70 = .ok (.lload_n 2, 1) := by decide +kernel
theorem dM_string_71 : decode bM_string 71 = .ok (.lload_n 2, 1) := by decide +kernel
theorem dM_string_72 : decode bM_string 72 = .ok (.lmul, 1) := by decide +kernel
theorem dM_string_73 : decode bM_string 73 = .ok (.lload 4, 2) := by decide +kernel
theorem dM_string_75 : decode bM_string 75 = .ok (.lload 4, 2) := by decide +kernel
theorem dM_string_77 : decode bM_string 77 = .ok (.lmul, 1) := by decide +kernel
theorem dM_string_78 : decode bM_string 78 = .ok (.ladd, 1) := by decide +kernel
theorem dM_string_79 : decode bM_string 79 = .ok (.lstore 6, 2) := by decide +kernel
theorem dM_string_81 : decode bM_string 81 = .ok (.lconst 0, 1) := by decide +kernel
theorem dM_string_82 : decode bM_string 82 = .ok (.lstore 8, 2) := by decide +kernel
theorem dM_string_84 : decode bM_string 84 = .ok (.bipush 25, 2) := by decide +kernel
theorem dM_string_86 : decode bM_string 86 = .ok (.istore 10, 2) := by decide +kernel
theorem dM_string_88 : decode bM_string 88 = .ok (.iload 10, 2) := by decide +kernel
theorem dM_string_90 : decode bM_string 90 = .ok (.ifCond .lt 50, 3) := by decide +kernel
theorem dM_string_93 : decode bM_string 93 = .ok (.lload 8, 2) := by decide +kernel
theorem dM_string_95 : decode bM_string 95 = .ok (.lconst 1, 1) := by decide +kernel
theorem dM_string_96 : decode bM_string 96 = .ok (.iload 10, 2) := by decide +kernel
theorem dM_string_98 : decode bM_string 98 = .ok (.lshl, 1) := by decide +kernel
theorem dM_string_99 : decode bM_string 99 = .ok (.lor, 1) := by decide +kernel
theorem dM_string_100 : decode bM_string 100 = .ok (.lstore 11, 2) := by decide +kernel
theorem dM_string_102 : decode bM_string 102 = .ok (.lload 11, 2) := by decide +kernel
theorem dM_string_104 : decode bM_string 104 = .ok (.lload 11, 2) := by decide +kernel
theorem dM_string_106 : decode bM_string 106 = .ok (.lmul, 1) := by decide +kernel
theorem dM_string_107 : decode bM_string 107 = .ok (.aload_n 0, 1) := by decide +kernel
theorem dM_string_108 : decode bM_string 108 = .ok (.getfield 101, 3) := by decide +kernel
theorem dM_string_111 : decode bM_string 111 = .ok (.i2l, 1) := by decide +kernel
theorem dM_string_112 : decode bM_string 112 = .ok (.lmul, 1) := by decide +kernel
theorem dM_string_113 : decode bM_string 113 = .ok (.aload_n 0, 1) := by decide +kernel
theorem dM_string_114 : decode bM_string 114 = .ok (.getfield 101, 3) := by decide +kernel
theorem dM_string_117 : decode bM_string 117 = .ok (.i2l, 1) := by decide +kernel
theorem dM_string_118 : decode bM_string 118 = .ok (.lmul, 1) := by decide +kernel
theorem dM_string_119 : decode bM_string 119 = .ok (.lload 6, 2) := by decide +kernel
theorem dM_string_121 : decode bM_string 121 = .ok (.lcmp, 1) := by decide +kernel
theorem dM_string_122 : decode bM_string 122 = .ok (.ifCond .gt 8, 3) := by decide +kernel
theorem dM_string_125 : decode bM_string 125 = .ok (.lload 11, 2) := by decide +kernel
theorem dM_string_127 : decode bM_string 127 = .ok (.goto 5, 3) := by decide +kernel
theorem dM_string_130 : decode bM_string 130 = .ok (.lload 8, 2) := by decide +kernel
theorem dM_string_132 : decode bM_string 132 = .ok (.lstore 8, 2) := by decide +kernel
theorem dM_string_134 : decode bM_string 134 = .ok (.iinc 10 (-1), 3) := by decide +kernel
theorem dM_string_137 : decode bM_string 137 = .ok (.goto (-49), 3) := by decide +kernel
theorem dM_string_140 : decode bM_string 140 = .ok (.iload_n 1, 1) := by decide +kernel
theorem dM_string_141 : decode bM_string 141 = .ok (.ifCond .eq 26, 3) := by decide +kernel
theorem dM_string_144 : decode bM_string 144 = .ok (.lload 8, 2) := by decide +kernel
theorem dM_string_146 : decode bM_string 146 = .ok (.lload 8, 2) := by decide +kernel
theorem dM_string_148 : decode bM_string 148 = .ok (.lmul, 1) := by decide +kernel
theorem dM_string_149 : decode bM_string 149 = .ok (.aload_n 0, 1) := by decide +kernel
theorem dM_string_150 : decode bM_string 150 = .ok (.getfield 101, 3) := by decide +kernel
theorem dM_string_153 : decode bM_string 153 = .ok (.i2l, 1) := by decide +kernel
theorem dM_string_154 : decode bM_string 154 = .ok (.lmul, 1) := by decide +kernel
theorem dM_string_155 : decode bM_string 155 = .ok (.aload_n 0, 1) := by decide +kernel
theorem dM_string_156 : decode bM_string 156 = .ok (.getfield 101, 3) := by decide +kernel
theorem dM_string_159 : decode bM_string 159 = .ok (.i2l, 1) := by decide +kernel
theorem dM_string_160 : decode bM_string 160 = .ok (.lmul, 1) := by decide +kernel
theorem dM_string_161 : decode bM_string 161 = .ok (.lload 6, 2) := by decide +kernel
theorem dM_string_163 : decode bM_string 163 = .ok (.lcmp, 1) := by decide +kernel
theorem dM_string_164 : decode bM_string 164 = .ok (.ifCond .ne 8, 3) := by decide +kernel
theorem dM_string_167 : decode bM_string 167 = .ok (.lload 8, 2) := by decide +kernel
theorem dM_string_169 : decode bM_string 169 = .ok (.goto 7, 3) := by decide +kernel
theorem dM_string_172 : decode bM_string 172 = .ok (.lload 8, 2) := by decide +kernel
theorem dM_string_174 : decode bM_string 174 = .ok (.lconst 1, 1) := by decide +kernel
theorem dM_string_175 : decode bM_string 175 = .ok (.ladd, 1) := by decide +kernel
theorem dM_string_176 : decode bM_string 176 = .ok (.lreturn, 1) := by decide +kernel
theorem dM_balusters_0 : decode bM_balusters 0 = .ok (.aload_n 0, 1) := by decide +kernel
theorem dM_balusters_1 : decode bM_balusters 1 = .ok (.invokevirtual 107, 3) := by decide +kernel
theorem dM_balusters_4 : decode bM_balusters 4 = .ok (.ifCond .eq 5, 3) := by decide +kernel
theorem dM_balusters_7 : decode bM_balusters 7 = .ok (.iconst 0, 1) := by decide +kernel
theorem dM_balusters_8 : decode bM_balusters 8 = .ok (.ireturn, 1) := by decide +kernel
theorem dM_balusters_9 : decode bM_balusters 9 = .ok (.aload_n 0, 1) := by decide +kernel
theorem dM_balusters_10 : decode bM_balusters 10 = .ok (.lload_n 1, 1) := by decide +kernel
theorem dM_balusters_11 : decode bM_balusters 11 = .ok (.lconst 1, 1) := by decide +kernel
theorem dM_balusters_12 : decode bM_balusters 12 = .ok (.ldc2_w 147, 3) := by decide +kernel
theorem dM_balusters_15 : decode bM_balusters 15 = .ok (.invokestatic 35, 3) := by decide +kernel
theorem dM_balusters_18 : decode bM_balusters 18 = .ok (.ifCond .eq 13, 3) := by decide +kernel
theorem dM_balusters_21 : decode bM_balusters 21 = .ok (.lload_n 3, 1) := by decide +kernel
theorem dM_balusters_22 : decode bM_balusters 22 = .ok (.lconst 0, 1) := by decide +kernel
theorem dM_balusters_23 : decode bM_balusters 23 = .ok (.lcmp, 1) := by decide +kernel
theorem dM_balusters_24 : decode bM_balusters 24 = .ok (.ifCond .lt 7, 3) := by decide +kernel
theorem dM_balusters_27 : decode bM_balusters 27 = .ok (.iconst 0, 1) := by decide +kernel
theorem dM_balusters_28 : decode bM_balusters 28 = .ok (.goto 4, 3) := by decide +kernel
theorem dM_balusters_31 : decode bM_balusters 31 = .ok (.iconst 2, 1) := by decide +kernel
theorem dM_balusters_32 : decode bM_balusters 32 = .ok (.putfield 29, 3) := by decide +kernel
theorem dM_balusters_35 : decode bM_balusters 35 = .ok (.aload_n 0, 1) := by decide +kernel
theorem dM_balusters_36 : decode bM_balusters 36 = .ok (.getfield 29, 3) := by decide +kernel
theorem dM_balusters_39 : decode bM_balusters 39 = .ok (.ifCond .le 5, 3) := by decide +kernel
theorem dM_balusters_42 : decode bM_balusters 42 = .ok (.iconst 0, 1) := by decide +kernel
theorem dM_balusters_43 : decode bM_balusters 43 = .ok (.ireturn, 1) := by decide +kernel
theorem dM_balusters_44 : decode bM_balusters 44 = .ok (.aload_n 0, 1) := by decide +kernel
theorem dM_balusters_45 : decode bM_balusters 45 = .ok (.iconst 0, 1) := by decide +kernel
theorem dM_balusters_46 : decode bM_balusters 46 = .ok (.putfield 104, 3) := by decide +kernel
theorem dM_balusters_49 : decode bM_balusters 49 = .ok (.aload_n 0, 1) := by decide +kernel
theorem dM_balusters_50 : decode bM_balusters 50 = .ok (.getfield 101, 3) := by decide +kernel
theorem dM_balusters_53 : decode bM_balusters 53 = .ok (.i2l, 1) := by decide +kernel
theorem dM_balusters_54 : decode bM_balusters 54 = .ok (.lconst 1, 1) := by decide +kernel
theorem dM_balusters_55 : decode bM_balusters 55 = .ok (.lsub, 1) := by decide +kernel
theorem dM_balusters_56 : decode bM_balusters 56 = .ok (.aload_n 0, 1) := by decide +kernel
theorem dM_balusters_57 : decode bM_balusters 57 = .ok (.getfield 95, 3) := by decide +kernel
theorem dM_balusters_60 : decode bM_balusters 60 = .ok (.lmul, 1) := by decide +kernel
theorem dM_balusters_61 : decode bM_balusters 61 = .ok (.lstore 5, 2) := by decide +kernel
theorem dM_balusters_63 : decode bM_balusters 63 = .ok (.iconst 0, 1) := by decide +kernel
theorem dM_balusters_64 : decode bM_balusters 64 = .ok (.istore 7, 2) := by decide +kernel
theorem dM_balusters_66 : decode bM_balusters 66 = .ok (.iload 7, 2) := by decide +kernel
theorem dM_balusters_68 : decode bM_balusters 68 = .ok (.sipush 1000, 3) := by decide +kernel
theorem dM_balusters_71 : decode bM_balusters 71 = .ok (.if_icmp .gt 118, 3) := by decide +kernel
theorem dM_balusters_74 : decode bM_balusters 74 = .ok (.lload 5, 2) := by decide +kernel
theorem dM_balusters_76 : decode bM_balusters 76 = .ok (.iload 7, 2) := by decide +kernel
theorem dM_balusters_78 : decode bM_balusters 78 = .ok (.i2l, 1) := by decide +kernel
theorem dM_balusters_79 : decode bM_balusters 79 = .ok (.lload_n 1, 1) := by decide +kernel
theorem dM_balusters_80 : decode bM_balusters 80 = .ok (.lmul, 1) := by decide +kernel
theorem dM_balusters_81 : decode bM_balusters 81 = .ok (.lsub, 1) := by decide +kernel
theorem dM_balusters_82 : decode bM_balusters 82 = .ok (.lstore 8, 2) := by decide +kernel
theorem dM_balusters_84 : decode bM_balusters 84 = .ok (.lload 8, 2) := by decide +kernel
theorem dM_balusters_86 : decode bM_balusters 86 = .ok (.lconst 0, 1) := by decide +kernel
theorem dM_balusters_87 : decode bM_balusters 87 = .ok (.lcmp, 1) := by decide +kernel
theorem dM_balusters_88 : decode bM_balusters 88 = .ok (.ifCond .lt 46, 3) := by decide +kernel
theorem dM_balusters_91 : decode bM_balusters 91 = .ok (.lload 8, 2) := by decide +kernel
theorem dM_balusters_93 : decode bM_balusters 93 = .ok (.iload 7, 2) := by decide +kernel
theorem dM_balusters_95 : decode bM_balusters 95 = .ok (.iconst 1, 1) := by decide +kernel
theorem dM_balusters_96 : decode bM_balusters 96 = .ok (.iadd, 1) := by decide +kernel
theorem dM_balusters_97 : decode bM_balusters 97 = .ok (.i2l, 1) := by decide +kernel
theorem dM_balusters_98 : decode bM_balusters 98 = .ok (.lrem, 1) := by decide +kernel
theorem dM_balusters_99 : decode bM_balusters 99 = .ok (.lconst 0, 1) := by decide +kernel
theorem dM_balusters_100 : decode bM_balusters 100 = .ok (.lcmp, 1) := by decide +kernel
theorem dM_balusters_101 : decode bM_balusters 101 = .ok (.ifCond .ne 14, 3) := by decide +kernel
theorem dM_balusters_104 : decode bM_balusters 104 = .ok (.lload 8, 2) := by decide +kernel
theorem dM_balusters_106 : decode bM_balusters 106 = .ok (.iload 7, 2) := by decide +kernel
theorem dM_balusters_108 : decode bM_balusters 108 = .ok (.iconst 1, 1) := by decide +kernel
theorem dM_balusters_109 : decode bM_balusters 109 = .ok (.iadd, 1) := by decide +kernel
theorem dM_balusters_110 : decode bM_balusters 110 = .ok (.i2l, 1) := by decide +kernel
theorem dM_balusters_111 : decode bM_balusters 111 = .ok (.ldiv, 1) := by decide +kernel
theorem dM_balusters_112 : decode bM_balusters 112 = .ok (.goto 13, 3) := by decide +kernel
theorem dM_balusters_115 : decode bM_balusters 115 = .ok (.lload 8, 2) := by decide +kernel
theorem dM_balusters_117 : decode bM_balusters 117 = .ok (.iload 7, 2) := by decide +kernel
theorem dM_balusters_119 : decode bM_balusters 119 = .ok (.iconst 1, 1) := by decide +kernel
theorem dM_balusters_120 : decode bM_balusters 120 = .ok (.iadd, 1) := by decide +kernel
theorem dM_balusters_121 : decode bM_balusters 121 = .ok (.i2l, 1) := by decide +kernel
theorem dM_balusters_122 : decode bM_balusters 122 = .ok (.ldiv, 1) := by decide +kernel
theorem dM_balusters_123 : decode bM_balusters 123 = .ok (.lconst 1, 1) := by decide +kernel
theorem dM_balusters_124 : decode bM_balusters 124 = .ok (.ladd, 1) := by decide +kernel
theorem dM_balusters_125 : decode bM_balusters 125 = .ok (.lload_n 3, 1) := by decide +kernel
theorem dM_balusters_126 : decode bM_balusters 126 = .ok (.lcmp, 1) := by decide +kernel
theorem dM_balusters_127 : decode bM_balusters 127 = .ok (.ifCond .gt 7, 3) := by decide +kernel
theorem dM_balusters_130 : decode bM_balusters 130 = .ok (.iconst 1, 1) := by decide +kernel
theorem dM_balusters_131 : decode bM_balusters 131 = .ok (.goto 4, 3) := by decide +kernel
theorem dM_balusters_134 : decode bM_balusters 134 = .ok (.iconst 0, 1) := by decide +kernel
theorem dM_balusters_135 : decode bM_balusters 135 = .ok (.istore 10, 2) := by decide +kernel
theorem dM_balusters_137 : decode bM_balusters 137 = .ok (.iload 10, 2) := by decide +kernel
theorem dM_balusters_139 : decode bM_balusters 139 = .ok (.ifCond .eq 44, 3) := by decide +kernel
theorem dM_balusters_142 : decode bM_balusters 142 = .ok (.aload_n 0, 1) := by decide +kernel
theorem dM_balusters_143 : decode bM_balusters 143 = .ok (.iconst 1, 1) := by decide +kernel
theorem dM_balusters_144 : decode bM_balusters 144 = .ok (.putfield 104, 3) := by decide +kernel
theorem dM_balusters_147 : decode bM_balusters 147 = .ok (.lload 8, 2) := by decide +kernel
theorem dM_balusters_149 : decode bM_balusters 149 = .ok (.iload 7, 2) := by decide +kernel
theorem dM_balusters_151 : decode bM_balusters 151 = .ok (.i2l, 1) := by decide +kernel
theorem dM_balusters_152 : decode bM_balusters 152 = .ok (.lconst 1, 1) := by decide +kernel
theorem dM_balusters_153 : decode bM_balusters 153 = .ok (.ladd, 1) := by decide +kernel
theorem dM_balusters_154 : decode bM_balusters 154 = .ok (.invokestatic 110, 3) := by decide +kernel
theorem dM_balusters_157 : decode bM_balusters 157 = .ok (.lstore 11, 2) := by decide +kernel
theorem dM_balusters_159 : decode bM_balusters 159 = .ok (.aload_n 0, 1) := by decide +kernel
theorem dM_balusters_160 : decode bM_balusters 160 = .ok (.lload 8, 2) := by decide +kernel
theorem dM_balusters_162 : decode bM_balusters 162 = .ok (.lload 11, 2) := by decide +kernel
theorem dM_balusters_164 : decode bM_balusters 164 = .ok (.ldiv, 1) := by decide +kernel
theorem dM_balusters_165 : decode bM_balusters 165 = .ok (.putfield 149, 3) := by decide +kernel
theorem dM_balusters_168 : decode bM_balusters 168 = .ok (.aload_n 0, 1) := by decide +kernel
theorem dM_balusters_169 : decode bM_balusters 169 = .ok (.iload 7, 2) := by decide +kernel
theorem dM_balusters_171 : decode bM_balusters 171 = .ok (.i2l, 1) := by decide +kernel
theorem dM_balusters_172 : decode bM_balusters 172 = .ok (.lconst 1, 1) := by decide +kernel
theorem dM_balusters_173 : decode bM_balusters 173 = .ok (.ladd, 1) := by decide +kernel
theorem dM_balusters_174 : decode bM_balusters 174 = .ok (.lload 11, 2) := by decide +kernel
theorem dM_balusters_176 : decode bM_balusters 176 = .ok (.ldiv, 1) := by decide +kernel
theorem dM_balusters_177 : decode bM_balusters 177 = .ok (.putfield 152, 3) := by decide +kernel
theorem dM_balusters_180 : decode bM_balusters 180 = .ok (.iload 7, 2) := by decide +kernel
theorem dM_balusters_182 : decode bM_balusters 182 = .ok (.ireturn, 1) := by decide +kernel
theorem dM_balusters_183 : decode bM_balusters 183 = .ok (.iinc 7 1, 3) := by decide +kernel
theorem dM_balusters_186 : decode bM_balusters 186 = .ok (.goto (-120), 3) := by decide +kernel
theorem dM_balusters_189 : decode bM_balusters 189 = .ok (.iconst (-1), 1) := by decide +kernel
theorem dM_balusters_190 : decode bM_balusters 190 = .ok (.ireturn, 1) := by decide +kernel
theorem dM_gap_0 : decode bM_gap 0 = .ok (.aload_n 0, 1) := by decide +kernel
theorem dM_gap_1 : decode bM_gap 1 = .ok (.aload_n 0, 1) := by decide +kernel
theorem dM_gap_2 : decode bM_gap 2 = .ok (.getfield 39, 3) := by decide +kernel
theorem dM_gap_5 : decode bM_gap 5 = .ok (.ifCond .eq 10, 3) := by decide +kernel
theorem dM_gap_8 : decode bM_gap 8 = .ok (.aload_n 0, 1) := by decide +kernel
theorem dM_gap_9 : decode bM_gap 9 = .ok (.getfield 104, 3) := by decide +kernel
theorem dM_gap_12 : decode bM_gap 12 = .ok (.ifCond .ne 7, 3) := by decide +kernel
theorem dM_gap_15 : decode bM_gap 15 = .ok (.iconst 1, 1) := by decide +kernel
theorem dM_gap_16 : decode bM_gap 16 = .ok (.goto 18, 3) := by decide +kernel
theorem dM_gap_19 : decode bM_gap 19 = .ok (.iload_n 1, 1) := by decide +kernel
theorem dM_gap_20 : decode bM_gap 20 = .ok (.i2l, 1) := by decide +kernel
theorem dM_gap_21 : decode bM_gap 21 = .ok (.lconst 0, 1) := by decide +kernel
theorem dM_gap_22 : decode bM_gap 22 = .ok (.lconst 1, 1) := by decide +kernel
theorem dM_gap_23 : decode bM_gap 23 = .ok (.invokestatic 35, 3) := by decide +kernel
theorem dM_gap_26 : decode bM_gap 26 = .ok (.ifCond .eq 7, 3) := by decide +kernel
theorem dM_gap_29 : decode bM_gap 29 = .ok (.iconst 0, 1) := by decide +kernel
theorem dM_gap_30 : decode bM_gap 30 = .ok (.goto 4, 3) := by decide +kernel
theorem dM_gap_33 : decode bM_gap 33 = .ok (.iconst 2, 1) := by decide +kernel
theorem dM_gap_34 : decode bM_gap 34 = .ok (.putfield 29, 3) := by decide +kernel
theorem dM_gap_37 : decode bM_gap 37 = .ok (.aload_n 0, 1) := by decide +kernel
theorem dM_gap_38 : decode bM_gap 38 = .ok (.getfield 29, 3) := by decide +kernel
theorem dM_gap_41 : decode bM_gap 41 = .ok (.ifCond .le 7, 3) := by decide +kernel
theorem dM_gap_44 : decode bM_gap 44 = .ok (.lconst 0, 1) := by decide +kernel
theorem dM_gap_45 : decode bM_gap 45 = .ok (.goto 18, 3) := by decide +kernel
theorem dM_gap_48 : decode bM_gap 48 = .ok (.iload_n 1, 1) := by decide +kernel
theorem dM_gap_49 : decode bM_gap 49 = .ok (.ifCond .ne 10, 3) := by decide +kernel
theorem dM_gap_52 : decode bM_gap 52 = .ok (.aload_n 0, 1) := by decide +kernel
theorem dM_gap_53 : decode bM_gap 53 = .ok (.getfield 149, 3) := by decide +kernel
theorem dM_gap_56 : decode bM_gap 56 = .ok (.goto 7, 3) := by decide +kernel
theorem dM_gap_59 : decode bM_gap 59 = .ok (.aload_n 0, 1) := by decide +kernel
theorem dM_gap_60 : decode bM_gap 60 = .ok (.getfield 152, 3) := by decide +kernel
theorem dM_gap_63 : decode bM_gap 63 = .ok (.lreturn, 1) := by decide +kernel
theorem dM_list_0 : decode bM_list 0 = .ok (.aload_n 0, 1) := by decide +kernel
theorem dM_list_1 : decode bM_list 1 = .ok (.invokevirtual 107, 3) := by decide +kernel
theorem dM_list_4 : decode bM_list 4 = .ok (.ifCond .eq 5, 3) := by decide +kernel
theorem dM_list_7 : decode bM_list 7 = .ok (.iconst 0, 1) := by decide +kernel
theorem dM_list_8 : decode bM_list 8 = .ok (.ireturn, 1) := by decide +kernel
theorem dM_list_9 : decode bM_list 9 = .ok (.aload_n 0, 1) := by decide +kernel
theorem dM_list_10 : decode bM_list 10 = .ok (.iload_n 1, 1) := by decide +kernel
theorem dM_list_11 : decode bM_list 11 = .ok (.i2l, 1) := by decide +kernel
theorem dM_list_12 : decode bM_list 12 = .ok (.lconst 0, 1) := by decide +kernel
theorem dM_list_13 : decode bM_list 13 = .ok (.ldc2_w 132, 3) := by decide +kernel
theorem dM_list_16 : decode bM_list 16 = .ok (.invokestatic 35, 3) := by decide +kernel
theorem dM_list_19 : decode bM_list 19 = .ok (.ifCond .eq 7, 3) := by decide +kernel
theorem dM_list_22 : decode bM_list 22 = .ok (.iconst 0, 1) := by decide +kernel
theorem dM_list_23 : decode bM_list 23 = .ok (.goto 4, 3) := by decide +kernel
theorem dM_list_26 : decode bM_list 26 = .ok (.iconst 2, 1) := by decide +kernel
theorem dM_list_27 : decode bM_list 27 = .ok (.putfield 29, 3) := by decide +kernel
theorem dM_list_30 : decode bM_list 30 = .ok (.aload_n 0, 1) := by decide +kernel
theorem dM_list_31 : decode bM_list 31 = .ok (.getfield 29, 3) := by decide +kernel
theorem dM_list_34 : decode bM_list 34 = .ok (.ifCond .le 5, 3) := by decide +kernel
theorem dM_list_37 : decode bM_list 37 = .ok (.iconst 0, 1) := by decide +kernel
theorem dM_list_38 : decode bM_list 38 = .ok (.ireturn, 1) := by decide +kernel
theorem dM_list_39 : decode bM_list 39 = .ok (.iload_n 1, 1) := by decide +kernel
theorem dM_list_40 : decode bM_list 40 = .ok (.ifCond .ne 17, 3) := by decide +kernel
theorem dM_list_43 : decode bM_list 43 = .ok (.aload_n 0, 1) := by decide +kernel
theorem dM_list_44 : decode bM_list 44 = .ok (.getfield 101, 3) := by decide +kernel
theorem dM_list_47 : decode bM_list 47 = .ok (.iconst 1, 1) := by decide +kernel
theorem dM_list_48 : decode bM_list 48 = .ok (.isub, 1) := by decide +kernel
theorem dM_list_49 : decode bM_list 49 = .ok (.aload_n 0, 1) := by decide +kernel
theorem dM_list_50 : decode bM_list 50 = .ok (.invokevirtual 117, 3) := by decide +kernel
theorem dM_list_53 : decode bM_list 53 = .ok (.isub, 1) := by decide +kernel
theorem dM_list_54 : decode bM_list 54 = .ok (.goto 49, 3) := by decide +kernel
theorem dM_list_57 : decode bM_list 57 = .ok (.iload_n 1, 1) := by decide +kernel
theorem dM_list_58 : decode bM_list 58 = .ok (.iconst 1, 1) := by decide +kernel
theorem dM_list_59 : decode bM_list 59 = .ok (.if_icmp .ne 19, 3) := by decide +kernel
theorem dM_list_62 : decode bM_list 62 = .ok (.aload_n 0, 1) := by decide +kernel
theorem dM_list_63 : decode bM_list 63 = .ok (.getfield 92, 3) := by decide +kernel
theorem dM_list_66 : decode bM_list 66 = .ok (.iconst 1, 1) := by decide +kernel
theorem dM_list_67 : decode bM_list 67 = .ok (.if_icmp .ne 7, 3) := by decide +kernel
theorem dM_list_70 : decode bM_list 70 = .ok (.iconst 1, 1) := by decide +kernel
theorem dM_list_71 : decode bM_list 71 = .ok (.goto 32, 3) := by decide +kernel
theorem dM_list_74 : decode bM_list 74 = .ok (.iconst 0, 1) := by decide +kernel
theorem dM_list_75 : decode bM_list 75 = .ok (.goto 28, 3) := by decide +kernel
theorem dM_list_78 : decode bM_list 78 = .ok (.iload_n 1, 1) := by decide +kernel
theorem dM_list_79 : decode bM_list 79 = .ok (.iconst 2, 1) := by decide +kernel
theorem dM_list_80 : decode bM_list 80 = .ok (.if_icmp .ne 19, 3) := by decide +kernel
theorem dM_list_83 : decode bM_list 83 = .ok (.aload_n 0, 1) := by decide +kernel
theorem dM_list_84 : decode bM_list 84 = .ok (.getfield 92, 3) := by decide +kernel
theorem dM_list_87 : decode bM_list 87 = .ok (.iconst 2, 1) := by decide +kernel
theorem dM_list_88 : decode bM_list 88 = .ok (.if_icmp .ne 7, 3) := by decide +kernel
theorem dM_list_91 : decode bM_list 91 = .ok (.iconst 3, 1) := by decide +kernel
theorem dM_list_92 : decode bM_list 92 = .ok (.goto 11, 3) := by decide +kernel
theorem dM_list_95 : decode bM_list 95 = .ok (.iconst 0, 1) := by decide +kernel
theorem dM_list_96 : decode bM_list 96 = .ok (.goto 7, 3) := by decide +kernel
theorem dM_list_99 : decode bM_list 99 = .ok (.aload_n 0, 1) := by decide +kernel
theorem dM_list_100 : decode bM_list 100 = .ok (.getfield 101, 3) := by decide +kernel
theorem dM_list_103 : decode bM_list 103 = .ok (.ireturn, 1) := by decide +kernel
