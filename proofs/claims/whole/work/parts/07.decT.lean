theorem dT_init_0 : decode bT_init 0 = .ok (.aload_n 0, 1) := by decide +kernel
theorem dT_init_1 : decode bT_init 1 = .ok (.invokespecial 3, 3) := by decide +kernel
theorem dT_init_4 : decode bT_init 4 = .ok (.aload_n 0, 1) := by decide +kernel
theorem dT_init_5 : decode bT_init 5 = .ok (.bipush 120, 2) := by decide +kernel
theorem dT_init_7 : decode bT_init 7 = .ok (.newarray .char, 2) := by decide +kernel
theorem dT_init_9 : decode bT_init 9 = .ok (.putfield 11, 3) := by decide +kernel
theorem dT_init_12 : decode bT_init 12 = .ok (.aload_n 0, 1) := by decide +kernel
theorem dT_init_13 : decode bT_init 13 = .ok (.iconst 0, 1) := by decide +kernel
theorem dT_init_14 : decode bT_init 14 = .ok (.putfield 15, 3) := by decide +kernel
theorem dT_init_17 : decode bT_init 17 = .ok (.aload_n 0, 1) := by decide +kernel
theorem dT_init_18 : decode bT_init 18 = .ok (.iconst 0, 1) := by decide +kernel
theorem dT_init_19 : decode bT_init 19 = .ok (.putfield 19, 3) := by decide +kernel
theorem dT_init_22 : decode bT_init 22 = .ok (.return_, 1) := by decide +kernel
theorem dT_append_0 : decode bT_append 0 = .ok (.iload_n 1, 1) := by decide +kernel
theorem dT_append_1 : decode bT_append 1 = .ok (.bipush 33, 2) := by decide +kernel
theorem dT_append_3 : decode bT_append 3 = .ok (.if_icmp .lt 18, 3) := by decide +kernel
theorem dT_append_6 : decode bT_append 6 = .ok (.iload_n 1, 1) := by decide +kernel
theorem dT_append_7 : decode bT_append 7 = .ok (.bipush 126, 2) := by decide +kernel
theorem dT_append_9 : decode bT_append 9 = .ok (.if_icmp .gt 12, 3) := by decide +kernel
theorem dT_append_12 : decode bT_append 12 = .ok (.aload_n 0, 1) := by decide +kernel
theorem dT_append_13 : decode bT_append 13 = .ok (.getfield 15, 3) := by decide +kernel
theorem dT_append_16 : decode bT_append 16 = .ok (.bipush 120, 2) := by decide +kernel
theorem dT_append_18 : decode bT_append 18 = .ok (.if_icmp .lt 5, 3) := by decide +kernel
theorem dT_append_21 : decode bT_append 21 = .ok (.iconst 0, 1) := by decide +kernel
theorem dT_append_22 : decode bT_append 22 = .ok (.ireturn, 1) := by decide +kernel
theorem dT_append_23 : decode bT_append 23 = .ok (.aload_n 0, 1) := by decide +kernel
theorem dT_append_24 : decode bT_append 24 = .ok (.getfield 11, 3) := by decide +kernel
theorem dT_append_27 : decode bT_append 27 = .ok (.aload_n 0, 1) := by decide +kernel
theorem dT_append_28 : decode bT_append 28 = .ok (.getfield 15, 3) := by decide +kernel
theorem dT_append_31 : decode bT_append 31 = .ok (.iload_n 1, 1) := by decide +kernel
theorem dT_append_32 : decode bT_append 32 = .ok (.i2c, 1) := by decide +kernel
theorem dT_append_33 : decode bT_append 33 = .ok (.castore, 1) := by decide +kernel
theorem dT_append_34 : decode bT_append 34 = .ok (.aload_n 0, 1) := by decide +kernel
theorem dT_append_35 : decode bT_append 35 = .ok (.dup, 1) := by decide +kernel
theorem dT_append_36 : decode bT_append 36 = .ok (.getfield 15, 3) := by decide +kernel
theorem dT_append_39 : decode bT_append 39 = .ok (.iconst 1, 1) := by decide +kernel
theorem dT_append_40 : decode bT_append 40 = .ok (.iadd, 1) := by decide +kernel
theorem dT_append_41 : decode bT_append 41 = .ok (.putfield 15, 3) := by decide +kernel
theorem dT_append_44 : decode bT_append 44 = .ok (.iconst 1, 1) := by decide +kernel
theorem dT_append_45 : decode bT_append 45 = .ok (.ireturn, 1) := by decide +kernel
theorem dT_clear_0 : decode bT_clear 0 = .ok (.aload_n 0, 1) := by decide +kernel
theorem dT_clear_1 : decode bT_clear 1 = .ok (.iconst 0, 1) := by decide +kernel
theorem dT_clear_2 : decode bT_clear 2 = .ok (.putfield 15, 3) := by decide +kernel
theorem dT_clear_5 : decode bT_clear 5 = .ok (.return_, 1) := by decide +kernel
theorem dT_readInto_0 : decode bT_readInto 0 = .ok (.aload_n 1, 1) := by decide +kernel
theorem dT_readInto_1 : decode bT_readInto 1 = .ok (.invokevirtual 22, 3) := by decide +kernel
theorem dT_readInto_4 : decode bT_readInto 4 = .ok (.aload_n 0, 1) := by decide +kernel
theorem dT_readInto_5 : decode bT_readInto 5 = .ok (.iconst 0, 1) := by decide +kernel
theorem dT_readInto_6 : decode bT_readInto 6 = .ok (.putfield 19, 3) := by decide +kernel
theorem dT_readInto_9 : decode bT_readInto 9 = .ok (.iconst 0, 1) := by decide +kernel
theorem dT_readInto_10 : decode bT_readInto 10 = .ok (.istore_n 2, 1) := by decide +kernel
theorem dT_readInto_11 : decode bT_readInto 11 = .ok (.iload_n 2, 1) := by decide +kernel
theorem dT_readInto_12 : decode bT_readInto 12 = .ok (.bipush 8, 2) := by decide +kernel
theorem dT_readInto_14 : decode bT_readInto 14 = .ok (.if_icmp .ge 59, 3) := by decide +kernel
theorem dT_readInto_17 : decode bT_readInto 17 = .ok (.aload_n 0, 1) := by decide +kernel
theorem dT_readInto_18 : decode bT_readInto 18 = .ok (.aload_n 1, 1) := by decide +kernel
theorem dT_readInto_19 : decode bT_readInto 19 = .ok (.invokevirtual 27, 3) := by decide +kernel
theorem dT_readInto_22 : decode bT_readInto 22 = .ok (.ifCond .ne 5, 3) := by decide +kernel
theorem dT_readInto_25 : decode bT_readInto 25 = .ok (.iconst 0, 1) := by decide +kernel
theorem dT_readInto_26 : decode bT_readInto 26 = .ok (.ireturn, 1) := by decide +kernel
theorem dT_readInto_27 : decode bT_readInto 27 = .ok (.aload_n 0, 1) := by decide +kernel
theorem dT_readInto_28 : decode bT_readInto 28 = .ok (.getfield 19, 3) := by decide +kernel
theorem dT_readInto_31 : decode bT_readInto 31 = .ok (.aload_n 0, 1) := by decide +kernel
theorem dT_readInto_32 : decode bT_readInto 32 = .ok (.getfield 15, 3) := by decide +kernel
theorem dT_readInto_35 : decode bT_readInto 35 = .ok (.if_icmp .ne 5, 3) := by decide +kernel
theorem dT_readInto_38 : decode bT_readInto 38 = .ok (.iconst 1, 1) := by decide +kernel
theorem dT_readInto_39 : decode bT_readInto 39 = .ok (.ireturn, 1) := by decide +kernel
theorem dT_readInto_40 : decode bT_readInto 40 = .ok (.aload_n 0, 1) := by decide +kernel
theorem dT_readInto_41 : decode bT_readInto 41 = .ok (.invokevirtual 31, 3) := by decide +kernel
theorem dT_readInto_44 : decode bT_readInto 44 = .ok (.bipush 59, 2) := by decide +kernel
theorem dT_readInto_46 : decode bT_readInto 46 = .ok (.if_icmp .ne 9, 3) := by decide +kernel
theorem dT_readInto_49 : decode bT_readInto 49 = .ok (.iload_n 2, 1) := by decide +kernel
theorem dT_readInto_50 : decode bT_readInto 50 = .ok (.bipush 7, 2) := by decide +kernel
theorem dT_readInto_52 : decode bT_readInto 52 = .ok (.if_icmp .ne 5, 3) := by decide +kernel
theorem dT_readInto_55 : decode bT_readInto 55 = .ok (.iconst 0, 1) := by decide +kernel
theorem dT_readInto_56 : decode bT_readInto 56 = .ok (.ireturn, 1) := by decide +kernel
theorem dT_readInto_57 : decode bT_readInto 57 = .ok (.aload_n 0, 1) := by decide +kernel
theorem dT_readInto_58 : decode bT_readInto 58 = .ok (.dup, 1) := by decide +kernel
theorem dT_readInto_59 : decode bT_readInto 59 = .ok (.getfield 19, 3) := by decide +kernel
theorem dT_readInto_62 : decode bT_readInto 62 = .ok (.iconst 1, 1) := by decide +kernel
theorem dT_readInto_63 : decode bT_readInto 63 = .ok (.iadd, 1) := by decide +kernel
theorem dT_readInto_64 : decode bT_readInto 64 = .ok (.putfield 19, 3) := by decide +kernel
theorem dT_readInto_67 : decode bT_readInto 67 = .ok (.iinc 2 1, 3) := by decide +kernel
theorem dT_readInto_70 : decode bT_readInto 70 = .ok (.goto (-59), 3) := by decide +kernel
theorem dT_readInto_73 : decode bT_readInto 73 = .ok (.iconst 0, 1) := by decide +kernel
theorem dT_readInto_74 : decode bT_readInto 74 = .ok (.ireturn, 1) := by decide +kernel
theorem dT_readRule_0 : decode bT_readRule 0 = .ok (.aload_n 0, 1) := by decide +kernel
theorem dT_readRule_1 : decode bT_readRule 1 = .ok (.aload_n 1, 1) := by decide +kernel
theorem dT_readRule_2 : decode bT_readRule 2 = .ok (.invokevirtual 35, 3) := by decide +kernel
theorem dT_readRule_5 : decode bT_readRule 5 = .ok (.ifCond .ne 5, 3) := by decide +kernel
theorem dT_readRule_8 : decode bT_readRule 8 = .ok (.iconst 0, 1) := by decide +kernel
theorem dT_readRule_9 : decode bT_readRule 9 = .ok (.ireturn, 1) := by decide +kernel
theorem dT_readRule_10 : decode bT_readRule 10 = .ok (.aload_n 0, 1) := by decide +kernel
theorem dT_readRule_11 : decode bT_readRule 11 = .ok (.invokevirtual 31, 3) := by decide +kernel
theorem dT_readRule_14 : decode bT_readRule 14 = .ok (.istore_n 2, 1) := by decide +kernel
theorem dT_readRule_15 : decode bT_readRule 15 = .ok (.iload_n 2, 1) := by decide +kernel
theorem dT_readRule_16 : decode bT_readRule 16 = .ok (.bipush 60, 2) := by decide +kernel
theorem dT_readRule_18 : decode bT_readRule 18 = .ok (.if_icmp .eq 17, 3) := by decide +kernel
theorem dT_readRule_21 : decode bT_readRule 21 = .ok (.iload_n 2, 1) := by decide +kernel
theorem dT_readRule_22 : decode bT_readRule 22 = .ok (.bipush 62, 2) := by decide +kernel
theorem dT_readRule_24 : decode bT_readRule 24 = .ok (.if_icmp .eq 11, 3) := by decide +kernel
theorem dT_readRule_27 : decode bT_readRule 27 = .ok (.iload_n 2, 1) := by decide +kernel
theorem dT_readRule_28 : decode bT_readRule 28 = .ok (.bipush 61, 2) := by decide +kernel
theorem dT_readRule_30 : decode bT_readRule 30 = .ok (.if_icmp .eq 5, 3) := by decide +kernel
theorem dT_readRule_33 : decode bT_readRule 33 = .ok (.iconst 0, 1) := by decide +kernel
theorem dT_readRule_34 : decode bT_readRule 34 = .ok (.ireturn, 1) := by decide +kernel
theorem dT_readRule_35 : decode bT_readRule 35 = .ok (.aload_n 0, 1) := by decide +kernel
theorem dT_readRule_36 : decode bT_readRule 36 = .ok (.dup, 1) := by decide +kernel
theorem dT_readRule_37 : decode bT_readRule 37 = .ok (.getfield 19, 3) := by decide +kernel
theorem dT_readRule_40 : decode bT_readRule 40 = .ok (.iconst 1, 1) := by decide +kernel
theorem dT_readRule_41 : decode bT_readRule 41 = .ok (.iadd, 1) := by decide +kernel
theorem dT_readRule_42 : decode bT_readRule 42 = .ok (.putfield 19, 3) := by decide +kernel
theorem dT_readRule_45 : decode bT_readRule 45 = .ok (.aload_n 0, 1) := by decide +kernel
theorem dT_readRule_46 : decode bT_readRule 46 = .ok (.bipush 6, 2) := by decide +kernel
theorem dT_readRule_48 : decode bT_readRule 48 = .ok (.invokevirtual 38, 3) := by decide +kernel
theorem dT_readRule_51 : decode bT_readRule 51 = .ok (.istore_n 3, 1) := by decide +kernel
theorem dT_readRule_52 : decode bT_readRule 52 = .ok (.iload_n 3, 1) := by decide +kernel
theorem dT_readRule_53 : decode bT_readRule 53 = .ok (.iconst (-1), 1) := by decide +kernel
theorem dT_readRule_54 : decode bT_readRule 54 = .ok (.if_icmp .ne 5, 3) := by decide +kernel
theorem dT_readRule_57 : decode bT_readRule 57 = .ok (.iconst 0, 1) := by decide +kernel
theorem dT_readRule_58 : decode bT_readRule 58 = .ok (.ireturn, 1) := by decide +kernel
theorem dT_readRule_59 : decode bT_readRule 59 = .ok (.aload_n 1, 1) := by decide +kernel
theorem dT_readRule_60 : decode bT_readRule 60 = .ok (.iload_n 2, 1) := by decide +kernel
theorem dT_readRule_61 : decode bT_readRule 61 = .ok (.iload_n 3, 1) := by decide +kernel
theorem dT_readRule_62 : decode bT_readRule 62 = .ok (.invokevirtual 42, 3) := by decide +kernel
theorem dT_readRule_65 : decode bT_readRule 65 = .ok (.iconst 1, 1) := by decide +kernel
theorem dT_readRule_66 : decode bT_readRule 66 = .ok (.ireturn, 1) := by decide +kernel
theorem dT_readSum_0 : decode bT_readSum 0 = .ok (.iconst 0, 1) := by decide +kernel
theorem dT_readSum_1 : decode bT_readSum 1 = .ok (.istore_n 2, 1) := by decide +kernel
theorem dT_readSum_2 : decode bT_readSum 2 = .ok (.iload_n 2, 1) := by decide +kernel
theorem dT_readSum_3 : decode bT_readSum 3 = .ok (.iconst 4, 1) := by decide +kernel
theorem dT_readSum_4 : decode bT_readSum 4 = .ok (.if_icmp .ge 45, 3) := by decide +kernel
theorem dT_readSum_7 : decode bT_readSum 7 = .ok (.aload_n 0, 1) := by decide +kernel
theorem dT_readSum_8 : decode bT_readSum 8 = .ok (.aload_n 1, 1) := by decide +kernel
theorem dT_readSum_9 : decode bT_readSum 9 = .ok (.invokevirtual 46, 3) := by decide +kernel
theorem dT_readSum_12 : decode bT_readSum 12 = .ok (.ifCond .ne 5, 3) := by decide +kernel
theorem dT_readSum_15 : decode bT_readSum 15 = .ok (.iconst 0, 1) := by decide +kernel
theorem dT_readSum_16 : decode bT_readSum 16 = .ok (.ireturn, 1) := by decide +kernel
theorem dT_readSum_17 : decode bT_readSum 17 = .ok (.aload_n 0, 1) := by decide +kernel
theorem dT_readSum_18 : decode bT_readSum 18 = .ok (.invokevirtual 31, 3) := by decide +kernel
theorem dT_readSum_21 : decode bT_readSum 21 = .ok (.bipush 43, 2) := by decide +kernel
theorem dT_readSum_23 : decode bT_readSum 23 = .ok (.if_icmp .ne 8, 3) := by decide +kernel
theorem dT_readSum_26 : decode bT_readSum 26 = .ok (.iload_n 2, 1) := by decide +kernel
theorem dT_readSum_27 : decode bT_readSum 27 = .ok (.iconst 3, 1) := by decide +kernel
theorem dT_readSum_28 : decode bT_readSum 28 = .ok (.if_icmp .ne 5, 3) := by decide +kernel
theorem dT_readSum_31 : decode bT_readSum 31 = .ok (.iconst 1, 1) := by decide +kernel
theorem dT_readSum_32 : decode bT_readSum 32 = .ok (.ireturn, 1) := by decide +kernel
theorem dT_readSum_33 : decode bT_readSum 33 = .ok (.aload_n 0, 1) := by decide +kernel
theorem dT_readSum_34 : decode bT_readSum 34 = .ok (.dup, 1) := by decide +kernel
theorem dT_readSum_35 : decode bT_readSum 35 = .ok (.getfield 19, 3) := by decide +kernel
theorem dT_readSum_38 : decode bT_readSum 38 = .ok (.iconst 1, 1) := by decide +kernel
theorem dT_readSum_39 : decode bT_readSum 39 = .ok (.iadd, 1) := by decide +kernel
theorem dT_readSum_40 : decode bT_readSum 40 = .ok (.putfield 19, 3) := by decide +kernel
theorem dT_readSum_43 : decode bT_readSum 43 = .ok (.iinc 2 1, 3) := by decide +kernel
theorem dT_readSum_46 : decode bT_readSum 46 = .ok (.goto (-44), 3) := by decide +kernel
theorem dT_readSum_49 : decode bT_readSum 49 = .ok (.iconst 1, 1) := by decide +kernel
theorem dT_readSum_50 : decode bT_readSum 50 = .ok (.ireturn, 1) := by decide +kernel
theorem dT_readTerm_0 : decode bT_readTerm 0 = .ok (.aload_n 0, 1) := by decide +kernel
theorem dT_readTerm_1 : decode bT_readTerm 1 = .ok (.iconst 2, 1) := by decide +kernel
theorem dT_readTerm_2 : decode bT_readTerm 2 = .ok (.invokevirtual 38, 3) := by decide +kernel
theorem dT_readTerm_5 : decode bT_readTerm 5 = .ok (.istore_n 2, 1) := by decide +kernel
theorem dT_readTerm_6 : decode bT_readTerm 6 = .ok (.ldc 49, 2) := by decide +kernel
theorem dT_readTerm_8 : decode bT_readTerm 8 = .ok (.aload_n 0, 1) := by decide +kernel
theorem dT_readTerm_9 : decode bT_readTerm 9 = .ok (.invokevirtual 31, 3) := by decide +kernel
theorem dT_readTerm_12 : decode bT_readTerm 12 = .ok (.invokevirtual 51, 3) := by decide +kernel
theorem dT_readTerm_15 : decode bT_readTerm 15 = .ok (.istore_n 3, 1) := by decide +kernel
theorem dT_readTerm_16 : decode bT_readTerm 16 = .ok (.iload_n 3, 1) := by decide +kernel
theorem dT_readTerm_17 : decode bT_readTerm 17 = .ok (.ifCond .ge 5, 3) := by decide +kernel
theorem dT_readTerm_20 : decode bT_readTerm 20 = .ok (.iconst 0, 1) := by decide +kernel
theorem dT_readTerm_21 : decode bT_readTerm 21 = .ok (.ireturn, 1) := by decide +kernel
theorem dT_readTerm_22 : decode bT_readTerm 22 = .ok (.aload_n 0, 1) := by decide +kernel
theorem dT_readTerm_23 : decode bT_readTerm 23 = .ok (.dup, 1) := by decide +kernel
theorem dT_readTerm_24 : decode bT_readTerm 24 = .ok (.getfield 19, 3) := by decide +kernel
theorem dT_readTerm_27 : decode bT_readTerm 27 = .ok (.iconst 1, 1) := by decide +kernel
theorem dT_readTerm_28 : decode bT_readTerm 28 = .ok (.iadd, 1) := by decide +kernel
theorem dT_readTerm_29 : decode bT_readTerm 29 = .ok (.putfield 19, 3) := by decide +kernel
theorem dT_readTerm_32 : decode bT_readTerm 32 = .ok (.aload_n 1, 1) := by decide +kernel
theorem dT_readTerm_33 : decode bT_readTerm 33 = .ok (.iload_n 2, 1) := by decide +kernel
theorem dT_readTerm_34 : decode bT_readTerm 34 = .ok (.iconst (-1), 1) := by decide +kernel
theorem dT_readTerm_35 : decode bT_readTerm 35 = .ok (.if_icmp .ne 7, 3) := by decide +kernel
theorem dT_readTerm_38 : decode bT_readTerm 38 = .ok (.iconst 1, 1) := by decide +kernel
theorem dT_readTerm_39 : decode bT_readTerm 39 = .ok (.goto 4, 3) := by decide +kernel
theorem dT_readTerm_42 : decode bT_readTerm 42 = .ok (.iload_n 2, 1) := by decide +kernel
theorem dT_readTerm_43 : decode bT_readTerm 43 = .ok (.iload_n 3, 1) := by decide +kernel
theorem dT_readTerm_44 : decode bT_readTerm 44 = .ok (.invokevirtual 56, 3) := by decide +kernel
theorem dT_readTerm_47 : decode bT_readTerm 47 = .ok (.iconst 1, 1) := by decide +kernel
theorem dT_readTerm_48 : decode bT_readTerm 48 = .ok (.ireturn, 1) := by decide +kernel
theorem dT_readNumber_0 : decode bT_readNumber 0 = .ok (.iconst (-1), 1) := by decide +kernel
theorem dT_readNumber_1 : decode bT_readNumber 1 = .ok (.istore_n 2, 1) := by decide +kernel
theorem dT_readNumber_2 : decode bT_readNumber 2 = .ok (.iconst 0, 1) := by decide +kernel
theorem dT_readNumber_3 : decode bT_readNumber 3 = .ok (.istore_n 3, 1) := by decide +kernel
theorem dT_readNumber_4 : decode bT_readNumber 4 = .ok (.iload_n 3, 1) := by decide +kernel
theorem dT_readNumber_5 : decode bT_readNumber 5 = .ok (.iload_n 1, 1) := by decide +kernel
theorem dT_readNumber_6 : decode bT_readNumber 6 = .ok (.if_icmp .ge 63, 3) := by decide +kernel
theorem dT_readNumber_9 : decode bT_readNumber 9 = .ok (.aload_n 0, 1) := by decide +kernel
theorem dT_readNumber_10 : decode bT_readNumber 10 = .ok (.invokevirtual 31, 3) := by decide +kernel
theorem dT_readNumber_13 : decode bT_readNumber 13 = .ok (.bipush 48, 2) := by decide +kernel
theorem dT_readNumber_15 : decode bT_readNumber 15 = .ok (.if_icmp .lt 54, 3) := by decide +kernel
theorem dT_readNumber_18 : decode bT_readNumber 18 = .ok (.aload_n 0, 1) := by decide +kernel
theorem dT_readNumber_19 : decode bT_readNumber 19 = .ok (.invokevirtual 31, 3) := by decide +kernel
theorem dT_readNumber_22 : decode bT_readNumber 22 = .ok (.bipush 57, 2) := by decide +kernel
theorem dT_readNumber_24 : decode bT_readNumber 24 = .ok (.if_icmp .gt 45, 3) := by decide +kernel
theorem dT_readNumber_27 : decode bT_readNumber 27 = .ok (.aload_n 0, 1) := by decide +kernel
theorem dT_readNumber_28 : decode bT_readNumber 28 = .ok (.invokevirtual 31, 3) := by decide +kernel
theorem dT_readNumber_31 : decode bT_readNumber 31 = .ok (.bipush 48, 2) := by decide +kernel
theorem dT_readNumber_33 : decode bT_readNumber 33 = .ok (.isub, 1) := by decide +kernel
theorem dT_readNumber_34 : decode bT_readNumber 34 = .ok (.istore 4, 2) := by decide +kernel
theorem dT_readNumber_36 : decode bT_readNumber 36 = .ok (.iload_n 3, 1) := by decide +kernel
theorem dT_readNumber_37 : decode bT_readNumber 37 = .ok (.ifCond .ne 8, 3) := by decide +kernel
theorem dT_readNumber_40 : decode bT_readNumber 40 = .ok (.iload 4, 2) := by decide +kernel
theorem dT_readNumber_42 : decode bT_readNumber 42 = .ok (.goto 10, 3) := by decide +kernel
theorem dT_readNumber_45 : decode bT_readNumber 45 = .ok (.iload_n 2, 1) := by decide +kernel
theorem dT_readNumber_46 : decode bT_readNumber 46 = .ok (.bipush 10, 2) := by decide +kernel
theorem dT_readNumber_48 : decode bT_readNumber 48 = .ok (.imul, 1) := by decide +kernel
theorem dT_readNumber_49 : decode bT_readNumber 49 = .ok (.iload 4, 2) := by decide +kernel
theorem dT_readNumber_51 : decode bT_readNumber 51 = .ok (.iadd, 1) := by decide +kernel
theorem dT_readNumber_52 : decode bT_readNumber 52 = .ok (.istore_n 2, 1) := by decide +kernel
theorem dT_readNumber_53 : decode bT_readNumber 53 = .ok (.aload_n 0, 1) := by decide +kernel
theorem dT_readNumber_54 : decode bT_readNumber 54 = .ok (.dup, 1) := by decide +kernel
theorem dT_readNumber_55 : decode bT_readNumber 55 = .ok (.getfield 19, 3) := by decide +kernel
theorem dT_readNumber_58 : decode bT_readNumber 58 = .ok (.iconst 1, 1) := by decide +kernel
theorem dT_readNumber_59 : decode bT_readNumber 59 = .ok (.iadd, 1) := by decide +kernel
theorem dT_readNumber_60 : decode bT_readNumber 60 = .ok (.putfield 19, 3) := by decide +kernel
theorem dT_readNumber_63 : decode bT_readNumber 63 = .ok (.iinc 3 1, 3) := by decide +kernel
theorem dT_readNumber_66 : decode bT_readNumber 66 = .ok (.goto (-62), 3) := by decide +kernel
theorem dT_readNumber_69 : decode bT_readNumber 69 = .ok (.iload_n 2, 1) := by decide +kernel
theorem dT_readNumber_70 : decode bT_readNumber 70 = .ok (.ireturn, 1) := by decide +kernel
theorem dT_next_0 : decode bT_next 0 = .ok (.aload_n 0, 1) := by decide +kernel
theorem dT_next_1 : decode bT_next 1 = .ok (.getfield 19, 3) := by decide +kernel
theorem dT_next_4 : decode bT_next 4 = .ok (.ifCond .lt 35, 3) := by decide +kernel
theorem dT_next_7 : decode bT_next 7 = .ok (.aload_n 0, 1) := by decide +kernel
theorem dT_next_8 : decode bT_next 8 = .ok (.getfield 19, 3) := by decide +kernel
theorem dT_next_11 : decode bT_next 11 = .ok (.aload_n 0, 1) := by decide +kernel
theorem dT_next_12 : decode bT_next 12 = .ok (.getfield 15, 3) := by decide +kernel
theorem dT_next_15 : decode bT_next 15 = .ok (.if_icmp .ge 24, 3) := by decide +kernel
theorem dT_next_18 : decode bT_next 18 = .ok (.aload_n 0, 1) := by decide +kernel
theorem dT_next_19 : decode bT_next 19 = .ok (.getfield 19, 3) := by decide +kernel
theorem dT_next_22 : decode bT_next 22 = .ok (.bipush 120, 2) := by decide +kernel
theorem dT_next_24 : decode bT_next 24 = .ok (.if_icmp .ge 15, 3) := by decide +kernel
theorem dT_next_27 : decode bT_next 27 = .ok (.aload_n 0, 1) := by decide +kernel
theorem dT_next_28 : decode bT_next 28 = .ok (.getfield 11, 3) := by decide +kernel
theorem dT_next_31 : decode bT_next 31 = .ok (.aload_n 0, 1) := by decide +kernel
theorem dT_next_32 : decode bT_next 32 = .ok (.getfield 19, 3) := by decide +kernel
theorem dT_next_35 : decode bT_next 35 = .ok (.caload, 1) := by decide +kernel
theorem dT_next_36 : decode bT_next 36 = .ok (.goto 4, 3) := by decide +kernel
theorem dT_next_39 : decode bT_next 39 = .ok (.iconst 0, 1) := by decide +kernel
theorem dT_next_40 : decode bT_next 40 = .ok (.ireturn, 1) := by decide +kernel
theorem dF_init_0 : decode bF_init 0 = .ok (.aload_n 0, 1) := by decide +kernel
theorem dF_init_1 : decode bF_init 1 = .ok (.invokespecial 1, 3) := by decide +kernel
theorem dF_init_4 : decode bF_init 4 = .ok (.aload_n 0, 1) := by decide +kernel
theorem dF_init_5 : decode bF_init 5 = .ok (.bipush 8, 2) := by decide +kernel
theorem dF_init_7 : decode bF_init 7 = .ok (.newarray .long, 2) := by decide +kernel
theorem dF_init_9 : decode bF_init 9 = .ok (.putfield 9, 3) := by decide +kernel
theorem dF_init_12 : decode bF_init 12 = .ok (.aload_n 0, 1) := by decide +kernel
theorem dF_init_13 : decode bF_init 13 = .ok (.bipush 8, 2) := by decide +kernel
theorem dF_init_15 : decode bF_init 15 = .ok (.newarray .long, 2) := by decide +kernel
theorem dF_init_17 : decode bF_init 17 = .ok (.putfield 13, 3) := by decide +kernel
theorem dF_init_20 : decode bF_init 20 = .ok (.aload_n 0, 1) := by decide +kernel
theorem dF_init_21 : decode bF_init 21 = .ok (.bipush 8, 2) := by decide +kernel
theorem dF_init_23 : decode bF_init 23 = .ok (.newarray .long, 2) := by decide +kernel
theorem dF_init_25 : decode bF_init 25 = .ok (.putfield 16, 3) := by decide +kernel
theorem dF_init_28 : decode bF_init 28 = .ok (.aload_n 0, 1) := by decide +kernel
theorem dF_init_29 : decode bF_init 29 = .ok (.bipush 8, 2) := by decide +kernel
theorem dF_init_31 : decode bF_init 31 = .ok (.newarray .long, 2) := by decide +kernel
theorem dF_init_33 : decode bF_init 33 = .ok (.putfield 19, 3) := by decide +kernel
theorem dF_init_36 : decode bF_init 36 = .ok (.aload_n 0, 1) := by decide +kernel
theorem dF_init_37 : decode bF_init 37 = .ok (.bipush 8, 2) := by decide +kernel
theorem dF_init_39 : decode bF_init 39 = .ok (.newarray .long, 2) := by decide +kernel
theorem dF_init_41 : decode bF_init 41 = .ok (.putfield 22, 3) := by decide +kernel
theorem dF_init_44 : decode bF_init 44 = .ok (.aload_n 0, 1) := by decide +kernel
theorem dF_init_45 : decode bF_init 45 = .ok (.iconst 0, 1) := by decide +kernel
theorem dF_init_46 : decode bF_init 46 = .ok (.putfield 25, 3) := by decide +kernel
theorem dF_init_49 : decode bF_init 49 = .ok (.return_, 1) := by decide +kernel
theorem dF_isPlace_0 : decode bF_isPlace 0 = .ok (.lload_n 0, 1) := by decide +kernel
theorem dF_isPlace_1 : decode bF_isPlace 1 = .ok (.ldc2_w 29, 3) := by decide +kernel
theorem dF_isPlace_4 : decode bF_isPlace 4 = .ok (.lcmp, 1) := by decide +kernel
theorem dF_isPlace_5 : decode bF_isPlace 5 = .ok (.ifCond .lt 15, 3) := by decide +kernel
theorem dF_isPlace_8 : decode bF_isPlace 8 = .ok (.lload_n 0, 1) := by decide +kernel
theorem dF_isPlace_9 : decode bF_isPlace 9 = .ok (.ldc2_w 31, 3) := by decide +kernel
theorem dF_isPlace_12 : decode bF_isPlace 12 = .ok (.lcmp, 1) := by decide +kernel
theorem dF_isPlace_13 : decode bF_isPlace 13 = .ok (.ifCond .gt 7, 3) := by decide +kernel
theorem dF_isPlace_16 : decode bF_isPlace 16 = .ok (.iconst 1, 1) := by decide +kernel
theorem dF_isPlace_17 : decode bF_isPlace 17 = .ok (.goto 4, 3) := by decide +kernel
theorem dF_isPlace_20 : decode bF_isPlace 20 = .ok (.iconst 0, 1) := by decide +kernel
theorem dF_isPlace_21 : decode bF_isPlace 21 = .ok (.ireturn, 1) := by decide +kernel
theorem dF_isHeight_0 : decode bF_isHeight 0 = .ok (.lload_n 0, 1) := by decide +kernel
theorem dF_isHeight_1 : decode bF_isHeight 1 = .ok (.lconst 0, 1) := by decide +kernel
theorem dF_isHeight_2 : decode bF_isHeight 2 = .ok (.lcmp, 1) := by decide +kernel
theorem dF_isHeight_3 : decode bF_isHeight 3 = .ok (.ifCond .lt 15, 3) := by decide +kernel
theorem dF_isHeight_6 : decode bF_isHeight 6 = .ok (.lload_n 0, 1) := by decide +kernel
theorem dF_isHeight_7 : decode bF_isHeight 7 = .ok (.ldc2_w 31, 3) := by decide +kernel
theorem dF_isHeight_10 : decode bF_isHeight 10 = .ok (.lcmp, 1) := by decide +kernel
theorem dF_isHeight_11 : decode bF_isHeight 11 = .ok (.ifCond .gt 7, 3) := by decide +kernel
theorem dF_isHeight_14 : decode bF_isHeight 14 = .ok (.iconst 1, 1) := by decide +kernel
theorem dF_isHeight_15 : decode bF_isHeight 15 = .ok (.goto 4, 3) := by decide +kernel
theorem dF_isHeight_18 : decode bF_isHeight 18 = .ok (.iconst 0, 1) := by decide +kernel
theorem dF_isHeight_19 : decode bF_isHeight 19 = .ok (.ireturn, 1) := by decide +kernel
theorem dF_append_0 : decode bF_append 0 = .ok (.aload_n 0, 1) := by decide +kernel
theorem dF_append_1 : decode bF_append 1 = .ok (.getfield 25, 3) := by decide +kernel
theorem dF_append_4 : decode bF_append 4 = .ok (.bipush 8, 2) := by decide +kernel
theorem dF_append_6 : decode bF_append 6 = .ok (.if_icmp .lt 5, 3) := by decide +kernel
theorem dF_append_9 : decode bF_append 9 = .ok (.iconst 0, 1) := by decide +kernel
theorem dF_append_10 : decode bF_append 10 = .ok (.ireturn, 1) := by decide +kernel
theorem dF_append_11 : decode bF_append 11 = .ok (.aload_n 0, 1) := by decide +kernel
theorem dF_append_12 : decode bF_append 12 = .ok (.getfield 9, 3) := by decide +kernel
theorem dF_append_15 : decode bF_append 15 = .ok (.aload_n 0, 1) := by decide +kernel
theorem dF_append_16 : decode bF_append 16 = .ok (.getfield 25, 3) := by decide +kernel
theorem dF_append_19 : decode bF_append 19 = .ok (.lload_n 1, 1) := by decide +kernel
theorem dF_append_20 : decode bF_append 20 = .ok (.lastore, 1) := by decide +kernel
theorem dF_append_21 : decode bF_append 21 = .ok (.aload_n 0, 1) := by decide +kernel
theorem dF_append_22 : decode bF_append 22 = .ok (.getfield 13, 3) := by decide +kernel
theorem dF_append_25 : decode bF_append 25 = .ok (.aload_n 0, 1) := by decide +kernel
theorem dF_append_26 : decode bF_append 26 = .ok (.getfield 25, 3) := by decide +kernel
theorem dF_append_29 : decode bF_append 29 = .ok (.lload_n 3, 1) := by decide +kernel
theorem dF_append_30 : decode bF_append 30 = .ok (.lastore, 1) := by decide +kernel
theorem dF_append_31 : decode bF_append 31 = .ok (.aload_n 0, 1) := by decide +kernel
theorem dF_append_32 : decode bF_append 32 = .ok (.getfield 16, 3) := by decide +kernel
theorem dF_append_35 : decode bF_append 35 = .ok (.aload_n 0, 1) := by decide +kernel
theorem dF_append_36 : decode bF_append 36 = .ok (.getfield 25, 3) := by decide +kernel
theorem dF_append_39 : decode bF_append 39 = .ok (.lload 5, 2) := by decide +kernel
theorem dF_append_41 : decode bF_append 41 = .ok (.lastore, 1) := by decide +kernel
theorem dF_append_42 : decode bF_append 42 = .ok (.aload_n 0, 1) := by decide +kernel
theorem dF_append_43 : decode bF_append 43 = .ok (.getfield 19, 3) := by decide +kernel
theorem dF_append_46 : decode bF_append 46 = .ok (.aload_n 0, 1) := by decide +kernel
theorem dF_append_47 : decode bF_append 47 = .ok (.getfield 25, 3) := by decide +kernel
theorem dF_append_50 : decode bF_append 50 = .ok (.lload 7, 2) := by decide +kernel
theorem dF_append_52 : decode bF_append 52 = .ok (.lastore, 1) := by decide +kernel
theorem dF_append_53 : decode bF_append 53 = .ok (.aload_n 0, 1) := by decide +kernel
theorem dF_append_54 : decode bF_append 54 = .ok (.getfield 22, 3) := by decide +kernel
theorem dF_append_57 : decode bF_append 57 = .ok (.aload_n 0, 1) := by decide +kernel
theorem dF_append_58 : decode bF_append 58 = .ok (.getfield 25, 3) := by decide +kernel
theorem dF_append_61 : decode bF_append 61 = .ok (.lload 9, 2) := by decide +kernel
theorem dF_append_63 : decode bF_append 63 = .ok (.lastore, 1) := by decide +kernel
theorem dF_append_64 : decode bF_append 64 = .ok (.aload_n 0, 1) := by decide +kernel
theorem dF_append_65 : decode bF_append 65 = .ok (.dup, 1) := by decide +kernel
theorem dF_append_66 : decode bF_append 66 = .ok (.getfield 25, 3) := by decide +kernel
theorem dF_append_69 : decode bF_append 69 = .ok (.iconst 1, 1) := by decide +kernel
theorem dF_append_70 : decode bF_append 70 = .ok (.iadd, 1) := by decide +kernel
theorem dF_append_71 : decode bF_append 71 = .ok (.putfield 25, 3) := by decide +kernel
theorem dF_append_74 : decode bF_append 74 = .ok (.iconst 1, 1) := by decide +kernel
theorem dF_append_75 : decode bF_append 75 = .ok (.ireturn, 1) := by decide +kernel
theorem dF_leastRoomTimesRises_0 : decode bF_leastRoomTimesRises 0 = .ok (.ldc2_w 33, 3) := by decide +kernel
theorem dF_leastRoomTimesRises_3 : decode bF_leastRoomTimesRises 3 = .ok (.lstore_n 2, 1) := by decide +kernel
theorem dF_leastRoomTimesRises_4 : decode bF_leastRoomTimesRises 4 = .ok (.iconst 0, 1) := by decide +kernel
theorem dF_leastRoomTimesRises_5 : decode bF_leastRoomTimesRises 5 = .ok (.istore 4, 2) := by decide +kernel
theorem dF_leastRoomTimesRises_7 : decode bF_leastRoomTimesRises 7 = .ok (.iload 4, 2) := by decide +kernel
theorem dF_leastRoomTimesRises_9 : decode bF_leastRoomTimesRises 9 = .ok (.aload_n 0, 1) := by decide +kernel
theorem dF_leastRoomTimesRises_10 : decode bF_leastRoomTimesRises 10 = .ok (.getfield 25, 3) := by decide +kernel
theorem dF_leastRoomTimesRises_13 : decode bF_leastRoomTimesRises 13 = .ok (.if_icmp .ge 71, 3) := by decide +kernel
theorem dF_leastRoomTimesRises_16 : decode bF_leastRoomTimesRises 16 = .ok (.iload 4, 2) := by decide +kernel
theorem dF_leastRoomTimesRises_18 : decode bF_leastRoomTimesRises 18 = .ok (.bipush 8, 2) := by decide +kernel
theorem dF_leastRoomTimesRises_20 : decode bF_leastRoomTimesRises 20 = .ok (.if_icmp .ge 64, 3) := by decide +kernel
theorem dF_leastRoomTimesRises_23 : decode bF_leastRoomTimesRises 23 = .ok (.iconst 0, 1) := by decide +kernel
theorem dF_leastRoomTimesRises_24 : decode bF_leastRoomTimesRises 24 = .ok (.istore 5, 2) := by decide +kernel
theorem dF_leastRoomTimesRises_26 : decode bF_leastRoomTimesRises 26 = .ok (.iload 5, 2) := by decide +kernel
theorem dF_leastRoomTimesRises_28 : decode bF_leastRoomTimesRises 28 = .ok (.aload_n 1, 1) := by decide +kernel
theorem dF_leastRoomTimesRises_29 : decode bF_leastRoomTimesRises 29 = .ok (.invokevirtual 35, 3) := by decide +kernel
theorem dF_leastRoomTimesRises_32 : decode bF_leastRoomTimesRises 32 = .ok (.if_icmp .ge 46, 3) := by decide +kernel
theorem dF_leastRoomTimesRises_35 : decode bF_leastRoomTimesRises 35 = .ok (.aload_n 0, 1) := by decide +kernel
theorem dF_leastRoomTimesRises_36 : decode bF_leastRoomTimesRises 36 = .ok (.iload 4, 2) := by decide +kernel
theorem dF_leastRoomTimesRises_38 : decode bF_leastRoomTimesRises 38 = .ok (.aload_n 1, 1) := by decide +kernel
theorem dF_leastRoomTimesRises_39 : decode bF_leastRoomTimesRises 39 = .ok (.iload 5, 2) := by decide +kernel
theorem dF_leastRoomTimesRises_41 : decode bF_leastRoomTimesRises 41 = .ok (.invokevirtual 41, 3) := by decide +kernel
theorem dF_leastRoomTimesRises_44 : decode bF_leastRoomTimesRises 44 = .ok (.ifCond .eq 28, 3) := by decide +kernel
theorem dF_leastRoomTimesRises_47 : decode bF_leastRoomTimesRises 47 = .ok (.lload_n 2, 1) := by decide +kernel
theorem dF_leastRoomTimesRises_48 : decode bF_leastRoomTimesRises 48 = .ok (.aload_n 0, 1) := by decide +kernel
theorem dF_leastRoomTimesRises_49 : decode bF_leastRoomTimesRises 49 = .ok (.getfield 22, 3) := by decide +kernel
theorem dF_leastRoomTimesRises_52 : decode bF_leastRoomTimesRises 52 = .ok (.iload 4, 2) := by decide +kernel
theorem dF_leastRoomTimesRises_54 : decode bF_leastRoomTimesRises 54 = .ok (.laload, 1) := by decide +kernel
theorem dF_leastRoomTimesRises_55 : decode bF_leastRoomTimesRises 55 = .ok (.aload_n 1, 1) := by decide +kernel
theorem dF_leastRoomTimesRises_56 : decode bF_leastRoomTimesRises 56 = .ok (.getfield 45, 3) := by decide +kernel
theorem dF_leastRoomTimesRises_59 : decode bF_leastRoomTimesRises 59 = .ok (.i2l, 1) := by decide +kernel
theorem dF_leastRoomTimesRises_60 : decode bF_leastRoomTimesRises 60 = .ok (.lmul, 1) := by decide +kernel
theorem dF_leastRoomTimesRises_61 : decode bF_leastRoomTimesRises 61 = .ok (.aload_n 1, 1) := by decide +kernel
theorem dF_leastRoomTimesRises_62 : decode bF_leastRoomTimesRises 62 = .ok (.iload 5, 2) := by decide +kernel
theorem dF_leastRoomTimesRises_64 : decode bF_leastRoomTimesRises 64 = .ok (.invokevirtual 48, 3) := by decide +kernel
theorem dF_leastRoomTimesRises_67 : decode bF_leastRoomTimesRises 67 = .ok (.lsub, 1) := by decide +kernel
theorem dF_leastRoomTimesRises_68 : decode bF_leastRoomTimesRises 68 = .ok (.invokestatic 52, 3) := by decide +kernel
theorem dF_leastRoomTimesRises_71 : decode bF_leastRoomTimesRises 71 = .ok (.lstore_n 2, 1) := by decide +kernel
theorem dF_leastRoomTimesRises_72 : decode bF_leastRoomTimesRises 72 = .ok (.iinc 5 1, 3) := by decide +kernel
theorem dF_leastRoomTimesRises_75 : decode bF_leastRoomTimesRises 75 = .ok (.goto (-49), 3) := by decide +kernel
theorem dF_leastRoomTimesRises_78 : decode bF_leastRoomTimesRises 78 = .ok (.iinc 4 1, 3) := by decide +kernel
theorem dF_leastRoomTimesRises_81 : decode bF_leastRoomTimesRises 81 = .ok (.goto (-74), 3) := by decide +kernel
theorem dF_leastRoomTimesRises_84 : decode bF_leastRoomTimesRises 84 = .ok (.lload_n 2, 1) := by decide +kernel
theorem dF_leastRoomTimesRises_85 : decode bF_leastRoomTimesRises 85 = .ok (.lreturn, 1) := by decide +kernel
theorem dF_isOver_0 : decode bF_isOver 0 = .ok (.iload_n 1, 1) := by decide +kernel
theorem dF_isOver_1 : decode bF_isOver 1 = .ok (.ifCond .lt 73, 3) := by decide +kernel
theorem dF_isOver_4 : decode bF_isOver 4 = .ok (.iload_n 1, 1) := by decide +kernel
theorem dF_isOver_5 : decode bF_isOver 5 = .ok (.bipush 8, 2) := by decide +kernel
theorem dF_isOver_7 : decode bF_isOver 7 = .ok (.if_icmp .ge 67, 3) := by decide +kernel
theorem dF_isOver_10 : decode bF_isOver 10 = .ok (.aload_n 0, 1) := by decide +kernel
theorem dF_isOver_11 : decode bF_isOver 11 = .ok (.getfield 9, 3) := by decide +kernel
theorem dF_isOver_14 : decode bF_isOver 14 = .ok (.iload_n 1, 1) := by decide +kernel
theorem dF_isOver_15 : decode bF_isOver 15 = .ok (.laload, 1) := by decide +kernel
theorem dF_isOver_16 : decode bF_isOver 16 = .ok (.aload_n 2, 1) := by decide +kernel
theorem dF_isOver_17 : decode bF_isOver 17 = .ok (.iload_n 3, 1) := by decide +kernel
theorem dF_isOver_18 : decode bF_isOver 18 = .ok (.invokevirtual 58, 3) := by decide +kernel
theorem dF_isOver_21 : decode bF_isOver 21 = .ok (.lcmp, 1) := by decide +kernel
theorem dF_isOver_22 : decode bF_isOver 22 = .ok (.ifCond .ge 52, 3) := by decide +kernel
theorem dF_isOver_25 : decode bF_isOver 25 = .ok (.aload_n 2, 1) := by decide +kernel
theorem dF_isOver_26 : decode bF_isOver 26 = .ok (.iload_n 3, 1) := by decide +kernel
theorem dF_isOver_27 : decode bF_isOver 27 = .ok (.invokevirtual 61, 3) := by decide +kernel
theorem dF_isOver_30 : decode bF_isOver 30 = .ok (.aload_n 0, 1) := by decide +kernel
theorem dF_isOver_31 : decode bF_isOver 31 = .ok (.getfield 16, 3) := by decide +kernel
theorem dF_isOver_34 : decode bF_isOver 34 = .ok (.iload_n 1, 1) := by decide +kernel
theorem dF_isOver_35 : decode bF_isOver 35 = .ok (.laload, 1) := by decide +kernel
theorem dF_isOver_36 : decode bF_isOver 36 = .ok (.lcmp, 1) := by decide +kernel
theorem dF_isOver_37 : decode bF_isOver 37 = .ok (.ifCond .ge 37, 3) := by decide +kernel
theorem dF_isOver_40 : decode bF_isOver 40 = .ok (.aload_n 0, 1) := by decide +kernel
theorem dF_isOver_41 : decode bF_isOver 41 = .ok (.getfield 13, 3) := by decide +kernel
theorem dF_isOver_44 : decode bF_isOver 44 = .ok (.iload_n 1, 1) := by decide +kernel
theorem dF_isOver_45 : decode bF_isOver 45 = .ok (.laload, 1) := by decide +kernel
theorem dF_isOver_46 : decode bF_isOver 46 = .ok (.aload_n 2, 1) := by decide +kernel
theorem dF_isOver_47 : decode bF_isOver 47 = .ok (.iload_n 3, 1) := by decide +kernel
theorem dF_isOver_48 : decode bF_isOver 48 = .ok (.invokevirtual 64, 3) := by decide +kernel
theorem dF_isOver_51 : decode bF_isOver 51 = .ok (.lcmp, 1) := by decide +kernel
theorem dF_isOver_52 : decode bF_isOver 52 = .ok (.ifCond .ge 22, 3) := by decide +kernel
theorem dF_isOver_55 : decode bF_isOver 55 = .ok (.aload_n 2, 1) := by decide +kernel
theorem dF_isOver_56 : decode bF_isOver 56 = .ok (.iload_n 3, 1) := by decide +kernel
theorem dF_isOver_57 : decode bF_isOver 57 = .ok (.invokevirtual 67, 3) := by decide +kernel
theorem dF_isOver_60 : decode bF_isOver 60 = .ok (.aload_n 0, 1) := by decide +kernel
theorem dF_isOver_61 : decode bF_isOver 61 = .ok (.getfield 19, 3) := by decide +kernel
theorem dF_isOver_64 : decode bF_isOver 64 = .ok (.iload_n 1, 1) := by decide +kernel
theorem dF_isOver_65 : decode bF_isOver 65 = .ok (.laload, 1) := by decide +kernel
theorem dF_isOver_66 : decode bF_isOver 66 = .ok (.lcmp, 1) := by decide +kernel
theorem dF_isOver_67 : decode bF_isOver 67 = .ok (.ifCond .ge 7, 3) := by decide +kernel
theorem dF_isOver_70 : decode bF_isOver 70 = .ok (.iconst 1, 1) := by decide +kernel
theorem dF_isOver_71 : decode bF_isOver 71 = .ok (.goto 4, 3) := by decide +kernel
theorem dF_isOver_74 : decode bF_isOver 74 = .ok (.iconst 0, 1) := by decide +kernel
theorem dF_isOver_75 : decode bF_isOver 75 = .ok (.ireturn, 1) := by decide +kernel
