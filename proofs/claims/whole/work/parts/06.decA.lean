theorem dA_init_0 : decode bA_init 0 = .ok (.aload_n 0, 1) := by decide +kernel
theorem dA_init_1 : decode bA_init 1 = .ok (.invokespecial 3, 3) := by decide +kernel
theorem dA_init_4 : decode bA_init 4 = .ok (.aload_n 0, 1) := by decide +kernel
theorem dA_init_5 : decode bA_init 5 = .ok (.iconst 0, 1) := by decide +kernel
theorem dA_init_6 : decode bA_init 6 = .ok (.putfield 9, 3) := by decide +kernel
theorem dA_init_9 : decode bA_init 9 = .ok (.aload_n 0, 1) := by decide +kernel
theorem dA_init_10 : decode bA_init 10 = .ok (.iconst 1, 1) := by decide +kernel
theorem dA_init_11 : decode bA_init 11 = .ok (.putfield 15, 3) := by decide +kernel
theorem dA_init_14 : decode bA_init 14 = .ok (.aload_n 0, 1) := by decide +kernel
theorem dA_init_15 : decode bA_init 15 = .ok (.lconst 1, 1) := by decide +kernel
theorem dA_init_16 : decode bA_init 16 = .ok (.putfield 18, 3) := by decide +kernel
theorem dA_init_19 : decode bA_init 19 = .ok (.aload_n 0, 1) := by decide +kernel
theorem dA_init_20 : decode bA_init 20 = .ok (.lconst 1, 1) := by decide +kernel
theorem dA_init_21 : decode bA_init 21 = .ok (.putfield 22, 3) := by decide +kernel
theorem dA_init_24 : decode bA_init 24 = .ok (.aload_n 0, 1) := by decide +kernel
theorem dA_init_25 : decode bA_init 25 = .ok (.lconst 1, 1) := by decide +kernel
theorem dA_init_26 : decode bA_init 26 = .ok (.putfield 25, 3) := by decide +kernel
theorem dA_init_29 : decode bA_init 29 = .ok (.aload_n 0, 1) := by decide +kernel
theorem dA_init_30 : decode bA_init 30 = .ok (.iconst 0, 1) := by decide +kernel
theorem dA_init_31 : decode bA_init 31 = .ok (.putfield 28, 3) := by decide +kernel
theorem dA_init_34 : decode bA_init 34 = .ok (.aload_n 0, 1) := by decide +kernel
theorem dA_init_35 : decode bA_init 35 = .ok (.iconst 0, 1) := by decide +kernel
theorem dA_init_36 : decode bA_init 36 = .ok (.putfield 31, 3) := by decide +kernel
theorem dA_init_39 : decode bA_init 39 = .ok (.return_, 1) := by decide +kernel
theorem dA_measure_0 : decode bA_measure 0 = .ok (.aload_n 0, 1) := by decide +kernel
theorem dA_measure_1 : decode bA_measure 1 = .ok (.iload_n 1, 1) := by decide +kernel
theorem dA_measure_2 : decode bA_measure 2 = .ok (.putfield 9, 3) := by decide +kernel
theorem dA_measure_5 : decode bA_measure 5 = .ok (.aload_n 0, 1) := by decide +kernel
theorem dA_measure_6 : decode bA_measure 6 = .ok (.lload_n 2, 1) := by decide +kernel
theorem dA_measure_7 : decode bA_measure 7 = .ok (.putfield 18, 3) := by decide +kernel
theorem dA_measure_10 : decode bA_measure 10 = .ok (.aload_n 0, 1) := by decide +kernel
theorem dA_measure_11 : decode bA_measure 11 = .ok (.lload 4, 2) := by decide +kernel
theorem dA_measure_13 : decode bA_measure 13 = .ok (.putfield 22, 3) := by decide +kernel
theorem dA_measure_16 : decode bA_measure 16 = .ok (.aload_n 0, 1) := by decide +kernel
theorem dA_measure_17 : decode bA_measure 17 = .ok (.lload 6, 2) := by decide +kernel
theorem dA_measure_19 : decode bA_measure 19 = .ok (.putfield 25, 3) := by decide +kernel
theorem dA_measure_22 : decode bA_measure 22 = .ok (.return_, 1) := by decide +kernel
theorem dA_divide_0 : decode bA_divide 0 = .ok (.aload_n 0, 1) := by decide +kernel
theorem dA_divide_1 : decode bA_divide 1 = .ok (.iload_n 1, 1) := by decide +kernel
theorem dA_divide_2 : decode bA_divide 2 = .ok (.putfield 15, 3) := by decide +kernel
theorem dA_divide_5 : decode bA_divide 5 = .ok (.aload_n 0, 1) := by decide +kernel
theorem dA_divide_6 : decode bA_divide 6 = .ok (.aload_n 0, 1) := by decide +kernel
theorem dA_divide_7 : decode bA_divide 7 = .ok (.getfield 9, 3) := by decide +kernel
theorem dA_divide_10 : decode bA_divide 10 = .ok (.ifCond .ne 10, 3) := by decide +kernel
theorem dA_divide_13 : decode bA_divide 13 = .ok (.aload_n 0, 1) := by decide +kernel
theorem dA_divide_14 : decode bA_divide 14 = .ok (.invokevirtual 34, 3) := by decide +kernel
theorem dA_divide_17 : decode bA_divide 17 = .ok (.goto 11, 3) := by decide +kernel
theorem dA_divide_20 : decode bA_divide 20 = .ok (.iload_n 1, 1) := by decide +kernel
theorem dA_divide_21 : decode bA_divide 21 = .ok (.aload_n 0, 1) := by decide +kernel
theorem dA_divide_22 : decode bA_divide 22 = .ok (.invokevirtual 38, 3) := by decide +kernel
theorem dA_divide_25 : decode bA_divide 25 = .ok (.isub, 1) := by decide +kernel
theorem dA_divide_26 : decode bA_divide 26 = .ok (.iconst 2, 1) := by decide +kernel
theorem dA_divide_27 : decode bA_divide 27 = .ok (.idiv, 1) := by decide +kernel
theorem dA_divide_28 : decode bA_divide 28 = .ok (.putfield 28, 3) := by decide +kernel
theorem dA_divide_31 : decode bA_divide 31 = .ok (.aload_n 0, 1) := by decide +kernel
theorem dA_divide_32 : decode bA_divide 32 = .ok (.aload_n 0, 1) := by decide +kernel
theorem dA_divide_33 : decode bA_divide 33 = .ok (.getfield 28, 3) := by decide +kernel
theorem dA_divide_36 : decode bA_divide 36 = .ok (.aload_n 0, 1) := by decide +kernel
theorem dA_divide_37 : decode bA_divide 37 = .ok (.invokevirtual 41, 3) := by decide +kernel
theorem dA_divide_40 : decode bA_divide 40 = .ok (.iadd, 1) := by decide +kernel
theorem dA_divide_41 : decode bA_divide 41 = .ok (.aload_n 0, 1) := by decide +kernel
theorem dA_divide_42 : decode bA_divide 42 = .ok (.invokevirtual 44, 3) := by decide +kernel
theorem dA_divide_45 : decode bA_divide 45 = .ok (.iadd, 1) := by decide +kernel
theorem dA_divide_46 : decode bA_divide 46 = .ok (.putfield 31, 3) := by decide +kernel
theorem dA_divide_49 : decode bA_divide 49 = .ok (.return_, 1) := by decide +kernel
theorem dA_fewestRises_0 : decode bA_fewestRises 0 = .ok (.aload_n 0, 1) := by decide +kernel
theorem dA_fewestRises_1 : decode bA_fewestRises 1 = .ok (.getfield 9, 3) := by decide +kernel
theorem dA_fewestRises_4 : decode bA_fewestRises 4 = .ok (.iconst 2, 1) := by decide +kernel
theorem dA_fewestRises_5 : decode bA_fewestRises 5 = .ok (.if_icmp .ne 7, 3) := by decide +kernel
theorem dA_fewestRises_8 : decode bA_fewestRises 8 = .ok (.iconst 4, 1) := by decide +kernel
theorem dA_fewestRises_9 : decode bA_fewestRises 9 = .ok (.goto 16, 3) := by decide +kernel
theorem dA_fewestRises_12 : decode bA_fewestRises 12 = .ok (.aload_n 0, 1) := by decide +kernel
theorem dA_fewestRises_13 : decode bA_fewestRises 13 = .ok (.getfield 9, 3) := by decide +kernel
theorem dA_fewestRises_16 : decode bA_fewestRises 16 = .ok (.iconst 1, 1) := by decide +kernel
theorem dA_fewestRises_17 : decode bA_fewestRises 17 = .ok (.if_icmp .ne 7, 3) := by decide +kernel
theorem dA_fewestRises_20 : decode bA_fewestRises 20 = .ok (.iconst 2, 1) := by decide +kernel
theorem dA_fewestRises_21 : decode bA_fewestRises 21 = .ok (.goto 4, 3) := by decide +kernel
theorem dA_fewestRises_24 : decode bA_fewestRises 24 = .ok (.iconst 1, 1) := by decide +kernel
theorem dA_fewestRises_25 : decode bA_fewestRises 25 = .ok (.ireturn, 1) := by decide +kernel
theorem dA_treads_0 : decode bA_treads 0 = .ok (.aload_n 0, 1) := by decide +kernel
theorem dA_treads_1 : decode bA_treads 1 = .ok (.getfield 15, 3) := by decide +kernel
theorem dA_treads_4 : decode bA_treads 4 = .ok (.iconst 1, 1) := by decide +kernel
theorem dA_treads_5 : decode bA_treads 5 = .ok (.isub, 1) := by decide +kernel
theorem dA_treads_6 : decode bA_treads 6 = .ok (.ireturn, 1) := by decide +kernel
theorem dA_landings_0 : decode bA_landings 0 = .ok (.aload_n 0, 1) := by decide +kernel
theorem dA_landings_1 : decode bA_landings 1 = .ok (.getfield 9, 3) := by decide +kernel
theorem dA_landings_4 : decode bA_landings 4 = .ok (.iconst 1, 1) := by decide +kernel
theorem dA_landings_5 : decode bA_landings 5 = .ok (.if_icmp .ne 7, 3) := by decide +kernel
theorem dA_landings_8 : decode bA_landings 8 = .ok (.iconst 1, 1) := by decide +kernel
theorem dA_landings_9 : decode bA_landings 9 = .ok (.goto 4, 3) := by decide +kernel
theorem dA_landings_12 : decode bA_landings 12 = .ok (.iconst 0, 1) := by decide +kernel
theorem dA_landings_13 : decode bA_landings 13 = .ok (.ireturn, 1) := by decide +kernel
theorem dA_winders_0 : decode bA_winders 0 = .ok (.aload_n 0, 1) := by decide +kernel
theorem dA_winders_1 : decode bA_winders 1 = .ok (.getfield 9, 3) := by decide +kernel
theorem dA_winders_4 : decode bA_winders 4 = .ok (.iconst 2, 1) := by decide +kernel
theorem dA_winders_5 : decode bA_winders 5 = .ok (.if_icmp .ne 7, 3) := by decide +kernel
theorem dA_winders_8 : decode bA_winders 8 = .ok (.iconst 3, 1) := by decide +kernel
theorem dA_winders_9 : decode bA_winders 9 = .ok (.goto 4, 3) := by decide +kernel
theorem dA_winders_12 : decode bA_winders 12 = .ok (.iconst 0, 1) := by decide +kernel
theorem dA_winders_13 : decode bA_winders 13 = .ok (.ireturn, 1) := by decide +kernel
theorem dA_cornerX_0 : decode bA_cornerX 0 = .ok (.aload_n 0, 1) := by decide +kernel
theorem dA_cornerX_1 : decode bA_cornerX 1 = .ok (.getfield 28, 3) := by decide +kernel
theorem dA_cornerX_4 : decode bA_cornerX 4 = .ok (.i2l, 1) := by decide +kernel
theorem dA_cornerX_5 : decode bA_cornerX 5 = .ok (.aload_n 0, 1) := by decide +kernel
theorem dA_cornerX_6 : decode bA_cornerX 6 = .ok (.getfield 22, 3) := by decide +kernel
theorem dA_cornerX_9 : decode bA_cornerX 9 = .ok (.lmul, 1) := by decide +kernel
theorem dA_cornerX_10 : decode bA_cornerX 10 = .ok (.lreturn, 1) := by decide +kernel
theorem dA_shape_0 : decode bA_shape 0 = .ok (.iload_n 1, 1) := by decide +kernel
theorem dA_shape_1 : decode bA_shape 1 = .ok (.aload_n 0, 1) := by decide +kernel
theorem dA_shape_2 : decode bA_shape 2 = .ok (.getfield 28, 3) := by decide +kernel
theorem dA_shape_5 : decode bA_shape 5 = .ok (.if_icmp .ge 5, 3) := by decide +kernel
theorem dA_shape_8 : decode bA_shape 8 = .ok (.iconst 0, 1) := by decide +kernel
theorem dA_shape_9 : decode bA_shape 9 = .ok (.ireturn, 1) := by decide +kernel
theorem dA_shape_10 : decode bA_shape 10 = .ok (.iload_n 1, 1) := by decide +kernel
theorem dA_shape_11 : decode bA_shape 11 = .ok (.aload_n 0, 1) := by decide +kernel
theorem dA_shape_12 : decode bA_shape 12 = .ok (.getfield 31, 3) := by decide +kernel
theorem dA_shape_15 : decode bA_shape 15 = .ok (.if_icmp .lt 5, 3) := by decide +kernel
theorem dA_shape_18 : decode bA_shape 18 = .ok (.iconst 1, 1) := by decide +kernel
theorem dA_shape_19 : decode bA_shape 19 = .ok (.ireturn, 1) := by decide +kernel
theorem dA_shape_20 : decode bA_shape 20 = .ok (.aload_n 0, 1) := by decide +kernel
theorem dA_shape_21 : decode bA_shape 21 = .ok (.getfield 9, 3) := by decide +kernel
theorem dA_shape_24 : decode bA_shape 24 = .ok (.iconst 1, 1) := by decide +kernel
theorem dA_shape_25 : decode bA_shape 25 = .ok (.if_icmp .ne 7, 3) := by decide +kernel
theorem dA_shape_28 : decode bA_shape 28 = .ok (.iconst 2, 1) := by decide +kernel
theorem dA_shape_29 : decode bA_shape 29 = .ok (.goto 4, 3) := by decide +kernel
theorem dA_shape_32 : decode bA_shape 32 = .ok (.iconst 3, 1) := by decide +kernel
theorem dA_shape_33 : decode bA_shape 33 = .ok (.ireturn, 1) := by decide +kernel
theorem dA_leastX_0 : decode bA_leastX 0 = .ok (.aload_n 0, 1) := by decide +kernel
theorem dA_leastX_1 : decode bA_leastX 1 = .ok (.iload_n 1, 1) := by decide +kernel
theorem dA_leastX_2 : decode bA_leastX 2 = .ok (.invokevirtual 47, 3) := by decide +kernel
theorem dA_leastX_5 : decode bA_leastX 5 = .ok (.ifCond .ne 13, 3) := by decide +kernel
theorem dA_leastX_8 : decode bA_leastX 8 = .ok (.iload_n 1, 1) := by decide +kernel
theorem dA_leastX_9 : decode bA_leastX 9 = .ok (.i2l, 1) := by decide +kernel
theorem dA_leastX_10 : decode bA_leastX 10 = .ok (.aload_n 0, 1) := by decide +kernel
theorem dA_leastX_11 : decode bA_leastX 11 = .ok (.getfield 22, 3) := by decide +kernel
theorem dA_leastX_14 : decode bA_leastX 14 = .ok (.lmul, 1) := by decide +kernel
theorem dA_leastX_15 : decode bA_leastX 15 = .ok (.goto 7, 3) := by decide +kernel
theorem dA_leastX_18 : decode bA_leastX 18 = .ok (.aload_n 0, 1) := by decide +kernel
theorem dA_leastX_19 : decode bA_leastX 19 = .ok (.invokevirtual 51, 3) := by decide +kernel
theorem dA_leastX_22 : decode bA_leastX 22 = .ok (.lreturn, 1) := by decide +kernel
theorem dA_greatestX_0 : decode bA_greatestX 0 = .ok (.aload_n 0, 1) := by decide +kernel
theorem dA_greatestX_1 : decode bA_greatestX 1 = .ok (.iload_n 1, 1) := by decide +kernel
theorem dA_greatestX_2 : decode bA_greatestX 2 = .ok (.invokevirtual 47, 3) := by decide +kernel
theorem dA_greatestX_5 : decode bA_greatestX 5 = .ok (.ifCond .ne 15, 3) := by decide +kernel
theorem dA_greatestX_8 : decode bA_greatestX 8 = .ok (.iload_n 1, 1) := by decide +kernel
theorem dA_greatestX_9 : decode bA_greatestX 9 = .ok (.iconst 1, 1) := by decide +kernel
theorem dA_greatestX_10 : decode bA_greatestX 10 = .ok (.iadd, 1) := by decide +kernel
theorem dA_greatestX_11 : decode bA_greatestX 11 = .ok (.i2l, 1) := by decide +kernel
theorem dA_greatestX_12 : decode bA_greatestX 12 = .ok (.aload_n 0, 1) := by decide +kernel
theorem dA_greatestX_13 : decode bA_greatestX 13 = .ok (.getfield 22, 3) := by decide +kernel
theorem dA_greatestX_16 : decode bA_greatestX 16 = .ok (.lmul, 1) := by decide +kernel
theorem dA_greatestX_17 : decode bA_greatestX 17 = .ok (.goto 12, 3) := by decide +kernel
theorem dA_greatestX_20 : decode bA_greatestX 20 = .ok (.aload_n 0, 1) := by decide +kernel
theorem dA_greatestX_21 : decode bA_greatestX 21 = .ok (.invokevirtual 51, 3) := by decide +kernel
theorem dA_greatestX_24 : decode bA_greatestX 24 = .ok (.aload_n 0, 1) := by decide +kernel
theorem dA_greatestX_25 : decode bA_greatestX 25 = .ok (.getfield 25, 3) := by decide +kernel
theorem dA_greatestX_28 : decode bA_greatestX 28 = .ok (.ladd, 1) := by decide +kernel
theorem dA_greatestX_29 : decode bA_greatestX 29 = .ok (.lreturn, 1) := by decide +kernel
theorem dA_leastY_0 : decode bA_leastY 0 = .ok (.aload_n 0, 1) := by decide +kernel
theorem dA_leastY_1 : decode bA_leastY 1 = .ok (.iload_n 1, 1) := by decide +kernel
theorem dA_leastY_2 : decode bA_leastY 2 = .ok (.invokevirtual 47, 3) := by decide +kernel
theorem dA_leastY_5 : decode bA_leastY 5 = .ok (.iconst 1, 1) := by decide +kernel
theorem dA_leastY_6 : decode bA_leastY 6 = .ok (.if_icmp .ne 23, 3) := by decide +kernel
theorem dA_leastY_9 : decode bA_leastY 9 = .ok (.aload_n 0, 1) := by decide +kernel
theorem dA_leastY_10 : decode bA_leastY 10 = .ok (.getfield 25, 3) := by decide +kernel
theorem dA_leastY_13 : decode bA_leastY 13 = .ok (.iload_n 1, 1) := by decide +kernel
theorem dA_leastY_14 : decode bA_leastY 14 = .ok (.aload_n 0, 1) := by decide +kernel
theorem dA_leastY_15 : decode bA_leastY 15 = .ok (.getfield 31, 3) := by decide +kernel
theorem dA_leastY_18 : decode bA_leastY 18 = .ok (.isub, 1) := by decide +kernel
theorem dA_leastY_19 : decode bA_leastY 19 = .ok (.i2l, 1) := by decide +kernel
theorem dA_leastY_20 : decode bA_leastY 20 = .ok (.aload_n 0, 1) := by decide +kernel
theorem dA_leastY_21 : decode bA_leastY 21 = .ok (.getfield 22, 3) := by decide +kernel
theorem dA_leastY_24 : decode bA_leastY 24 = .ok (.lmul, 1) := by decide +kernel
theorem dA_leastY_25 : decode bA_leastY 25 = .ok (.ladd, 1) := by decide +kernel
theorem dA_leastY_26 : decode bA_leastY 26 = .ok (.goto 4, 3) := by decide +kernel
theorem dA_leastY_29 : decode bA_leastY 29 = .ok (.lconst 0, 1) := by decide +kernel
theorem dA_leastY_30 : decode bA_leastY 30 = .ok (.lreturn, 1) := by decide +kernel
theorem dA_greatestY_0 : decode bA_greatestY 0 = .ok (.aload_n 0, 1) := by decide +kernel
theorem dA_greatestY_1 : decode bA_greatestY 1 = .ok (.iload_n 1, 1) := by decide +kernel
theorem dA_greatestY_2 : decode bA_greatestY 2 = .ok (.invokevirtual 47, 3) := by decide +kernel
theorem dA_greatestY_5 : decode bA_greatestY 5 = .ok (.iconst 1, 1) := by decide +kernel
theorem dA_greatestY_6 : decode bA_greatestY 6 = .ok (.if_icmp .ne 16, 3) := by decide +kernel
theorem dA_greatestY_9 : decode bA_greatestY 9 = .ok (.aload_n 0, 1) := by decide +kernel
theorem dA_greatestY_10 : decode bA_greatestY 10 = .ok (.iload_n 1, 1) := by decide +kernel
theorem dA_greatestY_11 : decode bA_greatestY 11 = .ok (.invokevirtual 55, 3) := by decide +kernel
theorem dA_greatestY_14 : decode bA_greatestY 14 = .ok (.aload_n 0, 1) := by decide +kernel
theorem dA_greatestY_15 : decode bA_greatestY 15 = .ok (.getfield 22, 3) := by decide +kernel
theorem dA_greatestY_18 : decode bA_greatestY 18 = .ok (.ladd, 1) := by decide +kernel
theorem dA_greatestY_19 : decode bA_greatestY 19 = .ok (.goto 7, 3) := by decide +kernel
theorem dA_greatestY_22 : decode bA_greatestY 22 = .ok (.aload_n 0, 1) := by decide +kernel
theorem dA_greatestY_23 : decode bA_greatestY 23 = .ok (.getfield 25, 3) := by decide +kernel
theorem dA_greatestY_26 : decode bA_greatestY 26 = .ok (.lreturn, 1) := by decide +kernel
theorem dA_heightTimesRises_0 : decode bA_heightTimesRises 0 = .ok (.iload_n 1, 1) := by decide +kernel
theorem dA_heightTimesRises_1 : decode bA_heightTimesRises 1 = .ok (.iconst 1, 1) := by decide +kernel
theorem dA_heightTimesRises_2 : decode bA_heightTimesRises 2 = .ok (.iadd, 1) := by decide +kernel
theorem dA_heightTimesRises_3 : decode bA_heightTimesRises 3 = .ok (.i2l, 1) := by decide +kernel
theorem dA_heightTimesRises_4 : decode bA_heightTimesRises 4 = .ok (.aload_n 0, 1) := by decide +kernel
theorem dA_heightTimesRises_5 : decode bA_heightTimesRises 5 = .ok (.getfield 18, 3) := by decide +kernel
theorem dA_heightTimesRises_8 : decode bA_heightTimesRises 8 = .ok (.lmul, 1) := by decide +kernel
theorem dA_heightTimesRises_9 : decode bA_heightTimesRises 9 = .ok (.lreturn, 1) := by decide +kernel
theorem dA_edgeXTimesThree_0 : decode bA_edgeXTimesThree 0 = .ok (.ldc2_w 59, 3) := by decide +kernel
theorem dA_edgeXTimesThree_3 : decode bA_edgeXTimesThree 3 = .ok (.aload_n 0, 1) := by decide +kernel
theorem dA_edgeXTimesThree_4 : decode bA_edgeXTimesThree 4 = .ok (.invokevirtual 51, 3) := by decide +kernel
theorem dA_edgeXTimesThree_7 : decode bA_edgeXTimesThree 7 = .ok (.lmul, 1) := by decide +kernel
theorem dA_edgeXTimesThree_8 : decode bA_edgeXTimesThree 8 = .ok (.iconst 2, 1) := by decide +kernel
theorem dA_edgeXTimesThree_9 : decode bA_edgeXTimesThree 9 = .ok (.iload_n 1, 1) := by decide +kernel
theorem dA_edgeXTimesThree_10 : decode bA_edgeXTimesThree 10 = .ok (.imul, 1) := by decide +kernel
theorem dA_edgeXTimesThree_11 : decode bA_edgeXTimesThree 11 = .ok (.i2l, 1) := by decide +kernel
theorem dA_edgeXTimesThree_12 : decode bA_edgeXTimesThree 12 = .ok (.aload_n 0, 1) := by decide +kernel
theorem dA_edgeXTimesThree_13 : decode bA_edgeXTimesThree 13 = .ok (.getfield 25, 3) := by decide +kernel
theorem dA_edgeXTimesThree_16 : decode bA_edgeXTimesThree 16 = .ok (.lmul, 1) := by decide +kernel
theorem dA_edgeXTimesThree_17 : decode bA_edgeXTimesThree 17 = .ok (.ldc2_w 59, 3) := by decide +kernel
theorem dA_edgeXTimesThree_20 : decode bA_edgeXTimesThree 20 = .ok (.aload_n 0, 1) := by decide +kernel
theorem dA_edgeXTimesThree_21 : decode bA_edgeXTimesThree 21 = .ok (.getfield 25, 3) := by decide +kernel
theorem dA_edgeXTimesThree_24 : decode bA_edgeXTimesThree 24 = .ok (.lmul, 1) := by decide +kernel
theorem dA_edgeXTimesThree_25 : decode bA_edgeXTimesThree 25 = .ok (.invokestatic 61, 3) := by decide +kernel
theorem dA_edgeXTimesThree_28 : decode bA_edgeXTimesThree 28 = .ok (.ladd, 1) := by decide +kernel
theorem dA_edgeXTimesThree_29 : decode bA_edgeXTimesThree 29 = .ok (.lreturn, 1) := by decide +kernel
theorem dA_edgeYTimesThree_0 : decode bA_edgeYTimesThree 0 = .ok (.iconst 2, 1) := by decide +kernel
theorem dA_edgeYTimesThree_1 : decode bA_edgeYTimesThree 1 = .ok (.iload_n 1, 1) := by decide +kernel
theorem dA_edgeYTimesThree_2 : decode bA_edgeYTimesThree 2 = .ok (.imul, 1) := by decide +kernel
theorem dA_edgeYTimesThree_3 : decode bA_edgeYTimesThree 3 = .ok (.i2l, 1) := by decide +kernel
theorem dA_edgeYTimesThree_4 : decode bA_edgeYTimesThree 4 = .ok (.aload_n 0, 1) := by decide +kernel
theorem dA_edgeYTimesThree_5 : decode bA_edgeYTimesThree 5 = .ok (.getfield 25, 3) := by decide +kernel
theorem dA_edgeYTimesThree_8 : decode bA_edgeYTimesThree 8 = .ok (.lmul, 1) := by decide +kernel
theorem dA_edgeYTimesThree_9 : decode bA_edgeYTimesThree 9 = .ok (.ldc2_w 59, 3) := by decide +kernel
theorem dA_edgeYTimesThree_12 : decode bA_edgeYTimesThree 12 = .ok (.aload_n 0, 1) := by decide +kernel
theorem dA_edgeYTimesThree_13 : decode bA_edgeYTimesThree 13 = .ok (.getfield 25, 3) := by decide +kernel
theorem dA_edgeYTimesThree_16 : decode bA_edgeYTimesThree 16 = .ok (.lmul, 1) := by decide +kernel
theorem dA_edgeYTimesThree_17 : decode bA_edgeYTimesThree 17 = .ok (.lsub, 1) := by decide +kernel
theorem dA_edgeYTimesThree_18 : decode bA_edgeYTimesThree 18 = .ok (.lconst 0, 1) := by decide +kernel
theorem dA_edgeYTimesThree_19 : decode bA_edgeYTimesThree 19 = .ok (.invokestatic 67, 3) := by decide +kernel
theorem dA_edgeYTimesThree_22 : decode bA_edgeYTimesThree 22 = .ok (.lreturn, 1) := by decide +kernel
theorem dA_sixTimesWinderArea_0 : decode bA_sixTimesWinderArea 0 = .ok (.ldc2_w 70, 3) := by decide +kernel
theorem dA_sixTimesWinderArea_3 : decode bA_sixTimesWinderArea 3 = .ok (.aload_n 0, 1) := by decide +kernel
theorem dA_sixTimesWinderArea_4 : decode bA_sixTimesWinderArea 4 = .ok (.getfield 25, 3) := by decide +kernel
theorem dA_sixTimesWinderArea_7 : decode bA_sixTimesWinderArea 7 = .ok (.lmul, 1) := by decide +kernel
theorem dA_sixTimesWinderArea_8 : decode bA_sixTimesWinderArea 8 = .ok (.aload_n 0, 1) := by decide +kernel
theorem dA_sixTimesWinderArea_9 : decode bA_sixTimesWinderArea 9 = .ok (.getfield 25, 3) := by decide +kernel
theorem dA_sixTimesWinderArea_12 : decode bA_sixTimesWinderArea 12 = .ok (.lmul, 1) := by decide +kernel
theorem dA_sixTimesWinderArea_13 : decode bA_sixTimesWinderArea 13 = .ok (.lreturn, 1) := by decide +kernel
theorem dA_along_0 : decode bA_along 0 = .ok (.aload_n 0, 1) := by decide +kernel
theorem dA_along_1 : decode bA_along 1 = .ok (.invokevirtual 34, 3) := by decide +kernel
theorem dA_along_4 : decode bA_along 4 = .ok (.i2l, 1) := by decide +kernel
theorem dA_along_5 : decode bA_along 5 = .ok (.aload_n 0, 1) := by decide +kernel
theorem dA_along_6 : decode bA_along 6 = .ok (.getfield 22, 3) := by decide +kernel
theorem dA_along_9 : decode bA_along 9 = .ok (.lmul, 1) := by decide +kernel
theorem dA_along_10 : decode bA_along 10 = .ok (.lreturn, 1) := by decide +kernel
theorem dA_scaledStringSquare_0 : decode bA_scaledStringSquare 0 = .ok (.aload_n 0, 1) := by decide +kernel
theorem dA_scaledStringSquare_1 : decode bA_scaledStringSquare 1 = .ok (.invokevirtual 72, 3) := by decide +kernel
theorem dA_scaledStringSquare_4 : decode bA_scaledStringSquare 4 = .ok (.aload_n 0, 1) := by decide +kernel
theorem dA_scaledStringSquare_5 : decode bA_scaledStringSquare 5 = .ok (.getfield 15, 3) := by decide +kernel
theorem dA_scaledStringSquare_8 : decode bA_scaledStringSquare 8 = .ok (.i2l, 1) := by decide +kernel
theorem dA_scaledStringSquare_9 : decode bA_scaledStringSquare 9 = .ok (.lmul, 1) := by decide +kernel
theorem dA_scaledStringSquare_10 : decode bA_scaledStringSquare 10 = .ok (.lstore_n 1, 1) := by decide +kernel
theorem dA_scaledStringSquare_11 : decode bA_scaledStringSquare 11 = .ok (.aload_n 0, 1) := by decide +kernel
theorem dA_scaledStringSquare_12 : decode bA_scaledStringSquare 12 = .ok (.invokevirtual 34, 3) := by decide +kernel
theorem dA_scaledStringSquare_15 : decode bA_scaledStringSquare 15 = .ok (.i2l, 1) := by decide +kernel
theorem dA_scaledStringSquare_16 : decode bA_scaledStringSquare 16 = .ok (.aload_n 0, 1) := by decide +kernel
theorem dA_scaledStringSquare_17 : decode bA_scaledStringSquare 17 = .ok (.getfield 18, 3) := by decide +kernel
theorem dA_scaledStringSquare_20 : decode bA_scaledStringSquare 20 = .ok (.lmul, 1) := by decide +kernel
theorem dA_scaledStringSquare_21 : decode bA_scaledStringSquare 21 = .ok (.lstore_n 3, 1) := by decide +kernel
theorem dA_scaledStringSquare_22 : decode bA_scaledStringSquare 22 = .ok (.lload_n 1, 1) := by decide +kernel
theorem dA_scaledStringSquare_23 : decode bA_scaledStringSquare 23 = .ok (.lload_n 1, 1) := by decide +kernel
theorem dA_scaledStringSquare_24 : decode bA_scaledStringSquare 24 = .ok (.lmul, 1) := by decide +kernel
theorem dA_scaledStringSquare_25 : decode bA_scaledStringSquare 25 = .ok (.lload_n 3, 1) := by decide +kernel
theorem dA_scaledStringSquare_26 : decode bA_scaledStringSquare 26 = .ok (.lload_n 3, 1) := by decide +kernel
theorem dA_scaledStringSquare_27 : decode bA_scaledStringSquare 27 = .ok (.lmul, 1) := by decide +kernel
theorem dA_scaledStringSquare_28 : decode bA_scaledStringSquare 28 = .ok (.ladd, 1) := by decide +kernel
theorem dA_scaledStringSquare_29 : decode bA_scaledStringSquare 29 = .ok (.lreturn, 1) := by decide +kernel
theorem dA_scaledSquare_0 : decode bA_scaledSquare 0 = .ok (.lload_n 1, 1) := by decide +kernel
theorem dA_scaledSquare_1 : decode bA_scaledSquare 1 = .ok (.aload_n 0, 1) := by decide +kernel
theorem dA_scaledSquare_2 : decode bA_scaledSquare 2 = .ok (.getfield 15, 3) := by decide +kernel
theorem dA_scaledSquare_5 : decode bA_scaledSquare 5 = .ok (.i2l, 1) := by decide +kernel
theorem dA_scaledSquare_6 : decode bA_scaledSquare 6 = .ok (.lmul, 1) := by decide +kernel
theorem dA_scaledSquare_7 : decode bA_scaledSquare 7 = .ok (.lload_n 1, 1) := by decide +kernel
theorem dA_scaledSquare_8 : decode bA_scaledSquare 8 = .ok (.lmul, 1) := by decide +kernel
theorem dA_scaledSquare_9 : decode bA_scaledSquare 9 = .ok (.aload_n 0, 1) := by decide +kernel
theorem dA_scaledSquare_10 : decode bA_scaledSquare 10 = .ok (.getfield 15, 3) := by decide +kernel
theorem dA_scaledSquare_13 : decode bA_scaledSquare 13 = .ok (.i2l, 1) := by decide +kernel
theorem dA_scaledSquare_14 : decode bA_scaledSquare 14 = .ok (.lmul, 1) := by decide +kernel
theorem dA_scaledSquare_15 : decode bA_scaledSquare 15 = .ok (.lreturn, 1) := by decide +kernel
theorem dA_stringCutOff_0 : decode bA_stringCutOff 0 = .ok (.aload_n 0, 1) := by decide +kernel
theorem dA_stringCutOff_1 : decode bA_stringCutOff 1 = .ok (.invokevirtual 75, 3) := by decide +kernel
theorem dA_stringCutOff_4 : decode bA_stringCutOff 4 = .ok (.lstore_n 1, 1) := by decide +kernel
theorem dA_stringCutOff_5 : decode bA_stringCutOff 5 = .ok (.lconst 0, 1) := by decide +kernel
theorem dA_stringCutOff_6 : decode bA_stringCutOff 6 = .ok (.lstore_n 3, 1) := by decide +kernel
theorem dA_stringCutOff_7 : decode bA_stringCutOff 7 = .ok (.bipush 19, 2) := by decide +kernel
theorem dA_stringCutOff_9 : decode bA_stringCutOff 9 = .ok (.istore 5, 2) := by decide +kernel
theorem dA_stringCutOff_11 : decode bA_stringCutOff 11 = .ok (.iload 5, 2) := by decide +kernel
theorem dA_stringCutOff_13 : decode bA_stringCutOff 13 = .ok (.ifCond .lt 31, 3) := by decide +kernel
theorem dA_stringCutOff_16 : decode bA_stringCutOff 16 = .ok (.lload_n 3, 1) := by decide +kernel
theorem dA_stringCutOff_17 : decode bA_stringCutOff 17 = .ok (.lconst 1, 1) := by decide +kernel
theorem dA_stringCutOff_18 : decode bA_stringCutOff 18 = .ok (.iload 5, 2) := by decide +kernel
theorem dA_stringCutOff_20 : decode bA_stringCutOff 20 = .ok (.lshl, 1) := by decide +kernel
theorem dA_stringCutOff_21 : decode bA_stringCutOff 21 = .ok (.ladd, 1) := by decide +kernel
theorem dA_stringCutOff_22 : decode bA_stringCutOff 22 = .ok (.lstore 6, 2) := by decide +kernel
theorem dA_stringCutOff_24 : decode bA_stringCutOff 24 = .ok (.aload_n 0, 1) := by decide +kernel
theorem dA_stringCutOff_25 : decode bA_stringCutOff 25 = .ok (.lload 6, 2) := by decide +kernel
theorem dA_stringCutOff_27 : decode bA_stringCutOff 27 = .ok (.invokevirtual 78, 3) := by decide +kernel
theorem dA_stringCutOff_30 : decode bA_stringCutOff 30 = .ok (.lload_n 1, 1) := by decide +kernel
theorem dA_stringCutOff_31 : decode bA_stringCutOff 31 = .ok (.lcmp, 1) := by decide +kernel
theorem dA_stringCutOff_32 : decode bA_stringCutOff 32 = .ok (.ifCond .gt 6, 3) := by decide +kernel
theorem dA_stringCutOff_35 : decode bA_stringCutOff 35 = .ok (.lload 6, 2) := by decide +kernel
theorem dA_stringCutOff_37 : decode bA_stringCutOff 37 = .ok (.lstore_n 3, 1) := by decide +kernel
theorem dA_stringCutOff_38 : decode bA_stringCutOff 38 = .ok (.iinc 5 (-1), 3) := by decide +kernel
theorem dA_stringCutOff_41 : decode bA_stringCutOff 41 = .ok (.goto (-30), 3) := by decide +kernel
theorem dA_stringCutOff_44 : decode bA_stringCutOff 44 = .ok (.lload_n 3, 1) := by decide +kernel
theorem dA_stringCutOff_45 : decode bA_stringCutOff 45 = .ok (.lreturn, 1) := by decide +kernel
theorem dA_isStringWhole_0 : decode bA_isStringWhole 0 = .ok (.aload_n 0, 1) := by decide +kernel
theorem dA_isStringWhole_1 : decode bA_isStringWhole 1 = .ok (.lload_n 1, 1) := by decide +kernel
theorem dA_isStringWhole_2 : decode bA_isStringWhole 2 = .ok (.invokevirtual 78, 3) := by decide +kernel
theorem dA_isStringWhole_5 : decode bA_isStringWhole 5 = .ok (.aload_n 0, 1) := by decide +kernel
theorem dA_isStringWhole_6 : decode bA_isStringWhole 6 = .ok (.invokevirtual 75, 3) := by decide +kernel
theorem dA_isStringWhole_9 : decode bA_isStringWhole 9 = .ok (.lcmp, 1) := by decide +kernel
theorem dA_isStringWhole_10 : decode bA_isStringWhole 10 = .ok (.ifCond .ne 7, 3) := by decide +kernel
theorem dA_isStringWhole_13 : decode bA_isStringWhole 13 = .ok (.iconst 1, 1) := by decide +kernel
theorem dA_isStringWhole_14 : decode bA_isStringWhole 14 = .ok (.goto 4, 3) := by decide +kernel
theorem dA_isStringWhole_17 : decode bA_isStringWhole 17 = .ok (.iconst 0, 1) := by decide +kernel
theorem dA_isStringWhole_18 : decode bA_isStringWhole 18 = .ok (.ireturn, 1) := by decide +kernel
theorem dQ_init_0 : decode bQ_init 0 = .ok (.aload_n 0, 1) := by decide +kernel
theorem dQ_init_1 : decode bQ_init 1 = .ok (.invokespecial 1, 3) := by decide +kernel
theorem dQ_init_4 : decode bQ_init 4 = .ok (.aload_n 0, 1) := by decide +kernel
theorem dQ_init_5 : decode bQ_init 5 = .ok (.lconst 0, 1) := by decide +kernel
theorem dQ_init_6 : decode bQ_init 6 = .ok (.putfield 7, 3) := by decide +kernel
theorem dQ_init_9 : decode bQ_init 9 = .ok (.aload_n 0, 1) := by decide +kernel
theorem dQ_init_10 : decode bQ_init 10 = .ok (.lconst 1, 1) := by decide +kernel
theorem dQ_init_11 : decode bQ_init 11 = .ok (.putfield 13, 3) := by decide +kernel
theorem dQ_init_14 : decode bQ_init 14 = .ok (.return_, 1) := by decide +kernel
theorem dQ_take_0 : decode bQ_take 0 = .ok (.lload_n 1, 1) := by decide +kernel
theorem dQ_take_1 : decode bQ_take 1 = .ok (.lload_n 3, 1) := by decide +kernel
theorem dQ_take_2 : decode bQ_take 2 = .ok (.invokestatic 16, 3) := by decide +kernel
theorem dQ_take_5 : decode bQ_take 5 = .ok (.lstore 5, 2) := by decide +kernel
theorem dQ_take_7 : decode bQ_take 7 = .ok (.lload 5, 2) := by decide +kernel
theorem dQ_take_9 : decode bQ_take 9 = .ok (.lconst 0, 1) := by decide +kernel
theorem dQ_take_10 : decode bQ_take 10 = .ok (.lcmp, 1) := by decide +kernel
theorem dQ_take_11 : decode bQ_take 11 = .ok (.ifCond .le 19, 3) := by decide +kernel
theorem dQ_take_14 : decode bQ_take 14 = .ok (.aload_n 0, 1) := by decide +kernel
theorem dQ_take_15 : decode bQ_take 15 = .ok (.lload_n 1, 1) := by decide +kernel
theorem dQ_take_16 : decode bQ_take 16 = .ok (.lload 5, 2) := by decide +kernel
theorem dQ_take_18 : decode bQ_take 18 = .ok (.ldiv, 1) := by decide +kernel
theorem dQ_take_19 : decode bQ_take 19 = .ok (.putfield 7, 3) := by decide +kernel
theorem dQ_take_22 : decode bQ_take 22 = .ok (.aload_n 0, 1) := by decide +kernel
theorem dQ_take_23 : decode bQ_take 23 = .ok (.lload_n 3, 1) := by decide +kernel
theorem dQ_take_24 : decode bQ_take 24 = .ok (.lload 5, 2) := by decide +kernel
theorem dQ_take_26 : decode bQ_take 26 = .ok (.ldiv, 1) := by decide +kernel
theorem dQ_take_27 : decode bQ_take 27 = .ok (.putfield 13, 3) := by decide +kernel
theorem dQ_take_30 : decode bQ_take 30 = .ok (.return_, 1) := by decide +kernel
theorem dQ_commonDivisor_0 : decode bQ_commonDivisor 0 = .ok (.lload_n 0, 1) := by decide +kernel
theorem dQ_commonDivisor_1 : decode bQ_commonDivisor 1 = .ok (.lstore 4, 2) := by decide +kernel
theorem dQ_commonDivisor_3 : decode bQ_commonDivisor 3 = .ok (.lload_n 2, 1) := by decide +kernel
theorem dQ_commonDivisor_4 : decode bQ_commonDivisor 4 = .ok (.lstore 6, 2) := by decide +kernel
theorem dQ_commonDivisor_6 : decode bQ_commonDivisor 6 = .ok (.iconst 0, 1) := by decide +kernel
theorem dQ_commonDivisor_7 : decode bQ_commonDivisor 7 = .ok (.istore 8, 2) := by decide +kernel
theorem dQ_commonDivisor_9 : decode bQ_commonDivisor 9 = .ok (.iload 8, 2) := by decide +kernel
theorem dQ_commonDivisor_11 : decode bQ_commonDivisor 11 = .ok (.bipush 100, 2) := by decide +kernel
theorem dQ_commonDivisor_13 : decode bQ_commonDivisor 13 = .ok (.if_icmp .ge 31, 3) := by decide +kernel
theorem dQ_commonDivisor_16 : decode bQ_commonDivisor 16 = .ok (.lload 6, 2) := by decide +kernel
theorem dQ_commonDivisor_18 : decode bQ_commonDivisor 18 = .ok (.lconst 0, 1) := by decide +kernel
theorem dQ_commonDivisor_19 : decode bQ_commonDivisor 19 = .ok (.lcmp, 1) := by decide +kernel
theorem dQ_commonDivisor_20 : decode bQ_commonDivisor 20 = .ok (.ifCond .eq 24, 3) := by decide +kernel
theorem dQ_commonDivisor_23 : decode bQ_commonDivisor 23 = .ok (.lload 4, 2) := by decide +kernel
theorem dQ_commonDivisor_25 : decode bQ_commonDivisor 25 = .ok (.lload 6, 2) := by decide +kernel
theorem dQ_commonDivisor_27 : decode bQ_commonDivisor 27 = .ok (.lrem, 1) := by decide +kernel
theorem dQ_commonDivisor_28 : decode bQ_commonDivisor 28 = .ok (.lstore 9, 2) := by decide +kernel
theorem dQ_commonDivisor_30 : decode bQ_commonDivisor 30 = .ok (.lload 6, 2) := by decide +kernel
theorem dQ_commonDivisor_32 : decode bQ_commonDivisor 32 = .ok (.lstore 4, 2) := by decide +kernel
theorem dQ_commonDivisor_34 : decode bQ_commonDivisor 34 = .ok (.lload 9, 2) := by decide +kernel
theorem dQ_commonDivisor_36 : decode bQ_commonDivisor 36 = .ok (.lstore 6, 2) := by decide +kernel
theorem dQ_commonDivisor_38 : decode bQ_commonDivisor 38 = .ok (.iinc 8 1, 3) := by decide +kernel
theorem dQ_commonDivisor_41 : decode bQ_commonDivisor 41 = .ok (.goto (-32), 3) := by decide +kernel
theorem dQ_commonDivisor_44 : decode bQ_commonDivisor 44 = .ok (.lload 4, 2) := by decide +kernel
theorem dQ_commonDivisor_46 : decode bQ_commonDivisor 46 = .ok (.lreturn, 1) := by decide +kernel
theorem dS_init_0 : decode bS_init 0 = .ok (.aload_n 0, 1) := by decide +kernel
theorem dS_init_1 : decode bS_init 1 = .ok (.invokespecial 1, 3) := by decide +kernel
theorem dS_init_4 : decode bS_init 4 = .ok (.aload_n 0, 1) := by decide +kernel
theorem dS_init_5 : decode bS_init 5 = .ok (.bipush 40, 2) := by decide +kernel
theorem dS_init_7 : decode bS_init 7 = .ok (.newarray .int, 2) := by decide +kernel
theorem dS_init_9 : decode bS_init 9 = .ok (.putfield 9, 3) := by decide +kernel
theorem dS_init_12 : decode bS_init 12 = .ok (.aload_n 0, 1) := by decide +kernel
theorem dS_init_13 : decode bS_init 13 = .ok (.bipush 8, 2) := by decide +kernel
theorem dS_init_15 : decode bS_init 15 = .ok (.newarray .char, 2) := by decide +kernel
theorem dS_init_17 : decode bS_init 17 = .ok (.putfield 13, 3) := by decide +kernel
theorem dS_init_20 : decode bS_init 20 = .ok (.aload_n 0, 1) := by decide +kernel
theorem dS_init_21 : decode bS_init 21 = .ok (.bipush 8, 2) := by decide +kernel
theorem dS_init_23 : decode bS_init 23 = .ok (.newarray .int, 2) := by decide +kernel
theorem dS_init_25 : decode bS_init 25 = .ok (.putfield 17, 3) := by decide +kernel
theorem dS_init_28 : decode bS_init 28 = .ok (.aload_n 0, 1) := by decide +kernel
theorem dS_init_29 : decode bS_init 29 = .ok (.iconst 0, 1) := by decide +kernel
theorem dS_init_30 : decode bS_init 30 = .ok (.putfield 20, 3) := by decide +kernel
theorem dS_init_33 : decode bS_init 33 = .ok (.return_, 1) := by decide +kernel
theorem dS_clear_0 : decode bS_clear 0 = .ok (.aload_n 0, 1) := by decide +kernel
theorem dS_clear_1 : decode bS_clear 1 = .ok (.iconst 0, 1) := by decide +kernel
theorem dS_clear_2 : decode bS_clear 2 = .ok (.putfield 20, 3) := by decide +kernel
theorem dS_clear_5 : decode bS_clear 5 = .ok (.iconst 0, 1) := by decide +kernel
theorem dS_clear_6 : decode bS_clear 6 = .ok (.istore_n 1, 1) := by decide +kernel
theorem dS_clear_7 : decode bS_clear 7 = .ok (.iload_n 1, 1) := by decide +kernel
theorem dS_clear_8 : decode bS_clear 8 = .ok (.aload_n 0, 1) := by decide +kernel
theorem dS_clear_9 : decode bS_clear 9 = .ok (.getfield 9, 3) := by decide +kernel
theorem dS_clear_12 : decode bS_clear 12 = .ok (.arraylength, 1) := by decide +kernel
theorem dS_clear_13 : decode bS_clear 13 = .ok (.if_icmp .ge 16, 3) := by decide +kernel
theorem dS_clear_16 : decode bS_clear 16 = .ok (.aload_n 0, 1) := by decide +kernel
theorem dS_clear_17 : decode bS_clear 17 = .ok (.getfield 9, 3) := by decide +kernel
theorem dS_clear_20 : decode bS_clear 20 = .ok (.iload_n 1, 1) := by decide +kernel
theorem dS_clear_21 : decode bS_clear 21 = .ok (.iconst 0, 1) := by decide +kernel
theorem dS_clear_22 : decode bS_clear 22 = .ok (.iastore, 1) := by decide +kernel
theorem dS_clear_23 : decode bS_clear 23 = .ok (.iinc 1 1, 3) := by decide +kernel
theorem dS_clear_26 : decode bS_clear 26 = .ok (.goto (-19), 3) := by decide +kernel
theorem dS_clear_29 : decode bS_clear 29 = .ok (.return_, 1) := by decide +kernel
theorem dS_addTerm_0 : decode bS_addTerm 0 = .ok (.aload_n 0, 1) := by decide +kernel
theorem dS_addTerm_1 : decode bS_addTerm 1 = .ok (.getfield 20, 3) := by decide +kernel
theorem dS_addTerm_4 : decode bS_addTerm 4 = .ok (.bipush 8, 2) := by decide +kernel
theorem dS_addTerm_6 : decode bS_addTerm 6 = .ok (.if_icmp .ge 29, 3) := by decide +kernel
theorem dS_addTerm_9 : decode bS_addTerm 9 = .ok (.iload_n 2, 1) := by decide +kernel
theorem dS_addTerm_10 : decode bS_addTerm 10 = .ok (.ifCond .lt 25, 3) := by decide +kernel
theorem dS_addTerm_13 : decode bS_addTerm 13 = .ok (.iload_n 2, 1) := by decide +kernel
theorem dS_addTerm_14 : decode bS_addTerm 14 = .ok (.iconst 5, 1) := by decide +kernel
theorem dS_addTerm_15 : decode bS_addTerm 15 = .ok (.if_icmp .ge 20, 3) := by decide +kernel
theorem dS_addTerm_18 : decode bS_addTerm 18 = .ok (.aload_n 0, 1) := by decide +kernel
theorem dS_addTerm_19 : decode bS_addTerm 19 = .ok (.getfield 9, 3) := by decide +kernel
theorem dS_addTerm_22 : decode bS_addTerm 22 = .ok (.aload_n 0, 1) := by decide +kernel
theorem dS_addTerm_23 : decode bS_addTerm 23 = .ok (.getfield 20, 3) := by decide +kernel
theorem dS_addTerm_26 : decode bS_addTerm 26 = .ok (.iconst 5, 1) := by decide +kernel
theorem dS_addTerm_27 : decode bS_addTerm 27 = .ok (.imul, 1) := by decide +kernel
theorem dS_addTerm_28 : decode bS_addTerm 28 = .ok (.iload_n 2, 1) := by decide +kernel
theorem dS_addTerm_29 : decode bS_addTerm 29 = .ok (.iadd, 1) := by decide +kernel
theorem dS_addTerm_30 : decode bS_addTerm 30 = .ok (.dup2, 1) := by decide +kernel
theorem dS_addTerm_31 : decode bS_addTerm 31 = .ok (.iaload, 1) := by decide +kernel
theorem dS_addTerm_32 : decode bS_addTerm 32 = .ok (.iload_n 1, 1) := by decide +kernel
theorem dS_addTerm_33 : decode bS_addTerm 33 = .ok (.iadd, 1) := by decide +kernel
theorem dS_addTerm_34 : decode bS_addTerm 34 = .ok (.iastore, 1) := by decide +kernel
theorem dS_addTerm_35 : decode bS_addTerm 35 = .ok (.return_, 1) := by decide +kernel
theorem dS_close_0 : decode bS_close 0 = .ok (.aload_n 0, 1) := by decide +kernel
theorem dS_close_1 : decode bS_close 1 = .ok (.getfield 20, 3) := by decide +kernel
theorem dS_close_4 : decode bS_close 4 = .ok (.bipush 8, 2) := by decide +kernel
theorem dS_close_6 : decode bS_close 6 = .ok (.if_icmp .ge 33, 3) := by decide +kernel
theorem dS_close_9 : decode bS_close 9 = .ok (.aload_n 0, 1) := by decide +kernel
theorem dS_close_10 : decode bS_close 10 = .ok (.getfield 13, 3) := by decide +kernel
theorem dS_close_13 : decode bS_close 13 = .ok (.aload_n 0, 1) := by decide +kernel
theorem dS_close_14 : decode bS_close 14 = .ok (.getfield 20, 3) := by decide +kernel
theorem dS_close_17 : decode bS_close 17 = .ok (.iload_n 1, 1) := by decide +kernel
theorem dS_close_18 : decode bS_close 18 = .ok (.castore, 1) := by decide +kernel
theorem dS_close_19 : decode bS_close 19 = .ok (.aload_n 0, 1) := by decide +kernel
theorem dS_close_20 : decode bS_close 20 = .ok (.getfield 17, 3) := by decide +kernel
theorem dS_close_23 : decode bS_close 23 = .ok (.aload_n 0, 1) := by decide +kernel
theorem dS_close_24 : decode bS_close 24 = .ok (.getfield 20, 3) := by decide +kernel
theorem dS_close_27 : decode bS_close 27 = .ok (.iload_n 2, 1) := by decide +kernel
theorem dS_close_28 : decode bS_close 28 = .ok (.iastore, 1) := by decide +kernel
theorem dS_close_29 : decode bS_close 29 = .ok (.aload_n 0, 1) := by decide +kernel
theorem dS_close_30 : decode bS_close 30 = .ok (.dup, 1) := by decide +kernel
theorem dS_close_31 : decode bS_close 31 = .ok (.getfield 20, 3) := by decide +kernel
theorem dS_close_34 : decode bS_close 34 = .ok (.iconst 1, 1) := by decide +kernel
theorem dS_close_35 : decode bS_close 35 = .ok (.iadd, 1) := by decide +kernel
theorem dS_close_36 : decode bS_close 36 = .ok (.putfield 20, 3) := by decide +kernel
theorem dS_close_39 : decode bS_close 39 = .ok (.return_, 1) := by decide +kernel
theorem dS_heldFromFirst_0 : decode bS_heldFromFirst 0 = .ok (.iconst 0, 1) := by decide +kernel
theorem dS_heldFromFirst_1 : decode bS_heldFromFirst 1 = .ok (.istore_n 2, 1) := by decide +kernel
theorem dS_heldFromFirst_2 : decode bS_heldFromFirst 2 = .ok (.iload_n 2, 1) := by decide +kernel
theorem dS_heldFromFirst_3 : decode bS_heldFromFirst 3 = .ok (.aload_n 0, 1) := by decide +kernel
theorem dS_heldFromFirst_4 : decode bS_heldFromFirst 4 = .ok (.getfield 20, 3) := by decide +kernel
theorem dS_heldFromFirst_7 : decode bS_heldFromFirst 7 = .ok (.if_icmp .ge 18, 3) := by decide +kernel
theorem dS_heldFromFirst_10 : decode bS_heldFromFirst 10 = .ok (.aload_n 0, 1) := by decide +kernel
theorem dS_heldFromFirst_11 : decode bS_heldFromFirst 11 = .ok (.iload_n 2, 1) := by decide +kernel
theorem dS_heldFromFirst_12 : decode bS_heldFromFirst 12 = .ok (.aload_n 1, 1) := by decide +kernel
theorem dS_heldFromFirst_13 : decode bS_heldFromFirst 13 = .ok (.invokevirtual 24, 3) := by decide +kernel
theorem dS_heldFromFirst_16 : decode bS_heldFromFirst 16 = .ok (.ifCond .eq 9, 3) := by decide +kernel
theorem dS_heldFromFirst_19 : decode bS_heldFromFirst 19 = .ok (.iinc 2 1, 3) := by decide +kernel
theorem dS_heldFromFirst_22 : decode bS_heldFromFirst 22 = .ok (.goto (-20), 3) := by decide +kernel
theorem dS_heldFromFirst_25 : decode bS_heldFromFirst 25 = .ok (.iload_n 2, 1) := by decide +kernel
theorem dS_heldFromFirst_26 : decode bS_heldFromFirst 26 = .ok (.ireturn, 1) := by decide +kernel
theorem dS_holds_0 : decode bS_holds 0 = .ok (.iload_n 1, 1) := by decide +kernel
theorem dS_holds_1 : decode bS_holds 1 = .ok (.ifCond .lt 17, 3) := by decide +kernel
theorem dS_holds_4 : decode bS_holds 4 = .ok (.iload_n 1, 1) := by decide +kernel
theorem dS_holds_5 : decode bS_holds 5 = .ok (.aload_n 0, 1) := by decide +kernel
theorem dS_holds_6 : decode bS_holds 6 = .ok (.getfield 20, 3) := by decide +kernel
theorem dS_holds_9 : decode bS_holds 9 = .ok (.if_icmp .ge 9, 3) := by decide +kernel
theorem dS_holds_12 : decode bS_holds 12 = .ok (.iload_n 1, 1) := by decide +kernel
theorem dS_holds_13 : decode bS_holds 13 = .ok (.bipush 8, 2) := by decide +kernel
theorem dS_holds_15 : decode bS_holds 15 = .ok (.if_icmp .lt 5, 3) := by decide +kernel
theorem dS_holds_18 : decode bS_holds 18 = .ok (.iconst 0, 1) := by decide +kernel
theorem dS_holds_19 : decode bS_holds 19 = .ok (.ireturn, 1) := by decide +kernel
theorem dS_holds_20 : decode bS_holds 20 = .ok (.aload_n 0, 1) := by decide +kernel
theorem dS_holds_21 : decode bS_holds 21 = .ok (.iload_n 1, 1) := by decide +kernel
theorem dS_holds_22 : decode bS_holds 22 = .ok (.iconst 5, 1) := by decide +kernel
theorem dS_holds_23 : decode bS_holds 23 = .ok (.imul, 1) := by decide +kernel
theorem dS_holds_24 : decode bS_holds 24 = .ok (.aload_n 2, 1) := by decide +kernel
theorem dS_holds_25 : decode bS_holds 25 = .ok (.invokevirtual 28, 3) := by decide +kernel
theorem dS_holds_28 : decode bS_holds 28 = .ok (.lstore_n 3, 1) := by decide +kernel
theorem dS_holds_29 : decode bS_holds 29 = .ok (.aload_n 0, 1) := by decide +kernel
theorem dS_holds_30 : decode bS_holds 30 = .ok (.getfield 17, 3) := by decide +kernel
theorem dS_holds_33 : decode bS_holds 33 = .ok (.iload_n 1, 1) := by decide +kernel
theorem dS_holds_34 : decode bS_holds 34 = .ok (.iaload, 1) := by decide +kernel
theorem dS_holds_35 : decode bS_holds 35 = .ok (.i2l, 1) := by decide +kernel
theorem dS_holds_36 : decode bS_holds 36 = .ok (.aload_n 2, 1) := by decide +kernel
theorem dS_holds_37 : decode bS_holds 37 = .ok (.getfield 32, 3) := by decide +kernel
theorem dS_holds_40 : decode bS_holds 40 = .ok (.i2l, 1) := by decide +kernel
theorem dS_holds_41 : decode bS_holds 41 = .ok (.lmul, 1) := by decide +kernel
theorem dS_holds_42 : decode bS_holds 42 = .ok (.lstore 5, 2) := by decide +kernel
theorem dS_holds_44 : decode bS_holds 44 = .ok (.aload_n 0, 1) := by decide +kernel
theorem dS_holds_45 : decode bS_holds 45 = .ok (.getfield 13, 3) := by decide +kernel
theorem dS_holds_48 : decode bS_holds 48 = .ok (.iload_n 1, 1) := by decide +kernel
theorem dS_holds_49 : decode bS_holds 49 = .ok (.caload, 1) := by decide +kernel
theorem dS_holds_50 : decode bS_holds 50 = .ok (.bipush 60, 2) := by decide +kernel
theorem dS_holds_52 : decode bS_holds 52 = .ok (.if_icmp .ne 16, 3) := by decide +kernel
theorem dS_holds_55 : decode bS_holds 55 = .ok (.lload_n 3, 1) := by decide +kernel
theorem dS_holds_56 : decode bS_holds 56 = .ok (.lload 5, 2) := by decide +kernel
theorem dS_holds_58 : decode bS_holds 58 = .ok (.lcmp, 1) := by decide +kernel
theorem dS_holds_59 : decode bS_holds 59 = .ok (.ifCond .ge 7, 3) := by decide +kernel
theorem dS_holds_62 : decode bS_holds 62 = .ok (.iconst 1, 1) := by decide +kernel
theorem dS_holds_63 : decode bS_holds 63 = .ok (.goto 4, 3) := by decide +kernel
theorem dS_holds_66 : decode bS_holds 66 = .ok (.iconst 0, 1) := by decide +kernel
theorem dS_holds_67 : decode bS_holds 67 = .ok (.ireturn, 1) := by decide +kernel
theorem dS_holds_68 : decode bS_holds 68 = .ok (.aload_n 0, 1) := by decide +kernel
theorem dS_holds_69 : decode bS_holds 69 = .ok (.getfield 13, 3) := by decide +kernel
theorem dS_holds_72 : decode bS_holds 72 = .ok (.iload_n 1, 1) := by decide +kernel
theorem dS_holds_73 : decode bS_holds 73 = .ok (.caload, 1) := by decide +kernel
theorem dS_holds_74 : decode bS_holds 74 = .ok (.bipush 62, 2) := by decide +kernel
theorem dS_holds_76 : decode bS_holds 76 = .ok (.if_icmp .ne 16, 3) := by decide +kernel
theorem dS_holds_79 : decode bS_holds 79 = .ok (.lload_n 3, 1) := by decide +kernel
theorem dS_holds_80 : decode bS_holds 80 = .ok (.lload 5, 2) := by decide +kernel
theorem dS_holds_82 : decode bS_holds 82 = .ok (.lcmp, 1) := by decide +kernel
theorem dS_holds_83 : decode bS_holds 83 = .ok (.ifCond .le 7, 3) := by decide +kernel
theorem dS_holds_86 : decode bS_holds 86 = .ok (.iconst 1, 1) := by decide +kernel
theorem dS_holds_87 : decode bS_holds 87 = .ok (.goto 4, 3) := by decide +kernel
theorem dS_holds_90 : decode bS_holds 90 = .ok (.iconst 0, 1) := by decide +kernel
theorem dS_holds_91 : decode bS_holds 91 = .ok (.ireturn, 1) := by decide +kernel
theorem dS_holds_92 : decode bS_holds 92 = .ok (.lload_n 3, 1) := by decide +kernel
theorem dS_holds_93 : decode bS_holds 93 = .ok (.lload 5, 2) := by decide +kernel
theorem dS_holds_95 : decode bS_holds 95 = .ok (.lcmp, 1) := by decide +kernel
theorem dS_holds_96 : decode bS_holds 96 = .ok (.ifCond .ne 7, 3) := by decide +kernel
theorem dS_holds_99 : decode bS_holds 99 = .ok (.iconst 1, 1) := by decide +kernel
theorem dS_holds_100 : decode bS_holds 100 = .ok (.goto 4, 3) := by decide +kernel
theorem dS_holds_103 : decode bS_holds 103 = .ok (.iconst 0, 1) := by decide +kernel
theorem dS_holds_104 : decode bS_holds 104 = .ok (.ireturn, 1) := by decide +kernel
theorem dS_sumTimesRises_0 : decode bS_sumTimesRises 0 = .ok (.iload_n 1, 1) := by decide +kernel
theorem dS_sumTimesRises_1 : decode bS_sumTimesRises 1 = .ok (.ifCond .lt 14, 3) := by decide +kernel
theorem dS_sumTimesRises_4 : decode bS_sumTimesRises 4 = .ok (.iload_n 1, 1) := by decide +kernel
theorem dS_sumTimesRises_5 : decode bS_sumTimesRises 5 = .ok (.aload_n 0, 1) := by decide +kernel
theorem dS_sumTimesRises_6 : decode bS_sumTimesRises 6 = .ok (.getfield 9, 3) := by decide +kernel
theorem dS_sumTimesRises_9 : decode bS_sumTimesRises 9 = .ok (.arraylength, 1) := by decide +kernel
theorem dS_sumTimesRises_10 : decode bS_sumTimesRises 10 = .ok (.iconst 5, 1) := by decide +kernel
theorem dS_sumTimesRises_11 : decode bS_sumTimesRises 11 = .ok (.isub, 1) := by decide +kernel
theorem dS_sumTimesRises_12 : decode bS_sumTimesRises 12 = .ok (.if_icmp .le 5, 3) := by decide +kernel
theorem dS_sumTimesRises_15 : decode bS_sumTimesRises 15 = .ok (.lconst 0, 1) := by decide +kernel
theorem dS_sumTimesRises_16 : decode bS_sumTimesRises 16 = .ok (.lreturn, 1) := by decide +kernel
theorem dS_sumTimesRises_17 : decode bS_sumTimesRises 17 = .ok (.aload_n 0, 1) := by decide +kernel
theorem dS_sumTimesRises_18 : decode bS_sumTimesRises 18 = .ok (.getfield 9, 3) := by decide +kernel
theorem dS_sumTimesRises_21 : decode bS_sumTimesRises 21 = .ok (.iload_n 1, 1) := by decide +kernel
theorem dS_sumTimesRises_22 : decode bS_sumTimesRises 22 = .ok (.iconst 1, 1) := by decide +kernel
theorem dS_sumTimesRises_23 : decode bS_sumTimesRises 23 = .ok (.iadd, 1) := by decide +kernel
theorem dS_sumTimesRises_24 : decode bS_sumTimesRises 24 = .ok (.iaload, 1) := by decide +kernel
theorem dS_sumTimesRises_25 : decode bS_sumTimesRises 25 = .ok (.i2l, 1) := by decide +kernel
theorem dS_sumTimesRises_26 : decode bS_sumTimesRises 26 = .ok (.aload_n 2, 1) := by decide +kernel
theorem dS_sumTimesRises_27 : decode bS_sumTimesRises 27 = .ok (.getfield 37, 3) := by decide +kernel
theorem dS_sumTimesRises_30 : decode bS_sumTimesRises 30 = .ok (.lmul, 1) := by decide +kernel
theorem dS_sumTimesRises_31 : decode bS_sumTimesRises 31 = .ok (.aload_n 0, 1) := by decide +kernel
theorem dS_sumTimesRises_32 : decode bS_sumTimesRises 32 = .ok (.getfield 9, 3) := by decide +kernel
theorem dS_sumTimesRises_35 : decode bS_sumTimesRises 35 = .ok (.iload_n 1, 1) := by decide +kernel
theorem dS_sumTimesRises_36 : decode bS_sumTimesRises 36 = .ok (.iconst 2, 1) := by decide +kernel
theorem dS_sumTimesRises_37 : decode bS_sumTimesRises 37 = .ok (.iadd, 1) := by decide +kernel
theorem dS_sumTimesRises_38 : decode bS_sumTimesRises 38 = .ok (.iaload, 1) := by decide +kernel
theorem dS_sumTimesRises_39 : decode bS_sumTimesRises 39 = .ok (.i2l, 1) := by decide +kernel
theorem dS_sumTimesRises_40 : decode bS_sumTimesRises 40 = .ok (.aload_n 2, 1) := by decide +kernel
theorem dS_sumTimesRises_41 : decode bS_sumTimesRises 41 = .ok (.getfield 32, 3) := by decide +kernel
theorem dS_sumTimesRises_44 : decode bS_sumTimesRises 44 = .ok (.i2l, 1) := by decide +kernel
theorem dS_sumTimesRises_45 : decode bS_sumTimesRises 45 = .ok (.lmul, 1) := by decide +kernel
theorem dS_sumTimesRises_46 : decode bS_sumTimesRises 46 = .ok (.ladd, 1) := by decide +kernel
theorem dS_sumTimesRises_47 : decode bS_sumTimesRises 47 = .ok (.aload_n 0, 1) := by decide +kernel
theorem dS_sumTimesRises_48 : decode bS_sumTimesRises 48 = .ok (.getfield 9, 3) := by decide +kernel
theorem dS_sumTimesRises_51 : decode bS_sumTimesRises 51 = .ok (.iload_n 1, 1) := by decide +kernel
theorem dS_sumTimesRises_52 : decode bS_sumTimesRises 52 = .ok (.iconst 3, 1) := by decide +kernel
theorem dS_sumTimesRises_53 : decode bS_sumTimesRises 53 = .ok (.iadd, 1) := by decide +kernel
theorem dS_sumTimesRises_54 : decode bS_sumTimesRises 54 = .ok (.iaload, 1) := by decide +kernel
theorem dS_sumTimesRises_55 : decode bS_sumTimesRises 55 = .ok (.i2l, 1) := by decide +kernel
theorem dS_sumTimesRises_56 : decode bS_sumTimesRises 56 = .ok (.aload_n 2, 1) := by decide +kernel
theorem dS_sumTimesRises_57 : decode bS_sumTimesRises 57 = .ok (.getfield 41, 3) := by decide +kernel
theorem dS_sumTimesRises_60 : decode bS_sumTimesRises 60 = .ok (.lmul, 1) := by decide +kernel
theorem dS_sumTimesRises_61 : decode bS_sumTimesRises 61 = .ok (.ladd, 1) := by decide +kernel
theorem dS_sumTimesRises_62 : decode bS_sumTimesRises 62 = .ok (.aload_n 0, 1) := by decide +kernel
theorem dS_sumTimesRises_63 : decode bS_sumTimesRises 63 = .ok (.getfield 9, 3) := by decide +kernel
theorem dS_sumTimesRises_66 : decode bS_sumTimesRises 66 = .ok (.iload_n 1, 1) := by decide +kernel
theorem dS_sumTimesRises_67 : decode bS_sumTimesRises 67 = .ok (.iconst 4, 1) := by decide +kernel
theorem dS_sumTimesRises_68 : decode bS_sumTimesRises 68 = .ok (.iadd, 1) := by decide +kernel
theorem dS_sumTimesRises_69 : decode bS_sumTimesRises 69 = .ok (.iaload, 1) := by decide +kernel
theorem dS_sumTimesRises_70 : decode bS_sumTimesRises 70 = .ok (.i2l, 1) := by decide +kernel
theorem dS_sumTimesRises_71 : decode bS_sumTimesRises 71 = .ok (.aload_n 2, 1) := by decide +kernel
theorem dS_sumTimesRises_72 : decode bS_sumTimesRises 72 = .ok (.getfield 44, 3) := by decide +kernel
theorem dS_sumTimesRises_75 : decode bS_sumTimesRises 75 = .ok (.lmul, 1) := by decide +kernel
theorem dS_sumTimesRises_76 : decode bS_sumTimesRises 76 = .ok (.ladd, 1) := by decide +kernel
theorem dS_sumTimesRises_77 : decode bS_sumTimesRises 77 = .ok (.lstore_n 3, 1) := by decide +kernel
theorem dS_sumTimesRises_78 : decode bS_sumTimesRises 78 = .ok (.aload_n 0, 1) := by decide +kernel
theorem dS_sumTimesRises_79 : decode bS_sumTimesRises 79 = .ok (.getfield 9, 3) := by decide +kernel
theorem dS_sumTimesRises_82 : decode bS_sumTimesRises 82 = .ok (.iload_n 1, 1) := by decide +kernel
theorem dS_sumTimesRises_83 : decode bS_sumTimesRises 83 = .ok (.iaload, 1) := by decide +kernel
theorem dS_sumTimesRises_84 : decode bS_sumTimesRises 84 = .ok (.i2l, 1) := by decide +kernel
theorem dS_sumTimesRises_85 : decode bS_sumTimesRises 85 = .ok (.aload_n 2, 1) := by decide +kernel
theorem dS_sumTimesRises_86 : decode bS_sumTimesRises 86 = .ok (.getfield 44, 3) := by decide +kernel
theorem dS_sumTimesRises_89 : decode bS_sumTimesRises 89 = .ok (.lmul, 1) := by decide +kernel
theorem dS_sumTimesRises_90 : decode bS_sumTimesRises 90 = .ok (.lload_n 3, 1) := by decide +kernel
theorem dS_sumTimesRises_91 : decode bS_sumTimesRises 91 = .ok (.aload_n 2, 1) := by decide +kernel
theorem dS_sumTimesRises_92 : decode bS_sumTimesRises 92 = .ok (.getfield 32, 3) := by decide +kernel
theorem dS_sumTimesRises_95 : decode bS_sumTimesRises 95 = .ok (.i2l, 1) := by decide +kernel
theorem dS_sumTimesRises_96 : decode bS_sumTimesRises 96 = .ok (.lmul, 1) := by decide +kernel
theorem dS_sumTimesRises_97 : decode bS_sumTimesRises 97 = .ok (.ladd, 1) := by decide +kernel
theorem dS_sumTimesRises_98 : decode bS_sumTimesRises 98 = .ok (.lreturn, 1) := by decide +kernel
