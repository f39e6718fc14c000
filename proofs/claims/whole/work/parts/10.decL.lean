theorem dL_heights_0 : decode bL_heights 0 = .ok (.aload_n 3, 1) := by decide +kernel
theorem dL_heights_1 : decode bL_heights 1 = .ok (.iconst 0, 1) := by decide +kernel
theorem dL_heights_2 : decode bL_heights 2 = .ok (.aload_n 0, 1) := by decide +kernel
theorem dL_heights_3 : decode bL_heights 3 = .ok (.lload_n 1, 1) := by decide +kernel
theorem dL_heights_4 : decode bL_heights 4 = .ok (.invokevirtual 7, 3) := by decide +kernel
theorem dL_heights_7 : decode bL_heights 7 = .ok (.ifCond .eq 7, 3) := by decide +kernel
theorem dL_heights_10 : decode bL_heights 10 = .ok (.lconst 1, 1) := by decide +kernel
theorem dL_heights_11 : decode bL_heights 11 = .ok (.goto 4, 3) := by decide +kernel
theorem dL_heights_14 : decode bL_heights 14 = .ok (.lconst 0, 1) := by decide +kernel
theorem dL_heights_15 : decode bL_heights 15 = .ok (.lastore, 1) := by decide +kernel
theorem dL_heights_16 : decode bL_heights 16 = .ok (.goto 7, 3) := by decide +kernel
theorem dL_heights_19 : decode bL_heights 19 = .ok (.astore 4, 2) := by decide +kernel
theorem dL_heights_21 : decode bL_heights 21 = .ok (.iconst 1, 1) := by decide +kernel
theorem dL_heights_22 : decode bL_heights 22 = .ok (.ireturn, 1) := by decide +kernel
theorem dL_heights_23 : decode bL_heights 23 = .ok (.iconst 0, 1) := by decide +kernel
theorem dL_heights_24 : decode bL_heights 24 = .ok (.ireturn, 1) := by decide +kernel
theorem dL_run_0 : decode bL_run 0 = .ok (.aload 6, 2) := by decide +kernel
theorem dL_run_2 : decode bL_run 2 = .ok (.iconst 0, 1) := by decide +kernel
theorem dL_run_3 : decode bL_run 3 = .ok (.aload_n 0, 1) := by decide +kernel
theorem dL_run_4 : decode bL_run 4 = .ok (.iload_n 1, 1) := by decide +kernel
theorem dL_run_5 : decode bL_run 5 = .ok (.lload_n 2, 1) := by decide +kernel
theorem dL_run_6 : decode bL_run 6 = .ok (.lload 4, 2) := by decide +kernel
theorem dL_run_8 : decode bL_run 8 = .ok (.invokevirtual 15, 3) := by decide +kernel
theorem dL_run_11 : decode bL_run 11 = .ok (.i2l, 1) := by decide +kernel
theorem dL_run_12 : decode bL_run 12 = .ok (.lastore, 1) := by decide +kernel
theorem dL_run_13 : decode bL_run 13 = .ok (.goto 11, 3) := by decide +kernel
theorem dL_run_16 : decode bL_run 16 = .ok (.astore 7, 2) := by decide +kernel
theorem dL_run_18 : decode bL_run 18 = .ok (.iconst 1, 1) := by decide +kernel
theorem dL_run_19 : decode bL_run 19 = .ok (.ireturn, 1) := by decide +kernel
theorem dL_run_20 : decode bL_run 20 = .ok (.astore 7, 2) := by decide +kernel
theorem dL_run_22 : decode bL_run 22 = .ok (.iconst 2, 1) := by decide +kernel
theorem dL_run_23 : decode bL_run 23 = .ok (.ireturn, 1) := by decide +kernel
theorem dL_run_24 : decode bL_run 24 = .ok (.iconst 0, 1) := by decide +kernel
theorem dL_run_25 : decode bL_run 25 = .ok (.ireturn, 1) := by decide +kernel
theorem dL_rise_0 : decode bL_rise 0 = .ok (.aload_n 2, 1) := by decide +kernel
theorem dL_rise_1 : decode bL_rise 1 = .ok (.iconst 0, 1) := by decide +kernel
theorem dL_rise_2 : decode bL_rise 2 = .ok (.aload_n 0, 1) := by decide +kernel
theorem dL_rise_3 : decode bL_rise 3 = .ok (.iload_n 1, 1) := by decide +kernel
theorem dL_rise_4 : decode bL_rise 4 = .ok (.invokevirtual 21, 3) := by decide +kernel
theorem dL_rise_7 : decode bL_rise 7 = .ok (.lastore, 1) := by decide +kernel
theorem dL_rise_8 : decode bL_rise 8 = .ok (.goto 9, 3) := by decide +kernel
theorem dL_rise_11 : decode bL_rise 11 = .ok (.astore_n 3, 1) := by decide +kernel
theorem dL_rise_12 : decode bL_rise 12 = .ok (.iconst 1, 1) := by decide +kernel
theorem dL_rise_13 : decode bL_rise 13 = .ok (.ireturn, 1) := by decide +kernel
theorem dL_rise_14 : decode bL_rise 14 = .ok (.astore_n 3, 1) := by decide +kernel
theorem dL_rise_15 : decode bL_rise 15 = .ok (.iconst 2, 1) := by decide +kernel
theorem dL_rise_16 : decode bL_rise 16 = .ok (.ireturn, 1) := by decide +kernel
theorem dL_rise_17 : decode bL_rise 17 = .ok (.iconst 0, 1) := by decide +kernel
theorem dL_rise_18 : decode bL_rise 18 = .ok (.ireturn, 1) := by decide +kernel
theorem dL_step_0 : decode bL_step 0 = .ok (.aload_n 3, 1) := by decide +kernel
theorem dL_step_1 : decode bL_step 1 = .ok (.iconst 0, 1) := by decide +kernel
theorem dL_step_2 : decode bL_step 2 = .ok (.aload_n 0, 1) := by decide +kernel
theorem dL_step_3 : decode bL_step 3 = .ok (.iload_n 1, 1) := by decide +kernel
theorem dL_step_4 : decode bL_step 4 = .ok (.iload_n 2, 1) := by decide +kernel
theorem dL_step_5 : decode bL_step 5 = .ok (.invokevirtual 27, 3) := by decide +kernel
theorem dL_step_8 : decode bL_step 8 = .ok (.lastore, 1) := by decide +kernel
theorem dL_step_9 : decode bL_step 9 = .ok (.goto 15, 3) := by decide +kernel
theorem dL_step_12 : decode bL_step 12 = .ok (.astore 4, 2) := by decide +kernel
theorem dL_step_14 : decode bL_step 14 = .ok (.iconst 1, 1) := by decide +kernel
theorem dL_step_15 : decode bL_step 15 = .ok (.ireturn, 1) := by decide +kernel
theorem dL_step_16 : decode bL_step 16 = .ok (.astore 4, 2) := by decide +kernel
theorem dL_step_18 : decode bL_step 18 = .ok (.iconst 2, 1) := by decide +kernel
theorem dL_step_19 : decode bL_step 19 = .ok (.ireturn, 1) := by decide +kernel
theorem dL_step_20 : decode bL_step 20 = .ok (.astore 4, 2) := by decide +kernel
theorem dL_step_22 : decode bL_step 22 = .ok (.iconst 3, 1) := by decide +kernel
theorem dL_step_23 : decode bL_step 23 = .ok (.ireturn, 1) := by decide +kernel
theorem dL_step_24 : decode bL_step 24 = .ok (.iconst 0, 1) := by decide +kernel
theorem dL_step_25 : decode bL_step 25 = .ok (.ireturn, 1) := by decide +kernel
theorem dL_winder_0 : decode bL_winder 0 = .ok (.aload_n 3, 1) := by decide +kernel
theorem dL_winder_1 : decode bL_winder 1 = .ok (.iconst 0, 1) := by decide +kernel
theorem dL_winder_2 : decode bL_winder 2 = .ok (.aload_n 0, 1) := by decide +kernel
theorem dL_winder_3 : decode bL_winder 3 = .ok (.iload_n 1, 1) := by decide +kernel
theorem dL_winder_4 : decode bL_winder 4 = .ok (.iload_n 2, 1) := by decide +kernel
theorem dL_winder_5 : decode bL_winder 5 = .ok (.invokevirtual 31, 3) := by decide +kernel
theorem dL_winder_8 : decode bL_winder 8 = .ok (.lastore, 1) := by decide +kernel
theorem dL_winder_9 : decode bL_winder 9 = .ok (.goto 11, 3) := by decide +kernel
theorem dL_winder_12 : decode bL_winder 12 = .ok (.astore 4, 2) := by decide +kernel
theorem dL_winder_14 : decode bL_winder 14 = .ok (.iconst 1, 1) := by decide +kernel
theorem dL_winder_15 : decode bL_winder 15 = .ok (.ireturn, 1) := by decide +kernel
theorem dL_winder_16 : decode bL_winder 16 = .ok (.astore 4, 2) := by decide +kernel
theorem dL_winder_18 : decode bL_winder 18 = .ok (.iconst 2, 1) := by decide +kernel
theorem dL_winder_19 : decode bL_winder 19 = .ok (.ireturn, 1) := by decide +kernel
theorem dL_winder_20 : decode bL_winder 20 = .ok (.iconst 0, 1) := by decide +kernel
theorem dL_winder_21 : decode bL_winder 21 = .ok (.ireturn, 1) := by decide +kernel
theorem dL_area_0 : decode bL_area 0 = .ok (.aload_n 2, 1) := by decide +kernel
theorem dL_area_1 : decode bL_area 1 = .ok (.iconst 0, 1) := by decide +kernel
theorem dL_area_2 : decode bL_area 2 = .ok (.aload_n 0, 1) := by decide +kernel
theorem dL_area_3 : decode bL_area 3 = .ok (.iload_n 1, 1) := by decide +kernel
theorem dL_area_4 : decode bL_area 4 = .ok (.invokevirtual 34, 3) := by decide +kernel
theorem dL_area_7 : decode bL_area 7 = .ok (.lastore, 1) := by decide +kernel
theorem dL_area_8 : decode bL_area 8 = .ok (.goto 9, 3) := by decide +kernel
theorem dL_area_11 : decode bL_area 11 = .ok (.astore_n 3, 1) := by decide +kernel
theorem dL_area_12 : decode bL_area 12 = .ok (.iconst 1, 1) := by decide +kernel
theorem dL_area_13 : decode bL_area 13 = .ok (.ireturn, 1) := by decide +kernel
theorem dL_area_14 : decode bL_area 14 = .ok (.astore_n 3, 1) := by decide +kernel
theorem dL_area_15 : decode bL_area 15 = .ok (.iconst 2, 1) := by decide +kernel
theorem dL_area_16 : decode bL_area 16 = .ok (.ireturn, 1) := by decide +kernel
theorem dL_area_17 : decode bL_area 17 = .ok (.iconst 0, 1) := by decide +kernel
theorem dL_area_18 : decode bL_area 18 = .ok (.ireturn, 1) := by decide +kernel
theorem dL_meets_0 : decode bL_meets 0 = .ok (.aload_n 2, 1) := by decide +kernel
theorem dL_meets_1 : decode bL_meets 1 = .ok (.iconst 0, 1) := by decide +kernel
theorem dL_meets_2 : decode bL_meets 2 = .ok (.aload_n 0, 1) := by decide +kernel
theorem dL_meets_3 : decode bL_meets 3 = .ok (.iload_n 1, 1) := by decide +kernel
theorem dL_meets_4 : decode bL_meets 4 = .ok (.invokevirtual 37, 3) := by decide +kernel
theorem dL_meets_7 : decode bL_meets 7 = .ok (.ifCond .eq 7, 3) := by decide +kernel
theorem dL_meets_10 : decode bL_meets 10 = .ok (.lconst 1, 1) := by decide +kernel
theorem dL_meets_11 : decode bL_meets 11 = .ok (.goto 4, 3) := by decide +kernel
theorem dL_meets_14 : decode bL_meets 14 = .ok (.lconst 0, 1) := by decide +kernel
theorem dL_meets_15 : decode bL_meets 15 = .ok (.lastore, 1) := by decide +kernel
theorem dL_meets_16 : decode bL_meets 16 = .ok (.goto 9, 3) := by decide +kernel
theorem dL_meets_19 : decode bL_meets 19 = .ok (.astore_n 3, 1) := by decide +kernel
theorem dL_meets_20 : decode bL_meets 20 = .ok (.iconst 1, 1) := by decide +kernel
theorem dL_meets_21 : decode bL_meets 21 = .ok (.ireturn, 1) := by decide +kernel
theorem dL_meets_22 : decode bL_meets 22 = .ok (.astore_n 3, 1) := by decide +kernel
theorem dL_meets_23 : decode bL_meets 23 = .ok (.iconst 2, 1) := by decide +kernel
theorem dL_meets_24 : decode bL_meets 24 = .ok (.ireturn, 1) := by decide +kernel
theorem dL_meets_25 : decode bL_meets 25 = .ok (.iconst 0, 1) := by decide +kernel
theorem dL_meets_26 : decode bL_meets 26 = .ok (.ireturn, 1) := by decide +kernel
theorem dL_floor_0 : decode bL_floor 0 = .ok (.aload 11, 2) := by decide +kernel
theorem dL_floor_2 : decode bL_floor 2 = .ok (.iconst 0, 1) := by decide +kernel
theorem dL_floor_3 : decode bL_floor 3 = .ok (.aload_n 0, 1) := by decide +kernel
theorem dL_floor_4 : decode bL_floor 4 = .ok (.lload_n 1, 1) := by decide +kernel
theorem dL_floor_5 : decode bL_floor 5 = .ok (.lload_n 3, 1) := by decide +kernel
theorem dL_floor_6 : decode bL_floor 6 = .ok (.lload 5, 2) := by decide +kernel
theorem dL_floor_8 : decode bL_floor 8 = .ok (.lload 7, 2) := by decide +kernel
theorem dL_floor_10 : decode bL_floor 10 = .ok (.lload 9, 2) := by decide +kernel
theorem dL_floor_12 : decode bL_floor 12 = .ok (.invokevirtual 41, 3) := by decide +kernel
theorem dL_floor_15 : decode bL_floor 15 = .ok (.ifCond .eq 7, 3) := by decide +kernel
theorem dL_floor_18 : decode bL_floor 18 = .ok (.lconst 1, 1) := by decide +kernel
theorem dL_floor_19 : decode bL_floor 19 = .ok (.goto 4, 3) := by decide +kernel
theorem dL_floor_22 : decode bL_floor 22 = .ok (.lconst 0, 1) := by decide +kernel
theorem dL_floor_23 : decode bL_floor 23 = .ok (.lastore, 1) := by decide +kernel
theorem dL_floor_24 : decode bL_floor 24 = .ok (.goto 7, 3) := by decide +kernel
theorem dL_floor_27 : decode bL_floor 27 = .ok (.astore 12, 2) := by decide +kernel
theorem dL_floor_29 : decode bL_floor 29 = .ok (.iconst 1, 1) := by decide +kernel
theorem dL_floor_30 : decode bL_floor 30 = .ok (.ireturn, 1) := by decide +kernel
theorem dL_floor_31 : decode bL_floor 31 = .ok (.iconst 0, 1) := by decide +kernel
theorem dL_floor_32 : decode bL_floor 32 = .ok (.ireturn, 1) := by decide +kernel
theorem dL_headRoom_0 : decode bL_headRoom 0 = .ok (.aload_n 1, 1) := by decide +kernel
theorem dL_headRoom_1 : decode bL_headRoom 1 = .ok (.iconst 0, 1) := by decide +kernel
theorem dL_headRoom_2 : decode bL_headRoom 2 = .ok (.aload_n 0, 1) := by decide +kernel
theorem dL_headRoom_3 : decode bL_headRoom 3 = .ok (.invokevirtual 45, 3) := by decide +kernel
theorem dL_headRoom_6 : decode bL_headRoom 6 = .ok (.lastore, 1) := by decide +kernel
theorem dL_headRoom_7 : decode bL_headRoom 7 = .ok (.goto 6, 3) := by decide +kernel
theorem dL_headRoom_10 : decode bL_headRoom 10 = .ok (.astore_n 2, 1) := by decide +kernel
theorem dL_headRoom_11 : decode bL_headRoom 11 = .ok (.iconst 1, 1) := by decide +kernel
theorem dL_headRoom_12 : decode bL_headRoom 12 = .ok (.ireturn, 1) := by decide +kernel
theorem dL_headRoom_13 : decode bL_headRoom 13 = .ok (.iconst 0, 1) := by decide +kernel
theorem dL_headRoom_14 : decode bL_headRoom 14 = .ok (.ireturn, 1) := by decide +kernel
theorem dL_string_0 : decode bL_string 0 = .ok (.aload_n 2, 1) := by decide +kernel
theorem dL_string_1 : decode bL_string 1 = .ok (.iconst 0, 1) := by decide +kernel
theorem dL_string_2 : decode bL_string 2 = .ok (.aload_n 0, 1) := by decide +kernel
theorem dL_string_3 : decode bL_string 3 = .ok (.iload_n 1, 1) := by decide +kernel
theorem dL_string_4 : decode bL_string 4 = .ok (.invokevirtual 49, 3) := by decide +kernel
theorem dL_string_7 : decode bL_string 7 = .ok (.lastore, 1) := by decide +kernel
theorem dL_string_8 : decode bL_string 8 = .ok (.goto 9, 3) := by decide +kernel
theorem dL_string_11 : decode bL_string 11 = .ok (.astore_n 3, 1) := by decide +kernel
theorem dL_string_12 : decode bL_string 12 = .ok (.iconst 1, 1) := by decide +kernel
theorem dL_string_13 : decode bL_string 13 = .ok (.ireturn, 1) := by decide +kernel
theorem dL_string_14 : decode bL_string 14 = .ok (.astore_n 3, 1) := by decide +kernel
theorem dL_string_15 : decode bL_string 15 = .ok (.iconst 2, 1) := by decide +kernel
theorem dL_string_16 : decode bL_string 16 = .ok (.ireturn, 1) := by decide +kernel
theorem dL_string_17 : decode bL_string 17 = .ok (.iconst 0, 1) := by decide +kernel
theorem dL_string_18 : decode bL_string 18 = .ok (.ireturn, 1) := by decide +kernel
theorem dL_balusters_0 : decode bL_balusters 0 = .ok (.aload 5, 2) := by decide +kernel
theorem dL_balusters_2 : decode bL_balusters 2 = .ok (.iconst 0, 1) := by decide +kernel
theorem dL_balusters_3 : decode bL_balusters 3 = .ok (.aload_n 0, 1) := by decide +kernel
theorem dL_balusters_4 : decode bL_balusters 4 = .ok (.lload_n 1, 1) := by decide +kernel
theorem dL_balusters_5 : decode bL_balusters 5 = .ok (.lload_n 3, 1) := by decide +kernel
theorem dL_balusters_6 : decode bL_balusters 6 = .ok (.invokevirtual 52, 3) := by decide +kernel
theorem dL_balusters_9 : decode bL_balusters 9 = .ok (.i2l, 1) := by decide +kernel
theorem dL_balusters_10 : decode bL_balusters 10 = .ok (.lastore, 1) := by decide +kernel
theorem dL_balusters_11 : decode bL_balusters 11 = .ok (.goto 11, 3) := by decide +kernel
theorem dL_balusters_14 : decode bL_balusters 14 = .ok (.astore 6, 2) := by decide +kernel
theorem dL_balusters_16 : decode bL_balusters 16 = .ok (.iconst 1, 1) := by decide +kernel
theorem dL_balusters_17 : decode bL_balusters 17 = .ok (.ireturn, 1) := by decide +kernel
theorem dL_balusters_18 : decode bL_balusters 18 = .ok (.astore 6, 2) := by decide +kernel
theorem dL_balusters_20 : decode bL_balusters 20 = .ok (.iconst 2, 1) := by decide +kernel
theorem dL_balusters_21 : decode bL_balusters 21 = .ok (.ireturn, 1) := by decide +kernel
theorem dL_balusters_22 : decode bL_balusters 22 = .ok (.iconst 0, 1) := by decide +kernel
theorem dL_balusters_23 : decode bL_balusters 23 = .ok (.ireturn, 1) := by decide +kernel
theorem dL_gap_0 : decode bL_gap 0 = .ok (.aload_n 2, 1) := by decide +kernel
theorem dL_gap_1 : decode bL_gap 1 = .ok (.iconst 0, 1) := by decide +kernel
theorem dL_gap_2 : decode bL_gap 2 = .ok (.aload_n 0, 1) := by decide +kernel
theorem dL_gap_3 : decode bL_gap 3 = .ok (.iload_n 1, 1) := by decide +kernel
theorem dL_gap_4 : decode bL_gap 4 = .ok (.invokevirtual 56, 3) := by decide +kernel
theorem dL_gap_7 : decode bL_gap 7 = .ok (.lastore, 1) := by decide +kernel
theorem dL_gap_8 : decode bL_gap 8 = .ok (.goto 9, 3) := by decide +kernel
theorem dL_gap_11 : decode bL_gap 11 = .ok (.astore_n 3, 1) := by decide +kernel
theorem dL_gap_12 : decode bL_gap 12 = .ok (.iconst 1, 1) := by decide +kernel
theorem dL_gap_13 : decode bL_gap 13 = .ok (.ireturn, 1) := by decide +kernel
theorem dL_gap_14 : decode bL_gap 14 = .ok (.astore_n 3, 1) := by decide +kernel
theorem dL_gap_15 : decode bL_gap 15 = .ok (.iconst 2, 1) := by decide +kernel
theorem dL_gap_16 : decode bL_gap 16 = .ok (.ireturn, 1) := by decide +kernel
theorem dL_gap_17 : decode bL_gap 17 = .ok (.iconst 0, 1) := by decide +kernel
theorem dL_gap_18 : decode bL_gap 18 = .ok (.ireturn, 1) := by decide +kernel
theorem dL_list_0 : decode bL_list 0 = .ok (.aload_n 2, 1) := by decide +kernel
theorem dL_list_1 : decode bL_list 1 = .ok (.iconst 0, 1) := by decide +kernel
theorem dL_list_2 : decode bL_list 2 = .ok (.aload_n 0, 1) := by decide +kernel
theorem dL_list_3 : decode bL_list 3 = .ok (.iload_n 1, 1) := by decide +kernel
theorem dL_list_4 : decode bL_list 4 = .ok (.invokevirtual 59, 3) := by decide +kernel
theorem dL_list_7 : decode bL_list 7 = .ok (.i2l, 1) := by decide +kernel
theorem dL_list_8 : decode bL_list 8 = .ok (.lastore, 1) := by decide +kernel
theorem dL_list_9 : decode bL_list 9 = .ok (.goto 9, 3) := by decide +kernel
theorem dL_list_12 : decode bL_list 12 = .ok (.astore_n 3, 1) := by decide +kernel
theorem dL_list_13 : decode bL_list 13 = .ok (.iconst 1, 1) := by decide +kernel
theorem dL_list_14 : decode bL_list 14 = .ok (.ireturn, 1) := by decide +kernel
theorem dL_list_15 : decode bL_list 15 = .ok (.astore_n 3, 1) := by decide +kernel
theorem dL_list_16 : decode bL_list 16 = .ok (.iconst 2, 1) := by decide +kernel
theorem dL_list_17 : decode bL_list 17 = .ok (.ireturn, 1) := by decide +kernel
theorem dL_list_18 : decode bL_list 18 = .ok (.iconst 0, 1) := by decide +kernel
theorem dL_list_19 : decode bL_list 19 = .ok (.ireturn, 1) := by decide +kernel
theorem dL_law_0 : decode code 0 = .ok (.new 8, 3) := by decide +kernel
theorem dL_law_3 : decode code 3 = .ok (.dup, 1) := by decide +kernel
theorem dL_law_4 : decode code 4 = .ok (.invokespecial 63, 3) := by decide +kernel
theorem dL_law_7 : decode code 7 = .ok (.astore_n 1, 1) := by decide +kernel
theorem dL_law_8 : decode code 8 = .ok (.new 64, 3) := by decide +kernel
theorem dL_law_11 : decode code 11 = .ok (.dup, 1) := by decide +kernel
theorem dL_law_12 : decode code 12 = .ok (.invokespecial 66, 3) := by decide +kernel
theorem dL_law_15 : decode code 15 = .ok (.astore_n 2, 1) := by decide +kernel
theorem dL_law_16 : decode code 16 = .ok (.iconst 1, 1) := by decide +kernel
theorem dL_law_17 : decode code 17 = .ok (.newarray .long, 2) := by decide +kernel
theorem dL_law_19 : decode code 19 = .ok (.astore_n 3, 1) := by decide +kernel
theorem dL_law_20 : decode code 20 = .ok (.iconst 0, 1) := by decide +kernel
theorem dL_law_21 : decode code 21 = .ok (.istore 4, 2) := by decide +kernel
theorem dL_law_23 : decode code 23 = .ok (.iload 4, 2) := by decide +kernel
theorem dL_law_25 : decode code 25 = .ok (.aload_n 0, 1) := by decide +kernel
theorem dL_law_26 : decode code 26 = .ok (.arraylength, 1) := by decide +kernel
theorem dL_law_27 : decode code 27 = .ok (.bipush 11, 2) := by decide +kernel
theorem dL_law_29 : decode code 29 = .ok (.isub, 1) := by decide +kernel
theorem dL_law_30 : decode code 30 = .ok (.if_icmp .gt 1298, 3) := by decide +kernel
theorem dL_law_33 : decode code 33 = .ok (.aload_n 0, 1) := by decide +kernel
theorem dL_law_34 : decode code 34 = .ok (.iload 4, 2) := by decide +kernel
theorem dL_law_36 : decode code 36 = .ok (.iaload, 1) := by decide +kernel
theorem dL_law_37 : decode code 37 = .ok (.bipush 15, 2) := by decide +kernel
theorem dL_law_39 : decode code 39 = .ok (.iand, 1) := by decide +kernel
theorem dL_law_40 : decode code 40 = .ok (.tableswitch 1282 0 14 #[76, 171, 196, 209, 353, 408, 475, 542, 597, 660, 941, 984, 1039, 1171, 1226], 76) := by decide +kernel
theorem dL_law_116 : decode code 116 = .ok (.aload_n 1, 1) := by decide +kernel
theorem dL_law_117 : decode code 117 = .ok (.aload_n 0, 1) := by decide +kernel
theorem dL_law_118 : decode code 118 = .ok (.iload 4, 2) := by decide +kernel
theorem dL_law_120 : decode code 120 = .ok (.iconst 1, 1) := by decide +kernel
theorem dL_law_121 : decode code 121 = .ok (.iadd, 1) := by decide +kernel
theorem dL_law_122 : decode code 122 = .ok (.iaload, 1) := by decide +kernel
theorem dL_law_123 : decode code 123 = .ok (.i2l, 1) := by decide +kernel
theorem dL_law_124 : decode code 124 = .ok (.bipush 32, 2) := by decide +kernel
theorem dL_law_126 : decode code 126 = .ok (.lshl, 1) := by decide +kernel
theorem dL_law_127 : decode code 127 = .ok (.aload_n 0, 1) := by decide +kernel
theorem dL_law_128 : decode code 128 = .ok (.iload 4, 2) := by decide +kernel
theorem dL_law_130 : decode code 130 = .ok (.iconst 2, 1) := by decide +kernel
theorem dL_law_131 : decode code 131 = .ok (.iadd, 1) := by decide +kernel
theorem dL_law_132 : decode code 132 = .ok (.iaload, 1) := by decide +kernel
theorem dL_law_133 : decode code 133 = .ok (.i2l, 1) := by decide +kernel
theorem dL_law_134 : decode code 134 = .ok (.ldc2_w 67, 3) := by decide +kernel
theorem dL_law_137 : decode code 137 = .ok (.land, 1) := by decide +kernel
theorem dL_law_138 : decode code 138 = .ok (.lor, 1) := by decide +kernel
theorem dL_law_139 : decode code 139 = .ok (.aload_n 3, 1) := by decide +kernel
theorem dL_law_140 : decode code 140 = .ok (.invokestatic 69, 3) := by decide +kernel
theorem dL_law_143 : decode code 143 = .ok (.istore 5, 2) := by decide +kernel
theorem dL_law_145 : decode code 145 = .ok (.aload_n 2, 1) := by decide +kernel
theorem dL_law_146 : decode code 146 = .ok (.aload_n 0, 1) := by decide +kernel
theorem dL_law_147 : decode code 147 = .ok (.iload 4, 2) := by decide +kernel
theorem dL_law_149 : decode code 149 = .ok (.iconst 1, 1) := by decide +kernel
theorem dL_law_150 : decode code 150 = .ok (.iadd, 1) := by decide +kernel
theorem dL_law_151 : decode code 151 = .ok (.iaload, 1) := by decide +kernel
theorem dL_law_152 : decode code 152 = .ok (.i2l, 1) := by decide +kernel
theorem dL_law_153 : decode code 153 = .ok (.bipush 32, 2) := by decide +kernel
theorem dL_law_155 : decode code 155 = .ok (.lshl, 1) := by decide +kernel
theorem dL_law_156 : decode code 156 = .ok (.aload_n 0, 1) := by decide +kernel
theorem dL_law_157 : decode code 157 = .ok (.iload 4, 2) := by decide +kernel
theorem dL_law_159 : decode code 159 = .ok (.iconst 2, 1) := by decide +kernel
theorem dL_law_160 : decode code 160 = .ok (.iadd, 1) := by decide +kernel
theorem dL_law_161 : decode code 161 = .ok (.iaload, 1) := by decide +kernel
theorem dL_law_162 : decode code 162 = .ok (.i2l, 1) := by decide +kernel
theorem dL_law_163 : decode code 163 = .ok (.ldc2_w 67, 3) := by decide +kernel
theorem dL_law_166 : decode code 166 = .ok (.land, 1) := by decide +kernel
theorem dL_law_167 : decode code 167 = .ok (.lor, 1) := by decide +kernel
theorem dL_law_168 : decode code 168 = .ok (.invokevirtual 74, 3) := by decide +kernel
theorem dL_law_171 : decode code 171 = .ok (.istore 6, 2) := by decide +kernel
theorem dL_law_173 : decode code 173 = .ok (.aload_n 2, 1) := by decide +kernel
theorem dL_law_174 : decode code 174 = .ok (.invokevirtual 75, 3) := by decide +kernel
theorem dL_law_177 : decode code 177 = .ok (.iload 5, 2) := by decide +kernel
theorem dL_law_179 : decode code 179 = .ok (.if_icmp .eq 5, 3) := by decide +kernel
theorem dL_law_182 : decode code 182 = .ok (.iconst 0, 1) := by decide +kernel
theorem dL_law_183 : decode code 183 = .ok (.ireturn, 1) := by decide +kernel
theorem dL_law_184 : decode code 184 = .ok (.iload 5, 2) := by decide +kernel
theorem dL_law_186 : decode code 186 = .ok (.ifCond .ne 22, 3) := by decide +kernel
theorem dL_law_189 : decode code 189 = .ok (.aload_n 3, 1) := by decide +kernel
theorem dL_law_190 : decode code 190 = .ok (.iconst 0, 1) := by decide +kernel
theorem dL_law_191 : decode code 191 = .ok (.laload, 1) := by decide +kernel
theorem dL_law_192 : decode code 192 = .ok (.iload 6, 2) := by decide +kernel
theorem dL_law_194 : decode code 194 = .ok (.ifCond .eq 7, 3) := by decide +kernel
theorem dL_law_197 : decode code 197 = .ok (.lconst 1, 1) := by decide +kernel
theorem dL_law_198 : decode code 198 = .ok (.goto 4, 3) := by decide +kernel
theorem dL_law_201 : decode code 201 = .ok (.lconst 0, 1) := by decide +kernel
theorem dL_law_202 : decode code 202 = .ok (.lcmp, 1) := by decide +kernel
theorem dL_law_203 : decode code 203 = .ok (.ifCond .eq 5, 3) := by decide +kernel
theorem dL_law_206 : decode code 206 = .ok (.iconst 0, 1) := by decide +kernel
theorem dL_law_207 : decode code 207 = .ok (.ireturn, 1) := by decide +kernel
theorem dL_law_208 : decode code 208 = .ok (.goto 1114, 3) := by decide +kernel
theorem dL_law_211 : decode code 211 = .ok (.aload_n 1, 1) := by decide +kernel
theorem dL_law_212 : decode code 212 = .ok (.aload_n 0, 1) := by decide +kernel
theorem dL_law_213 : decode code 213 = .ok (.iload 4, 2) := by decide +kernel
theorem dL_law_215 : decode code 215 = .ok (.iconst 1, 1) := by decide +kernel
theorem dL_law_216 : decode code 216 = .ok (.iadd, 1) := by decide +kernel
theorem dL_law_217 : decode code 217 = .ok (.iaload, 1) := by decide +kernel
theorem dL_law_218 : decode code 218 = .ok (.invokevirtual 79, 3) := by decide +kernel
theorem dL_law_221 : decode code 221 = .ok (.aload_n 2, 1) := by decide +kernel
theorem dL_law_222 : decode code 222 = .ok (.aload_n 0, 1) := by decide +kernel
theorem dL_law_223 : decode code 223 = .ok (.iload 4, 2) := by decide +kernel
theorem dL_law_225 : decode code 225 = .ok (.iconst 1, 1) := by decide +kernel
theorem dL_law_226 : decode code 226 = .ok (.iadd, 1) := by decide +kernel
theorem dL_law_227 : decode code 227 = .ok (.iaload, 1) := by decide +kernel
theorem dL_law_228 : decode code 228 = .ok (.invokevirtual 82, 3) := by decide +kernel
theorem dL_law_231 : decode code 231 = .ok (.if_icmp .eq 1091, 3) := by decide +kernel
theorem dL_law_234 : decode code 234 = .ok (.iconst 0, 1) := by decide +kernel
theorem dL_law_235 : decode code 235 = .ok (.ireturn, 1) := by decide +kernel
theorem dL_law_236 : decode code 236 = .ok (.aload_n 1, 1) := by decide +kernel
theorem dL_law_237 : decode code 237 = .ok (.invokevirtual 83, 3) := by decide +kernel
theorem dL_law_240 : decode code 240 = .ok (.aload_n 2, 1) := by decide +kernel
theorem dL_law_241 : decode code 241 = .ok (.invokevirtual 86, 3) := by decide +kernel
theorem dL_law_244 : decode code 244 = .ok (.if_icmp .eq 1078, 3) := by decide +kernel
theorem dL_law_247 : decode code 247 = .ok (.iconst 0, 1) := by decide +kernel
theorem dL_law_248 : decode code 248 = .ok (.ireturn, 1) := by decide +kernel
theorem dL_law_249 : decode code 249 = .ok (.aload_n 1, 1) := by decide +kernel
theorem dL_law_250 : decode code 250 = .ok (.aload_n 0, 1) := by decide +kernel
theorem dL_law_251 : decode code 251 = .ok (.iload 4, 2) := by decide +kernel
theorem dL_law_253 : decode code 253 = .ok (.iconst 1, 1) := by decide +kernel
theorem dL_law_254 : decode code 254 = .ok (.iadd, 1) := by decide +kernel
theorem dL_law_255 : decode code 255 = .ok (.iaload, 1) := by decide +kernel
theorem dL_law_256 : decode code 256 = .ok (.aload_n 0, 1) := by decide +kernel
theorem dL_law_257 : decode code 257 = .ok (.iload 4, 2) := by decide +kernel
theorem dL_law_259 : decode code 259 = .ok (.iconst 2, 1) := by decide +kernel
theorem dL_law_260 : decode code 260 = .ok (.iadd, 1) := by decide +kernel
theorem dL_law_261 : decode code 261 = .ok (.iaload, 1) := by decide +kernel
theorem dL_law_262 : decode code 262 = .ok (.i2l, 1) := by decide +kernel
theorem dL_law_263 : decode code 263 = .ok (.bipush 32, 2) := by decide +kernel
theorem dL_law_265 : decode code 265 = .ok (.lshl, 1) := by decide +kernel
theorem dL_law_266 : decode code 266 = .ok (.aload_n 0, 1) := by decide +kernel
theorem dL_law_267 : decode code 267 = .ok (.iload 4, 2) := by decide +kernel
theorem dL_law_269 : decode code 269 = .ok (.iconst 3, 1) := by decide +kernel
theorem dL_law_270 : decode code 270 = .ok (.iadd, 1) := by decide +kernel
theorem dL_law_271 : decode code 271 = .ok (.iaload, 1) := by decide +kernel
theorem dL_law_272 : decode code 272 = .ok (.i2l, 1) := by decide +kernel
theorem dL_law_273 : decode code 273 = .ok (.ldc2_w 67, 3) := by decide +kernel
theorem dL_law_276 : decode code 276 = .ok (.land, 1) := by decide +kernel
theorem dL_law_277 : decode code 277 = .ok (.lor, 1) := by decide +kernel
theorem dL_law_278 : decode code 278 = .ok (.aload_n 0, 1) := by decide +kernel
theorem dL_law_279 : decode code 279 = .ok (.iload 4, 2) := by decide +kernel
theorem dL_law_281 : decode code 281 = .ok (.iconst 4, 1) := by decide +kernel
theorem dL_law_282 : decode code 282 = .ok (.iadd, 1) := by decide +kernel
theorem dL_law_283 : decode code 283 = .ok (.iaload, 1) := by decide +kernel
theorem dL_law_284 : decode code 284 = .ok (.i2l, 1) := by decide +kernel
theorem dL_law_285 : decode code 285 = .ok (.bipush 32, 2) := by decide +kernel
theorem dL_law_287 : decode code 287 = .ok (.lshl, 1) := by decide +kernel
theorem dL_law_288 : decode code 288 = .ok (.aload_n 0, 1) := by decide +kernel
theorem dL_law_289 : decode code 289 = .ok (.iload 4, 2) := by decide +kernel
theorem dL_law_291 : decode code 291 = .ok (.iconst 5, 1) := by decide +kernel
theorem dL_law_292 : decode code 292 = .ok (.iadd, 1) := by decide +kernel
theorem dL_law_293 : decode code 293 = .ok (.iaload, 1) := by decide +kernel
theorem dL_law_294 : decode code 294 = .ok (.i2l, 1) := by decide +kernel
theorem dL_law_295 : decode code 295 = .ok (.ldc2_w 67, 3) := by decide +kernel
theorem dL_law_298 : decode code 298 = .ok (.land, 1) := by decide +kernel
theorem dL_law_299 : decode code 299 = .ok (.lor, 1) := by decide +kernel
theorem dL_law_300 : decode code 300 = .ok (.aload_n 3, 1) := by decide +kernel
theorem dL_law_301 : decode code 301 = .ok (.invokestatic 87, 3) := by decide +kernel
theorem dL_law_304 : decode code 304 = .ok (.istore 5, 2) := by decide +kernel
theorem dL_law_306 : decode code 306 = .ok (.aload_n 2, 1) := by decide +kernel
theorem dL_law_307 : decode code 307 = .ok (.aload_n 0, 1) := by decide +kernel
theorem dL_law_308 : decode code 308 = .ok (.iload 4, 2) := by decide +kernel
theorem dL_law_310 : decode code 310 = .ok (.iconst 1, 1) := by decide +kernel
theorem dL_law_311 : decode code 311 = .ok (.iadd, 1) := by decide +kernel
theorem dL_law_312 : decode code 312 = .ok (.iaload, 1) := by decide +kernel
theorem dL_law_313 : decode code 313 = .ok (.aload_n 0, 1) := by decide +kernel
theorem dL_law_314 : decode code 314 = .ok (.iload 4, 2) := by decide +kernel
theorem dL_law_316 : decode code 316 = .ok (.iconst 2, 1) := by decide +kernel
theorem dL_law_317 : decode code 317 = .ok (.iadd, 1) := by decide +kernel
theorem dL_law_318 : decode code 318 = .ok (.iaload, 1) := by decide +kernel
theorem dL_law_319 : decode code 319 = .ok (.i2l, 1) := by decide +kernel
theorem dL_law_320 : decode code 320 = .ok (.bipush 32, 2) := by decide +kernel
theorem dL_law_322 : decode code 322 = .ok (.lshl, 1) := by decide +kernel
theorem dL_law_323 : decode code 323 = .ok (.aload_n 0, 1) := by decide +kernel
theorem dL_law_324 : decode code 324 = .ok (.iload 4, 2) := by decide +kernel
theorem dL_law_326 : decode code 326 = .ok (.iconst 3, 1) := by decide +kernel
theorem dL_law_327 : decode code 327 = .ok (.iadd, 1) := by decide +kernel
theorem dL_law_328 : decode code 328 = .ok (.iaload, 1) := by decide +kernel
theorem dL_law_329 : decode code 329 = .ok (.i2l, 1) := by decide +kernel
theorem dL_law_330 : decode code 330 = .ok (.ldc2_w 67, 3) := by decide +kernel
theorem dL_law_333 : decode code 333 = .ok (.land, 1) := by decide +kernel
theorem dL_law_334 : decode code 334 = .ok (.lor, 1) := by decide +kernel
theorem dL_law_335 : decode code 335 = .ok (.aload_n 0, 1) := by decide +kernel
theorem dL_law_336 : decode code 336 = .ok (.iload 4, 2) := by decide +kernel
theorem dL_law_338 : decode code 338 = .ok (.iconst 4, 1) := by decide +kernel
theorem dL_law_339 : decode code 339 = .ok (.iadd, 1) := by decide +kernel
theorem dL_law_340 : decode code 340 = .ok (.iaload, 1) := by decide +kernel
theorem dL_law_341 : decode code 341 = .ok (.i2l, 1) := by decide +kernel
theorem dL_law_342 : decode code 342 = .ok (.bipush 32, 2) := by decide +kernel
theorem dL_law_344 : decode code 344 = .ok (.lshl, 1) := by decide +kernel
theorem dL_law_345 : decode code 345 = .ok (.aload_n 0, 1) := by decide +kernel
theorem dL_law_346 : decode code 346 = .ok (.iload 4, 2) := by decide +kernel
theorem dL_law_348 : decode code 348 = .ok (.iconst 5, 1) := by decide +kernel
theorem dL_law_349 : decode code 349 = .ok (.iadd, 1) := by decide +kernel
theorem dL_law_350 : decode code 350 = .ok (.iaload, 1) := by decide +kernel
theorem dL_law_351 : decode code 351 = .ok (.i2l, 1) := by decide +kernel
theorem dL_law_352 : decode code 352 = .ok (.ldc2_w 67, 3) := by decide +kernel
theorem dL_law_355 : decode code 355 = .ok (.land, 1) := by decide +kernel
theorem dL_law_356 : decode code 356 = .ok (.lor, 1) := by decide +kernel
theorem dL_law_357 : decode code 357 = .ok (.invokevirtual 90, 3) := by decide +kernel
theorem dL_law_360 : decode code 360 = .ok (.istore 6, 2) := by decide +kernel
theorem dL_law_362 : decode code 362 = .ok (.aload_n 2, 1) := by decide +kernel
theorem dL_law_363 : decode code 363 = .ok (.invokevirtual 75, 3) := by decide +kernel
theorem dL_law_366 : decode code 366 = .ok (.iload 5, 2) := by decide +kernel
theorem dL_law_368 : decode code 368 = .ok (.if_icmp .eq 5, 3) := by decide +kernel
theorem dL_law_371 : decode code 371 = .ok (.iconst 0, 1) := by decide +kernel
theorem dL_law_372 : decode code 372 = .ok (.ireturn, 1) := by decide +kernel
theorem dL_law_373 : decode code 373 = .ok (.iload 5, 2) := by decide +kernel
theorem dL_law_375 : decode code 375 = .ok (.ifCond .ne 15, 3) := by decide +kernel
theorem dL_law_378 : decode code 378 = .ok (.aload_n 3, 1) := by decide +kernel
theorem dL_law_379 : decode code 379 = .ok (.iconst 0, 1) := by decide +kernel
theorem dL_law_380 : decode code 380 = .ok (.laload, 1) := by decide +kernel
theorem dL_law_381 : decode code 381 = .ok (.iload 6, 2) := by decide +kernel
theorem dL_law_383 : decode code 383 = .ok (.i2l, 1) := by decide +kernel
theorem dL_law_384 : decode code 384 = .ok (.lcmp, 1) := by decide +kernel
theorem dL_law_385 : decode code 385 = .ok (.ifCond .eq 5, 3) := by decide +kernel
theorem dL_law_388 : decode code 388 = .ok (.iconst 0, 1) := by decide +kernel
theorem dL_law_389 : decode code 389 = .ok (.ireturn, 1) := by decide +kernel
theorem dL_law_390 : decode code 390 = .ok (.goto 932, 3) := by decide +kernel
theorem dL_law_393 : decode code 393 = .ok (.aload_n 1, 1) := by decide +kernel
theorem dL_law_394 : decode code 394 = .ok (.aload_n 0, 1) := by decide +kernel
theorem dL_law_395 : decode code 395 = .ok (.iload 4, 2) := by decide +kernel
theorem dL_law_397 : decode code 397 = .ok (.iconst 1, 1) := by decide +kernel
theorem dL_law_398 : decode code 398 = .ok (.iadd, 1) := by decide +kernel
theorem dL_law_399 : decode code 399 = .ok (.iaload, 1) := by decide +kernel
theorem dL_law_400 : decode code 400 = .ok (.aload_n 3, 1) := by decide +kernel
theorem dL_law_401 : decode code 401 = .ok (.invokestatic 91, 3) := by decide +kernel
theorem dL_law_404 : decode code 404 = .ok (.istore 5, 2) := by decide +kernel
theorem dL_law_406 : decode code 406 = .ok (.aload_n 2, 1) := by decide +kernel
theorem dL_law_407 : decode code 407 = .ok (.aload_n 0, 1) := by decide +kernel
theorem dL_law_408 : decode code 408 = .ok (.iload 4, 2) := by decide +kernel
theorem dL_law_410 : decode code 410 = .ok (.iconst 1, 1) := by decide +kernel
theorem dL_law_411 : decode code 411 = .ok (.iadd, 1) := by decide +kernel
theorem dL_law_412 : decode code 412 = .ok (.iaload, 1) := by decide +kernel
theorem dL_law_413 : decode code 413 = .ok (.invokevirtual 94, 3) := by decide +kernel
theorem dL_law_416 : decode code 416 = .ok (.lstore 6, 2) := by decide +kernel
theorem dL_law_418 : decode code 418 = .ok (.aload_n 2, 1) := by decide +kernel
theorem dL_law_419 : decode code 419 = .ok (.invokevirtual 75, 3) := by decide +kernel
theorem dL_law_422 : decode code 422 = .ok (.iload 5, 2) := by decide +kernel
theorem dL_law_424 : decode code 424 = .ok (.if_icmp .eq 5, 3) := by decide +kernel
theorem dL_law_427 : decode code 427 = .ok (.iconst 0, 1) := by decide +kernel
theorem dL_law_428 : decode code 428 = .ok (.ireturn, 1) := by decide +kernel
theorem dL_law_429 : decode code 429 = .ok (.iload 5, 2) := by decide +kernel
theorem dL_law_431 : decode code 431 = .ok (.ifCond .ne 14, 3) := by decide +kernel
theorem dL_law_434 : decode code 434 = .ok (.aload_n 3, 1) := by decide +kernel
theorem dL_law_435 : decode code 435 = .ok (.iconst 0, 1) := by decide +kernel
theorem dL_law_436 : decode code 436 = .ok (.laload, 1) := by decide +kernel
theorem dL_law_437 : decode code 437 = .ok (.lload 6, 2) := by decide +kernel
theorem dL_law_439 : decode code 439 = .ok (.lcmp, 1) := by decide +kernel
theorem dL_law_440 : decode code 440 = .ok (.ifCond .eq 5, 3) := by decide +kernel
theorem dL_law_443 : decode code 443 = .ok (.iconst 0, 1) := by decide +kernel
theorem dL_law_444 : decode code 444 = .ok (.ireturn, 1) := by decide +kernel
theorem dL_law_445 : decode code 445 = .ok (.goto 877, 3) := by decide +kernel
theorem dL_law_448 : decode code 448 = .ok (.aload_n 1, 1) := by decide +kernel
theorem dL_law_449 : decode code 449 = .ok (.aload_n 0, 1) := by decide +kernel
theorem dL_law_450 : decode code 450 = .ok (.iload 4, 2) := by decide +kernel
theorem dL_law_452 : decode code 452 = .ok (.iconst 1, 1) := by decide +kernel
theorem dL_law_453 : decode code 453 = .ok (.iadd, 1) := by decide +kernel
theorem dL_law_454 : decode code 454 = .ok (.iaload, 1) := by decide +kernel
theorem dL_law_455 : decode code 455 = .ok (.aload_n 0, 1) := by decide +kernel
theorem dL_law_456 : decode code 456 = .ok (.iload 4, 2) := by decide +kernel
theorem dL_law_458 : decode code 458 = .ok (.iconst 2, 1) := by decide +kernel
theorem dL_law_459 : decode code 459 = .ok (.iadd, 1) := by decide +kernel
theorem dL_law_460 : decode code 460 = .ok (.iaload, 1) := by decide +kernel
theorem dL_law_461 : decode code 461 = .ok (.aload_n 3, 1) := by decide +kernel
theorem dL_law_462 : decode code 462 = .ok (.invokestatic 95, 3) := by decide +kernel
theorem dL_law_465 : decode code 465 = .ok (.istore 5, 2) := by decide +kernel
theorem dL_law_467 : decode code 467 = .ok (.aload_n 2, 1) := by decide +kernel
theorem dL_law_468 : decode code 468 = .ok (.aload_n 0, 1) := by decide +kernel
theorem dL_law_469 : decode code 469 = .ok (.iload 4, 2) := by decide +kernel
theorem dL_law_471 : decode code 471 = .ok (.iconst 1, 1) := by decide +kernel
theorem dL_law_472 : decode code 472 = .ok (.iadd, 1) := by decide +kernel
theorem dL_law_473 : decode code 473 = .ok (.iaload, 1) := by decide +kernel
theorem dL_law_474 : decode code 474 = .ok (.aload_n 0, 1) := by decide +kernel
theorem dL_law_475 : decode code 475 = .ok (.iload 4, 2) := by decide +kernel
theorem dL_law_477 : decode code 477 = .ok (.iconst 2, 1) := by decide +kernel
theorem dL_law_478 : decode code 478 = .ok (.iadd, 1) := by decide +kernel
theorem dL_law_479 : decode code 479 = .ok (.iaload, 1) := by decide +kernel
theorem dL_law_480 : decode code 480 = .ok (.invokevirtual 98, 3) := by decide +kernel
theorem dL_law_483 : decode code 483 = .ok (.lstore 6, 2) := by decide +kernel
theorem dL_law_485 : decode code 485 = .ok (.aload_n 2, 1) := by decide +kernel
theorem dL_law_486 : decode code 486 = .ok (.invokevirtual 75, 3) := by decide +kernel
theorem dL_law_489 : decode code 489 = .ok (.iload 5, 2) := by decide +kernel
theorem dL_law_491 : decode code 491 = .ok (.if_icmp .eq 5, 3) := by decide +kernel
theorem dL_law_494 : decode code 494 = .ok (.iconst 0, 1) := by decide +kernel
theorem dL_law_495 : decode code 495 = .ok (.ireturn, 1) := by decide +kernel
theorem dL_law_496 : decode code 496 = .ok (.iload 5, 2) := by decide +kernel
theorem dL_law_498 : decode code 498 = .ok (.ifCond .ne 14, 3) := by decide +kernel
theorem dL_law_501 : decode code 501 = .ok (.aload_n 3, 1) := by decide +kernel
theorem dL_law_502 : decode code 502 = .ok (.iconst 0, 1) := by decide +kernel
theorem dL_law_503 : decode code 503 = .ok (.laload, 1) := by decide +kernel
theorem dL_law_504 : decode code 504 = .ok (.lload 6, 2) := by decide +kernel
theorem dL_law_506 : decode code 506 = .ok (.lcmp, 1) := by decide +kernel
theorem dL_law_507 : decode code 507 = .ok (.ifCond .eq 5, 3) := by decide +kernel
theorem dL_law_510 : decode code 510 = .ok (.iconst 0, 1) := by decide +kernel
theorem dL_law_511 : decode code 511 = .ok (.ireturn, 1) := by decide +kernel
theorem dL_law_512 : decode code 512 = .ok (.goto 810, 3) := by decide +kernel
theorem dL_law_515 : decode code 515 = .ok (.aload_n 1, 1) := by decide +kernel
theorem dL_law_516 : decode code 516 = .ok (.aload_n 0, 1) := by decide +kernel
theorem dL_law_517 : decode code 517 = .ok (.iload 4, 2) := by decide +kernel
theorem dL_law_519 : decode code 519 = .ok (.iconst 1, 1) := by decide +kernel
theorem dL_law_520 : decode code 520 = .ok (.iadd, 1) := by decide +kernel
theorem dL_law_521 : decode code 521 = .ok (.iaload, 1) := by decide +kernel
theorem dL_law_522 : decode code 522 = .ok (.aload_n 0, 1) := by decide +kernel
theorem dL_law_523 : decode code 523 = .ok (.iload 4, 2) := by decide +kernel
theorem dL_law_525 : decode code 525 = .ok (.iconst 2, 1) := by decide +kernel
theorem dL_law_526 : decode code 526 = .ok (.iadd, 1) := by decide +kernel
theorem dL_law_527 : decode code 527 = .ok (.iaload, 1) := by decide +kernel
theorem dL_law_528 : decode code 528 = .ok (.aload_n 3, 1) := by decide +kernel
theorem dL_law_529 : decode code 529 = .ok (.invokestatic 99, 3) := by decide +kernel
theorem dL_law_532 : decode code 532 = .ok (.istore 5, 2) := by decide +kernel
theorem dL_law_534 : decode code 534 = .ok (.aload_n 2, 1) := by decide +kernel
theorem dL_law_535 : decode code 535 = .ok (.aload_n 0, 1) := by decide +kernel
theorem dL_law_536 : decode code 536 = .ok (.iload 4, 2) := by decide +kernel
theorem dL_law_538 : decode code 538 = .ok (.iconst 1, 1) := by decide +kernel
theorem dL_law_539 : decode code 539 = .ok (.iadd, 1) := by decide +kernel
theorem dL_law_540 : decode code 540 = .ok (.iaload, 1) := by decide +kernel
theorem dL_law_541 : decode code 541 = .ok (.aload_n 0, 1) := by decide +kernel
theorem dL_law_542 : decode code 542 = .ok (.iload 4, 2) := by decide +kernel
theorem dL_law_544 : decode code 544 = .ok (.iconst 2, 1) := by decide +kernel
theorem dL_law_545 : decode code 545 = .ok (.iadd, 1) := by decide +kernel
theorem dL_law_546 : decode code 546 = .ok (.iaload, 1) := by decide +kernel
theorem dL_law_547 : decode code 547 = .ok (.invokevirtual 101, 3) := by decide +kernel
theorem dL_law_550 : decode code 550 = .ok (.lstore 6, 2) := by decide +kernel
theorem dL_law_552 : decode code 552 = .ok (.aload_n 2, 1) := by decide +kernel
theorem dL_law_553 : decode code 553 = .ok (.invokevirtual 75, 3) := by decide +kernel
theorem dL_law_556 : decode code 556 = .ok (.iload 5, 2) := by decide +kernel
theorem dL_law_558 : decode code 558 = .ok (.if_icmp .eq 5, 3) := by decide +kernel
theorem dL_law_561 : decode code 561 = .ok (.iconst 0, 1) := by decide +kernel
theorem dL_law_562 : decode code 562 = .ok (.ireturn, 1) := by decide +kernel
theorem dL_law_563 : decode code 563 = .ok (.iload 5, 2) := by decide +kernel
theorem dL_law_565 : decode code 565 = .ok (.ifCond .ne 14, 3) := by decide +kernel
theorem dL_law_568 : decode code 568 = .ok (.aload_n 3, 1) := by decide +kernel
theorem dL_law_569 : decode code 569 = .ok (.iconst 0, 1) := by decide +kernel
theorem dL_law_570 : decode code 570 = .ok (.laload, 1) := by decide +kernel
theorem dL_law_571 : decode code 571 = .ok (.lload 6, 2) := by decide +kernel
theorem dL_law_573 : decode code 573 = .ok (.lcmp, 1) := by decide +kernel
theorem dL_law_574 : decode code 574 = .ok (.ifCond .eq 5, 3) := by decide +kernel
theorem dL_law_577 : decode code 577 = .ok (.iconst 0, 1) := by decide +kernel
theorem dL_law_578 : decode code 578 = .ok (.ireturn, 1) := by decide +kernel
theorem dL_law_579 : decode code 579 = .ok (.goto 743, 3) := by decide +kernel
theorem dL_law_582 : decode code 582 = .ok (.aload_n 1, 1) := by decide +kernel
theorem dL_law_583 : decode code 583 = .ok (.aload_n 0, 1) := by decide +kernel
theorem dL_law_584 : decode code 584 = .ok (.iload 4, 2) := by decide +kernel
theorem dL_law_586 : decode code 586 = .ok (.iconst 1, 1) := by decide +kernel
theorem dL_law_587 : decode code 587 = .ok (.iadd, 1) := by decide +kernel
theorem dL_law_588 : decode code 588 = .ok (.iaload, 1) := by decide +kernel
theorem dL_law_589 : decode code 589 = .ok (.aload_n 3, 1) := by decide +kernel
theorem dL_law_590 : decode code 590 = .ok (.invokestatic 102, 3) := by decide +kernel
theorem dL_law_593 : decode code 593 = .ok (.istore 5, 2) := by decide +kernel
theorem dL_law_595 : decode code 595 = .ok (.aload_n 2, 1) := by decide +kernel
theorem dL_law_596 : decode code 596 = .ok (.aload_n 0, 1) := by decide +kernel
theorem dL_law_597 : decode code 597 = .ok (.iload 4, 2) := by decide +kernel
theorem dL_law_599 : decode code 599 = .ok (.iconst 1, 1) := by decide +kernel
theorem dL_law_600 : decode code 600 = .ok (.iadd, 1) := by decide +kernel
theorem dL_law_601 : decode code 601 = .ok (.iaload, 1) := by decide +kernel
theorem dL_law_602 : decode code 602 = .ok (.invokevirtual 104, 3) := by decide +kernel
theorem dL_law_605 : decode code 605 = .ok (.lstore 6, 2) := by decide +kernel
theorem dL_law_607 : decode code 607 = .ok (.aload_n 2, 1) := by decide +kernel
theorem dL_law_608 : decode code 608 = .ok (.invokevirtual 75, 3) := by decide +kernel
theorem dL_law_611 : decode code 611 = .ok (.iload 5, 2) := by decide +kernel
theorem dL_law_613 : decode code 613 = .ok (.if_icmp .eq 5, 3) := by decide +kernel
theorem dL_law_616 : decode code 616 = .ok (.iconst 0, 1) := by decide +kernel
theorem dL_law_617 : decode code 617 = .ok (.ireturn, 1) := by decide +kernel
theorem dL_law_618 : decode code 618 = .ok (.iload 5, 2) := by decide +kernel
theorem dL_law_620 : decode code 620 = .ok (.ifCond .ne 14, 3) := by decide +kernel
theorem dL_law_623 : decode code 623 = .ok (.aload_n 3, 1) := by decide +kernel
theorem dL_law_624 : decode code 624 = .ok (.iconst 0, 1) := by decide +kernel
theorem dL_law_625 : decode code 625 = .ok (.laload, 1) := by decide +kernel
theorem dL_law_626 : decode code 626 = .ok (.lload 6, 2) := by decide +kernel
theorem dL_law_628 : decode code 628 = .ok (.lcmp, 1) := by decide +kernel
theorem dL_law_629 : decode code 629 = .ok (.ifCond .eq 5, 3) := by decide +kernel
theorem dL_law_632 : decode code 632 = .ok (.iconst 0, 1) := by decide +kernel
theorem dL_law_633 : decode code 633 = .ok (.ireturn, 1) := by decide +kernel
theorem dL_law_634 : decode code 634 = .ok (.goto 688, 3) := by decide +kernel
theorem dL_law_637 : decode code 637 = .ok (.aload_n 1, 1) := by decide +kernel
theorem dL_law_638 : decode code 638 = .ok (.aload_n 0, 1) := by decide +kernel
theorem dL_law_639 : decode code 639 = .ok (.iload 4, 2) := by decide +kernel
theorem dL_law_641 : decode code 641 = .ok (.iconst 1, 1) := by decide +kernel
theorem dL_law_642 : decode code 642 = .ok (.iadd, 1) := by decide +kernel
theorem dL_law_643 : decode code 643 = .ok (.iaload, 1) := by decide +kernel
theorem dL_law_644 : decode code 644 = .ok (.aload_n 3, 1) := by decide +kernel
theorem dL_law_645 : decode code 645 = .ok (.invokestatic 105, 3) := by decide +kernel
theorem dL_law_648 : decode code 648 = .ok (.istore 5, 2) := by decide +kernel
theorem dL_law_650 : decode code 650 = .ok (.aload_n 2, 1) := by decide +kernel
theorem dL_law_651 : decode code 651 = .ok (.aload_n 0, 1) := by decide +kernel
theorem dL_law_652 : decode code 652 = .ok (.iload 4, 2) := by decide +kernel
theorem dL_law_654 : decode code 654 = .ok (.iconst 1, 1) := by decide +kernel
theorem dL_law_655 : decode code 655 = .ok (.iadd, 1) := by decide +kernel
theorem dL_law_656 : decode code 656 = .ok (.iaload, 1) := by decide +kernel
theorem dL_law_657 : decode code 657 = .ok (.invokevirtual 107, 3) := by decide +kernel
theorem dL_law_660 : decode code 660 = .ok (.istore 6, 2) := by decide +kernel
theorem dL_law_662 : decode code 662 = .ok (.aload_n 2, 1) := by decide +kernel
theorem dL_law_663 : decode code 663 = .ok (.invokevirtual 75, 3) := by decide +kernel
theorem dL_law_666 : decode code 666 = .ok (.iload 5, 2) := by decide +kernel
theorem dL_law_668 : decode code 668 = .ok (.if_icmp .eq 5, 3) := by decide +kernel
theorem dL_law_671 : decode code 671 = .ok (.iconst 0, 1) := by decide +kernel
theorem dL_law_672 : decode code 672 = .ok (.ireturn, 1) := by decide +kernel
theorem dL_law_673 : decode code 673 = .ok (.iload 5, 2) := by decide +kernel
theorem dL_law_675 : decode code 675 = .ok (.ifCond .ne 22, 3) := by decide +kernel
theorem dL_law_678 : decode code 678 = .ok (.aload_n 3, 1) := by decide +kernel
theorem dL_law_679 : decode code 679 = .ok (.iconst 0, 1) := by decide +kernel
theorem dL_law_680 : decode code 680 = .ok (.laload, 1) := by decide +kernel
theorem dL_law_681 : decode code 681 = .ok (.iload 6, 2) := by decide +kernel
theorem dL_law_683 : decode code 683 = .ok (.ifCond .eq 7, 3) := by decide +kernel
theorem dL_law_686 : decode code 686 = .ok (.lconst 1, 1) := by decide +kernel
theorem dL_law_687 : decode code 687 = .ok (.goto 4, 3) := by decide +kernel
theorem dL_law_690 : decode code 690 = .ok (.lconst 0, 1) := by decide +kernel
theorem dL_law_691 : decode code 691 = .ok (.lcmp, 1) := by decide +kernel
theorem dL_law_692 : decode code 692 = .ok (.ifCond .eq 5, 3) := by decide +kernel
theorem dL_law_695 : decode code 695 = .ok (.iconst 0, 1) := by decide +kernel
theorem dL_law_696 : decode code 696 = .ok (.ireturn, 1) := by decide +kernel
theorem dL_law_697 : decode code 697 = .ok (.goto 625, 3) := by decide +kernel
theorem dL_law_700 : decode code 700 = .ok (.aload_n 1, 1) := by decide +kernel
theorem dL_law_701 : decode code 701 = .ok (.aload_n 0, 1) := by decide +kernel
theorem dL_law_702 : decode code 702 = .ok (.iload 4, 2) := by decide +kernel
theorem dL_law_704 : decode code 704 = .ok (.iconst 1, 1) := by decide +kernel
theorem dL_law_705 : decode code 705 = .ok (.iadd, 1) := by decide +kernel
theorem dL_law_706 : decode code 706 = .ok (.iaload, 1) := by decide +kernel
theorem dL_law_707 : decode code 707 = .ok (.i2l, 1) := by decide +kernel
theorem dL_law_708 : decode code 708 = .ok (.bipush 32, 2) := by decide +kernel
theorem dL_law_710 : decode code 710 = .ok (.lshl, 1) := by decide +kernel
theorem dL_law_711 : decode code 711 = .ok (.aload_n 0, 1) := by decide +kernel
theorem dL_law_712 : decode code 712 = .ok (.iload 4, 2) := by decide +kernel
theorem dL_law_714 : decode code 714 = .ok (.iconst 2, 1) := by decide +kernel
theorem dL_law_715 : decode code 715 = .ok (.iadd, 1) := by decide +kernel
theorem dL_law_716 : decode code 716 = .ok (.iaload, 1) := by decide +kernel
theorem dL_law_717 : decode code 717 = .ok (.i2l, 1) := by decide +kernel
theorem dL_law_718 : decode code 718 = .ok (.ldc2_w 67, 3) := by decide +kernel
theorem dL_law_721 : decode code 721 = .ok (.land, 1) := by decide +kernel
theorem dL_law_722 : decode code 722 = .ok (.lor, 1) := by decide +kernel
theorem dL_law_723 : decode code 723 = .ok (.aload_n 0, 1) := by decide +kernel
theorem dL_law_724 : decode code 724 = .ok (.iload 4, 2) := by decide +kernel
theorem dL_law_726 : decode code 726 = .ok (.iconst 3, 1) := by decide +kernel
theorem dL_law_727 : decode code 727 = .ok (.iadd, 1) := by decide +kernel
theorem dL_law_728 : decode code 728 = .ok (.iaload, 1) := by decide +kernel
theorem dL_law_729 : decode code 729 = .ok (.i2l, 1) := by decide +kernel
theorem dL_law_730 : decode code 730 = .ok (.bipush 32, 2) := by decide +kernel
theorem dL_law_732 : decode code 732 = .ok (.lshl, 1) := by decide +kernel
theorem dL_law_733 : decode code 733 = .ok (.aload_n 0, 1) := by decide +kernel
theorem dL_law_734 : decode code 734 = .ok (.iload 4, 2) := by decide +kernel
theorem dL_law_736 : decode code 736 = .ok (.iconst 4, 1) := by decide +kernel
theorem dL_law_737 : decode code 737 = .ok (.iadd, 1) := by decide +kernel
theorem dL_law_738 : decode code 738 = .ok (.iaload, 1) := by decide +kernel
theorem dL_law_739 : decode code 739 = .ok (.i2l, 1) := by decide +kernel
theorem dL_law_740 : decode code 740 = .ok (.ldc2_w 67, 3) := by decide +kernel
theorem dL_law_743 : decode code 743 = .ok (.land, 1) := by decide +kernel
theorem dL_law_744 : decode code 744 = .ok (.lor, 1) := by decide +kernel
theorem dL_law_745 : decode code 745 = .ok (.aload_n 0, 1) := by decide +kernel
theorem dL_law_746 : decode code 746 = .ok (.iload 4, 2) := by decide +kernel
theorem dL_law_748 : decode code 748 = .ok (.iconst 5, 1) := by decide +kernel
theorem dL_law_749 : decode code 749 = .ok (.iadd, 1) := by decide +kernel
theorem dL_law_750 : decode code 750 = .ok (.iaload, 1) := by decide +kernel
theorem dL_law_751 : decode code 751 = .ok (.i2l, 1) := by decide +kernel
theorem dL_law_752 : decode code 752 = .ok (.bipush 32, 2) := by decide +kernel
theorem dL_law_754 : decode code 754 = .ok (.lshl, 1) := by decide +kernel
theorem dL_law_755 : decode code 755 = .ok (.aload_n 0, 1) := by decide +kernel
theorem dL_law_756 : decode code 756 = .ok (.iload 4, 2) := by decide +kernel
theorem dL_law_758 : decode code 758 = .ok (.bipush 6, 2) := by decide +kernel
theorem dL_law_760 : decode code 760 = .ok (.iadd, 1) := by decide +kernel
theorem dL_law_761 : decode code 761 = .ok (.iaload, 1) := by decide +kernel
theorem dL_law_762 : decode code 762 = .ok (.i2l, 1) := by decide +kernel
theorem dL_law_763 : decode code 763 = .ok (.ldc2_w 67, 3) := by decide +kernel
theorem dL_law_766 : decode code 766 = .ok (.land, 1) := by decide +kernel
theorem dL_law_767 : decode code 767 = .ok (.lor, 1) := by decide +kernel
theorem dL_law_768 : decode code 768 = .ok (.aload_n 0, 1) := by decide +kernel
theorem dL_law_769 : decode code 769 = .ok (.iload 4, 2) := by decide +kernel
theorem dL_law_771 : decode code 771 = .ok (.bipush 7, 2) := by decide +kernel
theorem dL_law_773 : decode code 773 = .ok (.iadd, 1) := by decide +kernel
theorem dL_law_774 : decode code 774 = .ok (.iaload, 1) := by decide +kernel
theorem dL_law_775 : decode code 775 = .ok (.i2l, 1) := by decide +kernel
theorem dL_law_776 : decode code 776 = .ok (.bipush 32, 2) := by decide +kernel
theorem dL_law_778 : decode code 778 = .ok (.lshl, 1) := by decide +kernel
theorem dL_law_779 : decode code 779 = .ok (.aload_n 0, 1) := by decide +kernel
theorem dL_law_780 : decode code 780 = .ok (.iload 4, 2) := by decide +kernel
theorem dL_law_782 : decode code 782 = .ok (.bipush 8, 2) := by decide +kernel
theorem dL_law_784 : decode code 784 = .ok (.iadd, 1) := by decide +kernel
theorem dL_law_785 : decode code 785 = .ok (.iaload, 1) := by decide +kernel
theorem dL_law_786 : decode code 786 = .ok (.i2l, 1) := by decide +kernel
theorem dL_law_787 : decode code 787 = .ok (.ldc2_w 67, 3) := by decide +kernel
theorem dL_law_790 : decode code 790 = .ok (.land, 1) := by decide +kernel
theorem dL_law_791 : decode code 791 = .ok (.lor, 1) := by decide +kernel
theorem dL_law_792 : decode code 792 = .ok (.aload_n 0, 1) := by decide +kernel
theorem dL_law_793 : decode code 793 = .ok (.iload 4, 2) := by decide +kernel
theorem dL_law_795 : decode code 795 = .ok (.bipush 9, 2) := by decide +kernel
theorem dL_law_797 : decode code 797 = .ok (.iadd, 1) := by decide +kernel
theorem dL_law_798 : decode code 798 = .ok (.iaload, 1) := by decide +kernel
theorem dL_law_799 : decode code 799 = .ok (.i2l, 1) := by decide +kernel
theorem dL_law_800 : decode code 800 = .ok (.bipush 32, 2) := by decide +kernel
theorem dL_law_802 : decode code 802 = .ok (.lshl, 1) := by decide +kernel
theorem dL_law_803 : decode code 803 = .ok (.aload_n 0, 1) := by decide +kernel
theorem dL_law_804 : decode code 804 = .ok (.iload 4, 2) := by decide +kernel
theorem dL_law_806 : decode code 806 = .ok (.bipush 10, 2) := by decide +kernel
theorem dL_law_808 : decode code 808 = .ok (.iadd, 1) := by decide +kernel
theorem dL_law_809 : decode code 809 = .ok (.iaload, 1) := by decide +kernel
theorem dL_law_810 : decode code 810 = .ok (.i2l, 1) := by decide +kernel
theorem dL_law_811 : decode code 811 = .ok (.ldc2_w 67, 3) := by decide +kernel
theorem dL_law_814 : decode code 814 = .ok (.land, 1) := by decide +kernel
theorem dL_law_815 : decode code 815 = .ok (.lor, 1) := by decide +kernel
theorem dL_law_816 : decode code 816 = .ok (.aload_n 3, 1) := by decide +kernel
theorem dL_law_817 : decode code 817 = .ok (.invokestatic 108, 3) := by decide +kernel
theorem dL_law_820 : decode code 820 = .ok (.istore 5, 2) := by decide +kernel
theorem dL_law_822 : decode code 822 = .ok (.aload_n 2, 1) := by decide +kernel
theorem dL_law_823 : decode code 823 = .ok (.aload_n 0, 1) := by decide +kernel
theorem dL_law_824 : decode code 824 = .ok (.iload 4, 2) := by decide +kernel
theorem dL_law_826 : decode code 826 = .ok (.iconst 1, 1) := by decide +kernel
theorem dL_law_827 : decode code 827 = .ok (.iadd, 1) := by decide +kernel
theorem dL_law_828 : decode code 828 = .ok (.iaload, 1) := by decide +kernel
theorem dL_law_829 : decode code 829 = .ok (.i2l, 1) := by decide +kernel
theorem dL_law_830 : decode code 830 = .ok (.bipush 32, 2) := by decide +kernel
theorem dL_law_832 : decode code 832 = .ok (.lshl, 1) := by decide +kernel
theorem dL_law_833 : decode code 833 = .ok (.aload_n 0, 1) := by decide +kernel
theorem dL_law_834 : decode code 834 = .ok (.iload 4, 2) := by decide +kernel
theorem dL_law_836 : decode code 836 = .ok (.iconst 2, 1) := by decide +kernel
theorem dL_law_837 : decode code 837 = .ok (.iadd, 1) := by decide +kernel
theorem dL_law_838 : decode code 838 = .ok (.iaload, 1) := by decide +kernel
theorem dL_law_839 : decode code 839 = .ok (.i2l, 1) := by decide +kernel
theorem dL_law_840 : decode code 840 = .ok (.ldc2_w 67, 3) := by decide +kernel
theorem dL_law_843 : decode code 843 = .ok (.land, 1) := by decide +kernel
theorem dL_law_844 : decode code 844 = .ok (.lor, 1) := by decide +kernel
theorem dL_law_845 : decode code 845 = .ok (.aload_n 0, 1) := by decide +kernel
theorem dL_law_846 : decode code 846 = .ok (.iload 4, 2) := by decide +kernel
theorem dL_law_848 : decode code 848 = .ok (.iconst 3, 1) := by decide +kernel
theorem dL_law_849 : decode code 849 = .ok (.iadd, 1) := by decide +kernel
theorem dL_law_850 : decode code 850 = .ok (.iaload, 1) := by decide +kernel
theorem dL_law_851 : decode code 851 = .ok (.i2l, 1) := by decide +kernel
theorem dL_law_852 : decode code 852 = .ok (.bipush 32, 2) := by decide +kernel
theorem dL_law_854 : decode code 854 = .ok (.lshl, 1) := by decide +kernel
theorem dL_law_855 : decode code 855 = .ok (.aload_n 0, 1) := by decide +kernel
theorem dL_law_856 : decode code 856 = .ok (.iload 4, 2) := by decide +kernel
theorem dL_law_858 : decode code 858 = .ok (.iconst 4, 1) := by decide +kernel
theorem dL_law_859 : decode code 859 = .ok (.iadd, 1) := by decide +kernel
theorem dL_law_860 : decode code 860 = .ok (.iaload, 1) := by decide +kernel
theorem dL_law_861 : decode code 861 = .ok (.i2l, 1) := by decide +kernel
theorem dL_law_862 : decode code 862 = .ok (.ldc2_w 67, 3) := by decide +kernel
theorem dL_law_865 : decode code 865 = .ok (.land, 1) := by decide +kernel
theorem dL_law_866 : decode code 866 = .ok (.lor, 1) := by decide +kernel
theorem dL_law_867 : decode code 867 = .ok (.aload_n 0, 1) := by decide +kernel
theorem dL_law_868 : decode code 868 = .ok (.iload 4, 2) := by decide +kernel
theorem dL_law_870 : decode code 870 = .ok (.iconst 5, 1) := by decide +kernel
theorem dL_law_871 : decode code 871 = .ok (.iadd, 1) := by decide +kernel
theorem dL_law_872 : decode code 872 = .ok (.iaload, 1) := by decide +kernel
theorem dL_law_873 : decode code 873 = .ok (.i2l, 1) := by decide +kernel
theorem dL_law_874 : decode code 874 = .ok (.bipush 32, 2) := by decide +kernel
theorem dL_law_876 : decode code 876 = .ok (.lshl, 1) := by decide +kernel
theorem dL_law_877 : decode code 877 = .ok (.aload_n 0, 1) := by decide +kernel
theorem dL_law_878 : decode code 878 = .ok (.iload 4, 2) := by decide +kernel
theorem dL_law_880 : decode code 880 = .ok (.bipush 6, 2) := by decide +kernel
theorem dL_law_882 : decode code 882 = .ok (.iadd, 1) := by decide +kernel
theorem dL_law_883 : decode code 883 = .ok (.iaload, 1) := by decide +kernel
theorem dL_law_884 : decode code 884 = .ok (.i2l, 1) := by decide +kernel
theorem dL_law_885 : decode code 885 = .ok (.ldc2_w 67, 3) := by decide +kernel
theorem dL_law_888 : decode code 888 = .ok (.land, 1) := by decide +kernel
theorem dL_law_889 : decode code 889 = .ok (.lor, 1) := by decide +kernel
theorem dL_law_890 : decode code 890 = .ok (.aload_n 0, 1) := by decide +kernel
theorem dL_law_891 : decode code 891 = .ok (.iload 4, 2) := by decide +kernel
theorem dL_law_893 : decode code 893 = .ok (.bipush 7, 2) := by decide +kernel
theorem dL_law_895 : decode code 895 = .ok (.iadd, 1) := by decide +kernel
theorem dL_law_896 : decode code 896 = .ok (.iaload, 1) := by decide +kernel
theorem dL_law_897 : decode code 897 = .ok (.i2l, 1) := by decide +kernel
theorem dL_law_898 : decode code 898 = .ok (.bipush 32, 2) := by decide +kernel
theorem dL_law_900 : decode code 900 = .ok (.lshl, 1) := by decide +kernel
theorem dL_law_901 : decode code 901 = .ok (.aload_n 0, 1) := by decide +kernel
theorem dL_law_902 : decode code 902 = .ok (.iload 4, 2) := by decide +kernel
theorem dL_law_904 : decode code 904 = .ok (.bipush 8, 2) := by decide +kernel
theorem dL_law_906 : decode code 906 = .ok (.iadd, 1) := by decide +kernel
theorem dL_law_907 : decode code 907 = .ok (.iaload, 1) := by decide +kernel
theorem dL_law_908 : decode code 908 = .ok (.i2l, 1) := by decide +kernel
theorem dL_law_909 : decode code 909 = .ok (.ldc2_w 67, 3) := by decide +kernel
theorem dL_law_912 : decode code 912 = .ok (.land, 1) := by decide +kernel
theorem dL_law_913 : decode code 913 = .ok (.lor, 1) := by decide +kernel
theorem dL_law_914 : decode code 914 = .ok (.aload_n 0, 1) := by decide +kernel
theorem dL_law_915 : decode code 915 = .ok (.iload 4, 2) := by decide +kernel
theorem dL_law_917 : decode code 917 = .ok (.bipush 9, 2) := by decide +kernel
theorem dL_law_919 : decode code 919 = .ok (.iadd, 1) := by decide +kernel
theorem dL_law_920 : decode code 920 = .ok (.iaload, 1) := by decide +kernel
theorem dL_law_921 : decode code 921 = .ok (.i2l, 1) := by decide +kernel
theorem dL_law_922 : decode code 922 = .ok (.bipush 32, 2) := by decide +kernel
theorem dL_law_924 : decode code 924 = .ok (.lshl, 1) := by decide +kernel
theorem dL_law_925 : decode code 925 = .ok (.aload_n 0, 1) := by decide +kernel
theorem dL_law_926 : decode code 926 = .ok (.iload 4, 2) := by decide +kernel
theorem dL_law_928 : decode code 928 = .ok (.bipush 10, 2) := by decide +kernel
theorem dL_law_930 : decode code 930 = .ok (.iadd, 1) := by decide +kernel
theorem dL_law_931 : decode code 931 = .ok (.iaload, 1) := by decide +kernel
theorem dL_law_932 : decode code 932 = .ok (.i2l, 1) := by decide +kernel
theorem dL_law_933 : decode code 933 = .ok (.ldc2_w 67, 3) := by decide +kernel
theorem dL_law_936 : decode code 936 = .ok (.land, 1) := by decide +kernel
theorem dL_law_937 : decode code 937 = .ok (.lor, 1) := by decide +kernel
theorem dL_law_938 : decode code 938 = .ok (.invokevirtual 111, 3) := by decide +kernel
theorem dL_law_941 : decode code 941 = .ok (.istore 6, 2) := by decide +kernel
theorem dL_law_943 : decode code 943 = .ok (.aload_n 2, 1) := by decide +kernel
theorem dL_law_944 : decode code 944 = .ok (.invokevirtual 75, 3) := by decide +kernel
theorem dL_law_947 : decode code 947 = .ok (.iload 5, 2) := by decide +kernel
theorem dL_law_949 : decode code 949 = .ok (.if_icmp .eq 5, 3) := by decide +kernel
theorem dL_law_952 : decode code 952 = .ok (.iconst 0, 1) := by decide +kernel
theorem dL_law_953 : decode code 953 = .ok (.ireturn, 1) := by decide +kernel
theorem dL_law_954 : decode code 954 = .ok (.iload 5, 2) := by decide +kernel
theorem dL_law_956 : decode code 956 = .ok (.ifCond .ne 22, 3) := by decide +kernel
theorem dL_law_959 : decode code 959 = .ok (.aload_n 3, 1) := by decide +kernel
theorem dL_law_960 : decode code 960 = .ok (.iconst 0, 1) := by decide +kernel
theorem dL_law_961 : decode code 961 = .ok (.laload, 1) := by decide +kernel
theorem dL_law_962 : decode code 962 = .ok (.iload 6, 2) := by decide +kernel
theorem dL_law_964 : decode code 964 = .ok (.ifCond .eq 7, 3) := by decide +kernel
theorem dL_law_967 : decode code 967 = .ok (.lconst 1, 1) := by decide +kernel
theorem dL_law_968 : decode code 968 = .ok (.goto 4, 3) := by decide +kernel
theorem dL_law_971 : decode code 971 = .ok (.lconst 0, 1) := by decide +kernel
theorem dL_law_972 : decode code 972 = .ok (.lcmp, 1) := by decide +kernel
theorem dL_law_973 : decode code 973 = .ok (.ifCond .eq 5, 3) := by decide +kernel
theorem dL_law_976 : decode code 976 = .ok (.iconst 0, 1) := by decide +kernel
theorem dL_law_977 : decode code 977 = .ok (.ireturn, 1) := by decide +kernel
theorem dL_law_978 : decode code 978 = .ok (.goto 344, 3) := by decide +kernel
theorem dL_law_981 : decode code 981 = .ok (.aload_n 1, 1) := by decide +kernel
theorem dL_law_982 : decode code 982 = .ok (.aload_n 3, 1) := by decide +kernel
theorem dL_law_983 : decode code 983 = .ok (.invokestatic 112, 3) := by decide +kernel
theorem dL_law_986 : decode code 986 = .ok (.istore 5, 2) := by decide +kernel
theorem dL_law_988 : decode code 988 = .ok (.aload_n 2, 1) := by decide +kernel
theorem dL_law_989 : decode code 989 = .ok (.invokevirtual 115, 3) := by decide +kernel
theorem dL_law_992 : decode code 992 = .ok (.lstore 6, 2) := by decide +kernel
theorem dL_law_994 : decode code 994 = .ok (.aload_n 2, 1) := by decide +kernel
theorem dL_law_995 : decode code 995 = .ok (.invokevirtual 75, 3) := by decide +kernel
theorem dL_law_998 : decode code 998 = .ok (.iload 5, 2) := by decide +kernel
theorem dL_law_1000 : decode code 1000 = .ok (.if_icmp .eq 5, 3) := by decide +kernel
theorem dL_law_1003 : decode code 1003 = .ok (.iconst 0, 1) := by decide +kernel
theorem dL_law_1004 : decode code 1004 = .ok (.ireturn, 1) := by decide +kernel
theorem dL_law_1005 : decode code 1005 = .ok (.iload 5, 2) := by decide +kernel
theorem dL_law_1007 : decode code 1007 = .ok (.ifCond .ne 14, 3) := by decide +kernel
theorem dL_law_1010 : decode code 1010 = .ok (.aload_n 3, 1) := by decide +kernel
theorem dL_law_1011 : decode code 1011 = .ok (.iconst 0, 1) := by decide +kernel
theorem dL_law_1012 : decode code 1012 = .ok (.laload, 1) := by decide +kernel
theorem dL_law_1013 : decode code 1013 = .ok (.lload 6, 2) := by decide +kernel
theorem dL_law_1015 : decode code 1015 = .ok (.lcmp, 1) := by decide +kernel
theorem dL_law_1016 : decode code 1016 = .ok (.ifCond .eq 5, 3) := by decide +kernel
theorem dL_law_1019 : decode code 1019 = .ok (.iconst 0, 1) := by decide +kernel
theorem dL_law_1020 : decode code 1020 = .ok (.ireturn, 1) := by decide +kernel
theorem dL_law_1021 : decode code 1021 = .ok (.goto 301, 3) := by decide +kernel
theorem dL_law_1024 : decode code 1024 = .ok (.aload_n 1, 1) := by decide +kernel
theorem dL_law_1025 : decode code 1025 = .ok (.aload_n 0, 1) := by decide +kernel
theorem dL_law_1026 : decode code 1026 = .ok (.iload 4, 2) := by decide +kernel
theorem dL_law_1028 : decode code 1028 = .ok (.iconst 1, 1) := by decide +kernel
theorem dL_law_1029 : decode code 1029 = .ok (.iadd, 1) := by decide +kernel
theorem dL_law_1030 : decode code 1030 = .ok (.iaload, 1) := by decide +kernel
theorem dL_law_1031 : decode code 1031 = .ok (.aload_n 3, 1) := by decide +kernel
theorem dL_law_1032 : decode code 1032 = .ok (.invokestatic 116, 3) := by decide +kernel
theorem dL_law_1035 : decode code 1035 = .ok (.istore 5, 2) := by decide +kernel
theorem dL_law_1037 : decode code 1037 = .ok (.aload_n 2, 1) := by decide +kernel
theorem dL_law_1038 : decode code 1038 = .ok (.aload_n 0, 1) := by decide +kernel
theorem dL_law_1039 : decode code 1039 = .ok (.iload 4, 2) := by decide +kernel
theorem dL_law_1041 : decode code 1041 = .ok (.iconst 1, 1) := by decide +kernel
theorem dL_law_1042 : decode code 1042 = .ok (.iadd, 1) := by decide +kernel
theorem dL_law_1043 : decode code 1043 = .ok (.iaload, 1) := by decide +kernel
theorem dL_law_1044 : decode code 1044 = .ok (.invokevirtual 118, 3) := by decide +kernel
theorem dL_law_1047 : decode code 1047 = .ok (.lstore 6, 2) := by decide +kernel
theorem dL_law_1049 : decode code 1049 = .ok (.aload_n 2, 1) := by decide +kernel
theorem dL_law_1050 : decode code 1050 = .ok (.invokevirtual 75, 3) := by decide +kernel
theorem dL_law_1053 : decode code 1053 = .ok (.iload 5, 2) := by decide +kernel
theorem dL_law_1055 : decode code 1055 = .ok (.if_icmp .eq 5, 3) := by decide +kernel
theorem dL_law_1058 : decode code 1058 = .ok (.iconst 0, 1) := by decide +kernel
theorem dL_law_1059 : decode code 1059 = .ok (.ireturn, 1) := by decide +kernel
theorem dL_law_1060 : decode code 1060 = .ok (.iload 5, 2) := by decide +kernel
theorem dL_law_1062 : decode code 1062 = .ok (.ifCond .ne 14, 3) := by decide +kernel
theorem dL_law_1065 : decode code 1065 = .ok (.aload_n 3, 1) := by decide +kernel
theorem dL_law_1066 : decode code 1066 = .ok (.iconst 0, 1) := by decide +kernel
theorem dL_law_1067 : decode code 1067 = .ok (.laload, 1) := by decide +kernel
theorem dL_law_1068 : decode code 1068 = .ok (.lload 6, 2) := by decide +kernel
theorem dL_law_1070 : decode code 1070 = .ok (.lcmp, 1) := by decide +kernel
theorem dL_law_1071 : decode code 1071 = .ok (.ifCond .eq 5, 3) := by decide +kernel
theorem dL_law_1074 : decode code 1074 = .ok (.iconst 0, 1) := by decide +kernel
theorem dL_law_1075 : decode code 1075 = .ok (.ireturn, 1) := by decide +kernel
theorem dL_law_1076 : decode code 1076 = .ok (.goto 246, 3) := by decide +kernel
theorem dL_law_1079 : decode code 1079 = .ok (.aload_n 1, 1) := by decide +kernel
theorem dL_law_1080 : decode code 1080 = .ok (.aload_n 0, 1) := by decide +kernel
theorem dL_law_1081 : decode code 1081 = .ok (.iload 4, 2) := by decide +kernel
theorem dL_law_1083 : decode code 1083 = .ok (.iconst 1, 1) := by decide +kernel
theorem dL_law_1084 : decode code 1084 = .ok (.iadd, 1) := by decide +kernel
theorem dL_law_1085 : decode code 1085 = .ok (.iaload, 1) := by decide +kernel
theorem dL_law_1086 : decode code 1086 = .ok (.i2l, 1) := by decide +kernel
theorem dL_law_1087 : decode code 1087 = .ok (.bipush 32, 2) := by decide +kernel
theorem dL_law_1089 : decode code 1089 = .ok (.lshl, 1) := by decide +kernel
theorem dL_law_1090 : decode code 1090 = .ok (.aload_n 0, 1) := by decide +kernel
theorem dL_law_1091 : decode code 1091 = .ok (.iload 4, 2) := by decide +kernel
theorem dL_law_1093 : decode code 1093 = .ok (.iconst 2, 1) := by decide +kernel
theorem dL_law_1094 : decode code 1094 = .ok (.iadd, 1) := by decide +kernel
theorem dL_law_1095 : decode code 1095 = .ok (.iaload, 1) := by decide +kernel
theorem dL_law_1096 : decode code 1096 = .ok (.i2l, 1) := by decide +kernel
theorem dL_law_1097 : decode code 1097 = .ok (.ldc2_w 67, 3) := by decide +kernel
theorem dL_law_1100 : decode code 1100 = .ok (.land, 1) := by decide +kernel
theorem dL_law_1101 : decode code 1101 = .ok (.lor, 1) := by decide +kernel
theorem dL_law_1102 : decode code 1102 = .ok (.aload_n 0, 1) := by decide +kernel
theorem dL_law_1103 : decode code 1103 = .ok (.iload 4, 2) := by decide +kernel
theorem dL_law_1105 : decode code 1105 = .ok (.iconst 3, 1) := by decide +kernel
theorem dL_law_1106 : decode code 1106 = .ok (.iadd, 1) := by decide +kernel
theorem dL_law_1107 : decode code 1107 = .ok (.iaload, 1) := by decide +kernel
theorem dL_law_1108 : decode code 1108 = .ok (.i2l, 1) := by decide +kernel
theorem dL_law_1109 : decode code 1109 = .ok (.bipush 32, 2) := by decide +kernel
theorem dL_law_1111 : decode code 1111 = .ok (.lshl, 1) := by decide +kernel
theorem dL_law_1112 : decode code 1112 = .ok (.aload_n 0, 1) := by decide +kernel
theorem dL_law_1113 : decode code 1113 = .ok (.iload 4, 2) := by decide +kernel
theorem dL_law_1115 : decode code 1115 = .ok (.iconst 4, 1) := by decide +kernel
theorem dL_law_1116 : decode code 1116 = .ok (.iadd, 1) := by decide +kernel
theorem dL_law_1117 : decode code 1117 = .ok (.iaload, 1) := by decide +kernel
theorem dL_law_1118 : decode code 1118 = .ok (.i2l, 1) := by decide +kernel
theorem dL_law_1119 : decode code 1119 = .ok (.ldc2_w 67, 3) := by decide +kernel
theorem dL_law_1122 : decode code 1122 = .ok (.land, 1) := by decide +kernel
theorem dL_law_1123 : decode code 1123 = .ok (.lor, 1) := by decide +kernel
theorem dL_law_1124 : decode code 1124 = .ok (.aload_n 3, 1) := by decide +kernel
theorem dL_law_1125 : decode code 1125 = .ok (.invokestatic 119, 3) := by decide +kernel
theorem dL_law_1128 : decode code 1128 = .ok (.istore 5, 2) := by decide +kernel
theorem dL_law_1130 : decode code 1130 = .ok (.aload_n 2, 1) := by decide +kernel
theorem dL_law_1131 : decode code 1131 = .ok (.aload_n 0, 1) := by decide +kernel
theorem dL_law_1132 : decode code 1132 = .ok (.iload 4, 2) := by decide +kernel
theorem dL_law_1134 : decode code 1134 = .ok (.iconst 1, 1) := by decide +kernel
theorem dL_law_1135 : decode code 1135 = .ok (.iadd, 1) := by decide +kernel
theorem dL_law_1136 : decode code 1136 = .ok (.iaload, 1) := by decide +kernel
theorem dL_law_1137 : decode code 1137 = .ok (.i2l, 1) := by decide +kernel
theorem dL_law_1138 : decode code 1138 = .ok (.bipush 32, 2) := by decide +kernel
theorem dL_law_1140 : decode code 1140 = .ok (.lshl, 1) := by decide +kernel
theorem dL_law_1141 : decode code 1141 = .ok (.aload_n 0, 1) := by decide +kernel
theorem dL_law_1142 : decode code 1142 = .ok (.iload 4, 2) := by decide +kernel
theorem dL_law_1144 : decode code 1144 = .ok (.iconst 2, 1) := by decide +kernel
theorem dL_law_1145 : decode code 1145 = .ok (.iadd, 1) := by decide +kernel
theorem dL_law_1146 : decode code 1146 = .ok (.iaload, 1) := by decide +kernel
theorem dL_law_1147 : decode code 1147 = .ok (.i2l, 1) := by decide +kernel
theorem dL_law_1148 : decode code 1148 = .ok (.ldc2_w 67, 3) := by decide +kernel
theorem dL_law_1151 : decode code 1151 = .ok (.land, 1) := by decide +kernel
theorem dL_law_1152 : decode code 1152 = .ok (.lor, 1) := by decide +kernel
theorem dL_law_1153 : decode code 1153 = .ok (.aload_n 0, 1) := by decide +kernel
theorem dL_law_1154 : decode code 1154 = .ok (.iload 4, 2) := by decide +kernel
theorem dL_law_1156 : decode code 1156 = .ok (.iconst 3, 1) := by decide +kernel
theorem dL_law_1157 : decode code 1157 = .ok (.iadd, 1) := by decide +kernel
theorem dL_law_1158 : decode code 1158 = .ok (.iaload, 1) := by decide +kernel
theorem dL_law_1159 : decode code 1159 = .ok (.i2l, 1) := by decide +kernel
theorem dL_law_1160 : decode code 1160 = .ok (.bipush 32, 2) := by decide +kernel
theorem dL_law_1162 : decode code 1162 = .ok (.lshl, 1) := by decide +kernel
theorem dL_law_1163 : decode code 1163 = .ok (.aload_n 0, 1) := by decide +kernel
theorem dL_law_1164 : decode code 1164 = .ok (.iload 4, 2) := by decide +kernel
theorem dL_law_1166 : decode code 1166 = .ok (.iconst 4, 1) := by decide +kernel
theorem dL_law_1167 : decode code 1167 = .ok (.iadd, 1) := by decide +kernel
theorem dL_law_1168 : decode code 1168 = .ok (.iaload, 1) := by decide +kernel
theorem dL_law_1169 : decode code 1169 = .ok (.i2l, 1) := by decide +kernel
theorem dL_law_1170 : decode code 1170 = .ok (.ldc2_w 67, 3) := by decide +kernel
theorem dL_law_1173 : decode code 1173 = .ok (.land, 1) := by decide +kernel
theorem dL_law_1174 : decode code 1174 = .ok (.lor, 1) := by decide +kernel
theorem dL_law_1175 : decode code 1175 = .ok (.invokevirtual 122, 3) := by decide +kernel
theorem dL_law_1178 : decode code 1178 = .ok (.istore 6, 2) := by decide +kernel
theorem dL_law_1180 : decode code 1180 = .ok (.aload_n 2, 1) := by decide +kernel
theorem dL_law_1181 : decode code 1181 = .ok (.invokevirtual 75, 3) := by decide +kernel
theorem dL_law_1184 : decode code 1184 = .ok (.iload 5, 2) := by decide +kernel
theorem dL_law_1186 : decode code 1186 = .ok (.if_icmp .eq 5, 3) := by decide +kernel
theorem dL_law_1189 : decode code 1189 = .ok (.iconst 0, 1) := by decide +kernel
theorem dL_law_1190 : decode code 1190 = .ok (.ireturn, 1) := by decide +kernel
theorem dL_law_1191 : decode code 1191 = .ok (.iload 5, 2) := by decide +kernel
theorem dL_law_1193 : decode code 1193 = .ok (.ifCond .ne 15, 3) := by decide +kernel
theorem dL_law_1196 : decode code 1196 = .ok (.aload_n 3, 1) := by decide +kernel
theorem dL_law_1197 : decode code 1197 = .ok (.iconst 0, 1) := by decide +kernel
theorem dL_law_1198 : decode code 1198 = .ok (.laload, 1) := by decide +kernel
theorem dL_law_1199 : decode code 1199 = .ok (.iload 6, 2) := by decide +kernel
theorem dL_law_1201 : decode code 1201 = .ok (.i2l, 1) := by decide +kernel
theorem dL_law_1202 : decode code 1202 = .ok (.lcmp, 1) := by decide +kernel
theorem dL_law_1203 : decode code 1203 = .ok (.ifCond .eq 5, 3) := by decide +kernel
theorem dL_law_1206 : decode code 1206 = .ok (.iconst 0, 1) := by decide +kernel
theorem dL_law_1207 : decode code 1207 = .ok (.ireturn, 1) := by decide +kernel
theorem dL_law_1208 : decode code 1208 = .ok (.goto 114, 3) := by decide +kernel
theorem dL_law_1211 : decode code 1211 = .ok (.aload_n 1, 1) := by decide +kernel
theorem dL_law_1212 : decode code 1212 = .ok (.aload_n 0, 1) := by decide +kernel
theorem dL_law_1213 : decode code 1213 = .ok (.iload 4, 2) := by decide +kernel
theorem dL_law_1215 : decode code 1215 = .ok (.iconst 1, 1) := by decide +kernel
theorem dL_law_1216 : decode code 1216 = .ok (.iadd, 1) := by decide +kernel
theorem dL_law_1217 : decode code 1217 = .ok (.iaload, 1) := by decide +kernel
theorem dL_law_1218 : decode code 1218 = .ok (.aload_n 3, 1) := by decide +kernel
theorem dL_law_1219 : decode code 1219 = .ok (.invokestatic 123, 3) := by decide +kernel
theorem dL_law_1222 : decode code 1222 = .ok (.istore 5, 2) := by decide +kernel
theorem dL_law_1224 : decode code 1224 = .ok (.aload_n 2, 1) := by decide +kernel
theorem dL_law_1225 : decode code 1225 = .ok (.aload_n 0, 1) := by decide +kernel
theorem dL_law_1226 : decode code 1226 = .ok (.iload 4, 2) := by decide +kernel
theorem dL_law_1228 : decode code 1228 = .ok (.iconst 1, 1) := by decide +kernel
theorem dL_law_1229 : decode code 1229 = .ok (.iadd, 1) := by decide +kernel
theorem dL_law_1230 : decode code 1230 = .ok (.iaload, 1) := by decide +kernel
theorem dL_law_1231 : decode code 1231 = .ok (.invokevirtual 125, 3) := by decide +kernel
theorem dL_law_1234 : decode code 1234 = .ok (.lstore 6, 2) := by decide +kernel
theorem dL_law_1236 : decode code 1236 = .ok (.aload_n 2, 1) := by decide +kernel
theorem dL_law_1237 : decode code 1237 = .ok (.invokevirtual 75, 3) := by decide +kernel
theorem dL_law_1240 : decode code 1240 = .ok (.iload 5, 2) := by decide +kernel
theorem dL_law_1242 : decode code 1242 = .ok (.if_icmp .eq 5, 3) := by decide +kernel
theorem dL_law_1245 : decode code 1245 = .ok (.iconst 0, 1) := by decide +kernel
theorem dL_law_1246 : decode code 1246 = .ok (.ireturn, 1) := by decide +kernel
theorem dL_law_1247 : decode code 1247 = .ok (.iload 5, 2) := by decide +kernel
theorem dL_law_1249 : decode code 1249 = .ok (.ifCond .ne 14, 3) := by decide +kernel
theorem dL_law_1252 : decode code 1252 = .ok (.aload_n 3, 1) := by decide +kernel
theorem dL_law_1253 : decode code 1253 = .ok (.iconst 0, 1) := by decide +kernel
theorem dL_law_1254 : decode code 1254 = .ok (.laload, 1) := by decide +kernel
theorem dL_law_1255 : decode code 1255 = .ok (.lload 6, 2) := by decide +kernel
theorem dL_law_1257 : decode code 1257 = .ok (.lcmp, 1) := by decide +kernel
theorem dL_law_1258 : decode code 1258 = .ok (.ifCond .eq 5, 3) := by decide +kernel
theorem dL_law_1261 : decode code 1261 = .ok (.iconst 0, 1) := by decide +kernel
theorem dL_law_1262 : decode code 1262 = .ok (.ireturn, 1) := by decide +kernel
theorem dL_law_1263 : decode code 1263 = .ok (.goto 59, 3) := by decide +kernel
theorem dL_law_1266 : decode code 1266 = .ok (.aload_n 1, 1) := by decide +kernel
theorem dL_law_1267 : decode code 1267 = .ok (.aload_n 0, 1) := by decide +kernel
theorem dL_law_1268 : decode code 1268 = .ok (.iload 4, 2) := by decide +kernel
theorem dL_law_1270 : decode code 1270 = .ok (.iconst 1, 1) := by decide +kernel
theorem dL_law_1271 : decode code 1271 = .ok (.iadd, 1) := by decide +kernel
theorem dL_law_1272 : decode code 1272 = .ok (.iaload, 1) := by decide +kernel
theorem dL_law_1273 : decode code 1273 = .ok (.aload_n 3, 1) := by decide +kernel
theorem dL_law_1274 : decode code 1274 = .ok (.invokestatic 126, 3) := by decide +kernel
theorem dL_law_1277 : decode code 1277 = .ok (.istore 5, 2) := by decide +kernel
theorem dL_law_1279 : decode code 1279 = .ok (.aload_n 2, 1) := by decide +kernel
theorem dL_law_1280 : decode code 1280 = .ok (.aload_n 0, 1) := by decide +kernel
theorem dL_law_1281 : decode code 1281 = .ok (.iload 4, 2) := by decide +kernel
theorem dL_law_1283 : decode code 1283 = .ok (.iconst 1, 1) := by decide +kernel
theorem dL_law_1284 : decode code 1284 = .ok (.iadd, 1) := by decide +kernel
theorem dL_law_1285 : decode code 1285 = .ok (.iaload, 1) := by decide +kernel
theorem dL_law_1286 : decode code 1286 = .ok (.invokevirtual 128, 3) := by decide +kernel
theorem dL_law_1289 : decode code 1289 = .ok (.istore 6, 2) := by decide +kernel
theorem dL_law_1291 : decode code 1291 = .ok (.aload_n 2, 1) := by decide +kernel
theorem dL_law_1292 : decode code 1292 = .ok (.invokevirtual 75, 3) := by decide +kernel
theorem dL_law_1295 : decode code 1295 = .ok (.iload 5, 2) := by decide +kernel
theorem dL_law_1297 : decode code 1297 = .ok (.if_icmp .eq 5, 3) := by decide +kernel
theorem dL_law_1300 : decode code 1300 = .ok (.iconst 0, 1) := by decide +kernel
theorem dL_law_1301 : decode code 1301 = .ok (.ireturn, 1) := by decide +kernel
theorem dL_law_1302 : decode code 1302 = .ok (.iload 5, 2) := by decide +kernel
theorem dL_law_1304 : decode code 1304 = .ok (.ifCond .ne 15, 3) := by decide +kernel
theorem dL_law_1307 : decode code 1307 = .ok (.aload_n 3, 1) := by decide +kernel
theorem dL_law_1308 : decode code 1308 = .ok (.iconst 0, 1) := by decide +kernel
theorem dL_law_1309 : decode code 1309 = .ok (.laload, 1) := by decide +kernel
theorem dL_law_1310 : decode code 1310 = .ok (.iload 6, 2) := by decide +kernel
theorem dL_law_1312 : decode code 1312 = .ok (.i2l, 1) := by decide +kernel
theorem dL_law_1313 : decode code 1313 = .ok (.lcmp, 1) := by decide +kernel
theorem dL_law_1314 : decode code 1314 = .ok (.ifCond .eq 5, 3) := by decide +kernel
theorem dL_law_1317 : decode code 1317 = .ok (.iconst 0, 1) := by decide +kernel
theorem dL_law_1318 : decode code 1318 = .ok (.ireturn, 1) := by decide +kernel
theorem dL_law_1319 : decode code 1319 = .ok (.goto 3, 3) := by decide +kernel
theorem dL_law_1322 : decode code 1322 = .ok (.iinc 4 11, 3) := by decide +kernel
theorem dL_law_1325 : decode code 1325 = .ok (.goto (-1302), 3) := by decide +kernel
theorem dL_law_1328 : decode code 1328 = .ok (.iconst 1, 1) := by decide +kernel
theorem dL_law_1329 : decode code 1329 = .ok (.ireturn, 1) := by decide +kernel
