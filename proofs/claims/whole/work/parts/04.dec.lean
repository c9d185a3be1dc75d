theorem d_Pl_clear_0 : decode b_Pl_clear 0 = .ok (.aload_n 0, 1) := by decide +kernel
theorem d_Pl_clear_1 : decode b_Pl_clear 1 = .ok (.iconst 0, 1) := by decide +kernel
theorem d_Pl_clear_2 : decode b_Pl_clear 2 = .ok (.putfield 21, 3) := by decide +kernel
theorem d_Pl_clear_5 : decode b_Pl_clear 5 = .ok (.return_, 1) := by decide +kernel
theorem d_Th_clear_0 : decode b_Th_clear 0 = .ok (.aload_n 0, 1) := by decide +kernel
theorem d_Th_clear_1 : decode b_Th_clear 1 = .ok (.iconst 0, 1) := by decide +kernel
theorem d_Th_clear_2 : decode b_Th_clear 2 = .ok (.putfield 49, 3) := by decide +kernel
theorem d_Th_clear_5 : decode b_Th_clear 5 = .ok (.aload_n 0, 1) := by decide +kernel
theorem d_Th_clear_6 : decode b_Th_clear 6 = .ok (.iconst 0, 1) := by decide +kernel
theorem d_Th_clear_7 : decode b_Th_clear 7 = .ok (.putfield 53, 3) := by decide +kernel
theorem d_Th_clear_10 : decode b_Th_clear 10 = .ok (.aload_n 0, 1) := by decide +kernel
theorem d_Th_clear_11 : decode b_Th_clear 11 = .ok (.iconst 0, 1) := by decide +kernel
theorem d_Th_clear_12 : decode b_Th_clear 12 = .ok (.putfield 56, 3) := by decide +kernel
theorem d_Th_clear_15 : decode b_Th_clear 15 = .ok (.return_, 1) := by decide +kernel
theorem d_Ro_clear_0 : decode b_Ro_clear 0 = .ok (.aload_n 0, 1) := by decide +kernel
theorem d_Ro_clear_1 : decode b_Ro_clear 1 = .ok (.iconst 0, 1) := by decide +kernel
theorem d_Ro_clear_2 : decode b_Ro_clear 2 = .ok (.putfield 25, 3) := by decide +kernel
theorem d_Ro_clear_5 : decode b_Ro_clear 5 = .ok (.aload_n 0, 1) := by decide +kernel
theorem d_Ro_clear_6 : decode b_Ro_clear 6 = .ok (.iconst 0, 1) := by decide +kernel
theorem d_Ro_clear_7 : decode b_Ro_clear 7 = .ok (.putfield 29, 3) := by decide +kernel
theorem d_Ro_clear_10 : decode b_Ro_clear 10 = .ok (.return_, 1) := by decide +kernel
theorem d_Va_be_0 : decode b_Va_be 0 = .ok (.aload_n 0, 1) := by decide +kernel
theorem d_Va_be_1 : decode b_Va_be 1 = .ok (.iload_n 1, 1) := by decide +kernel
theorem d_Va_be_2 : decode b_Va_be 2 = .ok (.putfield 9, 3) := by decide +kernel
theorem d_Va_be_5 : decode b_Va_be 5 = .ok (.aload_n 0, 1) := by decide +kernel
theorem d_Va_be_6 : decode b_Va_be 6 = .ok (.lload_n 2, 1) := by decide +kernel
theorem d_Va_be_7 : decode b_Va_be 7 = .ok (.putfield 15, 3) := by decide +kernel
theorem d_Va_be_10 : decode b_Va_be 10 = .ok (.aload_n 0, 1) := by decide +kernel
theorem d_Va_be_11 : decode b_Va_be 11 = .ok (.iload 4, 2) := by decide +kernel
theorem d_Va_be_13 : decode b_Va_be 13 = .ok (.putfield 19, 3) := by decide +kernel
theorem d_Va_be_16 : decode b_Va_be 16 = .ok (.aload_n 0, 1) := by decide +kernel
theorem d_Va_be_17 : decode b_Va_be 17 = .ok (.iload 5, 2) := by decide +kernel
theorem d_Va_be_19 : decode b_Va_be 19 = .ok (.putfield 22, 3) := by decide +kernel
theorem d_Va_be_22 : decode b_Va_be 22 = .ok (.return_, 1) := by decide +kernel
theorem d_Va_beNumber_0 : decode b_Va_beNumber 0 = .ok (.aload_n 0, 1) := by decide +kernel
theorem d_Va_beNumber_1 : decode b_Va_beNumber 1 = .ok (.iconst 0, 1) := by decide +kernel
theorem d_Va_beNumber_2 : decode b_Va_beNumber 2 = .ok (.lload_n 1, 1) := by decide +kernel
theorem d_Va_beNumber_3 : decode b_Va_beNumber 3 = .ok (.iconst (-1), 1) := by decide +kernel
theorem d_Va_beNumber_4 : decode b_Va_beNumber 4 = .ok (.iconst (-1), 1) := by decide +kernel
theorem d_Va_beNumber_5 : decode b_Va_beNumber 5 = .ok (.invokevirtual 25, 3) := by decide +kernel
theorem d_Va_beNumber_8 : decode b_Va_beNumber 8 = .ok (.return_, 1) := by decide +kernel
theorem d_Wa_takeTerm_0 : decode b_Wa_takeTerm 0 = .ok (.aload_n 0, 1) := by decide +kernel
theorem d_Wa_takeTerm_1 : decode b_Wa_takeTerm 1 = .ok (.iconst 0, 1) := by decide +kernel
theorem d_Wa_takeTerm_2 : decode b_Wa_takeTerm 2 = .ok (.putfield 54, 3) := by decide +kernel
theorem d_Wa_takeTerm_5 : decode b_Wa_takeTerm 5 = .ok (.aload_n 0, 1) := by decide +kernel
theorem d_Wa_takeTerm_6 : decode b_Wa_takeTerm 6 = .ok (.iload_n 1, 1) := by decide +kernel
theorem d_Wa_takeTerm_7 : decode b_Wa_takeTerm 7 = .ok (.putfield 57, 3) := by decide +kernel
theorem d_Wa_takeTerm_10 : decode b_Wa_takeTerm 10 = .ok (.aload_n 0, 1) := by decide +kernel
theorem d_Wa_takeTerm_11 : decode b_Wa_takeTerm 11 = .ok (.iload_n 2, 1) := by decide +kernel
theorem d_Wa_takeTerm_12 : decode b_Wa_takeTerm 12 = .ok (.putfield 60, 3) := by decide +kernel
theorem d_Wa_takeTerm_15 : decode b_Wa_takeTerm 15 = .ok (.return_, 1) := by decide +kernel
theorem d_Wa_start_0 : decode b_Wa_start 0 = .ok (.aload_n 0, 1) := by decide +kernel
theorem d_Wa_start_1 : decode b_Wa_start 1 = .ok (.getfield 21, 3) := by decide +kernel
theorem d_Wa_start_4 : decode b_Wa_start 4 = .ok (.invokevirtual 84, 3) := by decide +kernel
theorem d_Wa_start_7 : decode b_Wa_start 7 = .ok (.aload_n 0, 1) := by decide +kernel
theorem d_Wa_start_8 : decode b_Wa_start 8 = .ok (.getfield 28, 3) := by decide +kernel
theorem d_Wa_start_11 : decode b_Wa_start 11 = .ok (.invokevirtual 87, 3) := by decide +kernel
theorem d_Wa_start_14 : decode b_Wa_start 14 = .ok (.aload_n 0, 1) := by decide +kernel
theorem d_Wa_start_15 : decode b_Wa_start 15 = .ok (.getfield 35, 3) := by decide +kernel
theorem d_Wa_start_18 : decode b_Wa_start 18 = .ok (.invokevirtual 88, 3) := by decide +kernel
theorem d_Wa_start_21 : decode b_Wa_start 21 = .ok (.aload_n 0, 1) := by decide +kernel
theorem d_Wa_start_22 : decode b_Wa_start 22 = .ok (.getfield 42, 3) := by decide +kernel
theorem d_Wa_start_25 : decode b_Wa_start 25 = .ok (.lconst 0, 1) := by decide +kernel
theorem d_Wa_start_26 : decode b_Wa_start 26 = .ok (.invokevirtual 89, 3) := by decide +kernel
theorem d_Wa_start_29 : decode b_Wa_start 29 = .ok (.aload_n 0, 1) := by decide +kernel
theorem d_Wa_start_30 : decode b_Wa_start 30 = .ok (.iconst 1, 1) := by decide +kernel
theorem d_Wa_start_31 : decode b_Wa_start 31 = .ok (.putfield 46, 3) := by decide +kernel
theorem d_Wa_start_34 : decode b_Wa_start 34 = .ok (.aload_n 0, 1) := by decide +kernel
theorem d_Wa_start_35 : decode b_Wa_start 35 = .ok (.iload_n 2, 1) := by decide +kernel
theorem d_Wa_start_36 : decode b_Wa_start 36 = .ok (.putfield 50, 3) := by decide +kernel
theorem d_Wa_start_39 : decode b_Wa_start 39 = .ok (.aload_n 0, 1) := by decide +kernel
theorem d_Wa_start_40 : decode b_Wa_start 40 = .ok (.iload_n 1, 1) := by decide +kernel
theorem d_Wa_start_41 : decode b_Wa_start 41 = .ok (.iconst (-1), 1) := by decide +kernel
theorem d_Wa_start_42 : decode b_Wa_start 42 = .ok (.invokevirtual 93, 3) := by decide +kernel
theorem d_Wa_start_45 : decode b_Wa_start 45 = .ok (.aload_n 0, 1) := by decide +kernel
theorem d_Wa_start_46 : decode b_Wa_start 46 = .ok (.iconst (-1), 1) := by decide +kernel
theorem d_Wa_start_47 : decode b_Wa_start 47 = .ok (.putfield 63, 3) := by decide +kernel
theorem d_Wa_start_50 : decode b_Wa_start 50 = .ok (.aload_n 0, 1) := by decide +kernel
theorem d_Wa_start_51 : decode b_Wa_start 51 = .ok (.iconst 0, 1) := by decide +kernel
theorem d_Wa_start_52 : decode b_Wa_start 52 = .ok (.putfield 66, 3) := by decide +kernel
theorem d_Wa_start_55 : decode b_Wa_start 55 = .ok (.aload_n 0, 1) := by decide +kernel
theorem d_Wa_start_56 : decode b_Wa_start 56 = .ok (.iconst 0, 1) := by decide +kernel
theorem d_Wa_start_57 : decode b_Wa_start 57 = .ok (.putfield 69, 3) := by decide +kernel
theorem d_Wa_start_60 : decode b_Wa_start 60 = .ok (.aload_n 0, 1) := by decide +kernel
theorem d_Wa_start_61 : decode b_Wa_start 61 = .ok (.iconst 0, 1) := by decide +kernel
theorem d_Wa_start_62 : decode b_Wa_start 62 = .ok (.putfield 72, 3) := by decide +kernel
theorem d_Wa_start_65 : decode b_Wa_start 65 = .ok (.aload_n 0, 1) := by decide +kernel
theorem d_Wa_start_66 : decode b_Wa_start 66 = .ok (.iconst (-1), 1) := by decide +kernel
theorem d_Wa_start_67 : decode b_Wa_start 67 = .ok (.putfield 75, 3) := by decide +kernel
theorem d_Wa_start_70 : decode b_Wa_start 70 = .ok (.return_, 1) := by decide +kernel
theorem d_Wa_turnTo_0 : decode b_Wa_turnTo 0 = .ok (.aload_n 0, 1) := by decide +kernel
theorem d_Wa_turnTo_1 : decode b_Wa_turnTo 1 = .ok (.iconst 2, 1) := by decide +kernel
theorem d_Wa_turnTo_2 : decode b_Wa_turnTo 2 = .ok (.putfield 54, 3) := by decide +kernel
theorem d_Wa_turnTo_5 : decode b_Wa_turnTo 5 = .ok (.aload_n 0, 1) := by decide +kernel
theorem d_Wa_turnTo_6 : decode b_Wa_turnTo 6 = .ok (.iload_n 1, 1) := by decide +kernel
theorem d_Wa_turnTo_7 : decode b_Wa_turnTo 7 = .ok (.putfield 63, 3) := by decide +kernel
theorem d_Wa_turnTo_10 : decode b_Wa_turnTo 10 = .ok (.aload_n 0, 1) := by decide +kernel
theorem d_Wa_turnTo_11 : decode b_Wa_turnTo 11 = .ok (.iconst 1, 1) := by decide +kernel
theorem d_Wa_turnTo_12 : decode b_Wa_turnTo 12 = .ok (.putfield 46, 3) := by decide +kernel
theorem d_Wa_turnTo_15 : decode b_Wa_turnTo 15 = .ok (.return_, 1) := by decide +kernel
theorem d_Th_forgetReached_0 : decode b_Th_forgetReached 0 = .ok (.aload_n 0, 1) := by decide +kernel
theorem d_Th_forgetReached_1 : decode b_Th_forgetReached 1 = .ok (.iconst 0, 1) := by decide +kernel
theorem d_Th_forgetReached_2 : decode b_Th_forgetReached 2 = .ok (.putfield 56, 3) := by decide +kernel
theorem d_Th_forgetReached_5 : decode b_Th_forgetReached 5 = .ok (.return_, 1) := by decide +kernel
theorem d_Pl_mark_0 : decode b_Pl_mark 0 = .ok (.iload_n 1, 1) := by decide +kernel
theorem d_Pl_mark_1 : decode b_Pl_mark 1 = .ok (.ifCond .lt 20, 3) := by decide +kernel
theorem d_Pl_mark_4 : decode b_Pl_mark 4 = .ok (.iload_n 1, 1) := by decide +kernel
theorem d_Pl_mark_5 : decode b_Pl_mark 5 = .ok (.sipush 1000, 3) := by decide +kernel
theorem d_Pl_mark_8 : decode b_Pl_mark 8 = .ok (.if_icmp .ge 13, 3) := by decide +kernel
theorem d_Pl_mark_11 : decode b_Pl_mark 11 = .ok (.aload_n 0, 1) := by decide +kernel
theorem d_Pl_mark_12 : decode b_Pl_mark 12 = .ok (.getfield 18, 3) := by decide +kernel
theorem d_Pl_mark_15 : decode b_Pl_mark 15 = .ok (.iload_n 1, 1) := by decide +kernel
theorem d_Pl_mark_16 : decode b_Pl_mark 16 = .ok (.iaload, 1) := by decide +kernel
theorem d_Pl_mark_17 : decode b_Pl_mark 17 = .ok (.iload_n 2, 1) := by decide +kernel
theorem d_Pl_mark_18 : decode b_Pl_mark 18 = .ok (.if_icmp .ne 5, 3) := by decide +kernel
theorem d_Pl_mark_21 : decode b_Pl_mark 21 = .ok (.iconst 0, 1) := by decide +kernel
theorem d_Pl_mark_22 : decode b_Pl_mark 22 = .ok (.ireturn, 1) := by decide +kernel
theorem d_Pl_mark_23 : decode b_Pl_mark 23 = .ok (.aload_n 0, 1) := by decide +kernel
theorem d_Pl_mark_24 : decode b_Pl_mark 24 = .ok (.getfield 18, 3) := by decide +kernel
theorem d_Pl_mark_27 : decode b_Pl_mark 27 = .ok (.iload_n 1, 1) := by decide +kernel
theorem d_Pl_mark_28 : decode b_Pl_mark 28 = .ok (.iload_n 2, 1) := by decide +kernel
theorem d_Pl_mark_29 : decode b_Pl_mark 29 = .ok (.iastore, 1) := by decide +kernel
theorem d_Pl_mark_30 : decode b_Pl_mark 30 = .ok (.iconst 1, 1) := by decide +kernel
theorem d_Pl_mark_31 : decode b_Pl_mark 31 = .ok (.ireturn, 1) := by decide +kernel
theorem d_Pl_has_0 : decode b_Pl_has 0 = .ok (.iload_n 1, 1) := by decide +kernel
theorem d_Pl_has_1 : decode b_Pl_has 1 = .ok (.ifCond .lt 22, 3) := by decide +kernel
theorem d_Pl_has_4 : decode b_Pl_has 4 = .ok (.iload_n 1, 1) := by decide +kernel
theorem d_Pl_has_5 : decode b_Pl_has 5 = .ok (.aload_n 0, 1) := by decide +kernel
theorem d_Pl_has_6 : decode b_Pl_has 6 = .ok (.getfield 21, 3) := by decide +kernel
theorem d_Pl_has_9 : decode b_Pl_has 9 = .ok (.if_icmp .ge 14, 3) := by decide +kernel
theorem d_Pl_has_12 : decode b_Pl_has 12 = .ok (.iload_n 1, 1) := by decide +kernel
theorem d_Pl_has_13 : decode b_Pl_has 13 = .ok (.sipush 1000, 3) := by decide +kernel
theorem d_Pl_has_16 : decode b_Pl_has 16 = .ok (.if_icmp .ge 7, 3) := by decide +kernel
theorem d_Pl_has_19 : decode b_Pl_has 19 = .ok (.iconst 1, 1) := by decide +kernel
theorem d_Pl_has_20 : decode b_Pl_has 20 = .ok (.goto 4, 3) := by decide +kernel
theorem d_Pl_has_23 : decode b_Pl_has 23 = .ok (.iconst 0, 1) := by decide +kernel
theorem d_Pl_has_24 : decode b_Pl_has 24 = .ok (.ireturn, 1) := by decide +kernel
theorem d_Pl_heldBy_0 : decode b_Pl_heldBy 0 = .ok (.aload_n 0, 1) := by decide +kernel
theorem d_Pl_heldBy_1 : decode b_Pl_heldBy 1 = .ok (.iload_n 1, 1) := by decide +kernel
theorem d_Pl_heldBy_2 : decode b_Pl_heldBy 2 = .ok (.invokevirtual 25, 3) := by decide +kernel
theorem d_Pl_heldBy_5 : decode b_Pl_heldBy 5 = .ok (.ifCond .eq 12, 3) := by decide +kernel
theorem d_Pl_heldBy_8 : decode b_Pl_heldBy 8 = .ok (.aload_n 0, 1) := by decide +kernel
theorem d_Pl_heldBy_9 : decode b_Pl_heldBy 9 = .ok (.getfield 9, 3) := by decide +kernel
theorem d_Pl_heldBy_12 : decode b_Pl_heldBy 12 = .ok (.iload_n 1, 1) := by decide +kernel
theorem d_Pl_heldBy_13 : decode b_Pl_heldBy 13 = .ok (.iaload, 1) := by decide +kernel
theorem d_Pl_heldBy_14 : decode b_Pl_heldBy 14 = .ok (.goto 4, 3) := by decide +kernel
theorem d_Pl_heldBy_17 : decode b_Pl_heldBy 17 = .ok (.iconst (-1), 1) := by decide +kernel
theorem d_Pl_heldBy_18 : decode b_Pl_heldBy 18 = .ok (.ireturn, 1) := by decide +kernel
theorem d_Th_reach_0 : decode b_Th_reach 0 = .ok (.aload_n 0, 1) := by decide +kernel
theorem d_Th_reach_1 : decode b_Th_reach 1 = .ok (.getfield 56, 3) := by decide +kernel
theorem d_Th_reach_4 : decode b_Th_reach 4 = .ok (.istore_n 3, 1) := by decide +kernel
theorem d_Th_reach_5 : decode b_Th_reach 5 = .ok (.iload_n 1, 1) := by decide +kernel
theorem d_Th_reach_6 : decode b_Th_reach 6 = .ok (.ifCond .lt 31, 3) := by decide +kernel
theorem d_Th_reach_9 : decode b_Th_reach 9 = .ok (.iload_n 1, 1) := by decide +kernel
theorem d_Th_reach_10 : decode b_Th_reach 10 = .ok (.sipush 1000, 3) := by decide +kernel
theorem d_Th_reach_13 : decode b_Th_reach 13 = .ok (.if_icmp .ge 24, 3) := by decide +kernel
theorem d_Th_reach_16 : decode b_Th_reach 16 = .ok (.iload_n 3, 1) := by decide +kernel
theorem d_Th_reach_17 : decode b_Th_reach 17 = .ok (.ifCond .lt 20, 3) := by decide +kernel
theorem d_Th_reach_20 : decode b_Th_reach 20 = .ok (.iload_n 3, 1) := by decide +kernel
theorem d_Th_reach_21 : decode b_Th_reach 21 = .ok (.sipush 300, 3) := by decide +kernel
theorem d_Th_reach_24 : decode b_Th_reach 24 = .ok (.if_icmp .ge 13, 3) := by decide +kernel
theorem d_Th_reach_27 : decode b_Th_reach 27 = .ok (.aload_n 0, 1) := by decide +kernel
theorem d_Th_reach_28 : decode b_Th_reach 28 = .ok (.getfield 40, 3) := by decide +kernel
theorem d_Th_reach_31 : decode b_Th_reach 31 = .ok (.iload_n 1, 1) := by decide +kernel
theorem d_Th_reach_32 : decode b_Th_reach 32 = .ok (.iaload, 1) := by decide +kernel
theorem d_Th_reach_33 : decode b_Th_reach 33 = .ok (.iload_n 2, 1) := by decide +kernel
theorem d_Th_reach_34 : decode b_Th_reach 34 = .ok (.if_icmp .ne 4, 3) := by decide +kernel
theorem d_Th_reach_37 : decode b_Th_reach 37 = .ok (.return_, 1) := by decide +kernel
theorem d_Th_reach_38 : decode b_Th_reach 38 = .ok (.aload_n 0, 1) := by decide +kernel
theorem d_Th_reach_39 : decode b_Th_reach 39 = .ok (.getfield 40, 3) := by decide +kernel
theorem d_Th_reach_42 : decode b_Th_reach 42 = .ok (.iload_n 1, 1) := by decide +kernel
theorem d_Th_reach_43 : decode b_Th_reach 43 = .ok (.iload_n 2, 1) := by decide +kernel
theorem d_Th_reach_44 : decode b_Th_reach 44 = .ok (.iastore, 1) := by decide +kernel
theorem d_Th_reach_45 : decode b_Th_reach 45 = .ok (.aload_n 0, 1) := by decide +kernel
theorem d_Th_reach_46 : decode b_Th_reach 46 = .ok (.getfield 46, 3) := by decide +kernel
theorem d_Th_reach_49 : decode b_Th_reach 49 = .ok (.iload_n 3, 1) := by decide +kernel
theorem d_Th_reach_50 : decode b_Th_reach 50 = .ok (.iload_n 1, 1) := by decide +kernel
theorem d_Th_reach_51 : decode b_Th_reach 51 = .ok (.iastore, 1) := by decide +kernel
theorem d_Th_reach_52 : decode b_Th_reach 52 = .ok (.aload_n 0, 1) := by decide +kernel
theorem d_Th_reach_53 : decode b_Th_reach 53 = .ok (.iload_n 3, 1) := by decide +kernel
theorem d_Th_reach_54 : decode b_Th_reach 54 = .ok (.iconst 1, 1) := by decide +kernel
theorem d_Th_reach_55 : decode b_Th_reach 55 = .ok (.iadd, 1) := by decide +kernel
theorem d_Th_reach_56 : decode b_Th_reach 56 = .ok (.putfield 56, 3) := by decide +kernel
theorem d_Th_reach_59 : decode b_Th_reach 59 = .ok (.return_, 1) := by decide +kernel
theorem d_Pl_outerOf_0 : decode b_Pl_outerOf 0 = .ok (.aload_n 0, 1) := by decide +kernel
theorem d_Pl_outerOf_1 : decode b_Pl_outerOf 1 = .ok (.iload_n 1, 1) := by decide +kernel
theorem d_Pl_outerOf_2 : decode b_Pl_outerOf 2 = .ok (.invokevirtual 25, 3) := by decide +kernel
theorem d_Pl_outerOf_5 : decode b_Pl_outerOf 5 = .ok (.ifCond .eq 12, 3) := by decide +kernel
theorem d_Pl_outerOf_8 : decode b_Pl_outerOf 8 = .ok (.aload_n 0, 1) := by decide +kernel
theorem d_Pl_outerOf_9 : decode b_Pl_outerOf 9 = .ok (.getfield 15, 3) := by decide +kernel
theorem d_Pl_outerOf_12 : decode b_Pl_outerOf 12 = .ok (.iload_n 1, 1) := by decide +kernel
theorem d_Pl_outerOf_13 : decode b_Pl_outerOf 13 = .ok (.iaload, 1) := by decide +kernel
theorem d_Pl_outerOf_14 : decode b_Pl_outerOf 14 = .ok (.goto 4, 3) := by decide +kernel
theorem d_Pl_outerOf_17 : decode b_Pl_outerOf 17 = .ok (.iconst (-1), 1) := by decide +kernel
theorem d_Pl_outerOf_18 : decode b_Pl_outerOf 18 = .ok (.ireturn, 1) := by decide +kernel
theorem d_Wa_reachPlaces_0 : decode b_Wa_reachPlaces 0 = .ok (.iload_n 1, 1) := by decide +kernel
theorem d_Wa_reachPlaces_1 : decode b_Wa_reachPlaces 1 = .ok (.istore_n 2, 1) := by decide +kernel
theorem d_Wa_reachPlaces_2 : decode b_Wa_reachPlaces 2 = .ok (.iconst 0, 1) := by decide +kernel
theorem d_Wa_reachPlaces_3 : decode b_Wa_reachPlaces 3 = .ok (.istore_n 3, 1) := by decide +kernel
theorem d_Wa_reachPlaces_4 : decode b_Wa_reachPlaces 4 = .ok (.iload_n 3, 1) := by decide +kernel
theorem d_Wa_reachPlaces_5 : decode b_Wa_reachPlaces 5 = .ok (.sipush 1000, 3) := by decide +kernel
theorem d_Wa_reachPlaces_8 : decode b_Wa_reachPlaces 8 = .ok (.if_icmp .ge 52, 3) := by decide +kernel
theorem d_Wa_reachPlaces_11 : decode b_Wa_reachPlaces 11 = .ok (.aload_n 0, 1) := by decide +kernel
theorem d_Wa_reachPlaces_12 : decode b_Wa_reachPlaces 12 = .ok (.getfield 21, 3) := by decide +kernel
theorem d_Wa_reachPlaces_15 : decode b_Wa_reachPlaces 15 = .ok (.iload_n 2, 1) := by decide +kernel
theorem d_Wa_reachPlaces_16 : decode b_Wa_reachPlaces 16 = .ok (.aload_n 0, 1) := by decide +kernel
theorem d_Wa_reachPlaces_17 : decode b_Wa_reachPlaces 17 = .ok (.getfield 81, 3) := by decide +kernel
theorem d_Wa_reachPlaces_20 : decode b_Wa_reachPlaces 20 = .ok (.invokevirtual 299, 3) := by decide +kernel
theorem d_Wa_reachPlaces_23 : decode b_Wa_reachPlaces 23 = .ok (.ifCond .eq 37, 3) := by decide +kernel
theorem d_Wa_reachPlaces_26 : decode b_Wa_reachPlaces 26 = .ok (.aload_n 0, 1) := by decide +kernel
theorem d_Wa_reachPlaces_27 : decode b_Wa_reachPlaces 27 = .ok (.getfield 28, 3) := by decide +kernel
theorem d_Wa_reachPlaces_30 : decode b_Wa_reachPlaces 30 = .ok (.aload_n 0, 1) := by decide +kernel
theorem d_Wa_reachPlaces_31 : decode b_Wa_reachPlaces 31 = .ok (.getfield 21, 3) := by decide +kernel
theorem d_Wa_reachPlaces_34 : decode b_Wa_reachPlaces 34 = .ok (.iload_n 2, 1) := by decide +kernel
theorem d_Wa_reachPlaces_35 : decode b_Wa_reachPlaces 35 = .ok (.invokevirtual 303, 3) := by decide +kernel
theorem d_Wa_reachPlaces_38 : decode b_Wa_reachPlaces 38 = .ok (.aload_n 0, 1) := by decide +kernel
theorem d_Wa_reachPlaces_39 : decode b_Wa_reachPlaces 39 = .ok (.getfield 81, 3) := by decide +kernel
theorem d_Wa_reachPlaces_42 : decode b_Wa_reachPlaces 42 = .ok (.invokevirtual 287, 3) := by decide +kernel
theorem d_Wa_reachPlaces_45 : decode b_Wa_reachPlaces 45 = .ok (.aload_n 0, 1) := by decide +kernel
theorem d_Wa_reachPlaces_46 : decode b_Wa_reachPlaces 46 = .ok (.getfield 21, 3) := by decide +kernel
theorem d_Wa_reachPlaces_49 : decode b_Wa_reachPlaces 49 = .ok (.iload_n 2, 1) := by decide +kernel
theorem d_Wa_reachPlaces_50 : decode b_Wa_reachPlaces 50 = .ok (.invokevirtual 306, 3) := by decide +kernel
theorem d_Wa_reachPlaces_53 : decode b_Wa_reachPlaces 53 = .ok (.istore_n 2, 1) := by decide +kernel
theorem d_Wa_reachPlaces_54 : decode b_Wa_reachPlaces 54 = .ok (.iinc 3 1, 3) := by decide +kernel
theorem d_Wa_reachPlaces_57 : decode b_Wa_reachPlaces 57 = .ok (.goto (-53), 3) := by decide +kernel
theorem d_Wa_reachPlaces_60 : decode b_Wa_reachPlaces 60 = .ok (.return_, 1) := by decide +kernel
theorem d_Wa_reachOfValue_0 : decode b_Wa_reachOfValue 0 = .ok (.iload_n 1, 1) := by decide +kernel
theorem d_Wa_reachOfValue_1 : decode b_Wa_reachOfValue 1 = .ok (.iconst 1, 1) := by decide +kernel
theorem d_Wa_reachOfValue_2 : decode b_Wa_reachOfValue 2 = .ok (.if_icmp .ne 11, 3) := by decide +kernel
theorem d_Wa_reachOfValue_5 : decode b_Wa_reachOfValue 5 = .ok (.aload_n 0, 1) := by decide +kernel
theorem d_Wa_reachOfValue_6 : decode b_Wa_reachOfValue 6 = .ok (.iload_n 3, 1) := by decide +kernel
theorem d_Wa_reachOfValue_7 : decode b_Wa_reachOfValue 7 = .ok (.invokevirtual 280, 3) := by decide +kernel
theorem d_Wa_reachOfValue_10 : decode b_Wa_reachOfValue 10 = .ok (.goto 32, 3) := by decide +kernel
theorem d_Wa_reachOfValue_13 : decode b_Wa_reachOfValue 13 = .ok (.iload_n 1, 1) := by decide +kernel
theorem d_Wa_reachOfValue_14 : decode b_Wa_reachOfValue 14 = .ok (.iconst 2, 1) := by decide +kernel
theorem d_Wa_reachOfValue_15 : decode b_Wa_reachOfValue 15 = .ok (.if_icmp .ne 27, 3) := by decide +kernel
theorem d_Wa_reachOfValue_18 : decode b_Wa_reachOfValue 18 = .ok (.aload_n 0, 1) := by decide +kernel
theorem d_Wa_reachOfValue_19 : decode b_Wa_reachOfValue 19 = .ok (.getfield 28, 3) := by decide +kernel
theorem d_Wa_reachOfValue_22 : decode b_Wa_reachOfValue 22 = .ok (.iload_n 2, 1) := by decide +kernel
theorem d_Wa_reachOfValue_23 : decode b_Wa_reachOfValue 23 = .ok (.aload_n 0, 1) := by decide +kernel
theorem d_Wa_reachOfValue_24 : decode b_Wa_reachOfValue 24 = .ok (.getfield 81, 3) := by decide +kernel
theorem d_Wa_reachOfValue_27 : decode b_Wa_reachOfValue 27 = .ok (.invokevirtual 287, 3) := by decide +kernel
theorem d_Wa_reachOfValue_30 : decode b_Wa_reachOfValue 30 = .ok (.aload_n 0, 1) := by decide +kernel
theorem d_Wa_reachOfValue_31 : decode b_Wa_reachOfValue 31 = .ok (.getfield 28, 3) := by decide +kernel
theorem d_Wa_reachOfValue_34 : decode b_Wa_reachOfValue 34 = .ok (.iload_n 3, 1) := by decide +kernel
theorem d_Wa_reachOfValue_35 : decode b_Wa_reachOfValue 35 = .ok (.aload_n 0, 1) := by decide +kernel
theorem d_Wa_reachOfValue_36 : decode b_Wa_reachOfValue 36 = .ok (.getfield 81, 3) := by decide +kernel
theorem d_Wa_reachOfValue_39 : decode b_Wa_reachOfValue 39 = .ok (.invokevirtual 287, 3) := by decide +kernel
theorem d_Wa_reachOfValue_42 : decode b_Wa_reachOfValue 42 = .ok (.return_, 1) := by decide +kernel
theorem d_Wa_reachFromHand_0 : decode b_Wa_reachFromHand 0 = .ok (.aload_n 0, 1) := by decide +kernel
theorem d_Wa_reachFromHand_1 : decode b_Wa_reachFromHand 1 = .ok (.getfield 54, 3) := by decide +kernel
theorem d_Wa_reachFromHand_4 : decode b_Wa_reachFromHand 4 = .ok (.ifCond .ne 14, 3) := by decide +kernel
theorem d_Wa_reachFromHand_7 : decode b_Wa_reachFromHand 7 = .ok (.aload_n 0, 1) := by decide +kernel
theorem d_Wa_reachFromHand_8 : decode b_Wa_reachFromHand 8 = .ok (.aload_n 0, 1) := by decide +kernel
theorem d_Wa_reachFromHand_9 : decode b_Wa_reachFromHand 9 = .ok (.getfield 60, 3) := by decide +kernel
theorem d_Wa_reachFromHand_12 : decode b_Wa_reachFromHand 12 = .ok (.invokevirtual 280, 3) := by decide +kernel
theorem d_Wa_reachFromHand_15 : decode b_Wa_reachFromHand 15 = .ok (.goto 54, 3) := by decide +kernel
theorem d_Wa_reachFromHand_18 : decode b_Wa_reachFromHand 18 = .ok (.aload_n 0, 1) := by decide +kernel
theorem d_Wa_reachFromHand_19 : decode b_Wa_reachFromHand 19 = .ok (.getfield 54, 3) := by decide +kernel
theorem d_Wa_reachFromHand_22 : decode b_Wa_reachFromHand 22 = .ok (.iconst 1, 1) := by decide +kernel
theorem d_Wa_reachFromHand_23 : decode b_Wa_reachFromHand 23 = .ok (.if_icmp .ne 31, 3) := by decide +kernel
theorem d_Wa_reachFromHand_26 : decode b_Wa_reachFromHand 26 = .ok (.aload_n 0, 1) := by decide +kernel
theorem d_Wa_reachFromHand_27 : decode b_Wa_reachFromHand 27 = .ok (.aload_n 0, 1) := by decide +kernel
theorem d_Wa_reachFromHand_28 : decode b_Wa_reachFromHand 28 = .ok (.getfield 42, 3) := by decide +kernel
theorem d_Wa_reachFromHand_31 : decode b_Wa_reachFromHand 31 = .ok (.getfield 248, 3) := by decide +kernel
theorem d_Wa_reachFromHand_34 : decode b_Wa_reachFromHand 34 = .ok (.aload_n 0, 1) := by decide +kernel
theorem d_Wa_reachFromHand_35 : decode b_Wa_reachFromHand 35 = .ok (.getfield 42, 3) := by decide +kernel
theorem d_Wa_reachFromHand_38 : decode b_Wa_reachFromHand 38 = .ok (.getfield 239, 3) := by decide +kernel
theorem d_Wa_reachFromHand_41 : decode b_Wa_reachFromHand 41 = .ok (.aload_n 0, 1) := by decide +kernel
theorem d_Wa_reachFromHand_42 : decode b_Wa_reachFromHand 42 = .ok (.getfield 42, 3) := by decide +kernel
theorem d_Wa_reachFromHand_45 : decode b_Wa_reachFromHand 45 = .ok (.getfield 245, 3) := by decide +kernel
theorem d_Wa_reachFromHand_48 : decode b_Wa_reachFromHand 48 = .ok (.invokevirtual 283, 3) := by decide +kernel
theorem d_Wa_reachFromHand_51 : decode b_Wa_reachFromHand 51 = .ok (.goto 18, 3) := by decide +kernel
theorem d_Wa_reachFromHand_54 : decode b_Wa_reachFromHand 54 = .ok (.aload_n 0, 1) := by decide +kernel
theorem d_Wa_reachFromHand_55 : decode b_Wa_reachFromHand 55 = .ok (.getfield 28, 3) := by decide +kernel
theorem d_Wa_reachFromHand_58 : decode b_Wa_reachFromHand 58 = .ok (.aload_n 0, 1) := by decide +kernel
theorem d_Wa_reachFromHand_59 : decode b_Wa_reachFromHand 59 = .ok (.getfield 63, 3) := by decide +kernel
theorem d_Wa_reachFromHand_62 : decode b_Wa_reachFromHand 62 = .ok (.aload_n 0, 1) := by decide +kernel
theorem d_Wa_reachFromHand_63 : decode b_Wa_reachFromHand 63 = .ok (.getfield 81, 3) := by decide +kernel
theorem d_Wa_reachFromHand_66 : decode b_Wa_reachFromHand 66 = .ok (.invokevirtual 287, 3) := by decide +kernel
theorem d_Wa_reachFromHand_69 : decode b_Wa_reachFromHand 69 = .ok (.return_, 1) := by decide +kernel
theorem d_Ro_has_0 : decode b_Ro_has 0 = .ok (.iload_n 1, 1) := by decide +kernel
theorem d_Ro_has_1 : decode b_Ro_has 1 = .ok (.ifCond .lt 22, 3) := by decide +kernel
theorem d_Ro_has_4 : decode b_Ro_has 4 = .ok (.iload_n 1, 1) := by decide +kernel
theorem d_Ro_has_5 : decode b_Ro_has 5 = .ok (.aload_n 0, 1) := by decide +kernel
theorem d_Ro_has_6 : decode b_Ro_has 6 = .ok (.getfield 25, 3) := by decide +kernel
theorem d_Ro_has_9 : decode b_Ro_has 9 = .ok (.if_icmp .ge 14, 3) := by decide +kernel
theorem d_Ro_has_12 : decode b_Ro_has 12 = .ok (.iload_n 1, 1) := by decide +kernel
theorem d_Ro_has_13 : decode b_Ro_has 13 = .ok (.sipush 300, 3) := by decide +kernel
theorem d_Ro_has_16 : decode b_Ro_has 16 = .ok (.if_icmp .ge 7, 3) := by decide +kernel
theorem d_Ro_has_19 : decode b_Ro_has 19 = .ok (.iconst 1, 1) := by decide +kernel
theorem d_Ro_has_20 : decode b_Ro_has 20 = .ok (.goto 4, 3) := by decide +kernel
theorem d_Ro_has_23 : decode b_Ro_has 23 = .ok (.iconst 0, 1) := by decide +kernel
theorem d_Ro_has_24 : decode b_Ro_has 24 = .ok (.ireturn, 1) := by decide +kernel
theorem d_Ro_kindOf_0 : decode b_Ro_kindOf 0 = .ok (.aload_n 0, 1) := by decide +kernel
theorem d_Ro_kindOf_1 : decode b_Ro_kindOf 1 = .ok (.iload_n 1, 1) := by decide +kernel
theorem d_Ro_kindOf_2 : decode b_Ro_kindOf 2 = .ok (.invokevirtual 32, 3) := by decide +kernel
theorem d_Ro_kindOf_5 : decode b_Ro_kindOf 5 = .ok (.ifCond .eq 12, 3) := by decide +kernel
theorem d_Ro_kindOf_8 : decode b_Ro_kindOf 8 = .ok (.aload_n 0, 1) := by decide +kernel
theorem d_Ro_kindOf_9 : decode b_Ro_kindOf 9 = .ok (.getfield 9, 3) := by decide +kernel
theorem d_Ro_kindOf_12 : decode b_Ro_kindOf 12 = .ok (.iload_n 1, 1) := by decide +kernel
theorem d_Ro_kindOf_13 : decode b_Ro_kindOf 13 = .ok (.iaload, 1) := by decide +kernel
theorem d_Ro_kindOf_14 : decode b_Ro_kindOf 14 = .ok (.goto 4, 3) := by decide +kernel
theorem d_Ro_kindOf_17 : decode b_Ro_kindOf 17 = .ok (.iconst (-1), 1) := by decide +kernel
theorem d_Ro_kindOf_18 : decode b_Ro_kindOf 18 = .ok (.ireturn, 1) := by decide +kernel
theorem d_Ro_firstOf_0 : decode b_Ro_firstOf 0 = .ok (.aload_n 0, 1) := by decide +kernel
theorem d_Ro_firstOf_1 : decode b_Ro_firstOf 1 = .ok (.iload_n 1, 1) := by decide +kernel
theorem d_Ro_firstOf_2 : decode b_Ro_firstOf 2 = .ok (.invokevirtual 32, 3) := by decide +kernel
theorem d_Ro_firstOf_5 : decode b_Ro_firstOf 5 = .ok (.ifCond .eq 12, 3) := by decide +kernel
theorem d_Ro_firstOf_8 : decode b_Ro_firstOf 8 = .ok (.aload_n 0, 1) := by decide +kernel
theorem d_Ro_firstOf_9 : decode b_Ro_firstOf 9 = .ok (.getfield 15, 3) := by decide +kernel
theorem d_Ro_firstOf_12 : decode b_Ro_firstOf 12 = .ok (.iload_n 1, 1) := by decide +kernel
theorem d_Ro_firstOf_13 : decode b_Ro_firstOf 13 = .ok (.iaload, 1) := by decide +kernel
theorem d_Ro_firstOf_14 : decode b_Ro_firstOf 14 = .ok (.goto 4, 3) := by decide +kernel
theorem d_Ro_firstOf_17 : decode b_Ro_firstOf 17 = .ok (.iconst (-1), 1) := by decide +kernel
theorem d_Ro_firstOf_18 : decode b_Ro_firstOf 18 = .ok (.ireturn, 1) := by decide +kernel
theorem d_Ro_secondOf_0 : decode b_Ro_secondOf 0 = .ok (.aload_n 0, 1) := by decide +kernel
theorem d_Ro_secondOf_1 : decode b_Ro_secondOf 1 = .ok (.iload_n 1, 1) := by decide +kernel
theorem d_Ro_secondOf_2 : decode b_Ro_secondOf 2 = .ok (.invokevirtual 32, 3) := by decide +kernel
theorem d_Ro_secondOf_5 : decode b_Ro_secondOf 5 = .ok (.ifCond .eq 12, 3) := by decide +kernel
theorem d_Ro_secondOf_8 : decode b_Ro_secondOf 8 = .ok (.aload_n 0, 1) := by decide +kernel
theorem d_Ro_secondOf_9 : decode b_Ro_secondOf 9 = .ok (.getfield 18, 3) := by decide +kernel
theorem d_Ro_secondOf_12 : decode b_Ro_secondOf 12 = .ok (.iload_n 1, 1) := by decide +kernel
theorem d_Ro_secondOf_13 : decode b_Ro_secondOf 13 = .ok (.iaload, 1) := by decide +kernel
theorem d_Ro_secondOf_14 : decode b_Ro_secondOf 14 = .ok (.goto 4, 3) := by decide +kernel
theorem d_Ro_secondOf_17 : decode b_Ro_secondOf 17 = .ok (.iconst (-1), 1) := by decide +kernel
theorem d_Ro_secondOf_18 : decode b_Ro_secondOf 18 = .ok (.ireturn, 1) := by decide +kernel
theorem d_Wa_reachFromRow_0 : decode b_Wa_reachFromRow 0 = .ok (.iconst 0, 1) := by decide +kernel
theorem d_Wa_reachFromRow_1 : decode b_Wa_reachFromRow 1 = .ok (.istore_n 1, 1) := by decide +kernel
theorem d_Wa_reachFromRow_2 : decode b_Wa_reachFromRow 2 = .ok (.iload_n 1, 1) := by decide +kernel
theorem d_Wa_reachFromRow_3 : decode b_Wa_reachFromRow 3 = .ok (.aload_n 0, 1) := by decide +kernel
theorem d_Wa_reachFromRow_4 : decode b_Wa_reachFromRow 4 = .ok (.getfield 35, 3) := by decide +kernel
theorem d_Wa_reachFromRow_7 : decode b_Wa_reachFromRow 7 = .ok (.getfield 111, 3) := by decide +kernel
theorem d_Wa_reachFromRow_10 : decode b_Wa_reachFromRow 10 = .ok (.if_icmp .ge 89, 3) := by decide +kernel
theorem d_Wa_reachFromRow_13 : decode b_Wa_reachFromRow 13 = .ok (.aload_n 0, 1) := by decide +kernel
theorem d_Wa_reachFromRow_14 : decode b_Wa_reachFromRow 14 = .ok (.getfield 35, 3) := by decide +kernel
theorem d_Wa_reachFromRow_17 : decode b_Wa_reachFromRow 17 = .ok (.iload_n 1, 1) := by decide +kernel
theorem d_Wa_reachFromRow_18 : decode b_Wa_reachFromRow 18 = .ok (.invokevirtual 124, 3) := by decide +kernel
theorem d_Wa_reachFromRow_21 : decode b_Wa_reachFromRow 21 = .ok (.tableswitch 72 0 4 #[35, 35, 57, 72, 57], 35) := by decide +kernel
theorem d_Wa_reachFromRow_56 : decode b_Wa_reachFromRow 56 = .ok (.aload_n 0, 1) := by decide +kernel
theorem d_Wa_reachFromRow_57 : decode b_Wa_reachFromRow 57 = .ok (.getfield 28, 3) := by decide +kernel
theorem d_Wa_reachFromRow_60 : decode b_Wa_reachFromRow 60 = .ok (.aload_n 0, 1) := by decide +kernel
theorem d_Wa_reachFromRow_61 : decode b_Wa_reachFromRow 61 = .ok (.getfield 35, 3) := by decide +kernel
theorem d_Wa_reachFromRow_64 : decode b_Wa_reachFromRow 64 = .ok (.iload_n 1, 1) := by decide +kernel
theorem d_Wa_reachFromRow_65 : decode b_Wa_reachFromRow 65 = .ok (.invokevirtual 128, 3) := by decide +kernel
theorem d_Wa_reachFromRow_68 : decode b_Wa_reachFromRow 68 = .ok (.aload_n 0, 1) := by decide +kernel
theorem d_Wa_reachFromRow_69 : decode b_Wa_reachFromRow 69 = .ok (.getfield 81, 3) := by decide +kernel
theorem d_Wa_reachFromRow_72 : decode b_Wa_reachFromRow 72 = .ok (.invokevirtual 287, 3) := by decide +kernel
theorem d_Wa_reachFromRow_75 : decode b_Wa_reachFromRow 75 = .ok (.goto 18, 3) := by decide +kernel
theorem d_Wa_reachFromRow_78 : decode b_Wa_reachFromRow 78 = .ok (.aload_n 0, 1) := by decide +kernel
theorem d_Wa_reachFromRow_79 : decode b_Wa_reachFromRow 79 = .ok (.aload_n 0, 1) := by decide +kernel
theorem d_Wa_reachFromRow_80 : decode b_Wa_reachFromRow 80 = .ok (.getfield 35, 3) := by decide +kernel
theorem d_Wa_reachFromRow_83 : decode b_Wa_reachFromRow 83 = .ok (.iload_n 1, 1) := by decide +kernel
theorem d_Wa_reachFromRow_84 : decode b_Wa_reachFromRow 84 = .ok (.invokevirtual 224, 3) := by decide +kernel
theorem d_Wa_reachFromRow_87 : decode b_Wa_reachFromRow 87 = .ok (.invokevirtual 280, 3) := by decide +kernel
theorem d_Wa_reachFromRow_90 : decode b_Wa_reachFromRow 90 = .ok (.goto 3, 3) := by decide +kernel
theorem d_Wa_reachFromRow_93 : decode b_Wa_reachFromRow 93 = .ok (.iinc 1 1, 3) := by decide +kernel
theorem d_Wa_reachFromRow_96 : decode b_Wa_reachFromRow 96 = .ok (.goto (-94), 3) := by decide +kernel
theorem d_Wa_reachFromRow_99 : decode b_Wa_reachFromRow 99 = .ok (.return_, 1) := by decide +kernel
theorem d_Th_reachedAt_0 : decode b_Th_reachedAt 0 = .ok (.iload_n 1, 1) := by decide +kernel
theorem d_Th_reachedAt_1 : decode b_Th_reachedAt 1 = .ok (.ifCond .lt 27, 3) := by decide +kernel
theorem d_Th_reachedAt_4 : decode b_Th_reachedAt 4 = .ok (.iload_n 1, 1) := by decide +kernel
theorem d_Th_reachedAt_5 : decode b_Th_reachedAt 5 = .ok (.aload_n 0, 1) := by decide +kernel
theorem d_Th_reachedAt_6 : decode b_Th_reachedAt 6 = .ok (.getfield 56, 3) := by decide +kernel
theorem d_Th_reachedAt_9 : decode b_Th_reachedAt 9 = .ok (.if_icmp .ge 19, 3) := by decide +kernel
theorem d_Th_reachedAt_12 : decode b_Th_reachedAt 12 = .ok (.iload_n 1, 1) := by decide +kernel
theorem d_Th_reachedAt_13 : decode b_Th_reachedAt 13 = .ok (.sipush 300, 3) := by decide +kernel
theorem d_Th_reachedAt_16 : decode b_Th_reachedAt 16 = .ok (.if_icmp .ge 12, 3) := by decide +kernel
theorem d_Th_reachedAt_19 : decode b_Th_reachedAt 19 = .ok (.aload_n 0, 1) := by decide +kernel
theorem d_Th_reachedAt_20 : decode b_Th_reachedAt 20 = .ok (.getfield 46, 3) := by decide +kernel
theorem d_Th_reachedAt_23 : decode b_Th_reachedAt 23 = .ok (.iload_n 1, 1) := by decide +kernel
theorem d_Th_reachedAt_24 : decode b_Th_reachedAt 24 = .ok (.iaload, 1) := by decide +kernel
theorem d_Th_reachedAt_25 : decode b_Th_reachedAt 25 = .ok (.goto 4, 3) := by decide +kernel
theorem d_Th_reachedAt_28 : decode b_Th_reachedAt 28 = .ok (.iconst (-1), 1) := by decide +kernel
theorem d_Th_reachedAt_29 : decode b_Th_reachedAt 29 = .ok (.ireturn, 1) := by decide +kernel
theorem d_Th_has_0 : decode b_Th_has 0 = .ok (.iload_n 1, 1) := by decide +kernel
theorem d_Th_has_1 : decode b_Th_has 1 = .ok (.ifCond .lt 22, 3) := by decide +kernel
theorem d_Th_has_4 : decode b_Th_has 4 = .ok (.iload_n 1, 1) := by decide +kernel
theorem d_Th_has_5 : decode b_Th_has 5 = .ok (.aload_n 0, 1) := by decide +kernel
theorem d_Th_has_6 : decode b_Th_has 6 = .ok (.getfield 49, 3) := by decide +kernel
theorem d_Th_has_9 : decode b_Th_has 9 = .ok (.if_icmp .ge 14, 3) := by decide +kernel
theorem d_Th_has_12 : decode b_Th_has 12 = .ok (.iload_n 1, 1) := by decide +kernel
theorem d_Th_has_13 : decode b_Th_has 13 = .ok (.sipush 1000, 3) := by decide +kernel
theorem d_Th_has_16 : decode b_Th_has 16 = .ok (.if_icmp .ge 7, 3) := by decide +kernel
theorem d_Th_has_19 : decode b_Th_has 19 = .ok (.iconst 1, 1) := by decide +kernel
theorem d_Th_has_20 : decode b_Th_has 20 = .ok (.goto 4, 3) := by decide +kernel
theorem d_Th_has_23 : decode b_Th_has 23 = .ok (.iconst 0, 1) := by decide +kernel
theorem d_Th_has_24 : decode b_Th_has 24 = .ok (.ireturn, 1) := by decide +kernel
theorem d_Th_stateOf_0 : decode b_Th_stateOf 0 = .ok (.aload_n 0, 1) := by decide +kernel
theorem d_Th_stateOf_1 : decode b_Th_stateOf 1 = .ok (.iload_n 1, 1) := by decide +kernel
theorem d_Th_stateOf_2 : decode b_Th_stateOf 2 = .ok (.invokevirtual 59, 3) := by decide +kernel
theorem d_Th_stateOf_5 : decode b_Th_stateOf 5 = .ok (.ifCond .eq 12, 3) := by decide +kernel
theorem d_Th_stateOf_8 : decode b_Th_stateOf 8 = .ok (.aload_n 0, 1) := by decide +kernel
theorem d_Th_stateOf_9 : decode b_Th_stateOf 9 = .ok (.getfield 9, 3) := by decide +kernel
theorem d_Th_stateOf_12 : decode b_Th_stateOf 12 = .ok (.iload_n 1, 1) := by decide +kernel
theorem d_Th_stateOf_13 : decode b_Th_stateOf 13 = .ok (.iaload, 1) := by decide +kernel
theorem d_Th_stateOf_14 : decode b_Th_stateOf 14 = .ok (.goto 4, 3) := by decide +kernel
theorem d_Th_stateOf_17 : decode b_Th_stateOf 17 = .ok (.iconst 3, 1) := by decide +kernel
theorem d_Th_stateOf_18 : decode b_Th_stateOf 18 = .ok (.ireturn, 1) := by decide +kernel
theorem d_Th_placesOf_0 : decode b_Th_placesOf 0 = .ok (.aload_n 0, 1) := by decide +kernel
theorem d_Th_placesOf_1 : decode b_Th_placesOf 1 = .ok (.iload_n 1, 1) := by decide +kernel
theorem d_Th_placesOf_2 : decode b_Th_placesOf 2 = .ok (.invokevirtual 59, 3) := by decide +kernel
theorem d_Th_placesOf_5 : decode b_Th_placesOf 5 = .ok (.ifCond .eq 12, 3) := by decide +kernel
theorem d_Th_placesOf_8 : decode b_Th_placesOf 8 = .ok (.aload_n 0, 1) := by decide +kernel
theorem d_Th_placesOf_9 : decode b_Th_placesOf 9 = .ok (.getfield 18, 3) := by decide +kernel
theorem d_Th_placesOf_12 : decode b_Th_placesOf 12 = .ok (.iload_n 1, 1) := by decide +kernel
theorem d_Th_placesOf_13 : decode b_Th_placesOf 13 = .ok (.iaload, 1) := by decide +kernel
theorem d_Th_placesOf_14 : decode b_Th_placesOf 14 = .ok (.goto 4, 3) := by decide +kernel
theorem d_Th_placesOf_17 : decode b_Th_placesOf 17 = .ok (.iconst (-1), 1) := by decide +kernel
theorem d_Th_placesOf_18 : decode b_Th_placesOf 18 = .ok (.ireturn, 1) := by decide +kernel
theorem d_Th_valueSortOf_0 : decode b_Th_valueSortOf 0 = .ok (.aload_n 0, 1) := by decide +kernel
theorem d_Th_valueSortOf_1 : decode b_Th_valueSortOf 1 = .ok (.iload_n 1, 1) := by decide +kernel
theorem d_Th_valueSortOf_2 : decode b_Th_valueSortOf 2 = .ok (.invokevirtual 59, 3) := by decide +kernel
theorem d_Th_valueSortOf_5 : decode b_Th_valueSortOf 5 = .ok (.ifCond .eq 12, 3) := by decide +kernel
theorem d_Th_valueSortOf_8 : decode b_Th_valueSortOf 8 = .ok (.aload_n 0, 1) := by decide +kernel
theorem d_Th_valueSortOf_9 : decode b_Th_valueSortOf 9 = .ok (.getfield 27, 3) := by decide +kernel
theorem d_Th_valueSortOf_12 : decode b_Th_valueSortOf 12 = .ok (.iload_n 1, 1) := by decide +kernel
theorem d_Th_valueSortOf_13 : decode b_Th_valueSortOf 13 = .ok (.iaload, 1) := by decide +kernel
theorem d_Th_valueSortOf_14 : decode b_Th_valueSortOf 14 = .ok (.goto 4, 3) := by decide +kernel
theorem d_Th_valueSortOf_17 : decode b_Th_valueSortOf 17 = .ok (.iconst (-1), 1) := by decide +kernel
theorem d_Th_valueSortOf_18 : decode b_Th_valueSortOf 18 = .ok (.ireturn, 1) := by decide +kernel
theorem d_Th_valueFirstOf_0 : decode b_Th_valueFirstOf 0 = .ok (.aload_n 0, 1) := by decide +kernel
theorem d_Th_valueFirstOf_1 : decode b_Th_valueFirstOf 1 = .ok (.iload_n 1, 1) := by decide +kernel
theorem d_Th_valueFirstOf_2 : decode b_Th_valueFirstOf 2 = .ok (.invokevirtual 59, 3) := by decide +kernel
theorem d_Th_valueFirstOf_5 : decode b_Th_valueFirstOf 5 = .ok (.ifCond .eq 12, 3) := by decide +kernel
theorem d_Th_valueFirstOf_8 : decode b_Th_valueFirstOf 8 = .ok (.aload_n 0, 1) := by decide +kernel
theorem d_Th_valueFirstOf_9 : decode b_Th_valueFirstOf 9 = .ok (.getfield 34, 3) := by decide +kernel
theorem d_Th_valueFirstOf_12 : decode b_Th_valueFirstOf 12 = .ok (.iload_n 1, 1) := by decide +kernel
theorem d_Th_valueFirstOf_13 : decode b_Th_valueFirstOf 13 = .ok (.iaload, 1) := by decide +kernel
theorem d_Th_valueFirstOf_14 : decode b_Th_valueFirstOf 14 = .ok (.goto 4, 3) := by decide +kernel
theorem d_Th_valueFirstOf_17 : decode b_Th_valueFirstOf 17 = .ok (.iconst (-1), 1) := by decide +kernel
theorem d_Th_valueFirstOf_18 : decode b_Th_valueFirstOf 18 = .ok (.ireturn, 1) := by decide +kernel
theorem d_Th_valueSecondOf_0 : decode b_Th_valueSecondOf 0 = .ok (.aload_n 0, 1) := by decide +kernel
theorem d_Th_valueSecondOf_1 : decode b_Th_valueSecondOf 1 = .ok (.iload_n 1, 1) := by decide +kernel
theorem d_Th_valueSecondOf_2 : decode b_Th_valueSecondOf 2 = .ok (.invokevirtual 59, 3) := by decide +kernel
theorem d_Th_valueSecondOf_5 : decode b_Th_valueSecondOf 5 = .ok (.ifCond .eq 12, 3) := by decide +kernel
theorem d_Th_valueSecondOf_8 : decode b_Th_valueSecondOf 8 = .ok (.aload_n 0, 1) := by decide +kernel
theorem d_Th_valueSecondOf_9 : decode b_Th_valueSecondOf 9 = .ok (.getfield 37, 3) := by decide +kernel
theorem d_Th_valueSecondOf_12 : decode b_Th_valueSecondOf 12 = .ok (.iload_n 1, 1) := by decide +kernel
theorem d_Th_valueSecondOf_13 : decode b_Th_valueSecondOf 13 = .ok (.iaload, 1) := by decide +kernel
theorem d_Th_valueSecondOf_14 : decode b_Th_valueSecondOf 14 = .ok (.goto 4, 3) := by decide +kernel
theorem d_Th_valueSecondOf_17 : decode b_Th_valueSecondOf 17 = .ok (.iconst (-1), 1) := by decide +kernel
theorem d_Th_valueSecondOf_18 : decode b_Th_valueSecondOf 18 = .ok (.ireturn, 1) := by decide +kernel
theorem d_Wa_reachFromThing_0 : decode b_Wa_reachFromThing 0 = .ok (.aload_n 0, 1) := by decide +kernel
theorem d_Wa_reachFromThing_1 : decode b_Wa_reachFromThing 1 = .ok (.getfield 28, 3) := by decide +kernel
theorem d_Wa_reachFromThing_4 : decode b_Wa_reachFromThing 4 = .ok (.iload_n 1, 1) := by decide +kernel
theorem d_Wa_reachFromThing_5 : decode b_Wa_reachFromThing 5 = .ok (.invokevirtual 187, 3) := by decide +kernel
theorem d_Wa_reachFromThing_8 : decode b_Wa_reachFromThing 8 = .ok (.istore_n 2, 1) := by decide +kernel
theorem d_Wa_reachFromThing_9 : decode b_Wa_reachFromThing 9 = .ok (.iload_n 2, 1) := by decide +kernel
theorem d_Wa_reachFromThing_10 : decode b_Wa_reachFromThing 10 = .ok (.ifCond .ne 18, 3) := by decide +kernel
theorem d_Wa_reachFromThing_13 : decode b_Wa_reachFromThing 13 = .ok (.aload_n 0, 1) := by decide +kernel
theorem d_Wa_reachFromThing_14 : decode b_Wa_reachFromThing 14 = .ok (.aload_n 0, 1) := by decide +kernel
theorem d_Wa_reachFromThing_15 : decode b_Wa_reachFromThing 15 = .ok (.getfield 28, 3) := by decide +kernel
theorem d_Wa_reachFromThing_18 : decode b_Wa_reachFromThing 18 = .ok (.iload_n 1, 1) := by decide +kernel
theorem d_Wa_reachFromThing_19 : decode b_Wa_reachFromThing 19 = .ok (.invokevirtual 212, 3) := by decide +kernel
theorem d_Wa_reachFromThing_22 : decode b_Wa_reachFromThing 22 = .ok (.invokevirtual 280, 3) := by decide +kernel
theorem d_Wa_reachFromThing_25 : decode b_Wa_reachFromThing 25 = .ok (.goto 36, 3) := by decide +kernel
theorem d_Wa_reachFromThing_28 : decode b_Wa_reachFromThing 28 = .ok (.iload_n 2, 1) := by decide +kernel
theorem d_Wa_reachFromThing_29 : decode b_Wa_reachFromThing 29 = .ok (.iconst 2, 1) := by decide +kernel
theorem d_Wa_reachFromThing_30 : decode b_Wa_reachFromThing 30 = .ok (.if_icmp .ne 31, 3) := by decide +kernel
theorem d_Wa_reachFromThing_33 : decode b_Wa_reachFromThing 33 = .ok (.aload_n 0, 1) := by decide +kernel
theorem d_Wa_reachFromThing_34 : decode b_Wa_reachFromThing 34 = .ok (.aload_n 0, 1) := by decide +kernel
theorem d_Wa_reachFromThing_35 : decode b_Wa_reachFromThing 35 = .ok (.getfield 28, 3) := by decide +kernel
theorem d_Wa_reachFromThing_38 : decode b_Wa_reachFromThing 38 = .ok (.iload_n 1, 1) := by decide +kernel
theorem d_Wa_reachFromThing_39 : decode b_Wa_reachFromThing 39 = .ok (.invokevirtual 290, 3) := by decide +kernel
theorem d_Wa_reachFromThing_42 : decode b_Wa_reachFromThing 42 = .ok (.aload_n 0, 1) := by decide +kernel
theorem d_Wa_reachFromThing_43 : decode b_Wa_reachFromThing 43 = .ok (.getfield 28, 3) := by decide +kernel
theorem d_Wa_reachFromThing_46 : decode b_Wa_reachFromThing 46 = .ok (.iload_n 1, 1) := by decide +kernel
theorem d_Wa_reachFromThing_47 : decode b_Wa_reachFromThing 47 = .ok (.invokevirtual 293, 3) := by decide +kernel
theorem d_Wa_reachFromThing_50 : decode b_Wa_reachFromThing 50 = .ok (.aload_n 0, 1) := by decide +kernel
theorem d_Wa_reachFromThing_51 : decode b_Wa_reachFromThing 51 = .ok (.getfield 28, 3) := by decide +kernel
theorem d_Wa_reachFromThing_54 : decode b_Wa_reachFromThing 54 = .ok (.iload_n 1, 1) := by decide +kernel
theorem d_Wa_reachFromThing_55 : decode b_Wa_reachFromThing 55 = .ok (.invokevirtual 296, 3) := by decide +kernel
theorem d_Wa_reachFromThing_58 : decode b_Wa_reachFromThing 58 = .ok (.invokevirtual 283, 3) := by decide +kernel
theorem d_Wa_reachFromThing_61 : decode b_Wa_reachFromThing 61 = .ok (.return_, 1) := by decide +kernel
theorem d_Th_keepReached_0 : decode b_Th_keepReached 0 = .ok (.iconst 0, 1) := by decide +kernel
theorem d_Th_keepReached_1 : decode b_Th_keepReached 1 = .ok (.istore_n 2, 1) := by decide +kernel
theorem d_Th_keepReached_2 : decode b_Th_keepReached 2 = .ok (.aload_n 0, 1) := by decide +kernel
theorem d_Th_keepReached_3 : decode b_Th_keepReached 3 = .ok (.getfield 53, 3) := by decide +kernel
theorem d_Th_keepReached_6 : decode b_Th_keepReached 6 = .ok (.istore_n 3, 1) := by decide +kernel
theorem d_Th_keepReached_7 : decode b_Th_keepReached 7 = .ok (.iconst 0, 1) := by decide +kernel
theorem d_Th_keepReached_8 : decode b_Th_keepReached 8 = .ok (.istore 4, 2) := by decide +kernel
theorem d_Th_keepReached_10 : decode b_Th_keepReached 10 = .ok (.iload 4, 2) := by decide +kernel
theorem d_Th_keepReached_12 : decode b_Th_keepReached 12 = .ok (.iload_n 3, 1) := by decide +kernel
theorem d_Th_keepReached_13 : decode b_Th_keepReached 13 = .ok (.if_icmp .ge 71, 3) := by decide +kernel
theorem d_Th_keepReached_16 : decode b_Th_keepReached 16 = .ok (.iload 4, 2) := by decide +kernel
theorem d_Th_keepReached_18 : decode b_Th_keepReached 18 = .ok (.sipush 300, 3) := by decide +kernel
theorem d_Th_keepReached_21 : decode b_Th_keepReached 21 = .ok (.if_icmp .ge 63, 3) := by decide +kernel
theorem d_Th_keepReached_24 : decode b_Th_keepReached 24 = .ok (.aload_n 0, 1) := by decide +kernel
theorem d_Th_keepReached_25 : decode b_Th_keepReached 25 = .ok (.getfield 43, 3) := by decide +kernel
theorem d_Th_keepReached_28 : decode b_Th_keepReached 28 = .ok (.iload 4, 2) := by decide +kernel
theorem d_Th_keepReached_30 : decode b_Th_keepReached 30 = .ok (.iaload, 1) := by decide +kernel
theorem d_Th_keepReached_31 : decode b_Th_keepReached 31 = .ok (.istore 5, 2) := by decide +kernel
theorem d_Th_keepReached_33 : decode b_Th_keepReached 33 = .ok (.aload_n 0, 1) := by decide +kernel
theorem d_Th_keepReached_34 : decode b_Th_keepReached 34 = .ok (.iload 5, 2) := by decide +kernel
theorem d_Th_keepReached_36 : decode b_Th_keepReached 36 = .ok (.invokevirtual 59, 3) := by decide +kernel
theorem d_Th_keepReached_39 : decode b_Th_keepReached 39 = .ok (.ifCond .ne 6, 3) := by decide +kernel
theorem d_Th_keepReached_42 : decode b_Th_keepReached 42 = .ok (.goto 36, 3) := by decide +kernel
theorem d_Th_keepReached_45 : decode b_Th_keepReached 45 = .ok (.aload_n 0, 1) := by decide +kernel
theorem d_Th_keepReached_46 : decode b_Th_keepReached 46 = .ok (.getfield 40, 3) := by decide +kernel
theorem d_Th_keepReached_49 : decode b_Th_keepReached 49 = .ok (.iload 5, 2) := by decide +kernel
theorem d_Th_keepReached_51 : decode b_Th_keepReached 51 = .ok (.iaload, 1) := by decide +kernel
theorem d_Th_keepReached_52 : decode b_Th_keepReached 52 = .ok (.iload_n 1, 1) := by decide +kernel
theorem d_Th_keepReached_53 : decode b_Th_keepReached 53 = .ok (.if_icmp .ne 17, 3) := by decide +kernel
theorem d_Th_keepReached_56 : decode b_Th_keepReached 56 = .ok (.aload_n 0, 1) := by decide +kernel
theorem d_Th_keepReached_57 : decode b_Th_keepReached 57 = .ok (.getfield 43, 3) := by decide +kernel
theorem d_Th_keepReached_60 : decode b_Th_keepReached 60 = .ok (.iload_n 2, 1) := by decide +kernel
theorem d_Th_keepReached_61 : decode b_Th_keepReached 61 = .ok (.iload 5, 2) := by decide +kernel
theorem d_Th_keepReached_63 : decode b_Th_keepReached 63 = .ok (.iastore, 1) := by decide +kernel
theorem d_Th_keepReached_64 : decode b_Th_keepReached 64 = .ok (.iinc 2 1, 3) := by decide +kernel
theorem d_Th_keepReached_67 : decode b_Th_keepReached 67 = .ok (.goto 11, 3) := by decide +kernel
theorem d_Th_keepReached_70 : decode b_Th_keepReached 70 = .ok (.aload_n 0, 1) := by decide +kernel
theorem d_Th_keepReached_71 : decode b_Th_keepReached 71 = .ok (.getfield 9, 3) := by decide +kernel
theorem d_Th_keepReached_74 : decode b_Th_keepReached 74 = .ok (.iload 5, 2) := by decide +kernel
theorem d_Th_keepReached_76 : decode b_Th_keepReached 76 = .ok (.iconst 3, 1) := by decide +kernel
theorem d_Th_keepReached_77 : decode b_Th_keepReached 77 = .ok (.iastore, 1) := by decide +kernel
theorem d_Th_keepReached_78 : decode b_Th_keepReached 78 = .ok (.iinc 4 1, 3) := by decide +kernel
theorem d_Th_keepReached_81 : decode b_Th_keepReached 81 = .ok (.goto (-71), 3) := by decide +kernel
theorem d_Th_keepReached_84 : decode b_Th_keepReached 84 = .ok (.aload_n 0, 1) := by decide +kernel
theorem d_Th_keepReached_85 : decode b_Th_keepReached 85 = .ok (.iload_n 2, 1) := by decide +kernel
theorem d_Th_keepReached_86 : decode b_Th_keepReached 86 = .ok (.putfield 53, 3) := by decide +kernel
theorem d_Th_keepReached_89 : decode b_Th_keepReached 89 = .ok (.iload_n 3, 1) := by decide +kernel
theorem d_Th_keepReached_90 : decode b_Th_keepReached 90 = .ok (.iload_n 2, 1) := by decide +kernel
theorem d_Th_keepReached_91 : decode b_Th_keepReached 91 = .ok (.isub, 1) := by decide +kernel
theorem d_Th_keepReached_92 : decode b_Th_keepReached 92 = .ok (.ireturn, 1) := by decide +kernel
theorem d_Wa_sweepUnreached_0 : decode b_Wa_sweepUnreached 0 = .ok (.aload_n 0, 1) := by decide +kernel
theorem d_Wa_sweepUnreached_1 : decode b_Wa_sweepUnreached 1 = .ok (.dup, 1) := by decide +kernel
theorem d_Wa_sweepUnreached_2 : decode b_Wa_sweepUnreached 2 = .ok (.getfield 81, 3) := by decide +kernel
theorem d_Wa_sweepUnreached_5 : decode b_Wa_sweepUnreached 5 = .ok (.iconst 1, 1) := by decide +kernel
theorem d_Wa_sweepUnreached_6 : decode b_Wa_sweepUnreached 6 = .ok (.iadd, 1) := by decide +kernel
theorem d_Wa_sweepUnreached_7 : decode b_Wa_sweepUnreached 7 = .ok (.putfield 81, 3) := by decide +kernel
theorem d_Wa_sweepUnreached_10 : decode b_Wa_sweepUnreached 10 = .ok (.aload_n 0, 1) := by decide +kernel
theorem d_Wa_sweepUnreached_11 : decode b_Wa_sweepUnreached 11 = .ok (.getfield 28, 3) := by decide +kernel
theorem d_Wa_sweepUnreached_14 : decode b_Wa_sweepUnreached 14 = .ok (.invokevirtual 259, 3) := by decide +kernel
theorem d_Wa_sweepUnreached_17 : decode b_Wa_sweepUnreached 17 = .ok (.aload_n 0, 1) := by decide +kernel
theorem d_Wa_sweepUnreached_18 : decode b_Wa_sweepUnreached 18 = .ok (.invokevirtual 262, 3) := by decide +kernel
theorem d_Wa_sweepUnreached_21 : decode b_Wa_sweepUnreached 21 = .ok (.aload_n 0, 1) := by decide +kernel
theorem d_Wa_sweepUnreached_22 : decode b_Wa_sweepUnreached 22 = .ok (.invokevirtual 265, 3) := by decide +kernel
theorem d_Wa_sweepUnreached_25 : decode b_Wa_sweepUnreached 25 = .ok (.iconst 0, 1) := by decide +kernel
theorem d_Wa_sweepUnreached_26 : decode b_Wa_sweepUnreached 26 = .ok (.istore_n 1, 1) := by decide +kernel
theorem d_Wa_sweepUnreached_27 : decode b_Wa_sweepUnreached 27 = .ok (.iload_n 1, 1) := by decide +kernel
theorem d_Wa_sweepUnreached_28 : decode b_Wa_sweepUnreached 28 = .ok (.sipush 300, 3) := by decide +kernel
theorem d_Wa_sweepUnreached_31 : decode b_Wa_sweepUnreached 31 = .ok (.if_icmp .ge 32, 3) := by decide +kernel
theorem d_Wa_sweepUnreached_34 : decode b_Wa_sweepUnreached 34 = .ok (.iload_n 1, 1) := by decide +kernel
theorem d_Wa_sweepUnreached_35 : decode b_Wa_sweepUnreached 35 = .ok (.aload_n 0, 1) := by decide +kernel
theorem d_Wa_sweepUnreached_36 : decode b_Wa_sweepUnreached 36 = .ok (.getfield 28, 3) := by decide +kernel
theorem d_Wa_sweepUnreached_39 : decode b_Wa_sweepUnreached 39 = .ok (.getfield 268, 3) := by decide +kernel
theorem d_Wa_sweepUnreached_42 : decode b_Wa_sweepUnreached 42 = .ok (.if_icmp .ge 21, 3) := by decide +kernel
theorem d_Wa_sweepUnreached_45 : decode b_Wa_sweepUnreached 45 = .ok (.aload_n 0, 1) := by decide +kernel
theorem d_Wa_sweepUnreached_46 : decode b_Wa_sweepUnreached 46 = .ok (.aload_n 0, 1) := by decide +kernel
theorem d_Wa_sweepUnreached_47 : decode b_Wa_sweepUnreached 47 = .ok (.getfield 28, 3) := by decide +kernel
theorem d_Wa_sweepUnreached_50 : decode b_Wa_sweepUnreached 50 = .ok (.iload_n 1, 1) := by decide +kernel
theorem d_Wa_sweepUnreached_51 : decode b_Wa_sweepUnreached 51 = .ok (.invokevirtual 271, 3) := by decide +kernel
theorem d_Wa_sweepUnreached_54 : decode b_Wa_sweepUnreached 54 = .ok (.invokevirtual 274, 3) := by decide +kernel
theorem d_Wa_sweepUnreached_57 : decode b_Wa_sweepUnreached 57 = .ok (.iinc 1 1, 3) := by decide +kernel
theorem d_Wa_sweepUnreached_60 : decode b_Wa_sweepUnreached 60 = .ok (.goto (-33), 3) := by decide +kernel
theorem d_Wa_sweepUnreached_63 : decode b_Wa_sweepUnreached 63 = .ok (.aload_n 0, 1) := by decide +kernel
theorem d_Wa_sweepUnreached_64 : decode b_Wa_sweepUnreached 64 = .ok (.getfield 28, 3) := by decide +kernel
theorem d_Wa_sweepUnreached_67 : decode b_Wa_sweepUnreached 67 = .ok (.aload_n 0, 1) := by decide +kernel
theorem d_Wa_sweepUnreached_68 : decode b_Wa_sweepUnreached 68 = .ok (.getfield 81, 3) := by decide +kernel
theorem d_Wa_sweepUnreached_71 : decode b_Wa_sweepUnreached 71 = .ok (.invokevirtual 277, 3) := by decide +kernel
theorem d_Wa_sweepUnreached_74 : decode b_Wa_sweepUnreached 74 = .ok (.ireturn, 1) := by decide +kernel
theorem d_Te_has_0 : decode b_Te_has 0 = .ok (.iload_n 1, 1) := by decide +kernel
theorem d_Te_has_1 : decode b_Te_has 1 = .ok (.ifCond .lt 22, 3) := by decide +kernel
theorem d_Te_has_4 : decode b_Te_has 4 = .ok (.iload_n 1, 1) := by decide +kernel
theorem d_Te_has_5 : decode b_Te_has 5 = .ok (.aload_n 0, 1) := by decide +kernel
theorem d_Te_has_6 : decode b_Te_has 6 = .ok (.getfield 31, 3) := by decide +kernel
theorem d_Te_has_9 : decode b_Te_has 9 = .ok (.if_icmp .ge 14, 3) := by decide +kernel
theorem d_Te_has_12 : decode b_Te_has 12 = .ok (.iload_n 1, 1) := by decide +kernel
theorem d_Te_has_13 : decode b_Te_has 13 = .ok (.sipush 200, 3) := by decide +kernel
theorem d_Te_has_16 : decode b_Te_has 16 = .ok (.if_icmp .ge 7, 3) := by decide +kernel
theorem d_Te_has_19 : decode b_Te_has 19 = .ok (.iconst 1, 1) := by decide +kernel
theorem d_Te_has_20 : decode b_Te_has 20 = .ok (.goto 4, 3) := by decide +kernel
theorem d_Te_has_23 : decode b_Te_has 23 = .ok (.iconst 0, 1) := by decide +kernel
theorem d_Te_has_24 : decode b_Te_has 24 = .ok (.ireturn, 1) := by decide +kernel
theorem d_Te_sortOf_0 : decode b_Te_sortOf 0 = .ok (.aload_n 0, 1) := by decide +kernel
theorem d_Te_sortOf_1 : decode b_Te_sortOf 1 = .ok (.iload_n 1, 1) := by decide +kernel
theorem d_Te_sortOf_2 : decode b_Te_sortOf 2 = .ok (.invokevirtual 52, 3) := by decide +kernel
theorem d_Te_sortOf_5 : decode b_Te_sortOf 5 = .ok (.ifCond .eq 12, 3) := by decide +kernel
theorem d_Te_sortOf_8 : decode b_Te_sortOf 8 = .ok (.aload_n 0, 1) := by decide +kernel
theorem d_Te_sortOf_9 : decode b_Te_sortOf 9 = .ok (.getfield 9, 3) := by decide +kernel
theorem d_Te_sortOf_12 : decode b_Te_sortOf 12 = .ok (.iload_n 1, 1) := by decide +kernel
theorem d_Te_sortOf_13 : decode b_Te_sortOf 13 = .ok (.iaload, 1) := by decide +kernel
theorem d_Te_sortOf_14 : decode b_Te_sortOf 14 = .ok (.goto 4, 3) := by decide +kernel
theorem d_Te_sortOf_17 : decode b_Te_sortOf 17 = .ok (.iconst (-1), 1) := by decide +kernel
theorem d_Te_sortOf_18 : decode b_Te_sortOf 18 = .ok (.ireturn, 1) := by decide +kernel
theorem d_Te_numberOf_0 : decode b_Te_numberOf 0 = .ok (.aload_n 0, 1) := by decide +kernel
theorem d_Te_numberOf_1 : decode b_Te_numberOf 1 = .ok (.iload_n 1, 1) := by decide +kernel
theorem d_Te_numberOf_2 : decode b_Te_numberOf 2 = .ok (.invokevirtual 52, 3) := by decide +kernel
theorem d_Te_numberOf_5 : decode b_Te_numberOf 5 = .ok (.ifCond .eq 12, 3) := by decide +kernel
theorem d_Te_numberOf_8 : decode b_Te_numberOf 8 = .ok (.aload_n 0, 1) := by decide +kernel
theorem d_Te_numberOf_9 : decode b_Te_numberOf 9 = .ok (.getfield 24, 3) := by decide +kernel
theorem d_Te_numberOf_12 : decode b_Te_numberOf 12 = .ok (.iload_n 1, 1) := by decide +kernel
theorem d_Te_numberOf_13 : decode b_Te_numberOf 13 = .ok (.laload, 1) := by decide +kernel
theorem d_Te_numberOf_14 : decode b_Te_numberOf 14 = .ok (.goto 4, 3) := by decide +kernel
theorem d_Te_numberOf_17 : decode b_Te_numberOf 17 = .ok (.lconst 0, 1) := by decide +kernel
theorem d_Te_numberOf_18 : decode b_Te_numberOf 18 = .ok (.lreturn, 1) := by decide +kernel
theorem d_Va_beLambda_0 : decode b_Va_beLambda 0 = .ok (.aload_n 0, 1) := by decide +kernel
theorem d_Va_beLambda_1 : decode b_Va_beLambda 1 = .ok (.iconst 1, 1) := by decide +kernel
theorem d_Va_beLambda_2 : decode b_Va_beLambda 2 = .ok (.lconst 0, 1) := by decide +kernel
theorem d_Va_beLambda_3 : decode b_Va_beLambda 3 = .ok (.iload_n 1, 1) := by decide +kernel
theorem d_Va_beLambda_4 : decode b_Va_beLambda 4 = .ok (.iload_n 2, 1) := by decide +kernel
theorem d_Va_beLambda_5 : decode b_Va_beLambda 5 = .ok (.invokevirtual 25, 3) := by decide +kernel
theorem d_Va_beLambda_8 : decode b_Va_beLambda 8 = .ok (.return_, 1) := by decide +kernel
theorem d_Te_firstOf_0 : decode b_Te_firstOf 0 = .ok (.aload_n 0, 1) := by decide +kernel
theorem d_Te_firstOf_1 : decode b_Te_firstOf 1 = .ok (.iload_n 1, 1) := by decide +kernel
theorem d_Te_firstOf_2 : decode b_Te_firstOf 2 = .ok (.invokevirtual 52, 3) := by decide +kernel
theorem d_Te_firstOf_5 : decode b_Te_firstOf 5 = .ok (.ifCond .eq 12, 3) := by decide +kernel
theorem d_Te_firstOf_8 : decode b_Te_firstOf 8 = .ok (.aload_n 0, 1) := by decide +kernel
theorem d_Te_firstOf_9 : decode b_Te_firstOf 9 = .ok (.getfield 15, 3) := by decide +kernel
theorem d_Te_firstOf_12 : decode b_Te_firstOf 12 = .ok (.iload_n 1, 1) := by decide +kernel
theorem d_Te_firstOf_13 : decode b_Te_firstOf 13 = .ok (.iaload, 1) := by decide +kernel
theorem d_Te_firstOf_14 : decode b_Te_firstOf 14 = .ok (.goto 4, 3) := by decide +kernel
theorem d_Te_firstOf_17 : decode b_Te_firstOf 17 = .ok (.iconst (-1), 1) := by decide +kernel
theorem d_Te_firstOf_18 : decode b_Te_firstOf 18 = .ok (.ireturn, 1) := by decide +kernel
theorem d_Pl_thingAt_0 : decode b_Pl_thingAt 0 = .ok (.iload_n 1, 1) := by decide +kernel
theorem d_Pl_thingAt_1 : decode b_Pl_thingAt 1 = .ok (.istore_n 3, 1) := by decide +kernel
theorem d_Pl_thingAt_2 : decode b_Pl_thingAt 2 = .ok (.iconst 0, 1) := by decide +kernel
theorem d_Pl_thingAt_3 : decode b_Pl_thingAt 3 = .ok (.istore 4, 2) := by decide +kernel
theorem d_Pl_thingAt_5 : decode b_Pl_thingAt 5 = .ok (.iload 4, 2) := by decide +kernel
theorem d_Pl_thingAt_7 : decode b_Pl_thingAt 7 = .ok (.iload_n 2, 1) := by decide +kernel
theorem d_Pl_thingAt_8 : decode b_Pl_thingAt 8 = .ok (.if_icmp .ge 24, 3) := by decide +kernel
theorem d_Pl_thingAt_11 : decode b_Pl_thingAt 11 = .ok (.aload_n 0, 1) := by decide +kernel
theorem d_Pl_thingAt_12 : decode b_Pl_thingAt 12 = .ok (.iload_n 3, 1) := by decide +kernel
theorem d_Pl_thingAt_13 : decode b_Pl_thingAt 13 = .ok (.invokevirtual 25, 3) := by decide +kernel
theorem d_Pl_thingAt_16 : decode b_Pl_thingAt 16 = .ok (.ifCond .eq 16, 3) := by decide +kernel
theorem d_Pl_thingAt_19 : decode b_Pl_thingAt 19 = .ok (.aload_n 0, 1) := by decide +kernel
theorem d_Pl_thingAt_20 : decode b_Pl_thingAt 20 = .ok (.getfield 15, 3) := by decide +kernel
theorem d_Pl_thingAt_23 : decode b_Pl_thingAt 23 = .ok (.iload_n 3, 1) := by decide +kernel
theorem d_Pl_thingAt_24 : decode b_Pl_thingAt 24 = .ok (.iaload, 1) := by decide +kernel
theorem d_Pl_thingAt_25 : decode b_Pl_thingAt 25 = .ok (.istore_n 3, 1) := by decide +kernel
theorem d_Pl_thingAt_26 : decode b_Pl_thingAt 26 = .ok (.iinc 4 1, 3) := by decide +kernel
theorem d_Pl_thingAt_29 : decode b_Pl_thingAt 29 = .ok (.goto (-24), 3) := by decide +kernel
theorem d_Pl_thingAt_32 : decode b_Pl_thingAt 32 = .ok (.aload_n 0, 1) := by decide +kernel
theorem d_Pl_thingAt_33 : decode b_Pl_thingAt 33 = .ok (.iload_n 3, 1) := by decide +kernel
theorem d_Pl_thingAt_34 : decode b_Pl_thingAt 34 = .ok (.invokevirtual 25, 3) := by decide +kernel
theorem d_Pl_thingAt_37 : decode b_Pl_thingAt 37 = .ok (.ifCond .eq 12, 3) := by decide +kernel
theorem d_Pl_thingAt_40 : decode b_Pl_thingAt 40 = .ok (.aload_n 0, 1) := by decide +kernel
theorem d_Pl_thingAt_41 : decode b_Pl_thingAt 41 = .ok (.getfield 9, 3) := by decide +kernel
theorem d_Pl_thingAt_44 : decode b_Pl_thingAt 44 = .ok (.iload_n 3, 1) := by decide +kernel
theorem d_Pl_thingAt_45 : decode b_Pl_thingAt 45 = .ok (.iaload, 1) := by decide +kernel
theorem d_Pl_thingAt_46 : decode b_Pl_thingAt 46 = .ok (.goto 4, 3) := by decide +kernel
theorem d_Pl_thingAt_49 : decode b_Pl_thingAt 49 = .ok (.iconst (-1), 1) := by decide +kernel
theorem d_Pl_thingAt_50 : decode b_Pl_thingAt 50 = .ok (.ireturn, 1) := by decide +kernel
theorem d_Ro_drop_0 : decode b_Ro_drop 0 = .ok (.aload_n 0, 1) := by decide +kernel
theorem d_Ro_drop_1 : decode b_Ro_drop 1 = .ok (.getfield 25, 3) := by decide +kernel
theorem d_Ro_drop_4 : decode b_Ro_drop 4 = .ok (.ifCond .le 13, 3) := by decide +kernel
theorem d_Ro_drop_7 : decode b_Ro_drop 7 = .ok (.aload_n 0, 1) := by decide +kernel
theorem d_Ro_drop_8 : decode b_Ro_drop 8 = .ok (.dup, 1) := by decide +kernel
theorem d_Ro_drop_9 : decode b_Ro_drop 9 = .ok (.getfield 25, 3) := by decide +kernel
theorem d_Ro_drop_12 : decode b_Ro_drop 12 = .ok (.iconst 1, 1) := by decide +kernel
theorem d_Ro_drop_13 : decode b_Ro_drop 13 = .ok (.isub, 1) := by decide +kernel
theorem d_Ro_drop_14 : decode b_Ro_drop 14 = .ok (.putfield 25, 3) := by decide +kernel
theorem d_Ro_drop_17 : decode b_Ro_drop 17 = .ok (.return_, 1) := by decide +kernel
theorem d_Th_copyValue_0 : decode b_Th_copyValue 0 = .ok (.aload_n 0, 1) := by decide +kernel
theorem d_Th_copyValue_1 : decode b_Th_copyValue 1 = .ok (.iload_n 1, 1) := by decide +kernel
theorem d_Th_copyValue_2 : decode b_Th_copyValue 2 = .ok (.invokevirtual 59, 3) := by decide +kernel
theorem d_Th_copyValue_5 : decode b_Th_copyValue 5 = .ok (.ifCond .eq 35, 3) := by decide +kernel
theorem d_Th_copyValue_8 : decode b_Th_copyValue 8 = .ok (.aload_n 2, 1) := by decide +kernel
theorem d_Th_copyValue_9 : decode b_Th_copyValue 9 = .ok (.ifnull 31, 3) := by decide +kernel
theorem d_Th_copyValue_12 : decode b_Th_copyValue 12 = .ok (.aload_n 2, 1) := by decide +kernel
theorem d_Th_copyValue_13 : decode b_Th_copyValue 13 = .ok (.aload_n 0, 1) := by decide +kernel
theorem d_Th_copyValue_14 : decode b_Th_copyValue 14 = .ok (.getfield 27, 3) := by decide +kernel
theorem d_Th_copyValue_17 : decode b_Th_copyValue 17 = .ok (.iload_n 1, 1) := by decide +kernel
theorem d_Th_copyValue_18 : decode b_Th_copyValue 18 = .ok (.iaload, 1) := by decide +kernel
theorem d_Th_copyValue_19 : decode b_Th_copyValue 19 = .ok (.aload_n 0, 1) := by decide +kernel
theorem d_Th_copyValue_20 : decode b_Th_copyValue 20 = .ok (.getfield 30, 3) := by decide +kernel
theorem d_Th_copyValue_23 : decode b_Th_copyValue 23 = .ok (.iload_n 1, 1) := by decide +kernel
theorem d_Th_copyValue_24 : decode b_Th_copyValue 24 = .ok (.laload, 1) := by decide +kernel
theorem d_Th_copyValue_25 : decode b_Th_copyValue 25 = .ok (.aload_n 0, 1) := by decide +kernel
theorem d_Th_copyValue_26 : decode b_Th_copyValue 26 = .ok (.getfield 34, 3) := by decide +kernel
theorem d_Th_copyValue_29 : decode b_Th_copyValue 29 = .ok (.iload_n 1, 1) := by decide +kernel
theorem d_Th_copyValue_30 : decode b_Th_copyValue 30 = .ok (.iaload, 1) := by decide +kernel
theorem d_Th_copyValue_31 : decode b_Th_copyValue 31 = .ok (.aload_n 0, 1) := by decide +kernel
theorem d_Th_copyValue_32 : decode b_Th_copyValue 32 = .ok (.getfield 37, 3) := by decide +kernel
theorem d_Th_copyValue_35 : decode b_Th_copyValue 35 = .ok (.iload_n 1, 1) := by decide +kernel
theorem d_Th_copyValue_36 : decode b_Th_copyValue 36 = .ok (.iaload, 1) := by decide +kernel
theorem d_Th_copyValue_37 : decode b_Th_copyValue 37 = .ok (.invokevirtual 78, 3) := by decide +kernel
theorem d_Th_copyValue_40 : decode b_Th_copyValue 40 = .ok (.return_, 1) := by decide +kernel
theorem d_Ro_isFull_0 : decode b_Ro_isFull 0 = .ok (.aload_n 0, 1) := by decide +kernel
theorem d_Ro_isFull_1 : decode b_Ro_isFull 1 = .ok (.getfield 25, 3) := by decide +kernel
theorem d_Ro_isFull_4 : decode b_Ro_isFull 4 = .ok (.sipush 300, 3) := by decide +kernel
theorem d_Ro_isFull_7 : decode b_Ro_isFull 7 = .ok (.if_icmp .lt 7, 3) := by decide +kernel
theorem d_Ro_isFull_10 : decode b_Ro_isFull 10 = .ok (.iconst 1, 1) := by decide +kernel
theorem d_Ro_isFull_11 : decode b_Ro_isFull 11 = .ok (.goto 4, 3) := by decide +kernel
theorem d_Ro_isFull_14 : decode b_Ro_isFull 14 = .ok (.iconst 0, 1) := by decide +kernel
theorem d_Ro_isFull_15 : decode b_Ro_isFull 15 = .ok (.ireturn, 1) := by decide +kernel
theorem d_Th_countWork_0 : decode b_Th_countWork 0 = .ok (.aload_n 0, 1) := by decide +kernel
theorem d_Th_countWork_1 : decode b_Th_countWork 1 = .ok (.iload_n 1, 1) := by decide +kernel
theorem d_Th_countWork_2 : decode b_Th_countWork 2 = .ok (.invokevirtual 59, 3) := by decide +kernel
theorem d_Th_countWork_5 : decode b_Th_countWork 5 = .ok (.ifCond .eq 13, 3) := by decide +kernel
theorem d_Th_countWork_8 : decode b_Th_countWork 8 = .ok (.aload_n 0, 1) := by decide +kernel
theorem d_Th_countWork_9 : decode b_Th_countWork 9 = .ok (.getfield 21, 3) := by decide +kernel
theorem d_Th_countWork_12 : decode b_Th_countWork 12 = .ok (.iload_n 1, 1) := by decide +kernel
theorem d_Th_countWork_13 : decode b_Th_countWork 13 = .ok (.dup2, 1) := by decide +kernel
theorem d_Th_countWork_14 : decode b_Th_countWork 14 = .ok (.iaload, 1) := by decide +kernel
theorem d_Th_countWork_15 : decode b_Th_countWork 15 = .ok (.iconst 1, 1) := by decide +kernel
theorem d_Th_countWork_16 : decode b_Th_countWork 16 = .ok (.iadd, 1) := by decide +kernel
theorem d_Th_countWork_17 : decode b_Th_countWork 17 = .ok (.iastore, 1) := by decide +kernel
theorem d_Th_countWork_18 : decode b_Th_countWork 18 = .ok (.return_, 1) := by decide +kernel
theorem d_Ro_newestInWork_0 : decode b_Ro_newestInWork 0 = .ok (.aload_n 0, 1) := by decide +kernel
theorem d_Ro_newestInWork_1 : decode b_Ro_newestInWork 1 = .ok (.getfield 25, 3) := by decide +kernel
theorem d_Ro_newestInWork_4 : decode b_Ro_newestInWork 4 = .ok (.iconst 1, 1) := by decide +kernel
theorem d_Ro_newestInWork_5 : decode b_Ro_newestInWork 5 = .ok (.isub, 1) := by decide +kernel
theorem d_Ro_newestInWork_6 : decode b_Ro_newestInWork 6 = .ok (.istore_n 1, 1) := by decide +kernel
theorem d_Ro_newestInWork_7 : decode b_Ro_newestInWork 7 = .ok (.iload_n 1, 1) := by decide +kernel
theorem d_Ro_newestInWork_8 : decode b_Ro_newestInWork 8 = .ok (.ifCond .lt 32, 3) := by decide +kernel
theorem d_Ro_newestInWork_11 : decode b_Ro_newestInWork 11 = .ok (.iload_n 1, 1) := by decide +kernel
theorem d_Ro_newestInWork_12 : decode b_Ro_newestInWork 12 = .ok (.sipush 300, 3) := by decide +kernel
theorem d_Ro_newestInWork_15 : decode b_Ro_newestInWork 15 = .ok (.if_icmp .ge 19, 3) := by decide +kernel
theorem d_Ro_newestInWork_18 : decode b_Ro_newestInWork 18 = .ok (.aload_n 0, 1) := by decide +kernel
theorem d_Ro_newestInWork_19 : decode b_Ro_newestInWork 19 = .ok (.getfield 9, 3) := by decide +kernel
theorem d_Ro_newestInWork_22 : decode b_Ro_newestInWork 22 = .ok (.iload_n 1, 1) := by decide +kernel
theorem d_Ro_newestInWork_23 : decode b_Ro_newestInWork 23 = .ok (.iaload, 1) := by decide +kernel
theorem d_Ro_newestInWork_24 : decode b_Ro_newestInWork 24 = .ok (.ifCond .ne 10, 3) := by decide +kernel
theorem d_Ro_newestInWork_27 : decode b_Ro_newestInWork 27 = .ok (.aload_n 0, 1) := by decide +kernel
theorem d_Ro_newestInWork_28 : decode b_Ro_newestInWork 28 = .ok (.getfield 15, 3) := by decide +kernel
theorem d_Ro_newestInWork_31 : decode b_Ro_newestInWork 31 = .ok (.iload_n 1, 1) := by decide +kernel
theorem d_Ro_newestInWork_32 : decode b_Ro_newestInWork 32 = .ok (.iaload, 1) := by decide +kernel
theorem d_Ro_newestInWork_33 : decode b_Ro_newestInWork 33 = .ok (.ireturn, 1) := by decide +kernel
theorem d_Ro_newestInWork_34 : decode b_Ro_newestInWork 34 = .ok (.iinc 1 (-1), 3) := by decide +kernel
theorem d_Ro_newestInWork_37 : decode b_Ro_newestInWork 37 = .ok (.goto (-30), 3) := by decide +kernel
theorem d_Ro_newestInWork_40 : decode b_Ro_newestInWork 40 = .ok (.iconst (-1), 1) := by decide +kernel
theorem d_Ro_newestInWork_41 : decode b_Ro_newestInWork 41 = .ok (.ireturn, 1) := by decide +kernel
theorem d_Th_putInWork_0 : decode b_Th_putInWork 0 = .ok (.aload_n 0, 1) := by decide +kernel
theorem d_Th_putInWork_1 : decode b_Th_putInWork 1 = .ok (.iload_n 1, 1) := by decide +kernel
theorem d_Th_putInWork_2 : decode b_Th_putInWork 2 = .ok (.invokevirtual 59, 3) := by decide +kernel
theorem d_Th_putInWork_5 : decode b_Th_putInWork 5 = .ok (.ifCond .eq 17, 3) := by decide +kernel
theorem d_Th_putInWork_8 : decode b_Th_putInWork 8 = .ok (.aload_n 0, 1) := by decide +kernel
theorem d_Th_putInWork_9 : decode b_Th_putInWork 9 = .ok (.getfield 9, 3) := by decide +kernel
theorem d_Th_putInWork_12 : decode b_Th_putInWork 12 = .ok (.iload_n 1, 1) := by decide +kernel
theorem d_Th_putInWork_13 : decode b_Th_putInWork 13 = .ok (.iconst 1, 1) := by decide +kernel
theorem d_Th_putInWork_14 : decode b_Th_putInWork 14 = .ok (.iastore, 1) := by decide +kernel
theorem d_Th_putInWork_15 : decode b_Th_putInWork 15 = .ok (.aload_n 0, 1) := by decide +kernel
theorem d_Th_putInWork_16 : decode b_Th_putInWork 16 = .ok (.getfield 24, 3) := by decide +kernel
theorem d_Th_putInWork_19 : decode b_Th_putInWork 19 = .ok (.iload_n 1, 1) := by decide +kernel
theorem d_Th_putInWork_20 : decode b_Th_putInWork 20 = .ok (.iload_n 2, 1) := by decide +kernel
theorem d_Th_putInWork_21 : decode b_Th_putInWork 21 = .ok (.iastore, 1) := by decide +kernel
theorem d_Th_putInWork_22 : decode b_Th_putInWork 22 = .ok (.return_, 1) := by decide +kernel
theorem d_Ro_add_0 : decode b_Ro_add 0 = .ok (.aload_n 0, 1) := by decide +kernel
theorem d_Ro_add_1 : decode b_Ro_add 1 = .ok (.getfield 25, 3) := by decide +kernel
theorem d_Ro_add_4 : decode b_Ro_add 4 = .ok (.istore 6, 2) := by decide +kernel
theorem d_Ro_add_6 : decode b_Ro_add 6 = .ok (.iload 6, 2) := by decide +kernel
theorem d_Ro_add_8 : decode b_Ro_add 8 = .ok (.ifCond .lt 11, 3) := by decide +kernel
theorem d_Ro_add_11 : decode b_Ro_add 11 = .ok (.iload 6, 2) := by decide +kernel
theorem d_Ro_add_13 : decode b_Ro_add 13 = .ok (.sipush 300, 3) := by decide +kernel
theorem d_Ro_add_16 : decode b_Ro_add 16 = .ok (.if_icmp .lt 4, 3) := by decide +kernel
theorem d_Ro_add_19 : decode b_Ro_add 19 = .ok (.return_, 1) := by decide +kernel
theorem d_Ro_add_20 : decode b_Ro_add 20 = .ok (.aload_n 0, 1) := by decide +kernel
theorem d_Ro_add_21 : decode b_Ro_add 21 = .ok (.getfield 9, 3) := by decide +kernel
theorem d_Ro_add_24 : decode b_Ro_add 24 = .ok (.iload 6, 2) := by decide +kernel
theorem d_Ro_add_26 : decode b_Ro_add 26 = .ok (.iload_n 1, 1) := by decide +kernel
theorem d_Ro_add_27 : decode b_Ro_add 27 = .ok (.iastore, 1) := by decide +kernel
theorem d_Ro_add_28 : decode b_Ro_add 28 = .ok (.aload_n 0, 1) := by decide +kernel
theorem d_Ro_add_29 : decode b_Ro_add 29 = .ok (.getfield 15, 3) := by decide +kernel
theorem d_Ro_add_32 : decode b_Ro_add 32 = .ok (.iload 6, 2) := by decide +kernel
theorem d_Ro_add_34 : decode b_Ro_add 34 = .ok (.iload_n 2, 1) := by decide +kernel
theorem d_Ro_add_35 : decode b_Ro_add 35 = .ok (.iastore, 1) := by decide +kernel
theorem d_Ro_add_36 : decode b_Ro_add 36 = .ok (.aload_n 0, 1) := by decide +kernel
theorem d_Ro_add_37 : decode b_Ro_add 37 = .ok (.getfield 18, 3) := by decide +kernel
theorem d_Ro_add_40 : decode b_Ro_add 40 = .ok (.iload 6, 2) := by decide +kernel
theorem d_Ro_add_42 : decode b_Ro_add 42 = .ok (.iload_n 3, 1) := by decide +kernel
theorem d_Ro_add_43 : decode b_Ro_add 43 = .ok (.iastore, 1) := by decide +kernel
theorem d_Ro_add_44 : decode b_Ro_add 44 = .ok (.aload_n 0, 1) := by decide +kernel
theorem d_Ro_add_45 : decode b_Ro_add 45 = .ok (.getfield 21, 3) := by decide +kernel
theorem d_Ro_add_48 : decode b_Ro_add 48 = .ok (.iload 6, 2) := by decide +kernel
theorem d_Ro_add_50 : decode b_Ro_add 50 = .ok (.lload 4, 2) := by decide +kernel
theorem d_Ro_add_52 : decode b_Ro_add 52 = .ok (.lastore, 1) := by decide +kernel
theorem d_Ro_add_53 : decode b_Ro_add 53 = .ok (.aload_n 0, 1) := by decide +kernel
theorem d_Ro_add_54 : decode b_Ro_add 54 = .ok (.iload 6, 2) := by decide +kernel
theorem d_Ro_add_56 : decode b_Ro_add 56 = .ok (.iconst 1, 1) := by decide +kernel
theorem d_Ro_add_57 : decode b_Ro_add 57 = .ok (.iadd, 1) := by decide +kernel
theorem d_Ro_add_58 : decode b_Ro_add 58 = .ok (.putfield 25, 3) := by decide +kernel
theorem d_Ro_add_61 : decode b_Ro_add 61 = .ok (.aload_n 0, 1) := by decide +kernel
theorem d_Ro_add_62 : decode b_Ro_add 62 = .ok (.getfield 25, 3) := by decide +kernel
theorem d_Ro_add_65 : decode b_Ro_add 65 = .ok (.aload_n 0, 1) := by decide +kernel
theorem d_Ro_add_66 : decode b_Ro_add 66 = .ok (.getfield 29, 3) := by decide +kernel
theorem d_Ro_add_69 : decode b_Ro_add 69 = .ok (.if_icmp .le 11, 3) := by decide +kernel
theorem d_Ro_add_72 : decode b_Ro_add 72 = .ok (.aload_n 0, 1) := by decide +kernel
theorem d_Ro_add_73 : decode b_Ro_add 73 = .ok (.aload_n 0, 1) := by decide +kernel
theorem d_Ro_add_74 : decode b_Ro_add 74 = .ok (.getfield 25, 3) := by decide +kernel
theorem d_Ro_add_77 : decode b_Ro_add 77 = .ok (.putfield 29, 3) := by decide +kernel
theorem d_Ro_add_80 : decode b_Ro_add 80 = .ok (.return_, 1) := by decide +kernel
theorem d_Th_termOf_0 : decode b_Th_termOf 0 = .ok (.aload_n 0, 1) := by decide +kernel
theorem d_Th_termOf_1 : decode b_Th_termOf 1 = .ok (.iload_n 1, 1) := by decide +kernel
theorem d_Th_termOf_2 : decode b_Th_termOf 2 = .ok (.invokevirtual 59, 3) := by decide +kernel
theorem d_Th_termOf_5 : decode b_Th_termOf 5 = .ok (.ifCond .eq 12, 3) := by decide +kernel
theorem d_Th_termOf_8 : decode b_Th_termOf 8 = .ok (.aload_n 0, 1) := by decide +kernel
theorem d_Th_termOf_9 : decode b_Th_termOf 9 = .ok (.getfield 15, 3) := by decide +kernel
theorem d_Th_termOf_12 : decode b_Th_termOf 12 = .ok (.iload_n 1, 1) := by decide +kernel
theorem d_Th_termOf_13 : decode b_Th_termOf 13 = .ok (.iaload, 1) := by decide +kernel
theorem d_Th_termOf_14 : decode b_Th_termOf 14 = .ok (.goto 4, 3) := by decide +kernel
theorem d_Th_termOf_17 : decode b_Th_termOf 17 = .ok (.iconst (-1), 1) := by decide +kernel
theorem d_Th_termOf_18 : decode b_Th_termOf 18 = .ok (.ireturn, 1) := by decide +kernel
theorem d_Wa_needWaiting_0 : decode b_Wa_needWaiting 0 = .ok (.aload_n 0, 1) := by decide +kernel
theorem d_Wa_needWaiting_1 : decode b_Wa_needWaiting 1 = .ok (.getfield 50, 3) := by decide +kernel
theorem d_Wa_needWaiting_4 : decode b_Wa_needWaiting 4 = .ok (.ifCond .eq 23, 3) := by decide +kernel
theorem d_Wa_needWaiting_7 : decode b_Wa_needWaiting 7 = .ok (.iload_n 2, 1) := by decide +kernel
theorem d_Wa_needWaiting_8 : decode b_Wa_needWaiting 8 = .ok (.ifCond .ne 19, 3) := by decide +kernel
theorem d_Wa_needWaiting_11 : decode b_Wa_needWaiting 11 = .ok (.aload_n 0, 1) := by decide +kernel
theorem d_Wa_needWaiting_12 : decode b_Wa_needWaiting 12 = .ok (.getfield 35, 3) := by decide +kernel
theorem d_Wa_needWaiting_15 : decode b_Wa_needWaiting 15 = .ok (.invokevirtual 178, 3) := by decide +kernel
theorem d_Wa_needWaiting_18 : decode b_Wa_needWaiting 18 = .ok (.ifCond .eq 9, 3) := by decide +kernel
theorem d_Wa_needWaiting_21 : decode b_Wa_needWaiting 21 = .ok (.aload_n 0, 1) := by decide +kernel
theorem d_Wa_needWaiting_22 : decode b_Wa_needWaiting 22 = .ok (.iconst 5, 1) := by decide +kernel
theorem d_Wa_needWaiting_23 : decode b_Wa_needWaiting 23 = .ok (.putfield 46, 3) := by decide +kernel
theorem d_Wa_needWaiting_26 : decode b_Wa_needWaiting 26 = .ok (.return_, 1) := by decide +kernel
theorem d_Wa_needWaiting_27 : decode b_Wa_needWaiting 27 = .ok (.iload_n 2, 1) := by decide +kernel
theorem d_Wa_needWaiting_28 : decode b_Wa_needWaiting 28 = .ok (.ifCond .eq 10, 3) := by decide +kernel
theorem d_Wa_needWaiting_31 : decode b_Wa_needWaiting 31 = .ok (.aload_n 0, 1) := by decide +kernel
theorem d_Wa_needWaiting_32 : decode b_Wa_needWaiting 32 = .ok (.getfield 35, 3) := by decide +kernel
theorem d_Wa_needWaiting_35 : decode b_Wa_needWaiting 35 = .ok (.invokevirtual 190, 3) := by decide +kernel
theorem d_Wa_needWaiting_38 : decode b_Wa_needWaiting 38 = .ok (.aload_n 0, 1) := by decide +kernel
theorem d_Wa_needWaiting_39 : decode b_Wa_needWaiting 39 = .ok (.dup, 1) := by decide +kernel
theorem d_Wa_needWaiting_40 : decode b_Wa_needWaiting 40 = .ok (.getfield 72, 3) := by decide +kernel
theorem d_Wa_needWaiting_43 : decode b_Wa_needWaiting 43 = .ok (.iconst 1, 1) := by decide +kernel
theorem d_Wa_needWaiting_44 : decode b_Wa_needWaiting 44 = .ok (.iadd, 1) := by decide +kernel
theorem d_Wa_needWaiting_45 : decode b_Wa_needWaiting 45 = .ok (.putfield 72, 3) := by decide +kernel
theorem d_Wa_needWaiting_48 : decode b_Wa_needWaiting 48 = .ok (.aload_n 0, 1) := by decide +kernel
theorem d_Wa_needWaiting_49 : decode b_Wa_needWaiting 49 = .ok (.getfield 28, 3) := by decide +kernel
theorem d_Wa_needWaiting_52 : decode b_Wa_needWaiting 52 = .ok (.iload_n 1, 1) := by decide +kernel
theorem d_Wa_needWaiting_53 : decode b_Wa_needWaiting 53 = .ok (.invokevirtual 200, 3) := by decide +kernel
theorem d_Wa_needWaiting_56 : decode b_Wa_needWaiting 56 = .ok (.aload_n 0, 1) := by decide +kernel
theorem d_Wa_needWaiting_57 : decode b_Wa_needWaiting 57 = .ok (.getfield 50, 3) := by decide +kernel
theorem d_Wa_needWaiting_60 : decode b_Wa_needWaiting 60 = .ok (.ifCond .eq 29, 3) := by decide +kernel
theorem d_Wa_needWaiting_63 : decode b_Wa_needWaiting 63 = .ok (.aload_n 0, 1) := by decide +kernel
theorem d_Wa_needWaiting_64 : decode b_Wa_needWaiting 64 = .ok (.getfield 28, 3) := by decide +kernel
theorem d_Wa_needWaiting_67 : decode b_Wa_needWaiting 67 = .ok (.iload_n 1, 1) := by decide +kernel
theorem d_Wa_needWaiting_68 : decode b_Wa_needWaiting 68 = .ok (.aload_n 0, 1) := by decide +kernel
theorem d_Wa_needWaiting_69 : decode b_Wa_needWaiting 69 = .ok (.getfield 35, 3) := by decide +kernel
theorem d_Wa_needWaiting_72 : decode b_Wa_needWaiting 72 = .ok (.invokevirtual 203, 3) := by decide +kernel
theorem d_Wa_needWaiting_75 : decode b_Wa_needWaiting 75 = .ok (.invokevirtual 206, 3) := by decide +kernel
theorem d_Wa_needWaiting_78 : decode b_Wa_needWaiting 78 = .ok (.aload_n 0, 1) := by decide +kernel
theorem d_Wa_needWaiting_79 : decode b_Wa_needWaiting 79 = .ok (.getfield 35, 3) := by decide +kernel
theorem d_Wa_needWaiting_82 : decode b_Wa_needWaiting 82 = .ok (.iconst 0, 1) := by decide +kernel
theorem d_Wa_needWaiting_83 : decode b_Wa_needWaiting 83 = .ok (.iload_n 1, 1) := by decide +kernel
theorem d_Wa_needWaiting_84 : decode b_Wa_needWaiting 84 = .ok (.iconst (-1), 1) := by decide +kernel
theorem d_Wa_needWaiting_85 : decode b_Wa_needWaiting 85 = .ok (.lconst 0, 1) := by decide +kernel
theorem d_Wa_needWaiting_86 : decode b_Wa_needWaiting 86 = .ok (.invokevirtual 182, 3) := by decide +kernel
theorem d_Wa_needWaiting_89 : decode b_Wa_needWaiting 89 = .ok (.aload_n 0, 1) := by decide +kernel
theorem d_Wa_needWaiting_90 : decode b_Wa_needWaiting 90 = .ok (.aload_n 0, 1) := by decide +kernel
theorem d_Wa_needWaiting_91 : decode b_Wa_needWaiting 91 = .ok (.getfield 28, 3) := by decide +kernel
theorem d_Wa_needWaiting_94 : decode b_Wa_needWaiting 94 = .ok (.iload_n 1, 1) := by decide +kernel
theorem d_Wa_needWaiting_95 : decode b_Wa_needWaiting 95 = .ok (.invokevirtual 209, 3) := by decide +kernel
theorem d_Wa_needWaiting_98 : decode b_Wa_needWaiting 98 = .ok (.aload_n 0, 1) := by decide +kernel
theorem d_Wa_needWaiting_99 : decode b_Wa_needWaiting 99 = .ok (.getfield 28, 3) := by decide +kernel
theorem d_Wa_needWaiting_102 : decode b_Wa_needWaiting 102 = .ok (.iload_n 1, 1) := by decide +kernel
theorem d_Wa_needWaiting_103 : decode b_Wa_needWaiting 103 = .ok (.invokevirtual 212, 3) := by decide +kernel
theorem d_Wa_needWaiting_106 : decode b_Wa_needWaiting 106 = .ok (.invokevirtual 93, 3) := by decide +kernel
theorem d_Wa_needWaiting_109 : decode b_Wa_needWaiting 109 = .ok (.return_, 1) := by decide +kernel
theorem d_Wa_need_0 : decode b_Wa_need 0 = .ok (.aload_n 0, 1) := by decide +kernel
theorem d_Wa_need_1 : decode b_Wa_need 1 = .ok (.getfield 28, 3) := by decide +kernel
theorem d_Wa_need_4 : decode b_Wa_need 4 = .ok (.iload_n 1, 1) := by decide +kernel
theorem d_Wa_need_5 : decode b_Wa_need 5 = .ok (.invokevirtual 187, 3) := by decide +kernel
theorem d_Wa_need_8 : decode b_Wa_need 8 = .ok (.tableswitch 91 0 2 #[69, 78, 28], 28) := by decide +kernel
theorem d_Wa_need_36 : decode b_Wa_need 36 = .ok (.iload_n 2, 1) := by decide +kernel
theorem d_Wa_need_37 : decode b_Wa_need 37 = .ok (.ifCond .eq 10, 3) := by decide +kernel
theorem d_Wa_need_40 : decode b_Wa_need 40 = .ok (.aload_n 0, 1) := by decide +kernel
theorem d_Wa_need_41 : decode b_Wa_need 41 = .ok (.getfield 35, 3) := by decide +kernel
theorem d_Wa_need_44 : decode b_Wa_need 44 = .ok (.invokevirtual 190, 3) := by decide +kernel
theorem d_Wa_need_47 : decode b_Wa_need 47 = .ok (.aload_n 0, 1) := by decide +kernel
theorem d_Wa_need_48 : decode b_Wa_need 48 = .ok (.dup, 1) := by decide +kernel
theorem d_Wa_need_49 : decode b_Wa_need 49 = .ok (.getfield 69, 3) := by decide +kernel
theorem d_Wa_need_52 : decode b_Wa_need 52 = .ok (.iconst 1, 1) := by decide +kernel
theorem d_Wa_need_53 : decode b_Wa_need 53 = .ok (.iadd, 1) := by decide +kernel
theorem d_Wa_need_54 : decode b_Wa_need 54 = .ok (.putfield 69, 3) := by decide +kernel
theorem d_Wa_need_57 : decode b_Wa_need 57 = .ok (.aload_n 0, 1) := by decide +kernel
theorem d_Wa_need_58 : decode b_Wa_need 58 = .ok (.getfield 28, 3) := by decide +kernel
theorem d_Wa_need_61 : decode b_Wa_need 61 = .ok (.iload_n 1, 1) := by decide +kernel
theorem d_Wa_need_62 : decode b_Wa_need 62 = .ok (.aload_n 0, 1) := by decide +kernel
theorem d_Wa_need_63 : decode b_Wa_need 63 = .ok (.getfield 42, 3) := by decide +kernel
theorem d_Wa_need_66 : decode b_Wa_need 66 = .ok (.invokevirtual 193, 3) := by decide +kernel
theorem d_Wa_need_69 : decode b_Wa_need 69 = .ok (.aload_n 0, 1) := by decide +kernel
theorem d_Wa_need_70 : decode b_Wa_need 70 = .ok (.iconst 1, 1) := by decide +kernel
theorem d_Wa_need_71 : decode b_Wa_need 71 = .ok (.putfield 54, 3) := by decide +kernel
theorem d_Wa_need_74 : decode b_Wa_need 74 = .ok (.goto 30, 3) := by decide +kernel
theorem d_Wa_need_77 : decode b_Wa_need 77 = .ok (.aload_n 0, 1) := by decide +kernel
theorem d_Wa_need_78 : decode b_Wa_need 78 = .ok (.iload_n 1, 1) := by decide +kernel
theorem d_Wa_need_79 : decode b_Wa_need 79 = .ok (.iload_n 2, 1) := by decide +kernel
theorem d_Wa_need_80 : decode b_Wa_need 80 = .ok (.invokevirtual 197, 3) := by decide +kernel
theorem d_Wa_need_83 : decode b_Wa_need 83 = .ok (.goto 21, 3) := by decide +kernel
theorem d_Wa_need_86 : decode b_Wa_need 86 = .ok (.aload_n 0, 1) := by decide +kernel
theorem d_Wa_need_87 : decode b_Wa_need 87 = .ok (.iload_n 1, 1) := by decide +kernel
theorem d_Wa_need_88 : decode b_Wa_need 88 = .ok (.putfield 75, 3) := by decide +kernel
theorem d_Wa_need_91 : decode b_Wa_need 91 = .ok (.aload_n 0, 1) := by decide +kernel
theorem d_Wa_need_92 : decode b_Wa_need 92 = .ok (.iconst 3, 1) := by decide +kernel
theorem d_Wa_need_93 : decode b_Wa_need 93 = .ok (.putfield 46, 3) := by decide +kernel
theorem d_Wa_need_96 : decode b_Wa_need 96 = .ok (.goto 8, 3) := by decide +kernel
theorem d_Wa_need_99 : decode b_Wa_need 99 = .ok (.aload_n 0, 1) := by decide +kernel
theorem d_Wa_need_100 : decode b_Wa_need 100 = .ok (.iconst 4, 1) := by decide +kernel
theorem d_Wa_need_101 : decode b_Wa_need 101 = .ok (.putfield 46, 3) := by decide +kernel
theorem d_Wa_need_104 : decode b_Wa_need 104 = .ok (.return_, 1) := by decide +kernel
theorem d_Te_secondOf_0 : decode b_Te_secondOf 0 = .ok (.aload_n 0, 1) := by decide +kernel
theorem d_Te_secondOf_1 : decode b_Te_secondOf 1 = .ok (.iload_n 1, 1) := by decide +kernel
theorem d_Te_secondOf_2 : decode b_Te_secondOf 2 = .ok (.invokevirtual 52, 3) := by decide +kernel
theorem d_Te_secondOf_5 : decode b_Te_secondOf 5 = .ok (.ifCond .eq 12, 3) := by decide +kernel
theorem d_Te_secondOf_8 : decode b_Te_secondOf 8 = .ok (.aload_n 0, 1) := by decide +kernel
theorem d_Te_secondOf_9 : decode b_Te_secondOf 9 = .ok (.getfield 18, 3) := by decide +kernel
theorem d_Te_secondOf_12 : decode b_Te_secondOf 12 = .ok (.iload_n 1, 1) := by decide +kernel
theorem d_Te_secondOf_13 : decode b_Te_secondOf 13 = .ok (.iaload, 1) := by decide +kernel
theorem d_Te_secondOf_14 : decode b_Te_secondOf 14 = .ok (.goto 4, 3) := by decide +kernel
theorem d_Te_secondOf_17 : decode b_Te_secondOf 17 = .ok (.iconst (-1), 1) := by decide +kernel
theorem d_Te_secondOf_18 : decode b_Te_secondOf 18 = .ok (.ireturn, 1) := by decide +kernel
theorem d_Wa_newThingsFor_0 : decode b_Wa_newThingsFor 0 = .ok (.aload_n 0, 1) := by decide +kernel
theorem d_Wa_newThingsFor_1 : decode b_Wa_newThingsFor 1 = .ok (.getfield 12, 3) := by decide +kernel
theorem d_Wa_newThingsFor_4 : decode b_Wa_newThingsFor 4 = .ok (.iload_n 1, 1) := by decide +kernel
theorem d_Wa_newThingsFor_5 : decode b_Wa_newThingsFor 5 = .ok (.invokevirtual 131, 3) := by decide +kernel
theorem d_Wa_newThingsFor_8 : decode b_Wa_newThingsFor 8 = .ok (.iconst 1, 1) := by decide +kernel
theorem d_Wa_newThingsFor_9 : decode b_Wa_newThingsFor 9 = .ok (.if_icmp .ne 7, 3) := by decide +kernel
theorem d_Wa_newThingsFor_12 : decode b_Wa_newThingsFor 12 = .ok (.iconst 0, 1) := by decide +kernel
theorem d_Wa_newThingsFor_13 : decode b_Wa_newThingsFor 13 = .ok (.goto 4, 3) := by decide +kernel
theorem d_Wa_newThingsFor_16 : decode b_Wa_newThingsFor 16 = .ok (.iconst 1, 1) := by decide +kernel
theorem d_Wa_newThingsFor_17 : decode b_Wa_newThingsFor 17 = .ok (.ireturn, 1) := by decide +kernel
theorem d_Th_hasRoomFor_0 : decode b_Th_hasRoomFor 0 = .ok (.aload_n 0, 1) := by decide +kernel
theorem d_Th_hasRoomFor_1 : decode b_Th_hasRoomFor 1 = .ok (.getfield 49, 3) := by decide +kernel
theorem d_Th_hasRoomFor_4 : decode b_Th_hasRoomFor 4 = .ok (.iload_n 1, 1) := by decide +kernel
theorem d_Th_hasRoomFor_5 : decode b_Th_hasRoomFor 5 = .ok (.iadd, 1) := by decide +kernel
theorem d_Th_hasRoomFor_6 : decode b_Th_hasRoomFor 6 = .ok (.sipush 1000, 3) := by decide +kernel
theorem d_Th_hasRoomFor_9 : decode b_Th_hasRoomFor 9 = .ok (.if_icmp .gt 19, 3) := by decide +kernel
theorem d_Th_hasRoomFor_12 : decode b_Th_hasRoomFor 12 = .ok (.aload_n 0, 1) := by decide +kernel
theorem d_Th_hasRoomFor_13 : decode b_Th_hasRoomFor 13 = .ok (.getfield 53, 3) := by decide +kernel
theorem d_Th_hasRoomFor_16 : decode b_Th_hasRoomFor 16 = .ok (.iload_n 1, 1) := by decide +kernel
theorem d_Th_hasRoomFor_17 : decode b_Th_hasRoomFor 17 = .ok (.iadd, 1) := by decide +kernel
theorem d_Th_hasRoomFor_18 : decode b_Th_hasRoomFor 18 = .ok (.sipush 300, 3) := by decide +kernel
theorem d_Th_hasRoomFor_21 : decode b_Th_hasRoomFor 21 = .ok (.if_icmp .gt 7, 3) := by decide +kernel
theorem d_Th_hasRoomFor_24 : decode b_Th_hasRoomFor 24 = .ok (.iconst 1, 1) := by decide +kernel
theorem d_Th_hasRoomFor_25 : decode b_Th_hasRoomFor 25 = .ok (.goto 4, 3) := by decide +kernel
theorem d_Th_hasRoomFor_28 : decode b_Th_hasRoomFor 28 = .ok (.iconst 0, 1) := by decide +kernel
theorem d_Th_hasRoomFor_29 : decode b_Th_hasRoomFor 29 = .ok (.ireturn, 1) := by decide +kernel
theorem d_Th_add_0 : decode b_Th_add 0 = .ok (.aload_n 0, 1) := by decide +kernel
theorem d_Th_add_1 : decode b_Th_add 1 = .ok (.getfield 49, 3) := by decide +kernel
theorem d_Th_add_4 : decode b_Th_add 4 = .ok (.istore_n 3, 1) := by decide +kernel
theorem d_Th_add_5 : decode b_Th_add 5 = .ok (.aload_n 0, 1) := by decide +kernel
theorem d_Th_add_6 : decode b_Th_add 6 = .ok (.getfield 53, 3) := by decide +kernel
theorem d_Th_add_9 : decode b_Th_add 9 = .ok (.istore 4, 2) := by decide +kernel
theorem d_Th_add_11 : decode b_Th_add 11 = .ok (.iload_n 3, 1) := by decide +kernel
theorem d_Th_add_12 : decode b_Th_add 12 = .ok (.ifCond .lt 23, 3) := by decide +kernel
theorem d_Th_add_15 : decode b_Th_add 15 = .ok (.iload_n 3, 1) := by decide +kernel
theorem d_Th_add_16 : decode b_Th_add 16 = .ok (.sipush 1000, 3) := by decide +kernel
theorem d_Th_add_19 : decode b_Th_add 19 = .ok (.if_icmp .ge 16, 3) := by decide +kernel
theorem d_Th_add_22 : decode b_Th_add 22 = .ok (.iload 4, 2) := by decide +kernel
theorem d_Th_add_24 : decode b_Th_add 24 = .ok (.ifCond .lt 11, 3) := by decide +kernel
theorem d_Th_add_27 : decode b_Th_add 27 = .ok (.iload 4, 2) := by decide +kernel
theorem d_Th_add_29 : decode b_Th_add 29 = .ok (.sipush 300, 3) := by decide +kernel
theorem d_Th_add_32 : decode b_Th_add 32 = .ok (.if_icmp .lt 5, 3) := by decide +kernel
theorem d_Th_add_35 : decode b_Th_add 35 = .ok (.iconst (-1), 1) := by decide +kernel
theorem d_Th_add_36 : decode b_Th_add 36 = .ok (.ireturn, 1) := by decide +kernel
theorem d_Th_add_37 : decode b_Th_add 37 = .ok (.aload_n 0, 1) := by decide +kernel
theorem d_Th_add_38 : decode b_Th_add 38 = .ok (.getfield 9, 3) := by decide +kernel
theorem d_Th_add_41 : decode b_Th_add 41 = .ok (.iload_n 3, 1) := by decide +kernel
theorem d_Th_add_42 : decode b_Th_add 42 = .ok (.iconst 0, 1) := by decide +kernel
theorem d_Th_add_43 : decode b_Th_add 43 = .ok (.iastore, 1) := by decide +kernel
theorem d_Th_add_44 : decode b_Th_add 44 = .ok (.aload_n 0, 1) := by decide +kernel
theorem d_Th_add_45 : decode b_Th_add 45 = .ok (.getfield 15, 3) := by decide +kernel
theorem d_Th_add_48 : decode b_Th_add 48 = .ok (.iload_n 3, 1) := by decide +kernel
theorem d_Th_add_49 : decode b_Th_add 49 = .ok (.iload_n 1, 1) := by decide +kernel
theorem d_Th_add_50 : decode b_Th_add 50 = .ok (.iastore, 1) := by decide +kernel
theorem d_Th_add_51 : decode b_Th_add 51 = .ok (.aload_n 0, 1) := by decide +kernel
theorem d_Th_add_52 : decode b_Th_add 52 = .ok (.getfield 18, 3) := by decide +kernel
theorem d_Th_add_55 : decode b_Th_add 55 = .ok (.iload_n 3, 1) := by decide +kernel
theorem d_Th_add_56 : decode b_Th_add 56 = .ok (.iload_n 2, 1) := by decide +kernel
theorem d_Th_add_57 : decode b_Th_add 57 = .ok (.iastore, 1) := by decide +kernel
theorem d_Th_add_58 : decode b_Th_add 58 = .ok (.aload_n 0, 1) := by decide +kernel
theorem d_Th_add_59 : decode b_Th_add 59 = .ok (.getfield 21, 3) := by decide +kernel
theorem d_Th_add_62 : decode b_Th_add 62 = .ok (.iload_n 3, 1) := by decide +kernel
theorem d_Th_add_63 : decode b_Th_add 63 = .ok (.iconst 0, 1) := by decide +kernel
theorem d_Th_add_64 : decode b_Th_add 64 = .ok (.iastore, 1) := by decide +kernel
theorem d_Th_add_65 : decode b_Th_add 65 = .ok (.aload_n 0, 1) := by decide +kernel
theorem d_Th_add_66 : decode b_Th_add 66 = .ok (.getfield 24, 3) := by decide +kernel
theorem d_Th_add_69 : decode b_Th_add 69 = .ok (.iload_n 3, 1) := by decide +kernel
theorem d_Th_add_70 : decode b_Th_add 70 = .ok (.iconst (-1), 1) := by decide +kernel
theorem d_Th_add_71 : decode b_Th_add 71 = .ok (.iastore, 1) := by decide +kernel
theorem d_Th_add_72 : decode b_Th_add 72 = .ok (.aload_n 0, 1) := by decide +kernel
theorem d_Th_add_73 : decode b_Th_add 73 = .ok (.getfield 43, 3) := by decide +kernel
theorem d_Th_add_76 : decode b_Th_add 76 = .ok (.iload 4, 2) := by decide +kernel
theorem d_Th_add_78 : decode b_Th_add 78 = .ok (.iload_n 3, 1) := by decide +kernel
theorem d_Th_add_79 : decode b_Th_add 79 = .ok (.iastore, 1) := by decide +kernel
theorem d_Th_add_80 : decode b_Th_add 80 = .ok (.aload_n 0, 1) := by decide +kernel
theorem d_Th_add_81 : decode b_Th_add 81 = .ok (.iload_n 3, 1) := by decide +kernel
theorem d_Th_add_82 : decode b_Th_add 82 = .ok (.iconst 1, 1) := by decide +kernel
theorem d_Th_add_83 : decode b_Th_add 83 = .ok (.iadd, 1) := by decide +kernel
theorem d_Th_add_84 : decode b_Th_add 84 = .ok (.putfield 49, 3) := by decide +kernel
theorem d_Th_add_87 : decode b_Th_add 87 = .ok (.aload_n 0, 1) := by decide +kernel
theorem d_Th_add_88 : decode b_Th_add 88 = .ok (.iload 4, 2) := by decide +kernel
theorem d_Th_add_90 : decode b_Th_add 90 = .ok (.iconst 1, 1) := by decide +kernel
theorem d_Th_add_91 : decode b_Th_add 91 = .ok (.iadd, 1) := by decide +kernel
theorem d_Th_add_92 : decode b_Th_add 92 = .ok (.putfield 53, 3) := by decide +kernel
theorem d_Th_add_95 : decode b_Th_add 95 = .ok (.iload_n 3, 1) := by decide +kernel
theorem d_Th_add_96 : decode b_Th_add 96 = .ok (.ireturn, 1) := by decide +kernel
theorem d_Wa_thingFor_0 : decode b_Wa_thingFor 0 = .ok (.aload_n 0, 1) := by decide +kernel
theorem d_Wa_thingFor_1 : decode b_Wa_thingFor 1 = .ok (.getfield 12, 3) := by decide +kernel
theorem d_Wa_thingFor_4 : decode b_Wa_thingFor 4 = .ok (.iload_n 1, 1) := by decide +kernel
theorem d_Wa_thingFor_5 : decode b_Wa_thingFor 5 = .ok (.invokevirtual 131, 3) := by decide +kernel
theorem d_Wa_thingFor_8 : decode b_Wa_thingFor 8 = .ok (.iconst 1, 1) := by decide +kernel
theorem d_Wa_thingFor_9 : decode b_Wa_thingFor 9 = .ok (.if_icmp .ne 23, 3) := by decide +kernel
theorem d_Wa_thingFor_12 : decode b_Wa_thingFor 12 = .ok (.aload_n 0, 1) := by decide +kernel
theorem d_Wa_thingFor_13 : decode b_Wa_thingFor 13 = .ok (.getfield 21, 3) := by decide +kernel
theorem d_Wa_thingFor_16 : decode b_Wa_thingFor 16 = .ok (.aload_n 0, 1) := by decide +kernel
theorem d_Wa_thingFor_17 : decode b_Wa_thingFor 17 = .ok (.getfield 60, 3) := by decide +kernel
theorem d_Wa_thingFor_20 : decode b_Wa_thingFor 20 = .ok (.aload_n 0, 1) := by decide +kernel
theorem d_Wa_thingFor_21 : decode b_Wa_thingFor 21 = .ok (.getfield 12, 3) := by decide +kernel
theorem d_Wa_thingFor_24 : decode b_Wa_thingFor 24 = .ok (.iload_n 1, 1) := by decide +kernel
theorem d_Wa_thingFor_25 : decode b_Wa_thingFor 25 = .ok (.invokevirtual 141, 3) := by decide +kernel
theorem d_Wa_thingFor_28 : decode b_Wa_thingFor 28 = .ok (.invokevirtual 142, 3) := by decide +kernel
theorem d_Wa_thingFor_31 : decode b_Wa_thingFor 31 = .ok (.ireturn, 1) := by decide +kernel
theorem d_Wa_thingFor_32 : decode b_Wa_thingFor 32 = .ok (.aload_n 0, 1) := by decide +kernel
theorem d_Wa_thingFor_33 : decode b_Wa_thingFor 33 = .ok (.getfield 28, 3) := by decide +kernel
theorem d_Wa_thingFor_36 : decode b_Wa_thingFor 36 = .ok (.iload_n 1, 1) := by decide +kernel
theorem d_Wa_thingFor_37 : decode b_Wa_thingFor 37 = .ok (.aload_n 0, 1) := by decide +kernel
theorem d_Wa_thingFor_38 : decode b_Wa_thingFor 38 = .ok (.getfield 60, 3) := by decide +kernel
theorem d_Wa_thingFor_41 : decode b_Wa_thingFor 41 = .ok (.invokevirtual 162, 3) := by decide +kernel
theorem d_Wa_thingFor_44 : decode b_Wa_thingFor 44 = .ok (.ireturn, 1) := by decide +kernel
theorem d_Va_bePair_0 : decode b_Va_bePair 0 = .ok (.aload_n 0, 1) := by decide +kernel
theorem d_Va_bePair_1 : decode b_Va_bePair 1 = .ok (.iconst 2, 1) := by decide +kernel
theorem d_Va_bePair_2 : decode b_Va_bePair 2 = .ok (.lconst 0, 1) := by decide +kernel
theorem d_Va_bePair_3 : decode b_Va_bePair 3 = .ok (.iload_n 1, 1) := by decide +kernel
theorem d_Va_bePair_4 : decode b_Va_bePair 4 = .ok (.iload_n 2, 1) := by decide +kernel
theorem d_Va_bePair_5 : decode b_Va_bePair 5 = .ok (.invokevirtual 25, 3) := by decide +kernel
theorem d_Va_bePair_8 : decode b_Va_bePair 8 = .ok (.return_, 1) := by decide +kernel
theorem d_Wa_makePair_0 : decode b_Wa_makePair 0 = .ok (.aload_n 0, 1) := by decide +kernel
theorem d_Wa_makePair_1 : decode b_Wa_makePair 1 = .ok (.getfield 28, 3) := by decide +kernel
theorem d_Wa_makePair_4 : decode b_Wa_makePair 4 = .ok (.aload_n 0, 1) := by decide +kernel
theorem d_Wa_makePair_5 : decode b_Wa_makePair 5 = .ok (.iload_n 1, 1) := by decide +kernel
theorem d_Wa_makePair_6 : decode b_Wa_makePair 6 = .ok (.invokevirtual 165, 3) := by decide +kernel
theorem d_Wa_makePair_9 : decode b_Wa_makePair 9 = .ok (.aload_n 0, 1) := by decide +kernel
theorem d_Wa_makePair_10 : decode b_Wa_makePair 10 = .ok (.iload_n 2, 1) := by decide +kernel
theorem d_Wa_makePair_11 : decode b_Wa_makePair 11 = .ok (.invokevirtual 165, 3) := by decide +kernel
theorem d_Wa_makePair_14 : decode b_Wa_makePair 14 = .ok (.iadd, 1) := by decide +kernel
theorem d_Wa_makePair_15 : decode b_Wa_makePair 15 = .ok (.invokevirtual 168, 3) := by decide +kernel
theorem d_Wa_makePair_18 : decode b_Wa_makePair 18 = .ok (.ifCond .ne 9, 3) := by decide +kernel
theorem d_Wa_makePair_21 : decode b_Wa_makePair 21 = .ok (.aload_n 0, 1) := by decide +kernel
theorem d_Wa_makePair_22 : decode b_Wa_makePair 22 = .ok (.iconst 5, 1) := by decide +kernel
theorem d_Wa_makePair_23 : decode b_Wa_makePair 23 = .ok (.putfield 46, 3) := by decide +kernel
theorem d_Wa_makePair_26 : decode b_Wa_makePair 26 = .ok (.return_, 1) := by decide +kernel
theorem d_Wa_makePair_27 : decode b_Wa_makePair 27 = .ok (.aload_n 0, 1) := by decide +kernel
theorem d_Wa_makePair_28 : decode b_Wa_makePair 28 = .ok (.iload_n 1, 1) := by decide +kernel
theorem d_Wa_makePair_29 : decode b_Wa_makePair 29 = .ok (.invokevirtual 172, 3) := by decide +kernel
theorem d_Wa_makePair_32 : decode b_Wa_makePair 32 = .ok (.istore_n 3, 1) := by decide +kernel
theorem d_Wa_makePair_33 : decode b_Wa_makePair 33 = .ok (.aload_n 0, 1) := by decide +kernel
theorem d_Wa_makePair_34 : decode b_Wa_makePair 34 = .ok (.iload_n 2, 1) := by decide +kernel
theorem d_Wa_makePair_35 : decode b_Wa_makePair 35 = .ok (.invokevirtual 172, 3) := by decide +kernel
theorem d_Wa_makePair_38 : decode b_Wa_makePair 38 = .ok (.istore 4, 2) := by decide +kernel
theorem d_Wa_makePair_40 : decode b_Wa_makePair 40 = .ok (.aload_n 0, 1) := by decide +kernel
theorem d_Wa_makePair_41 : decode b_Wa_makePair 41 = .ok (.getfield 42, 3) := by decide +kernel
theorem d_Wa_makePair_44 : decode b_Wa_makePair 44 = .ok (.iload_n 3, 1) := by decide +kernel
theorem d_Wa_makePair_45 : decode b_Wa_makePair 45 = .ok (.iload 4, 2) := by decide +kernel
theorem d_Wa_makePair_47 : decode b_Wa_makePair 47 = .ok (.invokevirtual 175, 3) := by decide +kernel
theorem d_Wa_makePair_50 : decode b_Wa_makePair 50 = .ok (.aload_n 0, 1) := by decide +kernel
theorem d_Wa_makePair_51 : decode b_Wa_makePair 51 = .ok (.iconst 1, 1) := by decide +kernel
theorem d_Wa_makePair_52 : decode b_Wa_makePair 52 = .ok (.putfield 54, 3) := by decide +kernel
theorem d_Wa_makePair_55 : decode b_Wa_makePair 55 = .ok (.return_, 1) := by decide +kernel
theorem d_Wa_enterApply_0 : decode b_Wa_enterApply 0 = .ok (.aload_n 0, 1) := by decide +kernel
theorem d_Wa_enterApply_1 : decode b_Wa_enterApply 1 = .ok (.getfield 28, 3) := by decide +kernel
theorem d_Wa_enterApply_4 : decode b_Wa_enterApply 4 = .ok (.aload_n 0, 1) := by decide +kernel
theorem d_Wa_enterApply_5 : decode b_Wa_enterApply 5 = .ok (.iload_n 1, 1) := by decide +kernel
theorem d_Wa_enterApply_6 : decode b_Wa_enterApply 6 = .ok (.invokevirtual 165, 3) := by decide +kernel
theorem d_Wa_enterApply_9 : decode b_Wa_enterApply 9 = .ok (.invokevirtual 168, 3) := by decide +kernel
theorem d_Wa_enterApply_12 : decode b_Wa_enterApply 12 = .ok (.ifCond .eq 13, 3) := by decide +kernel
theorem d_Wa_enterApply_15 : decode b_Wa_enterApply 15 = .ok (.aload_n 0, 1) := by decide +kernel
theorem d_Wa_enterApply_16 : decode b_Wa_enterApply 16 = .ok (.getfield 35, 3) := by decide +kernel
theorem d_Wa_enterApply_19 : decode b_Wa_enterApply 19 = .ok (.invokevirtual 178, 3) := by decide +kernel
theorem d_Wa_enterApply_22 : decode b_Wa_enterApply 22 = .ok (.ifCond .eq 9, 3) := by decide +kernel
theorem d_Wa_enterApply_25 : decode b_Wa_enterApply 25 = .ok (.aload_n 0, 1) := by decide +kernel
theorem d_Wa_enterApply_26 : decode b_Wa_enterApply 26 = .ok (.iconst 5, 1) := by decide +kernel
theorem d_Wa_enterApply_27 : decode b_Wa_enterApply 27 = .ok (.putfield 46, 3) := by decide +kernel
theorem d_Wa_enterApply_30 : decode b_Wa_enterApply 30 = .ok (.return_, 1) := by decide +kernel
theorem d_Wa_enterApply_31 : decode b_Wa_enterApply 31 = .ok (.aload_n 0, 1) := by decide +kernel
theorem d_Wa_enterApply_32 : decode b_Wa_enterApply 32 = .ok (.getfield 35, 3) := by decide +kernel
theorem d_Wa_enterApply_35 : decode b_Wa_enterApply 35 = .ok (.iconst 1, 1) := by decide +kernel
theorem d_Wa_enterApply_36 : decode b_Wa_enterApply 36 = .ok (.aload_n 0, 1) := by decide +kernel
theorem d_Wa_enterApply_37 : decode b_Wa_enterApply 37 = .ok (.iload_n 1, 1) := by decide +kernel
theorem d_Wa_enterApply_38 : decode b_Wa_enterApply 38 = .ok (.invokevirtual 172, 3) := by decide +kernel
theorem d_Wa_enterApply_41 : decode b_Wa_enterApply 41 = .ok (.iconst (-1), 1) := by decide +kernel
theorem d_Wa_enterApply_42 : decode b_Wa_enterApply 42 = .ok (.lconst 0, 1) := by decide +kernel
theorem d_Wa_enterApply_43 : decode b_Wa_enterApply 43 = .ok (.invokevirtual 182, 3) := by decide +kernel
theorem d_Wa_enterApply_46 : decode b_Wa_enterApply 46 = .ok (.aload_n 0, 1) := by decide +kernel
theorem d_Wa_enterApply_47 : decode b_Wa_enterApply 47 = .ok (.aload_n 0, 1) := by decide +kernel
theorem d_Wa_enterApply_48 : decode b_Wa_enterApply 48 = .ok (.getfield 12, 3) := by decide +kernel
theorem d_Wa_enterApply_51 : decode b_Wa_enterApply 51 = .ok (.aload_n 0, 1) := by decide +kernel
theorem d_Wa_enterApply_52 : decode b_Wa_enterApply 52 = .ok (.getfield 57, 3) := by decide +kernel
theorem d_Wa_enterApply_55 : decode b_Wa_enterApply 55 = .ok (.invokevirtual 141, 3) := by decide +kernel
theorem d_Wa_enterApply_58 : decode b_Wa_enterApply 58 = .ok (.putfield 57, 3) := by decide +kernel
theorem d_Wa_enterApply_61 : decode b_Wa_enterApply 61 = .ok (.return_, 1) := by decide +kernel
theorem d_Pl_isFull_0 : decode b_Pl_isFull 0 = .ok (.aload_n 0, 1) := by decide +kernel
theorem d_Pl_isFull_1 : decode b_Pl_isFull 1 = .ok (.getfield 21, 3) := by decide +kernel
theorem d_Pl_isFull_4 : decode b_Pl_isFull 4 = .ok (.sipush 1000, 3) := by decide +kernel
theorem d_Pl_isFull_7 : decode b_Pl_isFull 7 = .ok (.if_icmp .lt 7, 3) := by decide +kernel
theorem d_Pl_isFull_10 : decode b_Pl_isFull 10 = .ok (.iconst 1, 1) := by decide +kernel
theorem d_Pl_isFull_11 : decode b_Pl_isFull 11 = .ok (.goto 4, 3) := by decide +kernel
theorem d_Pl_isFull_14 : decode b_Pl_isFull 14 = .ok (.iconst 0, 1) := by decide +kernel
theorem d_Pl_isFull_15 : decode b_Pl_isFull 15 = .ok (.ireturn, 1) := by decide +kernel
theorem d_Pl_add_0 : decode b_Pl_add 0 = .ok (.aload_n 0, 1) := by decide +kernel
theorem d_Pl_add_1 : decode b_Pl_add 1 = .ok (.getfield 21, 3) := by decide +kernel
theorem d_Pl_add_4 : decode b_Pl_add 4 = .ok (.istore_n 3, 1) := by decide +kernel
theorem d_Pl_add_5 : decode b_Pl_add 5 = .ok (.iload_n 3, 1) := by decide +kernel
theorem d_Pl_add_6 : decode b_Pl_add 6 = .ok (.ifCond .lt 10, 3) := by decide +kernel
theorem d_Pl_add_9 : decode b_Pl_add 9 = .ok (.iload_n 3, 1) := by decide +kernel
theorem d_Pl_add_10 : decode b_Pl_add 10 = .ok (.sipush 1000, 3) := by decide +kernel
theorem d_Pl_add_13 : decode b_Pl_add 13 = .ok (.if_icmp .lt 5, 3) := by decide +kernel
theorem d_Pl_add_16 : decode b_Pl_add 16 = .ok (.iconst (-1), 1) := by decide +kernel
theorem d_Pl_add_17 : decode b_Pl_add 17 = .ok (.ireturn, 1) := by decide +kernel
theorem d_Pl_add_18 : decode b_Pl_add 18 = .ok (.aload_n 0, 1) := by decide +kernel
theorem d_Pl_add_19 : decode b_Pl_add 19 = .ok (.getfield 9, 3) := by decide +kernel
theorem d_Pl_add_22 : decode b_Pl_add 22 = .ok (.iload_n 3, 1) := by decide +kernel
theorem d_Pl_add_23 : decode b_Pl_add 23 = .ok (.iload_n 1, 1) := by decide +kernel
theorem d_Pl_add_24 : decode b_Pl_add 24 = .ok (.iastore, 1) := by decide +kernel
theorem d_Pl_add_25 : decode b_Pl_add 25 = .ok (.aload_n 0, 1) := by decide +kernel
theorem d_Pl_add_26 : decode b_Pl_add 26 = .ok (.getfield 15, 3) := by decide +kernel
theorem d_Pl_add_29 : decode b_Pl_add 29 = .ok (.iload_n 3, 1) := by decide +kernel
theorem d_Pl_add_30 : decode b_Pl_add 30 = .ok (.iload_n 2, 1) := by decide +kernel
theorem d_Pl_add_31 : decode b_Pl_add 31 = .ok (.iastore, 1) := by decide +kernel
theorem d_Pl_add_32 : decode b_Pl_add 32 = .ok (.aload_n 0, 1) := by decide +kernel
theorem d_Pl_add_33 : decode b_Pl_add 33 = .ok (.iload_n 3, 1) := by decide +kernel
theorem d_Pl_add_34 : decode b_Pl_add 34 = .ok (.iconst 1, 1) := by decide +kernel
theorem d_Pl_add_35 : decode b_Pl_add 35 = .ok (.iadd, 1) := by decide +kernel
theorem d_Pl_add_36 : decode b_Pl_add 36 = .ok (.putfield 21, 3) := by decide +kernel
theorem d_Pl_add_39 : decode b_Pl_add 39 = .ok (.iload_n 3, 1) := by decide +kernel
theorem d_Pl_add_40 : decode b_Pl_add 40 = .ok (.ireturn, 1) := by decide +kernel
theorem d_Wa_enterLet_0 : decode b_Wa_enterLet 0 = .ok (.aload_n 0, 1) := by decide +kernel
theorem d_Wa_enterLet_1 : decode b_Wa_enterLet 1 = .ok (.getfield 28, 3) := by decide +kernel
theorem d_Wa_enterLet_4 : decode b_Wa_enterLet 4 = .ok (.iconst 1, 1) := by decide +kernel
theorem d_Wa_enterLet_5 : decode b_Wa_enterLet 5 = .ok (.invokevirtual 168, 3) := by decide +kernel
theorem d_Wa_enterLet_8 : decode b_Wa_enterLet 8 = .ok (.ifCond .eq 13, 3) := by decide +kernel
theorem d_Wa_enterLet_11 : decode b_Wa_enterLet 11 = .ok (.aload_n 0, 1) := by decide +kernel
theorem d_Wa_enterLet_12 : decode b_Wa_enterLet 12 = .ok (.getfield 21, 3) := by decide +kernel
theorem d_Wa_enterLet_15 : decode b_Wa_enterLet 15 = .ok (.invokevirtual 185, 3) := by decide +kernel
theorem d_Wa_enterLet_18 : decode b_Wa_enterLet 18 = .ok (.ifCond .eq 9, 3) := by decide +kernel
theorem d_Wa_enterLet_21 : decode b_Wa_enterLet 21 = .ok (.aload_n 0, 1) := by decide +kernel
theorem d_Wa_enterLet_22 : decode b_Wa_enterLet 22 = .ok (.iconst 5, 1) := by decide +kernel
theorem d_Wa_enterLet_23 : decode b_Wa_enterLet 23 = .ok (.putfield 46, 3) := by decide +kernel
theorem d_Wa_enterLet_26 : decode b_Wa_enterLet 26 = .ok (.return_, 1) := by decide +kernel
theorem d_Wa_enterLet_27 : decode b_Wa_enterLet 27 = .ok (.aload_n 0, 1) := by decide +kernel
theorem d_Wa_enterLet_28 : decode b_Wa_enterLet 28 = .ok (.getfield 21, 3) := by decide +kernel
theorem d_Wa_enterLet_31 : decode b_Wa_enterLet 31 = .ok (.aload_n 0, 1) := by decide +kernel
theorem d_Wa_enterLet_32 : decode b_Wa_enterLet 32 = .ok (.getfield 28, 3) := by decide +kernel
theorem d_Wa_enterLet_35 : decode b_Wa_enterLet 35 = .ok (.getfield 114, 3) := by decide +kernel
theorem d_Wa_enterLet_38 : decode b_Wa_enterLet 38 = .ok (.aload_n 0, 1) := by decide +kernel
theorem d_Wa_enterLet_39 : decode b_Wa_enterLet 39 = .ok (.getfield 60, 3) := by decide +kernel
theorem d_Wa_enterLet_42 : decode b_Wa_enterLet 42 = .ok (.invokevirtual 186, 3) := by decide +kernel
theorem d_Wa_enterLet_45 : decode b_Wa_enterLet 45 = .ok (.istore_n 3, 1) := by decide +kernel
theorem d_Wa_enterLet_46 : decode b_Wa_enterLet 46 = .ok (.aload_n 0, 1) := by decide +kernel
theorem d_Wa_enterLet_47 : decode b_Wa_enterLet 47 = .ok (.getfield 28, 3) := by decide +kernel
theorem d_Wa_enterLet_50 : decode b_Wa_enterLet 50 = .ok (.iload_n 1, 1) := by decide +kernel
theorem d_Wa_enterLet_51 : decode b_Wa_enterLet 51 = .ok (.iload_n 3, 1) := by decide +kernel
theorem d_Wa_enterLet_52 : decode b_Wa_enterLet 52 = .ok (.invokevirtual 162, 3) := by decide +kernel
theorem d_Wa_enterLet_55 : decode b_Wa_enterLet 55 = .ok (.pop, 1) := by decide +kernel
theorem d_Wa_enterLet_56 : decode b_Wa_enterLet 56 = .ok (.aload_n 0, 1) := by decide +kernel
theorem d_Wa_enterLet_57 : decode b_Wa_enterLet 57 = .ok (.iload_n 2, 1) := by decide +kernel
theorem d_Wa_enterLet_58 : decode b_Wa_enterLet 58 = .ok (.iload_n 3, 1) := by decide +kernel
theorem d_Wa_enterLet_59 : decode b_Wa_enterLet 59 = .ok (.invokevirtual 93, 3) := by decide +kernel
theorem d_Wa_enterLet_62 : decode b_Wa_enterLet 62 = .ok (.return_, 1) := by decide +kernel
theorem d_Wa_enter_0 : decode b_Wa_enter 0 = .ok (.aload_n 0, 1) := by decide +kernel
theorem d_Wa_enter_1 : decode b_Wa_enter 1 = .ok (.getfield 35, 3) := by decide +kernel
theorem d_Wa_enter_4 : decode b_Wa_enter 4 = .ok (.invokevirtual 178, 3) := by decide +kernel
theorem d_Wa_enter_7 : decode b_Wa_enter 7 = .ok (.ifCond .eq 9, 3) := by decide +kernel
theorem d_Wa_enter_10 : decode b_Wa_enter 10 = .ok (.aload_n 0, 1) := by decide +kernel
theorem d_Wa_enter_11 : decode b_Wa_enter 11 = .ok (.iconst 5, 1) := by decide +kernel
theorem d_Wa_enter_12 : decode b_Wa_enter 12 = .ok (.putfield 46, 3) := by decide +kernel
theorem d_Wa_enter_15 : decode b_Wa_enter 15 = .ok (.return_, 1) := by decide +kernel
theorem d_Wa_enter_16 : decode b_Wa_enter 16 = .ok (.aload_n 0, 1) := by decide +kernel
theorem d_Wa_enter_17 : decode b_Wa_enter 17 = .ok (.getfield 35, 3) := by decide +kernel
theorem d_Wa_enter_20 : decode b_Wa_enter 20 = .ok (.iload_n 1, 1) := by decide +kernel
theorem d_Wa_enter_21 : decode b_Wa_enter 21 = .ok (.aload_n 0, 1) := by decide +kernel
theorem d_Wa_enter_22 : decode b_Wa_enter 22 = .ok (.getfield 57, 3) := by decide +kernel
theorem d_Wa_enter_25 : decode b_Wa_enter 25 = .ok (.aload_n 0, 1) := by decide +kernel
theorem d_Wa_enter_26 : decode b_Wa_enter 26 = .ok (.getfield 60, 3) := by decide +kernel
theorem d_Wa_enter_29 : decode b_Wa_enter 29 = .ok (.lconst 0, 1) := by decide +kernel
theorem d_Wa_enter_30 : decode b_Wa_enter 30 = .ok (.invokevirtual 182, 3) := by decide +kernel
theorem d_Wa_enter_33 : decode b_Wa_enter 33 = .ok (.aload_n 0, 1) := by decide +kernel
theorem d_Wa_enter_34 : decode b_Wa_enter 34 = .ok (.aload_n 0, 1) := by decide +kernel
theorem d_Wa_enter_35 : decode b_Wa_enter 35 = .ok (.getfield 12, 3) := by decide +kernel
theorem d_Wa_enter_38 : decode b_Wa_enter 38 = .ok (.aload_n 0, 1) := by decide +kernel
theorem d_Wa_enter_39 : decode b_Wa_enter 39 = .ok (.getfield 57, 3) := by decide +kernel
theorem d_Wa_enter_42 : decode b_Wa_enter 42 = .ok (.invokevirtual 141, 3) := by decide +kernel
theorem d_Wa_enter_45 : decode b_Wa_enter 45 = .ok (.putfield 57, 3) := by decide +kernel
theorem d_Wa_enter_48 : decode b_Wa_enter 48 = .ok (.return_, 1) := by decide +kernel
theorem d_Wa_stepWithTerm_0 : decode b_Wa_stepWithTerm 0 = .ok (.aload_n 0, 1) := by decide +kernel
theorem d_Wa_stepWithTerm_1 : decode b_Wa_stepWithTerm 1 = .ok (.getfield 12, 3) := by decide +kernel
theorem d_Wa_stepWithTerm_4 : decode b_Wa_stepWithTerm 4 = .ok (.aload_n 0, 1) := by decide +kernel
theorem d_Wa_stepWithTerm_5 : decode b_Wa_stepWithTerm 5 = .ok (.getfield 57, 3) := by decide +kernel
theorem d_Wa_stepWithTerm_8 : decode b_Wa_stepWithTerm 8 = .ok (.invokevirtual 131, 3) := by decide +kernel
theorem d_Wa_stepWithTerm_11 : decode b_Wa_stepWithTerm 11 = .ok (.tableswitch 241 0 9 #[53, 102, 79, 224, 232, 161, 179, 132, 208, 216], 53) := by decide +kernel
theorem d_Wa_stepWithTerm_64 : decode b_Wa_stepWithTerm 64 = .ok (.aload_n 0, 1) := by decide +kernel
theorem d_Wa_stepWithTerm_65 : decode b_Wa_stepWithTerm 65 = .ok (.getfield 42, 3) := by decide +kernel
theorem d_Wa_stepWithTerm_68 : decode b_Wa_stepWithTerm 68 = .ok (.aload_n 0, 1) := by decide +kernel
theorem d_Wa_stepWithTerm_69 : decode b_Wa_stepWithTerm 69 = .ok (.getfield 12, 3) := by decide +kernel
theorem d_Wa_stepWithTerm_72 : decode b_Wa_stepWithTerm 72 = .ok (.aload_n 0, 1) := by decide +kernel
theorem d_Wa_stepWithTerm_73 : decode b_Wa_stepWithTerm 73 = .ok (.getfield 57, 3) := by decide +kernel
theorem d_Wa_stepWithTerm_76 : decode b_Wa_stepWithTerm 76 = .ok (.invokevirtual 134, 3) := by decide +kernel
theorem d_Wa_stepWithTerm_79 : decode b_Wa_stepWithTerm 79 = .ok (.invokevirtual 89, 3) := by decide +kernel
theorem d_Wa_stepWithTerm_82 : decode b_Wa_stepWithTerm 82 = .ok (.aload_n 0, 1) := by decide +kernel
theorem d_Wa_stepWithTerm_83 : decode b_Wa_stepWithTerm 83 = .ok (.iconst 1, 1) := by decide +kernel
theorem d_Wa_stepWithTerm_84 : decode b_Wa_stepWithTerm 84 = .ok (.putfield 54, 3) := by decide +kernel
theorem d_Wa_stepWithTerm_87 : decode b_Wa_stepWithTerm 87 = .ok (.goto 170, 3) := by decide +kernel
theorem d_Wa_stepWithTerm_90 : decode b_Wa_stepWithTerm 90 = .ok (.aload_n 0, 1) := by decide +kernel
theorem d_Wa_stepWithTerm_91 : decode b_Wa_stepWithTerm 91 = .ok (.getfield 42, 3) := by decide +kernel
theorem d_Wa_stepWithTerm_94 : decode b_Wa_stepWithTerm 94 = .ok (.aload_n 0, 1) := by decide +kernel
theorem d_Wa_stepWithTerm_95 : decode b_Wa_stepWithTerm 95 = .ok (.getfield 57, 3) := by decide +kernel
theorem d_Wa_stepWithTerm_98 : decode b_Wa_stepWithTerm 98 = .ok (.aload_n 0, 1) := by decide +kernel
theorem d_Wa_stepWithTerm_99 : decode b_Wa_stepWithTerm 99 = .ok (.getfield 60, 3) := by decide +kernel
theorem d_Wa_stepWithTerm_102 : decode b_Wa_stepWithTerm 102 = .ok (.invokevirtual 138, 3) := by decide +kernel
theorem d_Wa_stepWithTerm_105 : decode b_Wa_stepWithTerm 105 = .ok (.aload_n 0, 1) := by decide +kernel
theorem d_Wa_stepWithTerm_106 : decode b_Wa_stepWithTerm 106 = .ok (.iconst 1, 1) := by decide +kernel
theorem d_Wa_stepWithTerm_107 : decode b_Wa_stepWithTerm 107 = .ok (.putfield 54, 3) := by decide +kernel
theorem d_Wa_stepWithTerm_110 : decode b_Wa_stepWithTerm 110 = .ok (.goto 147, 3) := by decide +kernel
theorem d_Wa_stepWithTerm_113 : decode b_Wa_stepWithTerm 113 = .ok (.aload_n 0, 1) := by decide +kernel
theorem d_Wa_stepWithTerm_114 : decode b_Wa_stepWithTerm 114 = .ok (.aload_n 0, 1) := by decide +kernel
theorem d_Wa_stepWithTerm_115 : decode b_Wa_stepWithTerm 115 = .ok (.getfield 21, 3) := by decide +kernel
theorem d_Wa_stepWithTerm_118 : decode b_Wa_stepWithTerm 118 = .ok (.aload_n 0, 1) := by decide +kernel
theorem d_Wa_stepWithTerm_119 : decode b_Wa_stepWithTerm 119 = .ok (.getfield 60, 3) := by decide +kernel
theorem d_Wa_stepWithTerm_122 : decode b_Wa_stepWithTerm 122 = .ok (.aload_n 0, 1) := by decide +kernel
theorem d_Wa_stepWithTerm_123 : decode b_Wa_stepWithTerm 123 = .ok (.getfield 12, 3) := by decide +kernel
theorem d_Wa_stepWithTerm_126 : decode b_Wa_stepWithTerm 126 = .ok (.aload_n 0, 1) := by decide +kernel
theorem d_Wa_stepWithTerm_127 : decode b_Wa_stepWithTerm 127 = .ok (.getfield 57, 3) := by decide +kernel
theorem d_Wa_stepWithTerm_130 : decode b_Wa_stepWithTerm 130 = .ok (.invokevirtual 141, 3) := by decide +kernel
theorem d_Wa_stepWithTerm_133 : decode b_Wa_stepWithTerm 133 = .ok (.invokevirtual 142, 3) := by decide +kernel
theorem d_Wa_stepWithTerm_136 : decode b_Wa_stepWithTerm 136 = .ok (.iconst 0, 1) := by decide +kernel
theorem d_Wa_stepWithTerm_137 : decode b_Wa_stepWithTerm 137 = .ok (.invokevirtual 107, 3) := by decide +kernel
theorem d_Wa_stepWithTerm_140 : decode b_Wa_stepWithTerm 140 = .ok (.goto 117, 3) := by decide +kernel
theorem d_Wa_stepWithTerm_143 : decode b_Wa_stepWithTerm 143 = .ok (.aload_n 0, 1) := by decide +kernel
theorem d_Wa_stepWithTerm_144 : decode b_Wa_stepWithTerm 144 = .ok (.aload_n 0, 1) := by decide +kernel
theorem d_Wa_stepWithTerm_145 : decode b_Wa_stepWithTerm 145 = .ok (.getfield 12, 3) := by decide +kernel
theorem d_Wa_stepWithTerm_148 : decode b_Wa_stepWithTerm 148 = .ok (.aload_n 0, 1) := by decide +kernel
theorem d_Wa_stepWithTerm_149 : decode b_Wa_stepWithTerm 149 = .ok (.getfield 57, 3) := by decide +kernel
theorem d_Wa_stepWithTerm_152 : decode b_Wa_stepWithTerm 152 = .ok (.invokevirtual 141, 3) := by decide +kernel
theorem d_Wa_stepWithTerm_155 : decode b_Wa_stepWithTerm 155 = .ok (.aload_n 0, 1) := by decide +kernel
theorem d_Wa_stepWithTerm_156 : decode b_Wa_stepWithTerm 156 = .ok (.getfield 12, 3) := by decide +kernel
theorem d_Wa_stepWithTerm_159 : decode b_Wa_stepWithTerm 159 = .ok (.aload_n 0, 1) := by decide +kernel
theorem d_Wa_stepWithTerm_160 : decode b_Wa_stepWithTerm 160 = .ok (.getfield 57, 3) := by decide +kernel
theorem d_Wa_stepWithTerm_163 : decode b_Wa_stepWithTerm 163 = .ok (.invokevirtual 146, 3) := by decide +kernel
theorem d_Wa_stepWithTerm_166 : decode b_Wa_stepWithTerm 166 = .ok (.invokevirtual 149, 3) := by decide +kernel
theorem d_Wa_stepWithTerm_169 : decode b_Wa_stepWithTerm 169 = .ok (.goto 88, 3) := by decide +kernel
theorem d_Wa_stepWithTerm_172 : decode b_Wa_stepWithTerm 172 = .ok (.aload_n 0, 1) := by decide +kernel
theorem d_Wa_stepWithTerm_173 : decode b_Wa_stepWithTerm 173 = .ok (.aload_n 0, 1) := by decide +kernel
theorem d_Wa_stepWithTerm_174 : decode b_Wa_stepWithTerm 174 = .ok (.getfield 12, 3) := by decide +kernel
theorem d_Wa_stepWithTerm_177 : decode b_Wa_stepWithTerm 177 = .ok (.aload_n 0, 1) := by decide +kernel
theorem d_Wa_stepWithTerm_178 : decode b_Wa_stepWithTerm 178 = .ok (.getfield 57, 3) := by decide +kernel
theorem d_Wa_stepWithTerm_181 : decode b_Wa_stepWithTerm 181 = .ok (.invokevirtual 146, 3) := by decide +kernel
theorem d_Wa_stepWithTerm_184 : decode b_Wa_stepWithTerm 184 = .ok (.invokevirtual 152, 3) := by decide +kernel
theorem d_Wa_stepWithTerm_187 : decode b_Wa_stepWithTerm 187 = .ok (.goto 70, 3) := by decide +kernel
theorem d_Wa_stepWithTerm_190 : decode b_Wa_stepWithTerm 190 = .ok (.aload_n 0, 1) := by decide +kernel
theorem d_Wa_stepWithTerm_191 : decode b_Wa_stepWithTerm 191 = .ok (.aload_n 0, 1) := by decide +kernel
theorem d_Wa_stepWithTerm_192 : decode b_Wa_stepWithTerm 192 = .ok (.getfield 12, 3) := by decide +kernel
theorem d_Wa_stepWithTerm_195 : decode b_Wa_stepWithTerm 195 = .ok (.aload_n 0, 1) := by decide +kernel
theorem d_Wa_stepWithTerm_196 : decode b_Wa_stepWithTerm 196 = .ok (.getfield 57, 3) := by decide +kernel
theorem d_Wa_stepWithTerm_199 : decode b_Wa_stepWithTerm 199 = .ok (.invokevirtual 141, 3) := by decide +kernel
theorem d_Wa_stepWithTerm_202 : decode b_Wa_stepWithTerm 202 = .ok (.aload_n 0, 1) := by decide +kernel
theorem d_Wa_stepWithTerm_203 : decode b_Wa_stepWithTerm 203 = .ok (.getfield 12, 3) := by decide +kernel
theorem d_Wa_stepWithTerm_206 : decode b_Wa_stepWithTerm 206 = .ok (.aload_n 0, 1) := by decide +kernel
theorem d_Wa_stepWithTerm_207 : decode b_Wa_stepWithTerm 207 = .ok (.getfield 57, 3) := by decide +kernel
theorem d_Wa_stepWithTerm_210 : decode b_Wa_stepWithTerm 210 = .ok (.invokevirtual 146, 3) := by decide +kernel
theorem d_Wa_stepWithTerm_213 : decode b_Wa_stepWithTerm 213 = .ok (.invokevirtual 156, 3) := by decide +kernel
theorem d_Wa_stepWithTerm_216 : decode b_Wa_stepWithTerm 216 = .ok (.goto 41, 3) := by decide +kernel
theorem d_Wa_stepWithTerm_219 : decode b_Wa_stepWithTerm 219 = .ok (.aload_n 0, 1) := by decide +kernel
theorem d_Wa_stepWithTerm_220 : decode b_Wa_stepWithTerm 220 = .ok (.iconst 2, 1) := by decide +kernel
theorem d_Wa_stepWithTerm_221 : decode b_Wa_stepWithTerm 221 = .ok (.invokevirtual 159, 3) := by decide +kernel
theorem d_Wa_stepWithTerm_224 : decode b_Wa_stepWithTerm 224 = .ok (.goto 33, 3) := by decide +kernel
theorem d_Wa_stepWithTerm_227 : decode b_Wa_stepWithTerm 227 = .ok (.aload_n 0, 1) := by decide +kernel
theorem d_Wa_stepWithTerm_228 : decode b_Wa_stepWithTerm 228 = .ok (.iconst 4, 1) := by decide +kernel
theorem d_Wa_stepWithTerm_229 : decode b_Wa_stepWithTerm 229 = .ok (.invokevirtual 159, 3) := by decide +kernel
theorem d_Wa_stepWithTerm_232 : decode b_Wa_stepWithTerm 232 = .ok (.goto 25, 3) := by decide +kernel
theorem d_Wa_stepWithTerm_235 : decode b_Wa_stepWithTerm 235 = .ok (.aload_n 0, 1) := by decide +kernel
theorem d_Wa_stepWithTerm_236 : decode b_Wa_stepWithTerm 236 = .ok (.iconst 5, 1) := by decide +kernel
theorem d_Wa_stepWithTerm_237 : decode b_Wa_stepWithTerm 237 = .ok (.invokevirtual 159, 3) := by decide +kernel
theorem d_Wa_stepWithTerm_240 : decode b_Wa_stepWithTerm 240 = .ok (.goto 17, 3) := by decide +kernel
theorem d_Wa_stepWithTerm_243 : decode b_Wa_stepWithTerm 243 = .ok (.aload_n 0, 1) := by decide +kernel
theorem d_Wa_stepWithTerm_244 : decode b_Wa_stepWithTerm 244 = .ok (.bipush 6, 2) := by decide +kernel
theorem d_Wa_stepWithTerm_246 : decode b_Wa_stepWithTerm 246 = .ok (.invokevirtual 159, 3) := by decide +kernel
theorem d_Wa_stepWithTerm_249 : decode b_Wa_stepWithTerm 249 = .ok (.goto 8, 3) := by decide +kernel
theorem d_Wa_stepWithTerm_252 : decode b_Wa_stepWithTerm 252 = .ok (.aload_n 0, 1) := by decide +kernel
theorem d_Wa_stepWithTerm_253 : decode b_Wa_stepWithTerm 253 = .ok (.iconst 4, 1) := by decide +kernel
theorem d_Wa_stepWithTerm_254 : decode b_Wa_stepWithTerm 254 = .ok (.putfield 46, 3) := by decide +kernel
theorem d_Wa_stepWithTerm_257 : decode b_Wa_stepWithTerm 257 = .ok (.return_, 1) := by decide +kernel
theorem d_Ro_newest_0 : decode b_Ro_newest 0 = .ok (.aload_n 0, 1) := by decide +kernel
theorem d_Ro_newest_1 : decode b_Ro_newest 1 = .ok (.getfield 25, 3) := by decide +kernel
theorem d_Ro_newest_4 : decode b_Ro_newest 4 = .ok (.iconst 1, 1) := by decide +kernel
theorem d_Ro_newest_5 : decode b_Ro_newest 5 = .ok (.isub, 1) := by decide +kernel
theorem d_Ro_newest_6 : decode b_Ro_newest 6 = .ok (.ireturn, 1) := by decide +kernel
theorem d_Th_finish_0 : decode b_Th_finish 0 = .ok (.aload_n 0, 1) := by decide +kernel
theorem d_Th_finish_1 : decode b_Th_finish 1 = .ok (.iload_n 1, 1) := by decide +kernel
theorem d_Th_finish_2 : decode b_Th_finish 2 = .ok (.invokevirtual 59, 3) := by decide +kernel
theorem d_Th_finish_5 : decode b_Th_finish 5 = .ok (.ifCond .eq 54, 3) := by decide +kernel
theorem d_Th_finish_8 : decode b_Th_finish 8 = .ok (.aload_n 2, 1) := by decide +kernel
theorem d_Th_finish_9 : decode b_Th_finish 9 = .ok (.ifnull 50, 3) := by decide +kernel
theorem d_Th_finish_12 : decode b_Th_finish 12 = .ok (.aload_n 0, 1) := by decide +kernel
theorem d_Th_finish_13 : decode b_Th_finish 13 = .ok (.getfield 9, 3) := by decide +kernel
theorem d_Th_finish_16 : decode b_Th_finish 16 = .ok (.iload_n 1, 1) := by decide +kernel
theorem d_Th_finish_17 : decode b_Th_finish 17 = .ok (.iconst 2, 1) := by decide +kernel
theorem d_Th_finish_18 : decode b_Th_finish 18 = .ok (.iastore, 1) := by decide +kernel
theorem d_Th_finish_19 : decode b_Th_finish 19 = .ok (.aload_n 0, 1) := by decide +kernel
theorem d_Th_finish_20 : decode b_Th_finish 20 = .ok (.getfield 27, 3) := by decide +kernel
theorem d_Th_finish_23 : decode b_Th_finish 23 = .ok (.iload_n 1, 1) := by decide +kernel
theorem d_Th_finish_24 : decode b_Th_finish 24 = .ok (.aload_n 2, 1) := by decide +kernel
theorem d_Th_finish_25 : decode b_Th_finish 25 = .ok (.getfield 63, 3) := by decide +kernel
theorem d_Th_finish_28 : decode b_Th_finish 28 = .ok (.iastore, 1) := by decide +kernel
theorem d_Th_finish_29 : decode b_Th_finish 29 = .ok (.aload_n 0, 1) := by decide +kernel
theorem d_Th_finish_30 : decode b_Th_finish 30 = .ok (.getfield 30, 3) := by decide +kernel
theorem d_Th_finish_33 : decode b_Th_finish 33 = .ok (.iload_n 1, 1) := by decide +kernel
theorem d_Th_finish_34 : decode b_Th_finish 34 = .ok (.aload_n 2, 1) := by decide +kernel
theorem d_Th_finish_35 : decode b_Th_finish 35 = .ok (.getfield 68, 3) := by decide +kernel
theorem d_Th_finish_38 : decode b_Th_finish 38 = .ok (.lastore, 1) := by decide +kernel
theorem d_Th_finish_39 : decode b_Th_finish 39 = .ok (.aload_n 0, 1) := by decide +kernel
theorem d_Th_finish_40 : decode b_Th_finish 40 = .ok (.getfield 34, 3) := by decide +kernel
theorem d_Th_finish_43 : decode b_Th_finish 43 = .ok (.iload_n 1, 1) := by decide +kernel
theorem d_Th_finish_44 : decode b_Th_finish 44 = .ok (.aload_n 2, 1) := by decide +kernel
theorem d_Th_finish_45 : decode b_Th_finish 45 = .ok (.getfield 72, 3) := by decide +kernel
theorem d_Th_finish_48 : decode b_Th_finish 48 = .ok (.iastore, 1) := by decide +kernel
theorem d_Th_finish_49 : decode b_Th_finish 49 = .ok (.aload_n 0, 1) := by decide +kernel
theorem d_Th_finish_50 : decode b_Th_finish 50 = .ok (.getfield 37, 3) := by decide +kernel
theorem d_Th_finish_53 : decode b_Th_finish 53 = .ok (.iload_n 1, 1) := by decide +kernel
theorem d_Th_finish_54 : decode b_Th_finish 54 = .ok (.aload_n 2, 1) := by decide +kernel
theorem d_Th_finish_55 : decode b_Th_finish 55 = .ok (.getfield 75, 3) := by decide +kernel
theorem d_Th_finish_58 : decode b_Th_finish 58 = .ok (.iastore, 1) := by decide +kernel
theorem d_Th_finish_59 : decode b_Th_finish 59 = .ok (.return_, 1) := by decide +kernel
theorem d_Wa_giveThing_0 : decode b_Wa_giveThing 0 = .ok (.aload_n 0, 1) := by decide +kernel
theorem d_Wa_giveThing_1 : decode b_Wa_giveThing 1 = .ok (.getfield 42, 3) := by decide +kernel
theorem d_Wa_giveThing_4 : decode b_Wa_giveThing 4 = .ok (.getfield 248, 3) := by decide +kernel
theorem d_Wa_giveThing_7 : decode b_Wa_giveThing 7 = .ok (.iconst 1, 1) := by decide +kernel
theorem d_Wa_giveThing_8 : decode b_Wa_giveThing 8 = .ok (.if_icmp .eq 9, 3) := by decide +kernel
theorem d_Wa_giveThing_11 : decode b_Wa_giveThing 11 = .ok (.aload_n 0, 1) := by decide +kernel
theorem d_Wa_giveThing_12 : decode b_Wa_giveThing 12 = .ok (.iconst 4, 1) := by decide +kernel
theorem d_Wa_giveThing_13 : decode b_Wa_giveThing 13 = .ok (.putfield 46, 3) := by decide +kernel
theorem d_Wa_giveThing_16 : decode b_Wa_giveThing 16 = .ok (.return_, 1) := by decide +kernel
theorem d_Wa_giveThing_17 : decode b_Wa_giveThing 17 = .ok (.aload_n 0, 1) := by decide +kernel
theorem d_Wa_giveThing_18 : decode b_Wa_giveThing 18 = .ok (.getfield 21, 3) := by decide +kernel
theorem d_Wa_giveThing_21 : decode b_Wa_giveThing 21 = .ok (.invokevirtual 185, 3) := by decide +kernel
theorem d_Wa_giveThing_24 : decode b_Wa_giveThing 24 = .ok (.ifCond .eq 9, 3) := by decide +kernel
theorem d_Wa_giveThing_27 : decode b_Wa_giveThing 27 = .ok (.aload_n 0, 1) := by decide +kernel
theorem d_Wa_giveThing_28 : decode b_Wa_giveThing 28 = .ok (.iconst 5, 1) := by decide +kernel
theorem d_Wa_giveThing_29 : decode b_Wa_giveThing 29 = .ok (.putfield 46, 3) := by decide +kernel
theorem d_Wa_giveThing_32 : decode b_Wa_giveThing 32 = .ok (.return_, 1) := by decide +kernel
theorem d_Wa_giveThing_33 : decode b_Wa_giveThing 33 = .ok (.aload_n 0, 1) := by decide +kernel
theorem d_Wa_giveThing_34 : decode b_Wa_giveThing 34 = .ok (.getfield 35, 3) := by decide +kernel
theorem d_Wa_giveThing_37 : decode b_Wa_giveThing 37 = .ok (.invokevirtual 190, 3) := by decide +kernel
theorem d_Wa_giveThing_40 : decode b_Wa_giveThing 40 = .ok (.aload_n 0, 1) := by decide +kernel
theorem d_Wa_giveThing_41 : decode b_Wa_giveThing 41 = .ok (.aload_n 0, 1) := by decide +kernel
theorem d_Wa_giveThing_42 : decode b_Wa_giveThing 42 = .ok (.getfield 12, 3) := by decide +kernel
theorem d_Wa_giveThing_45 : decode b_Wa_giveThing 45 = .ok (.aload_n 0, 1) := by decide +kernel
theorem d_Wa_giveThing_46 : decode b_Wa_giveThing 46 = .ok (.getfield 42, 3) := by decide +kernel
theorem d_Wa_giveThing_49 : decode b_Wa_giveThing 49 = .ok (.getfield 239, 3) := by decide +kernel
theorem d_Wa_giveThing_52 : decode b_Wa_giveThing 52 = .ok (.invokevirtual 141, 3) := by decide +kernel
theorem d_Wa_giveThing_55 : decode b_Wa_giveThing 55 = .ok (.aload_n 0, 1) := by decide +kernel
theorem d_Wa_giveThing_56 : decode b_Wa_giveThing 56 = .ok (.getfield 21, 3) := by decide +kernel
theorem d_Wa_giveThing_59 : decode b_Wa_giveThing 59 = .ok (.iload_n 1, 1) := by decide +kernel
theorem d_Wa_giveThing_60 : decode b_Wa_giveThing 60 = .ok (.aload_n 0, 1) := by decide +kernel
theorem d_Wa_giveThing_61 : decode b_Wa_giveThing 61 = .ok (.getfield 42, 3) := by decide +kernel
theorem d_Wa_giveThing_64 : decode b_Wa_giveThing 64 = .ok (.getfield 245, 3) := by decide +kernel
theorem d_Wa_giveThing_67 : decode b_Wa_giveThing 67 = .ok (.invokevirtual 186, 3) := by decide +kernel
theorem d_Wa_giveThing_70 : decode b_Wa_giveThing 70 = .ok (.invokevirtual 93, 3) := by decide +kernel
theorem d_Wa_giveThing_73 : decode b_Wa_giveThing 73 = .ok (.return_, 1) := by decide +kernel
theorem d_Wa_thenSecond_0 : decode b_Wa_thenSecond 0 = .ok (.aload_n 0, 1) := by decide +kernel
theorem d_Wa_thenSecond_1 : decode b_Wa_thenSecond 1 = .ok (.getfield 42, 3) := by decide +kernel
theorem d_Wa_thenSecond_4 : decode b_Wa_thenSecond 4 = .ok (.getfield 248, 3) := by decide +kernel
theorem d_Wa_thenSecond_7 : decode b_Wa_thenSecond 7 = .ok (.ifCond .eq 9, 3) := by decide +kernel
theorem d_Wa_thenSecond_10 : decode b_Wa_thenSecond 10 = .ok (.aload_n 0, 1) := by decide +kernel
theorem d_Wa_thenSecond_11 : decode b_Wa_thenSecond 11 = .ok (.iconst 4, 1) := by decide +kernel
theorem d_Wa_thenSecond_12 : decode b_Wa_thenSecond 12 = .ok (.putfield 46, 3) := by decide +kernel
theorem d_Wa_thenSecond_15 : decode b_Wa_thenSecond 15 = .ok (.return_, 1) := by decide +kernel
theorem d_Wa_thenSecond_16 : decode b_Wa_thenSecond 16 = .ok (.aload_n 0, 1) := by decide +kernel
theorem d_Wa_thenSecond_17 : decode b_Wa_thenSecond 17 = .ok (.getfield 35, 3) := by decide +kernel
theorem d_Wa_thenSecond_20 : decode b_Wa_thenSecond 20 = .ok (.invokevirtual 190, 3) := by decide +kernel
theorem d_Wa_thenSecond_23 : decode b_Wa_thenSecond 23 = .ok (.aload_n 0, 1) := by decide +kernel
theorem d_Wa_thenSecond_24 : decode b_Wa_thenSecond 24 = .ok (.getfield 35, 3) := by decide +kernel
theorem d_Wa_thenSecond_27 : decode b_Wa_thenSecond 27 = .ok (.iconst 3, 1) := by decide +kernel
theorem d_Wa_thenSecond_28 : decode b_Wa_thenSecond 28 = .ok (.iload_n 1, 1) := by decide +kernel
theorem d_Wa_thenSecond_29 : decode b_Wa_thenSecond 29 = .ok (.iconst (-1), 1) := by decide +kernel
theorem d_Wa_thenSecond_30 : decode b_Wa_thenSecond 30 = .ok (.aload_n 0, 1) := by decide +kernel
theorem d_Wa_thenSecond_31 : decode b_Wa_thenSecond 31 = .ok (.getfield 42, 3) := by decide +kernel
theorem d_Wa_thenSecond_34 : decode b_Wa_thenSecond 34 = .ok (.getfield 251, 3) := by decide +kernel
theorem d_Wa_thenSecond_37 : decode b_Wa_thenSecond 37 = .ok (.invokevirtual 182, 3) := by decide +kernel
theorem d_Wa_thenSecond_40 : decode b_Wa_thenSecond 40 = .ok (.aload_n 0, 1) := by decide +kernel
theorem d_Wa_thenSecond_41 : decode b_Wa_thenSecond 41 = .ok (.aload_n 0, 1) := by decide +kernel
theorem d_Wa_thenSecond_42 : decode b_Wa_thenSecond 42 = .ok (.getfield 12, 3) := by decide +kernel
theorem d_Wa_thenSecond_45 : decode b_Wa_thenSecond 45 = .ok (.iload_n 1, 1) := by decide +kernel
theorem d_Wa_thenSecond_46 : decode b_Wa_thenSecond 46 = .ok (.invokevirtual 146, 3) := by decide +kernel
theorem d_Wa_thenSecond_49 : decode b_Wa_thenSecond 49 = .ok (.iload_n 2, 1) := by decide +kernel
theorem d_Wa_thenSecond_50 : decode b_Wa_thenSecond 50 = .ok (.invokevirtual 93, 3) := by decide +kernel
theorem d_Wa_thenSecond_53 : decode b_Wa_thenSecond 53 = .ok (.return_, 1) := by decide +kernel
theorem d_Te_thirdOf_0 : decode b_Te_thirdOf 0 = .ok (.aload_n 0, 1) := by decide +kernel
theorem d_Te_thirdOf_1 : decode b_Te_thirdOf 1 = .ok (.iload_n 1, 1) := by decide +kernel
theorem d_Te_thirdOf_2 : decode b_Te_thirdOf 2 = .ok (.invokevirtual 52, 3) := by decide +kernel
theorem d_Te_thirdOf_5 : decode b_Te_thirdOf 5 = .ok (.ifCond .eq 12, 3) := by decide +kernel
theorem d_Te_thirdOf_8 : decode b_Te_thirdOf 8 = .ok (.aload_n 0, 1) := by decide +kernel
theorem d_Te_thirdOf_9 : decode b_Te_thirdOf 9 = .ok (.getfield 21, 3) := by decide +kernel
theorem d_Te_thirdOf_12 : decode b_Te_thirdOf 12 = .ok (.iload_n 1, 1) := by decide +kernel
theorem d_Te_thirdOf_13 : decode b_Te_thirdOf 13 = .ok (.iaload, 1) := by decide +kernel
theorem d_Te_thirdOf_14 : decode b_Te_thirdOf 14 = .ok (.goto 4, 3) := by decide +kernel
theorem d_Te_thirdOf_17 : decode b_Te_thirdOf 17 = .ok (.iconst (-1), 1) := by decide +kernel
theorem d_Te_thirdOf_18 : decode b_Te_thirdOf 18 = .ok (.ireturn, 1) := by decide +kernel
theorem d_Ro_numberOf_0 : decode b_Ro_numberOf 0 = .ok (.aload_n 0, 1) := by decide +kernel
theorem d_Ro_numberOf_1 : decode b_Ro_numberOf 1 = .ok (.iload_n 1, 1) := by decide +kernel
theorem d_Ro_numberOf_2 : decode b_Ro_numberOf 2 = .ok (.invokevirtual 32, 3) := by decide +kernel
theorem d_Ro_numberOf_5 : decode b_Ro_numberOf 5 = .ok (.ifCond .eq 12, 3) := by decide +kernel
theorem d_Ro_numberOf_8 : decode b_Ro_numberOf 8 = .ok (.aload_n 0, 1) := by decide +kernel
theorem d_Ro_numberOf_9 : decode b_Ro_numberOf 9 = .ok (.getfield 21, 3) := by decide +kernel
theorem d_Ro_numberOf_12 : decode b_Ro_numberOf 12 = .ok (.iload_n 1, 1) := by decide +kernel
theorem d_Ro_numberOf_13 : decode b_Ro_numberOf 13 = .ok (.laload, 1) := by decide +kernel
theorem d_Ro_numberOf_14 : decode b_Ro_numberOf 14 = .ok (.goto 4, 3) := by decide +kernel
theorem d_Ro_numberOf_17 : decode b_Ro_numberOf 17 = .ok (.lconst 0, 1) := by decide +kernel
theorem d_Ro_numberOf_18 : decode b_Ro_numberOf 18 = .ok (.lreturn, 1) := by decide +kernel
theorem d_Wa_resultOf_0 : decode b_Wa_resultOf 0 = .ok (.iload_n 0, 1) := by decide +kernel
theorem d_Wa_resultOf_1 : decode b_Wa_resultOf 1 = .ok (.tableswitch 73 0 4 #[35, 39, 43, 47, 61], 35) := by decide +kernel
theorem d_Wa_resultOf_36 : decode b_Wa_resultOf 36 = .ok (.lload_n 1, 1) := by decide +kernel
theorem d_Wa_resultOf_37 : decode b_Wa_resultOf 37 = .ok (.lload_n 3, 1) := by decide +kernel
theorem d_Wa_resultOf_38 : decode b_Wa_resultOf 38 = .ok (.ladd, 1) := by decide +kernel
theorem d_Wa_resultOf_39 : decode b_Wa_resultOf 39 = .ok (.lreturn, 1) := by decide +kernel
theorem d_Wa_resultOf_40 : decode b_Wa_resultOf 40 = .ok (.lload_n 1, 1) := by decide +kernel
theorem d_Wa_resultOf_41 : decode b_Wa_resultOf 41 = .ok (.lload_n 3, 1) := by decide +kernel
theorem d_Wa_resultOf_42 : decode b_Wa_resultOf 42 = .ok (.lsub, 1) := by decide +kernel
theorem d_Wa_resultOf_43 : decode b_Wa_resultOf 43 = .ok (.lreturn, 1) := by decide +kernel
theorem d_Wa_resultOf_44 : decode b_Wa_resultOf 44 = .ok (.lload_n 1, 1) := by decide +kernel
theorem d_Wa_resultOf_45 : decode b_Wa_resultOf 45 = .ok (.lload_n 3, 1) := by decide +kernel
theorem d_Wa_resultOf_46 : decode b_Wa_resultOf 46 = .ok (.lmul, 1) := by decide +kernel
theorem d_Wa_resultOf_47 : decode b_Wa_resultOf 47 = .ok (.lreturn, 1) := by decide +kernel
theorem d_Wa_resultOf_48 : decode b_Wa_resultOf 48 = .ok (.lload_n 3, 1) := by decide +kernel
theorem d_Wa_resultOf_49 : decode b_Wa_resultOf 49 = .ok (.lconst 0, 1) := by decide +kernel
theorem d_Wa_resultOf_50 : decode b_Wa_resultOf 50 = .ok (.lcmp, 1) := by decide +kernel
theorem d_Wa_resultOf_51 : decode b_Wa_resultOf 51 = .ok (.ifCond .ne 7, 3) := by decide +kernel
theorem d_Wa_resultOf_54 : decode b_Wa_resultOf 54 = .ok (.lconst 0, 1) := by decide +kernel
theorem d_Wa_resultOf_55 : decode b_Wa_resultOf 55 = .ok (.goto 6, 3) := by decide +kernel
theorem d_Wa_resultOf_58 : decode b_Wa_resultOf 58 = .ok (.lload_n 1, 1) := by decide +kernel
theorem d_Wa_resultOf_59 : decode b_Wa_resultOf 59 = .ok (.lload_n 3, 1) := by decide +kernel
theorem d_Wa_resultOf_60 : decode b_Wa_resultOf 60 = .ok (.ldiv, 1) := by decide +kernel
theorem d_Wa_resultOf_61 : decode b_Wa_resultOf 61 = .ok (.lreturn, 1) := by decide +kernel
theorem d_Wa_resultOf_62 : decode b_Wa_resultOf 62 = .ok (.lload_n 1, 1) := by decide +kernel
theorem d_Wa_resultOf_63 : decode b_Wa_resultOf 63 = .ok (.lload_n 3, 1) := by decide +kernel
theorem d_Wa_resultOf_64 : decode b_Wa_resultOf 64 = .ok (.lcmp, 1) := by decide +kernel
theorem d_Wa_resultOf_65 : decode b_Wa_resultOf 65 = .ok (.ifCond .ne 7, 3) := by decide +kernel
theorem d_Wa_resultOf_68 : decode b_Wa_resultOf 68 = .ok (.lconst 1, 1) := by decide +kernel
theorem d_Wa_resultOf_69 : decode b_Wa_resultOf 69 = .ok (.goto 4, 3) := by decide +kernel
theorem d_Wa_resultOf_72 : decode b_Wa_resultOf 72 = .ok (.lconst 0, 1) := by decide +kernel
theorem d_Wa_resultOf_73 : decode b_Wa_resultOf 73 = .ok (.lreturn, 1) := by decide +kernel
theorem d_Wa_resultOf_74 : decode b_Wa_resultOf 74 = .ok (.lload_n 1, 1) := by decide +kernel
theorem d_Wa_resultOf_75 : decode b_Wa_resultOf 75 = .ok (.lload_n 3, 1) := by decide +kernel
theorem d_Wa_resultOf_76 : decode b_Wa_resultOf 76 = .ok (.lcmp, 1) := by decide +kernel
theorem d_Wa_resultOf_77 : decode b_Wa_resultOf 77 = .ok (.ifCond .ge 7, 3) := by decide +kernel
theorem d_Wa_resultOf_80 : decode b_Wa_resultOf 80 = .ok (.lconst 1, 1) := by decide +kernel
theorem d_Wa_resultOf_81 : decode b_Wa_resultOf 81 = .ok (.goto 4, 3) := by decide +kernel
theorem d_Wa_resultOf_84 : decode b_Wa_resultOf 84 = .ok (.lconst 0, 1) := by decide +kernel
theorem d_Wa_resultOf_85 : decode b_Wa_resultOf 85 = .ok (.lreturn, 1) := by decide +kernel
theorem d_Wa_actWith_0 : decode b_Wa_actWith 0 = .ok (.aload_n 0, 1) := by decide +kernel
theorem d_Wa_actWith_1 : decode b_Wa_actWith 1 = .ok (.getfield 42, 3) := by decide +kernel
theorem d_Wa_actWith_4 : decode b_Wa_actWith 4 = .ok (.getfield 248, 3) := by decide +kernel
theorem d_Wa_actWith_7 : decode b_Wa_actWith 7 = .ok (.ifCond .ne 20, 3) := by decide +kernel
theorem d_Wa_actWith_10 : decode b_Wa_actWith 10 = .ok (.iload_n 1, 1) := by decide +kernel
theorem d_Wa_actWith_11 : decode b_Wa_actWith 11 = .ok (.iconst 3, 1) := by decide +kernel
theorem d_Wa_actWith_12 : decode b_Wa_actWith 12 = .ok (.if_icmp .ne 21, 3) := by decide +kernel
theorem d_Wa_actWith_15 : decode b_Wa_actWith 15 = .ok (.aload_n 0, 1) := by decide +kernel
theorem d_Wa_actWith_16 : decode b_Wa_actWith 16 = .ok (.getfield 42, 3) := by decide +kernel
theorem d_Wa_actWith_19 : decode b_Wa_actWith 19 = .ok (.getfield 251, 3) := by decide +kernel
theorem d_Wa_actWith_22 : decode b_Wa_actWith 22 = .ok (.lconst 0, 1) := by decide +kernel
theorem d_Wa_actWith_23 : decode b_Wa_actWith 23 = .ok (.lcmp, 1) := by decide +kernel
theorem d_Wa_actWith_24 : decode b_Wa_actWith 24 = .ok (.ifCond .ne 9, 3) := by decide +kernel
theorem d_Wa_actWith_27 : decode b_Wa_actWith 27 = .ok (.aload_n 0, 1) := by decide +kernel
theorem d_Wa_actWith_28 : decode b_Wa_actWith 28 = .ok (.iconst 4, 1) := by decide +kernel
theorem d_Wa_actWith_29 : decode b_Wa_actWith 29 = .ok (.putfield 46, 3) := by decide +kernel
theorem d_Wa_actWith_32 : decode b_Wa_actWith 32 = .ok (.return_, 1) := by decide +kernel
theorem d_Wa_actWith_33 : decode b_Wa_actWith 33 = .ok (.aload_n 0, 1) := by decide +kernel
theorem d_Wa_actWith_34 : decode b_Wa_actWith 34 = .ok (.getfield 35, 3) := by decide +kernel
theorem d_Wa_actWith_37 : decode b_Wa_actWith 37 = .ok (.invokevirtual 190, 3) := by decide +kernel
theorem d_Wa_actWith_40 : decode b_Wa_actWith 40 = .ok (.aload_n 0, 1) := by decide +kernel
theorem d_Wa_actWith_41 : decode b_Wa_actWith 41 = .ok (.getfield 42, 3) := by decide +kernel
theorem d_Wa_actWith_44 : decode b_Wa_actWith 44 = .ok (.iload_n 1, 1) := by decide +kernel
theorem d_Wa_actWith_45 : decode b_Wa_actWith 45 = .ok (.lload_n 2, 1) := by decide +kernel
theorem d_Wa_actWith_46 : decode b_Wa_actWith 46 = .ok (.aload_n 0, 1) := by decide +kernel
theorem d_Wa_actWith_47 : decode b_Wa_actWith 47 = .ok (.getfield 42, 3) := by decide +kernel
theorem d_Wa_actWith_50 : decode b_Wa_actWith 50 = .ok (.getfield 251, 3) := by decide +kernel
theorem d_Wa_actWith_53 : decode b_Wa_actWith 53 = .ok (.invokestatic 255, 3) := by decide +kernel
theorem d_Wa_actWith_56 : decode b_Wa_actWith 56 = .ok (.invokevirtual 89, 3) := by decide +kernel
theorem d_Wa_actWith_59 : decode b_Wa_actWith 59 = .ok (.return_, 1) := by decide +kernel
theorem d_Wa_chooseBranch_0 : decode b_Wa_chooseBranch 0 = .ok (.aload_n 0, 1) := by decide +kernel
theorem d_Wa_chooseBranch_1 : decode b_Wa_chooseBranch 1 = .ok (.getfield 42, 3) := by decide +kernel
theorem d_Wa_chooseBranch_4 : decode b_Wa_chooseBranch 4 = .ok (.getfield 248, 3) := by decide +kernel
theorem d_Wa_chooseBranch_7 : decode b_Wa_chooseBranch 7 = .ok (.ifCond .eq 9, 3) := by decide +kernel
theorem d_Wa_chooseBranch_10 : decode b_Wa_chooseBranch 10 = .ok (.aload_n 0, 1) := by decide +kernel
theorem d_Wa_chooseBranch_11 : decode b_Wa_chooseBranch 11 = .ok (.iconst 4, 1) := by decide +kernel
theorem d_Wa_chooseBranch_12 : decode b_Wa_chooseBranch 12 = .ok (.putfield 46, 3) := by decide +kernel
theorem d_Wa_chooseBranch_15 : decode b_Wa_chooseBranch 15 = .ok (.return_, 1) := by decide +kernel
theorem d_Wa_chooseBranch_16 : decode b_Wa_chooseBranch 16 = .ok (.aload_n 0, 1) := by decide +kernel
theorem d_Wa_chooseBranch_17 : decode b_Wa_chooseBranch 17 = .ok (.getfield 35, 3) := by decide +kernel
theorem d_Wa_chooseBranch_20 : decode b_Wa_chooseBranch 20 = .ok (.invokevirtual 190, 3) := by decide +kernel
theorem d_Wa_chooseBranch_23 : decode b_Wa_chooseBranch 23 = .ok (.aload_n 0, 1) := by decide +kernel
theorem d_Wa_chooseBranch_24 : decode b_Wa_chooseBranch 24 = .ok (.getfield 42, 3) := by decide +kernel
theorem d_Wa_chooseBranch_27 : decode b_Wa_chooseBranch 27 = .ok (.getfield 251, 3) := by decide +kernel
theorem d_Wa_chooseBranch_30 : decode b_Wa_chooseBranch 30 = .ok (.lconst 0, 1) := by decide +kernel
theorem d_Wa_chooseBranch_31 : decode b_Wa_chooseBranch 31 = .ok (.lcmp, 1) := by decide +kernel
theorem d_Wa_chooseBranch_32 : decode b_Wa_chooseBranch 32 = .ok (.ifCond .ne 14, 3) := by decide +kernel
theorem d_Wa_chooseBranch_35 : decode b_Wa_chooseBranch 35 = .ok (.aload_n 0, 1) := by decide +kernel
theorem d_Wa_chooseBranch_36 : decode b_Wa_chooseBranch 36 = .ok (.getfield 12, 3) := by decide +kernel
theorem d_Wa_chooseBranch_39 : decode b_Wa_chooseBranch 39 = .ok (.iload_n 1, 1) := by decide +kernel
theorem d_Wa_chooseBranch_40 : decode b_Wa_chooseBranch 40 = .ok (.invokevirtual 228, 3) := by decide +kernel
theorem d_Wa_chooseBranch_43 : decode b_Wa_chooseBranch 43 = .ok (.goto 11, 3) := by decide +kernel
theorem d_Wa_chooseBranch_46 : decode b_Wa_chooseBranch 46 = .ok (.aload_n 0, 1) := by decide +kernel
theorem d_Wa_chooseBranch_47 : decode b_Wa_chooseBranch 47 = .ok (.getfield 12, 3) := by decide +kernel
theorem d_Wa_chooseBranch_50 : decode b_Wa_chooseBranch 50 = .ok (.iload_n 1, 1) := by decide +kernel
theorem d_Wa_chooseBranch_51 : decode b_Wa_chooseBranch 51 = .ok (.invokevirtual 146, 3) := by decide +kernel
theorem d_Wa_chooseBranch_54 : decode b_Wa_chooseBranch 54 = .ok (.istore_n 3, 1) := by decide +kernel
theorem d_Wa_chooseBranch_55 : decode b_Wa_chooseBranch 55 = .ok (.aload_n 0, 1) := by decide +kernel
theorem d_Wa_chooseBranch_56 : decode b_Wa_chooseBranch 56 = .ok (.iload_n 3, 1) := by decide +kernel
theorem d_Wa_chooseBranch_57 : decode b_Wa_chooseBranch 57 = .ok (.iload_n 2, 1) := by decide +kernel
theorem d_Wa_chooseBranch_58 : decode b_Wa_chooseBranch 58 = .ok (.invokevirtual 93, 3) := by decide +kernel
theorem d_Wa_chooseBranch_61 : decode b_Wa_chooseBranch 61 = .ok (.return_, 1) := by decide +kernel
theorem d_Wa_takeOfPair_0 : decode b_Wa_takeOfPair 0 = .ok (.aload_n 0, 1) := by decide +kernel
theorem d_Wa_takeOfPair_1 : decode b_Wa_takeOfPair 1 = .ok (.getfield 42, 3) := by decide +kernel
theorem d_Wa_takeOfPair_4 : decode b_Wa_takeOfPair 4 = .ok (.getfield 248, 3) := by decide +kernel
theorem d_Wa_takeOfPair_7 : decode b_Wa_takeOfPair 7 = .ok (.iconst 2, 1) := by decide +kernel
theorem d_Wa_takeOfPair_8 : decode b_Wa_takeOfPair 8 = .ok (.if_icmp .eq 9, 3) := by decide +kernel
theorem d_Wa_takeOfPair_11 : decode b_Wa_takeOfPair 11 = .ok (.aload_n 0, 1) := by decide +kernel
theorem d_Wa_takeOfPair_12 : decode b_Wa_takeOfPair 12 = .ok (.iconst 4, 1) := by decide +kernel
theorem d_Wa_takeOfPair_13 : decode b_Wa_takeOfPair 13 = .ok (.putfield 46, 3) := by decide +kernel
theorem d_Wa_takeOfPair_16 : decode b_Wa_takeOfPair 16 = .ok (.return_, 1) := by decide +kernel
theorem d_Wa_takeOfPair_17 : decode b_Wa_takeOfPair 17 = .ok (.aload_n 0, 1) := by decide +kernel
theorem d_Wa_takeOfPair_18 : decode b_Wa_takeOfPair 18 = .ok (.iload_n 1, 1) := by decide +kernel
theorem d_Wa_takeOfPair_19 : decode b_Wa_takeOfPair 19 = .ok (.iconst 1, 1) := by decide +kernel
theorem d_Wa_takeOfPair_20 : decode b_Wa_takeOfPair 20 = .ok (.invokevirtual 107, 3) := by decide +kernel
theorem d_Wa_takeOfPair_23 : decode b_Wa_takeOfPair 23 = .ok (.return_, 1) := by decide +kernel
theorem d_Wa_stepWithValue_0 : decode b_Wa_stepWithValue 0 = .ok (.aload_n 0, 1) := by decide +kernel
theorem d_Wa_stepWithValue_1 : decode b_Wa_stepWithValue 1 = .ok (.getfield 35, 3) := by decide +kernel
theorem d_Wa_stepWithValue_4 : decode b_Wa_stepWithValue 4 = .ok (.invokevirtual 215, 3) := by decide +kernel
theorem d_Wa_stepWithValue_7 : decode b_Wa_stepWithValue 7 = .ok (.istore_n 1, 1) := by decide +kernel
theorem d_Wa_stepWithValue_8 : decode b_Wa_stepWithValue 8 = .ok (.aload_n 0, 1) := by decide +kernel
theorem d_Wa_stepWithValue_9 : decode b_Wa_stepWithValue 9 = .ok (.getfield 35, 3) := by decide +kernel
theorem d_Wa_stepWithValue_12 : decode b_Wa_stepWithValue 12 = .ok (.iload_n 1, 1) := by decide +kernel
theorem d_Wa_stepWithValue_13 : decode b_Wa_stepWithValue 13 = .ok (.invokevirtual 124, 3) := by decide +kernel
theorem d_Wa_stepWithValue_16 : decode b_Wa_stepWithValue 16 = .ok (.tableswitch 192 0 6 #[44, 73, 88, 111, 141, 164, 178], 44) := by decide +kernel
theorem d_Wa_stepWithValue_60 : decode b_Wa_stepWithValue 60 = .ok (.aload_n 0, 1) := by decide +kernel
theorem d_Wa_stepWithValue_61 : decode b_Wa_stepWithValue 61 = .ok (.getfield 28, 3) := by decide +kernel
theorem d_Wa_stepWithValue_64 : decode b_Wa_stepWithValue 64 = .ok (.aload_n 0, 1) := by decide +kernel
theorem d_Wa_stepWithValue_65 : decode b_Wa_stepWithValue 65 = .ok (.getfield 35, 3) := by decide +kernel
theorem d_Wa_stepWithValue_68 : decode b_Wa_stepWithValue 68 = .ok (.iload_n 1, 1) := by decide +kernel
theorem d_Wa_stepWithValue_69 : decode b_Wa_stepWithValue 69 = .ok (.invokevirtual 128, 3) := by decide +kernel
theorem d_Wa_stepWithValue_72 : decode b_Wa_stepWithValue 72 = .ok (.aload_n 0, 1) := by decide +kernel
theorem d_Wa_stepWithValue_73 : decode b_Wa_stepWithValue 73 = .ok (.getfield 42, 3) := by decide +kernel
theorem d_Wa_stepWithValue_76 : decode b_Wa_stepWithValue 76 = .ok (.invokevirtual 218, 3) := by decide +kernel
theorem d_Wa_stepWithValue_79 : decode b_Wa_stepWithValue 79 = .ok (.aload_n 0, 1) := by decide +kernel
theorem d_Wa_stepWithValue_80 : decode b_Wa_stepWithValue 80 = .ok (.getfield 35, 3) := by decide +kernel
theorem d_Wa_stepWithValue_83 : decode b_Wa_stepWithValue 83 = .ok (.invokevirtual 190, 3) := by decide +kernel
theorem d_Wa_stepWithValue_86 : decode b_Wa_stepWithValue 86 = .ok (.goto 127, 3) := by decide +kernel
theorem d_Wa_stepWithValue_89 : decode b_Wa_stepWithValue 89 = .ok (.aload_n 0, 1) := by decide +kernel
theorem d_Wa_stepWithValue_90 : decode b_Wa_stepWithValue 90 = .ok (.aload_n 0, 1) := by decide +kernel
theorem d_Wa_stepWithValue_91 : decode b_Wa_stepWithValue 91 = .ok (.getfield 35, 3) := by decide +kernel
theorem d_Wa_stepWithValue_94 : decode b_Wa_stepWithValue 94 = .ok (.iload_n 1, 1) := by decide +kernel
theorem d_Wa_stepWithValue_95 : decode b_Wa_stepWithValue 95 = .ok (.invokevirtual 128, 3) := by decide +kernel
theorem d_Wa_stepWithValue_98 : decode b_Wa_stepWithValue 98 = .ok (.invokevirtual 221, 3) := by decide +kernel
theorem d_Wa_stepWithValue_101 : decode b_Wa_stepWithValue 101 = .ok (.goto 112, 3) := by decide +kernel
theorem d_Wa_stepWithValue_104 : decode b_Wa_stepWithValue 104 = .ok (.aload_n 0, 1) := by decide +kernel
theorem d_Wa_stepWithValue_105 : decode b_Wa_stepWithValue 105 = .ok (.aload_n 0, 1) := by decide +kernel
theorem d_Wa_stepWithValue_106 : decode b_Wa_stepWithValue 106 = .ok (.getfield 35, 3) := by decide +kernel
theorem d_Wa_stepWithValue_109 : decode b_Wa_stepWithValue 109 = .ok (.iload_n 1, 1) := by decide +kernel
theorem d_Wa_stepWithValue_110 : decode b_Wa_stepWithValue 110 = .ok (.invokevirtual 128, 3) := by decide +kernel
theorem d_Wa_stepWithValue_113 : decode b_Wa_stepWithValue 113 = .ok (.aload_n 0, 1) := by decide +kernel
theorem d_Wa_stepWithValue_114 : decode b_Wa_stepWithValue 114 = .ok (.getfield 35, 3) := by decide +kernel
theorem d_Wa_stepWithValue_117 : decode b_Wa_stepWithValue 117 = .ok (.iload_n 1, 1) := by decide +kernel
theorem d_Wa_stepWithValue_118 : decode b_Wa_stepWithValue 118 = .ok (.invokevirtual 224, 3) := by decide +kernel
theorem d_Wa_stepWithValue_121 : decode b_Wa_stepWithValue 121 = .ok (.invokevirtual 225, 3) := by decide +kernel
theorem d_Wa_stepWithValue_124 : decode b_Wa_stepWithValue 124 = .ok (.goto 89, 3) := by decide +kernel
theorem d_Wa_stepWithValue_127 : decode b_Wa_stepWithValue 127 = .ok (.aload_n 0, 1) := by decide +kernel
theorem d_Wa_stepWithValue_128 : decode b_Wa_stepWithValue 128 = .ok (.aload_n 0, 1) := by decide +kernel
theorem d_Wa_stepWithValue_129 : decode b_Wa_stepWithValue 129 = .ok (.getfield 12, 3) := by decide +kernel
theorem d_Wa_stepWithValue_132 : decode b_Wa_stepWithValue 132 = .ok (.aload_n 0, 1) := by decide +kernel
theorem d_Wa_stepWithValue_133 : decode b_Wa_stepWithValue 133 = .ok (.getfield 35, 3) := by decide +kernel
theorem d_Wa_stepWithValue_136 : decode b_Wa_stepWithValue 136 = .ok (.iload_n 1, 1) := by decide +kernel
theorem d_Wa_stepWithValue_137 : decode b_Wa_stepWithValue 137 = .ok (.invokevirtual 128, 3) := by decide +kernel
theorem d_Wa_stepWithValue_140 : decode b_Wa_stepWithValue 140 = .ok (.invokevirtual 228, 3) := by decide +kernel
theorem d_Wa_stepWithValue_143 : decode b_Wa_stepWithValue 143 = .ok (.aload_n 0, 1) := by decide +kernel
theorem d_Wa_stepWithValue_144 : decode b_Wa_stepWithValue 144 = .ok (.getfield 35, 3) := by decide +kernel
theorem d_Wa_stepWithValue_147 : decode b_Wa_stepWithValue 147 = .ok (.iload_n 1, 1) := by decide +kernel
theorem d_Wa_stepWithValue_148 : decode b_Wa_stepWithValue 148 = .ok (.invokevirtual 231, 3) := by decide +kernel
theorem d_Wa_stepWithValue_151 : decode b_Wa_stepWithValue 151 = .ok (.invokevirtual 232, 3) := by decide +kernel
theorem d_Wa_stepWithValue_154 : decode b_Wa_stepWithValue 154 = .ok (.goto 59, 3) := by decide +kernel
theorem d_Wa_stepWithValue_157 : decode b_Wa_stepWithValue 157 = .ok (.aload_n 0, 1) := by decide +kernel
theorem d_Wa_stepWithValue_158 : decode b_Wa_stepWithValue 158 = .ok (.aload_n 0, 1) := by decide +kernel
theorem d_Wa_stepWithValue_159 : decode b_Wa_stepWithValue 159 = .ok (.getfield 35, 3) := by decide +kernel
theorem d_Wa_stepWithValue_162 : decode b_Wa_stepWithValue 162 = .ok (.iload_n 1, 1) := by decide +kernel
theorem d_Wa_stepWithValue_163 : decode b_Wa_stepWithValue 163 = .ok (.invokevirtual 128, 3) := by decide +kernel
theorem d_Wa_stepWithValue_166 : decode b_Wa_stepWithValue 166 = .ok (.aload_n 0, 1) := by decide +kernel
theorem d_Wa_stepWithValue_167 : decode b_Wa_stepWithValue 167 = .ok (.getfield 35, 3) := by decide +kernel
theorem d_Wa_stepWithValue_170 : decode b_Wa_stepWithValue 170 = .ok (.iload_n 1, 1) := by decide +kernel
theorem d_Wa_stepWithValue_171 : decode b_Wa_stepWithValue 171 = .ok (.invokevirtual 224, 3) := by decide +kernel
theorem d_Wa_stepWithValue_174 : decode b_Wa_stepWithValue 174 = .ok (.invokevirtual 236, 3) := by decide +kernel
theorem d_Wa_stepWithValue_177 : decode b_Wa_stepWithValue 177 = .ok (.goto 36, 3) := by decide +kernel
theorem d_Wa_stepWithValue_180 : decode b_Wa_stepWithValue 180 = .ok (.aload_n 0, 1) := by decide +kernel
theorem d_Wa_stepWithValue_181 : decode b_Wa_stepWithValue 181 = .ok (.aload_n 0, 1) := by decide +kernel
theorem d_Wa_stepWithValue_182 : decode b_Wa_stepWithValue 182 = .ok (.getfield 42, 3) := by decide +kernel
theorem d_Wa_stepWithValue_185 : decode b_Wa_stepWithValue 185 = .ok (.getfield 239, 3) := by decide +kernel
theorem d_Wa_stepWithValue_188 : decode b_Wa_stepWithValue 188 = .ok (.invokevirtual 242, 3) := by decide +kernel
theorem d_Wa_stepWithValue_191 : decode b_Wa_stepWithValue 191 = .ok (.goto 22, 3) := by decide +kernel
theorem d_Wa_stepWithValue_194 : decode b_Wa_stepWithValue 194 = .ok (.aload_n 0, 1) := by decide +kernel
theorem d_Wa_stepWithValue_195 : decode b_Wa_stepWithValue 195 = .ok (.aload_n 0, 1) := by decide +kernel
theorem d_Wa_stepWithValue_196 : decode b_Wa_stepWithValue 196 = .ok (.getfield 42, 3) := by decide +kernel
theorem d_Wa_stepWithValue_199 : decode b_Wa_stepWithValue 199 = .ok (.getfield 245, 3) := by decide +kernel
theorem d_Wa_stepWithValue_202 : decode b_Wa_stepWithValue 202 = .ok (.invokevirtual 242, 3) := by decide +kernel
theorem d_Wa_stepWithValue_205 : decode b_Wa_stepWithValue 205 = .ok (.goto 8, 3) := by decide +kernel
theorem d_Wa_stepWithValue_208 : decode b_Wa_stepWithValue 208 = .ok (.aload_n 0, 1) := by decide +kernel
theorem d_Wa_stepWithValue_209 : decode b_Wa_stepWithValue 209 = .ok (.iconst 4, 1) := by decide +kernel
theorem d_Wa_stepWithValue_210 : decode b_Wa_stepWithValue 210 = .ok (.putfield 46, 3) := by decide +kernel
theorem d_Wa_stepWithValue_213 : decode b_Wa_stepWithValue 213 = .ok (.return_, 1) := by decide +kernel
theorem d_Wa_step_0 : decode b_Wa_step 0 = .ok (.aload_n 0, 1) := by decide +kernel
theorem d_Wa_step_1 : decode b_Wa_step 1 = .ok (.getfield 78, 3) := by decide +kernel
theorem d_Wa_step_4 : decode b_Wa_step 4 = .ok (.ifCond .le 20, 3) := by decide +kernel
theorem d_Wa_step_7 : decode b_Wa_step 7 = .ok (.aload_n 0, 1) := by decide +kernel
theorem d_Wa_step_8 : decode b_Wa_step 8 = .ok (.getfield 66, 3) := by decide +kernel
theorem d_Wa_step_11 : decode b_Wa_step 11 = .ok (.aload_n 0, 1) := by decide +kernel
theorem d_Wa_step_12 : decode b_Wa_step 12 = .ok (.getfield 78, 3) := by decide +kernel
theorem d_Wa_step_15 : decode b_Wa_step 15 = .ok (.irem, 1) := by decide +kernel
theorem d_Wa_step_16 : decode b_Wa_step 16 = .ok (.ifCond .ne 8, 3) := by decide +kernel
theorem d_Wa_step_19 : decode b_Wa_step 19 = .ok (.aload_n 0, 1) := by decide +kernel
theorem d_Wa_step_20 : decode b_Wa_step 20 = .ok (.invokevirtual 97, 3) := by decide +kernel
theorem d_Wa_step_23 : decode b_Wa_step 23 = .ok (.pop, 1) := by decide +kernel
theorem d_Wa_step_24 : decode b_Wa_step 24 = .ok (.aload_n 0, 1) := by decide +kernel
theorem d_Wa_step_25 : decode b_Wa_step 25 = .ok (.dup, 1) := by decide +kernel
theorem d_Wa_step_26 : decode b_Wa_step 26 = .ok (.getfield 66, 3) := by decide +kernel
theorem d_Wa_step_29 : decode b_Wa_step 29 = .ok (.iconst 1, 1) := by decide +kernel
theorem d_Wa_step_30 : decode b_Wa_step 30 = .ok (.iadd, 1) := by decide +kernel
theorem d_Wa_step_31 : decode b_Wa_step 31 = .ok (.putfield 66, 3) := by decide +kernel
theorem d_Wa_step_34 : decode b_Wa_step 34 = .ok (.aload_n 0, 1) := by decide +kernel
theorem d_Wa_step_35 : decode b_Wa_step 35 = .ok (.getfield 54, 3) := by decide +kernel
theorem d_Wa_step_38 : decode b_Wa_step 38 = .ok (.ifCond .ne 10, 3) := by decide +kernel
theorem d_Wa_step_41 : decode b_Wa_step 41 = .ok (.aload_n 0, 1) := by decide +kernel
theorem d_Wa_step_42 : decode b_Wa_step 42 = .ok (.invokevirtual 101, 3) := by decide +kernel
theorem d_Wa_step_45 : decode b_Wa_step 45 = .ok (.goto 27, 3) := by decide +kernel
theorem d_Wa_step_48 : decode b_Wa_step 48 = .ok (.aload_n 0, 1) := by decide +kernel
theorem d_Wa_step_49 : decode b_Wa_step 49 = .ok (.getfield 54, 3) := by decide +kernel
theorem d_Wa_step_52 : decode b_Wa_step 52 = .ok (.iconst 1, 1) := by decide +kernel
theorem d_Wa_step_53 : decode b_Wa_step 53 = .ok (.if_icmp .ne 10, 3) := by decide +kernel
theorem d_Wa_step_56 : decode b_Wa_step 56 = .ok (.aload_n 0, 1) := by decide +kernel
theorem d_Wa_step_57 : decode b_Wa_step 57 = .ok (.invokevirtual 104, 3) := by decide +kernel
theorem d_Wa_step_60 : decode b_Wa_step 60 = .ok (.goto 12, 3) := by decide +kernel
theorem d_Wa_step_63 : decode b_Wa_step 63 = .ok (.aload_n 0, 1) := by decide +kernel
theorem d_Wa_step_64 : decode b_Wa_step 64 = .ok (.aload_n 0, 1) := by decide +kernel
theorem d_Wa_step_65 : decode b_Wa_step 65 = .ok (.getfield 63, 3) := by decide +kernel
theorem d_Wa_step_68 : decode b_Wa_step 68 = .ok (.iconst 0, 1) := by decide +kernel
theorem d_Wa_step_69 : decode b_Wa_step 69 = .ok (.invokevirtual 107, 3) := by decide +kernel
theorem d_Wa_step_72 : decode b_Wa_step 72 = .ok (.aload_n 0, 1) := by decide +kernel
theorem d_Wa_step_73 : decode b_Wa_step 73 = .ok (.getfield 46, 3) := by decide +kernel
theorem d_Wa_step_76 : decode b_Wa_step 76 = .ok (.iconst 1, 1) := by decide +kernel
theorem d_Wa_step_77 : decode b_Wa_step 77 = .ok (.if_icmp .ne 26, 3) := by decide +kernel
theorem d_Wa_step_80 : decode b_Wa_step 80 = .ok (.aload_n 0, 1) := by decide +kernel
theorem d_Wa_step_81 : decode b_Wa_step 81 = .ok (.getfield 54, 3) := by decide +kernel
theorem d_Wa_step_84 : decode b_Wa_step 84 = .ok (.iconst 1, 1) := by decide +kernel
theorem d_Wa_step_85 : decode b_Wa_step 85 = .ok (.if_icmp .ne 18, 3) := by decide +kernel
theorem d_Wa_step_88 : decode b_Wa_step 88 = .ok (.aload_n 0, 1) := by decide +kernel
theorem d_Wa_step_89 : decode b_Wa_step 89 = .ok (.getfield 35, 3) := by decide +kernel
theorem d_Wa_step_92 : decode b_Wa_step 92 = .ok (.getfield 111, 3) := by decide +kernel
theorem d_Wa_step_95 : decode b_Wa_step 95 = .ok (.ifCond .ne 8, 3) := by decide +kernel
theorem d_Wa_step_98 : decode b_Wa_step 98 = .ok (.aload_n 0, 1) := by decide +kernel
theorem d_Wa_step_99 : decode b_Wa_step 99 = .ok (.iconst 2, 1) := by decide +kernel
theorem d_Wa_step_100 : decode b_Wa_step 100 = .ok (.putfield 46, 3) := by decide +kernel
theorem d_Wa_step_103 : decode b_Wa_step 103 = .ok (.return_, 1) := by decide +kernel
theorem d_Wa_tally_0 : decode b_Wa_tally 0 = .ok (.iload_n 1, 1) := by decide +kernel
theorem d_Wa_tally_1 : decode b_Wa_tally 1 = .ok (.tableswitch 90 0 6 #[43, 48, 56, 64, 72, 80, 85], 43) := by decide +kernel
theorem d_Wa_tally_44 : decode b_Wa_tally 44 = .ok (.aload_n 0, 1) := by decide +kernel
theorem d_Wa_tally_45 : decode b_Wa_tally 45 = .ok (.getfield 66, 3) := by decide +kernel
theorem d_Wa_tally_48 : decode b_Wa_tally 48 = .ok (.ireturn, 1) := by decide +kernel
theorem d_Wa_tally_49 : decode b_Wa_tally 49 = .ok (.aload_n 0, 1) := by decide +kernel
theorem d_Wa_tally_50 : decode b_Wa_tally 50 = .ok (.getfield 28, 3) := by decide +kernel
theorem d_Wa_tally_53 : decode b_Wa_tally 53 = .ok (.getfield 114, 3) := by decide +kernel
theorem d_Wa_tally_56 : decode b_Wa_tally 56 = .ok (.ireturn, 1) := by decide +kernel
theorem d_Wa_tally_57 : decode b_Wa_tally 57 = .ok (.aload_n 0, 1) := by decide +kernel
theorem d_Wa_tally_58 : decode b_Wa_tally 58 = .ok (.getfield 28, 3) := by decide +kernel
theorem d_Wa_tally_61 : decode b_Wa_tally 61 = .ok (.getfield 117, 3) := by decide +kernel
theorem d_Wa_tally_64 : decode b_Wa_tally 64 = .ok (.ireturn, 1) := by decide +kernel
theorem d_Wa_tally_65 : decode b_Wa_tally 65 = .ok (.aload_n 0, 1) := by decide +kernel
theorem d_Wa_tally_66 : decode b_Wa_tally 66 = .ok (.getfield 35, 3) := by decide +kernel
theorem d_Wa_tally_69 : decode b_Wa_tally 69 = .ok (.getfield 111, 3) := by decide +kernel
theorem d_Wa_tally_72 : decode b_Wa_tally 72 = .ok (.ireturn, 1) := by decide +kernel
theorem d_Wa_tally_73 : decode b_Wa_tally 73 = .ok (.aload_n 0, 1) := by decide +kernel
theorem d_Wa_tally_74 : decode b_Wa_tally 74 = .ok (.getfield 35, 3) := by decide +kernel
theorem d_Wa_tally_77 : decode b_Wa_tally 77 = .ok (.getfield 120, 3) := by decide +kernel
theorem d_Wa_tally_80 : decode b_Wa_tally 80 = .ok (.ireturn, 1) := by decide +kernel
theorem d_Wa_tally_81 : decode b_Wa_tally 81 = .ok (.aload_n 0, 1) := by decide +kernel
theorem d_Wa_tally_82 : decode b_Wa_tally 82 = .ok (.getfield 69, 3) := by decide +kernel
theorem d_Wa_tally_85 : decode b_Wa_tally 85 = .ok (.ireturn, 1) := by decide +kernel
theorem d_Wa_tally_86 : decode b_Wa_tally 86 = .ok (.aload_n 0, 1) := by decide +kernel
theorem d_Wa_tally_87 : decode b_Wa_tally 87 = .ok (.getfield 72, 3) := by decide +kernel
theorem d_Wa_tally_90 : decode b_Wa_tally 90 = .ok (.ireturn, 1) := by decide +kernel
theorem d_Wa_tally_91 : decode b_Wa_tally 91 = .ok (.aload_n 0, 1) := by decide +kernel
theorem d_Wa_tally_92 : decode b_Wa_tally 92 = .ok (.getfield 21, 3) := by decide +kernel
theorem d_Wa_tally_95 : decode b_Wa_tally 95 = .ok (.getfield 123, 3) := by decide +kernel
theorem d_Wa_tally_98 : decode b_Wa_tally 98 = .ok (.ireturn, 1) := by decide +kernel
theorem d_Wa_ringThing_0 : decode b_Wa_ringThing 0 = .ok (.aload_n 0, 1) := by decide +kernel
theorem d_Wa_ringThing_1 : decode b_Wa_ringThing 1 = .ok (.getfield 46, 3) := by decide +kernel
theorem d_Wa_ringThing_4 : decode b_Wa_ringThing 4 = .ok (.iconst 3, 1) := by decide +kernel
theorem d_Wa_ringThing_5 : decode b_Wa_ringThing 5 = .ok (.if_icmp .ne 7, 3) := by decide +kernel
theorem d_Wa_ringThing_8 : decode b_Wa_ringThing 8 = .ok (.iload_n 1, 1) := by decide +kernel
theorem d_Wa_ringThing_9 : decode b_Wa_ringThing 9 = .ok (.ifCond .ge 5, 3) := by decide +kernel
theorem d_Wa_ringThing_12 : decode b_Wa_ringThing 12 = .ok (.iconst (-1), 1) := by decide +kernel
theorem d_Wa_ringThing_13 : decode b_Wa_ringThing 13 = .ok (.ireturn, 1) := by decide +kernel
theorem d_Wa_ringThing_14 : decode b_Wa_ringThing 14 = .ok (.iconst (-1), 1) := by decide +kernel
theorem d_Wa_ringThing_15 : decode b_Wa_ringThing 15 = .ok (.istore_n 2, 1) := by decide +kernel
theorem d_Wa_ringThing_16 : decode b_Wa_ringThing 16 = .ok (.iconst 0, 1) := by decide +kernel
theorem d_Wa_ringThing_17 : decode b_Wa_ringThing 17 = .ok (.istore_n 3, 1) := by decide +kernel
theorem d_Wa_ringThing_18 : decode b_Wa_ringThing 18 = .ok (.iload_n 3, 1) := by decide +kernel
theorem d_Wa_ringThing_19 : decode b_Wa_ringThing 19 = .ok (.aload_n 0, 1) := by decide +kernel
theorem d_Wa_ringThing_20 : decode b_Wa_ringThing 20 = .ok (.getfield 35, 3) := by decide +kernel
theorem d_Wa_ringThing_23 : decode b_Wa_ringThing 23 = .ok (.getfield 111, 3) := by decide +kernel
theorem d_Wa_ringThing_26 : decode b_Wa_ringThing 26 = .ok (.if_icmp .ge 55, 3) := by decide +kernel
theorem d_Wa_ringThing_29 : decode b_Wa_ringThing 29 = .ok (.aload_n 0, 1) := by decide +kernel
theorem d_Wa_ringThing_30 : decode b_Wa_ringThing 30 = .ok (.getfield 35, 3) := by decide +kernel
theorem d_Wa_ringThing_33 : decode b_Wa_ringThing 33 = .ok (.iload_n 3, 1) := by decide +kernel
theorem d_Wa_ringThing_34 : decode b_Wa_ringThing 34 = .ok (.invokevirtual 124, 3) := by decide +kernel
theorem d_Wa_ringThing_37 : decode b_Wa_ringThing 37 = .ok (.ifCond .ne 38, 3) := by decide +kernel
theorem d_Wa_ringThing_40 : decode b_Wa_ringThing 40 = .ok (.aload_n 0, 1) := by decide +kernel
theorem d_Wa_ringThing_41 : decode b_Wa_ringThing 41 = .ok (.getfield 35, 3) := by decide +kernel
theorem d_Wa_ringThing_44 : decode b_Wa_ringThing 44 = .ok (.iload_n 3, 1) := by decide +kernel
theorem d_Wa_ringThing_45 : decode b_Wa_ringThing 45 = .ok (.invokevirtual 128, 3) := by decide +kernel
theorem d_Wa_ringThing_48 : decode b_Wa_ringThing 48 = .ok (.istore 4, 2) := by decide +kernel
theorem d_Wa_ringThing_50 : decode b_Wa_ringThing 50 = .ok (.iload_n 2, 1) := by decide +kernel
theorem d_Wa_ringThing_51 : decode b_Wa_ringThing 51 = .ok (.iconst (-1), 1) := by decide +kernel
theorem d_Wa_ringThing_52 : decode b_Wa_ringThing 52 = .ok (.if_icmp .ne 12, 3) := by decide +kernel
theorem d_Wa_ringThing_55 : decode b_Wa_ringThing 55 = .ok (.iload 4, 2) := by decide +kernel
theorem d_Wa_ringThing_57 : decode b_Wa_ringThing 57 = .ok (.aload_n 0, 1) := by decide +kernel
theorem d_Wa_ringThing_58 : decode b_Wa_ringThing 58 = .ok (.getfield 75, 3) := by decide +kernel
theorem d_Wa_ringThing_61 : decode b_Wa_ringThing 61 = .ok (.if_icmp .ne 6, 3) := by decide +kernel
theorem d_Wa_ringThing_64 : decode b_Wa_ringThing 64 = .ok (.iinc 2 1, 3) := by decide +kernel
theorem d_Wa_ringThing_67 : decode b_Wa_ringThing 67 = .ok (.iload_n 2, 1) := by decide +kernel
theorem d_Wa_ringThing_68 : decode b_Wa_ringThing 68 = .ok (.iload_n 1, 1) := by decide +kernel
theorem d_Wa_ringThing_69 : decode b_Wa_ringThing 69 = .ok (.if_icmp .ne 6, 3) := by decide +kernel
theorem d_Wa_ringThing_72 : decode b_Wa_ringThing 72 = .ok (.iload 4, 2) := by decide +kernel
theorem d_Wa_ringThing_74 : decode b_Wa_ringThing 74 = .ok (.ireturn, 1) := by decide +kernel
theorem d_Wa_ringThing_75 : decode b_Wa_ringThing 75 = .ok (.iinc 3 1, 3) := by decide +kernel
theorem d_Wa_ringThing_78 : decode b_Wa_ringThing 78 = .ok (.goto (-60), 3) := by decide +kernel
theorem d_Wa_ringThing_81 : decode b_Wa_ringThing 81 = .ok (.iconst (-1), 1) := by decide +kernel
theorem d_Wa_ringThing_82 : decode b_Wa_ringThing 82 = .ok (.ireturn, 1) := by decide +kernel
theorem d_Te_isFull_0 : decode b_Te_isFull 0 = .ok (.aload_n 0, 1) := by decide +kernel
theorem d_Te_isFull_1 : decode b_Te_isFull 1 = .ok (.getfield 31, 3) := by decide +kernel
theorem d_Te_isFull_4 : decode b_Te_isFull 4 = .ok (.sipush 200, 3) := by decide +kernel
theorem d_Te_isFull_7 : decode b_Te_isFull 7 = .ok (.if_icmp .lt 7, 3) := by decide +kernel
theorem d_Te_isFull_10 : decode b_Te_isFull 10 = .ok (.iconst 1, 1) := by decide +kernel
theorem d_Te_isFull_11 : decode b_Te_isFull 11 = .ok (.goto 4, 3) := by decide +kernel
theorem d_Te_isFull_14 : decode b_Te_isFull 14 = .ok (.iconst 0, 1) := by decide +kernel
theorem d_Te_isFull_15 : decode b_Te_isFull 15 = .ok (.ireturn, 1) := by decide +kernel
theorem d_Te_add_0 : decode b_Te_add 0 = .ok (.aload_n 0, 1) := by decide +kernel
theorem d_Te_add_1 : decode b_Te_add 1 = .ok (.getfield 31, 3) := by decide +kernel
theorem d_Te_add_4 : decode b_Te_add 4 = .ok (.istore 8, 2) := by decide +kernel
theorem d_Te_add_6 : decode b_Te_add 6 = .ok (.iload 8, 2) := by decide +kernel
theorem d_Te_add_8 : decode b_Te_add 8 = .ok (.ifCond .lt 11, 3) := by decide +kernel
theorem d_Te_add_11 : decode b_Te_add 11 = .ok (.iload 8, 2) := by decide +kernel
theorem d_Te_add_13 : decode b_Te_add 13 = .ok (.sipush 200, 3) := by decide +kernel
theorem d_Te_add_16 : decode b_Te_add 16 = .ok (.if_icmp .lt 5, 3) := by decide +kernel
theorem d_Te_add_19 : decode b_Te_add 19 = .ok (.iconst (-1), 1) := by decide +kernel
theorem d_Te_add_20 : decode b_Te_add 20 = .ok (.ireturn, 1) := by decide +kernel
theorem d_Te_add_21 : decode b_Te_add 21 = .ok (.aload_n 0, 1) := by decide +kernel
theorem d_Te_add_22 : decode b_Te_add 22 = .ok (.getfield 9, 3) := by decide +kernel
theorem d_Te_add_25 : decode b_Te_add 25 = .ok (.iload 8, 2) := by decide +kernel
theorem d_Te_add_27 : decode b_Te_add 27 = .ok (.iload_n 1, 1) := by decide +kernel
theorem d_Te_add_28 : decode b_Te_add 28 = .ok (.iastore, 1) := by decide +kernel
theorem d_Te_add_29 : decode b_Te_add 29 = .ok (.aload_n 0, 1) := by decide +kernel
theorem d_Te_add_30 : decode b_Te_add 30 = .ok (.getfield 15, 3) := by decide +kernel
theorem d_Te_add_33 : decode b_Te_add 33 = .ok (.iload 8, 2) := by decide +kernel
theorem d_Te_add_35 : decode b_Te_add 35 = .ok (.iload_n 2, 1) := by decide +kernel
theorem d_Te_add_36 : decode b_Te_add 36 = .ok (.iastore, 1) := by decide +kernel
theorem d_Te_add_37 : decode b_Te_add 37 = .ok (.aload_n 0, 1) := by decide +kernel
theorem d_Te_add_38 : decode b_Te_add 38 = .ok (.getfield 18, 3) := by decide +kernel
theorem d_Te_add_41 : decode b_Te_add 41 = .ok (.iload 8, 2) := by decide +kernel
theorem d_Te_add_43 : decode b_Te_add 43 = .ok (.iload_n 3, 1) := by decide +kernel
theorem d_Te_add_44 : decode b_Te_add 44 = .ok (.iastore, 1) := by decide +kernel
theorem d_Te_add_45 : decode b_Te_add 45 = .ok (.aload_n 0, 1) := by decide +kernel
theorem d_Te_add_46 : decode b_Te_add 46 = .ok (.getfield 21, 3) := by decide +kernel
theorem d_Te_add_49 : decode b_Te_add 49 = .ok (.iload 8, 2) := by decide +kernel
theorem d_Te_add_51 : decode b_Te_add 51 = .ok (.iload 4, 2) := by decide +kernel
theorem d_Te_add_53 : decode b_Te_add 53 = .ok (.iastore, 1) := by decide +kernel
theorem d_Te_add_54 : decode b_Te_add 54 = .ok (.aload_n 0, 1) := by decide +kernel
theorem d_Te_add_55 : decode b_Te_add 55 = .ok (.getfield 24, 3) := by decide +kernel
theorem d_Te_add_58 : decode b_Te_add 58 = .ok (.iload 8, 2) := by decide +kernel
theorem d_Te_add_60 : decode b_Te_add 60 = .ok (.lload 5, 2) := by decide +kernel
theorem d_Te_add_62 : decode b_Te_add 62 = .ok (.lastore, 1) := by decide +kernel
theorem d_Te_add_63 : decode b_Te_add 63 = .ok (.aload_n 0, 1) := by decide +kernel
theorem d_Te_add_64 : decode b_Te_add 64 = .ok (.getfield 28, 3) := by decide +kernel
theorem d_Te_add_67 : decode b_Te_add 67 = .ok (.iload 8, 2) := by decide +kernel
theorem d_Te_add_69 : decode b_Te_add 69 = .ok (.iload 7, 2) := by decide +kernel
theorem d_Te_add_71 : decode b_Te_add 71 = .ok (.iastore, 1) := by decide +kernel
theorem d_Te_add_72 : decode b_Te_add 72 = .ok (.aload_n 0, 1) := by decide +kernel
theorem d_Te_add_73 : decode b_Te_add 73 = .ok (.iload 8, 2) := by decide +kernel
theorem d_Te_add_75 : decode b_Te_add 75 = .ok (.iconst 1, 1) := by decide +kernel
theorem d_Te_add_76 : decode b_Te_add 76 = .ok (.iadd, 1) := by decide +kernel
theorem d_Te_add_77 : decode b_Te_add 77 = .ok (.putfield 31, 3) := by decide +kernel
theorem d_Te_add_80 : decode b_Te_add 80 = .ok (.iload 8, 2) := by decide +kernel
theorem d_Te_add_82 : decode b_Te_add 82 = .ok (.ireturn, 1) := by decide +kernel
theorem d_Te_addNumber_0 : decode b_Te_addNumber 0 = .ok (.aload_n 0, 1) := by decide +kernel
theorem d_Te_addNumber_1 : decode b_Te_addNumber 1 = .ok (.iconst 0, 1) := by decide +kernel
theorem d_Te_addNumber_2 : decode b_Te_addNumber 2 = .ok (.iconst (-1), 1) := by decide +kernel
theorem d_Te_addNumber_3 : decode b_Te_addNumber 3 = .ok (.iconst (-1), 1) := by decide +kernel
theorem d_Te_addNumber_4 : decode b_Te_addNumber 4 = .ok (.iconst (-1), 1) := by decide +kernel
theorem d_Te_addNumber_5 : decode b_Te_addNumber 5 = .ok (.lload_n 1, 1) := by decide +kernel
theorem d_Te_addNumber_6 : decode b_Te_addNumber 6 = .ok (.iconst 0, 1) := by decide +kernel
theorem d_Te_addNumber_7 : decode b_Te_addNumber 7 = .ok (.invokevirtual 35, 3) := by decide +kernel
theorem d_Te_addNumber_10 : decode b_Te_addNumber 10 = .ok (.ireturn, 1) := by decide +kernel
theorem d_Te_addVariable_0 : decode b_Te_addVariable 0 = .ok (.aload_n 0, 1) := by decide +kernel
theorem d_Te_addVariable_1 : decode b_Te_addVariable 1 = .ok (.iconst 1, 1) := by decide +kernel
theorem d_Te_addVariable_2 : decode b_Te_addVariable 2 = .ok (.iload_n 1, 1) := by decide +kernel
theorem d_Te_addVariable_3 : decode b_Te_addVariable 3 = .ok (.iconst (-1), 1) := by decide +kernel
theorem d_Te_addVariable_4 : decode b_Te_addVariable 4 = .ok (.iconst (-1), 1) := by decide +kernel
theorem d_Te_addVariable_5 : decode b_Te_addVariable 5 = .ok (.lconst 0, 1) := by decide +kernel
theorem d_Te_addVariable_6 : decode b_Te_addVariable 6 = .ok (.iload_n 1, 1) := by decide +kernel
theorem d_Te_addVariable_7 : decode b_Te_addVariable 7 = .ok (.iconst 1, 1) := by decide +kernel
theorem d_Te_addVariable_8 : decode b_Te_addVariable 8 = .ok (.iadd, 1) := by decide +kernel
theorem d_Te_addVariable_9 : decode b_Te_addVariable 9 = .ok (.invokevirtual 35, 3) := by decide +kernel
theorem d_Te_addVariable_12 : decode b_Te_addVariable 12 = .ok (.ireturn, 1) := by decide +kernel
theorem d_Te_lackOf_0 : decode b_Te_lackOf 0 = .ok (.aload_n 0, 1) := by decide +kernel
theorem d_Te_lackOf_1 : decode b_Te_lackOf 1 = .ok (.iload_n 1, 1) := by decide +kernel
theorem d_Te_lackOf_2 : decode b_Te_lackOf 2 = .ok (.invokevirtual 52, 3) := by decide +kernel
theorem d_Te_lackOf_5 : decode b_Te_lackOf 5 = .ok (.ifCond .eq 12, 3) := by decide +kernel
theorem d_Te_lackOf_8 : decode b_Te_lackOf 8 = .ok (.aload_n 0, 1) := by decide +kernel
theorem d_Te_lackOf_9 : decode b_Te_lackOf 9 = .ok (.getfield 28, 3) := by decide +kernel
theorem d_Te_lackOf_12 : decode b_Te_lackOf 12 = .ok (.iload_n 1, 1) := by decide +kernel
theorem d_Te_lackOf_13 : decode b_Te_lackOf 13 = .ok (.iaload, 1) := by decide +kernel
theorem d_Te_lackOf_14 : decode b_Te_lackOf 14 = .ok (.goto 4, 3) := by decide +kernel
theorem d_Te_lackOf_17 : decode b_Te_lackOf 17 = .ok (.iconst 0, 1) := by decide +kernel
theorem d_Te_lackOf_18 : decode b_Te_lackOf 18 = .ok (.ireturn, 1) := by decide +kernel
theorem d_Te_oneLess_0 : decode b_Te_oneLess 0 = .ok (.iload_n 0, 1) := by decide +kernel
theorem d_Te_oneLess_1 : decode b_Te_oneLess 1 = .ok (.iconst 1, 1) := by decide +kernel
theorem d_Te_oneLess_2 : decode b_Te_oneLess 2 = .ok (.isub, 1) := by decide +kernel
theorem d_Te_oneLess_3 : decode b_Te_oneLess 3 = .ok (.iconst 0, 1) := by decide +kernel
theorem d_Te_oneLess_4 : decode b_Te_oneLess 4 = .ok (.invokestatic 46, 3) := by decide +kernel
theorem d_Te_oneLess_7 : decode b_Te_oneLess 7 = .ok (.ireturn, 1) := by decide +kernel
theorem d_Te_addOne_0 : decode b_Te_addOne 0 = .ok (.iload_n 1, 1) := by decide +kernel
theorem d_Te_addOne_1 : decode b_Te_addOne 1 = .ok (.ifCond .ne 21, 3) := by decide +kernel
theorem d_Te_addOne_4 : decode b_Te_addOne 4 = .ok (.aload_n 0, 1) := by decide +kernel
theorem d_Te_addOne_5 : decode b_Te_addOne 5 = .ok (.iconst 2, 1) := by decide +kernel
theorem d_Te_addOne_6 : decode b_Te_addOne 6 = .ok (.iload_n 2, 1) := by decide +kernel
theorem d_Te_addOne_7 : decode b_Te_addOne 7 = .ok (.iconst (-1), 1) := by decide +kernel
theorem d_Te_addOne_8 : decode b_Te_addOne 8 = .ok (.iconst (-1), 1) := by decide +kernel
theorem d_Te_addOne_9 : decode b_Te_addOne 9 = .ok (.lconst 0, 1) := by decide +kernel
theorem d_Te_addOne_10 : decode b_Te_addOne 10 = .ok (.aload_n 0, 1) := by decide +kernel
theorem d_Te_addOne_11 : decode b_Te_addOne 11 = .ok (.iload_n 2, 1) := by decide +kernel
theorem d_Te_addOne_12 : decode b_Te_addOne 12 = .ok (.invokevirtual 39, 3) := by decide +kernel
theorem d_Te_addOne_15 : decode b_Te_addOne 15 = .ok (.invokestatic 43, 3) := by decide +kernel
theorem d_Te_addOne_18 : decode b_Te_addOne 18 = .ok (.invokevirtual 35, 3) := by decide +kernel
theorem d_Te_addOne_21 : decode b_Te_addOne 21 = .ok (.ireturn, 1) := by decide +kernel
theorem d_Te_addOne_22 : decode b_Te_addOne 22 = .ok (.aload_n 0, 1) := by decide +kernel
theorem d_Te_addOne_23 : decode b_Te_addOne 23 = .ok (.iload_n 1, 1) := by decide +kernel
theorem d_Te_addOne_24 : decode b_Te_addOne 24 = .ok (.iconst 1, 1) := by decide +kernel
theorem d_Te_addOne_25 : decode b_Te_addOne 25 = .ok (.if_icmp .ne 7, 3) := by decide +kernel
theorem d_Te_addOne_28 : decode b_Te_addOne 28 = .ok (.iconst 3, 1) := by decide +kernel
theorem d_Te_addOne_29 : decode b_Te_addOne 29 = .ok (.goto 4, 3) := by decide +kernel
theorem d_Te_addOne_32 : decode b_Te_addOne 32 = .ok (.iconst 4, 1) := by decide +kernel
theorem d_Te_addOne_33 : decode b_Te_addOne 33 = .ok (.iload_n 2, 1) := by decide +kernel
theorem d_Te_addOne_34 : decode b_Te_addOne 34 = .ok (.iconst (-1), 1) := by decide +kernel
theorem d_Te_addOne_35 : decode b_Te_addOne 35 = .ok (.iconst (-1), 1) := by decide +kernel
theorem d_Te_addOne_36 : decode b_Te_addOne 36 = .ok (.lconst 0, 1) := by decide +kernel
theorem d_Te_addOne_37 : decode b_Te_addOne 37 = .ok (.aload_n 0, 1) := by decide +kernel
theorem d_Te_addOne_38 : decode b_Te_addOne 38 = .ok (.iload_n 2, 1) := by decide +kernel
theorem d_Te_addOne_39 : decode b_Te_addOne 39 = .ok (.invokevirtual 39, 3) := by decide +kernel
theorem d_Te_addOne_42 : decode b_Te_addOne 42 = .ok (.invokevirtual 35, 3) := by decide +kernel
theorem d_Te_addOne_45 : decode b_Te_addOne 45 = .ok (.ireturn, 1) := by decide +kernel
theorem d_Te_addTwo_0 : decode b_Te_addTwo 0 = .ok (.aload_n 0, 1) := by decide +kernel
theorem d_Te_addTwo_1 : decode b_Te_addTwo 1 = .ok (.iload_n 2, 1) := by decide +kernel
theorem d_Te_addTwo_2 : decode b_Te_addTwo 2 = .ok (.invokevirtual 39, 3) := by decide +kernel
theorem d_Te_addTwo_5 : decode b_Te_addTwo 5 = .ok (.aload_n 0, 1) := by decide +kernel
theorem d_Te_addTwo_6 : decode b_Te_addTwo 6 = .ok (.iload_n 3, 1) := by decide +kernel
theorem d_Te_addTwo_7 : decode b_Te_addTwo 7 = .ok (.invokevirtual 39, 3) := by decide +kernel
theorem d_Te_addTwo_10 : decode b_Te_addTwo 10 = .ok (.invokestatic 46, 3) := by decide +kernel
theorem d_Te_addTwo_13 : decode b_Te_addTwo 13 = .ok (.istore 4, 2) := by decide +kernel
theorem d_Te_addTwo_15 : decode b_Te_addTwo 15 = .ok (.iload_n 1, 1) := by decide +kernel
theorem d_Te_addTwo_16 : decode b_Te_addTwo 16 = .ok (.tableswitch 69 0 2 #[28, 40, 56], 28) := by decide +kernel
theorem d_Te_addTwo_44 : decode b_Te_addTwo 44 = .ok (.aload_n 0, 1) := by decide +kernel
theorem d_Te_addTwo_45 : decode b_Te_addTwo 45 = .ok (.iconst 5, 1) := by decide +kernel
theorem d_Te_addTwo_46 : decode b_Te_addTwo 46 = .ok (.iload_n 2, 1) := by decide +kernel
theorem d_Te_addTwo_47 : decode b_Te_addTwo 47 = .ok (.iload_n 3, 1) := by decide +kernel
theorem d_Te_addTwo_48 : decode b_Te_addTwo 48 = .ok (.iconst (-1), 1) := by decide +kernel
theorem d_Te_addTwo_49 : decode b_Te_addTwo 49 = .ok (.lconst 0, 1) := by decide +kernel
theorem d_Te_addTwo_50 : decode b_Te_addTwo 50 = .ok (.iload 4, 2) := by decide +kernel
theorem d_Te_addTwo_52 : decode b_Te_addTwo 52 = .ok (.invokevirtual 35, 3) := by decide +kernel
theorem d_Te_addTwo_55 : decode b_Te_addTwo 55 = .ok (.ireturn, 1) := by decide +kernel
theorem d_Te_addTwo_56 : decode b_Te_addTwo 56 = .ok (.aload_n 0, 1) := by decide +kernel
theorem d_Te_addTwo_57 : decode b_Te_addTwo 57 = .ok (.bipush 6, 2) := by decide +kernel
theorem d_Te_addTwo_59 : decode b_Te_addTwo 59 = .ok (.iload_n 2, 1) := by decide +kernel
theorem d_Te_addTwo_60 : decode b_Te_addTwo 60 = .ok (.iload_n 3, 1) := by decide +kernel
theorem d_Te_addTwo_61 : decode b_Te_addTwo 61 = .ok (.iconst (-1), 1) := by decide +kernel
theorem d_Te_addTwo_62 : decode b_Te_addTwo 62 = .ok (.lconst 0, 1) := by decide +kernel
theorem d_Te_addTwo_63 : decode b_Te_addTwo 63 = .ok (.iload 4, 2) := by decide +kernel
theorem d_Te_addTwo_65 : decode b_Te_addTwo 65 = .ok (.invokestatic 43, 3) := by decide +kernel
theorem d_Te_addTwo_68 : decode b_Te_addTwo 68 = .ok (.invokevirtual 35, 3) := by decide +kernel
theorem d_Te_addTwo_71 : decode b_Te_addTwo 71 = .ok (.ireturn, 1) := by decide +kernel
theorem d_Te_addTwo_72 : decode b_Te_addTwo 72 = .ok (.aload_n 0, 1) := by decide +kernel
theorem d_Te_addTwo_73 : decode b_Te_addTwo 73 = .ok (.bipush 7, 2) := by decide +kernel
theorem d_Te_addTwo_75 : decode b_Te_addTwo 75 = .ok (.iload_n 2, 1) := by decide +kernel
theorem d_Te_addTwo_76 : decode b_Te_addTwo 76 = .ok (.iload_n 3, 1) := by decide +kernel
theorem d_Te_addTwo_77 : decode b_Te_addTwo 77 = .ok (.iconst (-1), 1) := by decide +kernel
theorem d_Te_addTwo_78 : decode b_Te_addTwo 78 = .ok (.lconst 0, 1) := by decide +kernel
theorem d_Te_addTwo_79 : decode b_Te_addTwo 79 = .ok (.iload 4, 2) := by decide +kernel
theorem d_Te_addTwo_81 : decode b_Te_addTwo 81 = .ok (.invokevirtual 35, 3) := by decide +kernel
theorem d_Te_addTwo_84 : decode b_Te_addTwo 84 = .ok (.ireturn, 1) := by decide +kernel
theorem d_Te_addTwo_85 : decode b_Te_addTwo 85 = .ok (.aload_n 0, 1) := by decide +kernel
theorem d_Te_addTwo_86 : decode b_Te_addTwo 86 = .ok (.bipush 8, 2) := by decide +kernel
theorem d_Te_addTwo_88 : decode b_Te_addTwo 88 = .ok (.iload_n 2, 1) := by decide +kernel
theorem d_Te_addTwo_89 : decode b_Te_addTwo 89 = .ok (.iload_n 3, 1) := by decide +kernel
theorem d_Te_addTwo_90 : decode b_Te_addTwo 90 = .ok (.iload_n 1, 1) := by decide +kernel
theorem d_Te_addTwo_91 : decode b_Te_addTwo 91 = .ok (.iconst 3, 1) := by decide +kernel
theorem d_Te_addTwo_92 : decode b_Te_addTwo 92 = .ok (.isub, 1) := by decide +kernel
theorem d_Te_addTwo_93 : decode b_Te_addTwo 93 = .ok (.lconst 0, 1) := by decide +kernel
theorem d_Te_addTwo_94 : decode b_Te_addTwo 94 = .ok (.iload 4, 2) := by decide +kernel
theorem d_Te_addTwo_96 : decode b_Te_addTwo 96 = .ok (.invokevirtual 35, 3) := by decide +kernel
theorem d_Te_addTwo_99 : decode b_Te_addTwo 99 = .ok (.ireturn, 1) := by decide +kernel
theorem d_Te_addChoose_0 : decode b_Te_addChoose 0 = .ok (.aload_n 0, 1) := by decide +kernel
theorem d_Te_addChoose_1 : decode b_Te_addChoose 1 = .ok (.iload_n 1, 1) := by decide +kernel
theorem d_Te_addChoose_2 : decode b_Te_addChoose 2 = .ok (.invokevirtual 39, 3) := by decide +kernel
theorem d_Te_addChoose_5 : decode b_Te_addChoose 5 = .ok (.aload_n 0, 1) := by decide +kernel
theorem d_Te_addChoose_6 : decode b_Te_addChoose 6 = .ok (.iload_n 2, 1) := by decide +kernel
theorem d_Te_addChoose_7 : decode b_Te_addChoose 7 = .ok (.invokevirtual 39, 3) := by decide +kernel
theorem d_Te_addChoose_10 : decode b_Te_addChoose 10 = .ok (.aload_n 0, 1) := by decide +kernel
theorem d_Te_addChoose_11 : decode b_Te_addChoose 11 = .ok (.iload_n 3, 1) := by decide +kernel
theorem d_Te_addChoose_12 : decode b_Te_addChoose 12 = .ok (.invokevirtual 39, 3) := by decide +kernel
theorem d_Te_addChoose_15 : decode b_Te_addChoose 15 = .ok (.invokestatic 46, 3) := by decide +kernel
theorem d_Te_addChoose_18 : decode b_Te_addChoose 18 = .ok (.invokestatic 46, 3) := by decide +kernel
theorem d_Te_addChoose_21 : decode b_Te_addChoose 21 = .ok (.istore 4, 2) := by decide +kernel
theorem d_Te_addChoose_23 : decode b_Te_addChoose 23 = .ok (.aload_n 0, 1) := by decide +kernel
theorem d_Te_addChoose_24 : decode b_Te_addChoose 24 = .ok (.bipush 9, 2) := by decide +kernel
theorem d_Te_addChoose_26 : decode b_Te_addChoose 26 = .ok (.iload_n 1, 1) := by decide +kernel
theorem d_Te_addChoose_27 : decode b_Te_addChoose 27 = .ok (.iload_n 2, 1) := by decide +kernel
theorem d_Te_addChoose_28 : decode b_Te_addChoose 28 = .ok (.iload_n 3, 1) := by decide +kernel
theorem d_Te_addChoose_29 : decode b_Te_addChoose 29 = .ok (.lconst 0, 1) := by decide +kernel
theorem d_Te_addChoose_30 : decode b_Te_addChoose 30 = .ok (.iload 4, 2) := by decide +kernel
theorem d_Te_addChoose_32 : decode b_Te_addChoose 32 = .ok (.invokevirtual 35, 3) := by decide +kernel
theorem d_Te_addChoose_35 : decode b_Te_addChoose 35 = .ok (.ireturn, 1) := by decide +kernel
theorem d_Th_timesOf_0 : decode b_Th_timesOf 0 = .ok (.aload_n 0, 1) := by decide +kernel
theorem d_Th_timesOf_1 : decode b_Th_timesOf 1 = .ok (.iload_n 1, 1) := by decide +kernel
theorem d_Th_timesOf_2 : decode b_Th_timesOf 2 = .ok (.invokevirtual 59, 3) := by decide +kernel
theorem d_Th_timesOf_5 : decode b_Th_timesOf 5 = .ok (.ifCond .eq 12, 3) := by decide +kernel
theorem d_Th_timesOf_8 : decode b_Th_timesOf 8 = .ok (.aload_n 0, 1) := by decide +kernel
theorem d_Th_timesOf_9 : decode b_Th_timesOf 9 = .ok (.getfield 21, 3) := by decide +kernel
theorem d_Th_timesOf_12 : decode b_Th_timesOf 12 = .ok (.iload_n 1, 1) := by decide +kernel
theorem d_Th_timesOf_13 : decode b_Th_timesOf 13 = .ok (.iaload, 1) := by decide +kernel
theorem d_Th_timesOf_14 : decode b_Th_timesOf 14 = .ok (.goto 4, 3) := by decide +kernel
theorem d_Th_timesOf_17 : decode b_Th_timesOf 17 = .ok (.iconst 0, 1) := by decide +kernel
theorem d_Th_timesOf_18 : decode b_Th_timesOf 18 = .ok (.ireturn, 1) := by decide +kernel
theorem d_Th_neederOf_0 : decode b_Th_neederOf 0 = .ok (.aload_n 0, 1) := by decide +kernel
theorem d_Th_neederOf_1 : decode b_Th_neederOf 1 = .ok (.iload_n 1, 1) := by decide +kernel
theorem d_Th_neederOf_2 : decode b_Th_neederOf 2 = .ok (.invokevirtual 59, 3) := by decide +kernel
theorem d_Th_neederOf_5 : decode b_Th_neederOf 5 = .ok (.ifCond .eq 12, 3) := by decide +kernel
theorem d_Th_neederOf_8 : decode b_Th_neederOf 8 = .ok (.aload_n 0, 1) := by decide +kernel
theorem d_Th_neederOf_9 : decode b_Th_neederOf 9 = .ok (.getfield 24, 3) := by decide +kernel
theorem d_Th_neederOf_12 : decode b_Th_neederOf 12 = .ok (.iload_n 1, 1) := by decide +kernel
theorem d_Th_neederOf_13 : decode b_Th_neederOf 13 = .ok (.iaload, 1) := by decide +kernel
theorem d_Th_neederOf_14 : decode b_Th_neederOf 14 = .ok (.goto 4, 3) := by decide +kernel
theorem d_Th_neederOf_17 : decode b_Th_neederOf 17 = .ok (.iconst (-1), 1) := by decide +kernel
theorem d_Th_neederOf_18 : decode b_Th_neederOf 18 = .ok (.ireturn, 1) := by decide +kernel
theorem d_Gw_outcome_0 : decode b_Gw_outcome 0 = .ok (.aload_n 0, 1) := by decide +kernel
theorem d_Gw_outcome_1 : decode b_Gw_outcome 1 = .ok (.getfield 10, 3) := by decide +kernel
theorem d_Gw_outcome_4 : decode b_Gw_outcome 4 = .ok (.getfield 76, 3) := by decide +kernel
theorem d_Gw_outcome_7 : decode b_Gw_outcome 7 = .ok (.ireturn, 1) := by decide +kernel
theorem d_Gw_sort_0 : decode b_Gw_sort 0 = .ok (.aload_n 0, 1) := by decide +kernel
theorem d_Gw_sort_1 : decode b_Gw_sort 1 = .ok (.getfield 10, 3) := by decide +kernel
theorem d_Gw_sort_4 : decode b_Gw_sort 4 = .ok (.getfield 76, 3) := by decide +kernel
theorem d_Gw_sort_7 : decode b_Gw_sort 7 = .ok (.iconst 2, 1) := by decide +kernel
theorem d_Gw_sort_8 : decode b_Gw_sort 8 = .ok (.if_icmp .ne 16, 3) := by decide +kernel
theorem d_Gw_sort_11 : decode b_Gw_sort 11 = .ok (.aload_n 0, 1) := by decide +kernel
theorem d_Gw_sort_12 : decode b_Gw_sort 12 = .ok (.getfield 10, 3) := by decide +kernel
theorem d_Gw_sort_15 : decode b_Gw_sort 15 = .ok (.getfield 83, 3) := by decide +kernel
theorem d_Gw_sort_18 : decode b_Gw_sort 18 = .ok (.getfield 87, 3) := by decide +kernel
theorem d_Gw_sort_21 : decode b_Gw_sort 21 = .ok (.goto 4, 3) := by decide +kernel
theorem d_Gw_sort_24 : decode b_Gw_sort 24 = .ok (.iconst (-1), 1) := by decide +kernel
theorem d_Gw_sort_25 : decode b_Gw_sort 25 = .ok (.ireturn, 1) := by decide +kernel
theorem d_Gw_value_0 : decode b_Gw_value 0 = .ok (.aload_n 0, 1) := by decide +kernel
theorem d_Gw_value_1 : decode b_Gw_value 1 = .ok (.getfield 10, 3) := by decide +kernel
theorem d_Gw_value_4 : decode b_Gw_value 4 = .ok (.getfield 76, 3) := by decide +kernel
theorem d_Gw_value_7 : decode b_Gw_value 7 = .ok (.iconst 2, 1) := by decide +kernel
theorem d_Gw_value_8 : decode b_Gw_value 8 = .ok (.if_icmp .ne 29, 3) := by decide +kernel
theorem d_Gw_value_11 : decode b_Gw_value 11 = .ok (.aload_n 0, 1) := by decide +kernel
theorem d_Gw_value_12 : decode b_Gw_value 12 = .ok (.getfield 10, 3) := by decide +kernel
theorem d_Gw_value_15 : decode b_Gw_value 15 = .ok (.getfield 83, 3) := by decide +kernel
theorem d_Gw_value_18 : decode b_Gw_value 18 = .ok (.getfield 87, 3) := by decide +kernel
theorem d_Gw_value_21 : decode b_Gw_value 21 = .ok (.ifCond .ne 16, 3) := by decide +kernel
theorem d_Gw_value_24 : decode b_Gw_value 24 = .ok (.aload_n 0, 1) := by decide +kernel
theorem d_Gw_value_25 : decode b_Gw_value 25 = .ok (.getfield 10, 3) := by decide +kernel
theorem d_Gw_value_28 : decode b_Gw_value 28 = .ok (.getfield 83, 3) := by decide +kernel
theorem d_Gw_value_31 : decode b_Gw_value 31 = .ok (.getfield 105, 3) := by decide +kernel
theorem d_Gw_value_34 : decode b_Gw_value 34 = .ok (.goto 4, 3) := by decide +kernel
theorem d_Gw_value_37 : decode b_Gw_value 37 = .ok (.lconst 0, 1) := by decide +kernel
theorem d_Gw_value_38 : decode b_Gw_value 38 = .ok (.lreturn, 1) := by decide +kernel
theorem d_Mo_thrown_0 : decode b_Mo_thrown 0 = .ok (.aload_n 0, 1) := by decide +kernel
theorem d_Mo_thrown_1 : decode b_Mo_thrown 1 = .ok (.getfield 87, 3) := by decide +kernel
theorem d_Mo_thrown_4 : decode b_Mo_thrown 4 = .ok (.ireturn, 1) := by decide +kernel
theorem d_Mo_isTerm_0 : decode b_Mo_isTerm 0 = .ok (.iload_n 1, 1) := by decide +kernel
theorem d_Mo_isTerm_1 : decode b_Mo_isTerm 1 = .ok (.ifCond .lt 15, 3) := by decide +kernel
theorem d_Mo_isTerm_4 : decode b_Mo_isTerm 4 = .ok (.iload_n 1, 1) := by decide +kernel
theorem d_Mo_isTerm_5 : decode b_Mo_isTerm 5 = .ok (.aload_n 0, 1) := by decide +kernel
theorem d_Mo_isTerm_6 : decode b_Mo_isTerm 6 = .ok (.getfield 91, 3) := by decide +kernel
theorem d_Mo_isTerm_9 : decode b_Mo_isTerm 9 = .ok (.if_icmp .ge 7, 3) := by decide +kernel
theorem d_Mo_isTerm_12 : decode b_Mo_isTerm 12 = .ok (.iconst 1, 1) := by decide +kernel
theorem d_Mo_isTerm_13 : decode b_Mo_isTerm 13 = .ok (.goto 4, 3) := by decide +kernel
theorem d_Mo_isTerm_16 : decode b_Mo_isTerm 16 = .ok (.iconst 0, 1) := by decide +kernel
theorem d_Mo_isTerm_17 : decode b_Mo_isTerm 17 = .ok (.ireturn, 1) := by decide +kernel
theorem d_Mo_thrownBy_0 : decode b_Mo_thrownBy 0 = .ok (.aload_n 0, 1) := by decide +kernel
theorem d_Mo_thrownBy_1 : decode b_Mo_thrownBy 1 = .ok (.iload_n 1, 1) := by decide +kernel
theorem d_Mo_thrownBy_2 : decode b_Mo_thrownBy 2 = .ok (.putfield 87, 3) := by decide +kernel
theorem d_Mo_thrownBy_5 : decode b_Mo_thrownBy 5 = .ok (.iconst 0, 1) := by decide +kernel
theorem d_Mo_thrownBy_6 : decode b_Mo_thrownBy 6 = .ok (.ireturn, 1) := by decide +kernel
theorem d_Mo_term_0 : decode b_Mo_term 0 = .ok (.aload_n 0, 1) := by decide +kernel
theorem d_Mo_term_1 : decode b_Mo_term 1 = .ok (.iconst 0, 1) := by decide +kernel
theorem d_Mo_term_2 : decode b_Mo_term 2 = .ok (.putfield 87, 3) := by decide +kernel
theorem d_Mo_term_5 : decode b_Mo_term 5 = .ok (.aload_n 0, 1) := by decide +kernel
theorem d_Mo_term_6 : decode b_Mo_term 6 = .ok (.getfield 7, 3) := by decide +kernel
theorem d_Mo_term_9 : decode b_Mo_term 9 = .ok (.aload_n 0, 1) := by decide +kernel
theorem d_Mo_term_10 : decode b_Mo_term 10 = .ok (.getfield 91, 3) := by decide +kernel
theorem d_Mo_term_13 : decode b_Mo_term 13 = .ok (.iload_n 1, 1) := by decide +kernel
theorem d_Mo_term_14 : decode b_Mo_term 14 = .ok (.iastore, 1) := by decide +kernel
theorem d_Mo_term_15 : decode b_Mo_term 15 = .ok (.aload_n 0, 1) := by decide +kernel
theorem d_Mo_term_16 : decode b_Mo_term 16 = .ok (.getfield 13, 3) := by decide +kernel
theorem d_Mo_term_19 : decode b_Mo_term 19 = .ok (.aload_n 0, 1) := by decide +kernel
theorem d_Mo_term_20 : decode b_Mo_term 20 = .ok (.getfield 91, 3) := by decide +kernel
theorem d_Mo_term_23 : decode b_Mo_term 23 = .ok (.iload_n 2, 1) := by decide +kernel
theorem d_Mo_term_24 : decode b_Mo_term 24 = .ok (.iastore, 1) := by decide +kernel
theorem d_Mo_term_25 : decode b_Mo_term 25 = .ok (.aload_n 0, 1) := by decide +kernel
theorem d_Mo_term_26 : decode b_Mo_term 26 = .ok (.getfield 16, 3) := by decide +kernel
theorem d_Mo_term_29 : decode b_Mo_term 29 = .ok (.aload_n 0, 1) := by decide +kernel
theorem d_Mo_term_30 : decode b_Mo_term 30 = .ok (.getfield 91, 3) := by decide +kernel
theorem d_Mo_term_33 : decode b_Mo_term 33 = .ok (.iload_n 3, 1) := by decide +kernel
theorem d_Mo_term_34 : decode b_Mo_term 34 = .ok (.iastore, 1) := by decide +kernel
theorem d_Mo_term_35 : decode b_Mo_term 35 = .ok (.aload_n 0, 1) := by decide +kernel
theorem d_Mo_term_36 : decode b_Mo_term 36 = .ok (.getfield 19, 3) := by decide +kernel
theorem d_Mo_term_39 : decode b_Mo_term 39 = .ok (.aload_n 0, 1) := by decide +kernel
theorem d_Mo_term_40 : decode b_Mo_term 40 = .ok (.getfield 91, 3) := by decide +kernel
theorem d_Mo_term_43 : decode b_Mo_term 43 = .ok (.iload 4, 2) := by decide +kernel
theorem d_Mo_term_45 : decode b_Mo_term 45 = .ok (.iastore, 1) := by decide +kernel
theorem d_Mo_term_46 : decode b_Mo_term 46 = .ok (.aload_n 0, 1) := by decide +kernel
theorem d_Mo_term_47 : decode b_Mo_term 47 = .ok (.dup, 1) := by decide +kernel
theorem d_Mo_term_48 : decode b_Mo_term 48 = .ok (.getfield 91, 3) := by decide +kernel
theorem d_Mo_term_51 : decode b_Mo_term 51 = .ok (.iconst 1, 1) := by decide +kernel
theorem d_Mo_term_52 : decode b_Mo_term 52 = .ok (.iadd, 1) := by decide +kernel
theorem d_Mo_term_53 : decode b_Mo_term 53 = .ok (.putfield 91, 3) := by decide +kernel
theorem d_Mo_term_56 : decode b_Mo_term 56 = .ok (.aload_n 0, 1) := by decide +kernel
theorem d_Mo_term_57 : decode b_Mo_term 57 = .ok (.getfield 91, 3) := by decide +kernel
theorem d_Mo_term_60 : decode b_Mo_term 60 = .ok (.iconst 1, 1) := by decide +kernel
theorem d_Mo_term_61 : decode b_Mo_term 61 = .ok (.isub, 1) := by decide +kernel
theorem d_Mo_term_62 : decode b_Mo_term 62 = .ok (.ireturn, 1) := by decide +kernel
theorem d_Mo_more_0 : decode b_Mo_more 0 = .ok (.iload_n 0, 1) := by decide +kernel
theorem d_Mo_more_1 : decode b_Mo_more 1 = .ok (.iload_n 1, 1) := by decide +kernel
theorem d_Mo_more_2 : decode b_Mo_more 2 = .ok (.if_icmp .le 7, 3) := by decide +kernel
theorem d_Mo_more_5 : decode b_Mo_more 5 = .ok (.iload_n 0, 1) := by decide +kernel
theorem d_Mo_more_6 : decode b_Mo_more 6 = .ok (.goto 4, 3) := by decide +kernel
theorem d_Mo_more_9 : decode b_Mo_more 9 = .ok (.iload_n 1, 1) := by decide +kernel
theorem d_Mo_more_10 : decode b_Mo_more 10 = .ok (.ireturn, 1) := by decide +kernel
theorem d_Mo_lessOne_0 : decode b_Mo_lessOne 0 = .ok (.iload_n 0, 1) := by decide +kernel
theorem d_Mo_lessOne_1 : decode b_Mo_lessOne 1 = .ok (.ifCond .le 9, 3) := by decide +kernel
theorem d_Mo_lessOne_4 : decode b_Mo_lessOne 4 = .ok (.iload_n 0, 1) := by decide +kernel
theorem d_Mo_lessOne_5 : decode b_Mo_lessOne 5 = .ok (.iconst 1, 1) := by decide +kernel
theorem d_Mo_lessOne_6 : decode b_Mo_lessOne 6 = .ok (.isub, 1) := by decide +kernel
theorem d_Mo_lessOne_7 : decode b_Mo_lessOne 7 = .ok (.goto 4, 3) := by decide +kernel
theorem d_Mo_lessOne_10 : decode b_Mo_lessOne 10 = .ok (.iconst 0, 1) := by decide +kernel
theorem d_Mo_lessOne_11 : decode b_Mo_lessOne 11 = .ok (.ireturn, 1) := by decide +kernel
theorem d_Mo_number_0 : decode b_Mo_number 0 = .ok (.aload_n 0, 1) := by decide +kernel
theorem d_Mo_number_1 : decode b_Mo_number 1 = .ok (.getfield 91, 3) := by decide +kernel
theorem d_Mo_number_4 : decode b_Mo_number 4 = .ok (.sipush 200, 3) := by decide +kernel
theorem d_Mo_number_7 : decode b_Mo_number 7 = .ok (.if_icmp .ne 9, 3) := by decide +kernel
theorem d_Mo_number_10 : decode b_Mo_number 10 = .ok (.aload_n 0, 1) := by decide +kernel
theorem d_Mo_number_11 : decode b_Mo_number 11 = .ok (.iconst 1, 1) := by decide +kernel
theorem d_Mo_number_12 : decode b_Mo_number 12 = .ok (.invokevirtual 94, 3) := by decide +kernel
theorem d_Mo_number_15 : decode b_Mo_number 15 = .ok (.ireturn, 1) := by decide +kernel
theorem d_Mo_number_16 : decode b_Mo_number 16 = .ok (.aload_n 0, 1) := by decide +kernel
theorem d_Mo_number_17 : decode b_Mo_number 17 = .ok (.iconst 0, 1) := by decide +kernel
theorem d_Mo_number_18 : decode b_Mo_number 18 = .ok (.iconst (-1), 1) := by decide +kernel
theorem d_Mo_number_19 : decode b_Mo_number 19 = .ok (.iconst (-1), 1) := by decide +kernel
theorem d_Mo_number_20 : decode b_Mo_number 20 = .ok (.iconst (-1), 1) := by decide +kernel
theorem d_Mo_number_21 : decode b_Mo_number 21 = .ok (.invokevirtual 98, 3) := by decide +kernel
theorem d_Mo_number_24 : decode b_Mo_number 24 = .ok (.istore_n 3, 1) := by decide +kernel
theorem d_Mo_number_25 : decode b_Mo_number 25 = .ok (.aload_n 0, 1) := by decide +kernel
theorem d_Mo_number_26 : decode b_Mo_number 26 = .ok (.getfield 22, 3) := by decide +kernel
theorem d_Mo_number_29 : decode b_Mo_number 29 = .ok (.iload_n 3, 1) := by decide +kernel
theorem d_Mo_number_30 : decode b_Mo_number 30 = .ok (.lload_n 1, 1) := by decide +kernel
theorem d_Mo_number_31 : decode b_Mo_number 31 = .ok (.lastore, 1) := by decide +kernel
theorem d_Mo_number_32 : decode b_Mo_number 32 = .ok (.aload_n 0, 1) := by decide +kernel
theorem d_Mo_number_33 : decode b_Mo_number 33 = .ok (.getfield 26, 3) := by decide +kernel
theorem d_Mo_number_36 : decode b_Mo_number 36 = .ok (.iload_n 3, 1) := by decide +kernel
theorem d_Mo_number_37 : decode b_Mo_number 37 = .ok (.iconst 0, 1) := by decide +kernel
theorem d_Mo_number_38 : decode b_Mo_number 38 = .ok (.iastore, 1) := by decide +kernel
theorem d_Mo_number_39 : decode b_Mo_number 39 = .ok (.iload_n 3, 1) := by decide +kernel
theorem d_Mo_number_40 : decode b_Mo_number 40 = .ok (.ireturn, 1) := by decide +kernel
theorem d_Mo_variable_0 : decode b_Mo_variable 0 = .ok (.aload_n 0, 1) := by decide +kernel
theorem d_Mo_variable_1 : decode b_Mo_variable 1 = .ok (.getfield 91, 3) := by decide +kernel
theorem d_Mo_variable_4 : decode b_Mo_variable 4 = .ok (.sipush 200, 3) := by decide +kernel
theorem d_Mo_variable_7 : decode b_Mo_variable 7 = .ok (.if_icmp .ne 9, 3) := by decide +kernel
theorem d_Mo_variable_10 : decode b_Mo_variable 10 = .ok (.aload_n 0, 1) := by decide +kernel
theorem d_Mo_variable_11 : decode b_Mo_variable 11 = .ok (.iconst 1, 1) := by decide +kernel
theorem d_Mo_variable_12 : decode b_Mo_variable 12 = .ok (.invokevirtual 94, 3) := by decide +kernel
theorem d_Mo_variable_15 : decode b_Mo_variable 15 = .ok (.ireturn, 1) := by decide +kernel
theorem d_Mo_variable_16 : decode b_Mo_variable 16 = .ok (.iload_n 1, 1) := by decide +kernel
theorem d_Mo_variable_17 : decode b_Mo_variable 17 = .ok (.ifCond .lt 9, 3) := by decide +kernel
theorem d_Mo_variable_20 : decode b_Mo_variable 20 = .ok (.iload_n 1, 1) := by decide +kernel
theorem d_Mo_variable_21 : decode b_Mo_variable 21 = .ok (.bipush 60, 2) := by decide +kernel
theorem d_Mo_variable_23 : decode b_Mo_variable 23 = .ok (.if_icmp .le 9, 3) := by decide +kernel
theorem d_Mo_variable_26 : decode b_Mo_variable 26 = .ok (.aload_n 0, 1) := by decide +kernel
theorem d_Mo_variable_27 : decode b_Mo_variable 27 = .ok (.iconst 2, 1) := by decide +kernel
theorem d_Mo_variable_28 : decode b_Mo_variable 28 = .ok (.invokevirtual 94, 3) := by decide +kernel
theorem d_Mo_variable_31 : decode b_Mo_variable 31 = .ok (.ireturn, 1) := by decide +kernel
theorem d_Mo_variable_32 : decode b_Mo_variable 32 = .ok (.aload_n 0, 1) := by decide +kernel
theorem d_Mo_variable_33 : decode b_Mo_variable 33 = .ok (.iconst 1, 1) := by decide +kernel
theorem d_Mo_variable_34 : decode b_Mo_variable 34 = .ok (.iload_n 1, 1) := by decide +kernel
theorem d_Mo_variable_35 : decode b_Mo_variable 35 = .ok (.iconst (-1), 1) := by decide +kernel
theorem d_Mo_variable_36 : decode b_Mo_variable 36 = .ok (.iconst (-1), 1) := by decide +kernel
theorem d_Mo_variable_37 : decode b_Mo_variable 37 = .ok (.invokevirtual 98, 3) := by decide +kernel
theorem d_Mo_variable_40 : decode b_Mo_variable 40 = .ok (.istore_n 2, 1) := by decide +kernel
theorem d_Mo_variable_41 : decode b_Mo_variable 41 = .ok (.aload_n 0, 1) := by decide +kernel
theorem d_Mo_variable_42 : decode b_Mo_variable 42 = .ok (.getfield 26, 3) := by decide +kernel
theorem d_Mo_variable_45 : decode b_Mo_variable 45 = .ok (.iload_n 2, 1) := by decide +kernel
theorem d_Mo_variable_46 : decode b_Mo_variable 46 = .ok (.iload_n 1, 1) := by decide +kernel
theorem d_Mo_variable_47 : decode b_Mo_variable 47 = .ok (.iconst 1, 1) := by decide +kernel
theorem d_Mo_variable_48 : decode b_Mo_variable 48 = .ok (.iadd, 1) := by decide +kernel
theorem d_Mo_variable_49 : decode b_Mo_variable 49 = .ok (.iastore, 1) := by decide +kernel
theorem d_Mo_variable_50 : decode b_Mo_variable 50 = .ok (.iload_n 2, 1) := by decide +kernel
theorem d_Mo_variable_51 : decode b_Mo_variable 51 = .ok (.ireturn, 1) := by decide +kernel
theorem d_Mo_one_0 : decode b_Mo_one 0 = .ok (.aload_n 0, 1) := by decide +kernel
theorem d_Mo_one_1 : decode b_Mo_one 1 = .ok (.iload_n 2, 1) := by decide +kernel
theorem d_Mo_one_2 : decode b_Mo_one 2 = .ok (.invokevirtual 102, 3) := by decide +kernel
theorem d_Mo_one_5 : decode b_Mo_one 5 = .ok (.ifCond .ne 9, 3) := by decide +kernel
theorem d_Mo_one_8 : decode b_Mo_one 8 = .ok (.aload_n 0, 1) := by decide +kernel
theorem d_Mo_one_9 : decode b_Mo_one 9 = .ok (.iconst 1, 1) := by decide +kernel
theorem d_Mo_one_10 : decode b_Mo_one 10 = .ok (.invokevirtual 94, 3) := by decide +kernel
theorem d_Mo_one_13 : decode b_Mo_one 13 = .ok (.ireturn, 1) := by decide +kernel
theorem d_Mo_one_14 : decode b_Mo_one 14 = .ok (.aload_n 0, 1) := by decide +kernel
theorem d_Mo_one_15 : decode b_Mo_one 15 = .ok (.getfield 91, 3) := by decide +kernel
theorem d_Mo_one_18 : decode b_Mo_one 18 = .ok (.sipush 200, 3) := by decide +kernel
theorem d_Mo_one_21 : decode b_Mo_one 21 = .ok (.if_icmp .ne 9, 3) := by decide +kernel
theorem d_Mo_one_24 : decode b_Mo_one 24 = .ok (.aload_n 0, 1) := by decide +kernel
theorem d_Mo_one_25 : decode b_Mo_one 25 = .ok (.iconst 2, 1) := by decide +kernel
theorem d_Mo_one_26 : decode b_Mo_one 26 = .ok (.invokevirtual 94, 3) := by decide +kernel
theorem d_Mo_one_29 : decode b_Mo_one 29 = .ok (.ireturn, 1) := by decide +kernel
theorem d_Mo_one_30 : decode b_Mo_one 30 = .ok (.iload_n 1, 1) := by decide +kernel
theorem d_Mo_one_31 : decode b_Mo_one 31 = .ok (.ifCond .lt 8, 3) := by decide +kernel
theorem d_Mo_one_34 : decode b_Mo_one 34 = .ok (.iload_n 1, 1) := by decide +kernel
theorem d_Mo_one_35 : decode b_Mo_one 35 = .ok (.iconst 2, 1) := by decide +kernel
theorem d_Mo_one_36 : decode b_Mo_one 36 = .ok (.if_icmp .le 9, 3) := by decide +kernel
theorem d_Mo_one_39 : decode b_Mo_one 39 = .ok (.aload_n 0, 1) := by decide +kernel
theorem d_Mo_one_40 : decode b_Mo_one 40 = .ok (.iconst 3, 1) := by decide +kernel
theorem d_Mo_one_41 : decode b_Mo_one 41 = .ok (.invokevirtual 94, 3) := by decide +kernel
theorem d_Mo_one_44 : decode b_Mo_one 44 = .ok (.ireturn, 1) := by decide +kernel
theorem d_Mo_one_45 : decode b_Mo_one 45 = .ok (.aload_n 0, 1) := by decide +kernel
theorem d_Mo_one_46 : decode b_Mo_one 46 = .ok (.iload_n 1, 1) := by decide +kernel
theorem d_Mo_one_47 : decode b_Mo_one 47 = .ok (.ifCond .ne 7, 3) := by decide +kernel
theorem d_Mo_one_50 : decode b_Mo_one 50 = .ok (.iconst 2, 1) := by decide +kernel
theorem d_Mo_one_51 : decode b_Mo_one 51 = .ok (.goto 13, 3) := by decide +kernel
theorem d_Mo_one_54 : decode b_Mo_one 54 = .ok (.iload_n 1, 1) := by decide +kernel
theorem d_Mo_one_55 : decode b_Mo_one 55 = .ok (.iconst 1, 1) := by decide +kernel
theorem d_Mo_one_56 : decode b_Mo_one 56 = .ok (.if_icmp .ne 7, 3) := by decide +kernel
theorem d_Mo_one_59 : decode b_Mo_one 59 = .ok (.iconst 3, 1) := by decide +kernel
theorem d_Mo_one_60 : decode b_Mo_one 60 = .ok (.goto 4, 3) := by decide +kernel
theorem d_Mo_one_63 : decode b_Mo_one 63 = .ok (.iconst 4, 1) := by decide +kernel
theorem d_Mo_one_64 : decode b_Mo_one 64 = .ok (.iload_n 2, 1) := by decide +kernel
theorem d_Mo_one_65 : decode b_Mo_one 65 = .ok (.iconst (-1), 1) := by decide +kernel
theorem d_Mo_one_66 : decode b_Mo_one 66 = .ok (.iconst (-1), 1) := by decide +kernel
theorem d_Mo_one_67 : decode b_Mo_one 67 = .ok (.invokevirtual 98, 3) := by decide +kernel
theorem d_Mo_one_70 : decode b_Mo_one 70 = .ok (.istore_n 3, 1) := by decide +kernel
theorem d_Mo_one_71 : decode b_Mo_one 71 = .ok (.aload_n 0, 1) := by decide +kernel
theorem d_Mo_one_72 : decode b_Mo_one 72 = .ok (.getfield 26, 3) := by decide +kernel
theorem d_Mo_one_75 : decode b_Mo_one 75 = .ok (.iload_n 3, 1) := by decide +kernel
theorem d_Mo_one_76 : decode b_Mo_one 76 = .ok (.iload_n 1, 1) := by decide +kernel
theorem d_Mo_one_77 : decode b_Mo_one 77 = .ok (.ifCond .ne 15, 3) := by decide +kernel
theorem d_Mo_one_80 : decode b_Mo_one 80 = .ok (.aload_n 0, 1) := by decide +kernel
theorem d_Mo_one_81 : decode b_Mo_one 81 = .ok (.getfield 26, 3) := by decide +kernel
theorem d_Mo_one_84 : decode b_Mo_one 84 = .ok (.iload_n 2, 1) := by decide +kernel
theorem d_Mo_one_85 : decode b_Mo_one 85 = .ok (.iaload, 1) := by decide +kernel
theorem d_Mo_one_86 : decode b_Mo_one 86 = .ok (.invokestatic 106, 3) := by decide +kernel
theorem d_Mo_one_89 : decode b_Mo_one 89 = .ok (.goto 9, 3) := by decide +kernel
theorem d_Mo_one_92 : decode b_Mo_one 92 = .ok (.aload_n 0, 1) := by decide +kernel
theorem d_Mo_one_93 : decode b_Mo_one 93 = .ok (.getfield 26, 3) := by decide +kernel
theorem d_Mo_one_96 : decode b_Mo_one 96 = .ok (.iload_n 2, 1) := by decide +kernel
theorem d_Mo_one_97 : decode b_Mo_one 97 = .ok (.iaload, 1) := by decide +kernel
theorem d_Mo_one_98 : decode b_Mo_one 98 = .ok (.iastore, 1) := by decide +kernel
theorem d_Mo_one_99 : decode b_Mo_one 99 = .ok (.iload_n 3, 1) := by decide +kernel
theorem d_Mo_one_100 : decode b_Mo_one 100 = .ok (.ireturn, 1) := by decide +kernel
theorem d_Mo_two_0 : decode b_Mo_two 0 = .ok (.aload_n 0, 1) := by decide +kernel
theorem d_Mo_two_1 : decode b_Mo_two 1 = .ok (.iload_n 2, 1) := by decide +kernel
theorem d_Mo_two_2 : decode b_Mo_two 2 = .ok (.invokevirtual 102, 3) := by decide +kernel
theorem d_Mo_two_5 : decode b_Mo_two 5 = .ok (.ifCond .eq 11, 3) := by decide +kernel
theorem d_Mo_two_8 : decode b_Mo_two 8 = .ok (.aload_n 0, 1) := by decide +kernel
theorem d_Mo_two_9 : decode b_Mo_two 9 = .ok (.iload_n 3, 1) := by decide +kernel
theorem d_Mo_two_10 : decode b_Mo_two 10 = .ok (.invokevirtual 102, 3) := by decide +kernel
theorem d_Mo_two_13 : decode b_Mo_two 13 = .ok (.ifCond .ne 9, 3) := by decide +kernel
theorem d_Mo_two_16 : decode b_Mo_two 16 = .ok (.aload_n 0, 1) := by decide +kernel
theorem d_Mo_two_17 : decode b_Mo_two 17 = .ok (.iconst 1, 1) := by decide +kernel
theorem d_Mo_two_18 : decode b_Mo_two 18 = .ok (.invokevirtual 94, 3) := by decide +kernel
theorem d_Mo_two_21 : decode b_Mo_two 21 = .ok (.ireturn, 1) := by decide +kernel
theorem d_Mo_two_22 : decode b_Mo_two 22 = .ok (.aload_n 0, 1) := by decide +kernel
theorem d_Mo_two_23 : decode b_Mo_two 23 = .ok (.getfield 91, 3) := by decide +kernel
theorem d_Mo_two_26 : decode b_Mo_two 26 = .ok (.sipush 200, 3) := by decide +kernel
theorem d_Mo_two_29 : decode b_Mo_two 29 = .ok (.if_icmp .ne 9, 3) := by decide +kernel
theorem d_Mo_two_32 : decode b_Mo_two 32 = .ok (.aload_n 0, 1) := by decide +kernel
theorem d_Mo_two_33 : decode b_Mo_two 33 = .ok (.iconst 2, 1) := by decide +kernel
theorem d_Mo_two_34 : decode b_Mo_two 34 = .ok (.invokevirtual 94, 3) := by decide +kernel
theorem d_Mo_two_37 : decode b_Mo_two 37 = .ok (.ireturn, 1) := by decide +kernel
theorem d_Mo_two_38 : decode b_Mo_two 38 = .ok (.iload_n 1, 1) := by decide +kernel
theorem d_Mo_two_39 : decode b_Mo_two 39 = .ok (.ifCond .lt 9, 3) := by decide +kernel
theorem d_Mo_two_42 : decode b_Mo_two 42 = .ok (.iload_n 1, 1) := by decide +kernel
theorem d_Mo_two_43 : decode b_Mo_two 43 = .ok (.bipush 8, 2) := by decide +kernel
theorem d_Mo_two_45 : decode b_Mo_two 45 = .ok (.if_icmp .le 9, 3) := by decide +kernel
theorem d_Mo_two_48 : decode b_Mo_two 48 = .ok (.aload_n 0, 1) := by decide +kernel
theorem d_Mo_two_49 : decode b_Mo_two 49 = .ok (.iconst 3, 1) := by decide +kernel
theorem d_Mo_two_50 : decode b_Mo_two 50 = .ok (.invokevirtual 94, 3) := by decide +kernel
theorem d_Mo_two_53 : decode b_Mo_two 53 = .ok (.ireturn, 1) := by decide +kernel
theorem d_Mo_two_54 : decode b_Mo_two 54 = .ok (.aload_n 0, 1) := by decide +kernel
theorem d_Mo_two_55 : decode b_Mo_two 55 = .ok (.iload_n 1, 1) := by decide +kernel
theorem d_Mo_two_56 : decode b_Mo_two 56 = .ok (.ifCond .ne 7, 3) := by decide +kernel
theorem d_Mo_two_59 : decode b_Mo_two 59 = .ok (.iconst 5, 1) := by decide +kernel
theorem d_Mo_two_60 : decode b_Mo_two 60 = .ok (.goto 29, 3) := by decide +kernel
theorem d_Mo_two_63 : decode b_Mo_two 63 = .ok (.iload_n 1, 1) := by decide +kernel
theorem d_Mo_two_64 : decode b_Mo_two 64 = .ok (.iconst 1, 1) := by decide +kernel
theorem d_Mo_two_65 : decode b_Mo_two 65 = .ok (.if_icmp .ne 8, 3) := by decide +kernel
theorem d_Mo_two_68 : decode b_Mo_two 68 = .ok (.bipush 6, 2) := by decide +kernel
theorem d_Mo_two_70 : decode b_Mo_two 70 = .ok (.goto 19, 3) := by decide +kernel
theorem d_Mo_two_73 : decode b_Mo_two 73 = .ok (.iload_n 1, 1) := by decide +kernel
theorem d_Mo_two_74 : decode b_Mo_two 74 = .ok (.iconst 2, 1) := by decide +kernel
theorem d_Mo_two_75 : decode b_Mo_two 75 = .ok (.if_icmp .ne 8, 3) := by decide +kernel
theorem d_Mo_two_78 : decode b_Mo_two 78 = .ok (.bipush 7, 2) := by decide +kernel
theorem d_Mo_two_80 : decode b_Mo_two 80 = .ok (.goto 9, 3) := by decide +kernel
theorem d_Mo_two_83 : decode b_Mo_two 83 = .ok (.bipush 8, 2) := by decide +kernel
theorem d_Mo_two_85 : decode b_Mo_two 85 = .ok (.iload_n 1, 1) := by decide +kernel
theorem d_Mo_two_86 : decode b_Mo_two 86 = .ok (.iadd, 1) := by decide +kernel
theorem d_Mo_two_87 : decode b_Mo_two 87 = .ok (.iconst 3, 1) := by decide +kernel
theorem d_Mo_two_88 : decode b_Mo_two 88 = .ok (.isub, 1) := by decide +kernel
theorem d_Mo_two_89 : decode b_Mo_two 89 = .ok (.iload_n 2, 1) := by decide +kernel
theorem d_Mo_two_90 : decode b_Mo_two 90 = .ok (.iload_n 3, 1) := by decide +kernel
theorem d_Mo_two_91 : decode b_Mo_two 91 = .ok (.iconst (-1), 1) := by decide +kernel
theorem d_Mo_two_92 : decode b_Mo_two 92 = .ok (.invokevirtual 98, 3) := by decide +kernel
theorem d_Mo_two_95 : decode b_Mo_two 95 = .ok (.istore 4, 2) := by decide +kernel
theorem d_Mo_two_97 : decode b_Mo_two 97 = .ok (.aload_n 0, 1) := by decide +kernel
theorem d_Mo_two_98 : decode b_Mo_two 98 = .ok (.getfield 26, 3) := by decide +kernel
theorem d_Mo_two_101 : decode b_Mo_two 101 = .ok (.iload_n 2, 1) := by decide +kernel
theorem d_Mo_two_102 : decode b_Mo_two 102 = .ok (.iaload, 1) := by decide +kernel
theorem d_Mo_two_103 : decode b_Mo_two 103 = .ok (.aload_n 0, 1) := by decide +kernel
theorem d_Mo_two_104 : decode b_Mo_two 104 = .ok (.getfield 26, 3) := by decide +kernel
theorem d_Mo_two_107 : decode b_Mo_two 107 = .ok (.iload_n 3, 1) := by decide +kernel
theorem d_Mo_two_108 : decode b_Mo_two 108 = .ok (.iaload, 1) := by decide +kernel
theorem d_Mo_two_109 : decode b_Mo_two 109 = .ok (.invokestatic 109, 3) := by decide +kernel
theorem d_Mo_two_112 : decode b_Mo_two 112 = .ok (.istore 5, 2) := by decide +kernel
theorem d_Mo_two_114 : decode b_Mo_two 114 = .ok (.aload_n 0, 1) := by decide +kernel
theorem d_Mo_two_115 : decode b_Mo_two 115 = .ok (.getfield 26, 3) := by decide +kernel
theorem d_Mo_two_118 : decode b_Mo_two 118 = .ok (.iload 4, 2) := by decide +kernel
theorem d_Mo_two_120 : decode b_Mo_two 120 = .ok (.iload_n 1, 1) := by decide +kernel
theorem d_Mo_two_121 : decode b_Mo_two 121 = .ok (.iconst 1, 1) := by decide +kernel
theorem d_Mo_two_122 : decode b_Mo_two 122 = .ok (.if_icmp .ne 11, 3) := by decide +kernel
theorem d_Mo_two_125 : decode b_Mo_two 125 = .ok (.iload 5, 2) := by decide +kernel
theorem d_Mo_two_127 : decode b_Mo_two 127 = .ok (.invokestatic 106, 3) := by decide +kernel
theorem d_Mo_two_130 : decode b_Mo_two 130 = .ok (.goto 5, 3) := by decide +kernel
theorem d_Mo_two_133 : decode b_Mo_two 133 = .ok (.iload 5, 2) := by decide +kernel
theorem d_Mo_two_135 : decode b_Mo_two 135 = .ok (.iastore, 1) := by decide +kernel
theorem d_Mo_two_136 : decode b_Mo_two 136 = .ok (.iload 4, 2) := by decide +kernel
theorem d_Mo_two_138 : decode b_Mo_two 138 = .ok (.ireturn, 1) := by decide +kernel
theorem d_Mo_choose_0 : decode b_Mo_choose 0 = .ok (.aload_n 0, 1) := by decide +kernel
theorem d_Mo_choose_1 : decode b_Mo_choose 1 = .ok (.iload_n 1, 1) := by decide +kernel
theorem d_Mo_choose_2 : decode b_Mo_choose 2 = .ok (.invokevirtual 102, 3) := by decide +kernel
theorem d_Mo_choose_5 : decode b_Mo_choose 5 = .ok (.ifCond .eq 19, 3) := by decide +kernel
theorem d_Mo_choose_8 : decode b_Mo_choose 8 = .ok (.aload_n 0, 1) := by decide +kernel
theorem d_Mo_choose_9 : decode b_Mo_choose 9 = .ok (.iload_n 2, 1) := by decide +kernel
theorem d_Mo_choose_10 : decode b_Mo_choose 10 = .ok (.invokevirtual 102, 3) := by decide +kernel
theorem d_Mo_choose_13 : decode b_Mo_choose 13 = .ok (.ifCond .eq 11, 3) := by decide +kernel
theorem d_Mo_choose_16 : decode b_Mo_choose 16 = .ok (.aload_n 0, 1) := by decide +kernel
theorem d_Mo_choose_17 : decode b_Mo_choose 17 = .ok (.iload_n 3, 1) := by decide +kernel
theorem d_Mo_choose_18 : decode b_Mo_choose 18 = .ok (.invokevirtual 102, 3) := by decide +kernel
theorem d_Mo_choose_21 : decode b_Mo_choose 21 = .ok (.ifCond .ne 9, 3) := by decide +kernel
theorem d_Mo_choose_24 : decode b_Mo_choose 24 = .ok (.aload_n 0, 1) := by decide +kernel
theorem d_Mo_choose_25 : decode b_Mo_choose 25 = .ok (.iconst 1, 1) := by decide +kernel
theorem d_Mo_choose_26 : decode b_Mo_choose 26 = .ok (.invokevirtual 94, 3) := by decide +kernel
theorem d_Mo_choose_29 : decode b_Mo_choose 29 = .ok (.ireturn, 1) := by decide +kernel
theorem d_Mo_choose_30 : decode b_Mo_choose 30 = .ok (.aload_n 0, 1) := by decide +kernel
theorem d_Mo_choose_31 : decode b_Mo_choose 31 = .ok (.getfield 91, 3) := by decide +kernel
theorem d_Mo_choose_34 : decode b_Mo_choose 34 = .ok (.sipush 200, 3) := by decide +kernel
theorem d_Mo_choose_37 : decode b_Mo_choose 37 = .ok (.if_icmp .ne 9, 3) := by decide +kernel
theorem d_Mo_choose_40 : decode b_Mo_choose 40 = .ok (.aload_n 0, 1) := by decide +kernel
theorem d_Mo_choose_41 : decode b_Mo_choose 41 = .ok (.iconst 2, 1) := by decide +kernel
theorem d_Mo_choose_42 : decode b_Mo_choose 42 = .ok (.invokevirtual 94, 3) := by decide +kernel
theorem d_Mo_choose_45 : decode b_Mo_choose 45 = .ok (.ireturn, 1) := by decide +kernel
theorem d_Mo_choose_46 : decode b_Mo_choose 46 = .ok (.aload_n 0, 1) := by decide +kernel
theorem d_Mo_choose_47 : decode b_Mo_choose 47 = .ok (.bipush 14, 2) := by decide +kernel
theorem d_Mo_choose_49 : decode b_Mo_choose 49 = .ok (.iload_n 2, 1) := by decide +kernel
theorem d_Mo_choose_50 : decode b_Mo_choose 50 = .ok (.iload_n 3, 1) := by decide +kernel
theorem d_Mo_choose_51 : decode b_Mo_choose 51 = .ok (.iload_n 1, 1) := by decide +kernel
theorem d_Mo_choose_52 : decode b_Mo_choose 52 = .ok (.invokevirtual 98, 3) := by decide +kernel
theorem d_Mo_choose_55 : decode b_Mo_choose 55 = .ok (.istore 4, 2) := by decide +kernel
theorem d_Mo_choose_57 : decode b_Mo_choose 57 = .ok (.aload_n 0, 1) := by decide +kernel
theorem d_Mo_choose_58 : decode b_Mo_choose 58 = .ok (.getfield 26, 3) := by decide +kernel
theorem d_Mo_choose_61 : decode b_Mo_choose 61 = .ok (.iload 4, 2) := by decide +kernel
theorem d_Mo_choose_63 : decode b_Mo_choose 63 = .ok (.aload_n 0, 1) := by decide +kernel
theorem d_Mo_choose_64 : decode b_Mo_choose 64 = .ok (.getfield 26, 3) := by decide +kernel
theorem d_Mo_choose_67 : decode b_Mo_choose 67 = .ok (.iload_n 1, 1) := by decide +kernel
theorem d_Mo_choose_68 : decode b_Mo_choose 68 = .ok (.iaload, 1) := by decide +kernel
theorem d_Mo_choose_69 : decode b_Mo_choose 69 = .ok (.aload_n 0, 1) := by decide +kernel
theorem d_Mo_choose_70 : decode b_Mo_choose 70 = .ok (.getfield 26, 3) := by decide +kernel
theorem d_Mo_choose_73 : decode b_Mo_choose 73 = .ok (.iload_n 2, 1) := by decide +kernel
theorem d_Mo_choose_74 : decode b_Mo_choose 74 = .ok (.iaload, 1) := by decide +kernel
theorem d_Mo_choose_75 : decode b_Mo_choose 75 = .ok (.aload_n 0, 1) := by decide +kernel
theorem d_Mo_choose_76 : decode b_Mo_choose 76 = .ok (.getfield 26, 3) := by decide +kernel
theorem d_Mo_choose_79 : decode b_Mo_choose 79 = .ok (.iload_n 3, 1) := by decide +kernel
theorem d_Mo_choose_80 : decode b_Mo_choose 80 = .ok (.iaload, 1) := by decide +kernel
theorem d_Mo_choose_81 : decode b_Mo_choose 81 = .ok (.invokestatic 109, 3) := by decide +kernel
theorem d_Mo_choose_84 : decode b_Mo_choose 84 = .ok (.invokestatic 109, 3) := by decide +kernel
theorem d_Mo_choose_87 : decode b_Mo_choose 87 = .ok (.iastore, 1) := by decide +kernel
theorem d_Mo_choose_88 : decode b_Mo_choose 88 = .ok (.iload 4, 2) := by decide +kernel
theorem d_Mo_choose_90 : decode b_Mo_choose 90 = .ok (.ireturn, 1) := by decide +kernel
theorem d_Mo_lacks_0 : decode b_Mo_lacks 0 = .ok (.aload_n 0, 1) := by decide +kernel
theorem d_Mo_lacks_1 : decode b_Mo_lacks 1 = .ok (.iload_n 1, 1) := by decide +kernel
theorem d_Mo_lacks_2 : decode b_Mo_lacks 2 = .ok (.invokevirtual 102, 3) := by decide +kernel
theorem d_Mo_lacks_5 : decode b_Mo_lacks 5 = .ok (.ifCond .ne 9, 3) := by decide +kernel
theorem d_Mo_lacks_8 : decode b_Mo_lacks 8 = .ok (.aload_n 0, 1) := by decide +kernel
theorem d_Mo_lacks_9 : decode b_Mo_lacks 9 = .ok (.iconst 1, 1) := by decide +kernel
theorem d_Mo_lacks_10 : decode b_Mo_lacks 10 = .ok (.invokevirtual 94, 3) := by decide +kernel
theorem d_Mo_lacks_13 : decode b_Mo_lacks 13 = .ok (.ireturn, 1) := by decide +kernel
theorem d_Mo_lacks_14 : decode b_Mo_lacks 14 = .ok (.aload_n 0, 1) := by decide +kernel
theorem d_Mo_lacks_15 : decode b_Mo_lacks 15 = .ok (.iconst 0, 1) := by decide +kernel
theorem d_Mo_lacks_16 : decode b_Mo_lacks 16 = .ok (.putfield 87, 3) := by decide +kernel
theorem d_Mo_lacks_19 : decode b_Mo_lacks 19 = .ok (.aload_n 0, 1) := by decide +kernel
theorem d_Mo_lacks_20 : decode b_Mo_lacks 20 = .ok (.getfield 26, 3) := by decide +kernel
theorem d_Mo_lacks_23 : decode b_Mo_lacks 23 = .ok (.iload_n 1, 1) := by decide +kernel
theorem d_Mo_lacks_24 : decode b_Mo_lacks 24 = .ok (.iaload, 1) := by decide +kernel
theorem d_Mo_lacks_25 : decode b_Mo_lacks 25 = .ok (.ireturn, 1) := by decide +kernel
theorem d_Mo_atHand_0 : decode b_Mo_atHand 0 = .ok (.aload_n 0, 1) := by decide +kernel
theorem d_Mo_atHand_1 : decode b_Mo_atHand 1 = .ok (.iconst 0, 1) := by decide +kernel
theorem d_Mo_atHand_2 : decode b_Mo_atHand 2 = .ok (.putfield 148, 3) := by decide +kernel
theorem d_Mo_atHand_5 : decode b_Mo_atHand 5 = .ok (.aload_n 0, 1) := by decide +kernel
theorem d_Mo_atHand_6 : decode b_Mo_atHand 6 = .ok (.iload_n 1, 1) := by decide +kernel
theorem d_Mo_atHand_7 : decode b_Mo_atHand 7 = .ok (.putfield 151, 3) := by decide +kernel
theorem d_Mo_atHand_10 : decode b_Mo_atHand 10 = .ok (.aload_n 0, 1) := by decide +kernel
theorem d_Mo_atHand_11 : decode b_Mo_atHand 11 = .ok (.iload_n 2, 1) := by decide +kernel
theorem d_Mo_atHand_12 : decode b_Mo_atHand 12 = .ok (.putfield 154, 3) := by decide +kernel
theorem d_Mo_atHand_15 : decode b_Mo_atHand 15 = .ok (.return_, 1) := by decide +kernel
theorem d_Mo_begin_0 : decode b_Mo_begin 0 = .ok (.aload_n 0, 1) := by decide +kernel
theorem d_Mo_begin_1 : decode b_Mo_begin 1 = .ok (.iload_n 1, 1) := by decide +kernel
theorem d_Mo_begin_2 : decode b_Mo_begin 2 = .ok (.invokevirtual 102, 3) := by decide +kernel
theorem d_Mo_begin_5 : decode b_Mo_begin 5 = .ok (.ifCond .ne 9, 3) := by decide +kernel
theorem d_Mo_begin_8 : decode b_Mo_begin 8 = .ok (.aload_n 0, 1) := by decide +kernel
theorem d_Mo_begin_9 : decode b_Mo_begin 9 = .ok (.iconst 1, 1) := by decide +kernel
theorem d_Mo_begin_10 : decode b_Mo_begin 10 = .ok (.putfield 87, 3) := by decide +kernel
theorem d_Mo_begin_13 : decode b_Mo_begin 13 = .ok (.return_, 1) := by decide +kernel
theorem d_Mo_begin_14 : decode b_Mo_begin 14 = .ok (.aload_n 0, 1) := by decide +kernel
theorem d_Mo_begin_15 : decode b_Mo_begin 15 = .ok (.getfield 26, 3) := by decide +kernel
theorem d_Mo_begin_18 : decode b_Mo_begin 18 = .ok (.iload_n 1, 1) := by decide +kernel
theorem d_Mo_begin_19 : decode b_Mo_begin 19 = .ok (.iaload, 1) := by decide +kernel
theorem d_Mo_begin_20 : decode b_Mo_begin 20 = .ok (.ifCond .le 9, 3) := by decide +kernel
theorem d_Mo_begin_23 : decode b_Mo_begin 23 = .ok (.aload_n 0, 1) := by decide +kernel
theorem d_Mo_begin_24 : decode b_Mo_begin 24 = .ok (.iconst 2, 1) := by decide +kernel
theorem d_Mo_begin_25 : decode b_Mo_begin 25 = .ok (.putfield 87, 3) := by decide +kernel
theorem d_Mo_begin_28 : decode b_Mo_begin 28 = .ok (.return_, 1) := by decide +kernel
theorem d_Mo_begin_29 : decode b_Mo_begin 29 = .ok (.aload_n 0, 1) := by decide +kernel
theorem d_Mo_begin_30 : decode b_Mo_begin 30 = .ok (.iconst 0, 1) := by decide +kernel
theorem d_Mo_begin_31 : decode b_Mo_begin 31 = .ok (.putfield 87, 3) := by decide +kernel
theorem d_Mo_begin_34 : decode b_Mo_begin 34 = .ok (.aload_n 0, 1) := by decide +kernel
theorem d_Mo_begin_35 : decode b_Mo_begin 35 = .ok (.iconst 0, 1) := by decide +kernel
theorem d_Mo_begin_36 : decode b_Mo_begin 36 = .ok (.putfield 113, 3) := by decide +kernel
theorem d_Mo_begin_39 : decode b_Mo_begin 39 = .ok (.aload_n 0, 1) := by decide +kernel
theorem d_Mo_begin_40 : decode b_Mo_begin 40 = .ok (.iconst 0, 1) := by decide +kernel
theorem d_Mo_begin_41 : decode b_Mo_begin 41 = .ok (.putfield 116, 3) := by decide +kernel
theorem d_Mo_begin_44 : decode b_Mo_begin 44 = .ok (.aload_n 0, 1) := by decide +kernel
theorem d_Mo_begin_45 : decode b_Mo_begin 45 = .ok (.iconst 0, 1) := by decide +kernel
theorem d_Mo_begin_46 : decode b_Mo_begin 46 = .ok (.putfield 119, 3) := by decide +kernel
theorem d_Mo_begin_49 : decode b_Mo_begin 49 = .ok (.aload_n 0, 1) := by decide +kernel
theorem d_Mo_begin_50 : decode b_Mo_begin 50 = .ok (.iconst 0, 1) := by decide +kernel
theorem d_Mo_begin_51 : decode b_Mo_begin 51 = .ok (.putfield 122, 3) := by decide +kernel
theorem d_Mo_begin_54 : decode b_Mo_begin 54 = .ok (.aload_n 0, 1) := by decide +kernel
theorem d_Mo_begin_55 : decode b_Mo_begin 55 = .ok (.iconst 0, 1) := by decide +kernel
theorem d_Mo_begin_56 : decode b_Mo_begin 56 = .ok (.putfield 125, 3) := by decide +kernel
theorem d_Mo_begin_59 : decode b_Mo_begin 59 = .ok (.aload_n 0, 1) := by decide +kernel
theorem d_Mo_begin_60 : decode b_Mo_begin 60 = .ok (.iconst 0, 1) := by decide +kernel
theorem d_Mo_begin_61 : decode b_Mo_begin 61 = .ok (.putfield 128, 3) := by decide +kernel
theorem d_Mo_begin_64 : decode b_Mo_begin 64 = .ok (.aload_n 0, 1) := by decide +kernel
theorem d_Mo_begin_65 : decode b_Mo_begin 65 = .ok (.iconst 0, 1) := by decide +kernel
theorem d_Mo_begin_66 : decode b_Mo_begin 66 = .ok (.putfield 131, 3) := by decide +kernel
theorem d_Mo_begin_69 : decode b_Mo_begin 69 = .ok (.aload_n 0, 1) := by decide +kernel
theorem d_Mo_begin_70 : decode b_Mo_begin 70 = .ok (.iconst 0, 1) := by decide +kernel
theorem d_Mo_begin_71 : decode b_Mo_begin 71 = .ok (.putfield 134, 3) := by decide +kernel
theorem d_Mo_begin_74 : decode b_Mo_begin 74 = .ok (.aload_n 0, 1) := by decide +kernel
theorem d_Mo_begin_75 : decode b_Mo_begin 75 = .ok (.iload_n 2, 1) := by decide +kernel
theorem d_Mo_begin_76 : decode b_Mo_begin 76 = .ok (.putfield 137, 3) := by decide +kernel
theorem d_Mo_begin_79 : decode b_Mo_begin 79 = .ok (.aload_n 0, 1) := by decide +kernel
theorem d_Mo_begin_80 : decode b_Mo_begin 80 = .ok (.iconst 1, 1) := by decide +kernel
theorem d_Mo_begin_81 : decode b_Mo_begin 81 = .ok (.putfield 141, 3) := by decide +kernel
theorem d_Mo_begin_84 : decode b_Mo_begin 84 = .ok (.aload_n 0, 1) := by decide +kernel
theorem d_Mo_begin_85 : decode b_Mo_begin 85 = .ok (.iload_n 1, 1) := by decide +kernel
theorem d_Mo_begin_86 : decode b_Mo_begin 86 = .ok (.iconst (-1), 1) := by decide +kernel
theorem d_Mo_begin_87 : decode b_Mo_begin 87 = .ok (.invokevirtual 144, 3) := by decide +kernel
theorem d_Mo_begin_90 : decode b_Mo_begin 90 = .ok (.return_, 1) := by decide +kernel
theorem d_Mo_valueAtHand_0 : decode b_Mo_valueAtHand 0 = .ok (.aload_n 0, 1) := by decide +kernel
theorem d_Mo_valueAtHand_1 : decode b_Mo_valueAtHand 1 = .ok (.iconst 1, 1) := by decide +kernel
theorem d_Mo_valueAtHand_2 : decode b_Mo_valueAtHand 2 = .ok (.putfield 148, 3) := by decide +kernel
theorem d_Mo_valueAtHand_5 : decode b_Mo_valueAtHand 5 = .ok (.aload_n 0, 1) := by decide +kernel
theorem d_Mo_valueAtHand_6 : decode b_Mo_valueAtHand 6 = .ok (.iload_n 1, 1) := by decide +kernel
theorem d_Mo_valueAtHand_7 : decode b_Mo_valueAtHand 7 = .ok (.putfield 157, 3) := by decide +kernel
theorem d_Mo_valueAtHand_10 : decode b_Mo_valueAtHand 10 = .ok (.aload_n 0, 1) := by decide +kernel
theorem d_Mo_valueAtHand_11 : decode b_Mo_valueAtHand 11 = .ok (.lload_n 2, 1) := by decide +kernel
theorem d_Mo_valueAtHand_12 : decode b_Mo_valueAtHand 12 = .ok (.putfield 160, 3) := by decide +kernel
theorem d_Mo_valueAtHand_15 : decode b_Mo_valueAtHand 15 = .ok (.aload_n 0, 1) := by decide +kernel
theorem d_Mo_valueAtHand_16 : decode b_Mo_valueAtHand 16 = .ok (.iload 4, 2) := by decide +kernel
theorem d_Mo_valueAtHand_18 : decode b_Mo_valueAtHand 18 = .ok (.putfield 164, 3) := by decide +kernel
theorem d_Mo_valueAtHand_21 : decode b_Mo_valueAtHand 21 = .ok (.aload_n 0, 1) := by decide +kernel
theorem d_Mo_valueAtHand_22 : decode b_Mo_valueAtHand 22 = .ok (.iload 5, 2) := by decide +kernel
theorem d_Mo_valueAtHand_24 : decode b_Mo_valueAtHand 24 = .ok (.putfield 167, 3) := by decide +kernel
theorem d_Mo_valueAtHand_27 : decode b_Mo_valueAtHand 27 = .ok (.return_, 1) := by decide +kernel
theorem d_Mo_reach_0 : decode b_Mo_reach 0 = .ok (.aload_n 0, 1) := by decide +kernel
theorem d_Mo_reach_1 : decode b_Mo_reach 1 = .ok (.getfield 78, 3) := by decide +kernel
theorem d_Mo_reach_4 : decode b_Mo_reach 4 = .ok (.iload_n 1, 1) := by decide +kernel
theorem d_Mo_reach_5 : decode b_Mo_reach 5 = .ok (.baload, 1) := by decide +kernel
theorem d_Mo_reach_6 : decode b_Mo_reach 6 = .ok (.ifCond .ne 30, 3) := by decide +kernel
theorem d_Mo_reach_9 : decode b_Mo_reach 9 = .ok (.aload_n 0, 1) := by decide +kernel
theorem d_Mo_reach_10 : decode b_Mo_reach 10 = .ok (.getfield 78, 3) := by decide +kernel
theorem d_Mo_reach_13 : decode b_Mo_reach 13 = .ok (.iload_n 1, 1) := by decide +kernel
theorem d_Mo_reach_14 : decode b_Mo_reach 14 = .ok (.iconst 1, 1) := by decide +kernel
theorem d_Mo_reach_15 : decode b_Mo_reach 15 = .ok (.bastore, 1) := by decide +kernel
theorem d_Mo_reach_16 : decode b_Mo_reach 16 = .ok (.aload_n 0, 1) := by decide +kernel
theorem d_Mo_reach_17 : decode b_Mo_reach 17 = .ok (.getfield 84, 3) := by decide +kernel
theorem d_Mo_reach_20 : decode b_Mo_reach 20 = .ok (.aload_n 0, 1) := by decide +kernel
theorem d_Mo_reach_21 : decode b_Mo_reach 21 = .ok (.getfield 233, 3) := by decide +kernel
theorem d_Mo_reach_24 : decode b_Mo_reach 24 = .ok (.iload_n 1, 1) := by decide +kernel
theorem d_Mo_reach_25 : decode b_Mo_reach 25 = .ok (.iastore, 1) := by decide +kernel
theorem d_Mo_reach_26 : decode b_Mo_reach 26 = .ok (.aload_n 0, 1) := by decide +kernel
theorem d_Mo_reach_27 : decode b_Mo_reach 27 = .ok (.dup, 1) := by decide +kernel
theorem d_Mo_reach_28 : decode b_Mo_reach 28 = .ok (.getfield 233, 3) := by decide +kernel
theorem d_Mo_reach_31 : decode b_Mo_reach 31 = .ok (.iconst 1, 1) := by decide +kernel
theorem d_Mo_reach_32 : decode b_Mo_reach 32 = .ok (.iadd, 1) := by decide +kernel
theorem d_Mo_reach_33 : decode b_Mo_reach 33 = .ok (.putfield 233, 3) := by decide +kernel
theorem d_Mo_reach_36 : decode b_Mo_reach 36 = .ok (.return_, 1) := by decide +kernel
theorem d_Mo_reachPlaces_0 : decode b_Mo_reachPlaces 0 = .ok (.iload_n 1, 1) := by decide +kernel
theorem d_Mo_reachPlaces_1 : decode b_Mo_reachPlaces 1 = .ok (.istore_n 2, 1) := by decide +kernel
theorem d_Mo_reachPlaces_2 : decode b_Mo_reachPlaces 2 = .ok (.iload_n 2, 1) := by decide +kernel
theorem d_Mo_reachPlaces_3 : decode b_Mo_reachPlaces 3 = .ok (.ifCond .lt 39, 3) := by decide +kernel
theorem d_Mo_reachPlaces_6 : decode b_Mo_reachPlaces 6 = .ok (.aload_n 0, 1) := by decide +kernel
theorem d_Mo_reachPlaces_7 : decode b_Mo_reachPlaces 7 = .ok (.getfield 81, 3) := by decide +kernel
theorem d_Mo_reachPlaces_10 : decode b_Mo_reachPlaces 10 = .ok (.iload_n 2, 1) := by decide +kernel
theorem d_Mo_reachPlaces_11 : decode b_Mo_reachPlaces 11 = .ok (.baload, 1) := by decide +kernel
theorem d_Mo_reachPlaces_12 : decode b_Mo_reachPlaces 12 = .ok (.ifCond .ne 30, 3) := by decide +kernel
theorem d_Mo_reachPlaces_15 : decode b_Mo_reachPlaces 15 = .ok (.aload_n 0, 1) := by decide +kernel
theorem d_Mo_reachPlaces_16 : decode b_Mo_reachPlaces 16 = .ok (.getfield 81, 3) := by decide +kernel
theorem d_Mo_reachPlaces_19 : decode b_Mo_reachPlaces 19 = .ok (.iload_n 2, 1) := by decide +kernel
theorem d_Mo_reachPlaces_20 : decode b_Mo_reachPlaces 20 = .ok (.iconst 1, 1) := by decide +kernel
theorem d_Mo_reachPlaces_21 : decode b_Mo_reachPlaces 21 = .ok (.bastore, 1) := by decide +kernel
theorem d_Mo_reachPlaces_22 : decode b_Mo_reachPlaces 22 = .ok (.aload_n 0, 1) := by decide +kernel
theorem d_Mo_reachPlaces_23 : decode b_Mo_reachPlaces 23 = .ok (.aload_n 0, 1) := by decide +kernel
theorem d_Mo_reachPlaces_24 : decode b_Mo_reachPlaces 24 = .ok (.getfield 60, 3) := by decide +kernel
theorem d_Mo_reachPlaces_27 : decode b_Mo_reachPlaces 27 = .ok (.iload_n 2, 1) := by decide +kernel
theorem d_Mo_reachPlaces_28 : decode b_Mo_reachPlaces 28 = .ok (.iaload, 1) := by decide +kernel
theorem d_Mo_reachPlaces_29 : decode b_Mo_reachPlaces 29 = .ok (.invokevirtual 236, 3) := by decide +kernel
theorem d_Mo_reachPlaces_32 : decode b_Mo_reachPlaces 32 = .ok (.aload_n 0, 1) := by decide +kernel
theorem d_Mo_reachPlaces_33 : decode b_Mo_reachPlaces 33 = .ok (.getfield 63, 3) := by decide +kernel
theorem d_Mo_reachPlaces_36 : decode b_Mo_reachPlaces 36 = .ok (.iload_n 2, 1) := by decide +kernel
theorem d_Mo_reachPlaces_37 : decode b_Mo_reachPlaces 37 = .ok (.iaload, 1) := by decide +kernel
theorem d_Mo_reachPlaces_38 : decode b_Mo_reachPlaces 38 = .ok (.istore_n 2, 1) := by decide +kernel
theorem d_Mo_reachPlaces_39 : decode b_Mo_reachPlaces 39 = .ok (.goto (-37), 3) := by decide +kernel
theorem d_Mo_reachPlaces_42 : decode b_Mo_reachPlaces 42 = .ok (.return_, 1) := by decide +kernel
theorem d_Mo_reachValue_0 : decode b_Mo_reachValue 0 = .ok (.iload_n 1, 1) := by decide +kernel
theorem d_Mo_reachValue_1 : decode b_Mo_reachValue 1 = .ok (.iconst 1, 1) := by decide +kernel
theorem d_Mo_reachValue_2 : decode b_Mo_reachValue 2 = .ok (.if_icmp .ne 11, 3) := by decide +kernel
theorem d_Mo_reachValue_5 : decode b_Mo_reachValue 5 = .ok (.aload_n 0, 1) := by decide +kernel
theorem d_Mo_reachValue_6 : decode b_Mo_reachValue 6 = .ok (.iload_n 3, 1) := by decide +kernel
theorem d_Mo_reachValue_7 : decode b_Mo_reachValue 7 = .ok (.invokevirtual 240, 3) := by decide +kernel
theorem d_Mo_reachValue_10 : decode b_Mo_reachValue 10 = .ok (.goto 18, 3) := by decide +kernel
theorem d_Mo_reachValue_13 : decode b_Mo_reachValue 13 = .ok (.iload_n 1, 1) := by decide +kernel
theorem d_Mo_reachValue_14 : decode b_Mo_reachValue 14 = .ok (.iconst 2, 1) := by decide +kernel
theorem d_Mo_reachValue_15 : decode b_Mo_reachValue 15 = .ok (.if_icmp .ne 13, 3) := by decide +kernel
theorem d_Mo_reachValue_18 : decode b_Mo_reachValue 18 = .ok (.aload_n 0, 1) := by decide +kernel
theorem d_Mo_reachValue_19 : decode b_Mo_reachValue 19 = .ok (.iload_n 2, 1) := by decide +kernel
theorem d_Mo_reachValue_20 : decode b_Mo_reachValue 20 = .ok (.invokevirtual 236, 3) := by decide +kernel
theorem d_Mo_reachValue_23 : decode b_Mo_reachValue 23 = .ok (.aload_n 0, 1) := by decide +kernel
theorem d_Mo_reachValue_24 : decode b_Mo_reachValue 24 = .ok (.iload_n 3, 1) := by decide +kernel
theorem d_Mo_reachValue_25 : decode b_Mo_reachValue 25 = .ok (.invokevirtual 236, 3) := by decide +kernel
theorem d_Mo_reachValue_28 : decode b_Mo_reachValue 28 = .ok (.return_, 1) := by decide +kernel
theorem d_Mo_reachHand_0 : decode b_Mo_reachHand 0 = .ok (.aload_n 0, 1) := by decide +kernel
theorem d_Mo_reachHand_1 : decode b_Mo_reachHand 1 = .ok (.getfield 148, 3) := by decide +kernel
theorem d_Mo_reachHand_4 : decode b_Mo_reachHand 4 = .ok (.ifCond .ne 14, 3) := by decide +kernel
theorem d_Mo_reachHand_7 : decode b_Mo_reachHand 7 = .ok (.aload_n 0, 1) := by decide +kernel
theorem d_Mo_reachHand_8 : decode b_Mo_reachHand 8 = .ok (.aload_n 0, 1) := by decide +kernel
theorem d_Mo_reachHand_9 : decode b_Mo_reachHand 9 = .ok (.getfield 154, 3) := by decide +kernel
theorem d_Mo_reachHand_12 : decode b_Mo_reachHand 12 = .ok (.invokevirtual 240, 3) := by decide +kernel
theorem d_Mo_reachHand_15 : decode b_Mo_reachHand 15 = .ok (.goto 38, 3) := by decide +kernel
theorem d_Mo_reachHand_18 : decode b_Mo_reachHand 18 = .ok (.aload_n 0, 1) := by decide +kernel
theorem d_Mo_reachHand_19 : decode b_Mo_reachHand 19 = .ok (.getfield 148, 3) := by decide +kernel
theorem d_Mo_reachHand_22 : decode b_Mo_reachHand 22 = .ok (.iconst 1, 1) := by decide +kernel
theorem d_Mo_reachHand_23 : decode b_Mo_reachHand 23 = .ok (.if_icmp .ne 22, 3) := by decide +kernel
theorem d_Mo_reachHand_26 : decode b_Mo_reachHand 26 = .ok (.aload_n 0, 1) := by decide +kernel
theorem d_Mo_reachHand_27 : decode b_Mo_reachHand 27 = .ok (.aload_n 0, 1) := by decide +kernel
theorem d_Mo_reachHand_28 : decode b_Mo_reachHand 28 = .ok (.getfield 157, 3) := by decide +kernel
theorem d_Mo_reachHand_31 : decode b_Mo_reachHand 31 = .ok (.aload_n 0, 1) := by decide +kernel
theorem d_Mo_reachHand_32 : decode b_Mo_reachHand 32 = .ok (.getfield 164, 3) := by decide +kernel
theorem d_Mo_reachHand_35 : decode b_Mo_reachHand 35 = .ok (.aload_n 0, 1) := by decide +kernel
theorem d_Mo_reachHand_36 : decode b_Mo_reachHand 36 = .ok (.getfield 167, 3) := by decide +kernel
theorem d_Mo_reachHand_39 : decode b_Mo_reachHand 39 = .ok (.invokevirtual 243, 3) := by decide +kernel
theorem d_Mo_reachHand_42 : decode b_Mo_reachHand 42 = .ok (.goto 11, 3) := by decide +kernel
theorem d_Mo_reachHand_45 : decode b_Mo_reachHand 45 = .ok (.aload_n 0, 1) := by decide +kernel
theorem d_Mo_reachHand_46 : decode b_Mo_reachHand 46 = .ok (.aload_n 0, 1) := by decide +kernel
theorem d_Mo_reachHand_47 : decode b_Mo_reachHand 47 = .ok (.getfield 180, 3) := by decide +kernel
theorem d_Mo_reachHand_50 : decode b_Mo_reachHand 50 = .ok (.invokevirtual 236, 3) := by decide +kernel
theorem d_Mo_reachHand_53 : decode b_Mo_reachHand 53 = .ok (.iconst 0, 1) := by decide +kernel
theorem d_Mo_reachHand_54 : decode b_Mo_reachHand 54 = .ok (.istore_n 1, 1) := by decide +kernel
theorem d_Mo_reachHand_55 : decode b_Mo_reachHand 55 = .ok (.iload_n 1, 1) := by decide +kernel
theorem d_Mo_reachHand_56 : decode b_Mo_reachHand 56 = .ok (.aload_n 0, 1) := by decide +kernel
theorem d_Mo_reachHand_57 : decode b_Mo_reachHand 57 = .ok (.getfield 122, 3) := by decide +kernel
theorem d_Mo_reachHand_60 : decode b_Mo_reachHand 60 = .ok (.if_icmp .ge 62, 3) := by decide +kernel
theorem d_Mo_reachHand_63 : decode b_Mo_reachHand 63 = .ok (.aload_n 0, 1) := by decide +kernel
theorem d_Mo_reachHand_64 : decode b_Mo_reachHand 64 = .ok (.getfield 66, 3) := by decide +kernel
theorem d_Mo_reachHand_67 : decode b_Mo_reachHand 67 = .ok (.iload_n 1, 1) := by decide +kernel
theorem d_Mo_reachHand_68 : decode b_Mo_reachHand 68 = .ok (.iaload, 1) := by decide +kernel
theorem d_Mo_reachHand_69 : decode b_Mo_reachHand 69 = .ok (.iconst 2, 1) := by decide +kernel
theorem d_Mo_reachHand_70 : decode b_Mo_reachHand 70 = .ok (.if_icmp .ge 16, 3) := by decide +kernel
theorem d_Mo_reachHand_73 : decode b_Mo_reachHand 73 = .ok (.aload_n 0, 1) := by decide +kernel
theorem d_Mo_reachHand_74 : decode b_Mo_reachHand 74 = .ok (.aload_n 0, 1) := by decide +kernel
theorem d_Mo_reachHand_75 : decode b_Mo_reachHand 75 = .ok (.getfield 69, 3) := by decide +kernel
theorem d_Mo_reachHand_78 : decode b_Mo_reachHand 78 = .ok (.iload_n 1, 1) := by decide +kernel
theorem d_Mo_reachHand_79 : decode b_Mo_reachHand 79 = .ok (.iaload, 1) := by decide +kernel
theorem d_Mo_reachHand_80 : decode b_Mo_reachHand 80 = .ok (.invokevirtual 236, 3) := by decide +kernel
theorem d_Mo_reachHand_83 : decode b_Mo_reachHand 83 = .ok (.goto 33, 3) := by decide +kernel
theorem d_Mo_reachHand_86 : decode b_Mo_reachHand 86 = .ok (.aload_n 0, 1) := by decide +kernel
theorem d_Mo_reachHand_87 : decode b_Mo_reachHand 87 = .ok (.getfield 66, 3) := by decide +kernel
theorem d_Mo_reachHand_90 : decode b_Mo_reachHand 90 = .ok (.iload_n 1, 1) := by decide +kernel
theorem d_Mo_reachHand_91 : decode b_Mo_reachHand 91 = .ok (.iaload, 1) := by decide +kernel
theorem d_Mo_reachHand_92 : decode b_Mo_reachHand 92 = .ok (.iconst 2, 1) := by decide +kernel
theorem d_Mo_reachHand_93 : decode b_Mo_reachHand 93 = .ok (.if_icmp .eq 13, 3) := by decide +kernel
theorem d_Mo_reachHand_96 : decode b_Mo_reachHand 96 = .ok (.aload_n 0, 1) := by decide +kernel
theorem d_Mo_reachHand_97 : decode b_Mo_reachHand 97 = .ok (.getfield 66, 3) := by decide +kernel
theorem d_Mo_reachHand_100 : decode b_Mo_reachHand 100 = .ok (.iload_n 1, 1) := by decide +kernel
theorem d_Mo_reachHand_101 : decode b_Mo_reachHand 101 = .ok (.iaload, 1) := by decide +kernel
theorem d_Mo_reachHand_102 : decode b_Mo_reachHand 102 = .ok (.iconst 4, 1) := by decide +kernel
theorem d_Mo_reachHand_103 : decode b_Mo_reachHand 103 = .ok (.if_icmp .ne 13, 3) := by decide +kernel
theorem d_Mo_reachHand_106 : decode b_Mo_reachHand 106 = .ok (.aload_n 0, 1) := by decide +kernel
theorem d_Mo_reachHand_107 : decode b_Mo_reachHand 107 = .ok (.aload_n 0, 1) := by decide +kernel
theorem d_Mo_reachHand_108 : decode b_Mo_reachHand 108 = .ok (.getfield 72, 3) := by decide +kernel
theorem d_Mo_reachHand_111 : decode b_Mo_reachHand 111 = .ok (.iload_n 1, 1) := by decide +kernel
theorem d_Mo_reachHand_112 : decode b_Mo_reachHand 112 = .ok (.iaload, 1) := by decide +kernel
theorem d_Mo_reachHand_113 : decode b_Mo_reachHand 113 = .ok (.invokevirtual 240, 3) := by decide +kernel
theorem d_Mo_reachHand_116 : decode b_Mo_reachHand 116 = .ok (.iinc 1 1, 3) := by decide +kernel
theorem d_Mo_reachHand_119 : decode b_Mo_reachHand 119 = .ok (.goto (-64), 3) := by decide +kernel
theorem d_Mo_reachHand_122 : decode b_Mo_reachHand 122 = .ok (.return_, 1) := by decide +kernel
theorem d_Mo_sweep_0 : decode b_Mo_sweep 0 = .ok (.iconst 0, 1) := by decide +kernel
theorem d_Mo_sweep_1 : decode b_Mo_sweep 1 = .ok (.istore_n 1, 1) := by decide +kernel
theorem d_Mo_sweep_2 : decode b_Mo_sweep 2 = .ok (.iload_n 1, 1) := by decide +kernel
theorem d_Mo_sweep_3 : decode b_Mo_sweep 3 = .ok (.aload_n 0, 1) := by decide +kernel
theorem d_Mo_sweep_4 : decode b_Mo_sweep 4 = .ok (.getfield 113, 3) := by decide +kernel
theorem d_Mo_sweep_7 : decode b_Mo_sweep 7 = .ok (.if_icmp .ge 16, 3) := by decide +kernel
theorem d_Mo_sweep_10 : decode b_Mo_sweep 10 = .ok (.aload_n 0, 1) := by decide +kernel
theorem d_Mo_sweep_11 : decode b_Mo_sweep 11 = .ok (.getfield 78, 3) := by decide +kernel
theorem d_Mo_sweep_14 : decode b_Mo_sweep 14 = .ok (.iload_n 1, 1) := by decide +kernel
theorem d_Mo_sweep_15 : decode b_Mo_sweep 15 = .ok (.iconst 0, 1) := by decide +kernel
theorem d_Mo_sweep_16 : decode b_Mo_sweep 16 = .ok (.bastore, 1) := by decide +kernel
theorem d_Mo_sweep_17 : decode b_Mo_sweep 17 = .ok (.iinc 1 1, 3) := by decide +kernel
theorem d_Mo_sweep_20 : decode b_Mo_sweep 20 = .ok (.goto (-18), 3) := by decide +kernel
theorem d_Mo_sweep_23 : decode b_Mo_sweep 23 = .ok (.iconst 0, 1) := by decide +kernel
theorem d_Mo_sweep_24 : decode b_Mo_sweep 24 = .ok (.istore_n 1, 1) := by decide +kernel
theorem d_Mo_sweep_25 : decode b_Mo_sweep 25 = .ok (.iload_n 1, 1) := by decide +kernel
theorem d_Mo_sweep_26 : decode b_Mo_sweep 26 = .ok (.aload_n 0, 1) := by decide +kernel
theorem d_Mo_sweep_27 : decode b_Mo_sweep 27 = .ok (.getfield 119, 3) := by decide +kernel
theorem d_Mo_sweep_30 : decode b_Mo_sweep 30 = .ok (.if_icmp .ge 16, 3) := by decide +kernel
theorem d_Mo_sweep_33 : decode b_Mo_sweep 33 = .ok (.aload_n 0, 1) := by decide +kernel
theorem d_Mo_sweep_34 : decode b_Mo_sweep 34 = .ok (.getfield 81, 3) := by decide +kernel
theorem d_Mo_sweep_37 : decode b_Mo_sweep 37 = .ok (.iload_n 1, 1) := by decide +kernel
theorem d_Mo_sweep_38 : decode b_Mo_sweep 38 = .ok (.iconst 0, 1) := by decide +kernel
theorem d_Mo_sweep_39 : decode b_Mo_sweep 39 = .ok (.bastore, 1) := by decide +kernel
theorem d_Mo_sweep_40 : decode b_Mo_sweep 40 = .ok (.iinc 1 1, 3) := by decide +kernel
theorem d_Mo_sweep_43 : decode b_Mo_sweep 43 = .ok (.goto (-18), 3) := by decide +kernel
theorem d_Mo_sweep_46 : decode b_Mo_sweep 46 = .ok (.aload_n 0, 1) := by decide +kernel
theorem d_Mo_sweep_47 : decode b_Mo_sweep 47 = .ok (.iconst 0, 1) := by decide +kernel
theorem d_Mo_sweep_48 : decode b_Mo_sweep 48 = .ok (.putfield 233, 3) := by decide +kernel
theorem d_Mo_sweep_51 : decode b_Mo_sweep 51 = .ok (.aload_n 0, 1) := by decide +kernel
theorem d_Mo_sweep_52 : decode b_Mo_sweep 52 = .ok (.invokevirtual 247, 3) := by decide +kernel
theorem d_Mo_sweep_55 : decode b_Mo_sweep 55 = .ok (.iconst 0, 1) := by decide +kernel
theorem d_Mo_sweep_56 : decode b_Mo_sweep 56 = .ok (.istore_n 1, 1) := by decide +kernel
theorem d_Mo_sweep_57 : decode b_Mo_sweep 57 = .ok (.iload_n 1, 1) := by decide +kernel
theorem d_Mo_sweep_58 : decode b_Mo_sweep 58 = .ok (.aload_n 0, 1) := by decide +kernel
theorem d_Mo_sweep_59 : decode b_Mo_sweep 59 = .ok (.getfield 233, 3) := by decide +kernel
theorem d_Mo_sweep_62 : decode b_Mo_sweep 62 = .ok (.if_icmp .ge 70, 3) := by decide +kernel
theorem d_Mo_sweep_65 : decode b_Mo_sweep 65 = .ok (.aload_n 0, 1) := by decide +kernel
theorem d_Mo_sweep_66 : decode b_Mo_sweep 66 = .ok (.getfield 84, 3) := by decide +kernel
theorem d_Mo_sweep_69 : decode b_Mo_sweep 69 = .ok (.iload_n 1, 1) := by decide +kernel
theorem d_Mo_sweep_70 : decode b_Mo_sweep 70 = .ok (.iaload, 1) := by decide +kernel
theorem d_Mo_sweep_71 : decode b_Mo_sweep 71 = .ok (.istore_n 2, 1) := by decide +kernel
theorem d_Mo_sweep_72 : decode b_Mo_sweep 72 = .ok (.aload_n 0, 1) := by decide +kernel
theorem d_Mo_sweep_73 : decode b_Mo_sweep 73 = .ok (.getfield 29, 3) := by decide +kernel
theorem d_Mo_sweep_76 : decode b_Mo_sweep 76 = .ok (.iload_n 2, 1) := by decide +kernel
theorem d_Mo_sweep_77 : decode b_Mo_sweep 77 = .ok (.iaload, 1) := by decide +kernel
theorem d_Mo_sweep_78 : decode b_Mo_sweep 78 = .ok (.ifCond .ne 16, 3) := by decide +kernel
theorem d_Mo_sweep_81 : decode b_Mo_sweep 81 = .ok (.aload_n 0, 1) := by decide +kernel
theorem d_Mo_sweep_82 : decode b_Mo_sweep 82 = .ok (.aload_n 0, 1) := by decide +kernel
theorem d_Mo_sweep_83 : decode b_Mo_sweep 83 = .ok (.getfield 35, 3) := by decide +kernel
theorem d_Mo_sweep_86 : decode b_Mo_sweep 86 = .ok (.iload_n 2, 1) := by decide +kernel
theorem d_Mo_sweep_87 : decode b_Mo_sweep 87 = .ok (.iaload, 1) := by decide +kernel
theorem d_Mo_sweep_88 : decode b_Mo_sweep 88 = .ok (.invokevirtual 240, 3) := by decide +kernel
theorem d_Mo_sweep_91 : decode b_Mo_sweep 91 = .ok (.goto 35, 3) := by decide +kernel
theorem d_Mo_sweep_94 : decode b_Mo_sweep 94 = .ok (.aload_n 0, 1) := by decide +kernel
theorem d_Mo_sweep_95 : decode b_Mo_sweep 95 = .ok (.getfield 29, 3) := by decide +kernel
theorem d_Mo_sweep_98 : decode b_Mo_sweep 98 = .ok (.iload_n 2, 1) := by decide +kernel
theorem d_Mo_sweep_99 : decode b_Mo_sweep 99 = .ok (.iaload, 1) := by decide +kernel
theorem d_Mo_sweep_100 : decode b_Mo_sweep 100 = .ok (.iconst 2, 1) := by decide +kernel
theorem d_Mo_sweep_101 : decode b_Mo_sweep 101 = .ok (.if_icmp .ne 25, 3) := by decide +kernel
theorem d_Mo_sweep_104 : decode b_Mo_sweep 104 = .ok (.aload_n 0, 1) := by decide +kernel
theorem d_Mo_sweep_105 : decode b_Mo_sweep 105 = .ok (.aload_n 0, 1) := by decide +kernel
theorem d_Mo_sweep_106 : decode b_Mo_sweep 106 = .ok (.getfield 38, 3) := by decide +kernel
theorem d_Mo_sweep_109 : decode b_Mo_sweep 109 = .ok (.iload_n 2, 1) := by decide +kernel
theorem d_Mo_sweep_110 : decode b_Mo_sweep 110 = .ok (.iaload, 1) := by decide +kernel
theorem d_Mo_sweep_111 : decode b_Mo_sweep 111 = .ok (.aload_n 0, 1) := by decide +kernel
theorem d_Mo_sweep_112 : decode b_Mo_sweep 112 = .ok (.getfield 44, 3) := by decide +kernel
theorem d_Mo_sweep_115 : decode b_Mo_sweep 115 = .ok (.iload_n 2, 1) := by decide +kernel
theorem d_Mo_sweep_116 : decode b_Mo_sweep 116 = .ok (.iaload, 1) := by decide +kernel
theorem d_Mo_sweep_117 : decode b_Mo_sweep 117 = .ok (.aload_n 0, 1) := by decide +kernel
theorem d_Mo_sweep_118 : decode b_Mo_sweep 118 = .ok (.getfield 47, 3) := by decide +kernel
theorem d_Mo_sweep_121 : decode b_Mo_sweep 121 = .ok (.iload_n 2, 1) := by decide +kernel
theorem d_Mo_sweep_122 : decode b_Mo_sweep 122 = .ok (.iaload, 1) := by decide +kernel
theorem d_Mo_sweep_123 : decode b_Mo_sweep 123 = .ok (.invokevirtual 243, 3) := by decide +kernel
theorem d_Mo_sweep_126 : decode b_Mo_sweep 126 = .ok (.iinc 1 1, 3) := by decide +kernel
theorem d_Mo_sweep_129 : decode b_Mo_sweep 129 = .ok (.goto (-72), 3) := by decide +kernel
theorem d_Mo_sweep_132 : decode b_Mo_sweep 132 = .ok (.iconst 0, 1) := by decide +kernel
theorem d_Mo_sweep_133 : decode b_Mo_sweep 133 = .ok (.istore_n 1, 1) := by decide +kernel
theorem d_Mo_sweep_134 : decode b_Mo_sweep 134 = .ok (.iconst 0, 1) := by decide +kernel
theorem d_Mo_sweep_135 : decode b_Mo_sweep 135 = .ok (.istore_n 2, 1) := by decide +kernel
theorem d_Mo_sweep_136 : decode b_Mo_sweep 136 = .ok (.iload_n 2, 1) := by decide +kernel
theorem d_Mo_sweep_137 : decode b_Mo_sweep 137 = .ok (.aload_n 0, 1) := by decide +kernel
theorem d_Mo_sweep_138 : decode b_Mo_sweep 138 = .ok (.getfield 113, 3) := by decide +kernel
theorem d_Mo_sweep_141 : decode b_Mo_sweep 141 = .ok (.if_icmp .ge 38, 3) := by decide +kernel
theorem d_Mo_sweep_144 : decode b_Mo_sweep 144 = .ok (.aload_n 0, 1) := by decide +kernel
theorem d_Mo_sweep_145 : decode b_Mo_sweep 145 = .ok (.getfield 78, 3) := by decide +kernel
theorem d_Mo_sweep_148 : decode b_Mo_sweep 148 = .ok (.iload_n 2, 1) := by decide +kernel
theorem d_Mo_sweep_149 : decode b_Mo_sweep 149 = .ok (.baload, 1) := by decide +kernel
theorem d_Mo_sweep_150 : decode b_Mo_sweep 150 = .ok (.ifCond .ne 23, 3) := by decide +kernel
theorem d_Mo_sweep_153 : decode b_Mo_sweep 153 = .ok (.aload_n 0, 1) := by decide +kernel
theorem d_Mo_sweep_154 : decode b_Mo_sweep 154 = .ok (.getfield 29, 3) := by decide +kernel
theorem d_Mo_sweep_157 : decode b_Mo_sweep 157 = .ok (.iload_n 2, 1) := by decide +kernel
theorem d_Mo_sweep_158 : decode b_Mo_sweep 158 = .ok (.iaload, 1) := by decide +kernel
theorem d_Mo_sweep_159 : decode b_Mo_sweep 159 = .ok (.iconst 3, 1) := by decide +kernel
theorem d_Mo_sweep_160 : decode b_Mo_sweep 160 = .ok (.if_icmp .eq 13, 3) := by decide +kernel
theorem d_Mo_sweep_163 : decode b_Mo_sweep 163 = .ok (.aload_n 0, 1) := by decide +kernel
theorem d_Mo_sweep_164 : decode b_Mo_sweep 164 = .ok (.getfield 29, 3) := by decide +kernel
theorem d_Mo_sweep_167 : decode b_Mo_sweep 167 = .ok (.iload_n 2, 1) := by decide +kernel
theorem d_Mo_sweep_168 : decode b_Mo_sweep 168 = .ok (.iconst 3, 1) := by decide +kernel
theorem d_Mo_sweep_169 : decode b_Mo_sweep 169 = .ok (.iastore, 1) := by decide +kernel
theorem d_Mo_sweep_170 : decode b_Mo_sweep 170 = .ok (.iinc 1 1, 3) := by decide +kernel
theorem d_Mo_sweep_173 : decode b_Mo_sweep 173 = .ok (.iinc 2 1, 3) := by decide +kernel
theorem d_Mo_sweep_176 : decode b_Mo_sweep 176 = .ok (.goto (-40), 3) := by decide +kernel
theorem d_Mo_sweep_179 : decode b_Mo_sweep 179 = .ok (.aload_n 0, 1) := by decide +kernel
theorem d_Mo_sweep_180 : decode b_Mo_sweep 180 = .ok (.dup, 1) := by decide +kernel
theorem d_Mo_sweep_181 : decode b_Mo_sweep 181 = .ok (.getfield 116, 3) := by decide +kernel
theorem d_Mo_sweep_184 : decode b_Mo_sweep 184 = .ok (.iload_n 1, 1) := by decide +kernel
theorem d_Mo_sweep_185 : decode b_Mo_sweep 185 = .ok (.isub, 1) := by decide +kernel
theorem d_Mo_sweep_186 : decode b_Mo_sweep 186 = .ok (.putfield 116, 3) := by decide +kernel
theorem d_Mo_sweep_189 : decode b_Mo_sweep 189 = .ok (.iload_n 1, 1) := by decide +kernel
theorem d_Mo_sweep_190 : decode b_Mo_sweep 190 = .ok (.ireturn, 1) := by decide +kernel
theorem d_Mo_latestInWork_0 : decode b_Mo_latestInWork 0 = .ok (.aload_n 0, 1) := by decide +kernel
theorem d_Mo_latestInWork_1 : decode b_Mo_latestInWork 1 = .ok (.getfield 122, 3) := by decide +kernel
theorem d_Mo_latestInWork_4 : decode b_Mo_latestInWork 4 = .ok (.iconst 1, 1) := by decide +kernel
theorem d_Mo_latestInWork_5 : decode b_Mo_latestInWork 5 = .ok (.isub, 1) := by decide +kernel
theorem d_Mo_latestInWork_6 : decode b_Mo_latestInWork 6 = .ok (.istore_n 1, 1) := by decide +kernel
theorem d_Mo_latestInWork_7 : decode b_Mo_latestInWork 7 = .ok (.iload_n 1, 1) := by decide +kernel
theorem d_Mo_latestInWork_8 : decode b_Mo_latestInWork 8 = .ok (.ifCond .lt 18, 3) := by decide +kernel
theorem d_Mo_latestInWork_11 : decode b_Mo_latestInWork 11 = .ok (.aload_n 0, 1) := by decide +kernel
theorem d_Mo_latestInWork_12 : decode b_Mo_latestInWork 12 = .ok (.getfield 66, 3) := by decide +kernel
theorem d_Mo_latestInWork_15 : decode b_Mo_latestInWork 15 = .ok (.iload_n 1, 1) := by decide +kernel
theorem d_Mo_latestInWork_16 : decode b_Mo_latestInWork 16 = .ok (.iaload, 1) := by decide +kernel
theorem d_Mo_latestInWork_17 : decode b_Mo_latestInWork 17 = .ok (.ifCond .eq 9, 3) := by decide +kernel
theorem d_Mo_latestInWork_20 : decode b_Mo_latestInWork 20 = .ok (.iinc 1 (-1), 3) := by decide +kernel
theorem d_Mo_latestInWork_23 : decode b_Mo_latestInWork 23 = .ok (.goto (-16), 3) := by decide +kernel
theorem d_Mo_latestInWork_26 : decode b_Mo_latestInWork 26 = .ok (.iload_n 1, 1) := by decide +kernel
theorem d_Mo_latestInWork_27 : decode b_Mo_latestInWork 27 = .ok (.ifCond .ge 7, 3) := by decide +kernel
theorem d_Mo_latestInWork_30 : decode b_Mo_latestInWork 30 = .ok (.iconst (-1), 1) := by decide +kernel
theorem d_Mo_latestInWork_31 : decode b_Mo_latestInWork 31 = .ok (.goto 9, 3) := by decide +kernel
theorem d_Mo_latestInWork_34 : decode b_Mo_latestInWork 34 = .ok (.aload_n 0, 1) := by decide +kernel
theorem d_Mo_latestInWork_35 : decode b_Mo_latestInWork 35 = .ok (.getfield 69, 3) := by decide +kernel
theorem d_Mo_latestInWork_38 : decode b_Mo_latestInWork 38 = .ok (.iload_n 1, 1) := by decide +kernel
theorem d_Mo_latestInWork_39 : decode b_Mo_latestInWork 39 = .ok (.iaload, 1) := by decide +kernel
theorem d_Mo_latestInWork_40 : decode b_Mo_latestInWork 40 = .ok (.ireturn, 1) := by decide +kernel
theorem d_Mo_push_0 : decode b_Mo_push 0 = .ok (.aload_n 0, 1) := by decide +kernel
theorem d_Mo_push_1 : decode b_Mo_push 1 = .ok (.getfield 66, 3) := by decide +kernel
theorem d_Mo_push_4 : decode b_Mo_push 4 = .ok (.aload_n 0, 1) := by decide +kernel
theorem d_Mo_push_5 : decode b_Mo_push 5 = .ok (.getfield 122, 3) := by decide +kernel
theorem d_Mo_push_8 : decode b_Mo_push 8 = .ok (.iload_n 1, 1) := by decide +kernel
theorem d_Mo_push_9 : decode b_Mo_push 9 = .ok (.iastore, 1) := by decide +kernel
theorem d_Mo_push_10 : decode b_Mo_push 10 = .ok (.aload_n 0, 1) := by decide +kernel
theorem d_Mo_push_11 : decode b_Mo_push 11 = .ok (.getfield 69, 3) := by decide +kernel
theorem d_Mo_push_14 : decode b_Mo_push 14 = .ok (.aload_n 0, 1) := by decide +kernel
theorem d_Mo_push_15 : decode b_Mo_push 15 = .ok (.getfield 122, 3) := by decide +kernel
theorem d_Mo_push_18 : decode b_Mo_push 18 = .ok (.iload_n 2, 1) := by decide +kernel
theorem d_Mo_push_19 : decode b_Mo_push 19 = .ok (.iastore, 1) := by decide +kernel
theorem d_Mo_push_20 : decode b_Mo_push 20 = .ok (.aload_n 0, 1) := by decide +kernel
theorem d_Mo_push_21 : decode b_Mo_push 21 = .ok (.getfield 72, 3) := by decide +kernel
theorem d_Mo_push_24 : decode b_Mo_push 24 = .ok (.aload_n 0, 1) := by decide +kernel
theorem d_Mo_push_25 : decode b_Mo_push 25 = .ok (.getfield 122, 3) := by decide +kernel
theorem d_Mo_push_28 : decode b_Mo_push 28 = .ok (.iload_n 3, 1) := by decide +kernel
theorem d_Mo_push_29 : decode b_Mo_push 29 = .ok (.iastore, 1) := by decide +kernel
theorem d_Mo_push_30 : decode b_Mo_push 30 = .ok (.aload_n 0, 1) := by decide +kernel
theorem d_Mo_push_31 : decode b_Mo_push 31 = .ok (.getfield 75, 3) := by decide +kernel
theorem d_Mo_push_34 : decode b_Mo_push 34 = .ok (.aload_n 0, 1) := by decide +kernel
theorem d_Mo_push_35 : decode b_Mo_push 35 = .ok (.getfield 122, 3) := by decide +kernel
theorem d_Mo_push_38 : decode b_Mo_push 38 = .ok (.lload 4, 2) := by decide +kernel
theorem d_Mo_push_40 : decode b_Mo_push 40 = .ok (.lastore, 1) := by decide +kernel
theorem d_Mo_push_41 : decode b_Mo_push 41 = .ok (.aload_n 0, 1) := by decide +kernel
theorem d_Mo_push_42 : decode b_Mo_push 42 = .ok (.dup, 1) := by decide +kernel
theorem d_Mo_push_43 : decode b_Mo_push 43 = .ok (.getfield 122, 3) := by decide +kernel
theorem d_Mo_push_46 : decode b_Mo_push 46 = .ok (.iconst 1, 1) := by decide +kernel
theorem d_Mo_push_47 : decode b_Mo_push 47 = .ok (.iadd, 1) := by decide +kernel
theorem d_Mo_push_48 : decode b_Mo_push 48 = .ok (.putfield 122, 3) := by decide +kernel
theorem d_Mo_push_51 : decode b_Mo_push 51 = .ok (.return_, 1) := by decide +kernel
theorem d_Mo_need_0 : decode b_Mo_need 0 = .ok (.iload_n 2, 1) := by decide +kernel
theorem d_Mo_need_1 : decode b_Mo_need 1 = .ok (.ifCond .eq 12, 3) := by decide +kernel
theorem d_Mo_need_4 : decode b_Mo_need 4 = .ok (.aload_n 0, 1) := by decide +kernel
theorem d_Mo_need_5 : decode b_Mo_need 5 = .ok (.getfield 122, 3) := by decide +kernel
theorem d_Mo_need_8 : decode b_Mo_need 8 = .ok (.iconst 1, 1) := by decide +kernel
theorem d_Mo_need_9 : decode b_Mo_need 9 = .ok (.isub, 1) := by decide +kernel
theorem d_Mo_need_10 : decode b_Mo_need 10 = .ok (.goto 7, 3) := by decide +kernel
theorem d_Mo_need_13 : decode b_Mo_need 13 = .ok (.aload_n 0, 1) := by decide +kernel
theorem d_Mo_need_14 : decode b_Mo_need 14 = .ok (.getfield 122, 3) := by decide +kernel
theorem d_Mo_need_17 : decode b_Mo_need 17 = .ok (.istore_n 3, 1) := by decide +kernel
theorem d_Mo_need_18 : decode b_Mo_need 18 = .ok (.aload_n 0, 1) := by decide +kernel
theorem d_Mo_need_19 : decode b_Mo_need 19 = .ok (.getfield 29, 3) := by decide +kernel
theorem d_Mo_need_22 : decode b_Mo_need 22 = .ok (.iload_n 1, 1) := by decide +kernel
theorem d_Mo_need_23 : decode b_Mo_need 23 = .ok (.iaload, 1) := by decide +kernel
theorem d_Mo_need_24 : decode b_Mo_need 24 = .ok (.iconst 1, 1) := by decide +kernel
theorem d_Mo_need_25 : decode b_Mo_need 25 = .ok (.if_icmp .ne 14, 3) := by decide +kernel
theorem d_Mo_need_28 : decode b_Mo_need 28 = .ok (.aload_n 0, 1) := by decide +kernel
theorem d_Mo_need_29 : decode b_Mo_need 29 = .ok (.iconst 3, 1) := by decide +kernel
theorem d_Mo_need_30 : decode b_Mo_need 30 = .ok (.putfield 141, 3) := by decide +kernel
theorem d_Mo_need_33 : decode b_Mo_need 33 = .ok (.aload_n 0, 1) := by decide +kernel
theorem d_Mo_need_34 : decode b_Mo_need 34 = .ok (.iload_n 1, 1) := by decide +kernel
theorem d_Mo_need_35 : decode b_Mo_need 35 = .ok (.putfield 193, 3) := by decide +kernel
theorem d_Mo_need_38 : decode b_Mo_need 38 = .ok (.return_, 1) := by decide +kernel
theorem d_Mo_need_39 : decode b_Mo_need 39 = .ok (.aload_n 0, 1) := by decide +kernel
theorem d_Mo_need_40 : decode b_Mo_need 40 = .ok (.getfield 29, 3) := by decide +kernel
theorem d_Mo_need_43 : decode b_Mo_need 43 = .ok (.iload_n 1, 1) := by decide +kernel
theorem d_Mo_need_44 : decode b_Mo_need 44 = .ok (.iaload, 1) := by decide +kernel
theorem d_Mo_need_45 : decode b_Mo_need 45 = .ok (.iconst 2, 1) := by decide +kernel
theorem d_Mo_need_46 : decode b_Mo_need 46 = .ok (.if_icmp .ne 47, 3) := by decide +kernel
theorem d_Mo_need_49 : decode b_Mo_need 49 = .ok (.aload_n 0, 1) := by decide +kernel
theorem d_Mo_need_50 : decode b_Mo_need 50 = .ok (.iload_n 3, 1) := by decide +kernel
theorem d_Mo_need_51 : decode b_Mo_need 51 = .ok (.putfield 122, 3) := by decide +kernel
theorem d_Mo_need_54 : decode b_Mo_need 54 = .ok (.aload_n 0, 1) := by decide +kernel
theorem d_Mo_need_55 : decode b_Mo_need 55 = .ok (.dup, 1) := by decide +kernel
theorem d_Mo_need_56 : decode b_Mo_need 56 = .ok (.getfield 131, 3) := by decide +kernel
theorem d_Mo_need_59 : decode b_Mo_need 59 = .ok (.iconst 1, 1) := by decide +kernel
theorem d_Mo_need_60 : decode b_Mo_need 60 = .ok (.iadd, 1) := by decide +kernel
theorem d_Mo_need_61 : decode b_Mo_need 61 = .ok (.putfield 131, 3) := by decide +kernel
theorem d_Mo_need_64 : decode b_Mo_need 64 = .ok (.aload_n 0, 1) := by decide +kernel
theorem d_Mo_need_65 : decode b_Mo_need 65 = .ok (.aload_n 0, 1) := by decide +kernel
theorem d_Mo_need_66 : decode b_Mo_need 66 = .ok (.getfield 38, 3) := by decide +kernel
theorem d_Mo_need_69 : decode b_Mo_need 69 = .ok (.iload_n 1, 1) := by decide +kernel
theorem d_Mo_need_70 : decode b_Mo_need 70 = .ok (.iaload, 1) := by decide +kernel
theorem d_Mo_need_71 : decode b_Mo_need 71 = .ok (.aload_n 0, 1) := by decide +kernel
theorem d_Mo_need_72 : decode b_Mo_need 72 = .ok (.getfield 41, 3) := by decide +kernel
theorem d_Mo_need_75 : decode b_Mo_need 75 = .ok (.iload_n 1, 1) := by decide +kernel
theorem d_Mo_need_76 : decode b_Mo_need 76 = .ok (.laload, 1) := by decide +kernel
theorem d_Mo_need_77 : decode b_Mo_need 77 = .ok (.aload_n 0, 1) := by decide +kernel
theorem d_Mo_need_78 : decode b_Mo_need 78 = .ok (.getfield 44, 3) := by decide +kernel
theorem d_Mo_need_81 : decode b_Mo_need 81 = .ok (.iload_n 1, 1) := by decide +kernel
theorem d_Mo_need_82 : decode b_Mo_need 82 = .ok (.iaload, 1) := by decide +kernel
theorem d_Mo_need_83 : decode b_Mo_need 83 = .ok (.aload_n 0, 1) := by decide +kernel
theorem d_Mo_need_84 : decode b_Mo_need 84 = .ok (.getfield 47, 3) := by decide +kernel
theorem d_Mo_need_87 : decode b_Mo_need 87 = .ok (.iload_n 1, 1) := by decide +kernel
theorem d_Mo_need_88 : decode b_Mo_need 88 = .ok (.iaload, 1) := by decide +kernel
theorem d_Mo_need_89 : decode b_Mo_need 89 = .ok (.invokevirtual 196, 3) := by decide +kernel
theorem d_Mo_need_92 : decode b_Mo_need 92 = .ok (.return_, 1) := by decide +kernel
theorem d_Mo_need_93 : decode b_Mo_need 93 = .ok (.aload_n 0, 1) := by decide +kernel
theorem d_Mo_need_94 : decode b_Mo_need 94 = .ok (.getfield 137, 3) := by decide +kernel
theorem d_Mo_need_97 : decode b_Mo_need 97 = .ok (.ifCond .eq 16, 3) := by decide +kernel
theorem d_Mo_need_100 : decode b_Mo_need 100 = .ok (.iload_n 3, 1) := by decide +kernel
theorem d_Mo_need_101 : decode b_Mo_need 101 = .ok (.sipush 300, 3) := by decide +kernel
theorem d_Mo_need_104 : decode b_Mo_need 104 = .ok (.if_icmp .ne 9, 3) := by decide +kernel
theorem d_Mo_need_107 : decode b_Mo_need 107 = .ok (.aload_n 0, 1) := by decide +kernel
theorem d_Mo_need_108 : decode b_Mo_need 108 = .ok (.iconst 5, 1) := by decide +kernel
theorem d_Mo_need_109 : decode b_Mo_need 109 = .ok (.putfield 141, 3) := by decide +kernel
theorem d_Mo_need_112 : decode b_Mo_need 112 = .ok (.return_, 1) := by decide +kernel
theorem d_Mo_need_113 : decode b_Mo_need 113 = .ok (.aload_n 0, 1) := by decide +kernel
theorem d_Mo_need_114 : decode b_Mo_need 114 = .ok (.iload_n 3, 1) := by decide +kernel
theorem d_Mo_need_115 : decode b_Mo_need 115 = .ok (.putfield 122, 3) := by decide +kernel
theorem d_Mo_need_118 : decode b_Mo_need 118 = .ok (.aload_n 0, 1) := by decide +kernel
theorem d_Mo_need_119 : decode b_Mo_need 119 = .ok (.dup, 1) := by decide +kernel
theorem d_Mo_need_120 : decode b_Mo_need 120 = .ok (.getfield 134, 3) := by decide +kernel
theorem d_Mo_need_123 : decode b_Mo_need 123 = .ok (.iconst 1, 1) := by decide +kernel
theorem d_Mo_need_124 : decode b_Mo_need 124 = .ok (.iadd, 1) := by decide +kernel
theorem d_Mo_need_125 : decode b_Mo_need 125 = .ok (.putfield 134, 3) := by decide +kernel
theorem d_Mo_need_128 : decode b_Mo_need 128 = .ok (.aload_n 0, 1) := by decide +kernel
theorem d_Mo_need_129 : decode b_Mo_need 129 = .ok (.getfield 50, 3) := by decide +kernel
theorem d_Mo_need_132 : decode b_Mo_need 132 = .ok (.iload_n 1, 1) := by decide +kernel
theorem d_Mo_need_133 : decode b_Mo_need 133 = .ok (.dup2, 1) := by decide +kernel
theorem d_Mo_need_134 : decode b_Mo_need 134 = .ok (.iaload, 1) := by decide +kernel
theorem d_Mo_need_135 : decode b_Mo_need 135 = .ok (.iconst 1, 1) := by decide +kernel
theorem d_Mo_need_136 : decode b_Mo_need 136 = .ok (.iadd, 1) := by decide +kernel
theorem d_Mo_need_137 : decode b_Mo_need 137 = .ok (.iastore, 1) := by decide +kernel
theorem d_Mo_need_138 : decode b_Mo_need 138 = .ok (.aload_n 0, 1) := by decide +kernel
theorem d_Mo_need_139 : decode b_Mo_need 139 = .ok (.getfield 56, 3) := by decide +kernel
theorem d_Mo_need_142 : decode b_Mo_need 142 = .ok (.iload_n 1, 1) := by decide +kernel
theorem d_Mo_need_143 : decode b_Mo_need 143 = .ok (.baload, 1) := by decide +kernel
theorem d_Mo_need_144 : decode b_Mo_need 144 = .ok (.ifCond .ne 20, 3) := by decide +kernel
theorem d_Mo_need_147 : decode b_Mo_need 147 = .ok (.aload_n 0, 1) := by decide +kernel
theorem d_Mo_need_148 : decode b_Mo_need 148 = .ok (.getfield 56, 3) := by decide +kernel
theorem d_Mo_need_151 : decode b_Mo_need 151 = .ok (.iload_n 1, 1) := by decide +kernel
theorem d_Mo_need_152 : decode b_Mo_need 152 = .ok (.iconst 1, 1) := by decide +kernel
theorem d_Mo_need_153 : decode b_Mo_need 153 = .ok (.bastore, 1) := by decide +kernel
theorem d_Mo_need_154 : decode b_Mo_need 154 = .ok (.aload_n 0, 1) := by decide +kernel
theorem d_Mo_need_155 : decode b_Mo_need 155 = .ok (.getfield 53, 3) := by decide +kernel
theorem d_Mo_need_158 : decode b_Mo_need 158 = .ok (.iload_n 1, 1) := by decide +kernel
theorem d_Mo_need_159 : decode b_Mo_need 159 = .ok (.aload_n 0, 1) := by decide +kernel
theorem d_Mo_need_160 : decode b_Mo_need 160 = .ok (.invokevirtual 200, 3) := by decide +kernel
theorem d_Mo_need_163 : decode b_Mo_need 163 = .ok (.iastore, 1) := by decide +kernel
theorem d_Mo_need_164 : decode b_Mo_need 164 = .ok (.aload_n 0, 1) := by decide +kernel
theorem d_Mo_need_165 : decode b_Mo_need 165 = .ok (.getfield 137, 3) := by decide +kernel
theorem d_Mo_need_168 : decode b_Mo_need 168 = .ok (.ifCond .eq 18, 3) := by decide +kernel
theorem d_Mo_need_171 : decode b_Mo_need 171 = .ok (.aload_n 0, 1) := by decide +kernel
theorem d_Mo_need_172 : decode b_Mo_need 172 = .ok (.getfield 29, 3) := by decide +kernel
theorem d_Mo_need_175 : decode b_Mo_need 175 = .ok (.iload_n 1, 1) := by decide +kernel
theorem d_Mo_need_176 : decode b_Mo_need 176 = .ok (.iconst 1, 1) := by decide +kernel
theorem d_Mo_need_177 : decode b_Mo_need 177 = .ok (.iastore, 1) := by decide +kernel
theorem d_Mo_need_178 : decode b_Mo_need 178 = .ok (.aload_n 0, 1) := by decide +kernel
theorem d_Mo_need_179 : decode b_Mo_need 179 = .ok (.iconst 0, 1) := by decide +kernel
theorem d_Mo_need_180 : decode b_Mo_need 180 = .ok (.iload_n 1, 1) := by decide +kernel
theorem d_Mo_need_181 : decode b_Mo_need 181 = .ok (.iconst (-1), 1) := by decide +kernel
theorem d_Mo_need_182 : decode b_Mo_need 182 = .ok (.lconst 0, 1) := by decide +kernel
theorem d_Mo_need_183 : decode b_Mo_need 183 = .ok (.invokevirtual 203, 3) := by decide +kernel
theorem d_Mo_need_186 : decode b_Mo_need 186 = .ok (.aload_n 0, 1) := by decide +kernel
theorem d_Mo_need_187 : decode b_Mo_need 187 = .ok (.aload_n 0, 1) := by decide +kernel
theorem d_Mo_need_188 : decode b_Mo_need 188 = .ok (.getfield 32, 3) := by decide +kernel
theorem d_Mo_need_191 : decode b_Mo_need 191 = .ok (.iload_n 1, 1) := by decide +kernel
theorem d_Mo_need_192 : decode b_Mo_need 192 = .ok (.iaload, 1) := by decide +kernel
theorem d_Mo_need_193 : decode b_Mo_need 193 = .ok (.aload_n 0, 1) := by decide +kernel
theorem d_Mo_need_194 : decode b_Mo_need 194 = .ok (.getfield 35, 3) := by decide +kernel
theorem d_Mo_need_197 : decode b_Mo_need 197 = .ok (.iload_n 1, 1) := by decide +kernel
theorem d_Mo_need_198 : decode b_Mo_need 198 = .ok (.iaload, 1) := by decide +kernel
theorem d_Mo_need_199 : decode b_Mo_need 199 = .ok (.invokevirtual 144, 3) := by decide +kernel
theorem d_Mo_need_202 : decode b_Mo_need 202 = .ok (.return_, 1) := by decide +kernel
theorem d_Mo_thingOfPlace_0 : decode b_Mo_thingOfPlace 0 = .ok (.iload_n 1, 1) := by decide +kernel
theorem d_Mo_thingOfPlace_1 : decode b_Mo_thingOfPlace 1 = .ok (.istore_n 3, 1) := by decide +kernel
theorem d_Mo_thingOfPlace_2 : decode b_Mo_thingOfPlace 2 = .ok (.iconst 0, 1) := by decide +kernel
theorem d_Mo_thingOfPlace_3 : decode b_Mo_thingOfPlace 3 = .ok (.istore 4, 2) := by decide +kernel
theorem d_Mo_thingOfPlace_5 : decode b_Mo_thingOfPlace 5 = .ok (.iload 4, 2) := by decide +kernel
theorem d_Mo_thingOfPlace_7 : decode b_Mo_thingOfPlace 7 = .ok (.iload_n 2, 1) := by decide +kernel
theorem d_Mo_thingOfPlace_8 : decode b_Mo_thingOfPlace 8 = .ok (.if_icmp .ge 16, 3) := by decide +kernel
theorem d_Mo_thingOfPlace_11 : decode b_Mo_thingOfPlace 11 = .ok (.aload_n 0, 1) := by decide +kernel
theorem d_Mo_thingOfPlace_12 : decode b_Mo_thingOfPlace 12 = .ok (.getfield 63, 3) := by decide +kernel
theorem d_Mo_thingOfPlace_15 : decode b_Mo_thingOfPlace 15 = .ok (.iload_n 3, 1) := by decide +kernel
theorem d_Mo_thingOfPlace_16 : decode b_Mo_thingOfPlace 16 = .ok (.iaload, 1) := by decide +kernel
theorem d_Mo_thingOfPlace_17 : decode b_Mo_thingOfPlace 17 = .ok (.istore_n 3, 1) := by decide +kernel
theorem d_Mo_thingOfPlace_18 : decode b_Mo_thingOfPlace 18 = .ok (.iinc 4 1, 3) := by decide +kernel
theorem d_Mo_thingOfPlace_21 : decode b_Mo_thingOfPlace 21 = .ok (.goto (-16), 3) := by decide +kernel
theorem d_Mo_thingOfPlace_24 : decode b_Mo_thingOfPlace 24 = .ok (.aload_n 0, 1) := by decide +kernel
theorem d_Mo_thingOfPlace_25 : decode b_Mo_thingOfPlace 25 = .ok (.getfield 60, 3) := by decide +kernel
theorem d_Mo_thingOfPlace_28 : decode b_Mo_thingOfPlace 28 = .ok (.iload_n 3, 1) := by decide +kernel
theorem d_Mo_thingOfPlace_29 : decode b_Mo_thingOfPlace 29 = .ok (.iaload, 1) := by decide +kernel
theorem d_Mo_thingOfPlace_30 : decode b_Mo_thingOfPlace 30 = .ok (.ireturn, 1) := by decide +kernel
theorem d_Mo_isNew_0 : decode b_Mo_isNew 0 = .ok (.aload_n 0, 1) := by decide +kernel
theorem d_Mo_isNew_1 : decode b_Mo_isNew 1 = .ok (.getfield 7, 3) := by decide +kernel
theorem d_Mo_isNew_4 : decode b_Mo_isNew 4 = .ok (.iload_n 1, 1) := by decide +kernel
theorem d_Mo_isNew_5 : decode b_Mo_isNew 5 = .ok (.iaload, 1) := by decide +kernel
theorem d_Mo_isNew_6 : decode b_Mo_isNew 6 = .ok (.iconst 1, 1) := by decide +kernel
theorem d_Mo_isNew_7 : decode b_Mo_isNew 7 = .ok (.if_icmp .eq 7, 3) := by decide +kernel
theorem d_Mo_isNew_10 : decode b_Mo_isNew 10 = .ok (.iconst 1, 1) := by decide +kernel
theorem d_Mo_isNew_11 : decode b_Mo_isNew 11 = .ok (.goto 4, 3) := by decide +kernel
theorem d_Mo_isNew_14 : decode b_Mo_isNew 14 = .ok (.iconst 0, 1) := by decide +kernel
theorem d_Mo_isNew_15 : decode b_Mo_isNew 15 = .ok (.ireturn, 1) := by decide +kernel
theorem d_Mo_hasRoom_0 : decode b_Mo_hasRoom 0 = .ok (.aload_n 0, 1) := by decide +kernel
theorem d_Mo_hasRoom_1 : decode b_Mo_hasRoom 1 = .ok (.getfield 113, 3) := by decide +kernel
theorem d_Mo_hasRoom_4 : decode b_Mo_hasRoom 4 = .ok (.iload_n 1, 1) := by decide +kernel
theorem d_Mo_hasRoom_5 : decode b_Mo_hasRoom 5 = .ok (.iadd, 1) := by decide +kernel
theorem d_Mo_hasRoom_6 : decode b_Mo_hasRoom 6 = .ok (.sipush 1000, 3) := by decide +kernel
theorem d_Mo_hasRoom_9 : decode b_Mo_hasRoom 9 = .ok (.if_icmp .gt 43, 3) := by decide +kernel
theorem d_Mo_hasRoom_12 : decode b_Mo_hasRoom 12 = .ok (.aload_n 0, 1) := by decide +kernel
theorem d_Mo_hasRoom_13 : decode b_Mo_hasRoom 13 = .ok (.getfield 116, 3) := by decide +kernel
theorem d_Mo_hasRoom_16 : decode b_Mo_hasRoom 16 = .ok (.iload_n 1, 1) := by decide +kernel
theorem d_Mo_hasRoom_17 : decode b_Mo_hasRoom 17 = .ok (.iadd, 1) := by decide +kernel
theorem d_Mo_hasRoom_18 : decode b_Mo_hasRoom 18 = .ok (.sipush 300, 3) := by decide +kernel
theorem d_Mo_hasRoom_21 : decode b_Mo_hasRoom 21 = .ok (.if_icmp .gt 31, 3) := by decide +kernel
theorem d_Mo_hasRoom_24 : decode b_Mo_hasRoom 24 = .ok (.aload_n 0, 1) := by decide +kernel
theorem d_Mo_hasRoom_25 : decode b_Mo_hasRoom 25 = .ok (.getfield 119, 3) := by decide +kernel
theorem d_Mo_hasRoom_28 : decode b_Mo_hasRoom 28 = .ok (.iload_n 2, 1) := by decide +kernel
theorem d_Mo_hasRoom_29 : decode b_Mo_hasRoom 29 = .ok (.iadd, 1) := by decide +kernel
theorem d_Mo_hasRoom_30 : decode b_Mo_hasRoom 30 = .ok (.sipush 1000, 3) := by decide +kernel
theorem d_Mo_hasRoom_33 : decode b_Mo_hasRoom 33 = .ok (.if_icmp .gt 19, 3) := by decide +kernel
theorem d_Mo_hasRoom_36 : decode b_Mo_hasRoom 36 = .ok (.aload_n 0, 1) := by decide +kernel
theorem d_Mo_hasRoom_37 : decode b_Mo_hasRoom 37 = .ok (.getfield 122, 3) := by decide +kernel
theorem d_Mo_hasRoom_40 : decode b_Mo_hasRoom 40 = .ok (.iload_n 3, 1) := by decide +kernel
theorem d_Mo_hasRoom_41 : decode b_Mo_hasRoom 41 = .ok (.iadd, 1) := by decide +kernel
theorem d_Mo_hasRoom_42 : decode b_Mo_hasRoom 42 = .ok (.sipush 300, 3) := by decide +kernel
theorem d_Mo_hasRoom_45 : decode b_Mo_hasRoom 45 = .ok (.if_icmp .gt 7, 3) := by decide +kernel
theorem d_Mo_hasRoom_48 : decode b_Mo_hasRoom 48 = .ok (.iconst 1, 1) := by decide +kernel
theorem d_Mo_hasRoom_49 : decode b_Mo_hasRoom 49 = .ok (.goto 4, 3) := by decide +kernel
theorem d_Mo_hasRoom_52 : decode b_Mo_hasRoom 52 = .ok (.iconst 0, 1) := by decide +kernel
theorem d_Mo_hasRoom_53 : decode b_Mo_hasRoom 53 = .ok (.istore 4, 2) := by decide +kernel
theorem d_Mo_hasRoom_55 : decode b_Mo_hasRoom 55 = .ok (.iload 4, 2) := by decide +kernel
theorem d_Mo_hasRoom_57 : decode b_Mo_hasRoom 57 = .ok (.ifCond .ne 8, 3) := by decide +kernel
theorem d_Mo_hasRoom_60 : decode b_Mo_hasRoom 60 = .ok (.aload_n 0, 1) := by decide +kernel
theorem d_Mo_hasRoom_61 : decode b_Mo_hasRoom 61 = .ok (.iconst 5, 1) := by decide +kernel
theorem d_Mo_hasRoom_62 : decode b_Mo_hasRoom 62 = .ok (.putfield 141, 3) := by decide +kernel
theorem d_Mo_hasRoom_65 : decode b_Mo_hasRoom 65 = .ok (.iload 4, 2) := by decide +kernel
theorem d_Mo_hasRoom_67 : decode b_Mo_hasRoom 67 = .ok (.ireturn, 1) := by decide +kernel
theorem d_Mo_newThing_0 : decode b_Mo_newThing 0 = .ok (.aload_n 0, 1) := by decide +kernel
theorem d_Mo_newThing_1 : decode b_Mo_newThing 1 = .ok (.getfield 29, 3) := by decide +kernel
theorem d_Mo_newThing_4 : decode b_Mo_newThing 4 = .ok (.aload_n 0, 1) := by decide +kernel
theorem d_Mo_newThing_5 : decode b_Mo_newThing 5 = .ok (.getfield 113, 3) := by decide +kernel
theorem d_Mo_newThing_8 : decode b_Mo_newThing 8 = .ok (.iconst 0, 1) := by decide +kernel
theorem d_Mo_newThing_9 : decode b_Mo_newThing 9 = .ok (.iastore, 1) := by decide +kernel
theorem d_Mo_newThing_10 : decode b_Mo_newThing 10 = .ok (.aload_n 0, 1) := by decide +kernel
theorem d_Mo_newThing_11 : decode b_Mo_newThing 11 = .ok (.getfield 32, 3) := by decide +kernel
theorem d_Mo_newThing_14 : decode b_Mo_newThing 14 = .ok (.aload_n 0, 1) := by decide +kernel
theorem d_Mo_newThing_15 : decode b_Mo_newThing 15 = .ok (.getfield 113, 3) := by decide +kernel
theorem d_Mo_newThing_18 : decode b_Mo_newThing 18 = .ok (.iload_n 1, 1) := by decide +kernel
theorem d_Mo_newThing_19 : decode b_Mo_newThing 19 = .ok (.iastore, 1) := by decide +kernel
theorem d_Mo_newThing_20 : decode b_Mo_newThing 20 = .ok (.aload_n 0, 1) := by decide +kernel
theorem d_Mo_newThing_21 : decode b_Mo_newThing 21 = .ok (.getfield 35, 3) := by decide +kernel
theorem d_Mo_newThing_24 : decode b_Mo_newThing 24 = .ok (.aload_n 0, 1) := by decide +kernel
theorem d_Mo_newThing_25 : decode b_Mo_newThing 25 = .ok (.getfield 113, 3) := by decide +kernel
theorem d_Mo_newThing_28 : decode b_Mo_newThing 28 = .ok (.iload_n 2, 1) := by decide +kernel
theorem d_Mo_newThing_29 : decode b_Mo_newThing 29 = .ok (.iastore, 1) := by decide +kernel
theorem d_Mo_newThing_30 : decode b_Mo_newThing 30 = .ok (.aload_n 0, 1) := by decide +kernel
theorem d_Mo_newThing_31 : decode b_Mo_newThing 31 = .ok (.getfield 50, 3) := by decide +kernel
theorem d_Mo_newThing_34 : decode b_Mo_newThing 34 = .ok (.aload_n 0, 1) := by decide +kernel
theorem d_Mo_newThing_35 : decode b_Mo_newThing 35 = .ok (.getfield 113, 3) := by decide +kernel
theorem d_Mo_newThing_38 : decode b_Mo_newThing 38 = .ok (.iconst 0, 1) := by decide +kernel
theorem d_Mo_newThing_39 : decode b_Mo_newThing 39 = .ok (.iastore, 1) := by decide +kernel
theorem d_Mo_newThing_40 : decode b_Mo_newThing 40 = .ok (.aload_n 0, 1) := by decide +kernel
theorem d_Mo_newThing_41 : decode b_Mo_newThing 41 = .ok (.getfield 56, 3) := by decide +kernel
theorem d_Mo_newThing_44 : decode b_Mo_newThing 44 = .ok (.aload_n 0, 1) := by decide +kernel
theorem d_Mo_newThing_45 : decode b_Mo_newThing 45 = .ok (.getfield 113, 3) := by decide +kernel
theorem d_Mo_newThing_48 : decode b_Mo_newThing 48 = .ok (.iconst 0, 1) := by decide +kernel
theorem d_Mo_newThing_49 : decode b_Mo_newThing 49 = .ok (.bastore, 1) := by decide +kernel
theorem d_Mo_newThing_50 : decode b_Mo_newThing 50 = .ok (.aload_n 0, 1) := by decide +kernel
theorem d_Mo_newThing_51 : decode b_Mo_newThing 51 = .ok (.getfield 53, 3) := by decide +kernel
theorem d_Mo_newThing_54 : decode b_Mo_newThing 54 = .ok (.aload_n 0, 1) := by decide +kernel
theorem d_Mo_newThing_55 : decode b_Mo_newThing 55 = .ok (.getfield 113, 3) := by decide +kernel
theorem d_Mo_newThing_58 : decode b_Mo_newThing 58 = .ok (.iconst (-1), 1) := by decide +kernel
theorem d_Mo_newThing_59 : decode b_Mo_newThing 59 = .ok (.iastore, 1) := by decide +kernel
theorem d_Mo_newThing_60 : decode b_Mo_newThing 60 = .ok (.aload_n 0, 1) := by decide +kernel
theorem d_Mo_newThing_61 : decode b_Mo_newThing 61 = .ok (.dup, 1) := by decide +kernel
theorem d_Mo_newThing_62 : decode b_Mo_newThing 62 = .ok (.getfield 113, 3) := by decide +kernel
theorem d_Mo_newThing_65 : decode b_Mo_newThing 65 = .ok (.iconst 1, 1) := by decide +kernel
theorem d_Mo_newThing_66 : decode b_Mo_newThing 66 = .ok (.iadd, 1) := by decide +kernel
theorem d_Mo_newThing_67 : decode b_Mo_newThing 67 = .ok (.putfield 113, 3) := by decide +kernel
theorem d_Mo_newThing_70 : decode b_Mo_newThing 70 = .ok (.aload_n 0, 1) := by decide +kernel
theorem d_Mo_newThing_71 : decode b_Mo_newThing 71 = .ok (.dup, 1) := by decide +kernel
theorem d_Mo_newThing_72 : decode b_Mo_newThing 72 = .ok (.getfield 116, 3) := by decide +kernel
theorem d_Mo_newThing_75 : decode b_Mo_newThing 75 = .ok (.iconst 1, 1) := by decide +kernel
theorem d_Mo_newThing_76 : decode b_Mo_newThing 76 = .ok (.iadd, 1) := by decide +kernel
theorem d_Mo_newThing_77 : decode b_Mo_newThing 77 = .ok (.putfield 116, 3) := by decide +kernel
theorem d_Mo_newThing_80 : decode b_Mo_newThing 80 = .ok (.aload_n 0, 1) := by decide +kernel
theorem d_Mo_newThing_81 : decode b_Mo_newThing 81 = .ok (.getfield 113, 3) := by decide +kernel
theorem d_Mo_newThing_84 : decode b_Mo_newThing 84 = .ok (.iconst 1, 1) := by decide +kernel
theorem d_Mo_newThing_85 : decode b_Mo_newThing 85 = .ok (.isub, 1) := by decide +kernel
theorem d_Mo_newThing_86 : decode b_Mo_newThing 86 = .ok (.ireturn, 1) := by decide +kernel
theorem d_Mo_thingOf_0 : decode b_Mo_thingOf 0 = .ok (.aload_n 0, 1) := by decide +kernel
theorem d_Mo_thingOf_1 : decode b_Mo_thingOf 1 = .ok (.iload_n 1, 1) := by decide +kernel
theorem d_Mo_thingOf_2 : decode b_Mo_thingOf 2 = .ok (.invokevirtual 207, 3) := by decide +kernel
theorem d_Mo_thingOf_5 : decode b_Mo_thingOf 5 = .ok (.ifCond .eq 15, 3) := by decide +kernel
theorem d_Mo_thingOf_8 : decode b_Mo_thingOf 8 = .ok (.aload_n 0, 1) := by decide +kernel
theorem d_Mo_thingOf_9 : decode b_Mo_thingOf 9 = .ok (.iload_n 1, 1) := by decide +kernel
theorem d_Mo_thingOf_10 : decode b_Mo_thingOf 10 = .ok (.aload_n 0, 1) := by decide +kernel
theorem d_Mo_thingOf_11 : decode b_Mo_thingOf 11 = .ok (.getfield 154, 3) := by decide +kernel
theorem d_Mo_thingOf_14 : decode b_Mo_thingOf 14 = .ok (.invokevirtual 210, 3) := by decide +kernel
theorem d_Mo_thingOf_17 : decode b_Mo_thingOf 17 = .ok (.goto 17, 3) := by decide +kernel
theorem d_Mo_thingOf_20 : decode b_Mo_thingOf 20 = .ok (.aload_n 0, 1) := by decide +kernel
theorem d_Mo_thingOf_21 : decode b_Mo_thingOf 21 = .ok (.aload_n 0, 1) := by decide +kernel
theorem d_Mo_thingOf_22 : decode b_Mo_thingOf 22 = .ok (.getfield 154, 3) := by decide +kernel
theorem d_Mo_thingOf_25 : decode b_Mo_thingOf 25 = .ok (.aload_n 0, 1) := by decide +kernel
theorem d_Mo_thingOf_26 : decode b_Mo_thingOf 26 = .ok (.getfield 13, 3) := by decide +kernel
theorem d_Mo_thingOf_29 : decode b_Mo_thingOf 29 = .ok (.iload_n 1, 1) := by decide +kernel
theorem d_Mo_thingOf_30 : decode b_Mo_thingOf 30 = .ok (.iaload, 1) := by decide +kernel
theorem d_Mo_thingOf_31 : decode b_Mo_thingOf 31 = .ok (.invokevirtual 213, 3) := by decide +kernel
theorem d_Mo_thingOf_34 : decode b_Mo_thingOf 34 = .ok (.ireturn, 1) := by decide +kernel
theorem d_Mo_newPlace_0 : decode b_Mo_newPlace 0 = .ok (.aload_n 0, 1) := by decide +kernel
theorem d_Mo_newPlace_1 : decode b_Mo_newPlace 1 = .ok (.getfield 60, 3) := by decide +kernel
theorem d_Mo_newPlace_4 : decode b_Mo_newPlace 4 = .ok (.aload_n 0, 1) := by decide +kernel
theorem d_Mo_newPlace_5 : decode b_Mo_newPlace 5 = .ok (.getfield 119, 3) := by decide +kernel
theorem d_Mo_newPlace_8 : decode b_Mo_newPlace 8 = .ok (.iload_n 1, 1) := by decide +kernel
theorem d_Mo_newPlace_9 : decode b_Mo_newPlace 9 = .ok (.iastore, 1) := by decide +kernel
theorem d_Mo_newPlace_10 : decode b_Mo_newPlace 10 = .ok (.aload_n 0, 1) := by decide +kernel
theorem d_Mo_newPlace_11 : decode b_Mo_newPlace 11 = .ok (.getfield 63, 3) := by decide +kernel
theorem d_Mo_newPlace_14 : decode b_Mo_newPlace 14 = .ok (.aload_n 0, 1) := by decide +kernel
theorem d_Mo_newPlace_15 : decode b_Mo_newPlace 15 = .ok (.getfield 119, 3) := by decide +kernel
theorem d_Mo_newPlace_18 : decode b_Mo_newPlace 18 = .ok (.iload_n 2, 1) := by decide +kernel
theorem d_Mo_newPlace_19 : decode b_Mo_newPlace 19 = .ok (.iastore, 1) := by decide +kernel
theorem d_Mo_newPlace_20 : decode b_Mo_newPlace 20 = .ok (.aload_n 0, 1) := by decide +kernel
theorem d_Mo_newPlace_21 : decode b_Mo_newPlace 21 = .ok (.dup, 1) := by decide +kernel
theorem d_Mo_newPlace_22 : decode b_Mo_newPlace 22 = .ok (.getfield 119, 3) := by decide +kernel
theorem d_Mo_newPlace_25 : decode b_Mo_newPlace 25 = .ok (.iconst 1, 1) := by decide +kernel
theorem d_Mo_newPlace_26 : decode b_Mo_newPlace 26 = .ok (.iadd, 1) := by decide +kernel
theorem d_Mo_newPlace_27 : decode b_Mo_newPlace 27 = .ok (.putfield 119, 3) := by decide +kernel
theorem d_Mo_newPlace_30 : decode b_Mo_newPlace 30 = .ok (.aload_n 0, 1) := by decide +kernel
theorem d_Mo_newPlace_31 : decode b_Mo_newPlace 31 = .ok (.getfield 119, 3) := by decide +kernel
theorem d_Mo_newPlace_34 : decode b_Mo_newPlace 34 = .ok (.iconst 1, 1) := by decide +kernel
theorem d_Mo_newPlace_35 : decode b_Mo_newPlace 35 = .ok (.isub, 1) := by decide +kernel
theorem d_Mo_newPlace_36 : decode b_Mo_newPlace 36 = .ok (.ireturn, 1) := by decide +kernel
theorem d_Mo_goOnWithTerm_0 : decode b_Mo_goOnWithTerm 0 = .ok (.aload_n 0, 1) := by decide +kernel
theorem d_Mo_goOnWithTerm_1 : decode b_Mo_goOnWithTerm 1 = .ok (.getfield 151, 3) := by decide +kernel
theorem d_Mo_goOnWithTerm_4 : decode b_Mo_goOnWithTerm 4 = .ok (.istore_n 1, 1) := by decide +kernel
theorem d_Mo_goOnWithTerm_5 : decode b_Mo_goOnWithTerm 5 = .ok (.aload_n 0, 1) := by decide +kernel
theorem d_Mo_goOnWithTerm_6 : decode b_Mo_goOnWithTerm 6 = .ok (.getfield 7, 3) := by decide +kernel
theorem d_Mo_goOnWithTerm_9 : decode b_Mo_goOnWithTerm 9 = .ok (.iload_n 1, 1) := by decide +kernel
theorem d_Mo_goOnWithTerm_10 : decode b_Mo_goOnWithTerm 10 = .ok (.iaload, 1) := by decide +kernel
theorem d_Mo_goOnWithTerm_11 : decode b_Mo_goOnWithTerm 11 = .ok (.istore_n 2, 1) := by decide +kernel
theorem d_Mo_goOnWithTerm_12 : decode b_Mo_goOnWithTerm 12 = .ok (.iload_n 2, 1) := by decide +kernel
theorem d_Mo_goOnWithTerm_13 : decode b_Mo_goOnWithTerm 13 = .ok (.ifCond .ne 19, 3) := by decide +kernel
theorem d_Mo_goOnWithTerm_16 : decode b_Mo_goOnWithTerm 16 = .ok (.aload_n 0, 1) := by decide +kernel
theorem d_Mo_goOnWithTerm_17 : decode b_Mo_goOnWithTerm 17 = .ok (.iconst 0, 1) := by decide +kernel
theorem d_Mo_goOnWithTerm_18 : decode b_Mo_goOnWithTerm 18 = .ok (.aload_n 0, 1) := by decide +kernel
theorem d_Mo_goOnWithTerm_19 : decode b_Mo_goOnWithTerm 19 = .ok (.getfield 22, 3) := by decide +kernel
theorem d_Mo_goOnWithTerm_22 : decode b_Mo_goOnWithTerm 22 = .ok (.iload_n 1, 1) := by decide +kernel
theorem d_Mo_goOnWithTerm_23 : decode b_Mo_goOnWithTerm 23 = .ok (.laload, 1) := by decide +kernel
theorem d_Mo_goOnWithTerm_24 : decode b_Mo_goOnWithTerm 24 = .ok (.iconst (-1), 1) := by decide +kernel
theorem d_Mo_goOnWithTerm_25 : decode b_Mo_goOnWithTerm 25 = .ok (.iconst (-1), 1) := by decide +kernel
theorem d_Mo_goOnWithTerm_26 : decode b_Mo_goOnWithTerm 26 = .ok (.invokevirtual 196, 3) := by decide +kernel
theorem d_Mo_goOnWithTerm_29 : decode b_Mo_goOnWithTerm 29 = .ok (.goto 342, 3) := by decide +kernel
theorem d_Mo_goOnWithTerm_32 : decode b_Mo_goOnWithTerm 32 = .ok (.iload_n 2, 1) := by decide +kernel
theorem d_Mo_goOnWithTerm_33 : decode b_Mo_goOnWithTerm 33 = .ok (.iconst 2, 1) := by decide +kernel
theorem d_Mo_goOnWithTerm_34 : decode b_Mo_goOnWithTerm 34 = .ok (.if_icmp .ne 22, 3) := by decide +kernel
theorem d_Mo_goOnWithTerm_37 : decode b_Mo_goOnWithTerm 37 = .ok (.aload_n 0, 1) := by decide +kernel
theorem d_Mo_goOnWithTerm_38 : decode b_Mo_goOnWithTerm 38 = .ok (.iconst 1, 1) := by decide +kernel
theorem d_Mo_goOnWithTerm_39 : decode b_Mo_goOnWithTerm 39 = .ok (.lconst 0, 1) := by decide +kernel
theorem d_Mo_goOnWithTerm_40 : decode b_Mo_goOnWithTerm 40 = .ok (.aload_n 0, 1) := by decide +kernel
theorem d_Mo_goOnWithTerm_41 : decode b_Mo_goOnWithTerm 41 = .ok (.getfield 13, 3) := by decide +kernel
theorem d_Mo_goOnWithTerm_44 : decode b_Mo_goOnWithTerm 44 = .ok (.iload_n 1, 1) := by decide +kernel
theorem d_Mo_goOnWithTerm_45 : decode b_Mo_goOnWithTerm 45 = .ok (.iaload, 1) := by decide +kernel
theorem d_Mo_goOnWithTerm_46 : decode b_Mo_goOnWithTerm 46 = .ok (.aload_n 0, 1) := by decide +kernel
theorem d_Mo_goOnWithTerm_47 : decode b_Mo_goOnWithTerm 47 = .ok (.getfield 154, 3) := by decide +kernel
theorem d_Mo_goOnWithTerm_50 : decode b_Mo_goOnWithTerm 50 = .ok (.invokevirtual 196, 3) := by decide +kernel
theorem d_Mo_goOnWithTerm_53 : decode b_Mo_goOnWithTerm 53 = .ok (.goto 318, 3) := by decide +kernel
theorem d_Mo_goOnWithTerm_56 : decode b_Mo_goOnWithTerm 56 = .ok (.iload_n 2, 1) := by decide +kernel
theorem d_Mo_goOnWithTerm_57 : decode b_Mo_goOnWithTerm 57 = .ok (.iconst 1, 1) := by decide +kernel
theorem d_Mo_goOnWithTerm_58 : decode b_Mo_goOnWithTerm 58 = .ok (.if_icmp .ne 25, 3) := by decide +kernel
theorem d_Mo_goOnWithTerm_61 : decode b_Mo_goOnWithTerm 61 = .ok (.aload_n 0, 1) := by decide +kernel
theorem d_Mo_goOnWithTerm_62 : decode b_Mo_goOnWithTerm 62 = .ok (.aload_n 0, 1) := by decide +kernel
theorem d_Mo_goOnWithTerm_63 : decode b_Mo_goOnWithTerm 63 = .ok (.aload_n 0, 1) := by decide +kernel
theorem d_Mo_goOnWithTerm_64 : decode b_Mo_goOnWithTerm 64 = .ok (.getfield 154, 3) := by decide +kernel
theorem d_Mo_goOnWithTerm_67 : decode b_Mo_goOnWithTerm 67 = .ok (.aload_n 0, 1) := by decide +kernel
theorem d_Mo_goOnWithTerm_68 : decode b_Mo_goOnWithTerm 68 = .ok (.getfield 13, 3) := by decide +kernel
theorem d_Mo_goOnWithTerm_71 : decode b_Mo_goOnWithTerm 71 = .ok (.iload_n 1, 1) := by decide +kernel
theorem d_Mo_goOnWithTerm_72 : decode b_Mo_goOnWithTerm 72 = .ok (.iaload, 1) := by decide +kernel
theorem d_Mo_goOnWithTerm_73 : decode b_Mo_goOnWithTerm 73 = .ok (.invokevirtual 213, 3) := by decide +kernel
theorem d_Mo_goOnWithTerm_76 : decode b_Mo_goOnWithTerm 76 = .ok (.iconst 0, 1) := by decide +kernel
theorem d_Mo_goOnWithTerm_77 : decode b_Mo_goOnWithTerm 77 = .ok (.invokevirtual 183, 3) := by decide +kernel
theorem d_Mo_goOnWithTerm_80 : decode b_Mo_goOnWithTerm 80 = .ok (.goto 291, 3) := by decide +kernel
theorem d_Mo_goOnWithTerm_83 : decode b_Mo_goOnWithTerm 83 = .ok (.iload_n 2, 1) := by decide +kernel
theorem d_Mo_goOnWithTerm_84 : decode b_Mo_goOnWithTerm 84 = .ok (.bipush 7, 2) := by decide +kernel
theorem d_Mo_goOnWithTerm_86 : decode b_Mo_goOnWithTerm 86 = .ok (.if_icmp .ne 84, 3) := by decide +kernel
theorem d_Mo_goOnWithTerm_89 : decode b_Mo_goOnWithTerm 89 = .ok (.aload_n 0, 1) := by decide +kernel
theorem d_Mo_goOnWithTerm_90 : decode b_Mo_goOnWithTerm 90 = .ok (.aload_n 0, 1) := by decide +kernel
theorem d_Mo_goOnWithTerm_91 : decode b_Mo_goOnWithTerm 91 = .ok (.aload_n 0, 1) := by decide +kernel
theorem d_Mo_goOnWithTerm_92 : decode b_Mo_goOnWithTerm 92 = .ok (.getfield 13, 3) := by decide +kernel
theorem d_Mo_goOnWithTerm_95 : decode b_Mo_goOnWithTerm 95 = .ok (.iload_n 1, 1) := by decide +kernel
theorem d_Mo_goOnWithTerm_96 : decode b_Mo_goOnWithTerm 96 = .ok (.iaload, 1) := by decide +kernel
theorem d_Mo_goOnWithTerm_97 : decode b_Mo_goOnWithTerm 97 = .ok (.invokevirtual 207, 3) := by decide +kernel
theorem d_Mo_goOnWithTerm_100 : decode b_Mo_goOnWithTerm 100 = .ok (.ifCond .eq 7, 3) := by decide +kernel
theorem d_Mo_goOnWithTerm_103 : decode b_Mo_goOnWithTerm 103 = .ok (.iconst 1, 1) := by decide +kernel
theorem d_Mo_goOnWithTerm_104 : decode b_Mo_goOnWithTerm 104 = .ok (.goto 4, 3) := by decide +kernel
theorem d_Mo_goOnWithTerm_107 : decode b_Mo_goOnWithTerm 107 = .ok (.iconst 0, 1) := by decide +kernel
theorem d_Mo_goOnWithTerm_108 : decode b_Mo_goOnWithTerm 108 = .ok (.aload_n 0, 1) := by decide +kernel
theorem d_Mo_goOnWithTerm_109 : decode b_Mo_goOnWithTerm 109 = .ok (.aload_n 0, 1) := by decide +kernel
theorem d_Mo_goOnWithTerm_110 : decode b_Mo_goOnWithTerm 110 = .ok (.getfield 16, 3) := by decide +kernel
theorem d_Mo_goOnWithTerm_113 : decode b_Mo_goOnWithTerm 113 = .ok (.iload_n 1, 1) := by decide +kernel
theorem d_Mo_goOnWithTerm_114 : decode b_Mo_goOnWithTerm 114 = .ok (.iaload, 1) := by decide +kernel
theorem d_Mo_goOnWithTerm_115 : decode b_Mo_goOnWithTerm 115 = .ok (.invokevirtual 207, 3) := by decide +kernel
theorem d_Mo_goOnWithTerm_118 : decode b_Mo_goOnWithTerm 118 = .ok (.ifCond .eq 7, 3) := by decide +kernel
theorem d_Mo_goOnWithTerm_121 : decode b_Mo_goOnWithTerm 121 = .ok (.iconst 1, 1) := by decide +kernel
theorem d_Mo_goOnWithTerm_122 : decode b_Mo_goOnWithTerm 122 = .ok (.goto 4, 3) := by decide +kernel
theorem d_Mo_goOnWithTerm_125 : decode b_Mo_goOnWithTerm 125 = .ok (.iconst 0, 1) := by decide +kernel
theorem d_Mo_goOnWithTerm_126 : decode b_Mo_goOnWithTerm 126 = .ok (.iadd, 1) := by decide +kernel
theorem d_Mo_goOnWithTerm_127 : decode b_Mo_goOnWithTerm 127 = .ok (.iconst 0, 1) := by decide +kernel
theorem d_Mo_goOnWithTerm_128 : decode b_Mo_goOnWithTerm 128 = .ok (.iconst 0, 1) := by decide +kernel
theorem d_Mo_goOnWithTerm_129 : decode b_Mo_goOnWithTerm 129 = .ok (.invokevirtual 216, 3) := by decide +kernel
theorem d_Mo_goOnWithTerm_132 : decode b_Mo_goOnWithTerm 132 = .ok (.ifCond .eq 239, 3) := by decide +kernel
theorem d_Mo_goOnWithTerm_135 : decode b_Mo_goOnWithTerm 135 = .ok (.aload_n 0, 1) := by decide +kernel
theorem d_Mo_goOnWithTerm_136 : decode b_Mo_goOnWithTerm 136 = .ok (.aload_n 0, 1) := by decide +kernel
theorem d_Mo_goOnWithTerm_137 : decode b_Mo_goOnWithTerm 137 = .ok (.getfield 13, 3) := by decide +kernel
theorem d_Mo_goOnWithTerm_140 : decode b_Mo_goOnWithTerm 140 = .ok (.iload_n 1, 1) := by decide +kernel
theorem d_Mo_goOnWithTerm_141 : decode b_Mo_goOnWithTerm 141 = .ok (.iaload, 1) := by decide +kernel
theorem d_Mo_goOnWithTerm_142 : decode b_Mo_goOnWithTerm 142 = .ok (.invokevirtual 220, 3) := by decide +kernel
theorem d_Mo_goOnWithTerm_145 : decode b_Mo_goOnWithTerm 145 = .ok (.istore_n 3, 1) := by decide +kernel
theorem d_Mo_goOnWithTerm_146 : decode b_Mo_goOnWithTerm 146 = .ok (.aload_n 0, 1) := by decide +kernel
theorem d_Mo_goOnWithTerm_147 : decode b_Mo_goOnWithTerm 147 = .ok (.aload_n 0, 1) := by decide +kernel
theorem d_Mo_goOnWithTerm_148 : decode b_Mo_goOnWithTerm 148 = .ok (.getfield 16, 3) := by decide +kernel
theorem d_Mo_goOnWithTerm_151 : decode b_Mo_goOnWithTerm 151 = .ok (.iload_n 1, 1) := by decide +kernel
theorem d_Mo_goOnWithTerm_152 : decode b_Mo_goOnWithTerm 152 = .ok (.iaload, 1) := by decide +kernel
theorem d_Mo_goOnWithTerm_153 : decode b_Mo_goOnWithTerm 153 = .ok (.invokevirtual 220, 3) := by decide +kernel
theorem d_Mo_goOnWithTerm_156 : decode b_Mo_goOnWithTerm 156 = .ok (.istore 4, 2) := by decide +kernel
theorem d_Mo_goOnWithTerm_158 : decode b_Mo_goOnWithTerm 158 = .ok (.aload_n 0, 1) := by decide +kernel
theorem d_Mo_goOnWithTerm_159 : decode b_Mo_goOnWithTerm 159 = .ok (.iconst 2, 1) := by decide +kernel
theorem d_Mo_goOnWithTerm_160 : decode b_Mo_goOnWithTerm 160 = .ok (.lconst 0, 1) := by decide +kernel
theorem d_Mo_goOnWithTerm_161 : decode b_Mo_goOnWithTerm 161 = .ok (.iload_n 3, 1) := by decide +kernel
theorem d_Mo_goOnWithTerm_162 : decode b_Mo_goOnWithTerm 162 = .ok (.iload 4, 2) := by decide +kernel
theorem d_Mo_goOnWithTerm_164 : decode b_Mo_goOnWithTerm 164 = .ok (.invokevirtual 196, 3) := by decide +kernel
theorem d_Mo_goOnWithTerm_167 : decode b_Mo_goOnWithTerm 167 = .ok (.goto 204, 3) := by decide +kernel
theorem d_Mo_goOnWithTerm_170 : decode b_Mo_goOnWithTerm 170 = .ok (.iload_n 2, 1) := by decide +kernel
theorem d_Mo_goOnWithTerm_171 : decode b_Mo_goOnWithTerm 171 = .ok (.iconst 5, 1) := by decide +kernel
theorem d_Mo_goOnWithTerm_172 : decode b_Mo_goOnWithTerm 172 = .ok (.if_icmp .ne 64, 3) := by decide +kernel
theorem d_Mo_goOnWithTerm_175 : decode b_Mo_goOnWithTerm 175 = .ok (.aload_n 0, 1) := by decide +kernel
theorem d_Mo_goOnWithTerm_176 : decode b_Mo_goOnWithTerm 176 = .ok (.aload_n 0, 1) := by decide +kernel
theorem d_Mo_goOnWithTerm_177 : decode b_Mo_goOnWithTerm 177 = .ok (.aload_n 0, 1) := by decide +kernel
theorem d_Mo_goOnWithTerm_178 : decode b_Mo_goOnWithTerm 178 = .ok (.getfield 16, 3) := by decide +kernel
theorem d_Mo_goOnWithTerm_181 : decode b_Mo_goOnWithTerm 181 = .ok (.iload_n 1, 1) := by decide +kernel
theorem d_Mo_goOnWithTerm_182 : decode b_Mo_goOnWithTerm 182 = .ok (.iaload, 1) := by decide +kernel
theorem d_Mo_goOnWithTerm_183 : decode b_Mo_goOnWithTerm 183 = .ok (.invokevirtual 207, 3) := by decide +kernel
theorem d_Mo_goOnWithTerm_186 : decode b_Mo_goOnWithTerm 186 = .ok (.ifCond .eq 7, 3) := by decide +kernel
theorem d_Mo_goOnWithTerm_189 : decode b_Mo_goOnWithTerm 189 = .ok (.iconst 1, 1) := by decide +kernel
theorem d_Mo_goOnWithTerm_190 : decode b_Mo_goOnWithTerm 190 = .ok (.goto 4, 3) := by decide +kernel
theorem d_Mo_goOnWithTerm_193 : decode b_Mo_goOnWithTerm 193 = .ok (.iconst 0, 1) := by decide +kernel
theorem d_Mo_goOnWithTerm_194 : decode b_Mo_goOnWithTerm 194 = .ok (.iconst 0, 1) := by decide +kernel
theorem d_Mo_goOnWithTerm_195 : decode b_Mo_goOnWithTerm 195 = .ok (.iconst 1, 1) := by decide +kernel
theorem d_Mo_goOnWithTerm_196 : decode b_Mo_goOnWithTerm 196 = .ok (.invokevirtual 216, 3) := by decide +kernel
theorem d_Mo_goOnWithTerm_199 : decode b_Mo_goOnWithTerm 199 = .ok (.ifCond .eq 172, 3) := by decide +kernel
theorem d_Mo_goOnWithTerm_202 : decode b_Mo_goOnWithTerm 202 = .ok (.aload_n 0, 1) := by decide +kernel
theorem d_Mo_goOnWithTerm_203 : decode b_Mo_goOnWithTerm 203 = .ok (.iconst 1, 1) := by decide +kernel
theorem d_Mo_goOnWithTerm_204 : decode b_Mo_goOnWithTerm 204 = .ok (.aload_n 0, 1) := by decide +kernel
theorem d_Mo_goOnWithTerm_205 : decode b_Mo_goOnWithTerm 205 = .ok (.aload_n 0, 1) := by decide +kernel
theorem d_Mo_goOnWithTerm_206 : decode b_Mo_goOnWithTerm 206 = .ok (.getfield 16, 3) := by decide +kernel
theorem d_Mo_goOnWithTerm_209 : decode b_Mo_goOnWithTerm 209 = .ok (.iload_n 1, 1) := by decide +kernel
theorem d_Mo_goOnWithTerm_210 : decode b_Mo_goOnWithTerm 210 = .ok (.iaload, 1) := by decide +kernel
theorem d_Mo_goOnWithTerm_211 : decode b_Mo_goOnWithTerm 211 = .ok (.invokevirtual 220, 3) := by decide +kernel
theorem d_Mo_goOnWithTerm_214 : decode b_Mo_goOnWithTerm 214 = .ok (.iconst (-1), 1) := by decide +kernel
theorem d_Mo_goOnWithTerm_215 : decode b_Mo_goOnWithTerm 215 = .ok (.lconst 0, 1) := by decide +kernel
theorem d_Mo_goOnWithTerm_216 : decode b_Mo_goOnWithTerm 216 = .ok (.invokevirtual 203, 3) := by decide +kernel
theorem d_Mo_goOnWithTerm_219 : decode b_Mo_goOnWithTerm 219 = .ok (.aload_n 0, 1) := by decide +kernel
theorem d_Mo_goOnWithTerm_220 : decode b_Mo_goOnWithTerm 220 = .ok (.aload_n 0, 1) := by decide +kernel
theorem d_Mo_goOnWithTerm_221 : decode b_Mo_goOnWithTerm 221 = .ok (.getfield 13, 3) := by decide +kernel
theorem d_Mo_goOnWithTerm_224 : decode b_Mo_goOnWithTerm 224 = .ok (.iload_n 1, 1) := by decide +kernel
theorem d_Mo_goOnWithTerm_225 : decode b_Mo_goOnWithTerm 225 = .ok (.iaload, 1) := by decide +kernel
theorem d_Mo_goOnWithTerm_226 : decode b_Mo_goOnWithTerm 226 = .ok (.aload_n 0, 1) := by decide +kernel
theorem d_Mo_goOnWithTerm_227 : decode b_Mo_goOnWithTerm 227 = .ok (.getfield 154, 3) := by decide +kernel
theorem d_Mo_goOnWithTerm_230 : decode b_Mo_goOnWithTerm 230 = .ok (.invokevirtual 144, 3) := by decide +kernel
theorem d_Mo_goOnWithTerm_233 : decode b_Mo_goOnWithTerm 233 = .ok (.goto 138, 3) := by decide +kernel
theorem d_Mo_goOnWithTerm_236 : decode b_Mo_goOnWithTerm 236 = .ok (.iload_n 2, 1) := by decide +kernel
theorem d_Mo_goOnWithTerm_237 : decode b_Mo_goOnWithTerm 237 = .ok (.bipush 6, 2) := by decide +kernel
theorem d_Mo_goOnWithTerm_239 : decode b_Mo_goOnWithTerm 239 = .ok (.if_icmp .ne 53, 3) := by decide +kernel
theorem d_Mo_goOnWithTerm_242 : decode b_Mo_goOnWithTerm 242 = .ok (.aload_n 0, 1) := by decide +kernel
theorem d_Mo_goOnWithTerm_243 : decode b_Mo_goOnWithTerm 243 = .ok (.iconst 1, 1) := by decide +kernel
theorem d_Mo_goOnWithTerm_244 : decode b_Mo_goOnWithTerm 244 = .ok (.iconst 1, 1) := by decide +kernel
theorem d_Mo_goOnWithTerm_245 : decode b_Mo_goOnWithTerm 245 = .ok (.iconst 0, 1) := by decide +kernel
theorem d_Mo_goOnWithTerm_246 : decode b_Mo_goOnWithTerm 246 = .ok (.invokevirtual 216, 3) := by decide +kernel
theorem d_Mo_goOnWithTerm_249 : decode b_Mo_goOnWithTerm 249 = .ok (.ifCond .eq 122, 3) := by decide +kernel
theorem d_Mo_goOnWithTerm_252 : decode b_Mo_goOnWithTerm 252 = .ok (.aload_n 0, 1) := by decide +kernel
theorem d_Mo_goOnWithTerm_253 : decode b_Mo_goOnWithTerm 253 = .ok (.aload_n 0, 1) := by decide +kernel
theorem d_Mo_goOnWithTerm_254 : decode b_Mo_goOnWithTerm 254 = .ok (.getfield 113, 3) := by decide +kernel
theorem d_Mo_goOnWithTerm_257 : decode b_Mo_goOnWithTerm 257 = .ok (.aload_n 0, 1) := by decide +kernel
theorem d_Mo_goOnWithTerm_258 : decode b_Mo_goOnWithTerm 258 = .ok (.getfield 154, 3) := by decide +kernel
theorem d_Mo_goOnWithTerm_261 : decode b_Mo_goOnWithTerm 261 = .ok (.invokevirtual 223, 3) := by decide +kernel
theorem d_Mo_goOnWithTerm_264 : decode b_Mo_goOnWithTerm 264 = .ok (.istore_n 3, 1) := by decide +kernel
theorem d_Mo_goOnWithTerm_265 : decode b_Mo_goOnWithTerm 265 = .ok (.aload_n 0, 1) := by decide +kernel
theorem d_Mo_goOnWithTerm_266 : decode b_Mo_goOnWithTerm 266 = .ok (.aload_n 0, 1) := by decide +kernel
theorem d_Mo_goOnWithTerm_267 : decode b_Mo_goOnWithTerm 267 = .ok (.getfield 13, 3) := by decide +kernel
theorem d_Mo_goOnWithTerm_270 : decode b_Mo_goOnWithTerm 270 = .ok (.iload_n 1, 1) := by decide +kernel
theorem d_Mo_goOnWithTerm_271 : decode b_Mo_goOnWithTerm 271 = .ok (.iaload, 1) := by decide +kernel
theorem d_Mo_goOnWithTerm_272 : decode b_Mo_goOnWithTerm 272 = .ok (.iload_n 3, 1) := by decide +kernel
theorem d_Mo_goOnWithTerm_273 : decode b_Mo_goOnWithTerm 273 = .ok (.invokevirtual 210, 3) := by decide +kernel
theorem d_Mo_goOnWithTerm_276 : decode b_Mo_goOnWithTerm 276 = .ok (.istore 4, 2) := by decide +kernel
theorem d_Mo_goOnWithTerm_278 : decode b_Mo_goOnWithTerm 278 = .ok (.aload_n 0, 1) := by decide +kernel
theorem d_Mo_goOnWithTerm_279 : decode b_Mo_goOnWithTerm 279 = .ok (.aload_n 0, 1) := by decide +kernel
theorem d_Mo_goOnWithTerm_280 : decode b_Mo_goOnWithTerm 280 = .ok (.getfield 16, 3) := by decide +kernel
theorem d_Mo_goOnWithTerm_283 : decode b_Mo_goOnWithTerm 283 = .ok (.iload_n 1, 1) := by decide +kernel
theorem d_Mo_goOnWithTerm_284 : decode b_Mo_goOnWithTerm 284 = .ok (.iaload, 1) := by decide +kernel
theorem d_Mo_goOnWithTerm_285 : decode b_Mo_goOnWithTerm 285 = .ok (.iload_n 3, 1) := by decide +kernel
theorem d_Mo_goOnWithTerm_286 : decode b_Mo_goOnWithTerm 286 = .ok (.invokevirtual 144, 3) := by decide +kernel
theorem d_Mo_goOnWithTerm_289 : decode b_Mo_goOnWithTerm 289 = .ok (.goto 82, 3) := by decide +kernel
theorem d_Mo_goOnWithTerm_292 : decode b_Mo_goOnWithTerm 292 = .ok (.aload_n 0, 1) := by decide +kernel
theorem d_Mo_goOnWithTerm_293 : decode b_Mo_goOnWithTerm 293 = .ok (.iconst 0, 1) := by decide +kernel
theorem d_Mo_goOnWithTerm_294 : decode b_Mo_goOnWithTerm 294 = .ok (.iconst 0, 1) := by decide +kernel
theorem d_Mo_goOnWithTerm_295 : decode b_Mo_goOnWithTerm 295 = .ok (.iconst 1, 1) := by decide +kernel
theorem d_Mo_goOnWithTerm_296 : decode b_Mo_goOnWithTerm 296 = .ok (.invokevirtual 216, 3) := by decide +kernel
theorem d_Mo_goOnWithTerm_299 : decode b_Mo_goOnWithTerm 299 = .ok (.ifCond .eq 72, 3) := by decide +kernel
theorem d_Mo_goOnWithTerm_302 : decode b_Mo_goOnWithTerm 302 = .ok (.aload_n 0, 1) := by decide +kernel
theorem d_Mo_goOnWithTerm_303 : decode b_Mo_goOnWithTerm 303 = .ok (.iload_n 2, 1) := by decide +kernel
theorem d_Mo_goOnWithTerm_304 : decode b_Mo_goOnWithTerm 304 = .ok (.bipush 14, 2) := by decide +kernel
theorem d_Mo_goOnWithTerm_306 : decode b_Mo_goOnWithTerm 306 = .ok (.if_icmp .ne 7, 3) := by decide +kernel
theorem d_Mo_goOnWithTerm_309 : decode b_Mo_goOnWithTerm 309 = .ok (.iconst 4, 1) := by decide +kernel
theorem d_Mo_goOnWithTerm_310 : decode b_Mo_goOnWithTerm 310 = .ok (.goto 23, 3) := by decide +kernel
theorem d_Mo_goOnWithTerm_313 : decode b_Mo_goOnWithTerm 313 = .ok (.iload_n 2, 1) := by decide +kernel
theorem d_Mo_goOnWithTerm_314 : decode b_Mo_goOnWithTerm 314 = .ok (.iconst 3, 1) := by decide +kernel
theorem d_Mo_goOnWithTerm_315 : decode b_Mo_goOnWithTerm 315 = .ok (.if_icmp .ne 7, 3) := by decide +kernel
theorem d_Mo_goOnWithTerm_318 : decode b_Mo_goOnWithTerm 318 = .ok (.iconst 5, 1) := by decide +kernel
theorem d_Mo_goOnWithTerm_319 : decode b_Mo_goOnWithTerm 319 = .ok (.goto 14, 3) := by decide +kernel
theorem d_Mo_goOnWithTerm_322 : decode b_Mo_goOnWithTerm 322 = .ok (.iload_n 2, 1) := by decide +kernel
theorem d_Mo_goOnWithTerm_323 : decode b_Mo_goOnWithTerm 323 = .ok (.iconst 4, 1) := by decide +kernel
theorem d_Mo_goOnWithTerm_324 : decode b_Mo_goOnWithTerm 324 = .ok (.if_icmp .ne 8, 3) := by decide +kernel
theorem d_Mo_goOnWithTerm_327 : decode b_Mo_goOnWithTerm 327 = .ok (.bipush 6, 2) := by decide +kernel
theorem d_Mo_goOnWithTerm_329 : decode b_Mo_goOnWithTerm 329 = .ok (.goto 4, 3) := by decide +kernel
theorem d_Mo_goOnWithTerm_332 : decode b_Mo_goOnWithTerm 332 = .ok (.iconst 2, 1) := by decide +kernel
theorem d_Mo_goOnWithTerm_333 : decode b_Mo_goOnWithTerm 333 = .ok (.iload_n 1, 1) := by decide +kernel
theorem d_Mo_goOnWithTerm_334 : decode b_Mo_goOnWithTerm 334 = .ok (.aload_n 0, 1) := by decide +kernel
theorem d_Mo_goOnWithTerm_335 : decode b_Mo_goOnWithTerm 335 = .ok (.getfield 154, 3) := by decide +kernel
theorem d_Mo_goOnWithTerm_338 : decode b_Mo_goOnWithTerm 338 = .ok (.lconst 0, 1) := by decide +kernel
theorem d_Mo_goOnWithTerm_339 : decode b_Mo_goOnWithTerm 339 = .ok (.invokevirtual 203, 3) := by decide +kernel
theorem d_Mo_goOnWithTerm_342 : decode b_Mo_goOnWithTerm 342 = .ok (.aload_n 0, 1) := by decide +kernel
theorem d_Mo_goOnWithTerm_343 : decode b_Mo_goOnWithTerm 343 = .ok (.iload_n 2, 1) := by decide +kernel
theorem d_Mo_goOnWithTerm_344 : decode b_Mo_goOnWithTerm 344 = .ok (.bipush 14, 2) := by decide +kernel
theorem d_Mo_goOnWithTerm_346 : decode b_Mo_goOnWithTerm 346 = .ok (.if_icmp .ne 12, 3) := by decide +kernel
theorem d_Mo_goOnWithTerm_349 : decode b_Mo_goOnWithTerm 349 = .ok (.aload_n 0, 1) := by decide +kernel
theorem d_Mo_goOnWithTerm_350 : decode b_Mo_goOnWithTerm 350 = .ok (.getfield 19, 3) := by decide +kernel
theorem d_Mo_goOnWithTerm_353 : decode b_Mo_goOnWithTerm 353 = .ok (.iload_n 1, 1) := by decide +kernel
theorem d_Mo_goOnWithTerm_354 : decode b_Mo_goOnWithTerm 354 = .ok (.iaload, 1) := by decide +kernel
theorem d_Mo_goOnWithTerm_355 : decode b_Mo_goOnWithTerm 355 = .ok (.goto 9, 3) := by decide +kernel
theorem d_Mo_goOnWithTerm_358 : decode b_Mo_goOnWithTerm 358 = .ok (.aload_n 0, 1) := by decide +kernel
theorem d_Mo_goOnWithTerm_359 : decode b_Mo_goOnWithTerm 359 = .ok (.getfield 13, 3) := by decide +kernel
theorem d_Mo_goOnWithTerm_362 : decode b_Mo_goOnWithTerm 362 = .ok (.iload_n 1, 1) := by decide +kernel
theorem d_Mo_goOnWithTerm_363 : decode b_Mo_goOnWithTerm 363 = .ok (.iaload, 1) := by decide +kernel
theorem d_Mo_goOnWithTerm_364 : decode b_Mo_goOnWithTerm 364 = .ok (.aload_n 0, 1) := by decide +kernel
theorem d_Mo_goOnWithTerm_365 : decode b_Mo_goOnWithTerm 365 = .ok (.getfield 154, 3) := by decide +kernel
theorem d_Mo_goOnWithTerm_368 : decode b_Mo_goOnWithTerm 368 = .ok (.invokevirtual 144, 3) := by decide +kernel
theorem d_Mo_goOnWithTerm_371 : decode b_Mo_goOnWithTerm 371 = .ok (.return_, 1) := by decide +kernel
theorem d_Mo_act_0 : decode b_Mo_act 0 = .ok (.iload_n 1, 1) := by decide +kernel
theorem d_Mo_act_1 : decode b_Mo_act 1 = .ok (.iconst 3, 1) := by decide +kernel
theorem d_Mo_act_2 : decode b_Mo_act 2 = .ok (.if_icmp .ne 16, 3) := by decide +kernel
theorem d_Mo_act_5 : decode b_Mo_act 5 = .ok (.lload 4, 2) := by decide +kernel
theorem d_Mo_act_7 : decode b_Mo_act 7 = .ok (.lconst 0, 1) := by decide +kernel
theorem d_Mo_act_8 : decode b_Mo_act 8 = .ok (.lcmp, 1) := by decide +kernel
theorem d_Mo_act_9 : decode b_Mo_act 9 = .ok (.ifCond .ne 9, 3) := by decide +kernel
theorem d_Mo_act_12 : decode b_Mo_act 12 = .ok (.aload_n 0, 1) := by decide +kernel
theorem d_Mo_act_13 : decode b_Mo_act 13 = .ok (.iconst 4, 1) := by decide +kernel
theorem d_Mo_act_14 : decode b_Mo_act 14 = .ok (.putfield 141, 3) := by decide +kernel
theorem d_Mo_act_17 : decode b_Mo_act 17 = .ok (.return_, 1) := by decide +kernel
theorem d_Mo_act_18 : decode b_Mo_act 18 = .ok (.aload_n 0, 1) := by decide +kernel
theorem d_Mo_act_19 : decode b_Mo_act 19 = .ok (.dup, 1) := by decide +kernel
theorem d_Mo_act_20 : decode b_Mo_act 20 = .ok (.getfield 122, 3) := by decide +kernel
theorem d_Mo_act_23 : decode b_Mo_act 23 = .ok (.iconst 1, 1) := by decide +kernel
theorem d_Mo_act_24 : decode b_Mo_act 24 = .ok (.isub, 1) := by decide +kernel
theorem d_Mo_act_25 : decode b_Mo_act 25 = .ok (.putfield 122, 3) := by decide +kernel
theorem d_Mo_act_28 : decode b_Mo_act 28 = .ok (.iload_n 1, 1) := by decide +kernel
theorem d_Mo_act_29 : decode b_Mo_act 29 = .ok (.ifCond .ne 10, 3) := by decide +kernel
theorem d_Mo_act_32 : decode b_Mo_act 32 = .ok (.lload_n 2, 1) := by decide +kernel
theorem d_Mo_act_33 : decode b_Mo_act 33 = .ok (.lload 4, 2) := by decide +kernel
theorem d_Mo_act_35 : decode b_Mo_act 35 = .ok (.ladd, 1) := by decide +kernel
theorem d_Mo_act_36 : decode b_Mo_act 36 = .ok (.goto 71, 3) := by decide +kernel
theorem d_Mo_act_39 : decode b_Mo_act 39 = .ok (.iload_n 1, 1) := by decide +kernel
theorem d_Mo_act_40 : decode b_Mo_act 40 = .ok (.iconst 1, 1) := by decide +kernel
theorem d_Mo_act_41 : decode b_Mo_act 41 = .ok (.if_icmp .ne 10, 3) := by decide +kernel
theorem d_Mo_act_44 : decode b_Mo_act 44 = .ok (.lload_n 2, 1) := by decide +kernel
theorem d_Mo_act_45 : decode b_Mo_act 45 = .ok (.lload 4, 2) := by decide +kernel
theorem d_Mo_act_47 : decode b_Mo_act 47 = .ok (.lsub, 1) := by decide +kernel
theorem d_Mo_act_48 : decode b_Mo_act 48 = .ok (.goto 59, 3) := by decide +kernel
theorem d_Mo_act_51 : decode b_Mo_act 51 = .ok (.iload_n 1, 1) := by decide +kernel
theorem d_Mo_act_52 : decode b_Mo_act 52 = .ok (.iconst 2, 1) := by decide +kernel
theorem d_Mo_act_53 : decode b_Mo_act 53 = .ok (.if_icmp .ne 10, 3) := by decide +kernel
theorem d_Mo_act_56 : decode b_Mo_act 56 = .ok (.lload_n 2, 1) := by decide +kernel
theorem d_Mo_act_57 : decode b_Mo_act 57 = .ok (.lload 4, 2) := by decide +kernel
theorem d_Mo_act_59 : decode b_Mo_act 59 = .ok (.lmul, 1) := by decide +kernel
theorem d_Mo_act_60 : decode b_Mo_act 60 = .ok (.goto 47, 3) := by decide +kernel
theorem d_Mo_act_63 : decode b_Mo_act 63 = .ok (.iload_n 1, 1) := by decide +kernel
theorem d_Mo_act_64 : decode b_Mo_act 64 = .ok (.iconst 3, 1) := by decide +kernel
theorem d_Mo_act_65 : decode b_Mo_act 65 = .ok (.if_icmp .ne 10, 3) := by decide +kernel
theorem d_Mo_act_68 : decode b_Mo_act 68 = .ok (.lload_n 2, 1) := by decide +kernel
theorem d_Mo_act_69 : decode b_Mo_act 69 = .ok (.lload 4, 2) := by decide +kernel
theorem d_Mo_act_71 : decode b_Mo_act 71 = .ok (.ldiv, 1) := by decide +kernel
theorem d_Mo_act_72 : decode b_Mo_act 72 = .ok (.goto 35, 3) := by decide +kernel
theorem d_Mo_act_75 : decode b_Mo_act 75 = .ok (.iload_n 1, 1) := by decide +kernel
theorem d_Mo_act_76 : decode b_Mo_act 76 = .ok (.iconst 4, 1) := by decide +kernel
theorem d_Mo_act_77 : decode b_Mo_act 77 = .ok (.if_icmp .ne 18, 3) := by decide +kernel
theorem d_Mo_act_80 : decode b_Mo_act 80 = .ok (.lload_n 2, 1) := by decide +kernel
theorem d_Mo_act_81 : decode b_Mo_act 81 = .ok (.lload 4, 2) := by decide +kernel
theorem d_Mo_act_83 : decode b_Mo_act 83 = .ok (.lcmp, 1) := by decide +kernel
theorem d_Mo_act_84 : decode b_Mo_act 84 = .ok (.ifCond .ne 7, 3) := by decide +kernel
theorem d_Mo_act_87 : decode b_Mo_act 87 = .ok (.lconst 1, 1) := by decide +kernel
theorem d_Mo_act_88 : decode b_Mo_act 88 = .ok (.goto 19, 3) := by decide +kernel
theorem d_Mo_act_91 : decode b_Mo_act 91 = .ok (.lconst 0, 1) := by decide +kernel
theorem d_Mo_act_92 : decode b_Mo_act 92 = .ok (.goto 15, 3) := by decide +kernel
theorem d_Mo_act_95 : decode b_Mo_act 95 = .ok (.lload_n 2, 1) := by decide +kernel
theorem d_Mo_act_96 : decode b_Mo_act 96 = .ok (.lload 4, 2) := by decide +kernel
theorem d_Mo_act_98 : decode b_Mo_act 98 = .ok (.lcmp, 1) := by decide +kernel
theorem d_Mo_act_99 : decode b_Mo_act 99 = .ok (.ifCond .ge 7, 3) := by decide +kernel
theorem d_Mo_act_102 : decode b_Mo_act 102 = .ok (.lconst 1, 1) := by decide +kernel
theorem d_Mo_act_103 : decode b_Mo_act 103 = .ok (.goto 4, 3) := by decide +kernel
theorem d_Mo_act_106 : decode b_Mo_act 106 = .ok (.lconst 0, 1) := by decide +kernel
theorem d_Mo_act_107 : decode b_Mo_act 107 = .ok (.lstore 6, 2) := by decide +kernel
theorem d_Mo_act_109 : decode b_Mo_act 109 = .ok (.aload_n 0, 1) := by decide +kernel
theorem d_Mo_act_110 : decode b_Mo_act 110 = .ok (.iconst 0, 1) := by decide +kernel
theorem d_Mo_act_111 : decode b_Mo_act 111 = .ok (.lload 6, 2) := by decide +kernel
theorem d_Mo_act_113 : decode b_Mo_act 113 = .ok (.iconst (-1), 1) := by decide +kernel
theorem d_Mo_act_114 : decode b_Mo_act 114 = .ok (.iconst (-1), 1) := by decide +kernel
theorem d_Mo_act_115 : decode b_Mo_act 115 = .ok (.invokevirtual 196, 3) := by decide +kernel
theorem d_Mo_act_118 : decode b_Mo_act 118 = .ok (.return_, 1) := by decide +kernel
theorem d_Mo_goOnWithValue_0 : decode b_Mo_goOnWithValue 0 = .ok (.aload_n 0, 1) := by decide +kernel
theorem d_Mo_goOnWithValue_1 : decode b_Mo_goOnWithValue 1 = .ok (.getfield 122, 3) := by decide +kernel
theorem d_Mo_goOnWithValue_4 : decode b_Mo_goOnWithValue 4 = .ok (.iconst 1, 1) := by decide +kernel
theorem d_Mo_goOnWithValue_5 : decode b_Mo_goOnWithValue 5 = .ok (.isub, 1) := by decide +kernel
theorem d_Mo_goOnWithValue_6 : decode b_Mo_goOnWithValue 6 = .ok (.istore_n 1, 1) := by decide +kernel
theorem d_Mo_goOnWithValue_7 : decode b_Mo_goOnWithValue 7 = .ok (.aload_n 0, 1) := by decide +kernel
theorem d_Mo_goOnWithValue_8 : decode b_Mo_goOnWithValue 8 = .ok (.getfield 66, 3) := by decide +kernel
theorem d_Mo_goOnWithValue_11 : decode b_Mo_goOnWithValue 11 = .ok (.iload_n 1, 1) := by decide +kernel
theorem d_Mo_goOnWithValue_12 : decode b_Mo_goOnWithValue 12 = .ok (.iaload, 1) := by decide +kernel
theorem d_Mo_goOnWithValue_13 : decode b_Mo_goOnWithValue 13 = .ok (.istore_n 2, 1) := by decide +kernel
theorem d_Mo_goOnWithValue_14 : decode b_Mo_goOnWithValue 14 = .ok (.iload_n 2, 1) := by decide +kernel
theorem d_Mo_goOnWithValue_15 : decode b_Mo_goOnWithValue 15 = .ok (.ifCond .ne 63, 3) := by decide +kernel
theorem d_Mo_goOnWithValue_18 : decode b_Mo_goOnWithValue 18 = .ok (.aload_n 0, 1) := by decide +kernel
theorem d_Mo_goOnWithValue_19 : decode b_Mo_goOnWithValue 19 = .ok (.getfield 69, 3) := by decide +kernel
theorem d_Mo_goOnWithValue_22 : decode b_Mo_goOnWithValue 22 = .ok (.iload_n 1, 1) := by decide +kernel
theorem d_Mo_goOnWithValue_23 : decode b_Mo_goOnWithValue 23 = .ok (.iaload, 1) := by decide +kernel
theorem d_Mo_goOnWithValue_24 : decode b_Mo_goOnWithValue 24 = .ok (.istore_n 3, 1) := by decide +kernel
theorem d_Mo_goOnWithValue_25 : decode b_Mo_goOnWithValue 25 = .ok (.aload_n 0, 1) := by decide +kernel
theorem d_Mo_goOnWithValue_26 : decode b_Mo_goOnWithValue 26 = .ok (.getfield 29, 3) := by decide +kernel
theorem d_Mo_goOnWithValue_29 : decode b_Mo_goOnWithValue 29 = .ok (.iload_n 3, 1) := by decide +kernel
theorem d_Mo_goOnWithValue_30 : decode b_Mo_goOnWithValue 30 = .ok (.iconst 2, 1) := by decide +kernel
theorem d_Mo_goOnWithValue_31 : decode b_Mo_goOnWithValue 31 = .ok (.iastore, 1) := by decide +kernel
theorem d_Mo_goOnWithValue_32 : decode b_Mo_goOnWithValue 32 = .ok (.aload_n 0, 1) := by decide +kernel
theorem d_Mo_goOnWithValue_33 : decode b_Mo_goOnWithValue 33 = .ok (.getfield 38, 3) := by decide +kernel
theorem d_Mo_goOnWithValue_36 : decode b_Mo_goOnWithValue 36 = .ok (.iload_n 3, 1) := by decide +kernel
theorem d_Mo_goOnWithValue_37 : decode b_Mo_goOnWithValue 37 = .ok (.aload_n 0, 1) := by decide +kernel
theorem d_Mo_goOnWithValue_38 : decode b_Mo_goOnWithValue 38 = .ok (.getfield 157, 3) := by decide +kernel
theorem d_Mo_goOnWithValue_41 : decode b_Mo_goOnWithValue 41 = .ok (.iastore, 1) := by decide +kernel
theorem d_Mo_goOnWithValue_42 : decode b_Mo_goOnWithValue 42 = .ok (.aload_n 0, 1) := by decide +kernel
theorem d_Mo_goOnWithValue_43 : decode b_Mo_goOnWithValue 43 = .ok (.getfield 41, 3) := by decide +kernel
theorem d_Mo_goOnWithValue_46 : decode b_Mo_goOnWithValue 46 = .ok (.iload_n 3, 1) := by decide +kernel
theorem d_Mo_goOnWithValue_47 : decode b_Mo_goOnWithValue 47 = .ok (.aload_n 0, 1) := by decide +kernel
theorem d_Mo_goOnWithValue_48 : decode b_Mo_goOnWithValue 48 = .ok (.getfield 160, 3) := by decide +kernel
theorem d_Mo_goOnWithValue_51 : decode b_Mo_goOnWithValue 51 = .ok (.lastore, 1) := by decide +kernel
theorem d_Mo_goOnWithValue_52 : decode b_Mo_goOnWithValue 52 = .ok (.aload_n 0, 1) := by decide +kernel
theorem d_Mo_goOnWithValue_53 : decode b_Mo_goOnWithValue 53 = .ok (.getfield 44, 3) := by decide +kernel
theorem d_Mo_goOnWithValue_56 : decode b_Mo_goOnWithValue 56 = .ok (.iload_n 3, 1) := by decide +kernel
theorem d_Mo_goOnWithValue_57 : decode b_Mo_goOnWithValue 57 = .ok (.aload_n 0, 1) := by decide +kernel
theorem d_Mo_goOnWithValue_58 : decode b_Mo_goOnWithValue 58 = .ok (.getfield 164, 3) := by decide +kernel
theorem d_Mo_goOnWithValue_61 : decode b_Mo_goOnWithValue 61 = .ok (.iastore, 1) := by decide +kernel
theorem d_Mo_goOnWithValue_62 : decode b_Mo_goOnWithValue 62 = .ok (.aload_n 0, 1) := by decide +kernel
theorem d_Mo_goOnWithValue_63 : decode b_Mo_goOnWithValue 63 = .ok (.getfield 47, 3) := by decide +kernel
theorem d_Mo_goOnWithValue_66 : decode b_Mo_goOnWithValue 66 = .ok (.iload_n 3, 1) := by decide +kernel
theorem d_Mo_goOnWithValue_67 : decode b_Mo_goOnWithValue 67 = .ok (.aload_n 0, 1) := by decide +kernel
theorem d_Mo_goOnWithValue_68 : decode b_Mo_goOnWithValue 68 = .ok (.getfield 167, 3) := by decide +kernel
theorem d_Mo_goOnWithValue_71 : decode b_Mo_goOnWithValue 71 = .ok (.iastore, 1) := by decide +kernel
theorem d_Mo_goOnWithValue_72 : decode b_Mo_goOnWithValue 72 = .ok (.aload_n 0, 1) := by decide +kernel
theorem d_Mo_goOnWithValue_73 : decode b_Mo_goOnWithValue 73 = .ok (.iload_n 1, 1) := by decide +kernel
theorem d_Mo_goOnWithValue_74 : decode b_Mo_goOnWithValue 74 = .ok (.putfield 122, 3) := by decide +kernel
theorem d_Mo_goOnWithValue_77 : decode b_Mo_goOnWithValue 77 = .ok (.return_, 1) := by decide +kernel
theorem d_Mo_goOnWithValue_78 : decode b_Mo_goOnWithValue 78 = .ok (.iload_n 2, 1) := by decide +kernel
theorem d_Mo_goOnWithValue_79 : decode b_Mo_goOnWithValue 79 = .ok (.iconst 1, 1) := by decide +kernel
theorem d_Mo_goOnWithValue_80 : decode b_Mo_goOnWithValue 80 = .ok (.if_icmp .ne 7, 3) := by decide +kernel
theorem d_Mo_goOnWithValue_83 : decode b_Mo_goOnWithValue 83 = .ok (.iconst 1, 1) := by decide +kernel
theorem d_Mo_goOnWithValue_84 : decode b_Mo_goOnWithValue 84 = .ok (.goto 13, 3) := by decide +kernel
theorem d_Mo_goOnWithValue_87 : decode b_Mo_goOnWithValue 87 = .ok (.iload_n 2, 1) := by decide +kernel
theorem d_Mo_goOnWithValue_88 : decode b_Mo_goOnWithValue 88 = .ok (.iconst 5, 1) := by decide +kernel
theorem d_Mo_goOnWithValue_89 : decode b_Mo_goOnWithValue 89 = .ok (.if_icmp .ge 7, 3) := by decide +kernel
theorem d_Mo_goOnWithValue_92 : decode b_Mo_goOnWithValue 92 = .ok (.iconst 0, 1) := by decide +kernel
theorem d_Mo_goOnWithValue_93 : decode b_Mo_goOnWithValue 93 = .ok (.goto 4, 3) := by decide +kernel
theorem d_Mo_goOnWithValue_96 : decode b_Mo_goOnWithValue 96 = .ok (.iconst 2, 1) := by decide +kernel
theorem d_Mo_goOnWithValue_97 : decode b_Mo_goOnWithValue 97 = .ok (.istore_n 3, 1) := by decide +kernel
theorem d_Mo_goOnWithValue_98 : decode b_Mo_goOnWithValue 98 = .ok (.aload_n 0, 1) := by decide +kernel
theorem d_Mo_goOnWithValue_99 : decode b_Mo_goOnWithValue 99 = .ok (.getfield 157, 3) := by decide +kernel
theorem d_Mo_goOnWithValue_102 : decode b_Mo_goOnWithValue 102 = .ok (.iload_n 3, 1) := by decide +kernel
theorem d_Mo_goOnWithValue_103 : decode b_Mo_goOnWithValue 103 = .ok (.if_icmp .eq 11, 3) := by decide +kernel
theorem d_Mo_goOnWithValue_106 : decode b_Mo_goOnWithValue 106 = .ok (.aload_n 0, 1) := by decide +kernel
theorem d_Mo_goOnWithValue_107 : decode b_Mo_goOnWithValue 107 = .ok (.iconst 4, 1) := by decide +kernel
theorem d_Mo_goOnWithValue_108 : decode b_Mo_goOnWithValue 108 = .ok (.putfield 141, 3) := by decide +kernel
theorem d_Mo_goOnWithValue_111 : decode b_Mo_goOnWithValue 111 = .ok (.goto 208, 3) := by decide +kernel
theorem d_Mo_goOnWithValue_114 : decode b_Mo_goOnWithValue 114 = .ok (.iload_n 2, 1) := by decide +kernel
theorem d_Mo_goOnWithValue_115 : decode b_Mo_goOnWithValue 115 = .ok (.iconst 1, 1) := by decide +kernel
theorem d_Mo_goOnWithValue_116 : decode b_Mo_goOnWithValue 116 = .ok (.if_icmp .ne 43, 3) := by decide +kernel
theorem d_Mo_goOnWithValue_119 : decode b_Mo_goOnWithValue 119 = .ok (.aload_n 0, 1) := by decide +kernel
theorem d_Mo_goOnWithValue_120 : decode b_Mo_goOnWithValue 120 = .ok (.iconst 0, 1) := by decide +kernel
theorem d_Mo_goOnWithValue_121 : decode b_Mo_goOnWithValue 121 = .ok (.iconst 1, 1) := by decide +kernel
theorem d_Mo_goOnWithValue_122 : decode b_Mo_goOnWithValue 122 = .ok (.iconst (-1), 1) := by decide +kernel
theorem d_Mo_goOnWithValue_123 : decode b_Mo_goOnWithValue 123 = .ok (.invokevirtual 216, 3) := by decide +kernel
theorem d_Mo_goOnWithValue_126 : decode b_Mo_goOnWithValue 126 = .ok (.ifCond .eq 193, 3) := by decide +kernel
theorem d_Mo_goOnWithValue_129 : decode b_Mo_goOnWithValue 129 = .ok (.aload_n 0, 1) := by decide +kernel
theorem d_Mo_goOnWithValue_130 : decode b_Mo_goOnWithValue 130 = .ok (.iload_n 1, 1) := by decide +kernel
theorem d_Mo_goOnWithValue_131 : decode b_Mo_goOnWithValue 131 = .ok (.putfield 122, 3) := by decide +kernel
theorem d_Mo_goOnWithValue_134 : decode b_Mo_goOnWithValue 134 = .ok (.aload_n 0, 1) := by decide +kernel
theorem d_Mo_goOnWithValue_135 : decode b_Mo_goOnWithValue 135 = .ok (.aload_n 0, 1) := by decide +kernel
theorem d_Mo_goOnWithValue_136 : decode b_Mo_goOnWithValue 136 = .ok (.getfield 164, 3) := by decide +kernel
theorem d_Mo_goOnWithValue_139 : decode b_Mo_goOnWithValue 139 = .ok (.aload_n 0, 1) := by decide +kernel
theorem d_Mo_goOnWithValue_140 : decode b_Mo_goOnWithValue 140 = .ok (.aload_n 0, 1) := by decide +kernel
theorem d_Mo_goOnWithValue_141 : decode b_Mo_goOnWithValue 141 = .ok (.getfield 69, 3) := by decide +kernel
theorem d_Mo_goOnWithValue_144 : decode b_Mo_goOnWithValue 144 = .ok (.iload_n 1, 1) := by decide +kernel
theorem d_Mo_goOnWithValue_145 : decode b_Mo_goOnWithValue 145 = .ok (.iaload, 1) := by decide +kernel
theorem d_Mo_goOnWithValue_146 : decode b_Mo_goOnWithValue 146 = .ok (.aload_n 0, 1) := by decide +kernel
theorem d_Mo_goOnWithValue_147 : decode b_Mo_goOnWithValue 147 = .ok (.getfield 167, 3) := by decide +kernel
theorem d_Mo_goOnWithValue_150 : decode b_Mo_goOnWithValue 150 = .ok (.invokevirtual 223, 3) := by decide +kernel
theorem d_Mo_goOnWithValue_153 : decode b_Mo_goOnWithValue 153 = .ok (.invokevirtual 144, 3) := by decide +kernel
theorem d_Mo_goOnWithValue_156 : decode b_Mo_goOnWithValue 156 = .ok (.goto 163, 3) := by decide +kernel
theorem d_Mo_goOnWithValue_159 : decode b_Mo_goOnWithValue 159 = .ok (.iload_n 2, 1) := by decide +kernel
theorem d_Mo_goOnWithValue_160 : decode b_Mo_goOnWithValue 160 = .ok (.iconst 2, 1) := by decide +kernel
theorem d_Mo_goOnWithValue_161 : decode b_Mo_goOnWithValue 161 = .ok (.if_icmp .ne 44, 3) := by decide +kernel
theorem d_Mo_goOnWithValue_164 : decode b_Mo_goOnWithValue 164 = .ok (.aload_n 0, 1) := by decide +kernel
theorem d_Mo_goOnWithValue_165 : decode b_Mo_goOnWithValue 165 = .ok (.getfield 66, 3) := by decide +kernel
theorem d_Mo_goOnWithValue_168 : decode b_Mo_goOnWithValue 168 = .ok (.iload_n 1, 1) := by decide +kernel
theorem d_Mo_goOnWithValue_169 : decode b_Mo_goOnWithValue 169 = .ok (.iconst 3, 1) := by decide +kernel
theorem d_Mo_goOnWithValue_170 : decode b_Mo_goOnWithValue 170 = .ok (.iastore, 1) := by decide +kernel
theorem d_Mo_goOnWithValue_171 : decode b_Mo_goOnWithValue 171 = .ok (.aload_n 0, 1) := by decide +kernel
theorem d_Mo_goOnWithValue_172 : decode b_Mo_goOnWithValue 172 = .ok (.getfield 75, 3) := by decide +kernel
theorem d_Mo_goOnWithValue_175 : decode b_Mo_goOnWithValue 175 = .ok (.iload_n 1, 1) := by decide +kernel
theorem d_Mo_goOnWithValue_176 : decode b_Mo_goOnWithValue 176 = .ok (.aload_n 0, 1) := by decide +kernel
theorem d_Mo_goOnWithValue_177 : decode b_Mo_goOnWithValue 177 = .ok (.getfield 160, 3) := by decide +kernel
theorem d_Mo_goOnWithValue_180 : decode b_Mo_goOnWithValue 180 = .ok (.lastore, 1) := by decide +kernel
theorem d_Mo_goOnWithValue_181 : decode b_Mo_goOnWithValue 181 = .ok (.aload_n 0, 1) := by decide +kernel
theorem d_Mo_goOnWithValue_182 : decode b_Mo_goOnWithValue 182 = .ok (.aload_n 0, 1) := by decide +kernel
theorem d_Mo_goOnWithValue_183 : decode b_Mo_goOnWithValue 183 = .ok (.getfield 16, 3) := by decide +kernel
theorem d_Mo_goOnWithValue_186 : decode b_Mo_goOnWithValue 186 = .ok (.aload_n 0, 1) := by decide +kernel
theorem d_Mo_goOnWithValue_187 : decode b_Mo_goOnWithValue 187 = .ok (.getfield 69, 3) := by decide +kernel
theorem d_Mo_goOnWithValue_190 : decode b_Mo_goOnWithValue 190 = .ok (.iload_n 1, 1) := by decide +kernel
theorem d_Mo_goOnWithValue_191 : decode b_Mo_goOnWithValue 191 = .ok (.iaload, 1) := by decide +kernel
theorem d_Mo_goOnWithValue_192 : decode b_Mo_goOnWithValue 192 = .ok (.iaload, 1) := by decide +kernel
theorem d_Mo_goOnWithValue_193 : decode b_Mo_goOnWithValue 193 = .ok (.aload_n 0, 1) := by decide +kernel
theorem d_Mo_goOnWithValue_194 : decode b_Mo_goOnWithValue 194 = .ok (.getfield 72, 3) := by decide +kernel
theorem d_Mo_goOnWithValue_197 : decode b_Mo_goOnWithValue 197 = .ok (.iload_n 1, 1) := by decide +kernel
theorem d_Mo_goOnWithValue_198 : decode b_Mo_goOnWithValue 198 = .ok (.iaload, 1) := by decide +kernel
theorem d_Mo_goOnWithValue_199 : decode b_Mo_goOnWithValue 199 = .ok (.invokevirtual 144, 3) := by decide +kernel
theorem d_Mo_goOnWithValue_202 : decode b_Mo_goOnWithValue 202 = .ok (.goto 117, 3) := by decide +kernel
theorem d_Mo_goOnWithValue_205 : decode b_Mo_goOnWithValue 205 = .ok (.iload_n 2, 1) := by decide +kernel
theorem d_Mo_goOnWithValue_206 : decode b_Mo_goOnWithValue 206 = .ok (.iconst 3, 1) := by decide +kernel
theorem d_Mo_goOnWithValue_207 : decode b_Mo_goOnWithValue 207 = .ok (.if_icmp .ne 34, 3) := by decide +kernel
theorem d_Mo_goOnWithValue_210 : decode b_Mo_goOnWithValue 210 = .ok (.aload_n 0, 1) := by decide +kernel
theorem d_Mo_goOnWithValue_211 : decode b_Mo_goOnWithValue 211 = .ok (.aload_n 0, 1) := by decide +kernel
theorem d_Mo_goOnWithValue_212 : decode b_Mo_goOnWithValue 212 = .ok (.getfield 7, 3) := by decide +kernel
theorem d_Mo_goOnWithValue_215 : decode b_Mo_goOnWithValue 215 = .ok (.aload_n 0, 1) := by decide +kernel
theorem d_Mo_goOnWithValue_216 : decode b_Mo_goOnWithValue 216 = .ok (.getfield 69, 3) := by decide +kernel
theorem d_Mo_goOnWithValue_219 : decode b_Mo_goOnWithValue 219 = .ok (.iload_n 1, 1) := by decide +kernel
theorem d_Mo_goOnWithValue_220 : decode b_Mo_goOnWithValue 220 = .ok (.iaload, 1) := by decide +kernel
theorem d_Mo_goOnWithValue_221 : decode b_Mo_goOnWithValue 221 = .ok (.iaload, 1) := by decide +kernel
theorem d_Mo_goOnWithValue_222 : decode b_Mo_goOnWithValue 222 = .ok (.bipush 8, 2) := by decide +kernel
theorem d_Mo_goOnWithValue_224 : decode b_Mo_goOnWithValue 224 = .ok (.isub, 1) := by decide +kernel
theorem d_Mo_goOnWithValue_225 : decode b_Mo_goOnWithValue 225 = .ok (.aload_n 0, 1) := by decide +kernel
theorem d_Mo_goOnWithValue_226 : decode b_Mo_goOnWithValue 226 = .ok (.getfield 75, 3) := by decide +kernel
theorem d_Mo_goOnWithValue_229 : decode b_Mo_goOnWithValue 229 = .ok (.iload_n 1, 1) := by decide +kernel
theorem d_Mo_goOnWithValue_230 : decode b_Mo_goOnWithValue 230 = .ok (.laload, 1) := by decide +kernel
theorem d_Mo_goOnWithValue_231 : decode b_Mo_goOnWithValue 231 = .ok (.aload_n 0, 1) := by decide +kernel
theorem d_Mo_goOnWithValue_232 : decode b_Mo_goOnWithValue 232 = .ok (.getfield 160, 3) := by decide +kernel
theorem d_Mo_goOnWithValue_235 : decode b_Mo_goOnWithValue 235 = .ok (.invokevirtual 226, 3) := by decide +kernel
theorem d_Mo_goOnWithValue_238 : decode b_Mo_goOnWithValue 238 = .ok (.goto 81, 3) := by decide +kernel
theorem d_Mo_goOnWithValue_241 : decode b_Mo_goOnWithValue 241 = .ok (.iload_n 2, 1) := by decide +kernel
theorem d_Mo_goOnWithValue_242 : decode b_Mo_goOnWithValue 242 = .ok (.iconst 4, 1) := by decide +kernel
theorem d_Mo_goOnWithValue_243 : decode b_Mo_goOnWithValue 243 = .ok (.if_icmp .ne 55, 3) := by decide +kernel
theorem d_Mo_goOnWithValue_246 : decode b_Mo_goOnWithValue 246 = .ok (.aload_n 0, 1) := by decide +kernel
theorem d_Mo_goOnWithValue_247 : decode b_Mo_goOnWithValue 247 = .ok (.iload_n 1, 1) := by decide +kernel
theorem d_Mo_goOnWithValue_248 : decode b_Mo_goOnWithValue 248 = .ok (.putfield 122, 3) := by decide +kernel
theorem d_Mo_goOnWithValue_251 : decode b_Mo_goOnWithValue 251 = .ok (.aload_n 0, 1) := by decide +kernel
theorem d_Mo_goOnWithValue_252 : decode b_Mo_goOnWithValue 252 = .ok (.aload_n 0, 1) := by decide +kernel
theorem d_Mo_goOnWithValue_253 : decode b_Mo_goOnWithValue 253 = .ok (.getfield 160, 3) := by decide +kernel
theorem d_Mo_goOnWithValue_256 : decode b_Mo_goOnWithValue 256 = .ok (.lconst 0, 1) := by decide +kernel
theorem d_Mo_goOnWithValue_257 : decode b_Mo_goOnWithValue 257 = .ok (.lcmp, 1) := by decide +kernel
theorem d_Mo_goOnWithValue_258 : decode b_Mo_goOnWithValue 258 = .ok (.ifCond .ne 17, 3) := by decide +kernel
theorem d_Mo_goOnWithValue_261 : decode b_Mo_goOnWithValue 261 = .ok (.aload_n 0, 1) := by decide +kernel
theorem d_Mo_goOnWithValue_262 : decode b_Mo_goOnWithValue 262 = .ok (.getfield 16, 3) := by decide +kernel
theorem d_Mo_goOnWithValue_265 : decode b_Mo_goOnWithValue 265 = .ok (.aload_n 0, 1) := by decide +kernel
theorem d_Mo_goOnWithValue_266 : decode b_Mo_goOnWithValue 266 = .ok (.getfield 69, 3) := by decide +kernel
theorem d_Mo_goOnWithValue_269 : decode b_Mo_goOnWithValue 269 = .ok (.iload_n 1, 1) := by decide +kernel
theorem d_Mo_goOnWithValue_270 : decode b_Mo_goOnWithValue 270 = .ok (.iaload, 1) := by decide +kernel
theorem d_Mo_goOnWithValue_271 : decode b_Mo_goOnWithValue 271 = .ok (.iaload, 1) := by decide +kernel
theorem d_Mo_goOnWithValue_272 : decode b_Mo_goOnWithValue 272 = .ok (.goto 14, 3) := by decide +kernel
theorem d_Mo_goOnWithValue_275 : decode b_Mo_goOnWithValue 275 = .ok (.aload_n 0, 1) := by decide +kernel
theorem d_Mo_goOnWithValue_276 : decode b_Mo_goOnWithValue 276 = .ok (.getfield 13, 3) := by decide +kernel
theorem d_Mo_goOnWithValue_279 : decode b_Mo_goOnWithValue 279 = .ok (.aload_n 0, 1) := by decide +kernel
theorem d_Mo_goOnWithValue_280 : decode b_Mo_goOnWithValue 280 = .ok (.getfield 69, 3) := by decide +kernel
theorem d_Mo_goOnWithValue_283 : decode b_Mo_goOnWithValue 283 = .ok (.iload_n 1, 1) := by decide +kernel
theorem d_Mo_goOnWithValue_284 : decode b_Mo_goOnWithValue 284 = .ok (.iaload, 1) := by decide +kernel
theorem d_Mo_goOnWithValue_285 : decode b_Mo_goOnWithValue 285 = .ok (.iaload, 1) := by decide +kernel
theorem d_Mo_goOnWithValue_286 : decode b_Mo_goOnWithValue 286 = .ok (.aload_n 0, 1) := by decide +kernel
theorem d_Mo_goOnWithValue_287 : decode b_Mo_goOnWithValue 287 = .ok (.getfield 72, 3) := by decide +kernel
theorem d_Mo_goOnWithValue_290 : decode b_Mo_goOnWithValue 290 = .ok (.iload_n 1, 1) := by decide +kernel
theorem d_Mo_goOnWithValue_291 : decode b_Mo_goOnWithValue 291 = .ok (.iaload, 1) := by decide +kernel
theorem d_Mo_goOnWithValue_292 : decode b_Mo_goOnWithValue 292 = .ok (.invokevirtual 144, 3) := by decide +kernel
theorem d_Mo_goOnWithValue_295 : decode b_Mo_goOnWithValue 295 = .ok (.goto 24, 3) := by decide +kernel
theorem d_Mo_goOnWithValue_298 : decode b_Mo_goOnWithValue 298 = .ok (.aload_n 0, 1) := by decide +kernel
theorem d_Mo_goOnWithValue_299 : decode b_Mo_goOnWithValue 299 = .ok (.iload_n 2, 1) := by decide +kernel
theorem d_Mo_goOnWithValue_300 : decode b_Mo_goOnWithValue 300 = .ok (.iconst 5, 1) := by decide +kernel
theorem d_Mo_goOnWithValue_301 : decode b_Mo_goOnWithValue 301 = .ok (.if_icmp .ne 10, 3) := by decide +kernel
theorem d_Mo_goOnWithValue_304 : decode b_Mo_goOnWithValue 304 = .ok (.aload_n 0, 1) := by decide +kernel
theorem d_Mo_goOnWithValue_305 : decode b_Mo_goOnWithValue 305 = .ok (.getfield 164, 3) := by decide +kernel
theorem d_Mo_goOnWithValue_308 : decode b_Mo_goOnWithValue 308 = .ok (.goto 7, 3) := by decide +kernel
theorem d_Mo_goOnWithValue_311 : decode b_Mo_goOnWithValue 311 = .ok (.aload_n 0, 1) := by decide +kernel
theorem d_Mo_goOnWithValue_312 : decode b_Mo_goOnWithValue 312 = .ok (.getfield 167, 3) := by decide +kernel
theorem d_Mo_goOnWithValue_315 : decode b_Mo_goOnWithValue 315 = .ok (.iconst 1, 1) := by decide +kernel
theorem d_Mo_goOnWithValue_316 : decode b_Mo_goOnWithValue 316 = .ok (.invokevirtual 183, 3) := by decide +kernel
theorem d_Mo_goOnWithValue_319 : decode b_Mo_goOnWithValue 319 = .ok (.return_, 1) := by decide +kernel
theorem d_Mo_step_0 : decode b_Mo_step 0 = .ok (.aload_n 0, 1) := by decide +kernel
theorem d_Mo_step_1 : decode b_Mo_step 1 = .ok (.dup, 1) := by decide +kernel
theorem d_Mo_step_2 : decode b_Mo_step 2 = .ok (.getfield 128, 3) := by decide +kernel
theorem d_Mo_step_5 : decode b_Mo_step 5 = .ok (.iconst 1, 1) := by decide +kernel
theorem d_Mo_step_6 : decode b_Mo_step 6 = .ok (.iadd, 1) := by decide +kernel
theorem d_Mo_step_7 : decode b_Mo_step 7 = .ok (.putfield 128, 3) := by decide +kernel
theorem d_Mo_step_10 : decode b_Mo_step 10 = .ok (.aload_n 0, 1) := by decide +kernel
theorem d_Mo_step_11 : decode b_Mo_step 11 = .ok (.getfield 148, 3) := by decide +kernel
theorem d_Mo_step_14 : decode b_Mo_step 14 = .ok (.iconst 2, 1) := by decide +kernel
theorem d_Mo_step_15 : decode b_Mo_step 15 = .ok (.if_icmp .ne 15, 3) := by decide +kernel
theorem d_Mo_step_18 : decode b_Mo_step 18 = .ok (.aload_n 0, 1) := by decide +kernel
theorem d_Mo_step_19 : decode b_Mo_step 19 = .ok (.aload_n 0, 1) := by decide +kernel
theorem d_Mo_step_20 : decode b_Mo_step 20 = .ok (.getfield 180, 3) := by decide +kernel
theorem d_Mo_step_23 : decode b_Mo_step 23 = .ok (.iconst 0, 1) := by decide +kernel
theorem d_Mo_step_24 : decode b_Mo_step 24 = .ok (.invokevirtual 183, 3) := by decide +kernel
theorem d_Mo_step_27 : decode b_Mo_step 27 = .ok (.goto 21, 3) := by decide +kernel
theorem d_Mo_step_30 : decode b_Mo_step 30 = .ok (.aload_n 0, 1) := by decide +kernel
theorem d_Mo_step_31 : decode b_Mo_step 31 = .ok (.getfield 148, 3) := by decide +kernel
theorem d_Mo_step_34 : decode b_Mo_step 34 = .ok (.ifCond .ne 10, 3) := by decide +kernel
theorem d_Mo_step_37 : decode b_Mo_step 37 = .ok (.aload_n 0, 1) := by decide +kernel
theorem d_Mo_step_38 : decode b_Mo_step 38 = .ok (.invokevirtual 187, 3) := by decide +kernel
theorem d_Mo_step_41 : decode b_Mo_step 41 = .ok (.goto 7, 3) := by decide +kernel
theorem d_Mo_step_44 : decode b_Mo_step 44 = .ok (.aload_n 0, 1) := by decide +kernel
theorem d_Mo_step_45 : decode b_Mo_step 45 = .ok (.invokevirtual 190, 3) := by decide +kernel
theorem d_Mo_step_48 : decode b_Mo_step 48 = .ok (.aload_n 0, 1) := by decide +kernel
theorem d_Mo_step_49 : decode b_Mo_step 49 = .ok (.aload_n 0, 1) := by decide +kernel
theorem d_Mo_step_50 : decode b_Mo_step 50 = .ok (.getfield 125, 3) := by decide +kernel
theorem d_Mo_step_53 : decode b_Mo_step 53 = .ok (.aload_n 0, 1) := by decide +kernel
theorem d_Mo_step_54 : decode b_Mo_step 54 = .ok (.getfield 122, 3) := by decide +kernel
theorem d_Mo_step_57 : decode b_Mo_step 57 = .ok (.invokestatic 109, 3) := by decide +kernel
theorem d_Mo_step_60 : decode b_Mo_step 60 = .ok (.putfield 125, 3) := by decide +kernel
theorem d_Mo_step_63 : decode b_Mo_step 63 = .ok (.aload_n 0, 1) := by decide +kernel
theorem d_Mo_step_64 : decode b_Mo_step 64 = .ok (.getfield 141, 3) := by decide +kernel
theorem d_Mo_step_67 : decode b_Mo_step 67 = .ok (.iconst 1, 1) := by decide +kernel
theorem d_Mo_step_68 : decode b_Mo_step 68 = .ok (.if_icmp .ne 23, 3) := by decide +kernel
theorem d_Mo_step_71 : decode b_Mo_step 71 = .ok (.aload_n 0, 1) := by decide +kernel
theorem d_Mo_step_72 : decode b_Mo_step 72 = .ok (.getfield 148, 3) := by decide +kernel
theorem d_Mo_step_75 : decode b_Mo_step 75 = .ok (.iconst 1, 1) := by decide +kernel
theorem d_Mo_step_76 : decode b_Mo_step 76 = .ok (.if_icmp .ne 15, 3) := by decide +kernel
theorem d_Mo_step_79 : decode b_Mo_step 79 = .ok (.aload_n 0, 1) := by decide +kernel
theorem d_Mo_step_80 : decode b_Mo_step 80 = .ok (.getfield 122, 3) := by decide +kernel
theorem d_Mo_step_83 : decode b_Mo_step 83 = .ok (.ifCond .ne 8, 3) := by decide +kernel
theorem d_Mo_step_86 : decode b_Mo_step 86 = .ok (.aload_n 0, 1) := by decide +kernel
theorem d_Mo_step_87 : decode b_Mo_step 87 = .ok (.iconst 2, 1) := by decide +kernel
theorem d_Mo_step_88 : decode b_Mo_step 88 = .ok (.putfield 141, 3) := by decide +kernel
theorem d_Mo_step_91 : decode b_Mo_step 91 = .ok (.return_, 1) := by decide +kernel
theorem d_Mo_run_0 : decode b_Mo_run 0 = .ok (.aload_n 0, 1) := by decide +kernel
theorem d_Mo_run_1 : decode b_Mo_run 1 = .ok (.getfield 141, 3) := by decide +kernel
theorem d_Mo_run_4 : decode b_Mo_run 4 = .ok (.ifCond .ne 9, 3) := by decide +kernel
theorem d_Mo_run_7 : decode b_Mo_run 7 = .ok (.aload_n 0, 1) := by decide +kernel
theorem d_Mo_run_8 : decode b_Mo_run 8 = .ok (.iconst 1, 1) := by decide +kernel
theorem d_Mo_run_9 : decode b_Mo_run 9 = .ok (.invokevirtual 94, 3) := by decide +kernel
theorem d_Mo_run_12 : decode b_Mo_run 12 = .ok (.ireturn, 1) := by decide +kernel
theorem d_Mo_run_13 : decode b_Mo_run 13 = .ok (.iload_n 1, 1) := by decide +kernel
theorem d_Mo_run_14 : decode b_Mo_run 14 = .ok (.ifCond .lt 10, 3) := by decide +kernel
theorem d_Mo_run_17 : decode b_Mo_run 17 = .ok (.iload_n 1, 1) := by decide +kernel
theorem d_Mo_run_18 : decode b_Mo_run 18 = .ok (.sipush 5000, 3) := by decide +kernel
theorem d_Mo_run_21 : decode b_Mo_run 21 = .ok (.if_icmp .le 9, 3) := by decide +kernel
theorem d_Mo_run_24 : decode b_Mo_run 24 = .ok (.aload_n 0, 1) := by decide +kernel
theorem d_Mo_run_25 : decode b_Mo_run 25 = .ok (.iconst 2, 1) := by decide +kernel
theorem d_Mo_run_26 : decode b_Mo_run 26 = .ok (.invokevirtual 94, 3) := by decide +kernel
theorem d_Mo_run_29 : decode b_Mo_run 29 = .ok (.ireturn, 1) := by decide +kernel
theorem d_Mo_run_30 : decode b_Mo_run 30 = .ok (.aload_n 0, 1) := by decide +kernel
theorem d_Mo_run_31 : decode b_Mo_run 31 = .ok (.iconst 0, 1) := by decide +kernel
theorem d_Mo_run_32 : decode b_Mo_run 32 = .ok (.putfield 87, 3) := by decide +kernel
theorem d_Mo_run_35 : decode b_Mo_run 35 = .ok (.iconst 0, 1) := by decide +kernel
theorem d_Mo_run_36 : decode b_Mo_run 36 = .ok (.istore_n 2, 1) := by decide +kernel
theorem d_Mo_run_37 : decode b_Mo_run 37 = .ok (.iload_n 2, 1) := by decide +kernel
theorem d_Mo_run_38 : decode b_Mo_run 38 = .ok (.iload_n 1, 1) := by decide +kernel
theorem d_Mo_run_39 : decode b_Mo_run 39 = .ok (.if_icmp .ge 45, 3) := by decide +kernel
theorem d_Mo_run_42 : decode b_Mo_run 42 = .ok (.aload_n 0, 1) := by decide +kernel
theorem d_Mo_run_43 : decode b_Mo_run 43 = .ok (.getfield 141, 3) := by decide +kernel
theorem d_Mo_run_46 : decode b_Mo_run 46 = .ok (.iconst 1, 1) := by decide +kernel
theorem d_Mo_run_47 : decode b_Mo_run 47 = .ok (.if_icmp .ne 37, 3) := by decide +kernel
theorem d_Mo_run_50 : decode b_Mo_run 50 = .ok (.aload_n 0, 1) := by decide +kernel
theorem d_Mo_run_51 : decode b_Mo_run 51 = .ok (.getfield 170, 3) := by decide +kernel
theorem d_Mo_run_54 : decode b_Mo_run 54 = .ok (.ifCond .le 20, 3) := by decide +kernel
theorem d_Mo_run_57 : decode b_Mo_run 57 = .ok (.aload_n 0, 1) := by decide +kernel
theorem d_Mo_run_58 : decode b_Mo_run 58 = .ok (.getfield 128, 3) := by decide +kernel
theorem d_Mo_run_61 : decode b_Mo_run 61 = .ok (.aload_n 0, 1) := by decide +kernel
theorem d_Mo_run_62 : decode b_Mo_run 62 = .ok (.getfield 170, 3) := by decide +kernel
theorem d_Mo_run_65 : decode b_Mo_run 65 = .ok (.irem, 1) := by decide +kernel
theorem d_Mo_run_66 : decode b_Mo_run 66 = .ok (.ifCond .ne 8, 3) := by decide +kernel
theorem d_Mo_run_69 : decode b_Mo_run 69 = .ok (.aload_n 0, 1) := by decide +kernel
theorem d_Mo_run_70 : decode b_Mo_run 70 = .ok (.invokevirtual 173, 3) := by decide +kernel
theorem d_Mo_run_73 : decode b_Mo_run 73 = .ok (.istore_n 3, 1) := by decide +kernel
theorem d_Mo_run_74 : decode b_Mo_run 74 = .ok (.aload_n 0, 1) := by decide +kernel
theorem d_Mo_run_75 : decode b_Mo_run 75 = .ok (.invokevirtual 177, 3) := by decide +kernel
theorem d_Mo_run_78 : decode b_Mo_run 78 = .ok (.iinc 2 1, 3) := by decide +kernel
theorem d_Mo_run_81 : decode b_Mo_run 81 = .ok (.goto (-44), 3) := by decide +kernel
theorem d_Mo_run_84 : decode b_Mo_run 84 = .ok (.iload_n 2, 1) := by decide +kernel
theorem d_Mo_run_85 : decode b_Mo_run 85 = .ok (.ireturn, 1) := by decide +kernel
theorem d_Mo_into_0 : decode b_Mo_into 0 = .ok (.aload_n 0, 1) := by decide +kernel
theorem d_Mo_into_1 : decode b_Mo_into 1 = .ok (.getfield 141, 3) := by decide +kernel
theorem d_Mo_into_4 : decode b_Mo_into 4 = .ok (.iconst 2, 1) := by decide +kernel
theorem d_Mo_into_5 : decode b_Mo_into 5 = .ok (.if_icmp .ne 11, 3) := by decide +kernel
theorem d_Mo_into_8 : decode b_Mo_into 8 = .ok (.aload_n 0, 1) := by decide +kernel
theorem d_Mo_into_9 : decode b_Mo_into 9 = .ok (.getfield 157, 3) := by decide +kernel
theorem d_Mo_into_12 : decode b_Mo_into 12 = .ok (.iconst 2, 1) := by decide +kernel
theorem d_Mo_into_13 : decode b_Mo_into 13 = .ok (.if_icmp .eq 9, 3) := by decide +kernel
theorem d_Mo_into_16 : decode b_Mo_into 16 = .ok (.aload_n 0, 1) := by decide +kernel
theorem d_Mo_into_17 : decode b_Mo_into 17 = .ok (.iconst 1, 1) := by decide +kernel
theorem d_Mo_into_18 : decode b_Mo_into 18 = .ok (.putfield 87, 3) := by decide +kernel
theorem d_Mo_into_21 : decode b_Mo_into 21 = .ok (.return_, 1) := by decide +kernel
theorem d_Mo_into_22 : decode b_Mo_into 22 = .ok (.iload_n 1, 1) := by decide +kernel
theorem d_Mo_into_23 : decode b_Mo_into 23 = .ok (.ifCond .lt 8, 3) := by decide +kernel
theorem d_Mo_into_26 : decode b_Mo_into 26 = .ok (.iload_n 1, 1) := by decide +kernel
theorem d_Mo_into_27 : decode b_Mo_into 27 = .ok (.iconst 1, 1) := by decide +kernel
theorem d_Mo_into_28 : decode b_Mo_into 28 = .ok (.if_icmp .le 9, 3) := by decide +kernel
theorem d_Mo_into_31 : decode b_Mo_into 31 = .ok (.aload_n 0, 1) := by decide +kernel
theorem d_Mo_into_32 : decode b_Mo_into 32 = .ok (.iconst 2, 1) := by decide +kernel
theorem d_Mo_into_33 : decode b_Mo_into 33 = .ok (.putfield 87, 3) := by decide +kernel
theorem d_Mo_into_36 : decode b_Mo_into 36 = .ok (.return_, 1) := by decide +kernel
theorem d_Mo_into_37 : decode b_Mo_into 37 = .ok (.aload_n 0, 1) := by decide +kernel
theorem d_Mo_into_38 : decode b_Mo_into 38 = .ok (.iconst 0, 1) := by decide +kernel
theorem d_Mo_into_39 : decode b_Mo_into 39 = .ok (.putfield 87, 3) := by decide +kernel
theorem d_Mo_into_42 : decode b_Mo_into 42 = .ok (.aload_n 0, 1) := by decide +kernel
theorem d_Mo_into_43 : decode b_Mo_into 43 = .ok (.iload_n 1, 1) := by decide +kernel
theorem d_Mo_into_44 : decode b_Mo_into 44 = .ok (.ifCond .ne 10, 3) := by decide +kernel
theorem d_Mo_into_47 : decode b_Mo_into 47 = .ok (.aload_n 0, 1) := by decide +kernel
theorem d_Mo_into_48 : decode b_Mo_into 48 = .ok (.getfield 164, 3) := by decide +kernel
theorem d_Mo_into_51 : decode b_Mo_into 51 = .ok (.goto 7, 3) := by decide +kernel
theorem d_Mo_into_54 : decode b_Mo_into 54 = .ok (.aload_n 0, 1) := by decide +kernel
theorem d_Mo_into_55 : decode b_Mo_into 55 = .ok (.getfield 167, 3) := by decide +kernel
theorem d_Mo_into_58 : decode b_Mo_into 58 = .ok (.putfield 180, 3) := by decide +kernel
theorem d_Mo_into_61 : decode b_Mo_into 61 = .ok (.aload_n 0, 1) := by decide +kernel
theorem d_Mo_into_62 : decode b_Mo_into 62 = .ok (.iconst 2, 1) := by decide +kernel
theorem d_Mo_into_63 : decode b_Mo_into 63 = .ok (.putfield 148, 3) := by decide +kernel
theorem d_Mo_into_66 : decode b_Mo_into 66 = .ok (.aload_n 0, 1) := by decide +kernel
theorem d_Mo_into_67 : decode b_Mo_into 67 = .ok (.iconst 1, 1) := by decide +kernel
theorem d_Mo_into_68 : decode b_Mo_into 68 = .ok (.putfield 141, 3) := by decide +kernel
theorem d_Mo_into_71 : decode b_Mo_into 71 = .ok (.return_, 1) := by decide +kernel
theorem d_Mo_outcome_0 : decode b_Mo_outcome 0 = .ok (.aload_n 0, 1) := by decide +kernel
theorem d_Mo_outcome_1 : decode b_Mo_outcome 1 = .ok (.iconst 0, 1) := by decide +kernel
theorem d_Mo_outcome_2 : decode b_Mo_outcome 2 = .ok (.putfield 87, 3) := by decide +kernel
theorem d_Mo_outcome_5 : decode b_Mo_outcome 5 = .ok (.aload_n 0, 1) := by decide +kernel
theorem d_Mo_outcome_6 : decode b_Mo_outcome 6 = .ok (.getfield 141, 3) := by decide +kernel
theorem d_Mo_outcome_9 : decode b_Mo_outcome 9 = .ok (.ireturn, 1) := by decide +kernel
theorem d_Mo_sort_0 : decode b_Mo_sort 0 = .ok (.aload_n 0, 1) := by decide +kernel
theorem d_Mo_sort_1 : decode b_Mo_sort 1 = .ok (.iconst 0, 1) := by decide +kernel
theorem d_Mo_sort_2 : decode b_Mo_sort 2 = .ok (.putfield 87, 3) := by decide +kernel
theorem d_Mo_sort_5 : decode b_Mo_sort 5 = .ok (.aload_n 0, 1) := by decide +kernel
theorem d_Mo_sort_6 : decode b_Mo_sort 6 = .ok (.getfield 141, 3) := by decide +kernel
theorem d_Mo_sort_9 : decode b_Mo_sort 9 = .ok (.iconst 2, 1) := by decide +kernel
theorem d_Mo_sort_10 : decode b_Mo_sort 10 = .ok (.if_icmp .ne 10, 3) := by decide +kernel
theorem d_Mo_sort_13 : decode b_Mo_sort 13 = .ok (.aload_n 0, 1) := by decide +kernel
theorem d_Mo_sort_14 : decode b_Mo_sort 14 = .ok (.getfield 157, 3) := by decide +kernel
theorem d_Mo_sort_17 : decode b_Mo_sort 17 = .ok (.goto 4, 3) := by decide +kernel
theorem d_Mo_sort_20 : decode b_Mo_sort 20 = .ok (.iconst (-1), 1) := by decide +kernel
theorem d_Mo_sort_21 : decode b_Mo_sort 21 = .ok (.ireturn, 1) := by decide +kernel
theorem d_Mo_value_0 : decode b_Mo_value 0 = .ok (.aload_n 0, 1) := by decide +kernel
theorem d_Mo_value_1 : decode b_Mo_value 1 = .ok (.iconst 0, 1) := by decide +kernel
theorem d_Mo_value_2 : decode b_Mo_value 2 = .ok (.putfield 87, 3) := by decide +kernel
theorem d_Mo_value_5 : decode b_Mo_value 5 = .ok (.aload_n 0, 1) := by decide +kernel
theorem d_Mo_value_6 : decode b_Mo_value 6 = .ok (.getfield 141, 3) := by decide +kernel
theorem d_Mo_value_9 : decode b_Mo_value 9 = .ok (.iconst 2, 1) := by decide +kernel
theorem d_Mo_value_10 : decode b_Mo_value 10 = .ok (.if_icmp .ne 17, 3) := by decide +kernel
theorem d_Mo_value_13 : decode b_Mo_value 13 = .ok (.aload_n 0, 1) := by decide +kernel
theorem d_Mo_value_14 : decode b_Mo_value 14 = .ok (.getfield 157, 3) := by decide +kernel
theorem d_Mo_value_17 : decode b_Mo_value 17 = .ok (.ifCond .ne 10, 3) := by decide +kernel
theorem d_Mo_value_20 : decode b_Mo_value 20 = .ok (.aload_n 0, 1) := by decide +kernel
theorem d_Mo_value_21 : decode b_Mo_value 21 = .ok (.getfield 160, 3) := by decide +kernel
theorem d_Mo_value_24 : decode b_Mo_value 24 = .ok (.goto 4, 3) := by decide +kernel
theorem d_Mo_value_27 : decode b_Mo_value 27 = .ok (.lconst 0, 1) := by decide +kernel
theorem d_Mo_value_28 : decode b_Mo_value 28 = .ok (.lreturn, 1) := by decide +kernel
theorem d_Mo_told_0 : decode b_Mo_told 0 = .ok (.iload_n 1, 1) := by decide +kernel
theorem d_Mo_told_1 : decode b_Mo_told 1 = .ok (.ifCond .lt 9, 3) := by decide +kernel
theorem d_Mo_told_4 : decode b_Mo_told 4 = .ok (.iload_n 1, 1) := by decide +kernel
theorem d_Mo_told_5 : decode b_Mo_told 5 = .ok (.bipush 7, 2) := by decide +kernel
theorem d_Mo_told_7 : decode b_Mo_told 7 = .ok (.if_icmp .le 9, 3) := by decide +kernel
theorem d_Mo_told_10 : decode b_Mo_told 10 = .ok (.aload_n 0, 1) := by decide +kernel
theorem d_Mo_told_11 : decode b_Mo_told 11 = .ok (.iconst 1, 1) := by decide +kernel
theorem d_Mo_told_12 : decode b_Mo_told 12 = .ok (.invokevirtual 94, 3) := by decide +kernel
theorem d_Mo_told_15 : decode b_Mo_told 15 = .ok (.ireturn, 1) := by decide +kernel
theorem d_Mo_told_16 : decode b_Mo_told 16 = .ok (.aload_n 0, 1) := by decide +kernel
theorem d_Mo_told_17 : decode b_Mo_told 17 = .ok (.iconst 0, 1) := by decide +kernel
theorem d_Mo_told_18 : decode b_Mo_told 18 = .ok (.putfield 87, 3) := by decide +kernel
theorem d_Mo_told_21 : decode b_Mo_told 21 = .ok (.aload_n 0, 1) := by decide +kernel
theorem d_Mo_told_22 : decode b_Mo_told 22 = .ok (.getfield 141, 3) := by decide +kernel
theorem d_Mo_told_25 : decode b_Mo_told 25 = .ok (.ifCond .ne 5, 3) := by decide +kernel
theorem d_Mo_told_28 : decode b_Mo_told 28 = .ok (.iconst (-1), 1) := by decide +kernel
theorem d_Mo_told_29 : decode b_Mo_told 29 = .ok (.ireturn, 1) := by decide +kernel
theorem d_Mo_told_30 : decode b_Mo_told 30 = .ok (.iload_n 1, 1) := by decide +kernel
theorem d_Mo_told_31 : decode b_Mo_told 31 = .ok (.tableswitch 76 0 6 #[41, 46, 51, 56, 61, 66, 71], 41) := by decide +kernel
theorem d_Mo_told_72 : decode b_Mo_told 72 = .ok (.aload_n 0, 1) := by decide +kernel
theorem d_Mo_told_73 : decode b_Mo_told 73 = .ok (.getfield 128, 3) := by decide +kernel
theorem d_Mo_told_76 : decode b_Mo_told 76 = .ok (.ireturn, 1) := by decide +kernel
theorem d_Mo_told_77 : decode b_Mo_told 77 = .ok (.aload_n 0, 1) := by decide +kernel
theorem d_Mo_told_78 : decode b_Mo_told 78 = .ok (.getfield 113, 3) := by decide +kernel
theorem d_Mo_told_81 : decode b_Mo_told 81 = .ok (.ireturn, 1) := by decide +kernel
theorem d_Mo_told_82 : decode b_Mo_told 82 = .ok (.aload_n 0, 1) := by decide +kernel
theorem d_Mo_told_83 : decode b_Mo_told 83 = .ok (.getfield 116, 3) := by decide +kernel
theorem d_Mo_told_86 : decode b_Mo_told 86 = .ok (.ireturn, 1) := by decide +kernel
theorem d_Mo_told_87 : decode b_Mo_told 87 = .ok (.aload_n 0, 1) := by decide +kernel
theorem d_Mo_told_88 : decode b_Mo_told 88 = .ok (.getfield 122, 3) := by decide +kernel
theorem d_Mo_told_91 : decode b_Mo_told 91 = .ok (.ireturn, 1) := by decide +kernel
theorem d_Mo_told_92 : decode b_Mo_told 92 = .ok (.aload_n 0, 1) := by decide +kernel
theorem d_Mo_told_93 : decode b_Mo_told 93 = .ok (.getfield 125, 3) := by decide +kernel
theorem d_Mo_told_96 : decode b_Mo_told 96 = .ok (.ireturn, 1) := by decide +kernel
theorem d_Mo_told_97 : decode b_Mo_told 97 = .ok (.aload_n 0, 1) := by decide +kernel
theorem d_Mo_told_98 : decode b_Mo_told 98 = .ok (.getfield 131, 3) := by decide +kernel
theorem d_Mo_told_101 : decode b_Mo_told 101 = .ok (.ireturn, 1) := by decide +kernel
theorem d_Mo_told_102 : decode b_Mo_told 102 = .ok (.aload_n 0, 1) := by decide +kernel
theorem d_Mo_told_103 : decode b_Mo_told 103 = .ok (.getfield 134, 3) := by decide +kernel
theorem d_Mo_told_106 : decode b_Mo_told 106 = .ok (.ireturn, 1) := by decide +kernel
theorem d_Mo_told_107 : decode b_Mo_told 107 = .ok (.aload_n 0, 1) := by decide +kernel
theorem d_Mo_told_108 : decode b_Mo_told 108 = .ok (.getfield 119, 3) := by decide +kernel
theorem d_Mo_told_111 : decode b_Mo_told 111 = .ok (.ireturn, 1) := by decide +kernel
theorem d_Mo_isThing_0 : decode b_Mo_isThing 0 = .ok (.aload_n 0, 1) := by decide +kernel
theorem d_Mo_isThing_1 : decode b_Mo_isThing 1 = .ok (.getfield 141, 3) := by decide +kernel
theorem d_Mo_isThing_4 : decode b_Mo_isThing 4 = .ok (.ifCond .eq 19, 3) := by decide +kernel
theorem d_Mo_isThing_7 : decode b_Mo_isThing 7 = .ok (.iload_n 1, 1) := by decide +kernel
theorem d_Mo_isThing_8 : decode b_Mo_isThing 8 = .ok (.ifCond .lt 15, 3) := by decide +kernel
theorem d_Mo_isThing_11 : decode b_Mo_isThing 11 = .ok (.iload_n 1, 1) := by decide +kernel
theorem d_Mo_isThing_12 : decode b_Mo_isThing 12 = .ok (.aload_n 0, 1) := by decide +kernel
theorem d_Mo_isThing_13 : decode b_Mo_isThing 13 = .ok (.getfield 113, 3) := by decide +kernel
theorem d_Mo_isThing_16 : decode b_Mo_isThing 16 = .ok (.if_icmp .ge 7, 3) := by decide +kernel
theorem d_Mo_isThing_19 : decode b_Mo_isThing 19 = .ok (.iconst 1, 1) := by decide +kernel
theorem d_Mo_isThing_20 : decode b_Mo_isThing 20 = .ok (.goto 4, 3) := by decide +kernel
theorem d_Mo_isThing_23 : decode b_Mo_isThing 23 = .ok (.iconst 0, 1) := by decide +kernel
theorem d_Mo_isThing_24 : decode b_Mo_isThing 24 = .ok (.ireturn, 1) := by decide +kernel
theorem d_Mo_thing_0 : decode b_Mo_thing 0 = .ok (.aload_n 0, 1) := by decide +kernel
theorem d_Mo_thing_1 : decode b_Mo_thing 1 = .ok (.iload_n 1, 1) := by decide +kernel
theorem d_Mo_thing_2 : decode b_Mo_thing 2 = .ok (.invokevirtual 230, 3) := by decide +kernel
theorem d_Mo_thing_5 : decode b_Mo_thing 5 = .ok (.ifCond .ne 9, 3) := by decide +kernel
theorem d_Mo_thing_8 : decode b_Mo_thing 8 = .ok (.aload_n 0, 1) := by decide +kernel
theorem d_Mo_thing_9 : decode b_Mo_thing 9 = .ok (.iconst 1, 1) := by decide +kernel
theorem d_Mo_thing_10 : decode b_Mo_thing 10 = .ok (.invokevirtual 94, 3) := by decide +kernel
theorem d_Mo_thing_13 : decode b_Mo_thing 13 = .ok (.ireturn, 1) := by decide +kernel
theorem d_Mo_thing_14 : decode b_Mo_thing 14 = .ok (.aload_n 0, 1) := by decide +kernel
theorem d_Mo_thing_15 : decode b_Mo_thing 15 = .ok (.iconst 0, 1) := by decide +kernel
theorem d_Mo_thing_16 : decode b_Mo_thing 16 = .ok (.putfield 87, 3) := by decide +kernel
theorem d_Mo_thing_19 : decode b_Mo_thing 19 = .ok (.aload_n 0, 1) := by decide +kernel
theorem d_Mo_thing_20 : decode b_Mo_thing 20 = .ok (.getfield 29, 3) := by decide +kernel
theorem d_Mo_thing_23 : decode b_Mo_thing 23 = .ok (.iload_n 1, 1) := by decide +kernel
theorem d_Mo_thing_24 : decode b_Mo_thing 24 = .ok (.iaload, 1) := by decide +kernel
theorem d_Mo_thing_25 : decode b_Mo_thing 25 = .ok (.ireturn, 1) := by decide +kernel
theorem d_Mo_worked_0 : decode b_Mo_worked 0 = .ok (.aload_n 0, 1) := by decide +kernel
theorem d_Mo_worked_1 : decode b_Mo_worked 1 = .ok (.iload_n 1, 1) := by decide +kernel
theorem d_Mo_worked_2 : decode b_Mo_worked 2 = .ok (.invokevirtual 230, 3) := by decide +kernel
theorem d_Mo_worked_5 : decode b_Mo_worked 5 = .ok (.ifCond .ne 9, 3) := by decide +kernel
theorem d_Mo_worked_8 : decode b_Mo_worked 8 = .ok (.aload_n 0, 1) := by decide +kernel
theorem d_Mo_worked_9 : decode b_Mo_worked 9 = .ok (.iconst 1, 1) := by decide +kernel
theorem d_Mo_worked_10 : decode b_Mo_worked 10 = .ok (.invokevirtual 94, 3) := by decide +kernel
theorem d_Mo_worked_13 : decode b_Mo_worked 13 = .ok (.ireturn, 1) := by decide +kernel
theorem d_Mo_worked_14 : decode b_Mo_worked 14 = .ok (.iload_n 2, 1) := by decide +kernel
theorem d_Mo_worked_15 : decode b_Mo_worked 15 = .ok (.ifCond .lt 8, 3) := by decide +kernel
theorem d_Mo_worked_18 : decode b_Mo_worked 18 = .ok (.iload_n 2, 1) := by decide +kernel
theorem d_Mo_worked_19 : decode b_Mo_worked 19 = .ok (.iconst 2, 1) := by decide +kernel
theorem d_Mo_worked_20 : decode b_Mo_worked 20 = .ok (.if_icmp .le 9, 3) := by decide +kernel
theorem d_Mo_worked_23 : decode b_Mo_worked 23 = .ok (.aload_n 0, 1) := by decide +kernel
theorem d_Mo_worked_24 : decode b_Mo_worked 24 = .ok (.iconst 2, 1) := by decide +kernel
theorem d_Mo_worked_25 : decode b_Mo_worked 25 = .ok (.invokevirtual 94, 3) := by decide +kernel
theorem d_Mo_worked_28 : decode b_Mo_worked 28 = .ok (.ireturn, 1) := by decide +kernel
theorem d_Mo_worked_29 : decode b_Mo_worked 29 = .ok (.aload_n 0, 1) := by decide +kernel
theorem d_Mo_worked_30 : decode b_Mo_worked 30 = .ok (.iconst 0, 1) := by decide +kernel
theorem d_Mo_worked_31 : decode b_Mo_worked 31 = .ok (.putfield 87, 3) := by decide +kernel
theorem d_Mo_worked_34 : decode b_Mo_worked 34 = .ok (.iload_n 2, 1) := by decide +kernel
theorem d_Mo_worked_35 : decode b_Mo_worked 35 = .ok (.ifCond .ne 12, 3) := by decide +kernel
theorem d_Mo_worked_38 : decode b_Mo_worked 38 = .ok (.aload_n 0, 1) := by decide +kernel
theorem d_Mo_worked_39 : decode b_Mo_worked 39 = .ok (.getfield 50, 3) := by decide +kernel
theorem d_Mo_worked_42 : decode b_Mo_worked 42 = .ok (.iload_n 1, 1) := by decide +kernel
theorem d_Mo_worked_43 : decode b_Mo_worked 43 = .ok (.iaload, 1) := by decide +kernel
theorem d_Mo_worked_44 : decode b_Mo_worked 44 = .ok (.goto 23, 3) := by decide +kernel
theorem d_Mo_worked_47 : decode b_Mo_worked 47 = .ok (.iload_n 2, 1) := by decide +kernel
theorem d_Mo_worked_48 : decode b_Mo_worked 48 = .ok (.iconst 1, 1) := by decide +kernel
theorem d_Mo_worked_49 : decode b_Mo_worked 49 = .ok (.if_icmp .ne 12, 3) := by decide +kernel
theorem d_Mo_worked_52 : decode b_Mo_worked 52 = .ok (.aload_n 0, 1) := by decide +kernel
theorem d_Mo_worked_53 : decode b_Mo_worked 53 = .ok (.getfield 53, 3) := by decide +kernel
theorem d_Mo_worked_56 : decode b_Mo_worked 56 = .ok (.iload_n 1, 1) := by decide +kernel
theorem d_Mo_worked_57 : decode b_Mo_worked 57 = .ok (.iaload, 1) := by decide +kernel
theorem d_Mo_worked_58 : decode b_Mo_worked 58 = .ok (.goto 9, 3) := by decide +kernel
theorem d_Mo_worked_61 : decode b_Mo_worked 61 = .ok (.aload_n 0, 1) := by decide +kernel
theorem d_Mo_worked_62 : decode b_Mo_worked 62 = .ok (.getfield 32, 3) := by decide +kernel
theorem d_Mo_worked_65 : decode b_Mo_worked 65 = .ok (.iload_n 1, 1) := by decide +kernel
theorem d_Mo_worked_66 : decode b_Mo_worked 66 = .ok (.iaload, 1) := by decide +kernel
theorem d_Mo_worked_67 : decode b_Mo_worked 67 = .ok (.ireturn, 1) := by decide +kernel
theorem d_Mo_ring_0 : decode b_Mo_ring 0 = .ok (.aload_n 0, 1) := by decide +kernel
theorem d_Mo_ring_1 : decode b_Mo_ring 1 = .ok (.getfield 141, 3) := by decide +kernel
theorem d_Mo_ring_4 : decode b_Mo_ring 4 = .ok (.iconst 3, 1) := by decide +kernel
theorem d_Mo_ring_5 : decode b_Mo_ring 5 = .ok (.if_icmp .ne 7, 3) := by decide +kernel
theorem d_Mo_ring_8 : decode b_Mo_ring 8 = .ok (.iload_n 1, 1) := by decide +kernel
theorem d_Mo_ring_9 : decode b_Mo_ring 9 = .ok (.ifCond .ge 9, 3) := by decide +kernel
theorem d_Mo_ring_12 : decode b_Mo_ring 12 = .ok (.aload_n 0, 1) := by decide +kernel
theorem d_Mo_ring_13 : decode b_Mo_ring 13 = .ok (.iconst 1, 1) := by decide +kernel
theorem d_Mo_ring_14 : decode b_Mo_ring 14 = .ok (.invokevirtual 94, 3) := by decide +kernel
theorem d_Mo_ring_17 : decode b_Mo_ring 17 = .ok (.ireturn, 1) := by decide +kernel
theorem d_Mo_ring_18 : decode b_Mo_ring 18 = .ok (.iconst 0, 1) := by decide +kernel
theorem d_Mo_ring_19 : decode b_Mo_ring 19 = .ok (.istore_n 2, 1) := by decide +kernel
theorem d_Mo_ring_20 : decode b_Mo_ring 20 = .ok (.iconst 0, 1) := by decide +kernel
theorem d_Mo_ring_21 : decode b_Mo_ring 21 = .ok (.istore_n 3, 1) := by decide +kernel
theorem d_Mo_ring_22 : decode b_Mo_ring 22 = .ok (.iconst 0, 1) := by decide +kernel
theorem d_Mo_ring_23 : decode b_Mo_ring 23 = .ok (.istore 4, 2) := by decide +kernel
theorem d_Mo_ring_25 : decode b_Mo_ring 25 = .ok (.iload 4, 2) := by decide +kernel
theorem d_Mo_ring_27 : decode b_Mo_ring 27 = .ok (.aload_n 0, 1) := by decide +kernel
theorem d_Mo_ring_28 : decode b_Mo_ring 28 = .ok (.getfield 122, 3) := by decide +kernel
theorem d_Mo_ring_31 : decode b_Mo_ring 31 = .ok (.if_icmp .ge 77, 3) := by decide +kernel
theorem d_Mo_ring_34 : decode b_Mo_ring 34 = .ok (.aload_n 0, 1) := by decide +kernel
theorem d_Mo_ring_35 : decode b_Mo_ring 35 = .ok (.getfield 66, 3) := by decide +kernel
theorem d_Mo_ring_38 : decode b_Mo_ring 38 = .ok (.iload 4, 2) := by decide +kernel
theorem d_Mo_ring_40 : decode b_Mo_ring 40 = .ok (.iaload, 1) := by decide +kernel
theorem d_Mo_ring_41 : decode b_Mo_ring 41 = .ok (.ifCond .ne 61, 3) := by decide +kernel
theorem d_Mo_ring_44 : decode b_Mo_ring 44 = .ok (.iload_n 3, 1) := by decide +kernel
theorem d_Mo_ring_45 : decode b_Mo_ring 45 = .ok (.ifCond .ne 17, 3) := by decide +kernel
theorem d_Mo_ring_48 : decode b_Mo_ring 48 = .ok (.aload_n 0, 1) := by decide +kernel
theorem d_Mo_ring_49 : decode b_Mo_ring 49 = .ok (.getfield 69, 3) := by decide +kernel
theorem d_Mo_ring_52 : decode b_Mo_ring 52 = .ok (.iload 4, 2) := by decide +kernel
theorem d_Mo_ring_54 : decode b_Mo_ring 54 = .ok (.iaload, 1) := by decide +kernel
theorem d_Mo_ring_55 : decode b_Mo_ring 55 = .ok (.aload_n 0, 1) := by decide +kernel
theorem d_Mo_ring_56 : decode b_Mo_ring 56 = .ok (.getfield 193, 3) := by decide +kernel
theorem d_Mo_ring_59 : decode b_Mo_ring 59 = .ok (.if_icmp .ne 7, 3) := by decide +kernel
theorem d_Mo_ring_62 : decode b_Mo_ring 62 = .ok (.iconst 1, 1) := by decide +kernel
theorem d_Mo_ring_63 : decode b_Mo_ring 63 = .ok (.goto 4, 3) := by decide +kernel
theorem d_Mo_ring_66 : decode b_Mo_ring 66 = .ok (.iconst 0, 1) := by decide +kernel
theorem d_Mo_ring_67 : decode b_Mo_ring 67 = .ok (.istore_n 3, 1) := by decide +kernel
theorem d_Mo_ring_68 : decode b_Mo_ring 68 = .ok (.iload_n 3, 1) := by decide +kernel
theorem d_Mo_ring_69 : decode b_Mo_ring 69 = .ok (.ifCond .eq 21, 3) := by decide +kernel
theorem d_Mo_ring_72 : decode b_Mo_ring 72 = .ok (.iload_n 2, 1) := by decide +kernel
theorem d_Mo_ring_73 : decode b_Mo_ring 73 = .ok (.iload_n 1, 1) := by decide +kernel
theorem d_Mo_ring_74 : decode b_Mo_ring 74 = .ok (.if_icmp .ne 16, 3) := by decide +kernel
theorem d_Mo_ring_77 : decode b_Mo_ring 77 = .ok (.aload_n 0, 1) := by decide +kernel
theorem d_Mo_ring_78 : decode b_Mo_ring 78 = .ok (.iconst 0, 1) := by decide +kernel
theorem d_Mo_ring_79 : decode b_Mo_ring 79 = .ok (.putfield 87, 3) := by decide +kernel
theorem d_Mo_ring_82 : decode b_Mo_ring 82 = .ok (.aload_n 0, 1) := by decide +kernel
theorem d_Mo_ring_83 : decode b_Mo_ring 83 = .ok (.getfield 69, 3) := by decide +kernel
theorem d_Mo_ring_86 : decode b_Mo_ring 86 = .ok (.iload 4, 2) := by decide +kernel
theorem d_Mo_ring_88 : decode b_Mo_ring 88 = .ok (.iaload, 1) := by decide +kernel
theorem d_Mo_ring_89 : decode b_Mo_ring 89 = .ok (.ireturn, 1) := by decide +kernel
theorem d_Mo_ring_90 : decode b_Mo_ring 90 = .ok (.iload_n 2, 1) := by decide +kernel
theorem d_Mo_ring_91 : decode b_Mo_ring 91 = .ok (.iload_n 3, 1) := by decide +kernel
theorem d_Mo_ring_92 : decode b_Mo_ring 92 = .ok (.ifCond .eq 7, 3) := by decide +kernel
theorem d_Mo_ring_95 : decode b_Mo_ring 95 = .ok (.iconst 1, 1) := by decide +kernel
theorem d_Mo_ring_96 : decode b_Mo_ring 96 = .ok (.goto 4, 3) := by decide +kernel
theorem d_Mo_ring_99 : decode b_Mo_ring 99 = .ok (.iconst 0, 1) := by decide +kernel
theorem d_Mo_ring_100 : decode b_Mo_ring 100 = .ok (.iadd, 1) := by decide +kernel
theorem d_Mo_ring_101 : decode b_Mo_ring 101 = .ok (.istore_n 2, 1) := by decide +kernel
theorem d_Mo_ring_102 : decode b_Mo_ring 102 = .ok (.iinc 4 1, 3) := by decide +kernel
theorem d_Mo_ring_105 : decode b_Mo_ring 105 = .ok (.goto (-80), 3) := by decide +kernel
theorem d_Mo_ring_108 : decode b_Mo_ring 108 = .ok (.aload_n 0, 1) := by decide +kernel
theorem d_Mo_ring_109 : decode b_Mo_ring 109 = .ok (.iconst 1, 1) := by decide +kernel
theorem d_Mo_ring_110 : decode b_Mo_ring 110 = .ok (.invokevirtual 94, 3) := by decide +kernel
theorem d_Mo_ring_113 : decode b_Mo_ring 113 = .ok (.ireturn, 1) := by decide +kernel
theorem d_Mo_entry_0 : decode b_Mo_entry 0 = .ok (.aload_n 0, 1) := by decide +kernel
theorem d_Mo_entry_1 : decode b_Mo_entry 1 = .ok (.getfield 141, 3) := by decide +kernel
theorem d_Mo_entry_4 : decode b_Mo_entry 4 = .ok (.ifCond .eq 15, 3) := by decide +kernel
theorem d_Mo_entry_7 : decode b_Mo_entry 7 = .ok (.iload_n 1, 1) := by decide +kernel
theorem d_Mo_entry_8 : decode b_Mo_entry 8 = .ok (.ifCond .lt 11, 3) := by decide +kernel
theorem d_Mo_entry_11 : decode b_Mo_entry 11 = .ok (.iload_n 1, 1) := by decide +kernel
theorem d_Mo_entry_12 : decode b_Mo_entry 12 = .ok (.aload_n 0, 1) := by decide +kernel
theorem d_Mo_entry_13 : decode b_Mo_entry 13 = .ok (.getfield 122, 3) := by decide +kernel
theorem d_Mo_entry_16 : decode b_Mo_entry 16 = .ok (.if_icmp .lt 9, 3) := by decide +kernel
theorem d_Mo_entry_19 : decode b_Mo_entry 19 = .ok (.aload_n 0, 1) := by decide +kernel
theorem d_Mo_entry_20 : decode b_Mo_entry 20 = .ok (.iconst 1, 1) := by decide +kernel
theorem d_Mo_entry_21 : decode b_Mo_entry 21 = .ok (.invokevirtual 94, 3) := by decide +kernel
theorem d_Mo_entry_24 : decode b_Mo_entry 24 = .ok (.ireturn, 1) := by decide +kernel
theorem d_Mo_entry_25 : decode b_Mo_entry 25 = .ok (.aload_n 0, 1) := by decide +kernel
theorem d_Mo_entry_26 : decode b_Mo_entry 26 = .ok (.iconst 0, 1) := by decide +kernel
theorem d_Mo_entry_27 : decode b_Mo_entry 27 = .ok (.putfield 87, 3) := by decide +kernel
theorem d_Mo_entry_30 : decode b_Mo_entry 30 = .ok (.aload_n 0, 1) := by decide +kernel
theorem d_Mo_entry_31 : decode b_Mo_entry 31 = .ok (.getfield 66, 3) := by decide +kernel
theorem d_Mo_entry_34 : decode b_Mo_entry 34 = .ok (.iload_n 1, 1) := by decide +kernel
theorem d_Mo_entry_35 : decode b_Mo_entry 35 = .ok (.iaload, 1) := by decide +kernel
theorem d_Mo_entry_36 : decode b_Mo_entry 36 = .ok (.ireturn, 1) := by decide +kernel
theorem d_Mo_collect_0 : decode b_Mo_collect 0 = .ok (.aload_n 0, 1) := by decide +kernel
theorem d_Mo_collect_1 : decode b_Mo_collect 1 = .ok (.getfield 141, 3) := by decide +kernel
theorem d_Mo_collect_4 : decode b_Mo_collect 4 = .ok (.ifCond .ne 9, 3) := by decide +kernel
theorem d_Mo_collect_7 : decode b_Mo_collect 7 = .ok (.aload_n 0, 1) := by decide +kernel
theorem d_Mo_collect_8 : decode b_Mo_collect 8 = .ok (.iconst 1, 1) := by decide +kernel
theorem d_Mo_collect_9 : decode b_Mo_collect 9 = .ok (.invokevirtual 94, 3) := by decide +kernel
theorem d_Mo_collect_12 : decode b_Mo_collect 12 = .ok (.ireturn, 1) := by decide +kernel
theorem d_Mo_collect_13 : decode b_Mo_collect 13 = .ok (.aload_n 0, 1) := by decide +kernel
theorem d_Mo_collect_14 : decode b_Mo_collect 14 = .ok (.iconst 0, 1) := by decide +kernel
theorem d_Mo_collect_15 : decode b_Mo_collect 15 = .ok (.putfield 87, 3) := by decide +kernel
theorem d_Mo_collect_18 : decode b_Mo_collect 18 = .ok (.aload_n 0, 1) := by decide +kernel
theorem d_Mo_collect_19 : decode b_Mo_collect 19 = .ok (.invokevirtual 173, 3) := by decide +kernel
theorem d_Mo_collect_22 : decode b_Mo_collect 22 = .ok (.ireturn, 1) := by decide +kernel
theorem d_Mo_every_0 : decode b_Mo_every 0 = .ok (.iload_n 1, 1) := by decide +kernel
theorem d_Mo_every_1 : decode b_Mo_every 1 = .ok (.ifCond .lt 10, 3) := by decide +kernel
theorem d_Mo_every_4 : decode b_Mo_every 4 = .ok (.iload_n 1, 1) := by decide +kernel
theorem d_Mo_every_5 : decode b_Mo_every 5 = .ok (.sipush 5000, 3) := by decide +kernel
theorem d_Mo_every_8 : decode b_Mo_every 8 = .ok (.if_icmp .le 9, 3) := by decide +kernel
theorem d_Mo_every_11 : decode b_Mo_every 11 = .ok (.aload_n 0, 1) := by decide +kernel
theorem d_Mo_every_12 : decode b_Mo_every 12 = .ok (.iconst 1, 1) := by decide +kernel
theorem d_Mo_every_13 : decode b_Mo_every 13 = .ok (.invokevirtual 94, 3) := by decide +kernel
theorem d_Mo_every_16 : decode b_Mo_every 16 = .ok (.ireturn, 1) := by decide +kernel
theorem d_Mo_every_17 : decode b_Mo_every 17 = .ok (.aload_n 0, 1) := by decide +kernel
theorem d_Mo_every_18 : decode b_Mo_every 18 = .ok (.iconst 0, 1) := by decide +kernel
theorem d_Mo_every_19 : decode b_Mo_every 19 = .ok (.putfield 87, 3) := by decide +kernel
theorem d_Mo_every_22 : decode b_Mo_every 22 = .ok (.aload_n 0, 1) := by decide +kernel
theorem d_Mo_every_23 : decode b_Mo_every 23 = .ok (.getfield 170, 3) := by decide +kernel
theorem d_Mo_every_26 : decode b_Mo_every 26 = .ok (.istore_n 2, 1) := by decide +kernel
theorem d_Mo_every_27 : decode b_Mo_every 27 = .ok (.aload_n 0, 1) := by decide +kernel
theorem d_Mo_every_28 : decode b_Mo_every 28 = .ok (.iload_n 1, 1) := by decide +kernel
theorem d_Mo_every_29 : decode b_Mo_every 29 = .ok (.putfield 170, 3) := by decide +kernel
theorem d_Mo_every_32 : decode b_Mo_every 32 = .ok (.iload_n 2, 1) := by decide +kernel
theorem d_Mo_every_33 : decode b_Mo_every 33 = .ok (.ireturn, 1) := by decide +kernel
