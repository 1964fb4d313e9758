theorem d_River_init_0 : decode prog_6_method_1_code 0 = .ok (.aload_n 0, 1) := by decide +kernel
theorem d_River_init_1 : decode prog_6_method_1_code 1 = .ok (.invokespecial 3, 3) := by decide +kernel
theorem d_River_init_4 : decode prog_6_method_1_code 4 = .ok (.aload_n 0, 1) := by decide +kernel
theorem d_River_init_5 : decode prog_6_method_1_code 5 = .ok (.iconst 0, 1) := by decide +kernel
theorem d_River_init_6 : decode prog_6_method_1_code 6 = .ok (.putfield 9, 3) := by decide +kernel
theorem d_River_init_9 : decode prog_6_method_1_code 9 = .ok (.aload_n 0, 1) := by decide +kernel
theorem d_River_init_10 : decode prog_6_method_1_code 10 = .ok (.iconst 5, 1) := by decide +kernel
theorem d_River_init_11 : decode prog_6_method_1_code 11 = .ok (.putfield 15, 3) := by decide +kernel
theorem d_River_init_14 : decode prog_6_method_1_code 14 = .ok (.aload_n 0, 1) := by decide +kernel
theorem d_River_init_15 : decode prog_6_method_1_code 15 = .ok (.iconst 0, 1) := by decide +kernel
theorem d_River_init_16 : decode prog_6_method_1_code 16 = .ok (.putfield 18, 3) := by decide +kernel
theorem d_River_init_19 : decode prog_6_method_1_code 19 = .ok (.aload_n 0, 1) := by decide +kernel
theorem d_River_init_20 : decode prog_6_method_1_code 20 = .ok (.iconst 0, 1) := by decide +kernel
theorem d_River_init_21 : decode prog_6_method_1_code 21 = .ok (.putfield 21, 3) := by decide +kernel
theorem d_River_init_24 : decode prog_6_method_1_code 24 = .ok (.aload_n 0, 1) := by decide +kernel
theorem d_River_init_25 : decode prog_6_method_1_code 25 = .ok (.bipush 8, 2) := by decide +kernel
theorem d_River_init_27 : decode prog_6_method_1_code 27 = .ok (.anewarray 24, 3) := by decide +kernel
theorem d_River_init_30 : decode prog_6_method_1_code 30 = .ok (.putfield 26, 3) := by decide +kernel
theorem d_River_init_33 : decode prog_6_method_1_code 33 = .ok (.iconst 0, 1) := by decide +kernel
theorem d_River_init_34 : decode prog_6_method_1_code 34 = .ok (.istore_n 1, 1) := by decide +kernel
theorem d_River_init_35 : decode prog_6_method_1_code 35 = .ok (.iload_n 1, 1) := by decide +kernel
theorem d_River_init_36 : decode prog_6_method_1_code 36 = .ok (.bipush 8, 2) := by decide +kernel
theorem d_River_init_38 : decode prog_6_method_1_code 38 = .ok (.if_icmp .ge 22, 3) := by decide +kernel
theorem d_River_init_41 : decode prog_6_method_1_code 41 = .ok (.aload_n 0, 1) := by decide +kernel
theorem d_River_init_42 : decode prog_6_method_1_code 42 = .ok (.getfield 26, 3) := by decide +kernel
theorem d_River_init_45 : decode prog_6_method_1_code 45 = .ok (.iload_n 1, 1) := by decide +kernel
theorem d_River_init_46 : decode prog_6_method_1_code 46 = .ok (.new 24, 3) := by decide +kernel
theorem d_River_init_49 : decode prog_6_method_1_code 49 = .ok (.dup, 1) := by decide +kernel
theorem d_River_init_50 : decode prog_6_method_1_code 50 = .ok (.invokespecial 30, 3) := by decide +kernel
theorem d_River_init_53 : decode prog_6_method_1_code 53 = .ok (.aastore, 1) := by decide +kernel
theorem d_River_init_54 : decode prog_6_method_1_code 54 = .ok (.iinc 1 1, 3) := by decide +kernel
theorem d_River_init_57 : decode prog_6_method_1_code 57 = .ok (.goto (-22), 3) := by decide +kernel
theorem d_River_init_60 : decode prog_6_method_1_code 60 = .ok (.aload_n 0, 1) := by decide +kernel
theorem d_River_init_61 : decode prog_6_method_1_code 61 = .ok (.bipush 8, 2) := by decide +kernel
theorem d_River_init_63 : decode prog_6_method_1_code 63 = .ok (.anewarray 31, 3) := by decide +kernel
theorem d_River_init_66 : decode prog_6_method_1_code 66 = .ok (.putfield 33, 3) := by decide +kernel
theorem d_River_init_69 : decode prog_6_method_1_code 69 = .ok (.iconst 0, 1) := by decide +kernel
theorem d_River_init_70 : decode prog_6_method_1_code 70 = .ok (.istore_n 1, 1) := by decide +kernel
theorem d_River_init_71 : decode prog_6_method_1_code 71 = .ok (.iload_n 1, 1) := by decide +kernel
theorem d_River_init_72 : decode prog_6_method_1_code 72 = .ok (.bipush 8, 2) := by decide +kernel
theorem d_River_init_74 : decode prog_6_method_1_code 74 = .ok (.if_icmp .ge 22, 3) := by decide +kernel
theorem d_River_init_77 : decode prog_6_method_1_code 77 = .ok (.aload_n 0, 1) := by decide +kernel
theorem d_River_init_78 : decode prog_6_method_1_code 78 = .ok (.getfield 33, 3) := by decide +kernel
theorem d_River_init_81 : decode prog_6_method_1_code 81 = .ok (.iload_n 1, 1) := by decide +kernel
theorem d_River_init_82 : decode prog_6_method_1_code 82 = .ok (.new 31, 3) := by decide +kernel
theorem d_River_init_85 : decode prog_6_method_1_code 85 = .ok (.dup, 1) := by decide +kernel
theorem d_River_init_86 : decode prog_6_method_1_code 86 = .ok (.invokespecial 37, 3) := by decide +kernel
theorem d_River_init_89 : decode prog_6_method_1_code 89 = .ok (.aastore, 1) := by decide +kernel
theorem d_River_init_90 : decode prog_6_method_1_code 90 = .ok (.iinc 1 1, 3) := by decide +kernel
theorem d_River_init_93 : decode prog_6_method_1_code 93 = .ok (.goto (-22), 3) := by decide +kernel
theorem d_River_init_96 : decode prog_6_method_1_code 96 = .ok (.return_, 1) := by decide +kernel
theorem d_One_init_0 : decode prog_5_method_1_code 0 = .ok (.aload_n 0, 1) := by decide +kernel
theorem d_One_init_1 : decode prog_5_method_1_code 1 = .ok (.invokespecial 3, 3) := by decide +kernel
theorem d_One_init_4 : decode prog_5_method_1_code 4 = .ok (.return_, 1) := by decide +kernel
theorem d_Event_init_0 : decode prog_3_method_1_code 0 = .ok (.aload_n 0, 1) := by decide +kernel
theorem d_Event_init_1 : decode prog_3_method_1_code 1 = .ok (.invokespecial 3, 3) := by decide +kernel
theorem d_Event_init_4 : decode prog_3_method_1_code 4 = .ok (.return_, 1) := by decide +kernel
theorem d_Best_init_0 : decode prog_2_method_1_code 0 = .ok (.aload_n 0, 1) := by decide +kernel
theorem d_Best_init_1 : decode prog_2_method_1_code 1 = .ok (.invokespecial 3, 3) := by decide +kernel
theorem d_Best_init_4 : decode prog_2_method_1_code 4 = .ok (.return_, 1) := by decide +kernel
theorem d_Text_init_0 : decode prog_8_method_1_code 0 = .ok (.aload_n 0, 1) := by decide +kernel
theorem d_Text_init_1 : decode prog_8_method_1_code 1 = .ok (.invokespecial 3, 3) := by decide +kernel
theorem d_Text_init_4 : decode prog_8_method_1_code 4 = .ok (.aload_n 0, 1) := by decide +kernel
theorem d_Text_init_5 : decode prog_8_method_1_code 5 = .ok (.bipush 120, 2) := by decide +kernel
theorem d_Text_init_7 : decode prog_8_method_1_code 7 = .ok (.newarray .int, 2) := by decide +kernel
theorem d_Text_init_9 : decode prog_8_method_1_code 9 = .ok (.putfield 9, 3) := by decide +kernel
theorem d_Text_init_12 : decode prog_8_method_1_code 12 = .ok (.aload_n 0, 1) := by decide +kernel
theorem d_Text_init_13 : decode prog_8_method_1_code 13 = .ok (.iconst 0, 1) := by decide +kernel
theorem d_Text_init_14 : decode prog_8_method_1_code 14 = .ok (.putfield 15, 3) := by decide +kernel
theorem d_Text_init_17 : decode prog_8_method_1_code 17 = .ok (.return_, 1) := by decide +kernel
theorem d_Sheet_init_0 : decode prog_7_method_1_code 0 = .ok (.aload_n 0, 1) := by decide +kernel
theorem d_Sheet_init_1 : decode prog_7_method_1_code 1 = .ok (.invokespecial 3, 3) := by decide +kernel
theorem d_Sheet_init_4 : decode prog_7_method_1_code 4 = .ok (.aload_n 0, 1) := by decide +kernel
theorem d_Sheet_init_5 : decode prog_7_method_1_code 5 = .ok (.iconst 0, 1) := by decide +kernel
theorem d_Sheet_init_6 : decode prog_7_method_1_code 6 = .ok (.putfield 9, 3) := by decide +kernel
theorem d_Sheet_init_9 : decode prog_7_method_1_code 9 = .ok (.aload_n 0, 1) := by decide +kernel
theorem d_Sheet_init_10 : decode prog_7_method_1_code 10 = .ok (.iconst 0, 1) := by decide +kernel
theorem d_Sheet_init_11 : decode prog_7_method_1_code 11 = .ok (.putfield 15, 3) := by decide +kernel
theorem d_Sheet_init_14 : decode prog_7_method_1_code 14 = .ok (.aload_n 0, 1) := by decide +kernel
theorem d_Sheet_init_15 : decode prog_7_method_1_code 15 = .ok (.bipush 40, 2) := by decide +kernel
theorem d_Sheet_init_17 : decode prog_7_method_1_code 17 = .ok (.newarray .long, 2) := by decide +kernel
theorem d_Sheet_init_19 : decode prog_7_method_1_code 19 = .ok (.putfield 18, 3) := by decide +kernel
theorem d_Sheet_init_22 : decode prog_7_method_1_code 22 = .ok (.return_, 1) := by decide +kernel
theorem d_River_hasAllEvents_0 : decode prog_6_method_4_code 0 = .ok (.aload_n 0, 1) := by decide +kernel
theorem d_River_hasAllEvents_1 : decode prog_6_method_4_code 1 = .ok (.getfield 21, 3) := by decide +kernel
theorem d_River_hasAllEvents_4 : decode prog_6_method_4_code 4 = .ok (.bipush 8, 2) := by decide +kernel
theorem d_River_hasAllEvents_6 : decode prog_6_method_4_code 6 = .ok (.if_icmp .lt 7, 3) := by decide +kernel
theorem d_River_hasAllEvents_9 : decode prog_6_method_4_code 9 = .ok (.iconst 1, 1) := by decide +kernel
theorem d_River_hasAllEvents_10 : decode prog_6_method_4_code 10 = .ok (.goto 4, 3) := by decide +kernel
theorem d_River_hasAllEvents_13 : decode prog_6_method_4_code 13 = .ok (.iconst 0, 1) := by decide +kernel
theorem d_River_hasAllEvents_14 : decode prog_6_method_4_code 14 = .ok (.ireturn, 1) := by decide +kernel
theorem d_River_addEvent_0 : decode prog_6_method_6_code 0 = .ok (.aload_n 0, 1) := by decide +kernel
theorem d_River_addEvent_1 : decode prog_6_method_6_code 1 = .ok (.getfield 33, 3) := by decide +kernel
theorem d_River_addEvent_4 : decode prog_6_method_6_code 4 = .ok (.aload_n 0, 1) := by decide +kernel
theorem d_River_addEvent_5 : decode prog_6_method_6_code 5 = .ok (.getfield 21, 3) := by decide +kernel
theorem d_River_addEvent_8 : decode prog_6_method_6_code 8 = .ok (.aaload, 1) := by decide +kernel
theorem d_River_addEvent_9 : decode prog_6_method_6_code 9 = .ok (.iload_n 1, 1) := by decide +kernel
theorem d_River_addEvent_10 : decode prog_6_method_6_code 10 = .ok (.iload_n 2, 1) := by decide +kernel
theorem d_River_addEvent_11 : decode prog_6_method_6_code 11 = .ok (.invokevirtual 49, 3) := by decide +kernel
theorem d_River_addEvent_14 : decode prog_6_method_6_code 14 = .ok (.aload_n 0, 1) := by decide +kernel
theorem d_River_addEvent_15 : decode prog_6_method_6_code 15 = .ok (.dup, 1) := by decide +kernel
theorem d_River_addEvent_16 : decode prog_6_method_6_code 16 = .ok (.getfield 21, 3) := by decide +kernel
theorem d_River_addEvent_19 : decode prog_6_method_6_code 19 = .ok (.iconst 1, 1) := by decide +kernel
theorem d_River_addEvent_20 : decode prog_6_method_6_code 20 = .ok (.iadd, 1) := by decide +kernel
theorem d_River_addEvent_21 : decode prog_6_method_6_code 21 = .ok (.putfield 21, 3) := by decide +kernel
theorem d_River_addEvent_24 : decode prog_6_method_6_code 24 = .ok (.aload_n 0, 1) := by decide +kernel
theorem d_River_addEvent_25 : decode prog_6_method_6_code 25 = .ok (.getfield 21, 3) := by decide +kernel
theorem d_River_addEvent_28 : decode prog_6_method_6_code 28 = .ok (.iconst 1, 1) := by decide +kernel
theorem d_River_addEvent_29 : decode prog_6_method_6_code 29 = .ok (.isub, 1) := by decide +kernel
theorem d_River_addEvent_30 : decode prog_6_method_6_code 30 = .ok (.ireturn, 1) := by decide +kernel
theorem d_Event_begin_0 : decode prog_3_method_2_code 0 = .ok (.aload_n 0, 1) := by decide +kernel
theorem d_Event_begin_1 : decode prog_3_method_2_code 1 = .ok (.iload_n 1, 1) := by decide +kernel
theorem d_Event_begin_2 : decode prog_3_method_2_code 2 = .ok (.putfield 9, 3) := by decide +kernel
theorem d_Event_begin_5 : decode prog_3_method_2_code 5 = .ok (.aload_n 0, 1) := by decide +kernel
theorem d_Event_begin_6 : decode prog_3_method_2_code 6 = .ok (.iload_n 2, 1) := by decide +kernel
theorem d_Event_begin_7 : decode prog_3_method_2_code 7 = .ok (.putfield 15, 3) := by decide +kernel
theorem d_Event_begin_10 : decode prog_3_method_2_code 10 = .ok (.aload_n 0, 1) := by decide +kernel
theorem d_Event_begin_11 : decode prog_3_method_2_code 11 = .ok (.iconst 0, 1) := by decide +kernel
theorem d_Event_begin_12 : decode prog_3_method_2_code 12 = .ok (.putfield 18, 3) := by decide +kernel
theorem d_Event_begin_15 : decode prog_3_method_2_code 15 = .ok (.return_, 1) := by decide +kernel
theorem d_River_thoseWhoKnow_0 : decode prog_6_method_19_code 0 = .ok (.iconst 0, 1) := by decide +kernel
theorem d_River_thoseWhoKnow_1 : decode prog_6_method_19_code 1 = .ok (.istore_n 2, 1) := by decide +kernel
theorem d_River_thoseWhoKnow_2 : decode prog_6_method_19_code 2 = .ok (.iconst 0, 1) := by decide +kernel
theorem d_River_thoseWhoKnow_3 : decode prog_6_method_19_code 3 = .ok (.istore_n 3, 1) := by decide +kernel
theorem d_River_thoseWhoKnow_4 : decode prog_6_method_19_code 4 = .ok (.iload_n 3, 1) := by decide +kernel
theorem d_River_thoseWhoKnow_5 : decode prog_6_method_19_code 5 = .ok (.aload_n 0, 1) := by decide +kernel
theorem d_River_thoseWhoKnow_6 : decode prog_6_method_19_code 6 = .ok (.getfield 18, 3) := by decide +kernel
theorem d_River_thoseWhoKnow_9 : decode prog_6_method_19_code 9 = .ok (.if_icmp .ge 28, 3) := by decide +kernel
theorem d_River_thoseWhoKnow_12 : decode prog_6_method_19_code 12 = .ok (.aload_n 0, 1) := by decide +kernel
theorem d_River_thoseWhoKnow_13 : decode prog_6_method_19_code 13 = .ok (.getfield 26, 3) := by decide +kernel
theorem d_River_thoseWhoKnow_16 : decode prog_6_method_19_code 16 = .ok (.iload_n 3, 1) := by decide +kernel
theorem d_River_thoseWhoKnow_17 : decode prog_6_method_19_code 17 = .ok (.aaload, 1) := by decide +kernel
theorem d_River_thoseWhoKnow_18 : decode prog_6_method_19_code 18 = .ok (.iload_n 1, 1) := by decide +kernel
theorem d_River_thoseWhoKnow_19 : decode prog_6_method_19_code 19 = .ok (.invokevirtual 100, 3) := by decide +kernel
theorem d_River_thoseWhoKnow_22 : decode prog_6_method_19_code 22 = .ok (.ifCond .eq 9, 3) := by decide +kernel
theorem d_River_thoseWhoKnow_25 : decode prog_6_method_19_code 25 = .ok (.iload_n 2, 1) := by decide +kernel
theorem d_River_thoseWhoKnow_26 : decode prog_6_method_19_code 26 = .ok (.iconst 1, 1) := by decide +kernel
theorem d_River_thoseWhoKnow_27 : decode prog_6_method_19_code 27 = .ok (.iload_n 3, 1) := by decide +kernel
theorem d_River_thoseWhoKnow_28 : decode prog_6_method_19_code 28 = .ok (.ishl, 1) := by decide +kernel
theorem d_River_thoseWhoKnow_29 : decode prog_6_method_19_code 29 = .ok (.ior, 1) := by decide +kernel
theorem d_River_thoseWhoKnow_30 : decode prog_6_method_19_code 30 = .ok (.istore_n 2, 1) := by decide +kernel
theorem d_River_thoseWhoKnow_31 : decode prog_6_method_19_code 31 = .ok (.iinc 3 1, 3) := by decide +kernel
theorem d_River_thoseWhoKnow_34 : decode prog_6_method_19_code 34 = .ok (.goto (-30), 3) := by decide +kernel
theorem d_River_thoseWhoKnow_37 : decode prog_6_method_19_code 37 = .ok (.iload_n 2, 1) := by decide +kernel
theorem d_River_thoseWhoKnow_38 : decode prog_6_method_19_code 38 = .ok (.ireturn, 1) := by decide +kernel
theorem d_One_hasHeard_0 : decode prog_5_method_7_code 0 = .ok (.aload_n 0, 1) := by decide +kernel
theorem d_One_hasHeard_1 : decode prog_5_method_7_code 1 = .ok (.getfield 30, 3) := by decide +kernel
theorem d_One_hasHeard_4 : decode prog_5_method_7_code 4 = .ok (.iload_n 1, 1) := by decide +kernel
theorem d_One_hasHeard_5 : decode prog_5_method_7_code 5 = .ok (.ishr, 1) := by decide +kernel
theorem d_One_hasHeard_6 : decode prog_5_method_7_code 6 = .ok (.iconst 1, 1) := by decide +kernel
theorem d_One_hasHeard_7 : decode prog_5_method_7_code 7 = .ok (.iand, 1) := by decide +kernel
theorem d_One_hasHeard_8 : decode prog_5_method_7_code 8 = .ok (.ifCond .eq 7, 3) := by decide +kernel
theorem d_One_hasHeard_11 : decode prog_5_method_7_code 11 = .ok (.iconst 1, 1) := by decide +kernel
theorem d_One_hasHeard_12 : decode prog_5_method_7_code 12 = .ok (.goto 4, 3) := by decide +kernel
theorem d_One_hasHeard_15 : decode prog_5_method_7_code 15 = .ok (.iconst 0, 1) := by decide +kernel
theorem d_One_hasHeard_16 : decode prog_5_method_7_code 16 = .ok (.ireturn, 1) := by decide +kernel
theorem d_Event_hoursToRight_0 : decode prog_3_method_4_code 0 = .ok (.aload_n 0, 1) := by decide +kernel
theorem d_Event_hoursToRight_1 : decode prog_3_method_4_code 1 = .ok (.getfield 9, 3) := by decide +kernel
theorem d_Event_hoursToRight_4 : decode prog_3_method_4_code 4 = .ok (.iload_n 1, 1) := by decide +kernel
theorem d_Event_hoursToRight_5 : decode prog_3_method_4_code 5 = .ok (.isub, 1) := by decide +kernel
theorem d_Event_hoursToRight_6 : decode prog_3_method_4_code 6 = .ok (.iconst (-1), 1) := by decide +kernel
theorem d_Event_hoursToRight_7 : decode prog_3_method_4_code 7 = .ok (.invokestatic 22, 3) := by decide +kernel
theorem d_Event_hoursToRight_10 : decode prog_3_method_4_code 10 = .ok (.ireturn, 1) := by decide +kernel
theorem d_Math_max_0 : decode prog_12_method_65_code 0 = .ok (.iload_n 0, 1) := by decide +kernel
theorem d_Math_max_1 : decode prog_12_method_65_code 1 = .ok (.iload_n 1, 1) := by decide +kernel
theorem d_Math_max_2 : decode prog_12_method_65_code 2 = .ok (.if_icmp .lt 7, 3) := by decide +kernel
theorem d_Math_max_5 : decode prog_12_method_65_code 5 = .ok (.iload_n 0, 1) := by decide +kernel
theorem d_Math_max_6 : decode prog_12_method_65_code 6 = .ok (.goto 4, 3) := by decide +kernel
theorem d_Math_max_9 : decode prog_12_method_65_code 9 = .ok (.iload_n 1, 1) := by decide +kernel
theorem d_Math_max_10 : decode prog_12_method_65_code 10 = .ok (.ireturn, 1) := by decide +kernel
theorem d_Event_hoursToLeft_0 : decode prog_3_method_5_code 0 = .ok (.aload_n 0, 1) := by decide +kernel
theorem d_Event_hoursToLeft_1 : decode prog_3_method_5_code 1 = .ok (.getfield 18, 3) := by decide +kernel
theorem d_Event_hoursToLeft_4 : decode prog_3_method_5_code 4 = .ok (.ifCond .eq 7, 3) := by decide +kernel
theorem d_Event_hoursToLeft_7 : decode prog_3_method_5_code 7 = .ok (.iconst (-1), 1) := by decide +kernel
theorem d_Event_hoursToLeft_8 : decode prog_3_method_5_code 8 = .ok (.goto 16, 3) := by decide +kernel
theorem d_Event_hoursToLeft_11 : decode prog_3_method_5_code 11 = .ok (.aload_n 0, 1) := by decide +kernel
theorem d_Event_hoursToLeft_12 : decode prog_3_method_5_code 12 = .ok (.getfield 9, 3) := by decide +kernel
theorem d_Event_hoursToLeft_15 : decode prog_3_method_5_code 15 = .ok (.bipush 24, 2) := by decide +kernel
theorem d_Event_hoursToLeft_17 : decode prog_3_method_5_code 17 = .ok (.iadd, 1) := by decide +kernel
theorem d_Event_hoursToLeft_18 : decode prog_3_method_5_code 18 = .ok (.iload_n 1, 1) := by decide +kernel
theorem d_Event_hoursToLeft_19 : decode prog_3_method_5_code 19 = .ok (.isub, 1) := by decide +kernel
theorem d_Event_hoursToLeft_20 : decode prog_3_method_5_code 20 = .ok (.iconst (-1), 1) := by decide +kernel
theorem d_Event_hoursToLeft_21 : decode prog_3_method_5_code 21 = .ok (.invokestatic 22, 3) := by decide +kernel
theorem d_Event_hoursToLeft_24 : decode prog_3_method_5_code 24 = .ok (.ireturn, 1) := by decide +kernel
theorem d_River_hasAllPeople_0 : decode prog_6_method_3_code 0 = .ok (.aload_n 0, 1) := by decide +kernel
theorem d_River_hasAllPeople_1 : decode prog_6_method_3_code 1 = .ok (.getfield 18, 3) := by decide +kernel
theorem d_River_hasAllPeople_4 : decode prog_6_method_3_code 4 = .ok (.bipush 8, 2) := by decide +kernel
theorem d_River_hasAllPeople_6 : decode prog_6_method_3_code 6 = .ok (.if_icmp .lt 7, 3) := by decide +kernel
theorem d_River_hasAllPeople_9 : decode prog_6_method_3_code 9 = .ok (.iconst 1, 1) := by decide +kernel
theorem d_River_hasAllPeople_10 : decode prog_6_method_3_code 10 = .ok (.goto 4, 3) := by decide +kernel
theorem d_River_hasAllPeople_13 : decode prog_6_method_3_code 13 = .ok (.iconst 0, 1) := by decide +kernel
theorem d_River_hasAllPeople_14 : decode prog_6_method_3_code 14 = .ok (.ireturn, 1) := by decide +kernel
theorem d_River_addOne_0 : decode prog_6_method_5_code 0 = .ok (.aload_n 0, 1) := by decide +kernel
theorem d_River_addOne_1 : decode prog_6_method_5_code 1 = .ok (.getfield 26, 3) := by decide +kernel
theorem d_River_addOne_4 : decode prog_6_method_5_code 4 = .ok (.aload_n 0, 1) := by decide +kernel
theorem d_River_addOne_5 : decode prog_6_method_5_code 5 = .ok (.getfield 18, 3) := by decide +kernel
theorem d_River_addOne_8 : decode prog_6_method_5_code 8 = .ok (.aaload, 1) := by decide +kernel
theorem d_River_addOne_9 : decode prog_6_method_5_code 9 = .ok (.iload_n 1, 1) := by decide +kernel
theorem d_River_addOne_10 : decode prog_6_method_5_code 10 = .ok (.iload_n 2, 1) := by decide +kernel
theorem d_River_addOne_11 : decode prog_6_method_5_code 11 = .ok (.invokevirtual 45, 3) := by decide +kernel
theorem d_River_addOne_14 : decode prog_6_method_5_code 14 = .ok (.aload_n 0, 1) := by decide +kernel
theorem d_River_addOne_15 : decode prog_6_method_5_code 15 = .ok (.dup, 1) := by decide +kernel
theorem d_River_addOne_16 : decode prog_6_method_5_code 16 = .ok (.getfield 18, 3) := by decide +kernel
theorem d_River_addOne_19 : decode prog_6_method_5_code 19 = .ok (.iconst 1, 1) := by decide +kernel
theorem d_River_addOne_20 : decode prog_6_method_5_code 20 = .ok (.iadd, 1) := by decide +kernel
theorem d_River_addOne_21 : decode prog_6_method_5_code 21 = .ok (.putfield 18, 3) := by decide +kernel
theorem d_River_addOne_24 : decode prog_6_method_5_code 24 = .ok (.aload_n 0, 1) := by decide +kernel
theorem d_River_addOne_25 : decode prog_6_method_5_code 25 = .ok (.getfield 18, 3) := by decide +kernel
theorem d_River_addOne_28 : decode prog_6_method_5_code 28 = .ok (.iconst 1, 1) := by decide +kernel
theorem d_River_addOne_29 : decode prog_6_method_5_code 29 = .ok (.isub, 1) := by decide +kernel
theorem d_River_addOne_30 : decode prog_6_method_5_code 30 = .ok (.ireturn, 1) := by decide +kernel
theorem d_One_begin_0 : decode prog_5_method_2_code 0 = .ok (.aload_n 0, 1) := by decide +kernel
theorem d_One_begin_1 : decode prog_5_method_2_code 1 = .ok (.iload_n 1, 1) := by decide +kernel
theorem d_One_begin_2 : decode prog_5_method_2_code 2 = .ok (.putfield 9, 3) := by decide +kernel
theorem d_One_begin_5 : decode prog_5_method_2_code 5 = .ok (.aload_n 0, 1) := by decide +kernel
theorem d_One_begin_6 : decode prog_5_method_2_code 6 = .ok (.iload_n 2, 1) := by decide +kernel
theorem d_One_begin_7 : decode prog_5_method_2_code 7 = .ok (.putfield 15, 3) := by decide +kernel
theorem d_One_begin_10 : decode prog_5_method_2_code 10 = .ok (.aload_n 0, 1) := by decide +kernel
theorem d_One_begin_11 : decode prog_5_method_2_code 11 = .ok (.bipush 50, 2) := by decide +kernel
theorem d_One_begin_13 : decode prog_5_method_2_code 13 = .ok (.putfield 18, 3) := by decide +kernel
theorem d_One_begin_16 : decode prog_5_method_2_code 16 = .ok (.aload_n 0, 1) := by decide +kernel
theorem d_One_begin_17 : decode prog_5_method_2_code 17 = .ok (.iconst (-1), 1) := by decide +kernel
theorem d_One_begin_18 : decode prog_5_method_2_code 18 = .ok (.putfield 21, 3) := by decide +kernel
theorem d_One_begin_21 : decode prog_5_method_2_code 21 = .ok (.aload_n 0, 1) := by decide +kernel
theorem d_One_begin_22 : decode prog_5_method_2_code 22 = .ok (.iconst (-1), 1) := by decide +kernel
theorem d_One_begin_23 : decode prog_5_method_2_code 23 = .ok (.putfield 24, 3) := by decide +kernel
theorem d_One_begin_26 : decode prog_5_method_2_code 26 = .ok (.aload_n 0, 1) := by decide +kernel
theorem d_One_begin_27 : decode prog_5_method_2_code 27 = .ok (.iconst 0, 1) := by decide +kernel
theorem d_One_begin_28 : decode prog_5_method_2_code 28 = .ok (.putfield 27, 3) := by decide +kernel
theorem d_One_begin_31 : decode prog_5_method_2_code 31 = .ok (.aload_n 0, 1) := by decide +kernel
theorem d_One_begin_32 : decode prog_5_method_2_code 32 = .ok (.iconst 0, 1) := by decide +kernel
theorem d_One_begin_33 : decode prog_5_method_2_code 33 = .ok (.putfield 30, 3) := by decide +kernel
theorem d_One_begin_36 : decode prog_5_method_2_code 36 = .ok (.return_, 1) := by decide +kernel
theorem d_Kinds_isUnder_0 : decode prog_4_method_2_code 0 = .ok (.iload_n 0, 1) := by decide +kernel
theorem d_Kinds_isUnder_1 : decode prog_4_method_2_code 1 = .ok (.istore_n 2, 1) := by decide +kernel
theorem d_Kinds_isUnder_2 : decode prog_4_method_2_code 2 = .ok (.iconst 0, 1) := by decide +kernel
theorem d_Kinds_isUnder_3 : decode prog_4_method_2_code 3 = .ok (.istore_n 3, 1) := by decide +kernel
theorem d_Kinds_isUnder_4 : decode prog_4_method_2_code 4 = .ok (.iload_n 3, 1) := by decide +kernel
theorem d_Kinds_isUnder_5 : decode prog_4_method_2_code 5 = .ok (.iconst 5, 1) := by decide +kernel
theorem d_Kinds_isUnder_6 : decode prog_4_method_2_code 6 = .ok (.if_icmp .gt 26, 3) := by decide +kernel
theorem d_Kinds_isUnder_9 : decode prog_4_method_2_code 9 = .ok (.iload_n 2, 1) := by decide +kernel
theorem d_Kinds_isUnder_10 : decode prog_4_method_2_code 10 = .ok (.ifCond .lt 22, 3) := by decide +kernel
theorem d_Kinds_isUnder_13 : decode prog_4_method_2_code 13 = .ok (.iload_n 2, 1) := by decide +kernel
theorem d_Kinds_isUnder_14 : decode prog_4_method_2_code 14 = .ok (.iload_n 1, 1) := by decide +kernel
theorem d_Kinds_isUnder_15 : decode prog_4_method_2_code 15 = .ok (.if_icmp .ne 5, 3) := by decide +kernel
theorem d_Kinds_isUnder_18 : decode prog_4_method_2_code 18 = .ok (.iconst 1, 1) := by decide +kernel
theorem d_Kinds_isUnder_19 : decode prog_4_method_2_code 19 = .ok (.ireturn, 1) := by decide +kernel
theorem d_Kinds_isUnder_20 : decode prog_4_method_2_code 20 = .ok (.getstatic 9, 3) := by decide +kernel
theorem d_Kinds_isUnder_23 : decode prog_4_method_2_code 23 = .ok (.iload_n 2, 1) := by decide +kernel
theorem d_Kinds_isUnder_24 : decode prog_4_method_2_code 24 = .ok (.iaload, 1) := by decide +kernel
theorem d_Kinds_isUnder_25 : decode prog_4_method_2_code 25 = .ok (.istore_n 2, 1) := by decide +kernel
theorem d_Kinds_isUnder_26 : decode prog_4_method_2_code 26 = .ok (.iinc 3 1, 3) := by decide +kernel
theorem d_Kinds_isUnder_29 : decode prog_4_method_2_code 29 = .ok (.goto (-25), 3) := by decide +kernel
theorem d_Kinds_isUnder_32 : decode prog_4_method_2_code 32 = .ok (.iconst 0, 1) := by decide +kernel
theorem d_Kinds_isUnder_33 : decode prog_4_method_2_code 33 = .ok (.ireturn, 1) := by decide +kernel
theorem d_Kinds_gain_0 : decode prog_4_method_3_code 0 = .ok (.iload_n 1, 1) := by decide +kernel
theorem d_Kinds_gain_1 : decode prog_4_method_3_code 1 = .ok (.istore_n 3, 1) := by decide +kernel
theorem d_Kinds_gain_2 : decode prog_4_method_3_code 2 = .ok (.iload_n 1, 1) := by decide +kernel
theorem d_Kinds_gain_3 : decode prog_4_method_3_code 3 = .ok (.iconst 2, 1) := by decide +kernel
theorem d_Kinds_gain_4 : decode prog_4_method_3_code 4 = .ok (.idiv, 1) := by decide +kernel
theorem d_Kinds_gain_5 : decode prog_4_method_3_code 5 = .ok (.istore 4, 2) := by decide +kernel
theorem d_Kinds_gain_7 : decode prog_4_method_3_code 7 = .ok (.iload_n 1, 1) := by decide +kernel
theorem d_Kinds_gain_8 : decode prog_4_method_3_code 8 = .ok (.iload_n 1, 1) := by decide +kernel
theorem d_Kinds_gain_9 : decode prog_4_method_3_code 9 = .ok (.iconst 2, 1) := by decide +kernel
theorem d_Kinds_gain_10 : decode prog_4_method_3_code 10 = .ok (.idiv, 1) := by decide +kernel
theorem d_Kinds_gain_11 : decode prog_4_method_3_code 11 = .ok (.iadd, 1) := by decide +kernel
theorem d_Kinds_gain_12 : decode prog_4_method_3_code 12 = .ok (.istore 5, 2) := by decide +kernel
theorem d_Kinds_gain_14 : decode prog_4_method_3_code 14 = .ok (.iload 4, 2) := by decide +kernel
theorem d_Kinds_gain_16 : decode prog_4_method_3_code 16 = .ok (.iconst 3, 1) := by decide +kernel
theorem d_Kinds_gain_17 : decode prog_4_method_3_code 17 = .ok (.iadd, 1) := by decide +kernel
theorem d_Kinds_gain_18 : decode prog_4_method_3_code 18 = .ok (.istore 6, 2) := by decide +kernel
theorem d_Kinds_gain_20 : decode prog_4_method_3_code 20 = .ok (.iload_n 2, 1) := by decide +kernel
theorem d_Kinds_gain_21 : decode prog_4_method_3_code 21 = .ok (.ifCond .eq 30, 3) := by decide +kernel
theorem d_Kinds_gain_24 : decode prog_4_method_3_code 24 = .ok (.iload_n 1, 1) := by decide +kernel
theorem d_Kinds_gain_25 : decode prog_4_method_3_code 25 = .ok (.ifCond .le 9, 3) := by decide +kernel
theorem d_Kinds_gain_28 : decode prog_4_method_3_code 28 = .ok (.iconst 2, 1) := by decide +kernel
theorem d_Kinds_gain_29 : decode prog_4_method_3_code 29 = .ok (.iload_n 1, 1) := by decide +kernel
theorem d_Kinds_gain_30 : decode prog_4_method_3_code 30 = .ok (.imul, 1) := by decide +kernel
theorem d_Kinds_gain_31 : decode prog_4_method_3_code 31 = .ok (.goto 4, 3) := by decide +kernel
theorem d_Kinds_gain_34 : decode prog_4_method_3_code 34 = .ok (.iconst 0, 1) := by decide +kernel
theorem d_Kinds_gain_35 : decode prog_4_method_3_code 35 = .ok (.istore_n 3, 1) := by decide +kernel
theorem d_Kinds_gain_36 : decode prog_4_method_3_code 36 = .ok (.iload_n 3, 1) := by decide +kernel
theorem d_Kinds_gain_37 : decode prog_4_method_3_code 37 = .ok (.iconst 1, 1) := by decide +kernel
theorem d_Kinds_gain_38 : decode prog_4_method_3_code 38 = .ok (.isub, 1) := by decide +kernel
theorem d_Kinds_gain_39 : decode prog_4_method_3_code 39 = .ok (.istore 4, 2) := by decide +kernel
theorem d_Kinds_gain_41 : decode prog_4_method_3_code 41 = .ok (.iload_n 3, 1) := by decide +kernel
theorem d_Kinds_gain_42 : decode prog_4_method_3_code 42 = .ok (.istore 5, 2) := by decide +kernel
theorem d_Kinds_gain_44 : decode prog_4_method_3_code 44 = .ok (.iload 4, 2) := by decide +kernel
theorem d_Kinds_gain_46 : decode prog_4_method_3_code 46 = .ok (.bipush 10, 2) := by decide +kernel
theorem d_Kinds_gain_48 : decode prog_4_method_3_code 48 = .ok (.iadd, 1) := by decide +kernel
theorem d_Kinds_gain_49 : decode prog_4_method_3_code 49 = .ok (.istore 6, 2) := by decide +kernel
theorem d_Kinds_gain_51 : decode prog_4_method_3_code 51 = .ok (.iload_n 0, 1) := by decide +kernel
theorem d_Kinds_gain_52 : decode prog_4_method_3_code 52 = .ok (.tableswitch 45 1 5 #[36, 39, 45, 45, 42], 36) := by decide +kernel
theorem d_Kinds_gain_88 : decode prog_4_method_3_code 88 = .ok (.iload 5, 2) := by decide +kernel
theorem d_Kinds_gain_90 : decode prog_4_method_3_code 90 = .ok (.ireturn, 1) := by decide +kernel
theorem d_Kinds_gain_91 : decode prog_4_method_3_code 91 = .ok (.iload 4, 2) := by decide +kernel
theorem d_Kinds_gain_93 : decode prog_4_method_3_code 93 = .ok (.ireturn, 1) := by decide +kernel
theorem d_Kinds_gain_94 : decode prog_4_method_3_code 94 = .ok (.iload 6, 2) := by decide +kernel
theorem d_Kinds_gain_96 : decode prog_4_method_3_code 96 = .ok (.ireturn, 1) := by decide +kernel
theorem d_Kinds_gain_97 : decode prog_4_method_3_code 97 = .ok (.iload_n 3, 1) := by decide +kernel
theorem d_Kinds_gain_98 : decode prog_4_method_3_code 98 = .ok (.ireturn, 1) := by decide +kernel
theorem d_One_canPay_0 : decode prog_5_method_5_code 0 = .ok (.aload_n 0, 1) := by decide +kernel
theorem d_One_canPay_1 : decode prog_5_method_5_code 1 = .ok (.getfield 18, 3) := by decide +kernel
theorem d_One_canPay_4 : decode prog_5_method_5_code 4 = .ok (.iload_n 1, 1) := by decide +kernel
theorem d_One_canPay_5 : decode prog_5_method_5_code 5 = .ok (.if_icmp .lt 7, 3) := by decide +kernel
theorem d_One_canPay_8 : decode prog_5_method_5_code 8 = .ok (.iconst 1, 1) := by decide +kernel
theorem d_One_canPay_9 : decode prog_5_method_5_code 9 = .ok (.goto 4, 3) := by decide +kernel
theorem d_One_canPay_12 : decode prog_5_method_5_code 12 = .ok (.iconst 0, 1) := by decide +kernel
theorem d_One_canPay_13 : decode prog_5_method_5_code 13 = .ok (.ireturn, 1) := by decide +kernel
theorem d_One_goOver_0 : decode prog_5_method_6_code 0 = .ok (.aload_n 0, 1) := by decide +kernel
theorem d_One_goOver_1 : decode prog_5_method_6_code 1 = .ok (.dup, 1) := by decide +kernel
theorem d_One_goOver_2 : decode prog_5_method_6_code 2 = .ok (.getfield 18, 3) := by decide +kernel
theorem d_One_goOver_5 : decode prog_5_method_6_code 5 = .ok (.iload_n 1, 1) := by decide +kernel
theorem d_One_goOver_6 : decode prog_5_method_6_code 6 = .ok (.isub, 1) := by decide +kernel
theorem d_One_goOver_7 : decode prog_5_method_6_code 7 = .ok (.putfield 18, 3) := by decide +kernel
theorem d_One_goOver_10 : decode prog_5_method_6_code 10 = .ok (.aload_n 0, 1) := by decide +kernel
theorem d_One_goOver_11 : decode prog_5_method_6_code 11 = .ok (.aload_n 0, 1) := by decide +kernel
theorem d_One_goOver_12 : decode prog_5_method_6_code 12 = .ok (.getfield 15, 3) := by decide +kernel
theorem d_One_goOver_15 : decode prog_5_method_6_code 15 = .ok (.ifCond .ne 7, 3) := by decide +kernel
theorem d_One_goOver_18 : decode prog_5_method_6_code 18 = .ok (.iconst 1, 1) := by decide +kernel
theorem d_One_goOver_19 : decode prog_5_method_6_code 19 = .ok (.goto 4, 3) := by decide +kernel
theorem d_One_goOver_22 : decode prog_5_method_6_code 22 = .ok (.iconst 0, 1) := by decide +kernel
theorem d_One_goOver_23 : decode prog_5_method_6_code 23 = .ok (.putfield 15, 3) := by decide +kernel
theorem d_One_goOver_26 : decode prog_5_method_6_code 26 = .ok (.aload_n 0, 1) := by decide +kernel
theorem d_One_goOver_27 : decode prog_5_method_6_code 27 = .ok (.dup, 1) := by decide +kernel
theorem d_One_goOver_28 : decode prog_5_method_6_code 28 = .ok (.getfield 27, 3) := by decide +kernel
theorem d_One_goOver_31 : decode prog_5_method_6_code 31 = .ok (.iconst 1, 1) := by decide +kernel
theorem d_One_goOver_32 : decode prog_5_method_6_code 32 = .ok (.iadd, 1) := by decide +kernel
theorem d_One_goOver_33 : decode prog_5_method_6_code 33 = .ok (.putfield 27, 3) := by decide +kernel
theorem d_One_goOver_36 : decode prog_5_method_6_code 36 = .ok (.return_, 1) := by decide +kernel
theorem d_Int_bitCount_0 : decode prog_11_method_49_code 0 = .ok (.iload_n 0, 1) := by decide +kernel
theorem d_Int_bitCount_1 : decode prog_11_method_49_code 1 = .ok (.iload_n 0, 1) := by decide +kernel
theorem d_Int_bitCount_2 : decode prog_11_method_49_code 2 = .ok (.iconst 1, 1) := by decide +kernel
theorem d_Int_bitCount_3 : decode prog_11_method_49_code 3 = .ok (.iushr, 1) := by decide +kernel
theorem d_Int_bitCount_4 : decode prog_11_method_49_code 4 = .ok (.ldc_w 265, 3) := by decide +kernel
theorem d_Int_bitCount_7 : decode prog_11_method_49_code 7 = .ok (.iand, 1) := by decide +kernel
theorem d_Int_bitCount_8 : decode prog_11_method_49_code 8 = .ok (.isub, 1) := by decide +kernel
theorem d_Int_bitCount_9 : decode prog_11_method_49_code 9 = .ok (.istore_n 0, 1) := by decide +kernel
theorem d_Int_bitCount_10 : decode prog_11_method_49_code 10 = .ok (.iload_n 0, 1) := by decide +kernel
theorem d_Int_bitCount_11 : decode prog_11_method_49_code 11 = .ok (.ldc_w 266, 3) := by decide +kernel
theorem d_Int_bitCount_14 : decode prog_11_method_49_code 14 = .ok (.iand, 1) := by decide +kernel
theorem d_Int_bitCount_15 : decode prog_11_method_49_code 15 = .ok (.iload_n 0, 1) := by decide +kernel
theorem d_Int_bitCount_16 : decode prog_11_method_49_code 16 = .ok (.iconst 2, 1) := by decide +kernel
theorem d_Int_bitCount_17 : decode prog_11_method_49_code 17 = .ok (.iushr, 1) := by decide +kernel
theorem d_Int_bitCount_18 : decode prog_11_method_49_code 18 = .ok (.ldc_w 266, 3) := by decide +kernel
theorem d_Int_bitCount_21 : decode prog_11_method_49_code 21 = .ok (.iand, 1) := by decide +kernel
theorem d_Int_bitCount_22 : decode prog_11_method_49_code 22 = .ok (.iadd, 1) := by decide +kernel
theorem d_Int_bitCount_23 : decode prog_11_method_49_code 23 = .ok (.istore_n 0, 1) := by decide +kernel
theorem d_Int_bitCount_24 : decode prog_11_method_49_code 24 = .ok (.iload_n 0, 1) := by decide +kernel
theorem d_Int_bitCount_25 : decode prog_11_method_49_code 25 = .ok (.iload_n 0, 1) := by decide +kernel
theorem d_Int_bitCount_26 : decode prog_11_method_49_code 26 = .ok (.iconst 4, 1) := by decide +kernel
theorem d_Int_bitCount_27 : decode prog_11_method_49_code 27 = .ok (.iushr, 1) := by decide +kernel
theorem d_Int_bitCount_28 : decode prog_11_method_49_code 28 = .ok (.iadd, 1) := by decide +kernel
theorem d_Int_bitCount_29 : decode prog_11_method_49_code 29 = .ok (.ldc_w 267, 3) := by decide +kernel
theorem d_Int_bitCount_32 : decode prog_11_method_49_code 32 = .ok (.iand, 1) := by decide +kernel
theorem d_Int_bitCount_33 : decode prog_11_method_49_code 33 = .ok (.istore_n 0, 1) := by decide +kernel
theorem d_Int_bitCount_34 : decode prog_11_method_49_code 34 = .ok (.iload_n 0, 1) := by decide +kernel
theorem d_Int_bitCount_35 : decode prog_11_method_49_code 35 = .ok (.iload_n 0, 1) := by decide +kernel
theorem d_Int_bitCount_36 : decode prog_11_method_49_code 36 = .ok (.bipush 8, 2) := by decide +kernel
theorem d_Int_bitCount_38 : decode prog_11_method_49_code 38 = .ok (.iushr, 1) := by decide +kernel
theorem d_Int_bitCount_39 : decode prog_11_method_49_code 39 = .ok (.iadd, 1) := by decide +kernel
theorem d_Int_bitCount_40 : decode prog_11_method_49_code 40 = .ok (.istore_n 0, 1) := by decide +kernel
theorem d_Int_bitCount_41 : decode prog_11_method_49_code 41 = .ok (.iload_n 0, 1) := by decide +kernel
theorem d_Int_bitCount_42 : decode prog_11_method_49_code 42 = .ok (.iload_n 0, 1) := by decide +kernel
theorem d_Int_bitCount_43 : decode prog_11_method_49_code 43 = .ok (.bipush 16, 2) := by decide +kernel
theorem d_Int_bitCount_45 : decode prog_11_method_49_code 45 = .ok (.iushr, 1) := by decide +kernel
theorem d_Int_bitCount_46 : decode prog_11_method_49_code 46 = .ok (.iadd, 1) := by decide +kernel
theorem d_Int_bitCount_47 : decode prog_11_method_49_code 47 = .ok (.istore_n 0, 1) := by decide +kernel
theorem d_Int_bitCount_48 : decode prog_11_method_49_code 48 = .ok (.iload_n 0, 1) := by decide +kernel
theorem d_Int_bitCount_49 : decode prog_11_method_49_code 49 = .ok (.bipush 63, 2) := by decide +kernel
theorem d_Int_bitCount_51 : decode prog_11_method_49_code 51 = .ok (.iand, 1) := by decide +kernel
theorem d_Int_bitCount_52 : decode prog_11_method_49_code 52 = .ok (.ireturn, 1) := by decide +kernel
theorem d_River_passHours_0 : decode prog_6_method_8_code 0 = .ok (.iconst 0, 1) := by decide +kernel
theorem d_River_passHours_1 : decode prog_6_method_8_code 1 = .ok (.istore_n 2, 1) := by decide +kernel
theorem d_River_passHours_2 : decode prog_6_method_8_code 2 = .ok (.iload_n 2, 1) := by decide +kernel
theorem d_River_passHours_3 : decode prog_6_method_8_code 3 = .ok (.iload_n 1, 1) := by decide +kernel
theorem d_River_passHours_4 : decode prog_6_method_8_code 4 = .ok (.if_icmp .ge 13, 3) := by decide +kernel
theorem d_River_passHours_7 : decode prog_6_method_8_code 7 = .ok (.aload_n 0, 1) := by decide +kernel
theorem d_River_passHours_8 : decode prog_6_method_8_code 8 = .ok (.invokevirtual 50, 3) := by decide +kernel
theorem d_River_passHours_11 : decode prog_6_method_8_code 11 = .ok (.iinc 2 1, 3) := by decide +kernel
theorem d_River_passHours_14 : decode prog_6_method_8_code 14 = .ok (.goto (-12), 3) := by decide +kernel
theorem d_River_passHours_17 : decode prog_6_method_8_code 17 = .ok (.return_, 1) := by decide +kernel
theorem d_River_passHour_0 : decode prog_6_method_9_code 0 = .ok (.aload_n 0, 1) := by decide +kernel
theorem d_River_passHour_1 : decode prog_6_method_9_code 1 = .ok (.aload_n 0, 1) := by decide +kernel
theorem d_River_passHour_2 : decode prog_6_method_9_code 2 = .ok (.getfield 9, 3) := by decide +kernel
theorem d_River_passHour_5 : decode prog_6_method_9_code 5 = .ok (.bipush 24, 2) := by decide +kernel
theorem d_River_passHour_7 : decode prog_6_method_9_code 7 = .ok (.irem, 1) := by decide +kernel
theorem d_River_passHour_8 : decode prog_6_method_9_code 8 = .ok (.invokevirtual 53, 3) := by decide +kernel
theorem d_River_passHour_11 : decode prog_6_method_9_code 11 = .ok (.aload_n 0, 1) := by decide +kernel
theorem d_River_passHour_12 : decode prog_6_method_9_code 12 = .ok (.iconst 0, 1) := by decide +kernel
theorem d_River_passHour_13 : decode prog_6_method_9_code 13 = .ok (.invokevirtual 57, 3) := by decide +kernel
theorem d_River_passHour_16 : decode prog_6_method_9_code 16 = .ok (.aload_n 0, 1) := by decide +kernel
theorem d_River_passHour_17 : decode prog_6_method_9_code 17 = .ok (.iconst 1, 1) := by decide +kernel
theorem d_River_passHour_18 : decode prog_6_method_9_code 18 = .ok (.invokevirtual 57, 3) := by decide +kernel
theorem d_River_passHour_21 : decode prog_6_method_9_code 21 = .ok (.aload_n 0, 1) := by decide +kernel
theorem d_River_passHour_22 : decode prog_6_method_9_code 22 = .ok (.invokevirtual 60, 3) := by decide +kernel
theorem d_River_passHour_25 : decode prog_6_method_9_code 25 = .ok (.iconst 0, 1) := by decide +kernel
theorem d_River_passHour_26 : decode prog_6_method_9_code 26 = .ok (.istore_n 1, 1) := by decide +kernel
theorem d_River_passHour_27 : decode prog_6_method_9_code 27 = .ok (.iload_n 1, 1) := by decide +kernel
theorem d_River_passHour_28 : decode prog_6_method_9_code 28 = .ok (.aload_n 0, 1) := by decide +kernel
theorem d_River_passHour_29 : decode prog_6_method_9_code 29 = .ok (.getfield 21, 3) := by decide +kernel
theorem d_River_passHour_32 : decode prog_6_method_9_code 32 = .ok (.if_icmp .ge 71, 3) := by decide +kernel
theorem d_River_passHour_35 : decode prog_6_method_9_code 35 = .ok (.aload_n 0, 1) := by decide +kernel
theorem d_River_passHour_36 : decode prog_6_method_9_code 36 = .ok (.getfield 33, 3) := by decide +kernel
theorem d_River_passHour_39 : decode prog_6_method_9_code 39 = .ok (.iload_n 1, 1) := by decide +kernel
theorem d_River_passHour_40 : decode prog_6_method_9_code 40 = .ok (.aaload, 1) := by decide +kernel
theorem d_River_passHour_41 : decode prog_6_method_9_code 41 = .ok (.getfield 63, 3) := by decide +kernel
theorem d_River_passHour_44 : decode prog_6_method_9_code 44 = .ok (.aload_n 0, 1) := by decide +kernel
theorem d_River_passHour_45 : decode prog_6_method_9_code 45 = .ok (.getfield 9, 3) := by decide +kernel
theorem d_River_passHour_48 : decode prog_6_method_9_code 48 = .ok (.if_icmp .ne 12, 3) := by decide +kernel
theorem d_River_passHour_51 : decode prog_6_method_9_code 51 = .ok (.aload_n 0, 1) := by decide +kernel
theorem d_River_passHour_52 : decode prog_6_method_9_code 52 = .ok (.iload_n 1, 1) := by decide +kernel
theorem d_River_passHour_53 : decode prog_6_method_9_code 53 = .ok (.iconst 0, 1) := by decide +kernel
theorem d_River_passHour_54 : decode prog_6_method_9_code 54 = .ok (.invokevirtual 64, 3) := by decide +kernel
theorem d_River_passHour_57 : decode prog_6_method_9_code 57 = .ok (.goto 40, 3) := by decide +kernel
theorem d_River_passHour_60 : decode prog_6_method_9_code 60 = .ok (.aload_n 0, 1) := by decide +kernel
theorem d_River_passHour_61 : decode prog_6_method_9_code 61 = .ok (.getfield 33, 3) := by decide +kernel
theorem d_River_passHour_64 : decode prog_6_method_9_code 64 = .ok (.iload_n 1, 1) := by decide +kernel
theorem d_River_passHour_65 : decode prog_6_method_9_code 65 = .ok (.aaload, 1) := by decide +kernel
theorem d_River_passHour_66 : decode prog_6_method_9_code 66 = .ok (.getfield 63, 3) := by decide +kernel
theorem d_River_passHour_69 : decode prog_6_method_9_code 69 = .ok (.bipush 24, 2) := by decide +kernel
theorem d_River_passHour_71 : decode prog_6_method_9_code 71 = .ok (.iadd, 1) := by decide +kernel
theorem d_River_passHour_72 : decode prog_6_method_9_code 72 = .ok (.aload_n 0, 1) := by decide +kernel
theorem d_River_passHour_73 : decode prog_6_method_9_code 73 = .ok (.getfield 9, 3) := by decide +kernel
theorem d_River_passHour_76 : decode prog_6_method_9_code 76 = .ok (.if_icmp .ne 21, 3) := by decide +kernel
theorem d_River_passHour_79 : decode prog_6_method_9_code 79 = .ok (.aload_n 0, 1) := by decide +kernel
theorem d_River_passHour_80 : decode prog_6_method_9_code 80 = .ok (.getfield 33, 3) := by decide +kernel
theorem d_River_passHour_83 : decode prog_6_method_9_code 83 = .ok (.iload_n 1, 1) := by decide +kernel
theorem d_River_passHour_84 : decode prog_6_method_9_code 84 = .ok (.aaload, 1) := by decide +kernel
theorem d_River_passHour_85 : decode prog_6_method_9_code 85 = .ok (.getfield 67, 3) := by decide +kernel
theorem d_River_passHour_88 : decode prog_6_method_9_code 88 = .ok (.ifCond .ne 9, 3) := by decide +kernel
theorem d_River_passHour_91 : decode prog_6_method_9_code 91 = .ok (.aload_n 0, 1) := by decide +kernel
theorem d_River_passHour_92 : decode prog_6_method_9_code 92 = .ok (.iload_n 1, 1) := by decide +kernel
theorem d_River_passHour_93 : decode prog_6_method_9_code 93 = .ok (.iconst 1, 1) := by decide +kernel
theorem d_River_passHour_94 : decode prog_6_method_9_code 94 = .ok (.invokevirtual 64, 3) := by decide +kernel
theorem d_River_passHour_97 : decode prog_6_method_9_code 97 = .ok (.iinc 1 1, 3) := by decide +kernel
theorem d_River_passHour_100 : decode prog_6_method_9_code 100 = .ok (.goto (-73), 3) := by decide +kernel
theorem d_River_passHour_103 : decode prog_6_method_9_code 103 = .ok (.aload_n 0, 1) := by decide +kernel
theorem d_River_passHour_104 : decode prog_6_method_9_code 104 = .ok (.dup, 1) := by decide +kernel
theorem d_River_passHour_105 : decode prog_6_method_9_code 105 = .ok (.getfield 9, 3) := by decide +kernel
theorem d_River_passHour_108 : decode prog_6_method_9_code 108 = .ok (.iconst 1, 1) := by decide +kernel
theorem d_River_passHour_109 : decode prog_6_method_9_code 109 = .ok (.iadd, 1) := by decide +kernel
theorem d_River_passHour_110 : decode prog_6_method_9_code 110 = .ok (.putfield 9, 3) := by decide +kernel
theorem d_River_passHour_113 : decode prog_6_method_9_code 113 = .ok (.return_, 1) := by decide +kernel
theorem d_River_letCross_0 : decode prog_6_method_10_code 0 = .ok (.iconst 0, 1) := by decide +kernel
theorem d_River_letCross_1 : decode prog_6_method_10_code 1 = .ok (.istore_n 2, 1) := by decide +kernel
theorem d_River_letCross_2 : decode prog_6_method_10_code 2 = .ok (.iload_n 2, 1) := by decide +kernel
theorem d_River_letCross_3 : decode prog_6_method_10_code 3 = .ok (.aload_n 0, 1) := by decide +kernel
theorem d_River_letCross_4 : decode prog_6_method_10_code 4 = .ok (.getfield 18, 3) := by decide +kernel
theorem d_River_letCross_7 : decode prog_6_method_10_code 7 = .ok (.if_icmp .ge 51, 3) := by decide +kernel
theorem d_River_letCross_10 : decode prog_6_method_10_code 10 = .ok (.aload_n 0, 1) := by decide +kernel
theorem d_River_letCross_11 : decode prog_6_method_10_code 11 = .ok (.getfield 26, 3) := by decide +kernel
theorem d_River_letCross_14 : decode prog_6_method_10_code 14 = .ok (.iload_n 2, 1) := by decide +kernel
theorem d_River_letCross_15 : decode prog_6_method_10_code 15 = .ok (.aaload, 1) := by decide +kernel
theorem d_River_letCross_16 : decode prog_6_method_10_code 16 = .ok (.iload_n 1, 1) := by decide +kernel
theorem d_River_letCross_17 : decode prog_6_method_10_code 17 = .ok (.invokevirtual 71, 3) := by decide +kernel
theorem d_River_letCross_20 : decode prog_6_method_10_code 20 = .ok (.ifCond .eq 32, 3) := by decide +kernel
theorem d_River_letCross_23 : decode prog_6_method_10_code 23 = .ok (.aload_n 0, 1) := by decide +kernel
theorem d_River_letCross_24 : decode prog_6_method_10_code 24 = .ok (.getfield 26, 3) := by decide +kernel
theorem d_River_letCross_27 : decode prog_6_method_10_code 27 = .ok (.iload_n 2, 1) := by decide +kernel
theorem d_River_letCross_28 : decode prog_6_method_10_code 28 = .ok (.aaload, 1) := by decide +kernel
theorem d_River_letCross_29 : decode prog_6_method_10_code 29 = .ok (.aload_n 0, 1) := by decide +kernel
theorem d_River_letCross_30 : decode prog_6_method_10_code 30 = .ok (.getfield 15, 3) := by decide +kernel
theorem d_River_letCross_33 : decode prog_6_method_10_code 33 = .ok (.invokevirtual 75, 3) := by decide +kernel
theorem d_River_letCross_36 : decode prog_6_method_10_code 36 = .ok (.ifCond .eq 16, 3) := by decide +kernel
theorem d_River_letCross_39 : decode prog_6_method_10_code 39 = .ok (.aload_n 0, 1) := by decide +kernel
theorem d_River_letCross_40 : decode prog_6_method_10_code 40 = .ok (.getfield 26, 3) := by decide +kernel
theorem d_River_letCross_43 : decode prog_6_method_10_code 43 = .ok (.iload_n 2, 1) := by decide +kernel
theorem d_River_letCross_44 : decode prog_6_method_10_code 44 = .ok (.aaload, 1) := by decide +kernel
theorem d_River_letCross_45 : decode prog_6_method_10_code 45 = .ok (.aload_n 0, 1) := by decide +kernel
theorem d_River_letCross_46 : decode prog_6_method_10_code 46 = .ok (.getfield 15, 3) := by decide +kernel
theorem d_River_letCross_49 : decode prog_6_method_10_code 49 = .ok (.invokevirtual 78, 3) := by decide +kernel
theorem d_River_letCross_52 : decode prog_6_method_10_code 52 = .ok (.iinc 2 1, 3) := by decide +kernel
theorem d_River_letCross_55 : decode prog_6_method_10_code 55 = .ok (.goto (-53), 3) := by decide +kernel
theorem d_River_letCross_58 : decode prog_6_method_10_code 58 = .ok (.return_, 1) := by decide +kernel
theorem d_One_wantsOver_0 : decode prog_5_method_4_code 0 = .ok (.aload_n 0, 1) := by decide +kernel
theorem d_One_wantsOver_1 : decode prog_5_method_4_code 1 = .ok (.getfield 15, 3) := by decide +kernel
theorem d_One_wantsOver_4 : decode prog_5_method_4_code 4 = .ok (.ifCond .ne 10, 3) := by decide +kernel
theorem d_One_wantsOver_7 : decode prog_5_method_4_code 7 = .ok (.aload_n 0, 1) := by decide +kernel
theorem d_One_wantsOver_8 : decode prog_5_method_4_code 8 = .ok (.getfield 21, 3) := by decide +kernel
theorem d_One_wantsOver_11 : decode prog_5_method_4_code 11 = .ok (.goto 7, 3) := by decide +kernel
theorem d_One_wantsOver_14 : decode prog_5_method_4_code 14 = .ok (.aload_n 0, 1) := by decide +kernel
theorem d_One_wantsOver_15 : decode prog_5_method_4_code 15 = .ok (.getfield 24, 3) := by decide +kernel
theorem d_One_wantsOver_18 : decode prog_5_method_4_code 18 = .ok (.iload_n 1, 1) := by decide +kernel
theorem d_One_wantsOver_19 : decode prog_5_method_4_code 19 = .ok (.if_icmp .ne 7, 3) := by decide +kernel
theorem d_One_wantsOver_22 : decode prog_5_method_4_code 22 = .ok (.iconst 1, 1) := by decide +kernel
theorem d_One_wantsOver_23 : decode prog_5_method_4_code 23 = .ok (.goto 4, 3) := by decide +kernel
theorem d_One_wantsOver_26 : decode prog_5_method_4_code 26 = .ok (.iconst 0, 1) := by decide +kernel
theorem d_One_wantsOver_27 : decode prog_5_method_4_code 27 = .ok (.ireturn, 1) := by decide +kernel
theorem d_River_spread_0 : decode prog_6_method_11_code 0 = .ok (.iconst 0, 1) := by decide +kernel
theorem d_River_spread_1 : decode prog_6_method_11_code 1 = .ok (.istore_n 2, 1) := by decide +kernel
theorem d_River_spread_2 : decode prog_6_method_11_code 2 = .ok (.iconst 0, 1) := by decide +kernel
theorem d_River_spread_3 : decode prog_6_method_11_code 3 = .ok (.istore_n 3, 1) := by decide +kernel
theorem d_River_spread_4 : decode prog_6_method_11_code 4 = .ok (.iload_n 3, 1) := by decide +kernel
theorem d_River_spread_5 : decode prog_6_method_11_code 5 = .ok (.aload_n 0, 1) := by decide +kernel
theorem d_River_spread_6 : decode prog_6_method_11_code 6 = .ok (.getfield 18, 3) := by decide +kernel
theorem d_River_spread_9 : decode prog_6_method_11_code 9 = .ok (.if_icmp .ge 46, 3) := by decide +kernel
theorem d_River_spread_12 : decode prog_6_method_11_code 12 = .ok (.aload_n 0, 1) := by decide +kernel
theorem d_River_spread_13 : decode prog_6_method_11_code 13 = .ok (.getfield 26, 3) := by decide +kernel
theorem d_River_spread_16 : decode prog_6_method_11_code 16 = .ok (.iload_n 3, 1) := by decide +kernel
theorem d_River_spread_17 : decode prog_6_method_11_code 17 = .ok (.aaload, 1) := by decide +kernel
theorem d_River_spread_18 : decode prog_6_method_11_code 18 = .ok (.getfield 81, 3) := by decide +kernel
theorem d_River_spread_21 : decode prog_6_method_11_code 21 = .ok (.iload_n 1, 1) := by decide +kernel
theorem d_River_spread_22 : decode prog_6_method_11_code 22 = .ok (.if_icmp .ne 27, 3) := by decide +kernel
theorem d_River_spread_25 : decode prog_6_method_11_code 25 = .ok (.aload_n 0, 1) := by decide +kernel
theorem d_River_spread_26 : decode prog_6_method_11_code 26 = .ok (.getfield 26, 3) := by decide +kernel
theorem d_River_spread_29 : decode prog_6_method_11_code 29 = .ok (.iload_n 3, 1) := by decide +kernel
theorem d_River_spread_30 : decode prog_6_method_11_code 30 = .ok (.aaload, 1) := by decide +kernel
theorem d_River_spread_31 : decode prog_6_method_11_code 31 = .ok (.invokevirtual 84, 3) := by decide +kernel
theorem d_River_spread_34 : decode prog_6_method_11_code 34 = .ok (.ifCond .eq 15, 3) := by decide +kernel
theorem d_River_spread_37 : decode prog_6_method_11_code 37 = .ok (.iload_n 2, 1) := by decide +kernel
theorem d_River_spread_38 : decode prog_6_method_11_code 38 = .ok (.aload_n 0, 1) := by decide +kernel
theorem d_River_spread_39 : decode prog_6_method_11_code 39 = .ok (.getfield 26, 3) := by decide +kernel
theorem d_River_spread_42 : decode prog_6_method_11_code 42 = .ok (.iload_n 3, 1) := by decide +kernel
theorem d_River_spread_43 : decode prog_6_method_11_code 43 = .ok (.aaload, 1) := by decide +kernel
theorem d_River_spread_44 : decode prog_6_method_11_code 44 = .ok (.getfield 88, 3) := by decide +kernel
theorem d_River_spread_47 : decode prog_6_method_11_code 47 = .ok (.ior, 1) := by decide +kernel
theorem d_River_spread_48 : decode prog_6_method_11_code 48 = .ok (.istore_n 2, 1) := by decide +kernel
theorem d_River_spread_49 : decode prog_6_method_11_code 49 = .ok (.iinc 3 1, 3) := by decide +kernel
theorem d_River_spread_52 : decode prog_6_method_11_code 52 = .ok (.goto (-48), 3) := by decide +kernel
theorem d_River_spread_55 : decode prog_6_method_11_code 55 = .ok (.iload_n 2, 1) := by decide +kernel
theorem d_River_spread_56 : decode prog_6_method_11_code 56 = .ok (.ifCond .ne 4, 3) := by decide +kernel
theorem d_River_spread_59 : decode prog_6_method_11_code 59 = .ok (.return_, 1) := by decide +kernel
theorem d_River_spread_60 : decode prog_6_method_11_code 60 = .ok (.iconst 0, 1) := by decide +kernel
theorem d_River_spread_61 : decode prog_6_method_11_code 61 = .ok (.istore_n 3, 1) := by decide +kernel
theorem d_River_spread_62 : decode prog_6_method_11_code 62 = .ok (.iload_n 3, 1) := by decide +kernel
theorem d_River_spread_63 : decode prog_6_method_11_code 63 = .ok (.aload_n 0, 1) := by decide +kernel
theorem d_River_spread_64 : decode prog_6_method_11_code 64 = .ok (.getfield 18, 3) := by decide +kernel
theorem d_River_spread_67 : decode prog_6_method_11_code 67 = .ok (.if_icmp .ge 32, 3) := by decide +kernel
theorem d_River_spread_70 : decode prog_6_method_11_code 70 = .ok (.aload_n 0, 1) := by decide +kernel
theorem d_River_spread_71 : decode prog_6_method_11_code 71 = .ok (.getfield 26, 3) := by decide +kernel
theorem d_River_spread_74 : decode prog_6_method_11_code 74 = .ok (.iload_n 3, 1) := by decide +kernel
theorem d_River_spread_75 : decode prog_6_method_11_code 75 = .ok (.aaload, 1) := by decide +kernel
theorem d_River_spread_76 : decode prog_6_method_11_code 76 = .ok (.getfield 81, 3) := by decide +kernel
theorem d_River_spread_79 : decode prog_6_method_11_code 79 = .ok (.iload_n 1, 1) := by decide +kernel
theorem d_River_spread_80 : decode prog_6_method_11_code 80 = .ok (.if_icmp .ne 13, 3) := by decide +kernel
theorem d_River_spread_83 : decode prog_6_method_11_code 83 = .ok (.aload_n 0, 1) := by decide +kernel
theorem d_River_spread_84 : decode prog_6_method_11_code 84 = .ok (.getfield 26, 3) := by decide +kernel
theorem d_River_spread_87 : decode prog_6_method_11_code 87 = .ok (.iload_n 3, 1) := by decide +kernel
theorem d_River_spread_88 : decode prog_6_method_11_code 88 = .ok (.aaload, 1) := by decide +kernel
theorem d_River_spread_89 : decode prog_6_method_11_code 89 = .ok (.iload_n 2, 1) := by decide +kernel
theorem d_River_spread_90 : decode prog_6_method_11_code 90 = .ok (.invokevirtual 91, 3) := by decide +kernel
theorem d_River_spread_93 : decode prog_6_method_11_code 93 = .ok (.iinc 3 1, 3) := by decide +kernel
theorem d_River_spread_96 : decode prog_6_method_11_code 96 = .ok (.goto (-34), 3) := by decide +kernel
theorem d_River_spread_99 : decode prog_6_method_11_code 99 = .ok (.return_, 1) := by decide +kernel
theorem d_One_isTeller_0 : decode prog_5_method_9_code 0 = .ok (.aload_n 0, 1) := by decide +kernel
theorem d_One_isTeller_1 : decode prog_5_method_9_code 1 = .ok (.getfield 9, 3) := by decide +kernel
theorem d_One_isTeller_4 : decode prog_5_method_9_code 4 = .ok (.iconst 3, 1) := by decide +kernel
theorem d_One_isTeller_5 : decode prog_5_method_9_code 5 = .ok (.if_icmp .eq 11, 3) := by decide +kernel
theorem d_One_isTeller_8 : decode prog_5_method_9_code 8 = .ok (.aload_n 0, 1) := by decide +kernel
theorem d_One_isTeller_9 : decode prog_5_method_9_code 9 = .ok (.getfield 9, 3) := by decide +kernel
theorem d_One_isTeller_12 : decode prog_5_method_9_code 12 = .ok (.iconst 4, 1) := by decide +kernel
theorem d_One_isTeller_13 : decode prog_5_method_9_code 13 = .ok (.if_icmp .ne 7, 3) := by decide +kernel
theorem d_One_isTeller_16 : decode prog_5_method_9_code 16 = .ok (.iconst 1, 1) := by decide +kernel
theorem d_One_isTeller_17 : decode prog_5_method_9_code 17 = .ok (.goto 4, 3) := by decide +kernel
theorem d_One_isTeller_20 : decode prog_5_method_9_code 20 = .ok (.iconst 0, 1) := by decide +kernel
theorem d_One_isTeller_21 : decode prog_5_method_9_code 21 = .ok (.ireturn, 1) := by decide +kernel
theorem d_One_hear_0 : decode prog_5_method_8_code 0 = .ok (.aload_n 0, 1) := by decide +kernel
theorem d_One_hear_1 : decode prog_5_method_8_code 1 = .ok (.dup, 1) := by decide +kernel
theorem d_One_hear_2 : decode prog_5_method_8_code 2 = .ok (.getfield 30, 3) := by decide +kernel
theorem d_One_hear_5 : decode prog_5_method_8_code 5 = .ok (.iload_n 1, 1) := by decide +kernel
theorem d_One_hear_6 : decode prog_5_method_8_code 6 = .ok (.ior, 1) := by decide +kernel
theorem d_One_hear_7 : decode prog_5_method_8_code 7 = .ok (.putfield 30, 3) := by decide +kernel
theorem d_One_hear_10 : decode prog_5_method_8_code 10 = .ok (.return_, 1) := by decide +kernel
theorem d_River_meet_0 : decode prog_6_method_12_code 0 = .ok (.iconst 0, 1) := by decide +kernel
theorem d_River_meet_1 : decode prog_6_method_12_code 1 = .ok (.istore_n 1, 1) := by decide +kernel
theorem d_River_meet_2 : decode prog_6_method_12_code 2 = .ok (.iload_n 1, 1) := by decide +kernel
theorem d_River_meet_3 : decode prog_6_method_12_code 3 = .ok (.aload_n 0, 1) := by decide +kernel
theorem d_River_meet_4 : decode prog_6_method_12_code 4 = .ok (.getfield 18, 3) := by decide +kernel
theorem d_River_meet_7 : decode prog_6_method_12_code 7 = .ok (.if_icmp .ge 45, 3) := by decide +kernel
theorem d_River_meet_10 : decode prog_6_method_12_code 10 = .ok (.aload_n 0, 1) := by decide +kernel
theorem d_River_meet_11 : decode prog_6_method_12_code 11 = .ok (.getfield 26, 3) := by decide +kernel
theorem d_River_meet_14 : decode prog_6_method_12_code 14 = .ok (.iload_n 1, 1) := by decide +kernel
theorem d_River_meet_15 : decode prog_6_method_12_code 15 = .ok (.aaload, 1) := by decide +kernel
theorem d_River_meet_16 : decode prog_6_method_12_code 16 = .ok (.getfield 94, 3) := by decide +kernel
theorem d_River_meet_19 : decode prog_6_method_12_code 19 = .ok (.iconst 4, 1) := by decide +kernel
theorem d_River_meet_20 : decode prog_6_method_12_code 20 = .ok (.if_icmp .ne 26, 3) := by decide +kernel
theorem d_River_meet_23 : decode prog_6_method_12_code 23 = .ok (.aload_n 0, 1) := by decide +kernel
theorem d_River_meet_24 : decode prog_6_method_12_code 24 = .ok (.getfield 26, 3) := by decide +kernel
theorem d_River_meet_27 : decode prog_6_method_12_code 27 = .ok (.iload_n 1, 1) := by decide +kernel
theorem d_River_meet_28 : decode prog_6_method_12_code 28 = .ok (.aaload, 1) := by decide +kernel
theorem d_River_meet_29 : decode prog_6_method_12_code 29 = .ok (.getfield 81, 3) := by decide +kernel
theorem d_River_meet_32 : decode prog_6_method_12_code 32 = .ok (.iconst 1, 1) := by decide +kernel
theorem d_River_meet_33 : decode prog_6_method_12_code 33 = .ok (.if_icmp .ne 13, 3) := by decide +kernel
theorem d_River_meet_36 : decode prog_6_method_12_code 36 = .ok (.aload_n 0, 1) := by decide +kernel
theorem d_River_meet_37 : decode prog_6_method_12_code 37 = .ok (.aload_n 0, 1) := by decide +kernel
theorem d_River_meet_38 : decode prog_6_method_12_code 38 = .ok (.getfield 26, 3) := by decide +kernel
theorem d_River_meet_41 : decode prog_6_method_12_code 41 = .ok (.iload_n 1, 1) := by decide +kernel
theorem d_River_meet_42 : decode prog_6_method_12_code 42 = .ok (.aaload, 1) := by decide +kernel
theorem d_River_meet_43 : decode prog_6_method_12_code 43 = .ok (.invokevirtual 97, 3) := by decide +kernel
theorem d_River_meet_46 : decode prog_6_method_12_code 46 = .ok (.iinc 1 1, 3) := by decide +kernel
theorem d_River_meet_49 : decode prog_6_method_12_code 49 = .ok (.goto (-47), 3) := by decide +kernel
theorem d_River_meet_52 : decode prog_6_method_12_code 52 = .ok (.return_, 1) := by decide +kernel
theorem d_River_meetWhatIsKnownTo_0 : decode prog_6_method_13_code 0 = .ok (.iconst 0, 1) := by decide +kernel
theorem d_River_meetWhatIsKnownTo_1 : decode prog_6_method_13_code 1 = .ok (.istore_n 2, 1) := by decide +kernel
theorem d_River_meetWhatIsKnownTo_2 : decode prog_6_method_13_code 2 = .ok (.iload_n 2, 1) := by decide +kernel
theorem d_River_meetWhatIsKnownTo_3 : decode prog_6_method_13_code 3 = .ok (.aload_n 0, 1) := by decide +kernel
theorem d_River_meetWhatIsKnownTo_4 : decode prog_6_method_13_code 4 = .ok (.getfield 21, 3) := by decide +kernel
theorem d_River_meetWhatIsKnownTo_7 : decode prog_6_method_13_code 7 = .ok (.if_icmp .ge 43, 3) := by decide +kernel
theorem d_River_meetWhatIsKnownTo_10 : decode prog_6_method_13_code 10 = .ok (.aload_n 1, 1) := by decide +kernel
theorem d_River_meetWhatIsKnownTo_11 : decode prog_6_method_13_code 11 = .ok (.iload_n 2, 1) := by decide +kernel
theorem d_River_meetWhatIsKnownTo_12 : decode prog_6_method_13_code 12 = .ok (.invokevirtual 100, 3) := by decide +kernel
theorem d_River_meetWhatIsKnownTo_15 : decode prog_6_method_13_code 15 = .ok (.ifCond .eq 29, 3) := by decide +kernel
theorem d_River_meetWhatIsKnownTo_18 : decode prog_6_method_13_code 18 = .ok (.aload_n 0, 1) := by decide +kernel
theorem d_River_meetWhatIsKnownTo_19 : decode prog_6_method_13_code 19 = .ok (.getfield 33, 3) := by decide +kernel
theorem d_River_meetWhatIsKnownTo_22 : decode prog_6_method_13_code 22 = .ok (.iload_n 2, 1) := by decide +kernel
theorem d_River_meetWhatIsKnownTo_23 : decode prog_6_method_13_code 23 = .ok (.aaload, 1) := by decide +kernel
theorem d_River_meetWhatIsKnownTo_24 : decode prog_6_method_13_code 24 = .ok (.aload_n 0, 1) := by decide +kernel
theorem d_River_meetWhatIsKnownTo_25 : decode prog_6_method_13_code 25 = .ok (.getfield 9, 3) := by decide +kernel
theorem d_River_meetWhatIsKnownTo_28 : decode prog_6_method_13_code 28 = .ok (.invokevirtual 103, 3) := by decide +kernel
theorem d_River_meetWhatIsKnownTo_31 : decode prog_6_method_13_code 31 = .ok (.ifCond .eq 13, 3) := by decide +kernel
theorem d_River_meetWhatIsKnownTo_34 : decode prog_6_method_13_code 34 = .ok (.aload_n 0, 1) := by decide +kernel
theorem d_River_meetWhatIsKnownTo_35 : decode prog_6_method_13_code 35 = .ok (.getfield 33, 3) := by decide +kernel
theorem d_River_meetWhatIsKnownTo_38 : decode prog_6_method_13_code 38 = .ok (.iload_n 2, 1) := by decide +kernel
theorem d_River_meetWhatIsKnownTo_39 : decode prog_6_method_13_code 39 = .ok (.aaload, 1) := by decide +kernel
theorem d_River_meetWhatIsKnownTo_40 : decode prog_6_method_13_code 40 = .ok (.iconst 1, 1) := by decide +kernel
theorem d_River_meetWhatIsKnownTo_41 : decode prog_6_method_13_code 41 = .ok (.putfield 67, 3) := by decide +kernel
theorem d_River_meetWhatIsKnownTo_44 : decode prog_6_method_13_code 44 = .ok (.iinc 2 1, 3) := by decide +kernel
theorem d_River_meetWhatIsKnownTo_47 : decode prog_6_method_13_code 47 = .ok (.goto (-45), 3) := by decide +kernel
theorem d_River_meetWhatIsKnownTo_50 : decode prog_6_method_13_code 50 = .ok (.return_, 1) := by decide +kernel
theorem d_Event_canBeMet_0 : decode prog_3_method_6_code 0 = .ok (.aload_n 0, 1) := by decide +kernel
theorem d_Event_canBeMet_1 : decode prog_3_method_6_code 1 = .ok (.getfield 15, 3) := by decide +kernel
theorem d_Event_canBeMet_4 : decode prog_3_method_6_code 4 = .ok (.ifCond .ge 18, 3) := by decide +kernel
theorem d_Event_canBeMet_7 : decode prog_3_method_6_code 7 = .ok (.aload_n 0, 1) := by decide +kernel
theorem d_Event_canBeMet_8 : decode prog_3_method_6_code 8 = .ok (.getfield 9, 3) := by decide +kernel
theorem d_Event_canBeMet_11 : decode prog_3_method_6_code 11 = .ok (.bipush 24, 2) := by decide +kernel
theorem d_Event_canBeMet_13 : decode prog_3_method_6_code 13 = .ok (.iadd, 1) := by decide +kernel
theorem d_Event_canBeMet_14 : decode prog_3_method_6_code 14 = .ok (.iload_n 1, 1) := by decide +kernel
theorem d_Event_canBeMet_15 : decode prog_3_method_6_code 15 = .ok (.if_icmp .lt 7, 3) := by decide +kernel
theorem d_Event_canBeMet_18 : decode prog_3_method_6_code 18 = .ok (.iconst 1, 1) := by decide +kernel
theorem d_Event_canBeMet_19 : decode prog_3_method_6_code 19 = .ok (.goto 4, 3) := by decide +kernel
theorem d_Event_canBeMet_22 : decode prog_3_method_6_code 22 = .ok (.iconst 0, 1) := by decide +kernel
theorem d_Event_canBeMet_23 : decode prog_3_method_6_code 23 = .ok (.ireturn, 1) := by decide +kernel
theorem d_River_befall_0 : decode prog_6_method_14_code 0 = .ok (.iconst 0, 1) := by decide +kernel
theorem d_River_befall_1 : decode prog_6_method_14_code 1 = .ok (.istore_n 3, 1) := by decide +kernel
theorem d_River_befall_2 : decode prog_6_method_14_code 2 = .ok (.iload_n 3, 1) := by decide +kernel
theorem d_River_befall_3 : decode prog_6_method_14_code 3 = .ok (.aload_n 0, 1) := by decide +kernel
theorem d_River_befall_4 : decode prog_6_method_14_code 4 = .ok (.getfield 18, 3) := by decide +kernel
theorem d_River_befall_7 : decode prog_6_method_14_code 7 = .ok (.if_icmp .ge 41, 3) := by decide +kernel
theorem d_River_befall_10 : decode prog_6_method_14_code 10 = .ok (.aload_n 0, 1) := by decide +kernel
theorem d_River_befall_11 : decode prog_6_method_14_code 11 = .ok (.getfield 26, 3) := by decide +kernel
theorem d_River_befall_14 : decode prog_6_method_14_code 14 = .ok (.iload_n 3, 1) := by decide +kernel
theorem d_River_befall_15 : decode prog_6_method_14_code 15 = .ok (.aaload, 1) := by decide +kernel
theorem d_River_befall_16 : decode prog_6_method_14_code 16 = .ok (.getfield 81, 3) := by decide +kernel
theorem d_River_befall_19 : decode prog_6_method_14_code 19 = .ok (.iload_n 2, 1) := by decide +kernel
theorem d_River_befall_20 : decode prog_6_method_14_code 20 = .ok (.if_icmp .ne 22, 3) := by decide +kernel
theorem d_River_befall_23 : decode prog_6_method_14_code 23 = .ok (.aload_n 0, 1) := by decide +kernel
theorem d_River_befall_24 : decode prog_6_method_14_code 24 = .ok (.getfield 26, 3) := by decide +kernel
theorem d_River_befall_27 : decode prog_6_method_14_code 27 = .ok (.iload_n 3, 1) := by decide +kernel
theorem d_River_befall_28 : decode prog_6_method_14_code 28 = .ok (.aaload, 1) := by decide +kernel
theorem d_River_befall_29 : decode prog_6_method_14_code 29 = .ok (.iload_n 1, 1) := by decide +kernel
theorem d_River_befall_30 : decode prog_6_method_14_code 30 = .ok (.aload_n 0, 1) := by decide +kernel
theorem d_River_befall_31 : decode prog_6_method_14_code 31 = .ok (.getfield 33, 3) := by decide +kernel
theorem d_River_befall_34 : decode prog_6_method_14_code 34 = .ok (.iload_n 1, 1) := by decide +kernel
theorem d_River_befall_35 : decode prog_6_method_14_code 35 = .ok (.aaload, 1) := by decide +kernel
theorem d_River_befall_36 : decode prog_6_method_14_code 36 = .ok (.getfield 106, 3) := by decide +kernel
theorem d_River_befall_39 : decode prog_6_method_14_code 39 = .ok (.invokevirtual 109, 3) := by decide +kernel
theorem d_River_befall_42 : decode prog_6_method_14_code 42 = .ok (.iinc 3 1, 3) := by decide +kernel
theorem d_River_befall_45 : decode prog_6_method_14_code 45 = .ok (.goto (-43), 3) := by decide +kernel
theorem d_River_befall_48 : decode prog_6_method_14_code 48 = .ok (.return_, 1) := by decide +kernel
theorem d_One_live_0 : decode prog_5_method_10_code 0 = .ok (.aload_n 0, 1) := by decide +kernel
theorem d_One_live_1 : decode prog_5_method_10_code 1 = .ok (.getfield 18, 3) := by decide +kernel
theorem d_One_live_4 : decode prog_5_method_10_code 4 = .ok (.aload_n 0, 1) := by decide +kernel
theorem d_One_live_5 : decode prog_5_method_10_code 5 = .ok (.getfield 9, 3) := by decide +kernel
theorem d_One_live_8 : decode prog_5_method_10_code 8 = .ok (.iload_n 2, 1) := by decide +kernel
theorem d_One_live_9 : decode prog_5_method_10_code 9 = .ok (.aload_n 0, 1) := by decide +kernel
theorem d_One_live_10 : decode prog_5_method_10_code 10 = .ok (.iload_n 1, 1) := by decide +kernel
theorem d_One_live_11 : decode prog_5_method_10_code 11 = .ok (.invokevirtual 33, 3) := by decide +kernel
theorem d_One_live_14 : decode prog_5_method_10_code 14 = .ok (.invokestatic 37, 3) := by decide +kernel
theorem d_One_live_17 : decode prog_5_method_10_code 17 = .ok (.iadd, 1) := by decide +kernel
theorem d_One_live_18 : decode prog_5_method_10_code 18 = .ok (.istore_n 3, 1) := by decide +kernel
theorem d_One_live_19 : decode prog_5_method_10_code 19 = .ok (.aload_n 0, 1) := by decide +kernel
theorem d_One_live_20 : decode prog_5_method_10_code 20 = .ok (.iconst 0, 1) := by decide +kernel
theorem d_One_live_21 : decode prog_5_method_10_code 21 = .ok (.sipush 9999, 3) := by decide +kernel
theorem d_One_live_24 : decode prog_5_method_10_code 24 = .ok (.iload_n 3, 1) := by decide +kernel
theorem d_One_live_25 : decode prog_5_method_10_code 25 = .ok (.invokestatic 43, 3) := by decide +kernel
theorem d_One_live_28 : decode prog_5_method_10_code 28 = .ok (.invokestatic 49, 3) := by decide +kernel
theorem d_One_live_31 : decode prog_5_method_10_code 31 = .ok (.putfield 18, 3) := by decide +kernel
theorem d_One_live_34 : decode prog_5_method_10_code 34 = .ok (.aload_n 0, 1) := by decide +kernel
theorem d_One_live_35 : decode prog_5_method_10_code 35 = .ok (.iconst 1, 1) := by decide +kernel
theorem d_One_live_36 : decode prog_5_method_10_code 36 = .ok (.iload_n 1, 1) := by decide +kernel
theorem d_One_live_37 : decode prog_5_method_10_code 37 = .ok (.ishl, 1) := by decide +kernel
theorem d_One_live_38 : decode prog_5_method_10_code 38 = .ok (.invokevirtual 52, 3) := by decide +kernel
theorem d_One_live_41 : decode prog_5_method_10_code 41 = .ok (.return_, 1) := by decide +kernel
theorem d_Math_min_0 : decode prog_12_method_69_code 0 = .ok (.iload_n 0, 1) := by decide +kernel
theorem d_Math_min_1 : decode prog_12_method_69_code 1 = .ok (.iload_n 1, 1) := by decide +kernel
theorem d_Math_min_2 : decode prog_12_method_69_code 2 = .ok (.if_icmp .gt 7, 3) := by decide +kernel
theorem d_Math_min_5 : decode prog_12_method_69_code 5 = .ok (.iload_n 0, 1) := by decide +kernel
theorem d_Math_min_6 : decode prog_12_method_69_code 6 = .ok (.goto 4, 3) := by decide +kernel
theorem d_Math_min_9 : decode prog_12_method_69_code 9 = .ok (.iload_n 1, 1) := by decide +kernel
theorem d_Math_min_10 : decode prog_12_method_69_code 10 = .ok (.ireturn, 1) := by decide +kernel
theorem d_River_allPurses_0 : decode prog_6_method_15_code 0 = .ok (.iconst 0, 1) := by decide +kernel
theorem d_River_allPurses_1 : decode prog_6_method_15_code 1 = .ok (.istore_n 1, 1) := by decide +kernel
theorem d_River_allPurses_2 : decode prog_6_method_15_code 2 = .ok (.iconst 0, 1) := by decide +kernel
theorem d_River_allPurses_3 : decode prog_6_method_15_code 3 = .ok (.istore_n 2, 1) := by decide +kernel
theorem d_River_allPurses_4 : decode prog_6_method_15_code 4 = .ok (.iload_n 2, 1) := by decide +kernel
theorem d_River_allPurses_5 : decode prog_6_method_15_code 5 = .ok (.aload_n 0, 1) := by decide +kernel
theorem d_River_allPurses_6 : decode prog_6_method_15_code 6 = .ok (.getfield 18, 3) := by decide +kernel
theorem d_River_allPurses_9 : decode prog_6_method_15_code 9 = .ok (.if_icmp .ge 21, 3) := by decide +kernel
theorem d_River_allPurses_12 : decode prog_6_method_15_code 12 = .ok (.iload_n 1, 1) := by decide +kernel
theorem d_River_allPurses_13 : decode prog_6_method_15_code 13 = .ok (.aload_n 0, 1) := by decide +kernel
theorem d_River_allPurses_14 : decode prog_6_method_15_code 14 = .ok (.getfield 26, 3) := by decide +kernel
theorem d_River_allPurses_17 : decode prog_6_method_15_code 17 = .ok (.iload_n 2, 1) := by decide +kernel
theorem d_River_allPurses_18 : decode prog_6_method_15_code 18 = .ok (.aaload, 1) := by decide +kernel
theorem d_River_allPurses_19 : decode prog_6_method_15_code 19 = .ok (.getfield 112, 3) := by decide +kernel
theorem d_River_allPurses_22 : decode prog_6_method_15_code 22 = .ok (.iadd, 1) := by decide +kernel
theorem d_River_allPurses_23 : decode prog_6_method_15_code 23 = .ok (.istore_n 1, 1) := by decide +kernel
theorem d_River_allPurses_24 : decode prog_6_method_15_code 24 = .ok (.iinc 2 1, 3) := by decide +kernel
theorem d_River_allPurses_27 : decode prog_6_method_15_code 27 = .ok (.goto (-23), 3) := by decide +kernel
theorem d_River_allPurses_30 : decode prog_6_method_15_code 30 = .ok (.iload_n 1, 1) := by decide +kernel
theorem d_River_allPurses_31 : decode prog_6_method_15_code 31 = .ok (.ireturn, 1) := by decide +kernel
theorem d_River_allCrossed_0 : decode prog_6_method_16_code 0 = .ok (.iconst 0, 1) := by decide +kernel
theorem d_River_allCrossed_1 : decode prog_6_method_16_code 1 = .ok (.istore_n 1, 1) := by decide +kernel
theorem d_River_allCrossed_2 : decode prog_6_method_16_code 2 = .ok (.iconst 0, 1) := by decide +kernel
theorem d_River_allCrossed_3 : decode prog_6_method_16_code 3 = .ok (.istore_n 2, 1) := by decide +kernel
theorem d_River_allCrossed_4 : decode prog_6_method_16_code 4 = .ok (.iload_n 2, 1) := by decide +kernel
theorem d_River_allCrossed_5 : decode prog_6_method_16_code 5 = .ok (.aload_n 0, 1) := by decide +kernel
theorem d_River_allCrossed_6 : decode prog_6_method_16_code 6 = .ok (.getfield 18, 3) := by decide +kernel
theorem d_River_allCrossed_9 : decode prog_6_method_16_code 9 = .ok (.if_icmp .ge 21, 3) := by decide +kernel
theorem d_River_allCrossed_12 : decode prog_6_method_16_code 12 = .ok (.iload_n 1, 1) := by decide +kernel
theorem d_River_allCrossed_13 : decode prog_6_method_16_code 13 = .ok (.aload_n 0, 1) := by decide +kernel
theorem d_River_allCrossed_14 : decode prog_6_method_16_code 14 = .ok (.getfield 26, 3) := by decide +kernel
theorem d_River_allCrossed_17 : decode prog_6_method_16_code 17 = .ok (.iload_n 2, 1) := by decide +kernel
theorem d_River_allCrossed_18 : decode prog_6_method_16_code 18 = .ok (.aaload, 1) := by decide +kernel
theorem d_River_allCrossed_19 : decode prog_6_method_16_code 19 = .ok (.getfield 115, 3) := by decide +kernel
theorem d_River_allCrossed_22 : decode prog_6_method_16_code 22 = .ok (.iadd, 1) := by decide +kernel
theorem d_River_allCrossed_23 : decode prog_6_method_16_code 23 = .ok (.istore_n 1, 1) := by decide +kernel
theorem d_River_allCrossed_24 : decode prog_6_method_16_code 24 = .ok (.iinc 2 1, 3) := by decide +kernel
theorem d_River_allCrossed_27 : decode prog_6_method_16_code 27 = .ok (.goto (-23), 3) := by decide +kernel
theorem d_River_allCrossed_30 : decode prog_6_method_16_code 30 = .ok (.iload_n 1, 1) := by decide +kernel
theorem d_River_allCrossed_31 : decode prog_6_method_16_code 31 = .ok (.ireturn, 1) := by decide +kernel
theorem d_River_thoseOnLeft_0 : decode prog_6_method_18_code 0 = .ok (.iconst 0, 1) := by decide +kernel
theorem d_River_thoseOnLeft_1 : decode prog_6_method_18_code 1 = .ok (.istore_n 1, 1) := by decide +kernel
theorem d_River_thoseOnLeft_2 : decode prog_6_method_18_code 2 = .ok (.iconst 0, 1) := by decide +kernel
theorem d_River_thoseOnLeft_3 : decode prog_6_method_18_code 3 = .ok (.istore_n 2, 1) := by decide +kernel
theorem d_River_thoseOnLeft_4 : decode prog_6_method_18_code 4 = .ok (.iload_n 2, 1) := by decide +kernel
theorem d_River_thoseOnLeft_5 : decode prog_6_method_18_code 5 = .ok (.aload_n 0, 1) := by decide +kernel
theorem d_River_thoseOnLeft_6 : decode prog_6_method_18_code 6 = .ok (.getfield 18, 3) := by decide +kernel
theorem d_River_thoseOnLeft_9 : decode prog_6_method_18_code 9 = .ok (.if_icmp .ge 28, 3) := by decide +kernel
theorem d_River_thoseOnLeft_12 : decode prog_6_method_18_code 12 = .ok (.aload_n 0, 1) := by decide +kernel
theorem d_River_thoseOnLeft_13 : decode prog_6_method_18_code 13 = .ok (.getfield 26, 3) := by decide +kernel
theorem d_River_thoseOnLeft_16 : decode prog_6_method_18_code 16 = .ok (.iload_n 2, 1) := by decide +kernel
theorem d_River_thoseOnLeft_17 : decode prog_6_method_18_code 17 = .ok (.aaload, 1) := by decide +kernel
theorem d_River_thoseOnLeft_18 : decode prog_6_method_18_code 18 = .ok (.getfield 81, 3) := by decide +kernel
theorem d_River_thoseOnLeft_21 : decode prog_6_method_18_code 21 = .ok (.iconst 1, 1) := by decide +kernel
theorem d_River_thoseOnLeft_22 : decode prog_6_method_18_code 22 = .ok (.if_icmp .ne 9, 3) := by decide +kernel
theorem d_River_thoseOnLeft_25 : decode prog_6_method_18_code 25 = .ok (.iload_n 1, 1) := by decide +kernel
theorem d_River_thoseOnLeft_26 : decode prog_6_method_18_code 26 = .ok (.iconst 1, 1) := by decide +kernel
theorem d_River_thoseOnLeft_27 : decode prog_6_method_18_code 27 = .ok (.iload_n 2, 1) := by decide +kernel
theorem d_River_thoseOnLeft_28 : decode prog_6_method_18_code 28 = .ok (.ishl, 1) := by decide +kernel
theorem d_River_thoseOnLeft_29 : decode prog_6_method_18_code 29 = .ok (.ior, 1) := by decide +kernel
theorem d_River_thoseOnLeft_30 : decode prog_6_method_18_code 30 = .ok (.istore_n 1, 1) := by decide +kernel
theorem d_River_thoseOnLeft_31 : decode prog_6_method_18_code 31 = .ok (.iinc 2 1, 3) := by decide +kernel
theorem d_River_thoseOnLeft_34 : decode prog_6_method_18_code 34 = .ok (.goto (-30), 3) := by decide +kernel
theorem d_River_thoseOnLeft_37 : decode prog_6_method_18_code 37 = .ok (.iload_n 1, 1) := by decide +kernel
theorem d_River_thoseOnLeft_38 : decode prog_6_method_18_code 38 = .ok (.ireturn, 1) := by decide +kernel
theorem d_River_metEvents_0 : decode prog_6_method_20_code 0 = .ok (.iconst 0, 1) := by decide +kernel
theorem d_River_metEvents_1 : decode prog_6_method_20_code 1 = .ok (.istore_n 1, 1) := by decide +kernel
theorem d_River_metEvents_2 : decode prog_6_method_20_code 2 = .ok (.iconst 0, 1) := by decide +kernel
theorem d_River_metEvents_3 : decode prog_6_method_20_code 3 = .ok (.istore_n 2, 1) := by decide +kernel
theorem d_River_metEvents_4 : decode prog_6_method_20_code 4 = .ok (.iload_n 2, 1) := by decide +kernel
theorem d_River_metEvents_5 : decode prog_6_method_20_code 5 = .ok (.aload_n 0, 1) := by decide +kernel
theorem d_River_metEvents_6 : decode prog_6_method_20_code 6 = .ok (.getfield 21, 3) := by decide +kernel
theorem d_River_metEvents_9 : decode prog_6_method_20_code 9 = .ok (.if_icmp .ge 27, 3) := by decide +kernel
theorem d_River_metEvents_12 : decode prog_6_method_20_code 12 = .ok (.aload_n 0, 1) := by decide +kernel
theorem d_River_metEvents_13 : decode prog_6_method_20_code 13 = .ok (.getfield 33, 3) := by decide +kernel
theorem d_River_metEvents_16 : decode prog_6_method_20_code 16 = .ok (.iload_n 2, 1) := by decide +kernel
theorem d_River_metEvents_17 : decode prog_6_method_20_code 17 = .ok (.aaload, 1) := by decide +kernel
theorem d_River_metEvents_18 : decode prog_6_method_20_code 18 = .ok (.getfield 67, 3) := by decide +kernel
theorem d_River_metEvents_21 : decode prog_6_method_20_code 21 = .ok (.ifCond .eq 9, 3) := by decide +kernel
theorem d_River_metEvents_24 : decode prog_6_method_20_code 24 = .ok (.iload_n 1, 1) := by decide +kernel
theorem d_River_metEvents_25 : decode prog_6_method_20_code 25 = .ok (.iconst 1, 1) := by decide +kernel
theorem d_River_metEvents_26 : decode prog_6_method_20_code 26 = .ok (.iload_n 2, 1) := by decide +kernel
theorem d_River_metEvents_27 : decode prog_6_method_20_code 27 = .ok (.ishl, 1) := by decide +kernel
theorem d_River_metEvents_28 : decode prog_6_method_20_code 28 = .ok (.ior, 1) := by decide +kernel
theorem d_River_metEvents_29 : decode prog_6_method_20_code 29 = .ok (.istore_n 1, 1) := by decide +kernel
theorem d_River_metEvents_30 : decode prog_6_method_20_code 30 = .ok (.iinc 2 1, 3) := by decide +kernel
theorem d_River_metEvents_33 : decode prog_6_method_20_code 33 = .ok (.goto (-29), 3) := by decide +kernel
theorem d_River_metEvents_36 : decode prog_6_method_20_code 36 = .ok (.iload_n 1, 1) := by decide +kernel
theorem d_River_metEvents_37 : decode prog_6_method_20_code 37 = .ok (.ireturn, 1) := by decide +kernel
theorem d_River_become_0 : decode prog_6_method_2_code 0 = .ok (.aload_n 0, 1) := by decide +kernel
theorem d_River_become_1 : decode prog_6_method_2_code 1 = .ok (.aload_n 1, 1) := by decide +kernel
theorem d_River_become_2 : decode prog_6_method_2_code 2 = .ok (.getfield 9, 3) := by decide +kernel
theorem d_River_become_5 : decode prog_6_method_2_code 5 = .ok (.putfield 9, 3) := by decide +kernel
theorem d_River_become_8 : decode prog_6_method_2_code 8 = .ok (.aload_n 0, 1) := by decide +kernel
theorem d_River_become_9 : decode prog_6_method_2_code 9 = .ok (.aload_n 1, 1) := by decide +kernel
theorem d_River_become_10 : decode prog_6_method_2_code 10 = .ok (.getfield 15, 3) := by decide +kernel
theorem d_River_become_13 : decode prog_6_method_2_code 13 = .ok (.putfield 15, 3) := by decide +kernel
theorem d_River_become_16 : decode prog_6_method_2_code 16 = .ok (.aload_n 0, 1) := by decide +kernel
theorem d_River_become_17 : decode prog_6_method_2_code 17 = .ok (.aload_n 1, 1) := by decide +kernel
theorem d_River_become_18 : decode prog_6_method_2_code 18 = .ok (.getfield 18, 3) := by decide +kernel
theorem d_River_become_21 : decode prog_6_method_2_code 21 = .ok (.putfield 18, 3) := by decide +kernel
theorem d_River_become_24 : decode prog_6_method_2_code 24 = .ok (.aload_n 0, 1) := by decide +kernel
theorem d_River_become_25 : decode prog_6_method_2_code 25 = .ok (.aload_n 1, 1) := by decide +kernel
theorem d_River_become_26 : decode prog_6_method_2_code 26 = .ok (.getfield 21, 3) := by decide +kernel
theorem d_River_become_29 : decode prog_6_method_2_code 29 = .ok (.putfield 21, 3) := by decide +kernel
theorem d_River_become_32 : decode prog_6_method_2_code 32 = .ok (.iconst 0, 1) := by decide +kernel
theorem d_River_become_33 : decode prog_6_method_2_code 33 = .ok (.istore_n 2, 1) := by decide +kernel
theorem d_River_become_34 : decode prog_6_method_2_code 34 = .ok (.iload_n 2, 1) := by decide +kernel
theorem d_River_become_35 : decode prog_6_method_2_code 35 = .ok (.aload_n 0, 1) := by decide +kernel
theorem d_River_become_36 : decode prog_6_method_2_code 36 = .ok (.getfield 18, 3) := by decide +kernel
theorem d_River_become_39 : decode prog_6_method_2_code 39 = .ok (.if_icmp .ge 24, 3) := by decide +kernel
theorem d_River_become_42 : decode prog_6_method_2_code 42 = .ok (.aload_n 0, 1) := by decide +kernel
theorem d_River_become_43 : decode prog_6_method_2_code 43 = .ok (.getfield 26, 3) := by decide +kernel
theorem d_River_become_46 : decode prog_6_method_2_code 46 = .ok (.iload_n 2, 1) := by decide +kernel
theorem d_River_become_47 : decode prog_6_method_2_code 47 = .ok (.aaload, 1) := by decide +kernel
theorem d_River_become_48 : decode prog_6_method_2_code 48 = .ok (.aload_n 1, 1) := by decide +kernel
theorem d_River_become_49 : decode prog_6_method_2_code 49 = .ok (.getfield 26, 3) := by decide +kernel
theorem d_River_become_52 : decode prog_6_method_2_code 52 = .ok (.iload_n 2, 1) := by decide +kernel
theorem d_River_become_53 : decode prog_6_method_2_code 53 = .ok (.aaload, 1) := by decide +kernel
theorem d_River_become_54 : decode prog_6_method_2_code 54 = .ok (.invokevirtual 38, 3) := by decide +kernel
theorem d_River_become_57 : decode prog_6_method_2_code 57 = .ok (.iinc 2 1, 3) := by decide +kernel
theorem d_River_become_60 : decode prog_6_method_2_code 60 = .ok (.goto (-26), 3) := by decide +kernel
theorem d_River_become_63 : decode prog_6_method_2_code 63 = .ok (.iconst 0, 1) := by decide +kernel
theorem d_River_become_64 : decode prog_6_method_2_code 64 = .ok (.istore_n 2, 1) := by decide +kernel
theorem d_River_become_65 : decode prog_6_method_2_code 65 = .ok (.iload_n 2, 1) := by decide +kernel
theorem d_River_become_66 : decode prog_6_method_2_code 66 = .ok (.aload_n 0, 1) := by decide +kernel
theorem d_River_become_67 : decode prog_6_method_2_code 67 = .ok (.getfield 21, 3) := by decide +kernel
theorem d_River_become_70 : decode prog_6_method_2_code 70 = .ok (.if_icmp .ge 24, 3) := by decide +kernel
theorem d_River_become_73 : decode prog_6_method_2_code 73 = .ok (.aload_n 0, 1) := by decide +kernel
theorem d_River_become_74 : decode prog_6_method_2_code 74 = .ok (.getfield 33, 3) := by decide +kernel
theorem d_River_become_77 : decode prog_6_method_2_code 77 = .ok (.iload_n 2, 1) := by decide +kernel
theorem d_River_become_78 : decode prog_6_method_2_code 78 = .ok (.aaload, 1) := by decide +kernel
theorem d_River_become_79 : decode prog_6_method_2_code 79 = .ok (.aload_n 1, 1) := by decide +kernel
theorem d_River_become_80 : decode prog_6_method_2_code 80 = .ok (.getfield 33, 3) := by decide +kernel
theorem d_River_become_83 : decode prog_6_method_2_code 83 = .ok (.iload_n 2, 1) := by decide +kernel
theorem d_River_become_84 : decode prog_6_method_2_code 84 = .ok (.aaload, 1) := by decide +kernel
theorem d_River_become_85 : decode prog_6_method_2_code 85 = .ok (.invokevirtual 42, 3) := by decide +kernel
theorem d_River_become_88 : decode prog_6_method_2_code 88 = .ok (.iinc 2 1, 3) := by decide +kernel
theorem d_River_become_91 : decode prog_6_method_2_code 91 = .ok (.goto (-26), 3) := by decide +kernel
theorem d_River_become_94 : decode prog_6_method_2_code 94 = .ok (.return_, 1) := by decide +kernel
theorem d_One_become_0 : decode prog_5_method_3_code 0 = .ok (.aload_n 0, 1) := by decide +kernel
theorem d_One_become_1 : decode prog_5_method_3_code 1 = .ok (.aload_n 1, 1) := by decide +kernel
theorem d_One_become_2 : decode prog_5_method_3_code 2 = .ok (.getfield 9, 3) := by decide +kernel
theorem d_One_become_5 : decode prog_5_method_3_code 5 = .ok (.putfield 9, 3) := by decide +kernel
theorem d_One_become_8 : decode prog_5_method_3_code 8 = .ok (.aload_n 0, 1) := by decide +kernel
theorem d_One_become_9 : decode prog_5_method_3_code 9 = .ok (.aload_n 1, 1) := by decide +kernel
theorem d_One_become_10 : decode prog_5_method_3_code 10 = .ok (.getfield 15, 3) := by decide +kernel
theorem d_One_become_13 : decode prog_5_method_3_code 13 = .ok (.putfield 15, 3) := by decide +kernel
theorem d_One_become_16 : decode prog_5_method_3_code 16 = .ok (.aload_n 0, 1) := by decide +kernel
theorem d_One_become_17 : decode prog_5_method_3_code 17 = .ok (.aload_n 1, 1) := by decide +kernel
theorem d_One_become_18 : decode prog_5_method_3_code 18 = .ok (.getfield 18, 3) := by decide +kernel
theorem d_One_become_21 : decode prog_5_method_3_code 21 = .ok (.putfield 18, 3) := by decide +kernel
theorem d_One_become_24 : decode prog_5_method_3_code 24 = .ok (.aload_n 0, 1) := by decide +kernel
theorem d_One_become_25 : decode prog_5_method_3_code 25 = .ok (.aload_n 1, 1) := by decide +kernel
theorem d_One_become_26 : decode prog_5_method_3_code 26 = .ok (.getfield 21, 3) := by decide +kernel
theorem d_One_become_29 : decode prog_5_method_3_code 29 = .ok (.putfield 21, 3) := by decide +kernel
theorem d_One_become_32 : decode prog_5_method_3_code 32 = .ok (.aload_n 0, 1) := by decide +kernel
theorem d_One_become_33 : decode prog_5_method_3_code 33 = .ok (.aload_n 1, 1) := by decide +kernel
theorem d_One_become_34 : decode prog_5_method_3_code 34 = .ok (.getfield 24, 3) := by decide +kernel
theorem d_One_become_37 : decode prog_5_method_3_code 37 = .ok (.putfield 24, 3) := by decide +kernel
theorem d_One_become_40 : decode prog_5_method_3_code 40 = .ok (.aload_n 0, 1) := by decide +kernel
theorem d_One_become_41 : decode prog_5_method_3_code 41 = .ok (.aload_n 1, 1) := by decide +kernel
theorem d_One_become_42 : decode prog_5_method_3_code 42 = .ok (.getfield 27, 3) := by decide +kernel
theorem d_One_become_45 : decode prog_5_method_3_code 45 = .ok (.putfield 27, 3) := by decide +kernel
theorem d_One_become_48 : decode prog_5_method_3_code 48 = .ok (.aload_n 0, 1) := by decide +kernel
theorem d_One_become_49 : decode prog_5_method_3_code 49 = .ok (.aload_n 1, 1) := by decide +kernel
theorem d_One_become_50 : decode prog_5_method_3_code 50 = .ok (.getfield 30, 3) := by decide +kernel
theorem d_One_become_53 : decode prog_5_method_3_code 53 = .ok (.putfield 30, 3) := by decide +kernel
theorem d_One_become_56 : decode prog_5_method_3_code 56 = .ok (.return_, 1) := by decide +kernel
theorem d_Event_become_0 : decode prog_3_method_3_code 0 = .ok (.aload_n 0, 1) := by decide +kernel
theorem d_Event_become_1 : decode prog_3_method_3_code 1 = .ok (.aload_n 1, 1) := by decide +kernel
theorem d_Event_become_2 : decode prog_3_method_3_code 2 = .ok (.getfield 9, 3) := by decide +kernel
theorem d_Event_become_5 : decode prog_3_method_3_code 5 = .ok (.putfield 9, 3) := by decide +kernel
theorem d_Event_become_8 : decode prog_3_method_3_code 8 = .ok (.aload_n 0, 1) := by decide +kernel
theorem d_Event_become_9 : decode prog_3_method_3_code 9 = .ok (.aload_n 1, 1) := by decide +kernel
theorem d_Event_become_10 : decode prog_3_method_3_code 10 = .ok (.getfield 15, 3) := by decide +kernel
theorem d_Event_become_13 : decode prog_3_method_3_code 13 = .ok (.putfield 15, 3) := by decide +kernel
theorem d_Event_become_16 : decode prog_3_method_3_code 16 = .ok (.aload_n 0, 1) := by decide +kernel
theorem d_Event_become_17 : decode prog_3_method_3_code 17 = .ok (.aload_n 1, 1) := by decide +kernel
theorem d_Event_become_18 : decode prog_3_method_3_code 18 = .ok (.getfield 18, 3) := by decide +kernel
theorem d_Event_become_21 : decode prog_3_method_3_code 21 = .ok (.putfield 18, 3) := by decide +kernel
theorem d_Event_become_24 : decode prog_3_method_3_code 24 = .ok (.return_, 1) := by decide +kernel
theorem d_Int_numberOfTrailingZeros_0 : decode prog_11_method_48_code 0 = .ok (.iload_n 0, 1) := by decide +kernel
theorem d_Int_numberOfTrailingZeros_1 : decode prog_11_method_48_code 1 = .ok (.iconst (-1), 1) := by decide +kernel
theorem d_Int_numberOfTrailingZeros_2 : decode prog_11_method_48_code 2 = .ok (.ixor, 1) := by decide +kernel
theorem d_Int_numberOfTrailingZeros_3 : decode prog_11_method_48_code 3 = .ok (.iload_n 0, 1) := by decide +kernel
theorem d_Int_numberOfTrailingZeros_4 : decode prog_11_method_48_code 4 = .ok (.iconst 1, 1) := by decide +kernel
theorem d_Int_numberOfTrailingZeros_5 : decode prog_11_method_48_code 5 = .ok (.isub, 1) := by decide +kernel
theorem d_Int_numberOfTrailingZeros_6 : decode prog_11_method_48_code 6 = .ok (.iand, 1) := by decide +kernel
theorem d_Int_numberOfTrailingZeros_7 : decode prog_11_method_48_code 7 = .ok (.istore_n 0, 1) := by decide +kernel
theorem d_Int_numberOfTrailingZeros_8 : decode prog_11_method_48_code 8 = .ok (.iload_n 0, 1) := by decide +kernel
theorem d_Int_numberOfTrailingZeros_9 : decode prog_11_method_48_code 9 = .ok (.ifCond .gt 8, 3) := by decide +kernel
theorem d_Int_numberOfTrailingZeros_12 : decode prog_11_method_48_code 12 = .ok (.iload_n 0, 1) := by decide +kernel
theorem d_Int_numberOfTrailingZeros_13 : decode prog_11_method_48_code 13 = .ok (.bipush 32, 2) := by decide +kernel
theorem d_Int_numberOfTrailingZeros_15 : decode prog_11_method_48_code 15 = .ok (.iand, 1) := by decide +kernel
theorem d_Int_numberOfTrailingZeros_16 : decode prog_11_method_48_code 16 = .ok (.ireturn, 1) := by decide +kernel
theorem d_Int_numberOfTrailingZeros_17 : decode prog_11_method_48_code 17 = .ok (.iconst 1, 1) := by decide +kernel
theorem d_Int_numberOfTrailingZeros_18 : decode prog_11_method_48_code 18 = .ok (.istore_n 1, 1) := by decide +kernel
theorem d_Int_numberOfTrailingZeros_19 : decode prog_11_method_48_code 19 = .ok (.iload_n 0, 1) := by decide +kernel
theorem d_Int_numberOfTrailingZeros_20 : decode prog_11_method_48_code 20 = .ok (.ldc_w 264, 3) := by decide +kernel
theorem d_Int_numberOfTrailingZeros_23 : decode prog_11_method_48_code 23 = .ok (.if_icmp .le 11, 3) := by decide +kernel
theorem d_Int_numberOfTrailingZeros_26 : decode prog_11_method_48_code 26 = .ok (.iinc 1 16, 3) := by decide +kernel
theorem d_Int_numberOfTrailingZeros_29 : decode prog_11_method_48_code 29 = .ok (.iload_n 0, 1) := by decide +kernel
theorem d_Int_numberOfTrailingZeros_30 : decode prog_11_method_48_code 30 = .ok (.bipush 16, 2) := by decide +kernel
theorem d_Int_numberOfTrailingZeros_32 : decode prog_11_method_48_code 32 = .ok (.iushr, 1) := by decide +kernel
theorem d_Int_numberOfTrailingZeros_33 : decode prog_11_method_48_code 33 = .ok (.istore_n 0, 1) := by decide +kernel
theorem d_Int_numberOfTrailingZeros_34 : decode prog_11_method_48_code 34 = .ok (.iload_n 0, 1) := by decide +kernel
theorem d_Int_numberOfTrailingZeros_35 : decode prog_11_method_48_code 35 = .ok (.sipush 256, 3) := by decide +kernel
theorem d_Int_numberOfTrailingZeros_38 : decode prog_11_method_48_code 38 = .ok (.if_icmp .le 11, 3) := by decide +kernel
theorem d_Int_numberOfTrailingZeros_41 : decode prog_11_method_48_code 41 = .ok (.iinc 1 8, 3) := by decide +kernel
theorem d_Int_numberOfTrailingZeros_44 : decode prog_11_method_48_code 44 = .ok (.iload_n 0, 1) := by decide +kernel
theorem d_Int_numberOfTrailingZeros_45 : decode prog_11_method_48_code 45 = .ok (.bipush 8, 2) := by decide +kernel
theorem d_Int_numberOfTrailingZeros_47 : decode prog_11_method_48_code 47 = .ok (.iushr, 1) := by decide +kernel
theorem d_Int_numberOfTrailingZeros_48 : decode prog_11_method_48_code 48 = .ok (.istore_n 0, 1) := by decide +kernel
theorem d_Int_numberOfTrailingZeros_49 : decode prog_11_method_48_code 49 = .ok (.iload_n 0, 1) := by decide +kernel
theorem d_Int_numberOfTrailingZeros_50 : decode prog_11_method_48_code 50 = .ok (.bipush 16, 2) := by decide +kernel
theorem d_Int_numberOfTrailingZeros_52 : decode prog_11_method_48_code 52 = .ok (.if_icmp .le 10, 3) := by decide +kernel
theorem d_Int_numberOfTrailingZeros_55 : decode prog_11_method_48_code 55 = .ok (.iinc 1 4, 3) := by decide +kernel
theorem d_Int_numberOfTrailingZeros_58 : decode prog_11_method_48_code 58 = .ok (.iload_n 0, 1) := by decide +kernel
theorem d_Int_numberOfTrailingZeros_59 : decode prog_11_method_48_code 59 = .ok (.iconst 4, 1) := by decide +kernel
theorem d_Int_numberOfTrailingZeros_60 : decode prog_11_method_48_code 60 = .ok (.iushr, 1) := by decide +kernel
theorem d_Int_numberOfTrailingZeros_61 : decode prog_11_method_48_code 61 = .ok (.istore_n 0, 1) := by decide +kernel
theorem d_Int_numberOfTrailingZeros_62 : decode prog_11_method_48_code 62 = .ok (.iload_n 0, 1) := by decide +kernel
theorem d_Int_numberOfTrailingZeros_63 : decode prog_11_method_48_code 63 = .ok (.iconst 4, 1) := by decide +kernel
theorem d_Int_numberOfTrailingZeros_64 : decode prog_11_method_48_code 64 = .ok (.if_icmp .le 10, 3) := by decide +kernel
theorem d_Int_numberOfTrailingZeros_67 : decode prog_11_method_48_code 67 = .ok (.iinc 1 2, 3) := by decide +kernel
theorem d_Int_numberOfTrailingZeros_70 : decode prog_11_method_48_code 70 = .ok (.iload_n 0, 1) := by decide +kernel
theorem d_Int_numberOfTrailingZeros_71 : decode prog_11_method_48_code 71 = .ok (.iconst 2, 1) := by decide +kernel
theorem d_Int_numberOfTrailingZeros_72 : decode prog_11_method_48_code 72 = .ok (.iushr, 1) := by decide +kernel
theorem d_Int_numberOfTrailingZeros_73 : decode prog_11_method_48_code 73 = .ok (.istore_n 0, 1) := by decide +kernel
theorem d_Int_numberOfTrailingZeros_74 : decode prog_11_method_48_code 74 = .ok (.iload_n 1, 1) := by decide +kernel
theorem d_Int_numberOfTrailingZeros_75 : decode prog_11_method_48_code 75 = .ok (.iload_n 0, 1) := by decide +kernel
theorem d_Int_numberOfTrailingZeros_76 : decode prog_11_method_48_code 76 = .ok (.iconst 1, 1) := by decide +kernel
theorem d_Int_numberOfTrailingZeros_77 : decode prog_11_method_48_code 77 = .ok (.iushr, 1) := by decide +kernel
theorem d_Int_numberOfTrailingZeros_78 : decode prog_11_method_48_code 78 = .ok (.iadd, 1) := by decide +kernel
theorem d_Int_numberOfTrailingZeros_79 : decode prog_11_method_48_code 79 = .ok (.ireturn, 1) := by decide +kernel
theorem d_Best_begin_0 : decode prog_2_method_2_code 0 = .ok (.aload_n 0, 1) := by decide +kernel
theorem d_Best_begin_1 : decode prog_2_method_2_code 1 = .ok (.ldc 9, 2) := by decide +kernel
theorem d_Best_begin_3 : decode prog_2_method_2_code 3 = .ok (.putfield 10, 3) := by decide +kernel
theorem d_Best_begin_6 : decode prog_2_method_2_code 6 = .ok (.aload_n 0, 1) := by decide +kernel
theorem d_Best_begin_7 : decode prog_2_method_2_code 7 = .ok (.iload_n 1, 1) := by decide +kernel
theorem d_Best_begin_8 : decode prog_2_method_2_code 8 = .ok (.putfield 16, 3) := by decide +kernel
theorem d_Best_begin_11 : decode prog_2_method_2_code 11 = .ok (.return_, 1) := by decide +kernel
theorem d_Best_offer_0 : decode prog_2_method_3_code 0 = .ok (.iload_n 2, 1) := by decide +kernel
theorem d_Best_offer_1 : decode prog_2_method_3_code 1 = .ok (.aload_n 0, 1) := by decide +kernel
theorem d_Best_offer_2 : decode prog_2_method_3_code 2 = .ok (.getfield 16, 3) := by decide +kernel
theorem d_Best_offer_5 : decode prog_2_method_3_code 5 = .ok (.if_icmp .le 13, 3) := by decide +kernel
theorem d_Best_offer_8 : decode prog_2_method_3_code 8 = .ok (.aload_n 0, 1) := by decide +kernel
theorem d_Best_offer_9 : decode prog_2_method_3_code 9 = .ok (.iload_n 1, 1) := by decide +kernel
theorem d_Best_offer_10 : decode prog_2_method_3_code 10 = .ok (.putfield 10, 3) := by decide +kernel
theorem d_Best_offer_13 : decode prog_2_method_3_code 13 = .ok (.aload_n 0, 1) := by decide +kernel
theorem d_Best_offer_14 : decode prog_2_method_3_code 14 = .ok (.iload_n 2, 1) := by decide +kernel
theorem d_Best_offer_15 : decode prog_2_method_3_code 15 = .ok (.putfield 16, 3) := by decide +kernel
theorem d_Best_offer_18 : decode prog_2_method_3_code 18 = .ok (.return_, 1) := by decide +kernel
theorem d_River_sendAway_0 : decode prog_6_method_7_code 0 = .ok (.iload_n 1, 1) := by decide +kernel
theorem d_River_sendAway_1 : decode prog_6_method_7_code 1 = .ok (.istore_n 2, 1) := by decide +kernel
theorem d_River_sendAway_2 : decode prog_6_method_7_code 2 = .ok (.iload_n 2, 1) := by decide +kernel
theorem d_River_sendAway_3 : decode prog_6_method_7_code 3 = .ok (.aload_n 0, 1) := by decide +kernel
theorem d_River_sendAway_4 : decode prog_6_method_7_code 4 = .ok (.getfield 18, 3) := by decide +kernel
theorem d_River_sendAway_7 : decode prog_6_method_7_code 7 = .ok (.iconst 1, 1) := by decide +kernel
theorem d_River_sendAway_8 : decode prog_6_method_7_code 8 = .ok (.isub, 1) := by decide +kernel
theorem d_River_sendAway_9 : decode prog_6_method_7_code 9 = .ok (.if_icmp .ge 26, 3) := by decide +kernel
theorem d_River_sendAway_12 : decode prog_6_method_7_code 12 = .ok (.aload_n 0, 1) := by decide +kernel
theorem d_River_sendAway_13 : decode prog_6_method_7_code 13 = .ok (.getfield 26, 3) := by decide +kernel
theorem d_River_sendAway_16 : decode prog_6_method_7_code 16 = .ok (.iload_n 2, 1) := by decide +kernel
theorem d_River_sendAway_17 : decode prog_6_method_7_code 17 = .ok (.aaload, 1) := by decide +kernel
theorem d_River_sendAway_18 : decode prog_6_method_7_code 18 = .ok (.aload_n 0, 1) := by decide +kernel
theorem d_River_sendAway_19 : decode prog_6_method_7_code 19 = .ok (.getfield 26, 3) := by decide +kernel
theorem d_River_sendAway_22 : decode prog_6_method_7_code 22 = .ok (.iload_n 2, 1) := by decide +kernel
theorem d_River_sendAway_23 : decode prog_6_method_7_code 23 = .ok (.iconst 1, 1) := by decide +kernel
theorem d_River_sendAway_24 : decode prog_6_method_7_code 24 = .ok (.iadd, 1) := by decide +kernel
theorem d_River_sendAway_25 : decode prog_6_method_7_code 25 = .ok (.aaload, 1) := by decide +kernel
theorem d_River_sendAway_26 : decode prog_6_method_7_code 26 = .ok (.invokevirtual 38, 3) := by decide +kernel
theorem d_River_sendAway_29 : decode prog_6_method_7_code 29 = .ok (.iinc 2 1, 3) := by decide +kernel
theorem d_River_sendAway_32 : decode prog_6_method_7_code 32 = .ok (.goto (-30), 3) := by decide +kernel
theorem d_River_sendAway_35 : decode prog_6_method_7_code 35 = .ok (.aload_n 0, 1) := by decide +kernel
theorem d_River_sendAway_36 : decode prog_6_method_7_code 36 = .ok (.dup, 1) := by decide +kernel
theorem d_River_sendAway_37 : decode prog_6_method_7_code 37 = .ok (.getfield 18, 3) := by decide +kernel
theorem d_River_sendAway_40 : decode prog_6_method_7_code 40 = .ok (.iconst 1, 1) := by decide +kernel
theorem d_River_sendAway_41 : decode prog_6_method_7_code 41 = .ok (.isub, 1) := by decide +kernel
theorem d_River_sendAway_42 : decode prog_6_method_7_code 42 = .ok (.putfield 18, 3) := by decide +kernel
theorem d_River_sendAway_45 : decode prog_6_method_7_code 45 = .ok (.return_, 1) := by decide +kernel
theorem d_Text_append_0 : decode prog_8_method_2_code 0 = .ok (.aload_n 0, 1) := by decide +kernel
theorem d_Text_append_1 : decode prog_8_method_2_code 1 = .ok (.getfield 15, 3) := by decide +kernel
theorem d_Text_append_4 : decode prog_8_method_2_code 4 = .ok (.bipush 120, 2) := by decide +kernel
theorem d_Text_append_6 : decode prog_8_method_2_code 6 = .ok (.if_icmp .ge 27, 3) := by decide +kernel
theorem d_Text_append_9 : decode prog_8_method_2_code 9 = .ok (.aload_n 0, 1) := by decide +kernel
theorem d_Text_append_10 : decode prog_8_method_2_code 10 = .ok (.getfield 9, 3) := by decide +kernel
theorem d_Text_append_13 : decode prog_8_method_2_code 13 = .ok (.aload_n 0, 1) := by decide +kernel
theorem d_Text_append_14 : decode prog_8_method_2_code 14 = .ok (.getfield 15, 3) := by decide +kernel
theorem d_Text_append_17 : decode prog_8_method_2_code 17 = .ok (.iload_n 1, 1) := by decide +kernel
theorem d_Text_append_18 : decode prog_8_method_2_code 18 = .ok (.sipush 255, 3) := by decide +kernel
theorem d_Text_append_21 : decode prog_8_method_2_code 21 = .ok (.iand, 1) := by decide +kernel
theorem d_Text_append_22 : decode prog_8_method_2_code 22 = .ok (.iastore, 1) := by decide +kernel
theorem d_Text_append_23 : decode prog_8_method_2_code 23 = .ok (.aload_n 0, 1) := by decide +kernel
theorem d_Text_append_24 : decode prog_8_method_2_code 24 = .ok (.dup, 1) := by decide +kernel
theorem d_Text_append_25 : decode prog_8_method_2_code 25 = .ok (.getfield 15, 3) := by decide +kernel
theorem d_Text_append_28 : decode prog_8_method_2_code 28 = .ok (.iconst 1, 1) := by decide +kernel
theorem d_Text_append_29 : decode prog_8_method_2_code 29 = .ok (.iadd, 1) := by decide +kernel
theorem d_Text_append_30 : decode prog_8_method_2_code 30 = .ok (.putfield 15, 3) := by decide +kernel
theorem d_Text_append_33 : decode prog_8_method_2_code 33 = .ok (.return_, 1) := by decide +kernel
theorem d_Text_parse_0 : decode prog_8_method_3_code 0 = .ok (.aload_n 0, 1) := by decide +kernel
theorem d_Text_parse_1 : decode prog_8_method_3_code 1 = .ok (.iconst 0, 1) := by decide +kernel
theorem d_Text_parse_2 : decode prog_8_method_3_code 2 = .ok (.putfield 19, 3) := by decide +kernel
theorem d_Text_parse_5 : decode prog_8_method_3_code 5 = .ok (.aload_n 0, 1) := by decide +kernel
theorem d_Text_parse_6 : decode prog_8_method_3_code 6 = .ok (.invokevirtual 22, 3) := by decide +kernel
theorem d_Text_parse_9 : decode prog_8_method_3_code 9 = .ok (.iconst 1, 1) := by decide +kernel
theorem d_Text_parse_10 : decode prog_8_method_3_code 10 = .ok (.istore_n 2, 1) := by decide +kernel
theorem d_Text_parse_11 : decode prog_8_method_3_code 11 = .ok (.iload_n 2, 1) := by decide +kernel
theorem d_Text_parse_12 : decode prog_8_method_3_code 12 = .ok (.bipush 120, 2) := by decide +kernel
theorem d_Text_parse_14 : decode prog_8_method_3_code 14 = .ok (.if_icmp .gt 44, 3) := by decide +kernel
theorem d_Text_parse_17 : decode prog_8_method_3_code 17 = .ok (.aload_n 0, 1) := by decide +kernel
theorem d_Text_parse_18 : decode prog_8_method_3_code 18 = .ok (.aload_n 1, 1) := by decide +kernel
theorem d_Text_parse_19 : decode prog_8_method_3_code 19 = .ok (.invokevirtual 25, 3) := by decide +kernel
theorem d_Text_parse_22 : decode prog_8_method_3_code 22 = .ok (.ifCond .ne 6, 3) := by decide +kernel
theorem d_Text_parse_25 : decode prog_8_method_3_code 25 = .ok (.goto 33, 3) := by decide +kernel
theorem d_Text_parse_28 : decode prog_8_method_3_code 28 = .ok (.aload_n 0, 1) := by decide +kernel
theorem d_Text_parse_29 : decode prog_8_method_3_code 29 = .ok (.getfield 29, 3) := by decide +kernel
theorem d_Text_parse_32 : decode prog_8_method_3_code 32 = .ok (.ifCond .ne 5, 3) := by decide +kernel
theorem d_Text_parse_35 : decode prog_8_method_3_code 35 = .ok (.iload_n 2, 1) := by decide +kernel
theorem d_Text_parse_36 : decode prog_8_method_3_code 36 = .ok (.ireturn, 1) := by decide +kernel
theorem d_Text_parse_37 : decode prog_8_method_3_code 37 = .ok (.aload_n 0, 1) := by decide +kernel
theorem d_Text_parse_38 : decode prog_8_method_3_code 38 = .ok (.getfield 29, 3) := by decide +kernel
theorem d_Text_parse_41 : decode prog_8_method_3_code 41 = .ok (.iconst 3, 1) := by decide +kernel
theorem d_Text_parse_42 : decode prog_8_method_3_code 42 = .ok (.if_icmp .eq 6, 3) := by decide +kernel
theorem d_Text_parse_45 : decode prog_8_method_3_code 45 = .ok (.goto 13, 3) := by decide +kernel
theorem d_Text_parse_48 : decode prog_8_method_3_code 48 = .ok (.aload_n 0, 1) := by decide +kernel
theorem d_Text_parse_49 : decode prog_8_method_3_code 49 = .ok (.invokevirtual 22, 3) := by decide +kernel
theorem d_Text_parse_52 : decode prog_8_method_3_code 52 = .ok (.iinc 2 1, 3) := by decide +kernel
theorem d_Text_parse_55 : decode prog_8_method_3_code 55 = .ok (.goto (-44), 3) := by decide +kernel
theorem d_Text_parse_58 : decode prog_8_method_3_code 58 = .ok (.iconst (-1), 1) := by decide +kernel
theorem d_Text_parse_59 : decode prog_8_method_3_code 59 = .ok (.aload_n 0, 1) := by decide +kernel
theorem d_Text_parse_60 : decode prog_8_method_3_code 60 = .ok (.getfield 32, 3) := by decide +kernel
theorem d_Text_parse_63 : decode prog_8_method_3_code 63 = .ok (.isub, 1) := by decide +kernel
theorem d_Text_parse_64 : decode prog_8_method_3_code 64 = .ok (.ireturn, 1) := by decide +kernel
theorem d_Text_step_0 : decode prog_8_method_12_code 0 = .ok (.aload_n 0, 1) := by decide +kernel
theorem d_Text_step_1 : decode prog_8_method_12_code 1 = .ok (.aload_n 0, 1) := by decide +kernel
theorem d_Text_step_2 : decode prog_8_method_12_code 2 = .ok (.getfield 19, 3) := by decide +kernel
theorem d_Text_step_5 : decode prog_8_method_12_code 5 = .ok (.putfield 32, 3) := by decide +kernel
theorem d_Text_step_8 : decode prog_8_method_12_code 8 = .ok (.aload_n 0, 1) := by decide +kernel
theorem d_Text_step_9 : decode prog_8_method_12_code 9 = .ok (.getfield 32, 3) := by decide +kernel
theorem d_Text_step_12 : decode prog_8_method_12_code 12 = .ok (.aload_n 0, 1) := by decide +kernel
theorem d_Text_step_13 : decode prog_8_method_12_code 13 = .ok (.getfield 15, 3) := by decide +kernel
theorem d_Text_step_16 : decode prog_8_method_12_code 16 = .ok (.if_icmp .ge 30, 3) := by decide +kernel
theorem d_Text_step_19 : decode prog_8_method_12_code 19 = .ok (.aload_n 0, 1) := by decide +kernel
theorem d_Text_step_20 : decode prog_8_method_12_code 20 = .ok (.getfield 9, 3) := by decide +kernel
theorem d_Text_step_23 : decode prog_8_method_12_code 23 = .ok (.aload_n 0, 1) := by decide +kernel
theorem d_Text_step_24 : decode prog_8_method_12_code 24 = .ok (.getfield 32, 3) := by decide +kernel
theorem d_Text_step_27 : decode prog_8_method_12_code 27 = .ok (.iaload, 1) := by decide +kernel
theorem d_Text_step_28 : decode prog_8_method_12_code 28 = .ok (.bipush 32, 2) := by decide +kernel
theorem d_Text_step_30 : decode prog_8_method_12_code 30 = .ok (.if_icmp .ne 16, 3) := by decide +kernel
theorem d_Text_step_33 : decode prog_8_method_12_code 33 = .ok (.aload_n 0, 1) := by decide +kernel
theorem d_Text_step_34 : decode prog_8_method_12_code 34 = .ok (.dup, 1) := by decide +kernel
theorem d_Text_step_35 : decode prog_8_method_12_code 35 = .ok (.getfield 32, 3) := by decide +kernel
theorem d_Text_step_38 : decode prog_8_method_12_code 38 = .ok (.iconst 1, 1) := by decide +kernel
theorem d_Text_step_39 : decode prog_8_method_12_code 39 = .ok (.iadd, 1) := by decide +kernel
theorem d_Text_step_40 : decode prog_8_method_12_code 40 = .ok (.putfield 32, 3) := by decide +kernel
theorem d_Text_step_43 : decode prog_8_method_12_code 43 = .ok (.goto (-35), 3) := by decide +kernel
theorem d_Text_step_46 : decode prog_8_method_12_code 46 = .ok (.aload_n 0, 1) := by decide +kernel
theorem d_Text_step_47 : decode prog_8_method_12_code 47 = .ok (.aload_n 0, 1) := by decide +kernel
theorem d_Text_step_48 : decode prog_8_method_12_code 48 = .ok (.getfield 32, 3) := by decide +kernel
theorem d_Text_step_51 : decode prog_8_method_12_code 51 = .ok (.putfield 19, 3) := by decide +kernel
theorem d_Text_step_54 : decode prog_8_method_12_code 54 = .ok (.aload_n 0, 1) := by decide +kernel
theorem d_Text_step_55 : decode prog_8_method_12_code 55 = .ok (.getfield 32, 3) := by decide +kernel
theorem d_Text_step_58 : decode prog_8_method_12_code 58 = .ok (.aload_n 0, 1) := by decide +kernel
theorem d_Text_step_59 : decode prog_8_method_12_code 59 = .ok (.getfield 15, 3) := by decide +kernel
theorem d_Text_step_62 : decode prog_8_method_12_code 62 = .ok (.if_icmp .lt 11, 3) := by decide +kernel
theorem d_Text_step_65 : decode prog_8_method_12_code 65 = .ok (.aload_n 0, 1) := by decide +kernel
theorem d_Text_step_66 : decode prog_8_method_12_code 66 = .ok (.iconst 0, 1) := by decide +kernel
theorem d_Text_step_67 : decode prog_8_method_12_code 67 = .ok (.putfield 29, 3) := by decide +kernel
theorem d_Text_step_70 : decode prog_8_method_12_code 70 = .ok (.goto 189, 3) := by decide +kernel
theorem d_Text_step_73 : decode prog_8_method_12_code 73 = .ok (.aload_n 0, 1) := by decide +kernel
theorem d_Text_step_74 : decode prog_8_method_12_code 74 = .ok (.getfield 9, 3) := by decide +kernel
theorem d_Text_step_77 : decode prog_8_method_12_code 77 = .ok (.aload_n 0, 1) := by decide +kernel
theorem d_Text_step_78 : decode prog_8_method_12_code 78 = .ok (.getfield 32, 3) := by decide +kernel
theorem d_Text_step_81 : decode prog_8_method_12_code 81 = .ok (.iaload, 1) := by decide +kernel
theorem d_Text_step_82 : decode prog_8_method_12_code 82 = .ok (.invokestatic 133, 3) := by decide +kernel
theorem d_Text_step_85 : decode prog_8_method_12_code 85 = .ok (.ifCond .eq 47, 3) := by decide +kernel
theorem d_Text_step_88 : decode prog_8_method_12_code 88 = .ok (.aload_n 0, 1) := by decide +kernel
theorem d_Text_step_89 : decode prog_8_method_12_code 89 = .ok (.iconst 1, 1) := by decide +kernel
theorem d_Text_step_90 : decode prog_8_method_12_code 90 = .ok (.putfield 29, 3) := by decide +kernel
theorem d_Text_step_93 : decode prog_8_method_12_code 93 = .ok (.aload_n 0, 1) := by decide +kernel
theorem d_Text_step_94 : decode prog_8_method_12_code 94 = .ok (.getfield 19, 3) := by decide +kernel
theorem d_Text_step_97 : decode prog_8_method_12_code 97 = .ok (.aload_n 0, 1) := by decide +kernel
theorem d_Text_step_98 : decode prog_8_method_12_code 98 = .ok (.getfield 15, 3) := by decide +kernel
theorem d_Text_step_101 : decode prog_8_method_12_code 101 = .ok (.if_icmp .ge 158, 3) := by decide +kernel
theorem d_Text_step_104 : decode prog_8_method_12_code 104 = .ok (.aload_n 0, 1) := by decide +kernel
theorem d_Text_step_105 : decode prog_8_method_12_code 105 = .ok (.getfield 9, 3) := by decide +kernel
theorem d_Text_step_108 : decode prog_8_method_12_code 108 = .ok (.aload_n 0, 1) := by decide +kernel
theorem d_Text_step_109 : decode prog_8_method_12_code 109 = .ok (.getfield 19, 3) := by decide +kernel
theorem d_Text_step_112 : decode prog_8_method_12_code 112 = .ok (.iaload, 1) := by decide +kernel
theorem d_Text_step_113 : decode prog_8_method_12_code 113 = .ok (.invokestatic 133, 3) := by decide +kernel
theorem d_Text_step_116 : decode prog_8_method_12_code 116 = .ok (.ifCond .eq 143, 3) := by decide +kernel
theorem d_Text_step_119 : decode prog_8_method_12_code 119 = .ok (.aload_n 0, 1) := by decide +kernel
theorem d_Text_step_120 : decode prog_8_method_12_code 120 = .ok (.dup, 1) := by decide +kernel
theorem d_Text_step_121 : decode prog_8_method_12_code 121 = .ok (.getfield 19, 3) := by decide +kernel
theorem d_Text_step_124 : decode prog_8_method_12_code 124 = .ok (.iconst 1, 1) := by decide +kernel
theorem d_Text_step_125 : decode prog_8_method_12_code 125 = .ok (.iadd, 1) := by decide +kernel
theorem d_Text_step_126 : decode prog_8_method_12_code 126 = .ok (.putfield 19, 3) := by decide +kernel
theorem d_Text_step_129 : decode prog_8_method_12_code 129 = .ok (.goto (-36), 3) := by decide +kernel
theorem d_Text_step_132 : decode prog_8_method_12_code 132 = .ok (.aload_n 0, 1) := by decide +kernel
theorem d_Text_step_133 : decode prog_8_method_12_code 133 = .ok (.getfield 9, 3) := by decide +kernel
theorem d_Text_step_136 : decode prog_8_method_12_code 136 = .ok (.aload_n 0, 1) := by decide +kernel
theorem d_Text_step_137 : decode prog_8_method_12_code 137 = .ok (.getfield 32, 3) := by decide +kernel
theorem d_Text_step_140 : decode prog_8_method_12_code 140 = .ok (.iaload, 1) := by decide +kernel
theorem d_Text_step_141 : decode prog_8_method_12_code 141 = .ok (.invokestatic 136, 3) := by decide +kernel
theorem d_Text_step_144 : decode prog_8_method_12_code 144 = .ok (.ifCond .eq 82, 3) := by decide +kernel
theorem d_Text_step_147 : decode prog_8_method_12_code 147 = .ok (.aload_n 0, 1) := by decide +kernel
theorem d_Text_step_148 : decode prog_8_method_12_code 148 = .ok (.iconst 2, 1) := by decide +kernel
theorem d_Text_step_149 : decode prog_8_method_12_code 149 = .ok (.putfield 29, 3) := by decide +kernel
theorem d_Text_step_152 : decode prog_8_method_12_code 152 = .ok (.aload_n 0, 1) := by decide +kernel
theorem d_Text_step_153 : decode prog_8_method_12_code 153 = .ok (.iconst 0, 1) := by decide +kernel
theorem d_Text_step_154 : decode prog_8_method_12_code 154 = .ok (.putfield 130, 3) := by decide +kernel
theorem d_Text_step_157 : decode prog_8_method_12_code 157 = .ok (.aload_n 0, 1) := by decide +kernel
theorem d_Text_step_158 : decode prog_8_method_12_code 158 = .ok (.getfield 19, 3) := by decide +kernel
theorem d_Text_step_161 : decode prog_8_method_12_code 161 = .ok (.aload_n 0, 1) := by decide +kernel
theorem d_Text_step_162 : decode prog_8_method_12_code 162 = .ok (.getfield 15, 3) := by decide +kernel
theorem d_Text_step_165 : decode prog_8_method_12_code 165 = .ok (.if_icmp .ge 94, 3) := by decide +kernel
theorem d_Text_step_168 : decode prog_8_method_12_code 168 = .ok (.aload_n 0, 1) := by decide +kernel
theorem d_Text_step_169 : decode prog_8_method_12_code 169 = .ok (.getfield 9, 3) := by decide +kernel
theorem d_Text_step_172 : decode prog_8_method_12_code 172 = .ok (.aload_n 0, 1) := by decide +kernel
theorem d_Text_step_173 : decode prog_8_method_12_code 173 = .ok (.getfield 19, 3) := by decide +kernel
theorem d_Text_step_176 : decode prog_8_method_12_code 176 = .ok (.iaload, 1) := by decide +kernel
theorem d_Text_step_177 : decode prog_8_method_12_code 177 = .ok (.invokestatic 136, 3) := by decide +kernel
theorem d_Text_step_180 : decode prog_8_method_12_code 180 = .ok (.ifCond .eq 79, 3) := by decide +kernel
theorem d_Text_step_183 : decode prog_8_method_12_code 183 = .ok (.aload_n 0, 1) := by decide +kernel
theorem d_Text_step_184 : decode prog_8_method_12_code 184 = .ok (.bipush 10, 2) := by decide +kernel
theorem d_Text_step_186 : decode prog_8_method_12_code 186 = .ok (.aload_n 0, 1) := by decide +kernel
theorem d_Text_step_187 : decode prog_8_method_12_code 187 = .ok (.getfield 130, 3) := by decide +kernel
theorem d_Text_step_190 : decode prog_8_method_12_code 190 = .ok (.imul, 1) := by decide +kernel
theorem d_Text_step_191 : decode prog_8_method_12_code 191 = .ok (.aload_n 0, 1) := by decide +kernel
theorem d_Text_step_192 : decode prog_8_method_12_code 192 = .ok (.getfield 9, 3) := by decide +kernel
theorem d_Text_step_195 : decode prog_8_method_12_code 195 = .ok (.aload_n 0, 1) := by decide +kernel
theorem d_Text_step_196 : decode prog_8_method_12_code 196 = .ok (.getfield 19, 3) := by decide +kernel
theorem d_Text_step_199 : decode prog_8_method_12_code 199 = .ok (.iaload, 1) := by decide +kernel
theorem d_Text_step_200 : decode prog_8_method_12_code 200 = .ok (.iadd, 1) := by decide +kernel
theorem d_Text_step_201 : decode prog_8_method_12_code 201 = .ok (.bipush 48, 2) := by decide +kernel
theorem d_Text_step_203 : decode prog_8_method_12_code 203 = .ok (.isub, 1) := by decide +kernel
theorem d_Text_step_204 : decode prog_8_method_12_code 204 = .ok (.sipush 10000, 3) := by decide +kernel
theorem d_Text_step_207 : decode prog_8_method_12_code 207 = .ok (.invokestatic 139, 3) := by decide +kernel
theorem d_Text_step_210 : decode prog_8_method_12_code 210 = .ok (.putfield 130, 3) := by decide +kernel
theorem d_Text_step_213 : decode prog_8_method_12_code 213 = .ok (.aload_n 0, 1) := by decide +kernel
theorem d_Text_step_214 : decode prog_8_method_12_code 214 = .ok (.dup, 1) := by decide +kernel
theorem d_Text_step_215 : decode prog_8_method_12_code 215 = .ok (.getfield 19, 3) := by decide +kernel
theorem d_Text_step_218 : decode prog_8_method_12_code 218 = .ok (.iconst 1, 1) := by decide +kernel
theorem d_Text_step_219 : decode prog_8_method_12_code 219 = .ok (.iadd, 1) := by decide +kernel
theorem d_Text_step_220 : decode prog_8_method_12_code 220 = .ok (.putfield 19, 3) := by decide +kernel
theorem d_Text_step_223 : decode prog_8_method_12_code 223 = .ok (.goto (-66), 3) := by decide +kernel
theorem d_Text_step_226 : decode prog_8_method_12_code 226 = .ok (.aload_n 0, 1) := by decide +kernel
theorem d_Text_step_227 : decode prog_8_method_12_code 227 = .ok (.aload_n 0, 1) := by decide +kernel
theorem d_Text_step_228 : decode prog_8_method_12_code 228 = .ok (.getfield 9, 3) := by decide +kernel
theorem d_Text_step_231 : decode prog_8_method_12_code 231 = .ok (.aload_n 0, 1) := by decide +kernel
theorem d_Text_step_232 : decode prog_8_method_12_code 232 = .ok (.getfield 32, 3) := by decide +kernel
theorem d_Text_step_235 : decode prog_8_method_12_code 235 = .ok (.iaload, 1) := by decide +kernel
theorem d_Text_step_236 : decode prog_8_method_12_code 236 = .ok (.bipush 59, 2) := by decide +kernel
theorem d_Text_step_238 : decode prog_8_method_12_code 238 = .ok (.if_icmp .ne 7, 3) := by decide +kernel
theorem d_Text_step_241 : decode prog_8_method_12_code 241 = .ok (.iconst 3, 1) := by decide +kernel
theorem d_Text_step_242 : decode prog_8_method_12_code 242 = .ok (.goto 4, 3) := by decide +kernel
theorem d_Text_step_245 : decode prog_8_method_12_code 245 = .ok (.iconst 4, 1) := by decide +kernel
theorem d_Text_step_246 : decode prog_8_method_12_code 246 = .ok (.putfield 29, 3) := by decide +kernel
theorem d_Text_step_249 : decode prog_8_method_12_code 249 = .ok (.aload_n 0, 1) := by decide +kernel
theorem d_Text_step_250 : decode prog_8_method_12_code 250 = .ok (.aload_n 0, 1) := by decide +kernel
theorem d_Text_step_251 : decode prog_8_method_12_code 251 = .ok (.getfield 32, 3) := by decide +kernel
theorem d_Text_step_254 : decode prog_8_method_12_code 254 = .ok (.iconst 1, 1) := by decide +kernel
theorem d_Text_step_255 : decode prog_8_method_12_code 255 = .ok (.iadd, 1) := by decide +kernel
theorem d_Text_step_256 : decode prog_8_method_12_code 256 = .ok (.putfield 19, 3) := by decide +kernel
theorem d_Text_step_259 : decode prog_8_method_12_code 259 = .ok (.return_, 1) := by decide +kernel
theorem d_Text_isLetter_0 : decode prog_8_method_13_code 0 = .ok (.iload_n 0, 1) := by decide +kernel
theorem d_Text_isLetter_1 : decode prog_8_method_13_code 1 = .ok (.bipush 97, 2) := by decide +kernel
theorem d_Text_isLetter_3 : decode prog_8_method_13_code 3 = .ok (.if_icmp .lt 13, 3) := by decide +kernel
theorem d_Text_isLetter_6 : decode prog_8_method_13_code 6 = .ok (.iload_n 0, 1) := by decide +kernel
theorem d_Text_isLetter_7 : decode prog_8_method_13_code 7 = .ok (.bipush 122, 2) := by decide +kernel
theorem d_Text_isLetter_9 : decode prog_8_method_13_code 9 = .ok (.if_icmp .gt 7, 3) := by decide +kernel
theorem d_Text_isLetter_12 : decode prog_8_method_13_code 12 = .ok (.iconst 1, 1) := by decide +kernel
theorem d_Text_isLetter_13 : decode prog_8_method_13_code 13 = .ok (.goto 4, 3) := by decide +kernel
theorem d_Text_isLetter_16 : decode prog_8_method_13_code 16 = .ok (.iconst 0, 1) := by decide +kernel
theorem d_Text_isLetter_17 : decode prog_8_method_13_code 17 = .ok (.ireturn, 1) := by decide +kernel
theorem d_Text_isDigit_0 : decode prog_8_method_14_code 0 = .ok (.iload_n 0, 1) := by decide +kernel
theorem d_Text_isDigit_1 : decode prog_8_method_14_code 1 = .ok (.bipush 48, 2) := by decide +kernel
theorem d_Text_isDigit_3 : decode prog_8_method_14_code 3 = .ok (.if_icmp .lt 13, 3) := by decide +kernel
theorem d_Text_isDigit_6 : decode prog_8_method_14_code 6 = .ok (.iload_n 0, 1) := by decide +kernel
theorem d_Text_isDigit_7 : decode prog_8_method_14_code 7 = .ok (.bipush 57, 2) := by decide +kernel
theorem d_Text_isDigit_9 : decode prog_8_method_14_code 9 = .ok (.if_icmp .gt 7, 3) := by decide +kernel
theorem d_Text_isDigit_12 : decode prog_8_method_14_code 12 = .ok (.iconst 1, 1) := by decide +kernel
theorem d_Text_isDigit_13 : decode prog_8_method_14_code 13 = .ok (.goto 4, 3) := by decide +kernel
theorem d_Text_isDigit_16 : decode prog_8_method_14_code 16 = .ok (.iconst 0, 1) := by decide +kernel
theorem d_Text_isDigit_17 : decode prog_8_method_14_code 17 = .ok (.ireturn, 1) := by decide +kernel
theorem d_Text_parseItem_0 : decode prog_8_method_4_code 0 = .ok (.aload_n 0, 1) := by decide +kernel
theorem d_Text_parseItem_1 : decode prog_8_method_4_code 1 = .ok (.ldc 35, 2) := by decide +kernel
theorem d_Text_parseItem_3 : decode prog_8_method_4_code 3 = .ok (.invokevirtual 37, 3) := by decide +kernel
theorem d_Text_parseItem_6 : decode prog_8_method_4_code 6 = .ok (.ifCond .eq 9, 3) := by decide +kernel
theorem d_Text_parseItem_9 : decode prog_8_method_4_code 9 = .ok (.aload_n 0, 1) := by decide +kernel
theorem d_Text_parseItem_10 : decode prog_8_method_4_code 10 = .ok (.aload_n 1, 1) := by decide +kernel
theorem d_Text_parseItem_11 : decode prog_8_method_4_code 11 = .ok (.invokevirtual 41, 3) := by decide +kernel
theorem d_Text_parseItem_14 : decode prog_8_method_4_code 14 = .ok (.ireturn, 1) := by decide +kernel
theorem d_Text_parseItem_15 : decode prog_8_method_4_code 15 = .ok (.aload_n 0, 1) := by decide +kernel
theorem d_Text_parseItem_16 : decode prog_8_method_4_code 16 = .ok (.ldc 44, 2) := by decide +kernel
theorem d_Text_parseItem_18 : decode prog_8_method_4_code 18 = .ok (.invokevirtual 46, 3) := by decide +kernel
theorem d_Text_parseItem_21 : decode prog_8_method_4_code 21 = .ok (.ifCond .eq 9, 3) := by decide +kernel
theorem d_Text_parseItem_24 : decode prog_8_method_4_code 24 = .ok (.aload_n 0, 1) := by decide +kernel
theorem d_Text_parseItem_25 : decode prog_8_method_4_code 25 = .ok (.aload_n 1, 1) := by decide +kernel
theorem d_Text_parseItem_26 : decode prog_8_method_4_code 26 = .ok (.invokevirtual 49, 3) := by decide +kernel
theorem d_Text_parseItem_29 : decode prog_8_method_4_code 29 = .ok (.ireturn, 1) := by decide +kernel
theorem d_Text_parseItem_30 : decode prog_8_method_4_code 30 = .ok (.iconst 0, 1) := by decide +kernel
theorem d_Text_parseItem_31 : decode prog_8_method_4_code 31 = .ok (.istore_n 2, 1) := by decide +kernel
theorem d_Text_parseItem_32 : decode prog_8_method_4_code 32 = .ok (.iload_n 2, 1) := by decide +kernel
theorem d_Text_parseItem_33 : decode prog_8_method_4_code 33 = .ok (.iconst 5, 1) := by decide +kernel
theorem d_Text_parseItem_34 : decode prog_8_method_4_code 34 = .ok (.if_icmp .gt 27, 3) := by decide +kernel
theorem d_Text_parseItem_37 : decode prog_8_method_4_code 37 = .ok (.aload_n 0, 1) := by decide +kernel
theorem d_Text_parseItem_38 : decode prog_8_method_4_code 38 = .ok (.iload_n 2, 1) := by decide +kernel
theorem d_Text_parseItem_39 : decode prog_8_method_4_code 39 = .ok (.invokestatic 52, 3) := by decide +kernel
theorem d_Text_parseItem_42 : decode prog_8_method_4_code 42 = .ok (.invokevirtual 46, 3) := by decide +kernel
theorem d_Text_parseItem_45 : decode prog_8_method_4_code 45 = .ok (.ifCond .eq 10, 3) := by decide +kernel
theorem d_Text_parseItem_48 : decode prog_8_method_4_code 48 = .ok (.aload_n 0, 1) := by decide +kernel
theorem d_Text_parseItem_49 : decode prog_8_method_4_code 49 = .ok (.aload_n 1, 1) := by decide +kernel
theorem d_Text_parseItem_50 : decode prog_8_method_4_code 50 = .ok (.iload_n 2, 1) := by decide +kernel
theorem d_Text_parseItem_51 : decode prog_8_method_4_code 51 = .ok (.invokevirtual 56, 3) := by decide +kernel
theorem d_Text_parseItem_54 : decode prog_8_method_4_code 54 = .ok (.ireturn, 1) := by decide +kernel
theorem d_Text_parseItem_55 : decode prog_8_method_4_code 55 = .ok (.iinc 2 1, 3) := by decide +kernel
theorem d_Text_parseItem_58 : decode prog_8_method_4_code 58 = .ok (.goto (-26), 3) := by decide +kernel
theorem d_Text_parseItem_61 : decode prog_8_method_4_code 61 = .ok (.iconst 0, 1) := by decide +kernel
theorem d_Text_parseItem_62 : decode prog_8_method_4_code 62 = .ok (.ireturn, 1) := by decide +kernel
theorem d_Text_takes_0 : decode prog_8_method_9_code 0 = .ok (.aload_n 0, 1) := by decide +kernel
theorem d_Text_takes_1 : decode prog_8_method_9_code 1 = .ok (.aload_n 1, 1) := by decide +kernel
theorem d_Text_takes_2 : decode prog_8_method_9_code 2 = .ok (.invokevirtual 46, 3) := by decide +kernel
theorem d_Text_takes_5 : decode prog_8_method_9_code 5 = .ok (.ifCond .ne 5, 3) := by decide +kernel
theorem d_Text_takes_8 : decode prog_8_method_9_code 8 = .ok (.iconst 0, 1) := by decide +kernel
theorem d_Text_takes_9 : decode prog_8_method_9_code 9 = .ok (.ireturn, 1) := by decide +kernel
theorem d_Text_takes_10 : decode prog_8_method_9_code 10 = .ok (.aload_n 0, 1) := by decide +kernel
theorem d_Text_takes_11 : decode prog_8_method_9_code 11 = .ok (.invokevirtual 22, 3) := by decide +kernel
theorem d_Text_takes_14 : decode prog_8_method_9_code 14 = .ok (.iconst 1, 1) := by decide +kernel
theorem d_Text_takes_15 : decode prog_8_method_9_code 15 = .ok (.ireturn, 1) := by decide +kernel
theorem d_Text_isWord_0 : decode prog_8_method_10_code 0 = .ok (.aload_n 0, 1) := by decide +kernel
theorem d_Text_isWord_1 : decode prog_8_method_10_code 1 = .ok (.getfield 29, 3) := by decide +kernel
theorem d_Text_isWord_4 : decode prog_8_method_10_code 4 = .ok (.iconst 1, 1) := by decide +kernel
theorem d_Text_isWord_5 : decode prog_8_method_10_code 5 = .ok (.if_icmp .ne 19, 3) := by decide +kernel
theorem d_Text_isWord_8 : decode prog_8_method_10_code 8 = .ok (.aload_n 0, 1) := by decide +kernel
theorem d_Text_isWord_9 : decode prog_8_method_10_code 9 = .ok (.getfield 19, 3) := by decide +kernel
theorem d_Text_isWord_12 : decode prog_8_method_10_code 12 = .ok (.aload_n 0, 1) := by decide +kernel
theorem d_Text_isWord_13 : decode prog_8_method_10_code 13 = .ok (.getfield 32, 3) := by decide +kernel
theorem d_Text_isWord_16 : decode prog_8_method_10_code 16 = .ok (.isub, 1) := by decide +kernel
theorem d_Text_isWord_17 : decode prog_8_method_10_code 17 = .ok (.aload_n 1, 1) := by decide +kernel
theorem d_Text_isWord_18 : decode prog_8_method_10_code 18 = .ok (.invokevirtual 121, 3) := by decide +kernel
theorem d_Text_isWord_21 : decode prog_8_method_10_code 21 = .ok (.if_icmp .eq 5, 3) := by decide +kernel
theorem d_Text_isWord_24 : decode prog_8_method_10_code 24 = .ok (.iconst 0, 1) := by decide +kernel
theorem d_Text_isWord_25 : decode prog_8_method_10_code 25 = .ok (.ireturn, 1) := by decide +kernel
theorem d_Text_isWord_26 : decode prog_8_method_10_code 26 = .ok (.iconst 0, 1) := by decide +kernel
theorem d_Text_isWord_27 : decode prog_8_method_10_code 27 = .ok (.istore_n 2, 1) := by decide +kernel
theorem d_Text_isWord_28 : decode prog_8_method_10_code 28 = .ok (.iload_n 2, 1) := by decide +kernel
theorem d_Text_isWord_29 : decode prog_8_method_10_code 29 = .ok (.aload_n 1, 1) := by decide +kernel
theorem d_Text_isWord_30 : decode prog_8_method_10_code 30 = .ok (.invokevirtual 121, 3) := by decide +kernel
theorem d_Text_isWord_33 : decode prog_8_method_10_code 33 = .ok (.if_icmp .ge 30, 3) := by decide +kernel
theorem d_Text_isWord_36 : decode prog_8_method_10_code 36 = .ok (.aload_n 0, 1) := by decide +kernel
theorem d_Text_isWord_37 : decode prog_8_method_10_code 37 = .ok (.getfield 9, 3) := by decide +kernel
theorem d_Text_isWord_40 : decode prog_8_method_10_code 40 = .ok (.aload_n 0, 1) := by decide +kernel
theorem d_Text_isWord_41 : decode prog_8_method_10_code 41 = .ok (.getfield 32, 3) := by decide +kernel
theorem d_Text_isWord_44 : decode prog_8_method_10_code 44 = .ok (.iload_n 2, 1) := by decide +kernel
theorem d_Text_isWord_45 : decode prog_8_method_10_code 45 = .ok (.iadd, 1) := by decide +kernel
theorem d_Text_isWord_46 : decode prog_8_method_10_code 46 = .ok (.iaload, 1) := by decide +kernel
theorem d_Text_isWord_47 : decode prog_8_method_10_code 47 = .ok (.aload_n 1, 1) := by decide +kernel
theorem d_Text_isWord_48 : decode prog_8_method_10_code 48 = .ok (.iload_n 2, 1) := by decide +kernel
theorem d_Text_isWord_49 : decode prog_8_method_10_code 49 = .ok (.invokevirtual 126, 3) := by decide +kernel
theorem d_Text_isWord_52 : decode prog_8_method_10_code 52 = .ok (.if_icmp .eq 5, 3) := by decide +kernel
theorem d_Text_isWord_55 : decode prog_8_method_10_code 55 = .ok (.iconst 0, 1) := by decide +kernel
theorem d_Text_isWord_56 : decode prog_8_method_10_code 56 = .ok (.ireturn, 1) := by decide +kernel
theorem d_Text_isWord_57 : decode prog_8_method_10_code 57 = .ok (.iinc 2 1, 3) := by decide +kernel
theorem d_Text_isWord_60 : decode prog_8_method_10_code 60 = .ok (.goto (-32), 3) := by decide +kernel
theorem d_Text_isWord_63 : decode prog_8_method_10_code 63 = .ok (.iconst 1, 1) := by decide +kernel
theorem d_Text_isWord_64 : decode prog_8_method_10_code 64 = .ok (.ireturn, 1) := by decide +kernel
theorem d_Str_length_0 : decode prog_13_method_54_code 0 = .ok (.aload_n 0, 1) := by decide +kernel
theorem d_Str_length_1 : decode prog_13_method_54_code 1 = .ok (.getfield 9, 3) := by decide +kernel
theorem d_Str_length_4 : decode prog_13_method_54_code 4 = .ok (.arraylength, 1) := by decide +kernel
theorem d_Str_length_5 : decode prog_13_method_54_code 5 = .ok (.aload_n 0, 1) := by decide +kernel
theorem d_Str_length_6 : decode prog_13_method_54_code 6 = .ok (.invokevirtual 335, 3) := by decide +kernel
theorem d_Str_length_9 : decode prog_13_method_54_code 9 = .ok (.ishr, 1) := by decide +kernel
theorem d_Str_length_10 : decode prog_13_method_54_code 10 = .ok (.ireturn, 1) := by decide +kernel
theorem d_Str_coder_0 : decode prog_13_method_152_code 0 = .ok (.getstatic 38, 3) := by decide +kernel
theorem d_Str_coder_3 : decode prog_13_method_152_code 3 = .ok (.ifCond .eq 10, 3) := by decide +kernel
theorem d_Str_coder_6 : decode prog_13_method_152_code 6 = .ok (.aload_n 0, 1) := by decide +kernel
theorem d_Str_coder_7 : decode prog_13_method_152_code 7 = .ok (.getfield 15, 3) := by decide +kernel
theorem d_Str_coder_10 : decode prog_13_method_152_code 10 = .ok (.goto 4, 3) := by decide +kernel
theorem d_Str_coder_13 : decode prog_13_method_152_code 13 = .ok (.iconst 1, 1) := by decide +kernel
theorem d_Str_coder_14 : decode prog_13_method_152_code 14 = .ok (.ireturn, 1) := by decide +kernel
theorem d_Str_charAt_0 : decode prog_13_method_56_code 0 = .ok (.aload_n 0, 1) := by decide +kernel
theorem d_Str_charAt_1 : decode prog_13_method_56_code 1 = .ok (.invokevirtual 492, 3) := by decide +kernel
theorem d_Str_charAt_4 : decode prog_13_method_56_code 4 = .ok (.ifCond .eq 12, 3) := by decide +kernel
theorem d_Str_charAt_7 : decode prog_13_method_56_code 7 = .ok (.aload_n 0, 1) := by decide +kernel
theorem d_Str_charAt_8 : decode prog_13_method_56_code 8 = .ok (.getfield 9, 3) := by decide +kernel
theorem d_Str_charAt_11 : decode prog_13_method_56_code 11 = .ok (.iload_n 1, 1) := by decide +kernel
theorem d_Str_charAt_12 : decode prog_13_method_56_code 12 = .ok (.invokestatic 495, 3) := by decide +kernel
theorem d_Str_charAt_15 : decode prog_13_method_56_code 15 = .ok (.ireturn, 1) := by decide +kernel
theorem d_Str_charAt_16 : decode prog_13_method_56_code 16 = .ok (.aload_n 0, 1) := by decide +kernel
theorem d_Str_charAt_17 : decode prog_13_method_56_code 17 = .ok (.getfield 9, 3) := by decide +kernel
theorem d_Str_charAt_20 : decode prog_13_method_56_code 20 = .ok (.iload_n 1, 1) := by decide +kernel
theorem d_Str_charAt_21 : decode prog_13_method_56_code 21 = .ok (.invokestatic 498, 3) := by decide +kernel
theorem d_Str_charAt_24 : decode prog_13_method_56_code 24 = .ok (.ireturn, 1) := by decide +kernel
theorem d_Str_isLatin1_0 : decode prog_13_method_154_code 0 = .ok (.getstatic 38, 3) := by decide +kernel
theorem d_Str_isLatin1_3 : decode prog_13_method_154_code 3 = .ok (.ifCond .eq 14, 3) := by decide +kernel
theorem d_Str_isLatin1_6 : decode prog_13_method_154_code 6 = .ok (.aload_n 0, 1) := by decide +kernel
theorem d_Str_isLatin1_7 : decode prog_13_method_154_code 7 = .ok (.getfield 15, 3) := by decide +kernel
theorem d_Str_isLatin1_10 : decode prog_13_method_154_code 10 = .ok (.ifCond .ne 7, 3) := by decide +kernel
theorem d_Str_isLatin1_13 : decode prog_13_method_154_code 13 = .ok (.iconst 1, 1) := by decide +kernel
theorem d_Str_isLatin1_14 : decode prog_13_method_154_code 14 = .ok (.goto 4, 3) := by decide +kernel
theorem d_Str_isLatin1_17 : decode prog_13_method_154_code 17 = .ok (.iconst 0, 1) := by decide +kernel
theorem d_Str_isLatin1_18 : decode prog_13_method_154_code 18 = .ok (.ireturn, 1) := by decide +kernel
theorem d_Lat_charAt_0 : decode prog_14_method_2_code 0 = .ok (.iload_n 1, 1) := by decide +kernel
theorem d_Lat_charAt_1 : decode prog_14_method_2_code 1 = .ok (.aload_n 0, 1) := by decide +kernel
theorem d_Lat_charAt_2 : decode prog_14_method_2_code 2 = .ok (.arraylength, 1) := by decide +kernel
theorem d_Lat_charAt_3 : decode prog_14_method_2_code 3 = .ok (.invokestatic 9, 3) := by decide +kernel
theorem d_Lat_charAt_6 : decode prog_14_method_2_code 6 = .ok (.aload_n 0, 1) := by decide +kernel
theorem d_Lat_charAt_7 : decode prog_14_method_2_code 7 = .ok (.iload_n 1, 1) := by decide +kernel
theorem d_Lat_charAt_8 : decode prog_14_method_2_code 8 = .ok (.baload, 1) := by decide +kernel
theorem d_Lat_charAt_9 : decode prog_14_method_2_code 9 = .ok (.sipush 255, 3) := by decide +kernel
theorem d_Lat_charAt_12 : decode prog_14_method_2_code 12 = .ok (.iand, 1) := by decide +kernel
theorem d_Lat_charAt_13 : decode prog_14_method_2_code 13 = .ok (.i2c, 1) := by decide +kernel
theorem d_Lat_charAt_14 : decode prog_14_method_2_code 14 = .ok (.ireturn, 1) := by decide +kernel
theorem d_Str_checkIndex_0 : decode prog_13_method_155_code 0 = .ok (.iload_n 0, 1) := by decide +kernel
theorem d_Str_checkIndex_1 : decode prog_13_method_155_code 1 = .ok (.iload_n 1, 1) := by decide +kernel
theorem d_Str_checkIndex_2 : decode prog_13_method_155_code 2 = .ok (.getstatic 1053, 3) := by decide +kernel
theorem d_Str_checkIndex_5 : decode prog_13_method_155_code 5 = .ok (.invokestatic 1059, 3) := by decide +kernel
theorem d_Str_checkIndex_8 : decode prog_13_method_155_code 8 = .ok (.pop, 1) := by decide +kernel
theorem d_Str_checkIndex_9 : decode prog_13_method_155_code 9 = .ok (.return_, 1) := by decide +kernel
theorem d_Pre_checkIndex_0 : decode prog_17_method_11_code 0 = .ok (.iload_n 0, 1) := by decide +kernel
theorem d_Pre_checkIndex_1 : decode prog_17_method_11_code 1 = .ok (.ifCond .lt 8, 3) := by decide +kernel
theorem d_Pre_checkIndex_4 : decode prog_17_method_11_code 4 = .ok (.iload_n 0, 1) := by decide +kernel
theorem d_Pre_checkIndex_5 : decode prog_17_method_11_code 5 = .ok (.iload_n 1, 1) := by decide +kernel
theorem d_Pre_checkIndex_6 : decode prog_17_method_11_code 6 = .ok (.if_icmp .lt 10, 3) := by decide +kernel
theorem d_Pre_checkIndex_9 : decode prog_17_method_11_code 9 = .ok (.aload_n 2, 1) := by decide +kernel
theorem d_Pre_checkIndex_10 : decode prog_17_method_11_code 10 = .ok (.iload_n 0, 1) := by decide +kernel
theorem d_Pre_checkIndex_11 : decode prog_17_method_11_code 11 = .ok (.iload_n 1, 1) := by decide +kernel
theorem d_Pre_checkIndex_12 : decode prog_17_method_11_code 12 = .ok (.invokestatic 95, 3) := by decide +kernel
theorem d_Pre_checkIndex_15 : decode prog_17_method_11_code 15 = .ok (.athrow, 1) := by decide +kernel
theorem d_Pre_checkIndex_16 : decode prog_17_method_11_code 16 = .ok (.iload_n 0, 1) := by decide +kernel
theorem d_Pre_checkIndex_17 : decode prog_17_method_11_code 17 = .ok (.ireturn, 1) := by decide +kernel
theorem d_Text_parseToll_0 : decode prog_8_method_5_code 0 = .ok (.aload_n 0, 1) := by decide +kernel
theorem d_Text_parseToll_1 : decode prog_8_method_5_code 1 = .ok (.bipush 99, 2) := by decide +kernel
theorem d_Text_parseToll_3 : decode prog_8_method_5_code 3 = .ok (.invokevirtual 60, 3) := by decide +kernel
theorem d_Text_parseToll_6 : decode prog_8_method_5_code 6 = .ok (.ifCond .ne 5, 3) := by decide +kernel
theorem d_Text_parseToll_9 : decode prog_8_method_5_code 9 = .ok (.iconst 0, 1) := by decide +kernel
theorem d_Text_parseToll_10 : decode prog_8_method_5_code 10 = .ok (.ireturn, 1) := by decide +kernel
theorem d_Text_parseToll_11 : decode prog_8_method_5_code 11 = .ok (.aload_n 1, 1) := by decide +kernel
theorem d_Text_parseToll_12 : decode prog_8_method_5_code 12 = .ok (.aload_n 0, 1) := by decide +kernel
theorem d_Text_parseToll_13 : decode prog_8_method_5_code 13 = .ok (.getfield 64, 3) := by decide +kernel
theorem d_Text_parseToll_16 : decode prog_8_method_5_code 16 = .ok (.putfield 67, 3) := by decide +kernel
theorem d_Text_parseToll_19 : decode prog_8_method_5_code 19 = .ok (.iconst 1, 1) := by decide +kernel
theorem d_Text_parseToll_20 : decode prog_8_method_5_code 20 = .ok (.ireturn, 1) := by decide +kernel
theorem d_Text_takesNumber_0 : decode prog_8_method_11_code 0 = .ok (.aload_n 0, 1) := by decide +kernel
theorem d_Text_takesNumber_1 : decode prog_8_method_11_code 1 = .ok (.getfield 29, 3) := by decide +kernel
theorem d_Text_takesNumber_4 : decode prog_8_method_11_code 4 = .ok (.iconst 2, 1) := by decide +kernel
theorem d_Text_takesNumber_5 : decode prog_8_method_11_code 5 = .ok (.if_icmp .ne 11, 3) := by decide +kernel
theorem d_Text_takesNumber_8 : decode prog_8_method_11_code 8 = .ok (.aload_n 0, 1) := by decide +kernel
theorem d_Text_takesNumber_9 : decode prog_8_method_11_code 9 = .ok (.getfield 130, 3) := by decide +kernel
theorem d_Text_takesNumber_12 : decode prog_8_method_11_code 12 = .ok (.iload_n 1, 1) := by decide +kernel
theorem d_Text_takesNumber_13 : decode prog_8_method_11_code 13 = .ok (.if_icmp .le 5, 3) := by decide +kernel
theorem d_Text_takesNumber_16 : decode prog_8_method_11_code 16 = .ok (.iconst 0, 1) := by decide +kernel
theorem d_Text_takesNumber_17 : decode prog_8_method_11_code 17 = .ok (.ireturn, 1) := by decide +kernel
theorem d_Text_takesNumber_18 : decode prog_8_method_11_code 18 = .ok (.aload_n 0, 1) := by decide +kernel
theorem d_Text_takesNumber_19 : decode prog_8_method_11_code 19 = .ok (.aload_n 0, 1) := by decide +kernel
theorem d_Text_takesNumber_20 : decode prog_8_method_11_code 20 = .ok (.getfield 130, 3) := by decide +kernel
theorem d_Text_takesNumber_23 : decode prog_8_method_11_code 23 = .ok (.putfield 64, 3) := by decide +kernel
theorem d_Text_takesNumber_26 : decode prog_8_method_11_code 26 = .ok (.aload_n 0, 1) := by decide +kernel
theorem d_Text_takesNumber_27 : decode prog_8_method_11_code 27 = .ok (.invokevirtual 22, 3) := by decide +kernel
theorem d_Text_takesNumber_30 : decode prog_8_method_11_code 30 = .ok (.iconst 1, 1) := by decide +kernel
theorem d_Text_takesNumber_31 : decode prog_8_method_11_code 31 = .ok (.ireturn, 1) := by decide +kernel
theorem d_Text_parseEvent_0 : decode prog_8_method_6_code 0 = .ok (.aload_n 1, 1) := by decide +kernel
theorem d_Text_parseEvent_1 : decode prog_8_method_6_code 1 = .ok (.invokevirtual 71, 3) := by decide +kernel
theorem d_Text_parseEvent_4 : decode prog_8_method_6_code 4 = .ok (.ifCond .eq 5, 3) := by decide +kernel
theorem d_Text_parseEvent_7 : decode prog_8_method_6_code 7 = .ok (.iconst 0, 1) := by decide +kernel
theorem d_Text_parseEvent_8 : decode prog_8_method_6_code 8 = .ok (.ireturn, 1) := by decide +kernel
theorem d_Text_parseEvent_9 : decode prog_8_method_6_code 9 = .ok (.aload_n 0, 1) := by decide +kernel
theorem d_Text_parseEvent_10 : decode prog_8_method_6_code 10 = .ok (.invokevirtual 22, 3) := by decide +kernel
theorem d_Text_parseEvent_13 : decode prog_8_method_6_code 13 = .ok (.aload_n 0, 1) := by decide +kernel
theorem d_Text_parseEvent_14 : decode prog_8_method_6_code 14 = .ok (.sipush 9999, 3) := by decide +kernel
theorem d_Text_parseEvent_17 : decode prog_8_method_6_code 17 = .ok (.invokevirtual 60, 3) := by decide +kernel
theorem d_Text_parseEvent_20 : decode prog_8_method_6_code 20 = .ok (.ifCond .ne 5, 3) := by decide +kernel
theorem d_Text_parseEvent_23 : decode prog_8_method_6_code 23 = .ok (.iconst 0, 1) := by decide +kernel
theorem d_Text_parseEvent_24 : decode prog_8_method_6_code 24 = .ok (.ireturn, 1) := by decide +kernel
theorem d_Text_parseEvent_25 : decode prog_8_method_6_code 25 = .ok (.aload_n 0, 1) := by decide +kernel
theorem d_Text_parseEvent_26 : decode prog_8_method_6_code 26 = .ok (.getfield 64, 3) := by decide +kernel
theorem d_Text_parseEvent_29 : decode prog_8_method_6_code 29 = .ok (.istore_n 2, 1) := by decide +kernel
theorem d_Text_parseEvent_30 : decode prog_8_method_6_code 30 = .ok (.aload_n 0, 1) := by decide +kernel
theorem d_Text_parseEvent_31 : decode prog_8_method_6_code 31 = .ok (.ldc 75, 2) := by decide +kernel
theorem d_Text_parseEvent_33 : decode prog_8_method_6_code 33 = .ok (.invokevirtual 37, 3) := by decide +kernel
theorem d_Text_parseEvent_36 : decode prog_8_method_6_code 36 = .ok (.ifCond .ne 5, 3) := by decide +kernel
theorem d_Text_parseEvent_39 : decode prog_8_method_6_code 39 = .ok (.iconst 0, 1) := by decide +kernel
theorem d_Text_parseEvent_40 : decode prog_8_method_6_code 40 = .ok (.ireturn, 1) := by decide +kernel
theorem d_Text_parseEvent_41 : decode prog_8_method_6_code 41 = .ok (.aload_n 0, 1) := by decide +kernel
theorem d_Text_parseEvent_42 : decode prog_8_method_6_code 42 = .ok (.ldc 77, 2) := by decide +kernel
theorem d_Text_parseEvent_44 : decode prog_8_method_6_code 44 = .ok (.invokevirtual 37, 3) := by decide +kernel
theorem d_Text_parseEvent_47 : decode prog_8_method_6_code 47 = .ok (.istore_n 3, 1) := by decide +kernel
theorem d_Text_parseEvent_48 : decode prog_8_method_6_code 48 = .ok (.aload_n 0, 1) := by decide +kernel
theorem d_Text_parseEvent_49 : decode prog_8_method_6_code 49 = .ok (.bipush 99, 2) := by decide +kernel
theorem d_Text_parseEvent_51 : decode prog_8_method_6_code 51 = .ok (.invokevirtual 60, 3) := by decide +kernel
theorem d_Text_parseEvent_54 : decode prog_8_method_6_code 54 = .ok (.ifCond .ne 5, 3) := by decide +kernel
theorem d_Text_parseEvent_57 : decode prog_8_method_6_code 57 = .ok (.iconst 0, 1) := by decide +kernel
theorem d_Text_parseEvent_58 : decode prog_8_method_6_code 58 = .ok (.ireturn, 1) := by decide +kernel
theorem d_Text_parseEvent_59 : decode prog_8_method_6_code 59 = .ok (.aload_n 1, 1) := by decide +kernel
theorem d_Text_parseEvent_60 : decode prog_8_method_6_code 60 = .ok (.iload_n 2, 1) := by decide +kernel
theorem d_Text_parseEvent_61 : decode prog_8_method_6_code 61 = .ok (.iload_n 3, 1) := by decide +kernel
theorem d_Text_parseEvent_62 : decode prog_8_method_6_code 62 = .ok (.ifCond .eq 11, 3) := by decide +kernel
theorem d_Text_parseEvent_65 : decode prog_8_method_6_code 65 = .ok (.aload_n 0, 1) := by decide +kernel
theorem d_Text_parseEvent_66 : decode prog_8_method_6_code 66 = .ok (.getfield 64, 3) := by decide +kernel
theorem d_Text_parseEvent_69 : decode prog_8_method_6_code 69 = .ok (.ineg, 1) := by decide +kernel
theorem d_Text_parseEvent_70 : decode prog_8_method_6_code 70 = .ok (.goto 7, 3) := by decide +kernel
theorem d_Text_parseEvent_73 : decode prog_8_method_6_code 73 = .ok (.aload_n 0, 1) := by decide +kernel
theorem d_Text_parseEvent_74 : decode prog_8_method_6_code 74 = .ok (.getfield 64, 3) := by decide +kernel
theorem d_Text_parseEvent_77 : decode prog_8_method_6_code 77 = .ok (.invokevirtual 79, 3) := by decide +kernel
theorem d_Text_parseEvent_80 : decode prog_8_method_6_code 80 = .ok (.pop, 1) := by decide +kernel
theorem d_Text_parseEvent_81 : decode prog_8_method_6_code 81 = .ok (.iconst 1, 1) := by decide +kernel
theorem d_Text_parseEvent_82 : decode prog_8_method_6_code 82 = .ok (.ireturn, 1) := by decide +kernel
theorem d_Text_nameOf_0 : decode prog_8_method_8_code 0 = .ok (.iload_n 0, 1) := by decide +kernel
theorem d_Text_nameOf_1 : decode prog_8_method_8_code 1 = .ok (.tableswitch 50 1 5 #[35, 38, 41, 44, 47], 35) := by decide +kernel
theorem d_Text_nameOf_36 : decode prog_8_method_8_code 36 = .ok (.ldc 109, 2) := by decide +kernel
theorem d_Text_nameOf_38 : decode prog_8_method_8_code 38 = .ok (.areturn, 1) := by decide +kernel
theorem d_Text_nameOf_39 : decode prog_8_method_8_code 39 = .ok (.ldc 111, 2) := by decide +kernel
theorem d_Text_nameOf_41 : decode prog_8_method_8_code 41 = .ok (.areturn, 1) := by decide +kernel
theorem d_Text_nameOf_42 : decode prog_8_method_8_code 42 = .ok (.ldc 113, 2) := by decide +kernel
theorem d_Text_nameOf_44 : decode prog_8_method_8_code 44 = .ok (.areturn, 1) := by decide +kernel
theorem d_Text_nameOf_45 : decode prog_8_method_8_code 45 = .ok (.ldc 115, 2) := by decide +kernel
theorem d_Text_nameOf_47 : decode prog_8_method_8_code 47 = .ok (.areturn, 1) := by decide +kernel
theorem d_Text_nameOf_48 : decode prog_8_method_8_code 48 = .ok (.ldc 117, 2) := by decide +kernel
theorem d_Text_nameOf_50 : decode prog_8_method_8_code 50 = .ok (.areturn, 1) := by decide +kernel
theorem d_Text_nameOf_51 : decode prog_8_method_8_code 51 = .ok (.ldc 119, 2) := by decide +kernel
theorem d_Text_nameOf_53 : decode prog_8_method_8_code 53 = .ok (.areturn, 1) := by decide +kernel
theorem d_Text_parseOne_0 : decode prog_8_method_7_code 0 = .ok (.aload_n 1, 1) := by decide +kernel
theorem d_Text_parseOne_1 : decode prog_8_method_7_code 1 = .ok (.invokevirtual 83, 3) := by decide +kernel
theorem d_Text_parseOne_4 : decode prog_8_method_7_code 4 = .ok (.ifCond .eq 5, 3) := by decide +kernel
theorem d_Text_parseOne_7 : decode prog_8_method_7_code 7 = .ok (.iconst 0, 1) := by decide +kernel
theorem d_Text_parseOne_8 : decode prog_8_method_7_code 8 = .ok (.ireturn, 1) := by decide +kernel
theorem d_Text_parseOne_9 : decode prog_8_method_7_code 9 = .ok (.aload_n 0, 1) := by decide +kernel
theorem d_Text_parseOne_10 : decode prog_8_method_7_code 10 = .ok (.invokevirtual 22, 3) := by decide +kernel
theorem d_Text_parseOne_13 : decode prog_8_method_7_code 13 = .ok (.aload_n 1, 1) := by decide +kernel
theorem d_Text_parseOne_14 : decode prog_8_method_7_code 14 = .ok (.iload_n 2, 1) := by decide +kernel
theorem d_Text_parseOne_15 : decode prog_8_method_7_code 15 = .ok (.aload_n 0, 1) := by decide +kernel
theorem d_Text_parseOne_16 : decode prog_8_method_7_code 16 = .ok (.ldc 86, 2) := by decide +kernel
theorem d_Text_parseOne_18 : decode prog_8_method_7_code 18 = .ok (.invokevirtual 37, 3) := by decide +kernel
theorem d_Text_parseOne_21 : decode prog_8_method_7_code 21 = .ok (.ifCond .eq 7, 3) := by decide +kernel
theorem d_Text_parseOne_24 : decode prog_8_method_7_code 24 = .ok (.iconst 1, 1) := by decide +kernel
theorem d_Text_parseOne_25 : decode prog_8_method_7_code 25 = .ok (.goto 4, 3) := by decide +kernel
theorem d_Text_parseOne_28 : decode prog_8_method_7_code 28 = .ok (.iconst 0, 1) := by decide +kernel
theorem d_Text_parseOne_29 : decode prog_8_method_7_code 29 = .ok (.invokevirtual 88, 3) := by decide +kernel
theorem d_Text_parseOne_32 : decode prog_8_method_7_code 32 = .ok (.istore_n 3, 1) := by decide +kernel
theorem d_Text_parseOne_33 : decode prog_8_method_7_code 33 = .ok (.aload_n 1, 1) := by decide +kernel
theorem d_Text_parseOne_34 : decode prog_8_method_7_code 34 = .ok (.getfield 91, 3) := by decide +kernel
theorem d_Text_parseOne_37 : decode prog_8_method_7_code 37 = .ok (.iload_n 3, 1) := by decide +kernel
theorem d_Text_parseOne_38 : decode prog_8_method_7_code 38 = .ok (.aaload, 1) := by decide +kernel
theorem d_Text_parseOne_39 : decode prog_8_method_7_code 39 = .ok (.astore 4, 2) := by decide +kernel
theorem d_Text_parseOne_41 : decode prog_8_method_7_code 41 = .ok (.aload_n 0, 1) := by decide +kernel
theorem d_Text_parseOne_42 : decode prog_8_method_7_code 42 = .ok (.ldc 95, 2) := by decide +kernel
theorem d_Text_parseOne_44 : decode prog_8_method_7_code 44 = .ok (.invokevirtual 37, 3) := by decide +kernel
theorem d_Text_parseOne_47 : decode prog_8_method_7_code 47 = .ok (.ifCond .eq 24, 3) := by decide +kernel
theorem d_Text_parseOne_50 : decode prog_8_method_7_code 50 = .ok (.aload_n 0, 1) := by decide +kernel
theorem d_Text_parseOne_51 : decode prog_8_method_7_code 51 = .ok (.sipush 9999, 3) := by decide +kernel
theorem d_Text_parseOne_54 : decode prog_8_method_7_code 54 = .ok (.invokevirtual 60, 3) := by decide +kernel
theorem d_Text_parseOne_57 : decode prog_8_method_7_code 57 = .ok (.ifCond .ne 5, 3) := by decide +kernel
theorem d_Text_parseOne_60 : decode prog_8_method_7_code 60 = .ok (.iconst 0, 1) := by decide +kernel
theorem d_Text_parseOne_61 : decode prog_8_method_7_code 61 = .ok (.ireturn, 1) := by decide +kernel
theorem d_Text_parseOne_62 : decode prog_8_method_7_code 62 = .ok (.aload 4, 2) := by decide +kernel
theorem d_Text_parseOne_64 : decode prog_8_method_7_code 64 = .ok (.aload_n 0, 1) := by decide +kernel
theorem d_Text_parseOne_65 : decode prog_8_method_7_code 65 = .ok (.getfield 64, 3) := by decide +kernel
theorem d_Text_parseOne_68 : decode prog_8_method_7_code 68 = .ok (.putfield 97, 3) := by decide +kernel
theorem d_Text_parseOne_71 : decode prog_8_method_7_code 71 = .ok (.aload_n 0, 1) := by decide +kernel
theorem d_Text_parseOne_72 : decode prog_8_method_7_code 72 = .ok (.ldc 101, 2) := by decide +kernel
theorem d_Text_parseOne_74 : decode prog_8_method_7_code 74 = .ok (.invokevirtual 37, 3) := by decide +kernel
theorem d_Text_parseOne_77 : decode prog_8_method_7_code 77 = .ok (.ifCond .eq 23, 3) := by decide +kernel
theorem d_Text_parseOne_80 : decode prog_8_method_7_code 80 = .ok (.aload_n 0, 1) := by decide +kernel
theorem d_Text_parseOne_81 : decode prog_8_method_7_code 81 = .ok (.bipush 23, 2) := by decide +kernel
theorem d_Text_parseOne_83 : decode prog_8_method_7_code 83 = .ok (.invokevirtual 60, 3) := by decide +kernel
theorem d_Text_parseOne_86 : decode prog_8_method_7_code 86 = .ok (.ifCond .ne 5, 3) := by decide +kernel
theorem d_Text_parseOne_89 : decode prog_8_method_7_code 89 = .ok (.iconst 0, 1) := by decide +kernel
theorem d_Text_parseOne_90 : decode prog_8_method_7_code 90 = .ok (.ireturn, 1) := by decide +kernel
theorem d_Text_parseOne_91 : decode prog_8_method_7_code 91 = .ok (.aload 4, 2) := by decide +kernel
theorem d_Text_parseOne_93 : decode prog_8_method_7_code 93 = .ok (.aload_n 0, 1) := by decide +kernel
theorem d_Text_parseOne_94 : decode prog_8_method_7_code 94 = .ok (.getfield 64, 3) := by decide +kernel
theorem d_Text_parseOne_97 : decode prog_8_method_7_code 97 = .ok (.putfield 103, 3) := by decide +kernel
theorem d_Text_parseOne_100 : decode prog_8_method_7_code 100 = .ok (.aload_n 0, 1) := by decide +kernel
theorem d_Text_parseOne_101 : decode prog_8_method_7_code 101 = .ok (.ldc 105, 2) := by decide +kernel
theorem d_Text_parseOne_103 : decode prog_8_method_7_code 103 = .ok (.invokevirtual 37, 3) := by decide +kernel
theorem d_Text_parseOne_106 : decode prog_8_method_7_code 106 = .ok (.ifCond .eq 23, 3) := by decide +kernel
theorem d_Text_parseOne_109 : decode prog_8_method_7_code 109 = .ok (.aload_n 0, 1) := by decide +kernel
theorem d_Text_parseOne_110 : decode prog_8_method_7_code 110 = .ok (.bipush 23, 2) := by decide +kernel
theorem d_Text_parseOne_112 : decode prog_8_method_7_code 112 = .ok (.invokevirtual 60, 3) := by decide +kernel
theorem d_Text_parseOne_115 : decode prog_8_method_7_code 115 = .ok (.ifCond .ne 5, 3) := by decide +kernel
theorem d_Text_parseOne_118 : decode prog_8_method_7_code 118 = .ok (.iconst 0, 1) := by decide +kernel
theorem d_Text_parseOne_119 : decode prog_8_method_7_code 119 = .ok (.ireturn, 1) := by decide +kernel
theorem d_Text_parseOne_120 : decode prog_8_method_7_code 120 = .ok (.aload 4, 2) := by decide +kernel
theorem d_Text_parseOne_122 : decode prog_8_method_7_code 122 = .ok (.aload_n 0, 1) := by decide +kernel
theorem d_Text_parseOne_123 : decode prog_8_method_7_code 123 = .ok (.getfield 64, 3) := by decide +kernel
theorem d_Text_parseOne_126 : decode prog_8_method_7_code 126 = .ok (.putfield 107, 3) := by decide +kernel
theorem d_Text_parseOne_129 : decode prog_8_method_7_code 129 = .ok (.iconst 1, 1) := by decide +kernel
theorem d_Text_parseOne_130 : decode prog_8_method_7_code 130 = .ok (.ireturn, 1) := by decide +kernel
theorem d_Sheet_begin_0 : decode prog_7_method_2_code 0 = .ok (.aload_n 0, 1) := by decide +kernel
theorem d_Sheet_begin_1 : decode prog_7_method_2_code 1 = .ok (.iload_n 1, 1) := by decide +kernel
theorem d_Sheet_begin_2 : decode prog_7_method_2_code 2 = .ok (.putfield 9, 3) := by decide +kernel
theorem d_Sheet_begin_5 : decode prog_7_method_2_code 5 = .ok (.aload_n 0, 1) := by decide +kernel
theorem d_Sheet_begin_6 : decode prog_7_method_2_code 6 = .ok (.iload_n 1, 1) := by decide +kernel
theorem d_Sheet_begin_7 : decode prog_7_method_2_code 7 = .ok (.ifCond .ne 7, 3) := by decide +kernel
theorem d_Sheet_begin_10 : decode prog_7_method_2_code 10 = .ok (.iconst 0, 1) := by decide +kernel
theorem d_Sheet_begin_11 : decode prog_7_method_2_code 11 = .ok (.goto 4, 3) := by decide +kernel
theorem d_Sheet_begin_14 : decode prog_7_method_2_code 14 = .ok (.iload_n 2, 1) := by decide +kernel
theorem d_Sheet_begin_15 : decode prog_7_method_2_code 15 = .ok (.putfield 15, 3) := by decide +kernel
theorem d_Sheet_begin_18 : decode prog_7_method_2_code 18 = .ok (.iconst 0, 1) := by decide +kernel
theorem d_Sheet_begin_19 : decode prog_7_method_2_code 19 = .ok (.istore_n 3, 1) := by decide +kernel
theorem d_Sheet_begin_20 : decode prog_7_method_2_code 20 = .ok (.iload_n 3, 1) := by decide +kernel
theorem d_Sheet_begin_21 : decode prog_7_method_2_code 21 = .ok (.bipush 40, 2) := by decide +kernel
theorem d_Sheet_begin_23 : decode prog_7_method_2_code 23 = .ok (.if_icmp .ge 16, 3) := by decide +kernel
theorem d_Sheet_begin_26 : decode prog_7_method_2_code 26 = .ok (.aload_n 0, 1) := by decide +kernel
theorem d_Sheet_begin_27 : decode prog_7_method_2_code 27 = .ok (.getfield 18, 3) := by decide +kernel
theorem d_Sheet_begin_30 : decode prog_7_method_2_code 30 = .ok (.iload_n 3, 1) := by decide +kernel
theorem d_Sheet_begin_31 : decode prog_7_method_2_code 31 = .ok (.lconst 0, 1) := by decide +kernel
theorem d_Sheet_begin_32 : decode prog_7_method_2_code 32 = .ok (.lastore, 1) := by decide +kernel
theorem d_Sheet_begin_33 : decode prog_7_method_2_code 33 = .ok (.iinc 3 1, 3) := by decide +kernel
theorem d_Sheet_begin_36 : decode prog_7_method_2_code 36 = .ok (.goto (-16), 3) := by decide +kernel
theorem d_Sheet_begin_39 : decode prog_7_method_2_code 39 = .ok (.return_, 1) := by decide +kernel
theorem d_Sheet_isMissing_0 : decode prog_7_method_3_code 0 = .ok (.aload_n 0, 1) := by decide +kernel
theorem d_Sheet_isMissing_1 : decode prog_7_method_3_code 1 = .ok (.getfield 9, 3) := by decide +kernel
theorem d_Sheet_isMissing_4 : decode prog_7_method_3_code 4 = .ok (.ifCond .ne 7, 3) := by decide +kernel
theorem d_Sheet_isMissing_7 : decode prog_7_method_3_code 7 = .ok (.iconst 1, 1) := by decide +kernel
theorem d_Sheet_isMissing_8 : decode prog_7_method_3_code 8 = .ok (.goto 4, 3) := by decide +kernel
theorem d_Sheet_isMissing_11 : decode prog_7_method_3_code 11 = .ok (.iconst 0, 1) := by decide +kernel
theorem d_Sheet_isMissing_12 : decode prog_7_method_3_code 12 = .ok (.ireturn, 1) := by decide +kernel
theorem d_Sheet_put_0 : decode prog_7_method_5_code 0 = .ok (.aload_n 0, 1) := by decide +kernel
theorem d_Sheet_put_1 : decode prog_7_method_5_code 1 = .ok (.getfield 9, 3) := by decide +kernel
theorem d_Sheet_put_4 : decode prog_7_method_5_code 4 = .ok (.lookupswitch 54 #[(8, 28), (16, 41)], 28) := by decide +kernel
theorem d_Sheet_put_32 : decode prog_7_method_5_code 32 = .ok (.aload_n 0, 1) := by decide +kernel
theorem d_Sheet_put_33 : decode prog_7_method_5_code 33 = .ok (.getfield 18, 3) := by decide +kernel
theorem d_Sheet_put_36 : decode prog_7_method_5_code 36 = .ok (.iload_n 1, 1) := by decide +kernel
theorem d_Sheet_put_37 : decode prog_7_method_5_code 37 = .ok (.lload_n 2, 1) := by decide +kernel
theorem d_Sheet_put_38 : decode prog_7_method_5_code 38 = .ok (.l2i, 1) := by decide +kernel
theorem d_Sheet_put_39 : decode prog_7_method_5_code 39 = .ok (.i2b, 1) := by decide +kernel
theorem d_Sheet_put_40 : decode prog_7_method_5_code 40 = .ok (.i2l, 1) := by decide +kernel
theorem d_Sheet_put_41 : decode prog_7_method_5_code 41 = .ok (.lastore, 1) := by decide +kernel
theorem d_Sheet_put_42 : decode prog_7_method_5_code 42 = .ok (.goto 23, 3) := by decide +kernel
theorem d_Sheet_put_45 : decode prog_7_method_5_code 45 = .ok (.aload_n 0, 1) := by decide +kernel
theorem d_Sheet_put_46 : decode prog_7_method_5_code 46 = .ok (.getfield 18, 3) := by decide +kernel
theorem d_Sheet_put_49 : decode prog_7_method_5_code 49 = .ok (.iload_n 1, 1) := by decide +kernel
theorem d_Sheet_put_50 : decode prog_7_method_5_code 50 = .ok (.lload_n 2, 1) := by decide +kernel
theorem d_Sheet_put_51 : decode prog_7_method_5_code 51 = .ok (.l2i, 1) := by decide +kernel
theorem d_Sheet_put_52 : decode prog_7_method_5_code 52 = .ok (.i2s, 1) := by decide +kernel
theorem d_Sheet_put_53 : decode prog_7_method_5_code 53 = .ok (.i2l, 1) := by decide +kernel
theorem d_Sheet_put_54 : decode prog_7_method_5_code 54 = .ok (.lastore, 1) := by decide +kernel
theorem d_Sheet_put_55 : decode prog_7_method_5_code 55 = .ok (.goto 10, 3) := by decide +kernel
theorem d_Sheet_put_58 : decode prog_7_method_5_code 58 = .ok (.aload_n 0, 1) := by decide +kernel
theorem d_Sheet_put_59 : decode prog_7_method_5_code 59 = .ok (.getfield 18, 3) := by decide +kernel
theorem d_Sheet_put_62 : decode prog_7_method_5_code 62 = .ok (.iload_n 1, 1) := by decide +kernel
theorem d_Sheet_put_63 : decode prog_7_method_5_code 63 = .ok (.lload_n 2, 1) := by decide +kernel
theorem d_Sheet_put_64 : decode prog_7_method_5_code 64 = .ok (.lastore, 1) := by decide +kernel
theorem d_Sheet_put_65 : decode prog_7_method_5_code 65 = .ok (.return_, 1) := by decide +kernel
theorem d_Sheet_holds_0 : decode prog_7_method_4_code 0 = .ok (.iload_n 1, 1) := by decide +kernel
theorem d_Sheet_holds_1 : decode prog_7_method_4_code 1 = .ok (.ifCond .lt 29, 3) := by decide +kernel
theorem d_Sheet_holds_4 : decode prog_7_method_4_code 4 = .ok (.iload_n 2, 1) := by decide +kernel
theorem d_Sheet_holds_5 : decode prog_7_method_4_code 5 = .ok (.ifCond .lt 25, 3) := by decide +kernel
theorem d_Sheet_holds_8 : decode prog_7_method_4_code 8 = .ok (.iload_n 2, 1) := by decide +kernel
theorem d_Sheet_holds_9 : decode prog_7_method_4_code 9 = .ok (.aload_n 0, 1) := by decide +kernel
theorem d_Sheet_holds_10 : decode prog_7_method_4_code 10 = .ok (.getfield 15, 3) := by decide +kernel
theorem d_Sheet_holds_13 : decode prog_7_method_4_code 13 = .ok (.if_icmp .gt 17, 3) := by decide +kernel
theorem d_Sheet_holds_16 : decode prog_7_method_4_code 16 = .ok (.iload_n 1, 1) := by decide +kernel
theorem d_Sheet_holds_17 : decode prog_7_method_4_code 17 = .ok (.aload_n 0, 1) := by decide +kernel
theorem d_Sheet_holds_18 : decode prog_7_method_4_code 18 = .ok (.getfield 15, 3) := by decide +kernel
theorem d_Sheet_holds_21 : decode prog_7_method_4_code 21 = .ok (.iload_n 2, 1) := by decide +kernel
theorem d_Sheet_holds_22 : decode prog_7_method_4_code 22 = .ok (.isub, 1) := by decide +kernel
theorem d_Sheet_holds_23 : decode prog_7_method_4_code 23 = .ok (.if_icmp .gt 7, 3) := by decide +kernel
theorem d_Sheet_holds_26 : decode prog_7_method_4_code 26 = .ok (.iconst 1, 1) := by decide +kernel
theorem d_Sheet_holds_27 : decode prog_7_method_4_code 27 = .ok (.goto 4, 3) := by decide +kernel
theorem d_Sheet_holds_30 : decode prog_7_method_4_code 30 = .ok (.iconst 0, 1) := by decide +kernel
theorem d_Sheet_holds_31 : decode prog_7_method_4_code 31 = .ok (.ireturn, 1) := by decide +kernel
theorem d_River_allKnown_0 : decode prog_6_method_17_code 0 = .ok (.iconst 0, 1) := by decide +kernel
theorem d_River_allKnown_1 : decode prog_6_method_17_code 1 = .ok (.istore_n 1, 1) := by decide +kernel
theorem d_River_allKnown_2 : decode prog_6_method_17_code 2 = .ok (.iconst 0, 1) := by decide +kernel
theorem d_River_allKnown_3 : decode prog_6_method_17_code 3 = .ok (.istore_n 2, 1) := by decide +kernel
theorem d_River_allKnown_4 : decode prog_6_method_17_code 4 = .ok (.iload_n 2, 1) := by decide +kernel
theorem d_River_allKnown_5 : decode prog_6_method_17_code 5 = .ok (.aload_n 0, 1) := by decide +kernel
theorem d_River_allKnown_6 : decode prog_6_method_17_code 6 = .ok (.getfield 18, 3) := by decide +kernel
theorem d_River_allKnown_9 : decode prog_6_method_17_code 9 = .ok (.if_icmp .ge 24, 3) := by decide +kernel
theorem d_River_allKnown_12 : decode prog_6_method_17_code 12 = .ok (.iload_n 1, 1) := by decide +kernel
theorem d_River_allKnown_13 : decode prog_6_method_17_code 13 = .ok (.aload_n 0, 1) := by decide +kernel
theorem d_River_allKnown_14 : decode prog_6_method_17_code 14 = .ok (.getfield 26, 3) := by decide +kernel
theorem d_River_allKnown_17 : decode prog_6_method_17_code 17 = .ok (.iload_n 2, 1) := by decide +kernel
theorem d_River_allKnown_18 : decode prog_6_method_17_code 18 = .ok (.aaload, 1) := by decide +kernel
theorem d_River_allKnown_19 : decode prog_6_method_17_code 19 = .ok (.getfield 88, 3) := by decide +kernel
theorem d_River_allKnown_22 : decode prog_6_method_17_code 22 = .ok (.invokestatic 118, 3) := by decide +kernel
theorem d_River_allKnown_25 : decode prog_6_method_17_code 25 = .ok (.iadd, 1) := by decide +kernel
theorem d_River_allKnown_26 : decode prog_6_method_17_code 26 = .ok (.istore_n 1, 1) := by decide +kernel
theorem d_River_allKnown_27 : decode prog_6_method_17_code 27 = .ok (.iinc 2 1, 3) := by decide +kernel
theorem d_River_allKnown_30 : decode prog_6_method_17_code 30 = .ok (.goto (-26), 3) := by decide +kernel
theorem d_River_allKnown_33 : decode prog_6_method_17_code 33 = .ok (.iload_n 1, 1) := by decide +kernel
theorem d_River_allKnown_34 : decode prog_6_method_17_code 34 = .ok (.ireturn, 1) := by decide +kernel
