theorem d_Day_init_0 : decode prog_1_method_1_code 0 = .ok (.aload_n 0, 1) := by decide +kernel
theorem d_Day_init_1 : decode prog_1_method_1_code 1 = .ok (.invokespecial 3, 3) := by decide +kernel
theorem d_Day_init_4 : decode prog_1_method_1_code 4 = .ok (.aload_n 0, 1) := by decide +kernel
theorem d_Day_init_5 : decode prog_1_method_1_code 5 = .ok (.new 9, 3) := by decide +kernel
theorem d_Day_init_8 : decode prog_1_method_1_code 8 = .ok (.dup, 1) := by decide +kernel
theorem d_Day_init_9 : decode prog_1_method_1_code 9 = .ok (.invokespecial 11, 3) := by decide +kernel
theorem d_Day_init_12 : decode prog_1_method_1_code 12 = .ok (.putfield 12, 3) := by decide +kernel
theorem d_Day_init_15 : decode prog_1_method_1_code 15 = .ok (.aload_n 0, 1) := by decide +kernel
theorem d_Day_init_16 : decode prog_1_method_1_code 16 = .ok (.new 9, 3) := by decide +kernel
theorem d_Day_init_19 : decode prog_1_method_1_code 19 = .ok (.dup, 1) := by decide +kernel
theorem d_Day_init_20 : decode prog_1_method_1_code 20 = .ok (.invokespecial 11, 3) := by decide +kernel
theorem d_Day_init_23 : decode prog_1_method_1_code 23 = .ok (.putfield 16, 3) := by decide +kernel
theorem d_Day_init_26 : decode prog_1_method_1_code 26 = .ok (.aload_n 0, 1) := by decide +kernel
theorem d_Day_init_27 : decode prog_1_method_1_code 27 = .ok (.new 9, 3) := by decide +kernel
theorem d_Day_init_30 : decode prog_1_method_1_code 30 = .ok (.dup, 1) := by decide +kernel
theorem d_Day_init_31 : decode prog_1_method_1_code 31 = .ok (.invokespecial 11, 3) := by decide +kernel
theorem d_Day_init_34 : decode prog_1_method_1_code 34 = .ok (.putfield 19, 3) := by decide +kernel
theorem d_Day_init_37 : decode prog_1_method_1_code 37 = .ok (.aload_n 0, 1) := by decide +kernel
theorem d_Day_init_38 : decode prog_1_method_1_code 38 = .ok (.iconst 0, 1) := by decide +kernel
theorem d_Day_init_39 : decode prog_1_method_1_code 39 = .ok (.putfield 22, 3) := by decide +kernel
theorem d_Day_init_42 : decode prog_1_method_1_code 42 = .ok (.aload_n 0, 1) := by decide +kernel
theorem d_Day_init_43 : decode prog_1_method_1_code 43 = .ok (.new 26, 3) := by decide +kernel
theorem d_Day_init_46 : decode prog_1_method_1_code 46 = .ok (.dup, 1) := by decide +kernel
theorem d_Day_init_47 : decode prog_1_method_1_code 47 = .ok (.invokespecial 28, 3) := by decide +kernel
theorem d_Day_init_50 : decode prog_1_method_1_code 50 = .ok (.putfield 29, 3) := by decide +kernel
theorem d_Day_init_53 : decode prog_1_method_1_code 53 = .ok (.aload_n 0, 1) := by decide +kernel
theorem d_Day_init_54 : decode prog_1_method_1_code 54 = .ok (.new 33, 3) := by decide +kernel
theorem d_Day_init_57 : decode prog_1_method_1_code 57 = .ok (.dup, 1) := by decide +kernel
theorem d_Day_init_58 : decode prog_1_method_1_code 58 = .ok (.invokespecial 35, 3) := by decide +kernel
theorem d_Day_init_61 : decode prog_1_method_1_code 61 = .ok (.putfield 36, 3) := by decide +kernel
theorem d_Day_init_64 : decode prog_1_method_1_code 64 = .ok (.aload_n 0, 1) := by decide +kernel
theorem d_Day_init_65 : decode prog_1_method_1_code 65 = .ok (.iconst 4, 1) := by decide +kernel
theorem d_Day_init_66 : decode prog_1_method_1_code 66 = .ok (.anewarray 40, 3) := by decide +kernel
theorem d_Day_init_69 : decode prog_1_method_1_code 69 = .ok (.putfield 42, 3) := by decide +kernel
theorem d_Day_init_72 : decode prog_1_method_1_code 72 = .ok (.iconst 0, 1) := by decide +kernel
theorem d_Day_init_73 : decode prog_1_method_1_code 73 = .ok (.istore_n 1, 1) := by decide +kernel
theorem d_Day_init_74 : decode prog_1_method_1_code 74 = .ok (.iload_n 1, 1) := by decide +kernel
theorem d_Day_init_75 : decode prog_1_method_1_code 75 = .ok (.iconst 4, 1) := by decide +kernel
theorem d_Day_init_76 : decode prog_1_method_1_code 76 = .ok (.if_icmp .ge 22, 3) := by decide +kernel
theorem d_Day_init_79 : decode prog_1_method_1_code 79 = .ok (.aload_n 0, 1) := by decide +kernel
theorem d_Day_init_80 : decode prog_1_method_1_code 80 = .ok (.getfield 42, 3) := by decide +kernel
theorem d_Day_init_83 : decode prog_1_method_1_code 83 = .ok (.iload_n 1, 1) := by decide +kernel
theorem d_Day_init_84 : decode prog_1_method_1_code 84 = .ok (.new 40, 3) := by decide +kernel
theorem d_Day_init_87 : decode prog_1_method_1_code 87 = .ok (.dup, 1) := by decide +kernel
theorem d_Day_init_88 : decode prog_1_method_1_code 88 = .ok (.invokespecial 46, 3) := by decide +kernel
theorem d_Day_init_91 : decode prog_1_method_1_code 91 = .ok (.aastore, 1) := by decide +kernel
theorem d_Day_init_92 : decode prog_1_method_1_code 92 = .ok (.iinc 1 1, 3) := by decide +kernel
theorem d_Day_init_95 : decode prog_1_method_1_code 95 = .ok (.goto (-21), 3) := by decide +kernel
theorem d_Day_init_98 : decode prog_1_method_1_code 98 = .ok (.aload_n 0, 1) := by decide +kernel
theorem d_Day_init_99 : decode prog_1_method_1_code 99 = .ok (.bipush 7, 2) := by decide +kernel
theorem d_Day_init_101 : decode prog_1_method_1_code 101 = .ok (.newarray .int, 2) := by decide +kernel
theorem d_Day_init_103 : decode prog_1_method_1_code 103 = .ok (.putfield 47, 3) := by decide +kernel
theorem d_Day_init_106 : decode prog_1_method_1_code 106 = .ok (.return_, 1) := by decide +kernel
theorem d_Day_toll_0 : decode prog_1_method_2_code 0 = .ok (.iload_n 1, 1) := by decide +kernel
theorem d_Day_toll_1 : decode prog_1_method_2_code 1 = .ok (.iconst 0, 1) := by decide +kernel
theorem d_Day_toll_2 : decode prog_1_method_2_code 2 = .ok (.bipush 99, 2) := by decide +kernel
theorem d_Day_toll_4 : decode prog_1_method_2_code 4 = .ok (.invokestatic 51, 3) := by decide +kernel
theorem d_Day_toll_7 : decode prog_1_method_2_code 7 = .ok (.ifCond .eq 10, 3) := by decide +kernel
theorem d_Day_toll_10 : decode prog_1_method_2_code 10 = .ok (.aload_n 0, 1) := by decide +kernel
theorem d_Day_toll_11 : decode prog_1_method_2_code 11 = .ok (.ldc 55, 2) := by decide +kernel
theorem d_Day_toll_13 : decode prog_1_method_2_code 13 = .ok (.invokevirtual 56, 3) := by decide +kernel
theorem d_Day_toll_16 : decode prog_1_method_2_code 16 = .ok (.ireturn, 1) := by decide +kernel
theorem d_Day_toll_17 : decode prog_1_method_2_code 17 = .ok (.aload_n 0, 1) := by decide +kernel
theorem d_Day_toll_18 : decode prog_1_method_2_code 18 = .ok (.getfield 12, 3) := by decide +kernel
theorem d_Day_toll_21 : decode prog_1_method_2_code 21 = .ok (.getfield 60, 3) := by decide +kernel
theorem d_Day_toll_24 : decode prog_1_method_2_code 24 = .ok (.istore_n 2, 1) := by decide +kernel
theorem d_Day_toll_25 : decode prog_1_method_2_code 25 = .ok (.aload_n 0, 1) := by decide +kernel
theorem d_Day_toll_26 : decode prog_1_method_2_code 26 = .ok (.getfield 12, 3) := by decide +kernel
theorem d_Day_toll_29 : decode prog_1_method_2_code 29 = .ok (.iload_n 1, 1) := by decide +kernel
theorem d_Day_toll_30 : decode prog_1_method_2_code 30 = .ok (.putfield 60, 3) := by decide +kernel
theorem d_Day_toll_33 : decode prog_1_method_2_code 33 = .ok (.iload_n 2, 1) := by decide +kernel
theorem d_Day_toll_34 : decode prog_1_method_2_code 34 = .ok (.ireturn, 1) := by decide +kernel
theorem d_Day_outside_0 : decode prog_1_method_44_code 0 = .ok (.iload_n 0, 1) := by decide +kernel
theorem d_Day_outside_1 : decode prog_1_method_44_code 1 = .ok (.iload_n 1, 1) := by decide +kernel
theorem d_Day_outside_2 : decode prog_1_method_44_code 2 = .ok (.if_icmp .lt 8, 3) := by decide +kernel
theorem d_Day_outside_5 : decode prog_1_method_44_code 5 = .ok (.iload_n 0, 1) := by decide +kernel
theorem d_Day_outside_6 : decode prog_1_method_44_code 6 = .ok (.iload_n 2, 1) := by decide +kernel
theorem d_Day_outside_7 : decode prog_1_method_44_code 7 = .ok (.if_icmp .le 7, 3) := by decide +kernel
theorem d_Day_outside_10 : decode prog_1_method_44_code 10 = .ok (.iconst 1, 1) := by decide +kernel
theorem d_Day_outside_11 : decode prog_1_method_44_code 11 = .ok (.goto 4, 3) := by decide +kernel
theorem d_Day_outside_14 : decode prog_1_method_44_code 14 = .ok (.iconst 0, 1) := by decide +kernel
theorem d_Day_outside_15 : decode prog_1_method_44_code 15 = .ok (.ireturn, 1) := by decide +kernel
theorem d_Day_refuse_0 : decode prog_1_method_43_code 0 = .ok (.ldc 55, 2) := by decide +kernel
theorem d_Day_refuse_2 : decode prog_1_method_43_code 2 = .ok (.iload_n 1, 1) := by decide +kernel
theorem d_Day_refuse_3 : decode prog_1_method_43_code 3 = .ok (.isub, 1) := by decide +kernel
theorem d_Day_refuse_4 : decode prog_1_method_43_code 4 = .ok (.istore_n 2, 1) := by decide +kernel
theorem d_Day_refuse_5 : decode prog_1_method_43_code 5 = .ok (.iload_n 2, 1) := by decide +kernel
theorem d_Day_refuse_6 : decode prog_1_method_43_code 6 = .ok (.ifCond .lt 19, 3) := by decide +kernel
theorem d_Day_refuse_9 : decode prog_1_method_43_code 9 = .ok (.iload_n 2, 1) := by decide +kernel
theorem d_Day_refuse_10 : decode prog_1_method_43_code 10 = .ok (.bipush 7, 2) := by decide +kernel
theorem d_Day_refuse_12 : decode prog_1_method_43_code 12 = .ok (.if_icmp .ge 13, 3) := by decide +kernel
theorem d_Day_refuse_15 : decode prog_1_method_43_code 15 = .ok (.aload_n 0, 1) := by decide +kernel
theorem d_Day_refuse_16 : decode prog_1_method_43_code 16 = .ok (.getfield 47, 3) := by decide +kernel
theorem d_Day_refuse_19 : decode prog_1_method_43_code 19 = .ok (.iload_n 2, 1) := by decide +kernel
theorem d_Day_refuse_20 : decode prog_1_method_43_code 20 = .ok (.dup2, 1) := by decide +kernel
theorem d_Day_refuse_21 : decode prog_1_method_43_code 21 = .ok (.iaload, 1) := by decide +kernel
theorem d_Day_refuse_22 : decode prog_1_method_43_code 22 = .ok (.iconst 1, 1) := by decide +kernel
theorem d_Day_refuse_23 : decode prog_1_method_43_code 23 = .ok (.iadd, 1) := by decide +kernel
theorem d_Day_refuse_24 : decode prog_1_method_43_code 24 = .ok (.iastore, 1) := by decide +kernel
theorem d_Day_refuse_25 : decode prog_1_method_43_code 25 = .ok (.iload_n 1, 1) := by decide +kernel
theorem d_Day_refuse_26 : decode prog_1_method_43_code 26 = .ok (.ireturn, 1) := by decide +kernel
theorem d_Day_event_0 : decode prog_1_method_3_code 0 = .ok (.iload_n 1, 1) := by decide +kernel
theorem d_Day_event_1 : decode prog_1_method_3_code 1 = .ok (.iconst 0, 1) := by decide +kernel
theorem d_Day_event_2 : decode prog_1_method_3_code 2 = .ok (.sipush 9999, 3) := by decide +kernel
theorem d_Day_event_5 : decode prog_1_method_3_code 5 = .ok (.invokestatic 51, 3) := by decide +kernel
theorem d_Day_event_8 : decode prog_1_method_3_code 8 = .ok (.ifCond .ne 14, 3) := by decide +kernel
theorem d_Day_event_11 : decode prog_1_method_3_code 11 = .ok (.iload_n 2, 1) := by decide +kernel
theorem d_Day_event_12 : decode prog_1_method_3_code 12 = .ok (.bipush (-99), 2) := by decide +kernel
theorem d_Day_event_14 : decode prog_1_method_3_code 14 = .ok (.bipush 99, 2) := by decide +kernel
theorem d_Day_event_16 : decode prog_1_method_3_code 16 = .ok (.invokestatic 51, 3) := by decide +kernel
theorem d_Day_event_19 : decode prog_1_method_3_code 19 = .ok (.ifCond .eq 10, 3) := by decide +kernel
theorem d_Day_event_22 : decode prog_1_method_3_code 22 = .ok (.aload_n 0, 1) := by decide +kernel
theorem d_Day_event_23 : decode prog_1_method_3_code 23 = .ok (.ldc 55, 2) := by decide +kernel
theorem d_Day_event_25 : decode prog_1_method_3_code 25 = .ok (.invokevirtual 56, 3) := by decide +kernel
theorem d_Day_event_28 : decode prog_1_method_3_code 28 = .ok (.ireturn, 1) := by decide +kernel
theorem d_Day_event_29 : decode prog_1_method_3_code 29 = .ok (.aload_n 0, 1) := by decide +kernel
theorem d_Day_event_30 : decode prog_1_method_3_code 30 = .ok (.getfield 12, 3) := by decide +kernel
theorem d_Day_event_33 : decode prog_1_method_3_code 33 = .ok (.invokevirtual 64, 3) := by decide +kernel
theorem d_Day_event_36 : decode prog_1_method_3_code 36 = .ok (.ifCond .eq 10, 3) := by decide +kernel
theorem d_Day_event_39 : decode prog_1_method_3_code 39 = .ok (.aload_n 0, 1) := by decide +kernel
theorem d_Day_event_40 : decode prog_1_method_3_code 40 = .ok (.ldc 68, 2) := by decide +kernel
theorem d_Day_event_42 : decode prog_1_method_3_code 42 = .ok (.invokevirtual 56, 3) := by decide +kernel
theorem d_Day_event_45 : decode prog_1_method_3_code 45 = .ok (.ireturn, 1) := by decide +kernel
theorem d_Day_event_46 : decode prog_1_method_3_code 46 = .ok (.aload_n 0, 1) := by decide +kernel
theorem d_Day_event_47 : decode prog_1_method_3_code 47 = .ok (.getfield 12, 3) := by decide +kernel
theorem d_Day_event_50 : decode prog_1_method_3_code 50 = .ok (.iload_n 1, 1) := by decide +kernel
theorem d_Day_event_51 : decode prog_1_method_3_code 51 = .ok (.iload_n 2, 1) := by decide +kernel
theorem d_Day_event_52 : decode prog_1_method_3_code 52 = .ok (.invokevirtual 69, 3) := by decide +kernel
theorem d_Day_event_55 : decode prog_1_method_3_code 55 = .ok (.ireturn, 1) := by decide +kernel
theorem d_Day_eventOf_0 : decode prog_1_method_4_code 0 = .ok (.aload_n 0, 1) := by decide +kernel
theorem d_Day_eventOf_1 : decode prog_1_method_4_code 1 = .ok (.iload_n 1, 1) := by decide +kernel
theorem d_Day_eventOf_2 : decode prog_1_method_4_code 2 = .ok (.invokevirtual 73, 3) := by decide +kernel
theorem d_Day_eventOf_5 : decode prog_1_method_4_code 5 = .ok (.ifCond .eq 10, 3) := by decide +kernel
theorem d_Day_eventOf_8 : decode prog_1_method_4_code 8 = .ok (.aload_n 0, 1) := by decide +kernel
theorem d_Day_eventOf_9 : decode prog_1_method_4_code 9 = .ok (.ldc 55, 2) := by decide +kernel
theorem d_Day_eventOf_11 : decode prog_1_method_4_code 11 = .ok (.invokevirtual 56, 3) := by decide +kernel
theorem d_Day_eventOf_14 : decode prog_1_method_4_code 14 = .ok (.ireturn, 1) := by decide +kernel
theorem d_Day_eventOf_15 : decode prog_1_method_4_code 15 = .ok (.aload_n 0, 1) := by decide +kernel
theorem d_Day_eventOf_16 : decode prog_1_method_4_code 16 = .ok (.getfield 12, 3) := by decide +kernel
theorem d_Day_eventOf_19 : decode prog_1_method_4_code 19 = .ok (.getfield 77, 3) := by decide +kernel
theorem d_Day_eventOf_22 : decode prog_1_method_4_code 22 = .ok (.iload_n 1, 1) := by decide +kernel
theorem d_Day_eventOf_23 : decode prog_1_method_4_code 23 = .ok (.aaload, 1) := by decide +kernel
theorem d_Day_eventOf_24 : decode prog_1_method_4_code 24 = .ok (.astore_n 3, 1) := by decide +kernel
theorem d_Day_eventOf_25 : decode prog_1_method_4_code 25 = .ok (.iload_n 2, 1) := by decide +kernel
theorem d_Day_eventOf_26 : decode prog_1_method_4_code 26 = .ok (.tableswitch 94 0 5 #[38, 43, 48, 61, 70, 82], 38) := by decide +kernel
theorem d_Day_eventOf_64 : decode prog_1_method_4_code 64 = .ok (.aload_n 3, 1) := by decide +kernel
theorem d_Day_eventOf_65 : decode prog_1_method_4_code 65 = .ok (.getfield 81, 3) := by decide +kernel
theorem d_Day_eventOf_68 : decode prog_1_method_4_code 68 = .ok (.ireturn, 1) := by decide +kernel
theorem d_Day_eventOf_69 : decode prog_1_method_4_code 69 = .ok (.aload_n 3, 1) := by decide +kernel
theorem d_Day_eventOf_70 : decode prog_1_method_4_code 70 = .ok (.getfield 86, 3) := by decide +kernel
theorem d_Day_eventOf_73 : decode prog_1_method_4_code 73 = .ok (.ireturn, 1) := by decide +kernel
theorem d_Day_eventOf_74 : decode prog_1_method_4_code 74 = .ok (.aload_n 3, 1) := by decide +kernel
theorem d_Day_eventOf_75 : decode prog_1_method_4_code 75 = .ok (.getfield 89, 3) := by decide +kernel
theorem d_Day_eventOf_78 : decode prog_1_method_4_code 78 = .ok (.ifCond .eq 7, 3) := by decide +kernel
theorem d_Day_eventOf_81 : decode prog_1_method_4_code 81 = .ok (.iconst 1, 1) := by decide +kernel
theorem d_Day_eventOf_82 : decode prog_1_method_4_code 82 = .ok (.goto 4, 3) := by decide +kernel
theorem d_Day_eventOf_85 : decode prog_1_method_4_code 85 = .ok (.iconst 0, 1) := by decide +kernel
theorem d_Day_eventOf_86 : decode prog_1_method_4_code 86 = .ok (.ireturn, 1) := by decide +kernel
theorem d_Day_eventOf_87 : decode prog_1_method_4_code 87 = .ok (.aload_n 0, 1) := by decide +kernel
theorem d_Day_eventOf_88 : decode prog_1_method_4_code 88 = .ok (.getfield 12, 3) := by decide +kernel
theorem d_Day_eventOf_91 : decode prog_1_method_4_code 91 = .ok (.iload_n 1, 1) := by decide +kernel
theorem d_Day_eventOf_92 : decode prog_1_method_4_code 92 = .ok (.invokevirtual 92, 3) := by decide +kernel
theorem d_Day_eventOf_95 : decode prog_1_method_4_code 95 = .ok (.ireturn, 1) := by decide +kernel
theorem d_Day_eventOf_96 : decode prog_1_method_4_code 96 = .ok (.aload_n 3, 1) := by decide +kernel
theorem d_Day_eventOf_97 : decode prog_1_method_4_code 97 = .ok (.aload_n 0, 1) := by decide +kernel
theorem d_Day_eventOf_98 : decode prog_1_method_4_code 98 = .ok (.getfield 12, 3) := by decide +kernel
theorem d_Day_eventOf_101 : decode prog_1_method_4_code 101 = .ok (.getfield 95, 3) := by decide +kernel
theorem d_Day_eventOf_104 : decode prog_1_method_4_code 104 = .ok (.invokevirtual 96, 3) := by decide +kernel
theorem d_Day_eventOf_107 : decode prog_1_method_4_code 107 = .ok (.ireturn, 1) := by decide +kernel
theorem d_Day_eventOf_108 : decode prog_1_method_4_code 108 = .ok (.aload_n 3, 1) := by decide +kernel
theorem d_Day_eventOf_109 : decode prog_1_method_4_code 109 = .ok (.aload_n 0, 1) := by decide +kernel
theorem d_Day_eventOf_110 : decode prog_1_method_4_code 110 = .ok (.getfield 12, 3) := by decide +kernel
theorem d_Day_eventOf_113 : decode prog_1_method_4_code 113 = .ok (.getfield 95, 3) := by decide +kernel
theorem d_Day_eventOf_116 : decode prog_1_method_4_code 116 = .ok (.invokevirtual 99, 3) := by decide +kernel
theorem d_Day_eventOf_119 : decode prog_1_method_4_code 119 = .ok (.ireturn, 1) := by decide +kernel
theorem d_Day_eventOf_120 : decode prog_1_method_4_code 120 = .ok (.aload_n 0, 1) := by decide +kernel
theorem d_Day_eventOf_121 : decode prog_1_method_4_code 121 = .ok (.ldc 55, 2) := by decide +kernel
theorem d_Day_eventOf_123 : decode prog_1_method_4_code 123 = .ok (.invokevirtual 56, 3) := by decide +kernel
theorem d_Day_eventOf_126 : decode prog_1_method_4_code 126 = .ok (.ireturn, 1) := by decide +kernel
theorem d_Day_noEvent_0 : decode prog_1_method_46_code 0 = .ok (.iload_n 1, 1) := by decide +kernel
theorem d_Day_noEvent_1 : decode prog_1_method_46_code 1 = .ok (.iconst 0, 1) := by decide +kernel
theorem d_Day_noEvent_2 : decode prog_1_method_46_code 2 = .ok (.aload_n 0, 1) := by decide +kernel
theorem d_Day_noEvent_3 : decode prog_1_method_46_code 3 = .ok (.getfield 12, 3) := by decide +kernel
theorem d_Day_noEvent_6 : decode prog_1_method_46_code 6 = .ok (.getfield 214, 3) := by decide +kernel
theorem d_Day_noEvent_9 : decode prog_1_method_46_code 9 = .ok (.iconst 1, 1) := by decide +kernel
theorem d_Day_noEvent_10 : decode prog_1_method_46_code 10 = .ok (.isub, 1) := by decide +kernel
theorem d_Day_noEvent_11 : decode prog_1_method_46_code 11 = .ok (.invokestatic 51, 3) := by decide +kernel
theorem d_Day_noEvent_14 : decode prog_1_method_46_code 14 = .ok (.ireturn, 1) := by decide +kernel
theorem d_Day_worth_0 : decode prog_1_method_5_code 0 = .ok (.aload_n 0, 1) := by decide +kernel
theorem d_Day_worth_1 : decode prog_1_method_5_code 1 = .ok (.iload_n 1, 1) := by decide +kernel
theorem d_Day_worth_2 : decode prog_1_method_5_code 2 = .ok (.invokevirtual 73, 3) := by decide +kernel
theorem d_Day_worth_5 : decode prog_1_method_5_code 5 = .ok (.ifCond .ne 14, 3) := by decide +kernel
theorem d_Day_worth_8 : decode prog_1_method_5_code 8 = .ok (.iload_n 2, 1) := by decide +kernel
theorem d_Day_worth_9 : decode prog_1_method_5_code 9 = .ok (.bipush (-99), 2) := by decide +kernel
theorem d_Day_worth_11 : decode prog_1_method_5_code 11 = .ok (.bipush 99, 2) := by decide +kernel
theorem d_Day_worth_13 : decode prog_1_method_5_code 13 = .ok (.invokestatic 51, 3) := by decide +kernel
theorem d_Day_worth_16 : decode prog_1_method_5_code 16 = .ok (.ifCond .eq 10, 3) := by decide +kernel
theorem d_Day_worth_19 : decode prog_1_method_5_code 19 = .ok (.aload_n 0, 1) := by decide +kernel
theorem d_Day_worth_20 : decode prog_1_method_5_code 20 = .ok (.ldc 55, 2) := by decide +kernel
theorem d_Day_worth_22 : decode prog_1_method_5_code 22 = .ok (.invokevirtual 56, 3) := by decide +kernel
theorem d_Day_worth_25 : decode prog_1_method_5_code 25 = .ok (.ireturn, 1) := by decide +kernel
theorem d_Day_worth_26 : decode prog_1_method_5_code 26 = .ok (.aload_n 0, 1) := by decide +kernel
theorem d_Day_worth_27 : decode prog_1_method_5_code 27 = .ok (.getfield 12, 3) := by decide +kernel
theorem d_Day_worth_30 : decode prog_1_method_5_code 30 = .ok (.getfield 77, 3) := by decide +kernel
theorem d_Day_worth_33 : decode prog_1_method_5_code 33 = .ok (.iload_n 1, 1) := by decide +kernel
theorem d_Day_worth_34 : decode prog_1_method_5_code 34 = .ok (.aaload, 1) := by decide +kernel
theorem d_Day_worth_35 : decode prog_1_method_5_code 35 = .ok (.getfield 86, 3) := by decide +kernel
theorem d_Day_worth_38 : decode prog_1_method_5_code 38 = .ok (.istore_n 3, 1) := by decide +kernel
theorem d_Day_worth_39 : decode prog_1_method_5_code 39 = .ok (.aload_n 0, 1) := by decide +kernel
theorem d_Day_worth_40 : decode prog_1_method_5_code 40 = .ok (.getfield 12, 3) := by decide +kernel
theorem d_Day_worth_43 : decode prog_1_method_5_code 43 = .ok (.getfield 77, 3) := by decide +kernel
theorem d_Day_worth_46 : decode prog_1_method_5_code 46 = .ok (.iload_n 1, 1) := by decide +kernel
theorem d_Day_worth_47 : decode prog_1_method_5_code 47 = .ok (.aaload, 1) := by decide +kernel
theorem d_Day_worth_48 : decode prog_1_method_5_code 48 = .ok (.iload_n 2, 1) := by decide +kernel
theorem d_Day_worth_49 : decode prog_1_method_5_code 49 = .ok (.putfield 86, 3) := by decide +kernel
theorem d_Day_worth_52 : decode prog_1_method_5_code 52 = .ok (.iload_n 3, 1) := by decide +kernel
theorem d_Day_worth_53 : decode prog_1_method_5_code 53 = .ok (.ireturn, 1) := by decide +kernel
theorem d_Day_one_0 : decode prog_1_method_6_code 0 = .ok (.iload_n 1, 1) := by decide +kernel
theorem d_Day_one_1 : decode prog_1_method_6_code 1 = .ok (.iconst 0, 1) := by decide +kernel
theorem d_Day_one_2 : decode prog_1_method_6_code 2 = .ok (.iconst 5, 1) := by decide +kernel
theorem d_Day_one_3 : decode prog_1_method_6_code 3 = .ok (.invokestatic 51, 3) := by decide +kernel
theorem d_Day_one_6 : decode prog_1_method_6_code 6 = .ok (.ifCond .ne 12, 3) := by decide +kernel
theorem d_Day_one_9 : decode prog_1_method_6_code 9 = .ok (.iload_n 2, 1) := by decide +kernel
theorem d_Day_one_10 : decode prog_1_method_6_code 10 = .ok (.iconst 0, 1) := by decide +kernel
theorem d_Day_one_11 : decode prog_1_method_6_code 11 = .ok (.iconst 1, 1) := by decide +kernel
theorem d_Day_one_12 : decode prog_1_method_6_code 12 = .ok (.invokestatic 51, 3) := by decide +kernel
theorem d_Day_one_15 : decode prog_1_method_6_code 15 = .ok (.ifCond .eq 10, 3) := by decide +kernel
theorem d_Day_one_18 : decode prog_1_method_6_code 18 = .ok (.aload_n 0, 1) := by decide +kernel
theorem d_Day_one_19 : decode prog_1_method_6_code 19 = .ok (.ldc 55, 2) := by decide +kernel
theorem d_Day_one_21 : decode prog_1_method_6_code 21 = .ok (.invokevirtual 56, 3) := by decide +kernel
theorem d_Day_one_24 : decode prog_1_method_6_code 24 = .ok (.ireturn, 1) := by decide +kernel
theorem d_Day_one_25 : decode prog_1_method_6_code 25 = .ok (.aload_n 0, 1) := by decide +kernel
theorem d_Day_one_26 : decode prog_1_method_6_code 26 = .ok (.getfield 12, 3) := by decide +kernel
theorem d_Day_one_29 : decode prog_1_method_6_code 29 = .ok (.invokevirtual 102, 3) := by decide +kernel
theorem d_Day_one_32 : decode prog_1_method_6_code 32 = .ok (.ifCond .eq 10, 3) := by decide +kernel
theorem d_Day_one_35 : decode prog_1_method_6_code 35 = .ok (.aload_n 0, 1) := by decide +kernel
theorem d_Day_one_36 : decode prog_1_method_6_code 36 = .ok (.ldc 68, 2) := by decide +kernel
theorem d_Day_one_38 : decode prog_1_method_6_code 38 = .ok (.invokevirtual 56, 3) := by decide +kernel
theorem d_Day_one_41 : decode prog_1_method_6_code 41 = .ok (.ireturn, 1) := by decide +kernel
theorem d_Day_one_42 : decode prog_1_method_6_code 42 = .ok (.aload_n 0, 1) := by decide +kernel
theorem d_Day_one_43 : decode prog_1_method_6_code 43 = .ok (.getfield 12, 3) := by decide +kernel
theorem d_Day_one_46 : decode prog_1_method_6_code 46 = .ok (.iload_n 1, 1) := by decide +kernel
theorem d_Day_one_47 : decode prog_1_method_6_code 47 = .ok (.iload_n 2, 1) := by decide +kernel
theorem d_Day_one_48 : decode prog_1_method_6_code 48 = .ok (.invokevirtual 105, 3) := by decide +kernel
theorem d_Day_one_51 : decode prog_1_method_6_code 51 = .ok (.ireturn, 1) := by decide +kernel
theorem d_Day_of_0 : decode prog_1_method_7_code 0 = .ok (.aload_n 0, 1) := by decide +kernel
theorem d_Day_of_1 : decode prog_1_method_7_code 1 = .ok (.iload_n 1, 1) := by decide +kernel
theorem d_Day_of_2 : decode prog_1_method_7_code 2 = .ok (.invokevirtual 108, 3) := by decide +kernel
theorem d_Day_of_5 : decode prog_1_method_7_code 5 = .ok (.ifCond .eq 10, 3) := by decide +kernel
theorem d_Day_of_8 : decode prog_1_method_7_code 8 = .ok (.aload_n 0, 1) := by decide +kernel
theorem d_Day_of_9 : decode prog_1_method_7_code 9 = .ok (.ldc 55, 2) := by decide +kernel
theorem d_Day_of_11 : decode prog_1_method_7_code 11 = .ok (.invokevirtual 56, 3) := by decide +kernel
theorem d_Day_of_14 : decode prog_1_method_7_code 14 = .ok (.ireturn, 1) := by decide +kernel
theorem d_Day_of_15 : decode prog_1_method_7_code 15 = .ok (.aload_n 0, 1) := by decide +kernel
theorem d_Day_of_16 : decode prog_1_method_7_code 16 = .ok (.getfield 12, 3) := by decide +kernel
theorem d_Day_of_19 : decode prog_1_method_7_code 19 = .ok (.getfield 111, 3) := by decide +kernel
theorem d_Day_of_22 : decode prog_1_method_7_code 22 = .ok (.iload_n 1, 1) := by decide +kernel
theorem d_Day_of_23 : decode prog_1_method_7_code 23 = .ok (.aaload, 1) := by decide +kernel
theorem d_Day_of_24 : decode prog_1_method_7_code 24 = .ok (.astore_n 3, 1) := by decide +kernel
theorem d_Day_of_25 : decode prog_1_method_7_code 25 = .ok (.iload_n 2, 1) := by decide +kernel
theorem d_Day_of_26 : decode prog_1_method_7_code 26 = .ok (.tableswitch 77 0 6 #[42, 47, 52, 57, 62, 67, 72], 42) := by decide +kernel
theorem d_Day_of_68 : decode prog_1_method_7_code 68 = .ok (.aload_n 3, 1) := by decide +kernel
theorem d_Day_of_69 : decode prog_1_method_7_code 69 = .ok (.getfield 115, 3) := by decide +kernel
theorem d_Day_of_72 : decode prog_1_method_7_code 72 = .ok (.ireturn, 1) := by decide +kernel
theorem d_Day_of_73 : decode prog_1_method_7_code 73 = .ok (.aload_n 3, 1) := by decide +kernel
theorem d_Day_of_74 : decode prog_1_method_7_code 74 = .ok (.getfield 120, 3) := by decide +kernel
theorem d_Day_of_77 : decode prog_1_method_7_code 77 = .ok (.ireturn, 1) := by decide +kernel
theorem d_Day_of_78 : decode prog_1_method_7_code 78 = .ok (.aload_n 3, 1) := by decide +kernel
theorem d_Day_of_79 : decode prog_1_method_7_code 79 = .ok (.getfield 123, 3) := by decide +kernel
theorem d_Day_of_82 : decode prog_1_method_7_code 82 = .ok (.ireturn, 1) := by decide +kernel
theorem d_Day_of_83 : decode prog_1_method_7_code 83 = .ok (.aload_n 3, 1) := by decide +kernel
theorem d_Day_of_84 : decode prog_1_method_7_code 84 = .ok (.getfield 126, 3) := by decide +kernel
theorem d_Day_of_87 : decode prog_1_method_7_code 87 = .ok (.ireturn, 1) := by decide +kernel
theorem d_Day_of_88 : decode prog_1_method_7_code 88 = .ok (.aload_n 3, 1) := by decide +kernel
theorem d_Day_of_89 : decode prog_1_method_7_code 89 = .ok (.getfield 129, 3) := by decide +kernel
theorem d_Day_of_92 : decode prog_1_method_7_code 92 = .ok (.ireturn, 1) := by decide +kernel
theorem d_Day_of_93 : decode prog_1_method_7_code 93 = .ok (.aload_n 3, 1) := by decide +kernel
theorem d_Day_of_94 : decode prog_1_method_7_code 94 = .ok (.getfield 132, 3) := by decide +kernel
theorem d_Day_of_97 : decode prog_1_method_7_code 97 = .ok (.ireturn, 1) := by decide +kernel
theorem d_Day_of_98 : decode prog_1_method_7_code 98 = .ok (.aload_n 3, 1) := by decide +kernel
theorem d_Day_of_99 : decode prog_1_method_7_code 99 = .ok (.getfield 135, 3) := by decide +kernel
theorem d_Day_of_102 : decode prog_1_method_7_code 102 = .ok (.ireturn, 1) := by decide +kernel
theorem d_Day_of_103 : decode prog_1_method_7_code 103 = .ok (.aload_n 0, 1) := by decide +kernel
theorem d_Day_of_104 : decode prog_1_method_7_code 104 = .ok (.ldc 55, 2) := by decide +kernel
theorem d_Day_of_106 : decode prog_1_method_7_code 106 = .ok (.invokevirtual 56, 3) := by decide +kernel
theorem d_Day_of_109 : decode prog_1_method_7_code 109 = .ok (.ireturn, 1) := by decide +kernel
theorem d_Day_noOne_0 : decode prog_1_method_45_code 0 = .ok (.iload_n 1, 1) := by decide +kernel
theorem d_Day_noOne_1 : decode prog_1_method_45_code 1 = .ok (.iconst 0, 1) := by decide +kernel
theorem d_Day_noOne_2 : decode prog_1_method_45_code 2 = .ok (.aload_n 0, 1) := by decide +kernel
theorem d_Day_noOne_3 : decode prog_1_method_45_code 3 = .ok (.getfield 12, 3) := by decide +kernel
theorem d_Day_noOne_6 : decode prog_1_method_45_code 6 = .ok (.getfield 223, 3) := by decide +kernel
theorem d_Day_noOne_9 : decode prog_1_method_45_code 9 = .ok (.iconst 1, 1) := by decide +kernel
theorem d_Day_noOne_10 : decode prog_1_method_45_code 10 = .ok (.isub, 1) := by decide +kernel
theorem d_Day_noOne_11 : decode prog_1_method_45_code 11 = .ok (.invokestatic 51, 3) := by decide +kernel
theorem d_Day_noOne_14 : decode prog_1_method_45_code 14 = .ok (.ireturn, 1) := by decide +kernel
theorem d_Day_set_0 : decode prog_1_method_8_code 0 = .ok (.aload_n 0, 1) := by decide +kernel
theorem d_Day_set_1 : decode prog_1_method_8_code 1 = .ok (.iload_n 1, 1) := by decide +kernel
theorem d_Day_set_2 : decode prog_1_method_8_code 2 = .ok (.invokevirtual 108, 3) := by decide +kernel
theorem d_Day_set_5 : decode prog_1_method_8_code 5 = .ok (.ifCond .ne 12, 3) := by decide +kernel
theorem d_Day_set_8 : decode prog_1_method_8_code 8 = .ok (.aload_n 0, 1) := by decide +kernel
theorem d_Day_set_9 : decode prog_1_method_8_code 9 = .ok (.iload_n 2, 1) := by decide +kernel
theorem d_Day_set_10 : decode prog_1_method_8_code 10 = .ok (.iload_n 3, 1) := by decide +kernel
theorem d_Day_set_11 : decode prog_1_method_8_code 11 = .ok (.invokevirtual 138, 3) := by decide +kernel
theorem d_Day_set_14 : decode prog_1_method_8_code 14 = .ok (.ifCond .ne 10, 3) := by decide +kernel
theorem d_Day_set_17 : decode prog_1_method_8_code 17 = .ok (.aload_n 0, 1) := by decide +kernel
theorem d_Day_set_18 : decode prog_1_method_8_code 18 = .ok (.ldc 55, 2) := by decide +kernel
theorem d_Day_set_20 : decode prog_1_method_8_code 20 = .ok (.invokevirtual 56, 3) := by decide +kernel
theorem d_Day_set_23 : decode prog_1_method_8_code 23 = .ok (.ireturn, 1) := by decide +kernel
theorem d_Day_set_24 : decode prog_1_method_8_code 24 = .ok (.aload_n 0, 1) := by decide +kernel
theorem d_Day_set_25 : decode prog_1_method_8_code 25 = .ok (.getfield 12, 3) := by decide +kernel
theorem d_Day_set_28 : decode prog_1_method_8_code 28 = .ok (.getfield 111, 3) := by decide +kernel
theorem d_Day_set_31 : decode prog_1_method_8_code 31 = .ok (.iload_n 1, 1) := by decide +kernel
theorem d_Day_set_32 : decode prog_1_method_8_code 32 = .ok (.aaload, 1) := by decide +kernel
theorem d_Day_set_33 : decode prog_1_method_8_code 33 = .ok (.astore 4, 2) := by decide +kernel
theorem d_Day_set_35 : decode prog_1_method_8_code 35 = .ok (.iload_n 2, 1) := by decide +kernel
theorem d_Day_set_36 : decode prog_1_method_8_code 36 = .ok (.tableswitch 96 1 4 #[32, 48, 64, 80], 32) := by decide +kernel
theorem d_Day_set_68 : decode prog_1_method_8_code 68 = .ok (.aload 4, 2) := by decide +kernel
theorem d_Day_set_70 : decode prog_1_method_8_code 70 = .ok (.getfield 120, 3) := by decide +kernel
theorem d_Day_set_73 : decode prog_1_method_8_code 73 = .ok (.istore 5, 2) := by decide +kernel
theorem d_Day_set_75 : decode prog_1_method_8_code 75 = .ok (.aload 4, 2) := by decide +kernel
theorem d_Day_set_77 : decode prog_1_method_8_code 77 = .ok (.iload_n 3, 1) := by decide +kernel
theorem d_Day_set_78 : decode prog_1_method_8_code 78 = .ok (.putfield 120, 3) := by decide +kernel
theorem d_Day_set_81 : decode prog_1_method_8_code 81 = .ok (.iload 5, 2) := by decide +kernel
theorem d_Day_set_83 : decode prog_1_method_8_code 83 = .ok (.ireturn, 1) := by decide +kernel
theorem d_Day_set_84 : decode prog_1_method_8_code 84 = .ok (.aload 4, 2) := by decide +kernel
theorem d_Day_set_86 : decode prog_1_method_8_code 86 = .ok (.getfield 123, 3) := by decide +kernel
theorem d_Day_set_89 : decode prog_1_method_8_code 89 = .ok (.istore 5, 2) := by decide +kernel
theorem d_Day_set_91 : decode prog_1_method_8_code 91 = .ok (.aload 4, 2) := by decide +kernel
theorem d_Day_set_93 : decode prog_1_method_8_code 93 = .ok (.iload_n 3, 1) := by decide +kernel
theorem d_Day_set_94 : decode prog_1_method_8_code 94 = .ok (.putfield 123, 3) := by decide +kernel
theorem d_Day_set_97 : decode prog_1_method_8_code 97 = .ok (.iload 5, 2) := by decide +kernel
theorem d_Day_set_99 : decode prog_1_method_8_code 99 = .ok (.ireturn, 1) := by decide +kernel
theorem d_Day_set_100 : decode prog_1_method_8_code 100 = .ok (.aload 4, 2) := by decide +kernel
theorem d_Day_set_102 : decode prog_1_method_8_code 102 = .ok (.getfield 126, 3) := by decide +kernel
theorem d_Day_set_105 : decode prog_1_method_8_code 105 = .ok (.istore 5, 2) := by decide +kernel
theorem d_Day_set_107 : decode prog_1_method_8_code 107 = .ok (.aload 4, 2) := by decide +kernel
theorem d_Day_set_109 : decode prog_1_method_8_code 109 = .ok (.iload_n 3, 1) := by decide +kernel
theorem d_Day_set_110 : decode prog_1_method_8_code 110 = .ok (.putfield 126, 3) := by decide +kernel
theorem d_Day_set_113 : decode prog_1_method_8_code 113 = .ok (.iload 5, 2) := by decide +kernel
theorem d_Day_set_115 : decode prog_1_method_8_code 115 = .ok (.ireturn, 1) := by decide +kernel
theorem d_Day_set_116 : decode prog_1_method_8_code 116 = .ok (.aload 4, 2) := by decide +kernel
theorem d_Day_set_118 : decode prog_1_method_8_code 118 = .ok (.getfield 129, 3) := by decide +kernel
theorem d_Day_set_121 : decode prog_1_method_8_code 121 = .ok (.istore 5, 2) := by decide +kernel
theorem d_Day_set_123 : decode prog_1_method_8_code 123 = .ok (.aload 4, 2) := by decide +kernel
theorem d_Day_set_125 : decode prog_1_method_8_code 125 = .ok (.iload_n 3, 1) := by decide +kernel
theorem d_Day_set_126 : decode prog_1_method_8_code 126 = .ok (.putfield 129, 3) := by decide +kernel
theorem d_Day_set_129 : decode prog_1_method_8_code 129 = .ok (.iload 5, 2) := by decide +kernel
theorem d_Day_set_131 : decode prog_1_method_8_code 131 = .ok (.ireturn, 1) := by decide +kernel
theorem d_Day_set_132 : decode prog_1_method_8_code 132 = .ok (.aload 4, 2) := by decide +kernel
theorem d_Day_set_134 : decode prog_1_method_8_code 134 = .ok (.getfield 135, 3) := by decide +kernel
theorem d_Day_set_137 : decode prog_1_method_8_code 137 = .ok (.istore 5, 2) := by decide +kernel
theorem d_Day_set_139 : decode prog_1_method_8_code 139 = .ok (.aload 4, 2) := by decide +kernel
theorem d_Day_set_141 : decode prog_1_method_8_code 141 = .ok (.iload_n 3, 1) := by decide +kernel
theorem d_Day_set_142 : decode prog_1_method_8_code 142 = .ok (.putfield 135, 3) := by decide +kernel
theorem d_Day_set_145 : decode prog_1_method_8_code 145 = .ok (.iload 5, 2) := by decide +kernel
theorem d_Day_set_147 : decode prog_1_method_8_code 147 = .ok (.ireturn, 1) := by decide +kernel
theorem d_Day_maySet_0 : decode prog_1_method_49_code 0 = .ok (.iload_n 1, 1) := by decide +kernel
theorem d_Day_maySet_1 : decode prog_1_method_49_code 1 = .ok (.tableswitch 112 1 6 #[39, 54, 71, 71, 112, 87], 39) := by decide +kernel
theorem d_Day_maySet_40 : decode prog_1_method_49_code 40 = .ok (.iload_n 2, 1) := by decide +kernel
theorem d_Day_maySet_41 : decode prog_1_method_49_code 41 = .ok (.iconst 0, 1) := by decide +kernel
theorem d_Day_maySet_42 : decode prog_1_method_49_code 42 = .ok (.iconst 1, 1) := by decide +kernel
theorem d_Day_maySet_43 : decode prog_1_method_49_code 43 = .ok (.invokestatic 51, 3) := by decide +kernel
theorem d_Day_maySet_46 : decode prog_1_method_49_code 46 = .ok (.ifCond .ne 7, 3) := by decide +kernel
theorem d_Day_maySet_49 : decode prog_1_method_49_code 49 = .ok (.iconst 1, 1) := by decide +kernel
theorem d_Day_maySet_50 : decode prog_1_method_49_code 50 = .ok (.goto 4, 3) := by decide +kernel
theorem d_Day_maySet_53 : decode prog_1_method_49_code 53 = .ok (.iconst 0, 1) := by decide +kernel
theorem d_Day_maySet_54 : decode prog_1_method_49_code 54 = .ok (.ireturn, 1) := by decide +kernel
theorem d_Day_maySet_55 : decode prog_1_method_49_code 55 = .ok (.iload_n 2, 1) := by decide +kernel
theorem d_Day_maySet_56 : decode prog_1_method_49_code 56 = .ok (.iconst 0, 1) := by decide +kernel
theorem d_Day_maySet_57 : decode prog_1_method_49_code 57 = .ok (.sipush 9999, 3) := by decide +kernel
theorem d_Day_maySet_60 : decode prog_1_method_49_code 60 = .ok (.invokestatic 51, 3) := by decide +kernel
theorem d_Day_maySet_63 : decode prog_1_method_49_code 63 = .ok (.ifCond .ne 7, 3) := by decide +kernel
theorem d_Day_maySet_66 : decode prog_1_method_49_code 66 = .ok (.iconst 1, 1) := by decide +kernel
theorem d_Day_maySet_67 : decode prog_1_method_49_code 67 = .ok (.goto 4, 3) := by decide +kernel
theorem d_Day_maySet_70 : decode prog_1_method_49_code 70 = .ok (.iconst 0, 1) := by decide +kernel
theorem d_Day_maySet_71 : decode prog_1_method_49_code 71 = .ok (.ireturn, 1) := by decide +kernel
theorem d_Day_maySet_72 : decode prog_1_method_49_code 72 = .ok (.iload_n 2, 1) := by decide +kernel
theorem d_Day_maySet_73 : decode prog_1_method_49_code 73 = .ok (.iconst (-1), 1) := by decide +kernel
theorem d_Day_maySet_74 : decode prog_1_method_49_code 74 = .ok (.bipush 23, 2) := by decide +kernel
theorem d_Day_maySet_76 : decode prog_1_method_49_code 76 = .ok (.invokestatic 51, 3) := by decide +kernel
theorem d_Day_maySet_79 : decode prog_1_method_49_code 79 = .ok (.ifCond .ne 7, 3) := by decide +kernel
theorem d_Day_maySet_82 : decode prog_1_method_49_code 82 = .ok (.iconst 1, 1) := by decide +kernel
theorem d_Day_maySet_83 : decode prog_1_method_49_code 83 = .ok (.goto 4, 3) := by decide +kernel
theorem d_Day_maySet_86 : decode prog_1_method_49_code 86 = .ok (.iconst 0, 1) := by decide +kernel
theorem d_Day_maySet_87 : decode prog_1_method_49_code 87 = .ok (.ireturn, 1) := by decide +kernel
theorem d_Day_maySet_88 : decode prog_1_method_49_code 88 = .ok (.iload_n 2, 1) := by decide +kernel
theorem d_Day_maySet_89 : decode prog_1_method_49_code 89 = .ok (.iconst 0, 1) := by decide +kernel
theorem d_Day_maySet_90 : decode prog_1_method_49_code 90 = .ok (.iconst 1, 1) := by decide +kernel
theorem d_Day_maySet_91 : decode prog_1_method_49_code 91 = .ok (.aload_n 0, 1) := by decide +kernel
theorem d_Day_maySet_92 : decode prog_1_method_49_code 92 = .ok (.getfield 12, 3) := by decide +kernel
theorem d_Day_maySet_95 : decode prog_1_method_49_code 95 = .ok (.getfield 214, 3) := by decide +kernel
theorem d_Day_maySet_98 : decode prog_1_method_49_code 98 = .ok (.ishl, 1) := by decide +kernel
theorem d_Day_maySet_99 : decode prog_1_method_49_code 99 = .ok (.iconst 1, 1) := by decide +kernel
theorem d_Day_maySet_100 : decode prog_1_method_49_code 100 = .ok (.isub, 1) := by decide +kernel
theorem d_Day_maySet_101 : decode prog_1_method_49_code 101 = .ok (.invokestatic 51, 3) := by decide +kernel
theorem d_Day_maySet_104 : decode prog_1_method_49_code 104 = .ok (.ifCond .ne 7, 3) := by decide +kernel
theorem d_Day_maySet_107 : decode prog_1_method_49_code 107 = .ok (.iconst 1, 1) := by decide +kernel
theorem d_Day_maySet_108 : decode prog_1_method_49_code 108 = .ok (.goto 4, 3) := by decide +kernel
theorem d_Day_maySet_111 : decode prog_1_method_49_code 111 = .ok (.iconst 0, 1) := by decide +kernel
theorem d_Day_maySet_112 : decode prog_1_method_49_code 112 = .ok (.ireturn, 1) := by decide +kernel
theorem d_Day_maySet_113 : decode prog_1_method_49_code 113 = .ok (.iconst 0, 1) := by decide +kernel
theorem d_Day_maySet_114 : decode prog_1_method_49_code 114 = .ok (.ireturn, 1) := by decide +kernel
theorem d_Day_turn_0 : decode prog_1_method_9_code 0 = .ok (.aload_n 0, 1) := by decide +kernel
theorem d_Day_turn_1 : decode prog_1_method_9_code 1 = .ok (.iload_n 1, 1) := by decide +kernel
theorem d_Day_turn_2 : decode prog_1_method_9_code 2 = .ok (.invokevirtual 108, 3) := by decide +kernel
theorem d_Day_turn_5 : decode prog_1_method_9_code 5 = .ok (.ifCond .ne 12, 3) := by decide +kernel
theorem d_Day_turn_8 : decode prog_1_method_9_code 8 = .ok (.iload_n 2, 1) := by decide +kernel
theorem d_Day_turn_9 : decode prog_1_method_9_code 9 = .ok (.iconst 0, 1) := by decide +kernel
theorem d_Day_turn_10 : decode prog_1_method_9_code 10 = .ok (.iconst 5, 1) := by decide +kernel
theorem d_Day_turn_11 : decode prog_1_method_9_code 11 = .ok (.invokestatic 51, 3) := by decide +kernel
theorem d_Day_turn_14 : decode prog_1_method_9_code 14 = .ok (.ifCond .eq 10, 3) := by decide +kernel
theorem d_Day_turn_17 : decode prog_1_method_9_code 17 = .ok (.aload_n 0, 1) := by decide +kernel
theorem d_Day_turn_18 : decode prog_1_method_9_code 18 = .ok (.ldc 55, 2) := by decide +kernel
theorem d_Day_turn_20 : decode prog_1_method_9_code 20 = .ok (.invokevirtual 56, 3) := by decide +kernel
theorem d_Day_turn_23 : decode prog_1_method_9_code 23 = .ok (.ireturn, 1) := by decide +kernel
theorem d_Day_turn_24 : decode prog_1_method_9_code 24 = .ok (.aload_n 0, 1) := by decide +kernel
theorem d_Day_turn_25 : decode prog_1_method_9_code 25 = .ok (.getfield 12, 3) := by decide +kernel
theorem d_Day_turn_28 : decode prog_1_method_9_code 28 = .ok (.getfield 111, 3) := by decide +kernel
theorem d_Day_turn_31 : decode prog_1_method_9_code 31 = .ok (.iload_n 1, 1) := by decide +kernel
theorem d_Day_turn_32 : decode prog_1_method_9_code 32 = .ok (.aaload, 1) := by decide +kernel
theorem d_Day_turn_33 : decode prog_1_method_9_code 33 = .ok (.getfield 115, 3) := by decide +kernel
theorem d_Day_turn_36 : decode prog_1_method_9_code 36 = .ok (.istore_n 3, 1) := by decide +kernel
theorem d_Day_turn_37 : decode prog_1_method_9_code 37 = .ok (.aload_n 0, 1) := by decide +kernel
theorem d_Day_turn_38 : decode prog_1_method_9_code 38 = .ok (.getfield 12, 3) := by decide +kernel
theorem d_Day_turn_41 : decode prog_1_method_9_code 41 = .ok (.getfield 111, 3) := by decide +kernel
theorem d_Day_turn_44 : decode prog_1_method_9_code 44 = .ok (.iload_n 1, 1) := by decide +kernel
theorem d_Day_turn_45 : decode prog_1_method_9_code 45 = .ok (.aaload, 1) := by decide +kernel
theorem d_Day_turn_46 : decode prog_1_method_9_code 46 = .ok (.iload_n 2, 1) := by decide +kernel
theorem d_Day_turn_47 : decode prog_1_method_9_code 47 = .ok (.putfield 115, 3) := by decide +kernel
theorem d_Day_turn_50 : decode prog_1_method_9_code 50 = .ok (.iload_n 3, 1) := by decide +kernel
theorem d_Day_turn_51 : decode prog_1_method_9_code 51 = .ok (.ireturn, 1) := by decide +kernel
theorem d_Day_as_0 : decode prog_1_method_10_code 0 = .ok (.aload_n 0, 1) := by decide +kernel
theorem d_Day_as_1 : decode prog_1_method_10_code 1 = .ok (.iload_n 1, 1) := by decide +kernel
theorem d_Day_as_2 : decode prog_1_method_10_code 2 = .ok (.invokevirtual 108, 3) := by decide +kernel
theorem d_Day_as_5 : decode prog_1_method_10_code 5 = .ok (.ifCond .ne 12, 3) := by decide +kernel
theorem d_Day_as_8 : decode prog_1_method_10_code 8 = .ok (.iload_n 2, 1) := by decide +kernel
theorem d_Day_as_9 : decode prog_1_method_10_code 9 = .ok (.iconst 0, 1) := by decide +kernel
theorem d_Day_as_10 : decode prog_1_method_10_code 10 = .ok (.iconst 5, 1) := by decide +kernel
theorem d_Day_as_11 : decode prog_1_method_10_code 11 = .ok (.invokestatic 51, 3) := by decide +kernel
theorem d_Day_as_14 : decode prog_1_method_10_code 14 = .ok (.ifCond .eq 10, 3) := by decide +kernel
theorem d_Day_as_17 : decode prog_1_method_10_code 17 = .ok (.aload_n 0, 1) := by decide +kernel
theorem d_Day_as_18 : decode prog_1_method_10_code 18 = .ok (.ldc 55, 2) := by decide +kernel
theorem d_Day_as_20 : decode prog_1_method_10_code 20 = .ok (.invokevirtual 56, 3) := by decide +kernel
theorem d_Day_as_23 : decode prog_1_method_10_code 23 = .ok (.ireturn, 1) := by decide +kernel
theorem d_Day_as_24 : decode prog_1_method_10_code 24 = .ok (.aload_n 0, 1) := by decide +kernel
theorem d_Day_as_25 : decode prog_1_method_10_code 25 = .ok (.getfield 12, 3) := by decide +kernel
theorem d_Day_as_28 : decode prog_1_method_10_code 28 = .ok (.getfield 111, 3) := by decide +kernel
theorem d_Day_as_31 : decode prog_1_method_10_code 31 = .ok (.iload_n 1, 1) := by decide +kernel
theorem d_Day_as_32 : decode prog_1_method_10_code 32 = .ok (.aaload, 1) := by decide +kernel
theorem d_Day_as_33 : decode prog_1_method_10_code 33 = .ok (.getfield 115, 3) := by decide +kernel
theorem d_Day_as_36 : decode prog_1_method_10_code 36 = .ok (.iload_n 2, 1) := by decide +kernel
theorem d_Day_as_37 : decode prog_1_method_10_code 37 = .ok (.invokestatic 142, 3) := by decide +kernel
theorem d_Day_as_40 : decode prog_1_method_10_code 40 = .ok (.ifCond .ne 10, 3) := by decide +kernel
theorem d_Day_as_43 : decode prog_1_method_10_code 43 = .ok (.aload_n 0, 1) := by decide +kernel
theorem d_Day_as_44 : decode prog_1_method_10_code 44 = .ok (.ldc 147, 2) := by decide +kernel
theorem d_Day_as_46 : decode prog_1_method_10_code 46 = .ok (.invokevirtual 56, 3) := by decide +kernel
theorem d_Day_as_49 : decode prog_1_method_10_code 49 = .ok (.ireturn, 1) := by decide +kernel
theorem d_Day_as_50 : decode prog_1_method_10_code 50 = .ok (.aload_n 0, 1) := by decide +kernel
theorem d_Day_as_51 : decode prog_1_method_10_code 51 = .ok (.getfield 12, 3) := by decide +kernel
theorem d_Day_as_54 : decode prog_1_method_10_code 54 = .ok (.getfield 111, 3) := by decide +kernel
theorem d_Day_as_57 : decode prog_1_method_10_code 57 = .ok (.iload_n 1, 1) := by decide +kernel
theorem d_Day_as_58 : decode prog_1_method_10_code 58 = .ok (.aaload, 1) := by decide +kernel
theorem d_Day_as_59 : decode prog_1_method_10_code 59 = .ok (.getfield 123, 3) := by decide +kernel
theorem d_Day_as_62 : decode prog_1_method_10_code 62 = .ok (.ireturn, 1) := by decide +kernel
theorem d_Day_gains_0 : decode prog_1_method_11_code 0 = .ok (.aload_n 0, 1) := by decide +kernel
theorem d_Day_gains_1 : decode prog_1_method_11_code 1 = .ok (.iload_n 1, 1) := by decide +kernel
theorem d_Day_gains_2 : decode prog_1_method_11_code 2 = .ok (.invokevirtual 108, 3) := by decide +kernel
theorem d_Day_gains_5 : decode prog_1_method_11_code 5 = .ok (.ifCond .ne 23, 3) := by decide +kernel
theorem d_Day_gains_8 : decode prog_1_method_11_code 8 = .ok (.iload_n 2, 1) := by decide +kernel
theorem d_Day_gains_9 : decode prog_1_method_11_code 9 = .ok (.bipush (-99), 2) := by decide +kernel
theorem d_Day_gains_11 : decode prog_1_method_11_code 11 = .ok (.bipush 99, 2) := by decide +kernel
theorem d_Day_gains_13 : decode prog_1_method_11_code 13 = .ok (.invokestatic 51, 3) := by decide +kernel
theorem d_Day_gains_16 : decode prog_1_method_11_code 16 = .ok (.ifCond .ne 12, 3) := by decide +kernel
theorem d_Day_gains_19 : decode prog_1_method_11_code 19 = .ok (.iload_n 3, 1) := by decide +kernel
theorem d_Day_gains_20 : decode prog_1_method_11_code 20 = .ok (.iconst 0, 1) := by decide +kernel
theorem d_Day_gains_21 : decode prog_1_method_11_code 21 = .ok (.iconst 1, 1) := by decide +kernel
theorem d_Day_gains_22 : decode prog_1_method_11_code 22 = .ok (.invokestatic 51, 3) := by decide +kernel
theorem d_Day_gains_25 : decode prog_1_method_11_code 25 = .ok (.ifCond .eq 10, 3) := by decide +kernel
theorem d_Day_gains_28 : decode prog_1_method_11_code 28 = .ok (.aload_n 0, 1) := by decide +kernel
theorem d_Day_gains_29 : decode prog_1_method_11_code 29 = .ok (.ldc 55, 2) := by decide +kernel
theorem d_Day_gains_31 : decode prog_1_method_11_code 31 = .ok (.invokevirtual 56, 3) := by decide +kernel
theorem d_Day_gains_34 : decode prog_1_method_11_code 34 = .ok (.ireturn, 1) := by decide +kernel
theorem d_Day_gains_35 : decode prog_1_method_11_code 35 = .ok (.aload_n 0, 1) := by decide +kernel
theorem d_Day_gains_36 : decode prog_1_method_11_code 36 = .ok (.getfield 12, 3) := by decide +kernel
theorem d_Day_gains_39 : decode prog_1_method_11_code 39 = .ok (.getfield 111, 3) := by decide +kernel
theorem d_Day_gains_42 : decode prog_1_method_11_code 42 = .ok (.iload_n 1, 1) := by decide +kernel
theorem d_Day_gains_43 : decode prog_1_method_11_code 43 = .ok (.aaload, 1) := by decide +kernel
theorem d_Day_gains_44 : decode prog_1_method_11_code 44 = .ok (.getfield 115, 3) := by decide +kernel
theorem d_Day_gains_47 : decode prog_1_method_11_code 47 = .ok (.iload_n 2, 1) := by decide +kernel
theorem d_Day_gains_48 : decode prog_1_method_11_code 48 = .ok (.iload_n 3, 1) := by decide +kernel
theorem d_Day_gains_49 : decode prog_1_method_11_code 49 = .ok (.iconst 1, 1) := by decide +kernel
theorem d_Day_gains_50 : decode prog_1_method_11_code 50 = .ok (.if_icmp .ne 7, 3) := by decide +kernel
theorem d_Day_gains_53 : decode prog_1_method_11_code 53 = .ok (.iconst 1, 1) := by decide +kernel
theorem d_Day_gains_54 : decode prog_1_method_11_code 54 = .ok (.goto 4, 3) := by decide +kernel
theorem d_Day_gains_57 : decode prog_1_method_11_code 57 = .ok (.iconst 0, 1) := by decide +kernel
theorem d_Day_gains_58 : decode prog_1_method_11_code 58 = .ok (.invokestatic 148, 3) := by decide +kernel
theorem d_Day_gains_61 : decode prog_1_method_11_code 61 = .ok (.ireturn, 1) := by decide +kernel
theorem d_Day_cross_0 : decode prog_1_method_12_code 0 = .ok (.aload_n 0, 1) := by decide +kernel
theorem d_Day_cross_1 : decode prog_1_method_12_code 1 = .ok (.iload_n 1, 1) := by decide +kernel
theorem d_Day_cross_2 : decode prog_1_method_12_code 2 = .ok (.invokevirtual 108, 3) := by decide +kernel
theorem d_Day_cross_5 : decode prog_1_method_12_code 5 = .ok (.ifCond .eq 10, 3) := by decide +kernel
theorem d_Day_cross_8 : decode prog_1_method_12_code 8 = .ok (.aload_n 0, 1) := by decide +kernel
theorem d_Day_cross_9 : decode prog_1_method_12_code 9 = .ok (.ldc 55, 2) := by decide +kernel
theorem d_Day_cross_11 : decode prog_1_method_12_code 11 = .ok (.invokevirtual 56, 3) := by decide +kernel
theorem d_Day_cross_14 : decode prog_1_method_12_code 14 = .ok (.ireturn, 1) := by decide +kernel
theorem d_Day_cross_15 : decode prog_1_method_12_code 15 = .ok (.aload_n 0, 1) := by decide +kernel
theorem d_Day_cross_16 : decode prog_1_method_12_code 16 = .ok (.getfield 12, 3) := by decide +kernel
theorem d_Day_cross_19 : decode prog_1_method_12_code 19 = .ok (.getfield 111, 3) := by decide +kernel
theorem d_Day_cross_22 : decode prog_1_method_12_code 22 = .ok (.iload_n 1, 1) := by decide +kernel
theorem d_Day_cross_23 : decode prog_1_method_12_code 23 = .ok (.aaload, 1) := by decide +kernel
theorem d_Day_cross_24 : decode prog_1_method_12_code 24 = .ok (.astore_n 2, 1) := by decide +kernel
theorem d_Day_cross_25 : decode prog_1_method_12_code 25 = .ok (.aload_n 2, 1) := by decide +kernel
theorem d_Day_cross_26 : decode prog_1_method_12_code 26 = .ok (.aload_n 0, 1) := by decide +kernel
theorem d_Day_cross_27 : decode prog_1_method_12_code 27 = .ok (.getfield 12, 3) := by decide +kernel
theorem d_Day_cross_30 : decode prog_1_method_12_code 30 = .ok (.getfield 60, 3) := by decide +kernel
theorem d_Day_cross_33 : decode prog_1_method_12_code 33 = .ok (.invokevirtual 152, 3) := by decide +kernel
theorem d_Day_cross_36 : decode prog_1_method_12_code 36 = .ok (.ifCond .ne 10, 3) := by decide +kernel
theorem d_Day_cross_39 : decode prog_1_method_12_code 39 = .ok (.aload_n 0, 1) := by decide +kernel
theorem d_Day_cross_40 : decode prog_1_method_12_code 40 = .ok (.ldc 155, 2) := by decide +kernel
theorem d_Day_cross_42 : decode prog_1_method_12_code 42 = .ok (.invokevirtual 56, 3) := by decide +kernel
theorem d_Day_cross_45 : decode prog_1_method_12_code 45 = .ok (.ireturn, 1) := by decide +kernel
theorem d_Day_cross_46 : decode prog_1_method_12_code 46 = .ok (.aload_n 2, 1) := by decide +kernel
theorem d_Day_cross_47 : decode prog_1_method_12_code 47 = .ok (.aload_n 0, 1) := by decide +kernel
theorem d_Day_cross_48 : decode prog_1_method_12_code 48 = .ok (.getfield 12, 3) := by decide +kernel
theorem d_Day_cross_51 : decode prog_1_method_12_code 51 = .ok (.getfield 60, 3) := by decide +kernel
theorem d_Day_cross_54 : decode prog_1_method_12_code 54 = .ok (.invokevirtual 156, 3) := by decide +kernel
theorem d_Day_cross_57 : decode prog_1_method_12_code 57 = .ok (.aload_n 2, 1) := by decide +kernel
theorem d_Day_cross_58 : decode prog_1_method_12_code 58 = .ok (.getfield 120, 3) := by decide +kernel
theorem d_Day_cross_61 : decode prog_1_method_12_code 61 = .ok (.ireturn, 1) := by decide +kernel
theorem d_Day_tells_0 : decode prog_1_method_13_code 0 = .ok (.aload_n 0, 1) := by decide +kernel
theorem d_Day_tells_1 : decode prog_1_method_13_code 1 = .ok (.iload_n 1, 1) := by decide +kernel
theorem d_Day_tells_2 : decode prog_1_method_13_code 2 = .ok (.invokevirtual 108, 3) := by decide +kernel
theorem d_Day_tells_5 : decode prog_1_method_13_code 5 = .ok (.ifCond .ne 16, 3) := by decide +kernel
theorem d_Day_tells_8 : decode prog_1_method_13_code 8 = .ok (.aload_n 0, 1) := by decide +kernel
theorem d_Day_tells_9 : decode prog_1_method_13_code 9 = .ok (.iload_n 2, 1) := by decide +kernel
theorem d_Day_tells_10 : decode prog_1_method_13_code 10 = .ok (.invokevirtual 108, 3) := by decide +kernel
theorem d_Day_tells_13 : decode prog_1_method_13_code 13 = .ok (.ifCond .ne 8, 3) := by decide +kernel
theorem d_Day_tells_16 : decode prog_1_method_13_code 16 = .ok (.iload_n 1, 1) := by decide +kernel
theorem d_Day_tells_17 : decode prog_1_method_13_code 17 = .ok (.iload_n 2, 1) := by decide +kernel
theorem d_Day_tells_18 : decode prog_1_method_13_code 18 = .ok (.if_icmp .ne 10, 3) := by decide +kernel
theorem d_Day_tells_21 : decode prog_1_method_13_code 21 = .ok (.aload_n 0, 1) := by decide +kernel
theorem d_Day_tells_22 : decode prog_1_method_13_code 22 = .ok (.ldc 55, 2) := by decide +kernel
theorem d_Day_tells_24 : decode prog_1_method_13_code 24 = .ok (.invokevirtual 56, 3) := by decide +kernel
theorem d_Day_tells_27 : decode prog_1_method_13_code 27 = .ok (.ireturn, 1) := by decide +kernel
theorem d_Day_tells_28 : decode prog_1_method_13_code 28 = .ok (.aload_n 0, 1) := by decide +kernel
theorem d_Day_tells_29 : decode prog_1_method_13_code 29 = .ok (.getfield 12, 3) := by decide +kernel
theorem d_Day_tells_32 : decode prog_1_method_13_code 32 = .ok (.getfield 111, 3) := by decide +kernel
theorem d_Day_tells_35 : decode prog_1_method_13_code 35 = .ok (.iload_n 1, 1) := by decide +kernel
theorem d_Day_tells_36 : decode prog_1_method_13_code 36 = .ok (.aaload, 1) := by decide +kernel
theorem d_Day_tells_37 : decode prog_1_method_13_code 37 = .ok (.astore_n 3, 1) := by decide +kernel
theorem d_Day_tells_38 : decode prog_1_method_13_code 38 = .ok (.aload_n 0, 1) := by decide +kernel
theorem d_Day_tells_39 : decode prog_1_method_13_code 39 = .ok (.getfield 12, 3) := by decide +kernel
theorem d_Day_tells_42 : decode prog_1_method_13_code 42 = .ok (.getfield 111, 3) := by decide +kernel
theorem d_Day_tells_45 : decode prog_1_method_13_code 45 = .ok (.iload_n 2, 1) := by decide +kernel
theorem d_Day_tells_46 : decode prog_1_method_13_code 46 = .ok (.aaload, 1) := by decide +kernel
theorem d_Day_tells_47 : decode prog_1_method_13_code 47 = .ok (.astore 4, 2) := by decide +kernel
theorem d_Day_tells_49 : decode prog_1_method_13_code 49 = .ok (.aload_n 3, 1) := by decide +kernel
theorem d_Day_tells_50 : decode prog_1_method_13_code 50 = .ok (.getfield 120, 3) := by decide +kernel
theorem d_Day_tells_53 : decode prog_1_method_13_code 53 = .ok (.aload 4, 2) := by decide +kernel
theorem d_Day_tells_55 : decode prog_1_method_13_code 55 = .ok (.getfield 120, 3) := by decide +kernel
theorem d_Day_tells_58 : decode prog_1_method_13_code 58 = .ok (.if_icmp .eq 10, 3) := by decide +kernel
theorem d_Day_tells_61 : decode prog_1_method_13_code 61 = .ok (.aload_n 0, 1) := by decide +kernel
theorem d_Day_tells_62 : decode prog_1_method_13_code 62 = .ok (.ldc 155, 2) := by decide +kernel
theorem d_Day_tells_64 : decode prog_1_method_13_code 64 = .ok (.invokevirtual 56, 3) := by decide +kernel
theorem d_Day_tells_67 : decode prog_1_method_13_code 67 = .ok (.ireturn, 1) := by decide +kernel
theorem d_Day_tells_68 : decode prog_1_method_13_code 68 = .ok (.aload_n 3, 1) := by decide +kernel
theorem d_Day_tells_69 : decode prog_1_method_13_code 69 = .ok (.getfield 135, 3) := by decide +kernel
theorem d_Day_tells_72 : decode prog_1_method_13_code 72 = .ok (.aload 4, 2) := by decide +kernel
theorem d_Day_tells_74 : decode prog_1_method_13_code 74 = .ok (.getfield 135, 3) := by decide +kernel
theorem d_Day_tells_77 : decode prog_1_method_13_code 77 = .ok (.iconst (-1), 1) := by decide +kernel
theorem d_Day_tells_78 : decode prog_1_method_13_code 78 = .ok (.ixor, 1) := by decide +kernel
theorem d_Day_tells_79 : decode prog_1_method_13_code 79 = .ok (.iand, 1) := by decide +kernel
theorem d_Day_tells_80 : decode prog_1_method_13_code 80 = .ok (.istore 5, 2) := by decide +kernel
theorem d_Day_tells_82 : decode prog_1_method_13_code 82 = .ok (.aload 4, 2) := by decide +kernel
theorem d_Day_tells_84 : decode prog_1_method_13_code 84 = .ok (.dup, 1) := by decide +kernel
theorem d_Day_tells_85 : decode prog_1_method_13_code 85 = .ok (.getfield 135, 3) := by decide +kernel
theorem d_Day_tells_88 : decode prog_1_method_13_code 88 = .ok (.iload 5, 2) := by decide +kernel
theorem d_Day_tells_90 : decode prog_1_method_13_code 90 = .ok (.ior, 1) := by decide +kernel
theorem d_Day_tells_91 : decode prog_1_method_13_code 91 = .ok (.putfield 135, 3) := by decide +kernel
theorem d_Day_tells_94 : decode prog_1_method_13_code 94 = .ok (.iload 5, 2) := by decide +kernel
theorem d_Day_tells_96 : decode prog_1_method_13_code 96 = .ok (.invokestatic 160, 3) := by decide +kernel
theorem d_Day_tells_99 : decode prog_1_method_13_code 99 = .ok (.ireturn, 1) := by decide +kernel
theorem d_Day_hours_0 : decode prog_1_method_14_code 0 = .ok (.iload_n 1, 1) := by decide +kernel
theorem d_Day_hours_1 : decode prog_1_method_14_code 1 = .ok (.iconst 1, 1) := by decide +kernel
theorem d_Day_hours_2 : decode prog_1_method_14_code 2 = .ok (.bipush 72, 2) := by decide +kernel
theorem d_Day_hours_4 : decode prog_1_method_14_code 4 = .ok (.invokestatic 51, 3) := by decide +kernel
theorem d_Day_hours_7 : decode prog_1_method_14_code 7 = .ok (.ifCond .eq 10, 3) := by decide +kernel
theorem d_Day_hours_10 : decode prog_1_method_14_code 10 = .ok (.aload_n 0, 1) := by decide +kernel
theorem d_Day_hours_11 : decode prog_1_method_14_code 11 = .ok (.ldc 55, 2) := by decide +kernel
theorem d_Day_hours_13 : decode prog_1_method_14_code 13 = .ok (.invokevirtual 56, 3) := by decide +kernel
theorem d_Day_hours_16 : decode prog_1_method_14_code 16 = .ok (.ireturn, 1) := by decide +kernel
theorem d_Day_hours_17 : decode prog_1_method_14_code 17 = .ok (.aload_n 0, 1) := by decide +kernel
theorem d_Day_hours_18 : decode prog_1_method_14_code 18 = .ok (.getfield 12, 3) := by decide +kernel
theorem d_Day_hours_21 : decode prog_1_method_14_code 21 = .ok (.getfield 95, 3) := by decide +kernel
theorem d_Day_hours_24 : decode prog_1_method_14_code 24 = .ok (.iload_n 1, 1) := by decide +kernel
theorem d_Day_hours_25 : decode prog_1_method_14_code 25 = .ok (.iadd, 1) := by decide +kernel
theorem d_Day_hours_26 : decode prog_1_method_14_code 26 = .ok (.sipush 9999, 3) := by decide +kernel
theorem d_Day_hours_29 : decode prog_1_method_14_code 29 = .ok (.if_icmp .le 10, 3) := by decide +kernel
theorem d_Day_hours_32 : decode prog_1_method_14_code 32 = .ok (.aload_n 0, 1) := by decide +kernel
theorem d_Day_hours_33 : decode prog_1_method_14_code 33 = .ok (.ldc 155, 2) := by decide +kernel
theorem d_Day_hours_35 : decode prog_1_method_14_code 35 = .ok (.invokevirtual 56, 3) := by decide +kernel
theorem d_Day_hours_38 : decode prog_1_method_14_code 38 = .ok (.ireturn, 1) := by decide +kernel
theorem d_Day_hours_39 : decode prog_1_method_14_code 39 = .ok (.aload_n 0, 1) := by decide +kernel
theorem d_Day_hours_40 : decode prog_1_method_14_code 40 = .ok (.getfield 12, 3) := by decide +kernel
theorem d_Day_hours_43 : decode prog_1_method_14_code 43 = .ok (.iload_n 1, 1) := by decide +kernel
theorem d_Day_hours_44 : decode prog_1_method_14_code 44 = .ok (.invokevirtual 165, 3) := by decide +kernel
theorem d_Day_hours_47 : decode prog_1_method_14_code 47 = .ok (.aload_n 0, 1) := by decide +kernel
theorem d_Day_hours_48 : decode prog_1_method_14_code 48 = .ok (.getfield 12, 3) := by decide +kernel
theorem d_Day_hours_51 : decode prog_1_method_14_code 51 = .ok (.invokevirtual 168, 3) := by decide +kernel
theorem d_Day_hours_54 : decode prog_1_method_14_code 54 = .ok (.ireturn, 1) := by decide +kernel
theorem d_Day_now_0 : decode prog_1_method_15_code 0 = .ok (.iload_n 1, 1) := by decide +kernel
theorem d_Day_now_1 : decode prog_1_method_15_code 1 = .ok (.tableswitch 90 0 5 #[39, 47, 58, 66, 74, 82], 39) := by decide +kernel
theorem d_Day_now_40 : decode prog_1_method_15_code 40 = .ok (.aload_n 0, 1) := by decide +kernel
theorem d_Day_now_41 : decode prog_1_method_15_code 41 = .ok (.getfield 12, 3) := by decide +kernel
theorem d_Day_now_44 : decode prog_1_method_15_code 44 = .ok (.getfield 95, 3) := by decide +kernel
theorem d_Day_now_47 : decode prog_1_method_15_code 47 = .ok (.ireturn, 1) := by decide +kernel
theorem d_Day_now_48 : decode prog_1_method_15_code 48 = .ok (.aload_n 0, 1) := by decide +kernel
theorem d_Day_now_49 : decode prog_1_method_15_code 49 = .ok (.getfield 12, 3) := by decide +kernel
theorem d_Day_now_52 : decode prog_1_method_15_code 52 = .ok (.getfield 95, 3) := by decide +kernel
theorem d_Day_now_55 : decode prog_1_method_15_code 55 = .ok (.bipush 24, 2) := by decide +kernel
theorem d_Day_now_57 : decode prog_1_method_15_code 57 = .ok (.irem, 1) := by decide +kernel
theorem d_Day_now_58 : decode prog_1_method_15_code 58 = .ok (.ireturn, 1) := by decide +kernel
theorem d_Day_now_59 : decode prog_1_method_15_code 59 = .ok (.aload_n 0, 1) := by decide +kernel
theorem d_Day_now_60 : decode prog_1_method_15_code 60 = .ok (.getfield 12, 3) := by decide +kernel
theorem d_Day_now_63 : decode prog_1_method_15_code 63 = .ok (.invokevirtual 168, 3) := by decide +kernel
theorem d_Day_now_66 : decode prog_1_method_15_code 66 = .ok (.ireturn, 1) := by decide +kernel
theorem d_Day_now_67 : decode prog_1_method_15_code 67 = .ok (.aload_n 0, 1) := by decide +kernel
theorem d_Day_now_68 : decode prog_1_method_15_code 68 = .ok (.getfield 12, 3) := by decide +kernel
theorem d_Day_now_71 : decode prog_1_method_15_code 71 = .ok (.invokevirtual 172, 3) := by decide +kernel
theorem d_Day_now_74 : decode prog_1_method_15_code 74 = .ok (.ireturn, 1) := by decide +kernel
theorem d_Day_now_75 : decode prog_1_method_15_code 75 = .ok (.aload_n 0, 1) := by decide +kernel
theorem d_Day_now_76 : decode prog_1_method_15_code 76 = .ok (.getfield 12, 3) := by decide +kernel
theorem d_Day_now_79 : decode prog_1_method_15_code 79 = .ok (.invokevirtual 175, 3) := by decide +kernel
theorem d_Day_now_82 : decode prog_1_method_15_code 82 = .ok (.ireturn, 1) := by decide +kernel
theorem d_Day_now_83 : decode prog_1_method_15_code 83 = .ok (.aload_n 0, 1) := by decide +kernel
theorem d_Day_now_84 : decode prog_1_method_15_code 84 = .ok (.getfield 12, 3) := by decide +kernel
theorem d_Day_now_87 : decode prog_1_method_15_code 87 = .ok (.invokevirtual 178, 3) := by decide +kernel
theorem d_Day_now_90 : decode prog_1_method_15_code 90 = .ok (.ireturn, 1) := by decide +kernel
theorem d_Day_now_91 : decode prog_1_method_15_code 91 = .ok (.aload_n 0, 1) := by decide +kernel
theorem d_Day_now_92 : decode prog_1_method_15_code 92 = .ok (.ldc 55, 2) := by decide +kernel
theorem d_Day_now_94 : decode prog_1_method_15_code 94 = .ok (.invokevirtual 56, 3) := by decide +kernel
theorem d_Day_now_97 : decode prog_1_method_15_code 97 = .ok (.ireturn, 1) := by decide +kernel
theorem d_Day_on_0 : decode prog_1_method_16_code 0 = .ok (.aload_n 0, 1) := by decide +kernel
theorem d_Day_on_1 : decode prog_1_method_16_code 1 = .ok (.iload_n 1, 1) := by decide +kernel
theorem d_Day_on_2 : decode prog_1_method_16_code 2 = .ok (.invokevirtual 108, 3) := by decide +kernel
theorem d_Day_on_5 : decode prog_1_method_16_code 5 = .ok (.ifCond .ne 22, 3) := by decide +kernel
theorem d_Day_on_8 : decode prog_1_method_16_code 8 = .ok (.iload_n 2, 1) := by decide +kernel
theorem d_Day_on_9 : decode prog_1_method_16_code 9 = .ok (.iconst 0, 1) := by decide +kernel
theorem d_Day_on_10 : decode prog_1_method_16_code 10 = .ok (.bipush 72, 2) := by decide +kernel
theorem d_Day_on_12 : decode prog_1_method_16_code 12 = .ok (.invokestatic 51, 3) := by decide +kernel
theorem d_Day_on_15 : decode prog_1_method_16_code 15 = .ok (.ifCond .ne 12, 3) := by decide +kernel
theorem d_Day_on_18 : decode prog_1_method_16_code 18 = .ok (.iload_n 3, 1) := by decide +kernel
theorem d_Day_on_19 : decode prog_1_method_16_code 19 = .ok (.iconst 0, 1) := by decide +kernel
theorem d_Day_on_20 : decode prog_1_method_16_code 20 = .ok (.iconst 3, 1) := by decide +kernel
theorem d_Day_on_21 : decode prog_1_method_16_code 21 = .ok (.invokestatic 51, 3) := by decide +kernel
theorem d_Day_on_24 : decode prog_1_method_16_code 24 = .ok (.ifCond .eq 10, 3) := by decide +kernel
theorem d_Day_on_27 : decode prog_1_method_16_code 27 = .ok (.aload_n 0, 1) := by decide +kernel
theorem d_Day_on_28 : decode prog_1_method_16_code 28 = .ok (.ldc 55, 2) := by decide +kernel
theorem d_Day_on_30 : decode prog_1_method_16_code 30 = .ok (.invokevirtual 56, 3) := by decide +kernel
theorem d_Day_on_33 : decode prog_1_method_16_code 33 = .ok (.ireturn, 1) := by decide +kernel
theorem d_Day_on_34 : decode prog_1_method_16_code 34 = .ok (.aload_n 0, 1) := by decide +kernel
theorem d_Day_on_35 : decode prog_1_method_16_code 35 = .ok (.invokevirtual 181, 3) := by decide +kernel
theorem d_Day_on_38 : decode prog_1_method_16_code 38 = .ok (.aload_n 0, 1) := by decide +kernel
theorem d_Day_on_39 : decode prog_1_method_16_code 39 = .ok (.getfield 16, 3) := by decide +kernel
theorem d_Day_on_42 : decode prog_1_method_16_code 42 = .ok (.iload_n 2, 1) := by decide +kernel
theorem d_Day_on_43 : decode prog_1_method_16_code 43 = .ok (.invokevirtual 165, 3) := by decide +kernel
theorem d_Day_on_46 : decode prog_1_method_16_code 46 = .ok (.aload_n 0, 1) := by decide +kernel
theorem d_Day_on_47 : decode prog_1_method_16_code 47 = .ok (.getfield 16, 3) := by decide +kernel
theorem d_Day_on_50 : decode prog_1_method_16_code 50 = .ok (.getfield 111, 3) := by decide +kernel
theorem d_Day_on_53 : decode prog_1_method_16_code 53 = .ok (.iload_n 1, 1) := by decide +kernel
theorem d_Day_on_54 : decode prog_1_method_16_code 54 = .ok (.aaload, 1) := by decide +kernel
theorem d_Day_on_55 : decode prog_1_method_16_code 55 = .ok (.astore 4, 2) := by decide +kernel
theorem d_Day_on_57 : decode prog_1_method_16_code 57 = .ok (.iload_n 3, 1) := by decide +kernel
theorem d_Day_on_58 : decode prog_1_method_16_code 58 = .ok (.tableswitch 44 0 2 #[26, 32, 38], 26) := by decide +kernel
theorem d_Day_on_84 : decode prog_1_method_16_code 84 = .ok (.aload 4, 2) := by decide +kernel
theorem d_Day_on_86 : decode prog_1_method_16_code 86 = .ok (.getfield 123, 3) := by decide +kernel
theorem d_Day_on_89 : decode prog_1_method_16_code 89 = .ok (.ireturn, 1) := by decide +kernel
theorem d_Day_on_90 : decode prog_1_method_16_code 90 = .ok (.aload 4, 2) := by decide +kernel
theorem d_Day_on_92 : decode prog_1_method_16_code 92 = .ok (.getfield 120, 3) := by decide +kernel
theorem d_Day_on_95 : decode prog_1_method_16_code 95 = .ok (.ireturn, 1) := by decide +kernel
theorem d_Day_on_96 : decode prog_1_method_16_code 96 = .ok (.aload 4, 2) := by decide +kernel
theorem d_Day_on_98 : decode prog_1_method_16_code 98 = .ok (.getfield 132, 3) := by decide +kernel
theorem d_Day_on_101 : decode prog_1_method_16_code 101 = .ok (.ireturn, 1) := by decide +kernel
theorem d_Day_on_102 : decode prog_1_method_16_code 102 = .ok (.aload 4, 2) := by decide +kernel
theorem d_Day_on_104 : decode prog_1_method_16_code 104 = .ok (.getfield 135, 3) := by decide +kernel
theorem d_Day_on_107 : decode prog_1_method_16_code 107 = .ok (.ireturn, 1) := by decide +kernel
theorem d_Day_startTrial_0 : decode prog_1_method_50_code 0 = .ok (.aload_n 0, 1) := by decide +kernel
theorem d_Day_startTrial_1 : decode prog_1_method_50_code 1 = .ok (.getfield 16, 3) := by decide +kernel
theorem d_Day_startTrial_4 : decode prog_1_method_50_code 4 = .ok (.aload_n 0, 1) := by decide +kernel
theorem d_Day_startTrial_5 : decode prog_1_method_50_code 5 = .ok (.getfield 12, 3) := by decide +kernel
theorem d_Day_startTrial_8 : decode prog_1_method_50_code 8 = .ok (.invokevirtual 239, 3) := by decide +kernel
theorem d_Day_startTrial_11 : decode prog_1_method_50_code 11 = .ok (.return_, 1) := by decide +kernel
theorem d_Day_learns_0 : decode prog_1_method_17_code 0 = .ok (.aload_n 0, 1) := by decide +kernel
theorem d_Day_learns_1 : decode prog_1_method_17_code 1 = .ok (.iload_n 1, 1) := by decide +kernel
theorem d_Day_learns_2 : decode prog_1_method_17_code 2 = .ok (.invokevirtual 108, 3) := by decide +kernel
theorem d_Day_learns_5 : decode prog_1_method_17_code 5 = .ok (.ifCond .ne 11, 3) := by decide +kernel
theorem d_Day_learns_8 : decode prog_1_method_17_code 8 = .ok (.aload_n 0, 1) := by decide +kernel
theorem d_Day_learns_9 : decode prog_1_method_17_code 9 = .ok (.iload_n 2, 1) := by decide +kernel
theorem d_Day_learns_10 : decode prog_1_method_17_code 10 = .ok (.invokevirtual 73, 3) := by decide +kernel
theorem d_Day_learns_13 : decode prog_1_method_17_code 13 = .ok (.ifCond .eq 10, 3) := by decide +kernel
theorem d_Day_learns_16 : decode prog_1_method_17_code 16 = .ok (.aload_n 0, 1) := by decide +kernel
theorem d_Day_learns_17 : decode prog_1_method_17_code 17 = .ok (.ldc 55, 2) := by decide +kernel
theorem d_Day_learns_19 : decode prog_1_method_17_code 19 = .ok (.invokevirtual 56, 3) := by decide +kernel
theorem d_Day_learns_22 : decode prog_1_method_17_code 22 = .ok (.ireturn, 1) := by decide +kernel
theorem d_Day_learns_23 : decode prog_1_method_17_code 23 = .ok (.aload_n 0, 1) := by decide +kernel
theorem d_Day_learns_24 : decode prog_1_method_17_code 24 = .ok (.invokevirtual 181, 3) := by decide +kernel
theorem d_Day_learns_27 : decode prog_1_method_17_code 27 = .ok (.iconst 0, 1) := by decide +kernel
theorem d_Day_learns_28 : decode prog_1_method_17_code 28 = .ok (.istore_n 3, 1) := by decide +kernel
theorem d_Day_learns_29 : decode prog_1_method_17_code 29 = .ok (.iload_n 3, 1) := by decide +kernel
theorem d_Day_learns_30 : decode prog_1_method_17_code 30 = .ok (.bipush 72, 2) := by decide +kernel
theorem d_Day_learns_32 : decode prog_1_method_17_code 32 = .ok (.if_icmp .gt 34, 3) := by decide +kernel
theorem d_Day_learns_35 : decode prog_1_method_17_code 35 = .ok (.aload_n 0, 1) := by decide +kernel
theorem d_Day_learns_36 : decode prog_1_method_17_code 36 = .ok (.getfield 16, 3) := by decide +kernel
theorem d_Day_learns_39 : decode prog_1_method_17_code 39 = .ok (.getfield 111, 3) := by decide +kernel
theorem d_Day_learns_42 : decode prog_1_method_17_code 42 = .ok (.iload_n 1, 1) := by decide +kernel
theorem d_Day_learns_43 : decode prog_1_method_17_code 43 = .ok (.aaload, 1) := by decide +kernel
theorem d_Day_learns_44 : decode prog_1_method_17_code 44 = .ok (.iload_n 2, 1) := by decide +kernel
theorem d_Day_learns_45 : decode prog_1_method_17_code 45 = .ok (.invokevirtual 184, 3) := by decide +kernel
theorem d_Day_learns_48 : decode prog_1_method_17_code 48 = .ok (.ifCond .eq 5, 3) := by decide +kernel
theorem d_Day_learns_51 : decode prog_1_method_17_code 51 = .ok (.iload_n 3, 1) := by decide +kernel
theorem d_Day_learns_52 : decode prog_1_method_17_code 52 = .ok (.ireturn, 1) := by decide +kernel
theorem d_Day_learns_53 : decode prog_1_method_17_code 53 = .ok (.aload_n 0, 1) := by decide +kernel
theorem d_Day_learns_54 : decode prog_1_method_17_code 54 = .ok (.getfield 16, 3) := by decide +kernel
theorem d_Day_learns_57 : decode prog_1_method_17_code 57 = .ok (.invokevirtual 187, 3) := by decide +kernel
theorem d_Day_learns_60 : decode prog_1_method_17_code 60 = .ok (.iinc 3 1, 3) := by decide +kernel
theorem d_Day_learns_63 : decode prog_1_method_17_code 63 = .ok (.goto (-34), 3) := by decide +kernel
theorem d_Day_learns_66 : decode prog_1_method_17_code 66 = .ok (.aload_n 0, 1) := by decide +kernel
theorem d_Day_learns_67 : decode prog_1_method_17_code 67 = .ok (.ldc 190, 2) := by decide +kernel
theorem d_Day_learns_69 : decode prog_1_method_17_code 69 = .ok (.invokevirtual 56, 3) := by decide +kernel
theorem d_Day_learns_72 : decode prog_1_method_17_code 72 = .ok (.ireturn, 1) := by decide +kernel
theorem d_Day_first_0 : decode prog_1_method_18_code 0 = .ok (.aload_n 0, 1) := by decide +kernel
theorem d_Day_first_1 : decode prog_1_method_18_code 1 = .ok (.iload_n 1, 1) := by decide +kernel
theorem d_Day_first_2 : decode prog_1_method_18_code 2 = .ok (.invokevirtual 73, 3) := by decide +kernel
theorem d_Day_first_5 : decode prog_1_method_18_code 5 = .ok (.ifCond .eq 10, 3) := by decide +kernel
theorem d_Day_first_8 : decode prog_1_method_18_code 8 = .ok (.aload_n 0, 1) := by decide +kernel
theorem d_Day_first_9 : decode prog_1_method_18_code 9 = .ok (.ldc 55, 2) := by decide +kernel
theorem d_Day_first_11 : decode prog_1_method_18_code 11 = .ok (.invokevirtual 56, 3) := by decide +kernel
theorem d_Day_first_14 : decode prog_1_method_18_code 14 = .ok (.ireturn, 1) := by decide +kernel
theorem d_Day_first_15 : decode prog_1_method_18_code 15 = .ok (.aload_n 0, 1) := by decide +kernel
theorem d_Day_first_16 : decode prog_1_method_18_code 16 = .ok (.invokevirtual 181, 3) := by decide +kernel
theorem d_Day_first_19 : decode prog_1_method_18_code 19 = .ok (.iconst 0, 1) := by decide +kernel
theorem d_Day_first_20 : decode prog_1_method_18_code 20 = .ok (.istore_n 2, 1) := by decide +kernel
theorem d_Day_first_21 : decode prog_1_method_18_code 21 = .ok (.iload_n 2, 1) := by decide +kernel
theorem d_Day_first_22 : decode prog_1_method_18_code 22 = .ok (.bipush 72, 2) := by decide +kernel
theorem d_Day_first_24 : decode prog_1_method_18_code 24 = .ok (.if_icmp .gt 34, 3) := by decide +kernel
theorem d_Day_first_27 : decode prog_1_method_18_code 27 = .ok (.aload_n 0, 1) := by decide +kernel
theorem d_Day_first_28 : decode prog_1_method_18_code 28 = .ok (.getfield 16, 3) := by decide +kernel
theorem d_Day_first_31 : decode prog_1_method_18_code 31 = .ok (.iload_n 1, 1) := by decide +kernel
theorem d_Day_first_32 : decode prog_1_method_18_code 32 = .ok (.invokevirtual 92, 3) := by decide +kernel
theorem d_Day_first_35 : decode prog_1_method_18_code 35 = .ok (.istore_n 3, 1) := by decide +kernel
theorem d_Day_first_36 : decode prog_1_method_18_code 36 = .ok (.iload_n 3, 1) := by decide +kernel
theorem d_Day_first_37 : decode prog_1_method_18_code 37 = .ok (.ifCond .eq 8, 3) := by decide +kernel
theorem d_Day_first_40 : decode prog_1_method_18_code 40 = .ok (.iload_n 3, 1) := by decide +kernel
theorem d_Day_first_41 : decode prog_1_method_18_code 41 = .ok (.invokestatic 191, 3) := by decide +kernel
theorem d_Day_first_44 : decode prog_1_method_18_code 44 = .ok (.ireturn, 1) := by decide +kernel
theorem d_Day_first_45 : decode prog_1_method_18_code 45 = .ok (.aload_n 0, 1) := by decide +kernel
theorem d_Day_first_46 : decode prog_1_method_18_code 46 = .ok (.getfield 16, 3) := by decide +kernel
theorem d_Day_first_49 : decode prog_1_method_18_code 49 = .ok (.invokevirtual 187, 3) := by decide +kernel
theorem d_Day_first_52 : decode prog_1_method_18_code 52 = .ok (.iinc 2 1, 3) := by decide +kernel
theorem d_Day_first_55 : decode prog_1_method_18_code 55 = .ok (.goto (-34), 3) := by decide +kernel
theorem d_Day_first_58 : decode prog_1_method_18_code 58 = .ok (.aload_n 0, 1) := by decide +kernel
theorem d_Day_first_59 : decode prog_1_method_18_code 59 = .ok (.ldc 190, 2) := by decide +kernel
theorem d_Day_first_61 : decode prog_1_method_18_code 61 = .ok (.invokevirtual 56, 3) := by decide +kernel
theorem d_Day_first_64 : decode prog_1_method_18_code 64 = .ok (.ireturn, 1) := by decide +kernel
theorem d_Day_met_0 : decode prog_1_method_19_code 0 = .ok (.iload_n 1, 1) := by decide +kernel
theorem d_Day_met_1 : decode prog_1_method_19_code 1 = .ok (.iconst 0, 1) := by decide +kernel
theorem d_Day_met_2 : decode prog_1_method_19_code 2 = .ok (.bipush 72, 2) := by decide +kernel
theorem d_Day_met_4 : decode prog_1_method_19_code 4 = .ok (.invokestatic 51, 3) := by decide +kernel
theorem d_Day_met_7 : decode prog_1_method_19_code 7 = .ok (.ifCond .eq 10, 3) := by decide +kernel
theorem d_Day_met_10 : decode prog_1_method_19_code 10 = .ok (.aload_n 0, 1) := by decide +kernel
theorem d_Day_met_11 : decode prog_1_method_19_code 11 = .ok (.ldc 55, 2) := by decide +kernel
theorem d_Day_met_13 : decode prog_1_method_19_code 13 = .ok (.invokevirtual 56, 3) := by decide +kernel
theorem d_Day_met_16 : decode prog_1_method_19_code 16 = .ok (.ireturn, 1) := by decide +kernel
theorem d_Day_met_17 : decode prog_1_method_19_code 17 = .ok (.aload_n 0, 1) := by decide +kernel
theorem d_Day_met_18 : decode prog_1_method_19_code 18 = .ok (.invokevirtual 181, 3) := by decide +kernel
theorem d_Day_met_21 : decode prog_1_method_19_code 21 = .ok (.aload_n 0, 1) := by decide +kernel
theorem d_Day_met_22 : decode prog_1_method_19_code 22 = .ok (.getfield 16, 3) := by decide +kernel
theorem d_Day_met_25 : decode prog_1_method_19_code 25 = .ok (.iload_n 1, 1) := by decide +kernel
theorem d_Day_met_26 : decode prog_1_method_19_code 26 = .ok (.invokevirtual 165, 3) := by decide +kernel
theorem d_Day_met_29 : decode prog_1_method_19_code 29 = .ok (.aload_n 0, 1) := by decide +kernel
theorem d_Day_met_30 : decode prog_1_method_19_code 30 = .ok (.getfield 16, 3) := by decide +kernel
theorem d_Day_met_33 : decode prog_1_method_19_code 33 = .ok (.invokevirtual 178, 3) := by decide +kernel
theorem d_Day_met_36 : decode prog_1_method_19_code 36 = .ok (.ireturn, 1) := by decide +kernel
theorem d_Day_broke_0 : decode prog_1_method_20_code 0 = .ok (.aload_n 0, 1) := by decide +kernel
theorem d_Day_broke_1 : decode prog_1_method_20_code 1 = .ok (.iload_n 1, 1) := by decide +kernel
theorem d_Day_broke_2 : decode prog_1_method_20_code 2 = .ok (.invokevirtual 108, 3) := by decide +kernel
theorem d_Day_broke_5 : decode prog_1_method_20_code 5 = .ok (.ifCond .eq 10, 3) := by decide +kernel
theorem d_Day_broke_8 : decode prog_1_method_20_code 8 = .ok (.aload_n 0, 1) := by decide +kernel
theorem d_Day_broke_9 : decode prog_1_method_20_code 9 = .ok (.ldc 55, 2) := by decide +kernel
theorem d_Day_broke_11 : decode prog_1_method_20_code 11 = .ok (.invokevirtual 56, 3) := by decide +kernel
theorem d_Day_broke_14 : decode prog_1_method_20_code 14 = .ok (.ireturn, 1) := by decide +kernel
theorem d_Day_broke_15 : decode prog_1_method_20_code 15 = .ok (.aload_n 0, 1) := by decide +kernel
theorem d_Day_broke_16 : decode prog_1_method_20_code 16 = .ok (.invokevirtual 181, 3) := by decide +kernel
theorem d_Day_broke_19 : decode prog_1_method_20_code 19 = .ok (.iconst 0, 1) := by decide +kernel
theorem d_Day_broke_20 : decode prog_1_method_20_code 20 = .ok (.istore_n 2, 1) := by decide +kernel
theorem d_Day_broke_21 : decode prog_1_method_20_code 21 = .ok (.iload_n 2, 1) := by decide +kernel
theorem d_Day_broke_22 : decode prog_1_method_20_code 22 = .ok (.bipush 72, 2) := by decide +kernel
theorem d_Day_broke_24 : decode prog_1_method_20_code 24 = .ok (.if_icmp .gt 40, 3) := by decide +kernel
theorem d_Day_broke_27 : decode prog_1_method_20_code 27 = .ok (.aload_n 0, 1) := by decide +kernel
theorem d_Day_broke_28 : decode prog_1_method_20_code 28 = .ok (.getfield 16, 3) := by decide +kernel
theorem d_Day_broke_31 : decode prog_1_method_20_code 31 = .ok (.getfield 111, 3) := by decide +kernel
theorem d_Day_broke_34 : decode prog_1_method_20_code 34 = .ok (.iload_n 1, 1) := by decide +kernel
theorem d_Day_broke_35 : decode prog_1_method_20_code 35 = .ok (.aaload, 1) := by decide +kernel
theorem d_Day_broke_36 : decode prog_1_method_20_code 36 = .ok (.aload_n 0, 1) := by decide +kernel
theorem d_Day_broke_37 : decode prog_1_method_20_code 37 = .ok (.getfield 16, 3) := by decide +kernel
theorem d_Day_broke_40 : decode prog_1_method_20_code 40 = .ok (.getfield 60, 3) := by decide +kernel
theorem d_Day_broke_43 : decode prog_1_method_20_code 43 = .ok (.invokevirtual 152, 3) := by decide +kernel
theorem d_Day_broke_46 : decode prog_1_method_20_code 46 = .ok (.ifCond .ne 5, 3) := by decide +kernel
theorem d_Day_broke_49 : decode prog_1_method_20_code 49 = .ok (.iload_n 2, 1) := by decide +kernel
theorem d_Day_broke_50 : decode prog_1_method_20_code 50 = .ok (.ireturn, 1) := by decide +kernel
theorem d_Day_broke_51 : decode prog_1_method_20_code 51 = .ok (.aload_n 0, 1) := by decide +kernel
theorem d_Day_broke_52 : decode prog_1_method_20_code 52 = .ok (.getfield 16, 3) := by decide +kernel
theorem d_Day_broke_55 : decode prog_1_method_20_code 55 = .ok (.invokevirtual 187, 3) := by decide +kernel
theorem d_Day_broke_58 : decode prog_1_method_20_code 58 = .ok (.iinc 2 1, 3) := by decide +kernel
theorem d_Day_broke_61 : decode prog_1_method_20_code 61 = .ok (.goto (-40), 3) := by decide +kernel
theorem d_Day_broke_64 : decode prog_1_method_20_code 64 = .ok (.aload_n 0, 1) := by decide +kernel
theorem d_Day_broke_65 : decode prog_1_method_20_code 65 = .ok (.ldc 190, 2) := by decide +kernel
theorem d_Day_broke_67 : decode prog_1_method_20_code 67 = .ok (.invokevirtual 56, 3) := by decide +kernel
theorem d_Day_broke_70 : decode prog_1_method_20_code 70 = .ok (.ireturn, 1) := by decide +kernel
theorem d_Day_clocks_0 : decode prog_1_method_21_code 0 = .ok (.aload_n 0, 1) := by decide +kernel
theorem d_Day_clocks_1 : decode prog_1_method_21_code 1 = .ok (.iload_n 1, 1) := by decide +kernel
theorem d_Day_clocks_2 : decode prog_1_method_21_code 2 = .ok (.invokevirtual 108, 3) := by decide +kernel
theorem d_Day_clocks_5 : decode prog_1_method_21_code 5 = .ok (.ifCond .ne 13, 3) := by decide +kernel
theorem d_Day_clocks_8 : decode prog_1_method_21_code 8 = .ok (.iload_n 2, 1) := by decide +kernel
theorem d_Day_clocks_9 : decode prog_1_method_21_code 9 = .ok (.iconst 0, 1) := by decide +kernel
theorem d_Day_clocks_10 : decode prog_1_method_21_code 10 = .ok (.bipush 48, 2) := by decide +kernel
theorem d_Day_clocks_12 : decode prog_1_method_21_code 12 = .ok (.invokestatic 51, 3) := by decide +kernel
theorem d_Day_clocks_15 : decode prog_1_method_21_code 15 = .ok (.ifCond .eq 10, 3) := by decide +kernel
theorem d_Day_clocks_18 : decode prog_1_method_21_code 18 = .ok (.aload_n 0, 1) := by decide +kernel
theorem d_Day_clocks_19 : decode prog_1_method_21_code 19 = .ok (.ldc 55, 2) := by decide +kernel
theorem d_Day_clocks_21 : decode prog_1_method_21_code 21 = .ok (.invokevirtual 56, 3) := by decide +kernel
theorem d_Day_clocks_24 : decode prog_1_method_21_code 24 = .ok (.ireturn, 1) := by decide +kernel
theorem d_Day_clocks_25 : decode prog_1_method_21_code 25 = .ok (.aload_n 0, 1) := by decide +kernel
theorem d_Day_clocks_26 : decode prog_1_method_21_code 26 = .ok (.iload_n 1, 1) := by decide +kernel
theorem d_Day_clocks_27 : decode prog_1_method_21_code 27 = .ok (.iload_n 2, 1) := by decide +kernel
theorem d_Day_clocks_28 : decode prog_1_method_21_code 28 = .ok (.invokevirtual 194, 3) := by decide +kernel
theorem d_Day_clocks_31 : decode prog_1_method_21_code 31 = .ok (.aload_n 0, 1) := by decide +kernel
theorem d_Day_clocks_32 : decode prog_1_method_21_code 32 = .ok (.getfield 29, 3) := by decide +kernel
theorem d_Day_clocks_35 : decode prog_1_method_21_code 35 = .ok (.getfield 198, 3) := by decide +kernel
theorem d_Day_clocks_38 : decode prog_1_method_21_code 38 = .ok (.ireturn, 1) := by decide +kernel
theorem d_Day_seekClocks_0 : decode prog_1_method_54_code 0 = .ok (.aload_n 0, 1) := by decide +kernel
theorem d_Day_seekClocks_1 : decode prog_1_method_54_code 1 = .ok (.getfield 29, 3) := by decide +kernel
theorem d_Day_seekClocks_4 : decode prog_1_method_54_code 4 = .ok (.iconst (-1), 1) := by decide +kernel
theorem d_Day_seekClocks_5 : decode prog_1_method_54_code 5 = .ok (.invokevirtual 205, 3) := by decide +kernel
theorem d_Day_seekClocks_8 : decode prog_1_method_54_code 8 = .ok (.iconst 0, 1) := by decide +kernel
theorem d_Day_seekClocks_9 : decode prog_1_method_54_code 9 = .ok (.istore_n 3, 1) := by decide +kernel
theorem d_Day_seekClocks_10 : decode prog_1_method_54_code 10 = .ok (.iload_n 3, 1) := by decide +kernel
theorem d_Day_seekClocks_11 : decode prog_1_method_54_code 11 = .ok (.bipush 23, 2) := by decide +kernel
theorem d_Day_seekClocks_13 : decode prog_1_method_54_code 13 = .ok (.if_icmp .gt 67, 3) := by decide +kernel
theorem d_Day_seekClocks_16 : decode prog_1_method_54_code 16 = .ok (.iconst 0, 1) := by decide +kernel
theorem d_Day_seekClocks_17 : decode prog_1_method_54_code 17 = .ok (.istore 4, 2) := by decide +kernel
theorem d_Day_seekClocks_19 : decode prog_1_method_54_code 19 = .ok (.iload 4, 2) := by decide +kernel
theorem d_Day_seekClocks_21 : decode prog_1_method_54_code 21 = .ok (.bipush 23, 2) := by decide +kernel
theorem d_Day_seekClocks_23 : decode prog_1_method_54_code 23 = .ok (.if_icmp .gt 51, 3) := by decide +kernel
theorem d_Day_seekClocks_26 : decode prog_1_method_54_code 26 = .ok (.aload_n 0, 1) := by decide +kernel
theorem d_Day_seekClocks_27 : decode prog_1_method_54_code 27 = .ok (.iload_n 1, 1) := by decide +kernel
theorem d_Day_seekClocks_28 : decode prog_1_method_54_code 28 = .ok (.iload_n 3, 1) := by decide +kernel
theorem d_Day_seekClocks_29 : decode prog_1_method_54_code 29 = .ok (.iload 4, 2) := by decide +kernel
theorem d_Day_seekClocks_31 : decode prog_1_method_54_code 31 = .ok (.invokevirtual 284, 3) := by decide +kernel
theorem d_Day_seekClocks_34 : decode prog_1_method_54_code 34 = .ok (.aload_n 0, 1) := by decide +kernel
theorem d_Day_seekClocks_35 : decode prog_1_method_54_code 35 = .ok (.getfield 16, 3) := by decide +kernel
theorem d_Day_seekClocks_38 : decode prog_1_method_54_code 38 = .ok (.iload_n 2, 1) := by decide +kernel
theorem d_Day_seekClocks_39 : decode prog_1_method_54_code 39 = .ok (.invokevirtual 165, 3) := by decide +kernel
theorem d_Day_seekClocks_42 : decode prog_1_method_54_code 42 = .ok (.aload_n 0, 1) := by decide +kernel
theorem d_Day_seekClocks_43 : decode prog_1_method_54_code 43 = .ok (.getfield 29, 3) := by decide +kernel
theorem d_Day_seekClocks_46 : decode prog_1_method_54_code 46 = .ok (.bipush 24, 2) := by decide +kernel
theorem d_Day_seekClocks_48 : decode prog_1_method_54_code 48 = .ok (.iload_n 3, 1) := by decide +kernel
theorem d_Day_seekClocks_49 : decode prog_1_method_54_code 49 = .ok (.imul, 1) := by decide +kernel
theorem d_Day_seekClocks_50 : decode prog_1_method_54_code 50 = .ok (.iload 4, 2) := by decide +kernel
theorem d_Day_seekClocks_52 : decode prog_1_method_54_code 52 = .ok (.iadd, 1) := by decide +kernel
theorem d_Day_seekClocks_53 : decode prog_1_method_54_code 53 = .ok (.aload_n 0, 1) := by decide +kernel
theorem d_Day_seekClocks_54 : decode prog_1_method_54_code 54 = .ok (.getfield 16, 3) := by decide +kernel
theorem d_Day_seekClocks_57 : decode prog_1_method_54_code 57 = .ok (.getfield 111, 3) := by decide +kernel
theorem d_Day_seekClocks_60 : decode prog_1_method_54_code 60 = .ok (.iload_n 1, 1) := by decide +kernel
theorem d_Day_seekClocks_61 : decode prog_1_method_54_code 61 = .ok (.aaload, 1) := by decide +kernel
theorem d_Day_seekClocks_62 : decode prog_1_method_54_code 62 = .ok (.getfield 123, 3) := by decide +kernel
theorem d_Day_seekClocks_65 : decode prog_1_method_54_code 65 = .ok (.invokevirtual 211, 3) := by decide +kernel
theorem d_Day_seekClocks_68 : decode prog_1_method_54_code 68 = .ok (.iinc 4 1, 3) := by decide +kernel
theorem d_Day_seekClocks_71 : decode prog_1_method_54_code 71 = .ok (.goto (-52), 3) := by decide +kernel
theorem d_Day_seekClocks_74 : decode prog_1_method_54_code 74 = .ok (.iinc 3 1, 3) := by decide +kernel
theorem d_Day_seekClocks_77 : decode prog_1_method_54_code 77 = .ok (.goto (-67), 3) := by decide +kernel
theorem d_Day_seekClocks_80 : decode prog_1_method_54_code 80 = .ok (.return_, 1) := by decide +kernel
theorem d_Day_startTrialByClocks_0 : decode prog_1_method_51_code 0 = .ok (.aload_n 0, 1) := by decide +kernel
theorem d_Day_startTrialByClocks_1 : decode prog_1_method_51_code 1 = .ok (.invokevirtual 181, 3) := by decide +kernel
theorem d_Day_startTrialByClocks_4 : decode prog_1_method_51_code 4 = .ok (.aload_n 0, 1) := by decide +kernel
theorem d_Day_startTrialByClocks_5 : decode prog_1_method_51_code 5 = .ok (.getfield 16, 3) := by decide +kernel
theorem d_Day_startTrialByClocks_8 : decode prog_1_method_51_code 8 = .ok (.getfield 111, 3) := by decide +kernel
theorem d_Day_startTrialByClocks_11 : decode prog_1_method_51_code 11 = .ok (.iload_n 1, 1) := by decide +kernel
theorem d_Day_startTrialByClocks_12 : decode prog_1_method_51_code 12 = .ok (.aaload, 1) := by decide +kernel
theorem d_Day_startTrialByClocks_13 : decode prog_1_method_51_code 13 = .ok (.iload_n 2, 1) := by decide +kernel
theorem d_Day_startTrialByClocks_14 : decode prog_1_method_51_code 14 = .ok (.putfield 126, 3) := by decide +kernel
theorem d_Day_startTrialByClocks_17 : decode prog_1_method_51_code 17 = .ok (.aload_n 0, 1) := by decide +kernel
theorem d_Day_startTrialByClocks_18 : decode prog_1_method_51_code 18 = .ok (.getfield 16, 3) := by decide +kernel
theorem d_Day_startTrialByClocks_21 : decode prog_1_method_51_code 21 = .ok (.getfield 111, 3) := by decide +kernel
theorem d_Day_startTrialByClocks_24 : decode prog_1_method_51_code 24 = .ok (.iload_n 1, 1) := by decide +kernel
theorem d_Day_startTrialByClocks_25 : decode prog_1_method_51_code 25 = .ok (.aaload, 1) := by decide +kernel
theorem d_Day_startTrialByClocks_26 : decode prog_1_method_51_code 26 = .ok (.iload_n 3, 1) := by decide +kernel
theorem d_Day_startTrialByClocks_27 : decode prog_1_method_51_code 27 = .ok (.putfield 129, 3) := by decide +kernel
theorem d_Day_startTrialByClocks_30 : decode prog_1_method_51_code 30 = .ok (.return_, 1) := by decide +kernel
theorem d_Day_rich_0 : decode prog_1_method_22_code 0 = .ok (.aload_n 0, 1) := by decide +kernel
theorem d_Day_rich_1 : decode prog_1_method_22_code 1 = .ok (.iload_n 1, 1) := by decide +kernel
theorem d_Day_rich_2 : decode prog_1_method_22_code 2 = .ok (.invokevirtual 108, 3) := by decide +kernel
theorem d_Day_rich_5 : decode prog_1_method_22_code 5 = .ok (.ifCond .ne 13, 3) := by decide +kernel
theorem d_Day_rich_8 : decode prog_1_method_22_code 8 = .ok (.iload_n 2, 1) := by decide +kernel
theorem d_Day_rich_9 : decode prog_1_method_22_code 9 = .ok (.iconst 0, 1) := by decide +kernel
theorem d_Day_rich_10 : decode prog_1_method_22_code 10 = .ok (.bipush 48, 2) := by decide +kernel
theorem d_Day_rich_12 : decode prog_1_method_22_code 12 = .ok (.invokestatic 51, 3) := by decide +kernel
theorem d_Day_rich_15 : decode prog_1_method_22_code 15 = .ok (.ifCond .eq 10, 3) := by decide +kernel
theorem d_Day_rich_18 : decode prog_1_method_22_code 18 = .ok (.aload_n 0, 1) := by decide +kernel
theorem d_Day_rich_19 : decode prog_1_method_22_code 19 = .ok (.ldc 55, 2) := by decide +kernel
theorem d_Day_rich_21 : decode prog_1_method_22_code 21 = .ok (.invokevirtual 56, 3) := by decide +kernel
theorem d_Day_rich_24 : decode prog_1_method_22_code 24 = .ok (.ireturn, 1) := by decide +kernel
theorem d_Day_rich_25 : decode prog_1_method_22_code 25 = .ok (.aload_n 0, 1) := by decide +kernel
theorem d_Day_rich_26 : decode prog_1_method_22_code 26 = .ok (.iload_n 1, 1) := by decide +kernel
theorem d_Day_rich_27 : decode prog_1_method_22_code 27 = .ok (.iload_n 2, 1) := by decide +kernel
theorem d_Day_rich_28 : decode prog_1_method_22_code 28 = .ok (.invokevirtual 194, 3) := by decide +kernel
theorem d_Day_rich_31 : decode prog_1_method_22_code 31 = .ok (.aload_n 0, 1) := by decide +kernel
theorem d_Day_rich_32 : decode prog_1_method_22_code 32 = .ok (.getfield 29, 3) := by decide +kernel
theorem d_Day_rich_35 : decode prog_1_method_22_code 35 = .ok (.getfield 201, 3) := by decide +kernel
theorem d_Day_rich_38 : decode prog_1_method_22_code 38 = .ok (.ireturn, 1) := by decide +kernel
theorem d_Day_bears_0 : decode prog_1_method_23_code 0 = .ok (.iload_n 1, 1) := by decide +kernel
theorem d_Day_bears_1 : decode prog_1_method_23_code 1 = .ok (.iconst 0, 1) := by decide +kernel
theorem d_Day_bears_2 : decode prog_1_method_23_code 2 = .ok (.ldc 204, 2) := by decide +kernel
theorem d_Day_bears_4 : decode prog_1_method_23_code 4 = .ok (.invokestatic 51, 3) := by decide +kernel
theorem d_Day_bears_7 : decode prog_1_method_23_code 7 = .ok (.ifCond .ne 13, 3) := by decide +kernel
theorem d_Day_bears_10 : decode prog_1_method_23_code 10 = .ok (.iload_n 2, 1) := by decide +kernel
theorem d_Day_bears_11 : decode prog_1_method_23_code 11 = .ok (.iconst 0, 1) := by decide +kernel
theorem d_Day_bears_12 : decode prog_1_method_23_code 12 = .ok (.bipush 48, 2) := by decide +kernel
theorem d_Day_bears_14 : decode prog_1_method_23_code 14 = .ok (.invokestatic 51, 3) := by decide +kernel
theorem d_Day_bears_17 : decode prog_1_method_23_code 17 = .ok (.ifCond .eq 10, 3) := by decide +kernel
theorem d_Day_bears_20 : decode prog_1_method_23_code 20 = .ok (.aload_n 0, 1) := by decide +kernel
theorem d_Day_bears_21 : decode prog_1_method_23_code 21 = .ok (.ldc 55, 2) := by decide +kernel
theorem d_Day_bears_23 : decode prog_1_method_23_code 23 = .ok (.invokevirtual 56, 3) := by decide +kernel
theorem d_Day_bears_26 : decode prog_1_method_23_code 26 = .ok (.ireturn, 1) := by decide +kernel
theorem d_Day_bears_27 : decode prog_1_method_23_code 27 = .ok (.bipush 99, 2) := by decide +kernel
theorem d_Day_bears_29 : decode prog_1_method_23_code 29 = .ok (.istore_n 3, 1) := by decide +kernel
theorem d_Day_bears_30 : decode prog_1_method_23_code 30 = .ok (.iload_n 3, 1) := by decide +kernel
theorem d_Day_bears_31 : decode prog_1_method_23_code 31 = .ok (.ifCond .lt 42, 3) := by decide +kernel
theorem d_Day_bears_34 : decode prog_1_method_23_code 34 = .ok (.aload_n 0, 1) := by decide +kernel
theorem d_Day_bears_35 : decode prog_1_method_23_code 35 = .ok (.invokevirtual 181, 3) := by decide +kernel
theorem d_Day_bears_38 : decode prog_1_method_23_code 38 = .ok (.aload_n 0, 1) := by decide +kernel
theorem d_Day_bears_39 : decode prog_1_method_23_code 39 = .ok (.getfield 16, 3) := by decide +kernel
theorem d_Day_bears_42 : decode prog_1_method_23_code 42 = .ok (.iload_n 3, 1) := by decide +kernel
theorem d_Day_bears_43 : decode prog_1_method_23_code 43 = .ok (.putfield 60, 3) := by decide +kernel
theorem d_Day_bears_46 : decode prog_1_method_23_code 46 = .ok (.aload_n 0, 1) := by decide +kernel
theorem d_Day_bears_47 : decode prog_1_method_23_code 47 = .ok (.getfield 16, 3) := by decide +kernel
theorem d_Day_bears_50 : decode prog_1_method_23_code 50 = .ok (.iload_n 2, 1) := by decide +kernel
theorem d_Day_bears_51 : decode prog_1_method_23_code 51 = .ok (.invokevirtual 165, 3) := by decide +kernel
theorem d_Day_bears_54 : decode prog_1_method_23_code 54 = .ok (.aload_n 0, 1) := by decide +kernel
theorem d_Day_bears_55 : decode prog_1_method_23_code 55 = .ok (.getfield 16, 3) := by decide +kernel
theorem d_Day_bears_58 : decode prog_1_method_23_code 58 = .ok (.invokevirtual 168, 3) := by decide +kernel
theorem d_Day_bears_61 : decode prog_1_method_23_code 61 = .ok (.iload_n 1, 1) := by decide +kernel
theorem d_Day_bears_62 : decode prog_1_method_23_code 62 = .ok (.if_icmp .lt 5, 3) := by decide +kernel
theorem d_Day_bears_65 : decode prog_1_method_23_code 65 = .ok (.iload_n 3, 1) := by decide +kernel
theorem d_Day_bears_66 : decode prog_1_method_23_code 66 = .ok (.ireturn, 1) := by decide +kernel
theorem d_Day_bears_67 : decode prog_1_method_23_code 67 = .ok (.iinc 3 (-1), 3) := by decide +kernel
theorem d_Day_bears_70 : decode prog_1_method_23_code 70 = .ok (.goto (-40), 3) := by decide +kernel
theorem d_Day_bears_73 : decode prog_1_method_23_code 73 = .ok (.aload_n 0, 1) := by decide +kernel
theorem d_Day_bears_74 : decode prog_1_method_23_code 74 = .ok (.ldc 190, 2) := by decide +kernel
theorem d_Day_bears_76 : decode prog_1_method_23_code 76 = .ok (.invokevirtual 56, 3) := by decide +kernel
theorem d_Day_bears_79 : decode prog_1_method_23_code 79 = .ok (.ireturn, 1) := by decide +kernel
theorem d_Day_bank_0 : decode prog_1_method_24_code 0 = .ok (.aload_n 0, 1) := by decide +kernel
theorem d_Day_bank_1 : decode prog_1_method_24_code 1 = .ok (.iload_n 1, 1) := by decide +kernel
theorem d_Day_bank_2 : decode prog_1_method_24_code 2 = .ok (.invokevirtual 108, 3) := by decide +kernel
theorem d_Day_bank_5 : decode prog_1_method_24_code 5 = .ok (.ifCond .ne 13, 3) := by decide +kernel
theorem d_Day_bank_8 : decode prog_1_method_24_code 8 = .ok (.iload_n 2, 1) := by decide +kernel
theorem d_Day_bank_9 : decode prog_1_method_24_code 9 = .ok (.iconst 0, 1) := by decide +kernel
theorem d_Day_bank_10 : decode prog_1_method_24_code 10 = .ok (.bipush 72, 2) := by decide +kernel
theorem d_Day_bank_12 : decode prog_1_method_24_code 12 = .ok (.invokestatic 51, 3) := by decide +kernel
theorem d_Day_bank_15 : decode prog_1_method_24_code 15 = .ok (.ifCond .eq 10, 3) := by decide +kernel
theorem d_Day_bank_18 : decode prog_1_method_24_code 18 = .ok (.aload_n 0, 1) := by decide +kernel
theorem d_Day_bank_19 : decode prog_1_method_24_code 19 = .ok (.ldc 55, 2) := by decide +kernel
theorem d_Day_bank_21 : decode prog_1_method_24_code 21 = .ok (.invokevirtual 56, 3) := by decide +kernel
theorem d_Day_bank_24 : decode prog_1_method_24_code 24 = .ok (.ireturn, 1) := by decide +kernel
theorem d_Day_bank_25 : decode prog_1_method_24_code 25 = .ok (.aload_n 0, 1) := by decide +kernel
theorem d_Day_bank_26 : decode prog_1_method_24_code 26 = .ok (.getfield 29, 3) := by decide +kernel
theorem d_Day_bank_29 : decode prog_1_method_24_code 29 = .ok (.iconst (-1), 1) := by decide +kernel
theorem d_Day_bank_30 : decode prog_1_method_24_code 30 = .ok (.invokevirtual 205, 3) := by decide +kernel
theorem d_Day_bank_33 : decode prog_1_method_24_code 33 = .ok (.iconst 0, 1) := by decide +kernel
theorem d_Day_bank_34 : decode prog_1_method_24_code 34 = .ok (.istore_n 3, 1) := by decide +kernel
theorem d_Day_bank_35 : decode prog_1_method_24_code 35 = .ok (.iload_n 3, 1) := by decide +kernel
theorem d_Day_bank_36 : decode prog_1_method_24_code 36 = .ok (.iconst 1, 1) := by decide +kernel
theorem d_Day_bank_37 : decode prog_1_method_24_code 37 = .ok (.if_icmp .gt 40, 3) := by decide +kernel
theorem d_Day_bank_40 : decode prog_1_method_24_code 40 = .ok (.aload_n 0, 1) := by decide +kernel
theorem d_Day_bank_41 : decode prog_1_method_24_code 41 = .ok (.invokevirtual 181, 3) := by decide +kernel
theorem d_Day_bank_44 : decode prog_1_method_24_code 44 = .ok (.aload_n 0, 1) := by decide +kernel
theorem d_Day_bank_45 : decode prog_1_method_24_code 45 = .ok (.getfield 16, 3) := by decide +kernel
theorem d_Day_bank_48 : decode prog_1_method_24_code 48 = .ok (.getfield 111, 3) := by decide +kernel
theorem d_Day_bank_51 : decode prog_1_method_24_code 51 = .ok (.iload_n 1, 1) := by decide +kernel
theorem d_Day_bank_52 : decode prog_1_method_24_code 52 = .ok (.aaload, 1) := by decide +kernel
theorem d_Day_bank_53 : decode prog_1_method_24_code 53 = .ok (.iload_n 3, 1) := by decide +kernel
theorem d_Day_bank_54 : decode prog_1_method_24_code 54 = .ok (.putfield 120, 3) := by decide +kernel
theorem d_Day_bank_57 : decode prog_1_method_24_code 57 = .ok (.aload_n 0, 1) := by decide +kernel
theorem d_Day_bank_58 : decode prog_1_method_24_code 58 = .ok (.getfield 29, 3) := by decide +kernel
theorem d_Day_bank_61 : decode prog_1_method_24_code 61 = .ok (.iload_n 3, 1) := by decide +kernel
theorem d_Day_bank_62 : decode prog_1_method_24_code 62 = .ok (.aload_n 0, 1) := by decide +kernel
theorem d_Day_bank_63 : decode prog_1_method_24_code 63 = .ok (.iload_n 1, 1) := by decide +kernel
theorem d_Day_bank_64 : decode prog_1_method_24_code 64 = .ok (.iload_n 2, 1) := by decide +kernel
theorem d_Day_bank_65 : decode prog_1_method_24_code 65 = .ok (.invokevirtual 208, 3) := by decide +kernel
theorem d_Day_bank_68 : decode prog_1_method_24_code 68 = .ok (.invokevirtual 211, 3) := by decide +kernel
theorem d_Day_bank_71 : decode prog_1_method_24_code 71 = .ok (.iinc 3 1, 3) := by decide +kernel
theorem d_Day_bank_74 : decode prog_1_method_24_code 74 = .ok (.goto (-39), 3) := by decide +kernel
theorem d_Day_bank_77 : decode prog_1_method_24_code 77 = .ok (.aload_n 0, 1) := by decide +kernel
theorem d_Day_bank_78 : decode prog_1_method_24_code 78 = .ok (.getfield 29, 3) := by decide +kernel
theorem d_Day_bank_81 : decode prog_1_method_24_code 81 = .ok (.getfield 198, 3) := by decide +kernel
theorem d_Day_bank_84 : decode prog_1_method_24_code 84 = .ok (.ireturn, 1) := by decide +kernel
theorem d_Day_purseInTrial_0 : decode prog_1_method_52_code 0 = .ok (.aload_n 0, 1) := by decide +kernel
theorem d_Day_purseInTrial_1 : decode prog_1_method_52_code 1 = .ok (.getfield 16, 3) := by decide +kernel
theorem d_Day_purseInTrial_4 : decode prog_1_method_52_code 4 = .ok (.iload_n 2, 1) := by decide +kernel
theorem d_Day_purseInTrial_5 : decode prog_1_method_52_code 5 = .ok (.invokevirtual 165, 3) := by decide +kernel
theorem d_Day_purseInTrial_8 : decode prog_1_method_52_code 8 = .ok (.aload_n 0, 1) := by decide +kernel
theorem d_Day_purseInTrial_9 : decode prog_1_method_52_code 9 = .ok (.getfield 16, 3) := by decide +kernel
theorem d_Day_purseInTrial_12 : decode prog_1_method_52_code 12 = .ok (.getfield 111, 3) := by decide +kernel
theorem d_Day_purseInTrial_15 : decode prog_1_method_52_code 15 = .ok (.iload_n 1, 1) := by decide +kernel
theorem d_Day_purseInTrial_16 : decode prog_1_method_52_code 16 = .ok (.aaload, 1) := by decide +kernel
theorem d_Day_purseInTrial_17 : decode prog_1_method_52_code 17 = .ok (.getfield 123, 3) := by decide +kernel
theorem d_Day_purseInTrial_20 : decode prog_1_method_52_code 20 = .ok (.ireturn, 1) := by decide +kernel
theorem d_Day_kind_0 : decode prog_1_method_25_code 0 = .ok (.aload_n 0, 1) := by decide +kernel
theorem d_Day_kind_1 : decode prog_1_method_25_code 1 = .ok (.iload_n 1, 1) := by decide +kernel
theorem d_Day_kind_2 : decode prog_1_method_25_code 2 = .ok (.invokevirtual 108, 3) := by decide +kernel
theorem d_Day_kind_5 : decode prog_1_method_25_code 5 = .ok (.ifCond .ne 13, 3) := by decide +kernel
theorem d_Day_kind_8 : decode prog_1_method_25_code 8 = .ok (.iload_n 2, 1) := by decide +kernel
theorem d_Day_kind_9 : decode prog_1_method_25_code 9 = .ok (.iconst 0, 1) := by decide +kernel
theorem d_Day_kind_10 : decode prog_1_method_25_code 10 = .ok (.bipush 72, 2) := by decide +kernel
theorem d_Day_kind_12 : decode prog_1_method_25_code 12 = .ok (.invokestatic 51, 3) := by decide +kernel
theorem d_Day_kind_15 : decode prog_1_method_25_code 15 = .ok (.ifCond .eq 10, 3) := by decide +kernel
theorem d_Day_kind_18 : decode prog_1_method_25_code 18 = .ok (.aload_n 0, 1) := by decide +kernel
theorem d_Day_kind_19 : decode prog_1_method_25_code 19 = .ok (.ldc 55, 2) := by decide +kernel
theorem d_Day_kind_21 : decode prog_1_method_25_code 21 = .ok (.invokevirtual 56, 3) := by decide +kernel
theorem d_Day_kind_24 : decode prog_1_method_25_code 24 = .ok (.ireturn, 1) := by decide +kernel
theorem d_Day_kind_25 : decode prog_1_method_25_code 25 = .ok (.aload_n 0, 1) := by decide +kernel
theorem d_Day_kind_26 : decode prog_1_method_25_code 26 = .ok (.getfield 29, 3) := by decide +kernel
theorem d_Day_kind_29 : decode prog_1_method_25_code 29 = .ok (.iconst (-1), 1) := by decide +kernel
theorem d_Day_kind_30 : decode prog_1_method_25_code 30 = .ok (.invokevirtual 205, 3) := by decide +kernel
theorem d_Day_kind_33 : decode prog_1_method_25_code 33 = .ok (.iconst 0, 1) := by decide +kernel
theorem d_Day_kind_34 : decode prog_1_method_25_code 34 = .ok (.istore_n 3, 1) := by decide +kernel
theorem d_Day_kind_35 : decode prog_1_method_25_code 35 = .ok (.iload_n 3, 1) := by decide +kernel
theorem d_Day_kind_36 : decode prog_1_method_25_code 36 = .ok (.iconst 5, 1) := by decide +kernel
theorem d_Day_kind_37 : decode prog_1_method_25_code 37 = .ok (.if_icmp .gt 40, 3) := by decide +kernel
theorem d_Day_kind_40 : decode prog_1_method_25_code 40 = .ok (.aload_n 0, 1) := by decide +kernel
theorem d_Day_kind_41 : decode prog_1_method_25_code 41 = .ok (.invokevirtual 181, 3) := by decide +kernel
theorem d_Day_kind_44 : decode prog_1_method_25_code 44 = .ok (.aload_n 0, 1) := by decide +kernel
theorem d_Day_kind_45 : decode prog_1_method_25_code 45 = .ok (.getfield 16, 3) := by decide +kernel
theorem d_Day_kind_48 : decode prog_1_method_25_code 48 = .ok (.getfield 111, 3) := by decide +kernel
theorem d_Day_kind_51 : decode prog_1_method_25_code 51 = .ok (.iload_n 1, 1) := by decide +kernel
theorem d_Day_kind_52 : decode prog_1_method_25_code 52 = .ok (.aaload, 1) := by decide +kernel
theorem d_Day_kind_53 : decode prog_1_method_25_code 53 = .ok (.iload_n 3, 1) := by decide +kernel
theorem d_Day_kind_54 : decode prog_1_method_25_code 54 = .ok (.putfield 115, 3) := by decide +kernel
theorem d_Day_kind_57 : decode prog_1_method_25_code 57 = .ok (.aload_n 0, 1) := by decide +kernel
theorem d_Day_kind_58 : decode prog_1_method_25_code 58 = .ok (.getfield 29, 3) := by decide +kernel
theorem d_Day_kind_61 : decode prog_1_method_25_code 61 = .ok (.iload_n 3, 1) := by decide +kernel
theorem d_Day_kind_62 : decode prog_1_method_25_code 62 = .ok (.aload_n 0, 1) := by decide +kernel
theorem d_Day_kind_63 : decode prog_1_method_25_code 63 = .ok (.iload_n 1, 1) := by decide +kernel
theorem d_Day_kind_64 : decode prog_1_method_25_code 64 = .ok (.iload_n 2, 1) := by decide +kernel
theorem d_Day_kind_65 : decode prog_1_method_25_code 65 = .ok (.invokevirtual 208, 3) := by decide +kernel
theorem d_Day_kind_68 : decode prog_1_method_25_code 68 = .ok (.invokevirtual 211, 3) := by decide +kernel
theorem d_Day_kind_71 : decode prog_1_method_25_code 71 = .ok (.iinc 3 1, 3) := by decide +kernel
theorem d_Day_kind_74 : decode prog_1_method_25_code 74 = .ok (.goto (-39), 3) := by decide +kernel
theorem d_Day_kind_77 : decode prog_1_method_25_code 77 = .ok (.aload_n 0, 1) := by decide +kernel
theorem d_Day_kind_78 : decode prog_1_method_25_code 78 = .ok (.getfield 29, 3) := by decide +kernel
theorem d_Day_kind_81 : decode prog_1_method_25_code 81 = .ok (.getfield 198, 3) := by decide +kernel
theorem d_Day_kind_84 : decode prog_1_method_25_code 84 = .ok (.ireturn, 1) := by decide +kernel
theorem d_Day_news_0 : decode prog_1_method_26_code 0 = .ok (.aload_n 0, 1) := by decide +kernel
theorem d_Day_news_1 : decode prog_1_method_26_code 1 = .ok (.iload_n 1, 1) := by decide +kernel
theorem d_Day_news_2 : decode prog_1_method_26_code 2 = .ok (.invokevirtual 108, 3) := by decide +kernel
theorem d_Day_news_5 : decode prog_1_method_26_code 5 = .ok (.ifCond .ne 13, 3) := by decide +kernel
theorem d_Day_news_8 : decode prog_1_method_26_code 8 = .ok (.iload_n 2, 1) := by decide +kernel
theorem d_Day_news_9 : decode prog_1_method_26_code 9 = .ok (.iconst 0, 1) := by decide +kernel
theorem d_Day_news_10 : decode prog_1_method_26_code 10 = .ok (.bipush 72, 2) := by decide +kernel
theorem d_Day_news_12 : decode prog_1_method_26_code 12 = .ok (.invokestatic 51, 3) := by decide +kernel
theorem d_Day_news_15 : decode prog_1_method_26_code 15 = .ok (.ifCond .eq 10, 3) := by decide +kernel
theorem d_Day_news_18 : decode prog_1_method_26_code 18 = .ok (.aload_n 0, 1) := by decide +kernel
theorem d_Day_news_19 : decode prog_1_method_26_code 19 = .ok (.ldc 55, 2) := by decide +kernel
theorem d_Day_news_21 : decode prog_1_method_26_code 21 = .ok (.invokevirtual 56, 3) := by decide +kernel
theorem d_Day_news_24 : decode prog_1_method_26_code 24 = .ok (.ireturn, 1) := by decide +kernel
theorem d_Day_news_25 : decode prog_1_method_26_code 25 = .ok (.aload_n 0, 1) := by decide +kernel
theorem d_Day_news_26 : decode prog_1_method_26_code 26 = .ok (.invokevirtual 181, 3) := by decide +kernel
theorem d_Day_news_29 : decode prog_1_method_26_code 29 = .ok (.aload_n 0, 1) := by decide +kernel
theorem d_Day_news_30 : decode prog_1_method_26_code 30 = .ok (.getfield 29, 3) := by decide +kernel
theorem d_Day_news_33 : decode prog_1_method_26_code 33 = .ok (.aload_n 0, 1) := by decide +kernel
theorem d_Day_news_34 : decode prog_1_method_26_code 34 = .ok (.iload_n 1, 1) := by decide +kernel
theorem d_Day_news_35 : decode prog_1_method_26_code 35 = .ok (.iload_n 2, 1) := by decide +kernel
theorem d_Day_news_36 : decode prog_1_method_26_code 36 = .ok (.invokevirtual 208, 3) := by decide +kernel
theorem d_Day_news_39 : decode prog_1_method_26_code 39 = .ok (.invokevirtual 205, 3) := by decide +kernel
theorem d_Day_news_42 : decode prog_1_method_26_code 42 = .ok (.iconst 0, 1) := by decide +kernel
theorem d_Day_news_43 : decode prog_1_method_26_code 43 = .ok (.istore_n 3, 1) := by decide +kernel
theorem d_Day_news_44 : decode prog_1_method_26_code 44 = .ok (.iload_n 3, 1) := by decide +kernel
theorem d_Day_news_45 : decode prog_1_method_26_code 45 = .ok (.aload_n 0, 1) := by decide +kernel
theorem d_Day_news_46 : decode prog_1_method_26_code 46 = .ok (.getfield 12, 3) := by decide +kernel
theorem d_Day_news_49 : decode prog_1_method_26_code 49 = .ok (.getfield 214, 3) := by decide +kernel
theorem d_Day_news_52 : decode prog_1_method_26_code 52 = .ok (.if_icmp .ge 58, 3) := by decide +kernel
theorem d_Day_news_55 : decode prog_1_method_26_code 55 = .ok (.aload_n 0, 1) := by decide +kernel
theorem d_Day_news_56 : decode prog_1_method_26_code 56 = .ok (.getfield 12, 3) := by decide +kernel
theorem d_Day_news_59 : decode prog_1_method_26_code 59 = .ok (.getfield 111, 3) := by decide +kernel
theorem d_Day_news_62 : decode prog_1_method_26_code 62 = .ok (.iload_n 1, 1) := by decide +kernel
theorem d_Day_news_63 : decode prog_1_method_26_code 63 = .ok (.aaload, 1) := by decide +kernel
theorem d_Day_news_64 : decode prog_1_method_26_code 64 = .ok (.iload_n 3, 1) := by decide +kernel
theorem d_Day_news_65 : decode prog_1_method_26_code 65 = .ok (.invokevirtual 184, 3) := by decide +kernel
theorem d_Day_news_68 : decode prog_1_method_26_code 68 = .ok (.ifCond .ne 36, 3) := by decide +kernel
theorem d_Day_news_71 : decode prog_1_method_26_code 71 = .ok (.aload_n 0, 1) := by decide +kernel
theorem d_Day_news_72 : decode prog_1_method_26_code 72 = .ok (.invokevirtual 181, 3) := by decide +kernel
theorem d_Day_news_75 : decode prog_1_method_26_code 75 = .ok (.aload_n 0, 1) := by decide +kernel
theorem d_Day_news_76 : decode prog_1_method_26_code 76 = .ok (.getfield 16, 3) := by decide +kernel
theorem d_Day_news_79 : decode prog_1_method_26_code 79 = .ok (.getfield 111, 3) := by decide +kernel
theorem d_Day_news_82 : decode prog_1_method_26_code 82 = .ok (.iload_n 1, 1) := by decide +kernel
theorem d_Day_news_83 : decode prog_1_method_26_code 83 = .ok (.aaload, 1) := by decide +kernel
theorem d_Day_news_84 : decode prog_1_method_26_code 84 = .ok (.iconst 1, 1) := by decide +kernel
theorem d_Day_news_85 : decode prog_1_method_26_code 85 = .ok (.iload_n 3, 1) := by decide +kernel
theorem d_Day_news_86 : decode prog_1_method_26_code 86 = .ok (.ishl, 1) := by decide +kernel
theorem d_Day_news_87 : decode prog_1_method_26_code 87 = .ok (.invokevirtual 217, 3) := by decide +kernel
theorem d_Day_news_90 : decode prog_1_method_26_code 90 = .ok (.aload_n 0, 1) := by decide +kernel
theorem d_Day_news_91 : decode prog_1_method_26_code 91 = .ok (.getfield 29, 3) := by decide +kernel
theorem d_Day_news_94 : decode prog_1_method_26_code 94 = .ok (.iload_n 3, 1) := by decide +kernel
theorem d_Day_news_95 : decode prog_1_method_26_code 95 = .ok (.aload_n 0, 1) := by decide +kernel
theorem d_Day_news_96 : decode prog_1_method_26_code 96 = .ok (.iload_n 1, 1) := by decide +kernel
theorem d_Day_news_97 : decode prog_1_method_26_code 97 = .ok (.iload_n 2, 1) := by decide +kernel
theorem d_Day_news_98 : decode prog_1_method_26_code 98 = .ok (.invokevirtual 208, 3) := by decide +kernel
theorem d_Day_news_101 : decode prog_1_method_26_code 101 = .ok (.invokevirtual 211, 3) := by decide +kernel
theorem d_Day_news_104 : decode prog_1_method_26_code 104 = .ok (.iinc 3 1, 3) := by decide +kernel
theorem d_Day_news_107 : decode prog_1_method_26_code 107 = .ok (.goto (-63), 3) := by decide +kernel
theorem d_Day_news_110 : decode prog_1_method_26_code 110 = .ok (.aload_n 0, 1) := by decide +kernel
theorem d_Day_news_111 : decode prog_1_method_26_code 111 = .ok (.getfield 29, 3) := by decide +kernel
theorem d_Day_news_114 : decode prog_1_method_26_code 114 = .ok (.getfield 198, 3) := by decide +kernel
theorem d_Day_news_117 : decode prog_1_method_26_code 117 = .ok (.ldc 190, 2) := by decide +kernel
theorem d_Day_news_119 : decode prog_1_method_26_code 119 = .ok (.if_icmp .ne 12, 3) := by decide +kernel
theorem d_Day_news_122 : decode prog_1_method_26_code 122 = .ok (.aload_n 0, 1) := by decide +kernel
theorem d_Day_news_123 : decode prog_1_method_26_code 123 = .ok (.ldc 190, 2) := by decide +kernel
theorem d_Day_news_125 : decode prog_1_method_26_code 125 = .ok (.invokevirtual 56, 3) := by decide +kernel
theorem d_Day_news_128 : decode prog_1_method_26_code 128 = .ok (.goto 10, 3) := by decide +kernel
theorem d_Day_news_131 : decode prog_1_method_26_code 131 = .ok (.aload_n 0, 1) := by decide +kernel
theorem d_Day_news_132 : decode prog_1_method_26_code 132 = .ok (.getfield 29, 3) := by decide +kernel
theorem d_Day_news_135 : decode prog_1_method_26_code 135 = .ok (.getfield 198, 3) := by decide +kernel
theorem d_Day_news_138 : decode prog_1_method_26_code 138 = .ok (.ireturn, 1) := by decide +kernel
theorem d_Day_needed_0 : decode prog_1_method_27_code 0 = .ok (.iload_n 1, 1) := by decide +kernel
theorem d_Day_needed_1 : decode prog_1_method_27_code 1 = .ok (.iconst 0, 1) := by decide +kernel
theorem d_Day_needed_2 : decode prog_1_method_27_code 2 = .ok (.bipush 72, 2) := by decide +kernel
theorem d_Day_needed_4 : decode prog_1_method_27_code 4 = .ok (.invokestatic 51, 3) := by decide +kernel
theorem d_Day_needed_7 : decode prog_1_method_27_code 7 = .ok (.ifCond .eq 10, 3) := by decide +kernel
theorem d_Day_needed_10 : decode prog_1_method_27_code 10 = .ok (.aload_n 0, 1) := by decide +kernel
theorem d_Day_needed_11 : decode prog_1_method_27_code 11 = .ok (.ldc 55, 2) := by decide +kernel
theorem d_Day_needed_13 : decode prog_1_method_27_code 13 = .ok (.invokevirtual 56, 3) := by decide +kernel
theorem d_Day_needed_16 : decode prog_1_method_27_code 16 = .ok (.ireturn, 1) := by decide +kernel
theorem d_Day_needed_17 : decode prog_1_method_27_code 17 = .ok (.aload_n 0, 1) := by decide +kernel
theorem d_Day_needed_18 : decode prog_1_method_27_code 18 = .ok (.invokevirtual 181, 3) := by decide +kernel
theorem d_Day_needed_21 : decode prog_1_method_27_code 21 = .ok (.aload_n 0, 1) := by decide +kernel
theorem d_Day_needed_22 : decode prog_1_method_27_code 22 = .ok (.getfield 29, 3) := by decide +kernel
theorem d_Day_needed_25 : decode prog_1_method_27_code 25 = .ok (.aload_n 0, 1) := by decide +kernel
theorem d_Day_needed_26 : decode prog_1_method_27_code 26 = .ok (.iload_n 1, 1) := by decide +kernel
theorem d_Day_needed_27 : decode prog_1_method_27_code 27 = .ok (.invokevirtual 220, 3) := by decide +kernel
theorem d_Day_needed_30 : decode prog_1_method_27_code 30 = .ok (.ineg, 1) := by decide +kernel
theorem d_Day_needed_31 : decode prog_1_method_27_code 31 = .ok (.invokevirtual 205, 3) := by decide +kernel
theorem d_Day_needed_34 : decode prog_1_method_27_code 34 = .ok (.iconst 0, 1) := by decide +kernel
theorem d_Day_needed_35 : decode prog_1_method_27_code 35 = .ok (.istore_n 2, 1) := by decide +kernel
theorem d_Day_needed_36 : decode prog_1_method_27_code 36 = .ok (.iload_n 2, 1) := by decide +kernel
theorem d_Day_needed_37 : decode prog_1_method_27_code 37 = .ok (.aload_n 0, 1) := by decide +kernel
theorem d_Day_needed_38 : decode prog_1_method_27_code 38 = .ok (.getfield 12, 3) := by decide +kernel
theorem d_Day_needed_41 : decode prog_1_method_27_code 41 = .ok (.getfield 223, 3) := by decide +kernel
theorem d_Day_needed_44 : decode prog_1_method_27_code 44 = .ok (.if_icmp .ge 35, 3) := by decide +kernel
theorem d_Day_needed_47 : decode prog_1_method_27_code 47 = .ok (.aload_n 0, 1) := by decide +kernel
theorem d_Day_needed_48 : decode prog_1_method_27_code 48 = .ok (.invokevirtual 181, 3) := by decide +kernel
theorem d_Day_needed_51 : decode prog_1_method_27_code 51 = .ok (.aload_n 0, 1) := by decide +kernel
theorem d_Day_needed_52 : decode prog_1_method_27_code 52 = .ok (.getfield 16, 3) := by decide +kernel
theorem d_Day_needed_55 : decode prog_1_method_27_code 55 = .ok (.iload_n 2, 1) := by decide +kernel
theorem d_Day_needed_56 : decode prog_1_method_27_code 56 = .ok (.invokevirtual 226, 3) := by decide +kernel
theorem d_Day_needed_59 : decode prog_1_method_27_code 59 = .ok (.aload_n 0, 1) := by decide +kernel
theorem d_Day_needed_60 : decode prog_1_method_27_code 60 = .ok (.getfield 29, 3) := by decide +kernel
theorem d_Day_needed_63 : decode prog_1_method_27_code 63 = .ok (.iload_n 2, 1) := by decide +kernel
theorem d_Day_needed_64 : decode prog_1_method_27_code 64 = .ok (.aload_n 0, 1) := by decide +kernel
theorem d_Day_needed_65 : decode prog_1_method_27_code 65 = .ok (.iload_n 1, 1) := by decide +kernel
theorem d_Day_needed_66 : decode prog_1_method_27_code 66 = .ok (.invokevirtual 220, 3) := by decide +kernel
theorem d_Day_needed_69 : decode prog_1_method_27_code 69 = .ok (.ineg, 1) := by decide +kernel
theorem d_Day_needed_70 : decode prog_1_method_27_code 70 = .ok (.invokevirtual 211, 3) := by decide +kernel
theorem d_Day_needed_73 : decode prog_1_method_27_code 73 = .ok (.iinc 2 1, 3) := by decide +kernel
theorem d_Day_needed_76 : decode prog_1_method_27_code 76 = .ok (.goto (-40), 3) := by decide +kernel
theorem d_Day_needed_79 : decode prog_1_method_27_code 79 = .ok (.aload_n 0, 1) := by decide +kernel
theorem d_Day_needed_80 : decode prog_1_method_27_code 80 = .ok (.getfield 29, 3) := by decide +kernel
theorem d_Day_needed_83 : decode prog_1_method_27_code 83 = .ok (.getfield 198, 3) := by decide +kernel
theorem d_Day_needed_86 : decode prog_1_method_27_code 86 = .ok (.ldc 190, 2) := by decide +kernel
theorem d_Day_needed_88 : decode prog_1_method_27_code 88 = .ok (.if_icmp .ne 12, 3) := by decide +kernel
theorem d_Day_needed_91 : decode prog_1_method_27_code 91 = .ok (.aload_n 0, 1) := by decide +kernel
theorem d_Day_needed_92 : decode prog_1_method_27_code 92 = .ok (.ldc 190, 2) := by decide +kernel
theorem d_Day_needed_94 : decode prog_1_method_27_code 94 = .ok (.invokevirtual 56, 3) := by decide +kernel
theorem d_Day_needed_97 : decode prog_1_method_27_code 97 = .ok (.goto 10, 3) := by decide +kernel
theorem d_Day_needed_100 : decode prog_1_method_27_code 100 = .ok (.aload_n 0, 1) := by decide +kernel
theorem d_Day_needed_101 : decode prog_1_method_27_code 101 = .ok (.getfield 29, 3) := by decide +kernel
theorem d_Day_needed_104 : decode prog_1_method_27_code 104 = .ok (.getfield 198, 3) := by decide +kernel
theorem d_Day_needed_107 : decode prog_1_method_27_code 107 = .ok (.ireturn, 1) := by decide +kernel
theorem d_Day_metInTrial_0 : decode prog_1_method_53_code 0 = .ok (.aload_n 0, 1) := by decide +kernel
theorem d_Day_metInTrial_1 : decode prog_1_method_53_code 1 = .ok (.getfield 16, 3) := by decide +kernel
theorem d_Day_metInTrial_4 : decode prog_1_method_53_code 4 = .ok (.iload_n 1, 1) := by decide +kernel
theorem d_Day_metInTrial_5 : decode prog_1_method_53_code 5 = .ok (.invokevirtual 165, 3) := by decide +kernel
theorem d_Day_metInTrial_8 : decode prog_1_method_53_code 8 = .ok (.aload_n 0, 1) := by decide +kernel
theorem d_Day_metInTrial_9 : decode prog_1_method_53_code 9 = .ok (.getfield 16, 3) := by decide +kernel
theorem d_Day_metInTrial_12 : decode prog_1_method_53_code 12 = .ok (.invokevirtual 178, 3) := by decide +kernel
theorem d_Day_metInTrial_15 : decode prog_1_method_53_code 15 = .ok (.invokestatic 160, 3) := by decide +kernel
theorem d_Day_metInTrial_18 : decode prog_1_method_53_code 18 = .ok (.ireturn, 1) := by decide +kernel
theorem d_Day_sum_0 : decode prog_1_method_28_code 0 = .ok (.aload_n 0, 1) := by decide +kernel
theorem d_Day_sum_1 : decode prog_1_method_28_code 1 = .ok (.iload_n 1, 1) := by decide +kernel
theorem d_Day_sum_2 : decode prog_1_method_28_code 2 = .ok (.invokevirtual 73, 3) := by decide +kernel
theorem d_Day_sum_5 : decode prog_1_method_28_code 5 = .ok (.ifCond .ne 13, 3) := by decide +kernel
theorem d_Day_sum_8 : decode prog_1_method_28_code 8 = .ok (.iload_n 2, 1) := by decide +kernel
theorem d_Day_sum_9 : decode prog_1_method_28_code 9 = .ok (.iconst 0, 1) := by decide +kernel
theorem d_Day_sum_10 : decode prog_1_method_28_code 10 = .ok (.bipush 72, 2) := by decide +kernel
theorem d_Day_sum_12 : decode prog_1_method_28_code 12 = .ok (.invokestatic 51, 3) := by decide +kernel
theorem d_Day_sum_15 : decode prog_1_method_28_code 15 = .ok (.ifCond .eq 10, 3) := by decide +kernel
theorem d_Day_sum_18 : decode prog_1_method_28_code 18 = .ok (.aload_n 0, 1) := by decide +kernel
theorem d_Day_sum_19 : decode prog_1_method_28_code 19 = .ok (.ldc 55, 2) := by decide +kernel
theorem d_Day_sum_21 : decode prog_1_method_28_code 21 = .ok (.invokevirtual 56, 3) := by decide +kernel
theorem d_Day_sum_24 : decode prog_1_method_28_code 24 = .ok (.ireturn, 1) := by decide +kernel
theorem d_Day_sum_25 : decode prog_1_method_28_code 25 = .ok (.aload_n 0, 1) := by decide +kernel
theorem d_Day_sum_26 : decode prog_1_method_28_code 26 = .ok (.invokevirtual 181, 3) := by decide +kernel
theorem d_Day_sum_29 : decode prog_1_method_28_code 29 = .ok (.aload_n 0, 1) := by decide +kernel
theorem d_Day_sum_30 : decode prog_1_method_28_code 30 = .ok (.getfield 16, 3) := by decide +kernel
theorem d_Day_sum_33 : decode prog_1_method_28_code 33 = .ok (.iload_n 2, 1) := by decide +kernel
theorem d_Day_sum_34 : decode prog_1_method_28_code 34 = .ok (.invokevirtual 165, 3) := by decide +kernel
theorem d_Day_sum_37 : decode prog_1_method_28_code 37 = .ok (.aload_n 0, 1) := by decide +kernel
theorem d_Day_sum_38 : decode prog_1_method_28_code 38 = .ok (.getfield 16, 3) := by decide +kernel
theorem d_Day_sum_41 : decode prog_1_method_28_code 41 = .ok (.invokevirtual 168, 3) := by decide +kernel
theorem d_Day_sum_44 : decode prog_1_method_28_code 44 = .ok (.istore_n 3, 1) := by decide +kernel
theorem d_Day_sum_45 : decode prog_1_method_28_code 45 = .ok (.aload_n 0, 1) := by decide +kernel
theorem d_Day_sum_46 : decode prog_1_method_28_code 46 = .ok (.invokevirtual 181, 3) := by decide +kernel
theorem d_Day_sum_49 : decode prog_1_method_28_code 49 = .ok (.aload_n 0, 1) := by decide +kernel
theorem d_Day_sum_50 : decode prog_1_method_28_code 50 = .ok (.getfield 16, 3) := by decide +kernel
theorem d_Day_sum_53 : decode prog_1_method_28_code 53 = .ok (.getfield 77, 3) := by decide +kernel
theorem d_Day_sum_56 : decode prog_1_method_28_code 56 = .ok (.iload_n 1, 1) := by decide +kernel
theorem d_Day_sum_57 : decode prog_1_method_28_code 57 = .ok (.aaload, 1) := by decide +kernel
theorem d_Day_sum_58 : decode prog_1_method_28_code 58 = .ok (.iconst 0, 1) := by decide +kernel
theorem d_Day_sum_59 : decode prog_1_method_28_code 59 = .ok (.putfield 86, 3) := by decide +kernel
theorem d_Day_sum_62 : decode prog_1_method_28_code 62 = .ok (.aload_n 0, 1) := by decide +kernel
theorem d_Day_sum_63 : decode prog_1_method_28_code 63 = .ok (.getfield 16, 3) := by decide +kernel
theorem d_Day_sum_66 : decode prog_1_method_28_code 66 = .ok (.iload_n 2, 1) := by decide +kernel
theorem d_Day_sum_67 : decode prog_1_method_28_code 67 = .ok (.invokevirtual 165, 3) := by decide +kernel
theorem d_Day_sum_70 : decode prog_1_method_28_code 70 = .ok (.iload_n 3, 1) := by decide +kernel
theorem d_Day_sum_71 : decode prog_1_method_28_code 71 = .ok (.aload_n 0, 1) := by decide +kernel
theorem d_Day_sum_72 : decode prog_1_method_28_code 72 = .ok (.getfield 16, 3) := by decide +kernel
theorem d_Day_sum_75 : decode prog_1_method_28_code 75 = .ok (.invokevirtual 168, 3) := by decide +kernel
theorem d_Day_sum_78 : decode prog_1_method_28_code 78 = .ok (.isub, 1) := by decide +kernel
theorem d_Day_sum_79 : decode prog_1_method_28_code 79 = .ok (.ireturn, 1) := by decide +kernel
theorem d_Day_feed_0 : decode prog_1_method_29_code 0 = .ok (.iload_n 2, 1) := by decide +kernel
theorem d_Day_feed_1 : decode prog_1_method_29_code 1 = .ok (.iconst 1, 1) := by decide +kernel
theorem d_Day_feed_2 : decode prog_1_method_29_code 2 = .ok (.iconst 4, 1) := by decide +kernel
theorem d_Day_feed_3 : decode prog_1_method_29_code 3 = .ok (.invokestatic 51, 3) := by decide +kernel
theorem d_Day_feed_6 : decode prog_1_method_29_code 6 = .ok (.ifCond .eq 10, 3) := by decide +kernel
theorem d_Day_feed_9 : decode prog_1_method_29_code 9 = .ok (.aload_n 0, 1) := by decide +kernel
theorem d_Day_feed_10 : decode prog_1_method_29_code 10 = .ok (.ldc 55, 2) := by decide +kernel
theorem d_Day_feed_12 : decode prog_1_method_29_code 12 = .ok (.invokevirtual 56, 3) := by decide +kernel
theorem d_Day_feed_15 : decode prog_1_method_29_code 15 = .ok (.ireturn, 1) := by decide +kernel
theorem d_Day_feed_16 : decode prog_1_method_29_code 16 = .ok (.aload_n 0, 1) := by decide +kernel
theorem d_Day_feed_17 : decode prog_1_method_29_code 17 = .ok (.getfield 36, 3) := by decide +kernel
theorem d_Day_feed_20 : decode prog_1_method_29_code 20 = .ok (.getfield 229, 3) := by decide +kernel
theorem d_Day_feed_23 : decode prog_1_method_29_code 23 = .ok (.iload_n 2, 1) := by decide +kernel
theorem d_Day_feed_24 : decode prog_1_method_29_code 24 = .ok (.iadd, 1) := by decide +kernel
theorem d_Day_feed_25 : decode prog_1_method_29_code 25 = .ok (.bipush 120, 2) := by decide +kernel
theorem d_Day_feed_27 : decode prog_1_method_29_code 27 = .ok (.if_icmp .le 10, 3) := by decide +kernel
theorem d_Day_feed_30 : decode prog_1_method_29_code 30 = .ok (.aload_n 0, 1) := by decide +kernel
theorem d_Day_feed_31 : decode prog_1_method_29_code 31 = .ok (.ldc 68, 2) := by decide +kernel
theorem d_Day_feed_33 : decode prog_1_method_29_code 33 = .ok (.invokevirtual 56, 3) := by decide +kernel
theorem d_Day_feed_36 : decode prog_1_method_29_code 36 = .ok (.ireturn, 1) := by decide +kernel
theorem d_Day_feed_37 : decode prog_1_method_29_code 37 = .ok (.iload_n 2, 1) := by decide +kernel
theorem d_Day_feed_38 : decode prog_1_method_29_code 38 = .ok (.iconst 1, 1) := by decide +kernel
theorem d_Day_feed_39 : decode prog_1_method_29_code 39 = .ok (.isub, 1) := by decide +kernel
theorem d_Day_feed_40 : decode prog_1_method_29_code 40 = .ok (.istore_n 3, 1) := by decide +kernel
theorem d_Day_feed_41 : decode prog_1_method_29_code 41 = .ok (.iload_n 3, 1) := by decide +kernel
theorem d_Day_feed_42 : decode prog_1_method_29_code 42 = .ok (.ifCond .lt 22, 3) := by decide +kernel
theorem d_Day_feed_45 : decode prog_1_method_29_code 45 = .ok (.aload_n 0, 1) := by decide +kernel
theorem d_Day_feed_46 : decode prog_1_method_29_code 46 = .ok (.getfield 36, 3) := by decide +kernel
theorem d_Day_feed_49 : decode prog_1_method_29_code 49 = .ok (.iload_n 1, 1) := by decide +kernel
theorem d_Day_feed_50 : decode prog_1_method_29_code 50 = .ok (.bipush 8, 2) := by decide +kernel
theorem d_Day_feed_52 : decode prog_1_method_29_code 52 = .ok (.iload_n 3, 1) := by decide +kernel
theorem d_Day_feed_53 : decode prog_1_method_29_code 53 = .ok (.imul, 1) := by decide +kernel
theorem d_Day_feed_54 : decode prog_1_method_29_code 54 = .ok (.iushr, 1) := by decide +kernel
theorem d_Day_feed_55 : decode prog_1_method_29_code 55 = .ok (.invokevirtual 232, 3) := by decide +kernel
theorem d_Day_feed_58 : decode prog_1_method_29_code 58 = .ok (.iinc 3 (-1), 3) := by decide +kernel
theorem d_Day_feed_61 : decode prog_1_method_29_code 61 = .ok (.goto (-20), 3) := by decide +kernel
theorem d_Day_feed_64 : decode prog_1_method_29_code 64 = .ok (.aload_n 0, 1) := by decide +kernel
theorem d_Day_feed_65 : decode prog_1_method_29_code 65 = .ok (.getfield 36, 3) := by decide +kernel
theorem d_Day_feed_68 : decode prog_1_method_29_code 68 = .ok (.getfield 229, 3) := by decide +kernel
theorem d_Day_feed_71 : decode prog_1_method_29_code 71 = .ok (.ireturn, 1) := by decide +kernel
theorem d_Day_wipe_0 : decode prog_1_method_30_code 0 = .ok (.aload_n 0, 1) := by decide +kernel
theorem d_Day_wipe_1 : decode prog_1_method_30_code 1 = .ok (.getfield 36, 3) := by decide +kernel
theorem d_Day_wipe_4 : decode prog_1_method_30_code 4 = .ok (.getfield 229, 3) := by decide +kernel
theorem d_Day_wipe_7 : decode prog_1_method_30_code 7 = .ok (.istore_n 1, 1) := by decide +kernel
theorem d_Day_wipe_8 : decode prog_1_method_30_code 8 = .ok (.aload_n 0, 1) := by decide +kernel
theorem d_Day_wipe_9 : decode prog_1_method_30_code 9 = .ok (.getfield 36, 3) := by decide +kernel
theorem d_Day_wipe_12 : decode prog_1_method_30_code 12 = .ok (.iconst 0, 1) := by decide +kernel
theorem d_Day_wipe_13 : decode prog_1_method_30_code 13 = .ok (.putfield 229, 3) := by decide +kernel
theorem d_Day_wipe_16 : decode prog_1_method_30_code 16 = .ok (.iload_n 1, 1) := by decide +kernel
theorem d_Day_wipe_17 : decode prog_1_method_30_code 17 = .ok (.ireturn, 1) := by decide +kernel
theorem d_Day_river_0 : decode prog_1_method_31_code 0 = .ok (.aload_n 0, 1) := by decide +kernel
theorem d_Day_river_1 : decode prog_1_method_31_code 1 = .ok (.invokevirtual 181, 3) := by decide +kernel
theorem d_Day_river_4 : decode prog_1_method_31_code 4 = .ok (.aload_n 0, 1) := by decide +kernel
theorem d_Day_river_5 : decode prog_1_method_31_code 5 = .ok (.getfield 36, 3) := by decide +kernel
theorem d_Day_river_8 : decode prog_1_method_31_code 8 = .ok (.aload_n 0, 1) := by decide +kernel
theorem d_Day_river_9 : decode prog_1_method_31_code 9 = .ok (.getfield 16, 3) := by decide +kernel
theorem d_Day_river_12 : decode prog_1_method_31_code 12 = .ok (.invokevirtual 235, 3) := by decide +kernel
theorem d_Day_river_15 : decode prog_1_method_31_code 15 = .ok (.istore_n 1, 1) := by decide +kernel
theorem d_Day_river_16 : decode prog_1_method_31_code 16 = .ok (.aload_n 0, 1) := by decide +kernel
theorem d_Day_river_17 : decode prog_1_method_31_code 17 = .ok (.getfield 36, 3) := by decide +kernel
theorem d_Day_river_20 : decode prog_1_method_31_code 20 = .ok (.iconst 0, 1) := by decide +kernel
theorem d_Day_river_21 : decode prog_1_method_31_code 21 = .ok (.putfield 229, 3) := by decide +kernel
theorem d_Day_river_24 : decode prog_1_method_31_code 24 = .ok (.iload_n 1, 1) := by decide +kernel
theorem d_Day_river_25 : decode prog_1_method_31_code 25 = .ok (.ifCond .lt 14, 3) := by decide +kernel
theorem d_Day_river_28 : decode prog_1_method_31_code 28 = .ok (.aload_n 0, 1) := by decide +kernel
theorem d_Day_river_29 : decode prog_1_method_31_code 29 = .ok (.getfield 12, 3) := by decide +kernel
theorem d_Day_river_32 : decode prog_1_method_31_code 32 = .ok (.aload_n 0, 1) := by decide +kernel
theorem d_Day_river_33 : decode prog_1_method_31_code 33 = .ok (.getfield 16, 3) := by decide +kernel
theorem d_Day_river_36 : decode prog_1_method_31_code 36 = .ok (.invokevirtual 239, 3) := by decide +kernel
theorem d_Day_river_39 : decode prog_1_method_31_code 39 = .ok (.iload_n 1, 1) := by decide +kernel
theorem d_Day_river_40 : decode prog_1_method_31_code 40 = .ok (.ireturn, 1) := by decide +kernel
theorem d_Day_sheet_0 : decode prog_1_method_32_code 0 = .ok (.iload_n 1, 1) := by decide +kernel
theorem d_Day_sheet_1 : decode prog_1_method_32_code 1 = .ok (.invokestatic 243, 3) := by decide +kernel
theorem d_Day_sheet_4 : decode prog_1_method_32_code 4 = .ok (.ifCond .ne 25, 3) := by decide +kernel
theorem d_Day_sheet_7 : decode prog_1_method_32_code 7 = .ok (.iload_n 2, 1) := by decide +kernel
theorem d_Day_sheet_8 : decode prog_1_method_32_code 8 = .ok (.ifCond .eq 28, 3) := by decide +kernel
theorem d_Day_sheet_11 : decode prog_1_method_32_code 11 = .ok (.iload_n 2, 1) := by decide +kernel
theorem d_Day_sheet_12 : decode prog_1_method_32_code 12 = .ok (.bipush 8, 2) := by decide +kernel
theorem d_Day_sheet_14 : decode prog_1_method_32_code 14 = .ok (.if_icmp .eq 22, 3) := by decide +kernel
theorem d_Day_sheet_17 : decode prog_1_method_32_code 17 = .ok (.iload_n 2, 1) := by decide +kernel
theorem d_Day_sheet_18 : decode prog_1_method_32_code 18 = .ok (.bipush 16, 2) := by decide +kernel
theorem d_Day_sheet_20 : decode prog_1_method_32_code 20 = .ok (.if_icmp .eq 16, 3) := by decide +kernel
theorem d_Day_sheet_23 : decode prog_1_method_32_code 23 = .ok (.iload_n 2, 1) := by decide +kernel
theorem d_Day_sheet_24 : decode prog_1_method_32_code 24 = .ok (.bipush 64, 2) := by decide +kernel
theorem d_Day_sheet_26 : decode prog_1_method_32_code 26 = .ok (.if_icmp .eq 10, 3) := by decide +kernel
theorem d_Day_sheet_29 : decode prog_1_method_32_code 29 = .ok (.aload_n 0, 1) := by decide +kernel
theorem d_Day_sheet_30 : decode prog_1_method_32_code 30 = .ok (.ldc 55, 2) := by decide +kernel
theorem d_Day_sheet_32 : decode prog_1_method_32_code 32 = .ok (.invokevirtual 56, 3) := by decide +kernel
theorem d_Day_sheet_35 : decode prog_1_method_32_code 35 = .ok (.ireturn, 1) := by decide +kernel
theorem d_Day_sheet_36 : decode prog_1_method_32_code 36 = .ok (.iload_n 3, 1) := by decide +kernel
theorem d_Day_sheet_37 : decode prog_1_method_32_code 37 = .ok (.ifCond .ge 10, 3) := by decide +kernel
theorem d_Day_sheet_40 : decode prog_1_method_32_code 40 = .ok (.aload_n 0, 1) := by decide +kernel
theorem d_Day_sheet_41 : decode prog_1_method_32_code 41 = .ok (.ldc 246, 2) := by decide +kernel
theorem d_Day_sheet_43 : decode prog_1_method_32_code 43 = .ok (.invokevirtual 56, 3) := by decide +kernel
theorem d_Day_sheet_46 : decode prog_1_method_32_code 46 = .ok (.ireturn, 1) := by decide +kernel
theorem d_Day_sheet_47 : decode prog_1_method_32_code 47 = .ok (.iload_n 3, 1) := by decide +kernel
theorem d_Day_sheet_48 : decode prog_1_method_32_code 48 = .ok (.bipush 40, 2) := by decide +kernel
theorem d_Day_sheet_50 : decode prog_1_method_32_code 50 = .ok (.if_icmp .le 10, 3) := by decide +kernel
theorem d_Day_sheet_53 : decode prog_1_method_32_code 53 = .ok (.aload_n 0, 1) := by decide +kernel
theorem d_Day_sheet_54 : decode prog_1_method_32_code 54 = .ok (.ldc 55, 2) := by decide +kernel
theorem d_Day_sheet_56 : decode prog_1_method_32_code 56 = .ok (.invokevirtual 56, 3) := by decide +kernel
theorem d_Day_sheet_59 : decode prog_1_method_32_code 59 = .ok (.ireturn, 1) := by decide +kernel
theorem d_Day_sheet_60 : decode prog_1_method_32_code 60 = .ok (.aload_n 0, 1) := by decide +kernel
theorem d_Day_sheet_61 : decode prog_1_method_32_code 61 = .ok (.getfield 42, 3) := by decide +kernel
theorem d_Day_sheet_64 : decode prog_1_method_32_code 64 = .ok (.iload_n 1, 1) := by decide +kernel
theorem d_Day_sheet_65 : decode prog_1_method_32_code 65 = .ok (.aaload, 1) := by decide +kernel
theorem d_Day_sheet_66 : decode prog_1_method_32_code 66 = .ok (.iload_n 2, 1) := by decide +kernel
theorem d_Day_sheet_67 : decode prog_1_method_32_code 67 = .ok (.iload_n 3, 1) := by decide +kernel
theorem d_Day_sheet_68 : decode prog_1_method_32_code 68 = .ok (.invokevirtual 247, 3) := by decide +kernel
theorem d_Day_sheet_71 : decode prog_1_method_32_code 71 = .ok (.aload_n 0, 1) := by decide +kernel
theorem d_Day_sheet_72 : decode prog_1_method_32_code 72 = .ok (.getfield 42, 3) := by decide +kernel
theorem d_Day_sheet_75 : decode prog_1_method_32_code 75 = .ok (.iload_n 1, 1) := by decide +kernel
theorem d_Day_sheet_76 : decode prog_1_method_32_code 76 = .ok (.aaload, 1) := by decide +kernel
theorem d_Day_sheet_77 : decode prog_1_method_32_code 77 = .ok (.getfield 249, 3) := by decide +kernel
theorem d_Day_sheet_80 : decode prog_1_method_32_code 80 = .ok (.ireturn, 1) := by decide +kernel
theorem d_Day_noSheet_0 : decode prog_1_method_47_code 0 = .ok (.iload_n 0, 1) := by decide +kernel
theorem d_Day_noSheet_1 : decode prog_1_method_47_code 1 = .ok (.iconst 0, 1) := by decide +kernel
theorem d_Day_noSheet_2 : decode prog_1_method_47_code 2 = .ok (.iconst 3, 1) := by decide +kernel
theorem d_Day_noSheet_3 : decode prog_1_method_47_code 3 = .ok (.invokestatic 51, 3) := by decide +kernel
theorem d_Day_noSheet_6 : decode prog_1_method_47_code 6 = .ok (.ireturn, 1) := by decide +kernel
theorem d_Day_write_0 : decode prog_1_method_33_code 0 = .ok (.aload_n 0, 1) := by decide +kernel
theorem d_Day_write_1 : decode prog_1_method_33_code 1 = .ok (.iload_n 1, 1) := by decide +kernel
theorem d_Day_write_2 : decode prog_1_method_33_code 2 = .ok (.invokevirtual 250, 3) := by decide +kernel
theorem d_Day_write_5 : decode prog_1_method_33_code 5 = .ok (.istore 5, 2) := by decide +kernel
theorem d_Day_write_7 : decode prog_1_method_33_code 7 = .ok (.iload 5, 2) := by decide +kernel
theorem d_Day_write_9 : decode prog_1_method_33_code 9 = .ok (.ifCond .eq 11, 3) := by decide +kernel
theorem d_Day_write_12 : decode prog_1_method_33_code 12 = .ok (.aload_n 0, 1) := by decide +kernel
theorem d_Day_write_13 : decode prog_1_method_33_code 13 = .ok (.iload 5, 2) := by decide +kernel
theorem d_Day_write_15 : decode prog_1_method_33_code 15 = .ok (.invokevirtual 56, 3) := by decide +kernel
theorem d_Day_write_18 : decode prog_1_method_33_code 18 = .ok (.i2l, 1) := by decide +kernel
theorem d_Day_write_19 : decode prog_1_method_33_code 19 = .ok (.lreturn, 1) := by decide +kernel
theorem d_Day_write_20 : decode prog_1_method_33_code 20 = .ok (.iload_n 2, 1) := by decide +kernel
theorem d_Day_write_21 : decode prog_1_method_33_code 21 = .ok (.iconst 0, 1) := by decide +kernel
theorem d_Day_write_22 : decode prog_1_method_33_code 22 = .ok (.aload_n 0, 1) := by decide +kernel
theorem d_Day_write_23 : decode prog_1_method_33_code 23 = .ok (.getfield 42, 3) := by decide +kernel
theorem d_Day_write_26 : decode prog_1_method_33_code 26 = .ok (.iload_n 1, 1) := by decide +kernel
theorem d_Day_write_27 : decode prog_1_method_33_code 27 = .ok (.aaload, 1) := by decide +kernel
theorem d_Day_write_28 : decode prog_1_method_33_code 28 = .ok (.getfield 249, 3) := by decide +kernel
theorem d_Day_write_31 : decode prog_1_method_33_code 31 = .ok (.iconst 1, 1) := by decide +kernel
theorem d_Day_write_32 : decode prog_1_method_33_code 32 = .ok (.isub, 1) := by decide +kernel
theorem d_Day_write_33 : decode prog_1_method_33_code 33 = .ok (.invokestatic 51, 3) := by decide +kernel
theorem d_Day_write_36 : decode prog_1_method_33_code 36 = .ok (.ifCond .eq 11, 3) := by decide +kernel
theorem d_Day_write_39 : decode prog_1_method_33_code 39 = .ok (.aload_n 0, 1) := by decide +kernel
theorem d_Day_write_40 : decode prog_1_method_33_code 40 = .ok (.ldc 55, 2) := by decide +kernel
theorem d_Day_write_42 : decode prog_1_method_33_code 42 = .ok (.invokevirtual 56, 3) := by decide +kernel
theorem d_Day_write_45 : decode prog_1_method_33_code 45 = .ok (.i2l, 1) := by decide +kernel
theorem d_Day_write_46 : decode prog_1_method_33_code 46 = .ok (.lreturn, 1) := by decide +kernel
theorem d_Day_write_47 : decode prog_1_method_33_code 47 = .ok (.aload_n 0, 1) := by decide +kernel
theorem d_Day_write_48 : decode prog_1_method_33_code 48 = .ok (.getfield 42, 3) := by decide +kernel
theorem d_Day_write_51 : decode prog_1_method_33_code 51 = .ok (.iload_n 1, 1) := by decide +kernel
theorem d_Day_write_52 : decode prog_1_method_33_code 52 = .ok (.aaload, 1) := by decide +kernel
theorem d_Day_write_53 : decode prog_1_method_33_code 53 = .ok (.getfield 253, 3) := by decide +kernel
theorem d_Day_write_56 : decode prog_1_method_33_code 56 = .ok (.iload_n 2, 1) := by decide +kernel
theorem d_Day_write_57 : decode prog_1_method_33_code 57 = .ok (.laload, 1) := by decide +kernel
theorem d_Day_write_58 : decode prog_1_method_33_code 58 = .ok (.lstore 6, 2) := by decide +kernel
theorem d_Day_write_60 : decode prog_1_method_33_code 60 = .ok (.aload_n 0, 1) := by decide +kernel
theorem d_Day_write_61 : decode prog_1_method_33_code 61 = .ok (.getfield 42, 3) := by decide +kernel
theorem d_Day_write_64 : decode prog_1_method_33_code 64 = .ok (.iload_n 1, 1) := by decide +kernel
theorem d_Day_write_65 : decode prog_1_method_33_code 65 = .ok (.aaload, 1) := by decide +kernel
theorem d_Day_write_66 : decode prog_1_method_33_code 66 = .ok (.iload_n 2, 1) := by decide +kernel
theorem d_Day_write_67 : decode prog_1_method_33_code 67 = .ok (.lload_n 3, 1) := by decide +kernel
theorem d_Day_write_68 : decode prog_1_method_33_code 68 = .ok (.invokevirtual 257, 3) := by decide +kernel
theorem d_Day_write_71 : decode prog_1_method_33_code 71 = .ok (.lload 6, 2) := by decide +kernel
theorem d_Day_write_73 : decode prog_1_method_33_code 73 = .ok (.lreturn, 1) := by decide +kernel
theorem d_Day_findingOf_0 : decode prog_1_method_48_code 0 = .ok (.iload_n 1, 1) := by decide +kernel
theorem d_Day_findingOf_1 : decode prog_1_method_48_code 1 = .ok (.invokestatic 243, 3) := by decide +kernel
theorem d_Day_findingOf_4 : decode prog_1_method_48_code 4 = .ok (.ifCond .eq 6, 3) := by decide +kernel
theorem d_Day_findingOf_7 : decode prog_1_method_48_code 7 = .ok (.ldc 55, 2) := by decide +kernel
theorem d_Day_findingOf_9 : decode prog_1_method_48_code 9 = .ok (.ireturn, 1) := by decide +kernel
theorem d_Day_findingOf_10 : decode prog_1_method_48_code 10 = .ok (.aload_n 0, 1) := by decide +kernel
theorem d_Day_findingOf_11 : decode prog_1_method_48_code 11 = .ok (.getfield 42, 3) := by decide +kernel
theorem d_Day_findingOf_14 : decode prog_1_method_48_code 14 = .ok (.iload_n 1, 1) := by decide +kernel
theorem d_Day_findingOf_15 : decode prog_1_method_48_code 15 = .ok (.aaload, 1) := by decide +kernel
theorem d_Day_findingOf_16 : decode prog_1_method_48_code 16 = .ok (.invokevirtual 261, 3) := by decide +kernel
theorem d_Day_findingOf_19 : decode prog_1_method_48_code 19 = .ok (.ifCond .eq 9, 3) := by decide +kernel
theorem d_Day_findingOf_22 : decode prog_1_method_48_code 22 = .ok (.ldc_w 264, 3) := by decide +kernel
theorem d_Day_findingOf_25 : decode prog_1_method_48_code 25 = .ok (.goto 4, 3) := by decide +kernel
theorem d_Day_findingOf_28 : decode prog_1_method_48_code 28 = .ok (.iconst 0, 1) := by decide +kernel
theorem d_Day_findingOf_29 : decode prog_1_method_48_code 29 = .ok (.ireturn, 1) := by decide +kernel
theorem d_Day_copy_0 : decode prog_1_method_34_code 0 = .ok (.iload_n 1, 1) := by decide +kernel
theorem d_Day_copy_1 : decode prog_1_method_34_code 1 = .ok (.invokestatic 243, 3) := by decide +kernel
theorem d_Day_copy_4 : decode prog_1_method_34_code 4 = .ok (.ifCond .ne 10, 3) := by decide +kernel
theorem d_Day_copy_7 : decode prog_1_method_34_code 7 = .ok (.iload_n 3, 1) := by decide +kernel
theorem d_Day_copy_8 : decode prog_1_method_34_code 8 = .ok (.invokestatic 243, 3) := by decide +kernel
theorem d_Day_copy_11 : decode prog_1_method_34_code 11 = .ok (.ifCond .eq 10, 3) := by decide +kernel
theorem d_Day_copy_14 : decode prog_1_method_34_code 14 = .ok (.aload_n 0, 1) := by decide +kernel
theorem d_Day_copy_15 : decode prog_1_method_34_code 15 = .ok (.ldc 55, 2) := by decide +kernel
theorem d_Day_copy_17 : decode prog_1_method_34_code 17 = .ok (.invokevirtual 56, 3) := by decide +kernel
theorem d_Day_copy_20 : decode prog_1_method_34_code 20 = .ok (.ireturn, 1) := by decide +kernel
theorem d_Day_copy_21 : decode prog_1_method_34_code 21 = .ok (.aload_n 0, 1) := by decide +kernel
theorem d_Day_copy_22 : decode prog_1_method_34_code 22 = .ok (.getfield 42, 3) := by decide +kernel
theorem d_Day_copy_25 : decode prog_1_method_34_code 25 = .ok (.iload_n 1, 1) := by decide +kernel
theorem d_Day_copy_26 : decode prog_1_method_34_code 26 = .ok (.aaload, 1) := by decide +kernel
theorem d_Day_copy_27 : decode prog_1_method_34_code 27 = .ok (.invokevirtual 261, 3) := by decide +kernel
theorem d_Day_copy_30 : decode prog_1_method_34_code 30 = .ok (.ifCond .ne 15, 3) := by decide +kernel
theorem d_Day_copy_33 : decode prog_1_method_34_code 33 = .ok (.aload_n 0, 1) := by decide +kernel
theorem d_Day_copy_34 : decode prog_1_method_34_code 34 = .ok (.getfield 42, 3) := by decide +kernel
theorem d_Day_copy_37 : decode prog_1_method_34_code 37 = .ok (.iload_n 3, 1) := by decide +kernel
theorem d_Day_copy_38 : decode prog_1_method_34_code 38 = .ok (.aaload, 1) := by decide +kernel
theorem d_Day_copy_39 : decode prog_1_method_34_code 39 = .ok (.invokevirtual 261, 3) := by decide +kernel
theorem d_Day_copy_42 : decode prog_1_method_34_code 42 = .ok (.ifCond .eq 11, 3) := by decide +kernel
theorem d_Day_copy_45 : decode prog_1_method_34_code 45 = .ok (.aload_n 0, 1) := by decide +kernel
theorem d_Day_copy_46 : decode prog_1_method_34_code 46 = .ok (.ldc_w 264, 3) := by decide +kernel
theorem d_Day_copy_49 : decode prog_1_method_34_code 49 = .ok (.invokevirtual 56, 3) := by decide +kernel
theorem d_Day_copy_52 : decode prog_1_method_34_code 52 = .ok (.ireturn, 1) := by decide +kernel
theorem d_Day_copy_53 : decode prog_1_method_34_code 53 = .ok (.aload_n 0, 1) := by decide +kernel
theorem d_Day_copy_54 : decode prog_1_method_34_code 54 = .ok (.getfield 42, 3) := by decide +kernel
theorem d_Day_copy_57 : decode prog_1_method_34_code 57 = .ok (.iload_n 1, 1) := by decide +kernel
theorem d_Day_copy_58 : decode prog_1_method_34_code 58 = .ok (.aaload, 1) := by decide +kernel
theorem d_Day_copy_59 : decode prog_1_method_34_code 59 = .ok (.getfield 265, 3) := by decide +kernel
theorem d_Day_copy_62 : decode prog_1_method_34_code 62 = .ok (.aload_n 0, 1) := by decide +kernel
theorem d_Day_copy_63 : decode prog_1_method_34_code 63 = .ok (.getfield 42, 3) := by decide +kernel
theorem d_Day_copy_66 : decode prog_1_method_34_code 66 = .ok (.iload_n 3, 1) := by decide +kernel
theorem d_Day_copy_67 : decode prog_1_method_34_code 67 = .ok (.aaload, 1) := by decide +kernel
theorem d_Day_copy_68 : decode prog_1_method_34_code 68 = .ok (.getfield 265, 3) := by decide +kernel
theorem d_Day_copy_71 : decode prog_1_method_34_code 71 = .ok (.if_icmp .eq 10, 3) := by decide +kernel
theorem d_Day_copy_74 : decode prog_1_method_34_code 74 = .ok (.aload_n 0, 1) := by decide +kernel
theorem d_Day_copy_75 : decode prog_1_method_34_code 75 = .ok (.ldc 147, 2) := by decide +kernel
theorem d_Day_copy_77 : decode prog_1_method_34_code 77 = .ok (.invokevirtual 56, 3) := by decide +kernel
theorem d_Day_copy_80 : decode prog_1_method_34_code 80 = .ok (.ireturn, 1) := by decide +kernel
theorem d_Day_copy_81 : decode prog_1_method_34_code 81 = .ok (.aload_n 0, 1) := by decide +kernel
theorem d_Day_copy_82 : decode prog_1_method_34_code 82 = .ok (.getfield 42, 3) := by decide +kernel
theorem d_Day_copy_85 : decode prog_1_method_34_code 85 = .ok (.iload_n 1, 1) := by decide +kernel
theorem d_Day_copy_86 : decode prog_1_method_34_code 86 = .ok (.aaload, 1) := by decide +kernel
theorem d_Day_copy_87 : decode prog_1_method_34_code 87 = .ok (.iload_n 2, 1) := by decide +kernel
theorem d_Day_copy_88 : decode prog_1_method_34_code 88 = .ok (.iload 5, 2) := by decide +kernel
theorem d_Day_copy_90 : decode prog_1_method_34_code 90 = .ok (.invokevirtual 268, 3) := by decide +kernel
theorem d_Day_copy_93 : decode prog_1_method_34_code 93 = .ok (.ifCond .eq 19, 3) := by decide +kernel
theorem d_Day_copy_96 : decode prog_1_method_34_code 96 = .ok (.aload_n 0, 1) := by decide +kernel
theorem d_Day_copy_97 : decode prog_1_method_34_code 97 = .ok (.getfield 42, 3) := by decide +kernel
theorem d_Day_copy_100 : decode prog_1_method_34_code 100 = .ok (.iload_n 3, 1) := by decide +kernel
theorem d_Day_copy_101 : decode prog_1_method_34_code 101 = .ok (.aaload, 1) := by decide +kernel
theorem d_Day_copy_102 : decode prog_1_method_34_code 102 = .ok (.iload 4, 2) := by decide +kernel
theorem d_Day_copy_104 : decode prog_1_method_34_code 104 = .ok (.iload 5, 2) := by decide +kernel
theorem d_Day_copy_106 : decode prog_1_method_34_code 106 = .ok (.invokevirtual 268, 3) := by decide +kernel
theorem d_Day_copy_109 : decode prog_1_method_34_code 109 = .ok (.ifCond .ne 10, 3) := by decide +kernel
theorem d_Day_copy_112 : decode prog_1_method_34_code 112 = .ok (.aload_n 0, 1) := by decide +kernel
theorem d_Day_copy_113 : decode prog_1_method_34_code 113 = .ok (.ldc 55, 2) := by decide +kernel
theorem d_Day_copy_115 : decode prog_1_method_34_code 115 = .ok (.invokevirtual 56, 3) := by decide +kernel
theorem d_Day_copy_118 : decode prog_1_method_34_code 118 = .ok (.ireturn, 1) := by decide +kernel
theorem d_Day_copy_119 : decode prog_1_method_34_code 119 = .ok (.aload_n 0, 1) := by decide +kernel
theorem d_Day_copy_120 : decode prog_1_method_34_code 120 = .ok (.getfield 42, 3) := by decide +kernel
theorem d_Day_copy_123 : decode prog_1_method_34_code 123 = .ok (.iload_n 1, 1) := by decide +kernel
theorem d_Day_copy_124 : decode prog_1_method_34_code 124 = .ok (.aaload, 1) := by decide +kernel
theorem d_Day_copy_125 : decode prog_1_method_34_code 125 = .ok (.getfield 253, 3) := by decide +kernel
theorem d_Day_copy_128 : decode prog_1_method_34_code 128 = .ok (.iload_n 2, 1) := by decide +kernel
theorem d_Day_copy_129 : decode prog_1_method_34_code 129 = .ok (.aload_n 0, 1) := by decide +kernel
theorem d_Day_copy_130 : decode prog_1_method_34_code 130 = .ok (.getfield 42, 3) := by decide +kernel
theorem d_Day_copy_133 : decode prog_1_method_34_code 133 = .ok (.iload_n 3, 1) := by decide +kernel
theorem d_Day_copy_134 : decode prog_1_method_34_code 134 = .ok (.aaload, 1) := by decide +kernel
theorem d_Day_copy_135 : decode prog_1_method_34_code 135 = .ok (.getfield 253, 3) := by decide +kernel
theorem d_Day_copy_138 : decode prog_1_method_34_code 138 = .ok (.iload 4, 2) := by decide +kernel
theorem d_Day_copy_140 : decode prog_1_method_34_code 140 = .ok (.iload 5, 2) := by decide +kernel
theorem d_Day_copy_142 : decode prog_1_method_34_code 142 = .ok (.invokestatic 271, 3) := by decide +kernel
theorem d_Day_copy_145 : decode prog_1_method_34_code 145 = .ok (.iload 5, 2) := by decide +kernel
theorem d_Day_copy_147 : decode prog_1_method_34_code 147 = .ok (.ireturn, 1) := by decide +kernel
theorem d_Day_lays_0 : decode prog_1_method_35_code 0 = .ok (.aload_n 0, 1) := by decide +kernel
theorem d_Day_lays_1 : decode prog_1_method_35_code 1 = .ok (.iload_n 1, 1) := by decide +kernel
theorem d_Day_lays_2 : decode prog_1_method_35_code 2 = .ok (.invokevirtual 250, 3) := by decide +kernel
theorem d_Day_lays_5 : decode prog_1_method_35_code 5 = .ok (.istore_n 2, 1) := by decide +kernel
theorem d_Day_lays_6 : decode prog_1_method_35_code 6 = .ok (.iload_n 2, 1) := by decide +kernel
theorem d_Day_lays_7 : decode prog_1_method_35_code 7 = .ok (.ifCond .eq 9, 3) := by decide +kernel
theorem d_Day_lays_10 : decode prog_1_method_35_code 10 = .ok (.aload_n 0, 1) := by decide +kernel
theorem d_Day_lays_11 : decode prog_1_method_35_code 11 = .ok (.iload_n 2, 1) := by decide +kernel
theorem d_Day_lays_12 : decode prog_1_method_35_code 12 = .ok (.invokevirtual 56, 3) := by decide +kernel
theorem d_Day_lays_15 : decode prog_1_method_35_code 15 = .ok (.ireturn, 1) := by decide +kernel
theorem d_Day_lays_16 : decode prog_1_method_35_code 16 = .ok (.iconst 0, 1) := by decide +kernel
theorem d_Day_lays_17 : decode prog_1_method_35_code 17 = .ok (.istore_n 3, 1) := by decide +kernel
theorem d_Day_lays_18 : decode prog_1_method_35_code 18 = .ok (.aload_n 0, 1) := by decide +kernel
theorem d_Day_lays_19 : decode prog_1_method_35_code 19 = .ok (.getfield 42, 3) := by decide +kernel
theorem d_Day_lays_22 : decode prog_1_method_35_code 22 = .ok (.iload_n 1, 1) := by decide +kernel
theorem d_Day_lays_23 : decode prog_1_method_35_code 23 = .ok (.aaload, 1) := by decide +kernel
theorem d_Day_lays_24 : decode prog_1_method_35_code 24 = .ok (.getfield 249, 3) := by decide +kernel
theorem d_Day_lays_27 : decode prog_1_method_35_code 27 = .ok (.aload_n 0, 1) := by decide +kernel
theorem d_Day_lays_28 : decode prog_1_method_35_code 28 = .ok (.getfield 12, 3) := by decide +kernel
theorem d_Day_lays_31 : decode prog_1_method_35_code 31 = .ok (.getfield 223, 3) := by decide +kernel
theorem d_Day_lays_34 : decode prog_1_method_35_code 34 = .ok (.invokestatic 277, 3) := by decide +kernel
theorem d_Day_lays_37 : decode prog_1_method_35_code 37 = .ok (.istore 4, 2) := by decide +kernel
theorem d_Day_lays_39 : decode prog_1_method_35_code 39 = .ok (.iconst 0, 1) := by decide +kernel
theorem d_Day_lays_40 : decode prog_1_method_35_code 40 = .ok (.istore 5, 2) := by decide +kernel
theorem d_Day_lays_42 : decode prog_1_method_35_code 42 = .ok (.iload 5, 2) := by decide +kernel
theorem d_Day_lays_44 : decode prog_1_method_35_code 44 = .ok (.iload 4, 2) := by decide +kernel
theorem d_Day_lays_46 : decode prog_1_method_35_code 46 = .ok (.if_icmp .ge 58, 3) := by decide +kernel
theorem d_Day_lays_49 : decode prog_1_method_35_code 49 = .ok (.aload_n 0, 1) := by decide +kernel
theorem d_Day_lays_50 : decode prog_1_method_35_code 50 = .ok (.getfield 42, 3) := by decide +kernel
theorem d_Day_lays_53 : decode prog_1_method_35_code 53 = .ok (.iload_n 1, 1) := by decide +kernel
theorem d_Day_lays_54 : decode prog_1_method_35_code 54 = .ok (.aaload, 1) := by decide +kernel
theorem d_Day_lays_55 : decode prog_1_method_35_code 55 = .ok (.getfield 253, 3) := by decide +kernel
theorem d_Day_lays_58 : decode prog_1_method_35_code 58 = .ok (.iload 5, 2) := by decide +kernel
theorem d_Day_lays_60 : decode prog_1_method_35_code 60 = .ok (.laload, 1) := by decide +kernel
theorem d_Day_lays_61 : decode prog_1_method_35_code 61 = .ok (.lstore 6, 2) := by decide +kernel
theorem d_Day_lays_63 : decode prog_1_method_35_code 63 = .ok (.lload 6, 2) := by decide +kernel
theorem d_Day_lays_65 : decode prog_1_method_35_code 65 = .ok (.lconst 0, 1) := by decide +kernel
theorem d_Day_lays_66 : decode prog_1_method_35_code 66 = .ok (.lcmp, 1) := by decide +kernel
theorem d_Day_lays_67 : decode prog_1_method_35_code 67 = .ok (.ifCond .lt 31, 3) := by decide +kernel
theorem d_Day_lays_70 : decode prog_1_method_35_code 70 = .ok (.lload 6, 2) := by decide +kernel
theorem d_Day_lays_72 : decode prog_1_method_35_code 72 = .ok (.ldc2_w 282, 3) := by decide +kernel
theorem d_Day_lays_75 : decode prog_1_method_35_code 75 = .ok (.lcmp, 1) := by decide +kernel
theorem d_Day_lays_76 : decode prog_1_method_35_code 76 = .ok (.ifCond .gt 22, 3) := by decide +kernel
theorem d_Day_lays_79 : decode prog_1_method_35_code 79 = .ok (.aload_n 0, 1) := by decide +kernel
theorem d_Day_lays_80 : decode prog_1_method_35_code 80 = .ok (.getfield 12, 3) := by decide +kernel
theorem d_Day_lays_83 : decode prog_1_method_35_code 83 = .ok (.getfield 111, 3) := by decide +kernel
theorem d_Day_lays_86 : decode prog_1_method_35_code 86 = .ok (.iload 5, 2) := by decide +kernel
theorem d_Day_lays_88 : decode prog_1_method_35_code 88 = .ok (.aaload, 1) := by decide +kernel
theorem d_Day_lays_89 : decode prog_1_method_35_code 89 = .ok (.lload 6, 2) := by decide +kernel
theorem d_Day_lays_91 : decode prog_1_method_35_code 91 = .ok (.l2i, 1) := by decide +kernel
theorem d_Day_lays_92 : decode prog_1_method_35_code 92 = .ok (.putfield 123, 3) := by decide +kernel
theorem d_Day_lays_95 : decode prog_1_method_35_code 95 = .ok (.iinc 3 1, 3) := by decide +kernel
theorem d_Day_lays_98 : decode prog_1_method_35_code 98 = .ok (.iinc 5 1, 3) := by decide +kernel
theorem d_Day_lays_101 : decode prog_1_method_35_code 101 = .ok (.goto (-59), 3) := by decide +kernel
theorem d_Day_lays_104 : decode prog_1_method_35_code 104 = .ok (.iload_n 3, 1) := by decide +kernel
theorem d_Day_lays_105 : decode prog_1_method_35_code 105 = .ok (.ireturn, 1) := by decide +kernel
theorem d_Day_book_0 : decode prog_1_method_36_code 0 = .ok (.aload_n 0, 1) := by decide +kernel
theorem d_Day_book_1 : decode prog_1_method_36_code 1 = .ok (.iload_n 1, 1) := by decide +kernel
theorem d_Day_book_2 : decode prog_1_method_36_code 2 = .ok (.invokevirtual 250, 3) := by decide +kernel
theorem d_Day_book_5 : decode prog_1_method_36_code 5 = .ok (.istore_n 3, 1) := by decide +kernel
theorem d_Day_book_6 : decode prog_1_method_36_code 6 = .ok (.iload_n 3, 1) := by decide +kernel
theorem d_Day_book_7 : decode prog_1_method_36_code 7 = .ok (.ifCond .eq 9, 3) := by decide +kernel
theorem d_Day_book_10 : decode prog_1_method_36_code 10 = .ok (.aload_n 0, 1) := by decide +kernel
theorem d_Day_book_11 : decode prog_1_method_36_code 11 = .ok (.iload_n 3, 1) := by decide +kernel
theorem d_Day_book_12 : decode prog_1_method_36_code 12 = .ok (.invokevirtual 56, 3) := by decide +kernel
theorem d_Day_book_15 : decode prog_1_method_36_code 15 = .ok (.ireturn, 1) := by decide +kernel
theorem d_Day_book_16 : decode prog_1_method_36_code 16 = .ok (.aload_n 0, 1) := by decide +kernel
theorem d_Day_book_17 : decode prog_1_method_36_code 17 = .ok (.iload_n 2, 1) := by decide +kernel
theorem d_Day_book_18 : decode prog_1_method_36_code 18 = .ok (.invokevirtual 108, 3) := by decide +kernel
theorem d_Day_book_21 : decode prog_1_method_36_code 21 = .ok (.ifCond .eq 10, 3) := by decide +kernel
theorem d_Day_book_24 : decode prog_1_method_36_code 24 = .ok (.aload_n 0, 1) := by decide +kernel
theorem d_Day_book_25 : decode prog_1_method_36_code 25 = .ok (.ldc 55, 2) := by decide +kernel
theorem d_Day_book_27 : decode prog_1_method_36_code 27 = .ok (.invokevirtual 56, 3) := by decide +kernel
theorem d_Day_book_30 : decode prog_1_method_36_code 30 = .ok (.ireturn, 1) := by decide +kernel
theorem d_Day_book_31 : decode prog_1_method_36_code 31 = .ok (.aload_n 0, 1) := by decide +kernel
theorem d_Day_book_32 : decode prog_1_method_36_code 32 = .ok (.invokevirtual 181, 3) := by decide +kernel
theorem d_Day_book_35 : decode prog_1_method_36_code 35 = .ok (.iconst 0, 1) := by decide +kernel
theorem d_Day_book_36 : decode prog_1_method_36_code 36 = .ok (.istore 4, 2) := by decide +kernel
theorem d_Day_book_38 : decode prog_1_method_36_code 38 = .ok (.iload 4, 2) := by decide +kernel
theorem d_Day_book_40 : decode prog_1_method_36_code 40 = .ok (.aload_n 0, 1) := by decide +kernel
theorem d_Day_book_41 : decode prog_1_method_36_code 41 = .ok (.getfield 42, 3) := by decide +kernel
theorem d_Day_book_44 : decode prog_1_method_36_code 44 = .ok (.iload_n 1, 1) := by decide +kernel
theorem d_Day_book_45 : decode prog_1_method_36_code 45 = .ok (.aaload, 1) := by decide +kernel
theorem d_Day_book_46 : decode prog_1_method_36_code 46 = .ok (.getfield 249, 3) := by decide +kernel
theorem d_Day_book_49 : decode prog_1_method_36_code 49 = .ok (.if_icmp .ge 40, 3) := by decide +kernel
theorem d_Day_book_52 : decode prog_1_method_36_code 52 = .ok (.aload_n 0, 1) := by decide +kernel
theorem d_Day_book_53 : decode prog_1_method_36_code 53 = .ok (.getfield 42, 3) := by decide +kernel
theorem d_Day_book_56 : decode prog_1_method_36_code 56 = .ok (.iload_n 1, 1) := by decide +kernel
theorem d_Day_book_57 : decode prog_1_method_36_code 57 = .ok (.aaload, 1) := by decide +kernel
theorem d_Day_book_58 : decode prog_1_method_36_code 58 = .ok (.iload 4, 2) := by decide +kernel
theorem d_Day_book_60 : decode prog_1_method_36_code 60 = .ok (.aload_n 0, 1) := by decide +kernel
theorem d_Day_book_61 : decode prog_1_method_36_code 61 = .ok (.getfield 16, 3) := by decide +kernel
theorem d_Day_book_64 : decode prog_1_method_36_code 64 = .ok (.getfield 111, 3) := by decide +kernel
theorem d_Day_book_67 : decode prog_1_method_36_code 67 = .ok (.iload_n 2, 1) := by decide +kernel
theorem d_Day_book_68 : decode prog_1_method_36_code 68 = .ok (.aaload, 1) := by decide +kernel
theorem d_Day_book_69 : decode prog_1_method_36_code 69 = .ok (.getfield 123, 3) := by decide +kernel
theorem d_Day_book_72 : decode prog_1_method_36_code 72 = .ok (.i2l, 1) := by decide +kernel
theorem d_Day_book_73 : decode prog_1_method_36_code 73 = .ok (.invokevirtual 257, 3) := by decide +kernel
theorem d_Day_book_76 : decode prog_1_method_36_code 76 = .ok (.aload_n 0, 1) := by decide +kernel
theorem d_Day_book_77 : decode prog_1_method_36_code 77 = .ok (.getfield 16, 3) := by decide +kernel
theorem d_Day_book_80 : decode prog_1_method_36_code 80 = .ok (.invokevirtual 187, 3) := by decide +kernel
theorem d_Day_book_83 : decode prog_1_method_36_code 83 = .ok (.iinc 4 1, 3) := by decide +kernel
theorem d_Day_book_86 : decode prog_1_method_36_code 86 = .ok (.goto (-48), 3) := by decide +kernel
theorem d_Day_book_89 : decode prog_1_method_36_code 89 = .ok (.aload_n 0, 1) := by decide +kernel
theorem d_Day_book_90 : decode prog_1_method_36_code 90 = .ok (.getfield 42, 3) := by decide +kernel
theorem d_Day_book_93 : decode prog_1_method_36_code 93 = .ok (.iload_n 1, 1) := by decide +kernel
theorem d_Day_book_94 : decode prog_1_method_36_code 94 = .ok (.aaload, 1) := by decide +kernel
theorem d_Day_book_95 : decode prog_1_method_36_code 95 = .ok (.getfield 249, 3) := by decide +kernel
theorem d_Day_book_98 : decode prog_1_method_36_code 98 = .ok (.ireturn, 1) := by decide +kernel
theorem d_Day_read_0 : decode prog_1_method_37_code 0 = .ok (.aload_n 0, 1) := by decide +kernel
theorem d_Day_read_1 : decode prog_1_method_37_code 1 = .ok (.iload_n 1, 1) := by decide +kernel
theorem d_Day_read_2 : decode prog_1_method_37_code 2 = .ok (.invokevirtual 250, 3) := by decide +kernel
theorem d_Day_read_5 : decode prog_1_method_37_code 5 = .ok (.istore_n 3, 1) := by decide +kernel
theorem d_Day_read_6 : decode prog_1_method_37_code 6 = .ok (.iload_n 3, 1) := by decide +kernel
theorem d_Day_read_7 : decode prog_1_method_37_code 7 = .ok (.ifCond .eq 9, 3) := by decide +kernel
theorem d_Day_read_10 : decode prog_1_method_37_code 10 = .ok (.aload_n 0, 1) := by decide +kernel
theorem d_Day_read_11 : decode prog_1_method_37_code 11 = .ok (.iload_n 3, 1) := by decide +kernel
theorem d_Day_read_12 : decode prog_1_method_37_code 12 = .ok (.invokevirtual 56, 3) := by decide +kernel
theorem d_Day_read_15 : decode prog_1_method_37_code 15 = .ok (.ireturn, 1) := by decide +kernel
theorem d_Day_read_16 : decode prog_1_method_37_code 16 = .ok (.aload_n 0, 1) := by decide +kernel
theorem d_Day_read_17 : decode prog_1_method_37_code 17 = .ok (.iload_n 2, 1) := by decide +kernel
theorem d_Day_read_18 : decode prog_1_method_37_code 18 = .ok (.invokevirtual 108, 3) := by decide +kernel
theorem d_Day_read_21 : decode prog_1_method_37_code 21 = .ok (.ifCond .eq 10, 3) := by decide +kernel
theorem d_Day_read_24 : decode prog_1_method_37_code 24 = .ok (.aload_n 0, 1) := by decide +kernel
theorem d_Day_read_25 : decode prog_1_method_37_code 25 = .ok (.ldc 55, 2) := by decide +kernel
theorem d_Day_read_27 : decode prog_1_method_37_code 27 = .ok (.invokevirtual 56, 3) := by decide +kernel
theorem d_Day_read_30 : decode prog_1_method_37_code 30 = .ok (.ireturn, 1) := by decide +kernel
theorem d_Day_read_31 : decode prog_1_method_37_code 31 = .ok (.iconst 0, 1) := by decide +kernel
theorem d_Day_read_32 : decode prog_1_method_37_code 32 = .ok (.istore 4, 2) := by decide +kernel
theorem d_Day_read_34 : decode prog_1_method_37_code 34 = .ok (.iconst (-1), 1) := by decide +kernel
theorem d_Day_read_35 : decode prog_1_method_37_code 35 = .ok (.istore 5, 2) := by decide +kernel
theorem d_Day_read_37 : decode prog_1_method_37_code 37 = .ok (.iload 5, 2) := by decide +kernel
theorem d_Day_read_39 : decode prog_1_method_37_code 39 = .ok (.bipush 23, 2) := by decide +kernel
theorem d_Day_read_41 : decode prog_1_method_37_code 41 = .ok (.if_icmp .gt 51, 3) := by decide +kernel
theorem d_Day_read_44 : decode prog_1_method_37_code 44 = .ok (.iconst (-1), 1) := by decide +kernel
theorem d_Day_read_45 : decode prog_1_method_37_code 45 = .ok (.istore 6, 2) := by decide +kernel
theorem d_Day_read_47 : decode prog_1_method_37_code 47 = .ok (.iload 6, 2) := by decide +kernel
theorem d_Day_read_49 : decode prog_1_method_37_code 49 = .ok (.bipush 23, 2) := by decide +kernel
theorem d_Day_read_51 : decode prog_1_method_37_code 51 = .ok (.if_icmp .gt 35, 3) := by decide +kernel
theorem d_Day_read_54 : decode prog_1_method_37_code 54 = .ok (.aload_n 0, 1) := by decide +kernel
theorem d_Day_read_55 : decode prog_1_method_37_code 55 = .ok (.iload_n 2, 1) := by decide +kernel
theorem d_Day_read_56 : decode prog_1_method_37_code 56 = .ok (.iload 5, 2) := by decide +kernel
theorem d_Day_read_58 : decode prog_1_method_37_code 58 = .ok (.iload 6, 2) := by decide +kernel
theorem d_Day_read_60 : decode prog_1_method_37_code 60 = .ok (.invokevirtual 284, 3) := by decide +kernel
theorem d_Day_read_63 : decode prog_1_method_37_code 63 = .ok (.aload_n 0, 1) := by decide +kernel
theorem d_Day_read_64 : decode prog_1_method_37_code 64 = .ok (.aload_n 0, 1) := by decide +kernel
theorem d_Day_read_65 : decode prog_1_method_37_code 65 = .ok (.getfield 42, 3) := by decide +kernel
theorem d_Day_read_68 : decode prog_1_method_37_code 68 = .ok (.iload_n 1, 1) := by decide +kernel
theorem d_Day_read_69 : decode prog_1_method_37_code 69 = .ok (.aaload, 1) := by decide +kernel
theorem d_Day_read_70 : decode prog_1_method_37_code 70 = .ok (.iload_n 2, 1) := by decide +kernel
theorem d_Day_read_71 : decode prog_1_method_37_code 71 = .ok (.invokevirtual 288, 3) := by decide +kernel
theorem d_Day_read_74 : decode prog_1_method_37_code 74 = .ok (.ifCond .eq 6, 3) := by decide +kernel
theorem d_Day_read_77 : decode prog_1_method_37_code 77 = .ok (.iinc 4 1, 3) := by decide +kernel
theorem d_Day_read_80 : decode prog_1_method_37_code 80 = .ok (.iinc 6 1, 3) := by decide +kernel
theorem d_Day_read_83 : decode prog_1_method_37_code 83 = .ok (.goto (-36), 3) := by decide +kernel
theorem d_Day_read_86 : decode prog_1_method_37_code 86 = .ok (.iinc 5 1, 3) := by decide +kernel
theorem d_Day_read_89 : decode prog_1_method_37_code 89 = .ok (.goto (-52), 3) := by decide +kernel
theorem d_Day_read_92 : decode prog_1_method_37_code 92 = .ok (.iload 4, 2) := by decide +kernel
theorem d_Day_read_94 : decode prog_1_method_37_code 94 = .ok (.ireturn, 1) := by decide +kernel
theorem d_Day_trialFits_0 : decode prog_1_method_55_code 0 = .ok (.iconst 0, 1) := by decide +kernel
theorem d_Day_trialFits_1 : decode prog_1_method_55_code 1 = .ok (.istore_n 3, 1) := by decide +kernel
theorem d_Day_trialFits_2 : decode prog_1_method_55_code 2 = .ok (.iload_n 3, 1) := by decide +kernel
theorem d_Day_trialFits_3 : decode prog_1_method_55_code 3 = .ok (.aload_n 1, 1) := by decide +kernel
theorem d_Day_trialFits_4 : decode prog_1_method_55_code 4 = .ok (.getfield 249, 3) := by decide +kernel
theorem d_Day_trialFits_7 : decode prog_1_method_55_code 7 = .ok (.if_icmp .ge 41, 3) := by decide +kernel
theorem d_Day_trialFits_10 : decode prog_1_method_55_code 10 = .ok (.aload_n 1, 1) := by decide +kernel
theorem d_Day_trialFits_11 : decode prog_1_method_55_code 11 = .ok (.getfield 253, 3) := by decide +kernel
theorem d_Day_trialFits_14 : decode prog_1_method_55_code 14 = .ok (.iload_n 3, 1) := by decide +kernel
theorem d_Day_trialFits_15 : decode prog_1_method_55_code 15 = .ok (.laload, 1) := by decide +kernel
theorem d_Day_trialFits_16 : decode prog_1_method_55_code 16 = .ok (.aload_n 0, 1) := by decide +kernel
theorem d_Day_trialFits_17 : decode prog_1_method_55_code 17 = .ok (.getfield 16, 3) := by decide +kernel
theorem d_Day_trialFits_20 : decode prog_1_method_55_code 20 = .ok (.getfield 111, 3) := by decide +kernel
theorem d_Day_trialFits_23 : decode prog_1_method_55_code 23 = .ok (.iload_n 2, 1) := by decide +kernel
theorem d_Day_trialFits_24 : decode prog_1_method_55_code 24 = .ok (.aaload, 1) := by decide +kernel
theorem d_Day_trialFits_25 : decode prog_1_method_55_code 25 = .ok (.getfield 123, 3) := by decide +kernel
theorem d_Day_trialFits_28 : decode prog_1_method_55_code 28 = .ok (.i2l, 1) := by decide +kernel
theorem d_Day_trialFits_29 : decode prog_1_method_55_code 29 = .ok (.lcmp, 1) := by decide +kernel
theorem d_Day_trialFits_30 : decode prog_1_method_55_code 30 = .ok (.ifCond .eq 5, 3) := by decide +kernel
theorem d_Day_trialFits_33 : decode prog_1_method_55_code 33 = .ok (.iconst 0, 1) := by decide +kernel
theorem d_Day_trialFits_34 : decode prog_1_method_55_code 34 = .ok (.ireturn, 1) := by decide +kernel
theorem d_Day_trialFits_35 : decode prog_1_method_55_code 35 = .ok (.aload_n 0, 1) := by decide +kernel
theorem d_Day_trialFits_36 : decode prog_1_method_55_code 36 = .ok (.getfield 16, 3) := by decide +kernel
theorem d_Day_trialFits_39 : decode prog_1_method_55_code 39 = .ok (.invokevirtual 187, 3) := by decide +kernel
theorem d_Day_trialFits_42 : decode prog_1_method_55_code 42 = .ok (.iinc 3 1, 3) := by decide +kernel
theorem d_Day_trialFits_45 : decode prog_1_method_55_code 45 = .ok (.goto (-43), 3) := by decide +kernel
theorem d_Day_trialFits_48 : decode prog_1_method_55_code 48 = .ok (.iconst 1, 1) := by decide +kernel
theorem d_Day_trialFits_49 : decode prog_1_method_55_code 49 = .ok (.ireturn, 1) := by decide +kernel
theorem d_Day_image_0 : decode prog_1_method_38_code 0 = .ok (.aload_n 0, 1) := by decide +kernel
theorem d_Day_image_1 : decode prog_1_method_38_code 1 = .ok (.getfield 19, 3) := by decide +kernel
theorem d_Day_image_4 : decode prog_1_method_38_code 4 = .ok (.aload_n 0, 1) := by decide +kernel
theorem d_Day_image_5 : decode prog_1_method_38_code 5 = .ok (.getfield 12, 3) := by decide +kernel
theorem d_Day_image_8 : decode prog_1_method_38_code 8 = .ok (.invokevirtual 239, 3) := by decide +kernel
theorem d_Day_image_11 : decode prog_1_method_38_code 11 = .ok (.aload_n 0, 1) := by decide +kernel
theorem d_Day_image_12 : decode prog_1_method_38_code 12 = .ok (.iconst 1, 1) := by decide +kernel
theorem d_Day_image_13 : decode prog_1_method_38_code 13 = .ok (.putfield 22, 3) := by decide +kernel
theorem d_Day_image_16 : decode prog_1_method_38_code 16 = .ok (.iconst 1, 1) := by decide +kernel
theorem d_Day_image_17 : decode prog_1_method_38_code 17 = .ok (.ireturn, 1) := by decide +kernel
theorem d_Day_undo_0 : decode prog_1_method_39_code 0 = .ok (.aload_n 0, 1) := by decide +kernel
theorem d_Day_undo_1 : decode prog_1_method_39_code 1 = .ok (.getfield 22, 3) := by decide +kernel
theorem d_Day_undo_4 : decode prog_1_method_39_code 4 = .ok (.ifCond .ne 10, 3) := by decide +kernel
theorem d_Day_undo_7 : decode prog_1_method_39_code 7 = .ok (.aload_n 0, 1) := by decide +kernel
theorem d_Day_undo_8 : decode prog_1_method_39_code 8 = .ok (.ldc 190, 2) := by decide +kernel
theorem d_Day_undo_10 : decode prog_1_method_39_code 10 = .ok (.invokevirtual 56, 3) := by decide +kernel
theorem d_Day_undo_13 : decode prog_1_method_39_code 13 = .ok (.ireturn, 1) := by decide +kernel
theorem d_Day_undo_14 : decode prog_1_method_39_code 14 = .ok (.aload_n 0, 1) := by decide +kernel
theorem d_Day_undo_15 : decode prog_1_method_39_code 15 = .ok (.getfield 12, 3) := by decide +kernel
theorem d_Day_undo_18 : decode prog_1_method_39_code 18 = .ok (.aload_n 0, 1) := by decide +kernel
theorem d_Day_undo_19 : decode prog_1_method_39_code 19 = .ok (.getfield 19, 3) := by decide +kernel
theorem d_Day_undo_22 : decode prog_1_method_39_code 22 = .ok (.invokevirtual 239, 3) := by decide +kernel
theorem d_Day_undo_25 : decode prog_1_method_39_code 25 = .ok (.aload_n 0, 1) := by decide +kernel
theorem d_Day_undo_26 : decode prog_1_method_39_code 26 = .ok (.getfield 12, 3) := by decide +kernel
theorem d_Day_undo_29 : decode prog_1_method_39_code 29 = .ok (.getfield 223, 3) := by decide +kernel
theorem d_Day_undo_32 : decode prog_1_method_39_code 32 = .ok (.ireturn, 1) := by decide +kernel
theorem d_Day_tear_0 : decode prog_1_method_40_code 0 = .ok (.aload_n 0, 1) := by decide +kernel
theorem d_Day_tear_1 : decode prog_1_method_40_code 1 = .ok (.getfield 22, 3) := by decide +kernel
theorem d_Day_tear_4 : decode prog_1_method_40_code 4 = .ok (.ifCond .eq 7, 3) := by decide +kernel
theorem d_Day_tear_7 : decode prog_1_method_40_code 7 = .ok (.iconst 1, 1) := by decide +kernel
theorem d_Day_tear_8 : decode prog_1_method_40_code 8 = .ok (.goto 4, 3) := by decide +kernel
theorem d_Day_tear_11 : decode prog_1_method_40_code 11 = .ok (.iconst 0, 1) := by decide +kernel
theorem d_Day_tear_12 : decode prog_1_method_40_code 12 = .ok (.istore_n 1, 1) := by decide +kernel
theorem d_Day_tear_13 : decode prog_1_method_40_code 13 = .ok (.aload_n 0, 1) := by decide +kernel
theorem d_Day_tear_14 : decode prog_1_method_40_code 14 = .ok (.iconst 0, 1) := by decide +kernel
theorem d_Day_tear_15 : decode prog_1_method_40_code 15 = .ok (.putfield 22, 3) := by decide +kernel
theorem d_Day_tear_18 : decode prog_1_method_40_code 18 = .ok (.iload_n 1, 1) := by decide +kernel
theorem d_Day_tear_19 : decode prog_1_method_40_code 19 = .ok (.ireturn, 1) := by decide +kernel
theorem d_Day_count_0 : decode prog_1_method_41_code 0 = .ok (.iload_n 1, 1) := by decide +kernel
theorem d_Day_count_1 : decode prog_1_method_41_code 1 = .ok (.tableswitch 63 0 3 #[31, 39, 47, 55], 31) := by decide +kernel
theorem d_Day_count_32 : decode prog_1_method_41_code 32 = .ok (.aload_n 0, 1) := by decide +kernel
theorem d_Day_count_33 : decode prog_1_method_41_code 33 = .ok (.getfield 12, 3) := by decide +kernel
theorem d_Day_count_36 : decode prog_1_method_41_code 36 = .ok (.getfield 223, 3) := by decide +kernel
theorem d_Day_count_39 : decode prog_1_method_41_code 39 = .ok (.ireturn, 1) := by decide +kernel
theorem d_Day_count_40 : decode prog_1_method_41_code 40 = .ok (.aload_n 0, 1) := by decide +kernel
theorem d_Day_count_41 : decode prog_1_method_41_code 41 = .ok (.getfield 12, 3) := by decide +kernel
theorem d_Day_count_44 : decode prog_1_method_41_code 44 = .ok (.getfield 214, 3) := by decide +kernel
theorem d_Day_count_47 : decode prog_1_method_41_code 47 = .ok (.ireturn, 1) := by decide +kernel
theorem d_Day_count_48 : decode prog_1_method_41_code 48 = .ok (.aload_n 0, 1) := by decide +kernel
theorem d_Day_count_49 : decode prog_1_method_41_code 49 = .ok (.getfield 36, 3) := by decide +kernel
theorem d_Day_count_52 : decode prog_1_method_41_code 52 = .ok (.getfield 229, 3) := by decide +kernel
theorem d_Day_count_55 : decode prog_1_method_41_code 55 = .ok (.ireturn, 1) := by decide +kernel
theorem d_Day_count_56 : decode prog_1_method_41_code 56 = .ok (.aload_n 0, 1) := by decide +kernel
theorem d_Day_count_57 : decode prog_1_method_41_code 57 = .ok (.getfield 12, 3) := by decide +kernel
theorem d_Day_count_60 : decode prog_1_method_41_code 60 = .ok (.invokevirtual 292, 3) := by decide +kernel
theorem d_Day_count_63 : decode prog_1_method_41_code 63 = .ok (.ireturn, 1) := by decide +kernel
theorem d_Day_count_64 : decode prog_1_method_41_code 64 = .ok (.aload_n 0, 1) := by decide +kernel
theorem d_Day_count_65 : decode prog_1_method_41_code 65 = .ok (.ldc 55, 2) := by decide +kernel
theorem d_Day_count_67 : decode prog_1_method_41_code 67 = .ok (.invokevirtual 56, 3) := by decide +kernel
theorem d_Day_count_70 : decode prog_1_method_41_code 70 = .ok (.ireturn, 1) := by decide +kernel
theorem d_Day_status_0 : decode prog_1_method_42_code 0 = .ok (.iload_n 1, 1) := by decide +kernel
theorem d_Day_status_1 : decode prog_1_method_42_code 1 = .ok (.iconst (-1), 1) := by decide +kernel
theorem d_Day_status_2 : decode prog_1_method_42_code 2 = .ok (.bipush 6, 2) := by decide +kernel
theorem d_Day_status_4 : decode prog_1_method_42_code 4 = .ok (.invokestatic 51, 3) := by decide +kernel
theorem d_Day_status_7 : decode prog_1_method_42_code 7 = .ok (.ifCond .eq 10, 3) := by decide +kernel
theorem d_Day_status_10 : decode prog_1_method_42_code 10 = .ok (.aload_n 0, 1) := by decide +kernel
theorem d_Day_status_11 : decode prog_1_method_42_code 11 = .ok (.ldc 55, 2) := by decide +kernel
theorem d_Day_status_13 : decode prog_1_method_42_code 13 = .ok (.invokevirtual 56, 3) := by decide +kernel
theorem d_Day_status_16 : decode prog_1_method_42_code 16 = .ok (.ireturn, 1) := by decide +kernel
theorem d_Day_status_17 : decode prog_1_method_42_code 17 = .ok (.iload_n 1, 1) := by decide +kernel
theorem d_Day_status_18 : decode prog_1_method_42_code 18 = .ok (.ifCond .lt 10, 3) := by decide +kernel
theorem d_Day_status_21 : decode prog_1_method_42_code 21 = .ok (.aload_n 0, 1) := by decide +kernel
theorem d_Day_status_22 : decode prog_1_method_42_code 22 = .ok (.getfield 47, 3) := by decide +kernel
theorem d_Day_status_25 : decode prog_1_method_42_code 25 = .ok (.iload_n 1, 1) := by decide +kernel
theorem d_Day_status_26 : decode prog_1_method_42_code 26 = .ok (.iaload, 1) := by decide +kernel
theorem d_Day_status_27 : decode prog_1_method_42_code 27 = .ok (.ireturn, 1) := by decide +kernel
theorem d_Day_status_28 : decode prog_1_method_42_code 28 = .ok (.iconst 0, 1) := by decide +kernel
theorem d_Day_status_29 : decode prog_1_method_42_code 29 = .ok (.istore_n 2, 1) := by decide +kernel
theorem d_Day_status_30 : decode prog_1_method_42_code 30 = .ok (.iconst 0, 1) := by decide +kernel
theorem d_Day_status_31 : decode prog_1_method_42_code 31 = .ok (.istore_n 3, 1) := by decide +kernel
theorem d_Day_status_32 : decode prog_1_method_42_code 32 = .ok (.iload_n 3, 1) := by decide +kernel
theorem d_Day_status_33 : decode prog_1_method_42_code 33 = .ok (.bipush 7, 2) := by decide +kernel
theorem d_Day_status_35 : decode prog_1_method_42_code 35 = .ok (.if_icmp .ge 18, 3) := by decide +kernel
theorem d_Day_status_38 : decode prog_1_method_42_code 38 = .ok (.iload_n 2, 1) := by decide +kernel
theorem d_Day_status_39 : decode prog_1_method_42_code 39 = .ok (.aload_n 0, 1) := by decide +kernel
theorem d_Day_status_40 : decode prog_1_method_42_code 40 = .ok (.getfield 47, 3) := by decide +kernel
theorem d_Day_status_43 : decode prog_1_method_42_code 43 = .ok (.iload_n 3, 1) := by decide +kernel
theorem d_Day_status_44 : decode prog_1_method_42_code 44 = .ok (.iaload, 1) := by decide +kernel
theorem d_Day_status_45 : decode prog_1_method_42_code 45 = .ok (.iadd, 1) := by decide +kernel
theorem d_Day_status_46 : decode prog_1_method_42_code 46 = .ok (.istore_n 2, 1) := by decide +kernel
theorem d_Day_status_47 : decode prog_1_method_42_code 47 = .ok (.iinc 3 1, 3) := by decide +kernel
theorem d_Day_status_50 : decode prog_1_method_42_code 50 = .ok (.goto (-18), 3) := by decide +kernel
theorem d_Day_status_53 : decode prog_1_method_42_code 53 = .ok (.iload_n 2, 1) := by decide +kernel
theorem d_Day_status_54 : decode prog_1_method_42_code 54 = .ok (.ireturn, 1) := by decide +kernel
