theorem d_Mod_init_0 : decode prog_10_method_1_code 0 = .ok (.aload_n 0, 1) := by decide +kernel
theorem d_Mod_init_1 : decode prog_10_method_1_code 1 = .ok (.invokespecial 1, 3) := by decide +kernel
theorem d_Mod_init_4 : decode prog_10_method_1_code 4 = .ok (.aload_n 0, 1) := by decide +kernel
theorem d_Mod_init_5 : decode prog_10_method_1_code 5 = .ok (.bipush 84, 2) := by decide +kernel
theorem d_Mod_init_7 : decode prog_10_method_1_code 7 = .ok (.newarray .int, 2) := by decide +kernel
theorem d_Mod_init_9 : decode prog_10_method_1_code 9 = .ok (.putfield 9, 3) := by decide +kernel
theorem d_Mod_init_12 : decode prog_10_method_1_code 12 = .ok (.aload_n 0, 1) := by decide +kernel
theorem d_Mod_init_13 : decode prog_10_method_1_code 13 = .ok (.bipush 84, 2) := by decide +kernel
theorem d_Mod_init_15 : decode prog_10_method_1_code 15 = .ok (.newarray .int, 2) := by decide +kernel
theorem d_Mod_init_17 : decode prog_10_method_1_code 17 = .ok (.putfield 13, 3) := by decide +kernel
theorem d_Mod_init_20 : decode prog_10_method_1_code 20 = .ok (.aload_n 0, 1) := by decide +kernel
theorem d_Mod_init_21 : decode prog_10_method_1_code 21 = .ok (.bipush 84, 2) := by decide +kernel
theorem d_Mod_init_23 : decode prog_10_method_1_code 23 = .ok (.newarray .int, 2) := by decide +kernel
theorem d_Mod_init_25 : decode prog_10_method_1_code 25 = .ok (.putfield 16, 3) := by decide +kernel
theorem d_Mod_init_28 : decode prog_10_method_1_code 28 = .ok (.aload_n 0, 1) := by decide +kernel
theorem d_Mod_init_29 : decode prog_10_method_1_code 29 = .ok (.bipush 8, 2) := by decide +kernel
theorem d_Mod_init_31 : decode prog_10_method_1_code 31 = .ok (.newarray .int, 2) := by decide +kernel
theorem d_Mod_init_33 : decode prog_10_method_1_code 33 = .ok (.putfield 19, 3) := by decide +kernel
theorem d_Mod_init_36 : decode prog_10_method_1_code 36 = .ok (.aload_n 0, 1) := by decide +kernel
theorem d_Mod_init_37 : decode prog_10_method_1_code 37 = .ok (.iconst (-1), 1) := by decide +kernel
theorem d_Mod_init_38 : decode prog_10_method_1_code 38 = .ok (.putfield 22, 3) := by decide +kernel
theorem d_Mod_init_41 : decode prog_10_method_1_code 41 = .ok (.aload_n 0, 1) := by decide +kernel
theorem d_Mod_init_42 : decode prog_10_method_1_code 42 = .ok (.bipush 120, 2) := by decide +kernel
theorem d_Mod_init_44 : decode prog_10_method_1_code 44 = .ok (.newarray .int, 2) := by decide +kernel
theorem d_Mod_init_46 : decode prog_10_method_1_code 46 = .ok (.putfield 26, 3) := by decide +kernel
theorem d_Mod_init_49 : decode prog_10_method_1_code 49 = .ok (.aload_n 0, 1) := by decide +kernel
theorem d_Mod_init_50 : decode prog_10_method_1_code 50 = .ok (.bipush 6, 2) := by decide +kernel
theorem d_Mod_init_52 : decode prog_10_method_1_code 52 = .ok (.anewarray 29, 3) := by decide +kernel
theorem d_Mod_init_55 : decode prog_10_method_1_code 55 = .ok (.dup, 1) := by decide +kernel
theorem d_Mod_init_56 : decode prog_10_method_1_code 56 = .ok (.iconst 0, 1) := by decide +kernel
theorem d_Mod_init_57 : decode prog_10_method_1_code 57 = .ok (.ldc 31, 2) := by decide +kernel
theorem d_Mod_init_59 : decode prog_10_method_1_code 59 = .ok (.aastore, 1) := by decide +kernel
theorem d_Mod_init_60 : decode prog_10_method_1_code 60 = .ok (.dup, 1) := by decide +kernel
theorem d_Mod_init_61 : decode prog_10_method_1_code 61 = .ok (.iconst 1, 1) := by decide +kernel
theorem d_Mod_init_62 : decode prog_10_method_1_code 62 = .ok (.ldc 33, 2) := by decide +kernel
theorem d_Mod_init_64 : decode prog_10_method_1_code 64 = .ok (.aastore, 1) := by decide +kernel
theorem d_Mod_init_65 : decode prog_10_method_1_code 65 = .ok (.dup, 1) := by decide +kernel
theorem d_Mod_init_66 : decode prog_10_method_1_code 66 = .ok (.iconst 2, 1) := by decide +kernel
theorem d_Mod_init_67 : decode prog_10_method_1_code 67 = .ok (.ldc 35, 2) := by decide +kernel
theorem d_Mod_init_69 : decode prog_10_method_1_code 69 = .ok (.aastore, 1) := by decide +kernel
theorem d_Mod_init_70 : decode prog_10_method_1_code 70 = .ok (.dup, 1) := by decide +kernel
theorem d_Mod_init_71 : decode prog_10_method_1_code 71 = .ok (.iconst 3, 1) := by decide +kernel
theorem d_Mod_init_72 : decode prog_10_method_1_code 72 = .ok (.ldc 37, 2) := by decide +kernel
theorem d_Mod_init_74 : decode prog_10_method_1_code 74 = .ok (.aastore, 1) := by decide +kernel
theorem d_Mod_init_75 : decode prog_10_method_1_code 75 = .ok (.dup, 1) := by decide +kernel
theorem d_Mod_init_76 : decode prog_10_method_1_code 76 = .ok (.iconst 4, 1) := by decide +kernel
theorem d_Mod_init_77 : decode prog_10_method_1_code 77 = .ok (.ldc 39, 2) := by decide +kernel
theorem d_Mod_init_79 : decode prog_10_method_1_code 79 = .ok (.aastore, 1) := by decide +kernel
theorem d_Mod_init_80 : decode prog_10_method_1_code 80 = .ok (.dup, 1) := by decide +kernel
theorem d_Mod_init_81 : decode prog_10_method_1_code 81 = .ok (.iconst 5, 1) := by decide +kernel
theorem d_Mod_init_82 : decode prog_10_method_1_code 82 = .ok (.ldc 41, 2) := by decide +kernel
theorem d_Mod_init_84 : decode prog_10_method_1_code 84 = .ok (.aastore, 1) := by decide +kernel
theorem d_Mod_init_85 : decode prog_10_method_1_code 85 = .ok (.putfield 43, 3) := by decide +kernel
theorem d_Mod_init_88 : decode prog_10_method_1_code 88 = .ok (.aload_n 0, 1) := by decide +kernel
theorem d_Mod_init_89 : decode prog_10_method_1_code 89 = .ok (.sipush 600, 3) := by decide +kernel
theorem d_Mod_init_92 : decode prog_10_method_1_code 92 = .ok (.newarray .int, 2) := by decide +kernel
theorem d_Mod_init_94 : decode prog_10_method_1_code 94 = .ok (.putfield 47, 3) := by decide +kernel
theorem d_Mod_init_97 : decode prog_10_method_1_code 97 = .ok (.aload_n 0, 1) := by decide +kernel
theorem d_Mod_init_98 : decode prog_10_method_1_code 98 = .ok (.iconst 4, 1) := by decide +kernel
theorem d_Mod_init_99 : decode prog_10_method_1_code 99 = .ok (.newarray .int, 2) := by decide +kernel
theorem d_Mod_init_101 : decode prog_10_method_1_code 101 = .ok (.putfield 50, 3) := by decide +kernel
theorem d_Mod_init_104 : decode prog_10_method_1_code 104 = .ok (.aload_n 0, 1) := by decide +kernel
theorem d_Mod_init_105 : decode prog_10_method_1_code 105 = .ok (.iconst 4, 1) := by decide +kernel
theorem d_Mod_init_106 : decode prog_10_method_1_code 106 = .ok (.newarray .int, 2) := by decide +kernel
theorem d_Mod_init_108 : decode prog_10_method_1_code 108 = .ok (.putfield 53, 3) := by decide +kernel
theorem d_Mod_init_111 : decode prog_10_method_1_code 111 = .ok (.aload_n 0, 1) := by decide +kernel
theorem d_Mod_init_112 : decode prog_10_method_1_code 112 = .ok (.sipush 160, 3) := by decide +kernel
theorem d_Mod_init_115 : decode prog_10_method_1_code 115 = .ok (.newarray .long, 2) := by decide +kernel
theorem d_Mod_init_117 : decode prog_10_method_1_code 117 = .ok (.putfield 56, 3) := by decide +kernel
theorem d_Mod_init_120 : decode prog_10_method_1_code 120 = .ok (.aload_n 0, 1) := by decide +kernel
theorem d_Mod_init_121 : decode prog_10_method_1_code 121 = .ok (.bipush 40, 2) := by decide +kernel
theorem d_Mod_init_123 : decode prog_10_method_1_code 123 = .ok (.newarray .long, 2) := by decide +kernel
theorem d_Mod_init_125 : decode prog_10_method_1_code 125 = .ok (.putfield 60, 3) := by decide +kernel
theorem d_Mod_init_128 : decode prog_10_method_1_code 128 = .ok (.aload_n 0, 1) := by decide +kernel
theorem d_Mod_init_129 : decode prog_10_method_1_code 129 = .ok (.getfield 9, 3) := by decide +kernel
theorem d_Mod_init_132 : decode prog_10_method_1_code 132 = .ok (.iconst 1, 1) := by decide +kernel
theorem d_Mod_init_133 : decode prog_10_method_1_code 133 = .ok (.iconst 5, 1) := by decide +kernel
theorem d_Mod_init_134 : decode prog_10_method_1_code 134 = .ok (.iastore, 1) := by decide +kernel
theorem d_Mod_init_135 : decode prog_10_method_1_code 135 = .ok (.return_, 1) := by decide +kernel
theorem d_Mod_toll_0 : decode prog_10_method_16_code 0 = .ok (.iload_n 1, 1) := by decide +kernel
theorem d_Mod_toll_1 : decode prog_10_method_16_code 1 = .ok (.iconst 0, 1) := by decide +kernel
theorem d_Mod_toll_2 : decode prog_10_method_16_code 2 = .ok (.bipush 99, 2) := by decide +kernel
theorem d_Mod_toll_4 : decode prog_10_method_16_code 4 = .ok (.invokestatic 68, 3) := by decide +kernel
theorem d_Mod_toll_7 : decode prog_10_method_16_code 7 = .ok (.ifCond .eq 12, 3) := by decide +kernel
theorem d_Mod_toll_10 : decode prog_10_method_16_code 10 = .ok (.aload_n 0, 1) := by decide +kernel
theorem d_Mod_toll_11 : decode prog_10_method_16_code 11 = .ok (.iconst 1, 1) := by decide +kernel
theorem d_Mod_toll_12 : decode prog_10_method_16_code 12 = .ok (.iload_n 1, 1) := by decide +kernel
theorem d_Mod_toll_13 : decode prog_10_method_16_code 13 = .ok (.invokevirtual 79, 3) := by decide +kernel
theorem d_Mod_toll_16 : decode prog_10_method_16_code 16 = .ok (.goto 9, 3) := by decide +kernel
theorem d_Mod_toll_19 : decode prog_10_method_16_code 19 = .ok (.aload_n 0, 1) := by decide +kernel
theorem d_Mod_toll_20 : decode prog_10_method_16_code 20 = .ok (.ldc 63, 2) := by decide +kernel
theorem d_Mod_toll_22 : decode prog_10_method_16_code 22 = .ok (.invokevirtual 82, 3) := by decide +kernel
theorem d_Mod_toll_25 : decode prog_10_method_16_code 25 = .ok (.ireturn, 1) := by decide +kernel
theorem d_Mod_within_0 : decode prog_10_method_3_code 0 = .ok (.iload_n 0, 1) := by decide +kernel
theorem d_Mod_within_1 : decode prog_10_method_3_code 1 = .ok (.iload_n 1, 1) := by decide +kernel
theorem d_Mod_within_2 : decode prog_10_method_3_code 2 = .ok (.if_icmp .lt 12, 3) := by decide +kernel
theorem d_Mod_within_5 : decode prog_10_method_3_code 5 = .ok (.iload_n 0, 1) := by decide +kernel
theorem d_Mod_within_6 : decode prog_10_method_3_code 6 = .ok (.iload_n 2, 1) := by decide +kernel
theorem d_Mod_within_7 : decode prog_10_method_3_code 7 = .ok (.if_icmp .gt 7, 3) := by decide +kernel
theorem d_Mod_within_10 : decode prog_10_method_3_code 10 = .ok (.iconst 1, 1) := by decide +kernel
theorem d_Mod_within_11 : decode prog_10_method_3_code 11 = .ok (.goto 4, 3) := by decide +kernel
theorem d_Mod_within_14 : decode prog_10_method_3_code 14 = .ok (.iconst 0, 1) := by decide +kernel
theorem d_Mod_within_15 : decode prog_10_method_3_code 15 = .ok (.ireturn, 1) := by decide +kernel
theorem d_Mod_become_0 : decode prog_10_method_4_code 0 = .ok (.aload_n 0, 1) := by decide +kernel
theorem d_Mod_become_1 : decode prog_10_method_4_code 1 = .ok (.getfield 9, 3) := by decide +kernel
theorem d_Mod_become_4 : decode prog_10_method_4_code 4 = .ok (.iload_n 1, 1) := by decide +kernel
theorem d_Mod_become_5 : decode prog_10_method_4_code 5 = .ok (.iaload, 1) := by decide +kernel
theorem d_Mod_become_6 : decode prog_10_method_4_code 6 = .ok (.istore_n 3, 1) := by decide +kernel
theorem d_Mod_become_7 : decode prog_10_method_4_code 7 = .ok (.aload_n 0, 1) := by decide +kernel
theorem d_Mod_become_8 : decode prog_10_method_4_code 8 = .ok (.getfield 9, 3) := by decide +kernel
theorem d_Mod_become_11 : decode prog_10_method_4_code 11 = .ok (.iload_n 1, 1) := by decide +kernel
theorem d_Mod_become_12 : decode prog_10_method_4_code 12 = .ok (.iload_n 2, 1) := by decide +kernel
theorem d_Mod_become_13 : decode prog_10_method_4_code 13 = .ok (.iastore, 1) := by decide +kernel
theorem d_Mod_become_14 : decode prog_10_method_4_code 14 = .ok (.iload_n 3, 1) := by decide +kernel
theorem d_Mod_become_15 : decode prog_10_method_4_code 15 = .ok (.ireturn, 1) := by decide +kernel
theorem d_Mod_finding_0 : decode prog_10_method_2_code 0 = .ok (.aload_n 0, 1) := by decide +kernel
theorem d_Mod_finding_1 : decode prog_10_method_2_code 1 = .ok (.getfield 19, 3) := by decide +kernel
theorem d_Mod_finding_4 : decode prog_10_method_2_code 4 = .ok (.ldc 63, 2) := by decide +kernel
theorem d_Mod_finding_6 : decode prog_10_method_2_code 6 = .ok (.iload_n 1, 1) := by decide +kernel
theorem d_Mod_finding_7 : decode prog_10_method_2_code 7 = .ok (.isub, 1) := by decide +kernel
theorem d_Mod_finding_8 : decode prog_10_method_2_code 8 = .ok (.iconst 1, 1) := by decide +kernel
theorem d_Mod_finding_9 : decode prog_10_method_2_code 9 = .ok (.iadd, 1) := by decide +kernel
theorem d_Mod_finding_10 : decode prog_10_method_2_code 10 = .ok (.dup2, 1) := by decide +kernel
theorem d_Mod_finding_11 : decode prog_10_method_2_code 11 = .ok (.iaload, 1) := by decide +kernel
theorem d_Mod_finding_12 : decode prog_10_method_2_code 12 = .ok (.iconst 1, 1) := by decide +kernel
theorem d_Mod_finding_13 : decode prog_10_method_2_code 13 = .ok (.iadd, 1) := by decide +kernel
theorem d_Mod_finding_14 : decode prog_10_method_2_code 14 = .ok (.iastore, 1) := by decide +kernel
theorem d_Mod_finding_15 : decode prog_10_method_2_code 15 = .ok (.aload_n 0, 1) := by decide +kernel
theorem d_Mod_finding_16 : decode prog_10_method_2_code 16 = .ok (.getfield 19, 3) := by decide +kernel
theorem d_Mod_finding_19 : decode prog_10_method_2_code 19 = .ok (.iconst 0, 1) := by decide +kernel
theorem d_Mod_finding_20 : decode prog_10_method_2_code 20 = .ok (.dup2, 1) := by decide +kernel
theorem d_Mod_finding_21 : decode prog_10_method_2_code 21 = .ok (.iaload, 1) := by decide +kernel
theorem d_Mod_finding_22 : decode prog_10_method_2_code 22 = .ok (.iconst 1, 1) := by decide +kernel
theorem d_Mod_finding_23 : decode prog_10_method_2_code 23 = .ok (.iadd, 1) := by decide +kernel
theorem d_Mod_finding_24 : decode prog_10_method_2_code 24 = .ok (.iastore, 1) := by decide +kernel
theorem d_Mod_finding_25 : decode prog_10_method_2_code 25 = .ok (.iload_n 1, 1) := by decide +kernel
theorem d_Mod_finding_26 : decode prog_10_method_2_code 26 = .ok (.ireturn, 1) := by decide +kernel
theorem d_Mod_event_0 : decode prog_10_method_18_code 0 = .ok (.iload_n 1, 1) := by decide +kernel
theorem d_Mod_event_1 : decode prog_10_method_18_code 1 = .ok (.iconst 0, 1) := by decide +kernel
theorem d_Mod_event_2 : decode prog_10_method_18_code 2 = .ok (.sipush 9999, 3) := by decide +kernel
theorem d_Mod_event_5 : decode prog_10_method_18_code 5 = .ok (.invokestatic 68, 3) := by decide +kernel
theorem d_Mod_event_8 : decode prog_10_method_18_code 8 = .ok (.ifCond .eq 10, 3) := by decide +kernel
theorem d_Mod_event_11 : decode prog_10_method_18_code 11 = .ok (.iload_n 2, 1) := by decide +kernel
theorem d_Mod_event_12 : decode prog_10_method_18_code 12 = .ok (.invokestatic 86, 3) := by decide +kernel
theorem d_Mod_event_15 : decode prog_10_method_18_code 15 = .ok (.ifCond .ne 10, 3) := by decide +kernel
theorem d_Mod_event_18 : decode prog_10_method_18_code 18 = .ok (.aload_n 0, 1) := by decide +kernel
theorem d_Mod_event_19 : decode prog_10_method_18_code 19 = .ok (.ldc 63, 2) := by decide +kernel
theorem d_Mod_event_21 : decode prog_10_method_18_code 21 = .ok (.invokevirtual 82, 3) := by decide +kernel
theorem d_Mod_event_24 : decode prog_10_method_18_code 24 = .ok (.ireturn, 1) := by decide +kernel
theorem d_Mod_event_25 : decode prog_10_method_18_code 25 = .ok (.aload_n 0, 1) := by decide +kernel
theorem d_Mod_event_26 : decode prog_10_method_18_code 26 = .ok (.getfield 9, 3) := by decide +kernel
theorem d_Mod_event_29 : decode prog_10_method_18_code 29 = .ok (.iconst 2, 1) := by decide +kernel
theorem d_Mod_event_30 : decode prog_10_method_18_code 30 = .ok (.iaload, 1) := by decide +kernel
theorem d_Mod_event_31 : decode prog_10_method_18_code 31 = .ok (.bipush 8, 2) := by decide +kernel
theorem d_Mod_event_33 : decode prog_10_method_18_code 33 = .ok (.if_icmp .ne 12, 3) := by decide +kernel
theorem d_Mod_event_36 : decode prog_10_method_18_code 36 = .ok (.aload_n 0, 1) := by decide +kernel
theorem d_Mod_event_37 : decode prog_10_method_18_code 37 = .ok (.ldc 90, 2) := by decide +kernel
theorem d_Mod_event_39 : decode prog_10_method_18_code 39 = .ok (.invokevirtual 82, 3) := by decide +kernel
theorem d_Mod_event_42 : decode prog_10_method_18_code 42 = .ok (.goto 9, 3) := by decide +kernel
theorem d_Mod_event_45 : decode prog_10_method_18_code 45 = .ok (.aload_n 0, 1) := by decide +kernel
theorem d_Mod_event_46 : decode prog_10_method_18_code 46 = .ok (.iload_n 1, 1) := by decide +kernel
theorem d_Mod_event_47 : decode prog_10_method_18_code 47 = .ok (.iload_n 2, 1) := by decide +kernel
theorem d_Mod_event_48 : decode prog_10_method_18_code 48 = .ok (.invokevirtual 91, 3) := by decide +kernel
theorem d_Mod_event_51 : decode prog_10_method_18_code 51 = .ok (.ireturn, 1) := by decide +kernel
theorem d_Mod_isWorth_0 : decode prog_10_method_11_code 0 = .ok (.iload_n 0, 1) := by decide +kernel
theorem d_Mod_isWorth_1 : decode prog_10_method_11_code 1 = .ok (.bipush (-99), 2) := by decide +kernel
theorem d_Mod_isWorth_3 : decode prog_10_method_11_code 3 = .ok (.bipush 99, 2) := by decide +kernel
theorem d_Mod_isWorth_5 : decode prog_10_method_11_code 5 = .ok (.invokestatic 68, 3) := by decide +kernel
theorem d_Mod_isWorth_8 : decode prog_10_method_11_code 8 = .ok (.ireturn, 1) := by decide +kernel
theorem d_Mod_happens_0 : decode prog_10_method_17_code 0 = .ok (.aload_n 0, 1) := by decide +kernel
theorem d_Mod_happens_1 : decode prog_10_method_17_code 1 = .ok (.getfield 9, 3) := by decide +kernel
theorem d_Mod_happens_4 : decode prog_10_method_17_code 4 = .ok (.iconst 2, 1) := by decide +kernel
theorem d_Mod_happens_5 : decode prog_10_method_17_code 5 = .ok (.iaload, 1) := by decide +kernel
theorem d_Mod_happens_6 : decode prog_10_method_17_code 6 = .ok (.istore_n 3, 1) := by decide +kernel
theorem d_Mod_happens_7 : decode prog_10_method_17_code 7 = .ok (.aload_n 0, 1) := by decide +kernel
theorem d_Mod_happens_8 : decode prog_10_method_17_code 8 = .ok (.getfield 9, 3) := by decide +kernel
theorem d_Mod_happens_11 : decode prog_10_method_17_code 11 = .ok (.iload_n 3, 1) := by decide +kernel
theorem d_Mod_happens_12 : decode prog_10_method_17_code 12 = .ok (.iconst 0, 1) := by decide +kernel
theorem d_Mod_happens_13 : decode prog_10_method_17_code 13 = .ok (.invokestatic 72, 3) := by decide +kernel
theorem d_Mod_happens_16 : decode prog_10_method_17_code 16 = .ok (.iload_n 1, 1) := by decide +kernel
theorem d_Mod_happens_17 : decode prog_10_method_17_code 17 = .ok (.iastore, 1) := by decide +kernel
theorem d_Mod_happens_18 : decode prog_10_method_17_code 18 = .ok (.aload_n 0, 1) := by decide +kernel
theorem d_Mod_happens_19 : decode prog_10_method_17_code 19 = .ok (.getfield 9, 3) := by decide +kernel
theorem d_Mod_happens_22 : decode prog_10_method_17_code 22 = .ok (.iload_n 3, 1) := by decide +kernel
theorem d_Mod_happens_23 : decode prog_10_method_17_code 23 = .ok (.iconst 1, 1) := by decide +kernel
theorem d_Mod_happens_24 : decode prog_10_method_17_code 24 = .ok (.invokestatic 72, 3) := by decide +kernel
theorem d_Mod_happens_27 : decode prog_10_method_17_code 27 = .ok (.iload_n 2, 1) := by decide +kernel
theorem d_Mod_happens_28 : decode prog_10_method_17_code 28 = .ok (.iastore, 1) := by decide +kernel
theorem d_Mod_happens_29 : decode prog_10_method_17_code 29 = .ok (.aload_n 0, 1) := by decide +kernel
theorem d_Mod_happens_30 : decode prog_10_method_17_code 30 = .ok (.getfield 9, 3) := by decide +kernel
theorem d_Mod_happens_33 : decode prog_10_method_17_code 33 = .ok (.iload_n 3, 1) := by decide +kernel
theorem d_Mod_happens_34 : decode prog_10_method_17_code 34 = .ok (.iconst 2, 1) := by decide +kernel
theorem d_Mod_happens_35 : decode prog_10_method_17_code 35 = .ok (.invokestatic 72, 3) := by decide +kernel
theorem d_Mod_happens_38 : decode prog_10_method_17_code 38 = .ok (.iconst 0, 1) := by decide +kernel
theorem d_Mod_happens_39 : decode prog_10_method_17_code 39 = .ok (.iastore, 1) := by decide +kernel
theorem d_Mod_happens_40 : decode prog_10_method_17_code 40 = .ok (.aload_n 0, 1) := by decide +kernel
theorem d_Mod_happens_41 : decode prog_10_method_17_code 41 = .ok (.getfield 9, 3) := by decide +kernel
theorem d_Mod_happens_44 : decode prog_10_method_17_code 44 = .ok (.iconst 2, 1) := by decide +kernel
theorem d_Mod_happens_45 : decode prog_10_method_17_code 45 = .ok (.dup2, 1) := by decide +kernel
theorem d_Mod_happens_46 : decode prog_10_method_17_code 46 = .ok (.iaload, 1) := by decide +kernel
theorem d_Mod_happens_47 : decode prog_10_method_17_code 47 = .ok (.iconst 1, 1) := by decide +kernel
theorem d_Mod_happens_48 : decode prog_10_method_17_code 48 = .ok (.iadd, 1) := by decide +kernel
theorem d_Mod_happens_49 : decode prog_10_method_17_code 49 = .ok (.iastore, 1) := by decide +kernel
theorem d_Mod_happens_50 : decode prog_10_method_17_code 50 = .ok (.iload_n 3, 1) := by decide +kernel
theorem d_Mod_happens_51 : decode prog_10_method_17_code 51 = .ok (.ireturn, 1) := by decide +kernel
theorem d_Mod_atEvent_0 : decode prog_10_method_12_code 0 = .ok (.iconst 4, 1) := by decide +kernel
theorem d_Mod_atEvent_1 : decode prog_10_method_12_code 1 = .ok (.iconst 3, 1) := by decide +kernel
theorem d_Mod_atEvent_2 : decode prog_10_method_12_code 2 = .ok (.iload_n 0, 1) := by decide +kernel
theorem d_Mod_atEvent_3 : decode prog_10_method_12_code 3 = .ok (.imul, 1) := by decide +kernel
theorem d_Mod_atEvent_4 : decode prog_10_method_12_code 4 = .ok (.iadd, 1) := by decide +kernel
theorem d_Mod_atEvent_5 : decode prog_10_method_12_code 5 = .ok (.iload_n 1, 1) := by decide +kernel
theorem d_Mod_atEvent_6 : decode prog_10_method_12_code 6 = .ok (.iadd, 1) := by decide +kernel
theorem d_Mod_atEvent_7 : decode prog_10_method_12_code 7 = .ok (.ireturn, 1) := by decide +kernel
theorem d_Mod_eventOf_0 : decode prog_10_method_20_code 0 = .ok (.aload_n 0, 1) := by decide +kernel
theorem d_Mod_eventOf_1 : decode prog_10_method_20_code 1 = .ok (.iload_n 1, 1) := by decide +kernel
theorem d_Mod_eventOf_2 : decode prog_10_method_20_code 2 = .ok (.invokevirtual 101, 3) := by decide +kernel
theorem d_Mod_eventOf_5 : decode prog_10_method_20_code 5 = .ok (.ifCond .eq 12, 3) := by decide +kernel
theorem d_Mod_eventOf_8 : decode prog_10_method_20_code 8 = .ok (.iload_n 2, 1) := by decide +kernel
theorem d_Mod_eventOf_9 : decode prog_10_method_20_code 9 = .ok (.iconst 0, 1) := by decide +kernel
theorem d_Mod_eventOf_10 : decode prog_10_method_20_code 10 = .ok (.iconst 5, 1) := by decide +kernel
theorem d_Mod_eventOf_11 : decode prog_10_method_20_code 11 = .ok (.invokestatic 68, 3) := by decide +kernel
theorem d_Mod_eventOf_14 : decode prog_10_method_20_code 14 = .ok (.ifCond .ne 10, 3) := by decide +kernel
theorem d_Mod_eventOf_17 : decode prog_10_method_20_code 17 = .ok (.aload_n 0, 1) := by decide +kernel
theorem d_Mod_eventOf_18 : decode prog_10_method_20_code 18 = .ok (.ldc 63, 2) := by decide +kernel
theorem d_Mod_eventOf_20 : decode prog_10_method_20_code 20 = .ok (.invokevirtual 82, 3) := by decide +kernel
theorem d_Mod_eventOf_23 : decode prog_10_method_20_code 23 = .ok (.ireturn, 1) := by decide +kernel
theorem d_Mod_eventOf_24 : decode prog_10_method_20_code 24 = .ok (.aload_n 0, 1) := by decide +kernel
theorem d_Mod_eventOf_25 : decode prog_10_method_20_code 25 = .ok (.iload_n 1, 1) := by decide +kernel
theorem d_Mod_eventOf_26 : decode prog_10_method_20_code 26 = .ok (.iconst 0, 1) := by decide +kernel
theorem d_Mod_eventOf_27 : decode prog_10_method_20_code 27 = .ok (.invokevirtual 104, 3) := by decide +kernel
theorem d_Mod_eventOf_30 : decode prog_10_method_20_code 30 = .ok (.aload_n 0, 1) := by decide +kernel
theorem d_Mod_eventOf_31 : decode prog_10_method_20_code 31 = .ok (.getfield 9, 3) := by decide +kernel
theorem d_Mod_eventOf_34 : decode prog_10_method_20_code 34 = .ok (.iconst 0, 1) := by decide +kernel
theorem d_Mod_eventOf_35 : decode prog_10_method_20_code 35 = .ok (.iaload, 1) := by decide +kernel
theorem d_Mod_eventOf_36 : decode prog_10_method_20_code 36 = .ok (.isub, 1) := by decide +kernel
theorem d_Mod_eventOf_37 : decode prog_10_method_20_code 37 = .ok (.istore_n 3, 1) := by decide +kernel
theorem d_Mod_eventOf_38 : decode prog_10_method_20_code 38 = .ok (.iload_n 2, 1) := by decide +kernel
theorem d_Mod_eventOf_39 : decode prog_10_method_20_code 39 = .ok (.tableswitch 60 3 5 #[25, 31, 37], 25) := by decide +kernel
theorem d_Mod_eventOf_64 : decode prog_10_method_20_code 64 = .ok (.aload_n 0, 1) := by decide +kernel
theorem d_Mod_eventOf_65 : decode prog_10_method_20_code 65 = .ok (.iload_n 1, 1) := by decide +kernel
theorem d_Mod_eventOf_66 : decode prog_10_method_20_code 66 = .ok (.invokevirtual 107, 3) := by decide +kernel
theorem d_Mod_eventOf_69 : decode prog_10_method_20_code 69 = .ok (.ireturn, 1) := by decide +kernel
theorem d_Mod_eventOf_70 : decode prog_10_method_20_code 70 = .ok (.iconst (-1), 1) := by decide +kernel
theorem d_Mod_eventOf_71 : decode prog_10_method_20_code 71 = .ok (.iload_n 3, 1) := by decide +kernel
theorem d_Mod_eventOf_72 : decode prog_10_method_20_code 72 = .ok (.invokestatic 110, 3) := by decide +kernel
theorem d_Mod_eventOf_75 : decode prog_10_method_20_code 75 = .ok (.ireturn, 1) := by decide +kernel
theorem d_Mod_eventOf_76 : decode prog_10_method_20_code 76 = .ok (.aload_n 0, 1) := by decide +kernel
theorem d_Mod_eventOf_77 : decode prog_10_method_20_code 77 = .ok (.iload_n 1, 1) := by decide +kernel
theorem d_Mod_eventOf_78 : decode prog_10_method_20_code 78 = .ok (.iconst 2, 1) := by decide +kernel
theorem d_Mod_eventOf_79 : decode prog_10_method_20_code 79 = .ok (.invokevirtual 104, 3) := by decide +kernel
theorem d_Mod_eventOf_82 : decode prog_10_method_20_code 82 = .ok (.iconst 1, 1) := by decide +kernel
theorem d_Mod_eventOf_83 : decode prog_10_method_20_code 83 = .ok (.if_icmp .ne 7, 3) := by decide +kernel
theorem d_Mod_eventOf_86 : decode prog_10_method_20_code 86 = .ok (.iconst (-1), 1) := by decide +kernel
theorem d_Mod_eventOf_87 : decode prog_10_method_20_code 87 = .ok (.goto 11, 3) := by decide +kernel
theorem d_Mod_eventOf_90 : decode prog_10_method_20_code 90 = .ok (.iconst (-1), 1) := by decide +kernel
theorem d_Mod_eventOf_91 : decode prog_10_method_20_code 91 = .ok (.iload_n 3, 1) := by decide +kernel
theorem d_Mod_eventOf_92 : decode prog_10_method_20_code 92 = .ok (.bipush 24, 2) := by decide +kernel
theorem d_Mod_eventOf_94 : decode prog_10_method_20_code 94 = .ok (.iadd, 1) := by decide +kernel
theorem d_Mod_eventOf_95 : decode prog_10_method_20_code 95 = .ok (.invokestatic 110, 3) := by decide +kernel
theorem d_Mod_eventOf_98 : decode prog_10_method_20_code 98 = .ok (.ireturn, 1) := by decide +kernel
theorem d_Mod_eventOf_99 : decode prog_10_method_20_code 99 = .ok (.aload_n 0, 1) := by decide +kernel
theorem d_Mod_eventOf_100 : decode prog_10_method_20_code 100 = .ok (.iload_n 1, 1) := by decide +kernel
theorem d_Mod_eventOf_101 : decode prog_10_method_20_code 101 = .ok (.iload_n 2, 1) := by decide +kernel
theorem d_Mod_eventOf_102 : decode prog_10_method_20_code 102 = .ok (.invokevirtual 104, 3) := by decide +kernel
theorem d_Mod_eventOf_105 : decode prog_10_method_20_code 105 = .ok (.ireturn, 1) := by decide +kernel
theorem d_Mod_isEvent_0 : decode prog_10_method_9_code 0 = .ok (.iload_n 1, 1) := by decide +kernel
theorem d_Mod_isEvent_1 : decode prog_10_method_9_code 1 = .ok (.iconst 0, 1) := by decide +kernel
theorem d_Mod_isEvent_2 : decode prog_10_method_9_code 2 = .ok (.aload_n 0, 1) := by decide +kernel
theorem d_Mod_isEvent_3 : decode prog_10_method_9_code 3 = .ok (.getfield 9, 3) := by decide +kernel
theorem d_Mod_isEvent_6 : decode prog_10_method_9_code 6 = .ok (.iconst 2, 1) := by decide +kernel
theorem d_Mod_isEvent_7 : decode prog_10_method_9_code 7 = .ok (.iaload, 1) := by decide +kernel
theorem d_Mod_isEvent_8 : decode prog_10_method_9_code 8 = .ok (.iconst 1, 1) := by decide +kernel
theorem d_Mod_isEvent_9 : decode prog_10_method_9_code 9 = .ok (.isub, 1) := by decide +kernel
theorem d_Mod_isEvent_10 : decode prog_10_method_9_code 10 = .ok (.invokestatic 68, 3) := by decide +kernel
theorem d_Mod_isEvent_13 : decode prog_10_method_9_code 13 = .ok (.ireturn, 1) := by decide +kernel
theorem d_Mod_eventIs_0 : decode prog_10_method_13_code 0 = .ok (.aload_n 0, 1) := by decide +kernel
theorem d_Mod_eventIs_1 : decode prog_10_method_13_code 1 = .ok (.getfield 9, 3) := by decide +kernel
theorem d_Mod_eventIs_4 : decode prog_10_method_13_code 4 = .ok (.iload_n 1, 1) := by decide +kernel
theorem d_Mod_eventIs_5 : decode prog_10_method_13_code 5 = .ok (.iload_n 2, 1) := by decide +kernel
theorem d_Mod_eventIs_6 : decode prog_10_method_13_code 6 = .ok (.invokestatic 72, 3) := by decide +kernel
theorem d_Mod_eventIs_9 : decode prog_10_method_13_code 9 = .ok (.iaload, 1) := by decide +kernel
theorem d_Mod_eventIs_10 : decode prog_10_method_13_code 10 = .ok (.ireturn, 1) := by decide +kernel
theorem d_Mod_whoKnow_0 : decode prog_10_method_19_code 0 = .ok (.iconst 0, 1) := by decide +kernel
theorem d_Mod_whoKnow_1 : decode prog_10_method_19_code 1 = .ok (.istore_n 2, 1) := by decide +kernel
theorem d_Mod_whoKnow_2 : decode prog_10_method_19_code 2 = .ok (.iconst 0, 1) := by decide +kernel
theorem d_Mod_whoKnow_3 : decode prog_10_method_19_code 3 = .ok (.istore_n 3, 1) := by decide +kernel
theorem d_Mod_whoKnow_4 : decode prog_10_method_19_code 4 = .ok (.iload_n 3, 1) := by decide +kernel
theorem d_Mod_whoKnow_5 : decode prog_10_method_19_code 5 = .ok (.aload_n 0, 1) := by decide +kernel
theorem d_Mod_whoKnow_6 : decode prog_10_method_19_code 6 = .ok (.getfield 9, 3) := by decide +kernel
theorem d_Mod_whoKnow_9 : decode prog_10_method_19_code 9 = .ok (.iconst 3, 1) := by decide +kernel
theorem d_Mod_whoKnow_10 : decode prog_10_method_19_code 10 = .ok (.iaload, 1) := by decide +kernel
theorem d_Mod_whoKnow_11 : decode prog_10_method_19_code 11 = .ok (.if_icmp .ge 33, 3) := by decide +kernel
theorem d_Mod_whoKnow_14 : decode prog_10_method_19_code 14 = .ok (.iload_n 2, 1) := by decide +kernel
theorem d_Mod_whoKnow_15 : decode prog_10_method_19_code 15 = .ok (.aload_n 0, 1) := by decide +kernel
theorem d_Mod_whoKnow_16 : decode prog_10_method_19_code 16 = .ok (.iload_n 3, 1) := by decide +kernel
theorem d_Mod_whoKnow_17 : decode prog_10_method_19_code 17 = .ok (.bipush 6, 2) := by decide +kernel
theorem d_Mod_whoKnow_19 : decode prog_10_method_19_code 19 = .ok (.invokevirtual 94, 3) := by decide +kernel
theorem d_Mod_whoKnow_22 : decode prog_10_method_19_code 22 = .ok (.iload_n 1, 1) := by decide +kernel
theorem d_Mod_whoKnow_23 : decode prog_10_method_19_code 23 = .ok (.invokestatic 97, 3) := by decide +kernel
theorem d_Mod_whoKnow_26 : decode prog_10_method_19_code 26 = .ok (.ifCond .eq 9, 3) := by decide +kernel
theorem d_Mod_whoKnow_29 : decode prog_10_method_19_code 29 = .ok (.iconst 1, 1) := by decide +kernel
theorem d_Mod_whoKnow_30 : decode prog_10_method_19_code 30 = .ok (.iload_n 3, 1) := by decide +kernel
theorem d_Mod_whoKnow_31 : decode prog_10_method_19_code 31 = .ok (.ishl, 1) := by decide +kernel
theorem d_Mod_whoKnow_32 : decode prog_10_method_19_code 32 = .ok (.goto 4, 3) := by decide +kernel
theorem d_Mod_whoKnow_35 : decode prog_10_method_19_code 35 = .ok (.iconst 0, 1) := by decide +kernel
theorem d_Mod_whoKnow_36 : decode prog_10_method_19_code 36 = .ok (.ior, 1) := by decide +kernel
theorem d_Mod_whoKnow_37 : decode prog_10_method_19_code 37 = .ok (.istore_n 2, 1) := by decide +kernel
theorem d_Mod_whoKnow_38 : decode prog_10_method_19_code 38 = .ok (.iinc 3 1, 3) := by decide +kernel
theorem d_Mod_whoKnow_41 : decode prog_10_method_19_code 41 = .ok (.goto (-37), 3) := by decide +kernel
theorem d_Mod_whoKnow_44 : decode prog_10_method_19_code 44 = .ok (.iload_n 2, 1) := by decide +kernel
theorem d_Mod_whoKnow_45 : decode prog_10_method_19_code 45 = .ok (.ireturn, 1) := by decide +kernel
theorem d_Mod_oneIs_0 : decode prog_10_method_15_code 0 = .ok (.aload_n 0, 1) := by decide +kernel
theorem d_Mod_oneIs_1 : decode prog_10_method_15_code 1 = .ok (.getfield 9, 3) := by decide +kernel
theorem d_Mod_oneIs_4 : decode prog_10_method_15_code 4 = .ok (.iload_n 1, 1) := by decide +kernel
theorem d_Mod_oneIs_5 : decode prog_10_method_15_code 5 = .ok (.iload_n 2, 1) := by decide +kernel
theorem d_Mod_oneIs_6 : decode prog_10_method_15_code 6 = .ok (.invokestatic 76, 3) := by decide +kernel
theorem d_Mod_oneIs_9 : decode prog_10_method_15_code 9 = .ok (.iaload, 1) := by decide +kernel
theorem d_Mod_oneIs_10 : decode prog_10_method_15_code 10 = .ok (.ireturn, 1) := by decide +kernel
theorem d_Mod_at_0 : decode prog_10_method_14_code 0 = .ok (.bipush 28, 2) := by decide +kernel
theorem d_Mod_at_2 : decode prog_10_method_14_code 2 = .ok (.bipush 7, 2) := by decide +kernel
theorem d_Mod_at_4 : decode prog_10_method_14_code 4 = .ok (.iload_n 0, 1) := by decide +kernel
theorem d_Mod_at_5 : decode prog_10_method_14_code 5 = .ok (.imul, 1) := by decide +kernel
theorem d_Mod_at_6 : decode prog_10_method_14_code 6 = .ok (.iadd, 1) := by decide +kernel
theorem d_Mod_at_7 : decode prog_10_method_14_code 7 = .ok (.iload_n 1, 1) := by decide +kernel
theorem d_Mod_at_8 : decode prog_10_method_14_code 8 = .ok (.iadd, 1) := by decide +kernel
theorem d_Mod_at_9 : decode prog_10_method_14_code 9 = .ok (.ireturn, 1) := by decide +kernel
theorem d_Mod_has_0 : decode prog_10_method_7_code 0 = .ok (.iload_n 0, 1) := by decide +kernel
theorem d_Mod_has_1 : decode prog_10_method_7_code 1 = .ok (.iload_n 1, 1) := by decide +kernel
theorem d_Mod_has_2 : decode prog_10_method_7_code 2 = .ok (.ishr, 1) := by decide +kernel
theorem d_Mod_has_3 : decode prog_10_method_7_code 3 = .ok (.iconst 1, 1) := by decide +kernel
theorem d_Mod_has_4 : decode prog_10_method_7_code 4 = .ok (.iand, 1) := by decide +kernel
theorem d_Mod_has_5 : decode prog_10_method_7_code 5 = .ok (.iconst 1, 1) := by decide +kernel
theorem d_Mod_has_6 : decode prog_10_method_7_code 6 = .ok (.if_icmp .ne 7, 3) := by decide +kernel
theorem d_Mod_has_9 : decode prog_10_method_7_code 9 = .ok (.iconst 1, 1) := by decide +kernel
theorem d_Mod_has_10 : decode prog_10_method_7_code 10 = .ok (.goto 4, 3) := by decide +kernel
theorem d_Mod_has_13 : decode prog_10_method_7_code 13 = .ok (.iconst 0, 1) := by decide +kernel
theorem d_Mod_has_14 : decode prog_10_method_7_code 14 = .ok (.ireturn, 1) := by decide +kernel
theorem d_Mod_worth_0 : decode prog_10_method_21_code 0 = .ok (.aload_n 0, 1) := by decide +kernel
theorem d_Mod_worth_1 : decode prog_10_method_21_code 1 = .ok (.iload_n 1, 1) := by decide +kernel
theorem d_Mod_worth_2 : decode prog_10_method_21_code 2 = .ok (.invokevirtual 101, 3) := by decide +kernel
theorem d_Mod_worth_5 : decode prog_10_method_21_code 5 = .ok (.ifCond .eq 23, 3) := by decide +kernel
theorem d_Mod_worth_8 : decode prog_10_method_21_code 8 = .ok (.iload_n 2, 1) := by decide +kernel
theorem d_Mod_worth_9 : decode prog_10_method_21_code 9 = .ok (.invokestatic 86, 3) := by decide +kernel
theorem d_Mod_worth_12 : decode prog_10_method_21_code 12 = .ok (.ifCond .eq 16, 3) := by decide +kernel
theorem d_Mod_worth_15 : decode prog_10_method_21_code 15 = .ok (.aload_n 0, 1) := by decide +kernel
theorem d_Mod_worth_16 : decode prog_10_method_21_code 16 = .ok (.iload_n 1, 1) := by decide +kernel
theorem d_Mod_worth_17 : decode prog_10_method_21_code 17 = .ok (.iconst 1, 1) := by decide +kernel
theorem d_Mod_worth_18 : decode prog_10_method_21_code 18 = .ok (.invokestatic 72, 3) := by decide +kernel
theorem d_Mod_worth_21 : decode prog_10_method_21_code 21 = .ok (.iload_n 2, 1) := by decide +kernel
theorem d_Mod_worth_22 : decode prog_10_method_21_code 22 = .ok (.invokevirtual 79, 3) := by decide +kernel
theorem d_Mod_worth_25 : decode prog_10_method_21_code 25 = .ok (.goto 9, 3) := by decide +kernel
theorem d_Mod_worth_28 : decode prog_10_method_21_code 28 = .ok (.aload_n 0, 1) := by decide +kernel
theorem d_Mod_worth_29 : decode prog_10_method_21_code 29 = .ok (.ldc 63, 2) := by decide +kernel
theorem d_Mod_worth_31 : decode prog_10_method_21_code 31 = .ok (.invokevirtual 82, 3) := by decide +kernel
theorem d_Mod_worth_34 : decode prog_10_method_21_code 34 = .ok (.ireturn, 1) := by decide +kernel
theorem d_Mod_one_0 : decode prog_10_method_24_code 0 = .ok (.iload_n 1, 1) := by decide +kernel
theorem d_Mod_one_1 : decode prog_10_method_24_code 1 = .ok (.invokestatic 115, 3) := by decide +kernel
theorem d_Mod_one_4 : decode prog_10_method_24_code 4 = .ok (.ifCond .eq 12, 3) := by decide +kernel
theorem d_Mod_one_7 : decode prog_10_method_24_code 7 = .ok (.iload_n 2, 1) := by decide +kernel
theorem d_Mod_one_8 : decode prog_10_method_24_code 8 = .ok (.iconst 0, 1) := by decide +kernel
theorem d_Mod_one_9 : decode prog_10_method_24_code 9 = .ok (.iconst 1, 1) := by decide +kernel
theorem d_Mod_one_10 : decode prog_10_method_24_code 10 = .ok (.invokestatic 68, 3) := by decide +kernel
theorem d_Mod_one_13 : decode prog_10_method_24_code 13 = .ok (.ifCond .ne 10, 3) := by decide +kernel
theorem d_Mod_one_16 : decode prog_10_method_24_code 16 = .ok (.aload_n 0, 1) := by decide +kernel
theorem d_Mod_one_17 : decode prog_10_method_24_code 17 = .ok (.ldc 63, 2) := by decide +kernel
theorem d_Mod_one_19 : decode prog_10_method_24_code 19 = .ok (.invokevirtual 82, 3) := by decide +kernel
theorem d_Mod_one_22 : decode prog_10_method_24_code 22 = .ok (.ireturn, 1) := by decide +kernel
theorem d_Mod_one_23 : decode prog_10_method_24_code 23 = .ok (.aload_n 0, 1) := by decide +kernel
theorem d_Mod_one_24 : decode prog_10_method_24_code 24 = .ok (.getfield 9, 3) := by decide +kernel
theorem d_Mod_one_27 : decode prog_10_method_24_code 27 = .ok (.iconst 3, 1) := by decide +kernel
theorem d_Mod_one_28 : decode prog_10_method_24_code 28 = .ok (.iaload, 1) := by decide +kernel
theorem d_Mod_one_29 : decode prog_10_method_24_code 29 = .ok (.bipush 8, 2) := by decide +kernel
theorem d_Mod_one_31 : decode prog_10_method_24_code 31 = .ok (.if_icmp .ne 12, 3) := by decide +kernel
theorem d_Mod_one_34 : decode prog_10_method_24_code 34 = .ok (.aload_n 0, 1) := by decide +kernel
theorem d_Mod_one_35 : decode prog_10_method_24_code 35 = .ok (.ldc 90, 2) := by decide +kernel
theorem d_Mod_one_37 : decode prog_10_method_24_code 37 = .ok (.invokevirtual 82, 3) := by decide +kernel
theorem d_Mod_one_40 : decode prog_10_method_24_code 40 = .ok (.goto 13, 3) := by decide +kernel
theorem d_Mod_one_43 : decode prog_10_method_24_code 43 = .ok (.aload_n 0, 1) := by decide +kernel
theorem d_Mod_one_44 : decode prog_10_method_24_code 44 = .ok (.iload_n 1, 1) := by decide +kernel
theorem d_Mod_one_45 : decode prog_10_method_24_code 45 = .ok (.iload_n 2, 1) := by decide +kernel
theorem d_Mod_one_46 : decode prog_10_method_24_code 46 = .ok (.bipush 50, 2) := by decide +kernel
theorem d_Mod_one_48 : decode prog_10_method_24_code 48 = .ok (.iconst (-1), 1) := by decide +kernel
theorem d_Mod_one_49 : decode prog_10_method_24_code 49 = .ok (.iconst (-1), 1) := by decide +kernel
theorem d_Mod_one_50 : decode prog_10_method_24_code 50 = .ok (.invokevirtual 118, 3) := by decide +kernel
theorem d_Mod_one_53 : decode prog_10_method_24_code 53 = .ok (.ireturn, 1) := by decide +kernel
theorem d_Mod_isKind_0 : decode prog_10_method_22_code 0 = .ok (.iload_n 0, 1) := by decide +kernel
theorem d_Mod_isKind_1 : decode prog_10_method_22_code 1 = .ok (.iconst 0, 1) := by decide +kernel
theorem d_Mod_isKind_2 : decode prog_10_method_22_code 2 = .ok (.iconst 5, 1) := by decide +kernel
theorem d_Mod_isKind_3 : decode prog_10_method_22_code 3 = .ok (.invokestatic 68, 3) := by decide +kernel
theorem d_Mod_isKind_6 : decode prog_10_method_22_code 6 = .ok (.ireturn, 1) := by decide +kernel
theorem d_Mod_comes_0 : decode prog_10_method_23_code 0 = .ok (.aload_n 0, 1) := by decide +kernel
theorem d_Mod_comes_1 : decode prog_10_method_23_code 1 = .ok (.getfield 9, 3) := by decide +kernel
theorem d_Mod_comes_4 : decode prog_10_method_23_code 4 = .ok (.iconst 3, 1) := by decide +kernel
theorem d_Mod_comes_5 : decode prog_10_method_23_code 5 = .ok (.iaload, 1) := by decide +kernel
theorem d_Mod_comes_6 : decode prog_10_method_23_code 6 = .ok (.istore 6, 2) := by decide +kernel
theorem d_Mod_comes_8 : decode prog_10_method_23_code 8 = .ok (.aload_n 0, 1) := by decide +kernel
theorem d_Mod_comes_9 : decode prog_10_method_23_code 9 = .ok (.getfield 9, 3) := by decide +kernel
theorem d_Mod_comes_12 : decode prog_10_method_23_code 12 = .ok (.iload 6, 2) := by decide +kernel
theorem d_Mod_comes_14 : decode prog_10_method_23_code 14 = .ok (.iconst 0, 1) := by decide +kernel
theorem d_Mod_comes_15 : decode prog_10_method_23_code 15 = .ok (.invokestatic 76, 3) := by decide +kernel
theorem d_Mod_comes_18 : decode prog_10_method_23_code 18 = .ok (.iload_n 1, 1) := by decide +kernel
theorem d_Mod_comes_19 : decode prog_10_method_23_code 19 = .ok (.iastore, 1) := by decide +kernel
theorem d_Mod_comes_20 : decode prog_10_method_23_code 20 = .ok (.aload_n 0, 1) := by decide +kernel
theorem d_Mod_comes_21 : decode prog_10_method_23_code 21 = .ok (.getfield 9, 3) := by decide +kernel
theorem d_Mod_comes_24 : decode prog_10_method_23_code 24 = .ok (.iload 6, 2) := by decide +kernel
theorem d_Mod_comes_26 : decode prog_10_method_23_code 26 = .ok (.iconst 1, 1) := by decide +kernel
theorem d_Mod_comes_27 : decode prog_10_method_23_code 27 = .ok (.invokestatic 76, 3) := by decide +kernel
theorem d_Mod_comes_30 : decode prog_10_method_23_code 30 = .ok (.iload_n 2, 1) := by decide +kernel
theorem d_Mod_comes_31 : decode prog_10_method_23_code 31 = .ok (.iastore, 1) := by decide +kernel
theorem d_Mod_comes_32 : decode prog_10_method_23_code 32 = .ok (.aload_n 0, 1) := by decide +kernel
theorem d_Mod_comes_33 : decode prog_10_method_23_code 33 = .ok (.getfield 9, 3) := by decide +kernel
theorem d_Mod_comes_36 : decode prog_10_method_23_code 36 = .ok (.iload 6, 2) := by decide +kernel
theorem d_Mod_comes_38 : decode prog_10_method_23_code 38 = .ok (.iconst 2, 1) := by decide +kernel
theorem d_Mod_comes_39 : decode prog_10_method_23_code 39 = .ok (.invokestatic 76, 3) := by decide +kernel
theorem d_Mod_comes_42 : decode prog_10_method_23_code 42 = .ok (.iload_n 3, 1) := by decide +kernel
theorem d_Mod_comes_43 : decode prog_10_method_23_code 43 = .ok (.iastore, 1) := by decide +kernel
theorem d_Mod_comes_44 : decode prog_10_method_23_code 44 = .ok (.aload_n 0, 1) := by decide +kernel
theorem d_Mod_comes_45 : decode prog_10_method_23_code 45 = .ok (.getfield 9, 3) := by decide +kernel
theorem d_Mod_comes_48 : decode prog_10_method_23_code 48 = .ok (.iload 6, 2) := by decide +kernel
theorem d_Mod_comes_50 : decode prog_10_method_23_code 50 = .ok (.iconst 3, 1) := by decide +kernel
theorem d_Mod_comes_51 : decode prog_10_method_23_code 51 = .ok (.invokestatic 76, 3) := by decide +kernel
theorem d_Mod_comes_54 : decode prog_10_method_23_code 54 = .ok (.iload 4, 2) := by decide +kernel
theorem d_Mod_comes_56 : decode prog_10_method_23_code 56 = .ok (.iastore, 1) := by decide +kernel
theorem d_Mod_comes_57 : decode prog_10_method_23_code 57 = .ok (.aload_n 0, 1) := by decide +kernel
theorem d_Mod_comes_58 : decode prog_10_method_23_code 58 = .ok (.getfield 9, 3) := by decide +kernel
theorem d_Mod_comes_61 : decode prog_10_method_23_code 61 = .ok (.iload 6, 2) := by decide +kernel
theorem d_Mod_comes_63 : decode prog_10_method_23_code 63 = .ok (.iconst 4, 1) := by decide +kernel
theorem d_Mod_comes_64 : decode prog_10_method_23_code 64 = .ok (.invokestatic 76, 3) := by decide +kernel
theorem d_Mod_comes_67 : decode prog_10_method_23_code 67 = .ok (.iload 5, 2) := by decide +kernel
theorem d_Mod_comes_69 : decode prog_10_method_23_code 69 = .ok (.iastore, 1) := by decide +kernel
theorem d_Mod_comes_70 : decode prog_10_method_23_code 70 = .ok (.aload_n 0, 1) := by decide +kernel
theorem d_Mod_comes_71 : decode prog_10_method_23_code 71 = .ok (.getfield 9, 3) := by decide +kernel
theorem d_Mod_comes_74 : decode prog_10_method_23_code 74 = .ok (.iload 6, 2) := by decide +kernel
theorem d_Mod_comes_76 : decode prog_10_method_23_code 76 = .ok (.iconst 5, 1) := by decide +kernel
theorem d_Mod_comes_77 : decode prog_10_method_23_code 77 = .ok (.invokestatic 76, 3) := by decide +kernel
theorem d_Mod_comes_80 : decode prog_10_method_23_code 80 = .ok (.iconst 0, 1) := by decide +kernel
theorem d_Mod_comes_81 : decode prog_10_method_23_code 81 = .ok (.iastore, 1) := by decide +kernel
theorem d_Mod_comes_82 : decode prog_10_method_23_code 82 = .ok (.aload_n 0, 1) := by decide +kernel
theorem d_Mod_comes_83 : decode prog_10_method_23_code 83 = .ok (.getfield 9, 3) := by decide +kernel
theorem d_Mod_comes_86 : decode prog_10_method_23_code 86 = .ok (.iload 6, 2) := by decide +kernel
theorem d_Mod_comes_88 : decode prog_10_method_23_code 88 = .ok (.bipush 6, 2) := by decide +kernel
theorem d_Mod_comes_90 : decode prog_10_method_23_code 90 = .ok (.invokestatic 76, 3) := by decide +kernel
theorem d_Mod_comes_93 : decode prog_10_method_23_code 93 = .ok (.iconst 0, 1) := by decide +kernel
theorem d_Mod_comes_94 : decode prog_10_method_23_code 94 = .ok (.iastore, 1) := by decide +kernel
theorem d_Mod_comes_95 : decode prog_10_method_23_code 95 = .ok (.aload_n 0, 1) := by decide +kernel
theorem d_Mod_comes_96 : decode prog_10_method_23_code 96 = .ok (.getfield 9, 3) := by decide +kernel
theorem d_Mod_comes_99 : decode prog_10_method_23_code 99 = .ok (.iconst 3, 1) := by decide +kernel
theorem d_Mod_comes_100 : decode prog_10_method_23_code 100 = .ok (.dup2, 1) := by decide +kernel
theorem d_Mod_comes_101 : decode prog_10_method_23_code 101 = .ok (.iaload, 1) := by decide +kernel
theorem d_Mod_comes_102 : decode prog_10_method_23_code 102 = .ok (.iconst 1, 1) := by decide +kernel
theorem d_Mod_comes_103 : decode prog_10_method_23_code 103 = .ok (.iadd, 1) := by decide +kernel
theorem d_Mod_comes_104 : decode prog_10_method_23_code 104 = .ok (.iastore, 1) := by decide +kernel
theorem d_Mod_comes_105 : decode prog_10_method_23_code 105 = .ok (.iload 6, 2) := by decide +kernel
theorem d_Mod_comes_107 : decode prog_10_method_23_code 107 = .ok (.ireturn, 1) := by decide +kernel
theorem d_Mod_of_0 : decode prog_10_method_25_code 0 = .ok (.aload_n 0, 1) := by decide +kernel
theorem d_Mod_of_1 : decode prog_10_method_25_code 1 = .ok (.iload_n 1, 1) := by decide +kernel
theorem d_Mod_of_2 : decode prog_10_method_25_code 2 = .ok (.invokevirtual 122, 3) := by decide +kernel
theorem d_Mod_of_5 : decode prog_10_method_25_code 5 = .ok (.ifCond .eq 22, 3) := by decide +kernel
theorem d_Mod_of_8 : decode prog_10_method_25_code 8 = .ok (.iload_n 2, 1) := by decide +kernel
theorem d_Mod_of_9 : decode prog_10_method_25_code 9 = .ok (.iconst 0, 1) := by decide +kernel
theorem d_Mod_of_10 : decode prog_10_method_25_code 10 = .ok (.bipush 6, 2) := by decide +kernel
theorem d_Mod_of_12 : decode prog_10_method_25_code 12 = .ok (.invokestatic 68, 3) := by decide +kernel
theorem d_Mod_of_15 : decode prog_10_method_25_code 15 = .ok (.ifCond .eq 12, 3) := by decide +kernel
theorem d_Mod_of_18 : decode prog_10_method_25_code 18 = .ok (.aload_n 0, 1) := by decide +kernel
theorem d_Mod_of_19 : decode prog_10_method_25_code 19 = .ok (.iload_n 1, 1) := by decide +kernel
theorem d_Mod_of_20 : decode prog_10_method_25_code 20 = .ok (.iload_n 2, 1) := by decide +kernel
theorem d_Mod_of_21 : decode prog_10_method_25_code 21 = .ok (.invokevirtual 94, 3) := by decide +kernel
theorem d_Mod_of_24 : decode prog_10_method_25_code 24 = .ok (.goto 9, 3) := by decide +kernel
theorem d_Mod_of_27 : decode prog_10_method_25_code 27 = .ok (.aload_n 0, 1) := by decide +kernel
theorem d_Mod_of_28 : decode prog_10_method_25_code 28 = .ok (.ldc 63, 2) := by decide +kernel
theorem d_Mod_of_30 : decode prog_10_method_25_code 30 = .ok (.invokevirtual 82, 3) := by decide +kernel
theorem d_Mod_of_33 : decode prog_10_method_25_code 33 = .ok (.ireturn, 1) := by decide +kernel
theorem d_Mod_isOne_0 : decode prog_10_method_10_code 0 = .ok (.iload_n 1, 1) := by decide +kernel
theorem d_Mod_isOne_1 : decode prog_10_method_10_code 1 = .ok (.iconst 0, 1) := by decide +kernel
theorem d_Mod_isOne_2 : decode prog_10_method_10_code 2 = .ok (.aload_n 0, 1) := by decide +kernel
theorem d_Mod_isOne_3 : decode prog_10_method_10_code 3 = .ok (.getfield 9, 3) := by decide +kernel
theorem d_Mod_isOne_6 : decode prog_10_method_10_code 6 = .ok (.iconst 3, 1) := by decide +kernel
theorem d_Mod_isOne_7 : decode prog_10_method_10_code 7 = .ok (.iaload, 1) := by decide +kernel
theorem d_Mod_isOne_8 : decode prog_10_method_10_code 8 = .ok (.iconst 1, 1) := by decide +kernel
theorem d_Mod_isOne_9 : decode prog_10_method_10_code 9 = .ok (.isub, 1) := by decide +kernel
theorem d_Mod_isOne_10 : decode prog_10_method_10_code 10 = .ok (.invokestatic 68, 3) := by decide +kernel
theorem d_Mod_isOne_13 : decode prog_10_method_10_code 13 = .ok (.ireturn, 1) := by decide +kernel
theorem d_Mod_set_0 : decode prog_10_method_27_code 0 = .ok (.aload_n 0, 1) := by decide +kernel
theorem d_Mod_set_1 : decode prog_10_method_27_code 1 = .ok (.iload_n 1, 1) := by decide +kernel
theorem d_Mod_set_2 : decode prog_10_method_27_code 2 = .ok (.invokevirtual 122, 3) := by decide +kernel
theorem d_Mod_set_5 : decode prog_10_method_27_code 5 = .ok (.ifCond .eq 25, 3) := by decide +kernel
theorem d_Mod_set_8 : decode prog_10_method_27_code 8 = .ok (.aload_n 0, 1) := by decide +kernel
theorem d_Mod_set_9 : decode prog_10_method_27_code 9 = .ok (.iload_n 2, 1) := by decide +kernel
theorem d_Mod_set_10 : decode prog_10_method_27_code 10 = .ok (.iload_n 3, 1) := by decide +kernel
theorem d_Mod_set_11 : decode prog_10_method_27_code 11 = .ok (.invokevirtual 125, 3) := by decide +kernel
theorem d_Mod_set_14 : decode prog_10_method_27_code 14 = .ok (.ifCond .eq 16, 3) := by decide +kernel
theorem d_Mod_set_17 : decode prog_10_method_27_code 17 = .ok (.aload_n 0, 1) := by decide +kernel
theorem d_Mod_set_18 : decode prog_10_method_27_code 18 = .ok (.iload_n 1, 1) := by decide +kernel
theorem d_Mod_set_19 : decode prog_10_method_27_code 19 = .ok (.iload_n 2, 1) := by decide +kernel
theorem d_Mod_set_20 : decode prog_10_method_27_code 20 = .ok (.invokestatic 76, 3) := by decide +kernel
theorem d_Mod_set_23 : decode prog_10_method_27_code 23 = .ok (.iload_n 3, 1) := by decide +kernel
theorem d_Mod_set_24 : decode prog_10_method_27_code 24 = .ok (.invokevirtual 79, 3) := by decide +kernel
theorem d_Mod_set_27 : decode prog_10_method_27_code 27 = .ok (.goto 9, 3) := by decide +kernel
theorem d_Mod_set_30 : decode prog_10_method_27_code 30 = .ok (.aload_n 0, 1) := by decide +kernel
theorem d_Mod_set_31 : decode prog_10_method_27_code 31 = .ok (.ldc 63, 2) := by decide +kernel
theorem d_Mod_set_33 : decode prog_10_method_27_code 33 = .ok (.invokevirtual 82, 3) := by decide +kernel
theorem d_Mod_set_36 : decode prog_10_method_27_code 36 = .ok (.ireturn, 1) := by decide +kernel
theorem d_Mod_maySet_0 : decode prog_10_method_26_code 0 = .ok (.iload_n 1, 1) := by decide +kernel
theorem d_Mod_maySet_1 : decode prog_10_method_26_code 1 = .ok (.tableswitch 79 1 6 #[39, 46, 55, 55, 79, 63], 39) := by decide +kernel
theorem d_Mod_maySet_40 : decode prog_10_method_26_code 40 = .ok (.iload_n 2, 1) := by decide +kernel
theorem d_Mod_maySet_41 : decode prog_10_method_26_code 41 = .ok (.iconst 0, 1) := by decide +kernel
theorem d_Mod_maySet_42 : decode prog_10_method_26_code 42 = .ok (.iconst 1, 1) := by decide +kernel
theorem d_Mod_maySet_43 : decode prog_10_method_26_code 43 = .ok (.invokestatic 68, 3) := by decide +kernel
theorem d_Mod_maySet_46 : decode prog_10_method_26_code 46 = .ok (.ireturn, 1) := by decide +kernel
theorem d_Mod_maySet_47 : decode prog_10_method_26_code 47 = .ok (.iload_n 2, 1) := by decide +kernel
theorem d_Mod_maySet_48 : decode prog_10_method_26_code 48 = .ok (.iconst 0, 1) := by decide +kernel
theorem d_Mod_maySet_49 : decode prog_10_method_26_code 49 = .ok (.sipush 9999, 3) := by decide +kernel
theorem d_Mod_maySet_52 : decode prog_10_method_26_code 52 = .ok (.invokestatic 68, 3) := by decide +kernel
theorem d_Mod_maySet_55 : decode prog_10_method_26_code 55 = .ok (.ireturn, 1) := by decide +kernel
theorem d_Mod_maySet_56 : decode prog_10_method_26_code 56 = .ok (.iload_n 2, 1) := by decide +kernel
theorem d_Mod_maySet_57 : decode prog_10_method_26_code 57 = .ok (.iconst (-1), 1) := by decide +kernel
theorem d_Mod_maySet_58 : decode prog_10_method_26_code 58 = .ok (.bipush 23, 2) := by decide +kernel
theorem d_Mod_maySet_60 : decode prog_10_method_26_code 60 = .ok (.invokestatic 68, 3) := by decide +kernel
theorem d_Mod_maySet_63 : decode prog_10_method_26_code 63 = .ok (.ireturn, 1) := by decide +kernel
theorem d_Mod_maySet_64 : decode prog_10_method_26_code 64 = .ok (.iload_n 2, 1) := by decide +kernel
theorem d_Mod_maySet_65 : decode prog_10_method_26_code 65 = .ok (.iconst 0, 1) := by decide +kernel
theorem d_Mod_maySet_66 : decode prog_10_method_26_code 66 = .ok (.iconst 1, 1) := by decide +kernel
theorem d_Mod_maySet_67 : decode prog_10_method_26_code 67 = .ok (.aload_n 0, 1) := by decide +kernel
theorem d_Mod_maySet_68 : decode prog_10_method_26_code 68 = .ok (.getfield 9, 3) := by decide +kernel
theorem d_Mod_maySet_71 : decode prog_10_method_26_code 71 = .ok (.iconst 2, 1) := by decide +kernel
theorem d_Mod_maySet_72 : decode prog_10_method_26_code 72 = .ok (.iaload, 1) := by decide +kernel
theorem d_Mod_maySet_73 : decode prog_10_method_26_code 73 = .ok (.ishl, 1) := by decide +kernel
theorem d_Mod_maySet_74 : decode prog_10_method_26_code 74 = .ok (.iconst 1, 1) := by decide +kernel
theorem d_Mod_maySet_75 : decode prog_10_method_26_code 75 = .ok (.isub, 1) := by decide +kernel
theorem d_Mod_maySet_76 : decode prog_10_method_26_code 76 = .ok (.invokestatic 68, 3) := by decide +kernel
theorem d_Mod_maySet_79 : decode prog_10_method_26_code 79 = .ok (.ireturn, 1) := by decide +kernel
theorem d_Mod_maySet_80 : decode prog_10_method_26_code 80 = .ok (.iconst 0, 1) := by decide +kernel
theorem d_Mod_maySet_81 : decode prog_10_method_26_code 81 = .ok (.ireturn, 1) := by decide +kernel
theorem d_Mod_turn_0 : decode prog_10_method_28_code 0 = .ok (.aload_n 0, 1) := by decide +kernel
theorem d_Mod_turn_1 : decode prog_10_method_28_code 1 = .ok (.iload_n 1, 1) := by decide +kernel
theorem d_Mod_turn_2 : decode prog_10_method_28_code 2 = .ok (.invokevirtual 122, 3) := by decide +kernel
theorem d_Mod_turn_5 : decode prog_10_method_28_code 5 = .ok (.ifCond .eq 23, 3) := by decide +kernel
theorem d_Mod_turn_8 : decode prog_10_method_28_code 8 = .ok (.iload_n 2, 1) := by decide +kernel
theorem d_Mod_turn_9 : decode prog_10_method_28_code 9 = .ok (.invokestatic 115, 3) := by decide +kernel
theorem d_Mod_turn_12 : decode prog_10_method_28_code 12 = .ok (.ifCond .eq 16, 3) := by decide +kernel
theorem d_Mod_turn_15 : decode prog_10_method_28_code 15 = .ok (.aload_n 0, 1) := by decide +kernel
theorem d_Mod_turn_16 : decode prog_10_method_28_code 16 = .ok (.iload_n 1, 1) := by decide +kernel
theorem d_Mod_turn_17 : decode prog_10_method_28_code 17 = .ok (.iconst 0, 1) := by decide +kernel
theorem d_Mod_turn_18 : decode prog_10_method_28_code 18 = .ok (.invokestatic 76, 3) := by decide +kernel
theorem d_Mod_turn_21 : decode prog_10_method_28_code 21 = .ok (.iload_n 2, 1) := by decide +kernel
theorem d_Mod_turn_22 : decode prog_10_method_28_code 22 = .ok (.invokevirtual 79, 3) := by decide +kernel
theorem d_Mod_turn_25 : decode prog_10_method_28_code 25 = .ok (.goto 9, 3) := by decide +kernel
theorem d_Mod_turn_28 : decode prog_10_method_28_code 28 = .ok (.aload_n 0, 1) := by decide +kernel
theorem d_Mod_turn_29 : decode prog_10_method_28_code 29 = .ok (.ldc 63, 2) := by decide +kernel
theorem d_Mod_turn_31 : decode prog_10_method_28_code 31 = .ok (.invokevirtual 82, 3) := by decide +kernel
theorem d_Mod_turn_34 : decode prog_10_method_28_code 34 = .ok (.ireturn, 1) := by decide +kernel
theorem d_Mod_as_0 : decode prog_10_method_31_code 0 = .ok (.aload_n 0, 1) := by decide +kernel
theorem d_Mod_as_1 : decode prog_10_method_31_code 1 = .ok (.iload_n 1, 1) := by decide +kernel
theorem d_Mod_as_2 : decode prog_10_method_31_code 2 = .ok (.invokevirtual 122, 3) := by decide +kernel
theorem d_Mod_as_5 : decode prog_10_method_31_code 5 = .ok (.ifCond .eq 10, 3) := by decide +kernel
theorem d_Mod_as_8 : decode prog_10_method_31_code 8 = .ok (.iload_n 2, 1) := by decide +kernel
theorem d_Mod_as_9 : decode prog_10_method_31_code 9 = .ok (.invokestatic 115, 3) := by decide +kernel
theorem d_Mod_as_12 : decode prog_10_method_31_code 12 = .ok (.ifCond .ne 10, 3) := by decide +kernel
theorem d_Mod_as_15 : decode prog_10_method_31_code 15 = .ok (.aload_n 0, 1) := by decide +kernel
theorem d_Mod_as_16 : decode prog_10_method_31_code 16 = .ok (.ldc 63, 2) := by decide +kernel
theorem d_Mod_as_18 : decode prog_10_method_31_code 18 = .ok (.invokevirtual 82, 3) := by decide +kernel
theorem d_Mod_as_21 : decode prog_10_method_31_code 21 = .ok (.ireturn, 1) := by decide +kernel
theorem d_Mod_as_22 : decode prog_10_method_31_code 22 = .ok (.aload_n 0, 1) := by decide +kernel
theorem d_Mod_as_23 : decode prog_10_method_31_code 23 = .ok (.iload_n 1, 1) := by decide +kernel
theorem d_Mod_as_24 : decode prog_10_method_31_code 24 = .ok (.iconst 0, 1) := by decide +kernel
theorem d_Mod_as_25 : decode prog_10_method_31_code 25 = .ok (.invokevirtual 94, 3) := by decide +kernel
theorem d_Mod_as_28 : decode prog_10_method_31_code 28 = .ok (.iload_n 2, 1) := by decide +kernel
theorem d_Mod_as_29 : decode prog_10_method_31_code 29 = .ok (.invokestatic 131, 3) := by decide +kernel
theorem d_Mod_as_32 : decode prog_10_method_31_code 32 = .ok (.ifCond .eq 12, 3) := by decide +kernel
theorem d_Mod_as_35 : decode prog_10_method_31_code 35 = .ok (.aload_n 0, 1) := by decide +kernel
theorem d_Mod_as_36 : decode prog_10_method_31_code 36 = .ok (.iload_n 1, 1) := by decide +kernel
theorem d_Mod_as_37 : decode prog_10_method_31_code 37 = .ok (.iconst 2, 1) := by decide +kernel
theorem d_Mod_as_38 : decode prog_10_method_31_code 38 = .ok (.invokevirtual 94, 3) := by decide +kernel
theorem d_Mod_as_41 : decode prog_10_method_31_code 41 = .ok (.goto 9, 3) := by decide +kernel
theorem d_Mod_as_44 : decode prog_10_method_31_code 44 = .ok (.aload_n 0, 1) := by decide +kernel
theorem d_Mod_as_45 : decode prog_10_method_31_code 45 = .ok (.ldc 134, 2) := by decide +kernel
theorem d_Mod_as_47 : decode prog_10_method_31_code 47 = .ok (.invokevirtual 82, 3) := by decide +kernel
theorem d_Mod_as_50 : decode prog_10_method_31_code 50 = .ok (.ireturn, 1) := by decide +kernel
theorem d_Mod_isUnder_0 : decode prog_10_method_30_code 0 = .ok (.iload_n 0, 1) := by decide +kernel
theorem d_Mod_isUnder_1 : decode prog_10_method_30_code 1 = .ok (.istore_n 2, 1) := by decide +kernel
theorem d_Mod_isUnder_2 : decode prog_10_method_30_code 2 = .ok (.iload_n 2, 1) := by decide +kernel
theorem d_Mod_isUnder_3 : decode prog_10_method_30_code 3 = .ok (.ifCond .lt 16, 3) := by decide +kernel
theorem d_Mod_isUnder_6 : decode prog_10_method_30_code 6 = .ok (.iload_n 2, 1) := by decide +kernel
theorem d_Mod_isUnder_7 : decode prog_10_method_30_code 7 = .ok (.iload_n 1, 1) := by decide +kernel
theorem d_Mod_isUnder_8 : decode prog_10_method_30_code 8 = .ok (.if_icmp .eq 11, 3) := by decide +kernel
theorem d_Mod_isUnder_11 : decode prog_10_method_30_code 11 = .ok (.iload_n 2, 1) := by decide +kernel
theorem d_Mod_isUnder_12 : decode prog_10_method_30_code 12 = .ok (.invokestatic 128, 3) := by decide +kernel
theorem d_Mod_isUnder_15 : decode prog_10_method_30_code 15 = .ok (.istore_n 2, 1) := by decide +kernel
theorem d_Mod_isUnder_16 : decode prog_10_method_30_code 16 = .ok (.goto (-14), 3) := by decide +kernel
theorem d_Mod_isUnder_19 : decode prog_10_method_30_code 19 = .ok (.iload_n 2, 1) := by decide +kernel
theorem d_Mod_isUnder_20 : decode prog_10_method_30_code 20 = .ok (.ifCond .lt 7, 3) := by decide +kernel
theorem d_Mod_isUnder_23 : decode prog_10_method_30_code 23 = .ok (.iconst 1, 1) := by decide +kernel
theorem d_Mod_isUnder_24 : decode prog_10_method_30_code 24 = .ok (.goto 4, 3) := by decide +kernel
theorem d_Mod_isUnder_27 : decode prog_10_method_30_code 27 = .ok (.iconst 0, 1) := by decide +kernel
theorem d_Mod_isUnder_28 : decode prog_10_method_30_code 28 = .ok (.ireturn, 1) := by decide +kernel
theorem d_Mod_above_0 : decode prog_10_method_29_code 0 = .ok (.iload_n 0, 1) := by decide +kernel
theorem d_Mod_above_1 : decode prog_10_method_29_code 1 = .ok (.ifCond .ne 7, 3) := by decide +kernel
theorem d_Mod_above_4 : decode prog_10_method_29_code 4 = .ok (.iconst (-1), 1) := by decide +kernel
theorem d_Mod_above_5 : decode prog_10_method_29_code 5 = .ok (.goto 22, 3) := by decide +kernel
theorem d_Mod_above_8 : decode prog_10_method_29_code 8 = .ok (.iload_n 0, 1) := by decide +kernel
theorem d_Mod_above_9 : decode prog_10_method_29_code 9 = .ok (.iconst 4, 1) := by decide +kernel
theorem d_Mod_above_10 : decode prog_10_method_29_code 10 = .ok (.if_icmp .ne 7, 3) := by decide +kernel
theorem d_Mod_above_13 : decode prog_10_method_29_code 13 = .ok (.iconst 3, 1) := by decide +kernel
theorem d_Mod_above_14 : decode prog_10_method_29_code 14 = .ok (.goto 13, 3) := by decide +kernel
theorem d_Mod_above_17 : decode prog_10_method_29_code 17 = .ok (.iload_n 0, 1) := by decide +kernel
theorem d_Mod_above_18 : decode prog_10_method_29_code 18 = .ok (.iconst 5, 1) := by decide +kernel
theorem d_Mod_above_19 : decode prog_10_method_29_code 19 = .ok (.if_icmp .ne 7, 3) := by decide +kernel
theorem d_Mod_above_22 : decode prog_10_method_29_code 22 = .ok (.iconst 2, 1) := by decide +kernel
theorem d_Mod_above_23 : decode prog_10_method_29_code 23 = .ok (.goto 4, 3) := by decide +kernel
theorem d_Mod_above_26 : decode prog_10_method_29_code 26 = .ok (.iconst 0, 1) := by decide +kernel
theorem d_Mod_above_27 : decode prog_10_method_29_code 27 = .ok (.ireturn, 1) := by decide +kernel
theorem d_Mod_gains_0 : decode prog_10_method_33_code 0 = .ok (.aload_n 0, 1) := by decide +kernel
theorem d_Mod_gains_1 : decode prog_10_method_33_code 1 = .ok (.iload_n 1, 1) := by decide +kernel
theorem d_Mod_gains_2 : decode prog_10_method_33_code 2 = .ok (.invokevirtual 122, 3) := by decide +kernel
theorem d_Mod_gains_5 : decode prog_10_method_33_code 5 = .ok (.ifCond .eq 42, 3) := by decide +kernel
theorem d_Mod_gains_8 : decode prog_10_method_33_code 8 = .ok (.iload_n 2, 1) := by decide +kernel
theorem d_Mod_gains_9 : decode prog_10_method_33_code 9 = .ok (.invokestatic 86, 3) := by decide +kernel
theorem d_Mod_gains_12 : decode prog_10_method_33_code 12 = .ok (.ifCond .eq 35, 3) := by decide +kernel
theorem d_Mod_gains_15 : decode prog_10_method_33_code 15 = .ok (.iload_n 3, 1) := by decide +kernel
theorem d_Mod_gains_16 : decode prog_10_method_33_code 16 = .ok (.iconst 0, 1) := by decide +kernel
theorem d_Mod_gains_17 : decode prog_10_method_33_code 17 = .ok (.iconst 1, 1) := by decide +kernel
theorem d_Mod_gains_18 : decode prog_10_method_33_code 18 = .ok (.invokestatic 68, 3) := by decide +kernel
theorem d_Mod_gains_21 : decode prog_10_method_33_code 21 = .ok (.ifCond .eq 26, 3) := by decide +kernel
theorem d_Mod_gains_24 : decode prog_10_method_33_code 24 = .ok (.aload_n 0, 1) := by decide +kernel
theorem d_Mod_gains_25 : decode prog_10_method_33_code 25 = .ok (.iload_n 1, 1) := by decide +kernel
theorem d_Mod_gains_26 : decode prog_10_method_33_code 26 = .ok (.iconst 0, 1) := by decide +kernel
theorem d_Mod_gains_27 : decode prog_10_method_33_code 27 = .ok (.invokevirtual 94, 3) := by decide +kernel
theorem d_Mod_gains_30 : decode prog_10_method_33_code 30 = .ok (.iload_n 2, 1) := by decide +kernel
theorem d_Mod_gains_31 : decode prog_10_method_33_code 31 = .ok (.iload_n 3, 1) := by decide +kernel
theorem d_Mod_gains_32 : decode prog_10_method_33_code 32 = .ok (.iconst 1, 1) := by decide +kernel
theorem d_Mod_gains_33 : decode prog_10_method_33_code 33 = .ok (.if_icmp .ne 7, 3) := by decide +kernel
theorem d_Mod_gains_36 : decode prog_10_method_33_code 36 = .ok (.iconst 1, 1) := by decide +kernel
theorem d_Mod_gains_37 : decode prog_10_method_33_code 37 = .ok (.goto 4, 3) := by decide +kernel
theorem d_Mod_gains_40 : decode prog_10_method_33_code 40 = .ok (.iconst 0, 1) := by decide +kernel
theorem d_Mod_gains_41 : decode prog_10_method_33_code 41 = .ok (.invokestatic 135, 3) := by decide +kernel
theorem d_Mod_gains_44 : decode prog_10_method_33_code 44 = .ok (.goto 9, 3) := by decide +kernel
theorem d_Mod_gains_47 : decode prog_10_method_33_code 47 = .ok (.aload_n 0, 1) := by decide +kernel
theorem d_Mod_gains_48 : decode prog_10_method_33_code 48 = .ok (.ldc 63, 2) := by decide +kernel
theorem d_Mod_gains_50 : decode prog_10_method_33_code 50 = .ok (.invokevirtual 82, 3) := by decide +kernel
theorem d_Mod_gains_53 : decode prog_10_method_33_code 53 = .ok (.ireturn, 1) := by decide +kernel
theorem d_Mod_gainsOf_0 : decode prog_10_method_32_code 0 = .ok (.iload_n 2, 1) := by decide +kernel
theorem d_Mod_gainsOf_1 : decode prog_10_method_32_code 1 = .ok (.ifCond .eq 13, 3) := by decide +kernel
theorem d_Mod_gainsOf_4 : decode prog_10_method_32_code 4 = .ok (.iconst 0, 1) := by decide +kernel
theorem d_Mod_gainsOf_5 : decode prog_10_method_32_code 5 = .ok (.iconst 2, 1) := by decide +kernel
theorem d_Mod_gainsOf_6 : decode prog_10_method_32_code 6 = .ok (.iload_n 1, 1) := by decide +kernel
theorem d_Mod_gainsOf_7 : decode prog_10_method_32_code 7 = .ok (.imul, 1) := by decide +kernel
theorem d_Mod_gainsOf_8 : decode prog_10_method_32_code 8 = .ok (.invokestatic 110, 3) := by decide +kernel
theorem d_Mod_gainsOf_11 : decode prog_10_method_32_code 11 = .ok (.goto 4, 3) := by decide +kernel
theorem d_Mod_gainsOf_14 : decode prog_10_method_32_code 14 = .ok (.iload_n 1, 1) := by decide +kernel
theorem d_Mod_gainsOf_15 : decode prog_10_method_32_code 15 = .ok (.istore_n 3, 1) := by decide +kernel
theorem d_Mod_gainsOf_16 : decode prog_10_method_32_code 16 = .ok (.iload_n 2, 1) := by decide +kernel
theorem d_Mod_gainsOf_17 : decode prog_10_method_32_code 17 = .ok (.ifCond .eq 9, 3) := by decide +kernel
theorem d_Mod_gainsOf_20 : decode prog_10_method_32_code 20 = .ok (.iload_n 3, 1) := by decide +kernel
theorem d_Mod_gainsOf_21 : decode prog_10_method_32_code 21 = .ok (.iconst 1, 1) := by decide +kernel
theorem d_Mod_gainsOf_22 : decode prog_10_method_32_code 22 = .ok (.isub, 1) := by decide +kernel
theorem d_Mod_gainsOf_23 : decode prog_10_method_32_code 23 = .ok (.goto 6, 3) := by decide +kernel
theorem d_Mod_gainsOf_26 : decode prog_10_method_32_code 26 = .ok (.iload_n 3, 1) := by decide +kernel
theorem d_Mod_gainsOf_27 : decode prog_10_method_32_code 27 = .ok (.iconst 2, 1) := by decide +kernel
theorem d_Mod_gainsOf_28 : decode prog_10_method_32_code 28 = .ok (.idiv, 1) := by decide +kernel
theorem d_Mod_gainsOf_29 : decode prog_10_method_32_code 29 = .ok (.istore 4, 2) := by decide +kernel
theorem d_Mod_gainsOf_31 : decode prog_10_method_32_code 31 = .ok (.iload_n 0, 1) := by decide +kernel
theorem d_Mod_gainsOf_32 : decode prog_10_method_32_code 32 = .ok (.tableswitch 67 1 5 #[36, 50, 67, 67, 53], 36) := by decide +kernel
theorem d_Mod_gainsOf_68 : decode prog_10_method_32_code 68 = .ok (.iload_n 2, 1) := by decide +kernel
theorem d_Mod_gainsOf_69 : decode prog_10_method_32_code 69 = .ok (.ifCond .eq 7, 3) := by decide +kernel
theorem d_Mod_gainsOf_72 : decode prog_10_method_32_code 72 = .ok (.iload_n 3, 1) := by decide +kernel
theorem d_Mod_gainsOf_73 : decode prog_10_method_32_code 73 = .ok (.goto 8, 3) := by decide +kernel
theorem d_Mod_gainsOf_76 : decode prog_10_method_32_code 76 = .ok (.iload_n 3, 1) := by decide +kernel
theorem d_Mod_gainsOf_77 : decode prog_10_method_32_code 77 = .ok (.iload_n 3, 1) := by decide +kernel
theorem d_Mod_gainsOf_78 : decode prog_10_method_32_code 78 = .ok (.iconst 2, 1) := by decide +kernel
theorem d_Mod_gainsOf_79 : decode prog_10_method_32_code 79 = .ok (.idiv, 1) := by decide +kernel
theorem d_Mod_gainsOf_80 : decode prog_10_method_32_code 80 = .ok (.iadd, 1) := by decide +kernel
theorem d_Mod_gainsOf_81 : decode prog_10_method_32_code 81 = .ok (.ireturn, 1) := by decide +kernel
theorem d_Mod_gainsOf_82 : decode prog_10_method_32_code 82 = .ok (.iload 4, 2) := by decide +kernel
theorem d_Mod_gainsOf_84 : decode prog_10_method_32_code 84 = .ok (.ireturn, 1) := by decide +kernel
theorem d_Mod_gainsOf_85 : decode prog_10_method_32_code 85 = .ok (.iload 4, 2) := by decide +kernel
theorem d_Mod_gainsOf_87 : decode prog_10_method_32_code 87 = .ok (.iload_n 2, 1) := by decide +kernel
theorem d_Mod_gainsOf_88 : decode prog_10_method_32_code 88 = .ok (.ifCond .eq 8, 3) := by decide +kernel
theorem d_Mod_gainsOf_91 : decode prog_10_method_32_code 91 = .ok (.bipush 10, 2) := by decide +kernel
theorem d_Mod_gainsOf_93 : decode prog_10_method_32_code 93 = .ok (.goto 4, 3) := by decide +kernel
theorem d_Mod_gainsOf_96 : decode prog_10_method_32_code 96 = .ok (.iconst 3, 1) := by decide +kernel
theorem d_Mod_gainsOf_97 : decode prog_10_method_32_code 97 = .ok (.iadd, 1) := by decide +kernel
theorem d_Mod_gainsOf_98 : decode prog_10_method_32_code 98 = .ok (.ireturn, 1) := by decide +kernel
theorem d_Mod_gainsOf_99 : decode prog_10_method_32_code 99 = .ok (.iload_n 3, 1) := by decide +kernel
theorem d_Mod_gainsOf_100 : decode prog_10_method_32_code 100 = .ok (.ireturn, 1) := by decide +kernel
theorem d_Mod_cross_0 : decode prog_10_method_37_code 0 = .ok (.aload_n 0, 1) := by decide +kernel
theorem d_Mod_cross_1 : decode prog_10_method_37_code 1 = .ok (.iload_n 1, 1) := by decide +kernel
theorem d_Mod_cross_2 : decode prog_10_method_37_code 2 = .ok (.invokevirtual 122, 3) := by decide +kernel
theorem d_Mod_cross_5 : decode prog_10_method_37_code 5 = .ok (.ifCond .ne 10, 3) := by decide +kernel
theorem d_Mod_cross_8 : decode prog_10_method_37_code 8 = .ok (.aload_n 0, 1) := by decide +kernel
theorem d_Mod_cross_9 : decode prog_10_method_37_code 9 = .ok (.ldc 63, 2) := by decide +kernel
theorem d_Mod_cross_11 : decode prog_10_method_37_code 11 = .ok (.invokevirtual 82, 3) := by decide +kernel
theorem d_Mod_cross_14 : decode prog_10_method_37_code 14 = .ok (.ireturn, 1) := by decide +kernel
theorem d_Mod_cross_15 : decode prog_10_method_37_code 15 = .ok (.aload_n 0, 1) := by decide +kernel
theorem d_Mod_cross_16 : decode prog_10_method_37_code 16 = .ok (.iload_n 1, 1) := by decide +kernel
theorem d_Mod_cross_17 : decode prog_10_method_37_code 17 = .ok (.invokevirtual 146, 3) := by decide +kernel
theorem d_Mod_cross_20 : decode prog_10_method_37_code 20 = .ok (.ifCond .ne 10, 3) := by decide +kernel
theorem d_Mod_cross_23 : decode prog_10_method_37_code 23 = .ok (.aload_n 0, 1) := by decide +kernel
theorem d_Mod_cross_24 : decode prog_10_method_37_code 24 = .ok (.ldc 149, 2) := by decide +kernel
theorem d_Mod_cross_26 : decode prog_10_method_37_code 26 = .ok (.invokevirtual 82, 3) := by decide +kernel
theorem d_Mod_cross_29 : decode prog_10_method_37_code 29 = .ok (.ireturn, 1) := by decide +kernel
theorem d_Mod_cross_30 : decode prog_10_method_37_code 30 = .ok (.aload_n 0, 1) := by decide +kernel
theorem d_Mod_cross_31 : decode prog_10_method_37_code 31 = .ok (.iload_n 1, 1) := by decide +kernel
theorem d_Mod_cross_32 : decode prog_10_method_37_code 32 = .ok (.invokevirtual 150, 3) := by decide +kernel
theorem d_Mod_cross_35 : decode prog_10_method_37_code 35 = .ok (.aload_n 0, 1) := by decide +kernel
theorem d_Mod_cross_36 : decode prog_10_method_37_code 36 = .ok (.iload_n 1, 1) := by decide +kernel
theorem d_Mod_cross_37 : decode prog_10_method_37_code 37 = .ok (.iconst 1, 1) := by decide +kernel
theorem d_Mod_cross_38 : decode prog_10_method_37_code 38 = .ok (.invokevirtual 94, 3) := by decide +kernel
theorem d_Mod_cross_41 : decode prog_10_method_37_code 41 = .ok (.ireturn, 1) := by decide +kernel
theorem d_Mod_canPay_0 : decode prog_10_method_36_code 0 = .ok (.aload_n 0, 1) := by decide +kernel
theorem d_Mod_canPay_1 : decode prog_10_method_36_code 1 = .ok (.iload_n 1, 1) := by decide +kernel
theorem d_Mod_canPay_2 : decode prog_10_method_36_code 2 = .ok (.iconst 2, 1) := by decide +kernel
theorem d_Mod_canPay_3 : decode prog_10_method_36_code 3 = .ok (.invokevirtual 94, 3) := by decide +kernel
theorem d_Mod_canPay_6 : decode prog_10_method_36_code 6 = .ok (.aload_n 0, 1) := by decide +kernel
theorem d_Mod_canPay_7 : decode prog_10_method_36_code 7 = .ok (.getfield 9, 3) := by decide +kernel
theorem d_Mod_canPay_10 : decode prog_10_method_36_code 10 = .ok (.iconst 1, 1) := by decide +kernel
theorem d_Mod_canPay_11 : decode prog_10_method_36_code 11 = .ok (.iaload, 1) := by decide +kernel
theorem d_Mod_canPay_12 : decode prog_10_method_36_code 12 = .ok (.if_icmp .lt 7, 3) := by decide +kernel
theorem d_Mod_canPay_15 : decode prog_10_method_36_code 15 = .ok (.iconst 1, 1) := by decide +kernel
theorem d_Mod_canPay_16 : decode prog_10_method_36_code 16 = .ok (.goto 4, 3) := by decide +kernel
theorem d_Mod_canPay_19 : decode prog_10_method_36_code 19 = .ok (.iconst 0, 1) := by decide +kernel
theorem d_Mod_canPay_20 : decode prog_10_method_36_code 20 = .ok (.ireturn, 1) := by decide +kernel
theorem d_Mod_crosses_0 : decode prog_10_method_35_code 0 = .ok (.aload_n 0, 1) := by decide +kernel
theorem d_Mod_crosses_1 : decode prog_10_method_35_code 1 = .ok (.iload_n 1, 1) := by decide +kernel
theorem d_Mod_crosses_2 : decode prog_10_method_35_code 2 = .ok (.aload_n 0, 1) := by decide +kernel
theorem d_Mod_crosses_3 : decode prog_10_method_35_code 3 = .ok (.getfield 9, 3) := by decide +kernel
theorem d_Mod_crosses_6 : decode prog_10_method_35_code 6 = .ok (.iconst 1, 1) := by decide +kernel
theorem d_Mod_crosses_7 : decode prog_10_method_35_code 7 = .ok (.iaload, 1) := by decide +kernel
theorem d_Mod_crosses_8 : decode prog_10_method_35_code 8 = .ok (.ineg, 1) := by decide +kernel
theorem d_Mod_crosses_9 : decode prog_10_method_35_code 9 = .ok (.invokevirtual 142, 3) := by decide +kernel
theorem d_Mod_crosses_12 : decode prog_10_method_35_code 12 = .ok (.aload_n 0, 1) := by decide +kernel
theorem d_Mod_crosses_13 : decode prog_10_method_35_code 13 = .ok (.getfield 9, 3) := by decide +kernel
theorem d_Mod_crosses_16 : decode prog_10_method_35_code 16 = .ok (.iload_n 1, 1) := by decide +kernel
theorem d_Mod_crosses_17 : decode prog_10_method_35_code 17 = .ok (.iconst 5, 1) := by decide +kernel
theorem d_Mod_crosses_18 : decode prog_10_method_35_code 18 = .ok (.invokestatic 76, 3) := by decide +kernel
theorem d_Mod_crosses_21 : decode prog_10_method_35_code 21 = .ok (.dup2, 1) := by decide +kernel
theorem d_Mod_crosses_22 : decode prog_10_method_35_code 22 = .ok (.iaload, 1) := by decide +kernel
theorem d_Mod_crosses_23 : decode prog_10_method_35_code 23 = .ok (.iconst 1, 1) := by decide +kernel
theorem d_Mod_crosses_24 : decode prog_10_method_35_code 24 = .ok (.iadd, 1) := by decide +kernel
theorem d_Mod_crosses_25 : decode prog_10_method_35_code 25 = .ok (.iastore, 1) := by decide +kernel
theorem d_Mod_crosses_26 : decode prog_10_method_35_code 26 = .ok (.aload_n 0, 1) := by decide +kernel
theorem d_Mod_crosses_27 : decode prog_10_method_35_code 27 = .ok (.getfield 9, 3) := by decide +kernel
theorem d_Mod_crosses_30 : decode prog_10_method_35_code 30 = .ok (.iload_n 1, 1) := by decide +kernel
theorem d_Mod_crosses_31 : decode prog_10_method_35_code 31 = .ok (.iconst 1, 1) := by decide +kernel
theorem d_Mod_crosses_32 : decode prog_10_method_35_code 32 = .ok (.invokestatic 76, 3) := by decide +kernel
theorem d_Mod_crosses_35 : decode prog_10_method_35_code 35 = .ok (.iconst 1, 1) := by decide +kernel
theorem d_Mod_crosses_36 : decode prog_10_method_35_code 36 = .ok (.aload_n 0, 1) := by decide +kernel
theorem d_Mod_crosses_37 : decode prog_10_method_35_code 37 = .ok (.iload_n 1, 1) := by decide +kernel
theorem d_Mod_crosses_38 : decode prog_10_method_35_code 38 = .ok (.iconst 1, 1) := by decide +kernel
theorem d_Mod_crosses_39 : decode prog_10_method_35_code 39 = .ok (.invokevirtual 94, 3) := by decide +kernel
theorem d_Mod_crosses_42 : decode prog_10_method_35_code 42 = .ok (.isub, 1) := by decide +kernel
theorem d_Mod_crosses_43 : decode prog_10_method_35_code 43 = .ok (.iastore, 1) := by decide +kernel
theorem d_Mod_crosses_44 : decode prog_10_method_35_code 44 = .ok (.return_, 1) := by decide +kernel
theorem d_Mod_pays_0 : decode prog_10_method_34_code 0 = .ok (.aload_n 0, 1) := by decide +kernel
theorem d_Mod_pays_1 : decode prog_10_method_34_code 1 = .ok (.getfield 9, 3) := by decide +kernel
theorem d_Mod_pays_4 : decode prog_10_method_34_code 4 = .ok (.iload_n 1, 1) := by decide +kernel
theorem d_Mod_pays_5 : decode prog_10_method_34_code 5 = .ok (.iconst 2, 1) := by decide +kernel
theorem d_Mod_pays_6 : decode prog_10_method_34_code 6 = .ok (.invokestatic 76, 3) := by decide +kernel
theorem d_Mod_pays_9 : decode prog_10_method_34_code 9 = .ok (.iconst 0, 1) := by decide +kernel
theorem d_Mod_pays_10 : decode prog_10_method_34_code 10 = .ok (.sipush 9999, 3) := by decide +kernel
theorem d_Mod_pays_13 : decode prog_10_method_34_code 13 = .ok (.aload_n 0, 1) := by decide +kernel
theorem d_Mod_pays_14 : decode prog_10_method_34_code 14 = .ok (.iload_n 1, 1) := by decide +kernel
theorem d_Mod_pays_15 : decode prog_10_method_34_code 15 = .ok (.iconst 2, 1) := by decide +kernel
theorem d_Mod_pays_16 : decode prog_10_method_34_code 16 = .ok (.invokevirtual 94, 3) := by decide +kernel
theorem d_Mod_pays_19 : decode prog_10_method_34_code 19 = .ok (.iload_n 2, 1) := by decide +kernel
theorem d_Mod_pays_20 : decode prog_10_method_34_code 20 = .ok (.iadd, 1) := by decide +kernel
theorem d_Mod_pays_21 : decode prog_10_method_34_code 21 = .ok (.invokestatic 139, 3) := by decide +kernel
theorem d_Mod_pays_24 : decode prog_10_method_34_code 24 = .ok (.invokestatic 110, 3) := by decide +kernel
theorem d_Mod_pays_27 : decode prog_10_method_34_code 27 = .ok (.iastore, 1) := by decide +kernel
theorem d_Mod_pays_28 : decode prog_10_method_34_code 28 = .ok (.return_, 1) := by decide +kernel
theorem d_Mod_tells_0 : decode prog_10_method_39_code 0 = .ok (.aload_n 0, 1) := by decide +kernel
theorem d_Mod_tells_1 : decode prog_10_method_39_code 1 = .ok (.iload_n 1, 1) := by decide +kernel
theorem d_Mod_tells_2 : decode prog_10_method_39_code 2 = .ok (.invokevirtual 122, 3) := by decide +kernel
theorem d_Mod_tells_5 : decode prog_10_method_39_code 5 = .ok (.ifCond .eq 16, 3) := by decide +kernel
theorem d_Mod_tells_8 : decode prog_10_method_39_code 8 = .ok (.aload_n 0, 1) := by decide +kernel
theorem d_Mod_tells_9 : decode prog_10_method_39_code 9 = .ok (.iload_n 2, 1) := by decide +kernel
theorem d_Mod_tells_10 : decode prog_10_method_39_code 10 = .ok (.invokevirtual 122, 3) := by decide +kernel
theorem d_Mod_tells_13 : decode prog_10_method_39_code 13 = .ok (.ifCond .eq 8, 3) := by decide +kernel
theorem d_Mod_tells_16 : decode prog_10_method_39_code 16 = .ok (.iload_n 1, 1) := by decide +kernel
theorem d_Mod_tells_17 : decode prog_10_method_39_code 17 = .ok (.iload_n 2, 1) := by decide +kernel
theorem d_Mod_tells_18 : decode prog_10_method_39_code 18 = .ok (.if_icmp .ne 10, 3) := by decide +kernel
theorem d_Mod_tells_21 : decode prog_10_method_39_code 21 = .ok (.aload_n 0, 1) := by decide +kernel
theorem d_Mod_tells_22 : decode prog_10_method_39_code 22 = .ok (.ldc 63, 2) := by decide +kernel
theorem d_Mod_tells_24 : decode prog_10_method_39_code 24 = .ok (.invokevirtual 82, 3) := by decide +kernel
theorem d_Mod_tells_27 : decode prog_10_method_39_code 27 = .ok (.ireturn, 1) := by decide +kernel
theorem d_Mod_tells_28 : decode prog_10_method_39_code 28 = .ok (.aload_n 0, 1) := by decide +kernel
theorem d_Mod_tells_29 : decode prog_10_method_39_code 29 = .ok (.iload_n 1, 1) := by decide +kernel
theorem d_Mod_tells_30 : decode prog_10_method_39_code 30 = .ok (.iconst 1, 1) := by decide +kernel
theorem d_Mod_tells_31 : decode prog_10_method_39_code 31 = .ok (.invokevirtual 94, 3) := by decide +kernel
theorem d_Mod_tells_34 : decode prog_10_method_39_code 34 = .ok (.aload_n 0, 1) := by decide +kernel
theorem d_Mod_tells_35 : decode prog_10_method_39_code 35 = .ok (.iload_n 2, 1) := by decide +kernel
theorem d_Mod_tells_36 : decode prog_10_method_39_code 36 = .ok (.iconst 1, 1) := by decide +kernel
theorem d_Mod_tells_37 : decode prog_10_method_39_code 37 = .ok (.invokevirtual 94, 3) := by decide +kernel
theorem d_Mod_tells_40 : decode prog_10_method_39_code 40 = .ok (.if_icmp .ne 12, 3) := by decide +kernel
theorem d_Mod_tells_43 : decode prog_10_method_39_code 43 = .ok (.aload_n 0, 1) := by decide +kernel
theorem d_Mod_tells_44 : decode prog_10_method_39_code 44 = .ok (.iload_n 1, 1) := by decide +kernel
theorem d_Mod_tells_45 : decode prog_10_method_39_code 45 = .ok (.iload_n 2, 1) := by decide +kernel
theorem d_Mod_tells_46 : decode prog_10_method_39_code 46 = .ok (.invokevirtual 157, 3) := by decide +kernel
theorem d_Mod_tells_49 : decode prog_10_method_39_code 49 = .ok (.goto 9, 3) := by decide +kernel
theorem d_Mod_tells_52 : decode prog_10_method_39_code 52 = .ok (.aload_n 0, 1) := by decide +kernel
theorem d_Mod_tells_53 : decode prog_10_method_39_code 53 = .ok (.ldc 149, 2) := by decide +kernel
theorem d_Mod_tells_55 : decode prog_10_method_39_code 55 = .ok (.invokevirtual 82, 3) := by decide +kernel
theorem d_Mod_tells_58 : decode prog_10_method_39_code 58 = .ok (.ireturn, 1) := by decide +kernel
theorem d_Mod_told_0 : decode prog_10_method_38_code 0 = .ok (.aload_n 0, 1) := by decide +kernel
theorem d_Mod_told_1 : decode prog_10_method_38_code 1 = .ok (.iload_n 2, 1) := by decide +kernel
theorem d_Mod_told_2 : decode prog_10_method_38_code 2 = .ok (.bipush 6, 2) := by decide +kernel
theorem d_Mod_told_4 : decode prog_10_method_38_code 4 = .ok (.invokevirtual 94, 3) := by decide +kernel
theorem d_Mod_told_7 : decode prog_10_method_38_code 7 = .ok (.istore_n 3, 1) := by decide +kernel
theorem d_Mod_told_8 : decode prog_10_method_38_code 8 = .ok (.aload_n 0, 1) := by decide +kernel
theorem d_Mod_told_9 : decode prog_10_method_38_code 9 = .ok (.getfield 9, 3) := by decide +kernel
theorem d_Mod_told_12 : decode prog_10_method_38_code 12 = .ok (.iload_n 2, 1) := by decide +kernel
theorem d_Mod_told_13 : decode prog_10_method_38_code 13 = .ok (.bipush 6, 2) := by decide +kernel
theorem d_Mod_told_15 : decode prog_10_method_38_code 15 = .ok (.invokestatic 76, 3) := by decide +kernel
theorem d_Mod_told_18 : decode prog_10_method_38_code 18 = .ok (.iload_n 3, 1) := by decide +kernel
theorem d_Mod_told_19 : decode prog_10_method_38_code 19 = .ok (.aload_n 0, 1) := by decide +kernel
theorem d_Mod_told_20 : decode prog_10_method_38_code 20 = .ok (.iload_n 1, 1) := by decide +kernel
theorem d_Mod_told_21 : decode prog_10_method_38_code 21 = .ok (.bipush 6, 2) := by decide +kernel
theorem d_Mod_told_23 : decode prog_10_method_38_code 23 = .ok (.invokevirtual 94, 3) := by decide +kernel
theorem d_Mod_told_26 : decode prog_10_method_38_code 26 = .ok (.ior, 1) := by decide +kernel
theorem d_Mod_told_27 : decode prog_10_method_38_code 27 = .ok (.iastore, 1) := by decide +kernel
theorem d_Mod_told_28 : decode prog_10_method_38_code 28 = .ok (.aload_n 0, 1) := by decide +kernel
theorem d_Mod_told_29 : decode prog_10_method_38_code 29 = .ok (.iload_n 2, 1) := by decide +kernel
theorem d_Mod_told_30 : decode prog_10_method_38_code 30 = .ok (.bipush 6, 2) := by decide +kernel
theorem d_Mod_told_32 : decode prog_10_method_38_code 32 = .ok (.invokevirtual 94, 3) := by decide +kernel
theorem d_Mod_told_35 : decode prog_10_method_38_code 35 = .ok (.invokestatic 154, 3) := by decide +kernel
theorem d_Mod_told_38 : decode prog_10_method_38_code 38 = .ok (.iload_n 3, 1) := by decide +kernel
theorem d_Mod_told_39 : decode prog_10_method_38_code 39 = .ok (.invokestatic 154, 3) := by decide +kernel
theorem d_Mod_told_42 : decode prog_10_method_38_code 42 = .ok (.isub, 1) := by decide +kernel
theorem d_Mod_told_43 : decode prog_10_method_38_code 43 = .ok (.ireturn, 1) := by decide +kernel
theorem d_Mod_bits_0 : decode prog_10_method_8_code 0 = .ok (.iconst 0, 1) := by decide +kernel
theorem d_Mod_bits_1 : decode prog_10_method_8_code 1 = .ok (.istore_n 1, 1) := by decide +kernel
theorem d_Mod_bits_2 : decode prog_10_method_8_code 2 = .ok (.iload_n 0, 1) := by decide +kernel
theorem d_Mod_bits_3 : decode prog_10_method_8_code 3 = .ok (.istore_n 2, 1) := by decide +kernel
theorem d_Mod_bits_4 : decode prog_10_method_8_code 4 = .ok (.iload_n 2, 1) := by decide +kernel
theorem d_Mod_bits_5 : decode prog_10_method_8_code 5 = .ok (.ifCond .eq 15, 3) := by decide +kernel
theorem d_Mod_bits_8 : decode prog_10_method_8_code 8 = .ok (.iinc 1 1, 3) := by decide +kernel
theorem d_Mod_bits_11 : decode prog_10_method_8_code 11 = .ok (.iload_n 2, 1) := by decide +kernel
theorem d_Mod_bits_12 : decode prog_10_method_8_code 12 = .ok (.iload_n 2, 1) := by decide +kernel
theorem d_Mod_bits_13 : decode prog_10_method_8_code 13 = .ok (.iconst 1, 1) := by decide +kernel
theorem d_Mod_bits_14 : decode prog_10_method_8_code 14 = .ok (.isub, 1) := by decide +kernel
theorem d_Mod_bits_15 : decode prog_10_method_8_code 15 = .ok (.iand, 1) := by decide +kernel
theorem d_Mod_bits_16 : decode prog_10_method_8_code 16 = .ok (.istore_n 2, 1) := by decide +kernel
theorem d_Mod_bits_17 : decode prog_10_method_8_code 17 = .ok (.goto (-13), 3) := by decide +kernel
theorem d_Mod_bits_20 : decode prog_10_method_8_code 20 = .ok (.iload_n 1, 1) := by decide +kernel
theorem d_Mod_bits_21 : decode prog_10_method_8_code 21 = .ok (.ireturn, 1) := by decide +kernel
theorem d_Mod_hours_0 : decode prog_10_method_47_code 0 = .ok (.iload_n 1, 1) := by decide +kernel
theorem d_Mod_hours_1 : decode prog_10_method_47_code 1 = .ok (.iconst 1, 1) := by decide +kernel
theorem d_Mod_hours_2 : decode prog_10_method_47_code 2 = .ok (.bipush 72, 2) := by decide +kernel
theorem d_Mod_hours_4 : decode prog_10_method_47_code 4 = .ok (.invokestatic 68, 3) := by decide +kernel
theorem d_Mod_hours_7 : decode prog_10_method_47_code 7 = .ok (.ifCond .ne 10, 3) := by decide +kernel
theorem d_Mod_hours_10 : decode prog_10_method_47_code 10 = .ok (.aload_n 0, 1) := by decide +kernel
theorem d_Mod_hours_11 : decode prog_10_method_47_code 11 = .ok (.ldc 63, 2) := by decide +kernel
theorem d_Mod_hours_13 : decode prog_10_method_47_code 13 = .ok (.invokevirtual 82, 3) := by decide +kernel
theorem d_Mod_hours_16 : decode prog_10_method_47_code 16 = .ok (.ireturn, 1) := by decide +kernel
theorem d_Mod_hours_17 : decode prog_10_method_47_code 17 = .ok (.aload_n 0, 1) := by decide +kernel
theorem d_Mod_hours_18 : decode prog_10_method_47_code 18 = .ok (.getfield 9, 3) := by decide +kernel
theorem d_Mod_hours_21 : decode prog_10_method_47_code 21 = .ok (.iconst 0, 1) := by decide +kernel
theorem d_Mod_hours_22 : decode prog_10_method_47_code 22 = .ok (.iaload, 1) := by decide +kernel
theorem d_Mod_hours_23 : decode prog_10_method_47_code 23 = .ok (.iload_n 1, 1) := by decide +kernel
theorem d_Mod_hours_24 : decode prog_10_method_47_code 24 = .ok (.iadd, 1) := by decide +kernel
theorem d_Mod_hours_25 : decode prog_10_method_47_code 25 = .ok (.sipush 9999, 3) := by decide +kernel
theorem d_Mod_hours_28 : decode prog_10_method_47_code 28 = .ok (.if_icmp .le 10, 3) := by decide +kernel
theorem d_Mod_hours_31 : decode prog_10_method_47_code 31 = .ok (.aload_n 0, 1) := by decide +kernel
theorem d_Mod_hours_32 : decode prog_10_method_47_code 32 = .ok (.ldc 149, 2) := by decide +kernel
theorem d_Mod_hours_34 : decode prog_10_method_47_code 34 = .ok (.invokevirtual 82, 3) := by decide +kernel
theorem d_Mod_hours_37 : decode prog_10_method_47_code 37 = .ok (.ireturn, 1) := by decide +kernel
theorem d_Mod_hours_38 : decode prog_10_method_47_code 38 = .ok (.aload_n 0, 1) := by decide +kernel
theorem d_Mod_hours_39 : decode prog_10_method_47_code 39 = .ok (.iload_n 1, 1) := by decide +kernel
theorem d_Mod_hours_40 : decode prog_10_method_47_code 40 = .ok (.invokevirtual 175, 3) := by decide +kernel
theorem d_Mod_hours_43 : decode prog_10_method_47_code 43 = .ok (.aload_n 0, 1) := by decide +kernel
theorem d_Mod_hours_44 : decode prog_10_method_47_code 44 = .ok (.iconst 2, 1) := by decide +kernel
theorem d_Mod_hours_45 : decode prog_10_method_47_code 45 = .ok (.invokevirtual 178, 3) := by decide +kernel
theorem d_Mod_hours_48 : decode prog_10_method_47_code 48 = .ok (.ireturn, 1) := by decide +kernel
theorem d_Mod_hoursGo_0 : decode prog_10_method_45_code 0 = .ok (.iconst 0, 1) := by decide +kernel
theorem d_Mod_hoursGo_1 : decode prog_10_method_45_code 1 = .ok (.istore_n 2, 1) := by decide +kernel
theorem d_Mod_hoursGo_2 : decode prog_10_method_45_code 2 = .ok (.iload_n 2, 1) := by decide +kernel
theorem d_Mod_hoursGo_3 : decode prog_10_method_45_code 3 = .ok (.iload_n 1, 1) := by decide +kernel
theorem d_Mod_hoursGo_4 : decode prog_10_method_45_code 4 = .ok (.if_icmp .ge 13, 3) := by decide +kernel
theorem d_Mod_hoursGo_7 : decode prog_10_method_45_code 7 = .ok (.aload_n 0, 1) := by decide +kernel
theorem d_Mod_hoursGo_8 : decode prog_10_method_45_code 8 = .ok (.invokevirtual 172, 3) := by decide +kernel
theorem d_Mod_hoursGo_11 : decode prog_10_method_45_code 11 = .ok (.iinc 2 1, 3) := by decide +kernel
theorem d_Mod_hoursGo_14 : decode prog_10_method_45_code 14 = .ok (.goto (-12), 3) := by decide +kernel
theorem d_Mod_hoursGo_17 : decode prog_10_method_45_code 17 = .ok (.return_, 1) := by decide +kernel
theorem d_Mod_hour_0 : decode prog_10_method_44_code 0 = .ok (.aload_n 0, 1) := by decide +kernel
theorem d_Mod_hour_1 : decode prog_10_method_44_code 1 = .ok (.getfield 9, 3) := by decide +kernel
theorem d_Mod_hour_4 : decode prog_10_method_44_code 4 = .ok (.iconst 0, 1) := by decide +kernel
theorem d_Mod_hour_5 : decode prog_10_method_44_code 5 = .ok (.iaload, 1) := by decide +kernel
theorem d_Mod_hour_6 : decode prog_10_method_44_code 6 = .ok (.bipush 24, 2) := by decide +kernel
theorem d_Mod_hour_8 : decode prog_10_method_44_code 8 = .ok (.irem, 1) := by decide +kernel
theorem d_Mod_hour_9 : decode prog_10_method_44_code 9 = .ok (.istore_n 1, 1) := by decide +kernel
theorem d_Mod_hour_10 : decode prog_10_method_44_code 10 = .ok (.iconst 0, 1) := by decide +kernel
theorem d_Mod_hour_11 : decode prog_10_method_44_code 11 = .ok (.istore_n 2, 1) := by decide +kernel
theorem d_Mod_hour_12 : decode prog_10_method_44_code 12 = .ok (.iload_n 2, 1) := by decide +kernel
theorem d_Mod_hour_13 : decode prog_10_method_44_code 13 = .ok (.aload_n 0, 1) := by decide +kernel
theorem d_Mod_hour_14 : decode prog_10_method_44_code 14 = .ok (.getfield 9, 3) := by decide +kernel
theorem d_Mod_hour_17 : decode prog_10_method_44_code 17 = .ok (.iconst 3, 1) := by decide +kernel
theorem d_Mod_hour_18 : decode prog_10_method_44_code 18 = .ok (.iaload, 1) := by decide +kernel
theorem d_Mod_hour_19 : decode prog_10_method_44_code 19 = .ok (.if_icmp .ge 53, 3) := by decide +kernel
theorem d_Mod_hour_22 : decode prog_10_method_44_code 22 = .ok (.aload_n 0, 1) := by decide +kernel
theorem d_Mod_hour_23 : decode prog_10_method_44_code 23 = .ok (.iload_n 2, 1) := by decide +kernel
theorem d_Mod_hour_24 : decode prog_10_method_44_code 24 = .ok (.invokevirtual 160, 3) := by decide +kernel
theorem d_Mod_hour_27 : decode prog_10_method_44_code 27 = .ok (.ifCond .eq 39, 3) := by decide +kernel
theorem d_Mod_hour_30 : decode prog_10_method_44_code 30 = .ok (.aload_n 0, 1) := by decide +kernel
theorem d_Mod_hour_31 : decode prog_10_method_44_code 31 = .ok (.iload_n 2, 1) := by decide +kernel
theorem d_Mod_hour_32 : decode prog_10_method_44_code 32 = .ok (.aload_n 0, 1) := by decide +kernel
theorem d_Mod_hour_33 : decode prog_10_method_44_code 33 = .ok (.iload_n 2, 1) := by decide +kernel
theorem d_Mod_hour_34 : decode prog_10_method_44_code 34 = .ok (.iconst 1, 1) := by decide +kernel
theorem d_Mod_hour_35 : decode prog_10_method_44_code 35 = .ok (.invokevirtual 94, 3) := by decide +kernel
theorem d_Mod_hour_38 : decode prog_10_method_44_code 38 = .ok (.ifCond .ne 7, 3) := by decide +kernel
theorem d_Mod_hour_41 : decode prog_10_method_44_code 41 = .ok (.iconst 3, 1) := by decide +kernel
theorem d_Mod_hour_42 : decode prog_10_method_44_code 42 = .ok (.goto 4, 3) := by decide +kernel
theorem d_Mod_hour_45 : decode prog_10_method_44_code 45 = .ok (.iconst 4, 1) := by decide +kernel
theorem d_Mod_hour_46 : decode prog_10_method_44_code 46 = .ok (.invokevirtual 94, 3) := by decide +kernel
theorem d_Mod_hour_49 : decode prog_10_method_44_code 49 = .ok (.iload_n 1, 1) := by decide +kernel
theorem d_Mod_hour_50 : decode prog_10_method_44_code 50 = .ok (.if_icmp .ne 16, 3) := by decide +kernel
theorem d_Mod_hour_53 : decode prog_10_method_44_code 53 = .ok (.aload_n 0, 1) := by decide +kernel
theorem d_Mod_hour_54 : decode prog_10_method_44_code 54 = .ok (.iload_n 2, 1) := by decide +kernel
theorem d_Mod_hour_55 : decode prog_10_method_44_code 55 = .ok (.invokevirtual 146, 3) := by decide +kernel
theorem d_Mod_hour_58 : decode prog_10_method_44_code 58 = .ok (.ifCond .eq 8, 3) := by decide +kernel
theorem d_Mod_hour_61 : decode prog_10_method_44_code 61 = .ok (.aload_n 0, 1) := by decide +kernel
theorem d_Mod_hour_62 : decode prog_10_method_44_code 62 = .ok (.iload_n 2, 1) := by decide +kernel
theorem d_Mod_hour_63 : decode prog_10_method_44_code 63 = .ok (.invokevirtual 150, 3) := by decide +kernel
theorem d_Mod_hour_66 : decode prog_10_method_44_code 66 = .ok (.iinc 2 1, 3) := by decide +kernel
theorem d_Mod_hour_69 : decode prog_10_method_44_code 69 = .ok (.goto (-57), 3) := by decide +kernel
theorem d_Mod_hour_72 : decode prog_10_method_44_code 72 = .ok (.aload_n 0, 1) := by decide +kernel
theorem d_Mod_hour_73 : decode prog_10_method_44_code 73 = .ok (.invokevirtual 163, 3) := by decide +kernel
theorem d_Mod_hour_76 : decode prog_10_method_44_code 76 = .ok (.aload_n 0, 1) := by decide +kernel
theorem d_Mod_hour_77 : decode prog_10_method_44_code 77 = .ok (.invokevirtual 166, 3) := by decide +kernel
theorem d_Mod_hour_80 : decode prog_10_method_44_code 80 = .ok (.iconst 0, 1) := by decide +kernel
theorem d_Mod_hour_81 : decode prog_10_method_44_code 81 = .ok (.istore_n 2, 1) := by decide +kernel
theorem d_Mod_hour_82 : decode prog_10_method_44_code 82 = .ok (.iload_n 2, 1) := by decide +kernel
theorem d_Mod_hour_83 : decode prog_10_method_44_code 83 = .ok (.aload_n 0, 1) := by decide +kernel
theorem d_Mod_hour_84 : decode prog_10_method_44_code 84 = .ok (.getfield 9, 3) := by decide +kernel
theorem d_Mod_hour_87 : decode prog_10_method_44_code 87 = .ok (.iconst 2, 1) := by decide +kernel
theorem d_Mod_hour_88 : decode prog_10_method_44_code 88 = .ok (.iaload, 1) := by decide +kernel
theorem d_Mod_hour_89 : decode prog_10_method_44_code 89 = .ok (.if_icmp .ge 63, 3) := by decide +kernel
theorem d_Mod_hour_92 : decode prog_10_method_44_code 92 = .ok (.aload_n 0, 1) := by decide +kernel
theorem d_Mod_hour_93 : decode prog_10_method_44_code 93 = .ok (.iload_n 2, 1) := by decide +kernel
theorem d_Mod_hour_94 : decode prog_10_method_44_code 94 = .ok (.iconst 0, 1) := by decide +kernel
theorem d_Mod_hour_95 : decode prog_10_method_44_code 95 = .ok (.invokevirtual 104, 3) := by decide +kernel
theorem d_Mod_hour_98 : decode prog_10_method_44_code 98 = .ok (.aload_n 0, 1) := by decide +kernel
theorem d_Mod_hour_99 : decode prog_10_method_44_code 99 = .ok (.getfield 9, 3) := by decide +kernel
theorem d_Mod_hour_102 : decode prog_10_method_44_code 102 = .ok (.iconst 0, 1) := by decide +kernel
theorem d_Mod_hour_103 : decode prog_10_method_44_code 103 = .ok (.iaload, 1) := by decide +kernel
theorem d_Mod_hour_104 : decode prog_10_method_44_code 104 = .ok (.if_icmp .ne 9, 3) := by decide +kernel
theorem d_Mod_hour_107 : decode prog_10_method_44_code 107 = .ok (.aload_n 0, 1) := by decide +kernel
theorem d_Mod_hour_108 : decode prog_10_method_44_code 108 = .ok (.iload_n 2, 1) := by decide +kernel
theorem d_Mod_hour_109 : decode prog_10_method_44_code 109 = .ok (.iconst 0, 1) := by decide +kernel
theorem d_Mod_hour_110 : decode prog_10_method_44_code 110 = .ok (.invokevirtual 169, 3) := by decide +kernel
theorem d_Mod_hour_113 : decode prog_10_method_44_code 113 = .ok (.aload_n 0, 1) := by decide +kernel
theorem d_Mod_hour_114 : decode prog_10_method_44_code 114 = .ok (.iload_n 2, 1) := by decide +kernel
theorem d_Mod_hour_115 : decode prog_10_method_44_code 115 = .ok (.iconst 0, 1) := by decide +kernel
theorem d_Mod_hour_116 : decode prog_10_method_44_code 116 = .ok (.invokevirtual 104, 3) := by decide +kernel
theorem d_Mod_hour_119 : decode prog_10_method_44_code 119 = .ok (.bipush 24, 2) := by decide +kernel
theorem d_Mod_hour_121 : decode prog_10_method_44_code 121 = .ok (.iadd, 1) := by decide +kernel
theorem d_Mod_hour_122 : decode prog_10_method_44_code 122 = .ok (.aload_n 0, 1) := by decide +kernel
theorem d_Mod_hour_123 : decode prog_10_method_44_code 123 = .ok (.getfield 9, 3) := by decide +kernel
theorem d_Mod_hour_126 : decode prog_10_method_44_code 126 = .ok (.iconst 0, 1) := by decide +kernel
theorem d_Mod_hour_127 : decode prog_10_method_44_code 127 = .ok (.iaload, 1) := by decide +kernel
theorem d_Mod_hour_128 : decode prog_10_method_44_code 128 = .ok (.if_icmp .ne 18, 3) := by decide +kernel
theorem d_Mod_hour_131 : decode prog_10_method_44_code 131 = .ok (.aload_n 0, 1) := by decide +kernel
theorem d_Mod_hour_132 : decode prog_10_method_44_code 132 = .ok (.iload_n 2, 1) := by decide +kernel
theorem d_Mod_hour_133 : decode prog_10_method_44_code 133 = .ok (.iconst 2, 1) := by decide +kernel
theorem d_Mod_hour_134 : decode prog_10_method_44_code 134 = .ok (.invokevirtual 104, 3) := by decide +kernel
theorem d_Mod_hour_137 : decode prog_10_method_44_code 137 = .ok (.ifCond .ne 9, 3) := by decide +kernel
theorem d_Mod_hour_140 : decode prog_10_method_44_code 140 = .ok (.aload_n 0, 1) := by decide +kernel
theorem d_Mod_hour_141 : decode prog_10_method_44_code 141 = .ok (.iload_n 2, 1) := by decide +kernel
theorem d_Mod_hour_142 : decode prog_10_method_44_code 142 = .ok (.iconst 1, 1) := by decide +kernel
theorem d_Mod_hour_143 : decode prog_10_method_44_code 143 = .ok (.invokevirtual 169, 3) := by decide +kernel
theorem d_Mod_hour_146 : decode prog_10_method_44_code 146 = .ok (.iinc 2 1, 3) := by decide +kernel
theorem d_Mod_hour_149 : decode prog_10_method_44_code 149 = .ok (.goto (-67), 3) := by decide +kernel
theorem d_Mod_hour_152 : decode prog_10_method_44_code 152 = .ok (.aload_n 0, 1) := by decide +kernel
theorem d_Mod_hour_153 : decode prog_10_method_44_code 153 = .ok (.getfield 9, 3) := by decide +kernel
theorem d_Mod_hour_156 : decode prog_10_method_44_code 156 = .ok (.iconst 0, 1) := by decide +kernel
theorem d_Mod_hour_157 : decode prog_10_method_44_code 157 = .ok (.dup2, 1) := by decide +kernel
theorem d_Mod_hour_158 : decode prog_10_method_44_code 158 = .ok (.iaload, 1) := by decide +kernel
theorem d_Mod_hour_159 : decode prog_10_method_44_code 159 = .ok (.iconst 1, 1) := by decide +kernel
theorem d_Mod_hour_160 : decode prog_10_method_44_code 160 = .ok (.iadd, 1) := by decide +kernel
theorem d_Mod_hour_161 : decode prog_10_method_44_code 161 = .ok (.iastore, 1) := by decide +kernel
theorem d_Mod_hour_162 : decode prog_10_method_44_code 162 = .ok (.return_, 1) := by decide +kernel
theorem d_Mod_isThere_0 : decode prog_10_method_40_code 0 = .ok (.iload_n 1, 1) := by decide +kernel
theorem d_Mod_isThere_1 : decode prog_10_method_40_code 1 = .ok (.aload_n 0, 1) := by decide +kernel
theorem d_Mod_isThere_2 : decode prog_10_method_40_code 2 = .ok (.getfield 22, 3) := by decide +kernel
theorem d_Mod_isThere_5 : decode prog_10_method_40_code 5 = .ok (.if_icmp .eq 7, 3) := by decide +kernel
theorem d_Mod_isThere_8 : decode prog_10_method_40_code 8 = .ok (.iconst 1, 1) := by decide +kernel
theorem d_Mod_isThere_9 : decode prog_10_method_40_code 9 = .ok (.goto 4, 3) := by decide +kernel
theorem d_Mod_isThere_12 : decode prog_10_method_40_code 12 = .ok (.iconst 0, 1) := by decide +kernel
theorem d_Mod_isThere_13 : decode prog_10_method_40_code 13 = .ok (.ireturn, 1) := by decide +kernel
theorem d_Mod_tellersTell_0 : decode prog_10_method_41_code 0 = .ok (.iconst 0, 1) := by decide +kernel
theorem d_Mod_tellersTell_1 : decode prog_10_method_41_code 1 = .ok (.istore_n 1, 1) := by decide +kernel
theorem d_Mod_tellersTell_2 : decode prog_10_method_41_code 2 = .ok (.iload_n 1, 1) := by decide +kernel
theorem d_Mod_tellersTell_3 : decode prog_10_method_41_code 3 = .ok (.aload_n 0, 1) := by decide +kernel
theorem d_Mod_tellersTell_4 : decode prog_10_method_41_code 4 = .ok (.getfield 9, 3) := by decide +kernel
theorem d_Mod_tellersTell_7 : decode prog_10_method_41_code 7 = .ok (.iconst 3, 1) := by decide +kernel
theorem d_Mod_tellersTell_8 : decode prog_10_method_41_code 8 = .ok (.iaload, 1) := by decide +kernel
theorem d_Mod_tellersTell_9 : decode prog_10_method_41_code 9 = .ok (.if_icmp .ge 109, 3) := by decide +kernel
theorem d_Mod_tellersTell_12 : decode prog_10_method_41_code 12 = .ok (.aload_n 0, 1) := by decide +kernel
theorem d_Mod_tellersTell_13 : decode prog_10_method_41_code 13 = .ok (.iload_n 1, 1) := by decide +kernel
theorem d_Mod_tellersTell_14 : decode prog_10_method_41_code 14 = .ok (.invokevirtual 160, 3) := by decide +kernel
theorem d_Mod_tellersTell_17 : decode prog_10_method_41_code 17 = .ok (.ifCond .eq 20, 3) := by decide +kernel
theorem d_Mod_tellersTell_20 : decode prog_10_method_41_code 20 = .ok (.aload_n 0, 1) := by decide +kernel
theorem d_Mod_tellersTell_21 : decode prog_10_method_41_code 21 = .ok (.iload_n 1, 1) := by decide +kernel
theorem d_Mod_tellersTell_22 : decode prog_10_method_41_code 22 = .ok (.iconst 0, 1) := by decide +kernel
theorem d_Mod_tellersTell_23 : decode prog_10_method_41_code 23 = .ok (.invokevirtual 94, 3) := by decide +kernel
theorem d_Mod_tellersTell_26 : decode prog_10_method_41_code 26 = .ok (.iconst 3, 1) := by decide +kernel
theorem d_Mod_tellersTell_27 : decode prog_10_method_41_code 27 = .ok (.invokestatic 131, 3) := by decide +kernel
theorem d_Mod_tellersTell_30 : decode prog_10_method_41_code 30 = .ok (.ifCond .eq 7, 3) := by decide +kernel
theorem d_Mod_tellersTell_33 : decode prog_10_method_41_code 33 = .ok (.iconst 1, 1) := by decide +kernel
theorem d_Mod_tellersTell_34 : decode prog_10_method_41_code 34 = .ok (.goto 4, 3) := by decide +kernel
theorem d_Mod_tellersTell_37 : decode prog_10_method_41_code 37 = .ok (.iconst 0, 1) := by decide +kernel
theorem d_Mod_tellersTell_38 : decode prog_10_method_41_code 38 = .ok (.istore_n 2, 1) := by decide +kernel
theorem d_Mod_tellersTell_39 : decode prog_10_method_41_code 39 = .ok (.iconst 0, 1) := by decide +kernel
theorem d_Mod_tellersTell_40 : decode prog_10_method_41_code 40 = .ok (.istore_n 3, 1) := by decide +kernel
theorem d_Mod_tellersTell_41 : decode prog_10_method_41_code 41 = .ok (.iload_n 3, 1) := by decide +kernel
theorem d_Mod_tellersTell_42 : decode prog_10_method_41_code 42 = .ok (.aload_n 0, 1) := by decide +kernel
theorem d_Mod_tellersTell_43 : decode prog_10_method_41_code 43 = .ok (.getfield 9, 3) := by decide +kernel
theorem d_Mod_tellersTell_46 : decode prog_10_method_41_code 46 = .ok (.iconst 3, 1) := by decide +kernel
theorem d_Mod_tellersTell_47 : decode prog_10_method_41_code 47 = .ok (.iaload, 1) := by decide +kernel
theorem d_Mod_tellersTell_48 : decode prog_10_method_41_code 48 = .ok (.if_icmp .ge 64, 3) := by decide +kernel
theorem d_Mod_tellersTell_51 : decode prog_10_method_41_code 51 = .ok (.iload_n 2, 1) := by decide +kernel
theorem d_Mod_tellersTell_52 : decode prog_10_method_41_code 52 = .ok (.ifCond .eq 60, 3) := by decide +kernel
theorem d_Mod_tellersTell_55 : decode prog_10_method_41_code 55 = .ok (.aload_n 0, 1) := by decide +kernel
theorem d_Mod_tellersTell_56 : decode prog_10_method_41_code 56 = .ok (.iload_n 3, 1) := by decide +kernel
theorem d_Mod_tellersTell_57 : decode prog_10_method_41_code 57 = .ok (.invokevirtual 160, 3) := by decide +kernel
theorem d_Mod_tellersTell_60 : decode prog_10_method_41_code 60 = .ok (.ifCond .eq 32, 3) := by decide +kernel
theorem d_Mod_tellersTell_63 : decode prog_10_method_41_code 63 = .ok (.iload_n 3, 1) := by decide +kernel
theorem d_Mod_tellersTell_64 : decode prog_10_method_41_code 64 = .ok (.iload_n 1, 1) := by decide +kernel
theorem d_Mod_tellersTell_65 : decode prog_10_method_41_code 65 = .ok (.if_icmp .eq 27, 3) := by decide +kernel
theorem d_Mod_tellersTell_68 : decode prog_10_method_41_code 68 = .ok (.aload_n 0, 1) := by decide +kernel
theorem d_Mod_tellersTell_69 : decode prog_10_method_41_code 69 = .ok (.iload_n 3, 1) := by decide +kernel
theorem d_Mod_tellersTell_70 : decode prog_10_method_41_code 70 = .ok (.iconst 1, 1) := by decide +kernel
theorem d_Mod_tellersTell_71 : decode prog_10_method_41_code 71 = .ok (.invokevirtual 94, 3) := by decide +kernel
theorem d_Mod_tellersTell_74 : decode prog_10_method_41_code 74 = .ok (.aload_n 0, 1) := by decide +kernel
theorem d_Mod_tellersTell_75 : decode prog_10_method_41_code 75 = .ok (.iload_n 1, 1) := by decide +kernel
theorem d_Mod_tellersTell_76 : decode prog_10_method_41_code 76 = .ok (.iconst 1, 1) := by decide +kernel
theorem d_Mod_tellersTell_77 : decode prog_10_method_41_code 77 = .ok (.invokevirtual 94, 3) := by decide +kernel
theorem d_Mod_tellersTell_80 : decode prog_10_method_41_code 80 = .ok (.if_icmp .ne 12, 3) := by decide +kernel
theorem d_Mod_tellersTell_83 : decode prog_10_method_41_code 83 = .ok (.aload_n 0, 1) := by decide +kernel
theorem d_Mod_tellersTell_84 : decode prog_10_method_41_code 84 = .ok (.iload_n 1, 1) := by decide +kernel
theorem d_Mod_tellersTell_85 : decode prog_10_method_41_code 85 = .ok (.iload_n 3, 1) := by decide +kernel
theorem d_Mod_tellersTell_86 : decode prog_10_method_41_code 86 = .ok (.invokevirtual 157, 3) := by decide +kernel
theorem d_Mod_tellersTell_89 : decode prog_10_method_41_code 89 = .ok (.goto 4, 3) := by decide +kernel
theorem d_Mod_tellersTell_92 : decode prog_10_method_41_code 92 = .ok (.iconst 0, 1) := by decide +kernel
theorem d_Mod_tellersTell_93 : decode prog_10_method_41_code 93 = .ok (.istore 4, 2) := by decide +kernel
theorem d_Mod_tellersTell_95 : decode prog_10_method_41_code 95 = .ok (.iload 4, 2) := by decide +kernel
theorem d_Mod_tellersTell_97 : decode prog_10_method_41_code 97 = .ok (.ifCond .lt 7, 3) := by decide +kernel
theorem d_Mod_tellersTell_100 : decode prog_10_method_41_code 100 = .ok (.iconst 1, 1) := by decide +kernel
theorem d_Mod_tellersTell_101 : decode prog_10_method_41_code 101 = .ok (.goto 4, 3) := by decide +kernel
theorem d_Mod_tellersTell_104 : decode prog_10_method_41_code 104 = .ok (.iconst 0, 1) := by decide +kernel
theorem d_Mod_tellersTell_105 : decode prog_10_method_41_code 105 = .ok (.istore_n 2, 1) := by decide +kernel
theorem d_Mod_tellersTell_106 : decode prog_10_method_41_code 106 = .ok (.iinc 3 1, 3) := by decide +kernel
theorem d_Mod_tellersTell_109 : decode prog_10_method_41_code 109 = .ok (.goto (-68), 3) := by decide +kernel
theorem d_Mod_tellersTell_112 : decode prog_10_method_41_code 112 = .ok (.iinc 1 1, 3) := by decide +kernel
theorem d_Mod_tellersTell_115 : decode prog_10_method_41_code 115 = .ok (.goto (-113), 3) := by decide +kernel
theorem d_Mod_tellersTell_118 : decode prog_10_method_41_code 118 = .ok (.return_, 1) := by decide +kernel
theorem d_Mod_firemenMeet_0 : decode prog_10_method_42_code 0 = .ok (.iconst 0, 1) := by decide +kernel
theorem d_Mod_firemenMeet_1 : decode prog_10_method_42_code 1 = .ok (.istore_n 1, 1) := by decide +kernel
theorem d_Mod_firemenMeet_2 : decode prog_10_method_42_code 2 = .ok (.iload_n 1, 1) := by decide +kernel
theorem d_Mod_firemenMeet_3 : decode prog_10_method_42_code 3 = .ok (.aload_n 0, 1) := by decide +kernel
theorem d_Mod_firemenMeet_4 : decode prog_10_method_42_code 4 = .ok (.getfield 9, 3) := by decide +kernel
theorem d_Mod_firemenMeet_7 : decode prog_10_method_42_code 7 = .ok (.iconst 3, 1) := by decide +kernel
theorem d_Mod_firemenMeet_8 : decode prog_10_method_42_code 8 = .ok (.iaload, 1) := by decide +kernel
theorem d_Mod_firemenMeet_9 : decode prog_10_method_42_code 9 = .ok (.if_icmp .ge 126, 3) := by decide +kernel
theorem d_Mod_firemenMeet_12 : decode prog_10_method_42_code 12 = .ok (.aload_n 0, 1) := by decide +kernel
theorem d_Mod_firemenMeet_13 : decode prog_10_method_42_code 13 = .ok (.iload_n 1, 1) := by decide +kernel
theorem d_Mod_firemenMeet_14 : decode prog_10_method_42_code 14 = .ok (.invokevirtual 160, 3) := by decide +kernel
theorem d_Mod_firemenMeet_17 : decode prog_10_method_42_code 17 = .ok (.ifCond .eq 112, 3) := by decide +kernel
theorem d_Mod_firemenMeet_20 : decode prog_10_method_42_code 20 = .ok (.aload_n 0, 1) := by decide +kernel
theorem d_Mod_firemenMeet_21 : decode prog_10_method_42_code 21 = .ok (.iload_n 1, 1) := by decide +kernel
theorem d_Mod_firemenMeet_22 : decode prog_10_method_42_code 22 = .ok (.iconst 0, 1) := by decide +kernel
theorem d_Mod_firemenMeet_23 : decode prog_10_method_42_code 23 = .ok (.invokevirtual 94, 3) := by decide +kernel
theorem d_Mod_firemenMeet_26 : decode prog_10_method_42_code 26 = .ok (.iconst 4, 1) := by decide +kernel
theorem d_Mod_firemenMeet_27 : decode prog_10_method_42_code 27 = .ok (.if_icmp .ne 102, 3) := by decide +kernel
theorem d_Mod_firemenMeet_30 : decode prog_10_method_42_code 30 = .ok (.aload_n 0, 1) := by decide +kernel
theorem d_Mod_firemenMeet_31 : decode prog_10_method_42_code 31 = .ok (.iload_n 1, 1) := by decide +kernel
theorem d_Mod_firemenMeet_32 : decode prog_10_method_42_code 32 = .ok (.iconst 1, 1) := by decide +kernel
theorem d_Mod_firemenMeet_33 : decode prog_10_method_42_code 33 = .ok (.invokevirtual 94, 3) := by decide +kernel
theorem d_Mod_firemenMeet_36 : decode prog_10_method_42_code 36 = .ok (.iconst 1, 1) := by decide +kernel
theorem d_Mod_firemenMeet_37 : decode prog_10_method_42_code 37 = .ok (.if_icmp .ne 92, 3) := by decide +kernel
theorem d_Mod_firemenMeet_40 : decode prog_10_method_42_code 40 = .ok (.iconst 0, 1) := by decide +kernel
theorem d_Mod_firemenMeet_41 : decode prog_10_method_42_code 41 = .ok (.istore_n 2, 1) := by decide +kernel
theorem d_Mod_firemenMeet_42 : decode prog_10_method_42_code 42 = .ok (.iload_n 2, 1) := by decide +kernel
theorem d_Mod_firemenMeet_43 : decode prog_10_method_42_code 43 = .ok (.aload_n 0, 1) := by decide +kernel
theorem d_Mod_firemenMeet_44 : decode prog_10_method_42_code 44 = .ok (.getfield 9, 3) := by decide +kernel
theorem d_Mod_firemenMeet_47 : decode prog_10_method_42_code 47 = .ok (.iconst 2, 1) := by decide +kernel
theorem d_Mod_firemenMeet_48 : decode prog_10_method_42_code 48 = .ok (.iaload, 1) := by decide +kernel
theorem d_Mod_firemenMeet_49 : decode prog_10_method_42_code 49 = .ok (.if_icmp .ge 80, 3) := by decide +kernel
theorem d_Mod_firemenMeet_52 : decode prog_10_method_42_code 52 = .ok (.aload_n 0, 1) := by decide +kernel
theorem d_Mod_firemenMeet_53 : decode prog_10_method_42_code 53 = .ok (.iload_n 1, 1) := by decide +kernel
theorem d_Mod_firemenMeet_54 : decode prog_10_method_42_code 54 = .ok (.bipush 6, 2) := by decide +kernel
theorem d_Mod_firemenMeet_56 : decode prog_10_method_42_code 56 = .ok (.invokevirtual 94, 3) := by decide +kernel
theorem d_Mod_firemenMeet_59 : decode prog_10_method_42_code 59 = .ok (.iload_n 2, 1) := by decide +kernel
theorem d_Mod_firemenMeet_60 : decode prog_10_method_42_code 60 = .ok (.invokestatic 97, 3) := by decide +kernel
theorem d_Mod_firemenMeet_63 : decode prog_10_method_42_code 63 = .ok (.ifCond .eq 34, 3) := by decide +kernel
theorem d_Mod_firemenMeet_66 : decode prog_10_method_42_code 66 = .ok (.aload_n 0, 1) := by decide +kernel
theorem d_Mod_firemenMeet_67 : decode prog_10_method_42_code 67 = .ok (.iload_n 2, 1) := by decide +kernel
theorem d_Mod_firemenMeet_68 : decode prog_10_method_42_code 68 = .ok (.iconst 1, 1) := by decide +kernel
theorem d_Mod_firemenMeet_69 : decode prog_10_method_42_code 69 = .ok (.invokevirtual 104, 3) := by decide +kernel
theorem d_Mod_firemenMeet_72 : decode prog_10_method_42_code 72 = .ok (.ifCond .ge 25, 3) := by decide +kernel
theorem d_Mod_firemenMeet_75 : decode prog_10_method_42_code 75 = .ok (.aload_n 0, 1) := by decide +kernel
theorem d_Mod_firemenMeet_76 : decode prog_10_method_42_code 76 = .ok (.iload_n 2, 1) := by decide +kernel
theorem d_Mod_firemenMeet_77 : decode prog_10_method_42_code 77 = .ok (.iconst 0, 1) := by decide +kernel
theorem d_Mod_firemenMeet_78 : decode prog_10_method_42_code 78 = .ok (.invokevirtual 104, 3) := by decide +kernel
theorem d_Mod_firemenMeet_81 : decode prog_10_method_42_code 81 = .ok (.bipush 24, 2) := by decide +kernel
theorem d_Mod_firemenMeet_83 : decode prog_10_method_42_code 83 = .ok (.iadd, 1) := by decide +kernel
theorem d_Mod_firemenMeet_84 : decode prog_10_method_42_code 84 = .ok (.aload_n 0, 1) := by decide +kernel
theorem d_Mod_firemenMeet_85 : decode prog_10_method_42_code 85 = .ok (.getfield 9, 3) := by decide +kernel
theorem d_Mod_firemenMeet_88 : decode prog_10_method_42_code 88 = .ok (.iconst 0, 1) := by decide +kernel
theorem d_Mod_firemenMeet_89 : decode prog_10_method_42_code 89 = .ok (.iaload, 1) := by decide +kernel
theorem d_Mod_firemenMeet_90 : decode prog_10_method_42_code 90 = .ok (.if_icmp .lt 7, 3) := by decide +kernel
theorem d_Mod_firemenMeet_93 : decode prog_10_method_42_code 93 = .ok (.iconst 1, 1) := by decide +kernel
theorem d_Mod_firemenMeet_94 : decode prog_10_method_42_code 94 = .ok (.goto 4, 3) := by decide +kernel
theorem d_Mod_firemenMeet_97 : decode prog_10_method_42_code 97 = .ok (.iconst 0, 1) := by decide +kernel
theorem d_Mod_firemenMeet_98 : decode prog_10_method_42_code 98 = .ok (.istore_n 3, 1) := by decide +kernel
theorem d_Mod_firemenMeet_99 : decode prog_10_method_42_code 99 = .ok (.aload_n 0, 1) := by decide +kernel
theorem d_Mod_firemenMeet_100 : decode prog_10_method_42_code 100 = .ok (.getfield 9, 3) := by decide +kernel
theorem d_Mod_firemenMeet_103 : decode prog_10_method_42_code 103 = .ok (.iload_n 2, 1) := by decide +kernel
theorem d_Mod_firemenMeet_104 : decode prog_10_method_42_code 104 = .ok (.iconst 2, 1) := by decide +kernel
theorem d_Mod_firemenMeet_105 : decode prog_10_method_42_code 105 = .ok (.invokestatic 72, 3) := by decide +kernel
theorem d_Mod_firemenMeet_108 : decode prog_10_method_42_code 108 = .ok (.iload_n 3, 1) := by decide +kernel
theorem d_Mod_firemenMeet_109 : decode prog_10_method_42_code 109 = .ok (.ifCond .eq 7, 3) := by decide +kernel
theorem d_Mod_firemenMeet_112 : decode prog_10_method_42_code 112 = .ok (.iconst 1, 1) := by decide +kernel
theorem d_Mod_firemenMeet_113 : decode prog_10_method_42_code 113 = .ok (.goto 9, 3) := by decide +kernel
theorem d_Mod_firemenMeet_116 : decode prog_10_method_42_code 116 = .ok (.aload_n 0, 1) := by decide +kernel
theorem d_Mod_firemenMeet_117 : decode prog_10_method_42_code 117 = .ok (.iload_n 2, 1) := by decide +kernel
theorem d_Mod_firemenMeet_118 : decode prog_10_method_42_code 118 = .ok (.iconst 2, 1) := by decide +kernel
theorem d_Mod_firemenMeet_119 : decode prog_10_method_42_code 119 = .ok (.invokevirtual 104, 3) := by decide +kernel
theorem d_Mod_firemenMeet_122 : decode prog_10_method_42_code 122 = .ok (.iastore, 1) := by decide +kernel
theorem d_Mod_firemenMeet_123 : decode prog_10_method_42_code 123 = .ok (.iinc 2 1, 3) := by decide +kernel
theorem d_Mod_firemenMeet_126 : decode prog_10_method_42_code 126 = .ok (.goto (-84), 3) := by decide +kernel
theorem d_Mod_firemenMeet_129 : decode prog_10_method_42_code 129 = .ok (.iinc 1 1, 3) := by decide +kernel
theorem d_Mod_firemenMeet_132 : decode prog_10_method_42_code 132 = .ok (.goto (-130), 3) := by decide +kernel
theorem d_Mod_firemenMeet_135 : decode prog_10_method_42_code 135 = .ok (.return_, 1) := by decide +kernel
theorem d_Mod_comesOn_0 : decode prog_10_method_43_code 0 = .ok (.iconst 0, 1) := by decide +kernel
theorem d_Mod_comesOn_1 : decode prog_10_method_43_code 1 = .ok (.istore_n 3, 1) := by decide +kernel
theorem d_Mod_comesOn_2 : decode prog_10_method_43_code 2 = .ok (.iload_n 3, 1) := by decide +kernel
theorem d_Mod_comesOn_3 : decode prog_10_method_43_code 3 = .ok (.aload_n 0, 1) := by decide +kernel
theorem d_Mod_comesOn_4 : decode prog_10_method_43_code 4 = .ok (.getfield 9, 3) := by decide +kernel
theorem d_Mod_comesOn_7 : decode prog_10_method_43_code 7 = .ok (.iconst 3, 1) := by decide +kernel
theorem d_Mod_comesOn_8 : decode prog_10_method_43_code 8 = .ok (.iaload, 1) := by decide +kernel
theorem d_Mod_comesOn_9 : decode prog_10_method_43_code 9 = .ok (.if_icmp .ge 75, 3) := by decide +kernel
theorem d_Mod_comesOn_12 : decode prog_10_method_43_code 12 = .ok (.aload_n 0, 1) := by decide +kernel
theorem d_Mod_comesOn_13 : decode prog_10_method_43_code 13 = .ok (.iload_n 3, 1) := by decide +kernel
theorem d_Mod_comesOn_14 : decode prog_10_method_43_code 14 = .ok (.invokevirtual 160, 3) := by decide +kernel
theorem d_Mod_comesOn_17 : decode prog_10_method_43_code 17 = .ok (.ifCond .eq 61, 3) := by decide +kernel
theorem d_Mod_comesOn_20 : decode prog_10_method_43_code 20 = .ok (.aload_n 0, 1) := by decide +kernel
theorem d_Mod_comesOn_21 : decode prog_10_method_43_code 21 = .ok (.iload_n 3, 1) := by decide +kernel
theorem d_Mod_comesOn_22 : decode prog_10_method_43_code 22 = .ok (.iconst 1, 1) := by decide +kernel
theorem d_Mod_comesOn_23 : decode prog_10_method_43_code 23 = .ok (.invokevirtual 94, 3) := by decide +kernel
theorem d_Mod_comesOn_26 : decode prog_10_method_43_code 26 = .ok (.iload_n 2, 1) := by decide +kernel
theorem d_Mod_comesOn_27 : decode prog_10_method_43_code 27 = .ok (.if_icmp .ne 51, 3) := by decide +kernel
theorem d_Mod_comesOn_30 : decode prog_10_method_43_code 30 = .ok (.aload_n 0, 1) := by decide +kernel
theorem d_Mod_comesOn_31 : decode prog_10_method_43_code 31 = .ok (.iload_n 3, 1) := by decide +kernel
theorem d_Mod_comesOn_32 : decode prog_10_method_43_code 32 = .ok (.aload_n 0, 1) := by decide +kernel
theorem d_Mod_comesOn_33 : decode prog_10_method_43_code 33 = .ok (.iload_n 3, 1) := by decide +kernel
theorem d_Mod_comesOn_34 : decode prog_10_method_43_code 34 = .ok (.iconst 0, 1) := by decide +kernel
theorem d_Mod_comesOn_35 : decode prog_10_method_43_code 35 = .ok (.invokevirtual 94, 3) := by decide +kernel
theorem d_Mod_comesOn_38 : decode prog_10_method_43_code 38 = .ok (.aload_n 0, 1) := by decide +kernel
theorem d_Mod_comesOn_39 : decode prog_10_method_43_code 39 = .ok (.iload_n 1, 1) := by decide +kernel
theorem d_Mod_comesOn_40 : decode prog_10_method_43_code 40 = .ok (.iconst 1, 1) := by decide +kernel
theorem d_Mod_comesOn_41 : decode prog_10_method_43_code 41 = .ok (.invokevirtual 104, 3) := by decide +kernel
theorem d_Mod_comesOn_44 : decode prog_10_method_43_code 44 = .ok (.aload_n 0, 1) := by decide +kernel
theorem d_Mod_comesOn_45 : decode prog_10_method_43_code 45 = .ok (.iload_n 3, 1) := by decide +kernel
theorem d_Mod_comesOn_46 : decode prog_10_method_43_code 46 = .ok (.bipush 6, 2) := by decide +kernel
theorem d_Mod_comesOn_48 : decode prog_10_method_43_code 48 = .ok (.invokevirtual 94, 3) := by decide +kernel
theorem d_Mod_comesOn_51 : decode prog_10_method_43_code 51 = .ok (.iload_n 1, 1) := by decide +kernel
theorem d_Mod_comesOn_52 : decode prog_10_method_43_code 52 = .ok (.invokestatic 97, 3) := by decide +kernel
theorem d_Mod_comesOn_55 : decode prog_10_method_43_code 55 = .ok (.invokestatic 135, 3) := by decide +kernel
theorem d_Mod_comesOn_58 : decode prog_10_method_43_code 58 = .ok (.invokevirtual 142, 3) := by decide +kernel
theorem d_Mod_comesOn_61 : decode prog_10_method_43_code 61 = .ok (.aload_n 0, 1) := by decide +kernel
theorem d_Mod_comesOn_62 : decode prog_10_method_43_code 62 = .ok (.getfield 9, 3) := by decide +kernel
theorem d_Mod_comesOn_65 : decode prog_10_method_43_code 65 = .ok (.iload_n 3, 1) := by decide +kernel
theorem d_Mod_comesOn_66 : decode prog_10_method_43_code 66 = .ok (.bipush 6, 2) := by decide +kernel
theorem d_Mod_comesOn_68 : decode prog_10_method_43_code 68 = .ok (.invokestatic 76, 3) := by decide +kernel
theorem d_Mod_comesOn_71 : decode prog_10_method_43_code 71 = .ok (.dup2, 1) := by decide +kernel
theorem d_Mod_comesOn_72 : decode prog_10_method_43_code 72 = .ok (.iaload, 1) := by decide +kernel
theorem d_Mod_comesOn_73 : decode prog_10_method_43_code 73 = .ok (.iconst 1, 1) := by decide +kernel
theorem d_Mod_comesOn_74 : decode prog_10_method_43_code 74 = .ok (.iload_n 1, 1) := by decide +kernel
theorem d_Mod_comesOn_75 : decode prog_10_method_43_code 75 = .ok (.ishl, 1) := by decide +kernel
theorem d_Mod_comesOn_76 : decode prog_10_method_43_code 76 = .ok (.ior, 1) := by decide +kernel
theorem d_Mod_comesOn_77 : decode prog_10_method_43_code 77 = .ok (.iastore, 1) := by decide +kernel
theorem d_Mod_comesOn_78 : decode prog_10_method_43_code 78 = .ok (.iinc 3 1, 3) := by decide +kernel
theorem d_Mod_comesOn_81 : decode prog_10_method_43_code 81 = .ok (.goto (-79), 3) := by decide +kernel
theorem d_Mod_comesOn_84 : decode prog_10_method_43_code 84 = .ok (.return_, 1) := by decide +kernel
theorem d_Mod_sumOf_0 : decode prog_10_method_46_code 0 = .ok (.iconst 0, 1) := by decide +kernel
theorem d_Mod_sumOf_1 : decode prog_10_method_46_code 1 = .ok (.istore_n 2, 1) := by decide +kernel
theorem d_Mod_sumOf_2 : decode prog_10_method_46_code 2 = .ok (.iconst 0, 1) := by decide +kernel
theorem d_Mod_sumOf_3 : decode prog_10_method_46_code 3 = .ok (.istore_n 3, 1) := by decide +kernel
theorem d_Mod_sumOf_4 : decode prog_10_method_46_code 4 = .ok (.iload_n 3, 1) := by decide +kernel
theorem d_Mod_sumOf_5 : decode prog_10_method_46_code 5 = .ok (.aload_n 0, 1) := by decide +kernel
theorem d_Mod_sumOf_6 : decode prog_10_method_46_code 6 = .ok (.getfield 9, 3) := by decide +kernel
theorem d_Mod_sumOf_9 : decode prog_10_method_46_code 9 = .ok (.iconst 3, 1) := by decide +kernel
theorem d_Mod_sumOf_10 : decode prog_10_method_46_code 10 = .ok (.iaload, 1) := by decide +kernel
theorem d_Mod_sumOf_11 : decode prog_10_method_46_code 11 = .ok (.if_icmp .ge 18, 3) := by decide +kernel
theorem d_Mod_sumOf_14 : decode prog_10_method_46_code 14 = .ok (.iload_n 2, 1) := by decide +kernel
theorem d_Mod_sumOf_15 : decode prog_10_method_46_code 15 = .ok (.aload_n 0, 1) := by decide +kernel
theorem d_Mod_sumOf_16 : decode prog_10_method_46_code 16 = .ok (.iload_n 3, 1) := by decide +kernel
theorem d_Mod_sumOf_17 : decode prog_10_method_46_code 17 = .ok (.iload_n 1, 1) := by decide +kernel
theorem d_Mod_sumOf_18 : decode prog_10_method_46_code 18 = .ok (.invokevirtual 94, 3) := by decide +kernel
theorem d_Mod_sumOf_21 : decode prog_10_method_46_code 21 = .ok (.iadd, 1) := by decide +kernel
theorem d_Mod_sumOf_22 : decode prog_10_method_46_code 22 = .ok (.istore_n 2, 1) := by decide +kernel
theorem d_Mod_sumOf_23 : decode prog_10_method_46_code 23 = .ok (.iinc 3 1, 3) := by decide +kernel
theorem d_Mod_sumOf_26 : decode prog_10_method_46_code 26 = .ok (.goto (-22), 3) := by decide +kernel
theorem d_Mod_sumOf_29 : decode prog_10_method_46_code 29 = .ok (.iload_n 2, 1) := by decide +kernel
theorem d_Mod_sumOf_30 : decode prog_10_method_46_code 30 = .ok (.ireturn, 1) := by decide +kernel
theorem d_Mod_now_0 : decode prog_10_method_50_code 0 = .ok (.iload_n 1, 1) := by decide +kernel
theorem d_Mod_now_1 : decode prog_10_method_50_code 1 = .ok (.tableswitch 78 0 5 #[39, 46, 56, 62, 68, 73], 39) := by decide +kernel
theorem d_Mod_now_40 : decode prog_10_method_50_code 40 = .ok (.aload_n 0, 1) := by decide +kernel
theorem d_Mod_now_41 : decode prog_10_method_50_code 41 = .ok (.getfield 9, 3) := by decide +kernel
theorem d_Mod_now_44 : decode prog_10_method_50_code 44 = .ok (.iconst 0, 1) := by decide +kernel
theorem d_Mod_now_45 : decode prog_10_method_50_code 45 = .ok (.iaload, 1) := by decide +kernel
theorem d_Mod_now_46 : decode prog_10_method_50_code 46 = .ok (.ireturn, 1) := by decide +kernel
theorem d_Mod_now_47 : decode prog_10_method_50_code 47 = .ok (.aload_n 0, 1) := by decide +kernel
theorem d_Mod_now_48 : decode prog_10_method_50_code 48 = .ok (.getfield 9, 3) := by decide +kernel
theorem d_Mod_now_51 : decode prog_10_method_50_code 51 = .ok (.iconst 0, 1) := by decide +kernel
theorem d_Mod_now_52 : decode prog_10_method_50_code 52 = .ok (.iaload, 1) := by decide +kernel
theorem d_Mod_now_53 : decode prog_10_method_50_code 53 = .ok (.bipush 24, 2) := by decide +kernel
theorem d_Mod_now_55 : decode prog_10_method_50_code 55 = .ok (.irem, 1) := by decide +kernel
theorem d_Mod_now_56 : decode prog_10_method_50_code 56 = .ok (.ireturn, 1) := by decide +kernel
theorem d_Mod_now_57 : decode prog_10_method_50_code 57 = .ok (.aload_n 0, 1) := by decide +kernel
theorem d_Mod_now_58 : decode prog_10_method_50_code 58 = .ok (.iconst 2, 1) := by decide +kernel
theorem d_Mod_now_59 : decode prog_10_method_50_code 59 = .ok (.invokevirtual 178, 3) := by decide +kernel
theorem d_Mod_now_62 : decode prog_10_method_50_code 62 = .ok (.ireturn, 1) := by decide +kernel
theorem d_Mod_now_63 : decode prog_10_method_50_code 63 = .ok (.aload_n 0, 1) := by decide +kernel
theorem d_Mod_now_64 : decode prog_10_method_50_code 64 = .ok (.iconst 5, 1) := by decide +kernel
theorem d_Mod_now_65 : decode prog_10_method_50_code 65 = .ok (.invokevirtual 178, 3) := by decide +kernel
theorem d_Mod_now_68 : decode prog_10_method_50_code 68 = .ok (.ireturn, 1) := by decide +kernel
theorem d_Mod_now_69 : decode prog_10_method_50_code 69 = .ok (.aload_n 0, 1) := by decide +kernel
theorem d_Mod_now_70 : decode prog_10_method_50_code 70 = .ok (.invokevirtual 181, 3) := by decide +kernel
theorem d_Mod_now_73 : decode prog_10_method_50_code 73 = .ok (.ireturn, 1) := by decide +kernel
theorem d_Mod_now_74 : decode prog_10_method_50_code 74 = .ok (.aload_n 0, 1) := by decide +kernel
theorem d_Mod_now_75 : decode prog_10_method_50_code 75 = .ok (.invokevirtual 185, 3) := by decide +kernel
theorem d_Mod_now_78 : decode prog_10_method_50_code 78 = .ok (.ireturn, 1) := by decide +kernel
theorem d_Mod_now_79 : decode prog_10_method_50_code 79 = .ok (.aload_n 0, 1) := by decide +kernel
theorem d_Mod_now_80 : decode prog_10_method_50_code 80 = .ok (.ldc 63, 2) := by decide +kernel
theorem d_Mod_now_82 : decode prog_10_method_50_code 82 = .ok (.invokevirtual 82, 3) := by decide +kernel
theorem d_Mod_now_85 : decode prog_10_method_50_code 85 = .ok (.ireturn, 1) := by decide +kernel
theorem d_Mod_onLeft_0 : decode prog_10_method_49_code 0 = .ok (.iconst 0, 1) := by decide +kernel
theorem d_Mod_onLeft_1 : decode prog_10_method_49_code 1 = .ok (.istore_n 1, 1) := by decide +kernel
theorem d_Mod_onLeft_2 : decode prog_10_method_49_code 2 = .ok (.iconst 0, 1) := by decide +kernel
theorem d_Mod_onLeft_3 : decode prog_10_method_49_code 3 = .ok (.istore_n 2, 1) := by decide +kernel
theorem d_Mod_onLeft_4 : decode prog_10_method_49_code 4 = .ok (.iload_n 2, 1) := by decide +kernel
theorem d_Mod_onLeft_5 : decode prog_10_method_49_code 5 = .ok (.aload_n 0, 1) := by decide +kernel
theorem d_Mod_onLeft_6 : decode prog_10_method_49_code 6 = .ok (.getfield 9, 3) := by decide +kernel
theorem d_Mod_onLeft_9 : decode prog_10_method_49_code 9 = .ok (.iconst 3, 1) := by decide +kernel
theorem d_Mod_onLeft_10 : decode prog_10_method_49_code 10 = .ok (.iaload, 1) := by decide +kernel
theorem d_Mod_onLeft_11 : decode prog_10_method_49_code 11 = .ok (.if_icmp .ge 29, 3) := by decide +kernel
theorem d_Mod_onLeft_14 : decode prog_10_method_49_code 14 = .ok (.iload_n 1, 1) := by decide +kernel
theorem d_Mod_onLeft_15 : decode prog_10_method_49_code 15 = .ok (.aload_n 0, 1) := by decide +kernel
theorem d_Mod_onLeft_16 : decode prog_10_method_49_code 16 = .ok (.iload_n 2, 1) := by decide +kernel
theorem d_Mod_onLeft_17 : decode prog_10_method_49_code 17 = .ok (.iconst 1, 1) := by decide +kernel
theorem d_Mod_onLeft_18 : decode prog_10_method_49_code 18 = .ok (.invokevirtual 94, 3) := by decide +kernel
theorem d_Mod_onLeft_21 : decode prog_10_method_49_code 21 = .ok (.iconst 1, 1) := by decide +kernel
theorem d_Mod_onLeft_22 : decode prog_10_method_49_code 22 = .ok (.if_icmp .ne 9, 3) := by decide +kernel
theorem d_Mod_onLeft_25 : decode prog_10_method_49_code 25 = .ok (.iconst 1, 1) := by decide +kernel
theorem d_Mod_onLeft_26 : decode prog_10_method_49_code 26 = .ok (.iload_n 2, 1) := by decide +kernel
theorem d_Mod_onLeft_27 : decode prog_10_method_49_code 27 = .ok (.ishl, 1) := by decide +kernel
theorem d_Mod_onLeft_28 : decode prog_10_method_49_code 28 = .ok (.goto 4, 3) := by decide +kernel
theorem d_Mod_onLeft_31 : decode prog_10_method_49_code 31 = .ok (.iconst 0, 1) := by decide +kernel
theorem d_Mod_onLeft_32 : decode prog_10_method_49_code 32 = .ok (.ior, 1) := by decide +kernel
theorem d_Mod_onLeft_33 : decode prog_10_method_49_code 33 = .ok (.istore_n 1, 1) := by decide +kernel
theorem d_Mod_onLeft_34 : decode prog_10_method_49_code 34 = .ok (.iinc 2 1, 3) := by decide +kernel
theorem d_Mod_onLeft_37 : decode prog_10_method_49_code 37 = .ok (.goto (-33), 3) := by decide +kernel
theorem d_Mod_onLeft_40 : decode prog_10_method_49_code 40 = .ok (.iload_n 1, 1) := by decide +kernel
theorem d_Mod_onLeft_41 : decode prog_10_method_49_code 41 = .ok (.ireturn, 1) := by decide +kernel
theorem d_Mod_metNow_0 : decode prog_10_method_48_code 0 = .ok (.iconst 0, 1) := by decide +kernel
theorem d_Mod_metNow_1 : decode prog_10_method_48_code 1 = .ok (.istore_n 1, 1) := by decide +kernel
theorem d_Mod_metNow_2 : decode prog_10_method_48_code 2 = .ok (.iconst 0, 1) := by decide +kernel
theorem d_Mod_metNow_3 : decode prog_10_method_48_code 3 = .ok (.istore_n 2, 1) := by decide +kernel
theorem d_Mod_metNow_4 : decode prog_10_method_48_code 4 = .ok (.iload_n 2, 1) := by decide +kernel
theorem d_Mod_metNow_5 : decode prog_10_method_48_code 5 = .ok (.aload_n 0, 1) := by decide +kernel
theorem d_Mod_metNow_6 : decode prog_10_method_48_code 6 = .ok (.getfield 9, 3) := by decide +kernel
theorem d_Mod_metNow_9 : decode prog_10_method_48_code 9 = .ok (.iconst 2, 1) := by decide +kernel
theorem d_Mod_metNow_10 : decode prog_10_method_48_code 10 = .ok (.iaload, 1) := by decide +kernel
theorem d_Mod_metNow_11 : decode prog_10_method_48_code 11 = .ok (.if_icmp .ge 29, 3) := by decide +kernel
theorem d_Mod_metNow_14 : decode prog_10_method_48_code 14 = .ok (.iload_n 1, 1) := by decide +kernel
theorem d_Mod_metNow_15 : decode prog_10_method_48_code 15 = .ok (.aload_n 0, 1) := by decide +kernel
theorem d_Mod_metNow_16 : decode prog_10_method_48_code 16 = .ok (.iload_n 2, 1) := by decide +kernel
theorem d_Mod_metNow_17 : decode prog_10_method_48_code 17 = .ok (.iconst 2, 1) := by decide +kernel
theorem d_Mod_metNow_18 : decode prog_10_method_48_code 18 = .ok (.invokevirtual 104, 3) := by decide +kernel
theorem d_Mod_metNow_21 : decode prog_10_method_48_code 21 = .ok (.iconst 1, 1) := by decide +kernel
theorem d_Mod_metNow_22 : decode prog_10_method_48_code 22 = .ok (.if_icmp .ne 9, 3) := by decide +kernel
theorem d_Mod_metNow_25 : decode prog_10_method_48_code 25 = .ok (.iconst 1, 1) := by decide +kernel
theorem d_Mod_metNow_26 : decode prog_10_method_48_code 26 = .ok (.iload_n 2, 1) := by decide +kernel
theorem d_Mod_metNow_27 : decode prog_10_method_48_code 27 = .ok (.ishl, 1) := by decide +kernel
theorem d_Mod_metNow_28 : decode prog_10_method_48_code 28 = .ok (.goto 4, 3) := by decide +kernel
theorem d_Mod_metNow_31 : decode prog_10_method_48_code 31 = .ok (.iconst 0, 1) := by decide +kernel
theorem d_Mod_metNow_32 : decode prog_10_method_48_code 32 = .ok (.ior, 1) := by decide +kernel
theorem d_Mod_metNow_33 : decode prog_10_method_48_code 33 = .ok (.istore_n 1, 1) := by decide +kernel
theorem d_Mod_metNow_34 : decode prog_10_method_48_code 34 = .ok (.iinc 2 1, 3) := by decide +kernel
theorem d_Mod_metNow_37 : decode prog_10_method_48_code 37 = .ok (.goto (-33), 3) := by decide +kernel
theorem d_Mod_metNow_40 : decode prog_10_method_48_code 40 = .ok (.iload_n 1, 1) := by decide +kernel
theorem d_Mod_metNow_41 : decode prog_10_method_48_code 41 = .ok (.ireturn, 1) := by decide +kernel
theorem d_Mod_on_0 : decode prog_10_method_53_code 0 = .ok (.aload_n 0, 1) := by decide +kernel
theorem d_Mod_on_1 : decode prog_10_method_53_code 1 = .ok (.iload_n 1, 1) := by decide +kernel
theorem d_Mod_on_2 : decode prog_10_method_53_code 2 = .ok (.invokevirtual 122, 3) := by decide +kernel
theorem d_Mod_on_5 : decode prog_10_method_53_code 5 = .ok (.ifCond .eq 22, 3) := by decide +kernel
theorem d_Mod_on_8 : decode prog_10_method_53_code 8 = .ok (.iload_n 2, 1) := by decide +kernel
theorem d_Mod_on_9 : decode prog_10_method_53_code 9 = .ok (.iconst 0, 1) := by decide +kernel
theorem d_Mod_on_10 : decode prog_10_method_53_code 10 = .ok (.bipush 72, 2) := by decide +kernel
theorem d_Mod_on_12 : decode prog_10_method_53_code 12 = .ok (.invokestatic 68, 3) := by decide +kernel
theorem d_Mod_on_15 : decode prog_10_method_53_code 15 = .ok (.ifCond .eq 12, 3) := by decide +kernel
theorem d_Mod_on_18 : decode prog_10_method_53_code 18 = .ok (.iload_n 3, 1) := by decide +kernel
theorem d_Mod_on_19 : decode prog_10_method_53_code 19 = .ok (.iconst 0, 1) := by decide +kernel
theorem d_Mod_on_20 : decode prog_10_method_53_code 20 = .ok (.iconst 3, 1) := by decide +kernel
theorem d_Mod_on_21 : decode prog_10_method_53_code 21 = .ok (.invokestatic 68, 3) := by decide +kernel
theorem d_Mod_on_24 : decode prog_10_method_53_code 24 = .ok (.ifCond .ne 10, 3) := by decide +kernel
theorem d_Mod_on_27 : decode prog_10_method_53_code 27 = .ok (.aload_n 0, 1) := by decide +kernel
theorem d_Mod_on_28 : decode prog_10_method_53_code 28 = .ok (.ldc 63, 2) := by decide +kernel
theorem d_Mod_on_30 : decode prog_10_method_53_code 30 = .ok (.invokevirtual 82, 3) := by decide +kernel
theorem d_Mod_on_33 : decode prog_10_method_53_code 33 = .ok (.ireturn, 1) := by decide +kernel
theorem d_Mod_on_34 : decode prog_10_method_53_code 34 = .ok (.aload_n 0, 1) := by decide +kernel
theorem d_Mod_on_35 : decode prog_10_method_53_code 35 = .ok (.iload_n 1, 1) := by decide +kernel
theorem d_Mod_on_36 : decode prog_10_method_53_code 36 = .ok (.iload_n 2, 1) := by decide +kernel
theorem d_Mod_on_37 : decode prog_10_method_53_code 37 = .ok (.iload_n 3, 1) := by decide +kernel
theorem d_Mod_on_38 : decode prog_10_method_53_code 38 = .ok (.ifCond .ne 7, 3) := by decide +kernel
theorem d_Mod_on_41 : decode prog_10_method_53_code 41 = .ok (.iconst 2, 1) := by decide +kernel
theorem d_Mod_on_42 : decode prog_10_method_53_code 42 = .ok (.goto 23, 3) := by decide +kernel
theorem d_Mod_on_45 : decode prog_10_method_53_code 45 = .ok (.iload_n 3, 1) := by decide +kernel
theorem d_Mod_on_46 : decode prog_10_method_53_code 46 = .ok (.iconst 1, 1) := by decide +kernel
theorem d_Mod_on_47 : decode prog_10_method_53_code 47 = .ok (.if_icmp .ne 7, 3) := by decide +kernel
theorem d_Mod_on_50 : decode prog_10_method_53_code 50 = .ok (.iconst 1, 1) := by decide +kernel
theorem d_Mod_on_51 : decode prog_10_method_53_code 51 = .ok (.goto 14, 3) := by decide +kernel
theorem d_Mod_on_54 : decode prog_10_method_53_code 54 = .ok (.iload_n 3, 1) := by decide +kernel
theorem d_Mod_on_55 : decode prog_10_method_53_code 55 = .ok (.iconst 2, 1) := by decide +kernel
theorem d_Mod_on_56 : decode prog_10_method_53_code 56 = .ok (.if_icmp .ne 7, 3) := by decide +kernel
theorem d_Mod_on_59 : decode prog_10_method_53_code 59 = .ok (.iconst 5, 1) := by decide +kernel
theorem d_Mod_on_60 : decode prog_10_method_53_code 60 = .ok (.goto 5, 3) := by decide +kernel
theorem d_Mod_on_63 : decode prog_10_method_53_code 63 = .ok (.bipush 6, 2) := by decide +kernel
theorem d_Mod_on_65 : decode prog_10_method_53_code 65 = .ok (.invokevirtual 191, 3) := by decide +kernel
theorem d_Mod_on_68 : decode prog_10_method_53_code 68 = .ok (.ireturn, 1) := by decide +kernel
theorem d_Mod_fieldOn_0 : decode prog_10_method_51_code 0 = .ok (.aload_n 0, 1) := by decide +kernel
theorem d_Mod_fieldOn_1 : decode prog_10_method_51_code 1 = .ok (.getfield 9, 3) := by decide +kernel
theorem d_Mod_fieldOn_4 : decode prog_10_method_51_code 4 = .ok (.aload_n 0, 1) := by decide +kernel
theorem d_Mod_fieldOn_5 : decode prog_10_method_51_code 5 = .ok (.getfield 16, 3) := by decide +kernel
theorem d_Mod_fieldOn_8 : decode prog_10_method_51_code 8 = .ok (.invokestatic 64, 3) := by decide +kernel
theorem d_Mod_fieldOn_11 : decode prog_10_method_51_code 11 = .ok (.aload_n 0, 1) := by decide +kernel
theorem d_Mod_fieldOn_12 : decode prog_10_method_51_code 12 = .ok (.iload_n 2, 1) := by decide +kernel
theorem d_Mod_fieldOn_13 : decode prog_10_method_51_code 13 = .ok (.invokevirtual 175, 3) := by decide +kernel
theorem d_Mod_fieldOn_16 : decode prog_10_method_51_code 16 = .ok (.aload_n 0, 1) := by decide +kernel
theorem d_Mod_fieldOn_17 : decode prog_10_method_51_code 17 = .ok (.aload_n 0, 1) := by decide +kernel
theorem d_Mod_fieldOn_18 : decode prog_10_method_51_code 18 = .ok (.iload_n 1, 1) := by decide +kernel
theorem d_Mod_fieldOn_19 : decode prog_10_method_51_code 19 = .ok (.iload_n 3, 1) := by decide +kernel
theorem d_Mod_fieldOn_20 : decode prog_10_method_51_code 20 = .ok (.invokevirtual 94, 3) := by decide +kernel
theorem d_Mod_fieldOn_23 : decode prog_10_method_51_code 23 = .ok (.invokevirtual 188, 3) := by decide +kernel
theorem d_Mod_fieldOn_26 : decode prog_10_method_51_code 26 = .ok (.ireturn, 1) := by decide +kernel
theorem d_Mod_copyRow_0 : decode prog_10_method_5_code 0 = .ok (.iconst 0, 1) := by decide +kernel
theorem d_Mod_copyRow_1 : decode prog_10_method_5_code 1 = .ok (.istore_n 2, 1) := by decide +kernel
theorem d_Mod_copyRow_2 : decode prog_10_method_5_code 2 = .ok (.iload_n 2, 1) := by decide +kernel
theorem d_Mod_copyRow_3 : decode prog_10_method_5_code 3 = .ok (.bipush 84, 2) := by decide +kernel
theorem d_Mod_copyRow_5 : decode prog_10_method_5_code 5 = .ok (.if_icmp .ge 15, 3) := by decide +kernel
theorem d_Mod_copyRow_8 : decode prog_10_method_5_code 8 = .ok (.aload_n 1, 1) := by decide +kernel
theorem d_Mod_copyRow_9 : decode prog_10_method_5_code 9 = .ok (.iload_n 2, 1) := by decide +kernel
theorem d_Mod_copyRow_10 : decode prog_10_method_5_code 10 = .ok (.aload_n 0, 1) := by decide +kernel
theorem d_Mod_copyRow_11 : decode prog_10_method_5_code 11 = .ok (.iload_n 2, 1) := by decide +kernel
theorem d_Mod_copyRow_12 : decode prog_10_method_5_code 12 = .ok (.iaload, 1) := by decide +kernel
theorem d_Mod_copyRow_13 : decode prog_10_method_5_code 13 = .ok (.iastore, 1) := by decide +kernel
theorem d_Mod_copyRow_14 : decode prog_10_method_5_code 14 = .ok (.iinc 2 1, 3) := by decide +kernel
theorem d_Mod_copyRow_17 : decode prog_10_method_5_code 17 = .ok (.goto (-15), 3) := by decide +kernel
theorem d_Mod_copyRow_20 : decode prog_10_method_5_code 20 = .ok (.return_, 1) := by decide +kernel
theorem d_Mod_putBack_0 : decode prog_10_method_6_code 0 = .ok (.aload_n 0, 1) := by decide +kernel
theorem d_Mod_putBack_1 : decode prog_10_method_6_code 1 = .ok (.getfield 16, 3) := by decide +kernel
theorem d_Mod_putBack_4 : decode prog_10_method_6_code 4 = .ok (.aload_n 0, 1) := by decide +kernel
theorem d_Mod_putBack_5 : decode prog_10_method_6_code 5 = .ok (.getfield 9, 3) := by decide +kernel
theorem d_Mod_putBack_8 : decode prog_10_method_6_code 8 = .ok (.invokestatic 64, 3) := by decide +kernel
theorem d_Mod_putBack_11 : decode prog_10_method_6_code 11 = .ok (.iload_n 1, 1) := by decide +kernel
theorem d_Mod_putBack_12 : decode prog_10_method_6_code 12 = .ok (.ireturn, 1) := by decide +kernel
theorem d_Mod_learns_0 : decode prog_10_method_56_code 0 = .ok (.aload_n 0, 1) := by decide +kernel
theorem d_Mod_learns_1 : decode prog_10_method_56_code 1 = .ok (.iload_n 1, 1) := by decide +kernel
theorem d_Mod_learns_2 : decode prog_10_method_56_code 2 = .ok (.invokevirtual 122, 3) := by decide +kernel
theorem d_Mod_learns_5 : decode prog_10_method_56_code 5 = .ok (.ifCond .eq 24, 3) := by decide +kernel
theorem d_Mod_learns_8 : decode prog_10_method_56_code 8 = .ok (.aload_n 0, 1) := by decide +kernel
theorem d_Mod_learns_9 : decode prog_10_method_56_code 9 = .ok (.iload_n 2, 1) := by decide +kernel
theorem d_Mod_learns_10 : decode prog_10_method_56_code 10 = .ok (.invokevirtual 101, 3) := by decide +kernel
theorem d_Mod_learns_13 : decode prog_10_method_56_code 13 = .ok (.ifCond .eq 16, 3) := by decide +kernel
theorem d_Mod_learns_16 : decode prog_10_method_56_code 16 = .ok (.aload_n 0, 1) := by decide +kernel
theorem d_Mod_learns_17 : decode prog_10_method_56_code 17 = .ok (.aload_n 0, 1) := by decide +kernel
theorem d_Mod_learns_18 : decode prog_10_method_56_code 18 = .ok (.iload_n 1, 1) := by decide +kernel
theorem d_Mod_learns_19 : decode prog_10_method_56_code 19 = .ok (.iload_n 2, 1) := by decide +kernel
theorem d_Mod_learns_20 : decode prog_10_method_56_code 20 = .ok (.invokevirtual 196, 3) := by decide +kernel
theorem d_Mod_learns_23 : decode prog_10_method_56_code 23 = .ok (.invokevirtual 199, 3) := by decide +kernel
theorem d_Mod_learns_26 : decode prog_10_method_56_code 26 = .ok (.goto 9, 3) := by decide +kernel
theorem d_Mod_learns_29 : decode prog_10_method_56_code 29 = .ok (.aload_n 0, 1) := by decide +kernel
theorem d_Mod_learns_30 : decode prog_10_method_56_code 30 = .ok (.ldc 63, 2) := by decide +kernel
theorem d_Mod_learns_32 : decode prog_10_method_56_code 32 = .ok (.invokevirtual 82, 3) := by decide +kernel
theorem d_Mod_learns_35 : decode prog_10_method_56_code 35 = .ok (.ireturn, 1) := by decide +kernel
theorem d_Mod_learnsIn_0 : decode prog_10_method_55_code 0 = .ok (.aload_n 0, 1) := by decide +kernel
theorem d_Mod_learnsIn_1 : decode prog_10_method_55_code 1 = .ok (.getfield 9, 3) := by decide +kernel
theorem d_Mod_learnsIn_4 : decode prog_10_method_55_code 4 = .ok (.aload_n 0, 1) := by decide +kernel
theorem d_Mod_learnsIn_5 : decode prog_10_method_55_code 5 = .ok (.getfield 16, 3) := by decide +kernel
theorem d_Mod_learnsIn_8 : decode prog_10_method_55_code 8 = .ok (.invokestatic 64, 3) := by decide +kernel
theorem d_Mod_learnsIn_11 : decode prog_10_method_55_code 11 = .ok (.iconst 0, 1) := by decide +kernel
theorem d_Mod_learnsIn_12 : decode prog_10_method_55_code 12 = .ok (.istore_n 3, 1) := by decide +kernel
theorem d_Mod_learnsIn_13 : decode prog_10_method_55_code 13 = .ok (.iload_n 3, 1) := by decide +kernel
theorem d_Mod_learnsIn_14 : decode prog_10_method_55_code 14 = .ok (.bipush 72, 2) := by decide +kernel
theorem d_Mod_learnsIn_16 : decode prog_10_method_55_code 16 = .ok (.if_icmp .ge 27, 3) := by decide +kernel
theorem d_Mod_learnsIn_19 : decode prog_10_method_55_code 19 = .ok (.aload_n 0, 1) := by decide +kernel
theorem d_Mod_learnsIn_20 : decode prog_10_method_55_code 20 = .ok (.iload_n 1, 1) := by decide +kernel
theorem d_Mod_learnsIn_21 : decode prog_10_method_55_code 21 = .ok (.bipush 6, 2) := by decide +kernel
theorem d_Mod_learnsIn_23 : decode prog_10_method_55_code 23 = .ok (.invokevirtual 94, 3) := by decide +kernel
theorem d_Mod_learnsIn_26 : decode prog_10_method_55_code 26 = .ok (.iload_n 2, 1) := by decide +kernel
theorem d_Mod_learnsIn_27 : decode prog_10_method_55_code 27 = .ok (.invokestatic 97, 3) := by decide +kernel
theorem d_Mod_learnsIn_30 : decode prog_10_method_55_code 30 = .ok (.ifCond .ne 13, 3) := by decide +kernel
theorem d_Mod_learnsIn_33 : decode prog_10_method_55_code 33 = .ok (.aload_n 0, 1) := by decide +kernel
theorem d_Mod_learnsIn_34 : decode prog_10_method_55_code 34 = .ok (.invokevirtual 172, 3) := by decide +kernel
theorem d_Mod_learnsIn_37 : decode prog_10_method_55_code 37 = .ok (.iinc 3 1, 3) := by decide +kernel
theorem d_Mod_learnsIn_40 : decode prog_10_method_55_code 40 = .ok (.goto (-27), 3) := by decide +kernel
theorem d_Mod_learnsIn_43 : decode prog_10_method_55_code 43 = .ok (.aload_n 0, 1) := by decide +kernel
theorem d_Mod_learnsIn_44 : decode prog_10_method_55_code 44 = .ok (.aload_n 0, 1) := by decide +kernel
theorem d_Mod_learnsIn_45 : decode prog_10_method_55_code 45 = .ok (.iload_n 1, 1) := by decide +kernel
theorem d_Mod_learnsIn_46 : decode prog_10_method_55_code 46 = .ok (.bipush 6, 2) := by decide +kernel
theorem d_Mod_learnsIn_48 : decode prog_10_method_55_code 48 = .ok (.invokevirtual 94, 3) := by decide +kernel
theorem d_Mod_learnsIn_51 : decode prog_10_method_55_code 51 = .ok (.iload_n 2, 1) := by decide +kernel
theorem d_Mod_learnsIn_52 : decode prog_10_method_55_code 52 = .ok (.invokestatic 97, 3) := by decide +kernel
theorem d_Mod_learnsIn_55 : decode prog_10_method_55_code 55 = .ok (.ifCond .eq 7, 3) := by decide +kernel
theorem d_Mod_learnsIn_58 : decode prog_10_method_55_code 58 = .ok (.iload_n 3, 1) := by decide +kernel
theorem d_Mod_learnsIn_59 : decode prog_10_method_55_code 59 = .ok (.goto 4, 3) := by decide +kernel
theorem d_Mod_learnsIn_62 : decode prog_10_method_55_code 62 = .ok (.iconst (-1), 1) := by decide +kernel
theorem d_Mod_learnsIn_63 : decode prog_10_method_55_code 63 = .ok (.invokevirtual 188, 3) := by decide +kernel
theorem d_Mod_learnsIn_66 : decode prog_10_method_55_code 66 = .ok (.ireturn, 1) := by decide +kernel
theorem d_Mod_orNone_0 : decode prog_10_method_54_code 0 = .ok (.iload_n 1, 1) := by decide +kernel
theorem d_Mod_orNone_1 : decode prog_10_method_54_code 1 = .ok (.ifCond .ge 12, 3) := by decide +kernel
theorem d_Mod_orNone_4 : decode prog_10_method_54_code 4 = .ok (.aload_n 0, 1) := by decide +kernel
theorem d_Mod_orNone_5 : decode prog_10_method_54_code 5 = .ok (.ldc 195, 2) := by decide +kernel
theorem d_Mod_orNone_7 : decode prog_10_method_54_code 7 = .ok (.invokevirtual 82, 3) := by decide +kernel
theorem d_Mod_orNone_10 : decode prog_10_method_54_code 10 = .ok (.goto 4, 3) := by decide +kernel
theorem d_Mod_orNone_13 : decode prog_10_method_54_code 13 = .ok (.iload_n 1, 1) := by decide +kernel
theorem d_Mod_orNone_14 : decode prog_10_method_54_code 14 = .ok (.ireturn, 1) := by decide +kernel
theorem d_Mod_first_0 : decode prog_10_method_57_code 0 = .ok (.aload_n 0, 1) := by decide +kernel
theorem d_Mod_first_1 : decode prog_10_method_57_code 1 = .ok (.iload_n 1, 1) := by decide +kernel
theorem d_Mod_first_2 : decode prog_10_method_57_code 2 = .ok (.invokevirtual 101, 3) := by decide +kernel
theorem d_Mod_first_5 : decode prog_10_method_57_code 5 = .ok (.ifCond .ne 10, 3) := by decide +kernel
theorem d_Mod_first_8 : decode prog_10_method_57_code 8 = .ok (.aload_n 0, 1) := by decide +kernel
theorem d_Mod_first_9 : decode prog_10_method_57_code 9 = .ok (.ldc 63, 2) := by decide +kernel
theorem d_Mod_first_11 : decode prog_10_method_57_code 11 = .ok (.invokevirtual 82, 3) := by decide +kernel
theorem d_Mod_first_14 : decode prog_10_method_57_code 14 = .ok (.ireturn, 1) := by decide +kernel
theorem d_Mod_first_15 : decode prog_10_method_57_code 15 = .ok (.aload_n 0, 1) := by decide +kernel
theorem d_Mod_first_16 : decode prog_10_method_57_code 16 = .ok (.getfield 9, 3) := by decide +kernel
theorem d_Mod_first_19 : decode prog_10_method_57_code 19 = .ok (.aload_n 0, 1) := by decide +kernel
theorem d_Mod_first_20 : decode prog_10_method_57_code 20 = .ok (.getfield 16, 3) := by decide +kernel
theorem d_Mod_first_23 : decode prog_10_method_57_code 23 = .ok (.invokestatic 64, 3) := by decide +kernel
theorem d_Mod_first_26 : decode prog_10_method_57_code 26 = .ok (.iconst 0, 1) := by decide +kernel
theorem d_Mod_first_27 : decode prog_10_method_57_code 27 = .ok (.istore_n 2, 1) := by decide +kernel
theorem d_Mod_first_28 : decode prog_10_method_57_code 28 = .ok (.iload_n 2, 1) := by decide +kernel
theorem d_Mod_first_29 : decode prog_10_method_57_code 29 = .ok (.bipush 72, 2) := by decide +kernel
theorem d_Mod_first_31 : decode prog_10_method_57_code 31 = .ok (.if_icmp .ge 21, 3) := by decide +kernel
theorem d_Mod_first_34 : decode prog_10_method_57_code 34 = .ok (.aload_n 0, 1) := by decide +kernel
theorem d_Mod_first_35 : decode prog_10_method_57_code 35 = .ok (.iload_n 1, 1) := by decide +kernel
theorem d_Mod_first_36 : decode prog_10_method_57_code 36 = .ok (.invokevirtual 107, 3) := by decide +kernel
theorem d_Mod_first_39 : decode prog_10_method_57_code 39 = .ok (.ifCond .ne 13, 3) := by decide +kernel
theorem d_Mod_first_42 : decode prog_10_method_57_code 42 = .ok (.aload_n 0, 1) := by decide +kernel
theorem d_Mod_first_43 : decode prog_10_method_57_code 43 = .ok (.invokevirtual 172, 3) := by decide +kernel
theorem d_Mod_first_46 : decode prog_10_method_57_code 46 = .ok (.iinc 2 1, 3) := by decide +kernel
theorem d_Mod_first_49 : decode prog_10_method_57_code 49 = .ok (.goto (-21), 3) := by decide +kernel
theorem d_Mod_first_52 : decode prog_10_method_57_code 52 = .ok (.aload_n 0, 1) := by decide +kernel
theorem d_Mod_first_53 : decode prog_10_method_57_code 53 = .ok (.iload_n 1, 1) := by decide +kernel
theorem d_Mod_first_54 : decode prog_10_method_57_code 54 = .ok (.invokevirtual 107, 3) := by decide +kernel
theorem d_Mod_first_57 : decode prog_10_method_57_code 57 = .ok (.istore_n 2, 1) := by decide +kernel
theorem d_Mod_first_58 : decode prog_10_method_57_code 58 = .ok (.iload_n 2, 1) := by decide +kernel
theorem d_Mod_first_59 : decode prog_10_method_57_code 59 = .ok (.ifCond .ne 7, 3) := by decide +kernel
theorem d_Mod_first_62 : decode prog_10_method_57_code 62 = .ok (.iconst (-1), 1) := by decide +kernel
theorem d_Mod_first_63 : decode prog_10_method_57_code 63 = .ok (.goto 4, 3) := by decide +kernel
theorem d_Mod_first_66 : decode prog_10_method_57_code 66 = .ok (.iconst 0, 1) := by decide +kernel
theorem d_Mod_first_67 : decode prog_10_method_57_code 67 = .ok (.istore_n 3, 1) := by decide +kernel
theorem d_Mod_first_68 : decode prog_10_method_57_code 68 = .ok (.iload_n 3, 1) := by decide +kernel
theorem d_Mod_first_69 : decode prog_10_method_57_code 69 = .ok (.ifCond .lt 17, 3) := by decide +kernel
theorem d_Mod_first_72 : decode prog_10_method_57_code 72 = .ok (.iload_n 2, 1) := by decide +kernel
theorem d_Mod_first_73 : decode prog_10_method_57_code 73 = .ok (.iload_n 3, 1) := by decide +kernel
theorem d_Mod_first_74 : decode prog_10_method_57_code 74 = .ok (.invokestatic 97, 3) := by decide +kernel
theorem d_Mod_first_77 : decode prog_10_method_57_code 77 = .ok (.ifCond .ne 9, 3) := by decide +kernel
theorem d_Mod_first_80 : decode prog_10_method_57_code 80 = .ok (.iinc 3 1, 3) := by decide +kernel
theorem d_Mod_first_83 : decode prog_10_method_57_code 83 = .ok (.goto (-15), 3) := by decide +kernel
theorem d_Mod_first_86 : decode prog_10_method_57_code 86 = .ok (.aload_n 0, 1) := by decide +kernel
theorem d_Mod_first_87 : decode prog_10_method_57_code 87 = .ok (.aload_n 0, 1) := by decide +kernel
theorem d_Mod_first_88 : decode prog_10_method_57_code 88 = .ok (.iload_n 3, 1) := by decide +kernel
theorem d_Mod_first_89 : decode prog_10_method_57_code 89 = .ok (.invokevirtual 188, 3) := by decide +kernel
theorem d_Mod_first_92 : decode prog_10_method_57_code 92 = .ok (.invokevirtual 199, 3) := by decide +kernel
theorem d_Mod_first_95 : decode prog_10_method_57_code 95 = .ok (.ireturn, 1) := by decide +kernel
theorem d_Mod_met_0 : decode prog_10_method_59_code 0 = .ok (.iload_n 1, 1) := by decide +kernel
theorem d_Mod_met_1 : decode prog_10_method_59_code 1 = .ok (.iconst 0, 1) := by decide +kernel
theorem d_Mod_met_2 : decode prog_10_method_59_code 2 = .ok (.bipush 72, 2) := by decide +kernel
theorem d_Mod_met_4 : decode prog_10_method_59_code 4 = .ok (.invokestatic 68, 3) := by decide +kernel
theorem d_Mod_met_7 : decode prog_10_method_59_code 7 = .ok (.ifCond .eq 11, 3) := by decide +kernel
theorem d_Mod_met_10 : decode prog_10_method_59_code 10 = .ok (.aload_n 0, 1) := by decide +kernel
theorem d_Mod_met_11 : decode prog_10_method_59_code 11 = .ok (.iload_n 1, 1) := by decide +kernel
theorem d_Mod_met_12 : decode prog_10_method_59_code 12 = .ok (.invokevirtual 202, 3) := by decide +kernel
theorem d_Mod_met_15 : decode prog_10_method_59_code 15 = .ok (.goto 9, 3) := by decide +kernel
theorem d_Mod_met_18 : decode prog_10_method_59_code 18 = .ok (.aload_n 0, 1) := by decide +kernel
theorem d_Mod_met_19 : decode prog_10_method_59_code 19 = .ok (.ldc 63, 2) := by decide +kernel
theorem d_Mod_met_21 : decode prog_10_method_59_code 21 = .ok (.invokevirtual 82, 3) := by decide +kernel
theorem d_Mod_met_24 : decode prog_10_method_59_code 24 = .ok (.ireturn, 1) := by decide +kernel
theorem d_Mod_metOn_0 : decode prog_10_method_58_code 0 = .ok (.aload_n 0, 1) := by decide +kernel
theorem d_Mod_metOn_1 : decode prog_10_method_58_code 1 = .ok (.getfield 9, 3) := by decide +kernel
theorem d_Mod_metOn_4 : decode prog_10_method_58_code 4 = .ok (.aload_n 0, 1) := by decide +kernel
theorem d_Mod_metOn_5 : decode prog_10_method_58_code 5 = .ok (.getfield 16, 3) := by decide +kernel
theorem d_Mod_metOn_8 : decode prog_10_method_58_code 8 = .ok (.invokestatic 64, 3) := by decide +kernel
theorem d_Mod_metOn_11 : decode prog_10_method_58_code 11 = .ok (.aload_n 0, 1) := by decide +kernel
theorem d_Mod_metOn_12 : decode prog_10_method_58_code 12 = .ok (.iload_n 1, 1) := by decide +kernel
theorem d_Mod_metOn_13 : decode prog_10_method_58_code 13 = .ok (.invokevirtual 175, 3) := by decide +kernel
theorem d_Mod_metOn_16 : decode prog_10_method_58_code 16 = .ok (.aload_n 0, 1) := by decide +kernel
theorem d_Mod_metOn_17 : decode prog_10_method_58_code 17 = .ok (.aload_n 0, 1) := by decide +kernel
theorem d_Mod_metOn_18 : decode prog_10_method_58_code 18 = .ok (.invokevirtual 185, 3) := by decide +kernel
theorem d_Mod_metOn_21 : decode prog_10_method_58_code 21 = .ok (.invokevirtual 188, 3) := by decide +kernel
theorem d_Mod_metOn_24 : decode prog_10_method_58_code 24 = .ok (.ireturn, 1) := by decide +kernel
theorem d_Mod_broke_0 : decode prog_10_method_60_code 0 = .ok (.aload_n 0, 1) := by decide +kernel
theorem d_Mod_broke_1 : decode prog_10_method_60_code 1 = .ok (.iload_n 1, 1) := by decide +kernel
theorem d_Mod_broke_2 : decode prog_10_method_60_code 2 = .ok (.invokevirtual 122, 3) := by decide +kernel
theorem d_Mod_broke_5 : decode prog_10_method_60_code 5 = .ok (.ifCond .ne 10, 3) := by decide +kernel
theorem d_Mod_broke_8 : decode prog_10_method_60_code 8 = .ok (.aload_n 0, 1) := by decide +kernel
theorem d_Mod_broke_9 : decode prog_10_method_60_code 9 = .ok (.ldc 63, 2) := by decide +kernel
theorem d_Mod_broke_11 : decode prog_10_method_60_code 11 = .ok (.invokevirtual 82, 3) := by decide +kernel
theorem d_Mod_broke_14 : decode prog_10_method_60_code 14 = .ok (.ireturn, 1) := by decide +kernel
theorem d_Mod_broke_15 : decode prog_10_method_60_code 15 = .ok (.aload_n 0, 1) := by decide +kernel
theorem d_Mod_broke_16 : decode prog_10_method_60_code 16 = .ok (.getfield 9, 3) := by decide +kernel
theorem d_Mod_broke_19 : decode prog_10_method_60_code 19 = .ok (.aload_n 0, 1) := by decide +kernel
theorem d_Mod_broke_20 : decode prog_10_method_60_code 20 = .ok (.getfield 16, 3) := by decide +kernel
theorem d_Mod_broke_23 : decode prog_10_method_60_code 23 = .ok (.invokestatic 64, 3) := by decide +kernel
theorem d_Mod_broke_26 : decode prog_10_method_60_code 26 = .ok (.iconst 0, 1) := by decide +kernel
theorem d_Mod_broke_27 : decode prog_10_method_60_code 27 = .ok (.istore_n 2, 1) := by decide +kernel
theorem d_Mod_broke_28 : decode prog_10_method_60_code 28 = .ok (.iload_n 2, 1) := by decide +kernel
theorem d_Mod_broke_29 : decode prog_10_method_60_code 29 = .ok (.bipush 72, 2) := by decide +kernel
theorem d_Mod_broke_31 : decode prog_10_method_60_code 31 = .ok (.if_icmp .ge 21, 3) := by decide +kernel
theorem d_Mod_broke_34 : decode prog_10_method_60_code 34 = .ok (.aload_n 0, 1) := by decide +kernel
theorem d_Mod_broke_35 : decode prog_10_method_60_code 35 = .ok (.iload_n 1, 1) := by decide +kernel
theorem d_Mod_broke_36 : decode prog_10_method_60_code 36 = .ok (.invokevirtual 146, 3) := by decide +kernel
theorem d_Mod_broke_39 : decode prog_10_method_60_code 39 = .ok (.ifCond .eq 13, 3) := by decide +kernel
theorem d_Mod_broke_42 : decode prog_10_method_60_code 42 = .ok (.aload_n 0, 1) := by decide +kernel
theorem d_Mod_broke_43 : decode prog_10_method_60_code 43 = .ok (.invokevirtual 172, 3) := by decide +kernel
theorem d_Mod_broke_46 : decode prog_10_method_60_code 46 = .ok (.iinc 2 1, 3) := by decide +kernel
theorem d_Mod_broke_49 : decode prog_10_method_60_code 49 = .ok (.goto (-21), 3) := by decide +kernel
theorem d_Mod_broke_52 : decode prog_10_method_60_code 52 = .ok (.aload_n 0, 1) := by decide +kernel
theorem d_Mod_broke_53 : decode prog_10_method_60_code 53 = .ok (.aload_n 0, 1) := by decide +kernel
theorem d_Mod_broke_54 : decode prog_10_method_60_code 54 = .ok (.aload_n 0, 1) := by decide +kernel
theorem d_Mod_broke_55 : decode prog_10_method_60_code 55 = .ok (.iload_n 1, 1) := by decide +kernel
theorem d_Mod_broke_56 : decode prog_10_method_60_code 56 = .ok (.invokevirtual 146, 3) := by decide +kernel
theorem d_Mod_broke_59 : decode prog_10_method_60_code 59 = .ok (.ifCond .eq 7, 3) := by decide +kernel
theorem d_Mod_broke_62 : decode prog_10_method_60_code 62 = .ok (.iconst (-1), 1) := by decide +kernel
theorem d_Mod_broke_63 : decode prog_10_method_60_code 63 = .ok (.goto 4, 3) := by decide +kernel
theorem d_Mod_broke_66 : decode prog_10_method_60_code 66 = .ok (.iload_n 2, 1) := by decide +kernel
theorem d_Mod_broke_67 : decode prog_10_method_60_code 67 = .ok (.invokevirtual 188, 3) := by decide +kernel
theorem d_Mod_broke_70 : decode prog_10_method_60_code 70 = .ok (.invokevirtual 199, 3) := by decide +kernel
theorem d_Mod_broke_73 : decode prog_10_method_60_code 73 = .ok (.ireturn, 1) := by decide +kernel
theorem d_Mod_clocks_0 : decode prog_10_method_62_code 0 = .ok (.aload_n 0, 1) := by decide +kernel
theorem d_Mod_clocks_1 : decode prog_10_method_62_code 1 = .ok (.iload_n 1, 1) := by decide +kernel
theorem d_Mod_clocks_2 : decode prog_10_method_62_code 2 = .ok (.invokevirtual 122, 3) := by decide +kernel
theorem d_Mod_clocks_5 : decode prog_10_method_62_code 5 = .ok (.ifCond .eq 22, 3) := by decide +kernel
theorem d_Mod_clocks_8 : decode prog_10_method_62_code 8 = .ok (.iload_n 2, 1) := by decide +kernel
theorem d_Mod_clocks_9 : decode prog_10_method_62_code 9 = .ok (.iconst 0, 1) := by decide +kernel
theorem d_Mod_clocks_10 : decode prog_10_method_62_code 10 = .ok (.bipush 48, 2) := by decide +kernel
theorem d_Mod_clocks_12 : decode prog_10_method_62_code 12 = .ok (.invokestatic 68, 3) := by decide +kernel
theorem d_Mod_clocks_15 : decode prog_10_method_62_code 15 = .ok (.ifCond .eq 12, 3) := by decide +kernel
theorem d_Mod_clocks_18 : decode prog_10_method_62_code 18 = .ok (.aload_n 0, 1) := by decide +kernel
theorem d_Mod_clocks_19 : decode prog_10_method_62_code 19 = .ok (.iload_n 1, 1) := by decide +kernel
theorem d_Mod_clocks_20 : decode prog_10_method_62_code 20 = .ok (.iload_n 2, 1) := by decide +kernel
theorem d_Mod_clocks_21 : decode prog_10_method_62_code 21 = .ok (.invokevirtual 211, 3) := by decide +kernel
theorem d_Mod_clocks_24 : decode prog_10_method_62_code 24 = .ok (.goto 9, 3) := by decide +kernel
theorem d_Mod_clocks_27 : decode prog_10_method_62_code 27 = .ok (.aload_n 0, 1) := by decide +kernel
theorem d_Mod_clocks_28 : decode prog_10_method_62_code 28 = .ok (.ldc 63, 2) := by decide +kernel
theorem d_Mod_clocks_30 : decode prog_10_method_62_code 30 = .ok (.invokevirtual 82, 3) := by decide +kernel
theorem d_Mod_clocks_33 : decode prog_10_method_62_code 33 = .ok (.ireturn, 1) := by decide +kernel
theorem d_Mod_findClocks_0 : decode prog_10_method_61_code 0 = .ok (.aload_n 0, 1) := by decide +kernel
theorem d_Mod_findClocks_1 : decode prog_10_method_61_code 1 = .ok (.iload_n 1, 1) := by decide +kernel
theorem d_Mod_findClocks_2 : decode prog_10_method_61_code 2 = .ok (.iconst 3, 1) := by decide +kernel
theorem d_Mod_findClocks_3 : decode prog_10_method_61_code 3 = .ok (.invokevirtual 94, 3) := by decide +kernel
theorem d_Mod_findClocks_6 : decode prog_10_method_61_code 6 = .ok (.istore_n 3, 1) := by decide +kernel
theorem d_Mod_findClocks_7 : decode prog_10_method_61_code 7 = .ok (.aload_n 0, 1) := by decide +kernel
theorem d_Mod_findClocks_8 : decode prog_10_method_61_code 8 = .ok (.iload_n 1, 1) := by decide +kernel
theorem d_Mod_findClocks_9 : decode prog_10_method_61_code 9 = .ok (.iconst 4, 1) := by decide +kernel
theorem d_Mod_findClocks_10 : decode prog_10_method_61_code 10 = .ok (.invokevirtual 94, 3) := by decide +kernel
theorem d_Mod_findClocks_13 : decode prog_10_method_61_code 13 = .ok (.istore 4, 2) := by decide +kernel
theorem d_Mod_findClocks_15 : decode prog_10_method_61_code 15 = .ok (.iconst 0, 1) := by decide +kernel
theorem d_Mod_findClocks_16 : decode prog_10_method_61_code 16 = .ok (.istore 5, 2) := by decide +kernel
theorem d_Mod_findClocks_18 : decode prog_10_method_61_code 18 = .ok (.aload_n 0, 1) := by decide +kernel
theorem d_Mod_findClocks_19 : decode prog_10_method_61_code 19 = .ok (.iconst (-1), 1) := by decide +kernel
theorem d_Mod_findClocks_20 : decode prog_10_method_61_code 20 = .ok (.putfield 205, 3) := by decide +kernel
theorem d_Mod_findClocks_23 : decode prog_10_method_61_code 23 = .ok (.iconst 0, 1) := by decide +kernel
theorem d_Mod_findClocks_24 : decode prog_10_method_61_code 24 = .ok (.istore 6, 2) := by decide +kernel
theorem d_Mod_findClocks_26 : decode prog_10_method_61_code 26 = .ok (.iload 6, 2) := by decide +kernel
theorem d_Mod_findClocks_28 : decode prog_10_method_61_code 28 = .ok (.sipush 576, 3) := by decide +kernel
theorem d_Mod_findClocks_31 : decode prog_10_method_61_code 31 = .ok (.if_icmp .ge 78, 3) := by decide +kernel
theorem d_Mod_findClocks_34 : decode prog_10_method_61_code 34 = .ok (.aload_n 0, 1) := by decide +kernel
theorem d_Mod_findClocks_35 : decode prog_10_method_61_code 35 = .ok (.getfield 9, 3) := by decide +kernel
theorem d_Mod_findClocks_38 : decode prog_10_method_61_code 38 = .ok (.iload_n 1, 1) := by decide +kernel
theorem d_Mod_findClocks_39 : decode prog_10_method_61_code 39 = .ok (.iconst 3, 1) := by decide +kernel
theorem d_Mod_findClocks_40 : decode prog_10_method_61_code 40 = .ok (.invokestatic 76, 3) := by decide +kernel
theorem d_Mod_findClocks_43 : decode prog_10_method_61_code 43 = .ok (.iload 6, 2) := by decide +kernel
theorem d_Mod_findClocks_45 : decode prog_10_method_61_code 45 = .ok (.bipush 24, 2) := by decide +kernel
theorem d_Mod_findClocks_47 : decode prog_10_method_61_code 47 = .ok (.idiv, 1) := by decide +kernel
theorem d_Mod_findClocks_48 : decode prog_10_method_61_code 48 = .ok (.iastore, 1) := by decide +kernel
theorem d_Mod_findClocks_49 : decode prog_10_method_61_code 49 = .ok (.aload_n 0, 1) := by decide +kernel
theorem d_Mod_findClocks_50 : decode prog_10_method_61_code 50 = .ok (.getfield 9, 3) := by decide +kernel
theorem d_Mod_findClocks_53 : decode prog_10_method_61_code 53 = .ok (.iload_n 1, 1) := by decide +kernel
theorem d_Mod_findClocks_54 : decode prog_10_method_61_code 54 = .ok (.iconst 4, 1) := by decide +kernel
theorem d_Mod_findClocks_55 : decode prog_10_method_61_code 55 = .ok (.invokestatic 76, 3) := by decide +kernel
theorem d_Mod_findClocks_58 : decode prog_10_method_61_code 58 = .ok (.iload 6, 2) := by decide +kernel
theorem d_Mod_findClocks_60 : decode prog_10_method_61_code 60 = .ok (.bipush 24, 2) := by decide +kernel
theorem d_Mod_findClocks_62 : decode prog_10_method_61_code 62 = .ok (.irem, 1) := by decide +kernel
theorem d_Mod_findClocks_63 : decode prog_10_method_61_code 63 = .ok (.iastore, 1) := by decide +kernel
theorem d_Mod_findClocks_64 : decode prog_10_method_61_code 64 = .ok (.aload_n 0, 1) := by decide +kernel
theorem d_Mod_findClocks_65 : decode prog_10_method_61_code 65 = .ok (.iload_n 1, 1) := by decide +kernel
theorem d_Mod_findClocks_66 : decode prog_10_method_61_code 66 = .ok (.iload_n 2, 1) := by decide +kernel
theorem d_Mod_findClocks_67 : decode prog_10_method_61_code 67 = .ok (.invokevirtual 208, 3) := by decide +kernel
theorem d_Mod_findClocks_70 : decode prog_10_method_61_code 70 = .ok (.istore 7, 2) := by decide +kernel
theorem d_Mod_findClocks_72 : decode prog_10_method_61_code 72 = .ok (.iload 7, 2) := by decide +kernel
theorem d_Mod_findClocks_74 : decode prog_10_method_61_code 74 = .ok (.aload_n 0, 1) := by decide +kernel
theorem d_Mod_findClocks_75 : decode prog_10_method_61_code 75 = .ok (.getfield 205, 3) := by decide +kernel
theorem d_Mod_findClocks_78 : decode prog_10_method_61_code 78 = .ok (.if_icmp .le 8, 3) := by decide +kernel
theorem d_Mod_findClocks_81 : decode prog_10_method_61_code 81 = .ok (.iload 6, 2) := by decide +kernel
theorem d_Mod_findClocks_83 : decode prog_10_method_61_code 83 = .ok (.goto 5, 3) := by decide +kernel
theorem d_Mod_findClocks_86 : decode prog_10_method_61_code 86 = .ok (.iload 5, 2) := by decide +kernel
theorem d_Mod_findClocks_88 : decode prog_10_method_61_code 88 = .ok (.istore 5, 2) := by decide +kernel
theorem d_Mod_findClocks_90 : decode prog_10_method_61_code 90 = .ok (.aload_n 0, 1) := by decide +kernel
theorem d_Mod_findClocks_91 : decode prog_10_method_61_code 91 = .ok (.aload_n 0, 1) := by decide +kernel
theorem d_Mod_findClocks_92 : decode prog_10_method_61_code 92 = .ok (.getfield 205, 3) := by decide +kernel
theorem d_Mod_findClocks_95 : decode prog_10_method_61_code 95 = .ok (.iload 7, 2) := by decide +kernel
theorem d_Mod_findClocks_97 : decode prog_10_method_61_code 97 = .ok (.invokestatic 110, 3) := by decide +kernel
theorem d_Mod_findClocks_100 : decode prog_10_method_61_code 100 = .ok (.putfield 205, 3) := by decide +kernel
theorem d_Mod_findClocks_103 : decode prog_10_method_61_code 103 = .ok (.iinc 6 1, 3) := by decide +kernel
theorem d_Mod_findClocks_106 : decode prog_10_method_61_code 106 = .ok (.goto (-80), 3) := by decide +kernel
theorem d_Mod_findClocks_109 : decode prog_10_method_61_code 109 = .ok (.aload_n 0, 1) := by decide +kernel
theorem d_Mod_findClocks_110 : decode prog_10_method_61_code 110 = .ok (.getfield 9, 3) := by decide +kernel
theorem d_Mod_findClocks_113 : decode prog_10_method_61_code 113 = .ok (.iload_n 1, 1) := by decide +kernel
theorem d_Mod_findClocks_114 : decode prog_10_method_61_code 114 = .ok (.iconst 3, 1) := by decide +kernel
theorem d_Mod_findClocks_115 : decode prog_10_method_61_code 115 = .ok (.invokestatic 76, 3) := by decide +kernel
theorem d_Mod_findClocks_118 : decode prog_10_method_61_code 118 = .ok (.iload_n 3, 1) := by decide +kernel
theorem d_Mod_findClocks_119 : decode prog_10_method_61_code 119 = .ok (.iastore, 1) := by decide +kernel
theorem d_Mod_findClocks_120 : decode prog_10_method_61_code 120 = .ok (.aload_n 0, 1) := by decide +kernel
theorem d_Mod_findClocks_121 : decode prog_10_method_61_code 121 = .ok (.getfield 9, 3) := by decide +kernel
theorem d_Mod_findClocks_124 : decode prog_10_method_61_code 124 = .ok (.iload_n 1, 1) := by decide +kernel
theorem d_Mod_findClocks_125 : decode prog_10_method_61_code 125 = .ok (.iconst 4, 1) := by decide +kernel
theorem d_Mod_findClocks_126 : decode prog_10_method_61_code 126 = .ok (.invokestatic 76, 3) := by decide +kernel
theorem d_Mod_findClocks_129 : decode prog_10_method_61_code 129 = .ok (.iload 4, 2) := by decide +kernel
theorem d_Mod_findClocks_131 : decode prog_10_method_61_code 131 = .ok (.iastore, 1) := by decide +kernel
theorem d_Mod_findClocks_132 : decode prog_10_method_61_code 132 = .ok (.iload 5, 2) := by decide +kernel
theorem d_Mod_findClocks_134 : decode prog_10_method_61_code 134 = .ok (.ireturn, 1) := by decide +kernel
theorem d_Mod_purseOn_0 : decode prog_10_method_52_code 0 = .ok (.aload_n 0, 1) := by decide +kernel
theorem d_Mod_purseOn_1 : decode prog_10_method_52_code 1 = .ok (.iload_n 1, 1) := by decide +kernel
theorem d_Mod_purseOn_2 : decode prog_10_method_52_code 2 = .ok (.iload_n 2, 1) := by decide +kernel
theorem d_Mod_purseOn_3 : decode prog_10_method_52_code 3 = .ok (.iconst 2, 1) := by decide +kernel
theorem d_Mod_purseOn_4 : decode prog_10_method_52_code 4 = .ok (.invokevirtual 191, 3) := by decide +kernel
theorem d_Mod_purseOn_7 : decode prog_10_method_52_code 7 = .ok (.ireturn, 1) := by decide +kernel
theorem d_Mod_rich_0 : decode prog_10_method_63_code 0 = .ok (.aload_n 0, 1) := by decide +kernel
theorem d_Mod_rich_1 : decode prog_10_method_63_code 1 = .ok (.iload_n 1, 1) := by decide +kernel
theorem d_Mod_rich_2 : decode prog_10_method_63_code 2 = .ok (.invokevirtual 122, 3) := by decide +kernel
theorem d_Mod_rich_5 : decode prog_10_method_63_code 5 = .ok (.ifCond .eq 13, 3) := by decide +kernel
theorem d_Mod_rich_8 : decode prog_10_method_63_code 8 = .ok (.iload_n 2, 1) := by decide +kernel
theorem d_Mod_rich_9 : decode prog_10_method_63_code 9 = .ok (.iconst 0, 1) := by decide +kernel
theorem d_Mod_rich_10 : decode prog_10_method_63_code 10 = .ok (.bipush 48, 2) := by decide +kernel
theorem d_Mod_rich_12 : decode prog_10_method_63_code 12 = .ok (.invokestatic 68, 3) := by decide +kernel
theorem d_Mod_rich_15 : decode prog_10_method_63_code 15 = .ok (.ifCond .ne 10, 3) := by decide +kernel
theorem d_Mod_rich_18 : decode prog_10_method_63_code 18 = .ok (.aload_n 0, 1) := by decide +kernel
theorem d_Mod_rich_19 : decode prog_10_method_63_code 19 = .ok (.ldc 63, 2) := by decide +kernel
theorem d_Mod_rich_21 : decode prog_10_method_63_code 21 = .ok (.invokevirtual 82, 3) := by decide +kernel
theorem d_Mod_rich_24 : decode prog_10_method_63_code 24 = .ok (.ireturn, 1) := by decide +kernel
theorem d_Mod_rich_25 : decode prog_10_method_63_code 25 = .ok (.aload_n 0, 1) := by decide +kernel
theorem d_Mod_rich_26 : decode prog_10_method_63_code 26 = .ok (.iload_n 1, 1) := by decide +kernel
theorem d_Mod_rich_27 : decode prog_10_method_63_code 27 = .ok (.iload_n 2, 1) := by decide +kernel
theorem d_Mod_rich_28 : decode prog_10_method_63_code 28 = .ok (.invokevirtual 211, 3) := by decide +kernel
theorem d_Mod_rich_31 : decode prog_10_method_63_code 31 = .ok (.ifCond .ge 7, 3) := by decide +kernel
theorem d_Mod_rich_34 : decode prog_10_method_63_code 34 = .ok (.iconst 0, 1) := by decide +kernel
theorem d_Mod_rich_35 : decode prog_10_method_63_code 35 = .ok (.goto 7, 3) := by decide +kernel
theorem d_Mod_rich_38 : decode prog_10_method_63_code 38 = .ok (.aload_n 0, 1) := by decide +kernel
theorem d_Mod_rich_39 : decode prog_10_method_63_code 39 = .ok (.getfield 205, 3) := by decide +kernel
theorem d_Mod_rich_42 : decode prog_10_method_63_code 42 = .ok (.ireturn, 1) := by decide +kernel
theorem d_Mod_bears_0 : decode prog_10_method_65_code 0 = .ok (.iload_n 1, 1) := by decide +kernel
theorem d_Mod_bears_1 : decode prog_10_method_65_code 1 = .ok (.iconst 0, 1) := by decide +kernel
theorem d_Mod_bears_2 : decode prog_10_method_65_code 2 = .ok (.ldc 214, 2) := by decide +kernel
theorem d_Mod_bears_4 : decode prog_10_method_65_code 4 = .ok (.invokestatic 68, 3) := by decide +kernel
theorem d_Mod_bears_7 : decode prog_10_method_65_code 7 = .ok (.ifCond .eq 13, 3) := by decide +kernel
theorem d_Mod_bears_10 : decode prog_10_method_65_code 10 = .ok (.iload_n 2, 1) := by decide +kernel
theorem d_Mod_bears_11 : decode prog_10_method_65_code 11 = .ok (.iconst 0, 1) := by decide +kernel
theorem d_Mod_bears_12 : decode prog_10_method_65_code 12 = .ok (.bipush 48, 2) := by decide +kernel
theorem d_Mod_bears_14 : decode prog_10_method_65_code 14 = .ok (.invokestatic 68, 3) := by decide +kernel
theorem d_Mod_bears_17 : decode prog_10_method_65_code 17 = .ok (.ifCond .ne 10, 3) := by decide +kernel
theorem d_Mod_bears_20 : decode prog_10_method_65_code 20 = .ok (.aload_n 0, 1) := by decide +kernel
theorem d_Mod_bears_21 : decode prog_10_method_65_code 21 = .ok (.ldc 63, 2) := by decide +kernel
theorem d_Mod_bears_23 : decode prog_10_method_65_code 23 = .ok (.invokevirtual 82, 3) := by decide +kernel
theorem d_Mod_bears_26 : decode prog_10_method_65_code 26 = .ok (.ireturn, 1) := by decide +kernel
theorem d_Mod_bears_27 : decode prog_10_method_65_code 27 = .ok (.aload_n 0, 1) := by decide +kernel
theorem d_Mod_bears_28 : decode prog_10_method_65_code 28 = .ok (.getfield 9, 3) := by decide +kernel
theorem d_Mod_bears_31 : decode prog_10_method_65_code 31 = .ok (.iconst 1, 1) := by decide +kernel
theorem d_Mod_bears_32 : decode prog_10_method_65_code 32 = .ok (.iaload, 1) := by decide +kernel
theorem d_Mod_bears_33 : decode prog_10_method_65_code 33 = .ok (.istore_n 3, 1) := by decide +kernel
theorem d_Mod_bears_34 : decode prog_10_method_65_code 34 = .ok (.bipush 99, 2) := by decide +kernel
theorem d_Mod_bears_36 : decode prog_10_method_65_code 36 = .ok (.istore 4, 2) := by decide +kernel
theorem d_Mod_bears_38 : decode prog_10_method_65_code 38 = .ok (.aload_n 0, 1) := by decide +kernel
theorem d_Mod_bears_39 : decode prog_10_method_65_code 39 = .ok (.getfield 9, 3) := by decide +kernel
theorem d_Mod_bears_42 : decode prog_10_method_65_code 42 = .ok (.iconst 1, 1) := by decide +kernel
theorem d_Mod_bears_43 : decode prog_10_method_65_code 43 = .ok (.iload 4, 2) := by decide +kernel
theorem d_Mod_bears_45 : decode prog_10_method_65_code 45 = .ok (.iastore, 1) := by decide +kernel
theorem d_Mod_bears_46 : decode prog_10_method_65_code 46 = .ok (.iload 4, 2) := by decide +kernel
theorem d_Mod_bears_48 : decode prog_10_method_65_code 48 = .ok (.ifCond .lt 26, 3) := by decide +kernel
theorem d_Mod_bears_51 : decode prog_10_method_65_code 51 = .ok (.aload_n 0, 1) := by decide +kernel
theorem d_Mod_bears_52 : decode prog_10_method_65_code 52 = .ok (.iload_n 2, 1) := by decide +kernel
theorem d_Mod_bears_53 : decode prog_10_method_65_code 53 = .ok (.invokevirtual 215, 3) := by decide +kernel
theorem d_Mod_bears_56 : decode prog_10_method_65_code 56 = .ok (.iload_n 1, 1) := by decide +kernel
theorem d_Mod_bears_57 : decode prog_10_method_65_code 57 = .ok (.if_icmp .ge 17, 3) := by decide +kernel
theorem d_Mod_bears_60 : decode prog_10_method_65_code 60 = .ok (.iinc 4 (-1), 3) := by decide +kernel
theorem d_Mod_bears_63 : decode prog_10_method_65_code 63 = .ok (.aload_n 0, 1) := by decide +kernel
theorem d_Mod_bears_64 : decode prog_10_method_65_code 64 = .ok (.getfield 9, 3) := by decide +kernel
theorem d_Mod_bears_67 : decode prog_10_method_65_code 67 = .ok (.iconst 1, 1) := by decide +kernel
theorem d_Mod_bears_68 : decode prog_10_method_65_code 68 = .ok (.iload 4, 2) := by decide +kernel
theorem d_Mod_bears_70 : decode prog_10_method_65_code 70 = .ok (.iastore, 1) := by decide +kernel
theorem d_Mod_bears_71 : decode prog_10_method_65_code 71 = .ok (.goto (-25), 3) := by decide +kernel
theorem d_Mod_bears_74 : decode prog_10_method_65_code 74 = .ok (.aload_n 0, 1) := by decide +kernel
theorem d_Mod_bears_75 : decode prog_10_method_65_code 75 = .ok (.getfield 9, 3) := by decide +kernel
theorem d_Mod_bears_78 : decode prog_10_method_65_code 78 = .ok (.iconst 1, 1) := by decide +kernel
theorem d_Mod_bears_79 : decode prog_10_method_65_code 79 = .ok (.iload_n 3, 1) := by decide +kernel
theorem d_Mod_bears_80 : decode prog_10_method_65_code 80 = .ok (.iastore, 1) := by decide +kernel
theorem d_Mod_bears_81 : decode prog_10_method_65_code 81 = .ok (.aload_n 0, 1) := by decide +kernel
theorem d_Mod_bears_82 : decode prog_10_method_65_code 82 = .ok (.iload 4, 2) := by decide +kernel
theorem d_Mod_bears_84 : decode prog_10_method_65_code 84 = .ok (.invokevirtual 199, 3) := by decide +kernel
theorem d_Mod_bears_87 : decode prog_10_method_65_code 87 = .ok (.ireturn, 1) := by decide +kernel
theorem d_Mod_allOn_0 : decode prog_10_method_64_code 0 = .ok (.aload_n 0, 1) := by decide +kernel
theorem d_Mod_allOn_1 : decode prog_10_method_64_code 1 = .ok (.getfield 9, 3) := by decide +kernel
theorem d_Mod_allOn_4 : decode prog_10_method_64_code 4 = .ok (.aload_n 0, 1) := by decide +kernel
theorem d_Mod_allOn_5 : decode prog_10_method_64_code 5 = .ok (.getfield 16, 3) := by decide +kernel
theorem d_Mod_allOn_8 : decode prog_10_method_64_code 8 = .ok (.invokestatic 64, 3) := by decide +kernel
theorem d_Mod_allOn_11 : decode prog_10_method_64_code 11 = .ok (.aload_n 0, 1) := by decide +kernel
theorem d_Mod_allOn_12 : decode prog_10_method_64_code 12 = .ok (.iload_n 1, 1) := by decide +kernel
theorem d_Mod_allOn_13 : decode prog_10_method_64_code 13 = .ok (.invokevirtual 175, 3) := by decide +kernel
theorem d_Mod_allOn_16 : decode prog_10_method_64_code 16 = .ok (.aload_n 0, 1) := by decide +kernel
theorem d_Mod_allOn_17 : decode prog_10_method_64_code 17 = .ok (.aload_n 0, 1) := by decide +kernel
theorem d_Mod_allOn_18 : decode prog_10_method_64_code 18 = .ok (.iconst 2, 1) := by decide +kernel
theorem d_Mod_allOn_19 : decode prog_10_method_64_code 19 = .ok (.invokevirtual 178, 3) := by decide +kernel
theorem d_Mod_allOn_22 : decode prog_10_method_64_code 22 = .ok (.invokevirtual 188, 3) := by decide +kernel
theorem d_Mod_allOn_25 : decode prog_10_method_64_code 25 = .ok (.ireturn, 1) := by decide +kernel
theorem d_Mod_bank_0 : decode prog_10_method_67_code 0 = .ok (.aload_n 0, 1) := by decide +kernel
theorem d_Mod_bank_1 : decode prog_10_method_67_code 1 = .ok (.iload_n 1, 1) := by decide +kernel
theorem d_Mod_bank_2 : decode prog_10_method_67_code 2 = .ok (.invokevirtual 122, 3) := by decide +kernel
theorem d_Mod_bank_5 : decode prog_10_method_67_code 5 = .ok (.ifCond .eq 28, 3) := by decide +kernel
theorem d_Mod_bank_8 : decode prog_10_method_67_code 8 = .ok (.iload_n 2, 1) := by decide +kernel
theorem d_Mod_bank_9 : decode prog_10_method_67_code 9 = .ok (.iconst 0, 1) := by decide +kernel
theorem d_Mod_bank_10 : decode prog_10_method_67_code 10 = .ok (.bipush 72, 2) := by decide +kernel
theorem d_Mod_bank_12 : decode prog_10_method_67_code 12 = .ok (.invokestatic 68, 3) := by decide +kernel
theorem d_Mod_bank_15 : decode prog_10_method_67_code 15 = .ok (.ifCond .eq 18, 3) := by decide +kernel
theorem d_Mod_bank_18 : decode prog_10_method_67_code 18 = .ok (.aload_n 0, 1) := by decide +kernel
theorem d_Mod_bank_19 : decode prog_10_method_67_code 19 = .ok (.iload_n 1, 1) := by decide +kernel
theorem d_Mod_bank_20 : decode prog_10_method_67_code 20 = .ok (.iconst 1, 1) := by decide +kernel
theorem d_Mod_bank_21 : decode prog_10_method_67_code 21 = .ok (.invokestatic 76, 3) := by decide +kernel
theorem d_Mod_bank_24 : decode prog_10_method_67_code 24 = .ok (.iconst 2, 1) := by decide +kernel
theorem d_Mod_bank_25 : decode prog_10_method_67_code 25 = .ok (.iload_n 1, 1) := by decide +kernel
theorem d_Mod_bank_26 : decode prog_10_method_67_code 26 = .ok (.iload_n 2, 1) := by decide +kernel
theorem d_Mod_bank_27 : decode prog_10_method_67_code 27 = .ok (.invokevirtual 218, 3) := by decide +kernel
theorem d_Mod_bank_30 : decode prog_10_method_67_code 30 = .ok (.goto 9, 3) := by decide +kernel
theorem d_Mod_bank_33 : decode prog_10_method_67_code 33 = .ok (.aload_n 0, 1) := by decide +kernel
theorem d_Mod_bank_34 : decode prog_10_method_67_code 34 = .ok (.ldc 63, 2) := by decide +kernel
theorem d_Mod_bank_36 : decode prog_10_method_67_code 36 = .ok (.invokevirtual 82, 3) := by decide +kernel
theorem d_Mod_bank_39 : decode prog_10_method_67_code 39 = .ok (.ireturn, 1) := by decide +kernel
theorem d_Mod_bestWith_0 : decode prog_10_method_66_code 0 = .ok (.aload_n 0, 1) := by decide +kernel
theorem d_Mod_bestWith_1 : decode prog_10_method_66_code 1 = .ok (.getfield 9, 3) := by decide +kernel
theorem d_Mod_bestWith_4 : decode prog_10_method_66_code 4 = .ok (.iload_n 1, 1) := by decide +kernel
theorem d_Mod_bestWith_5 : decode prog_10_method_66_code 5 = .ok (.iaload, 1) := by decide +kernel
theorem d_Mod_bestWith_6 : decode prog_10_method_66_code 6 = .ok (.istore 5, 2) := by decide +kernel
theorem d_Mod_bestWith_8 : decode prog_10_method_66_code 8 = .ok (.iconst 0, 1) := by decide +kernel
theorem d_Mod_bestWith_9 : decode prog_10_method_66_code 9 = .ok (.istore 6, 2) := by decide +kernel
theorem d_Mod_bestWith_11 : decode prog_10_method_66_code 11 = .ok (.iconst (-1), 1) := by decide +kernel
theorem d_Mod_bestWith_12 : decode prog_10_method_66_code 12 = .ok (.istore 7, 2) := by decide +kernel
theorem d_Mod_bestWith_14 : decode prog_10_method_66_code 14 = .ok (.iconst 0, 1) := by decide +kernel
theorem d_Mod_bestWith_15 : decode prog_10_method_66_code 15 = .ok (.istore 8, 2) := by decide +kernel
theorem d_Mod_bestWith_17 : decode prog_10_method_66_code 17 = .ok (.iload 8, 2) := by decide +kernel
theorem d_Mod_bestWith_19 : decode prog_10_method_66_code 19 = .ok (.iload_n 2, 1) := by decide +kernel
theorem d_Mod_bestWith_20 : decode prog_10_method_66_code 20 = .ok (.if_icmp .ge 51, 3) := by decide +kernel
theorem d_Mod_bestWith_23 : decode prog_10_method_66_code 23 = .ok (.aload_n 0, 1) := by decide +kernel
theorem d_Mod_bestWith_24 : decode prog_10_method_66_code 24 = .ok (.getfield 9, 3) := by decide +kernel
theorem d_Mod_bestWith_27 : decode prog_10_method_66_code 27 = .ok (.iload_n 1, 1) := by decide +kernel
theorem d_Mod_bestWith_28 : decode prog_10_method_66_code 28 = .ok (.iload 8, 2) := by decide +kernel
theorem d_Mod_bestWith_30 : decode prog_10_method_66_code 30 = .ok (.iastore, 1) := by decide +kernel
theorem d_Mod_bestWith_31 : decode prog_10_method_66_code 31 = .ok (.aload_n 0, 1) := by decide +kernel
theorem d_Mod_bestWith_32 : decode prog_10_method_66_code 32 = .ok (.iload_n 3, 1) := by decide +kernel
theorem d_Mod_bestWith_33 : decode prog_10_method_66_code 33 = .ok (.iload 4, 2) := by decide +kernel
theorem d_Mod_bestWith_35 : decode prog_10_method_66_code 35 = .ok (.invokevirtual 208, 3) := by decide +kernel
theorem d_Mod_bestWith_38 : decode prog_10_method_66_code 38 = .ok (.istore 9, 2) := by decide +kernel
theorem d_Mod_bestWith_40 : decode prog_10_method_66_code 40 = .ok (.iload 9, 2) := by decide +kernel
theorem d_Mod_bestWith_42 : decode prog_10_method_66_code 42 = .ok (.iload 7, 2) := by decide +kernel
theorem d_Mod_bestWith_44 : decode prog_10_method_66_code 44 = .ok (.if_icmp .le 8, 3) := by decide +kernel
theorem d_Mod_bestWith_47 : decode prog_10_method_66_code 47 = .ok (.iload 8, 2) := by decide +kernel
theorem d_Mod_bestWith_49 : decode prog_10_method_66_code 49 = .ok (.goto 5, 3) := by decide +kernel
theorem d_Mod_bestWith_52 : decode prog_10_method_66_code 52 = .ok (.iload 6, 2) := by decide +kernel
theorem d_Mod_bestWith_54 : decode prog_10_method_66_code 54 = .ok (.istore 6, 2) := by decide +kernel
theorem d_Mod_bestWith_56 : decode prog_10_method_66_code 56 = .ok (.iload 7, 2) := by decide +kernel
theorem d_Mod_bestWith_58 : decode prog_10_method_66_code 58 = .ok (.iload 9, 2) := by decide +kernel
theorem d_Mod_bestWith_60 : decode prog_10_method_66_code 60 = .ok (.invokestatic 110, 3) := by decide +kernel
theorem d_Mod_bestWith_63 : decode prog_10_method_66_code 63 = .ok (.istore 7, 2) := by decide +kernel
theorem d_Mod_bestWith_65 : decode prog_10_method_66_code 65 = .ok (.iinc 8 1, 3) := by decide +kernel
theorem d_Mod_bestWith_68 : decode prog_10_method_66_code 68 = .ok (.goto (-51), 3) := by decide +kernel
theorem d_Mod_bestWith_71 : decode prog_10_method_66_code 71 = .ok (.aload_n 0, 1) := by decide +kernel
theorem d_Mod_bestWith_72 : decode prog_10_method_66_code 72 = .ok (.getfield 9, 3) := by decide +kernel
theorem d_Mod_bestWith_75 : decode prog_10_method_66_code 75 = .ok (.iload_n 1, 1) := by decide +kernel
theorem d_Mod_bestWith_76 : decode prog_10_method_66_code 76 = .ok (.iload 5, 2) := by decide +kernel
theorem d_Mod_bestWith_78 : decode prog_10_method_66_code 78 = .ok (.iastore, 1) := by decide +kernel
theorem d_Mod_bestWith_79 : decode prog_10_method_66_code 79 = .ok (.iload 6, 2) := by decide +kernel
theorem d_Mod_bestWith_81 : decode prog_10_method_66_code 81 = .ok (.ireturn, 1) := by decide +kernel
theorem d_Mod_kind_0 : decode prog_10_method_68_code 0 = .ok (.aload_n 0, 1) := by decide +kernel
theorem d_Mod_kind_1 : decode prog_10_method_68_code 1 = .ok (.iload_n 1, 1) := by decide +kernel
theorem d_Mod_kind_2 : decode prog_10_method_68_code 2 = .ok (.invokevirtual 122, 3) := by decide +kernel
theorem d_Mod_kind_5 : decode prog_10_method_68_code 5 = .ok (.ifCond .eq 29, 3) := by decide +kernel
theorem d_Mod_kind_8 : decode prog_10_method_68_code 8 = .ok (.iload_n 2, 1) := by decide +kernel
theorem d_Mod_kind_9 : decode prog_10_method_68_code 9 = .ok (.iconst 0, 1) := by decide +kernel
theorem d_Mod_kind_10 : decode prog_10_method_68_code 10 = .ok (.bipush 72, 2) := by decide +kernel
theorem d_Mod_kind_12 : decode prog_10_method_68_code 12 = .ok (.invokestatic 68, 3) := by decide +kernel
theorem d_Mod_kind_15 : decode prog_10_method_68_code 15 = .ok (.ifCond .eq 19, 3) := by decide +kernel
theorem d_Mod_kind_18 : decode prog_10_method_68_code 18 = .ok (.aload_n 0, 1) := by decide +kernel
theorem d_Mod_kind_19 : decode prog_10_method_68_code 19 = .ok (.iload_n 1, 1) := by decide +kernel
theorem d_Mod_kind_20 : decode prog_10_method_68_code 20 = .ok (.iconst 0, 1) := by decide +kernel
theorem d_Mod_kind_21 : decode prog_10_method_68_code 21 = .ok (.invokestatic 76, 3) := by decide +kernel
theorem d_Mod_kind_24 : decode prog_10_method_68_code 24 = .ok (.bipush 6, 2) := by decide +kernel
theorem d_Mod_kind_26 : decode prog_10_method_68_code 26 = .ok (.iload_n 1, 1) := by decide +kernel
theorem d_Mod_kind_27 : decode prog_10_method_68_code 27 = .ok (.iload_n 2, 1) := by decide +kernel
theorem d_Mod_kind_28 : decode prog_10_method_68_code 28 = .ok (.invokevirtual 218, 3) := by decide +kernel
theorem d_Mod_kind_31 : decode prog_10_method_68_code 31 = .ok (.goto 9, 3) := by decide +kernel
theorem d_Mod_kind_34 : decode prog_10_method_68_code 34 = .ok (.aload_n 0, 1) := by decide +kernel
theorem d_Mod_kind_35 : decode prog_10_method_68_code 35 = .ok (.ldc 63, 2) := by decide +kernel
theorem d_Mod_kind_37 : decode prog_10_method_68_code 37 = .ok (.invokevirtual 82, 3) := by decide +kernel
theorem d_Mod_kind_40 : decode prog_10_method_68_code 40 = .ok (.ireturn, 1) := by decide +kernel
theorem d_Mod_news_0 : decode prog_10_method_69_code 0 = .ok (.aload_n 0, 1) := by decide +kernel
theorem d_Mod_news_1 : decode prog_10_method_69_code 1 = .ok (.iload_n 1, 1) := by decide +kernel
theorem d_Mod_news_2 : decode prog_10_method_69_code 2 = .ok (.invokevirtual 122, 3) := by decide +kernel
theorem d_Mod_news_5 : decode prog_10_method_69_code 5 = .ok (.ifCond .eq 13, 3) := by decide +kernel
theorem d_Mod_news_8 : decode prog_10_method_69_code 8 = .ok (.iload_n 2, 1) := by decide +kernel
theorem d_Mod_news_9 : decode prog_10_method_69_code 9 = .ok (.iconst 0, 1) := by decide +kernel
theorem d_Mod_news_10 : decode prog_10_method_69_code 10 = .ok (.bipush 72, 2) := by decide +kernel
theorem d_Mod_news_12 : decode prog_10_method_69_code 12 = .ok (.invokestatic 68, 3) := by decide +kernel
theorem d_Mod_news_15 : decode prog_10_method_69_code 15 = .ok (.ifCond .ne 10, 3) := by decide +kernel
theorem d_Mod_news_18 : decode prog_10_method_69_code 18 = .ok (.aload_n 0, 1) := by decide +kernel
theorem d_Mod_news_19 : decode prog_10_method_69_code 19 = .ok (.ldc 63, 2) := by decide +kernel
theorem d_Mod_news_21 : decode prog_10_method_69_code 21 = .ok (.invokevirtual 82, 3) := by decide +kernel
theorem d_Mod_news_24 : decode prog_10_method_69_code 24 = .ok (.ireturn, 1) := by decide +kernel
theorem d_Mod_news_25 : decode prog_10_method_69_code 25 = .ok (.aload_n 0, 1) := by decide +kernel
theorem d_Mod_news_26 : decode prog_10_method_69_code 26 = .ok (.iload_n 1, 1) := by decide +kernel
theorem d_Mod_news_27 : decode prog_10_method_69_code 27 = .ok (.bipush 6, 2) := by decide +kernel
theorem d_Mod_news_29 : decode prog_10_method_69_code 29 = .ok (.invokevirtual 94, 3) := by decide +kernel
theorem d_Mod_news_32 : decode prog_10_method_69_code 32 = .ok (.istore_n 3, 1) := by decide +kernel
theorem d_Mod_news_33 : decode prog_10_method_69_code 33 = .ok (.aload_n 0, 1) := by decide +kernel
theorem d_Mod_news_34 : decode prog_10_method_69_code 34 = .ok (.iload_n 1, 1) := by decide +kernel
theorem d_Mod_news_35 : decode prog_10_method_69_code 35 = .ok (.iload_n 2, 1) := by decide +kernel
theorem d_Mod_news_36 : decode prog_10_method_69_code 36 = .ok (.invokevirtual 208, 3) := by decide +kernel
theorem d_Mod_news_39 : decode prog_10_method_69_code 39 = .ok (.istore 4, 2) := by decide +kernel
theorem d_Mod_news_41 : decode prog_10_method_69_code 41 = .ok (.iconst (-1), 1) := by decide +kernel
theorem d_Mod_news_42 : decode prog_10_method_69_code 42 = .ok (.istore 5, 2) := by decide +kernel
theorem d_Mod_news_44 : decode prog_10_method_69_code 44 = .ok (.iconst 0, 1) := by decide +kernel
theorem d_Mod_news_45 : decode prog_10_method_69_code 45 = .ok (.istore 6, 2) := by decide +kernel
theorem d_Mod_news_47 : decode prog_10_method_69_code 47 = .ok (.iload 6, 2) := by decide +kernel
theorem d_Mod_news_49 : decode prog_10_method_69_code 49 = .ok (.aload_n 0, 1) := by decide +kernel
theorem d_Mod_news_50 : decode prog_10_method_69_code 50 = .ok (.getfield 9, 3) := by decide +kernel
theorem d_Mod_news_53 : decode prog_10_method_69_code 53 = .ok (.iconst 2, 1) := by decide +kernel
theorem d_Mod_news_54 : decode prog_10_method_69_code 54 = .ok (.iaload, 1) := by decide +kernel
theorem d_Mod_news_55 : decode prog_10_method_69_code 55 = .ok (.if_icmp .ge 72, 3) := by decide +kernel
theorem d_Mod_news_58 : decode prog_10_method_69_code 58 = .ok (.aload_n 0, 1) := by decide +kernel
theorem d_Mod_news_59 : decode prog_10_method_69_code 59 = .ok (.getfield 9, 3) := by decide +kernel
theorem d_Mod_news_62 : decode prog_10_method_69_code 62 = .ok (.iload_n 1, 1) := by decide +kernel
theorem d_Mod_news_63 : decode prog_10_method_69_code 63 = .ok (.bipush 6, 2) := by decide +kernel
theorem d_Mod_news_65 : decode prog_10_method_69_code 65 = .ok (.invokestatic 76, 3) := by decide +kernel
theorem d_Mod_news_68 : decode prog_10_method_69_code 68 = .ok (.iload_n 3, 1) := by decide +kernel
theorem d_Mod_news_69 : decode prog_10_method_69_code 69 = .ok (.iconst 1, 1) := by decide +kernel
theorem d_Mod_news_70 : decode prog_10_method_69_code 70 = .ok (.iload 6, 2) := by decide +kernel
theorem d_Mod_news_72 : decode prog_10_method_69_code 72 = .ok (.ishl, 1) := by decide +kernel
theorem d_Mod_news_73 : decode prog_10_method_69_code 73 = .ok (.ior, 1) := by decide +kernel
theorem d_Mod_news_74 : decode prog_10_method_69_code 74 = .ok (.iastore, 1) := by decide +kernel
theorem d_Mod_news_75 : decode prog_10_method_69_code 75 = .ok (.iload_n 3, 1) := by decide +kernel
theorem d_Mod_news_76 : decode prog_10_method_69_code 76 = .ok (.iload 6, 2) := by decide +kernel
theorem d_Mod_news_78 : decode prog_10_method_69_code 78 = .ok (.invokestatic 97, 3) := by decide +kernel
theorem d_Mod_news_81 : decode prog_10_method_69_code 81 = .ok (.ifCond .eq 7, 3) := by decide +kernel
theorem d_Mod_news_84 : decode prog_10_method_69_code 84 = .ok (.iconst (-1), 1) := by decide +kernel
theorem d_Mod_news_85 : decode prog_10_method_69_code 85 = .ok (.goto 9, 3) := by decide +kernel
theorem d_Mod_news_88 : decode prog_10_method_69_code 88 = .ok (.aload_n 0, 1) := by decide +kernel
theorem d_Mod_news_89 : decode prog_10_method_69_code 89 = .ok (.iload_n 1, 1) := by decide +kernel
theorem d_Mod_news_90 : decode prog_10_method_69_code 90 = .ok (.iload_n 2, 1) := by decide +kernel
theorem d_Mod_news_91 : decode prog_10_method_69_code 91 = .ok (.invokevirtual 208, 3) := by decide +kernel
theorem d_Mod_news_94 : decode prog_10_method_69_code 94 = .ok (.istore 7, 2) := by decide +kernel
theorem d_Mod_news_96 : decode prog_10_method_69_code 96 = .ok (.iload 7, 2) := by decide +kernel
theorem d_Mod_news_98 : decode prog_10_method_69_code 98 = .ok (.iload 4, 2) := by decide +kernel
theorem d_Mod_news_100 : decode prog_10_method_69_code 100 = .ok (.if_icmp .le 8, 3) := by decide +kernel
theorem d_Mod_news_103 : decode prog_10_method_69_code 103 = .ok (.iload 6, 2) := by decide +kernel
theorem d_Mod_news_105 : decode prog_10_method_69_code 105 = .ok (.goto 5, 3) := by decide +kernel
theorem d_Mod_news_108 : decode prog_10_method_69_code 108 = .ok (.iload 5, 2) := by decide +kernel
theorem d_Mod_news_110 : decode prog_10_method_69_code 110 = .ok (.istore 5, 2) := by decide +kernel
theorem d_Mod_news_112 : decode prog_10_method_69_code 112 = .ok (.iload 4, 2) := by decide +kernel
theorem d_Mod_news_114 : decode prog_10_method_69_code 114 = .ok (.iload 7, 2) := by decide +kernel
theorem d_Mod_news_116 : decode prog_10_method_69_code 116 = .ok (.invokestatic 110, 3) := by decide +kernel
theorem d_Mod_news_119 : decode prog_10_method_69_code 119 = .ok (.istore 4, 2) := by decide +kernel
theorem d_Mod_news_121 : decode prog_10_method_69_code 121 = .ok (.iinc 6 1, 3) := by decide +kernel
theorem d_Mod_news_124 : decode prog_10_method_69_code 124 = .ok (.goto (-77), 3) := by decide +kernel
theorem d_Mod_news_127 : decode prog_10_method_69_code 127 = .ok (.aload_n 0, 1) := by decide +kernel
theorem d_Mod_news_128 : decode prog_10_method_69_code 128 = .ok (.getfield 9, 3) := by decide +kernel
theorem d_Mod_news_131 : decode prog_10_method_69_code 131 = .ok (.iload_n 1, 1) := by decide +kernel
theorem d_Mod_news_132 : decode prog_10_method_69_code 132 = .ok (.bipush 6, 2) := by decide +kernel
theorem d_Mod_news_134 : decode prog_10_method_69_code 134 = .ok (.invokestatic 76, 3) := by decide +kernel
theorem d_Mod_news_137 : decode prog_10_method_69_code 137 = .ok (.iload_n 3, 1) := by decide +kernel
theorem d_Mod_news_138 : decode prog_10_method_69_code 138 = .ok (.iastore, 1) := by decide +kernel
theorem d_Mod_news_139 : decode prog_10_method_69_code 139 = .ok (.aload_n 0, 1) := by decide +kernel
theorem d_Mod_news_140 : decode prog_10_method_69_code 140 = .ok (.iload 5, 2) := by decide +kernel
theorem d_Mod_news_142 : decode prog_10_method_69_code 142 = .ok (.invokevirtual 199, 3) := by decide +kernel
theorem d_Mod_news_145 : decode prog_10_method_69_code 145 = .ok (.ireturn, 1) := by decide +kernel
theorem d_Mod_needed_0 : decode prog_10_method_70_code 0 = .ok (.iload_n 1, 1) := by decide +kernel
theorem d_Mod_needed_1 : decode prog_10_method_70_code 1 = .ok (.iconst 0, 1) := by decide +kernel
theorem d_Mod_needed_2 : decode prog_10_method_70_code 2 = .ok (.bipush 72, 2) := by decide +kernel
theorem d_Mod_needed_4 : decode prog_10_method_70_code 4 = .ok (.invokestatic 68, 3) := by decide +kernel
theorem d_Mod_needed_7 : decode prog_10_method_70_code 7 = .ok (.ifCond .ne 10, 3) := by decide +kernel
theorem d_Mod_needed_10 : decode prog_10_method_70_code 10 = .ok (.aload_n 0, 1) := by decide +kernel
theorem d_Mod_needed_11 : decode prog_10_method_70_code 11 = .ok (.ldc 63, 2) := by decide +kernel
theorem d_Mod_needed_13 : decode prog_10_method_70_code 13 = .ok (.invokevirtual 82, 3) := by decide +kernel
theorem d_Mod_needed_16 : decode prog_10_method_70_code 16 = .ok (.ireturn, 1) := by decide +kernel
theorem d_Mod_needed_17 : decode prog_10_method_70_code 17 = .ok (.aload_n 0, 1) := by decide +kernel
theorem d_Mod_needed_18 : decode prog_10_method_70_code 18 = .ok (.iload_n 1, 1) := by decide +kernel
theorem d_Mod_needed_19 : decode prog_10_method_70_code 19 = .ok (.invokevirtual 202, 3) := by decide +kernel
theorem d_Mod_needed_22 : decode prog_10_method_70_code 22 = .ok (.invokestatic 154, 3) := by decide +kernel
theorem d_Mod_needed_25 : decode prog_10_method_70_code 25 = .ok (.istore_n 2, 1) := by decide +kernel
theorem d_Mod_needed_26 : decode prog_10_method_70_code 26 = .ok (.iconst (-1), 1) := by decide +kernel
theorem d_Mod_needed_27 : decode prog_10_method_70_code 27 = .ok (.istore_n 3, 1) := by decide +kernel
theorem d_Mod_needed_28 : decode prog_10_method_70_code 28 = .ok (.iconst 0, 1) := by decide +kernel
theorem d_Mod_needed_29 : decode prog_10_method_70_code 29 = .ok (.istore 4, 2) := by decide +kernel
theorem d_Mod_needed_31 : decode prog_10_method_70_code 31 = .ok (.iload 4, 2) := by decide +kernel
theorem d_Mod_needed_33 : decode prog_10_method_70_code 33 = .ok (.aload_n 0, 1) := by decide +kernel
theorem d_Mod_needed_34 : decode prog_10_method_70_code 34 = .ok (.getfield 9, 3) := by decide +kernel
theorem d_Mod_needed_37 : decode prog_10_method_70_code 37 = .ok (.iconst 3, 1) := by decide +kernel
theorem d_Mod_needed_38 : decode prog_10_method_70_code 38 = .ok (.iaload, 1) := by decide +kernel
theorem d_Mod_needed_39 : decode prog_10_method_70_code 39 = .ok (.if_icmp .ge 45, 3) := by decide +kernel
theorem d_Mod_needed_42 : decode prog_10_method_70_code 42 = .ok (.aload_n 0, 1) := by decide +kernel
theorem d_Mod_needed_43 : decode prog_10_method_70_code 43 = .ok (.iload 4, 2) := by decide +kernel
theorem d_Mod_needed_45 : decode prog_10_method_70_code 45 = .ok (.putfield 22, 3) := by decide +kernel
theorem d_Mod_needed_48 : decode prog_10_method_70_code 48 = .ok (.aload_n 0, 1) := by decide +kernel
theorem d_Mod_needed_49 : decode prog_10_method_70_code 49 = .ok (.iload_n 1, 1) := by decide +kernel
theorem d_Mod_needed_50 : decode prog_10_method_70_code 50 = .ok (.invokevirtual 202, 3) := by decide +kernel
theorem d_Mod_needed_53 : decode prog_10_method_70_code 53 = .ok (.invokestatic 154, 3) := by decide +kernel
theorem d_Mod_needed_56 : decode prog_10_method_70_code 56 = .ok (.istore 5, 2) := by decide +kernel
theorem d_Mod_needed_58 : decode prog_10_method_70_code 58 = .ok (.iload 5, 2) := by decide +kernel
theorem d_Mod_needed_60 : decode prog_10_method_70_code 60 = .ok (.iload_n 2, 1) := by decide +kernel
theorem d_Mod_needed_61 : decode prog_10_method_70_code 61 = .ok (.if_icmp .ge 8, 3) := by decide +kernel
theorem d_Mod_needed_64 : decode prog_10_method_70_code 64 = .ok (.iload 4, 2) := by decide +kernel
theorem d_Mod_needed_66 : decode prog_10_method_70_code 66 = .ok (.goto 4, 3) := by decide +kernel
theorem d_Mod_needed_69 : decode prog_10_method_70_code 69 = .ok (.iload_n 3, 1) := by decide +kernel
theorem d_Mod_needed_70 : decode prog_10_method_70_code 70 = .ok (.istore_n 3, 1) := by decide +kernel
theorem d_Mod_needed_71 : decode prog_10_method_70_code 71 = .ok (.iload_n 2, 1) := by decide +kernel
theorem d_Mod_needed_72 : decode prog_10_method_70_code 72 = .ok (.iload 5, 2) := by decide +kernel
theorem d_Mod_needed_74 : decode prog_10_method_70_code 74 = .ok (.invokestatic 139, 3) := by decide +kernel
theorem d_Mod_needed_77 : decode prog_10_method_70_code 77 = .ok (.istore_n 2, 1) := by decide +kernel
theorem d_Mod_needed_78 : decode prog_10_method_70_code 78 = .ok (.iinc 4 1, 3) := by decide +kernel
theorem d_Mod_needed_81 : decode prog_10_method_70_code 81 = .ok (.goto (-50), 3) := by decide +kernel
theorem d_Mod_needed_84 : decode prog_10_method_70_code 84 = .ok (.aload_n 0, 1) := by decide +kernel
theorem d_Mod_needed_85 : decode prog_10_method_70_code 85 = .ok (.iconst (-1), 1) := by decide +kernel
theorem d_Mod_needed_86 : decode prog_10_method_70_code 86 = .ok (.putfield 22, 3) := by decide +kernel
theorem d_Mod_needed_89 : decode prog_10_method_70_code 89 = .ok (.aload_n 0, 1) := by decide +kernel
theorem d_Mod_needed_90 : decode prog_10_method_70_code 90 = .ok (.iload_n 3, 1) := by decide +kernel
theorem d_Mod_needed_91 : decode prog_10_method_70_code 91 = .ok (.invokevirtual 199, 3) := by decide +kernel
theorem d_Mod_needed_94 : decode prog_10_method_70_code 94 = .ok (.ireturn, 1) := by decide +kernel
theorem d_Mod_sum_0 : decode prog_10_method_71_code 0 = .ok (.aload_n 0, 1) := by decide +kernel
theorem d_Mod_sum_1 : decode prog_10_method_71_code 1 = .ok (.iload_n 1, 1) := by decide +kernel
theorem d_Mod_sum_2 : decode prog_10_method_71_code 2 = .ok (.invokevirtual 101, 3) := by decide +kernel
theorem d_Mod_sum_5 : decode prog_10_method_71_code 5 = .ok (.ifCond .eq 13, 3) := by decide +kernel
theorem d_Mod_sum_8 : decode prog_10_method_71_code 8 = .ok (.iload_n 2, 1) := by decide +kernel
theorem d_Mod_sum_9 : decode prog_10_method_71_code 9 = .ok (.iconst 0, 1) := by decide +kernel
theorem d_Mod_sum_10 : decode prog_10_method_71_code 10 = .ok (.bipush 72, 2) := by decide +kernel
theorem d_Mod_sum_12 : decode prog_10_method_71_code 12 = .ok (.invokestatic 68, 3) := by decide +kernel
theorem d_Mod_sum_15 : decode prog_10_method_71_code 15 = .ok (.ifCond .ne 10, 3) := by decide +kernel
theorem d_Mod_sum_18 : decode prog_10_method_71_code 18 = .ok (.aload_n 0, 1) := by decide +kernel
theorem d_Mod_sum_19 : decode prog_10_method_71_code 19 = .ok (.ldc 63, 2) := by decide +kernel
theorem d_Mod_sum_21 : decode prog_10_method_71_code 21 = .ok (.invokevirtual 82, 3) := by decide +kernel
theorem d_Mod_sum_24 : decode prog_10_method_71_code 24 = .ok (.ireturn, 1) := by decide +kernel
theorem d_Mod_sum_25 : decode prog_10_method_71_code 25 = .ok (.aload_n 0, 1) := by decide +kernel
theorem d_Mod_sum_26 : decode prog_10_method_71_code 26 = .ok (.iload_n 2, 1) := by decide +kernel
theorem d_Mod_sum_27 : decode prog_10_method_71_code 27 = .ok (.invokevirtual 215, 3) := by decide +kernel
theorem d_Mod_sum_30 : decode prog_10_method_71_code 30 = .ok (.istore_n 3, 1) := by decide +kernel
theorem d_Mod_sum_31 : decode prog_10_method_71_code 31 = .ok (.aload_n 0, 1) := by decide +kernel
theorem d_Mod_sum_32 : decode prog_10_method_71_code 32 = .ok (.iload_n 1, 1) := by decide +kernel
theorem d_Mod_sum_33 : decode prog_10_method_71_code 33 = .ok (.iconst 1, 1) := by decide +kernel
theorem d_Mod_sum_34 : decode prog_10_method_71_code 34 = .ok (.invokestatic 72, 3) := by decide +kernel
theorem d_Mod_sum_37 : decode prog_10_method_71_code 37 = .ok (.iconst 0, 1) := by decide +kernel
theorem d_Mod_sum_38 : decode prog_10_method_71_code 38 = .ok (.invokevirtual 79, 3) := by decide +kernel
theorem d_Mod_sum_41 : decode prog_10_method_71_code 41 = .ok (.istore 4, 2) := by decide +kernel
theorem d_Mod_sum_43 : decode prog_10_method_71_code 43 = .ok (.aload_n 0, 1) := by decide +kernel
theorem d_Mod_sum_44 : decode prog_10_method_71_code 44 = .ok (.iload_n 2, 1) := by decide +kernel
theorem d_Mod_sum_45 : decode prog_10_method_71_code 45 = .ok (.invokevirtual 215, 3) := by decide +kernel
theorem d_Mod_sum_48 : decode prog_10_method_71_code 48 = .ok (.istore 5, 2) := by decide +kernel
theorem d_Mod_sum_50 : decode prog_10_method_71_code 50 = .ok (.aload_n 0, 1) := by decide +kernel
theorem d_Mod_sum_51 : decode prog_10_method_71_code 51 = .ok (.getfield 9, 3) := by decide +kernel
theorem d_Mod_sum_54 : decode prog_10_method_71_code 54 = .ok (.iload_n 1, 1) := by decide +kernel
theorem d_Mod_sum_55 : decode prog_10_method_71_code 55 = .ok (.iconst 1, 1) := by decide +kernel
theorem d_Mod_sum_56 : decode prog_10_method_71_code 56 = .ok (.invokestatic 72, 3) := by decide +kernel
theorem d_Mod_sum_59 : decode prog_10_method_71_code 59 = .ok (.iload 4, 2) := by decide +kernel
theorem d_Mod_sum_61 : decode prog_10_method_71_code 61 = .ok (.iastore, 1) := by decide +kernel
theorem d_Mod_sum_62 : decode prog_10_method_71_code 62 = .ok (.iload_n 3, 1) := by decide +kernel
theorem d_Mod_sum_63 : decode prog_10_method_71_code 63 = .ok (.iload 5, 2) := by decide +kernel
theorem d_Mod_sum_65 : decode prog_10_method_71_code 65 = .ok (.isub, 1) := by decide +kernel
theorem d_Mod_sum_66 : decode prog_10_method_71_code 66 = .ok (.ireturn, 1) := by decide +kernel
theorem d_Mod_feed_0 : decode prog_10_method_72_code 0 = .ok (.iload_n 2, 1) := by decide +kernel
theorem d_Mod_feed_1 : decode prog_10_method_72_code 1 = .ok (.iconst 1, 1) := by decide +kernel
theorem d_Mod_feed_2 : decode prog_10_method_72_code 2 = .ok (.iconst 4, 1) := by decide +kernel
theorem d_Mod_feed_3 : decode prog_10_method_72_code 3 = .ok (.invokestatic 68, 3) := by decide +kernel
theorem d_Mod_feed_6 : decode prog_10_method_72_code 6 = .ok (.ifCond .ne 10, 3) := by decide +kernel
theorem d_Mod_feed_9 : decode prog_10_method_72_code 9 = .ok (.aload_n 0, 1) := by decide +kernel
theorem d_Mod_feed_10 : decode prog_10_method_72_code 10 = .ok (.ldc 63, 2) := by decide +kernel
theorem d_Mod_feed_12 : decode prog_10_method_72_code 12 = .ok (.invokevirtual 82, 3) := by decide +kernel
theorem d_Mod_feed_15 : decode prog_10_method_72_code 15 = .ok (.ireturn, 1) := by decide +kernel
theorem d_Mod_feed_16 : decode prog_10_method_72_code 16 = .ok (.aload_n 0, 1) := by decide +kernel
theorem d_Mod_feed_17 : decode prog_10_method_72_code 17 = .ok (.getfield 222, 3) := by decide +kernel
theorem d_Mod_feed_20 : decode prog_10_method_72_code 20 = .ok (.iload_n 2, 1) := by decide +kernel
theorem d_Mod_feed_21 : decode prog_10_method_72_code 21 = .ok (.iadd, 1) := by decide +kernel
theorem d_Mod_feed_22 : decode prog_10_method_72_code 22 = .ok (.bipush 120, 2) := by decide +kernel
theorem d_Mod_feed_24 : decode prog_10_method_72_code 24 = .ok (.if_icmp .le 10, 3) := by decide +kernel
theorem d_Mod_feed_27 : decode prog_10_method_72_code 27 = .ok (.aload_n 0, 1) := by decide +kernel
theorem d_Mod_feed_28 : decode prog_10_method_72_code 28 = .ok (.ldc 90, 2) := by decide +kernel
theorem d_Mod_feed_30 : decode prog_10_method_72_code 30 = .ok (.invokevirtual 82, 3) := by decide +kernel
theorem d_Mod_feed_33 : decode prog_10_method_72_code 33 = .ok (.ireturn, 1) := by decide +kernel
theorem d_Mod_feed_34 : decode prog_10_method_72_code 34 = .ok (.iload_n 2, 1) := by decide +kernel
theorem d_Mod_feed_35 : decode prog_10_method_72_code 35 = .ok (.iconst 1, 1) := by decide +kernel
theorem d_Mod_feed_36 : decode prog_10_method_72_code 36 = .ok (.isub, 1) := by decide +kernel
theorem d_Mod_feed_37 : decode prog_10_method_72_code 37 = .ok (.istore_n 3, 1) := by decide +kernel
theorem d_Mod_feed_38 : decode prog_10_method_72_code 38 = .ok (.iload_n 3, 1) := by decide +kernel
theorem d_Mod_feed_39 : decode prog_10_method_72_code 39 = .ok (.ifCond .lt 38, 3) := by decide +kernel
theorem d_Mod_feed_42 : decode prog_10_method_72_code 42 = .ok (.aload_n 0, 1) := by decide +kernel
theorem d_Mod_feed_43 : decode prog_10_method_72_code 43 = .ok (.getfield 26, 3) := by decide +kernel
theorem d_Mod_feed_46 : decode prog_10_method_72_code 46 = .ok (.aload_n 0, 1) := by decide +kernel
theorem d_Mod_feed_47 : decode prog_10_method_72_code 47 = .ok (.getfield 222, 3) := by decide +kernel
theorem d_Mod_feed_50 : decode prog_10_method_72_code 50 = .ok (.iload_n 1, 1) := by decide +kernel
theorem d_Mod_feed_51 : decode prog_10_method_72_code 51 = .ok (.bipush 8, 2) := by decide +kernel
theorem d_Mod_feed_53 : decode prog_10_method_72_code 53 = .ok (.iload_n 3, 1) := by decide +kernel
theorem d_Mod_feed_54 : decode prog_10_method_72_code 54 = .ok (.imul, 1) := by decide +kernel
theorem d_Mod_feed_55 : decode prog_10_method_72_code 55 = .ok (.ishr, 1) := by decide +kernel
theorem d_Mod_feed_56 : decode prog_10_method_72_code 56 = .ok (.sipush 255, 3) := by decide +kernel
theorem d_Mod_feed_59 : decode prog_10_method_72_code 59 = .ok (.iand, 1) := by decide +kernel
theorem d_Mod_feed_60 : decode prog_10_method_72_code 60 = .ok (.iastore, 1) := by decide +kernel
theorem d_Mod_feed_61 : decode prog_10_method_72_code 61 = .ok (.aload_n 0, 1) := by decide +kernel
theorem d_Mod_feed_62 : decode prog_10_method_72_code 62 = .ok (.dup, 1) := by decide +kernel
theorem d_Mod_feed_63 : decode prog_10_method_72_code 63 = .ok (.getfield 222, 3) := by decide +kernel
theorem d_Mod_feed_66 : decode prog_10_method_72_code 66 = .ok (.iconst 1, 1) := by decide +kernel
theorem d_Mod_feed_67 : decode prog_10_method_72_code 67 = .ok (.iadd, 1) := by decide +kernel
theorem d_Mod_feed_68 : decode prog_10_method_72_code 68 = .ok (.putfield 222, 3) := by decide +kernel
theorem d_Mod_feed_71 : decode prog_10_method_72_code 71 = .ok (.iinc 3 (-1), 3) := by decide +kernel
theorem d_Mod_feed_74 : decode prog_10_method_72_code 74 = .ok (.goto (-36), 3) := by decide +kernel
theorem d_Mod_feed_77 : decode prog_10_method_72_code 77 = .ok (.aload_n 0, 1) := by decide +kernel
theorem d_Mod_feed_78 : decode prog_10_method_72_code 78 = .ok (.getfield 222, 3) := by decide +kernel
theorem d_Mod_feed_81 : decode prog_10_method_72_code 81 = .ok (.ireturn, 1) := by decide +kernel
theorem d_Mod_wipe_0 : decode prog_10_method_73_code 0 = .ok (.aload_n 0, 1) := by decide +kernel
theorem d_Mod_wipe_1 : decode prog_10_method_73_code 1 = .ok (.getfield 222, 3) := by decide +kernel
theorem d_Mod_wipe_4 : decode prog_10_method_73_code 4 = .ok (.istore_n 1, 1) := by decide +kernel
theorem d_Mod_wipe_5 : decode prog_10_method_73_code 5 = .ok (.aload_n 0, 1) := by decide +kernel
theorem d_Mod_wipe_6 : decode prog_10_method_73_code 6 = .ok (.iconst 0, 1) := by decide +kernel
theorem d_Mod_wipe_7 : decode prog_10_method_73_code 7 = .ok (.putfield 222, 3) := by decide +kernel
theorem d_Mod_wipe_10 : decode prog_10_method_73_code 10 = .ok (.iload_n 1, 1) := by decide +kernel
theorem d_Mod_wipe_11 : decode prog_10_method_73_code 11 = .ok (.ireturn, 1) := by decide +kernel
theorem d_Mod_river_0 : decode prog_10_method_84_code 0 = .ok (.aload_n 0, 1) := by decide +kernel
theorem d_Mod_river_1 : decode prog_10_method_84_code 1 = .ok (.iconst 0, 1) := by decide +kernel
theorem d_Mod_river_2 : decode prog_10_method_84_code 2 = .ok (.putfield 225, 3) := by decide +kernel
theorem d_Mod_river_5 : decode prog_10_method_84_code 5 = .ok (.aload_n 0, 1) := by decide +kernel
theorem d_Mod_river_6 : decode prog_10_method_84_code 6 = .ok (.iconst 0, 1) := by decide +kernel
theorem d_Mod_river_7 : decode prog_10_method_84_code 7 = .ok (.putfield 247, 3) := by decide +kernel
theorem d_Mod_river_10 : decode prog_10_method_84_code 10 = .ok (.aload_n 0, 1) := by decide +kernel
theorem d_Mod_river_11 : decode prog_10_method_84_code 11 = .ok (.iconst 0, 1) := by decide +kernel
theorem d_Mod_river_12 : decode prog_10_method_84_code 12 = .ok (.putfield 258, 3) := by decide +kernel
theorem d_Mod_river_15 : decode prog_10_method_84_code 15 = .ok (.aload_n 0, 1) := by decide +kernel
theorem d_Mod_river_16 : decode prog_10_method_84_code 16 = .ok (.aload_n 0, 1) := by decide +kernel
theorem d_Mod_river_17 : decode prog_10_method_84_code 17 = .ok (.getfield 9, 3) := by decide +kernel
theorem d_Mod_river_20 : decode prog_10_method_84_code 20 = .ok (.iconst 3, 1) := by decide +kernel
theorem d_Mod_river_21 : decode prog_10_method_84_code 21 = .ok (.iaload, 1) := by decide +kernel
theorem d_Mod_river_22 : decode prog_10_method_84_code 22 = .ok (.putfield 268, 3) := by decide +kernel
theorem d_Mod_river_25 : decode prog_10_method_84_code 25 = .ok (.aload_n 0, 1) := by decide +kernel
theorem d_Mod_river_26 : decode prog_10_method_84_code 26 = .ok (.aload_n 0, 1) := by decide +kernel
theorem d_Mod_river_27 : decode prog_10_method_84_code 27 = .ok (.getfield 9, 3) := by decide +kernel
theorem d_Mod_river_30 : decode prog_10_method_84_code 30 = .ok (.iconst 2, 1) := by decide +kernel
theorem d_Mod_river_31 : decode prog_10_method_84_code 31 = .ok (.iaload, 1) := by decide +kernel
theorem d_Mod_river_32 : decode prog_10_method_84_code 32 = .ok (.putfield 290, 3) := by decide +kernel
theorem d_Mod_river_35 : decode prog_10_method_84_code 35 = .ok (.aload_n 0, 1) := by decide +kernel
theorem d_Mod_river_36 : decode prog_10_method_84_code 36 = .ok (.invokevirtual 251, 3) := by decide +kernel
theorem d_Mod_river_39 : decode prog_10_method_84_code 39 = .ok (.aload_n 0, 1) := by decide +kernel
theorem d_Mod_river_40 : decode prog_10_method_84_code 40 = .ok (.invokevirtual 299, 3) := by decide +kernel
theorem d_Mod_river_43 : decode prog_10_method_84_code 43 = .ok (.aload_n 0, 1) := by decide +kernel
theorem d_Mod_river_44 : decode prog_10_method_84_code 44 = .ok (.getfield 247, 3) := by decide +kernel
theorem d_Mod_river_47 : decode prog_10_method_84_code 47 = .ok (.ifCond .ne 37, 3) := by decide +kernel
theorem d_Mod_river_50 : decode prog_10_method_84_code 50 = .ok (.aload_n 0, 1) := by decide +kernel
theorem d_Mod_river_51 : decode prog_10_method_84_code 51 = .ok (.getfield 237, 3) := by decide +kernel
theorem d_Mod_river_54 : decode prog_10_method_84_code 54 = .ok (.iconst 3, 1) := by decide +kernel
theorem d_Mod_river_55 : decode prog_10_method_84_code 55 = .ok (.if_icmp .ne 29, 3) := by decide +kernel
theorem d_Mod_river_58 : decode prog_10_method_84_code 58 = .ok (.aload_n 0, 1) := by decide +kernel
theorem d_Mod_river_59 : decode prog_10_method_84_code 59 = .ok (.getfield 26, 3) := by decide +kernel
theorem d_Mod_river_62 : decode prog_10_method_84_code 62 = .ok (.aload_n 0, 1) := by decide +kernel
theorem d_Mod_river_63 : decode prog_10_method_84_code 63 = .ok (.getfield 228, 3) := by decide +kernel
theorem d_Mod_river_66 : decode prog_10_method_84_code 66 = .ok (.iaload, 1) := by decide +kernel
theorem d_Mod_river_67 : decode prog_10_method_84_code 67 = .ok (.bipush 59, 2) := by decide +kernel
theorem d_Mod_river_69 : decode prog_10_method_84_code 69 = .ok (.if_icmp .ne 15, 3) := by decide +kernel
theorem d_Mod_river_72 : decode prog_10_method_84_code 72 = .ok (.aload_n 0, 1) := by decide +kernel
theorem d_Mod_river_73 : decode prog_10_method_84_code 73 = .ok (.iconst 1, 1) := by decide +kernel
theorem d_Mod_river_74 : decode prog_10_method_84_code 74 = .ok (.invokevirtual 254, 3) := by decide +kernel
theorem d_Mod_river_77 : decode prog_10_method_84_code 77 = .ok (.aload_n 0, 1) := by decide +kernel
theorem d_Mod_river_78 : decode prog_10_method_84_code 78 = .ok (.invokevirtual 299, 3) := by decide +kernel
theorem d_Mod_river_81 : decode prog_10_method_84_code 81 = .ok (.goto (-38), 3) := by decide +kernel
theorem d_Mod_river_84 : decode prog_10_method_84_code 84 = .ok (.aload_n 0, 1) := by decide +kernel
theorem d_Mod_river_85 : decode prog_10_method_84_code 85 = .ok (.aload_n 0, 1) := by decide +kernel
theorem d_Mod_river_86 : decode prog_10_method_84_code 86 = .ok (.getfield 237, 3) := by decide +kernel
theorem d_Mod_river_89 : decode prog_10_method_84_code 89 = .ok (.ifCond .ne 7, 3) := by decide +kernel
theorem d_Mod_river_92 : decode prog_10_method_84_code 92 = .ok (.iconst 1, 1) := by decide +kernel
theorem d_Mod_river_93 : decode prog_10_method_84_code 93 = .ok (.goto 4, 3) := by decide +kernel
theorem d_Mod_river_96 : decode prog_10_method_84_code 96 = .ok (.iconst 0, 1) := by decide +kernel
theorem d_Mod_river_97 : decode prog_10_method_84_code 97 = .ok (.invokevirtual 254, 3) := by decide +kernel
theorem d_Mod_river_100 : decode prog_10_method_84_code 100 = .ok (.aload_n 0, 1) := by decide +kernel
theorem d_Mod_river_101 : decode prog_10_method_84_code 101 = .ok (.iconst 0, 1) := by decide +kernel
theorem d_Mod_river_102 : decode prog_10_method_84_code 102 = .ok (.putfield 222, 3) := by decide +kernel
theorem d_Mod_river_105 : decode prog_10_method_84_code 105 = .ok (.aload_n 0, 1) := by decide +kernel
theorem d_Mod_river_106 : decode prog_10_method_84_code 106 = .ok (.getfield 247, 3) := by decide +kernel
theorem d_Mod_river_109 : decode prog_10_method_84_code 109 = .ok (.ifCond .eq 10, 3) := by decide +kernel
theorem d_Mod_river_112 : decode prog_10_method_84_code 112 = .ok (.iconst (-1), 1) := by decide +kernel
theorem d_Mod_river_113 : decode prog_10_method_84_code 113 = .ok (.aload_n 0, 1) := by decide +kernel
theorem d_Mod_river_114 : decode prog_10_method_84_code 114 = .ok (.getfield 228, 3) := by decide +kernel
theorem d_Mod_river_117 : decode prog_10_method_84_code 117 = .ok (.isub, 1) := by decide +kernel
theorem d_Mod_river_118 : decode prog_10_method_84_code 118 = .ok (.ireturn, 1) := by decide +kernel
theorem d_Mod_river_119 : decode prog_10_method_84_code 119 = .ok (.iconst 0, 1) := by decide +kernel
theorem d_Mod_river_120 : decode prog_10_method_84_code 120 = .ok (.istore_n 1, 1) := by decide +kernel
theorem d_Mod_river_121 : decode prog_10_method_84_code 121 = .ok (.iconst 0, 1) := by decide +kernel
theorem d_Mod_river_122 : decode prog_10_method_84_code 122 = .ok (.istore_n 2, 1) := by decide +kernel
theorem d_Mod_river_123 : decode prog_10_method_84_code 123 = .ok (.iload_n 2, 1) := by decide +kernel
theorem d_Mod_river_124 : decode prog_10_method_84_code 124 = .ok (.aload_n 0, 1) := by decide +kernel
theorem d_Mod_river_125 : decode prog_10_method_84_code 125 = .ok (.getfield 258, 3) := by decide +kernel
theorem d_Mod_river_128 : decode prog_10_method_84_code 128 = .ok (.if_icmp .ge 27, 3) := by decide +kernel
theorem d_Mod_river_131 : decode prog_10_method_84_code 131 = .ok (.iload_n 1, 1) := by decide +kernel
theorem d_Mod_river_132 : decode prog_10_method_84_code 132 = .ok (.aload_n 0, 1) := by decide +kernel
theorem d_Mod_river_133 : decode prog_10_method_84_code 133 = .ok (.iconst 5, 1) := by decide +kernel
theorem d_Mod_river_134 : decode prog_10_method_84_code 134 = .ok (.iload_n 2, 1) := by decide +kernel
theorem d_Mod_river_135 : decode prog_10_method_84_code 135 = .ok (.imul, 1) := by decide +kernel
theorem d_Mod_river_136 : decode prog_10_method_84_code 136 = .ok (.invokevirtual 302, 3) := by decide +kernel
theorem d_Mod_river_139 : decode prog_10_method_84_code 139 = .ok (.ifCond .ge 7, 3) := by decide +kernel
theorem d_Mod_river_142 : decode prog_10_method_84_code 142 = .ok (.iconst 0, 1) := by decide +kernel
theorem d_Mod_river_143 : decode prog_10_method_84_code 143 = .ok (.goto 4, 3) := by decide +kernel
theorem d_Mod_river_146 : decode prog_10_method_84_code 146 = .ok (.iconst 1, 1) := by decide +kernel
theorem d_Mod_river_147 : decode prog_10_method_84_code 147 = .ok (.iadd, 1) := by decide +kernel
theorem d_Mod_river_148 : decode prog_10_method_84_code 148 = .ok (.istore_n 1, 1) := by decide +kernel
theorem d_Mod_river_149 : decode prog_10_method_84_code 149 = .ok (.iinc 2 1, 3) := by decide +kernel
theorem d_Mod_river_152 : decode prog_10_method_84_code 152 = .ok (.goto (-29), 3) := by decide +kernel
theorem d_Mod_river_155 : decode prog_10_method_84_code 155 = .ok (.iload_n 1, 1) := by decide +kernel
theorem d_Mod_river_156 : decode prog_10_method_84_code 156 = .ok (.ireturn, 1) := by decide +kernel
theorem d_Mod_next_0 : decode prog_10_method_75_code 0 = .ok (.aload_n 0, 1) := by decide +kernel
theorem d_Mod_next_1 : decode prog_10_method_75_code 1 = .ok (.aload_n 0, 1) := by decide +kernel
theorem d_Mod_next_2 : decode prog_10_method_75_code 2 = .ok (.getfield 225, 3) := by decide +kernel
theorem d_Mod_next_5 : decode prog_10_method_75_code 5 = .ok (.putfield 228, 3) := by decide +kernel
theorem d_Mod_next_8 : decode prog_10_method_75_code 8 = .ok (.aload_n 0, 1) := by decide +kernel
theorem d_Mod_next_9 : decode prog_10_method_75_code 9 = .ok (.aload_n 0, 1) := by decide +kernel
theorem d_Mod_next_10 : decode prog_10_method_75_code 10 = .ok (.getfield 228, 3) := by decide +kernel
theorem d_Mod_next_13 : decode prog_10_method_75_code 13 = .ok (.invokevirtual 231, 3) := by decide +kernel
theorem d_Mod_next_16 : decode prog_10_method_75_code 16 = .ok (.bipush 32, 2) := by decide +kernel
theorem d_Mod_next_18 : decode prog_10_method_75_code 18 = .ok (.if_icmp .ne 16, 3) := by decide +kernel
theorem d_Mod_next_21 : decode prog_10_method_75_code 21 = .ok (.aload_n 0, 1) := by decide +kernel
theorem d_Mod_next_22 : decode prog_10_method_75_code 22 = .ok (.dup, 1) := by decide +kernel
theorem d_Mod_next_23 : decode prog_10_method_75_code 23 = .ok (.getfield 228, 3) := by decide +kernel
theorem d_Mod_next_26 : decode prog_10_method_75_code 26 = .ok (.iconst 1, 1) := by decide +kernel
theorem d_Mod_next_27 : decode prog_10_method_75_code 27 = .ok (.iadd, 1) := by decide +kernel
theorem d_Mod_next_28 : decode prog_10_method_75_code 28 = .ok (.putfield 228, 3) := by decide +kernel
theorem d_Mod_next_31 : decode prog_10_method_75_code 31 = .ok (.goto (-23), 3) := by decide +kernel
theorem d_Mod_next_34 : decode prog_10_method_75_code 34 = .ok (.aload_n 0, 1) := by decide +kernel
theorem d_Mod_next_35 : decode prog_10_method_75_code 35 = .ok (.aload_n 0, 1) := by decide +kernel
theorem d_Mod_next_36 : decode prog_10_method_75_code 36 = .ok (.getfield 228, 3) := by decide +kernel
theorem d_Mod_next_39 : decode prog_10_method_75_code 39 = .ok (.invokevirtual 231, 3) := by decide +kernel
theorem d_Mod_next_42 : decode prog_10_method_75_code 42 = .ok (.istore_n 1, 1) := by decide +kernel
theorem d_Mod_next_43 : decode prog_10_method_75_code 43 = .ok (.aload_n 0, 1) := by decide +kernel
theorem d_Mod_next_44 : decode prog_10_method_75_code 44 = .ok (.aload_n 0, 1) := by decide +kernel
theorem d_Mod_next_45 : decode prog_10_method_75_code 45 = .ok (.getfield 228, 3) := by decide +kernel
theorem d_Mod_next_48 : decode prog_10_method_75_code 48 = .ok (.putfield 225, 3) := by decide +kernel
theorem d_Mod_next_51 : decode prog_10_method_75_code 51 = .ok (.aload_n 0, 1) := by decide +kernel
theorem d_Mod_next_52 : decode prog_10_method_75_code 52 = .ok (.iconst 0, 1) := by decide +kernel
theorem d_Mod_next_53 : decode prog_10_method_75_code 53 = .ok (.putfield 234, 3) := by decide +kernel
theorem d_Mod_next_56 : decode prog_10_method_75_code 56 = .ok (.iload_n 1, 1) := by decide +kernel
theorem d_Mod_next_57 : decode prog_10_method_75_code 57 = .ok (.ifCond .ge 11, 3) := by decide +kernel
theorem d_Mod_next_60 : decode prog_10_method_75_code 60 = .ok (.aload_n 0, 1) := by decide +kernel
theorem d_Mod_next_61 : decode prog_10_method_75_code 61 = .ok (.iconst 0, 1) := by decide +kernel
theorem d_Mod_next_62 : decode prog_10_method_75_code 62 = .ok (.putfield 237, 3) := by decide +kernel
theorem d_Mod_next_65 : decode prog_10_method_75_code 65 = .ok (.goto 141, 3) := by decide +kernel
theorem d_Mod_next_68 : decode prog_10_method_75_code 68 = .ok (.iload_n 1, 1) := by decide +kernel
theorem d_Mod_next_69 : decode prog_10_method_75_code 69 = .ok (.bipush 97, 2) := by decide +kernel
theorem d_Mod_next_71 : decode prog_10_method_75_code 71 = .ok (.bipush 122, 2) := by decide +kernel
theorem d_Mod_next_73 : decode prog_10_method_75_code 73 = .ok (.invokestatic 68, 3) := by decide +kernel
theorem d_Mod_next_76 : decode prog_10_method_75_code 76 = .ok (.ifCond .eq 39, 3) := by decide +kernel
theorem d_Mod_next_79 : decode prog_10_method_75_code 79 = .ok (.aload_n 0, 1) := by decide +kernel
theorem d_Mod_next_80 : decode prog_10_method_75_code 80 = .ok (.iconst 1, 1) := by decide +kernel
theorem d_Mod_next_81 : decode prog_10_method_75_code 81 = .ok (.putfield 237, 3) := by decide +kernel
theorem d_Mod_next_84 : decode prog_10_method_75_code 84 = .ok (.aload_n 0, 1) := by decide +kernel
theorem d_Mod_next_85 : decode prog_10_method_75_code 85 = .ok (.aload_n 0, 1) := by decide +kernel
theorem d_Mod_next_86 : decode prog_10_method_75_code 86 = .ok (.getfield 225, 3) := by decide +kernel
theorem d_Mod_next_89 : decode prog_10_method_75_code 89 = .ok (.invokevirtual 231, 3) := by decide +kernel
theorem d_Mod_next_92 : decode prog_10_method_75_code 92 = .ok (.bipush 97, 2) := by decide +kernel
theorem d_Mod_next_94 : decode prog_10_method_75_code 94 = .ok (.bipush 122, 2) := by decide +kernel
theorem d_Mod_next_96 : decode prog_10_method_75_code 96 = .ok (.invokestatic 68, 3) := by decide +kernel
theorem d_Mod_next_99 : decode prog_10_method_75_code 99 = .ok (.ifCond .eq 107, 3) := by decide +kernel
theorem d_Mod_next_102 : decode prog_10_method_75_code 102 = .ok (.aload_n 0, 1) := by decide +kernel
theorem d_Mod_next_103 : decode prog_10_method_75_code 103 = .ok (.dup, 1) := by decide +kernel
theorem d_Mod_next_104 : decode prog_10_method_75_code 104 = .ok (.getfield 225, 3) := by decide +kernel
theorem d_Mod_next_107 : decode prog_10_method_75_code 107 = .ok (.iconst 1, 1) := by decide +kernel
theorem d_Mod_next_108 : decode prog_10_method_75_code 108 = .ok (.iadd, 1) := by decide +kernel
theorem d_Mod_next_109 : decode prog_10_method_75_code 109 = .ok (.putfield 225, 3) := by decide +kernel
theorem d_Mod_next_112 : decode prog_10_method_75_code 112 = .ok (.goto (-28), 3) := by decide +kernel
theorem d_Mod_next_115 : decode prog_10_method_75_code 115 = .ok (.iload_n 1, 1) := by decide +kernel
theorem d_Mod_next_116 : decode prog_10_method_75_code 116 = .ok (.bipush 48, 2) := by decide +kernel
theorem d_Mod_next_118 : decode prog_10_method_75_code 118 = .ok (.bipush 57, 2) := by decide +kernel
theorem d_Mod_next_120 : decode prog_10_method_75_code 120 = .ok (.invokestatic 68, 3) := by decide +kernel
theorem d_Mod_next_123 : decode prog_10_method_75_code 123 = .ok (.ifCond .eq 68, 3) := by decide +kernel
theorem d_Mod_next_126 : decode prog_10_method_75_code 126 = .ok (.aload_n 0, 1) := by decide +kernel
theorem d_Mod_next_127 : decode prog_10_method_75_code 127 = .ok (.iconst 2, 1) := by decide +kernel
theorem d_Mod_next_128 : decode prog_10_method_75_code 128 = .ok (.putfield 237, 3) := by decide +kernel
theorem d_Mod_next_131 : decode prog_10_method_75_code 131 = .ok (.aload_n 0, 1) := by decide +kernel
theorem d_Mod_next_132 : decode prog_10_method_75_code 132 = .ok (.aload_n 0, 1) := by decide +kernel
theorem d_Mod_next_133 : decode prog_10_method_75_code 133 = .ok (.getfield 225, 3) := by decide +kernel
theorem d_Mod_next_136 : decode prog_10_method_75_code 136 = .ok (.invokevirtual 231, 3) := by decide +kernel
theorem d_Mod_next_139 : decode prog_10_method_75_code 139 = .ok (.bipush 48, 2) := by decide +kernel
theorem d_Mod_next_141 : decode prog_10_method_75_code 141 = .ok (.bipush 57, 2) := by decide +kernel
theorem d_Mod_next_143 : decode prog_10_method_75_code 143 = .ok (.invokestatic 68, 3) := by decide +kernel
theorem d_Mod_next_146 : decode prog_10_method_75_code 146 = .ok (.ifCond .eq 60, 3) := by decide +kernel
theorem d_Mod_next_149 : decode prog_10_method_75_code 149 = .ok (.aload_n 0, 1) := by decide +kernel
theorem d_Mod_next_150 : decode prog_10_method_75_code 150 = .ok (.sipush 10000, 3) := by decide +kernel
theorem d_Mod_next_153 : decode prog_10_method_75_code 153 = .ok (.bipush 10, 2) := by decide +kernel
theorem d_Mod_next_155 : decode prog_10_method_75_code 155 = .ok (.aload_n 0, 1) := by decide +kernel
theorem d_Mod_next_156 : decode prog_10_method_75_code 156 = .ok (.getfield 234, 3) := by decide +kernel
theorem d_Mod_next_159 : decode prog_10_method_75_code 159 = .ok (.imul, 1) := by decide +kernel
theorem d_Mod_next_160 : decode prog_10_method_75_code 160 = .ok (.aload_n 0, 1) := by decide +kernel
theorem d_Mod_next_161 : decode prog_10_method_75_code 161 = .ok (.aload_n 0, 1) := by decide +kernel
theorem d_Mod_next_162 : decode prog_10_method_75_code 162 = .ok (.getfield 225, 3) := by decide +kernel
theorem d_Mod_next_165 : decode prog_10_method_75_code 165 = .ok (.invokevirtual 231, 3) := by decide +kernel
theorem d_Mod_next_168 : decode prog_10_method_75_code 168 = .ok (.iadd, 1) := by decide +kernel
theorem d_Mod_next_169 : decode prog_10_method_75_code 169 = .ok (.bipush 48, 2) := by decide +kernel
theorem d_Mod_next_171 : decode prog_10_method_75_code 171 = .ok (.isub, 1) := by decide +kernel
theorem d_Mod_next_172 : decode prog_10_method_75_code 172 = .ok (.invokestatic 139, 3) := by decide +kernel
theorem d_Mod_next_175 : decode prog_10_method_75_code 175 = .ok (.putfield 234, 3) := by decide +kernel
theorem d_Mod_next_178 : decode prog_10_method_75_code 178 = .ok (.aload_n 0, 1) := by decide +kernel
theorem d_Mod_next_179 : decode prog_10_method_75_code 179 = .ok (.dup, 1) := by decide +kernel
theorem d_Mod_next_180 : decode prog_10_method_75_code 180 = .ok (.getfield 225, 3) := by decide +kernel
theorem d_Mod_next_183 : decode prog_10_method_75_code 183 = .ok (.iconst 1, 1) := by decide +kernel
theorem d_Mod_next_184 : decode prog_10_method_75_code 184 = .ok (.iadd, 1) := by decide +kernel
theorem d_Mod_next_185 : decode prog_10_method_75_code 185 = .ok (.putfield 225, 3) := by decide +kernel
theorem d_Mod_next_188 : decode prog_10_method_75_code 188 = .ok (.goto (-57), 3) := by decide +kernel
theorem d_Mod_next_191 : decode prog_10_method_75_code 191 = .ok (.aload_n 0, 1) := by decide +kernel
theorem d_Mod_next_192 : decode prog_10_method_75_code 192 = .ok (.iconst 3, 1) := by decide +kernel
theorem d_Mod_next_193 : decode prog_10_method_75_code 193 = .ok (.putfield 237, 3) := by decide +kernel
theorem d_Mod_next_196 : decode prog_10_method_75_code 196 = .ok (.aload_n 0, 1) := by decide +kernel
theorem d_Mod_next_197 : decode prog_10_method_75_code 197 = .ok (.dup, 1) := by decide +kernel
theorem d_Mod_next_198 : decode prog_10_method_75_code 198 = .ok (.getfield 225, 3) := by decide +kernel
theorem d_Mod_next_201 : decode prog_10_method_75_code 201 = .ok (.iconst 1, 1) := by decide +kernel
theorem d_Mod_next_202 : decode prog_10_method_75_code 202 = .ok (.iadd, 1) := by decide +kernel
theorem d_Mod_next_203 : decode prog_10_method_75_code 203 = .ok (.putfield 225, 3) := by decide +kernel
theorem d_Mod_next_206 : decode prog_10_method_75_code 206 = .ok (.return_, 1) := by decide +kernel
theorem d_Mod_byteAt_0 : decode prog_10_method_74_code 0 = .ok (.iload_n 1, 1) := by decide +kernel
theorem d_Mod_byteAt_1 : decode prog_10_method_74_code 1 = .ok (.aload_n 0, 1) := by decide +kernel
theorem d_Mod_byteAt_2 : decode prog_10_method_74_code 2 = .ok (.getfield 222, 3) := by decide +kernel
theorem d_Mod_byteAt_5 : decode prog_10_method_74_code 5 = .ok (.if_icmp .ge 12, 3) := by decide +kernel
theorem d_Mod_byteAt_8 : decode prog_10_method_74_code 8 = .ok (.aload_n 0, 1) := by decide +kernel
theorem d_Mod_byteAt_9 : decode prog_10_method_74_code 9 = .ok (.getfield 26, 3) := by decide +kernel
theorem d_Mod_byteAt_12 : decode prog_10_method_74_code 12 = .ok (.iload_n 1, 1) := by decide +kernel
theorem d_Mod_byteAt_13 : decode prog_10_method_74_code 13 = .ok (.iaload, 1) := by decide +kernel
theorem d_Mod_byteAt_14 : decode prog_10_method_74_code 14 = .ok (.goto 4, 3) := by decide +kernel
theorem d_Mod_byteAt_17 : decode prog_10_method_74_code 17 = .ok (.iconst (-1), 1) := by decide +kernel
theorem d_Mod_byteAt_18 : decode prog_10_method_74_code 18 = .ok (.ireturn, 1) := by decide +kernel
theorem d_Mod_readItem_0 : decode prog_10_method_82_code 0 = .ok (.aload_n 0, 1) := by decide +kernel
theorem d_Mod_readItem_1 : decode prog_10_method_82_code 1 = .ok (.invokevirtual 265, 3) := by decide +kernel
theorem d_Mod_readItem_4 : decode prog_10_method_82_code 4 = .ok (.istore_n 1, 1) := by decide +kernel
theorem d_Mod_readItem_5 : decode prog_10_method_82_code 5 = .ok (.iload_n 1, 1) := by decide +kernel
theorem d_Mod_readItem_6 : decode prog_10_method_82_code 6 = .ok (.ifCond .lt 127, 3) := by decide +kernel
theorem d_Mod_readItem_9 : decode prog_10_method_82_code 9 = .ok (.aload_n 0, 1) := by decide +kernel
theorem d_Mod_readItem_10 : decode prog_10_method_82_code 10 = .ok (.aload_n 0, 1) := by decide +kernel
theorem d_Mod_readItem_11 : decode prog_10_method_82_code 11 = .ok (.getfield 268, 3) := by decide +kernel
theorem d_Mod_readItem_14 : decode prog_10_method_82_code 14 = .ok (.bipush 8, 2) := by decide +kernel
theorem d_Mod_readItem_16 : decode prog_10_method_82_code 16 = .ok (.if_icmp .ge 7, 3) := by decide +kernel
theorem d_Mod_readItem_19 : decode prog_10_method_82_code 19 = .ok (.iconst 1, 1) := by decide +kernel
theorem d_Mod_readItem_20 : decode prog_10_method_82_code 20 = .ok (.goto 4, 3) := by decide +kernel
theorem d_Mod_readItem_23 : decode prog_10_method_82_code 23 = .ok (.iconst 0, 1) := by decide +kernel
theorem d_Mod_readItem_24 : decode prog_10_method_82_code 24 = .ok (.invokevirtual 254, 3) := by decide +kernel
theorem d_Mod_readItem_27 : decode prog_10_method_82_code 27 = .ok (.aload_n 0, 1) := by decide +kernel
theorem d_Mod_readItem_28 : decode prog_10_method_82_code 28 = .ok (.dup, 1) := by decide +kernel
theorem d_Mod_readItem_29 : decode prog_10_method_82_code 29 = .ok (.getfield 268, 3) := by decide +kernel
theorem d_Mod_readItem_32 : decode prog_10_method_82_code 32 = .ok (.iconst 1, 1) := by decide +kernel
theorem d_Mod_readItem_33 : decode prog_10_method_82_code 33 = .ok (.iadd, 1) := by decide +kernel
theorem d_Mod_readItem_34 : decode prog_10_method_82_code 34 = .ok (.putfield 268, 3) := by decide +kernel
theorem d_Mod_readItem_37 : decode prog_10_method_82_code 37 = .ok (.aload_n 0, 1) := by decide +kernel
theorem d_Mod_readItem_38 : decode prog_10_method_82_code 38 = .ok (.ldc_w 271, 3) := by decide +kernel
theorem d_Mod_readItem_41 : decode prog_10_method_82_code 41 = .ok (.invokevirtual 273, 3) := by decide +kernel
theorem d_Mod_readItem_44 : decode prog_10_method_82_code 44 = .ok (.ifCond .eq 7, 3) := by decide +kernel
theorem d_Mod_readItem_47 : decode prog_10_method_82_code 47 = .ok (.iconst 1, 1) := by decide +kernel
theorem d_Mod_readItem_48 : decode prog_10_method_82_code 48 = .ok (.goto 4, 3) := by decide +kernel
theorem d_Mod_readItem_51 : decode prog_10_method_82_code 51 = .ok (.iconst 0, 1) := by decide +kernel
theorem d_Mod_readItem_52 : decode prog_10_method_82_code 52 = .ok (.istore_n 2, 1) := by decide +kernel
theorem d_Mod_readItem_53 : decode prog_10_method_82_code 53 = .ok (.aload_n 0, 1) := by decide +kernel
theorem d_Mod_readItem_54 : decode prog_10_method_82_code 54 = .ok (.ldc_w 276, 3) := by decide +kernel
theorem d_Mod_readItem_57 : decode prog_10_method_82_code 57 = .ok (.invokevirtual 273, 3) := by decide +kernel
theorem d_Mod_readItem_60 : decode prog_10_method_82_code 60 = .ok (.ifCond .eq 14, 3) := by decide +kernel
theorem d_Mod_readItem_63 : decode prog_10_method_82_code 63 = .ok (.aload_n 0, 1) := by decide +kernel
theorem d_Mod_readItem_64 : decode prog_10_method_82_code 64 = .ok (.iconst 0, 1) := by decide +kernel
theorem d_Mod_readItem_65 : decode prog_10_method_82_code 65 = .ok (.sipush 9999, 3) := by decide +kernel
theorem d_Mod_readItem_68 : decode prog_10_method_82_code 68 = .ok (.invokevirtual 278, 3) := by decide +kernel
theorem d_Mod_readItem_71 : decode prog_10_method_82_code 71 = .ok (.goto 5, 3) := by decide +kernel
theorem d_Mod_readItem_74 : decode prog_10_method_82_code 74 = .ok (.bipush 50, 2) := by decide +kernel
theorem d_Mod_readItem_76 : decode prog_10_method_82_code 76 = .ok (.istore_n 3, 1) := by decide +kernel
theorem d_Mod_readItem_77 : decode prog_10_method_82_code 77 = .ok (.aload_n 0, 1) := by decide +kernel
theorem d_Mod_readItem_78 : decode prog_10_method_82_code 78 = .ok (.ldc_w 281, 3) := by decide +kernel
theorem d_Mod_readItem_81 : decode prog_10_method_82_code 81 = .ok (.invokevirtual 273, 3) := by decide +kernel
theorem d_Mod_readItem_84 : decode prog_10_method_82_code 84 = .ok (.ifCond .eq 13, 3) := by decide +kernel
theorem d_Mod_readItem_87 : decode prog_10_method_82_code 87 = .ok (.aload_n 0, 1) := by decide +kernel
theorem d_Mod_readItem_88 : decode prog_10_method_82_code 88 = .ok (.iconst 0, 1) := by decide +kernel
theorem d_Mod_readItem_89 : decode prog_10_method_82_code 89 = .ok (.bipush 23, 2) := by decide +kernel
theorem d_Mod_readItem_91 : decode prog_10_method_82_code 91 = .ok (.invokevirtual 278, 3) := by decide +kernel
theorem d_Mod_readItem_94 : decode prog_10_method_82_code 94 = .ok (.goto 4, 3) := by decide +kernel
theorem d_Mod_readItem_97 : decode prog_10_method_82_code 97 = .ok (.iconst (-1), 1) := by decide +kernel
theorem d_Mod_readItem_98 : decode prog_10_method_82_code 98 = .ok (.istore 4, 2) := by decide +kernel
theorem d_Mod_readItem_100 : decode prog_10_method_82_code 100 = .ok (.aload_n 0, 1) := by decide +kernel
theorem d_Mod_readItem_101 : decode prog_10_method_82_code 101 = .ok (.iload_n 1, 1) := by decide +kernel
theorem d_Mod_readItem_102 : decode prog_10_method_82_code 102 = .ok (.iload_n 2, 1) := by decide +kernel
theorem d_Mod_readItem_103 : decode prog_10_method_82_code 103 = .ok (.iload_n 3, 1) := by decide +kernel
theorem d_Mod_readItem_104 : decode prog_10_method_82_code 104 = .ok (.iload 4, 2) := by decide +kernel
theorem d_Mod_readItem_106 : decode prog_10_method_82_code 106 = .ok (.aload_n 0, 1) := by decide +kernel
theorem d_Mod_readItem_107 : decode prog_10_method_82_code 107 = .ok (.ldc_w 283, 3) := by decide +kernel
theorem d_Mod_readItem_110 : decode prog_10_method_82_code 110 = .ok (.invokevirtual 273, 3) := by decide +kernel
theorem d_Mod_readItem_113 : decode prog_10_method_82_code 113 = .ok (.ifCond .eq 13, 3) := by decide +kernel
theorem d_Mod_readItem_116 : decode prog_10_method_82_code 116 = .ok (.aload_n 0, 1) := by decide +kernel
theorem d_Mod_readItem_117 : decode prog_10_method_82_code 117 = .ok (.iconst 0, 1) := by decide +kernel
theorem d_Mod_readItem_118 : decode prog_10_method_82_code 118 = .ok (.bipush 23, 2) := by decide +kernel
theorem d_Mod_readItem_120 : decode prog_10_method_82_code 120 = .ok (.invokevirtual 278, 3) := by decide +kernel
theorem d_Mod_readItem_123 : decode prog_10_method_82_code 123 = .ok (.goto 4, 3) := by decide +kernel
theorem d_Mod_readItem_126 : decode prog_10_method_82_code 126 = .ok (.iconst (-1), 1) := by decide +kernel
theorem d_Mod_readItem_127 : decode prog_10_method_82_code 127 = .ok (.invokevirtual 284, 3) := by decide +kernel
theorem d_Mod_readItem_130 : decode prog_10_method_82_code 130 = .ok (.goto 129, 3) := by decide +kernel
theorem d_Mod_readItem_133 : decode prog_10_method_82_code 133 = .ok (.aload_n 0, 1) := by decide +kernel
theorem d_Mod_readItem_134 : decode prog_10_method_82_code 134 = .ok (.ldc_w 288, 3) := by decide +kernel
theorem d_Mod_readItem_137 : decode prog_10_method_82_code 137 = .ok (.invokevirtual 261, 3) := by decide +kernel
theorem d_Mod_readItem_140 : decode prog_10_method_82_code 140 = .ok (.ifCond .eq 92, 3) := by decide +kernel
theorem d_Mod_readItem_143 : decode prog_10_method_82_code 143 = .ok (.aload_n 0, 1) := by decide +kernel
theorem d_Mod_readItem_144 : decode prog_10_method_82_code 144 = .ok (.aload_n 0, 1) := by decide +kernel
theorem d_Mod_readItem_145 : decode prog_10_method_82_code 145 = .ok (.getfield 290, 3) := by decide +kernel
theorem d_Mod_readItem_148 : decode prog_10_method_82_code 148 = .ok (.bipush 8, 2) := by decide +kernel
theorem d_Mod_readItem_150 : decode prog_10_method_82_code 150 = .ok (.if_icmp .ge 7, 3) := by decide +kernel
theorem d_Mod_readItem_153 : decode prog_10_method_82_code 153 = .ok (.iconst 1, 1) := by decide +kernel
theorem d_Mod_readItem_154 : decode prog_10_method_82_code 154 = .ok (.goto 4, 3) := by decide +kernel
theorem d_Mod_readItem_157 : decode prog_10_method_82_code 157 = .ok (.iconst 0, 1) := by decide +kernel
theorem d_Mod_readItem_158 : decode prog_10_method_82_code 158 = .ok (.invokevirtual 254, 3) := by decide +kernel
theorem d_Mod_readItem_161 : decode prog_10_method_82_code 161 = .ok (.aload_n 0, 1) := by decide +kernel
theorem d_Mod_readItem_162 : decode prog_10_method_82_code 162 = .ok (.dup, 1) := by decide +kernel
theorem d_Mod_readItem_163 : decode prog_10_method_82_code 163 = .ok (.getfield 290, 3) := by decide +kernel
theorem d_Mod_readItem_166 : decode prog_10_method_82_code 166 = .ok (.iconst 1, 1) := by decide +kernel
theorem d_Mod_readItem_167 : decode prog_10_method_82_code 167 = .ok (.iadd, 1) := by decide +kernel
theorem d_Mod_readItem_168 : decode prog_10_method_82_code 168 = .ok (.putfield 290, 3) := by decide +kernel
theorem d_Mod_readItem_171 : decode prog_10_method_82_code 171 = .ok (.aload_n 0, 1) := by decide +kernel
theorem d_Mod_readItem_172 : decode prog_10_method_82_code 172 = .ok (.iconst 0, 1) := by decide +kernel
theorem d_Mod_readItem_173 : decode prog_10_method_82_code 173 = .ok (.sipush 9999, 3) := by decide +kernel
theorem d_Mod_readItem_176 : decode prog_10_method_82_code 176 = .ok (.invokevirtual 278, 3) := by decide +kernel
theorem d_Mod_readItem_179 : decode prog_10_method_82_code 179 = .ok (.istore_n 2, 1) := by decide +kernel
theorem d_Mod_readItem_180 : decode prog_10_method_82_code 180 = .ok (.aload_n 0, 1) := by decide +kernel
theorem d_Mod_readItem_181 : decode prog_10_method_82_code 181 = .ok (.aload_n 0, 1) := by decide +kernel
theorem d_Mod_readItem_182 : decode prog_10_method_82_code 182 = .ok (.ldc_w 293, 3) := by decide +kernel
theorem d_Mod_readItem_185 : decode prog_10_method_82_code 185 = .ok (.invokevirtual 261, 3) := by decide +kernel
theorem d_Mod_readItem_188 : decode prog_10_method_82_code 188 = .ok (.invokevirtual 254, 3) := by decide +kernel
theorem d_Mod_readItem_191 : decode prog_10_method_82_code 191 = .ok (.aload_n 0, 1) := by decide +kernel
theorem d_Mod_readItem_192 : decode prog_10_method_82_code 192 = .ok (.ldc_w 295, 3) := by decide +kernel
theorem d_Mod_readItem_195 : decode prog_10_method_82_code 195 = .ok (.invokevirtual 273, 3) := by decide +kernel
theorem d_Mod_readItem_198 : decode prog_10_method_82_code 198 = .ok (.istore_n 3, 1) := by decide +kernel
theorem d_Mod_readItem_199 : decode prog_10_method_82_code 199 = .ok (.aload_n 0, 1) := by decide +kernel
theorem d_Mod_readItem_200 : decode prog_10_method_82_code 200 = .ok (.iconst 0, 1) := by decide +kernel
theorem d_Mod_readItem_201 : decode prog_10_method_82_code 201 = .ok (.bipush 99, 2) := by decide +kernel
theorem d_Mod_readItem_203 : decode prog_10_method_82_code 203 = .ok (.invokevirtual 278, 3) := by decide +kernel
theorem d_Mod_readItem_206 : decode prog_10_method_82_code 206 = .ok (.istore 4, 2) := by decide +kernel
theorem d_Mod_readItem_208 : decode prog_10_method_82_code 208 = .ok (.aload_n 0, 1) := by decide +kernel
theorem d_Mod_readItem_209 : decode prog_10_method_82_code 209 = .ok (.bipush 10, 2) := by decide +kernel
theorem d_Mod_readItem_211 : decode prog_10_method_82_code 211 = .ok (.iload_n 2, 1) := by decide +kernel
theorem d_Mod_readItem_212 : decode prog_10_method_82_code 212 = .ok (.iload_n 3, 1) := by decide +kernel
theorem d_Mod_readItem_213 : decode prog_10_method_82_code 213 = .ok (.ifCond .eq 9, 3) := by decide +kernel
theorem d_Mod_readItem_216 : decode prog_10_method_82_code 216 = .ok (.iload 4, 2) := by decide +kernel
theorem d_Mod_readItem_218 : decode prog_10_method_82_code 218 = .ok (.ineg, 1) := by decide +kernel
theorem d_Mod_readItem_219 : decode prog_10_method_82_code 219 = .ok (.goto 5, 3) := by decide +kernel
theorem d_Mod_readItem_222 : decode prog_10_method_82_code 222 = .ok (.iload 4, 2) := by decide +kernel
theorem d_Mod_readItem_224 : decode prog_10_method_82_code 224 = .ok (.iconst 0, 1) := by decide +kernel
theorem d_Mod_readItem_225 : decode prog_10_method_82_code 225 = .ok (.iconst 0, 1) := by decide +kernel
theorem d_Mod_readItem_226 : decode prog_10_method_82_code 226 = .ok (.invokevirtual 284, 3) := by decide +kernel
theorem d_Mod_readItem_229 : decode prog_10_method_82_code 229 = .ok (.goto 30, 3) := by decide +kernel
theorem d_Mod_readItem_232 : decode prog_10_method_82_code 232 = .ok (.aload_n 0, 1) := by decide +kernel
theorem d_Mod_readItem_233 : decode prog_10_method_82_code 233 = .ok (.aload_n 0, 1) := by decide +kernel
theorem d_Mod_readItem_234 : decode prog_10_method_82_code 234 = .ok (.ldc_w 297, 3) := by decide +kernel
theorem d_Mod_readItem_237 : decode prog_10_method_82_code 237 = .ok (.invokevirtual 261, 3) := by decide +kernel
theorem d_Mod_readItem_240 : decode prog_10_method_82_code 240 = .ok (.invokevirtual 254, 3) := by decide +kernel
theorem d_Mod_readItem_243 : decode prog_10_method_82_code 243 = .ok (.aload_n 0, 1) := by decide +kernel
theorem d_Mod_readItem_244 : decode prog_10_method_82_code 244 = .ok (.bipush 11, 2) := by decide +kernel
theorem d_Mod_readItem_246 : decode prog_10_method_82_code 246 = .ok (.aload_n 0, 1) := by decide +kernel
theorem d_Mod_readItem_247 : decode prog_10_method_82_code 247 = .ok (.iconst 0, 1) := by decide +kernel
theorem d_Mod_readItem_248 : decode prog_10_method_82_code 248 = .ok (.bipush 99, 2) := by decide +kernel
theorem d_Mod_readItem_250 : decode prog_10_method_82_code 250 = .ok (.invokevirtual 278, 3) := by decide +kernel
theorem d_Mod_readItem_253 : decode prog_10_method_82_code 253 = .ok (.iconst 0, 1) := by decide +kernel
theorem d_Mod_readItem_254 : decode prog_10_method_82_code 254 = .ok (.iconst 0, 1) := by decide +kernel
theorem d_Mod_readItem_255 : decode prog_10_method_82_code 255 = .ok (.iconst 0, 1) := by decide +kernel
theorem d_Mod_readItem_256 : decode prog_10_method_82_code 256 = .ok (.invokevirtual 284, 3) := by decide +kernel
theorem d_Mod_readItem_259 : decode prog_10_method_82_code 259 = .ok (.return_, 1) := by decide +kernel
theorem d_Mod_kindTold_0 : decode prog_10_method_80_code 0 = .ok (.iconst (-1), 1) := by decide +kernel
theorem d_Mod_kindTold_1 : decode prog_10_method_80_code 1 = .ok (.istore_n 1, 1) := by decide +kernel
theorem d_Mod_kindTold_2 : decode prog_10_method_80_code 2 = .ok (.iconst 0, 1) := by decide +kernel
theorem d_Mod_kindTold_3 : decode prog_10_method_80_code 3 = .ok (.istore_n 2, 1) := by decide +kernel
theorem d_Mod_kindTold_4 : decode prog_10_method_80_code 4 = .ok (.iload_n 2, 1) := by decide +kernel
theorem d_Mod_kindTold_5 : decode prog_10_method_80_code 5 = .ok (.aload_n 0, 1) := by decide +kernel
theorem d_Mod_kindTold_6 : decode prog_10_method_80_code 6 = .ok (.getfield 43, 3) := by decide +kernel
theorem d_Mod_kindTold_9 : decode prog_10_method_80_code 9 = .ok (.arraylength, 1) := by decide +kernel
theorem d_Mod_kindTold_10 : decode prog_10_method_80_code 10 = .ok (.if_icmp .ge 28, 3) := by decide +kernel
theorem d_Mod_kindTold_13 : decode prog_10_method_80_code 13 = .ok (.aload_n 0, 1) := by decide +kernel
theorem d_Mod_kindTold_14 : decode prog_10_method_80_code 14 = .ok (.aload_n 0, 1) := by decide +kernel
theorem d_Mod_kindTold_15 : decode prog_10_method_80_code 15 = .ok (.getfield 43, 3) := by decide +kernel
theorem d_Mod_kindTold_18 : decode prog_10_method_80_code 18 = .ok (.iload_n 2, 1) := by decide +kernel
theorem d_Mod_kindTold_19 : decode prog_10_method_80_code 19 = .ok (.aaload, 1) := by decide +kernel
theorem d_Mod_kindTold_20 : decode prog_10_method_80_code 20 = .ok (.invokevirtual 261, 3) := by decide +kernel
theorem d_Mod_kindTold_23 : decode prog_10_method_80_code 23 = .ok (.ifCond .eq 7, 3) := by decide +kernel
theorem d_Mod_kindTold_26 : decode prog_10_method_80_code 26 = .ok (.iload_n 2, 1) := by decide +kernel
theorem d_Mod_kindTold_27 : decode prog_10_method_80_code 27 = .ok (.goto 4, 3) := by decide +kernel
theorem d_Mod_kindTold_30 : decode prog_10_method_80_code 30 = .ok (.iload_n 1, 1) := by decide +kernel
theorem d_Mod_kindTold_31 : decode prog_10_method_80_code 31 = .ok (.istore_n 1, 1) := by decide +kernel
theorem d_Mod_kindTold_32 : decode prog_10_method_80_code 32 = .ok (.iinc 2 1, 3) := by decide +kernel
theorem d_Mod_kindTold_35 : decode prog_10_method_80_code 35 = .ok (.goto (-31), 3) := by decide +kernel
theorem d_Mod_kindTold_38 : decode prog_10_method_80_code 38 = .ok (.iload_n 1, 1) := by decide +kernel
theorem d_Mod_kindTold_39 : decode prog_10_method_80_code 39 = .ok (.ireturn, 1) := by decide +kernel
theorem d_Mod_isWord_0 : decode prog_10_method_76_code 0 = .ok (.aload_n 0, 1) := by decide +kernel
theorem d_Mod_isWord_1 : decode prog_10_method_76_code 1 = .ok (.getfield 237, 3) := by decide +kernel
theorem d_Mod_isWord_4 : decode prog_10_method_76_code 4 = .ok (.iconst 1, 1) := by decide +kernel
theorem d_Mod_isWord_5 : decode prog_10_method_76_code 5 = .ok (.if_icmp .ne 23, 3) := by decide +kernel
theorem d_Mod_isWord_8 : decode prog_10_method_76_code 8 = .ok (.aload_n 0, 1) := by decide +kernel
theorem d_Mod_isWord_9 : decode prog_10_method_76_code 9 = .ok (.getfield 225, 3) := by decide +kernel
theorem d_Mod_isWord_12 : decode prog_10_method_76_code 12 = .ok (.aload_n 0, 1) := by decide +kernel
theorem d_Mod_isWord_13 : decode prog_10_method_76_code 13 = .ok (.getfield 228, 3) := by decide +kernel
theorem d_Mod_isWord_16 : decode prog_10_method_76_code 16 = .ok (.isub, 1) := by decide +kernel
theorem d_Mod_isWord_17 : decode prog_10_method_76_code 17 = .ok (.aload_n 1, 1) := by decide +kernel
theorem d_Mod_isWord_18 : decode prog_10_method_76_code 18 = .ok (.invokevirtual 240, 3) := by decide +kernel
theorem d_Mod_isWord_21 : decode prog_10_method_76_code 21 = .ok (.if_icmp .ne 7, 3) := by decide +kernel
theorem d_Mod_isWord_24 : decode prog_10_method_76_code 24 = .ok (.iconst 1, 1) := by decide +kernel
theorem d_Mod_isWord_25 : decode prog_10_method_76_code 25 = .ok (.goto 4, 3) := by decide +kernel
theorem d_Mod_isWord_28 : decode prog_10_method_76_code 28 = .ok (.iconst 0, 1) := by decide +kernel
theorem d_Mod_isWord_29 : decode prog_10_method_76_code 29 = .ok (.istore_n 2, 1) := by decide +kernel
theorem d_Mod_isWord_30 : decode prog_10_method_76_code 30 = .ok (.iconst 0, 1) := by decide +kernel
theorem d_Mod_isWord_31 : decode prog_10_method_76_code 31 = .ok (.istore_n 3, 1) := by decide +kernel
theorem d_Mod_isWord_32 : decode prog_10_method_76_code 32 = .ok (.iload_n 3, 1) := by decide +kernel
theorem d_Mod_isWord_33 : decode prog_10_method_76_code 33 = .ok (.aload_n 1, 1) := by decide +kernel
theorem d_Mod_isWord_34 : decode prog_10_method_76_code 34 = .ok (.invokevirtual 240, 3) := by decide +kernel
theorem d_Mod_isWord_37 : decode prog_10_method_76_code 37 = .ok (.if_icmp .ge 38, 3) := by decide +kernel
theorem d_Mod_isWord_40 : decode prog_10_method_76_code 40 = .ok (.iload_n 2, 1) := by decide +kernel
theorem d_Mod_isWord_41 : decode prog_10_method_76_code 41 = .ok (.ifCond .eq 34, 3) := by decide +kernel
theorem d_Mod_isWord_44 : decode prog_10_method_76_code 44 = .ok (.aload_n 0, 1) := by decide +kernel
theorem d_Mod_isWord_45 : decode prog_10_method_76_code 45 = .ok (.getfield 26, 3) := by decide +kernel
theorem d_Mod_isWord_48 : decode prog_10_method_76_code 48 = .ok (.aload_n 0, 1) := by decide +kernel
theorem d_Mod_isWord_49 : decode prog_10_method_76_code 49 = .ok (.getfield 228, 3) := by decide +kernel
theorem d_Mod_isWord_52 : decode prog_10_method_76_code 52 = .ok (.iload_n 3, 1) := by decide +kernel
theorem d_Mod_isWord_53 : decode prog_10_method_76_code 53 = .ok (.iadd, 1) := by decide +kernel
theorem d_Mod_isWord_54 : decode prog_10_method_76_code 54 = .ok (.iaload, 1) := by decide +kernel
theorem d_Mod_isWord_55 : decode prog_10_method_76_code 55 = .ok (.aload_n 1, 1) := by decide +kernel
theorem d_Mod_isWord_56 : decode prog_10_method_76_code 56 = .ok (.iload_n 3, 1) := by decide +kernel
theorem d_Mod_isWord_57 : decode prog_10_method_76_code 57 = .ok (.invokevirtual 243, 3) := by decide +kernel
theorem d_Mod_isWord_60 : decode prog_10_method_76_code 60 = .ok (.if_icmp .ne 7, 3) := by decide +kernel
theorem d_Mod_isWord_63 : decode prog_10_method_76_code 63 = .ok (.iconst 1, 1) := by decide +kernel
theorem d_Mod_isWord_64 : decode prog_10_method_76_code 64 = .ok (.goto 4, 3) := by decide +kernel
theorem d_Mod_isWord_67 : decode prog_10_method_76_code 67 = .ok (.iconst 0, 1) := by decide +kernel
theorem d_Mod_isWord_68 : decode prog_10_method_76_code 68 = .ok (.istore_n 2, 1) := by decide +kernel
theorem d_Mod_isWord_69 : decode prog_10_method_76_code 69 = .ok (.iinc 3 1, 3) := by decide +kernel
theorem d_Mod_isWord_72 : decode prog_10_method_76_code 72 = .ok (.goto (-40), 3) := by decide +kernel
theorem d_Mod_isWord_75 : decode prog_10_method_76_code 75 = .ok (.iload_n 2, 1) := by decide +kernel
theorem d_Mod_isWord_76 : decode prog_10_method_76_code 76 = .ok (.ireturn, 1) := by decide +kernel
theorem d_Mod_must_0 : decode prog_10_method_77_code 0 = .ok (.aload_n 0, 1) := by decide +kernel
theorem d_Mod_must_1 : decode prog_10_method_77_code 1 = .ok (.aload_n 0, 1) := by decide +kernel
theorem d_Mod_must_2 : decode prog_10_method_77_code 2 = .ok (.getfield 247, 3) := by decide +kernel
theorem d_Mod_must_5 : decode prog_10_method_77_code 5 = .ok (.ifCond .ne 7, 3) := by decide +kernel
theorem d_Mod_must_8 : decode prog_10_method_77_code 8 = .ok (.iload_n 1, 1) := by decide +kernel
theorem d_Mod_must_9 : decode prog_10_method_77_code 9 = .ok (.ifCond .ne 7, 3) := by decide +kernel
theorem d_Mod_must_12 : decode prog_10_method_77_code 12 = .ok (.iconst 1, 1) := by decide +kernel
theorem d_Mod_must_13 : decode prog_10_method_77_code 13 = .ok (.goto 4, 3) := by decide +kernel
theorem d_Mod_must_16 : decode prog_10_method_77_code 16 = .ok (.iconst 0, 1) := by decide +kernel
theorem d_Mod_must_17 : decode prog_10_method_77_code 17 = .ok (.putfield 247, 3) := by decide +kernel
theorem d_Mod_must_20 : decode prog_10_method_77_code 20 = .ok (.aload_n 0, 1) := by decide +kernel
theorem d_Mod_must_21 : decode prog_10_method_77_code 21 = .ok (.getfield 247, 3) := by decide +kernel
theorem d_Mod_must_24 : decode prog_10_method_77_code 24 = .ok (.ifCond .ne 7, 3) := by decide +kernel
theorem d_Mod_must_27 : decode prog_10_method_77_code 27 = .ok (.aload_n 0, 1) := by decide +kernel
theorem d_Mod_must_28 : decode prog_10_method_77_code 28 = .ok (.invokevirtual 251, 3) := by decide +kernel
theorem d_Mod_must_31 : decode prog_10_method_77_code 31 = .ok (.return_, 1) := by decide +kernel
theorem d_Mod_isNext_0 : decode prog_10_method_81_code 0 = .ok (.aload_n 0, 1) := by decide +kernel
theorem d_Mod_isNext_1 : decode prog_10_method_81_code 1 = .ok (.getfield 247, 3) := by decide +kernel
theorem d_Mod_isNext_4 : decode prog_10_method_81_code 4 = .ok (.ifCond .ne 15, 3) := by decide +kernel
theorem d_Mod_isNext_7 : decode prog_10_method_81_code 7 = .ok (.aload_n 0, 1) := by decide +kernel
theorem d_Mod_isNext_8 : decode prog_10_method_81_code 8 = .ok (.aload_n 1, 1) := by decide +kernel
theorem d_Mod_isNext_9 : decode prog_10_method_81_code 9 = .ok (.invokevirtual 261, 3) := by decide +kernel
theorem d_Mod_isNext_12 : decode prog_10_method_81_code 12 = .ok (.ifCond .eq 7, 3) := by decide +kernel
theorem d_Mod_isNext_15 : decode prog_10_method_81_code 15 = .ok (.iconst 1, 1) := by decide +kernel
theorem d_Mod_isNext_16 : decode prog_10_method_81_code 16 = .ok (.goto 4, 3) := by decide +kernel
theorem d_Mod_isNext_19 : decode prog_10_method_81_code 19 = .ok (.iconst 0, 1) := by decide +kernel
theorem d_Mod_isNext_20 : decode prog_10_method_81_code 20 = .ok (.istore_n 2, 1) := by decide +kernel
theorem d_Mod_isNext_21 : decode prog_10_method_81_code 21 = .ok (.iload_n 2, 1) := by decide +kernel
theorem d_Mod_isNext_22 : decode prog_10_method_81_code 22 = .ok (.ifCond .eq 8, 3) := by decide +kernel
theorem d_Mod_isNext_25 : decode prog_10_method_81_code 25 = .ok (.aload_n 0, 1) := by decide +kernel
theorem d_Mod_isNext_26 : decode prog_10_method_81_code 26 = .ok (.iconst 1, 1) := by decide +kernel
theorem d_Mod_isNext_27 : decode prog_10_method_81_code 27 = .ok (.invokevirtual 254, 3) := by decide +kernel
theorem d_Mod_isNext_30 : decode prog_10_method_81_code 30 = .ok (.iload_n 2, 1) := by decide +kernel
theorem d_Mod_isNext_31 : decode prog_10_method_81_code 31 = .ok (.ireturn, 1) := by decide +kernel
theorem d_Mod_number_0 : decode prog_10_method_78_code 0 = .ok (.aload_n 0, 1) := by decide +kernel
theorem d_Mod_number_1 : decode prog_10_method_78_code 1 = .ok (.getfield 234, 3) := by decide +kernel
theorem d_Mod_number_4 : decode prog_10_method_78_code 4 = .ok (.istore_n 3, 1) := by decide +kernel
theorem d_Mod_number_5 : decode prog_10_method_78_code 5 = .ok (.aload_n 0, 1) := by decide +kernel
theorem d_Mod_number_6 : decode prog_10_method_78_code 6 = .ok (.aload_n 0, 1) := by decide +kernel
theorem d_Mod_number_7 : decode prog_10_method_78_code 7 = .ok (.getfield 237, 3) := by decide +kernel
theorem d_Mod_number_10 : decode prog_10_method_78_code 10 = .ok (.iconst 2, 1) := by decide +kernel
theorem d_Mod_number_11 : decode prog_10_method_78_code 11 = .ok (.if_icmp .ne 16, 3) := by decide +kernel
theorem d_Mod_number_14 : decode prog_10_method_78_code 14 = .ok (.iload_n 3, 1) := by decide +kernel
theorem d_Mod_number_15 : decode prog_10_method_78_code 15 = .ok (.iload_n 1, 1) := by decide +kernel
theorem d_Mod_number_16 : decode prog_10_method_78_code 16 = .ok (.iload_n 2, 1) := by decide +kernel
theorem d_Mod_number_17 : decode prog_10_method_78_code 17 = .ok (.invokestatic 68, 3) := by decide +kernel
theorem d_Mod_number_20 : decode prog_10_method_78_code 20 = .ok (.ifCond .eq 7, 3) := by decide +kernel
theorem d_Mod_number_23 : decode prog_10_method_78_code 23 = .ok (.iconst 1, 1) := by decide +kernel
theorem d_Mod_number_24 : decode prog_10_method_78_code 24 = .ok (.goto 4, 3) := by decide +kernel
theorem d_Mod_number_27 : decode prog_10_method_78_code 27 = .ok (.iconst 0, 1) := by decide +kernel
theorem d_Mod_number_28 : decode prog_10_method_78_code 28 = .ok (.invokevirtual 254, 3) := by decide +kernel
theorem d_Mod_number_31 : decode prog_10_method_78_code 31 = .ok (.iload_n 3, 1) := by decide +kernel
theorem d_Mod_number_32 : decode prog_10_method_78_code 32 = .ok (.ireturn, 1) := by decide +kernel
theorem d_Mod_item_0 : decode prog_10_method_79_code 0 = .ok (.iconst 5, 1) := by decide +kernel
theorem d_Mod_item_1 : decode prog_10_method_79_code 1 = .ok (.aload_n 0, 1) := by decide +kernel
theorem d_Mod_item_2 : decode prog_10_method_79_code 2 = .ok (.getfield 258, 3) := by decide +kernel
theorem d_Mod_item_5 : decode prog_10_method_79_code 5 = .ok (.imul, 1) := by decide +kernel
theorem d_Mod_item_6 : decode prog_10_method_79_code 6 = .ok (.istore 6, 2) := by decide +kernel
theorem d_Mod_item_8 : decode prog_10_method_79_code 8 = .ok (.aload_n 0, 1) := by decide +kernel
theorem d_Mod_item_9 : decode prog_10_method_79_code 9 = .ok (.getfield 47, 3) := by decide +kernel
theorem d_Mod_item_12 : decode prog_10_method_79_code 12 = .ok (.iload 6, 2) := by decide +kernel
theorem d_Mod_item_14 : decode prog_10_method_79_code 14 = .ok (.iload_n 1, 1) := by decide +kernel
theorem d_Mod_item_15 : decode prog_10_method_79_code 15 = .ok (.iastore, 1) := by decide +kernel
theorem d_Mod_item_16 : decode prog_10_method_79_code 16 = .ok (.aload_n 0, 1) := by decide +kernel
theorem d_Mod_item_17 : decode prog_10_method_79_code 17 = .ok (.getfield 47, 3) := by decide +kernel
theorem d_Mod_item_20 : decode prog_10_method_79_code 20 = .ok (.iload 6, 2) := by decide +kernel
theorem d_Mod_item_22 : decode prog_10_method_79_code 22 = .ok (.iconst 1, 1) := by decide +kernel
theorem d_Mod_item_23 : decode prog_10_method_79_code 23 = .ok (.iadd, 1) := by decide +kernel
theorem d_Mod_item_24 : decode prog_10_method_79_code 24 = .ok (.iload_n 2, 1) := by decide +kernel
theorem d_Mod_item_25 : decode prog_10_method_79_code 25 = .ok (.iastore, 1) := by decide +kernel
theorem d_Mod_item_26 : decode prog_10_method_79_code 26 = .ok (.aload_n 0, 1) := by decide +kernel
theorem d_Mod_item_27 : decode prog_10_method_79_code 27 = .ok (.getfield 47, 3) := by decide +kernel
theorem d_Mod_item_30 : decode prog_10_method_79_code 30 = .ok (.iload 6, 2) := by decide +kernel
theorem d_Mod_item_32 : decode prog_10_method_79_code 32 = .ok (.iconst 2, 1) := by decide +kernel
theorem d_Mod_item_33 : decode prog_10_method_79_code 33 = .ok (.iadd, 1) := by decide +kernel
theorem d_Mod_item_34 : decode prog_10_method_79_code 34 = .ok (.iload_n 3, 1) := by decide +kernel
theorem d_Mod_item_35 : decode prog_10_method_79_code 35 = .ok (.iastore, 1) := by decide +kernel
theorem d_Mod_item_36 : decode prog_10_method_79_code 36 = .ok (.aload_n 0, 1) := by decide +kernel
theorem d_Mod_item_37 : decode prog_10_method_79_code 37 = .ok (.getfield 47, 3) := by decide +kernel
theorem d_Mod_item_40 : decode prog_10_method_79_code 40 = .ok (.iload 6, 2) := by decide +kernel
theorem d_Mod_item_42 : decode prog_10_method_79_code 42 = .ok (.iconst 3, 1) := by decide +kernel
theorem d_Mod_item_43 : decode prog_10_method_79_code 43 = .ok (.iadd, 1) := by decide +kernel
theorem d_Mod_item_44 : decode prog_10_method_79_code 44 = .ok (.iload 4, 2) := by decide +kernel
theorem d_Mod_item_46 : decode prog_10_method_79_code 46 = .ok (.iastore, 1) := by decide +kernel
theorem d_Mod_item_47 : decode prog_10_method_79_code 47 = .ok (.aload_n 0, 1) := by decide +kernel
theorem d_Mod_item_48 : decode prog_10_method_79_code 48 = .ok (.getfield 47, 3) := by decide +kernel
theorem d_Mod_item_51 : decode prog_10_method_79_code 51 = .ok (.iload 6, 2) := by decide +kernel
theorem d_Mod_item_53 : decode prog_10_method_79_code 53 = .ok (.iconst 4, 1) := by decide +kernel
theorem d_Mod_item_54 : decode prog_10_method_79_code 54 = .ok (.iadd, 1) := by decide +kernel
theorem d_Mod_item_55 : decode prog_10_method_79_code 55 = .ok (.iload 5, 2) := by decide +kernel
theorem d_Mod_item_57 : decode prog_10_method_79_code 57 = .ok (.iastore, 1) := by decide +kernel
theorem d_Mod_item_58 : decode prog_10_method_79_code 58 = .ok (.aload_n 0, 1) := by decide +kernel
theorem d_Mod_item_59 : decode prog_10_method_79_code 59 = .ok (.dup, 1) := by decide +kernel
theorem d_Mod_item_60 : decode prog_10_method_79_code 60 = .ok (.getfield 258, 3) := by decide +kernel
theorem d_Mod_item_63 : decode prog_10_method_79_code 63 = .ok (.iconst 1, 1) := by decide +kernel
theorem d_Mod_item_64 : decode prog_10_method_79_code 64 = .ok (.iadd, 1) := by decide +kernel
theorem d_Mod_item_65 : decode prog_10_method_79_code 65 = .ok (.putfield 258, 3) := by decide +kernel
theorem d_Mod_item_68 : decode prog_10_method_79_code 68 = .ok (.return_, 1) := by decide +kernel
theorem d_Mod_isSo_0 : decode prog_10_method_83_code 0 = .ok (.aload_n 0, 1) := by decide +kernel
theorem d_Mod_isSo_1 : decode prog_10_method_83_code 1 = .ok (.getfield 47, 3) := by decide +kernel
theorem d_Mod_isSo_4 : decode prog_10_method_83_code 4 = .ok (.iload_n 1, 1) := by decide +kernel
theorem d_Mod_isSo_5 : decode prog_10_method_83_code 5 = .ok (.iconst 1, 1) := by decide +kernel
theorem d_Mod_isSo_6 : decode prog_10_method_83_code 6 = .ok (.iadd, 1) := by decide +kernel
theorem d_Mod_isSo_7 : decode prog_10_method_83_code 7 = .ok (.iaload, 1) := by decide +kernel
theorem d_Mod_isSo_8 : decode prog_10_method_83_code 8 = .ok (.istore_n 2, 1) := by decide +kernel
theorem d_Mod_isSo_9 : decode prog_10_method_83_code 9 = .ok (.aload_n 0, 1) := by decide +kernel
theorem d_Mod_isSo_10 : decode prog_10_method_83_code 10 = .ok (.getfield 47, 3) := by decide +kernel
theorem d_Mod_isSo_13 : decode prog_10_method_83_code 13 = .ok (.iload_n 1, 1) := by decide +kernel
theorem d_Mod_isSo_14 : decode prog_10_method_83_code 14 = .ok (.iconst 2, 1) := by decide +kernel
theorem d_Mod_isSo_15 : decode prog_10_method_83_code 15 = .ok (.iadd, 1) := by decide +kernel
theorem d_Mod_isSo_16 : decode prog_10_method_83_code 16 = .ok (.iaload, 1) := by decide +kernel
theorem d_Mod_isSo_17 : decode prog_10_method_83_code 17 = .ok (.istore_n 3, 1) := by decide +kernel
theorem d_Mod_isSo_18 : decode prog_10_method_83_code 18 = .ok (.aload_n 0, 1) := by decide +kernel
theorem d_Mod_isSo_19 : decode prog_10_method_83_code 19 = .ok (.getfield 47, 3) := by decide +kernel
theorem d_Mod_isSo_22 : decode prog_10_method_83_code 22 = .ok (.iload_n 1, 1) := by decide +kernel
theorem d_Mod_isSo_23 : decode prog_10_method_83_code 23 = .ok (.iaload, 1) := by decide +kernel
theorem d_Mod_isSo_24 : decode prog_10_method_83_code 24 = .ok (.bipush 10, 2) := by decide +kernel
theorem d_Mod_isSo_26 : decode prog_10_method_83_code 26 = .ok (.if_icmp .ne 12, 3) := by decide +kernel
theorem d_Mod_isSo_29 : decode prog_10_method_83_code 29 = .ok (.aload_n 0, 1) := by decide +kernel
theorem d_Mod_isSo_30 : decode prog_10_method_83_code 30 = .ok (.iload_n 2, 1) := by decide +kernel
theorem d_Mod_isSo_31 : decode prog_10_method_83_code 31 = .ok (.iload_n 3, 1) := by decide +kernel
theorem d_Mod_isSo_32 : decode prog_10_method_83_code 32 = .ok (.invokevirtual 91, 3) := by decide +kernel
theorem d_Mod_isSo_35 : decode prog_10_method_83_code 35 = .ok (.goto 51, 3) := by decide +kernel
theorem d_Mod_isSo_38 : decode prog_10_method_83_code 38 = .ok (.aload_n 0, 1) := by decide +kernel
theorem d_Mod_isSo_39 : decode prog_10_method_83_code 39 = .ok (.getfield 47, 3) := by decide +kernel
theorem d_Mod_isSo_42 : decode prog_10_method_83_code 42 = .ok (.iload_n 1, 1) := by decide +kernel
theorem d_Mod_isSo_43 : decode prog_10_method_83_code 43 = .ok (.iaload, 1) := by decide +kernel
theorem d_Mod_isSo_44 : decode prog_10_method_83_code 44 = .ok (.bipush 11, 2) := by decide +kernel
theorem d_Mod_isSo_46 : decode prog_10_method_83_code 46 = .ok (.if_icmp .ne 12, 3) := by decide +kernel
theorem d_Mod_isSo_49 : decode prog_10_method_83_code 49 = .ok (.aload_n 0, 1) := by decide +kernel
theorem d_Mod_isSo_50 : decode prog_10_method_83_code 50 = .ok (.iconst 1, 1) := by decide +kernel
theorem d_Mod_isSo_51 : decode prog_10_method_83_code 51 = .ok (.iload_n 2, 1) := by decide +kernel
theorem d_Mod_isSo_52 : decode prog_10_method_83_code 52 = .ok (.invokevirtual 79, 3) := by decide +kernel
theorem d_Mod_isSo_55 : decode prog_10_method_83_code 55 = .ok (.goto 31, 3) := by decide +kernel
theorem d_Mod_isSo_58 : decode prog_10_method_83_code 58 = .ok (.aload_n 0, 1) := by decide +kernel
theorem d_Mod_isSo_59 : decode prog_10_method_83_code 59 = .ok (.aload_n 0, 1) := by decide +kernel
theorem d_Mod_isSo_60 : decode prog_10_method_83_code 60 = .ok (.getfield 47, 3) := by decide +kernel
theorem d_Mod_isSo_63 : decode prog_10_method_83_code 63 = .ok (.iload_n 1, 1) := by decide +kernel
theorem d_Mod_isSo_64 : decode prog_10_method_83_code 64 = .ok (.iaload, 1) := by decide +kernel
theorem d_Mod_isSo_65 : decode prog_10_method_83_code 65 = .ok (.iload_n 2, 1) := by decide +kernel
theorem d_Mod_isSo_66 : decode prog_10_method_83_code 66 = .ok (.iload_n 3, 1) := by decide +kernel
theorem d_Mod_isSo_67 : decode prog_10_method_83_code 67 = .ok (.aload_n 0, 1) := by decide +kernel
theorem d_Mod_isSo_68 : decode prog_10_method_83_code 68 = .ok (.getfield 47, 3) := by decide +kernel
theorem d_Mod_isSo_71 : decode prog_10_method_83_code 71 = .ok (.iload_n 1, 1) := by decide +kernel
theorem d_Mod_isSo_72 : decode prog_10_method_83_code 72 = .ok (.iconst 3, 1) := by decide +kernel
theorem d_Mod_isSo_73 : decode prog_10_method_83_code 73 = .ok (.iadd, 1) := by decide +kernel
theorem d_Mod_isSo_74 : decode prog_10_method_83_code 74 = .ok (.iaload, 1) := by decide +kernel
theorem d_Mod_isSo_75 : decode prog_10_method_83_code 75 = .ok (.aload_n 0, 1) := by decide +kernel
theorem d_Mod_isSo_76 : decode prog_10_method_83_code 76 = .ok (.getfield 47, 3) := by decide +kernel
theorem d_Mod_isSo_79 : decode prog_10_method_83_code 79 = .ok (.iload_n 1, 1) := by decide +kernel
theorem d_Mod_isSo_80 : decode prog_10_method_83_code 80 = .ok (.iconst 4, 1) := by decide +kernel
theorem d_Mod_isSo_81 : decode prog_10_method_83_code 81 = .ok (.iadd, 1) := by decide +kernel
theorem d_Mod_isSo_82 : decode prog_10_method_83_code 82 = .ok (.iaload, 1) := by decide +kernel
theorem d_Mod_isSo_83 : decode prog_10_method_83_code 83 = .ok (.invokevirtual 118, 3) := by decide +kernel
theorem d_Mod_isSo_86 : decode prog_10_method_83_code 86 = .ok (.ireturn, 1) := by decide +kernel
theorem d_Mod_sheet_0 : decode prog_10_method_87_code 0 = .ok (.iload_n 1, 1) := by decide +kernel
theorem d_Mod_sheet_1 : decode prog_10_method_87_code 1 = .ok (.invokestatic 305, 3) := by decide +kernel
theorem d_Mod_sheet_4 : decode prog_10_method_87_code 4 = .ok (.ifCond .eq 25, 3) := by decide +kernel
theorem d_Mod_sheet_7 : decode prog_10_method_87_code 7 = .ok (.iload_n 2, 1) := by decide +kernel
theorem d_Mod_sheet_8 : decode prog_10_method_87_code 8 = .ok (.ifCond .eq 28, 3) := by decide +kernel
theorem d_Mod_sheet_11 : decode prog_10_method_87_code 11 = .ok (.iload_n 2, 1) := by decide +kernel
theorem d_Mod_sheet_12 : decode prog_10_method_87_code 12 = .ok (.bipush 8, 2) := by decide +kernel
theorem d_Mod_sheet_14 : decode prog_10_method_87_code 14 = .ok (.if_icmp .eq 22, 3) := by decide +kernel
theorem d_Mod_sheet_17 : decode prog_10_method_87_code 17 = .ok (.iload_n 2, 1) := by decide +kernel
theorem d_Mod_sheet_18 : decode prog_10_method_87_code 18 = .ok (.bipush 16, 2) := by decide +kernel
theorem d_Mod_sheet_20 : decode prog_10_method_87_code 20 = .ok (.if_icmp .eq 16, 3) := by decide +kernel
theorem d_Mod_sheet_23 : decode prog_10_method_87_code 23 = .ok (.iload_n 2, 1) := by decide +kernel
theorem d_Mod_sheet_24 : decode prog_10_method_87_code 24 = .ok (.bipush 64, 2) := by decide +kernel
theorem d_Mod_sheet_26 : decode prog_10_method_87_code 26 = .ok (.if_icmp .eq 10, 3) := by decide +kernel
theorem d_Mod_sheet_29 : decode prog_10_method_87_code 29 = .ok (.aload_n 0, 1) := by decide +kernel
theorem d_Mod_sheet_30 : decode prog_10_method_87_code 30 = .ok (.ldc 63, 2) := by decide +kernel
theorem d_Mod_sheet_32 : decode prog_10_method_87_code 32 = .ok (.invokevirtual 82, 3) := by decide +kernel
theorem d_Mod_sheet_35 : decode prog_10_method_87_code 35 = .ok (.ireturn, 1) := by decide +kernel
theorem d_Mod_sheet_36 : decode prog_10_method_87_code 36 = .ok (.iload_n 3, 1) := by decide +kernel
theorem d_Mod_sheet_37 : decode prog_10_method_87_code 37 = .ok (.ifCond .ge 11, 3) := by decide +kernel
theorem d_Mod_sheet_40 : decode prog_10_method_87_code 40 = .ok (.aload_n 0, 1) := by decide +kernel
theorem d_Mod_sheet_41 : decode prog_10_method_87_code 41 = .ok (.ldc_w 308, 3) := by decide +kernel
theorem d_Mod_sheet_44 : decode prog_10_method_87_code 44 = .ok (.invokevirtual 82, 3) := by decide +kernel
theorem d_Mod_sheet_47 : decode prog_10_method_87_code 47 = .ok (.ireturn, 1) := by decide +kernel
theorem d_Mod_sheet_48 : decode prog_10_method_87_code 48 = .ok (.iload_n 3, 1) := by decide +kernel
theorem d_Mod_sheet_49 : decode prog_10_method_87_code 49 = .ok (.bipush 40, 2) := by decide +kernel
theorem d_Mod_sheet_51 : decode prog_10_method_87_code 51 = .ok (.if_icmp .le 10, 3) := by decide +kernel
theorem d_Mod_sheet_54 : decode prog_10_method_87_code 54 = .ok (.aload_n 0, 1) := by decide +kernel
theorem d_Mod_sheet_55 : decode prog_10_method_87_code 55 = .ok (.ldc 63, 2) := by decide +kernel
theorem d_Mod_sheet_57 : decode prog_10_method_87_code 57 = .ok (.invokevirtual 82, 3) := by decide +kernel
theorem d_Mod_sheet_60 : decode prog_10_method_87_code 60 = .ok (.ireturn, 1) := by decide +kernel
theorem d_Mod_sheet_61 : decode prog_10_method_87_code 61 = .ok (.aload_n 0, 1) := by decide +kernel
theorem d_Mod_sheet_62 : decode prog_10_method_87_code 62 = .ok (.getfield 50, 3) := by decide +kernel
theorem d_Mod_sheet_65 : decode prog_10_method_87_code 65 = .ok (.iload_n 1, 1) := by decide +kernel
theorem d_Mod_sheet_66 : decode prog_10_method_87_code 66 = .ok (.iload_n 2, 1) := by decide +kernel
theorem d_Mod_sheet_67 : decode prog_10_method_87_code 67 = .ok (.iastore, 1) := by decide +kernel
theorem d_Mod_sheet_68 : decode prog_10_method_87_code 68 = .ok (.aload_n 0, 1) := by decide +kernel
theorem d_Mod_sheet_69 : decode prog_10_method_87_code 69 = .ok (.getfield 53, 3) := by decide +kernel
theorem d_Mod_sheet_72 : decode prog_10_method_87_code 72 = .ok (.iload_n 1, 1) := by decide +kernel
theorem d_Mod_sheet_73 : decode prog_10_method_87_code 73 = .ok (.iload_n 2, 1) := by decide +kernel
theorem d_Mod_sheet_74 : decode prog_10_method_87_code 74 = .ok (.ifCond .ne 7, 3) := by decide +kernel
theorem d_Mod_sheet_77 : decode prog_10_method_87_code 77 = .ok (.iconst 0, 1) := by decide +kernel
theorem d_Mod_sheet_78 : decode prog_10_method_87_code 78 = .ok (.goto 4, 3) := by decide +kernel
theorem d_Mod_sheet_81 : decode prog_10_method_87_code 81 = .ok (.iload_n 3, 1) := by decide +kernel
theorem d_Mod_sheet_82 : decode prog_10_method_87_code 82 = .ok (.iastore, 1) := by decide +kernel
theorem d_Mod_sheet_83 : decode prog_10_method_87_code 83 = .ok (.iconst 0, 1) := by decide +kernel
theorem d_Mod_sheet_84 : decode prog_10_method_87_code 84 = .ok (.istore 4, 2) := by decide +kernel
theorem d_Mod_sheet_86 : decode prog_10_method_87_code 86 = .ok (.iload 4, 2) := by decide +kernel
theorem d_Mod_sheet_88 : decode prog_10_method_87_code 88 = .ok (.bipush 40, 2) := by decide +kernel
theorem d_Mod_sheet_90 : decode prog_10_method_87_code 90 = .ok (.if_icmp .ge 22, 3) := by decide +kernel
theorem d_Mod_sheet_93 : decode prog_10_method_87_code 93 = .ok (.aload_n 0, 1) := by decide +kernel
theorem d_Mod_sheet_94 : decode prog_10_method_87_code 94 = .ok (.getfield 56, 3) := by decide +kernel
theorem d_Mod_sheet_97 : decode prog_10_method_87_code 97 = .ok (.bipush 40, 2) := by decide +kernel
theorem d_Mod_sheet_99 : decode prog_10_method_87_code 99 = .ok (.iload_n 1, 1) := by decide +kernel
theorem d_Mod_sheet_100 : decode prog_10_method_87_code 100 = .ok (.imul, 1) := by decide +kernel
theorem d_Mod_sheet_101 : decode prog_10_method_87_code 101 = .ok (.iload 4, 2) := by decide +kernel
theorem d_Mod_sheet_103 : decode prog_10_method_87_code 103 = .ok (.iadd, 1) := by decide +kernel
theorem d_Mod_sheet_104 : decode prog_10_method_87_code 104 = .ok (.lconst 0, 1) := by decide +kernel
theorem d_Mod_sheet_105 : decode prog_10_method_87_code 105 = .ok (.lastore, 1) := by decide +kernel
theorem d_Mod_sheet_106 : decode prog_10_method_87_code 106 = .ok (.iinc 4 1, 3) := by decide +kernel
theorem d_Mod_sheet_109 : decode prog_10_method_87_code 109 = .ok (.goto (-23), 3) := by decide +kernel
theorem d_Mod_sheet_112 : decode prog_10_method_87_code 112 = .ok (.aload_n 0, 1) := by decide +kernel
theorem d_Mod_sheet_113 : decode prog_10_method_87_code 113 = .ok (.getfield 53, 3) := by decide +kernel
theorem d_Mod_sheet_116 : decode prog_10_method_87_code 116 = .ok (.iload_n 1, 1) := by decide +kernel
theorem d_Mod_sheet_117 : decode prog_10_method_87_code 117 = .ok (.iaload, 1) := by decide +kernel
theorem d_Mod_sheet_118 : decode prog_10_method_87_code 118 = .ok (.ireturn, 1) := by decide +kernel
theorem d_Mod_isSheet_0 : decode prog_10_method_85_code 0 = .ok (.iload_n 0, 1) := by decide +kernel
theorem d_Mod_isSheet_1 : decode prog_10_method_85_code 1 = .ok (.iconst 0, 1) := by decide +kernel
theorem d_Mod_isSheet_2 : decode prog_10_method_85_code 2 = .ok (.iconst 3, 1) := by decide +kernel
theorem d_Mod_isSheet_3 : decode prog_10_method_85_code 3 = .ok (.invokestatic 68, 3) := by decide +kernel
theorem d_Mod_isSheet_6 : decode prog_10_method_85_code 6 = .ok (.ireturn, 1) := by decide +kernel
theorem d_Mod_write_0 : decode prog_10_method_88_code 0 = .ok (.iload_n 1, 1) := by decide +kernel
theorem d_Mod_write_1 : decode prog_10_method_88_code 1 = .ok (.invokestatic 305, 3) := by decide +kernel
theorem d_Mod_write_4 : decode prog_10_method_88_code 4 = .ok (.ifCond .ne 11, 3) := by decide +kernel
theorem d_Mod_write_7 : decode prog_10_method_88_code 7 = .ok (.aload_n 0, 1) := by decide +kernel
theorem d_Mod_write_8 : decode prog_10_method_88_code 8 = .ok (.ldc 63, 2) := by decide +kernel
theorem d_Mod_write_10 : decode prog_10_method_88_code 10 = .ok (.invokevirtual 82, 3) := by decide +kernel
theorem d_Mod_write_13 : decode prog_10_method_88_code 13 = .ok (.i2l, 1) := by decide +kernel
theorem d_Mod_write_14 : decode prog_10_method_88_code 14 = .ok (.lreturn, 1) := by decide +kernel
theorem d_Mod_write_15 : decode prog_10_method_88_code 15 = .ok (.aload_n 0, 1) := by decide +kernel
theorem d_Mod_write_16 : decode prog_10_method_88_code 16 = .ok (.getfield 50, 3) := by decide +kernel
theorem d_Mod_write_19 : decode prog_10_method_88_code 19 = .ok (.iload_n 1, 1) := by decide +kernel
theorem d_Mod_write_20 : decode prog_10_method_88_code 20 = .ok (.iaload, 1) := by decide +kernel
theorem d_Mod_write_21 : decode prog_10_method_88_code 21 = .ok (.ifCond .ne 12, 3) := by decide +kernel
theorem d_Mod_write_24 : decode prog_10_method_88_code 24 = .ok (.aload_n 0, 1) := by decide +kernel
theorem d_Mod_write_25 : decode prog_10_method_88_code 25 = .ok (.ldc_w 309, 3) := by decide +kernel
theorem d_Mod_write_28 : decode prog_10_method_88_code 28 = .ok (.invokevirtual 82, 3) := by decide +kernel
theorem d_Mod_write_31 : decode prog_10_method_88_code 31 = .ok (.i2l, 1) := by decide +kernel
theorem d_Mod_write_32 : decode prog_10_method_88_code 32 = .ok (.lreturn, 1) := by decide +kernel
theorem d_Mod_write_33 : decode prog_10_method_88_code 33 = .ok (.iload_n 2, 1) := by decide +kernel
theorem d_Mod_write_34 : decode prog_10_method_88_code 34 = .ok (.iconst 0, 1) := by decide +kernel
theorem d_Mod_write_35 : decode prog_10_method_88_code 35 = .ok (.aload_n 0, 1) := by decide +kernel
theorem d_Mod_write_36 : decode prog_10_method_88_code 36 = .ok (.getfield 53, 3) := by decide +kernel
theorem d_Mod_write_39 : decode prog_10_method_88_code 39 = .ok (.iload_n 1, 1) := by decide +kernel
theorem d_Mod_write_40 : decode prog_10_method_88_code 40 = .ok (.iaload, 1) := by decide +kernel
theorem d_Mod_write_41 : decode prog_10_method_88_code 41 = .ok (.iconst 1, 1) := by decide +kernel
theorem d_Mod_write_42 : decode prog_10_method_88_code 42 = .ok (.isub, 1) := by decide +kernel
theorem d_Mod_write_43 : decode prog_10_method_88_code 43 = .ok (.invokestatic 68, 3) := by decide +kernel
theorem d_Mod_write_46 : decode prog_10_method_88_code 46 = .ok (.ifCond .ne 11, 3) := by decide +kernel
theorem d_Mod_write_49 : decode prog_10_method_88_code 49 = .ok (.aload_n 0, 1) := by decide +kernel
theorem d_Mod_write_50 : decode prog_10_method_88_code 50 = .ok (.ldc 63, 2) := by decide +kernel
theorem d_Mod_write_52 : decode prog_10_method_88_code 52 = .ok (.invokevirtual 82, 3) := by decide +kernel
theorem d_Mod_write_55 : decode prog_10_method_88_code 55 = .ok (.i2l, 1) := by decide +kernel
theorem d_Mod_write_56 : decode prog_10_method_88_code 56 = .ok (.lreturn, 1) := by decide +kernel
theorem d_Mod_write_57 : decode prog_10_method_88_code 57 = .ok (.aload_n 0, 1) := by decide +kernel
theorem d_Mod_write_58 : decode prog_10_method_88_code 58 = .ok (.getfield 56, 3) := by decide +kernel
theorem d_Mod_write_61 : decode prog_10_method_88_code 61 = .ok (.bipush 40, 2) := by decide +kernel
theorem d_Mod_write_63 : decode prog_10_method_88_code 63 = .ok (.iload_n 1, 1) := by decide +kernel
theorem d_Mod_write_64 : decode prog_10_method_88_code 64 = .ok (.imul, 1) := by decide +kernel
theorem d_Mod_write_65 : decode prog_10_method_88_code 65 = .ok (.iload_n 2, 1) := by decide +kernel
theorem d_Mod_write_66 : decode prog_10_method_88_code 66 = .ok (.iadd, 1) := by decide +kernel
theorem d_Mod_write_67 : decode prog_10_method_88_code 67 = .ok (.laload, 1) := by decide +kernel
theorem d_Mod_write_68 : decode prog_10_method_88_code 68 = .ok (.lstore 5, 2) := by decide +kernel
theorem d_Mod_write_70 : decode prog_10_method_88_code 70 = .ok (.aload_n 0, 1) := by decide +kernel
theorem d_Mod_write_71 : decode prog_10_method_88_code 71 = .ok (.getfield 56, 3) := by decide +kernel
theorem d_Mod_write_74 : decode prog_10_method_88_code 74 = .ok (.bipush 40, 2) := by decide +kernel
theorem d_Mod_write_76 : decode prog_10_method_88_code 76 = .ok (.iload_n 1, 1) := by decide +kernel
theorem d_Mod_write_77 : decode prog_10_method_88_code 77 = .ok (.imul, 1) := by decide +kernel
theorem d_Mod_write_78 : decode prog_10_method_88_code 78 = .ok (.iload_n 2, 1) := by decide +kernel
theorem d_Mod_write_79 : decode prog_10_method_88_code 79 = .ok (.iadd, 1) := by decide +kernel
theorem d_Mod_write_80 : decode prog_10_method_88_code 80 = .ok (.lload_n 3, 1) := by decide +kernel
theorem d_Mod_write_81 : decode prog_10_method_88_code 81 = .ok (.aload_n 0, 1) := by decide +kernel
theorem d_Mod_write_82 : decode prog_10_method_88_code 82 = .ok (.getfield 50, 3) := by decide +kernel
theorem d_Mod_write_85 : decode prog_10_method_88_code 85 = .ok (.iload_n 1, 1) := by decide +kernel
theorem d_Mod_write_86 : decode prog_10_method_88_code 86 = .ok (.iaload, 1) := by decide +kernel
theorem d_Mod_write_87 : decode prog_10_method_88_code 87 = .ok (.invokestatic 310, 3) := by decide +kernel
theorem d_Mod_write_90 : decode prog_10_method_88_code 90 = .ok (.lastore, 1) := by decide +kernel
theorem d_Mod_write_91 : decode prog_10_method_88_code 91 = .ok (.lload 5, 2) := by decide +kernel
theorem d_Mod_write_93 : decode prog_10_method_88_code 93 = .ok (.lreturn, 1) := by decide +kernel
theorem d_Mod_cutTo_0 : decode prog_10_method_86_code 0 = .ok (.iload_n 2, 1) := by decide +kernel
theorem d_Mod_cutTo_1 : decode prog_10_method_86_code 1 = .ok (.bipush 8, 2) := by decide +kernel
theorem d_Mod_cutTo_3 : decode prog_10_method_86_code 3 = .ok (.if_icmp .ne 10, 3) := by decide +kernel
theorem d_Mod_cutTo_6 : decode prog_10_method_86_code 6 = .ok (.lload_n 0, 1) := by decide +kernel
theorem d_Mod_cutTo_7 : decode prog_10_method_86_code 7 = .ok (.l2i, 1) := by decide +kernel
theorem d_Mod_cutTo_8 : decode prog_10_method_86_code 8 = .ok (.i2b, 1) := by decide +kernel
theorem d_Mod_cutTo_9 : decode prog_10_method_86_code 9 = .ok (.i2l, 1) := by decide +kernel
theorem d_Mod_cutTo_10 : decode prog_10_method_86_code 10 = .ok (.goto 17, 3) := by decide +kernel
theorem d_Mod_cutTo_13 : decode prog_10_method_86_code 13 = .ok (.iload_n 2, 1) := by decide +kernel
theorem d_Mod_cutTo_14 : decode prog_10_method_86_code 14 = .ok (.bipush 16, 2) := by decide +kernel
theorem d_Mod_cutTo_16 : decode prog_10_method_86_code 16 = .ok (.if_icmp .ne 10, 3) := by decide +kernel
theorem d_Mod_cutTo_19 : decode prog_10_method_86_code 19 = .ok (.lload_n 0, 1) := by decide +kernel
theorem d_Mod_cutTo_20 : decode prog_10_method_86_code 20 = .ok (.l2i, 1) := by decide +kernel
theorem d_Mod_cutTo_21 : decode prog_10_method_86_code 21 = .ok (.i2s, 1) := by decide +kernel
theorem d_Mod_cutTo_22 : decode prog_10_method_86_code 22 = .ok (.i2l, 1) := by decide +kernel
theorem d_Mod_cutTo_23 : decode prog_10_method_86_code 23 = .ok (.goto 4, 3) := by decide +kernel
theorem d_Mod_cutTo_26 : decode prog_10_method_86_code 26 = .ok (.lload_n 0, 1) := by decide +kernel
theorem d_Mod_cutTo_27 : decode prog_10_method_86_code 27 = .ok (.lreturn, 1) := by decide +kernel
theorem d_Mod_copy_0 : decode prog_10_method_89_code 0 = .ok (.iload_n 1, 1) := by decide +kernel
theorem d_Mod_copy_1 : decode prog_10_method_89_code 1 = .ok (.invokestatic 305, 3) := by decide +kernel
theorem d_Mod_copy_4 : decode prog_10_method_89_code 4 = .ok (.ifCond .eq 10, 3) := by decide +kernel
theorem d_Mod_copy_7 : decode prog_10_method_89_code 7 = .ok (.iload_n 3, 1) := by decide +kernel
theorem d_Mod_copy_8 : decode prog_10_method_89_code 8 = .ok (.invokestatic 305, 3) := by decide +kernel
theorem d_Mod_copy_11 : decode prog_10_method_89_code 11 = .ok (.ifCond .ne 10, 3) := by decide +kernel
theorem d_Mod_copy_14 : decode prog_10_method_89_code 14 = .ok (.aload_n 0, 1) := by decide +kernel
theorem d_Mod_copy_15 : decode prog_10_method_89_code 15 = .ok (.ldc 63, 2) := by decide +kernel
theorem d_Mod_copy_17 : decode prog_10_method_89_code 17 = .ok (.invokevirtual 82, 3) := by decide +kernel
theorem d_Mod_copy_20 : decode prog_10_method_89_code 20 = .ok (.ireturn, 1) := by decide +kernel
theorem d_Mod_copy_21 : decode prog_10_method_89_code 21 = .ok (.aload_n 0, 1) := by decide +kernel
theorem d_Mod_copy_22 : decode prog_10_method_89_code 22 = .ok (.getfield 50, 3) := by decide +kernel
theorem d_Mod_copy_25 : decode prog_10_method_89_code 25 = .ok (.iload_n 1, 1) := by decide +kernel
theorem d_Mod_copy_26 : decode prog_10_method_89_code 26 = .ok (.iaload, 1) := by decide +kernel
theorem d_Mod_copy_27 : decode prog_10_method_89_code 27 = .ok (.ifCond .eq 12, 3) := by decide +kernel
theorem d_Mod_copy_30 : decode prog_10_method_89_code 30 = .ok (.aload_n 0, 1) := by decide +kernel
theorem d_Mod_copy_31 : decode prog_10_method_89_code 31 = .ok (.getfield 50, 3) := by decide +kernel
theorem d_Mod_copy_34 : decode prog_10_method_89_code 34 = .ok (.iload_n 3, 1) := by decide +kernel
theorem d_Mod_copy_35 : decode prog_10_method_89_code 35 = .ok (.iaload, 1) := by decide +kernel
theorem d_Mod_copy_36 : decode prog_10_method_89_code 36 = .ok (.ifCond .ne 11, 3) := by decide +kernel
theorem d_Mod_copy_39 : decode prog_10_method_89_code 39 = .ok (.aload_n 0, 1) := by decide +kernel
theorem d_Mod_copy_40 : decode prog_10_method_89_code 40 = .ok (.ldc_w 309, 3) := by decide +kernel
theorem d_Mod_copy_43 : decode prog_10_method_89_code 43 = .ok (.invokevirtual 82, 3) := by decide +kernel
theorem d_Mod_copy_46 : decode prog_10_method_89_code 46 = .ok (.ireturn, 1) := by decide +kernel
theorem d_Mod_copy_47 : decode prog_10_method_89_code 47 = .ok (.aload_n 0, 1) := by decide +kernel
theorem d_Mod_copy_48 : decode prog_10_method_89_code 48 = .ok (.getfield 50, 3) := by decide +kernel
theorem d_Mod_copy_51 : decode prog_10_method_89_code 51 = .ok (.iload_n 1, 1) := by decide +kernel
theorem d_Mod_copy_52 : decode prog_10_method_89_code 52 = .ok (.iaload, 1) := by decide +kernel
theorem d_Mod_copy_53 : decode prog_10_method_89_code 53 = .ok (.aload_n 0, 1) := by decide +kernel
theorem d_Mod_copy_54 : decode prog_10_method_89_code 54 = .ok (.getfield 50, 3) := by decide +kernel
theorem d_Mod_copy_57 : decode prog_10_method_89_code 57 = .ok (.iload_n 3, 1) := by decide +kernel
theorem d_Mod_copy_58 : decode prog_10_method_89_code 58 = .ok (.iaload, 1) := by decide +kernel
theorem d_Mod_copy_59 : decode prog_10_method_89_code 59 = .ok (.if_icmp .eq 10, 3) := by decide +kernel
theorem d_Mod_copy_62 : decode prog_10_method_89_code 62 = .ok (.aload_n 0, 1) := by decide +kernel
theorem d_Mod_copy_63 : decode prog_10_method_89_code 63 = .ok (.ldc 134, 2) := by decide +kernel
theorem d_Mod_copy_65 : decode prog_10_method_89_code 65 = .ok (.invokevirtual 82, 3) := by decide +kernel
theorem d_Mod_copy_68 : decode prog_10_method_89_code 68 = .ok (.ireturn, 1) := by decide +kernel
theorem d_Mod_copy_69 : decode prog_10_method_89_code 69 = .ok (.iload_n 2, 1) := by decide +kernel
theorem d_Mod_copy_70 : decode prog_10_method_89_code 70 = .ok (.ifCond .lt 48, 3) := by decide +kernel
theorem d_Mod_copy_73 : decode prog_10_method_89_code 73 = .ok (.iload 4, 2) := by decide +kernel
theorem d_Mod_copy_75 : decode prog_10_method_89_code 75 = .ok (.ifCond .lt 43, 3) := by decide +kernel
theorem d_Mod_copy_78 : decode prog_10_method_89_code 78 = .ok (.iload 5, 2) := by decide +kernel
theorem d_Mod_copy_80 : decode prog_10_method_89_code 80 = .ok (.ifCond .lt 38, 3) := by decide +kernel
theorem d_Mod_copy_83 : decode prog_10_method_89_code 83 = .ok (.iload_n 2, 1) := by decide +kernel
theorem d_Mod_copy_84 : decode prog_10_method_89_code 84 = .ok (.i2l, 1) := by decide +kernel
theorem d_Mod_copy_85 : decode prog_10_method_89_code 85 = .ok (.iload 5, 2) := by decide +kernel
theorem d_Mod_copy_87 : decode prog_10_method_89_code 87 = .ok (.i2l, 1) := by decide +kernel
theorem d_Mod_copy_88 : decode prog_10_method_89_code 88 = .ok (.ladd, 1) := by decide +kernel
theorem d_Mod_copy_89 : decode prog_10_method_89_code 89 = .ok (.aload_n 0, 1) := by decide +kernel
theorem d_Mod_copy_90 : decode prog_10_method_89_code 90 = .ok (.getfield 53, 3) := by decide +kernel
theorem d_Mod_copy_93 : decode prog_10_method_89_code 93 = .ok (.iload_n 1, 1) := by decide +kernel
theorem d_Mod_copy_94 : decode prog_10_method_89_code 94 = .ok (.iaload, 1) := by decide +kernel
theorem d_Mod_copy_95 : decode prog_10_method_89_code 95 = .ok (.i2l, 1) := by decide +kernel
theorem d_Mod_copy_96 : decode prog_10_method_89_code 96 = .ok (.lcmp, 1) := by decide +kernel
theorem d_Mod_copy_97 : decode prog_10_method_89_code 97 = .ok (.ifCond .gt 21, 3) := by decide +kernel
theorem d_Mod_copy_100 : decode prog_10_method_89_code 100 = .ok (.iload 4, 2) := by decide +kernel
theorem d_Mod_copy_102 : decode prog_10_method_89_code 102 = .ok (.i2l, 1) := by decide +kernel
theorem d_Mod_copy_103 : decode prog_10_method_89_code 103 = .ok (.iload 5, 2) := by decide +kernel
theorem d_Mod_copy_105 : decode prog_10_method_89_code 105 = .ok (.i2l, 1) := by decide +kernel
theorem d_Mod_copy_106 : decode prog_10_method_89_code 106 = .ok (.ladd, 1) := by decide +kernel
theorem d_Mod_copy_107 : decode prog_10_method_89_code 107 = .ok (.aload_n 0, 1) := by decide +kernel
theorem d_Mod_copy_108 : decode prog_10_method_89_code 108 = .ok (.getfield 53, 3) := by decide +kernel
theorem d_Mod_copy_111 : decode prog_10_method_89_code 111 = .ok (.iload_n 3, 1) := by decide +kernel
theorem d_Mod_copy_112 : decode prog_10_method_89_code 112 = .ok (.iaload, 1) := by decide +kernel
theorem d_Mod_copy_113 : decode prog_10_method_89_code 113 = .ok (.i2l, 1) := by decide +kernel
theorem d_Mod_copy_114 : decode prog_10_method_89_code 114 = .ok (.lcmp, 1) := by decide +kernel
theorem d_Mod_copy_115 : decode prog_10_method_89_code 115 = .ok (.ifCond .le 10, 3) := by decide +kernel
theorem d_Mod_copy_118 : decode prog_10_method_89_code 118 = .ok (.aload_n 0, 1) := by decide +kernel
theorem d_Mod_copy_119 : decode prog_10_method_89_code 119 = .ok (.ldc 63, 2) := by decide +kernel
theorem d_Mod_copy_121 : decode prog_10_method_89_code 121 = .ok (.invokevirtual 82, 3) := by decide +kernel
theorem d_Mod_copy_124 : decode prog_10_method_89_code 124 = .ok (.ireturn, 1) := by decide +kernel
theorem d_Mod_copy_125 : decode prog_10_method_89_code 125 = .ok (.iconst 0, 1) := by decide +kernel
theorem d_Mod_copy_126 : decode prog_10_method_89_code 126 = .ok (.istore 6, 2) := by decide +kernel
theorem d_Mod_copy_128 : decode prog_10_method_89_code 128 = .ok (.iload 6, 2) := by decide +kernel
theorem d_Mod_copy_130 : decode prog_10_method_89_code 130 = .ok (.iload 5, 2) := by decide +kernel
theorem d_Mod_copy_132 : decode prog_10_method_89_code 132 = .ok (.if_icmp .ge 30, 3) := by decide +kernel
theorem d_Mod_copy_135 : decode prog_10_method_89_code 135 = .ok (.aload_n 0, 1) := by decide +kernel
theorem d_Mod_copy_136 : decode prog_10_method_89_code 136 = .ok (.getfield 60, 3) := by decide +kernel
theorem d_Mod_copy_139 : decode prog_10_method_89_code 139 = .ok (.iload 6, 2) := by decide +kernel
theorem d_Mod_copy_141 : decode prog_10_method_89_code 141 = .ok (.aload_n 0, 1) := by decide +kernel
theorem d_Mod_copy_142 : decode prog_10_method_89_code 142 = .ok (.getfield 56, 3) := by decide +kernel
theorem d_Mod_copy_145 : decode prog_10_method_89_code 145 = .ok (.bipush 40, 2) := by decide +kernel
theorem d_Mod_copy_147 : decode prog_10_method_89_code 147 = .ok (.iload_n 1, 1) := by decide +kernel
theorem d_Mod_copy_148 : decode prog_10_method_89_code 148 = .ok (.imul, 1) := by decide +kernel
theorem d_Mod_copy_149 : decode prog_10_method_89_code 149 = .ok (.iload_n 2, 1) := by decide +kernel
theorem d_Mod_copy_150 : decode prog_10_method_89_code 150 = .ok (.iadd, 1) := by decide +kernel
theorem d_Mod_copy_151 : decode prog_10_method_89_code 151 = .ok (.iload 6, 2) := by decide +kernel
theorem d_Mod_copy_153 : decode prog_10_method_89_code 153 = .ok (.iadd, 1) := by decide +kernel
theorem d_Mod_copy_154 : decode prog_10_method_89_code 154 = .ok (.laload, 1) := by decide +kernel
theorem d_Mod_copy_155 : decode prog_10_method_89_code 155 = .ok (.lastore, 1) := by decide +kernel
theorem d_Mod_copy_156 : decode prog_10_method_89_code 156 = .ok (.iinc 6 1, 3) := by decide +kernel
theorem d_Mod_copy_159 : decode prog_10_method_89_code 159 = .ok (.goto (-31), 3) := by decide +kernel
theorem d_Mod_copy_162 : decode prog_10_method_89_code 162 = .ok (.iconst 0, 1) := by decide +kernel
theorem d_Mod_copy_163 : decode prog_10_method_89_code 163 = .ok (.istore 6, 2) := by decide +kernel
theorem d_Mod_copy_165 : decode prog_10_method_89_code 165 = .ok (.iload 6, 2) := by decide +kernel
theorem d_Mod_copy_167 : decode prog_10_method_89_code 167 = .ok (.iload 5, 2) := by decide +kernel
theorem d_Mod_copy_169 : decode prog_10_method_89_code 169 = .ok (.if_icmp .ge 31, 3) := by decide +kernel
theorem d_Mod_copy_172 : decode prog_10_method_89_code 172 = .ok (.aload_n 0, 1) := by decide +kernel
theorem d_Mod_copy_173 : decode prog_10_method_89_code 173 = .ok (.getfield 56, 3) := by decide +kernel
theorem d_Mod_copy_176 : decode prog_10_method_89_code 176 = .ok (.bipush 40, 2) := by decide +kernel
theorem d_Mod_copy_178 : decode prog_10_method_89_code 178 = .ok (.iload_n 3, 1) := by decide +kernel
theorem d_Mod_copy_179 : decode prog_10_method_89_code 179 = .ok (.imul, 1) := by decide +kernel
theorem d_Mod_copy_180 : decode prog_10_method_89_code 180 = .ok (.iload 4, 2) := by decide +kernel
theorem d_Mod_copy_182 : decode prog_10_method_89_code 182 = .ok (.iadd, 1) := by decide +kernel
theorem d_Mod_copy_183 : decode prog_10_method_89_code 183 = .ok (.iload 6, 2) := by decide +kernel
theorem d_Mod_copy_185 : decode prog_10_method_89_code 185 = .ok (.iadd, 1) := by decide +kernel
theorem d_Mod_copy_186 : decode prog_10_method_89_code 186 = .ok (.aload_n 0, 1) := by decide +kernel
theorem d_Mod_copy_187 : decode prog_10_method_89_code 187 = .ok (.getfield 60, 3) := by decide +kernel
theorem d_Mod_copy_190 : decode prog_10_method_89_code 190 = .ok (.iload 6, 2) := by decide +kernel
theorem d_Mod_copy_192 : decode prog_10_method_89_code 192 = .ok (.laload, 1) := by decide +kernel
theorem d_Mod_copy_193 : decode prog_10_method_89_code 193 = .ok (.lastore, 1) := by decide +kernel
theorem d_Mod_copy_194 : decode prog_10_method_89_code 194 = .ok (.iinc 6 1, 3) := by decide +kernel
theorem d_Mod_copy_197 : decode prog_10_method_89_code 197 = .ok (.goto (-32), 3) := by decide +kernel
theorem d_Mod_copy_200 : decode prog_10_method_89_code 200 = .ok (.iload 5, 2) := by decide +kernel
theorem d_Mod_copy_202 : decode prog_10_method_89_code 202 = .ok (.ireturn, 1) := by decide +kernel
theorem d_Mod_lays_0 : decode prog_10_method_91_code 0 = .ok (.aload_n 0, 1) := by decide +kernel
theorem d_Mod_lays_1 : decode prog_10_method_91_code 1 = .ok (.iload_n 1, 1) := by decide +kernel
theorem d_Mod_lays_2 : decode prog_10_method_91_code 2 = .ok (.invokevirtual 314, 3) := by decide +kernel
theorem d_Mod_lays_5 : decode prog_10_method_91_code 5 = .ok (.ifCond .eq 13, 3) := by decide +kernel
theorem d_Mod_lays_8 : decode prog_10_method_91_code 8 = .ok (.aload_n 0, 1) := by decide +kernel
theorem d_Mod_lays_9 : decode prog_10_method_91_code 9 = .ok (.aload_n 0, 1) := by decide +kernel
theorem d_Mod_lays_10 : decode prog_10_method_91_code 10 = .ok (.iload_n 1, 1) := by decide +kernel
theorem d_Mod_lays_11 : decode prog_10_method_91_code 11 = .ok (.invokevirtual 314, 3) := by decide +kernel
theorem d_Mod_lays_14 : decode prog_10_method_91_code 14 = .ok (.invokevirtual 82, 3) := by decide +kernel
theorem d_Mod_lays_17 : decode prog_10_method_91_code 17 = .ok (.ireturn, 1) := by decide +kernel
theorem d_Mod_lays_18 : decode prog_10_method_91_code 18 = .ok (.iconst 0, 1) := by decide +kernel
theorem d_Mod_lays_19 : decode prog_10_method_91_code 19 = .ok (.istore_n 2, 1) := by decide +kernel
theorem d_Mod_lays_20 : decode prog_10_method_91_code 20 = .ok (.iconst 0, 1) := by decide +kernel
theorem d_Mod_lays_21 : decode prog_10_method_91_code 21 = .ok (.istore_n 3, 1) := by decide +kernel
theorem d_Mod_lays_22 : decode prog_10_method_91_code 22 = .ok (.iload_n 3, 1) := by decide +kernel
theorem d_Mod_lays_23 : decode prog_10_method_91_code 23 = .ok (.aload_n 0, 1) := by decide +kernel
theorem d_Mod_lays_24 : decode prog_10_method_91_code 24 = .ok (.getfield 53, 3) := by decide +kernel
theorem d_Mod_lays_27 : decode prog_10_method_91_code 27 = .ok (.iload_n 1, 1) := by decide +kernel
theorem d_Mod_lays_28 : decode prog_10_method_91_code 28 = .ok (.iaload, 1) := by decide +kernel
theorem d_Mod_lays_29 : decode prog_10_method_91_code 29 = .ok (.if_icmp .ge 64, 3) := by decide +kernel
theorem d_Mod_lays_32 : decode prog_10_method_91_code 32 = .ok (.iload_n 3, 1) := by decide +kernel
theorem d_Mod_lays_33 : decode prog_10_method_91_code 33 = .ok (.aload_n 0, 1) := by decide +kernel
theorem d_Mod_lays_34 : decode prog_10_method_91_code 34 = .ok (.getfield 9, 3) := by decide +kernel
theorem d_Mod_lays_37 : decode prog_10_method_91_code 37 = .ok (.iconst 3, 1) := by decide +kernel
theorem d_Mod_lays_38 : decode prog_10_method_91_code 38 = .ok (.iaload, 1) := by decide +kernel
theorem d_Mod_lays_39 : decode prog_10_method_91_code 39 = .ok (.if_icmp .ge 54, 3) := by decide +kernel
theorem d_Mod_lays_42 : decode prog_10_method_91_code 42 = .ok (.aload_n 0, 1) := by decide +kernel
theorem d_Mod_lays_43 : decode prog_10_method_91_code 43 = .ok (.getfield 56, 3) := by decide +kernel
theorem d_Mod_lays_46 : decode prog_10_method_91_code 46 = .ok (.bipush 40, 2) := by decide +kernel
theorem d_Mod_lays_48 : decode prog_10_method_91_code 48 = .ok (.iload_n 1, 1) := by decide +kernel
theorem d_Mod_lays_49 : decode prog_10_method_91_code 49 = .ok (.imul, 1) := by decide +kernel
theorem d_Mod_lays_50 : decode prog_10_method_91_code 50 = .ok (.iload_n 3, 1) := by decide +kernel
theorem d_Mod_lays_51 : decode prog_10_method_91_code 51 = .ok (.iadd, 1) := by decide +kernel
theorem d_Mod_lays_52 : decode prog_10_method_91_code 52 = .ok (.laload, 1) := by decide +kernel
theorem d_Mod_lays_53 : decode prog_10_method_91_code 53 = .ok (.lstore 4, 2) := by decide +kernel
theorem d_Mod_lays_55 : decode prog_10_method_91_code 55 = .ok (.lload 4, 2) := by decide +kernel
theorem d_Mod_lays_57 : decode prog_10_method_91_code 57 = .ok (.lconst 0, 1) := by decide +kernel
theorem d_Mod_lays_58 : decode prog_10_method_91_code 58 = .ok (.lcmp, 1) := by decide +kernel
theorem d_Mod_lays_59 : decode prog_10_method_91_code 59 = .ok (.ifCond .lt 28, 3) := by decide +kernel
theorem d_Mod_lays_62 : decode prog_10_method_91_code 62 = .ok (.lload 4, 2) := by decide +kernel
theorem d_Mod_lays_64 : decode prog_10_method_91_code 64 = .ok (.ldc2_w 317, 3) := by decide +kernel
theorem d_Mod_lays_67 : decode prog_10_method_91_code 67 = .ok (.lcmp, 1) := by decide +kernel
theorem d_Mod_lays_68 : decode prog_10_method_91_code 68 = .ok (.ifCond .gt 19, 3) := by decide +kernel
theorem d_Mod_lays_71 : decode prog_10_method_91_code 71 = .ok (.aload_n 0, 1) := by decide +kernel
theorem d_Mod_lays_72 : decode prog_10_method_91_code 72 = .ok (.getfield 9, 3) := by decide +kernel
theorem d_Mod_lays_75 : decode prog_10_method_91_code 75 = .ok (.iload_n 3, 1) := by decide +kernel
theorem d_Mod_lays_76 : decode prog_10_method_91_code 76 = .ok (.iconst 2, 1) := by decide +kernel
theorem d_Mod_lays_77 : decode prog_10_method_91_code 77 = .ok (.invokestatic 76, 3) := by decide +kernel
theorem d_Mod_lays_80 : decode prog_10_method_91_code 80 = .ok (.lload 4, 2) := by decide +kernel
theorem d_Mod_lays_82 : decode prog_10_method_91_code 82 = .ok (.l2i, 1) := by decide +kernel
theorem d_Mod_lays_83 : decode prog_10_method_91_code 83 = .ok (.iastore, 1) := by decide +kernel
theorem d_Mod_lays_84 : decode prog_10_method_91_code 84 = .ok (.iinc 2 1, 3) := by decide +kernel
theorem d_Mod_lays_87 : decode prog_10_method_91_code 87 = .ok (.iinc 3 1, 3) := by decide +kernel
theorem d_Mod_lays_90 : decode prog_10_method_91_code 90 = .ok (.goto (-68), 3) := by decide +kernel
theorem d_Mod_lays_93 : decode prog_10_method_91_code 93 = .ok (.iload_n 2, 1) := by decide +kernel
theorem d_Mod_lays_94 : decode prog_10_method_91_code 94 = .ok (.ireturn, 1) := by decide +kernel
theorem d_Mod_lacks_0 : decode prog_10_method_90_code 0 = .ok (.iload_n 1, 1) := by decide +kernel
theorem d_Mod_lacks_1 : decode prog_10_method_90_code 1 = .ok (.invokestatic 305, 3) := by decide +kernel
theorem d_Mod_lacks_4 : decode prog_10_method_90_code 4 = .ok (.ifCond .ne 8, 3) := by decide +kernel
theorem d_Mod_lacks_7 : decode prog_10_method_90_code 7 = .ok (.ldc 63, 2) := by decide +kernel
theorem d_Mod_lacks_9 : decode prog_10_method_90_code 9 = .ok (.goto 19, 3) := by decide +kernel
theorem d_Mod_lacks_12 : decode prog_10_method_90_code 12 = .ok (.aload_n 0, 1) := by decide +kernel
theorem d_Mod_lacks_13 : decode prog_10_method_90_code 13 = .ok (.getfield 50, 3) := by decide +kernel
theorem d_Mod_lacks_16 : decode prog_10_method_90_code 16 = .ok (.iload_n 1, 1) := by decide +kernel
theorem d_Mod_lacks_17 : decode prog_10_method_90_code 17 = .ok (.iaload, 1) := by decide +kernel
theorem d_Mod_lacks_18 : decode prog_10_method_90_code 18 = .ok (.ifCond .ne 9, 3) := by decide +kernel
theorem d_Mod_lacks_21 : decode prog_10_method_90_code 21 = .ok (.ldc_w 309, 3) := by decide +kernel
theorem d_Mod_lacks_24 : decode prog_10_method_90_code 24 = .ok (.goto 4, 3) := by decide +kernel
theorem d_Mod_lacks_27 : decode prog_10_method_90_code 27 = .ok (.iconst 0, 1) := by decide +kernel
theorem d_Mod_lacks_28 : decode prog_10_method_90_code 28 = .ok (.ireturn, 1) := by decide +kernel
theorem d_Mod_book_0 : decode prog_10_method_92_code 0 = .ok (.aload_n 0, 1) := by decide +kernel
theorem d_Mod_book_1 : decode prog_10_method_92_code 1 = .ok (.iload_n 1, 1) := by decide +kernel
theorem d_Mod_book_2 : decode prog_10_method_92_code 2 = .ok (.invokevirtual 314, 3) := by decide +kernel
theorem d_Mod_book_5 : decode prog_10_method_92_code 5 = .ok (.ifCond .ne 11, 3) := by decide +kernel
theorem d_Mod_book_8 : decode prog_10_method_92_code 8 = .ok (.aload_n 0, 1) := by decide +kernel
theorem d_Mod_book_9 : decode prog_10_method_92_code 9 = .ok (.iload_n 2, 1) := by decide +kernel
theorem d_Mod_book_10 : decode prog_10_method_92_code 10 = .ok (.invokevirtual 122, 3) := by decide +kernel
theorem d_Mod_book_13 : decode prog_10_method_92_code 13 = .ok (.ifCond .ne 26, 3) := by decide +kernel
theorem d_Mod_book_16 : decode prog_10_method_92_code 16 = .ok (.aload_n 0, 1) := by decide +kernel
theorem d_Mod_book_17 : decode prog_10_method_92_code 17 = .ok (.aload_n 0, 1) := by decide +kernel
theorem d_Mod_book_18 : decode prog_10_method_92_code 18 = .ok (.iload_n 1, 1) := by decide +kernel
theorem d_Mod_book_19 : decode prog_10_method_92_code 19 = .ok (.invokevirtual 314, 3) := by decide +kernel
theorem d_Mod_book_22 : decode prog_10_method_92_code 22 = .ok (.ifCond .eq 11, 3) := by decide +kernel
theorem d_Mod_book_25 : decode prog_10_method_92_code 25 = .ok (.aload_n 0, 1) := by decide +kernel
theorem d_Mod_book_26 : decode prog_10_method_92_code 26 = .ok (.iload_n 1, 1) := by decide +kernel
theorem d_Mod_book_27 : decode prog_10_method_92_code 27 = .ok (.invokevirtual 314, 3) := by decide +kernel
theorem d_Mod_book_30 : decode prog_10_method_92_code 30 = .ok (.goto 5, 3) := by decide +kernel
theorem d_Mod_book_33 : decode prog_10_method_92_code 33 = .ok (.ldc 63, 2) := by decide +kernel
theorem d_Mod_book_35 : decode prog_10_method_92_code 35 = .ok (.invokevirtual 82, 3) := by decide +kernel
theorem d_Mod_book_38 : decode prog_10_method_92_code 38 = .ok (.ireturn, 1) := by decide +kernel
theorem d_Mod_book_39 : decode prog_10_method_92_code 39 = .ok (.aload_n 0, 1) := by decide +kernel
theorem d_Mod_book_40 : decode prog_10_method_92_code 40 = .ok (.getfield 9, 3) := by decide +kernel
theorem d_Mod_book_43 : decode prog_10_method_92_code 43 = .ok (.aload_n 0, 1) := by decide +kernel
theorem d_Mod_book_44 : decode prog_10_method_92_code 44 = .ok (.getfield 16, 3) := by decide +kernel
theorem d_Mod_book_47 : decode prog_10_method_92_code 47 = .ok (.invokestatic 64, 3) := by decide +kernel
theorem d_Mod_book_50 : decode prog_10_method_92_code 50 = .ok (.iconst 0, 1) := by decide +kernel
theorem d_Mod_book_51 : decode prog_10_method_92_code 51 = .ok (.istore_n 3, 1) := by decide +kernel
theorem d_Mod_book_52 : decode prog_10_method_92_code 52 = .ok (.iload_n 3, 1) := by decide +kernel
theorem d_Mod_book_53 : decode prog_10_method_92_code 53 = .ok (.aload_n 0, 1) := by decide +kernel
theorem d_Mod_book_54 : decode prog_10_method_92_code 54 = .ok (.getfield 53, 3) := by decide +kernel
theorem d_Mod_book_57 : decode prog_10_method_92_code 57 = .ok (.iload_n 1, 1) := by decide +kernel
theorem d_Mod_book_58 : decode prog_10_method_92_code 58 = .ok (.iaload, 1) := by decide +kernel
theorem d_Mod_book_59 : decode prog_10_method_92_code 59 = .ok (.if_icmp .ge 40, 3) := by decide +kernel
theorem d_Mod_book_62 : decode prog_10_method_92_code 62 = .ok (.aload_n 0, 1) := by decide +kernel
theorem d_Mod_book_63 : decode prog_10_method_92_code 63 = .ok (.getfield 56, 3) := by decide +kernel
theorem d_Mod_book_66 : decode prog_10_method_92_code 66 = .ok (.bipush 40, 2) := by decide +kernel
theorem d_Mod_book_68 : decode prog_10_method_92_code 68 = .ok (.iload_n 1, 1) := by decide +kernel
theorem d_Mod_book_69 : decode prog_10_method_92_code 69 = .ok (.imul, 1) := by decide +kernel
theorem d_Mod_book_70 : decode prog_10_method_92_code 70 = .ok (.iload_n 3, 1) := by decide +kernel
theorem d_Mod_book_71 : decode prog_10_method_92_code 71 = .ok (.iadd, 1) := by decide +kernel
theorem d_Mod_book_72 : decode prog_10_method_92_code 72 = .ok (.aload_n 0, 1) := by decide +kernel
theorem d_Mod_book_73 : decode prog_10_method_92_code 73 = .ok (.iload_n 2, 1) := by decide +kernel
theorem d_Mod_book_74 : decode prog_10_method_92_code 74 = .ok (.iconst 2, 1) := by decide +kernel
theorem d_Mod_book_75 : decode prog_10_method_92_code 75 = .ok (.invokevirtual 94, 3) := by decide +kernel
theorem d_Mod_book_78 : decode prog_10_method_92_code 78 = .ok (.i2l, 1) := by decide +kernel
theorem d_Mod_book_79 : decode prog_10_method_92_code 79 = .ok (.aload_n 0, 1) := by decide +kernel
theorem d_Mod_book_80 : decode prog_10_method_92_code 80 = .ok (.getfield 50, 3) := by decide +kernel
theorem d_Mod_book_83 : decode prog_10_method_92_code 83 = .ok (.iload_n 1, 1) := by decide +kernel
theorem d_Mod_book_84 : decode prog_10_method_92_code 84 = .ok (.iaload, 1) := by decide +kernel
theorem d_Mod_book_85 : decode prog_10_method_92_code 85 = .ok (.invokestatic 310, 3) := by decide +kernel
theorem d_Mod_book_88 : decode prog_10_method_92_code 88 = .ok (.lastore, 1) := by decide +kernel
theorem d_Mod_book_89 : decode prog_10_method_92_code 89 = .ok (.aload_n 0, 1) := by decide +kernel
theorem d_Mod_book_90 : decode prog_10_method_92_code 90 = .ok (.invokevirtual 172, 3) := by decide +kernel
theorem d_Mod_book_93 : decode prog_10_method_92_code 93 = .ok (.iinc 3 1, 3) := by decide +kernel
theorem d_Mod_book_96 : decode prog_10_method_92_code 96 = .ok (.goto (-44), 3) := by decide +kernel
theorem d_Mod_book_99 : decode prog_10_method_92_code 99 = .ok (.aload_n 0, 1) := by decide +kernel
theorem d_Mod_book_100 : decode prog_10_method_92_code 100 = .ok (.aload_n 0, 1) := by decide +kernel
theorem d_Mod_book_101 : decode prog_10_method_92_code 101 = .ok (.getfield 53, 3) := by decide +kernel
theorem d_Mod_book_104 : decode prog_10_method_92_code 104 = .ok (.iload_n 1, 1) := by decide +kernel
theorem d_Mod_book_105 : decode prog_10_method_92_code 105 = .ok (.iaload, 1) := by decide +kernel
theorem d_Mod_book_106 : decode prog_10_method_92_code 106 = .ok (.invokevirtual 188, 3) := by decide +kernel
theorem d_Mod_book_109 : decode prog_10_method_92_code 109 = .ok (.ireturn, 1) := by decide +kernel
theorem d_Mod_read_0 : decode prog_10_method_94_code 0 = .ok (.aload_n 0, 1) := by decide +kernel
theorem d_Mod_read_1 : decode prog_10_method_94_code 1 = .ok (.iload_n 1, 1) := by decide +kernel
theorem d_Mod_read_2 : decode prog_10_method_94_code 2 = .ok (.invokevirtual 314, 3) := by decide +kernel
theorem d_Mod_read_5 : decode prog_10_method_94_code 5 = .ok (.ifCond .ne 11, 3) := by decide +kernel
theorem d_Mod_read_8 : decode prog_10_method_94_code 8 = .ok (.aload_n 0, 1) := by decide +kernel
theorem d_Mod_read_9 : decode prog_10_method_94_code 9 = .ok (.iload_n 2, 1) := by decide +kernel
theorem d_Mod_read_10 : decode prog_10_method_94_code 10 = .ok (.invokevirtual 122, 3) := by decide +kernel
theorem d_Mod_read_13 : decode prog_10_method_94_code 13 = .ok (.ifCond .ne 26, 3) := by decide +kernel
theorem d_Mod_read_16 : decode prog_10_method_94_code 16 = .ok (.aload_n 0, 1) := by decide +kernel
theorem d_Mod_read_17 : decode prog_10_method_94_code 17 = .ok (.aload_n 0, 1) := by decide +kernel
theorem d_Mod_read_18 : decode prog_10_method_94_code 18 = .ok (.iload_n 1, 1) := by decide +kernel
theorem d_Mod_read_19 : decode prog_10_method_94_code 19 = .ok (.invokevirtual 314, 3) := by decide +kernel
theorem d_Mod_read_22 : decode prog_10_method_94_code 22 = .ok (.ifCond .eq 11, 3) := by decide +kernel
theorem d_Mod_read_25 : decode prog_10_method_94_code 25 = .ok (.aload_n 0, 1) := by decide +kernel
theorem d_Mod_read_26 : decode prog_10_method_94_code 26 = .ok (.iload_n 1, 1) := by decide +kernel
theorem d_Mod_read_27 : decode prog_10_method_94_code 27 = .ok (.invokevirtual 314, 3) := by decide +kernel
theorem d_Mod_read_30 : decode prog_10_method_94_code 30 = .ok (.goto 5, 3) := by decide +kernel
theorem d_Mod_read_33 : decode prog_10_method_94_code 33 = .ok (.ldc 63, 2) := by decide +kernel
theorem d_Mod_read_35 : decode prog_10_method_94_code 35 = .ok (.invokevirtual 82, 3) := by decide +kernel
theorem d_Mod_read_38 : decode prog_10_method_94_code 38 = .ok (.ireturn, 1) := by decide +kernel
theorem d_Mod_read_39 : decode prog_10_method_94_code 39 = .ok (.aload_n 0, 1) := by decide +kernel
theorem d_Mod_read_40 : decode prog_10_method_94_code 40 = .ok (.iload_n 2, 1) := by decide +kernel
theorem d_Mod_read_41 : decode prog_10_method_94_code 41 = .ok (.iconst 3, 1) := by decide +kernel
theorem d_Mod_read_42 : decode prog_10_method_94_code 42 = .ok (.invokevirtual 94, 3) := by decide +kernel
theorem d_Mod_read_45 : decode prog_10_method_94_code 45 = .ok (.istore_n 3, 1) := by decide +kernel
theorem d_Mod_read_46 : decode prog_10_method_94_code 46 = .ok (.aload_n 0, 1) := by decide +kernel
theorem d_Mod_read_47 : decode prog_10_method_94_code 47 = .ok (.iload_n 2, 1) := by decide +kernel
theorem d_Mod_read_48 : decode prog_10_method_94_code 48 = .ok (.iconst 4, 1) := by decide +kernel
theorem d_Mod_read_49 : decode prog_10_method_94_code 49 = .ok (.invokevirtual 94, 3) := by decide +kernel
theorem d_Mod_read_52 : decode prog_10_method_94_code 52 = .ok (.istore 4, 2) := by decide +kernel
theorem d_Mod_read_54 : decode prog_10_method_94_code 54 = .ok (.iconst 0, 1) := by decide +kernel
theorem d_Mod_read_55 : decode prog_10_method_94_code 55 = .ok (.istore 5, 2) := by decide +kernel
theorem d_Mod_read_57 : decode prog_10_method_94_code 57 = .ok (.iconst (-1), 1) := by decide +kernel
theorem d_Mod_read_58 : decode prog_10_method_94_code 58 = .ok (.istore 6, 2) := by decide +kernel
theorem d_Mod_read_60 : decode prog_10_method_94_code 60 = .ok (.iload 6, 2) := by decide +kernel
theorem d_Mod_read_62 : decode prog_10_method_94_code 62 = .ok (.bipush 24, 2) := by decide +kernel
theorem d_Mod_read_64 : decode prog_10_method_94_code 64 = .ok (.if_icmp .ge 68, 3) := by decide +kernel
theorem d_Mod_read_67 : decode prog_10_method_94_code 67 = .ok (.iconst (-1), 1) := by decide +kernel
theorem d_Mod_read_68 : decode prog_10_method_94_code 68 = .ok (.istore 7, 2) := by decide +kernel
theorem d_Mod_read_70 : decode prog_10_method_94_code 70 = .ok (.iload 7, 2) := by decide +kernel
theorem d_Mod_read_72 : decode prog_10_method_94_code 72 = .ok (.bipush 24, 2) := by decide +kernel
theorem d_Mod_read_74 : decode prog_10_method_94_code 74 = .ok (.if_icmp .ge 52, 3) := by decide +kernel
theorem d_Mod_read_77 : decode prog_10_method_94_code 77 = .ok (.aload_n 0, 1) := by decide +kernel
theorem d_Mod_read_78 : decode prog_10_method_94_code 78 = .ok (.getfield 9, 3) := by decide +kernel
theorem d_Mod_read_81 : decode prog_10_method_94_code 81 = .ok (.iload_n 2, 1) := by decide +kernel
theorem d_Mod_read_82 : decode prog_10_method_94_code 82 = .ok (.iconst 3, 1) := by decide +kernel
theorem d_Mod_read_83 : decode prog_10_method_94_code 83 = .ok (.invokestatic 76, 3) := by decide +kernel
theorem d_Mod_read_86 : decode prog_10_method_94_code 86 = .ok (.iload 6, 2) := by decide +kernel
theorem d_Mod_read_88 : decode prog_10_method_94_code 88 = .ok (.iastore, 1) := by decide +kernel
theorem d_Mod_read_89 : decode prog_10_method_94_code 89 = .ok (.aload_n 0, 1) := by decide +kernel
theorem d_Mod_read_90 : decode prog_10_method_94_code 90 = .ok (.getfield 9, 3) := by decide +kernel
theorem d_Mod_read_93 : decode prog_10_method_94_code 93 = .ok (.iload_n 2, 1) := by decide +kernel
theorem d_Mod_read_94 : decode prog_10_method_94_code 94 = .ok (.iconst 4, 1) := by decide +kernel
theorem d_Mod_read_95 : decode prog_10_method_94_code 95 = .ok (.invokestatic 76, 3) := by decide +kernel
theorem d_Mod_read_98 : decode prog_10_method_94_code 98 = .ok (.iload 7, 2) := by decide +kernel
theorem d_Mod_read_100 : decode prog_10_method_94_code 100 = .ok (.iastore, 1) := by decide +kernel
theorem d_Mod_read_101 : decode prog_10_method_94_code 101 = .ok (.iload 5, 2) := by decide +kernel
theorem d_Mod_read_103 : decode prog_10_method_94_code 103 = .ok (.aload_n 0, 1) := by decide +kernel
theorem d_Mod_read_104 : decode prog_10_method_94_code 104 = .ok (.iload_n 1, 1) := by decide +kernel
theorem d_Mod_read_105 : decode prog_10_method_94_code 105 = .ok (.iload_n 2, 1) := by decide +kernel
theorem d_Mod_read_106 : decode prog_10_method_94_code 106 = .ok (.invokevirtual 319, 3) := by decide +kernel
theorem d_Mod_read_109 : decode prog_10_method_94_code 109 = .ok (.ifCond .eq 7, 3) := by decide +kernel
theorem d_Mod_read_112 : decode prog_10_method_94_code 112 = .ok (.iconst 1, 1) := by decide +kernel
theorem d_Mod_read_113 : decode prog_10_method_94_code 113 = .ok (.goto 4, 3) := by decide +kernel
theorem d_Mod_read_116 : decode prog_10_method_94_code 116 = .ok (.iconst 0, 1) := by decide +kernel
theorem d_Mod_read_117 : decode prog_10_method_94_code 117 = .ok (.iadd, 1) := by decide +kernel
theorem d_Mod_read_118 : decode prog_10_method_94_code 118 = .ok (.istore 5, 2) := by decide +kernel
theorem d_Mod_read_120 : decode prog_10_method_94_code 120 = .ok (.iinc 7 1, 3) := by decide +kernel
theorem d_Mod_read_123 : decode prog_10_method_94_code 123 = .ok (.goto (-53), 3) := by decide +kernel
theorem d_Mod_read_126 : decode prog_10_method_94_code 126 = .ok (.iinc 6 1, 3) := by decide +kernel
theorem d_Mod_read_129 : decode prog_10_method_94_code 129 = .ok (.goto (-69), 3) := by decide +kernel
theorem d_Mod_read_132 : decode prog_10_method_94_code 132 = .ok (.aload_n 0, 1) := by decide +kernel
theorem d_Mod_read_133 : decode prog_10_method_94_code 133 = .ok (.getfield 9, 3) := by decide +kernel
theorem d_Mod_read_136 : decode prog_10_method_94_code 136 = .ok (.iload_n 2, 1) := by decide +kernel
theorem d_Mod_read_137 : decode prog_10_method_94_code 137 = .ok (.iconst 3, 1) := by decide +kernel
theorem d_Mod_read_138 : decode prog_10_method_94_code 138 = .ok (.invokestatic 76, 3) := by decide +kernel
theorem d_Mod_read_141 : decode prog_10_method_94_code 141 = .ok (.iload_n 3, 1) := by decide +kernel
theorem d_Mod_read_142 : decode prog_10_method_94_code 142 = .ok (.iastore, 1) := by decide +kernel
theorem d_Mod_read_143 : decode prog_10_method_94_code 143 = .ok (.aload_n 0, 1) := by decide +kernel
theorem d_Mod_read_144 : decode prog_10_method_94_code 144 = .ok (.getfield 9, 3) := by decide +kernel
theorem d_Mod_read_147 : decode prog_10_method_94_code 147 = .ok (.iload_n 2, 1) := by decide +kernel
theorem d_Mod_read_148 : decode prog_10_method_94_code 148 = .ok (.iconst 4, 1) := by decide +kernel
theorem d_Mod_read_149 : decode prog_10_method_94_code 149 = .ok (.invokestatic 76, 3) := by decide +kernel
theorem d_Mod_read_152 : decode prog_10_method_94_code 152 = .ok (.iload 4, 2) := by decide +kernel
theorem d_Mod_read_154 : decode prog_10_method_94_code 154 = .ok (.iastore, 1) := by decide +kernel
theorem d_Mod_read_155 : decode prog_10_method_94_code 155 = .ok (.iload 5, 2) := by decide +kernel
theorem d_Mod_read_157 : decode prog_10_method_94_code 157 = .ok (.ireturn, 1) := by decide +kernel
theorem d_Mod_wasSo_0 : decode prog_10_method_93_code 0 = .ok (.aload_n 0, 1) := by decide +kernel
theorem d_Mod_wasSo_1 : decode prog_10_method_93_code 1 = .ok (.getfield 9, 3) := by decide +kernel
theorem d_Mod_wasSo_4 : decode prog_10_method_93_code 4 = .ok (.aload_n 0, 1) := by decide +kernel
theorem d_Mod_wasSo_5 : decode prog_10_method_93_code 5 = .ok (.getfield 16, 3) := by decide +kernel
theorem d_Mod_wasSo_8 : decode prog_10_method_93_code 8 = .ok (.invokestatic 64, 3) := by decide +kernel
theorem d_Mod_wasSo_11 : decode prog_10_method_93_code 11 = .ok (.iconst 1, 1) := by decide +kernel
theorem d_Mod_wasSo_12 : decode prog_10_method_93_code 12 = .ok (.istore_n 3, 1) := by decide +kernel
theorem d_Mod_wasSo_13 : decode prog_10_method_93_code 13 = .ok (.iconst 0, 1) := by decide +kernel
theorem d_Mod_wasSo_14 : decode prog_10_method_93_code 14 = .ok (.istore 4, 2) := by decide +kernel
theorem d_Mod_wasSo_16 : decode prog_10_method_93_code 16 = .ok (.iload 4, 2) := by decide +kernel
theorem d_Mod_wasSo_18 : decode prog_10_method_93_code 18 = .ok (.aload_n 0, 1) := by decide +kernel
theorem d_Mod_wasSo_19 : decode prog_10_method_93_code 19 = .ok (.getfield 53, 3) := by decide +kernel
theorem d_Mod_wasSo_22 : decode prog_10_method_93_code 22 = .ok (.iload_n 1, 1) := by decide +kernel
theorem d_Mod_wasSo_23 : decode prog_10_method_93_code 23 = .ok (.iaload, 1) := by decide +kernel
theorem d_Mod_wasSo_24 : decode prog_10_method_93_code 24 = .ok (.if_icmp .ge 46, 3) := by decide +kernel
theorem d_Mod_wasSo_27 : decode prog_10_method_93_code 27 = .ok (.iload_n 3, 1) := by decide +kernel
theorem d_Mod_wasSo_28 : decode prog_10_method_93_code 28 = .ok (.ifCond .eq 42, 3) := by decide +kernel
theorem d_Mod_wasSo_31 : decode prog_10_method_93_code 31 = .ok (.aload_n 0, 1) := by decide +kernel
theorem d_Mod_wasSo_32 : decode prog_10_method_93_code 32 = .ok (.getfield 56, 3) := by decide +kernel
theorem d_Mod_wasSo_35 : decode prog_10_method_93_code 35 = .ok (.bipush 40, 2) := by decide +kernel
theorem d_Mod_wasSo_37 : decode prog_10_method_93_code 37 = .ok (.iload_n 1, 1) := by decide +kernel
theorem d_Mod_wasSo_38 : decode prog_10_method_93_code 38 = .ok (.imul, 1) := by decide +kernel
theorem d_Mod_wasSo_39 : decode prog_10_method_93_code 39 = .ok (.iload 4, 2) := by decide +kernel
theorem d_Mod_wasSo_41 : decode prog_10_method_93_code 41 = .ok (.iadd, 1) := by decide +kernel
theorem d_Mod_wasSo_42 : decode prog_10_method_93_code 42 = .ok (.laload, 1) := by decide +kernel
theorem d_Mod_wasSo_43 : decode prog_10_method_93_code 43 = .ok (.aload_n 0, 1) := by decide +kernel
theorem d_Mod_wasSo_44 : decode prog_10_method_93_code 44 = .ok (.iload_n 2, 1) := by decide +kernel
theorem d_Mod_wasSo_45 : decode prog_10_method_93_code 45 = .ok (.iconst 2, 1) := by decide +kernel
theorem d_Mod_wasSo_46 : decode prog_10_method_93_code 46 = .ok (.invokevirtual 94, 3) := by decide +kernel
theorem d_Mod_wasSo_49 : decode prog_10_method_93_code 49 = .ok (.i2l, 1) := by decide +kernel
theorem d_Mod_wasSo_50 : decode prog_10_method_93_code 50 = .ok (.lcmp, 1) := by decide +kernel
theorem d_Mod_wasSo_51 : decode prog_10_method_93_code 51 = .ok (.ifCond .ne 7, 3) := by decide +kernel
theorem d_Mod_wasSo_54 : decode prog_10_method_93_code 54 = .ok (.iconst 1, 1) := by decide +kernel
theorem d_Mod_wasSo_55 : decode prog_10_method_93_code 55 = .ok (.goto 4, 3) := by decide +kernel
theorem d_Mod_wasSo_58 : decode prog_10_method_93_code 58 = .ok (.iconst 0, 1) := by decide +kernel
theorem d_Mod_wasSo_59 : decode prog_10_method_93_code 59 = .ok (.istore_n 3, 1) := by decide +kernel
theorem d_Mod_wasSo_60 : decode prog_10_method_93_code 60 = .ok (.aload_n 0, 1) := by decide +kernel
theorem d_Mod_wasSo_61 : decode prog_10_method_93_code 61 = .ok (.invokevirtual 172, 3) := by decide +kernel
theorem d_Mod_wasSo_64 : decode prog_10_method_93_code 64 = .ok (.iinc 4 1, 3) := by decide +kernel
theorem d_Mod_wasSo_67 : decode prog_10_method_93_code 67 = .ok (.goto (-51), 3) := by decide +kernel
theorem d_Mod_wasSo_70 : decode prog_10_method_93_code 70 = .ok (.aload_n 0, 1) := by decide +kernel
theorem d_Mod_wasSo_71 : decode prog_10_method_93_code 71 = .ok (.getfield 16, 3) := by decide +kernel
theorem d_Mod_wasSo_74 : decode prog_10_method_93_code 74 = .ok (.aload_n 0, 1) := by decide +kernel
theorem d_Mod_wasSo_75 : decode prog_10_method_93_code 75 = .ok (.getfield 9, 3) := by decide +kernel
theorem d_Mod_wasSo_78 : decode prog_10_method_93_code 78 = .ok (.invokestatic 64, 3) := by decide +kernel
theorem d_Mod_wasSo_81 : decode prog_10_method_93_code 81 = .ok (.iload_n 3, 1) := by decide +kernel
theorem d_Mod_wasSo_82 : decode prog_10_method_93_code 82 = .ok (.ireturn, 1) := by decide +kernel
theorem d_Mod_image_0 : decode prog_10_method_95_code 0 = .ok (.aload_n 0, 1) := by decide +kernel
theorem d_Mod_image_1 : decode prog_10_method_95_code 1 = .ok (.getfield 9, 3) := by decide +kernel
theorem d_Mod_image_4 : decode prog_10_method_95_code 4 = .ok (.aload_n 0, 1) := by decide +kernel
theorem d_Mod_image_5 : decode prog_10_method_95_code 5 = .ok (.getfield 13, 3) := by decide +kernel
theorem d_Mod_image_8 : decode prog_10_method_95_code 8 = .ok (.invokestatic 64, 3) := by decide +kernel
theorem d_Mod_image_11 : decode prog_10_method_95_code 11 = .ok (.aload_n 0, 1) := by decide +kernel
theorem d_Mod_image_12 : decode prog_10_method_95_code 12 = .ok (.iconst 1, 1) := by decide +kernel
theorem d_Mod_image_13 : decode prog_10_method_95_code 13 = .ok (.putfield 322, 3) := by decide +kernel
theorem d_Mod_image_16 : decode prog_10_method_95_code 16 = .ok (.iconst 1, 1) := by decide +kernel
theorem d_Mod_image_17 : decode prog_10_method_95_code 17 = .ok (.ireturn, 1) := by decide +kernel
theorem d_Mod_undo_0 : decode prog_10_method_96_code 0 = .ok (.aload_n 0, 1) := by decide +kernel
theorem d_Mod_undo_1 : decode prog_10_method_96_code 1 = .ok (.getfield 322, 3) := by decide +kernel
theorem d_Mod_undo_4 : decode prog_10_method_96_code 4 = .ok (.ifCond .ne 10, 3) := by decide +kernel
theorem d_Mod_undo_7 : decode prog_10_method_96_code 7 = .ok (.aload_n 0, 1) := by decide +kernel
theorem d_Mod_undo_8 : decode prog_10_method_96_code 8 = .ok (.ldc 195, 2) := by decide +kernel
theorem d_Mod_undo_10 : decode prog_10_method_96_code 10 = .ok (.invokevirtual 82, 3) := by decide +kernel
theorem d_Mod_undo_13 : decode prog_10_method_96_code 13 = .ok (.ireturn, 1) := by decide +kernel
theorem d_Mod_undo_14 : decode prog_10_method_96_code 14 = .ok (.aload_n 0, 1) := by decide +kernel
theorem d_Mod_undo_15 : decode prog_10_method_96_code 15 = .ok (.getfield 13, 3) := by decide +kernel
theorem d_Mod_undo_18 : decode prog_10_method_96_code 18 = .ok (.aload_n 0, 1) := by decide +kernel
theorem d_Mod_undo_19 : decode prog_10_method_96_code 19 = .ok (.getfield 9, 3) := by decide +kernel
theorem d_Mod_undo_22 : decode prog_10_method_96_code 22 = .ok (.invokestatic 64, 3) := by decide +kernel
theorem d_Mod_undo_25 : decode prog_10_method_96_code 25 = .ok (.aload_n 0, 1) := by decide +kernel
theorem d_Mod_undo_26 : decode prog_10_method_96_code 26 = .ok (.getfield 9, 3) := by decide +kernel
theorem d_Mod_undo_29 : decode prog_10_method_96_code 29 = .ok (.iconst 3, 1) := by decide +kernel
theorem d_Mod_undo_30 : decode prog_10_method_96_code 30 = .ok (.iaload, 1) := by decide +kernel
theorem d_Mod_undo_31 : decode prog_10_method_96_code 31 = .ok (.ireturn, 1) := by decide +kernel
theorem d_Mod_tear_0 : decode prog_10_method_97_code 0 = .ok (.aload_n 0, 1) := by decide +kernel
theorem d_Mod_tear_1 : decode prog_10_method_97_code 1 = .ok (.getfield 322, 3) := by decide +kernel
theorem d_Mod_tear_4 : decode prog_10_method_97_code 4 = .ok (.ifCond .eq 7, 3) := by decide +kernel
theorem d_Mod_tear_7 : decode prog_10_method_97_code 7 = .ok (.iconst 1, 1) := by decide +kernel
theorem d_Mod_tear_8 : decode prog_10_method_97_code 8 = .ok (.goto 4, 3) := by decide +kernel
theorem d_Mod_tear_11 : decode prog_10_method_97_code 11 = .ok (.iconst 0, 1) := by decide +kernel
theorem d_Mod_tear_12 : decode prog_10_method_97_code 12 = .ok (.istore_n 1, 1) := by decide +kernel
theorem d_Mod_tear_13 : decode prog_10_method_97_code 13 = .ok (.aload_n 0, 1) := by decide +kernel
theorem d_Mod_tear_14 : decode prog_10_method_97_code 14 = .ok (.iconst 0, 1) := by decide +kernel
theorem d_Mod_tear_15 : decode prog_10_method_97_code 15 = .ok (.putfield 322, 3) := by decide +kernel
theorem d_Mod_tear_18 : decode prog_10_method_97_code 18 = .ok (.iload_n 1, 1) := by decide +kernel
theorem d_Mod_tear_19 : decode prog_10_method_97_code 19 = .ok (.ireturn, 1) := by decide +kernel
theorem d_Mod_count_0 : decode prog_10_method_98_code 0 = .ok (.iconst 0, 1) := by decide +kernel
theorem d_Mod_count_1 : decode prog_10_method_98_code 1 = .ok (.istore_n 2, 1) := by decide +kernel
theorem d_Mod_count_2 : decode prog_10_method_98_code 2 = .ok (.iload_n 1, 1) := by decide +kernel
theorem d_Mod_count_3 : decode prog_10_method_98_code 3 = .ok (.tableswitch 81 0 3 #[29, 36, 43, 48], 29) := by decide +kernel
theorem d_Mod_count_32 : decode prog_10_method_98_code 32 = .ok (.aload_n 0, 1) := by decide +kernel
theorem d_Mod_count_33 : decode prog_10_method_98_code 33 = .ok (.getfield 9, 3) := by decide +kernel
theorem d_Mod_count_36 : decode prog_10_method_98_code 36 = .ok (.iconst 3, 1) := by decide +kernel
theorem d_Mod_count_37 : decode prog_10_method_98_code 37 = .ok (.iaload, 1) := by decide +kernel
theorem d_Mod_count_38 : decode prog_10_method_98_code 38 = .ok (.ireturn, 1) := by decide +kernel
theorem d_Mod_count_39 : decode prog_10_method_98_code 39 = .ok (.aload_n 0, 1) := by decide +kernel
theorem d_Mod_count_40 : decode prog_10_method_98_code 40 = .ok (.getfield 9, 3) := by decide +kernel
theorem d_Mod_count_43 : decode prog_10_method_98_code 43 = .ok (.iconst 2, 1) := by decide +kernel
theorem d_Mod_count_44 : decode prog_10_method_98_code 44 = .ok (.iaload, 1) := by decide +kernel
theorem d_Mod_count_45 : decode prog_10_method_98_code 45 = .ok (.ireturn, 1) := by decide +kernel
theorem d_Mod_count_46 : decode prog_10_method_98_code 46 = .ok (.aload_n 0, 1) := by decide +kernel
theorem d_Mod_count_47 : decode prog_10_method_98_code 47 = .ok (.getfield 222, 3) := by decide +kernel
theorem d_Mod_count_50 : decode prog_10_method_98_code 50 = .ok (.ireturn, 1) := by decide +kernel
theorem d_Mod_count_51 : decode prog_10_method_98_code 51 = .ok (.iconst 0, 1) := by decide +kernel
theorem d_Mod_count_52 : decode prog_10_method_98_code 52 = .ok (.istore_n 3, 1) := by decide +kernel
theorem d_Mod_count_53 : decode prog_10_method_98_code 53 = .ok (.iload_n 3, 1) := by decide +kernel
theorem d_Mod_count_54 : decode prog_10_method_98_code 54 = .ok (.aload_n 0, 1) := by decide +kernel
theorem d_Mod_count_55 : decode prog_10_method_98_code 55 = .ok (.getfield 9, 3) := by decide +kernel
theorem d_Mod_count_58 : decode prog_10_method_98_code 58 = .ok (.iconst 3, 1) := by decide +kernel
theorem d_Mod_count_59 : decode prog_10_method_98_code 59 = .ok (.iaload, 1) := by decide +kernel
theorem d_Mod_count_60 : decode prog_10_method_98_code 60 = .ok (.if_icmp .ge 22, 3) := by decide +kernel
theorem d_Mod_count_63 : decode prog_10_method_98_code 63 = .ok (.iload_n 2, 1) := by decide +kernel
theorem d_Mod_count_64 : decode prog_10_method_98_code 64 = .ok (.aload_n 0, 1) := by decide +kernel
theorem d_Mod_count_65 : decode prog_10_method_98_code 65 = .ok (.iload_n 3, 1) := by decide +kernel
theorem d_Mod_count_66 : decode prog_10_method_98_code 66 = .ok (.bipush 6, 2) := by decide +kernel
theorem d_Mod_count_68 : decode prog_10_method_98_code 68 = .ok (.invokevirtual 94, 3) := by decide +kernel
theorem d_Mod_count_71 : decode prog_10_method_98_code 71 = .ok (.invokestatic 154, 3) := by decide +kernel
theorem d_Mod_count_74 : decode prog_10_method_98_code 74 = .ok (.iadd, 1) := by decide +kernel
theorem d_Mod_count_75 : decode prog_10_method_98_code 75 = .ok (.istore_n 2, 1) := by decide +kernel
theorem d_Mod_count_76 : decode prog_10_method_98_code 76 = .ok (.iinc 3 1, 3) := by decide +kernel
theorem d_Mod_count_79 : decode prog_10_method_98_code 79 = .ok (.goto (-26), 3) := by decide +kernel
theorem d_Mod_count_82 : decode prog_10_method_98_code 82 = .ok (.iload_n 2, 1) := by decide +kernel
theorem d_Mod_count_83 : decode prog_10_method_98_code 83 = .ok (.ireturn, 1) := by decide +kernel
theorem d_Mod_count_84 : decode prog_10_method_98_code 84 = .ok (.aload_n 0, 1) := by decide +kernel
theorem d_Mod_count_85 : decode prog_10_method_98_code 85 = .ok (.ldc 63, 2) := by decide +kernel
theorem d_Mod_count_87 : decode prog_10_method_98_code 87 = .ok (.invokevirtual 82, 3) := by decide +kernel
theorem d_Mod_count_90 : decode prog_10_method_98_code 90 = .ok (.ireturn, 1) := by decide +kernel
theorem d_Mod_status_0 : decode prog_10_method_99_code 0 = .ok (.iload_n 1, 1) := by decide +kernel
theorem d_Mod_status_1 : decode prog_10_method_99_code 1 = .ok (.iconst (-1), 1) := by decide +kernel
theorem d_Mod_status_2 : decode prog_10_method_99_code 2 = .ok (.bipush 6, 2) := by decide +kernel
theorem d_Mod_status_4 : decode prog_10_method_99_code 4 = .ok (.invokestatic 68, 3) := by decide +kernel
theorem d_Mod_status_7 : decode prog_10_method_99_code 7 = .ok (.ifCond .eq 14, 3) := by decide +kernel
theorem d_Mod_status_10 : decode prog_10_method_99_code 10 = .ok (.aload_n 0, 1) := by decide +kernel
theorem d_Mod_status_11 : decode prog_10_method_99_code 11 = .ok (.getfield 19, 3) := by decide +kernel
theorem d_Mod_status_14 : decode prog_10_method_99_code 14 = .ok (.iload_n 1, 1) := by decide +kernel
theorem d_Mod_status_15 : decode prog_10_method_99_code 15 = .ok (.iconst 1, 1) := by decide +kernel
theorem d_Mod_status_16 : decode prog_10_method_99_code 16 = .ok (.iadd, 1) := by decide +kernel
theorem d_Mod_status_17 : decode prog_10_method_99_code 17 = .ok (.iaload, 1) := by decide +kernel
theorem d_Mod_status_18 : decode prog_10_method_99_code 18 = .ok (.goto 9, 3) := by decide +kernel
theorem d_Mod_status_21 : decode prog_10_method_99_code 21 = .ok (.aload_n 0, 1) := by decide +kernel
theorem d_Mod_status_22 : decode prog_10_method_99_code 22 = .ok (.ldc 63, 2) := by decide +kernel
theorem d_Mod_status_24 : decode prog_10_method_99_code 24 = .ok (.invokevirtual 82, 3) := by decide +kernel
theorem d_Mod_status_27 : decode prog_10_method_99_code 27 = .ok (.ireturn, 1) := by decide +kernel
