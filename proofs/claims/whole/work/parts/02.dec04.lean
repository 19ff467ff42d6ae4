theorem dX7_bestDay_24 : decode cX7_bestDay 24 = .ok (.istore 4, 2) := by decide +kernel
theorem dX7_bestDay_26 : decode cX7_bestDay 26 = .ok (.iload 4, 2) := by decide +kernel
theorem dX7_bestDay_28 : decode cX7_bestDay 28 = .ok (.bipush 8, 2) := by decide +kernel
theorem dX7_bestDay_30 : decode cX7_bestDay 30 = .ok (.if_icmp .gt 53, 3) := by decide +kernel
theorem dX7_bestDay_33 : decode cX7_bestDay 33 = .ok (.aload_n 0, 1) := by decide +kernel
theorem dX7_bestDay_34 : decode cX7_bestDay 34 = .ok (.iconst 1, 1) := by decide +kernel
theorem dX7_bestDay_35 : decode cX7_bestDay 35 = .ok (.invokevirtual 160, 3) := by decide +kernel
theorem dX7_bestDay_38 : decode cX7_bestDay 38 = .ok (.pop, 1) := by decide +kernel
theorem dX7_bestDay_39 : decode cX7_bestDay 39 = .ok (.aload_n 0, 1) := by decide +kernel
theorem dX7_bestDay_40 : decode cX7_bestDay 40 = .ok (.iconst 1, 1) := by decide +kernel
theorem dX7_bestDay_41 : decode cX7_bestDay 41 = .ok (.iload_n 1, 1) := by decide +kernel
theorem dX7_bestDay_42 : decode cX7_bestDay 42 = .ok (.invokevirtual 192, 3) := by decide +kernel
theorem dX7_bestDay_45 : decode cX7_bestDay 45 = .ok (.iload_n 3, 1) := by decide +kernel
theorem dX7_bestDay_46 : decode cX7_bestDay 46 = .ok (.if_icmp .le 8, 3) := by decide +kernel
theorem dX7_bestDay_49 : decode cX7_bestDay 49 = .ok (.iload 4, 2) := by decide +kernel
theorem dX7_bestDay_51 : decode cX7_bestDay 51 = .ok (.goto 4, 3) := by decide +kernel
theorem dX7_bestDay_54 : decode cX7_bestDay 54 = .ok (.iload_n 2, 1) := by decide +kernel
theorem dX7_bestDay_55 : decode cX7_bestDay 55 = .ok (.istore_n 2, 1) := by decide +kernel
theorem dX7_bestDay_56 : decode cX7_bestDay 56 = .ok (.aload_n 0, 1) := by decide +kernel
theorem dX7_bestDay_57 : decode cX7_bestDay 57 = .ok (.iconst 1, 1) := by decide +kernel
theorem dX7_bestDay_58 : decode cX7_bestDay 58 = .ok (.iload_n 1, 1) := by decide +kernel
theorem dX7_bestDay_59 : decode cX7_bestDay 59 = .ok (.invokevirtual 192, 3) := by decide +kernel
theorem dX7_bestDay_62 : decode cX7_bestDay 62 = .ok (.iload_n 3, 1) := by decide +kernel
theorem dX7_bestDay_63 : decode cX7_bestDay 63 = .ok (.if_icmp .le 12, 3) := by decide +kernel
theorem dX7_bestDay_66 : decode cX7_bestDay 66 = .ok (.aload_n 0, 1) := by decide +kernel
theorem dX7_bestDay_67 : decode cX7_bestDay 67 = .ok (.iconst 1, 1) := by decide +kernel
theorem dX7_bestDay_68 : decode cX7_bestDay 68 = .ok (.iload_n 1, 1) := by decide +kernel
theorem dX7_bestDay_69 : decode cX7_bestDay 69 = .ok (.invokevirtual 192, 3) := by decide +kernel
theorem dX7_bestDay_72 : decode cX7_bestDay 72 = .ok (.goto 4, 3) := by decide +kernel
theorem dX7_bestDay_75 : decode cX7_bestDay 75 = .ok (.iload_n 3, 1) := by decide +kernel
theorem dX7_bestDay_76 : decode cX7_bestDay 76 = .ok (.istore_n 3, 1) := by decide +kernel
theorem dX7_bestDay_77 : decode cX7_bestDay 77 = .ok (.iinc 4 1, 3) := by decide +kernel
theorem dX7_bestDay_80 : decode cX7_bestDay 80 = .ok (.goto (-54), 3) := by decide +kernel
theorem dX7_bestDay_83 : decode cX7_bestDay 83 = .ok (.iload_n 2, 1) := by decide +kernel
theorem dX7_bestDay_84 : decode cX7_bestDay 84 = .ok (.ireturn, 1) := by decide +kernel
theorem dX7_reach_0 : decode cX7_reach 0 = .ok (.aload_n 0, 1) := by decide +kernel
theorem dX7_reach_1 : decode cX7_reach 1 = .ok (.iload_n 1, 1) := by decide +kernel
theorem dX7_reach_2 : decode cX7_reach 2 = .ok (.invokevirtual 143, 3) := by decide +kernel
theorem dX7_reach_5 : decode cX7_reach 5 = .ok (.ifCond .ne 5, 3) := by decide +kernel
theorem dX7_reach_8 : decode cX7_reach 8 = .ok (.iconst (-1), 1) := by decide +kernel
theorem dX7_reach_9 : decode cX7_reach 9 = .ok (.ireturn, 1) := by decide +kernel
theorem dX7_reach_10 : decode cX7_reach 10 = .ok (.iload_n 2, 1) := by decide +kernel
theorem dX7_reach_11 : decode cX7_reach 11 = .ok (.invokestatic 163, 3) := by decide +kernel
theorem dX7_reach_14 : decode cX7_reach 14 = .ok (.ifCond .ne 6, 3) := by decide +kernel
theorem dX7_reach_17 : decode cX7_reach 17 = .ok (.bipush (-2), 2) := by decide +kernel
theorem dX7_reach_19 : decode cX7_reach 19 = .ok (.ireturn, 1) := by decide +kernel
theorem dX7_reach_20 : decode cX7_reach 20 = .ok (.aload_n 0, 1) := by decide +kernel
theorem dX7_reach_21 : decode cX7_reach 21 = .ok (.invokevirtual 186, 3) := by decide +kernel
theorem dX7_reach_24 : decode cX7_reach 24 = .ok (.iconst 0, 1) := by decide +kernel
theorem dX7_reach_25 : decode cX7_reach 25 = .ok (.istore_n 3, 1) := by decide +kernel
theorem dX7_reach_26 : decode cX7_reach 26 = .ok (.iload_n 3, 1) := by decide +kernel
theorem dX7_reach_27 : decode cX7_reach 27 = .ok (.bipush 8, 2) := by decide +kernel
theorem dX7_reach_29 : decode cX7_reach 29 = .ok (.if_icmp .gt 33, 3) := by decide +kernel
theorem dX7_reach_32 : decode cX7_reach 32 = .ok (.aload_n 0, 1) := by decide +kernel
theorem dX7_reach_33 : decode cX7_reach 33 = .ok (.getfield 25, 3) := by decide +kernel
theorem dX7_reach_36 : decode cX7_reach 36 = .ok (.bipush 31, 2) := by decide +kernel
theorem dX7_reach_38 : decode cX7_reach 38 = .ok (.iload_n 1, 1) := by decide +kernel
theorem dX7_reach_39 : decode cX7_reach 39 = .ok (.iadd, 1) := by decide +kernel
theorem dX7_reach_40 : decode cX7_reach 40 = .ok (.iaload, 1) := by decide +kernel
theorem dX7_reach_41 : decode cX7_reach 41 = .ok (.iload_n 2, 1) := by decide +kernel
theorem dX7_reach_42 : decode cX7_reach 42 = .ok (.invokestatic 98, 3) := by decide +kernel
theorem dX7_reach_45 : decode cX7_reach 45 = .ok (.ifCond .eq 5, 3) := by decide +kernel
theorem dX7_reach_48 : decode cX7_reach 48 = .ok (.iload_n 3, 1) := by decide +kernel
theorem dX7_reach_49 : decode cX7_reach 49 = .ok (.ireturn, 1) := by decide +kernel
theorem dX7_reach_50 : decode cX7_reach 50 = .ok (.aload_n 0, 1) := by decide +kernel
theorem dX7_reach_51 : decode cX7_reach 51 = .ok (.iconst 1, 1) := by decide +kernel
theorem dX7_reach_52 : decode cX7_reach 52 = .ok (.invokevirtual 160, 3) := by decide +kernel
theorem dX7_reach_55 : decode cX7_reach 55 = .ok (.pop, 1) := by decide +kernel
theorem dX7_reach_56 : decode cX7_reach 56 = .ok (.iinc 3 1, 3) := by decide +kernel
theorem dX7_reach_59 : decode cX7_reach 59 = .ok (.goto (-33), 3) := by decide +kernel
theorem dX7_reach_62 : decode cX7_reach 62 = .ok (.bipush (-9), 2) := by decide +kernel
theorem dX7_reach_64 : decode cX7_reach 64 = .ok (.ireturn, 1) := by decide +kernel
theorem dX7_sayTrial_0 : decode cX7_sayTrial 0 = .ok (.aload_n 0, 1) := by decide +kernel
theorem dX7_sayTrial_1 : decode cX7_sayTrial 1 = .ok (.iload_n 1, 1) := by decide +kernel
theorem dX7_sayTrial_2 : decode cX7_sayTrial 2 = .ok (.invokevirtual 143, 3) := by decide +kernel
theorem dX7_sayTrial_5 : decode cX7_sayTrial 5 = .ok (.ifCond .eq 24, 3) := by decide +kernel
theorem dX7_sayTrial_8 : decode cX7_sayTrial 8 = .ok (.iload_n 2, 1) := by decide +kernel
theorem dX7_sayTrial_9 : decode cX7_sayTrial 9 = .ok (.invokestatic 163, 3) := by decide +kernel
theorem dX7_sayTrial_12 : decode cX7_sayTrial 12 = .ok (.ifCond .eq 17, 3) := by decide +kernel
theorem dX7_sayTrial_15 : decode cX7_sayTrial 15 = .ok (.aload_n 0, 1) := by decide +kernel
theorem dX7_sayTrial_16 : decode cX7_sayTrial 16 = .ok (.iconst 1, 1) := by decide +kernel
theorem dX7_sayTrial_17 : decode cX7_sayTrial 17 = .ok (.iload_n 1, 1) := by decide +kernel
theorem dX7_sayTrial_18 : decode cX7_sayTrial 18 = .ok (.iload_n 2, 1) := by decide +kernel
theorem dX7_sayTrial_19 : decode cX7_sayTrial 19 = .ok (.invokevirtual 166, 3) := by decide +kernel
theorem dX7_sayTrial_22 : decode cX7_sayTrial 22 = .ok (.ifCond .eq 7, 3) := by decide +kernel
theorem dX7_sayTrial_25 : decode cX7_sayTrial 25 = .ok (.iconst 1, 1) := by decide +kernel
theorem dX7_sayTrial_26 : decode cX7_sayTrial 26 = .ok (.goto 4, 3) := by decide +kernel
theorem dX7_sayTrial_29 : decode cX7_sayTrial 29 = .ok (.iconst 0, 1) := by decide +kernel
theorem dX7_sayTrial_30 : decode cX7_sayTrial 30 = .ok (.istore_n 3, 1) := by decide +kernel
theorem dX7_sayTrial_31 : decode cX7_sayTrial 31 = .ok (.iload_n 3, 1) := by decide +kernel
theorem dX7_sayTrial_32 : decode cX7_sayTrial 32 = .ok (.ifCond .eq 18, 3) := by decide +kernel
theorem dX7_sayTrial_35 : decode cX7_sayTrial 35 = .ok (.aload_n 0, 1) := by decide +kernel
theorem dX7_sayTrial_36 : decode cX7_sayTrial 36 = .ok (.getfield 25, 3) := by decide +kernel
theorem dX7_sayTrial_39 : decode cX7_sayTrial 39 = .ok (.bipush 31, 2) := by decide +kernel
theorem dX7_sayTrial_41 : decode cX7_sayTrial 41 = .ok (.iload_n 1, 1) := by decide +kernel
theorem dX7_sayTrial_42 : decode cX7_sayTrial 42 = .ok (.iadd, 1) := by decide +kernel
theorem dX7_sayTrial_43 : decode cX7_sayTrial 43 = .ok (.dup2, 1) := by decide +kernel
theorem dX7_sayTrial_44 : decode cX7_sayTrial 44 = .ok (.iaload, 1) := by decide +kernel
theorem dX7_sayTrial_45 : decode cX7_sayTrial 45 = .ok (.iconst 1, 1) := by decide +kernel
theorem dX7_sayTrial_46 : decode cX7_sayTrial 46 = .ok (.iload_n 2, 1) := by decide +kernel
theorem dX7_sayTrial_47 : decode cX7_sayTrial 47 = .ok (.ishl, 1) := by decide +kernel
theorem dX7_sayTrial_48 : decode cX7_sayTrial 48 = .ok (.ior, 1) := by decide +kernel
theorem dX7_sayTrial_49 : decode cX7_sayTrial 49 = .ok (.iastore, 1) := by decide +kernel
theorem dX7_sayTrial_50 : decode cX7_sayTrial 50 = .ok (.iload_n 3, 1) := by decide +kernel
theorem dX7_sayTrial_51 : decode cX7_sayTrial 51 = .ok (.ireturn, 1) := by decide +kernel
theorem dX7_planned_0 : decode cX7_planned 0 = .ok (.aload_n 0, 1) := by decide +kernel
theorem dX7_planned_1 : decode cX7_planned 1 = .ok (.invokevirtual 186, 3) := by decide +kernel
theorem dX7_planned_4 : decode cX7_planned 4 = .ok (.iload_n 3, 1) := by decide +kernel
theorem dX7_planned_5 : decode cX7_planned 5 = .ok (.sipush 10000, 3) := by decide +kernel
theorem dX7_planned_8 : decode cX7_planned 8 = .ok (.if_icmp .lt 25, 3) := by decide +kernel
theorem dX7_planned_11 : decode cX7_planned 11 = .ok (.aload_n 0, 1) := by decide +kernel
theorem dX7_planned_12 : decode cX7_planned 12 = .ok (.iload_n 3, 1) := by decide +kernel
theorem dX7_planned_13 : decode cX7_planned 13 = .ok (.sipush 1000, 3) := by decide +kernel
theorem dX7_planned_16 : decode cX7_planned 16 = .ok (.idiv, 1) := by decide +kernel
theorem dX7_planned_17 : decode cX7_planned 17 = .ok (.bipush 10, 2) := by decide +kernel
theorem dX7_planned_19 : decode cX7_planned 19 = .ok (.irem, 1) := by decide +kernel
theorem dX7_planned_20 : decode cX7_planned 20 = .ok (.iload_n 3, 1) := by decide +kernel
theorem dX7_planned_21 : decode cX7_planned 21 = .ok (.bipush 100, 2) := by decide +kernel
theorem dX7_planned_23 : decode cX7_planned 23 = .ok (.idiv, 1) := by decide +kernel
theorem dX7_planned_24 : decode cX7_planned 24 = .ok (.bipush 10, 2) := by decide +kernel
theorem dX7_planned_26 : decode cX7_planned 26 = .ok (.irem, 1) := by decide +kernel
theorem dX7_planned_27 : decode cX7_planned 27 = .ok (.invokevirtual 195, 3) := by decide +kernel
theorem dX7_planned_30 : decode cX7_planned 30 = .ok (.ifCond .eq 7, 3) := by decide +kernel
theorem dX7_planned_33 : decode cX7_planned 33 = .ok (.iconst 1, 1) := by decide +kernel
theorem dX7_planned_34 : decode cX7_planned 34 = .ok (.goto 4, 3) := by decide +kernel
theorem dX7_planned_37 : decode cX7_planned 37 = .ok (.iconst 0, 1) := by decide +kernel
theorem dX7_planned_38 : decode cX7_planned 38 = .ok (.istore 4, 2) := by decide +kernel
theorem dX7_planned_40 : decode cX7_planned 40 = .ok (.iload 4, 2) := by decide +kernel
theorem dX7_planned_42 : decode cX7_planned 42 = .ok (.ifCond .eq 31, 3) := by decide +kernel
theorem dX7_planned_45 : decode cX7_planned 45 = .ok (.iload_n 3, 1) := by decide +kernel
theorem dX7_planned_46 : decode cX7_planned 46 = .ok (.bipush 100, 2) := by decide +kernel
theorem dX7_planned_48 : decode cX7_planned 48 = .ok (.if_icmp .lt 21, 3) := by decide +kernel
theorem dX7_planned_51 : decode cX7_planned 51 = .ok (.aload_n 0, 1) := by decide +kernel
theorem dX7_planned_52 : decode cX7_planned 52 = .ok (.iload_n 3, 1) := by decide +kernel
theorem dX7_planned_53 : decode cX7_planned 53 = .ok (.bipush 10, 2) := by decide +kernel
theorem dX7_planned_55 : decode cX7_planned 55 = .ok (.idiv, 1) := by decide +kernel
theorem dX7_planned_56 : decode cX7_planned 56 = .ok (.bipush 10, 2) := by decide +kernel
theorem dX7_planned_58 : decode cX7_planned 58 = .ok (.irem, 1) := by decide +kernel
theorem dX7_planned_59 : decode cX7_planned 59 = .ok (.iload_n 3, 1) := by decide +kernel
theorem dX7_planned_60 : decode cX7_planned 60 = .ok (.bipush 10, 2) := by decide +kernel
theorem dX7_planned_62 : decode cX7_planned 62 = .ok (.irem, 1) := by decide +kernel
theorem dX7_planned_63 : decode cX7_planned 63 = .ok (.invokevirtual 195, 3) := by decide +kernel
theorem dX7_planned_66 : decode cX7_planned 66 = .ok (.ifCond .eq 7, 3) := by decide +kernel
theorem dX7_planned_69 : decode cX7_planned 69 = .ok (.iconst 1, 1) := by decide +kernel
theorem dX7_planned_70 : decode cX7_planned 70 = .ok (.goto 4, 3) := by decide +kernel
theorem dX7_planned_73 : decode cX7_planned 73 = .ok (.iconst 0, 1) := by decide +kernel
theorem dX7_planned_74 : decode cX7_planned 74 = .ok (.istore 4, 2) := by decide +kernel
theorem dX7_planned_76 : decode cX7_planned 76 = .ok (.aload_n 0, 1) := by decide +kernel
theorem dX7_planned_77 : decode cX7_planned 77 = .ok (.iload_n 2, 1) := by decide +kernel
theorem dX7_planned_78 : decode cX7_planned 78 = .ok (.invokevirtual 189, 3) := by decide +kernel
theorem dX7_planned_81 : decode cX7_planned 81 = .ok (.iload 4, 2) := by decide +kernel
theorem dX7_planned_83 : decode cX7_planned 83 = .ok (.ifCond .eq 12, 3) := by decide +kernel
theorem dX7_planned_86 : decode cX7_planned 86 = .ok (.aload_n 0, 1) := by decide +kernel
theorem dX7_planned_87 : decode cX7_planned 87 = .ok (.iconst 1, 1) := by decide +kernel
theorem dX7_planned_88 : decode cX7_planned 88 = .ok (.iload_n 1, 1) := by decide +kernel
theorem dX7_planned_89 : decode cX7_planned 89 = .ok (.invokevirtual 192, 3) := by decide +kernel
theorem dX7_planned_92 : decode cX7_planned 92 = .ok (.goto 5, 3) := by decide +kernel
theorem dX7_planned_95 : decode cX7_planned 95 = .ok (.bipush (-9), 2) := by decide +kernel
theorem dX7_planned_97 : decode cX7_planned 97 = .ok (.ireturn, 1) := by decide +kernel
theorem dX7_plan_0 : decode cX7_plan 0 = .ok (.aload_n 0, 1) := by decide +kernel
theorem dX7_plan_1 : decode cX7_plan 1 = .ok (.iload_n 1, 1) := by decide +kernel
theorem dX7_plan_2 : decode cX7_plan 2 = .ok (.invokevirtual 147, 3) := by decide +kernel
theorem dX7_plan_5 : decode cX7_plan 5 = .ok (.ifCond .ne 5, 3) := by decide +kernel
theorem dX7_plan_8 : decode cX7_plan 8 = .ok (.iconst (-1), 1) := by decide +kernel
theorem dX7_plan_9 : decode cX7_plan 9 = .ok (.ireturn, 1) := by decide +kernel
theorem dX7_plan_10 : decode cX7_plan 10 = .ok (.iload_n 2, 1) := by decide +kernel
theorem dX7_plan_11 : decode cX7_plan 11 = .ok (.i2l, 1) := by decide +kernel
theorem dX7_plan_12 : decode cX7_plan 12 = .ok (.lconst 0, 1) := by decide +kernel
theorem dX7_plan_13 : decode cX7_plan 13 = .ok (.ldc2_w 184, 3) := by decide +kernel
theorem dX7_plan_16 : decode cX7_plan 16 = .ok (.invokestatic 83, 3) := by decide +kernel
theorem dX7_plan_19 : decode cX7_plan 19 = .ok (.ifCond .ne 6, 3) := by decide +kernel
theorem dX7_plan_22 : decode cX7_plan 22 = .ok (.bipush (-2), 2) := by decide +kernel
theorem dX7_plan_24 : decode cX7_plan 24 = .ok (.ireturn, 1) := by decide +kernel
theorem dX7_plan_25 : decode cX7_plan 25 = .ok (.iconst 1, 1) := by decide +kernel
theorem dX7_plan_26 : decode cX7_plan 26 = .ok (.istore 4, 2) := by decide +kernel
theorem dX7_plan_28 : decode cX7_plan 28 = .ok (.aload_n 0, 1) := by decide +kernel
theorem dX7_plan_29 : decode cX7_plan 29 = .ok (.iload_n 1, 1) := by decide +kernel
theorem dX7_plan_30 : decode cX7_plan 30 = .ok (.iload_n 2, 1) := by decide +kernel
theorem dX7_plan_31 : decode cX7_plan 31 = .ok (.iconst 1, 1) := by decide +kernel
theorem dX7_plan_32 : decode cX7_plan 32 = .ok (.invokevirtual 198, 3) := by decide +kernel
theorem dX7_plan_35 : decode cX7_plan 35 = .ok (.istore 5, 2) := by decide +kernel
theorem dX7_plan_37 : decode cX7_plan 37 = .ok (.iconst 0, 1) := by decide +kernel
theorem dX7_plan_38 : decode cX7_plan 38 = .ok (.istore 6, 2) := by decide +kernel
theorem dX7_plan_40 : decode cX7_plan 40 = .ok (.iload 6, 2) := by decide +kernel
theorem dX7_plan_42 : decode cX7_plan 42 = .ok (.sipush 10100, 3) := by decide +kernel
theorem dX7_plan_45 : decode cX7_plan 45 = .ok (.if_icmp .ge 77, 3) := by decide +kernel
theorem dX7_plan_48 : decode cX7_plan 48 = .ok (.iload 6, 2) := by decide +kernel
theorem dX7_plan_50 : decode cX7_plan 50 = .ok (.bipush 100, 2) := by decide +kernel
theorem dX7_plan_52 : decode cX7_plan 52 = .ok (.if_icmp .ge 11, 3) := by decide +kernel
theorem dX7_plan_55 : decode cX7_plan 55 = .ok (.bipush 100, 2) := by decide +kernel
theorem dX7_plan_57 : decode cX7_plan 57 = .ok (.iload 6, 2) := by decide +kernel
theorem dX7_plan_59 : decode cX7_plan 59 = .ok (.iadd, 1) := by decide +kernel
theorem dX7_plan_60 : decode cX7_plan 60 = .ok (.goto 12, 3) := by decide +kernel
theorem dX7_plan_63 : decode cX7_plan 63 = .ok (.sipush 10000, 3) := by decide +kernel
theorem dX7_plan_66 : decode cX7_plan 66 = .ok (.iload 6, 2) := by decide +kernel
theorem dX7_plan_68 : decode cX7_plan 68 = .ok (.iadd, 1) := by decide +kernel
theorem dX7_plan_69 : decode cX7_plan 69 = .ok (.bipush 100, 2) := by decide +kernel
theorem dX7_plan_71 : decode cX7_plan 71 = .ok (.isub, 1) := by decide +kernel
theorem dX7_plan_72 : decode cX7_plan 72 = .ok (.istore 7, 2) := by decide +kernel
theorem dX7_plan_74 : decode cX7_plan 74 = .ok (.aload_n 0, 1) := by decide +kernel
theorem dX7_plan_75 : decode cX7_plan 75 = .ok (.iload_n 1, 1) := by decide +kernel
theorem dX7_plan_76 : decode cX7_plan 76 = .ok (.iload_n 2, 1) := by decide +kernel
theorem dX7_plan_77 : decode cX7_plan 77 = .ok (.iload 7, 2) := by decide +kernel
theorem dX7_plan_79 : decode cX7_plan 79 = .ok (.invokevirtual 198, 3) := by decide +kernel
theorem dX7_plan_82 : decode cX7_plan 82 = .ok (.istore 8, 2) := by decide +kernel
theorem dX7_plan_84 : decode cX7_plan 84 = .ok (.iload 8, 2) := by decide +kernel
theorem dX7_plan_86 : decode cX7_plan 86 = .ok (.iload 5, 2) := by decide +kernel
theorem dX7_plan_88 : decode cX7_plan 88 = .ok (.if_icmp .le 8, 3) := by decide +kernel
theorem dX7_plan_91 : decode cX7_plan 91 = .ok (.iload 7, 2) := by decide +kernel
theorem dX7_plan_93 : decode cX7_plan 93 = .ok (.goto 5, 3) := by decide +kernel
theorem dX7_plan_96 : decode cX7_plan 96 = .ok (.iload 4, 2) := by decide +kernel
theorem dX7_plan_98 : decode cX7_plan 98 = .ok (.istore 4, 2) := by decide +kernel
theorem dX7_plan_100 : decode cX7_plan 100 = .ok (.iload 8, 2) := by decide +kernel
theorem dX7_plan_102 : decode cX7_plan 102 = .ok (.iload 5, 2) := by decide +kernel
theorem dX7_plan_104 : decode cX7_plan 104 = .ok (.if_icmp .le 8, 3) := by decide +kernel
theorem dX7_plan_107 : decode cX7_plan 107 = .ok (.iload 8, 2) := by decide +kernel
theorem dX7_plan_109 : decode cX7_plan 109 = .ok (.goto 5, 3) := by decide +kernel
theorem dX7_plan_112 : decode cX7_plan 112 = .ok (.iload 5, 2) := by decide +kernel
theorem dX7_plan_114 : decode cX7_plan 114 = .ok (.istore 5, 2) := by decide +kernel
theorem dX7_plan_116 : decode cX7_plan 116 = .ok (.iinc 6 1, 3) := by decide +kernel
theorem dX7_plan_119 : decode cX7_plan 119 = .ok (.goto (-79), 3) := by decide +kernel
theorem dX7_plan_122 : decode cX7_plan 122 = .ok (.iload_n 3, 1) := by decide +kernel
theorem dX7_plan_123 : decode cX7_plan 123 = .ok (.ifCond .eq 8, 3) := by decide +kernel
theorem dX7_plan_126 : decode cX7_plan 126 = .ok (.iload 4, 2) := by decide +kernel
theorem dX7_plan_128 : decode cX7_plan 128 = .ok (.goto 5, 3) := by decide +kernel
theorem dX7_plan_131 : decode cX7_plan 131 = .ok (.iload 5, 2) := by decide +kernel
theorem dX7_plan_133 : decode cX7_plan 133 = .ok (.ireturn, 1) := by decide +kernel
theorem dX7_canBe_0 : decode cX7_canBe 0 = .ok (.iconst 1, 1) := by decide +kernel
theorem dX7_canBe_1 : decode cX7_canBe 1 = .ok (.istore_n 2, 1) := by decide +kernel
theorem dX7_canBe_2 : decode cX7_canBe 2 = .ok (.iconst 0, 1) := by decide +kernel
theorem dX7_canBe_3 : decode cX7_canBe 3 = .ok (.istore_n 3, 1) := by decide +kernel
theorem dX7_canBe_4 : decode cX7_canBe 4 = .ok (.iload_n 3, 1) := by decide +kernel
theorem dX7_canBe_5 : decode cX7_canBe 5 = .ok (.aload_n 0, 1) := by decide +kernel
theorem dX7_canBe_6 : decode cX7_canBe 6 = .ok (.getfield 77, 3) := by decide +kernel
theorem dX7_canBe_9 : decode cX7_canBe 9 = .ok (.if_icmp .ge 38, 3) := by decide +kernel
theorem dX7_canBe_12 : decode cX7_canBe 12 = .ok (.iload_n 2, 1) := by decide +kernel
theorem dX7_canBe_13 : decode cX7_canBe 13 = .ok (.ifCond .eq 26, 3) := by decide +kernel
theorem dX7_canBe_16 : decode cX7_canBe 16 = .ok (.iload_n 1, 1) := by decide +kernel
theorem dX7_canBe_17 : decode cX7_canBe 17 = .ok (.iload_n 3, 1) := by decide +kernel
theorem dX7_canBe_18 : decode cX7_canBe 18 = .ok (.invokestatic 98, 3) := by decide +kernel
theorem dX7_canBe_21 : decode cX7_canBe 21 = .ok (.ifCond .eq 14, 3) := by decide +kernel
theorem dX7_canBe_24 : decode cX7_canBe 24 = .ok (.aload_n 0, 1) := by decide +kernel
theorem dX7_canBe_25 : decode cX7_canBe 25 = .ok (.getfield 19, 3) := by decide +kernel
theorem dX7_canBe_28 : decode cX7_canBe 28 = .ok (.iload_n 3, 1) := by decide +kernel
theorem dX7_canBe_29 : decode cX7_canBe 29 = .ok (.iaload, 1) := by decide +kernel
theorem dX7_canBe_30 : decode cX7_canBe 30 = .ok (.iload_n 1, 1) := by decide +kernel
theorem dX7_canBe_31 : decode cX7_canBe 31 = .ok (.iand, 1) := by decide +kernel
theorem dX7_canBe_32 : decode cX7_canBe 32 = .ok (.ifCond .ne 7, 3) := by decide +kernel
theorem dX7_canBe_35 : decode cX7_canBe 35 = .ok (.iconst 1, 1) := by decide +kernel
theorem dX7_canBe_36 : decode cX7_canBe 36 = .ok (.goto 4, 3) := by decide +kernel
theorem dX7_canBe_39 : decode cX7_canBe 39 = .ok (.iconst 0, 1) := by decide +kernel
theorem dX7_canBe_40 : decode cX7_canBe 40 = .ok (.istore_n 2, 1) := by decide +kernel
theorem dX7_canBe_41 : decode cX7_canBe 41 = .ok (.iinc 3 1, 3) := by decide +kernel
theorem dX7_canBe_44 : decode cX7_canBe 44 = .ok (.goto (-40), 3) := by decide +kernel
theorem dX7_canBe_47 : decode cX7_canBe 47 = .ok (.iload_n 2, 1) := by decide +kernel
theorem dX7_canBe_48 : decode cX7_canBe 48 = .ok (.ireturn, 1) := by decide +kernel
theorem dX7_holds_0 : decode cX7_holds 0 = .ok (.aload_n 0, 1) := by decide +kernel
theorem dX7_holds_1 : decode cX7_holds 1 = .ok (.iload_n 1, 1) := by decide +kernel
theorem dX7_holds_2 : decode cX7_holds 2 = .ok (.invokevirtual 147, 3) := by decide +kernel
theorem dX7_holds_5 : decode cX7_holds 5 = .ok (.ifCond .ne 5, 3) := by decide +kernel
theorem dX7_holds_8 : decode cX7_holds 8 = .ok (.iconst (-1), 1) := by decide +kernel
theorem dX7_holds_9 : decode cX7_holds 9 = .ok (.ireturn, 1) := by decide +kernel
theorem dX7_holds_10 : decode cX7_holds 10 = .ok (.iconst 0, 1) := by decide +kernel
theorem dX7_holds_11 : decode cX7_holds 11 = .ok (.istore_n 3, 1) := by decide +kernel
theorem dX7_holds_12 : decode cX7_holds 12 = .ok (.iconst 0, 1) := by decide +kernel
theorem dX7_holds_13 : decode cX7_holds 13 = .ok (.istore 4, 2) := by decide +kernel
theorem dX7_holds_15 : decode cX7_holds 15 = .ok (.iconst 1, 1) := by decide +kernel
theorem dX7_holds_16 : decode cX7_holds 16 = .ok (.istore 5, 2) := by decide +kernel
theorem dX7_holds_18 : decode cX7_holds 18 = .ok (.iload 5, 2) := by decide +kernel
theorem dX7_holds_20 : decode cX7_holds 20 = .ok (.iconst 1, 1) := by decide +kernel
theorem dX7_holds_21 : decode cX7_holds 21 = .ok (.aload_n 0, 1) := by decide +kernel
theorem dX7_holds_22 : decode cX7_holds 22 = .ok (.getfield 77, 3) := by decide +kernel
theorem dX7_holds_25 : decode cX7_holds 25 = .ok (.ishl, 1) := by decide +kernel
theorem dX7_holds_26 : decode cX7_holds 26 = .ok (.if_icmp .ge 138, 3) := by decide +kernel
theorem dX7_holds_29 : decode cX7_holds 29 = .ok (.iconst 0, 1) := by decide +kernel
theorem dX7_holds_30 : decode cX7_holds 30 = .ok (.istore 6, 2) := by decide +kernel
theorem dX7_holds_32 : decode cX7_holds 32 = .ok (.iconst 0, 1) := by decide +kernel
theorem dX7_holds_33 : decode cX7_holds 33 = .ok (.istore 7, 2) := by decide +kernel
theorem dX7_holds_35 : decode cX7_holds 35 = .ok (.iload 7, 2) := by decide +kernel
theorem dX7_holds_37 : decode cX7_holds 37 = .ok (.aload_n 0, 1) := by decide +kernel
theorem dX7_holds_38 : decode cX7_holds 38 = .ok (.getfield 77, 3) := by decide +kernel
theorem dX7_holds_41 : decode cX7_holds 41 = .ok (.if_icmp .ge 49, 3) := by decide +kernel
theorem dX7_holds_44 : decode cX7_holds 44 = .ok (.iload 6, 2) := by decide +kernel
theorem dX7_holds_46 : decode cX7_holds 46 = .ok (.iload 5, 2) := by decide +kernel
theorem dX7_holds_48 : decode cX7_holds 48 = .ok (.iload 7, 2) := by decide +kernel
theorem dX7_holds_50 : decode cX7_holds 50 = .ok (.invokestatic 98, 3) := by decide +kernel
theorem dX7_holds_53 : decode cX7_holds 53 = .ok (.ifCond .eq 27, 3) := by decide +kernel
theorem dX7_holds_56 : decode cX7_holds 56 = .ok (.aload_n 0, 1) := by decide +kernel
theorem dX7_holds_57 : decode cX7_holds 57 = .ok (.getfield 25, 3) := by decide +kernel
theorem dX7_holds_60 : decode cX7_holds 60 = .ok (.aload_n 0, 1) := by decide +kernel
theorem dX7_holds_61 : decode cX7_holds 61 = .ok (.iconst 0, 1) := by decide +kernel
theorem dX7_holds_62 : decode cX7_holds 62 = .ok (.iload_n 1, 1) := by decide +kernel
theorem dX7_holds_63 : decode cX7_holds 63 = .ok (.iload 7, 2) := by decide +kernel
theorem dX7_holds_65 : decode cX7_holds 65 = .ok (.invokevirtual 150, 3) := by decide +kernel
theorem dX7_holds_68 : decode cX7_holds 68 = .ok (.iaload, 1) := by decide +kernel
theorem dX7_holds_69 : decode cX7_holds 69 = .ok (.aload_n 0, 1) := by decide +kernel
theorem dX7_holds_70 : decode cX7_holds 70 = .ok (.iconst 0, 1) := by decide +kernel
theorem dX7_holds_71 : decode cX7_holds 71 = .ok (.iload 7, 2) := by decide +kernel
theorem dX7_holds_73 : decode cX7_holds 73 = .ok (.invokevirtual 177, 3) := by decide +kernel
theorem dX7_holds_76 : decode cX7_holds 76 = .ok (.imul, 1) := by decide +kernel
theorem dX7_holds_77 : decode cX7_holds 77 = .ok (.goto 4, 3) := by decide +kernel
theorem dX7_holds_80 : decode cX7_holds 80 = .ok (.iconst 0, 1) := by decide +kernel
theorem dX7_holds_81 : decode cX7_holds 81 = .ok (.iadd, 1) := by decide +kernel
theorem dX7_holds_82 : decode cX7_holds 82 = .ok (.istore 6, 2) := by decide +kernel
theorem dX7_holds_84 : decode cX7_holds 84 = .ok (.iinc 7 1, 3) := by decide +kernel
theorem dX7_holds_87 : decode cX7_holds 87 = .ok (.goto (-52), 3) := by decide +kernel
theorem dX7_holds_90 : decode cX7_holds 90 = .ok (.aload_n 0, 1) := by decide +kernel
theorem dX7_holds_91 : decode cX7_holds 91 = .ok (.iload 5, 2) := by decide +kernel
theorem dX7_holds_93 : decode cX7_holds 93 = .ok (.invokevirtual 201, 3) := by decide +kernel
theorem dX7_holds_96 : decode cX7_holds 96 = .ok (.ifCond .eq 33, 3) := by decide +kernel
theorem dX7_holds_99 : decode cX7_holds 99 = .ok (.iload 6, 2) := by decide +kernel
theorem dX7_holds_101 : decode cX7_holds 101 = .ok (.iload 4, 2) := by decide +kernel
theorem dX7_holds_103 : decode cX7_holds 103 = .ok (.if_icmp .gt 22, 3) := by decide +kernel
theorem dX7_holds_106 : decode cX7_holds 106 = .ok (.iload 6, 2) := by decide +kernel
theorem dX7_holds_108 : decode cX7_holds 108 = .ok (.iload 4, 2) := by decide +kernel
theorem dX7_holds_110 : decode cX7_holds 110 = .ok (.if_icmp .ne 19, 3) := by decide +kernel
theorem dX7_holds_113 : decode cX7_holds 113 = .ok (.iload 5, 2) := by decide +kernel
theorem dX7_holds_115 : decode cX7_holds 115 = .ok (.invokestatic 140, 3) := by decide +kernel
theorem dX7_holds_118 : decode cX7_holds 118 = .ok (.iload_n 3, 1) := by decide +kernel
theorem dX7_holds_119 : decode cX7_holds 119 = .ok (.invokestatic 140, 3) := by decide +kernel
theorem dX7_holds_122 : decode cX7_holds 122 = .ok (.if_icmp .ge 7, 3) := by decide +kernel
theorem dX7_holds_125 : decode cX7_holds 125 = .ok (.iconst 1, 1) := by decide +kernel
theorem dX7_holds_126 : decode cX7_holds 126 = .ok (.goto 4, 3) := by decide +kernel
theorem dX7_holds_129 : decode cX7_holds 129 = .ok (.iconst 0, 1) := by decide +kernel
theorem dX7_holds_130 : decode cX7_holds 130 = .ok (.istore 7, 2) := by decide +kernel
theorem dX7_holds_132 : decode cX7_holds 132 = .ok (.iload 7, 2) := by decide +kernel
theorem dX7_holds_134 : decode cX7_holds 134 = .ok (.ifCond .eq 8, 3) := by decide +kernel
theorem dX7_holds_137 : decode cX7_holds 137 = .ok (.iload 5, 2) := by decide +kernel
theorem dX7_holds_139 : decode cX7_holds 139 = .ok (.goto 4, 3) := by decide +kernel
theorem dX7_holds_142 : decode cX7_holds 142 = .ok (.iload_n 3, 1) := by decide +kernel
theorem dX7_holds_143 : decode cX7_holds 143 = .ok (.istore_n 3, 1) := by decide +kernel
theorem dX7_holds_144 : decode cX7_holds 144 = .ok (.iload 7, 2) := by decide +kernel
theorem dX7_holds_146 : decode cX7_holds 146 = .ok (.ifCond .eq 8, 3) := by decide +kernel
theorem dX7_holds_149 : decode cX7_holds 149 = .ok (.iload 6, 2) := by decide +kernel
theorem dX7_holds_151 : decode cX7_holds 151 = .ok (.goto 5, 3) := by decide +kernel
theorem dX7_holds_154 : decode cX7_holds 154 = .ok (.iload 4, 2) := by decide +kernel
theorem dX7_holds_156 : decode cX7_holds 156 = .ok (.istore 4, 2) := by decide +kernel
theorem dX7_holds_158 : decode cX7_holds 158 = .ok (.iinc 5 1, 3) := by decide +kernel
theorem dX7_holds_161 : decode cX7_holds 161 = .ok (.goto (-143), 3) := by decide +kernel
theorem dX7_holds_164 : decode cX7_holds 164 = .ok (.iload_n 2, 1) := by decide +kernel
theorem dX7_holds_165 : decode cX7_holds 165 = .ok (.ifCond .eq 7, 3) := by decide +kernel
theorem dX7_holds_168 : decode cX7_holds 168 = .ok (.iload_n 3, 1) := by decide +kernel
theorem dX7_holds_169 : decode cX7_holds 169 = .ok (.goto 5, 3) := by decide +kernel
theorem dX7_holds_172 : decode cX7_holds 172 = .ok (.iload 4, 2) := by decide +kernel
theorem dX7_holds_174 : decode cX7_holds 174 = .ok (.ireturn, 1) := by decide +kernel
theorem dX7_tenTo_0 : decode cX7_tenTo 0 = .ok (.lconst 1, 1) := by decide +kernel
theorem dX7_tenTo_1 : decode cX7_tenTo 1 = .ok (.lstore_n 1, 1) := by decide +kernel
theorem dX7_tenTo_2 : decode cX7_tenTo 2 = .ok (.iconst 0, 1) := by decide +kernel
theorem dX7_tenTo_3 : decode cX7_tenTo 3 = .ok (.istore_n 3, 1) := by decide +kernel
theorem dX7_tenTo_4 : decode cX7_tenTo 4 = .ok (.iload_n 3, 1) := by decide +kernel
theorem dX7_tenTo_5 : decode cX7_tenTo 5 = .ok (.iload_n 0, 1) := by decide +kernel
theorem dX7_tenTo_6 : decode cX7_tenTo 6 = .ok (.if_icmp .ge 15, 3) := by decide +kernel
theorem dX7_tenTo_9 : decode cX7_tenTo 9 = .ok (.lload_n 1, 1) := by decide +kernel
theorem dX7_tenTo_10 : decode cX7_tenTo 10 = .ok (.ldc2_w 204, 3) := by decide +kernel
theorem dX7_tenTo_13 : decode cX7_tenTo 13 = .ok (.lmul, 1) := by decide +kernel
theorem dX7_tenTo_14 : decode cX7_tenTo 14 = .ok (.lstore_n 1, 1) := by decide +kernel
theorem dX7_tenTo_15 : decode cX7_tenTo 15 = .ok (.iinc 3 1, 3) := by decide +kernel
theorem dX7_tenTo_18 : decode cX7_tenTo 18 = .ok (.goto (-14), 3) := by decide +kernel
theorem dX7_tenTo_21 : decode cX7_tenTo 21 = .ok (.lload_n 1, 1) := by decide +kernel
theorem dX7_tenTo_22 : decode cX7_tenTo 22 = .ok (.lreturn, 1) := by decide +kernel
theorem dX7_allWorth_0 : decode cX7_allWorth 0 = .ok (.iconst 0, 1) := by decide +kernel
theorem dX7_allWorth_1 : decode cX7_allWorth 1 = .ok (.istore_n 2, 1) := by decide +kernel
theorem dX7_allWorth_2 : decode cX7_allWorth 2 = .ok (.iconst 0, 1) := by decide +kernel
theorem dX7_allWorth_3 : decode cX7_allWorth 3 = .ok (.istore_n 3, 1) := by decide +kernel
theorem dX7_allWorth_4 : decode cX7_allWorth 4 = .ok (.iload_n 3, 1) := by decide +kernel
theorem dX7_allWorth_5 : decode cX7_allWorth 5 = .ok (.aload_n 0, 1) := by decide +kernel
theorem dX7_allWorth_6 : decode cX7_allWorth 6 = .ok (.getfield 77, 3) := by decide +kernel
theorem dX7_allWorth_9 : decode cX7_allWorth 9 = .ok (.if_icmp .ge 18, 3) := by decide +kernel
theorem dX7_allWorth_12 : decode cX7_allWorth 12 = .ok (.iload_n 2, 1) := by decide +kernel
theorem dX7_allWorth_13 : decode cX7_allWorth 13 = .ok (.aload_n 0, 1) := by decide +kernel
theorem dX7_allWorth_14 : decode cX7_allWorth 14 = .ok (.iload_n 1, 1) := by decide +kernel
theorem dX7_allWorth_15 : decode cX7_allWorth 15 = .ok (.iload_n 3, 1) := by decide +kernel
theorem dX7_allWorth_16 : decode cX7_allWorth 16 = .ok (.invokevirtual 177, 3) := by decide +kernel
theorem dX7_allWorth_19 : decode cX7_allWorth 19 = .ok (.iadd, 1) := by decide +kernel
theorem dX7_allWorth_20 : decode cX7_allWorth 20 = .ok (.istore_n 2, 1) := by decide +kernel
theorem dX7_allWorth_21 : decode cX7_allWorth 21 = .ok (.iinc 3 1, 3) := by decide +kernel
theorem dX7_allWorth_24 : decode cX7_allWorth 24 = .ok (.goto (-20), 3) := by decide +kernel
theorem dX7_allWorth_27 : decode cX7_allWorth 27 = .ok (.iload_n 2, 1) := by decide +kernel
theorem dX7_allWorth_28 : decode cX7_allWorth 28 = .ok (.ireturn, 1) := by decide +kernel
theorem dX7_tryThing_0 : decode cX7_tryThing 0 = .ok (.iload_n 1, 1) := by decide +kernel
theorem dX7_tryThing_1 : decode cX7_tryThing 1 = .ok (.bipush 10, 2) := by decide +kernel
theorem dX7_tryThing_3 : decode cX7_tryThing 3 = .ok (.idiv, 1) := by decide +kernel
theorem dX7_tryThing_4 : decode cX7_tryThing 4 = .ok (.bipush 10, 2) := by decide +kernel
theorem dX7_tryThing_6 : decode cX7_tryThing 6 = .ok (.irem, 1) := by decide +kernel
theorem dX7_tryThing_7 : decode cX7_tryThing 7 = .ok (.istore_n 2, 1) := by decide +kernel
theorem dX7_tryThing_8 : decode cX7_tryThing 8 = .ok (.iload_n 1, 1) := by decide +kernel
theorem dX7_tryThing_9 : decode cX7_tryThing 9 = .ok (.bipush 10, 2) := by decide +kernel
theorem dX7_tryThing_11 : decode cX7_tryThing 11 = .ok (.irem, 1) := by decide +kernel
theorem dX7_tryThing_12 : decode cX7_tryThing 12 = .ok (.istore_n 3, 1) := by decide +kernel
theorem dX7_tryThing_13 : decode cX7_tryThing 13 = .ok (.iload_n 1, 1) := by decide +kernel
theorem dX7_tryThing_14 : decode cX7_tryThing 14 = .ok (.bipush 100, 2) := by decide +kernel
theorem dX7_tryThing_16 : decode cX7_tryThing 16 = .ok (.idiv, 1) := by decide +kernel
theorem dX7_tryThing_17 : decode cX7_tryThing 17 = .ok (.iconst 2, 1) := by decide +kernel
theorem dX7_tryThing_18 : decode cX7_tryThing 18 = .ok (.if_icmp .ne 11, 3) := by decide +kernel
theorem dX7_tryThing_21 : decode cX7_tryThing 21 = .ok (.aload_n 0, 1) := by decide +kernel
theorem dX7_tryThing_22 : decode cX7_tryThing 22 = .ok (.iconst 1, 1) := by decide +kernel
theorem dX7_tryThing_23 : decode cX7_tryThing 23 = .ok (.invokevirtual 160, 3) := by decide +kernel
theorem dX7_tryThing_26 : decode cX7_tryThing 26 = .ok (.pop, 1) := by decide +kernel
theorem dX7_tryThing_27 : decode cX7_tryThing 27 = .ok (.iconst 1, 1) := by decide +kernel
theorem dX7_tryThing_28 : decode cX7_tryThing 28 = .ok (.ireturn, 1) := by decide +kernel
theorem dX7_tryThing_29 : decode cX7_tryThing 29 = .ok (.iload_n 1, 1) := by decide +kernel
theorem dX7_tryThing_30 : decode cX7_tryThing 30 = .ok (.bipush 100, 2) := by decide +kernel
theorem dX7_tryThing_32 : decode cX7_tryThing 32 = .ok (.idiv, 1) := by decide +kernel
theorem dX7_tryThing_33 : decode cX7_tryThing 33 = .ok (.ifCond .ne 10, 3) := by decide +kernel
theorem dX7_tryThing_36 : decode cX7_tryThing 36 = .ok (.aload_n 0, 1) := by decide +kernel
theorem dX7_tryThing_37 : decode cX7_tryThing 37 = .ok (.iload_n 2, 1) := by decide +kernel
theorem dX7_tryThing_38 : decode cX7_tryThing 38 = .ok (.iload_n 3, 1) := by decide +kernel
theorem dX7_tryThing_39 : decode cX7_tryThing 39 = .ok (.invokevirtual 195, 3) := by decide +kernel
theorem dX7_tryThing_42 : decode cX7_tryThing 42 = .ok (.ireturn, 1) := by decide +kernel
theorem dX7_tryThing_43 : decode cX7_tryThing 43 = .ok (.iload_n 1, 1) := by decide +kernel
theorem dX7_tryThing_44 : decode cX7_tryThing 44 = .ok (.bipush 100, 2) := by decide +kernel
theorem dX7_tryThing_46 : decode cX7_tryThing 46 = .ok (.idiv, 1) := by decide +kernel
theorem dX7_tryThing_47 : decode cX7_tryThing 47 = .ok (.iconst 1, 1) := by decide +kernel
theorem dX7_tryThing_48 : decode cX7_tryThing 48 = .ok (.if_icmp .ne 32, 3) := by decide +kernel
theorem dX7_tryThing_51 : decode cX7_tryThing 51 = .ok (.aload_n 0, 1) := by decide +kernel
theorem dX7_tryThing_52 : decode cX7_tryThing 52 = .ok (.iload_n 2, 1) := by decide +kernel
theorem dX7_tryThing_53 : decode cX7_tryThing 53 = .ok (.invokevirtual 143, 3) := by decide +kernel
theorem dX7_tryThing_56 : decode cX7_tryThing 56 = .ok (.ifCond .eq 24, 3) := by decide +kernel
theorem dX7_tryThing_59 : decode cX7_tryThing 59 = .ok (.iload_n 3, 1) := by decide +kernel
theorem dX7_tryThing_60 : decode cX7_tryThing 60 = .ok (.invokestatic 163, 3) := by decide +kernel
theorem dX7_tryThing_63 : decode cX7_tryThing 63 = .ok (.ifCond .eq 17, 3) := by decide +kernel
theorem dX7_tryThing_66 : decode cX7_tryThing 66 = .ok (.aload_n 0, 1) := by decide +kernel
theorem dX7_tryThing_67 : decode cX7_tryThing 67 = .ok (.iconst 1, 1) := by decide +kernel
theorem dX7_tryThing_68 : decode cX7_tryThing 68 = .ok (.iload_n 2, 1) := by decide +kernel
theorem dX7_tryThing_69 : decode cX7_tryThing 69 = .ok (.iload_n 3, 1) := by decide +kernel
theorem dX7_tryThing_70 : decode cX7_tryThing 70 = .ok (.invokevirtual 170, 3) := by decide +kernel
theorem dX7_tryThing_73 : decode cX7_tryThing 73 = .ok (.ifCond .eq 7, 3) := by decide +kernel
theorem dX7_tryThing_76 : decode cX7_tryThing 76 = .ok (.iconst 1, 1) := by decide +kernel
theorem dX7_tryThing_77 : decode cX7_tryThing 77 = .ok (.goto 4, 3) := by decide +kernel
theorem dX7_tryThing_80 : decode cX7_tryThing 80 = .ok (.iconst 0, 1) := by decide +kernel
theorem dX7_tryThing_81 : decode cX7_tryThing 81 = .ok (.istore 4, 2) := by decide +kernel
theorem dX7_tryThing_83 : decode cX7_tryThing 83 = .ok (.iload 4, 2) := by decide +kernel
theorem dX7_tryThing_85 : decode cX7_tryThing 85 = .ok (.ifCond .eq 10, 3) := by decide +kernel
theorem dX7_tryThing_88 : decode cX7_tryThing 88 = .ok (.aload_n 0, 1) := by decide +kernel
theorem dX7_tryThing_89 : decode cX7_tryThing 89 = .ok (.iconst 1, 1) := by decide +kernel
theorem dX7_tryThing_90 : decode cX7_tryThing 90 = .ok (.iload_n 2, 1) := by decide +kernel
theorem dX7_tryThing_91 : decode cX7_tryThing 91 = .ok (.iload_n 3, 1) := by decide +kernel
theorem dX7_tryThing_92 : decode cX7_tryThing 92 = .ok (.invokevirtual 173, 3) := by decide +kernel
theorem dX7_tryThing_95 : decode cX7_tryThing 95 = .ok (.iload 4, 2) := by decide +kernel
theorem dX7_tryThing_97 : decode cX7_tryThing 97 = .ok (.ireturn, 1) := by decide +kernel
theorem dX7_judge_0 : decode cX7_judge 0 = .ok (.iload_n 1, 1) := by decide +kernel
theorem dX7_judge_1 : decode cX7_judge 1 = .ok (.i2l, 1) := by decide +kernel
theorem dX7_judge_2 : decode cX7_judge 2 = .ok (.lconst 1, 1) := by decide +kernel
theorem dX7_judge_3 : decode cX7_judge 3 = .ok (.ldc2_w 206, 3) := by decide +kernel
theorem dX7_judge_6 : decode cX7_judge 6 = .ok (.invokestatic 83, 3) := by decide +kernel
theorem dX7_judge_9 : decode cX7_judge 9 = .ok (.ifCond .eq 19, 3) := by decide +kernel
theorem dX7_judge_12 : decode cX7_judge 12 = .ok (.lload_n 2, 1) := by decide +kernel
theorem dX7_judge_13 : decode cX7_judge 13 = .ok (.lconst 0, 1) := by decide +kernel
theorem dX7_judge_14 : decode cX7_judge 14 = .ok (.iconst 3, 1) := by decide +kernel
theorem dX7_judge_15 : decode cX7_judge 15 = .ok (.iload_n 1, 1) := by decide +kernel
theorem dX7_judge_16 : decode cX7_judge 16 = .ok (.imul, 1) := by decide +kernel
theorem dX7_judge_17 : decode cX7_judge 17 = .ok (.invokestatic 208, 3) := by decide +kernel
theorem dX7_judge_20 : decode cX7_judge 20 = .ok (.lconst 1, 1) := by decide +kernel
theorem dX7_judge_21 : decode cX7_judge 21 = .ok (.lsub, 1) := by decide +kernel
theorem dX7_judge_22 : decode cX7_judge 22 = .ok (.invokestatic 83, 3) := by decide +kernel
theorem dX7_judge_25 : decode cX7_judge 25 = .ok (.ifCond .ne 6, 3) := by decide +kernel
theorem dX7_judge_28 : decode cX7_judge 28 = .ok (.bipush (-2), 2) := by decide +kernel
theorem dX7_judge_30 : decode cX7_judge 30 = .ok (.ireturn, 1) := by decide +kernel
theorem dX7_judge_31 : decode cX7_judge 31 = .ok (.aload_n 0, 1) := by decide +kernel
theorem dX7_judge_32 : decode cX7_judge 32 = .ok (.invokevirtual 186, 3) := by decide +kernel
theorem dX7_judge_35 : decode cX7_judge 35 = .ok (.iconst 0, 1) := by decide +kernel
theorem dX7_judge_36 : decode cX7_judge 36 = .ok (.istore 4, 2) := by decide +kernel
theorem dX7_judge_38 : decode cX7_judge 38 = .ok (.iload 4, 2) := by decide +kernel
theorem dX7_judge_40 : decode cX7_judge 40 = .ok (.iload_n 1, 1) := by decide +kernel
theorem dX7_judge_41 : decode cX7_judge 41 = .ok (.if_icmp .ge 54, 3) := by decide +kernel
theorem dX7_judge_44 : decode cX7_judge 44 = .ok (.aload_n 0, 1) := by decide +kernel
theorem dX7_judge_45 : decode cX7_judge 45 = .ok (.iconst 1, 1) := by decide +kernel
theorem dX7_judge_46 : decode cX7_judge 46 = .ok (.invokevirtual 212, 3) := by decide +kernel
theorem dX7_judge_49 : decode cX7_judge 49 = .ok (.istore 5, 2) := by decide +kernel
theorem dX7_judge_51 : decode cX7_judge 51 = .ok (.aload_n 0, 1) := by decide +kernel
theorem dX7_judge_52 : decode cX7_judge 52 = .ok (.lload_n 2, 1) := by decide +kernel
theorem dX7_judge_53 : decode cX7_judge 53 = .ok (.iconst 3, 1) := by decide +kernel
theorem dX7_judge_54 : decode cX7_judge 54 = .ok (.iload_n 1, 1) := by decide +kernel
theorem dX7_judge_55 : decode cX7_judge 55 = .ok (.iconst 1, 1) := by decide +kernel
theorem dX7_judge_56 : decode cX7_judge 56 = .ok (.isub, 1) := by decide +kernel
theorem dX7_judge_57 : decode cX7_judge 57 = .ok (.iload 4, 2) := by decide +kernel
theorem dX7_judge_59 : decode cX7_judge 59 = .ok (.isub, 1) := by decide +kernel
theorem dX7_judge_60 : decode cX7_judge 60 = .ok (.imul, 1) := by decide +kernel
theorem dX7_judge_61 : decode cX7_judge 61 = .ok (.invokestatic 208, 3) := by decide +kernel
theorem dX7_judge_64 : decode cX7_judge 64 = .ok (.ldiv, 1) := by decide +kernel
theorem dX7_judge_65 : decode cX7_judge 65 = .ok (.ldc2_w 215, 3) := by decide +kernel
theorem dX7_judge_68 : decode cX7_judge 68 = .ok (.lrem, 1) := by decide +kernel
theorem dX7_judge_69 : decode cX7_judge 69 = .ok (.l2i, 1) := by decide +kernel
theorem dX7_judge_70 : decode cX7_judge 70 = .ok (.invokevirtual 217, 3) := by decide +kernel
theorem dX7_judge_73 : decode cX7_judge 73 = .ok (.ifCond .eq 13, 3) := by decide +kernel
theorem dX7_judge_76 : decode cX7_judge 76 = .ok (.aload_n 0, 1) := by decide +kernel
theorem dX7_judge_77 : decode cX7_judge 77 = .ok (.iconst 1, 1) := by decide +kernel
theorem dX7_judge_78 : decode cX7_judge 78 = .ok (.invokevirtual 212, 3) := by decide +kernel
theorem dX7_judge_81 : decode cX7_judge 81 = .ok (.iload 5, 2) := by decide +kernel
theorem dX7_judge_83 : decode cX7_judge 83 = .ok (.if_icmp .ge 6, 3) := by decide +kernel
theorem dX7_judge_86 : decode cX7_judge 86 = .ok (.iload 4, 2) := by decide +kernel
theorem dX7_judge_88 : decode cX7_judge 88 = .ok (.ireturn, 1) := by decide +kernel
theorem dX7_judge_89 : decode cX7_judge 89 = .ok (.iinc 4 1, 3) := by decide +kernel
theorem dX7_judge_92 : decode cX7_judge 92 = .ok (.goto (-54), 3) := by decide +kernel
theorem dX7_judge_95 : decode cX7_judge 95 = .ok (.bipush (-9), 2) := by decide +kernel
theorem dX7_judge_97 : decode cX7_judge 97 = .ok (.ireturn, 1) := by decide +kernel
theorem dX7_hear_0 : decode cX7_hear 0 = .ok (.aload_n 0, 1) := by decide +kernel
theorem dX7_hear_1 : decode cX7_hear 1 = .ok (.iload_n 1, 1) := by decide +kernel
theorem dX7_hear_2 : decode cX7_hear 2 = .ok (.invokevirtual 143, 3) := by decide +kernel
theorem dX7_hear_5 : decode cX7_hear 5 = .ok (.ifCond .ne 5, 3) := by decide +kernel
theorem dX7_hear_8 : decode cX7_hear 8 = .ok (.iconst (-1), 1) := by decide +kernel
theorem dX7_hear_9 : decode cX7_hear 9 = .ok (.ireturn, 1) := by decide +kernel
theorem dX7_hear_10 : decode cX7_hear 10 = .ok (.iload_n 2, 1) := by decide +kernel
theorem dX7_hear_11 : decode cX7_hear 11 = .ok (.invokestatic 163, 3) := by decide +kernel
theorem dX7_hear_14 : decode cX7_hear 14 = .ok (.ifCond .eq 15, 3) := by decide +kernel
theorem dX7_hear_17 : decode cX7_hear 17 = .ok (.iload_n 3, 1) := by decide +kernel
theorem dX7_hear_18 : decode cX7_hear 18 = .ok (.i2l, 1) := by decide +kernel
theorem dX7_hear_19 : decode cX7_hear 19 = .ok (.lconst 0, 1) := by decide +kernel
theorem dX7_hear_20 : decode cX7_hear 20 = .ok (.ldc2_w 184, 3) := by decide +kernel
theorem dX7_hear_23 : decode cX7_hear 23 = .ok (.invokestatic 83, 3) := by decide +kernel
theorem dX7_hear_26 : decode cX7_hear 26 = .ok (.ifCond .ne 6, 3) := by decide +kernel
theorem dX7_hear_29 : decode cX7_hear 29 = .ok (.bipush (-2), 2) := by decide +kernel
theorem dX7_hear_31 : decode cX7_hear 31 = .ok (.ireturn, 1) := by decide +kernel
theorem dX7_hear_32 : decode cX7_hear 32 = .ok (.aload_n 0, 1) := by decide +kernel
theorem dX7_hear_33 : decode cX7_hear 33 = .ok (.getfield 220, 3) := by decide +kernel
theorem dX7_hear_36 : decode cX7_hear 36 = .ok (.bipush 6, 2) := by decide +kernel
theorem dX7_hear_38 : decode cX7_hear 38 = .ok (.if_icmp .ne 6, 3) := by decide +kernel
theorem dX7_hear_41 : decode cX7_hear 41 = .ok (.bipush (-4), 2) := by decide +kernel
theorem dX7_hear_43 : decode cX7_hear 43 = .ok (.ireturn, 1) := by decide +kernel
theorem dX7_hear_44 : decode cX7_hear 44 = .ok (.aload_n 0, 1) := by decide +kernel
theorem dX7_hear_45 : decode cX7_hear 45 = .ok (.getfield 52, 3) := by decide +kernel
theorem dX7_hear_48 : decode cX7_hear 48 = .ok (.aload_n 0, 1) := by decide +kernel
theorem dX7_hear_49 : decode cX7_hear 49 = .ok (.getfield 220, 3) := by decide +kernel
theorem dX7_hear_52 : decode cX7_hear 52 = .ok (.iload_n 1, 1) := by decide +kernel
theorem dX7_hear_53 : decode cX7_hear 53 = .ok (.iastore, 1) := by decide +kernel
theorem dX7_hear_54 : decode cX7_hear 54 = .ok (.aload_n 0, 1) := by decide +kernel
theorem dX7_hear_55 : decode cX7_hear 55 = .ok (.getfield 55, 3) := by decide +kernel
theorem dX7_hear_58 : decode cX7_hear 58 = .ok (.aload_n 0, 1) := by decide +kernel
theorem dX7_hear_59 : decode cX7_hear 59 = .ok (.getfield 220, 3) := by decide +kernel
theorem dX7_hear_62 : decode cX7_hear 62 = .ok (.iload_n 2, 1) := by decide +kernel
theorem dX7_hear_63 : decode cX7_hear 63 = .ok (.iastore, 1) := by decide +kernel
theorem dX7_hear_64 : decode cX7_hear 64 = .ok (.aload_n 0, 1) := by decide +kernel
theorem dX7_hear_65 : decode cX7_hear 65 = .ok (.getfield 58, 3) := by decide +kernel
theorem dX7_hear_68 : decode cX7_hear 68 = .ok (.aload_n 0, 1) := by decide +kernel
theorem dX7_hear_69 : decode cX7_hear 69 = .ok (.getfield 220, 3) := by decide +kernel
theorem dX7_hear_72 : decode cX7_hear 72 = .ok (.iload_n 3, 1) := by decide +kernel
theorem dX7_hear_73 : decode cX7_hear 73 = .ok (.iastore, 1) := by decide +kernel
theorem dX7_hear_74 : decode cX7_hear 74 = .ok (.aload_n 0, 1) := by decide +kernel
theorem dX7_hear_75 : decode cX7_hear 75 = .ok (.getfield 61, 3) := by decide +kernel
theorem dX7_hear_78 : decode cX7_hear 78 = .ok (.aload_n 0, 1) := by decide +kernel
theorem dX7_hear_79 : decode cX7_hear 79 = .ok (.getfield 220, 3) := by decide +kernel
theorem dX7_hear_82 : decode cX7_hear 82 = .ok (.iload 4, 2) := by decide +kernel
theorem dX7_hear_84 : decode cX7_hear 84 = .ok (.bastore, 1) := by decide +kernel
theorem dX7_hear_85 : decode cX7_hear 85 = .ok (.aload_n 0, 1) := by decide +kernel
theorem dX7_hear_86 : decode cX7_hear 86 = .ok (.dup, 1) := by decide +kernel
theorem dX7_hear_87 : decode cX7_hear 87 = .ok (.getfield 220, 3) := by decide +kernel
theorem dX7_hear_90 : decode cX7_hear 90 = .ok (.iconst 1, 1) := by decide +kernel
theorem dX7_hear_91 : decode cX7_hear 91 = .ok (.iadd, 1) := by decide +kernel
theorem dX7_hear_92 : decode cX7_hear 92 = .ok (.putfield 220, 3) := by decide +kernel
theorem dX7_hear_95 : decode cX7_hear 95 = .ok (.aload_n 0, 1) := by decide +kernel
theorem dX7_hear_96 : decode cX7_hear 96 = .ok (.getfield 220, 3) := by decide +kernel
theorem dX7_hear_99 : decode cX7_hear 99 = .ok (.ireturn, 1) := by decide +kernel
theorem dX7_unhear_0 : decode cX7_unhear 0 = .ok (.aload_n 0, 1) := by decide +kernel
theorem dX7_unhear_1 : decode cX7_unhear 1 = .ok (.getfield 220, 3) := by decide +kernel
theorem dX7_unhear_4 : decode cX7_unhear 4 = .ok (.istore_n 1, 1) := by decide +kernel
theorem dX7_unhear_5 : decode cX7_unhear 5 = .ok (.aload_n 0, 1) := by decide +kernel
theorem dX7_unhear_6 : decode cX7_unhear 6 = .ok (.iconst 0, 1) := by decide +kernel
theorem dX7_unhear_7 : decode cX7_unhear 7 = .ok (.putfield 220, 3) := by decide +kernel
theorem dX7_unhear_10 : decode cX7_unhear 10 = .ok (.iload_n 1, 1) := by decide +kernel
theorem dX7_unhear_11 : decode cX7_unhear 11 = .ok (.ireturn, 1) := by decide +kernel
theorem dX7_isHeard_0 : decode cX7_isHeard 0 = .ok (.aload_n 0, 1) := by decide +kernel
theorem dX7_isHeard_1 : decode cX7_isHeard 1 = .ok (.invokevirtual 186, 3) := by decide +kernel
theorem dX7_isHeard_4 : decode cX7_isHeard 4 = .ok (.aload_n 0, 1) := by decide +kernel
theorem dX7_isHeard_5 : decode cX7_isHeard 5 = .ok (.getfield 25, 3) := by decide +kernel
theorem dX7_isHeard_8 : decode cX7_isHeard 8 = .ok (.bipush 31, 2) := by decide +kernel
theorem dX7_isHeard_10 : decode cX7_isHeard 10 = .ok (.iload_n 1, 1) := by decide +kernel
theorem dX7_isHeard_11 : decode cX7_isHeard 11 = .ok (.iadd, 1) := by decide +kernel
theorem dX7_isHeard_12 : decode cX7_isHeard 12 = .ok (.iload_n 2, 1) := by decide +kernel
theorem dX7_isHeard_13 : decode cX7_isHeard 13 = .ok (.iastore, 1) := by decide +kernel
theorem dX7_isHeard_14 : decode cX7_isHeard 14 = .ok (.iconst 1, 1) := by decide +kernel
theorem dX7_isHeard_15 : decode cX7_isHeard 15 = .ok (.istore_n 3, 1) := by decide +kernel
theorem dX7_isHeard_16 : decode cX7_isHeard 16 = .ok (.iconst 0, 1) := by decide +kernel
theorem dX7_isHeard_17 : decode cX7_isHeard 17 = .ok (.istore 4, 2) := by decide +kernel
theorem dX7_isHeard_19 : decode cX7_isHeard 19 = .ok (.iload 4, 2) := by decide +kernel
theorem dX7_isHeard_21 : decode cX7_isHeard 21 = .ok (.bipush 8, 2) := by decide +kernel
theorem dX7_isHeard_23 : decode cX7_isHeard 23 = .ok (.if_icmp .gt 107, 3) := by decide +kernel
theorem dX7_isHeard_26 : decode cX7_isHeard 26 = .ok (.iconst 0, 1) := by decide +kernel
theorem dX7_isHeard_27 : decode cX7_isHeard 27 = .ok (.istore 5, 2) := by decide +kernel
theorem dX7_isHeard_29 : decode cX7_isHeard 29 = .ok (.iload 5, 2) := by decide +kernel
theorem dX7_isHeard_31 : decode cX7_isHeard 31 = .ok (.aload_n 0, 1) := by decide +kernel
theorem dX7_isHeard_32 : decode cX7_isHeard 32 = .ok (.getfield 220, 3) := by decide +kernel
theorem dX7_isHeard_35 : decode cX7_isHeard 35 = .ok (.if_icmp .ge 83, 3) := by decide +kernel
theorem dX7_isHeard_38 : decode cX7_isHeard 38 = .ok (.aload_n 0, 1) := by decide +kernel
theorem dX7_isHeard_39 : decode cX7_isHeard 39 = .ok (.getfield 52, 3) := by decide +kernel
theorem dX7_isHeard_42 : decode cX7_isHeard 42 = .ok (.iload 5, 2) := by decide +kernel
theorem dX7_isHeard_44 : decode cX7_isHeard 44 = .ok (.iaload, 1) := by decide +kernel
theorem dX7_isHeard_45 : decode cX7_isHeard 45 = .ok (.iload_n 1, 1) := by decide +kernel
theorem dX7_isHeard_46 : decode cX7_isHeard 46 = .ok (.if_icmp .ne 19, 3) := by decide +kernel
theorem dX7_isHeard_49 : decode cX7_isHeard 49 = .ok (.aload_n 0, 1) := by decide +kernel
theorem dX7_isHeard_50 : decode cX7_isHeard 50 = .ok (.getfield 58, 3) := by decide +kernel
theorem dX7_isHeard_53 : decode cX7_isHeard 53 = .ok (.iload 5, 2) := by decide +kernel
theorem dX7_isHeard_55 : decode cX7_isHeard 55 = .ok (.iaload, 1) := by decide +kernel
theorem dX7_isHeard_56 : decode cX7_isHeard 56 = .ok (.iload 4, 2) := by decide +kernel
theorem dX7_isHeard_58 : decode cX7_isHeard 58 = .ok (.if_icmp .ne 7, 3) := by decide +kernel
theorem dX7_isHeard_61 : decode cX7_isHeard 61 = .ok (.iconst 1, 1) := by decide +kernel
theorem dX7_isHeard_62 : decode cX7_isHeard 62 = .ok (.goto 4, 3) := by decide +kernel
theorem dX7_isHeard_65 : decode cX7_isHeard 65 = .ok (.iconst 0, 1) := by decide +kernel
theorem dX7_isHeard_66 : decode cX7_isHeard 66 = .ok (.istore 6, 2) := by decide +kernel
theorem dX7_isHeard_68 : decode cX7_isHeard 68 = .ok (.iload_n 3, 1) := by decide +kernel
theorem dX7_isHeard_69 : decode cX7_isHeard 69 = .ok (.ifCond .eq 41, 3) := by decide +kernel
theorem dX7_isHeard_72 : decode cX7_isHeard 72 = .ok (.iload 6, 2) := by decide +kernel
theorem dX7_isHeard_74 : decode cX7_isHeard 74 = .ok (.ifCond .eq 32, 3) := by decide +kernel
theorem dX7_isHeard_77 : decode cX7_isHeard 77 = .ok (.aload_n 0, 1) := by decide +kernel
theorem dX7_isHeard_78 : decode cX7_isHeard 78 = .ok (.getfield 25, 3) := by decide +kernel
theorem dX7_isHeard_81 : decode cX7_isHeard 81 = .ok (.bipush 31, 2) := by decide +kernel
theorem dX7_isHeard_83 : decode cX7_isHeard 83 = .ok (.iload_n 1, 1) := by decide +kernel
theorem dX7_isHeard_84 : decode cX7_isHeard 84 = .ok (.iadd, 1) := by decide +kernel
theorem dX7_isHeard_85 : decode cX7_isHeard 85 = .ok (.iaload, 1) := by decide +kernel
theorem dX7_isHeard_86 : decode cX7_isHeard 86 = .ok (.aload_n 0, 1) := by decide +kernel
theorem dX7_isHeard_87 : decode cX7_isHeard 87 = .ok (.getfield 55, 3) := by decide +kernel
theorem dX7_isHeard_90 : decode cX7_isHeard 90 = .ok (.iload 5, 2) := by decide +kernel
theorem dX7_isHeard_92 : decode cX7_isHeard 92 = .ok (.iaload, 1) := by decide +kernel
theorem dX7_isHeard_93 : decode cX7_isHeard 93 = .ok (.invokestatic 98, 3) := by decide +kernel
theorem dX7_isHeard_96 : decode cX7_isHeard 96 = .ok (.aload_n 0, 1) := by decide +kernel
theorem dX7_isHeard_97 : decode cX7_isHeard 97 = .ok (.getfield 61, 3) := by decide +kernel
theorem dX7_isHeard_100 : decode cX7_isHeard 100 = .ok (.iload 5, 2) := by decide +kernel
theorem dX7_isHeard_102 : decode cX7_isHeard 102 = .ok (.baload, 1) := by decide +kernel
theorem dX7_isHeard_103 : decode cX7_isHeard 103 = .ok (.if_icmp .ne 7, 3) := by decide +kernel
theorem dX7_isHeard_106 : decode cX7_isHeard 106 = .ok (.iconst 1, 1) := by decide +kernel
theorem dX7_isHeard_107 : decode cX7_isHeard 107 = .ok (.goto 4, 3) := by decide +kernel
theorem dX7_isHeard_110 : decode cX7_isHeard 110 = .ok (.iconst 0, 1) := by decide +kernel
theorem dX7_isHeard_111 : decode cX7_isHeard 111 = .ok (.istore_n 3, 1) := by decide +kernel
theorem dX7_isHeard_112 : decode cX7_isHeard 112 = .ok (.iinc 5 1, 3) := by decide +kernel
theorem dX7_isHeard_115 : decode cX7_isHeard 115 = .ok (.goto (-86), 3) := by decide +kernel
theorem dX7_isHeard_118 : decode cX7_isHeard 118 = .ok (.aload_n 0, 1) := by decide +kernel
theorem dX7_isHeard_119 : decode cX7_isHeard 119 = .ok (.iconst 1, 1) := by decide +kernel
theorem dX7_isHeard_120 : decode cX7_isHeard 120 = .ok (.invokevirtual 160, 3) := by decide +kernel
theorem dX7_isHeard_123 : decode cX7_isHeard 123 = .ok (.pop, 1) := by decide +kernel
theorem dX7_isHeard_124 : decode cX7_isHeard 124 = .ok (.iinc 4 1, 3) := by decide +kernel
theorem dX7_isHeard_127 : decode cX7_isHeard 127 = .ok (.goto (-108), 3) := by decide +kernel
theorem dX7_isHeard_130 : decode cX7_isHeard 130 = .ok (.iload_n 3, 1) := by decide +kernel
theorem dX7_isHeard_131 : decode cX7_isHeard 131 = .ok (.ireturn, 1) := by decide +kernel
theorem dX7_where_0 : decode cX7_where 0 = .ok (.aload_n 0, 1) := by decide +kernel
theorem dX7_where_1 : decode cX7_where 1 = .ok (.iload_n 1, 1) := by decide +kernel
theorem dX7_where_2 : decode cX7_where 2 = .ok (.invokevirtual 143, 3) := by decide +kernel
theorem dX7_where_5 : decode cX7_where 5 = .ok (.ifCond .ne 5, 3) := by decide +kernel
theorem dX7_where_8 : decode cX7_where 8 = .ok (.iconst (-1), 1) := by decide +kernel
theorem dX7_where_9 : decode cX7_where 9 = .ok (.ireturn, 1) := by decide +kernel
theorem dX7_where_10 : decode cX7_where 10 = .ok (.iload_n 2, 1) := by decide +kernel
theorem dX7_where_11 : decode cX7_where 11 = .ok (.i2l, 1) := by decide +kernel
theorem dX7_where_12 : decode cX7_where 12 = .ok (.lconst 0, 1) := by decide +kernel
theorem dX7_where_13 : decode cX7_where 13 = .ok (.ldc2_w 223, 3) := by decide +kernel
theorem dX7_where_16 : decode cX7_where 16 = .ok (.invokestatic 83, 3) := by decide +kernel
theorem dX7_where_19 : decode cX7_where 19 = .ok (.ifCond .ne 6, 3) := by decide +kernel
theorem dX7_where_22 : decode cX7_where 22 = .ok (.bipush (-2), 2) := by decide +kernel
theorem dX7_where_24 : decode cX7_where 24 = .ok (.ireturn, 1) := by decide +kernel
theorem dX7_where_25 : decode cX7_where 25 = .ok (.iconst 0, 1) := by decide +kernel
theorem dX7_where_26 : decode cX7_where 26 = .ok (.istore_n 3, 1) := by decide +kernel
theorem dX7_where_27 : decode cX7_where 27 = .ok (.bipush 63, 2) := by decide +kernel
theorem dX7_where_29 : decode cX7_where 29 = .ok (.istore 4, 2) := by decide +kernel
theorem dX7_where_31 : decode cX7_where 31 = .ok (.iconst 0, 1) := by decide +kernel
theorem dX7_where_32 : decode cX7_where 32 = .ok (.istore 5, 2) := by decide +kernel
theorem dX7_where_34 : decode cX7_where 34 = .ok (.iconst 0, 1) := by decide +kernel
theorem dX7_where_35 : decode cX7_where 35 = .ok (.istore 6, 2) := by decide +kernel
theorem dX7_where_37 : decode cX7_where 37 = .ok (.iload 6, 2) := by decide +kernel
theorem dX7_where_39 : decode cX7_where 39 = .ok (.bipush 63, 2) := by decide +kernel
theorem dX7_where_41 : decode cX7_where 41 = .ok (.if_icmp .gt 50, 3) := by decide +kernel
theorem dX7_where_44 : decode cX7_where 44 = .ok (.iload 6, 2) := by decide +kernel
theorem dX7_where_46 : decode cX7_where 46 = .ok (.aload_n 0, 1) := by decide +kernel
theorem dX7_where_47 : decode cX7_where 47 = .ok (.getfield 25, 3) := by decide +kernel
theorem dX7_where_50 : decode cX7_where 50 = .ok (.iconst 5, 1) := by decide +kernel
theorem dX7_where_51 : decode cX7_where 51 = .ok (.iload_n 1, 1) := by decide +kernel
theorem dX7_where_52 : decode cX7_where 52 = .ok (.iadd, 1) := by decide +kernel
theorem dX7_where_53 : decode cX7_where 53 = .ok (.iaload, 1) := by decide +kernel
theorem dX7_where_54 : decode cX7_where 54 = .ok (.iand, 1) := by decide +kernel
theorem dX7_where_55 : decode cX7_where 55 = .ok (.ifCond .ne 30, 3) := by decide +kernel
theorem dX7_where_58 : decode cX7_where 58 = .ok (.aload_n 0, 1) := by decide +kernel
theorem dX7_where_59 : decode cX7_where 59 = .ok (.iload_n 1, 1) := by decide +kernel
theorem dX7_where_60 : decode cX7_where 60 = .ok (.iload 6, 2) := by decide +kernel
theorem dX7_where_62 : decode cX7_where 62 = .ok (.invokevirtual 225, 3) := by decide +kernel
theorem dX7_where_65 : decode cX7_where 65 = .ok (.ifCond .eq 20, 3) := by decide +kernel
theorem dX7_where_68 : decode cX7_where 68 = .ok (.iinc 3 1, 3) := by decide +kernel
theorem dX7_where_71 : decode cX7_where 71 = .ok (.iload 4, 2) := by decide +kernel
theorem dX7_where_73 : decode cX7_where 73 = .ok (.iload 6, 2) := by decide +kernel
theorem dX7_where_75 : decode cX7_where 75 = .ok (.iand, 1) := by decide +kernel
theorem dX7_where_76 : decode cX7_where 76 = .ok (.istore 4, 2) := by decide +kernel
theorem dX7_where_78 : decode cX7_where 78 = .ok (.iload 5, 2) := by decide +kernel
theorem dX7_where_80 : decode cX7_where 80 = .ok (.iload 6, 2) := by decide +kernel
theorem dX7_where_82 : decode cX7_where 82 = .ok (.ior, 1) := by decide +kernel
theorem dX7_where_83 : decode cX7_where 83 = .ok (.istore 5, 2) := by decide +kernel
theorem dX7_where_85 : decode cX7_where 85 = .ok (.iinc 6 1, 3) := by decide +kernel
theorem dX7_where_88 : decode cX7_where 88 = .ok (.goto (-51), 3) := by decide +kernel
theorem dX7_where_91 : decode cX7_where 91 = .ok (.iload_n 2, 1) := by decide +kernel
theorem dX7_where_92 : decode cX7_where 92 = .ok (.ifCond .ne 7, 3) := by decide +kernel
theorem dX7_where_95 : decode cX7_where 95 = .ok (.iload_n 3, 1) := by decide +kernel
theorem dX7_where_96 : decode cX7_where 96 = .ok (.goto 29, 3) := by decide +kernel
theorem dX7_where_99 : decode cX7_where 99 = .ok (.iload_n 3, 1) := by decide +kernel
theorem dX7_where_100 : decode cX7_where 100 = .ok (.ifCond .ne 8, 3) := by decide +kernel
theorem dX7_where_103 : decode cX7_where 103 = .ok (.bipush (-9), 2) := by decide +kernel
theorem dX7_where_105 : decode cX7_where 105 = .ok (.goto 20, 3) := by decide +kernel
theorem dX7_where_108 : decode cX7_where 108 = .ok (.iload_n 2, 1) := by decide +kernel
theorem dX7_where_109 : decode cX7_where 109 = .ok (.iconst 1, 1) := by decide +kernel
theorem dX7_where_110 : decode cX7_where 110 = .ok (.if_icmp .ne 8, 3) := by decide +kernel
theorem dX7_where_113 : decode cX7_where 113 = .ok (.iload 4, 2) := by decide +kernel
theorem dX7_where_115 : decode cX7_where 115 = .ok (.goto 10, 3) := by decide +kernel
theorem dX7_where_118 : decode cX7_where 118 = .ok (.bipush 63, 2) := by decide +kernel
theorem dX7_where_120 : decode cX7_where 120 = .ok (.iload 5, 2) := by decide +kernel
theorem dX7_where_122 : decode cX7_where 122 = .ok (.iconst (-1), 1) := by decide +kernel
theorem dX7_where_123 : decode cX7_where 123 = .ok (.ixor, 1) := by decide +kernel
theorem dX7_where_124 : decode cX7_where 124 = .ok (.iand, 1) := by decide +kernel
theorem dX7_where_125 : decode cX7_where 125 = .ok (.ireturn, 1) := by decide +kernel
theorem dX7_factorial_0 : decode cX7_factorial 0 = .ok (.iconst 1, 1) := by decide +kernel
theorem dX7_factorial_1 : decode cX7_factorial 1 = .ok (.istore_n 1, 1) := by decide +kernel
theorem dX7_factorial_2 : decode cX7_factorial 2 = .ok (.iconst 2, 1) := by decide +kernel
theorem dX7_factorial_3 : decode cX7_factorial 3 = .ok (.istore_n 2, 1) := by decide +kernel
theorem dX7_factorial_4 : decode cX7_factorial 4 = .ok (.iload_n 2, 1) := by decide +kernel
theorem dX7_factorial_5 : decode cX7_factorial 5 = .ok (.iload_n 0, 1) := by decide +kernel
theorem dX7_factorial_6 : decode cX7_factorial 6 = .ok (.if_icmp .gt 13, 3) := by decide +kernel
theorem dX7_factorial_9 : decode cX7_factorial 9 = .ok (.iload_n 1, 1) := by decide +kernel
theorem dX7_factorial_10 : decode cX7_factorial 10 = .ok (.iload_n 2, 1) := by decide +kernel
theorem dX7_factorial_11 : decode cX7_factorial 11 = .ok (.imul, 1) := by decide +kernel
theorem dX7_factorial_12 : decode cX7_factorial 12 = .ok (.istore_n 1, 1) := by decide +kernel
theorem dX7_factorial_13 : decode cX7_factorial 13 = .ok (.iinc 2 1, 3) := by decide +kernel
theorem dX7_factorial_16 : decode cX7_factorial 16 = .ok (.goto (-12), 3) := by decide +kernel
theorem dX7_factorial_19 : decode cX7_factorial 19 = .ok (.iload_n 1, 1) := by decide +kernel
theorem dX7_factorial_20 : decode cX7_factorial 20 = .ok (.ireturn, 1) := by decide +kernel
theorem dX7_common_0 : decode cX7_common 0 = .ok (.iload_n 0, 1) := by decide +kernel
theorem dX7_common_1 : decode cX7_common 1 = .ok (.ifCond .ge 8, 3) := by decide +kernel
theorem dX7_common_4 : decode cX7_common 4 = .ok (.iload_n 0, 1) := by decide +kernel
theorem dX7_common_5 : decode cX7_common 5 = .ok (.ineg, 1) := by decide +kernel
theorem dX7_common_6 : decode cX7_common 6 = .ok (.goto 4, 3) := by decide +kernel
theorem dX7_common_9 : decode cX7_common 9 = .ok (.iload_n 0, 1) := by decide +kernel
theorem dX7_common_10 : decode cX7_common 10 = .ok (.istore_n 2, 1) := by decide +kernel
theorem dX7_common_11 : decode cX7_common 11 = .ok (.iload_n 1, 1) := by decide +kernel
theorem dX7_common_12 : decode cX7_common 12 = .ok (.istore_n 3, 1) := by decide +kernel
theorem dX7_common_13 : decode cX7_common 13 = .ok (.iload_n 3, 1) := by decide +kernel
theorem dX7_common_14 : decode cX7_common 14 = .ok (.ifCond .eq 16, 3) := by decide +kernel
theorem dX7_common_17 : decode cX7_common 17 = .ok (.iload_n 2, 1) := by decide +kernel
theorem dX7_common_18 : decode cX7_common 18 = .ok (.iload_n 3, 1) := by decide +kernel
theorem dX7_common_19 : decode cX7_common 19 = .ok (.irem, 1) := by decide +kernel
theorem dX7_common_20 : decode cX7_common 20 = .ok (.istore 4, 2) := by decide +kernel
theorem dX7_common_22 : decode cX7_common 22 = .ok (.iload_n 3, 1) := by decide +kernel
theorem dX7_common_23 : decode cX7_common 23 = .ok (.istore_n 2, 1) := by decide +kernel
theorem dX7_common_24 : decode cX7_common 24 = .ok (.iload 4, 2) := by decide +kernel
theorem dX7_common_26 : decode cX7_common 26 = .ok (.istore_n 3, 1) := by decide +kernel
theorem dX7_common_27 : decode cX7_common 27 = .ok (.goto (-14), 3) := by decide +kernel
theorem dX7_common_30 : decode cX7_common 30 = .ok (.iload_n 2, 1) := by decide +kernel
theorem dX7_common_31 : decode cX7_common 31 = .ok (.ireturn, 1) := by decide +kernel
theorem dX7_worthBy_0 : decode cX7_worthBy 0 = .ok (.aload_n 0, 1) := by decide +kernel
theorem dX7_worthBy_1 : decode cX7_worthBy 1 = .ok (.invokevirtual 186, 3) := by decide +kernel
theorem dX7_worthBy_4 : decode cX7_worthBy 4 = .ok (.aload_n 0, 1) := by decide +kernel
theorem dX7_worthBy_5 : decode cX7_worthBy 5 = .ok (.getfield 25, 3) := by decide +kernel
theorem dX7_worthBy_8 : decode cX7_worthBy 8 = .ok (.bipush 31, 2) := by decide +kernel
theorem dX7_worthBy_10 : decode cX7_worthBy 10 = .ok (.iload_n 1, 1) := by decide +kernel
theorem dX7_worthBy_11 : decode cX7_worthBy 11 = .ok (.iadd, 1) := by decide +kernel
theorem dX7_worthBy_12 : decode cX7_worthBy 12 = .ok (.iload_n 2, 1) := by decide +kernel
theorem dX7_worthBy_13 : decode cX7_worthBy 13 = .ok (.iastore, 1) := by decide +kernel
theorem dX7_worthBy_14 : decode cX7_worthBy 14 = .ok (.aload_n 0, 1) := by decide +kernel
theorem dX7_worthBy_15 : decode cX7_worthBy 15 = .ok (.iload_n 3, 1) := by decide +kernel
theorem dX7_worthBy_16 : decode cX7_worthBy 16 = .ok (.invokevirtual 189, 3) := by decide +kernel
theorem dX7_worthBy_19 : decode cX7_worthBy 19 = .ok (.aload_n 0, 1) := by decide +kernel
theorem dX7_worthBy_20 : decode cX7_worthBy 20 = .ok (.iconst 1, 1) := by decide +kernel
theorem dX7_worthBy_21 : decode cX7_worthBy 21 = .ok (.iload_n 1, 1) := by decide +kernel
theorem dX7_worthBy_22 : decode cX7_worthBy 22 = .ok (.invokevirtual 177, 3) := by decide +kernel
theorem dX7_worthBy_25 : decode cX7_worthBy 25 = .ok (.ireturn, 1) := by decide +kernel
theorem dX7_share_0 : decode cX7_share 0 = .ok (.aload_n 0, 1) := by decide +kernel
theorem dX7_share_1 : decode cX7_share 1 = .ok (.iload_n 2, 1) := by decide +kernel
theorem dX7_share_2 : decode cX7_share 2 = .ok (.invokevirtual 143, 3) := by decide +kernel
theorem dX7_share_5 : decode cX7_share 5 = .ok (.ifCond .ne 5, 3) := by decide +kernel
theorem dX7_share_8 : decode cX7_share 8 = .ok (.iconst (-1), 1) := by decide +kernel
theorem dX7_share_9 : decode cX7_share 9 = .ok (.ireturn, 1) := by decide +kernel
theorem dX7_share_10 : decode cX7_share 10 = .ok (.iload_n 1, 1) := by decide +kernel
theorem dX7_share_11 : decode cX7_share 11 = .ok (.invokestatic 163, 3) := by decide +kernel
theorem dX7_share_14 : decode cX7_share 14 = .ok (.ifCond .eq 15, 3) := by decide +kernel
theorem dX7_share_17 : decode cX7_share 17 = .ok (.iload_n 3, 1) := by decide +kernel
theorem dX7_share_18 : decode cX7_share 18 = .ok (.i2l, 1) := by decide +kernel
theorem dX7_share_19 : decode cX7_share 19 = .ok (.lconst 0, 1) := by decide +kernel
theorem dX7_share_20 : decode cX7_share 20 = .ok (.ldc2_w 184, 3) := by decide +kernel
theorem dX7_share_23 : decode cX7_share 23 = .ok (.invokestatic 83, 3) := by decide +kernel
theorem dX7_share_26 : decode cX7_share 26 = .ok (.ifCond .ne 6, 3) := by decide +kernel
theorem dX7_share_29 : decode cX7_share 29 = .ok (.bipush (-2), 2) := by decide +kernel
theorem dX7_share_31 : decode cX7_share 31 = .ok (.ireturn, 1) := by decide +kernel
theorem dX7_share_32 : decode cX7_share 32 = .ok (.aload_n 0, 1) := by decide +kernel
theorem dX7_share_33 : decode cX7_share 33 = .ok (.getfield 25, 3) := by decide +kernel
theorem dX7_share_36 : decode cX7_share 36 = .ok (.iload_n 2, 1) := by decide +kernel
theorem dX7_share_37 : decode cX7_share 37 = .ok (.iaload, 1) := by decide +kernel
theorem dX7_share_38 : decode cX7_share 38 = .ok (.istore 5, 2) := by decide +kernel
theorem dX7_share_40 : decode cX7_share 40 = .ok (.iload 5, 2) := by decide +kernel
theorem dX7_share_42 : decode cX7_share 42 = .ok (.iload_n 1, 1) := by decide +kernel
theorem dX7_share_43 : decode cX7_share 43 = .ok (.invokestatic 98, 3) := by decide +kernel
theorem dX7_share_46 : decode cX7_share 46 = .ok (.ifCond .ne 14, 3) := by decide +kernel
theorem dX7_share_49 : decode cX7_share 49 = .ok (.iload 4, 2) := by decide +kernel
theorem dX7_share_51 : decode cX7_share 51 = .ok (.ifCond .eq 7, 3) := by decide +kernel
theorem dX7_share_54 : decode cX7_share 54 = .ok (.iconst 0, 1) := by decide +kernel
theorem dX7_share_55 : decode cX7_share 55 = .ok (.goto 4, 3) := by decide +kernel
theorem dX7_share_58 : decode cX7_share 58 = .ok (.iconst 1, 1) := by decide +kernel
theorem dX7_share_59 : decode cX7_share 59 = .ok (.ireturn, 1) := by decide +kernel
theorem dX7_share_60 : decode cX7_share 60 = .ok (.iload 5, 2) := by decide +kernel
theorem dX7_share_62 : decode cX7_share 62 = .ok (.invokestatic 140, 3) := by decide +kernel
theorem dX7_share_65 : decode cX7_share 65 = .ok (.istore 6, 2) := by decide +kernel
theorem dX7_share_67 : decode cX7_share 67 = .ok (.iconst 0, 1) := by decide +kernel
theorem dX7_share_68 : decode cX7_share 68 = .ok (.istore 7, 2) := by decide +kernel
theorem dX7_share_70 : decode cX7_share 70 = .ok (.iconst 0, 1) := by decide +kernel
theorem dX7_share_71 : decode cX7_share 71 = .ok (.istore 8, 2) := by decide +kernel
theorem dX7_share_73 : decode cX7_share 73 = .ok (.iload 8, 2) := by decide +kernel
theorem dX7_share_75 : decode cX7_share 75 = .ok (.bipush 63, 2) := by decide +kernel
theorem dX7_share_77 : decode cX7_share 77 = .ok (.if_icmp .gt 81, 3) := by decide +kernel
theorem dX7_share_80 : decode cX7_share 80 = .ok (.iload 8, 2) := by decide +kernel
theorem dX7_share_82 : decode cX7_share 82 = .ok (.iload 5, 2) := by decide +kernel
theorem dX7_share_84 : decode cX7_share 84 = .ok (.iconst (-1), 1) := by decide +kernel
theorem dX7_share_85 : decode cX7_share 85 = .ok (.ixor, 1) := by decide +kernel
theorem dX7_share_86 : decode cX7_share 86 = .ok (.iand, 1) := by decide +kernel
theorem dX7_share_87 : decode cX7_share 87 = .ok (.ifCond .ne 65, 3) := by decide +kernel
theorem dX7_share_90 : decode cX7_share 90 = .ok (.iload 8, 2) := by decide +kernel
theorem dX7_share_92 : decode cX7_share 92 = .ok (.iload_n 1, 1) := by decide +kernel
theorem dX7_share_93 : decode cX7_share 93 = .ok (.invokestatic 98, 3) := by decide +kernel
theorem dX7_share_96 : decode cX7_share 96 = .ok (.ifCond .ne 56, 3) := by decide +kernel
theorem dX7_share_99 : decode cX7_share 99 = .ok (.iload 8, 2) := by decide +kernel
theorem dX7_share_101 : decode cX7_share 101 = .ok (.invokestatic 140, 3) := by decide +kernel
theorem dX7_share_104 : decode cX7_share 104 = .ok (.invokestatic 228, 3) := by decide +kernel
theorem dX7_share_107 : decode cX7_share 107 = .ok (.iload 6, 2) := by decide +kernel
theorem dX7_share_109 : decode cX7_share 109 = .ok (.iconst 1, 1) := by decide +kernel
theorem dX7_share_110 : decode cX7_share 110 = .ok (.isub, 1) := by decide +kernel
theorem dX7_share_111 : decode cX7_share 111 = .ok (.iload 8, 2) := by decide +kernel
theorem dX7_share_113 : decode cX7_share 113 = .ok (.invokestatic 140, 3) := by decide +kernel
theorem dX7_share_116 : decode cX7_share 116 = .ok (.isub, 1) := by decide +kernel
theorem dX7_share_117 : decode cX7_share 117 = .ok (.invokestatic 228, 3) := by decide +kernel
theorem dX7_share_120 : decode cX7_share 120 = .ok (.imul, 1) := by decide +kernel
theorem dX7_share_121 : decode cX7_share 121 = .ok (.istore 9, 2) := by decide +kernel
theorem dX7_share_123 : decode cX7_share 123 = .ok (.iload 7, 2) := by decide +kernel
theorem dX7_share_125 : decode cX7_share 125 = .ok (.iload 9, 2) := by decide +kernel
theorem dX7_share_127 : decode cX7_share 127 = .ok (.aload_n 0, 1) := by decide +kernel
theorem dX7_share_128 : decode cX7_share 128 = .ok (.iload_n 2, 1) := by decide +kernel
theorem dX7_share_129 : decode cX7_share 129 = .ok (.iload 8, 2) := by decide +kernel
theorem dX7_share_131 : decode cX7_share 131 = .ok (.iconst 1, 1) := by decide +kernel
theorem dX7_share_132 : decode cX7_share 132 = .ok (.iload_n 1, 1) := by decide +kernel
theorem dX7_share_133 : decode cX7_share 133 = .ok (.ishl, 1) := by decide +kernel
theorem dX7_share_134 : decode cX7_share 134 = .ok (.ior, 1) := by decide +kernel
theorem dX7_share_135 : decode cX7_share 135 = .ok (.iload_n 3, 1) := by decide +kernel
theorem dX7_share_136 : decode cX7_share 136 = .ok (.invokevirtual 231, 3) := by decide +kernel
theorem dX7_share_139 : decode cX7_share 139 = .ok (.aload_n 0, 1) := by decide +kernel
theorem dX7_share_140 : decode cX7_share 140 = .ok (.iload_n 2, 1) := by decide +kernel
theorem dX7_share_141 : decode cX7_share 141 = .ok (.iload 8, 2) := by decide +kernel
theorem dX7_share_143 : decode cX7_share 143 = .ok (.iload_n 3, 1) := by decide +kernel
theorem dX7_share_144 : decode cX7_share 144 = .ok (.invokevirtual 231, 3) := by decide +kernel
theorem dX7_share_147 : decode cX7_share 147 = .ok (.isub, 1) := by decide +kernel
theorem dX7_share_148 : decode cX7_share 148 = .ok (.imul, 1) := by decide +kernel
theorem dX7_share_149 : decode cX7_share 149 = .ok (.iadd, 1) := by decide +kernel
theorem dX7_share_150 : decode cX7_share 150 = .ok (.istore 7, 2) := by decide +kernel
theorem dX7_share_152 : decode cX7_share 152 = .ok (.iinc 8 1, 3) := by decide +kernel
theorem dX7_share_155 : decode cX7_share 155 = .ok (.goto (-82), 3) := by decide +kernel
theorem dX7_share_158 : decode cX7_share 158 = .ok (.iload 7, 2) := by decide +kernel
theorem dX7_share_160 : decode cX7_share 160 = .ok (.iload 6, 2) := by decide +kernel
theorem dX7_share_162 : decode cX7_share 162 = .ok (.invokestatic 228, 3) := by decide +kernel
theorem dX7_share_165 : decode cX7_share 165 = .ok (.invokestatic 234, 3) := by decide +kernel
theorem dX7_share_168 : decode cX7_share 168 = .ok (.istore 8, 2) := by decide +kernel
theorem dX7_share_170 : decode cX7_share 170 = .ok (.iload 4, 2) := by decide +kernel
theorem dX7_share_172 : decode cX7_share 172 = .ok (.ifCond .eq 11, 3) := by decide +kernel
theorem dX7_share_175 : decode cX7_share 175 = .ok (.iload 7, 2) := by decide +kernel
theorem dX7_share_177 : decode cX7_share 177 = .ok (.iload 8, 2) := by decide +kernel
theorem dX7_share_179 : decode cX7_share 179 = .ok (.idiv, 1) := by decide +kernel
theorem dX7_share_180 : decode cX7_share 180 = .ok (.goto 11, 3) := by decide +kernel
theorem dX7_share_183 : decode cX7_share 183 = .ok (.iload 6, 2) := by decide +kernel
theorem dX7_share_185 : decode cX7_share 185 = .ok (.invokestatic 228, 3) := by decide +kernel
theorem dX7_share_188 : decode cX7_share 188 = .ok (.iload 8, 2) := by decide +kernel
theorem dX7_share_190 : decode cX7_share 190 = .ok (.idiv, 1) := by decide +kernel
theorem dX7_share_191 : decode cX7_share 191 = .ok (.ireturn, 1) := by decide +kernel
theorem dX7_isChoice_0 : decode cX7_isChoice 0 = .ok (.iload_n 2, 1) := by decide +kernel
theorem dX7_isChoice_1 : decode cX7_isChoice 1 = .ok (.ifCond .eq 30, 3) := by decide +kernel
theorem dX7_isChoice_4 : decode cX7_isChoice 4 = .ok (.aload_n 0, 1) := by decide +kernel
theorem dX7_isChoice_5 : decode cX7_isChoice 5 = .ok (.iload_n 2, 1) := by decide +kernel
theorem dX7_isChoice_6 : decode cX7_isChoice 6 = .ok (.iconst 1, 1) := by decide +kernel
theorem dX7_isChoice_7 : decode cX7_isChoice 7 = .ok (.isub, 1) := by decide +kernel
theorem dX7_isChoice_8 : decode cX7_isChoice 8 = .ok (.invokevirtual 143, 3) := by decide +kernel
theorem dX7_isChoice_11 : decode cX7_isChoice 11 = .ok (.ifCond .eq 24, 3) := by decide +kernel
theorem dX7_isChoice_14 : decode cX7_isChoice 14 = .ok (.aload_n 0, 1) := by decide +kernel
theorem dX7_isChoice_15 : decode cX7_isChoice 15 = .ok (.iconst 0, 1) := by decide +kernel
theorem dX7_isChoice_16 : decode cX7_isChoice 16 = .ok (.iload_n 2, 1) := by decide +kernel
theorem dX7_isChoice_17 : decode cX7_isChoice 17 = .ok (.iconst 1, 1) := by decide +kernel
theorem dX7_isChoice_18 : decode cX7_isChoice 18 = .ok (.isub, 1) := by decide +kernel
theorem dX7_isChoice_19 : decode cX7_isChoice 19 = .ok (.aload_n 0, 1) := by decide +kernel
theorem dX7_isChoice_20 : decode cX7_isChoice 20 = .ok (.getfield 22, 3) := by decide +kernel
theorem dX7_isChoice_23 : decode cX7_isChoice 23 = .ok (.iload_n 1, 1) := by decide +kernel
theorem dX7_isChoice_24 : decode cX7_isChoice 24 = .ok (.iaload, 1) := by decide +kernel
theorem dX7_isChoice_25 : decode cX7_isChoice 25 = .ok (.invokevirtual 166, 3) := by decide +kernel
theorem dX7_isChoice_28 : decode cX7_isChoice 28 = .ok (.ifCond .eq 7, 3) := by decide +kernel
theorem dX7_isChoice_31 : decode cX7_isChoice 31 = .ok (.iconst 1, 1) := by decide +kernel
theorem dX7_isChoice_32 : decode cX7_isChoice 32 = .ok (.goto 4, 3) := by decide +kernel
theorem dX7_isChoice_35 : decode cX7_isChoice 35 = .ok (.iconst 0, 1) := by decide +kernel
theorem dX7_isChoice_36 : decode cX7_isChoice 36 = .ok (.ireturn, 1) := by decide +kernel
theorem dX7_layPairs_0 : decode cX7_layPairs 0 = .ok (.iconst 0, 1) := by decide +kernel
theorem dX7_layPairs_1 : decode cX7_layPairs 1 = .ok (.istore 4, 2) := by decide +kernel
theorem dX7_layPairs_3 : decode cX7_layPairs 3 = .ok (.iload 4, 2) := by decide +kernel
theorem dX7_layPairs_5 : decode cX7_layPairs 5 = .ok (.bipush 36, 2) := by decide +kernel
theorem dX7_layPairs_7 : decode cX7_layPairs 7 = .ok (.if_icmp .ge 122, 3) := by decide +kernel
theorem dX7_layPairs_10 : decode cX7_layPairs 10 = .ok (.aload_n 0, 1) := by decide +kernel
theorem dX7_layPairs_11 : decode cX7_layPairs 11 = .ok (.iload_n 1, 1) := by decide +kernel
theorem dX7_layPairs_12 : decode cX7_layPairs 12 = .ok (.iload 4, 2) := by decide +kernel
theorem dX7_layPairs_14 : decode cX7_layPairs 14 = .ok (.bipush 6, 2) := by decide +kernel
theorem dX7_layPairs_16 : decode cX7_layPairs 16 = .ok (.idiv, 1) := by decide +kernel
theorem dX7_layPairs_17 : decode cX7_layPairs 17 = .ok (.invokevirtual 237, 3) := by decide +kernel
theorem dX7_layPairs_20 : decode cX7_layPairs 20 = .ok (.ifCond .eq 103, 3) := by decide +kernel
theorem dX7_layPairs_23 : decode cX7_layPairs 23 = .ok (.aload_n 0, 1) := by decide +kernel
theorem dX7_layPairs_24 : decode cX7_layPairs 24 = .ok (.iload_n 2, 1) := by decide +kernel
theorem dX7_layPairs_25 : decode cX7_layPairs 25 = .ok (.iload 4, 2) := by decide +kernel
theorem dX7_layPairs_27 : decode cX7_layPairs 27 = .ok (.bipush 6, 2) := by decide +kernel
theorem dX7_layPairs_29 : decode cX7_layPairs 29 = .ok (.irem, 1) := by decide +kernel
theorem dX7_layPairs_30 : decode cX7_layPairs 30 = .ok (.invokevirtual 237, 3) := by decide +kernel
theorem dX7_layPairs_33 : decode cX7_layPairs 33 = .ok (.ifCond .eq 90, 3) := by decide +kernel
theorem dX7_layPairs_36 : decode cX7_layPairs 36 = .ok (.aload_n 0, 1) := by decide +kernel
theorem dX7_layPairs_37 : decode cX7_layPairs 37 = .ok (.invokevirtual 186, 3) := by decide +kernel
theorem dX7_layPairs_40 : decode cX7_layPairs 40 = .ok (.iload 4, 2) := by decide +kernel
theorem dX7_layPairs_42 : decode cX7_layPairs 42 = .ok (.bipush 6, 2) := by decide +kernel
theorem dX7_layPairs_44 : decode cX7_layPairs 44 = .ok (.idiv, 1) := by decide +kernel
theorem dX7_layPairs_45 : decode cX7_layPairs 45 = .ok (.ifCond .le 21, 3) := by decide +kernel
theorem dX7_layPairs_48 : decode cX7_layPairs 48 = .ok (.aload_n 0, 1) := by decide +kernel
theorem dX7_layPairs_49 : decode cX7_layPairs 49 = .ok (.iload 4, 2) := by decide +kernel
theorem dX7_layPairs_51 : decode cX7_layPairs 51 = .ok (.bipush 6, 2) := by decide +kernel
theorem dX7_layPairs_53 : decode cX7_layPairs 53 = .ok (.idiv, 1) := by decide +kernel
theorem dX7_layPairs_54 : decode cX7_layPairs 54 = .ok (.iconst 1, 1) := by decide +kernel
theorem dX7_layPairs_55 : decode cX7_layPairs 55 = .ok (.isub, 1) := by decide +kernel
theorem dX7_layPairs_56 : decode cX7_layPairs 56 = .ok (.aload_n 0, 1) := by decide +kernel
theorem dX7_layPairs_57 : decode cX7_layPairs 57 = .ok (.getfield 22, 3) := by decide +kernel
theorem dX7_layPairs_60 : decode cX7_layPairs 60 = .ok (.iload_n 1, 1) := by decide +kernel
theorem dX7_layPairs_61 : decode cX7_layPairs 61 = .ok (.iaload, 1) := by decide +kernel
theorem dX7_layPairs_62 : decode cX7_layPairs 62 = .ok (.invokevirtual 195, 3) := by decide +kernel
theorem dX7_layPairs_65 : decode cX7_layPairs 65 = .ok (.pop, 1) := by decide +kernel
theorem dX7_layPairs_66 : decode cX7_layPairs 66 = .ok (.iload 4, 2) := by decide +kernel
theorem dX7_layPairs_68 : decode cX7_layPairs 68 = .ok (.bipush 6, 2) := by decide +kernel
theorem dX7_layPairs_70 : decode cX7_layPairs 70 = .ok (.irem, 1) := by decide +kernel
theorem dX7_layPairs_71 : decode cX7_layPairs 71 = .ok (.ifCond .le 21, 3) := by decide +kernel
theorem dX7_layPairs_74 : decode cX7_layPairs 74 = .ok (.aload_n 0, 1) := by decide +kernel
theorem dX7_layPairs_75 : decode cX7_layPairs 75 = .ok (.iload 4, 2) := by decide +kernel
theorem dX7_layPairs_77 : decode cX7_layPairs 77 = .ok (.bipush 6, 2) := by decide +kernel
theorem dX7_layPairs_79 : decode cX7_layPairs 79 = .ok (.irem, 1) := by decide +kernel
theorem dX7_layPairs_80 : decode cX7_layPairs 80 = .ok (.iconst 1, 1) := by decide +kernel
theorem dX7_layPairs_81 : decode cX7_layPairs 81 = .ok (.isub, 1) := by decide +kernel
theorem dX7_layPairs_82 : decode cX7_layPairs 82 = .ok (.aload_n 0, 1) := by decide +kernel
theorem dX7_layPairs_83 : decode cX7_layPairs 83 = .ok (.getfield 22, 3) := by decide +kernel
theorem dX7_layPairs_86 : decode cX7_layPairs 86 = .ok (.iload_n 2, 1) := by decide +kernel
theorem dX7_layPairs_87 : decode cX7_layPairs 87 = .ok (.iaload, 1) := by decide +kernel
theorem dX7_layPairs_88 : decode cX7_layPairs 88 = .ok (.invokevirtual 195, 3) := by decide +kernel
theorem dX7_layPairs_91 : decode cX7_layPairs 91 = .ok (.pop, 1) := by decide +kernel
theorem dX7_layPairs_92 : decode cX7_layPairs 92 = .ok (.aload_n 0, 1) := by decide +kernel
theorem dX7_layPairs_93 : decode cX7_layPairs 93 = .ok (.iload_n 3, 1) := by decide +kernel
theorem dX7_layPairs_94 : decode cX7_layPairs 94 = .ok (.invokevirtual 189, 3) := by decide +kernel
theorem dX7_layPairs_97 : decode cX7_layPairs 97 = .ok (.aload_n 0, 1) := by decide +kernel
theorem dX7_layPairs_98 : decode cX7_layPairs 98 = .ok (.getfield 65, 3) := by decide +kernel
theorem dX7_layPairs_101 : decode cX7_layPairs 101 = .ok (.iload 4, 2) := by decide +kernel
theorem dX7_layPairs_103 : decode cX7_layPairs 103 = .ok (.aload_n 0, 1) := by decide +kernel
theorem dX7_layPairs_104 : decode cX7_layPairs 104 = .ok (.iconst 1, 1) := by decide +kernel
theorem dX7_layPairs_105 : decode cX7_layPairs 105 = .ok (.iload_n 1, 1) := by decide +kernel
theorem dX7_layPairs_106 : decode cX7_layPairs 106 = .ok (.invokevirtual 192, 3) := by decide +kernel
theorem dX7_layPairs_109 : decode cX7_layPairs 109 = .ok (.iastore, 1) := by decide +kernel
theorem dX7_layPairs_110 : decode cX7_layPairs 110 = .ok (.aload_n 0, 1) := by decide +kernel
theorem dX7_layPairs_111 : decode cX7_layPairs 111 = .ok (.getfield 68, 3) := by decide +kernel
theorem dX7_layPairs_114 : decode cX7_layPairs 114 = .ok (.iload 4, 2) := by decide +kernel
theorem dX7_layPairs_116 : decode cX7_layPairs 116 = .ok (.aload_n 0, 1) := by decide +kernel
theorem dX7_layPairs_117 : decode cX7_layPairs 117 = .ok (.iconst 1, 1) := by decide +kernel
theorem dX7_layPairs_118 : decode cX7_layPairs 118 = .ok (.iload_n 2, 1) := by decide +kernel
theorem dX7_layPairs_119 : decode cX7_layPairs 119 = .ok (.invokevirtual 192, 3) := by decide +kernel
theorem dX7_layPairs_122 : decode cX7_layPairs 122 = .ok (.iastore, 1) := by decide +kernel
theorem dX7_layPairs_123 : decode cX7_layPairs 123 = .ok (.iinc 4 1, 3) := by decide +kernel
theorem dX7_layPairs_126 : decode cX7_layPairs 126 = .ok (.goto (-123), 3) := by decide +kernel
theorem dX7_layPairs_129 : decode cX7_layPairs 129 = .ok (.return_, 1) := by decide +kernel
theorem dX7_isRest_0 : decode cX7_isRest 0 = .ok (.aload_n 0, 1) := by decide +kernel
theorem dX7_isRest_1 : decode cX7_isRest 1 = .ok (.iload_n 1, 1) := by decide +kernel
theorem dX7_isRest_2 : decode cX7_isRest 2 = .ok (.iload_n 3, 1) := by decide +kernel
theorem dX7_isRest_3 : decode cX7_isRest 3 = .ok (.bipush 6, 2) := by decide +kernel
theorem dX7_isRest_5 : decode cX7_isRest 5 = .ok (.idiv, 1) := by decide +kernel
theorem dX7_isRest_6 : decode cX7_isRest 6 = .ok (.invokevirtual 237, 3) := by decide +kernel
theorem dX7_isRest_9 : decode cX7_isRest 9 = .ok (.ifCond .eq 19, 3) := by decide +kernel
theorem dX7_isRest_12 : decode cX7_isRest 12 = .ok (.aload_n 0, 1) := by decide +kernel
theorem dX7_isRest_13 : decode cX7_isRest 13 = .ok (.iload_n 2, 1) := by decide +kernel
theorem dX7_isRest_14 : decode cX7_isRest 14 = .ok (.iload_n 3, 1) := by decide +kernel
theorem dX7_isRest_15 : decode cX7_isRest 15 = .ok (.bipush 6, 2) := by decide +kernel
theorem dX7_isRest_17 : decode cX7_isRest 17 = .ok (.irem, 1) := by decide +kernel
theorem dX7_isRest_18 : decode cX7_isRest 18 = .ok (.invokevirtual 237, 3) := by decide +kernel
theorem dX7_isRest_21 : decode cX7_isRest 21 = .ok (.ifCond .eq 7, 3) := by decide +kernel
theorem dX7_isRest_24 : decode cX7_isRest 24 = .ok (.iconst 1, 1) := by decide +kernel
theorem dX7_isRest_25 : decode cX7_isRest 25 = .ok (.goto 4, 3) := by decide +kernel
theorem dX7_isRest_28 : decode cX7_isRest 28 = .ok (.iconst 0, 1) := by decide +kernel
theorem dX7_isRest_29 : decode cX7_isRest 29 = .ok (.istore 4, 2) := by decide +kernel
theorem dX7_isRest_31 : decode cX7_isRest 31 = .ok (.iconst 0, 1) := by decide +kernel
theorem dX7_isRest_32 : decode cX7_isRest 32 = .ok (.istore 5, 2) := by decide +kernel
theorem dX7_isRest_34 : decode cX7_isRest 34 = .ok (.iload 5, 2) := by decide +kernel
theorem dX7_isRest_36 : decode cX7_isRest 36 = .ok (.bipush 6, 2) := by decide +kernel
theorem dX7_isRest_38 : decode cX7_isRest 38 = .ok (.if_icmp .ge 100, 3) := by decide +kernel
theorem dX7_isRest_41 : decode cX7_isRest 41 = .ok (.iload 4, 2) := by decide +kernel
theorem dX7_isRest_43 : decode cX7_isRest 43 = .ok (.ifCond .eq 41, 3) := by decide +kernel
theorem dX7_isRest_46 : decode cX7_isRest 46 = .ok (.aload_n 0, 1) := by decide +kernel
theorem dX7_isRest_47 : decode cX7_isRest 47 = .ok (.iload_n 1, 1) := by decide +kernel
theorem dX7_isRest_48 : decode cX7_isRest 48 = .ok (.iload 5, 2) := by decide +kernel
theorem dX7_isRest_50 : decode cX7_isRest 50 = .ok (.invokevirtual 237, 3) := by decide +kernel
theorem dX7_isRest_53 : decode cX7_isRest 53 = .ok (.ifCond .eq 27, 3) := by decide +kernel
theorem dX7_isRest_56 : decode cX7_isRest 56 = .ok (.aload_n 0, 1) := by decide +kernel
theorem dX7_isRest_57 : decode cX7_isRest 57 = .ok (.getfield 65, 3) := by decide +kernel
theorem dX7_isRest_60 : decode cX7_isRest 60 = .ok (.bipush 6, 2) := by decide +kernel
theorem dX7_isRest_62 : decode cX7_isRest 62 = .ok (.iload 5, 2) := by decide +kernel
theorem dX7_isRest_64 : decode cX7_isRest 64 = .ok (.imul, 1) := by decide +kernel
theorem dX7_isRest_65 : decode cX7_isRest 65 = .ok (.iload_n 3, 1) := by decide +kernel
theorem dX7_isRest_66 : decode cX7_isRest 66 = .ok (.bipush 6, 2) := by decide +kernel
theorem dX7_isRest_68 : decode cX7_isRest 68 = .ok (.irem, 1) := by decide +kernel
theorem dX7_isRest_69 : decode cX7_isRest 69 = .ok (.iadd, 1) := by decide +kernel
theorem dX7_isRest_70 : decode cX7_isRest 70 = .ok (.iaload, 1) := by decide +kernel
theorem dX7_isRest_71 : decode cX7_isRest 71 = .ok (.aload_n 0, 1) := by decide +kernel
theorem dX7_isRest_72 : decode cX7_isRest 72 = .ok (.getfield 65, 3) := by decide +kernel
theorem dX7_isRest_75 : decode cX7_isRest 75 = .ok (.iload_n 3, 1) := by decide +kernel
theorem dX7_isRest_76 : decode cX7_isRest 76 = .ok (.iaload, 1) := by decide +kernel
theorem dX7_isRest_77 : decode cX7_isRest 77 = .ok (.if_icmp .gt 7, 3) := by decide +kernel
theorem dX7_isRest_80 : decode cX7_isRest 80 = .ok (.iconst 1, 1) := by decide +kernel
theorem dX7_isRest_81 : decode cX7_isRest 81 = .ok (.goto 4, 3) := by decide +kernel
theorem dX7_isRest_84 : decode cX7_isRest 84 = .ok (.iconst 0, 1) := by decide +kernel
theorem dX7_isRest_85 : decode cX7_isRest 85 = .ok (.istore 4, 2) := by decide +kernel
theorem dX7_isRest_87 : decode cX7_isRest 87 = .ok (.iload 4, 2) := by decide +kernel
theorem dX7_isRest_89 : decode cX7_isRest 89 = .ok (.ifCond .eq 40, 3) := by decide +kernel
theorem dX7_isRest_92 : decode cX7_isRest 92 = .ok (.aload_n 0, 1) := by decide +kernel
theorem dX7_isRest_93 : decode cX7_isRest 93 = .ok (.iload_n 2, 1) := by decide +kernel
theorem dX7_isRest_94 : decode cX7_isRest 94 = .ok (.iload 5, 2) := by decide +kernel
theorem dX7_isRest_96 : decode cX7_isRest 96 = .ok (.invokevirtual 237, 3) := by decide +kernel
theorem dX7_isRest_99 : decode cX7_isRest 99 = .ok (.ifCond .eq 26, 3) := by decide +kernel
theorem dX7_isRest_102 : decode cX7_isRest 102 = .ok (.aload_n 0, 1) := by decide +kernel
theorem dX7_isRest_103 : decode cX7_isRest 103 = .ok (.getfield 68, 3) := by decide +kernel
theorem dX7_isRest_106 : decode cX7_isRest 106 = .ok (.iload_n 3, 1) := by decide +kernel
theorem dX7_isRest_107 : decode cX7_isRest 107 = .ok (.iload_n 3, 1) := by decide +kernel
theorem dX7_isRest_108 : decode cX7_isRest 108 = .ok (.bipush 6, 2) := by decide +kernel
theorem dX7_isRest_110 : decode cX7_isRest 110 = .ok (.irem, 1) := by decide +kernel
theorem dX7_isRest_111 : decode cX7_isRest 111 = .ok (.isub, 1) := by decide +kernel
theorem dX7_isRest_112 : decode cX7_isRest 112 = .ok (.iload 5, 2) := by decide +kernel
theorem dX7_isRest_114 : decode cX7_isRest 114 = .ok (.iadd, 1) := by decide +kernel
theorem dX7_isRest_115 : decode cX7_isRest 115 = .ok (.iaload, 1) := by decide +kernel
theorem dX7_isRest_116 : decode cX7_isRest 116 = .ok (.aload_n 0, 1) := by decide +kernel
theorem dX7_isRest_117 : decode cX7_isRest 117 = .ok (.getfield 68, 3) := by decide +kernel
theorem dX7_isRest_120 : decode cX7_isRest 120 = .ok (.iload_n 3, 1) := by decide +kernel
theorem dX7_isRest_121 : decode cX7_isRest 121 = .ok (.iaload, 1) := by decide +kernel
theorem dX7_isRest_122 : decode cX7_isRest 122 = .ok (.if_icmp .gt 7, 3) := by decide +kernel
theorem dX7_isRest_125 : decode cX7_isRest 125 = .ok (.iconst 1, 1) := by decide +kernel
theorem dX7_isRest_126 : decode cX7_isRest 126 = .ok (.goto 4, 3) := by decide +kernel
theorem dX7_isRest_129 : decode cX7_isRest 129 = .ok (.iconst 0, 1) := by decide +kernel
theorem dX7_isRest_130 : decode cX7_isRest 130 = .ok (.istore 4, 2) := by decide +kernel
theorem dX7_isRest_132 : decode cX7_isRest 132 = .ok (.iinc 5 1, 3) := by decide +kernel
theorem dX7_isRest_135 : decode cX7_isRest 135 = .ok (.goto (-101), 3) := by decide +kernel
theorem dX7_isRest_138 : decode cX7_isRest 138 = .ok (.iload 4, 2) := by decide +kernel
theorem dX7_isRest_140 : decode cX7_isRest 140 = .ok (.ireturn, 1) := by decide +kernel
theorem dX7_rests_0 : decode cX7_rests 0 = .ok (.aload_n 0, 1) := by decide +kernel
theorem dX7_rests_1 : decode cX7_rests 1 = .ok (.iload_n 1, 1) := by decide +kernel
theorem dX7_rests_2 : decode cX7_rests 2 = .ok (.invokevirtual 147, 3) := by decide +kernel
theorem dX7_rests_5 : decode cX7_rests 5 = .ok (.ifCond .eq 11, 3) := by decide +kernel
theorem dX7_rests_8 : decode cX7_rests 8 = .ok (.aload_n 0, 1) := by decide +kernel
theorem dX7_rests_9 : decode cX7_rests 9 = .ok (.iload_n 2, 1) := by decide +kernel
theorem dX7_rests_10 : decode cX7_rests 10 = .ok (.invokevirtual 147, 3) := by decide +kernel
theorem dX7_rests_13 : decode cX7_rests 13 = .ok (.ifCond .ne 5, 3) := by decide +kernel
theorem dX7_rests_16 : decode cX7_rests 16 = .ok (.iconst (-1), 1) := by decide +kernel
theorem dX7_rests_17 : decode cX7_rests 17 = .ok (.ireturn, 1) := by decide +kernel
theorem dX7_rests_18 : decode cX7_rests 18 = .ok (.iload_n 1, 1) := by decide +kernel
theorem dX7_rests_19 : decode cX7_rests 19 = .ok (.iload_n 2, 1) := by decide +kernel
theorem dX7_rests_20 : decode cX7_rests 20 = .ok (.if_icmp .eq 26, 3) := by decide +kernel
theorem dX7_rests_23 : decode cX7_rests 23 = .ok (.iload_n 3, 1) := by decide +kernel
theorem dX7_rests_24 : decode cX7_rests 24 = .ok (.i2l, 1) := by decide +kernel
theorem dX7_rests_25 : decode cX7_rests 25 = .ok (.lconst 0, 1) := by decide +kernel
theorem dX7_rests_26 : decode cX7_rests 26 = .ok (.ldc2_w 184, 3) := by decide +kernel
theorem dX7_rests_29 : decode cX7_rests 29 = .ok (.invokestatic 83, 3) := by decide +kernel
theorem dX7_rests_32 : decode cX7_rests 32 = .ok (.ifCond .eq 14, 3) := by decide +kernel
theorem dX7_rests_35 : decode cX7_rests 35 = .ok (.iload 4, 2) := by decide +kernel
theorem dX7_rests_37 : decode cX7_rests 37 = .ok (.i2l, 1) := by decide +kernel
theorem dX7_rests_38 : decode cX7_rests 38 = .ok (.lconst 0, 1) := by decide +kernel
theorem dX7_rests_39 : decode cX7_rests 39 = .ok (.lconst 1, 1) := by decide +kernel
theorem dX7_rests_40 : decode cX7_rests 40 = .ok (.invokestatic 83, 3) := by decide +kernel
theorem dX7_rests_43 : decode cX7_rests 43 = .ok (.ifCond .ne 6, 3) := by decide +kernel
theorem dX7_rests_46 : decode cX7_rests 46 = .ok (.bipush (-2), 2) := by decide +kernel
theorem dX7_rests_48 : decode cX7_rests 48 = .ok (.ireturn, 1) := by decide +kernel
theorem dX7_rests_49 : decode cX7_rests 49 = .ok (.aload_n 0, 1) := by decide +kernel
theorem dX7_rests_50 : decode cX7_rests 50 = .ok (.iload_n 1, 1) := by decide +kernel
theorem dX7_rests_51 : decode cX7_rests 51 = .ok (.iload_n 2, 1) := by decide +kernel
theorem dX7_rests_52 : decode cX7_rests 52 = .ok (.iload_n 3, 1) := by decide +kernel
theorem dX7_rests_53 : decode cX7_rests 53 = .ok (.invokevirtual 240, 3) := by decide +kernel
theorem dX7_rests_56 : decode cX7_rests 56 = .ok (.iconst 0, 1) := by decide +kernel
theorem dX7_rests_57 : decode cX7_rests 57 = .ok (.istore 5, 2) := by decide +kernel
theorem dX7_rests_59 : decode cX7_rests 59 = .ok (.bipush (-9), 2) := by decide +kernel
theorem dX7_rests_61 : decode cX7_rests 61 = .ok (.istore 6, 2) := by decide +kernel
theorem dX7_rests_63 : decode cX7_rests 63 = .ok (.iconst 0, 1) := by decide +kernel
theorem dX7_rests_64 : decode cX7_rests 64 = .ok (.istore 7, 2) := by decide +kernel
theorem dX7_rests_66 : decode cX7_rests 66 = .ok (.iload 7, 2) := by decide +kernel
theorem dX7_rests_68 : decode cX7_rests 68 = .ok (.bipush 36, 2) := by decide +kernel
theorem dX7_rests_70 : decode cX7_rests 70 = .ok (.if_icmp .ge 49, 3) := by decide +kernel
theorem dX7_rests_73 : decode cX7_rests 73 = .ok (.aload_n 0, 1) := by decide +kernel
theorem dX7_rests_74 : decode cX7_rests 74 = .ok (.iload_n 1, 1) := by decide +kernel
theorem dX7_rests_75 : decode cX7_rests 75 = .ok (.iload_n 2, 1) := by decide +kernel
theorem dX7_rests_76 : decode cX7_rests 76 = .ok (.iload 7, 2) := by decide +kernel
theorem dX7_rests_78 : decode cX7_rests 78 = .ok (.invokevirtual 243, 3) := by decide +kernel
theorem dX7_rests_81 : decode cX7_rests 81 = .ok (.ifCond .eq 32, 3) := by decide +kernel
theorem dX7_rests_84 : decode cX7_rests 84 = .ok (.iload 5, 2) := by decide +kernel
theorem dX7_rests_86 : decode cX7_rests 86 = .ok (.ifCond .ne 20, 3) := by decide +kernel
theorem dX7_rests_89 : decode cX7_rests 89 = .ok (.bipush 10, 2) := by decide +kernel
theorem dX7_rests_91 : decode cX7_rests 91 = .ok (.iload 7, 2) := by decide +kernel
theorem dX7_rests_93 : decode cX7_rests 93 = .ok (.bipush 6, 2) := by decide +kernel
theorem dX7_rests_95 : decode cX7_rests 95 = .ok (.idiv, 1) := by decide +kernel
theorem dX7_rests_96 : decode cX7_rests 96 = .ok (.imul, 1) := by decide +kernel
theorem dX7_rests_97 : decode cX7_rests 97 = .ok (.iload 7, 2) := by decide +kernel
theorem dX7_rests_99 : decode cX7_rests 99 = .ok (.bipush 6, 2) := by decide +kernel
theorem dX7_rests_101 : decode cX7_rests 101 = .ok (.irem, 1) := by decide +kernel
theorem dX7_rests_102 : decode cX7_rests 102 = .ok (.iadd, 1) := by decide +kernel
theorem dX7_rests_103 : decode cX7_rests 103 = .ok (.goto 5, 3) := by decide +kernel
theorem dX7_rests_106 : decode cX7_rests 106 = .ok (.iload 6, 2) := by decide +kernel
theorem dX7_rests_108 : decode cX7_rests 108 = .ok (.istore 6, 2) := by decide +kernel
theorem dX7_rests_110 : decode cX7_rests 110 = .ok (.iinc 5 1, 3) := by decide +kernel
theorem dX7_rests_113 : decode cX7_rests 113 = .ok (.iinc 7 1, 3) := by decide +kernel
theorem dX7_rests_116 : decode cX7_rests 116 = .ok (.goto (-50), 3) := by decide +kernel
theorem dX7_rests_119 : decode cX7_rests 119 = .ok (.iload 4, 2) := by decide +kernel
theorem dX7_rests_121 : decode cX7_rests 121 = .ok (.ifCond .ne 8, 3) := by decide +kernel
theorem dX7_rests_124 : decode cX7_rests 124 = .ok (.iload 5, 2) := by decide +kernel
theorem dX7_rests_126 : decode cX7_rests 126 = .ok (.goto 5, 3) := by decide +kernel
theorem dX7_rests_129 : decode cX7_rests 129 = .ok (.iload 6, 2) := by decide +kernel
theorem dX7_rests_131 : decode cX7_rests 131 = .ok (.ireturn, 1) := by decide +kernel
theorem dX7_chance_0 : decode cX7_chance 0 = .ok (.aload_n 0, 1) := by decide +kernel
theorem dX7_chance_1 : decode cX7_chance 1 = .ok (.iload_n 1, 1) := by decide +kernel
theorem dX7_chance_2 : decode cX7_chance 2 = .ok (.invokevirtual 143, 3) := by decide +kernel
theorem dX7_chance_5 : decode cX7_chance 5 = .ok (.ifCond .ne 5, 3) := by decide +kernel
theorem dX7_chance_8 : decode cX7_chance 8 = .ok (.iconst (-1), 1) := by decide +kernel
theorem dX7_chance_9 : decode cX7_chance 9 = .ok (.ireturn, 1) := by decide +kernel
theorem dX7_chance_10 : decode cX7_chance 10 = .ok (.iload_n 2, 1) := by decide +kernel
theorem dX7_chance_11 : decode cX7_chance 11 = .ok (.i2l, 1) := by decide +kernel
theorem dX7_chance_12 : decode cX7_chance 12 = .ok (.lconst 0, 1) := by decide +kernel
theorem dX7_chance_13 : decode cX7_chance 13 = .ok (.ldc2_w 246, 3) := by decide +kernel
theorem dX7_chance_16 : decode cX7_chance 16 = .ok (.invokestatic 83, 3) := by decide +kernel
theorem dX7_chance_19 : decode cX7_chance 19 = .ok (.ifCond .eq 15, 3) := by decide +kernel
theorem dX7_chance_22 : decode cX7_chance 22 = .ok (.iload_n 3, 1) := by decide +kernel
theorem dX7_chance_23 : decode cX7_chance 23 = .ok (.i2l, 1) := by decide +kernel
theorem dX7_chance_24 : decode cX7_chance 24 = .ok (.lconst 0, 1) := by decide +kernel
theorem dX7_chance_25 : decode cX7_chance 25 = .ok (.ldc2_w 204, 3) := by decide +kernel
theorem dX7_chance_28 : decode cX7_chance 28 = .ok (.invokestatic 83, 3) := by decide +kernel
theorem dX7_chance_31 : decode cX7_chance 31 = .ok (.ifCond .ne 6, 3) := by decide +kernel
theorem dX7_chance_34 : decode cX7_chance 34 = .ok (.bipush (-2), 2) := by decide +kernel
theorem dX7_chance_36 : decode cX7_chance 36 = .ok (.ireturn, 1) := by decide +kernel
theorem dX7_chance_37 : decode cX7_chance 37 = .ok (.aload_n 0, 1) := by decide +kernel
theorem dX7_chance_38 : decode cX7_chance 38 = .ok (.iconst 0, 1) := by decide +kernel
theorem dX7_chance_39 : decode cX7_chance 39 = .ok (.iload_n 1, 1) := by decide +kernel
theorem dX7_chance_40 : decode cX7_chance 40 = .ok (.invokevirtual 137, 3) := by decide +kernel
theorem dX7_chance_43 : decode cX7_chance 43 = .ok (.ifCond .eq 16, 3) := by decide +kernel
theorem dX7_chance_46 : decode cX7_chance 46 = .ok (.aload_n 0, 1) := by decide +kernel
theorem dX7_chance_47 : decode cX7_chance 47 = .ok (.getfield 13, 3) := by decide +kernel
theorem dX7_chance_50 : decode cX7_chance 50 = .ok (.iload_n 1, 1) := by decide +kernel
theorem dX7_chance_51 : decode cX7_chance 51 = .ok (.iaload, 1) := by decide +kernel
theorem dX7_chance_52 : decode cX7_chance 52 = .ok (.ifCond .ne 7, 3) := by decide +kernel
theorem dX7_chance_55 : decode cX7_chance 55 = .ok (.iconst 0, 1) := by decide +kernel
theorem dX7_chance_56 : decode cX7_chance 56 = .ok (.goto 9, 3) := by decide +kernel
theorem dX7_chance_59 : decode cX7_chance 59 = .ok (.aload_n 0, 1) := by decide +kernel
theorem dX7_chance_60 : decode cX7_chance 60 = .ok (.getfield 25, 3) := by decide +kernel
theorem dX7_chance_63 : decode cX7_chance 63 = .ok (.iload_n 1, 1) := by decide +kernel
theorem dX7_chance_64 : decode cX7_chance 64 = .ok (.iaload, 1) := by decide +kernel
theorem dX7_chance_65 : decode cX7_chance 65 = .ok (.istore 5, 2) := by decide +kernel
theorem dX7_chance_67 : decode cX7_chance 67 = .ok (.iconst 0, 1) := by decide +kernel
theorem dX7_chance_68 : decode cX7_chance 68 = .ok (.istore 6, 2) := by decide +kernel
theorem dX7_chance_70 : decode cX7_chance 70 = .ok (.iconst 0, 1) := by decide +kernel
theorem dX7_chance_71 : decode cX7_chance 71 = .ok (.istore 7, 2) := by decide +kernel
theorem dX7_chance_73 : decode cX7_chance 73 = .ok (.iconst 0, 1) := by decide +kernel
theorem dX7_chance_74 : decode cX7_chance 74 = .ok (.istore 8, 2) := by decide +kernel
theorem dX7_chance_76 : decode cX7_chance 76 = .ok (.iload 8, 2) := by decide +kernel
theorem dX7_chance_78 : decode cX7_chance 78 = .ok (.bipush 63, 2) := by decide +kernel
theorem dX7_chance_80 : decode cX7_chance 80 = .ok (.if_icmp .gt 131, 3) := by decide +kernel
theorem dX7_chance_83 : decode cX7_chance 83 = .ok (.iload 8, 2) := by decide +kernel
theorem dX7_chance_85 : decode cX7_chance 85 = .ok (.iload 5, 2) := by decide +kernel
theorem dX7_chance_87 : decode cX7_chance 87 = .ok (.iconst (-1), 1) := by decide +kernel
theorem dX7_chance_88 : decode cX7_chance 88 = .ok (.ixor, 1) := by decide +kernel
theorem dX7_chance_89 : decode cX7_chance 89 = .ok (.iand, 1) := by decide +kernel
theorem dX7_chance_90 : decode cX7_chance 90 = .ok (.ifCond .ne 115, 3) := by decide +kernel
theorem dX7_chance_93 : decode cX7_chance 93 = .ok (.iconst 1, 1) := by decide +kernel
theorem dX7_chance_94 : decode cX7_chance 94 = .ok (.istore 9, 2) := by decide +kernel
theorem dX7_chance_96 : decode cX7_chance 96 = .ok (.aload_n 0, 1) := by decide +kernel
theorem dX7_chance_97 : decode cX7_chance 97 = .ok (.invokevirtual 186, 3) := by decide +kernel
theorem dX7_chance_100 : decode cX7_chance 100 = .ok (.iconst 0, 1) := by decide +kernel
theorem dX7_chance_101 : decode cX7_chance 101 = .ok (.istore 10, 2) := by decide +kernel
theorem dX7_chance_103 : decode cX7_chance 103 = .ok (.iload 10, 2) := by decide +kernel
theorem dX7_chance_105 : decode cX7_chance 105 = .ok (.bipush 6, 2) := by decide +kernel
theorem dX7_chance_107 : decode cX7_chance 107 = .ok (.if_icmp .ge 64, 3) := by decide +kernel
theorem dX7_chance_110 : decode cX7_chance 110 = .ok (.iload 9, 2) := by decide +kernel
theorem dX7_chance_112 : decode cX7_chance 112 = .ok (.iload 5, 2) := by decide +kernel
theorem dX7_chance_114 : decode cX7_chance 114 = .ok (.iload 10, 2) := by decide +kernel
theorem dX7_chance_116 : decode cX7_chance 116 = .ok (.invokestatic 98, 3) := by decide +kernel
theorem dX7_chance_119 : decode cX7_chance 119 = .ok (.ifCond .ne 7, 3) := by decide +kernel
theorem dX7_chance_122 : decode cX7_chance 122 = .ok (.iconst 1, 1) := by decide +kernel
theorem dX7_chance_123 : decode cX7_chance 123 = .ok (.goto 21, 3) := by decide +kernel
theorem dX7_chance_126 : decode cX7_chance 126 = .ok (.iload 8, 2) := by decide +kernel
theorem dX7_chance_128 : decode cX7_chance 128 = .ok (.iload 10, 2) := by decide +kernel
theorem dX7_chance_130 : decode cX7_chance 130 = .ok (.invokestatic 98, 3) := by decide +kernel
theorem dX7_chance_133 : decode cX7_chance 133 = .ok (.ifCond .eq 7, 3) := by decide +kernel
theorem dX7_chance_136 : decode cX7_chance 136 = .ok (.iload_n 3, 1) := by decide +kernel
theorem dX7_chance_137 : decode cX7_chance 137 = .ok (.goto 7, 3) := by decide +kernel
theorem dX7_chance_140 : decode cX7_chance 140 = .ok (.bipush 10, 2) := by decide +kernel
theorem dX7_chance_142 : decode cX7_chance 142 = .ok (.iload_n 3, 1) := by decide +kernel
theorem dX7_chance_143 : decode cX7_chance 143 = .ok (.isub, 1) := by decide +kernel
theorem dX7_chance_144 : decode cX7_chance 144 = .ok (.imul, 1) := by decide +kernel
theorem dX7_chance_145 : decode cX7_chance 145 = .ok (.istore 9, 2) := by decide +kernel
theorem dX7_chance_147 : decode cX7_chance 147 = .ok (.iload 8, 2) := by decide +kernel
theorem dX7_chance_149 : decode cX7_chance 149 = .ok (.iload 10, 2) := by decide +kernel
theorem dX7_chance_151 : decode cX7_chance 151 = .ok (.invokestatic 98, 3) := by decide +kernel
theorem dX7_chance_154 : decode cX7_chance 154 = .ok (.ifCond .eq 11, 3) := by decide +kernel
theorem dX7_chance_157 : decode cX7_chance 157 = .ok (.aload_n 0, 1) := by decide +kernel
theorem dX7_chance_158 : decode cX7_chance 158 = .ok (.iconst 1, 1) := by decide +kernel
theorem dX7_chance_159 : decode cX7_chance 159 = .ok (.iload_n 1, 1) := by decide +kernel
theorem dX7_chance_160 : decode cX7_chance 160 = .ok (.iload 10, 2) := by decide +kernel
theorem dX7_chance_162 : decode cX7_chance 162 = .ok (.invokevirtual 173, 3) := by decide +kernel
theorem dX7_chance_165 : decode cX7_chance 165 = .ok (.iinc 10 1, 3) := by decide +kernel
theorem dX7_chance_168 : decode cX7_chance 168 = .ok (.goto (-65), 3) := by decide +kernel
theorem dX7_chance_171 : decode cX7_chance 171 = .ok (.aload_n 0, 1) := by decide +kernel
theorem dX7_chance_172 : decode cX7_chance 172 = .ok (.iconst 1, 1) := by decide +kernel
theorem dX7_chance_173 : decode cX7_chance 173 = .ok (.invokevirtual 160, 3) := by decide +kernel
theorem dX7_chance_176 : decode cX7_chance 176 = .ok (.pop, 1) := by decide +kernel
theorem dX7_chance_177 : decode cX7_chance 177 = .ok (.iload 7, 2) := by decide +kernel
theorem dX7_chance_179 : decode cX7_chance 179 = .ok (.iload 9, 2) := by decide +kernel
