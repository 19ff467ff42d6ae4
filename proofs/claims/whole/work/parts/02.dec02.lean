theorem dX6_chance_127 : decode cX6_chance 127 = .ok (.isub, 1) := by decide +kernel
theorem dX6_chance_128 : decode cX6_chance 128 = .ok (.iload 6, 2) := by decide +kernel
theorem dX6_chance_130 : decode cX6_chance 130 = .ok (.iload 9, 2) := by decide +kernel
theorem dX6_chance_132 : decode cX6_chance 132 = .ok (.isub, 1) := by decide +kernel
theorem dX6_chance_133 : decode cX6_chance 133 = .ok (.invokestatic 279, 3) := by decide +kernel
theorem dX6_chance_136 : decode cX6_chance 136 = .ok (.imul, 1) := by decide +kernel
theorem dX6_chance_137 : decode cX6_chance 137 = .ok (.iadd, 1) := by decide +kernel
theorem dX6_chance_138 : decode cX6_chance 138 = .ok (.istore 7, 2) := by decide +kernel
theorem dX6_chance_140 : decode cX6_chance 140 = .ok (.iinc 8 1, 3) := by decide +kernel
theorem dX6_chance_143 : decode cX6_chance 143 = .ok (.goto (-62), 3) := by decide +kernel
theorem dX6_chance_146 : decode cX6_chance 146 = .ok (.iload 7, 2) := by decide +kernel
theorem dX6_chance_148 : decode cX6_chance 148 = .ok (.bipush 10, 2) := by decide +kernel
theorem dX6_chance_150 : decode cX6_chance 150 = .ok (.iload 6, 2) := by decide +kernel
theorem dX6_chance_152 : decode cX6_chance 152 = .ok (.invokestatic 279, 3) := by decide +kernel
theorem dX6_chance_155 : decode cX6_chance 155 = .ok (.iload 4, 2) := by decide +kernel
theorem dX6_chance_157 : decode cX6_chance 157 = .ok (.invokestatic 256, 3) := by decide +kernel
theorem dX6_chance_160 : decode cX6_chance 160 = .ok (.ireturn, 1) := by decide +kernel
theorem dX6_seed_0 : decode cX6_seed 0 = .ok (.aload_n 0, 1) := by decide +kernel
theorem dX6_seed_1 : decode cX6_seed 1 = .ok (.getfield 282, 3) := by decide +kernel
theorem dX6_seed_4 : decode cX6_seed 4 = .ok (.lstore_n 3, 1) := by decide +kernel
theorem dX6_seed_5 : decode cX6_seed 5 = .ok (.aload_n 0, 1) := by decide +kernel
theorem dX6_seed_6 : decode cX6_seed 6 = .ok (.lload_n 1, 1) := by decide +kernel
theorem dX6_seed_7 : decode cX6_seed 7 = .ok (.putfield 282, 3) := by decide +kernel
theorem dX6_seed_10 : decode cX6_seed 10 = .ok (.lload_n 3, 1) := by decide +kernel
theorem dX6_seed_11 : decode cX6_seed 11 = .ok (.lreturn, 1) := by decide +kernel
theorem dX6_weeks_0 : decode cX6_weeks 0 = .ok (.iload_n 1, 1) := by decide +kernel
theorem dX6_weeks_1 : decode cX6_weeks 1 = .ok (.iconst 1, 1) := by decide +kernel
theorem dX6_weeks_2 : decode cX6_weeks 2 = .ok (.bipush 20, 2) := by decide +kernel
theorem dX6_weeks_4 : decode cX6_weeks 4 = .ok (.invokestatic 78, 3) := by decide +kernel
theorem dX6_weeks_7 : decode cX6_weeks 7 = .ok (.ifCond .eq 6, 3) := by decide +kernel
theorem dX6_weeks_10 : decode cX6_weeks 10 = .ok (.bipush (-2), 2) := by decide +kernel
theorem dX6_weeks_12 : decode cX6_weeks 12 = .ok (.ireturn, 1) := by decide +kernel
theorem dX6_weeks_13 : decode cX6_weeks 13 = .ok (.aload_n 0, 1) := by decide +kernel
theorem dX6_weeks_14 : decode cX6_weeks 14 = .ok (.getfield 33, 3) := by decide +kernel
theorem dX6_weeks_17 : decode cX6_weeks 17 = .ok (.aload_n 0, 1) := by decide +kernel
theorem dX6_weeks_18 : decode cX6_weeks 18 = .ok (.getfield 29, 3) := by decide +kernel
theorem dX6_weeks_21 : decode cX6_weeks 21 = .ok (.invokevirtual 240, 3) := by decide +kernel
theorem dX6_weeks_24 : decode cX6_weeks 24 = .ok (.iconst 0, 1) := by decide +kernel
theorem dX6_weeks_25 : decode cX6_weeks 25 = .ok (.istore_n 2, 1) := by decide +kernel
theorem dX6_weeks_26 : decode cX6_weeks 26 = .ok (.iload_n 2, 1) := by decide +kernel
theorem dX6_weeks_27 : decode cX6_weeks 27 = .ok (.iload_n 1, 1) := by decide +kernel
theorem dX6_weeks_28 : decode cX6_weeks 28 = .ok (.if_icmp .ge 62, 3) := by decide +kernel
theorem dX6_weeks_31 : decode cX6_weeks 31 = .ok (.aload_n 0, 1) := by decide +kernel
theorem dX6_weeks_32 : decode cX6_weeks 32 = .ok (.aload_n 0, 1) := by decide +kernel
theorem dX6_weeks_33 : decode cX6_weeks 33 = .ok (.getfield 282, 3) := by decide +kernel
theorem dX6_weeks_36 : decode cX6_weeks 36 = .ok (.ldc2_w 286, 3) := by decide +kernel
theorem dX6_weeks_39 : decode cX6_weeks 39 = .ok (.lmul, 1) := by decide +kernel
theorem dX6_weeks_40 : decode cX6_weeks 40 = .ok (.ldc2_w 288, 3) := by decide +kernel
theorem dX6_weeks_43 : decode cX6_weeks 43 = .ok (.ladd, 1) := by decide +kernel
theorem dX6_weeks_44 : decode cX6_weeks 44 = .ok (.putfield 282, 3) := by decide +kernel
theorem dX6_weeks_47 : decode cX6_weeks 47 = .ok (.aload_n 0, 1) := by decide +kernel
theorem dX6_weeks_48 : decode cX6_weeks 48 = .ok (.getfield 282, 3) := by decide +kernel
theorem dX6_weeks_51 : decode cX6_weeks 51 = .ok (.bipush 33, 2) := by decide +kernel
theorem dX6_weeks_53 : decode cX6_weeks 53 = .ok (.lushr, 1) := by decide +kernel
theorem dX6_weeks_54 : decode cX6_weeks 54 = .ok (.l2i, 1) := by decide +kernel
theorem dX6_weeks_55 : decode cX6_weeks 55 = .ok (.bipush 60, 2) := by decide +kernel
theorem dX6_weeks_57 : decode cX6_weeks 57 = .ok (.irem, 1) := by decide +kernel
theorem dX6_weeks_58 : decode cX6_weeks 58 = .ok (.istore_n 3, 1) := by decide +kernel
theorem dX6_weeks_59 : decode cX6_weeks 59 = .ok (.aload_n 0, 1) := by decide +kernel
theorem dX6_weeks_60 : decode cX6_weeks 60 = .ok (.iload_n 3, 1) := by decide +kernel
theorem dX6_weeks_61 : decode cX6_weeks 61 = .ok (.bipush 10, 2) := by decide +kernel
theorem dX6_weeks_63 : decode cX6_weeks 63 = .ok (.idiv, 1) := by decide +kernel
theorem dX6_weeks_64 : decode cX6_weeks 64 = .ok (.iload_n 3, 1) := by decide +kernel
theorem dX6_weeks_65 : decode cX6_weeks 65 = .ok (.bipush 10, 2) := by decide +kernel
theorem dX6_weeks_67 : decode cX6_weeks 67 = .ok (.irem, 1) := by decide +kernel
theorem dX6_weeks_68 : decode cX6_weeks 68 = .ok (.invokevirtual 290, 3) := by decide +kernel
theorem dX6_weeks_71 : decode cX6_weeks 71 = .ok (.pop, 1) := by decide +kernel
theorem dX6_weeks_72 : decode cX6_weeks 72 = .ok (.aload_n 0, 1) := by decide +kernel
theorem dX6_weeks_73 : decode cX6_weeks 73 = .ok (.getfield 33, 3) := by decide +kernel
theorem dX6_weeks_76 : decode cX6_weeks 76 = .ok (.aload_n 0, 1) := by decide +kernel
theorem dX6_weeks_77 : decode cX6_weeks 77 = .ok (.getfield 19, 3) := by decide +kernel
theorem dX6_weeks_80 : decode cX6_weeks 80 = .ok (.invokevirtual 150, 3) := by decide +kernel
theorem dX6_weeks_83 : decode cX6_weeks 83 = .ok (.pop, 1) := by decide +kernel
theorem dX6_weeks_84 : decode cX6_weeks 84 = .ok (.iinc 2 1, 3) := by decide +kernel
theorem dX6_weeks_87 : decode cX6_weeks 87 = .ok (.goto (-61), 3) := by decide +kernel
theorem dX6_weeks_90 : decode cX6_weeks 90 = .ok (.aload_n 0, 1) := by decide +kernel
theorem dX6_weeks_91 : decode cX6_weeks 91 = .ok (.getfield 33, 3) := by decide +kernel
theorem dX6_weeks_94 : decode cX6_weeks 94 = .ok (.aload_n 0, 1) := by decide +kernel
theorem dX6_weeks_95 : decode cX6_weeks 95 = .ok (.getfield 19, 3) := by decide +kernel
theorem dX6_weeks_98 : decode cX6_weeks 98 = .ok (.invokevirtual 293, 3) := by decide +kernel
theorem dX6_weeks_101 : decode cX6_weeks 101 = .ok (.ireturn, 1) := by decide +kernel
theorem dX6_keep_0 : decode cX6_keep 0 = .ok (.aload_n 0, 1) := by decide +kernel
theorem dX6_keep_1 : decode cX6_keep 1 = .ok (.iload_n 1, 1) := by decide +kernel
theorem dX6_keep_2 : decode cX6_keep 2 = .ok (.invokevirtual 296, 3) := by decide +kernel
theorem dX6_keep_5 : decode cX6_keep 5 = .ok (.astore_n 2, 1) := by decide +kernel
theorem dX6_keep_6 : decode cX6_keep 6 = .ok (.aload_n 2, 1) := by decide +kernel
theorem dX6_keep_7 : decode cX6_keep 7 = .ok (.ifnonnull 5, 3) := by decide +kernel
theorem dX6_keep_10 : decode cX6_keep 10 = .ok (.iconst (-1), 1) := by decide +kernel
theorem dX6_keep_11 : decode cX6_keep 11 = .ok (.ireturn, 1) := by decide +kernel
theorem dX6_keep_12 : decode cX6_keep 12 = .ok (.aload_n 2, 1) := by decide +kernel
theorem dX6_keep_13 : decode cX6_keep 13 = .ok (.aload_n 0, 1) := by decide +kernel
theorem dX6_keep_14 : decode cX6_keep 14 = .ok (.getfield 29, 3) := by decide +kernel
theorem dX6_keep_17 : decode cX6_keep 17 = .ok (.invokevirtual 240, 3) := by decide +kernel
theorem dX6_keep_20 : decode cX6_keep 20 = .ok (.aload_n 0, 1) := by decide +kernel
theorem dX6_keep_21 : decode cX6_keep 21 = .ok (.getfield 54, 3) := by decide +kernel
theorem dX6_keep_24 : decode cX6_keep 24 = .ok (.iload_n 1, 1) := by decide +kernel
theorem dX6_keep_25 : decode cX6_keep 25 = .ok (.iconst 1, 1) := by decide +kernel
theorem dX6_keep_26 : decode cX6_keep 26 = .ok (.bastore, 1) := by decide +kernel
theorem dX6_keep_27 : decode cX6_keep 27 = .ok (.aload_n 0, 1) := by decide +kernel
theorem dX6_keep_28 : decode cX6_keep 28 = .ok (.getfield 29, 3) := by decide +kernel
theorem dX6_keep_31 : decode cX6_keep 31 = .ok (.getfield 129, 3) := by decide +kernel
theorem dX6_keep_34 : decode cX6_keep 34 = .ok (.ireturn, 1) := by decide +kernel
theorem dX6_again_0 : decode cX6_again 0 = .ok (.aload_n 0, 1) := by decide +kernel
theorem dX6_again_1 : decode cX6_again 1 = .ok (.iload_n 1, 1) := by decide +kernel
theorem dX6_again_2 : decode cX6_again 2 = .ok (.invokevirtual 296, 3) := by decide +kernel
theorem dX6_again_5 : decode cX6_again 5 = .ok (.astore_n 2, 1) := by decide +kernel
theorem dX6_again_6 : decode cX6_again 6 = .ok (.aload_n 2, 1) := by decide +kernel
theorem dX6_again_7 : decode cX6_again 7 = .ok (.ifnonnull 5, 3) := by decide +kernel
theorem dX6_again_10 : decode cX6_again 10 = .ok (.iconst (-1), 1) := by decide +kernel
theorem dX6_again_11 : decode cX6_again 11 = .ok (.ireturn, 1) := by decide +kernel
theorem dX6_again_12 : decode cX6_again 12 = .ok (.aload_n 0, 1) := by decide +kernel
theorem dX6_again_13 : decode cX6_again 13 = .ok (.getfield 54, 3) := by decide +kernel
theorem dX6_again_16 : decode cX6_again 16 = .ok (.iload_n 1, 1) := by decide +kernel
theorem dX6_again_17 : decode cX6_again 17 = .ok (.baload, 1) := by decide +kernel
theorem dX6_again_18 : decode cX6_again 18 = .ok (.ifCond .ne 6, 3) := by decide +kernel
theorem dX6_again_21 : decode cX6_again 21 = .ok (.bipush (-3), 2) := by decide +kernel
theorem dX6_again_23 : decode cX6_again 23 = .ok (.ireturn, 1) := by decide +kernel
theorem dX6_again_24 : decode cX6_again 24 = .ok (.aload_n 0, 1) := by decide +kernel
theorem dX6_again_25 : decode cX6_again 25 = .ok (.getfield 29, 3) := by decide +kernel
theorem dX6_again_28 : decode cX6_again 28 = .ok (.aload_n 2, 1) := by decide +kernel
theorem dX6_again_29 : decode cX6_again 29 = .ok (.invokevirtual 240, 3) := by decide +kernel
theorem dX6_again_32 : decode cX6_again 32 = .ok (.aload_n 0, 1) := by decide +kernel
theorem dX6_again_33 : decode cX6_again 33 = .ok (.getfield 39, 3) := by decide +kernel
theorem dX6_again_36 : decode cX6_again 36 = .ok (.iconst 0, 1) := by decide +kernel
theorem dX6_again_37 : decode cX6_again 37 = .ok (.putfield 98, 3) := by decide +kernel
theorem dX6_again_40 : decode cX6_again 40 = .ok (.aload_n 0, 1) := by decide +kernel
theorem dX6_again_41 : decode cX6_again 41 = .ok (.getfield 29, 3) := by decide +kernel
theorem dX6_again_44 : decode cX6_again 44 = .ok (.getfield 129, 3) := by decide +kernel
theorem dX6_again_47 : decode cX6_again 47 = .ok (.ireturn, 1) := by decide +kernel
theorem dX6_count_0 : decode cX6_count 0 = .ok (.iload_n 1, 1) := by decide +kernel
theorem dX6_count_1 : decode cX6_count 1 = .ok (.tableswitch 127 0 8 #[51, 59, 67, 75, 83, 91, 103, 111, 119], 51) := by decide +kernel
theorem dX6_count_52 : decode cX6_count 52 = .ok (.aload_n 0, 1) := by decide +kernel
theorem dX6_count_53 : decode cX6_count 53 = .ok (.getfield 12, 3) := by decide +kernel
theorem dX6_count_56 : decode cX6_count 56 = .ok (.getfield 86, 3) := by decide +kernel
theorem dX6_count_59 : decode cX6_count 59 = .ok (.ireturn, 1) := by decide +kernel
theorem dX6_count_60 : decode cX6_count 60 = .ok (.aload_n 0, 1) := by decide +kernel
theorem dX6_count_61 : decode cX6_count 61 = .ok (.getfield 19, 3) := by decide +kernel
theorem dX6_count_64 : decode cX6_count 64 = .ok (.getfield 101, 3) := by decide +kernel
theorem dX6_count_67 : decode cX6_count 67 = .ok (.ireturn, 1) := by decide +kernel
theorem dX6_count_68 : decode cX6_count 68 = .ok (.aload_n 0, 1) := by decide +kernel
theorem dX6_count_69 : decode cX6_count 69 = .ok (.getfield 19, 3) := by decide +kernel
theorem dX6_count_72 : decode cX6_count 72 = .ok (.getfield 104, 3) := by decide +kernel
theorem dX6_count_75 : decode cX6_count 75 = .ok (.ireturn, 1) := by decide +kernel
theorem dX6_count_76 : decode cX6_count 76 = .ok (.aload_n 0, 1) := by decide +kernel
theorem dX6_count_77 : decode cX6_count 77 = .ok (.getfield 29, 3) := by decide +kernel
theorem dX6_count_80 : decode cX6_count 80 = .ok (.getfield 129, 3) := by decide +kernel
theorem dX6_count_83 : decode cX6_count 83 = .ok (.ireturn, 1) := by decide +kernel
theorem dX6_count_84 : decode cX6_count 84 = .ok (.aload_n 0, 1) := by decide +kernel
theorem dX6_count_85 : decode cX6_count 85 = .ok (.getfield 29, 3) := by decide +kernel
theorem dX6_count_88 : decode cX6_count 88 = .ok (.invokevirtual 300, 3) := by decide +kernel
theorem dX6_count_91 : decode cX6_count 91 = .ok (.ireturn, 1) := by decide +kernel
theorem dX6_count_92 : decode cX6_count 92 = .ok (.aload_n 0, 1) := by decide +kernel
theorem dX6_count_93 : decode cX6_count 93 = .ok (.getfield 29, 3) := by decide +kernel
theorem dX6_count_96 : decode cX6_count 96 = .ok (.aload_n 0, 1) := by decide +kernel
theorem dX6_count_97 : decode cX6_count 97 = .ok (.getfield 19, 3) := by decide +kernel
theorem dX6_count_100 : decode cX6_count 100 = .ok (.invokevirtual 293, 3) := by decide +kernel
theorem dX6_count_103 : decode cX6_count 103 = .ok (.ireturn, 1) := by decide +kernel
theorem dX6_count_104 : decode cX6_count 104 = .ok (.aload_n 0, 1) := by decide +kernel
theorem dX6_count_105 : decode cX6_count 105 = .ok (.getfield 29, 3) := by decide +kernel
theorem dX6_count_108 : decode cX6_count 108 = .ok (.invokevirtual 304, 3) := by decide +kernel
theorem dX6_count_111 : decode cX6_count 111 = .ok (.ireturn, 1) := by decide +kernel
theorem dX6_count_112 : decode cX6_count 112 = .ok (.aload_n 0, 1) := by decide +kernel
theorem dX6_count_113 : decode cX6_count 113 = .ok (.getfield 39, 3) := by decide +kernel
theorem dX6_count_116 : decode cX6_count 116 = .ok (.getfield 98, 3) := by decide +kernel
theorem dX6_count_119 : decode cX6_count 119 = .ok (.ireturn, 1) := by decide +kernel
theorem dX6_count_120 : decode cX6_count 120 = .ok (.aload_n 0, 1) := by decide +kernel
theorem dX6_count_121 : decode cX6_count 121 = .ok (.getfield 46, 3) := by decide +kernel
theorem dX6_count_124 : decode cX6_count 124 = .ok (.getfield 252, 3) := by decide +kernel
theorem dX6_count_127 : decode cX6_count 127 = .ok (.ireturn, 1) := by decide +kernel
theorem dX6_count_128 : decode cX6_count 128 = .ok (.bipush (-2), 2) := by decide +kernel
theorem dX6_count_130 : decode cX6_count 130 = .ok (.ireturn, 1) := by decide +kernel
theorem dX6_saidIn_0 : decode cX6_saidIn 0 = .ok (.iload_n 2, 1) := by decide +kernel
theorem dX6_saidIn_1 : decode cX6_saidIn 1 = .ok (.istore 4, 2) := by decide +kernel
theorem dX6_saidIn_3 : decode cX6_saidIn 3 = .ok (.iconst 0, 1) := by decide +kernel
theorem dX6_saidIn_4 : decode cX6_saidIn 4 = .ok (.istore 5, 2) := by decide +kernel
theorem dX6_saidIn_6 : decode cX6_saidIn 6 = .ok (.iload 5, 2) := by decide +kernel
theorem dX6_saidIn_8 : decode cX6_saidIn 8 = .ok (.iload_n 3, 1) := by decide +kernel
theorem dX6_saidIn_9 : decode cX6_saidIn 9 = .ok (.if_icmp .ge 46, 3) := by decide +kernel
theorem dX6_saidIn_12 : decode cX6_saidIn 12 = .ok (.iload 5, 2) := by decide +kernel
theorem dX6_saidIn_14 : decode cX6_saidIn 14 = .ok (.bipush 8, 2) := by decide +kernel
theorem dX6_saidIn_16 : decode cX6_saidIn 16 = .ok (.if_icmp .ge 39, 3) := by decide +kernel
theorem dX6_saidIn_19 : decode cX6_saidIn 19 = .ok (.aload_n 0, 1) := by decide +kernel
theorem dX6_saidIn_20 : decode cX6_saidIn 20 = .ok (.getfield 19, 3) := by decide +kernel
theorem dX6_saidIn_23 : decode cX6_saidIn 23 = .ok (.iload_n 1, 1) := by decide +kernel
theorem dX6_saidIn_24 : decode cX6_saidIn 24 = .ok (.iload 4, 2) := by decide +kernel
theorem dX6_saidIn_26 : decode cX6_saidIn 26 = .ok (.aload_n 0, 1) := by decide +kernel
theorem dX6_saidIn_27 : decode cX6_saidIn 27 = .ok (.getfield 29, 3) := by decide +kernel
theorem dX6_saidIn_30 : decode cX6_saidIn 30 = .ok (.iload_n 1, 1) := by decide +kernel
theorem dX6_saidIn_31 : decode cX6_saidIn 31 = .ok (.invokevirtual 123, 3) := by decide +kernel
theorem dX6_saidIn_34 : decode cX6_saidIn 34 = .ok (.aload_n 0, 1) := by decide +kernel
theorem dX6_saidIn_35 : decode cX6_saidIn 35 = .ok (.getfield 29, 3) := by decide +kernel
theorem dX6_saidIn_38 : decode cX6_saidIn 38 = .ok (.getfield 129, 3) := by decide +kernel
theorem dX6_saidIn_41 : decode cX6_saidIn 41 = .ok (.iload 5, 2) := by decide +kernel
theorem dX6_saidIn_43 : decode cX6_saidIn 43 = .ok (.iadd, 1) := by decide +kernel
theorem dX6_saidIn_44 : decode cX6_saidIn 44 = .ok (.invokevirtual 307, 3) := by decide +kernel
theorem dX6_saidIn_47 : decode cX6_saidIn 47 = .ok (.istore 4, 2) := by decide +kernel
theorem dX6_saidIn_49 : decode cX6_saidIn 49 = .ok (.iinc 5 1, 3) := by decide +kernel
theorem dX6_saidIn_52 : decode cX6_saidIn 52 = .ok (.goto (-46), 3) := by decide +kernel
theorem dX6_saidIn_55 : decode cX6_saidIn 55 = .ok (.iload 4, 2) := by decide +kernel
theorem dX6_saidIn_57 : decode cX6_saidIn 57 = .ok (.ireturn, 1) := by decide +kernel
theorem dX6_valueIn_0 : decode cX6_valueIn 0 = .ok (.aload_n 0, 1) := by decide +kernel
theorem dX6_valueIn_1 : decode cX6_valueIn 1 = .ok (.getfield 19, 3) := by decide +kernel
theorem dX6_valueIn_4 : decode cX6_valueIn 4 = .ok (.aload_n 0, 1) := by decide +kernel
theorem dX6_valueIn_5 : decode cX6_valueIn 5 = .ok (.getfield 29, 3) := by decide +kernel
theorem dX6_valueIn_8 : decode cX6_valueIn 8 = .ok (.getfield 129, 3) := by decide +kernel
theorem dX6_valueIn_11 : decode cX6_valueIn 11 = .ok (.iload_n 3, 1) := by decide +kernel
theorem dX6_valueIn_12 : decode cX6_valueIn 12 = .ok (.iadd, 1) := by decide +kernel
theorem dX6_valueIn_13 : decode cX6_valueIn 13 = .ok (.iload_n 1, 1) := by decide +kernel
theorem dX6_valueIn_14 : decode cX6_valueIn 14 = .ok (.aload_n 0, 1) := by decide +kernel
theorem dX6_valueIn_15 : decode cX6_valueIn 15 = .ok (.iload_n 1, 1) := by decide +kernel
theorem dX6_valueIn_16 : decode cX6_valueIn 16 = .ok (.iload_n 2, 1) := by decide +kernel
theorem dX6_valueIn_17 : decode cX6_valueIn 17 = .ok (.iload_n 3, 1) := by decide +kernel
theorem dX6_valueIn_18 : decode cX6_valueIn 18 = .ok (.invokevirtual 206, 3) := by decide +kernel
theorem dX6_valueIn_21 : decode cX6_valueIn 21 = .ok (.aload_n 0, 1) := by decide +kernel
theorem dX6_valueIn_22 : decode cX6_valueIn 22 = .ok (.getfield 29, 3) := by decide +kernel
theorem dX6_valueIn_25 : decode cX6_valueIn 25 = .ok (.iload_n 1, 1) := by decide +kernel
theorem dX6_valueIn_26 : decode cX6_valueIn 26 = .ok (.invokevirtual 123, 3) := by decide +kernel
theorem dX6_valueIn_29 : decode cX6_valueIn 29 = .ok (.invokevirtual 310, 3) := by decide +kernel
theorem dX6_valueIn_32 : decode cX6_valueIn 32 = .ok (.ireturn, 1) := by decide +kernel
theorem dX6_coinValueIn_0 : decode cX6_coinValueIn 0 = .ok (.aload_n 0, 1) := by decide +kernel
theorem dX6_coinValueIn_1 : decode cX6_coinValueIn 1 = .ok (.getfield 29, 3) := by decide +kernel
theorem dX6_coinValueIn_4 : decode cX6_coinValueIn 4 = .ok (.iload_n 2, 1) := by decide +kernel
theorem dX6_coinValueIn_5 : decode cX6_coinValueIn 5 = .ok (.invokevirtual 123, 3) := by decide +kernel
theorem dX6_coinValueIn_8 : decode cX6_coinValueIn 8 = .ok (.istore 5, 2) := by decide +kernel
theorem dX6_coinValueIn_10 : decode cX6_coinValueIn 10 = .ok (.aload_n 0, 1) := by decide +kernel
theorem dX6_coinValueIn_11 : decode cX6_coinValueIn 11 = .ok (.getfield 19, 3) := by decide +kernel
theorem dX6_coinValueIn_14 : decode cX6_coinValueIn 14 = .ok (.iload_n 1, 1) := by decide +kernel
theorem dX6_coinValueIn_15 : decode cX6_coinValueIn 15 = .ok (.invokevirtual 313, 3) := by decide +kernel
theorem dX6_coinValueIn_18 : decode cX6_coinValueIn 18 = .ok (.istore 6, 2) := by decide +kernel
theorem dX6_coinValueIn_20 : decode cX6_coinValueIn 20 = .ok (.aload_n 0, 1) := by decide +kernel
theorem dX6_coinValueIn_21 : decode cX6_coinValueIn 21 = .ok (.getfield 29, 3) := by decide +kernel
theorem dX6_coinValueIn_24 : decode cX6_coinValueIn 24 = .ok (.iload_n 1, 1) := by decide +kernel
theorem dX6_coinValueIn_25 : decode cX6_coinValueIn 25 = .ok (.iload_n 2, 1) := by decide +kernel
theorem dX6_coinValueIn_26 : decode cX6_coinValueIn 26 = .ok (.invokevirtual 142, 3) := by decide +kernel
theorem dX6_coinValueIn_29 : decode cX6_coinValueIn 29 = .ok (.istore 7, 2) := by decide +kernel
theorem dX6_coinValueIn_31 : decode cX6_coinValueIn 31 = .ok (.iload_n 3, 1) := by decide +kernel
theorem dX6_coinValueIn_32 : decode cX6_coinValueIn 32 = .ok (.istore 8, 2) := by decide +kernel
theorem dX6_coinValueIn_34 : decode cX6_coinValueIn 34 = .ok (.iconst 0, 1) := by decide +kernel
theorem dX6_coinValueIn_35 : decode cX6_coinValueIn 35 = .ok (.istore 9, 2) := by decide +kernel
theorem dX6_coinValueIn_37 : decode cX6_coinValueIn 37 = .ok (.iload 9, 2) := by decide +kernel
theorem dX6_coinValueIn_39 : decode cX6_coinValueIn 39 = .ok (.iload 4, 2) := by decide +kernel
theorem dX6_coinValueIn_41 : decode cX6_coinValueIn 41 = .ok (.if_icmp .ge 60, 3) := by decide +kernel
theorem dX6_coinValueIn_44 : decode cX6_coinValueIn 44 = .ok (.iload 9, 2) := by decide +kernel
theorem dX6_coinValueIn_46 : decode cX6_coinValueIn 46 = .ok (.bipush 8, 2) := by decide +kernel
theorem dX6_coinValueIn_48 : decode cX6_coinValueIn 48 = .ok (.if_icmp .ge 53, 3) := by decide +kernel
theorem dX6_coinValueIn_51 : decode cX6_coinValueIn 51 = .ok (.iload 8, 2) := by decide +kernel
theorem dX6_coinValueIn_53 : decode cX6_coinValueIn 53 = .ok (.iload 6, 2) := by decide +kernel
theorem dX6_coinValueIn_55 : decode cX6_coinValueIn 55 = .ok (.invokestatic 209, 3) := by decide +kernel
theorem dX6_coinValueIn_58 : decode cX6_coinValueIn 58 = .ok (.ifCond .eq 13, 3) := by decide +kernel
theorem dX6_coinValueIn_61 : decode cX6_coinValueIn 61 = .ok (.iload 7, 2) := by decide +kernel
theorem dX6_coinValueIn_63 : decode cX6_coinValueIn 63 = .ok (.bipush 99, 2) := by decide +kernel
theorem dX6_coinValueIn_65 : decode cX6_coinValueIn 65 = .ok (.if_icmp .ge 6, 3) := by decide +kernel
theorem dX6_coinValueIn_68 : decode cX6_coinValueIn 68 = .ok (.iinc 7 1, 3) := by decide +kernel
theorem dX6_coinValueIn_71 : decode cX6_coinValueIn 71 = .ok (.aload_n 0, 1) := by decide +kernel
theorem dX6_coinValueIn_72 : decode cX6_coinValueIn 72 = .ok (.getfield 19, 3) := by decide +kernel
theorem dX6_coinValueIn_75 : decode cX6_coinValueIn 75 = .ok (.iload_n 2, 1) := by decide +kernel
theorem dX6_coinValueIn_76 : decode cX6_coinValueIn 76 = .ok (.iload 8, 2) := by decide +kernel
theorem dX6_coinValueIn_78 : decode cX6_coinValueIn 78 = .ok (.iload 5, 2) := by decide +kernel
theorem dX6_coinValueIn_80 : decode cX6_coinValueIn 80 = .ok (.aload_n 0, 1) := by decide +kernel
theorem dX6_coinValueIn_81 : decode cX6_coinValueIn 81 = .ok (.getfield 29, 3) := by decide +kernel
theorem dX6_coinValueIn_84 : decode cX6_coinValueIn 84 = .ok (.getfield 129, 3) := by decide +kernel
theorem dX6_coinValueIn_87 : decode cX6_coinValueIn 87 = .ok (.iload 9, 2) := by decide +kernel
theorem dX6_coinValueIn_89 : decode cX6_coinValueIn 89 = .ok (.iadd, 1) := by decide +kernel
theorem dX6_coinValueIn_90 : decode cX6_coinValueIn 90 = .ok (.invokevirtual 307, 3) := by decide +kernel
theorem dX6_coinValueIn_93 : decode cX6_coinValueIn 93 = .ok (.istore 8, 2) := by decide +kernel
theorem dX6_coinValueIn_95 : decode cX6_coinValueIn 95 = .ok (.iinc 9 1, 3) := by decide +kernel
theorem dX6_coinValueIn_98 : decode cX6_coinValueIn 98 = .ok (.goto (-61), 3) := by decide +kernel
theorem dX6_coinValueIn_101 : decode cX6_coinValueIn 101 = .ok (.iload 7, 2) := by decide +kernel
theorem dX6_coinValueIn_103 : decode cX6_coinValueIn 103 = .ok (.aload_n 0, 1) := by decide +kernel
theorem dX6_coinValueIn_104 : decode cX6_coinValueIn 104 = .ok (.getfield 19, 3) := by decide +kernel
theorem dX6_coinValueIn_107 : decode cX6_coinValueIn 107 = .ok (.aload_n 0, 1) := by decide +kernel
theorem dX6_coinValueIn_108 : decode cX6_coinValueIn 108 = .ok (.getfield 29, 3) := by decide +kernel
theorem dX6_coinValueIn_111 : decode cX6_coinValueIn 111 = .ok (.getfield 129, 3) := by decide +kernel
theorem dX6_coinValueIn_114 : decode cX6_coinValueIn 114 = .ok (.iload 4, 2) := by decide +kernel
theorem dX6_coinValueIn_116 : decode cX6_coinValueIn 116 = .ok (.iadd, 1) := by decide +kernel
theorem dX6_coinValueIn_117 : decode cX6_coinValueIn 117 = .ok (.iload_n 2, 1) := by decide +kernel
theorem dX6_coinValueIn_118 : decode cX6_coinValueIn 118 = .ok (.iload 8, 2) := by decide +kernel
theorem dX6_coinValueIn_120 : decode cX6_coinValueIn 120 = .ok (.iload 5, 2) := by decide +kernel
theorem dX6_coinValueIn_122 : decode cX6_coinValueIn 122 = .ok (.invokevirtual 310, 3) := by decide +kernel
theorem dX6_coinValueIn_125 : decode cX6_coinValueIn 125 = .ok (.imul, 1) := by decide +kernel
theorem dX6_coinValueIn_126 : decode cX6_coinValueIn 126 = .ok (.ireturn, 1) := by decide +kernel
theorem dX6_purseIn_0 : decode cX6_purseIn 0 = .ok (.iconst 0, 1) := by decide +kernel
theorem dX6_purseIn_1 : decode cX6_purseIn 1 = .ok (.istore_n 3, 1) := by decide +kernel
theorem dX6_purseIn_2 : decode cX6_purseIn 2 = .ok (.iconst 0, 1) := by decide +kernel
theorem dX6_purseIn_3 : decode cX6_purseIn 3 = .ok (.istore 4, 2) := by decide +kernel
theorem dX6_purseIn_5 : decode cX6_purseIn 5 = .ok (.iload 4, 2) := by decide +kernel
theorem dX6_purseIn_7 : decode cX6_purseIn 7 = .ok (.aload_n 0, 1) := by decide +kernel
theorem dX6_purseIn_8 : decode cX6_purseIn 8 = .ok (.getfield 19, 3) := by decide +kernel
theorem dX6_purseIn_11 : decode cX6_purseIn 11 = .ok (.getfield 101, 3) := by decide +kernel
theorem dX6_purseIn_14 : decode cX6_purseIn 14 = .ok (.if_icmp .ge 29, 3) := by decide +kernel
theorem dX6_purseIn_17 : decode cX6_purseIn 17 = .ok (.iload_n 3, 1) := by decide +kernel
theorem dX6_purseIn_18 : decode cX6_purseIn 18 = .ok (.aload_n 0, 1) := by decide +kernel
theorem dX6_purseIn_19 : decode cX6_purseIn 19 = .ok (.iload_n 1, 1) := by decide +kernel
theorem dX6_purseIn_20 : decode cX6_purseIn 20 = .ok (.iload 4, 2) := by decide +kernel
theorem dX6_purseIn_22 : decode cX6_purseIn 22 = .ok (.aload_n 0, 1) := by decide +kernel
theorem dX6_purseIn_23 : decode cX6_purseIn 23 = .ok (.getfield 29, 3) := by decide +kernel
theorem dX6_purseIn_26 : decode cX6_purseIn 26 = .ok (.iload 4, 2) := by decide +kernel
theorem dX6_purseIn_28 : decode cX6_purseIn 28 = .ok (.invokevirtual 120, 3) := by decide +kernel
theorem dX6_purseIn_31 : decode cX6_purseIn 31 = .ok (.iload_n 2, 1) := by decide +kernel
theorem dX6_purseIn_32 : decode cX6_purseIn 32 = .ok (.invokevirtual 316, 3) := by decide +kernel
theorem dX6_purseIn_35 : decode cX6_purseIn 35 = .ok (.iadd, 1) := by decide +kernel
theorem dX6_purseIn_36 : decode cX6_purseIn 36 = .ok (.istore_n 3, 1) := by decide +kernel
theorem dX6_purseIn_37 : decode cX6_purseIn 37 = .ok (.iinc 4 1, 3) := by decide +kernel
theorem dX6_purseIn_40 : decode cX6_purseIn 40 = .ok (.goto (-35), 3) := by decide +kernel
theorem dX6_purseIn_43 : decode cX6_purseIn 43 = .ok (.iload_n 3, 1) := by decide +kernel
theorem dX6_purseIn_44 : decode cX6_purseIn 44 = .ok (.ireturn, 1) := by decide +kernel
theorem dX6_valueAfterDenials_0 : decode cX6_valueAfterDenials 0 = .ok (.aload_n 0, 1) := by decide +kernel
theorem dX6_valueAfterDenials_1 : decode cX6_valueAfterDenials 1 = .ok (.getfield 29, 3) := by decide +kernel
theorem dX6_valueAfterDenials_4 : decode cX6_valueAfterDenials 4 = .ok (.iload_n 1, 1) := by decide +kernel
theorem dX6_valueAfterDenials_5 : decode cX6_valueAfterDenials 5 = .ok (.invokevirtual 120, 3) := by decide +kernel
theorem dX6_valueAfterDenials_8 : decode cX6_valueAfterDenials 8 = .ok (.iload_n 2, 1) := by decide +kernel
theorem dX6_valueAfterDenials_9 : decode cX6_valueAfterDenials 9 = .ok (.iconst (-1), 1) := by decide +kernel
theorem dX6_valueAfterDenials_10 : decode cX6_valueAfterDenials 10 = .ok (.ixor, 1) := by decide +kernel
theorem dX6_valueAfterDenials_11 : decode cX6_valueAfterDenials 11 = .ok (.iand, 1) := by decide +kernel
theorem dX6_valueAfterDenials_12 : decode cX6_valueAfterDenials 12 = .ok (.istore_n 3, 1) := by decide +kernel
theorem dX6_valueAfterDenials_13 : decode cX6_valueAfterDenials 13 = .ok (.aload_n 0, 1) := by decide +kernel
theorem dX6_valueAfterDenials_14 : decode cX6_valueAfterDenials 14 = .ok (.getfield 29, 3) := by decide +kernel
theorem dX6_valueAfterDenials_17 : decode cX6_valueAfterDenials 17 = .ok (.iload_n 1, 1) := by decide +kernel
theorem dX6_valueAfterDenials_18 : decode cX6_valueAfterDenials 18 = .ok (.invokevirtual 123, 3) := by decide +kernel
theorem dX6_valueAfterDenials_21 : decode cX6_valueAfterDenials 21 = .ok (.iload_n 2, 1) := by decide +kernel
theorem dX6_valueAfterDenials_22 : decode cX6_valueAfterDenials 22 = .ok (.ior, 1) := by decide +kernel
theorem dX6_valueAfterDenials_23 : decode cX6_valueAfterDenials 23 = .ok (.istore 4, 2) := by decide +kernel
theorem dX6_valueAfterDenials_25 : decode cX6_valueAfterDenials 25 = .ok (.aload_n 0, 1) := by decide +kernel
theorem dX6_valueAfterDenials_26 : decode cX6_valueAfterDenials 26 = .ok (.getfield 19, 3) := by decide +kernel
theorem dX6_valueAfterDenials_29 : decode cX6_valueAfterDenials 29 = .ok (.aload_n 0, 1) := by decide +kernel
theorem dX6_valueAfterDenials_30 : decode cX6_valueAfterDenials 30 = .ok (.getfield 29, 3) := by decide +kernel
theorem dX6_valueAfterDenials_33 : decode cX6_valueAfterDenials 33 = .ok (.getfield 129, 3) := by decide +kernel
theorem dX6_valueAfterDenials_36 : decode cX6_valueAfterDenials 36 = .ok (.iconst 1, 1) := by decide +kernel
theorem dX6_valueAfterDenials_37 : decode cX6_valueAfterDenials 37 = .ok (.iadd, 1) := by decide +kernel
theorem dX6_valueAfterDenials_38 : decode cX6_valueAfterDenials 38 = .ok (.iload_n 1, 1) := by decide +kernel
theorem dX6_valueAfterDenials_39 : decode cX6_valueAfterDenials 39 = .ok (.aload_n 0, 1) := by decide +kernel
theorem dX6_valueAfterDenials_40 : decode cX6_valueAfterDenials 40 = .ok (.getfield 19, 3) := by decide +kernel
theorem dX6_valueAfterDenials_43 : decode cX6_valueAfterDenials 43 = .ok (.iload_n 1, 1) := by decide +kernel
theorem dX6_valueAfterDenials_44 : decode cX6_valueAfterDenials 44 = .ok (.iload_n 3, 1) := by decide +kernel
theorem dX6_valueAfterDenials_45 : decode cX6_valueAfterDenials 45 = .ok (.iload 4, 2) := by decide +kernel
theorem dX6_valueAfterDenials_47 : decode cX6_valueAfterDenials 47 = .ok (.aload_n 0, 1) := by decide +kernel
theorem dX6_valueAfterDenials_48 : decode cX6_valueAfterDenials 48 = .ok (.getfield 29, 3) := by decide +kernel
theorem dX6_valueAfterDenials_51 : decode cX6_valueAfterDenials 51 = .ok (.getfield 129, 3) := by decide +kernel
theorem dX6_valueAfterDenials_54 : decode cX6_valueAfterDenials 54 = .ok (.invokevirtual 307, 3) := by decide +kernel
theorem dX6_valueAfterDenials_57 : decode cX6_valueAfterDenials 57 = .ok (.iload 4, 2) := by decide +kernel
theorem dX6_valueAfterDenials_59 : decode cX6_valueAfterDenials 59 = .ok (.invokevirtual 310, 3) := by decide +kernel
theorem dX6_valueAfterDenials_62 : decode cX6_valueAfterDenials 62 = .ok (.ireturn, 1) := by decide +kernel
theorem dX6_canSayThing_0 : decode cX6_canSayThing 0 = .ok (.aload_n 0, 1) := by decide +kernel
theorem dX6_canSayThing_1 : decode cX6_canSayThing 1 = .ok (.getfield 29, 3) := by decide +kernel
theorem dX6_canSayThing_4 : decode cX6_canSayThing 4 = .ok (.aload_n 0, 1) := by decide +kernel
theorem dX6_canSayThing_5 : decode cX6_canSayThing 5 = .ok (.getfield 19, 3) := by decide +kernel
theorem dX6_canSayThing_8 : decode cX6_canSayThing 8 = .ok (.iload_n 1, 1) := by decide +kernel
theorem dX6_canSayThing_9 : decode cX6_canSayThing 9 = .ok (.bipush 6, 2) := by decide +kernel
theorem dX6_canSayThing_11 : decode cX6_canSayThing 11 = .ok (.idiv, 1) := by decide +kernel
theorem dX6_canSayThing_12 : decode cX6_canSayThing 12 = .ok (.iload_n 1, 1) := by decide +kernel
theorem dX6_canSayThing_13 : decode cX6_canSayThing 13 = .ok (.bipush 6, 2) := by decide +kernel
theorem dX6_canSayThing_15 : decode cX6_canSayThing 15 = .ok (.irem, 1) := by decide +kernel
theorem dX6_canSayThing_16 : decode cX6_canSayThing 16 = .ok (.invokevirtual 156, 3) := by decide +kernel
theorem dX6_canSayThing_19 : decode cX6_canSayThing 19 = .ok (.ireturn, 1) := by decide +kernel
theorem dX6_thingBit_0 : decode cX6_thingBit 0 = .ok (.iconst 1, 1) := by decide +kernel
theorem dX6_thingBit_1 : decode cX6_thingBit 1 = .ok (.iload_n 0, 1) := by decide +kernel
theorem dX6_thingBit_2 : decode cX6_thingBit 2 = .ok (.bipush 6, 2) := by decide +kernel
theorem dX6_thingBit_4 : decode cX6_thingBit 4 = .ok (.irem, 1) := by decide +kernel
theorem dX6_thingBit_5 : decode cX6_thingBit 5 = .ok (.ishl, 1) := by decide +kernel
theorem dX6_thingBit_6 : decode cX6_thingBit 6 = .ok (.ireturn, 1) := by decide +kernel
theorem dX6_thingFigures_0 : decode cX6_thingFigures 0 = .ok (.bipush 10, 2) := by decide +kernel
theorem dX6_thingFigures_2 : decode cX6_thingFigures 2 = .ok (.iload_n 0, 1) := by decide +kernel
theorem dX6_thingFigures_3 : decode cX6_thingFigures 3 = .ok (.bipush 6, 2) := by decide +kernel
theorem dX6_thingFigures_5 : decode cX6_thingFigures 5 = .ok (.idiv, 1) := by decide +kernel
theorem dX6_thingFigures_6 : decode cX6_thingFigures 6 = .ok (.imul, 1) := by decide +kernel
theorem dX6_thingFigures_7 : decode cX6_thingFigures 7 = .ok (.iload_n 0, 1) := by decide +kernel
theorem dX6_thingFigures_8 : decode cX6_thingFigures 8 = .ok (.bipush 6, 2) := by decide +kernel
theorem dX6_thingFigures_10 : decode cX6_thingFigures 10 = .ok (.irem, 1) := by decide +kernel
theorem dX6_thingFigures_11 : decode cX6_thingFigures 11 = .ok (.iadd, 1) := by decide +kernel
theorem dX6_thingFigures_12 : decode cX6_thingFigures 12 = .ok (.ireturn, 1) := by decide +kernel
theorem dX6_gainOf_0 : decode cX6_gainOf 0 = .ok (.aload_n 0, 1) := by decide +kernel
theorem dX6_gainOf_1 : decode cX6_gainOf 1 = .ok (.getfield 29, 3) := by decide +kernel
theorem dX6_gainOf_4 : decode cX6_gainOf 4 = .ok (.iload_n 2, 1) := by decide +kernel
theorem dX6_gainOf_5 : decode cX6_gainOf 5 = .ok (.invokevirtual 120, 3) := by decide +kernel
theorem dX6_gainOf_8 : decode cX6_gainOf 8 = .ok (.istore 5, 2) := by decide +kernel
theorem dX6_gainOf_10 : decode cX6_gainOf 10 = .ok (.aload_n 0, 1) := by decide +kernel
theorem dX6_gainOf_11 : decode cX6_gainOf 11 = .ok (.iload_n 1, 1) := by decide +kernel
theorem dX6_gainOf_12 : decode cX6_gainOf 12 = .ok (.iload_n 2, 1) := by decide +kernel
theorem dX6_gainOf_13 : decode cX6_gainOf 13 = .ok (.iload 5, 2) := by decide +kernel
theorem dX6_gainOf_15 : decode cX6_gainOf 15 = .ok (.iload_n 3, 1) := by decide +kernel
theorem dX6_gainOf_16 : decode cX6_gainOf 16 = .ok (.ior, 1) := by decide +kernel
theorem dX6_gainOf_17 : decode cX6_gainOf 17 = .ok (.iload 4, 2) := by decide +kernel
theorem dX6_gainOf_19 : decode cX6_gainOf 19 = .ok (.invokevirtual 316, 3) := by decide +kernel
theorem dX6_gainOf_22 : decode cX6_gainOf 22 = .ok (.aload_n 0, 1) := by decide +kernel
theorem dX6_gainOf_23 : decode cX6_gainOf 23 = .ok (.iload_n 1, 1) := by decide +kernel
theorem dX6_gainOf_24 : decode cX6_gainOf 24 = .ok (.iload_n 2, 1) := by decide +kernel
theorem dX6_gainOf_25 : decode cX6_gainOf 25 = .ok (.iload 5, 2) := by decide +kernel
theorem dX6_gainOf_27 : decode cX6_gainOf 27 = .ok (.iload 4, 2) := by decide +kernel
theorem dX6_gainOf_29 : decode cX6_gainOf 29 = .ok (.invokevirtual 316, 3) := by decide +kernel
theorem dX6_gainOf_32 : decode cX6_gainOf 32 = .ok (.isub, 1) := by decide +kernel
theorem dX6_gainOf_33 : decode cX6_gainOf 33 = .ok (.ireturn, 1) := by decide +kernel
theorem dX6_offerOneThing_0 : decode cX6_offerOneThing 0 = .ok (.iconst 0, 1) := by decide +kernel
theorem dX6_offerOneThing_1 : decode cX6_offerOneThing 1 = .ok (.istore_n 1, 1) := by decide +kernel
theorem dX6_offerOneThing_2 : decode cX6_offerOneThing 2 = .ok (.iload_n 1, 1) := by decide +kernel
theorem dX6_offerOneThing_3 : decode cX6_offerOneThing 3 = .ok (.bipush 30, 2) := by decide +kernel
theorem dX6_offerOneThing_5 : decode cX6_offerOneThing 5 = .ok (.if_icmp .ge 39, 3) := by decide +kernel
theorem dX6_offerOneThing_8 : decode cX6_offerOneThing 8 = .ok (.aload_n 0, 1) := by decide +kernel
theorem dX6_offerOneThing_9 : decode cX6_offerOneThing 9 = .ok (.iload_n 1, 1) := by decide +kernel
theorem dX6_offerOneThing_10 : decode cX6_offerOneThing 10 = .ok (.invokevirtual 212, 3) := by decide +kernel
theorem dX6_offerOneThing_13 : decode cX6_offerOneThing 13 = .ok (.ifCond .eq 25, 3) := by decide +kernel
theorem dX6_offerOneThing_16 : decode cX6_offerOneThing 16 = .ok (.aload_n 0, 1) := by decide +kernel
theorem dX6_offerOneThing_17 : decode cX6_offerOneThing 17 = .ok (.getfield 61, 3) := by decide +kernel
theorem dX6_offerOneThing_20 : decode cX6_offerOneThing 20 = .ok (.aload_n 0, 1) := by decide +kernel
theorem dX6_offerOneThing_21 : decode cX6_offerOneThing 21 = .ok (.getfield 65, 3) := by decide +kernel
theorem dX6_offerOneThing_24 : decode cX6_offerOneThing 24 = .ok (.iload_n 1, 1) := by decide +kernel
theorem dX6_offerOneThing_25 : decode cX6_offerOneThing 25 = .ok (.invokestatic 319, 3) := by decide +kernel
theorem dX6_offerOneThing_28 : decode cX6_offerOneThing 28 = .ok (.bipush 100, 2) := by decide +kernel
theorem dX6_offerOneThing_30 : decode cX6_offerOneThing 30 = .ok (.iload_n 1, 1) := by decide +kernel
theorem dX6_offerOneThing_31 : decode cX6_offerOneThing 31 = .ok (.invokestatic 323, 3) := by decide +kernel
theorem dX6_offerOneThing_34 : decode cX6_offerOneThing 34 = .ok (.iadd, 1) := by decide +kernel
theorem dX6_offerOneThing_35 : decode cX6_offerOneThing 35 = .ok (.invokevirtual 200, 3) := by decide +kernel
theorem dX6_offerOneThing_38 : decode cX6_offerOneThing 38 = .ok (.iinc 1 1, 3) := by decide +kernel
theorem dX6_offerOneThing_41 : decode cX6_offerOneThing 41 = .ok (.goto (-39), 3) := by decide +kernel
theorem dX6_offerOneThing_44 : decode cX6_offerOneThing 44 = .ok (.return_, 1) := by decide +kernel
theorem dX6_offerTwoThings_0 : decode cX6_offerTwoThings 0 = .ok (.iconst 0, 1) := by decide +kernel
theorem dX6_offerTwoThings_1 : decode cX6_offerTwoThings 1 = .ok (.istore_n 3, 1) := by decide +kernel
theorem dX6_offerTwoThings_2 : decode cX6_offerTwoThings 2 = .ok (.iload_n 3, 1) := by decide +kernel
theorem dX6_offerTwoThings_3 : decode cX6_offerTwoThings 3 = .ok (.bipush 30, 2) := by decide +kernel
theorem dX6_offerTwoThings_5 : decode cX6_offerTwoThings 5 = .ok (.if_icmp .ge 125, 3) := by decide +kernel
theorem dX6_offerTwoThings_8 : decode cX6_offerTwoThings 8 = .ok (.iload_n 3, 1) := by decide +kernel
theorem dX6_offerTwoThings_9 : decode cX6_offerTwoThings 9 = .ok (.iconst 1, 1) := by decide +kernel
theorem dX6_offerTwoThings_10 : decode cX6_offerTwoThings 10 = .ok (.iadd, 1) := by decide +kernel
theorem dX6_offerTwoThings_11 : decode cX6_offerTwoThings 11 = .ok (.istore 4, 2) := by decide +kernel
theorem dX6_offerTwoThings_13 : decode cX6_offerTwoThings 13 = .ok (.iload 4, 2) := by decide +kernel
theorem dX6_offerTwoThings_15 : decode cX6_offerTwoThings 15 = .ok (.bipush 30, 2) := by decide +kernel
theorem dX6_offerTwoThings_17 : decode cX6_offerTwoThings 17 = .ok (.if_icmp .ge 107, 3) := by decide +kernel
theorem dX6_offerTwoThings_20 : decode cX6_offerTwoThings 20 = .ok (.aload_n 0, 1) := by decide +kernel
theorem dX6_offerTwoThings_21 : decode cX6_offerTwoThings 21 = .ok (.iload_n 3, 1) := by decide +kernel
theorem dX6_offerTwoThings_22 : decode cX6_offerTwoThings 22 = .ok (.invokevirtual 212, 3) := by decide +kernel
theorem dX6_offerTwoThings_25 : decode cX6_offerTwoThings 25 = .ok (.ifCond .eq 99, 3) := by decide +kernel
theorem dX6_offerTwoThings_28 : decode cX6_offerTwoThings 28 = .ok (.aload_n 0, 1) := by decide +kernel
theorem dX6_offerTwoThings_29 : decode cX6_offerTwoThings 29 = .ok (.iload 4, 2) := by decide +kernel
theorem dX6_offerTwoThings_31 : decode cX6_offerTwoThings 31 = .ok (.invokevirtual 212, 3) := by decide +kernel
theorem dX6_offerTwoThings_34 : decode cX6_offerTwoThings 34 = .ok (.ifCond .eq 84, 3) := by decide +kernel
theorem dX6_offerTwoThings_37 : decode cX6_offerTwoThings 37 = .ok (.iload_n 3, 1) := by decide +kernel
theorem dX6_offerTwoThings_38 : decode cX6_offerTwoThings 38 = .ok (.bipush 6, 2) := by decide +kernel
theorem dX6_offerTwoThings_40 : decode cX6_offerTwoThings 40 = .ok (.idiv, 1) := by decide +kernel
theorem dX6_offerTwoThings_41 : decode cX6_offerTwoThings 41 = .ok (.iload 4, 2) := by decide +kernel
theorem dX6_offerTwoThings_43 : decode cX6_offerTwoThings 43 = .ok (.bipush 6, 2) := by decide +kernel
theorem dX6_offerTwoThings_45 : decode cX6_offerTwoThings 45 = .ok (.idiv, 1) := by decide +kernel
theorem dX6_offerTwoThings_46 : decode cX6_offerTwoThings 46 = .ok (.if_icmp .ne 26, 3) := by decide +kernel
theorem dX6_offerTwoThings_49 : decode cX6_offerTwoThings 49 = .ok (.aload_n 0, 1) := by decide +kernel
theorem dX6_offerTwoThings_50 : decode cX6_offerTwoThings 50 = .ok (.iload_n 1, 1) := by decide +kernel
theorem dX6_offerTwoThings_51 : decode cX6_offerTwoThings 51 = .ok (.iload_n 3, 1) := by decide +kernel
theorem dX6_offerTwoThings_52 : decode cX6_offerTwoThings 52 = .ok (.bipush 6, 2) := by decide +kernel
theorem dX6_offerTwoThings_54 : decode cX6_offerTwoThings 54 = .ok (.idiv, 1) := by decide +kernel
theorem dX6_offerTwoThings_55 : decode cX6_offerTwoThings 55 = .ok (.iload_n 3, 1) := by decide +kernel
theorem dX6_offerTwoThings_56 : decode cX6_offerTwoThings 56 = .ok (.invokestatic 215, 3) := by decide +kernel
theorem dX6_offerTwoThings_59 : decode cX6_offerTwoThings 59 = .ok (.iload 4, 2) := by decide +kernel
theorem dX6_offerTwoThings_61 : decode cX6_offerTwoThings 61 = .ok (.invokestatic 215, 3) := by decide +kernel
theorem dX6_offerTwoThings_64 : decode cX6_offerTwoThings 64 = .ok (.ior, 1) := by decide +kernel
theorem dX6_offerTwoThings_65 : decode cX6_offerTwoThings 65 = .ok (.iload_n 2, 1) := by decide +kernel
theorem dX6_offerTwoThings_66 : decode cX6_offerTwoThings 66 = .ok (.invokevirtual 218, 3) := by decide +kernel
theorem dX6_offerTwoThings_69 : decode cX6_offerTwoThings 69 = .ok (.goto 21, 3) := by decide +kernel
theorem dX6_offerTwoThings_72 : decode cX6_offerTwoThings 72 = .ok (.aload_n 0, 1) := by decide +kernel
theorem dX6_offerTwoThings_73 : decode cX6_offerTwoThings 73 = .ok (.getfield 65, 3) := by decide +kernel
theorem dX6_offerTwoThings_76 : decode cX6_offerTwoThings 76 = .ok (.iload_n 3, 1) := by decide +kernel
theorem dX6_offerTwoThings_77 : decode cX6_offerTwoThings 77 = .ok (.invokestatic 319, 3) := by decide +kernel
theorem dX6_offerTwoThings_80 : decode cX6_offerTwoThings 80 = .ok (.aload_n 0, 1) := by decide +kernel
theorem dX6_offerTwoThings_81 : decode cX6_offerTwoThings 81 = .ok (.getfield 65, 3) := by decide +kernel
theorem dX6_offerTwoThings_84 : decode cX6_offerTwoThings 84 = .ok (.iload 4, 2) := by decide +kernel
theorem dX6_offerTwoThings_86 : decode cX6_offerTwoThings 86 = .ok (.invokestatic 319, 3) := by decide +kernel
theorem dX6_offerTwoThings_89 : decode cX6_offerTwoThings 89 = .ok (.iadd, 1) := by decide +kernel
theorem dX6_offerTwoThings_90 : decode cX6_offerTwoThings 90 = .ok (.istore 5, 2) := by decide +kernel
theorem dX6_offerTwoThings_92 : decode cX6_offerTwoThings 92 = .ok (.aload_n 0, 1) := by decide +kernel
theorem dX6_offerTwoThings_93 : decode cX6_offerTwoThings 93 = .ok (.getfield 61, 3) := by decide +kernel
theorem dX6_offerTwoThings_96 : decode cX6_offerTwoThings 96 = .ok (.iload 5, 2) := by decide +kernel
theorem dX6_offerTwoThings_98 : decode cX6_offerTwoThings 98 = .ok (.sipush 10000, 3) := by decide +kernel
theorem dX6_offerTwoThings_101 : decode cX6_offerTwoThings 101 = .ok (.bipush 100, 2) := by decide +kernel
theorem dX6_offerTwoThings_103 : decode cX6_offerTwoThings 103 = .ok (.iload_n 3, 1) := by decide +kernel
theorem dX6_offerTwoThings_104 : decode cX6_offerTwoThings 104 = .ok (.invokestatic 323, 3) := by decide +kernel
theorem dX6_offerTwoThings_107 : decode cX6_offerTwoThings 107 = .ok (.imul, 1) := by decide +kernel
theorem dX6_offerTwoThings_108 : decode cX6_offerTwoThings 108 = .ok (.iadd, 1) := by decide +kernel
theorem dX6_offerTwoThings_109 : decode cX6_offerTwoThings 109 = .ok (.iload 4, 2) := by decide +kernel
theorem dX6_offerTwoThings_111 : decode cX6_offerTwoThings 111 = .ok (.invokestatic 323, 3) := by decide +kernel
theorem dX6_offerTwoThings_114 : decode cX6_offerTwoThings 114 = .ok (.iadd, 1) := by decide +kernel
theorem dX6_offerTwoThings_115 : decode cX6_offerTwoThings 115 = .ok (.invokevirtual 200, 3) := by decide +kernel
theorem dX6_offerTwoThings_118 : decode cX6_offerTwoThings 118 = .ok (.iinc 4 1, 3) := by decide +kernel
theorem dX6_offerTwoThings_121 : decode cX6_offerTwoThings 121 = .ok (.goto (-108), 3) := by decide +kernel
theorem dX6_offerTwoThings_124 : decode cX6_offerTwoThings 124 = .ok (.iinc 3 1, 3) := by decide +kernel
theorem dX6_offerTwoThings_127 : decode cX6_offerTwoThings 127 = .ok (.goto (-125), 3) := by decide +kernel
theorem dX6_offerTwoThings_130 : decode cX6_offerTwoThings 130 = .ok (.return_, 1) := by decide +kernel
theorem dX6_trySaying_0 : decode cX6_trySaying 0 = .ok (.aload_n 0, 1) := by decide +kernel
theorem dX6_trySaying_1 : decode cX6_trySaying 1 = .ok (.getfield 33, 3) := by decide +kernel
theorem dX6_trySaying_4 : decode cX6_trySaying 4 = .ok (.aload_n 0, 1) := by decide +kernel
theorem dX6_trySaying_5 : decode cX6_trySaying 5 = .ok (.getfield 19, 3) := by decide +kernel
theorem dX6_trySaying_8 : decode cX6_trySaying 8 = .ok (.iload_n 1, 1) := by decide +kernel
theorem dX6_trySaying_9 : decode cX6_trySaying 9 = .ok (.iload_n 2, 1) := by decide +kernel
theorem dX6_trySaying_10 : decode cX6_trySaying 10 = .ok (.invokevirtual 156, 3) := by decide +kernel
theorem dX6_trySaying_13 : decode cX6_trySaying 13 = .ok (.ifCond .ne 5, 3) := by decide +kernel
theorem dX6_trySaying_16 : decode cX6_trySaying 16 = .ok (.iconst 0, 1) := by decide +kernel
theorem dX6_trySaying_17 : decode cX6_trySaying 17 = .ok (.ireturn, 1) := by decide +kernel
theorem dX6_trySaying_18 : decode cX6_trySaying 18 = .ok (.aload_n 0, 1) := by decide +kernel
theorem dX6_trySaying_19 : decode cX6_trySaying 19 = .ok (.getfield 33, 3) := by decide +kernel
theorem dX6_trySaying_22 : decode cX6_trySaying 22 = .ok (.iload_n 1, 1) := by decide +kernel
theorem dX6_trySaying_23 : decode cX6_trySaying 23 = .ok (.iload_n 2, 1) := by decide +kernel
theorem dX6_trySaying_24 : decode cX6_trySaying 24 = .ok (.invokevirtual 160, 3) := by decide +kernel
theorem dX6_trySaying_27 : decode cX6_trySaying 27 = .ok (.iconst 1, 1) := by decide +kernel
theorem dX6_trySaying_28 : decode cX6_trySaying 28 = .ok (.ireturn, 1) := by decide +kernel
theorem dX6_tryDenying_0 : decode cX6_tryDenying 0 = .ok (.aload_n 0, 1) := by decide +kernel
theorem dX6_tryDenying_1 : decode cX6_tryDenying 1 = .ok (.getfield 33, 3) := by decide +kernel
theorem dX6_tryDenying_4 : decode cX6_tryDenying 4 = .ok (.aload_n 0, 1) := by decide +kernel
theorem dX6_tryDenying_5 : decode cX6_tryDenying 5 = .ok (.getfield 19, 3) := by decide +kernel
theorem dX6_tryDenying_8 : decode cX6_tryDenying 8 = .ok (.iload_n 1, 1) := by decide +kernel
theorem dX6_tryDenying_9 : decode cX6_tryDenying 9 = .ok (.iload_n 2, 1) := by decide +kernel
theorem dX6_tryDenying_10 : decode cX6_tryDenying 10 = .ok (.invokevirtual 169, 3) := by decide +kernel
theorem dX6_tryDenying_13 : decode cX6_tryDenying 13 = .ok (.ifCond .ne 5, 3) := by decide +kernel
theorem dX6_tryDenying_16 : decode cX6_tryDenying 16 = .ok (.iconst 0, 1) := by decide +kernel
theorem dX6_tryDenying_17 : decode cX6_tryDenying 17 = .ok (.ireturn, 1) := by decide +kernel
theorem dX6_tryDenying_18 : decode cX6_tryDenying 18 = .ok (.aload_n 0, 1) := by decide +kernel
theorem dX6_tryDenying_19 : decode cX6_tryDenying 19 = .ok (.getfield 33, 3) := by decide +kernel
theorem dX6_tryDenying_22 : decode cX6_tryDenying 22 = .ok (.iload_n 1, 1) := by decide +kernel
theorem dX6_tryDenying_23 : decode cX6_tryDenying 23 = .ok (.iload_n 2, 1) := by decide +kernel
theorem dX6_tryDenying_24 : decode cX6_tryDenying 24 = .ok (.invokevirtual 172, 3) := by decide +kernel
theorem dX6_tryDenying_27 : decode cX6_tryDenying 27 = .ok (.iconst 1, 1) := by decide +kernel
theorem dX6_tryDenying_28 : decode cX6_tryDenying 28 = .ok (.ireturn, 1) := by decide +kernel
theorem dX6_tryThing_0 : decode cX6_tryThing 0 = .ok (.iload_n 1, 1) := by decide +kernel
theorem dX6_tryThing_1 : decode cX6_tryThing 1 = .ok (.bipush 10, 2) := by decide +kernel
theorem dX6_tryThing_3 : decode cX6_tryThing 3 = .ok (.idiv, 1) := by decide +kernel
theorem dX6_tryThing_4 : decode cX6_tryThing 4 = .ok (.bipush 10, 2) := by decide +kernel
theorem dX6_tryThing_6 : decode cX6_tryThing 6 = .ok (.irem, 1) := by decide +kernel
theorem dX6_tryThing_7 : decode cX6_tryThing 7 = .ok (.istore_n 2, 1) := by decide +kernel
theorem dX6_tryThing_8 : decode cX6_tryThing 8 = .ok (.iload_n 1, 1) := by decide +kernel
theorem dX6_tryThing_9 : decode cX6_tryThing 9 = .ok (.bipush 10, 2) := by decide +kernel
theorem dX6_tryThing_11 : decode cX6_tryThing 11 = .ok (.irem, 1) := by decide +kernel
theorem dX6_tryThing_12 : decode cX6_tryThing 12 = .ok (.istore_n 3, 1) := by decide +kernel
theorem dX6_tryThing_13 : decode cX6_tryThing 13 = .ok (.iload_n 1, 1) := by decide +kernel
theorem dX6_tryThing_14 : decode cX6_tryThing 14 = .ok (.bipush 100, 2) := by decide +kernel
theorem dX6_tryThing_16 : decode cX6_tryThing 16 = .ok (.idiv, 1) := by decide +kernel
theorem dX6_tryThing_17 : decode cX6_tryThing 17 = .ok (.tableswitch 55 0 2 #[27, 34, 41], 27) := by decide +kernel
theorem dX6_tryThing_44 : decode cX6_tryThing 44 = .ok (.aload_n 0, 1) := by decide +kernel
theorem dX6_tryThing_45 : decode cX6_tryThing 45 = .ok (.iload_n 2, 1) := by decide +kernel
theorem dX6_tryThing_46 : decode cX6_tryThing 46 = .ok (.iload_n 3, 1) := by decide +kernel
theorem dX6_tryThing_47 : decode cX6_tryThing 47 = .ok (.invokevirtual 290, 3) := by decide +kernel
theorem dX6_tryThing_50 : decode cX6_tryThing 50 = .ok (.ireturn, 1) := by decide +kernel
theorem dX6_tryThing_51 : decode cX6_tryThing 51 = .ok (.aload_n 0, 1) := by decide +kernel
theorem dX6_tryThing_52 : decode cX6_tryThing 52 = .ok (.iload_n 2, 1) := by decide +kernel
theorem dX6_tryThing_53 : decode cX6_tryThing 53 = .ok (.iload_n 3, 1) := by decide +kernel
theorem dX6_tryThing_54 : decode cX6_tryThing 54 = .ok (.invokevirtual 326, 3) := by decide +kernel
theorem dX6_tryThing_57 : decode cX6_tryThing 57 = .ok (.ireturn, 1) := by decide +kernel
theorem dX6_tryThing_58 : decode cX6_tryThing 58 = .ok (.aload_n 0, 1) := by decide +kernel
theorem dX6_tryThing_59 : decode cX6_tryThing 59 = .ok (.getfield 33, 3) := by decide +kernel
theorem dX6_tryThing_62 : decode cX6_tryThing 62 = .ok (.aload_n 0, 1) := by decide +kernel
theorem dX6_tryThing_63 : decode cX6_tryThing 63 = .ok (.getfield 19, 3) := by decide +kernel
theorem dX6_tryThing_66 : decode cX6_tryThing 66 = .ok (.invokevirtual 150, 3) := by decide +kernel
theorem dX6_tryThing_69 : decode cX6_tryThing 69 = .ok (.pop, 1) := by decide +kernel
theorem dX6_tryThing_70 : decode cX6_tryThing 70 = .ok (.iconst 1, 1) := by decide +kernel
theorem dX6_tryThing_71 : decode cX6_tryThing 71 = .ok (.ireturn, 1) := by decide +kernel
theorem dX6_tryThing_72 : decode cX6_tryThing 72 = .ok (.iconst 0, 1) := by decide +kernel
theorem dX6_tryThing_73 : decode cX6_tryThing 73 = .ok (.ireturn, 1) := by decide +kernel
theorem dX6_agreesWithHeard_0 : decode cX6_agreesWithHeard 0 = .ok (.iconst 0, 1) := by decide +kernel
theorem dX6_agreesWithHeard_1 : decode cX6_agreesWithHeard 1 = .ok (.istore_n 3, 1) := by decide +kernel
theorem dX6_agreesWithHeard_2 : decode cX6_agreesWithHeard 2 = .ok (.iload_n 3, 1) := by decide +kernel
theorem dX6_agreesWithHeard_3 : decode cX6_agreesWithHeard 3 = .ok (.aload_n 0, 1) := by decide +kernel
theorem dX6_agreesWithHeard_4 : decode cX6_agreesWithHeard 4 = .ok (.getfield 46, 3) := by decide +kernel
theorem dX6_agreesWithHeard_7 : decode cX6_agreesWithHeard 7 = .ok (.getfield 252, 3) := by decide +kernel
theorem dX6_agreesWithHeard_10 : decode cX6_agreesWithHeard 10 = .ok (.if_icmp .ge 73, 3) := by decide +kernel
theorem dX6_agreesWithHeard_13 : decode cX6_agreesWithHeard 13 = .ok (.iload_n 3, 1) := by decide +kernel
theorem dX6_agreesWithHeard_14 : decode cX6_agreesWithHeard 14 = .ok (.bipush 6, 2) := by decide +kernel
theorem dX6_agreesWithHeard_16 : decode cX6_agreesWithHeard 16 = .ok (.if_icmp .ge 67, 3) := by decide +kernel
theorem dX6_agreesWithHeard_19 : decode cX6_agreesWithHeard 19 = .ok (.aload_n 0, 1) := by decide +kernel
theorem dX6_agreesWithHeard_20 : decode cX6_agreesWithHeard 20 = .ok (.getfield 46, 3) := by decide +kernel
theorem dX6_agreesWithHeard_23 : decode cX6_agreesWithHeard 23 = .ok (.getfield 329, 3) := by decide +kernel
theorem dX6_agreesWithHeard_26 : decode cX6_agreesWithHeard 26 = .ok (.iload_n 3, 1) := by decide +kernel
theorem dX6_agreesWithHeard_27 : decode cX6_agreesWithHeard 27 = .ok (.iaload, 1) := by decide +kernel
theorem dX6_agreesWithHeard_28 : decode cX6_agreesWithHeard 28 = .ok (.iload_n 1, 1) := by decide +kernel
theorem dX6_agreesWithHeard_29 : decode cX6_agreesWithHeard 29 = .ok (.if_icmp .ne 48, 3) := by decide +kernel
theorem dX6_agreesWithHeard_32 : decode cX6_agreesWithHeard 32 = .ok (.aload_n 0, 1) := by decide +kernel
theorem dX6_agreesWithHeard_33 : decode cX6_agreesWithHeard 33 = .ok (.iload_n 1, 1) := by decide +kernel
theorem dX6_agreesWithHeard_34 : decode cX6_agreesWithHeard 34 = .ok (.iload_n 2, 1) := by decide +kernel
theorem dX6_agreesWithHeard_35 : decode cX6_agreesWithHeard 35 = .ok (.aload_n 0, 1) := by decide +kernel
theorem dX6_agreesWithHeard_36 : decode cX6_agreesWithHeard 36 = .ok (.getfield 46, 3) := by decide +kernel
theorem dX6_agreesWithHeard_39 : decode cX6_agreesWithHeard 39 = .ok (.getfield 332, 3) := by decide +kernel
theorem dX6_agreesWithHeard_42 : decode cX6_agreesWithHeard 42 = .ok (.iload_n 3, 1) := by decide +kernel
theorem dX6_agreesWithHeard_43 : decode cX6_agreesWithHeard 43 = .ok (.iaload, 1) := by decide +kernel
theorem dX6_agreesWithHeard_44 : decode cX6_agreesWithHeard 44 = .ok (.invokevirtual 206, 3) := by decide +kernel
theorem dX6_agreesWithHeard_47 : decode cX6_agreesWithHeard 47 = .ok (.aload_n 0, 1) := by decide +kernel
theorem dX6_agreesWithHeard_48 : decode cX6_agreesWithHeard 48 = .ok (.getfield 46, 3) := by decide +kernel
theorem dX6_agreesWithHeard_51 : decode cX6_agreesWithHeard 51 = .ok (.getfield 335, 3) := by decide +kernel
theorem dX6_agreesWithHeard_54 : decode cX6_agreesWithHeard 54 = .ok (.iload_n 3, 1) := by decide +kernel
theorem dX6_agreesWithHeard_55 : decode cX6_agreesWithHeard 55 = .ok (.iaload, 1) := by decide +kernel
theorem dX6_agreesWithHeard_56 : decode cX6_agreesWithHeard 56 = .ok (.invokestatic 209, 3) := by decide +kernel
theorem dX6_agreesWithHeard_59 : decode cX6_agreesWithHeard 59 = .ok (.istore 4, 2) := by decide +kernel
theorem dX6_agreesWithHeard_61 : decode cX6_agreesWithHeard 61 = .ok (.iload 4, 2) := by decide +kernel
theorem dX6_agreesWithHeard_63 : decode cX6_agreesWithHeard 63 = .ok (.aload_n 0, 1) := by decide +kernel
theorem dX6_agreesWithHeard_64 : decode cX6_agreesWithHeard 64 = .ok (.getfield 46, 3) := by decide +kernel
theorem dX6_agreesWithHeard_67 : decode cX6_agreesWithHeard 67 = .ok (.getfield 338, 3) := by decide +kernel
theorem dX6_agreesWithHeard_70 : decode cX6_agreesWithHeard 70 = .ok (.iload_n 3, 1) := by decide +kernel
theorem dX6_agreesWithHeard_71 : decode cX6_agreesWithHeard 71 = .ok (.baload, 1) := by decide +kernel
theorem dX6_agreesWithHeard_72 : decode cX6_agreesWithHeard 72 = .ok (.if_icmp .eq 5, 3) := by decide +kernel
theorem dX6_agreesWithHeard_75 : decode cX6_agreesWithHeard 75 = .ok (.iconst 0, 1) := by decide +kernel
theorem dX6_agreesWithHeard_76 : decode cX6_agreesWithHeard 76 = .ok (.ireturn, 1) := by decide +kernel
theorem dX6_agreesWithHeard_77 : decode cX6_agreesWithHeard 77 = .ok (.iinc 3 1, 3) := by decide +kernel
theorem dX6_agreesWithHeard_80 : decode cX6_agreesWithHeard 80 = .ok (.goto (-78), 3) := by decide +kernel
theorem dX6_agreesWithHeard_83 : decode cX6_agreesWithHeard 83 = .ok (.iconst 1, 1) := by decide +kernel
theorem dX6_agreesWithHeard_84 : decode cX6_agreesWithHeard 84 = .ok (.ireturn, 1) := by decide +kernel
theorem dX6_canChoose_0 : decode cX6_canChoose 0 = .ok (.iload_n 2, 1) := by decide +kernel
theorem dX6_canChoose_1 : decode cX6_canChoose 1 = .ok (.ifCond .eq 28, 3) := by decide +kernel
theorem dX6_canChoose_4 : decode cX6_canChoose 4 = .ok (.aload_n 0, 1) := by decide +kernel
theorem dX6_canChoose_5 : decode cX6_canChoose 5 = .ok (.getfield 29, 3) := by decide +kernel
theorem dX6_canChoose_8 : decode cX6_canChoose 8 = .ok (.aload_n 0, 1) := by decide +kernel
theorem dX6_canChoose_9 : decode cX6_canChoose 9 = .ok (.getfield 19, 3) := by decide +kernel
theorem dX6_canChoose_12 : decode cX6_canChoose 12 = .ok (.iload_n 2, 1) := by decide +kernel
theorem dX6_canChoose_13 : decode cX6_canChoose 13 = .ok (.iconst 1, 1) := by decide +kernel
theorem dX6_canChoose_14 : decode cX6_canChoose 14 = .ok (.isub, 1) := by decide +kernel
theorem dX6_canChoose_15 : decode cX6_canChoose 15 = .ok (.aload_n 0, 1) := by decide +kernel
theorem dX6_canChoose_16 : decode cX6_canChoose 16 = .ok (.getfield 19, 3) := by decide +kernel
theorem dX6_canChoose_19 : decode cX6_canChoose 19 = .ok (.iload_n 1, 1) := by decide +kernel
theorem dX6_canChoose_20 : decode cX6_canChoose 20 = .ok (.invokevirtual 313, 3) := by decide +kernel
theorem dX6_canChoose_23 : decode cX6_canChoose 23 = .ok (.invokevirtual 156, 3) := by decide +kernel
theorem dX6_canChoose_26 : decode cX6_canChoose 26 = .ok (.ifCond .eq 7, 3) := by decide +kernel
theorem dX6_canChoose_29 : decode cX6_canChoose 29 = .ok (.iconst 1, 1) := by decide +kernel
theorem dX6_canChoose_30 : decode cX6_canChoose 30 = .ok (.goto 4, 3) := by decide +kernel
theorem dX6_canChoose_33 : decode cX6_canChoose 33 = .ok (.iconst 0, 1) := by decide +kernel
theorem dX6_canChoose_34 : decode cX6_canChoose 34 = .ok (.ireturn, 1) := by decide +kernel
theorem dX6_pairOf_0 : decode cX6_pairOf 0 = .ok (.bipush 6, 2) := by decide +kernel
theorem dX6_pairOf_2 : decode cX6_pairOf 2 = .ok (.iload_n 0, 1) := by decide +kernel
theorem dX6_pairOf_3 : decode cX6_pairOf 3 = .ok (.imul, 1) := by decide +kernel
theorem dX6_pairOf_4 : decode cX6_pairOf 4 = .ok (.iload_n 1, 1) := by decide +kernel
theorem dX6_pairOf_5 : decode cX6_pairOf 5 = .ok (.iadd, 1) := by decide +kernel
theorem dX6_pairOf_6 : decode cX6_pairOf 6 = .ok (.ireturn, 1) := by decide +kernel
theorem dX6_weighChoices_0 : decode cX6_weighChoices 0 = .ok (.iconst 0, 1) := by decide +kernel
theorem dX6_weighChoices_1 : decode cX6_weighChoices 1 = .ok (.istore 4, 2) := by decide +kernel
theorem dX6_weighChoices_3 : decode cX6_weighChoices 3 = .ok (.iload 4, 2) := by decide +kernel
theorem dX6_weighChoices_5 : decode cX6_weighChoices 5 = .ok (.bipush 36, 2) := by decide +kernel
theorem dX6_weighChoices_7 : decode cX6_weighChoices 7 = .ok (.if_icmp .ge 159, 3) := by decide +kernel
theorem dX6_weighChoices_10 : decode cX6_weighChoices 10 = .ok (.aload_n 0, 1) := by decide +kernel
theorem dX6_weighChoices_11 : decode cX6_weighChoices 11 = .ok (.getfield 72, 3) := by decide +kernel
theorem dX6_weighChoices_14 : decode cX6_weighChoices 14 = .ok (.iload 4, 2) := by decide +kernel
theorem dX6_weighChoices_16 : decode cX6_weighChoices 16 = .ok (.iconst 0, 1) := by decide +kernel
theorem dX6_weighChoices_17 : decode cX6_weighChoices 17 = .ok (.iastore, 1) := by decide +kernel
theorem dX6_weighChoices_18 : decode cX6_weighChoices 18 = .ok (.aload_n 0, 1) := by decide +kernel
theorem dX6_weighChoices_19 : decode cX6_weighChoices 19 = .ok (.getfield 75, 3) := by decide +kernel
theorem dX6_weighChoices_22 : decode cX6_weighChoices 22 = .ok (.iload 4, 2) := by decide +kernel
theorem dX6_weighChoices_24 : decode cX6_weighChoices 24 = .ok (.iconst 0, 1) := by decide +kernel
theorem dX6_weighChoices_25 : decode cX6_weighChoices 25 = .ok (.iastore, 1) := by decide +kernel
theorem dX6_weighChoices_26 : decode cX6_weighChoices 26 = .ok (.iconst 0, 1) := by decide +kernel
theorem dX6_weighChoices_27 : decode cX6_weighChoices 27 = .ok (.istore 5, 2) := by decide +kernel
theorem dX6_weighChoices_29 : decode cX6_weighChoices 29 = .ok (.iload 5, 2) := by decide +kernel
theorem dX6_weighChoices_31 : decode cX6_weighChoices 31 = .ok (.aload_n 0, 1) := by decide +kernel
theorem dX6_weighChoices_32 : decode cX6_weighChoices 32 = .ok (.getfield 19, 3) := by decide +kernel
theorem dX6_weighChoices_35 : decode cX6_weighChoices 35 = .ok (.getfield 101, 3) := by decide +kernel
theorem dX6_weighChoices_38 : decode cX6_weighChoices 38 = .ok (.if_icmp .ge 122, 3) := by decide +kernel
theorem dX6_weighChoices_41 : decode cX6_weighChoices 41 = .ok (.aload_n 0, 1) := by decide +kernel
theorem dX6_weighChoices_42 : decode cX6_weighChoices 42 = .ok (.getfield 29, 3) := by decide +kernel
theorem dX6_weighChoices_45 : decode cX6_weighChoices 45 = .ok (.iload 5, 2) := by decide +kernel
theorem dX6_weighChoices_47 : decode cX6_weighChoices 47 = .ok (.invokevirtual 120, 3) := by decide +kernel
theorem dX6_weighChoices_50 : decode cX6_weighChoices 50 = .ok (.istore 6, 2) := by decide +kernel
theorem dX6_weighChoices_52 : decode cX6_weighChoices 52 = .ok (.iload 6, 2) := by decide +kernel
theorem dX6_weighChoices_54 : decode cX6_weighChoices 54 = .ok (.iload 4, 2) := by decide +kernel
theorem dX6_weighChoices_56 : decode cX6_weighChoices 56 = .ok (.bipush 6, 2) := by decide +kernel
theorem dX6_weighChoices_58 : decode cX6_weighChoices 58 = .ok (.idiv, 1) := by decide +kernel
theorem dX6_weighChoices_59 : decode cX6_weighChoices 59 = .ok (.iload 5, 2) := by decide +kernel
theorem dX6_weighChoices_61 : decode cX6_weighChoices 61 = .ok (.iconst 1, 1) := by decide +kernel
theorem dX6_weighChoices_62 : decode cX6_weighChoices 62 = .ok (.iadd, 1) := by decide +kernel
theorem dX6_weighChoices_63 : decode cX6_weighChoices 63 = .ok (.if_icmp .ne 16, 3) := by decide +kernel
theorem dX6_weighChoices_66 : decode cX6_weighChoices 66 = .ok (.iconst 1, 1) := by decide +kernel
theorem dX6_weighChoices_67 : decode cX6_weighChoices 67 = .ok (.aload_n 0, 1) := by decide +kernel
theorem dX6_weighChoices_68 : decode cX6_weighChoices 68 = .ok (.getfield 19, 3) := by decide +kernel
theorem dX6_weighChoices_71 : decode cX6_weighChoices 71 = .ok (.iload_n 1, 1) := by decide +kernel
theorem dX6_weighChoices_72 : decode cX6_weighChoices 72 = .ok (.invokevirtual 313, 3) := by decide +kernel
theorem dX6_weighChoices_75 : decode cX6_weighChoices 75 = .ok (.ishl, 1) := by decide +kernel
theorem dX6_weighChoices_76 : decode cX6_weighChoices 76 = .ok (.goto 4, 3) := by decide +kernel
theorem dX6_weighChoices_79 : decode cX6_weighChoices 79 = .ok (.iconst 0, 1) := by decide +kernel
theorem dX6_weighChoices_80 : decode cX6_weighChoices 80 = .ok (.ior, 1) := by decide +kernel
theorem dX6_weighChoices_81 : decode cX6_weighChoices 81 = .ok (.istore 6, 2) := by decide +kernel
theorem dX6_weighChoices_83 : decode cX6_weighChoices 83 = .ok (.iload 6, 2) := by decide +kernel
theorem dX6_weighChoices_85 : decode cX6_weighChoices 85 = .ok (.iload 4, 2) := by decide +kernel
theorem dX6_weighChoices_87 : decode cX6_weighChoices 87 = .ok (.bipush 6, 2) := by decide +kernel
theorem dX6_weighChoices_89 : decode cX6_weighChoices 89 = .ok (.irem, 1) := by decide +kernel
theorem dX6_weighChoices_90 : decode cX6_weighChoices 90 = .ok (.iload 5, 2) := by decide +kernel
theorem dX6_weighChoices_92 : decode cX6_weighChoices 92 = .ok (.iconst 1, 1) := by decide +kernel
theorem dX6_weighChoices_93 : decode cX6_weighChoices 93 = .ok (.iadd, 1) := by decide +kernel
theorem dX6_weighChoices_94 : decode cX6_weighChoices 94 = .ok (.if_icmp .ne 16, 3) := by decide +kernel
theorem dX6_weighChoices_97 : decode cX6_weighChoices 97 = .ok (.iconst 1, 1) := by decide +kernel
theorem dX6_weighChoices_98 : decode cX6_weighChoices 98 = .ok (.aload_n 0, 1) := by decide +kernel
theorem dX6_weighChoices_99 : decode cX6_weighChoices 99 = .ok (.getfield 19, 3) := by decide +kernel
theorem dX6_weighChoices_102 : decode cX6_weighChoices 102 = .ok (.iload_n 2, 1) := by decide +kernel
theorem dX6_weighChoices_103 : decode cX6_weighChoices 103 = .ok (.invokevirtual 313, 3) := by decide +kernel
theorem dX6_weighChoices_106 : decode cX6_weighChoices 106 = .ok (.ishl, 1) := by decide +kernel
theorem dX6_weighChoices_107 : decode cX6_weighChoices 107 = .ok (.goto 4, 3) := by decide +kernel
theorem dX6_weighChoices_110 : decode cX6_weighChoices 110 = .ok (.iconst 0, 1) := by decide +kernel
theorem dX6_weighChoices_111 : decode cX6_weighChoices 111 = .ok (.ior, 1) := by decide +kernel
theorem dX6_weighChoices_112 : decode cX6_weighChoices 112 = .ok (.istore 6, 2) := by decide +kernel
theorem dX6_weighChoices_114 : decode cX6_weighChoices 114 = .ok (.aload_n 0, 1) := by decide +kernel
theorem dX6_weighChoices_115 : decode cX6_weighChoices 115 = .ok (.getfield 72, 3) := by decide +kernel
theorem dX6_weighChoices_118 : decode cX6_weighChoices 118 = .ok (.iload 4, 2) := by decide +kernel
theorem dX6_weighChoices_120 : decode cX6_weighChoices 120 = .ok (.dup2, 1) := by decide +kernel
theorem dX6_weighChoices_121 : decode cX6_weighChoices 121 = .ok (.iaload, 1) := by decide +kernel
theorem dX6_weighChoices_122 : decode cX6_weighChoices 122 = .ok (.aload_n 0, 1) := by decide +kernel
theorem dX6_weighChoices_123 : decode cX6_weighChoices 123 = .ok (.iload_n 1, 1) := by decide +kernel
theorem dX6_weighChoices_124 : decode cX6_weighChoices 124 = .ok (.iload 5, 2) := by decide +kernel
theorem dX6_weighChoices_126 : decode cX6_weighChoices 126 = .ok (.iload 6, 2) := by decide +kernel
theorem dX6_weighChoices_128 : decode cX6_weighChoices 128 = .ok (.iload_n 3, 1) := by decide +kernel
theorem dX6_weighChoices_129 : decode cX6_weighChoices 129 = .ok (.invokevirtual 316, 3) := by decide +kernel
theorem dX6_weighChoices_132 : decode cX6_weighChoices 132 = .ok (.iadd, 1) := by decide +kernel
theorem dX6_weighChoices_133 : decode cX6_weighChoices 133 = .ok (.iastore, 1) := by decide +kernel
theorem dX6_weighChoices_134 : decode cX6_weighChoices 134 = .ok (.aload_n 0, 1) := by decide +kernel
theorem dX6_weighChoices_135 : decode cX6_weighChoices 135 = .ok (.getfield 75, 3) := by decide +kernel
theorem dX6_weighChoices_138 : decode cX6_weighChoices 138 = .ok (.iload 4, 2) := by decide +kernel
theorem dX6_weighChoices_140 : decode cX6_weighChoices 140 = .ok (.dup2, 1) := by decide +kernel
theorem dX6_weighChoices_141 : decode cX6_weighChoices 141 = .ok (.iaload, 1) := by decide +kernel
theorem dX6_weighChoices_142 : decode cX6_weighChoices 142 = .ok (.aload_n 0, 1) := by decide +kernel
theorem dX6_weighChoices_143 : decode cX6_weighChoices 143 = .ok (.iload_n 2, 1) := by decide +kernel
theorem dX6_weighChoices_144 : decode cX6_weighChoices 144 = .ok (.iload 5, 2) := by decide +kernel
theorem dX6_weighChoices_146 : decode cX6_weighChoices 146 = .ok (.iload 6, 2) := by decide +kernel
theorem dX6_weighChoices_148 : decode cX6_weighChoices 148 = .ok (.iload_n 3, 1) := by decide +kernel
theorem dX6_weighChoices_149 : decode cX6_weighChoices 149 = .ok (.invokevirtual 316, 3) := by decide +kernel
theorem dX6_weighChoices_152 : decode cX6_weighChoices 152 = .ok (.iadd, 1) := by decide +kernel
theorem dX6_weighChoices_153 : decode cX6_weighChoices 153 = .ok (.iastore, 1) := by decide +kernel
theorem dX6_weighChoices_154 : decode cX6_weighChoices 154 = .ok (.iinc 5 1, 3) := by decide +kernel
theorem dX6_weighChoices_157 : decode cX6_weighChoices 157 = .ok (.goto (-128), 3) := by decide +kernel
theorem dX6_weighChoices_160 : decode cX6_weighChoices 160 = .ok (.iinc 4 1, 3) := by decide +kernel
theorem dX6_weighChoices_163 : decode cX6_weighChoices 163 = .ok (.goto (-160), 3) := by decide +kernel
theorem dX6_weighChoices_166 : decode cX6_weighChoices 166 = .ok (.return_, 1) := by decide +kernel
theorem dX6_isAtRest_0 : decode cX6_isAtRest 0 = .ok (.iconst 0, 1) := by decide +kernel
theorem dX6_isAtRest_1 : decode cX6_isAtRest 1 = .ok (.istore 5, 2) := by decide +kernel
theorem dX6_isAtRest_3 : decode cX6_isAtRest 3 = .ok (.iload 5, 2) := by decide +kernel
theorem dX6_isAtRest_5 : decode cX6_isAtRest 5 = .ok (.bipush 6, 2) := by decide +kernel
theorem dX6_isAtRest_7 : decode cX6_isAtRest 7 = .ok (.if_icmp .ge 92, 3) := by decide +kernel
theorem dX6_isAtRest_10 : decode cX6_isAtRest 10 = .ok (.aload_n 0, 1) := by decide +kernel
theorem dX6_isAtRest_11 : decode cX6_isAtRest 11 = .ok (.iload_n 1, 1) := by decide +kernel
theorem dX6_isAtRest_12 : decode cX6_isAtRest 12 = .ok (.iload 5, 2) := by decide +kernel
theorem dX6_isAtRest_14 : decode cX6_isAtRest 14 = .ok (.invokevirtual 266, 3) := by decide +kernel
theorem dX6_isAtRest_17 : decode cX6_isAtRest 17 = .ok (.ifCond .eq 35, 3) := by decide +kernel
theorem dX6_isAtRest_20 : decode cX6_isAtRest 20 = .ok (.aload_n 0, 1) := by decide +kernel
theorem dX6_isAtRest_21 : decode cX6_isAtRest 21 = .ok (.getfield 72, 3) := by decide +kernel
theorem dX6_isAtRest_24 : decode cX6_isAtRest 24 = .ok (.iload 5, 2) := by decide +kernel
theorem dX6_isAtRest_26 : decode cX6_isAtRest 26 = .ok (.iload 4, 2) := by decide +kernel
theorem dX6_isAtRest_28 : decode cX6_isAtRest 28 = .ok (.invokestatic 341, 3) := by decide +kernel
theorem dX6_isAtRest_31 : decode cX6_isAtRest 31 = .ok (.invokestatic 319, 3) := by decide +kernel
theorem dX6_isAtRest_34 : decode cX6_isAtRest 34 = .ok (.aload_n 0, 1) := by decide +kernel
theorem dX6_isAtRest_35 : decode cX6_isAtRest 35 = .ok (.getfield 72, 3) := by decide +kernel
theorem dX6_isAtRest_38 : decode cX6_isAtRest 38 = .ok (.iload_n 2, 1) := by decide +kernel
theorem dX6_isAtRest_39 : decode cX6_isAtRest 39 = .ok (.iload 4, 2) := by decide +kernel
theorem dX6_isAtRest_41 : decode cX6_isAtRest 41 = .ok (.invokestatic 341, 3) := by decide +kernel
theorem dX6_isAtRest_44 : decode cX6_isAtRest 44 = .ok (.invokestatic 319, 3) := by decide +kernel
theorem dX6_isAtRest_47 : decode cX6_isAtRest 47 = .ok (.if_icmp .le 5, 3) := by decide +kernel
theorem dX6_isAtRest_50 : decode cX6_isAtRest 50 = .ok (.iconst 0, 1) := by decide +kernel
theorem dX6_isAtRest_51 : decode cX6_isAtRest 51 = .ok (.ireturn, 1) := by decide +kernel
theorem dX6_isAtRest_52 : decode cX6_isAtRest 52 = .ok (.aload_n 0, 1) := by decide +kernel
theorem dX6_isAtRest_53 : decode cX6_isAtRest 53 = .ok (.iload_n 3, 1) := by decide +kernel
theorem dX6_isAtRest_54 : decode cX6_isAtRest 54 = .ok (.iload 5, 2) := by decide +kernel
theorem dX6_isAtRest_56 : decode cX6_isAtRest 56 = .ok (.invokevirtual 266, 3) := by decide +kernel
theorem dX6_isAtRest_59 : decode cX6_isAtRest 59 = .ok (.ifCond .eq 34, 3) := by decide +kernel
theorem dX6_isAtRest_62 : decode cX6_isAtRest 62 = .ok (.aload_n 0, 1) := by decide +kernel
theorem dX6_isAtRest_63 : decode cX6_isAtRest 63 = .ok (.getfield 75, 3) := by decide +kernel
theorem dX6_isAtRest_66 : decode cX6_isAtRest 66 = .ok (.iload_n 2, 1) := by decide +kernel
theorem dX6_isAtRest_67 : decode cX6_isAtRest 67 = .ok (.iload 5, 2) := by decide +kernel
theorem dX6_isAtRest_69 : decode cX6_isAtRest 69 = .ok (.invokestatic 341, 3) := by decide +kernel
theorem dX6_isAtRest_72 : decode cX6_isAtRest 72 = .ok (.invokestatic 319, 3) := by decide +kernel
theorem dX6_isAtRest_75 : decode cX6_isAtRest 75 = .ok (.aload_n 0, 1) := by decide +kernel
theorem dX6_isAtRest_76 : decode cX6_isAtRest 76 = .ok (.getfield 75, 3) := by decide +kernel
theorem dX6_isAtRest_79 : decode cX6_isAtRest 79 = .ok (.iload_n 2, 1) := by decide +kernel
theorem dX6_isAtRest_80 : decode cX6_isAtRest 80 = .ok (.iload 4, 2) := by decide +kernel
theorem dX6_isAtRest_82 : decode cX6_isAtRest 82 = .ok (.invokestatic 341, 3) := by decide +kernel
theorem dX6_isAtRest_85 : decode cX6_isAtRest 85 = .ok (.invokestatic 319, 3) := by decide +kernel
theorem dX6_isAtRest_88 : decode cX6_isAtRest 88 = .ok (.if_icmp .le 5, 3) := by decide +kernel
theorem dX6_isAtRest_91 : decode cX6_isAtRest 91 = .ok (.iconst 0, 1) := by decide +kernel
theorem dX6_isAtRest_92 : decode cX6_isAtRest 92 = .ok (.ireturn, 1) := by decide +kernel
theorem dX6_isAtRest_93 : decode cX6_isAtRest 93 = .ok (.iinc 5 1, 3) := by decide +kernel
theorem dX6_isAtRest_96 : decode cX6_isAtRest 96 = .ok (.goto (-93), 3) := by decide +kernel
theorem dX6_isAtRest_99 : decode cX6_isAtRest 99 = .ok (.iconst 1, 1) := by decide +kernel
theorem dX6_isAtRest_100 : decode cX6_isAtRest 100 = .ok (.ireturn, 1) := by decide +kernel
theorem dX6_slotAt_0 : decode cX6_slotAt 0 = .ok (.iload_n 1, 1) := by decide +kernel
theorem dX6_slotAt_1 : decode cX6_slotAt 1 = .ok (.aload_n 0, 1) := by decide +kernel
theorem dX6_slotAt_2 : decode cX6_slotAt 2 = .ok (.getfield 50, 3) := by decide +kernel
theorem dX6_slotAt_5 : decode cX6_slotAt 5 = .ok (.arraylength, 1) := by decide +kernel
theorem dX6_slotAt_6 : decode cX6_slotAt 6 = .ok (.invokestatic 344, 3) := by decide +kernel
theorem dX6_slotAt_9 : decode cX6_slotAt 9 = .ok (.ifCond .eq 24, 3) := by decide +kernel
theorem dX6_slotAt_12 : decode cX6_slotAt 12 = .ok (.iload_n 1, 1) := by decide +kernel
theorem dX6_slotAt_13 : decode cX6_slotAt 13 = .ok (.aload_n 0, 1) := by decide +kernel
theorem dX6_slotAt_14 : decode cX6_slotAt 14 = .ok (.getfield 54, 3) := by decide +kernel
theorem dX6_slotAt_17 : decode cX6_slotAt 17 = .ok (.arraylength, 1) := by decide +kernel
theorem dX6_slotAt_18 : decode cX6_slotAt 18 = .ok (.invokestatic 344, 3) := by decide +kernel
theorem dX6_slotAt_21 : decode cX6_slotAt 21 = .ok (.ifCond .eq 12, 3) := by decide +kernel
theorem dX6_slotAt_24 : decode cX6_slotAt 24 = .ok (.aload_n 0, 1) := by decide +kernel
theorem dX6_slotAt_25 : decode cX6_slotAt 25 = .ok (.getfield 50, 3) := by decide +kernel
theorem dX6_slotAt_28 : decode cX6_slotAt 28 = .ok (.iload_n 1, 1) := by decide +kernel
theorem dX6_slotAt_29 : decode cX6_slotAt 29 = .ok (.aaload, 1) := by decide +kernel
theorem dX6_slotAt_30 : decode cX6_slotAt 30 = .ok (.goto 4, 3) := by decide +kernel
theorem dX6_slotAt_33 : decode cX6_slotAt 33 = .ok (.aconst_null, 1) := by decide +kernel
theorem dX6_slotAt_34 : decode cX6_slotAt 34 = .ok (.areturn, 1) := by decide +kernel
theorem dX6_isOutside_0 : decode cX6_isOutside 0 = .ok (.iload_n 0, 1) := by decide +kernel
theorem dX6_isOutside_1 : decode cX6_isOutside 1 = .ok (.iload_n 1, 1) := by decide +kernel
theorem dX6_isOutside_2 : decode cX6_isOutside 2 = .ok (.if_icmp .lt 8, 3) := by decide +kernel
theorem dX6_isOutside_5 : decode cX6_isOutside 5 = .ok (.iload_n 0, 1) := by decide +kernel
theorem dX6_isOutside_6 : decode cX6_isOutside 6 = .ok (.iload_n 2, 1) := by decide +kernel
theorem dX6_isOutside_7 : decode cX6_isOutside 7 = .ok (.if_icmp .le 7, 3) := by decide +kernel
theorem dX6_isOutside_10 : decode cX6_isOutside 10 = .ok (.iconst 1, 1) := by decide +kernel
theorem dX6_isOutside_11 : decode cX6_isOutside 11 = .ok (.goto 4, 3) := by decide +kernel
theorem dX6_isOutside_14 : decode cX6_isOutside 14 = .ok (.iconst 0, 1) := by decide +kernel
theorem dX6_isOutside_15 : decode cX6_isOutside 15 = .ok (.ireturn, 1) := by decide +kernel
theorem dX6_isTable_0 : decode cX6_isTable 0 = .ok (.iload_n 0, 1) := by decide +kernel
theorem dX6_isTable_1 : decode cX6_isTable 1 = .ok (.ifCond .lt 13, 3) := by decide +kernel
theorem dX6_isTable_4 : decode cX6_isTable 4 = .ok (.iload_n 0, 1) := by decide +kernel
theorem dX6_isTable_5 : decode cX6_isTable 5 = .ok (.bipush 6, 2) := by decide +kernel
theorem dX6_isTable_7 : decode cX6_isTable 7 = .ok (.if_icmp .ge 7, 3) := by decide +kernel
theorem dX6_isTable_10 : decode cX6_isTable 10 = .ok (.iconst 1, 1) := by decide +kernel
theorem dX6_isTable_11 : decode cX6_isTable 11 = .ok (.goto 4, 3) := by decide +kernel
theorem dX6_isTable_14 : decode cX6_isTable 14 = .ok (.iconst 0, 1) := by decide +kernel
theorem dX6_isTable_15 : decode cX6_isTable 15 = .ok (.ireturn, 1) := by decide +kernel
theorem dX6_isIndex_0 : decode cX6_isIndex 0 = .ok (.iload_n 0, 1) := by decide +kernel
theorem dX6_isIndex_1 : decode cX6_isIndex 1 = .ok (.ifCond .lt 12, 3) := by decide +kernel
theorem dX6_isIndex_4 : decode cX6_isIndex 4 = .ok (.iload_n 0, 1) := by decide +kernel
theorem dX6_isIndex_5 : decode cX6_isIndex 5 = .ok (.iload_n 1, 1) := by decide +kernel
theorem dX6_isIndex_6 : decode cX6_isIndex 6 = .ok (.if_icmp .ge 7, 3) := by decide +kernel
theorem dX6_isIndex_9 : decode cX6_isIndex 9 = .ok (.iconst 1, 1) := by decide +kernel
theorem dX6_isIndex_10 : decode cX6_isIndex 10 = .ok (.goto 4, 3) := by decide +kernel
theorem dX6_isIndex_13 : decode cX6_isIndex 13 = .ok (.iconst 0, 1) := by decide +kernel
theorem dX6_isIndex_14 : decode cX6_isIndex 14 = .ok (.ireturn, 1) := by decide +kernel
theorem dX6_at_0 : decode cX6_at 0 = .ok (.iload_n 1, 1) := by decide +kernel
theorem dX6_at_1 : decode cX6_at 1 = .ok (.ifCond .lt 15, 3) := by decide +kernel
theorem dX6_at_4 : decode cX6_at 4 = .ok (.iload_n 1, 1) := by decide +kernel
theorem dX6_at_5 : decode cX6_at 5 = .ok (.aload_n 0, 1) := by decide +kernel
theorem dX6_at_6 : decode cX6_at 6 = .ok (.arraylength, 1) := by decide +kernel
theorem dX6_at_7 : decode cX6_at 7 = .ok (.if_icmp .ge 9, 3) := by decide +kernel
theorem dX6_at_10 : decode cX6_at 10 = .ok (.aload_n 0, 1) := by decide +kernel
theorem dX6_at_11 : decode cX6_at 11 = .ok (.iload_n 1, 1) := by decide +kernel
theorem dX6_at_12 : decode cX6_at 12 = .ok (.iaload, 1) := by decide +kernel
theorem dX6_at_13 : decode cX6_at 13 = .ok (.goto 4, 3) := by decide +kernel
theorem dX6_at_16 : decode cX6_at 16 = .ok (.iconst 0, 1) := by decide +kernel
theorem dX6_at_17 : decode cX6_at 17 = .ok (.ireturn, 1) := by decide +kernel
theorem dX6_hasBit_0 : decode cX6_hasBit 0 = .ok (.iload_n 1, 1) := by decide +kernel
theorem dX6_hasBit_1 : decode cX6_hasBit 1 = .ok (.ifCond .lt 21, 3) := by decide +kernel
theorem dX6_hasBit_4 : decode cX6_hasBit 4 = .ok (.iload_n 1, 1) := by decide +kernel
theorem dX6_hasBit_5 : decode cX6_hasBit 5 = .ok (.bipush 30, 2) := by decide +kernel
theorem dX6_hasBit_7 : decode cX6_hasBit 7 = .ok (.if_icmp .gt 15, 3) := by decide +kernel
theorem dX6_hasBit_10 : decode cX6_hasBit 10 = .ok (.iload_n 0, 1) := by decide +kernel
theorem dX6_hasBit_11 : decode cX6_hasBit 11 = .ok (.iload_n 1, 1) := by decide +kernel
theorem dX6_hasBit_12 : decode cX6_hasBit 12 = .ok (.ishr, 1) := by decide +kernel
theorem dX6_hasBit_13 : decode cX6_hasBit 13 = .ok (.iconst 1, 1) := by decide +kernel
theorem dX6_hasBit_14 : decode cX6_hasBit 14 = .ok (.iand, 1) := by decide +kernel
theorem dX6_hasBit_15 : decode cX6_hasBit 15 = .ok (.ifCond .eq 7, 3) := by decide +kernel
theorem dX6_hasBit_18 : decode cX6_hasBit 18 = .ok (.iconst 1, 1) := by decide +kernel
theorem dX6_hasBit_19 : decode cX6_hasBit 19 = .ok (.goto 4, 3) := by decide +kernel
theorem dX6_hasBit_22 : decode cX6_hasBit 22 = .ok (.iconst 0, 1) := by decide +kernel
theorem dX6_hasBit_23 : decode cX6_hasBit 23 = .ok (.ireturn, 1) := by decide +kernel
theorem dX6_power_0 : decode cX6_power 0 = .ok (.iconst 1, 1) := by decide +kernel
theorem dX6_power_1 : decode cX6_power 1 = .ok (.istore_n 2, 1) := by decide +kernel
theorem dX6_power_2 : decode cX6_power 2 = .ok (.iconst 0, 1) := by decide +kernel
theorem dX6_power_3 : decode cX6_power 3 = .ok (.istore_n 3, 1) := by decide +kernel
theorem dX6_power_4 : decode cX6_power 4 = .ok (.iload_n 3, 1) := by decide +kernel
theorem dX6_power_5 : decode cX6_power 5 = .ok (.iload_n 1, 1) := by decide +kernel
theorem dX6_power_6 : decode cX6_power 6 = .ok (.if_icmp .ge 19, 3) := by decide +kernel
theorem dX6_power_9 : decode cX6_power 9 = .ok (.iload_n 3, 1) := by decide +kernel
theorem dX6_power_10 : decode cX6_power 10 = .ok (.bipush 6, 2) := by decide +kernel
theorem dX6_power_12 : decode cX6_power 12 = .ok (.if_icmp .ge 13, 3) := by decide +kernel
theorem dX6_power_15 : decode cX6_power 15 = .ok (.iload_n 2, 1) := by decide +kernel
theorem dX6_power_16 : decode cX6_power 16 = .ok (.iload_n 0, 1) := by decide +kernel
theorem dX6_power_17 : decode cX6_power 17 = .ok (.imul, 1) := by decide +kernel
theorem dX6_power_18 : decode cX6_power 18 = .ok (.istore_n 2, 1) := by decide +kernel
theorem dX6_power_19 : decode cX6_power 19 = .ok (.iinc 3 1, 3) := by decide +kernel
theorem dX6_power_22 : decode cX6_power 22 = .ok (.goto (-18), 3) := by decide +kernel
theorem dX6_power_25 : decode cX6_power 25 = .ok (.iload_n 2, 1) := by decide +kernel
theorem dX6_power_26 : decode cX6_power 26 = .ok (.ireturn, 1) := by decide +kernel
theorem dX6_factorial_0 : decode cX6_factorial 0 = .ok (.iconst 1, 1) := by decide +kernel
theorem dX6_factorial_1 : decode cX6_factorial 1 = .ok (.istore_n 1, 1) := by decide +kernel
theorem dX6_factorial_2 : decode cX6_factorial 2 = .ok (.iconst 2, 1) := by decide +kernel
theorem dX6_factorial_3 : decode cX6_factorial 3 = .ok (.istore_n 2, 1) := by decide +kernel
theorem dX6_factorial_4 : decode cX6_factorial 4 = .ok (.iload_n 2, 1) := by decide +kernel
theorem dX6_factorial_5 : decode cX6_factorial 5 = .ok (.iload_n 0, 1) := by decide +kernel
theorem dX6_factorial_6 : decode cX6_factorial 6 = .ok (.if_icmp .gt 19, 3) := by decide +kernel
theorem dX6_factorial_9 : decode cX6_factorial 9 = .ok (.iload_n 2, 1) := by decide +kernel
theorem dX6_factorial_10 : decode cX6_factorial 10 = .ok (.bipush 6, 2) := by decide +kernel
theorem dX6_factorial_12 : decode cX6_factorial 12 = .ok (.if_icmp .gt 13, 3) := by decide +kernel
theorem dX6_factorial_15 : decode cX6_factorial 15 = .ok (.iload_n 1, 1) := by decide +kernel
theorem dX6_factorial_16 : decode cX6_factorial 16 = .ok (.iload_n 2, 1) := by decide +kernel
theorem dX6_factorial_17 : decode cX6_factorial 17 = .ok (.imul, 1) := by decide +kernel
theorem dX6_factorial_18 : decode cX6_factorial 18 = .ok (.istore_n 1, 1) := by decide +kernel
theorem dX6_factorial_19 : decode cX6_factorial 19 = .ok (.iinc 2 1, 3) := by decide +kernel
theorem dX6_factorial_22 : decode cX6_factorial 22 = .ok (.goto (-18), 3) := by decide +kernel
theorem dX6_factorial_25 : decode cX6_factorial 25 = .ok (.iload_n 1, 1) := by decide +kernel
theorem dX6_factorial_26 : decode cX6_factorial 26 = .ok (.ireturn, 1) := by decide +kernel
theorem dX6_fraction_0 : decode cX6_fraction 0 = .ok (.iload_n 0, 1) := by decide +kernel
theorem dX6_fraction_1 : decode cX6_fraction 1 = .ok (.invokestatic 347, 3) := by decide +kernel
theorem dX6_fraction_4 : decode cX6_fraction 4 = .ok (.iload_n 1, 1) := by decide +kernel
theorem dX6_fraction_5 : decode cX6_fraction 5 = .ok (.invokestatic 352, 3) := by decide +kernel
theorem dX6_fraction_8 : decode cX6_fraction 8 = .ok (.istore_n 3, 1) := by decide +kernel
theorem dX6_fraction_9 : decode cX6_fraction 9 = .ok (.iload_n 3, 1) := by decide +kernel
theorem dX6_fraction_10 : decode cX6_fraction 10 = .ok (.iconst 1, 1) := by decide +kernel
theorem dX6_fraction_11 : decode cX6_fraction 11 = .ok (.if_icmp .ge 13, 3) := by decide +kernel
theorem dX6_fraction_14 : decode cX6_fraction 14 = .ok (.iload_n 2, 1) := by decide +kernel
theorem dX6_fraction_15 : decode cX6_fraction 15 = .ok (.ifCond .eq 7, 3) := by decide +kernel
theorem dX6_fraction_18 : decode cX6_fraction 18 = .ok (.iload_n 0, 1) := by decide +kernel
theorem dX6_fraction_19 : decode cX6_fraction 19 = .ok (.goto 4, 3) := by decide +kernel
theorem dX6_fraction_22 : decode cX6_fraction 22 = .ok (.iload_n 1, 1) := by decide +kernel
theorem dX6_fraction_23 : decode cX6_fraction 23 = .ok (.ireturn, 1) := by decide +kernel
theorem dX6_fraction_24 : decode cX6_fraction 24 = .ok (.iload_n 2, 1) := by decide +kernel
theorem dX6_fraction_25 : decode cX6_fraction 25 = .ok (.ifCond .eq 9, 3) := by decide +kernel
theorem dX6_fraction_28 : decode cX6_fraction 28 = .ok (.iload_n 0, 1) := by decide +kernel
theorem dX6_fraction_29 : decode cX6_fraction 29 = .ok (.iload_n 3, 1) := by decide +kernel
theorem dX6_fraction_30 : decode cX6_fraction 30 = .ok (.idiv, 1) := by decide +kernel
theorem dX6_fraction_31 : decode cX6_fraction 31 = .ok (.goto 6, 3) := by decide +kernel
theorem dX6_fraction_34 : decode cX6_fraction 34 = .ok (.iload_n 1, 1) := by decide +kernel
theorem dX6_fraction_35 : decode cX6_fraction 35 = .ok (.iload_n 3, 1) := by decide +kernel
theorem dX6_fraction_36 : decode cX6_fraction 36 = .ok (.idiv, 1) := by decide +kernel
theorem dX6_fraction_37 : decode cX6_fraction 37 = .ok (.ireturn, 1) := by decide +kernel
theorem dX6_commonDivisor_0 : decode cX6_commonDivisor 0 = .ok (.iload_n 0, 1) := by decide +kernel
theorem dX6_commonDivisor_1 : decode cX6_commonDivisor 1 = .ok (.istore_n 2, 1) := by decide +kernel
theorem dX6_commonDivisor_2 : decode cX6_commonDivisor 2 = .ok (.iload_n 1, 1) := by decide +kernel
theorem dX6_commonDivisor_3 : decode cX6_commonDivisor 3 = .ok (.istore_n 3, 1) := by decide +kernel
theorem dX6_commonDivisor_4 : decode cX6_commonDivisor 4 = .ok (.iconst 0, 1) := by decide +kernel
theorem dX6_commonDivisor_5 : decode cX6_commonDivisor 5 = .ok (.istore 4, 2) := by decide +kernel
theorem dX6_commonDivisor_7 : decode cX6_commonDivisor 7 = .ok (.iload 4, 2) := by decide +kernel
theorem dX6_commonDivisor_9 : decode cX6_commonDivisor 9 = .ok (.bipush 64, 2) := by decide +kernel
theorem dX6_commonDivisor_11 : decode cX6_commonDivisor 11 = .ok (.if_icmp .ge 23, 3) := by decide +kernel
theorem dX6_commonDivisor_14 : decode cX6_commonDivisor 14 = .ok (.iload_n 3, 1) := by decide +kernel
theorem dX6_commonDivisor_15 : decode cX6_commonDivisor 15 = .ok (.ifCond .eq 19, 3) := by decide +kernel
theorem dX6_commonDivisor_18 : decode cX6_commonDivisor 18 = .ok (.iload_n 2, 1) := by decide +kernel
theorem dX6_commonDivisor_19 : decode cX6_commonDivisor 19 = .ok (.iload_n 3, 1) := by decide +kernel
theorem dX6_commonDivisor_20 : decode cX6_commonDivisor 20 = .ok (.irem, 1) := by decide +kernel
theorem dX6_commonDivisor_21 : decode cX6_commonDivisor 21 = .ok (.istore 5, 2) := by decide +kernel
theorem dX6_commonDivisor_23 : decode cX6_commonDivisor 23 = .ok (.iload_n 3, 1) := by decide +kernel
theorem dX6_commonDivisor_24 : decode cX6_commonDivisor 24 = .ok (.istore_n 2, 1) := by decide +kernel
theorem dX6_commonDivisor_25 : decode cX6_commonDivisor 25 = .ok (.iload 5, 2) := by decide +kernel
theorem dX6_commonDivisor_27 : decode cX6_commonDivisor 27 = .ok (.istore_n 3, 1) := by decide +kernel
theorem dX6_commonDivisor_28 : decode cX6_commonDivisor 28 = .ok (.iinc 4 1, 3) := by decide +kernel
theorem dX6_commonDivisor_31 : decode cX6_commonDivisor 31 = .ok (.goto (-24), 3) := by decide +kernel
theorem dX6_commonDivisor_34 : decode cX6_commonDivisor 34 = .ok (.iload_n 2, 1) := by decide +kernel
theorem dX6_commonDivisor_35 : decode cX6_commonDivisor 35 = .ok (.ireturn, 1) := by decide +kernel
theorem dX7_init_0 : decode cX7_init 0 = .ok (.aload_n 0, 1) := by decide +kernel
theorem dX7_init_1 : decode cX7_init 1 = .ok (.invokespecial 1, 3) := by decide +kernel
theorem dX7_init_4 : decode cX7_init 4 = .ok (.aload_n 0, 1) := by decide +kernel
theorem dX7_init_5 : decode cX7_init 5 = .ok (.iconst 5, 1) := by decide +kernel
theorem dX7_init_6 : decode cX7_init 6 = .ok (.newarray .int, 2) := by decide +kernel
theorem dX7_init_8 : decode cX7_init 8 = .ok (.putfield 7, 3) := by decide +kernel
theorem dX7_init_11 : decode cX7_init 11 = .ok (.aload_n 0, 1) := by decide +kernel
theorem dX7_init_12 : decode cX7_init 12 = .ok (.iconst 5, 1) := by decide +kernel
theorem dX7_init_13 : decode cX7_init 13 = .ok (.newarray .int, 2) := by decide +kernel
theorem dX7_init_15 : decode cX7_init 15 = .ok (.putfield 13, 3) := by decide +kernel
theorem dX7_init_18 : decode cX7_init 18 = .ok (.aload_n 0, 1) := by decide +kernel
theorem dX7_init_19 : decode cX7_init 19 = .ok (.iconst 5, 1) := by decide +kernel
theorem dX7_init_20 : decode cX7_init 20 = .ok (.newarray .int, 2) := by decide +kernel
theorem dX7_init_22 : decode cX7_init 22 = .ok (.putfield 16, 3) := by decide +kernel
theorem dX7_init_25 : decode cX7_init 25 = .ok (.aload_n 0, 1) := by decide +kernel
theorem dX7_init_26 : decode cX7_init 26 = .ok (.iconst 5, 1) := by decide +kernel
theorem dX7_init_27 : decode cX7_init 27 = .ok (.newarray .int, 2) := by decide +kernel
theorem dX7_init_29 : decode cX7_init 29 = .ok (.putfield 19, 3) := by decide +kernel
theorem dX7_init_32 : decode cX7_init 32 = .ok (.aload_n 0, 1) := by decide +kernel
theorem dX7_init_33 : decode cX7_init 33 = .ok (.iconst 4, 1) := by decide +kernel
theorem dX7_init_34 : decode cX7_init 34 = .ok (.newarray .int, 2) := by decide +kernel
theorem dX7_init_36 : decode cX7_init 36 = .ok (.putfield 22, 3) := by decide +kernel
theorem dX7_init_39 : decode cX7_init 39 = .ok (.aload_n 0, 1) := by decide +kernel
theorem dX7_init_40 : decode cX7_init 40 = .ok (.bipush 62, 2) := by decide +kernel
theorem dX7_init_42 : decode cX7_init 42 = .ok (.newarray .int, 2) := by decide +kernel
theorem dX7_init_44 : decode cX7_init 44 = .ok (.putfield 25, 3) := by decide +kernel
theorem dX7_init_47 : decode cX7_init 47 = .ok (.aload_n 0, 1) := by decide +kernel
theorem dX7_init_48 : decode cX7_init 48 = .ok (.iconst 5, 1) := by decide +kernel
theorem dX7_init_49 : decode cX7_init 49 = .ok (.newarray .int, 2) := by decide +kernel
theorem dX7_init_51 : decode cX7_init 51 = .ok (.putfield 28, 3) := by decide +kernel
theorem dX7_init_54 : decode cX7_init 54 = .ok (.aload_n 0, 1) := by decide +kernel
theorem dX7_init_55 : decode cX7_init 55 = .ok (.iconst 5, 1) := by decide +kernel
theorem dX7_init_56 : decode cX7_init 56 = .ok (.newarray .int, 2) := by decide +kernel
theorem dX7_init_58 : decode cX7_init 58 = .ok (.putfield 31, 3) := by decide +kernel
theorem dX7_init_61 : decode cX7_init 61 = .ok (.aload_n 0, 1) := by decide +kernel
theorem dX7_init_62 : decode cX7_init 62 = .ok (.iconst 5, 1) := by decide +kernel
theorem dX7_init_63 : decode cX7_init 63 = .ok (.newarray .int, 2) := by decide +kernel
theorem dX7_init_65 : decode cX7_init 65 = .ok (.putfield 34, 3) := by decide +kernel
theorem dX7_init_68 : decode cX7_init 68 = .ok (.aload_n 0, 1) := by decide +kernel
theorem dX7_init_69 : decode cX7_init 69 = .ok (.iconst 5, 1) := by decide +kernel
theorem dX7_init_70 : decode cX7_init 70 = .ok (.newarray .int, 2) := by decide +kernel
theorem dX7_init_72 : decode cX7_init 72 = .ok (.putfield 37, 3) := by decide +kernel
theorem dX7_init_75 : decode cX7_init 75 = .ok (.aload_n 0, 1) := by decide +kernel
theorem dX7_init_76 : decode cX7_init 76 = .ok (.iconst 5, 1) := by decide +kernel
theorem dX7_init_77 : decode cX7_init 77 = .ok (.newarray .int, 2) := by decide +kernel
theorem dX7_init_79 : decode cX7_init 79 = .ok (.putfield 40, 3) := by decide +kernel
theorem dX7_init_82 : decode cX7_init 82 = .ok (.aload_n 0, 1) := by decide +kernel
theorem dX7_init_83 : decode cX7_init 83 = .ok (.iconst 4, 1) := by decide +kernel
theorem dX7_init_84 : decode cX7_init 84 = .ok (.newarray .int, 2) := by decide +kernel
theorem dX7_init_86 : decode cX7_init 86 = .ok (.putfield 43, 3) := by decide +kernel
theorem dX7_init_89 : decode cX7_init 89 = .ok (.aload_n 0, 1) := by decide +kernel
theorem dX7_init_90 : decode cX7_init 90 = .ok (.bipush 48, 2) := by decide +kernel
theorem dX7_init_92 : decode cX7_init 92 = .ok (.newarray .int, 2) := by decide +kernel
theorem dX7_init_94 : decode cX7_init 94 = .ok (.putfield 46, 3) := by decide +kernel
theorem dX7_init_97 : decode cX7_init 97 = .ok (.aload_n 0, 1) := by decide +kernel
theorem dX7_init_98 : decode cX7_init 98 = .ok (.sipush 434, 3) := by decide +kernel
theorem dX7_init_101 : decode cX7_init 101 = .ok (.newarray .int, 2) := by decide +kernel
theorem dX7_init_103 : decode cX7_init 103 = .ok (.putfield 49, 3) := by decide +kernel
theorem dX7_init_106 : decode cX7_init 106 = .ok (.aload_n 0, 1) := by decide +kernel
theorem dX7_init_107 : decode cX7_init 107 = .ok (.bipush 6, 2) := by decide +kernel
theorem dX7_init_109 : decode cX7_init 109 = .ok (.newarray .int, 2) := by decide +kernel
theorem dX7_init_111 : decode cX7_init 111 = .ok (.putfield 52, 3) := by decide +kernel
theorem dX7_init_114 : decode cX7_init 114 = .ok (.aload_n 0, 1) := by decide +kernel
theorem dX7_init_115 : decode cX7_init 115 = .ok (.bipush 6, 2) := by decide +kernel
theorem dX7_init_117 : decode cX7_init 117 = .ok (.newarray .int, 2) := by decide +kernel
theorem dX7_init_119 : decode cX7_init 119 = .ok (.putfield 55, 3) := by decide +kernel
theorem dX7_init_122 : decode cX7_init 122 = .ok (.aload_n 0, 1) := by decide +kernel
theorem dX7_init_123 : decode cX7_init 123 = .ok (.bipush 6, 2) := by decide +kernel
theorem dX7_init_125 : decode cX7_init 125 = .ok (.newarray .int, 2) := by decide +kernel
theorem dX7_init_127 : decode cX7_init 127 = .ok (.putfield 58, 3) := by decide +kernel
theorem dX7_init_130 : decode cX7_init 130 = .ok (.aload_n 0, 1) := by decide +kernel
theorem dX7_init_131 : decode cX7_init 131 = .ok (.bipush 6, 2) := by decide +kernel
theorem dX7_init_133 : decode cX7_init 133 = .ok (.newarray .boolean, 2) := by decide +kernel
theorem dX7_init_135 : decode cX7_init 135 = .ok (.putfield 61, 3) := by decide +kernel
theorem dX7_init_138 : decode cX7_init 138 = .ok (.aload_n 0, 1) := by decide +kernel
theorem dX7_init_139 : decode cX7_init 139 = .ok (.bipush 36, 2) := by decide +kernel
theorem dX7_init_141 : decode cX7_init 141 = .ok (.newarray .int, 2) := by decide +kernel
theorem dX7_init_143 : decode cX7_init 143 = .ok (.putfield 65, 3) := by decide +kernel
theorem dX7_init_146 : decode cX7_init 146 = .ok (.aload_n 0, 1) := by decide +kernel
theorem dX7_init_147 : decode cX7_init 147 = .ok (.bipush 36, 2) := by decide +kernel
theorem dX7_init_149 : decode cX7_init 149 = .ok (.newarray .int, 2) := by decide +kernel
theorem dX7_init_151 : decode cX7_init 151 = .ok (.putfield 68, 3) := by decide +kernel
theorem dX7_init_154 : decode cX7_init 154 = .ok (.aload_n 0, 1) := by decide +kernel
theorem dX7_init_155 : decode cX7_init 155 = .ok (.iconst 2, 1) := by decide +kernel
theorem dX7_init_156 : decode cX7_init 156 = .ok (.newarray .boolean, 2) := by decide +kernel
theorem dX7_init_158 : decode cX7_init 158 = .ok (.putfield 71, 3) := by decide +kernel
theorem dX7_init_161 : decode cX7_init 161 = .ok (.aload_n 0, 1) := by decide +kernel
theorem dX7_init_162 : decode cX7_init 162 = .ok (.bipush 62, 2) := by decide +kernel
theorem dX7_init_164 : decode cX7_init 164 = .ok (.newarray .int, 2) := by decide +kernel
theorem dX7_init_166 : decode cX7_init 166 = .ok (.putfield 74, 3) := by decide +kernel
theorem dX7_init_169 : decode cX7_init 169 = .ok (.aload_n 0, 1) := by decide +kernel
theorem dX7_init_170 : decode cX7_init 170 = .ok (.iconst 0, 1) := by decide +kernel
theorem dX7_init_171 : decode cX7_init 171 = .ok (.putfield 77, 3) := by decide +kernel
theorem dX7_init_174 : decode cX7_init 174 = .ok (.return_, 1) := by decide +kernel
theorem dX7_in_0 : decode cX7_in 0 = .ok (.lload_n 0, 1) := by decide +kernel
theorem dX7_in_1 : decode cX7_in 1 = .ok (.lload_n 2, 1) := by decide +kernel
theorem dX7_in_2 : decode cX7_in 2 = .ok (.lcmp, 1) := by decide +kernel
theorem dX7_in_3 : decode cX7_in 3 = .ok (.ifCond .lt 14, 3) := by decide +kernel
theorem dX7_in_6 : decode cX7_in 6 = .ok (.lload_n 0, 1) := by decide +kernel
theorem dX7_in_7 : decode cX7_in 7 = .ok (.lload 4, 2) := by decide +kernel
theorem dX7_in_9 : decode cX7_in 9 = .ok (.lcmp, 1) := by decide +kernel
theorem dX7_in_10 : decode cX7_in 10 = .ok (.ifCond .gt 7, 3) := by decide +kernel
theorem dX7_in_13 : decode cX7_in 13 = .ok (.iconst 1, 1) := by decide +kernel
theorem dX7_in_14 : decode cX7_in 14 = .ok (.goto 4, 3) := by decide +kernel
theorem dX7_in_17 : decode cX7_in 17 = .ok (.iconst 0, 1) := by decide +kernel
theorem dX7_in_18 : decode cX7_in 18 = .ok (.ireturn, 1) := by decide +kernel
theorem dX7_has_0 : decode cX7_has 0 = .ok (.iload_n 0, 1) := by decide +kernel
theorem dX7_has_1 : decode cX7_has 1 = .ok (.iload_n 1, 1) := by decide +kernel
theorem dX7_has_2 : decode cX7_has 2 = .ok (.ishr, 1) := by decide +kernel
theorem dX7_has_3 : decode cX7_has 3 = .ok (.iconst 1, 1) := by decide +kernel
theorem dX7_has_4 : decode cX7_has 4 = .ok (.iand, 1) := by decide +kernel
theorem dX7_has_5 : decode cX7_has 5 = .ok (.iconst 1, 1) := by decide +kernel
theorem dX7_has_6 : decode cX7_has 6 = .ok (.if_icmp .ne 7, 3) := by decide +kernel
theorem dX7_has_9 : decode cX7_has 9 = .ok (.iconst 1, 1) := by decide +kernel
theorem dX7_has_10 : decode cX7_has 10 = .ok (.goto 4, 3) := by decide +kernel
theorem dX7_has_13 : decode cX7_has 13 = .ok (.iconst 0, 1) := by decide +kernel
theorem dX7_has_14 : decode cX7_has 14 = .ok (.ireturn, 1) := by decide +kernel
theorem dX7_ones_0 : decode cX7_ones 0 = .ok (.iconst 0, 1) := by decide +kernel
theorem dX7_ones_1 : decode cX7_ones 1 = .ok (.istore_n 1, 1) := by decide +kernel
theorem dX7_ones_2 : decode cX7_ones 2 = .ok (.iconst 0, 1) := by decide +kernel
theorem dX7_ones_3 : decode cX7_ones 3 = .ok (.istore_n 2, 1) := by decide +kernel
theorem dX7_ones_4 : decode cX7_ones 4 = .ok (.iload_n 2, 1) := by decide +kernel
theorem dX7_ones_5 : decode cX7_ones 5 = .ok (.bipush 6, 2) := by decide +kernel
theorem dX7_ones_7 : decode cX7_ones 7 = .ok (.if_icmp .ge 17, 3) := by decide +kernel
theorem dX7_ones_10 : decode cX7_ones 10 = .ok (.iload_n 1, 1) := by decide +kernel
theorem dX7_ones_11 : decode cX7_ones 11 = .ok (.iload_n 0, 1) := by decide +kernel
theorem dX7_ones_12 : decode cX7_ones 12 = .ok (.iload_n 2, 1) := by decide +kernel
theorem dX7_ones_13 : decode cX7_ones 13 = .ok (.ishr, 1) := by decide +kernel
theorem dX7_ones_14 : decode cX7_ones 14 = .ok (.iconst 1, 1) := by decide +kernel
theorem dX7_ones_15 : decode cX7_ones 15 = .ok (.iand, 1) := by decide +kernel
theorem dX7_ones_16 : decode cX7_ones 16 = .ok (.iadd, 1) := by decide +kernel
theorem dX7_ones_17 : decode cX7_ones 17 = .ok (.istore_n 1, 1) := by decide +kernel
theorem dX7_ones_18 : decode cX7_ones 18 = .ok (.iinc 2 1, 3) := by decide +kernel
theorem dX7_ones_21 : decode cX7_ones 21 = .ok (.goto (-17), 3) := by decide +kernel
theorem dX7_ones_24 : decode cX7_ones 24 = .ok (.iload_n 1, 1) := by decide +kernel
theorem dX7_ones_25 : decode cX7_ones 25 = .ok (.ireturn, 1) := by decide +kernel
theorem dX7_write_0 : decode cX7_write 0 = .ok (.iload_n 1, 1) := by decide +kernel
theorem dX7_write_1 : decode cX7_write 1 = .ok (.i2l, 1) := by decide +kernel
theorem dX7_write_2 : decode cX7_write 2 = .ok (.lconst 0, 1) := by decide +kernel
theorem dX7_write_3 : decode cX7_write 3 = .ok (.ldc2_w 81, 3) := by decide +kernel
theorem dX7_write_6 : decode cX7_write 6 = .ok (.invokestatic 83, 3) := by decide +kernel
theorem dX7_write_9 : decode cX7_write 9 = .ok (.ifCond .ne 6, 3) := by decide +kernel
theorem dX7_write_12 : decode cX7_write 12 = .ok (.bipush (-2), 2) := by decide +kernel
theorem dX7_write_14 : decode cX7_write 14 = .ok (.ireturn, 1) := by decide +kernel
theorem dX7_write_15 : decode cX7_write 15 = .ok (.aload_n 0, 1) := by decide +kernel
theorem dX7_write_16 : decode cX7_write 16 = .ok (.getfield 87, 3) := by decide +kernel
theorem dX7_write_19 : decode cX7_write 19 = .ok (.bipush 48, 2) := by decide +kernel
theorem dX7_write_21 : decode cX7_write 21 = .ok (.if_icmp .ne 6, 3) := by decide +kernel
theorem dX7_write_24 : decode cX7_write 24 = .ok (.bipush (-4), 2) := by decide +kernel
theorem dX7_write_26 : decode cX7_write 26 = .ok (.ireturn, 1) := by decide +kernel
theorem dX7_write_27 : decode cX7_write 27 = .ok (.aload_n 0, 1) := by decide +kernel
theorem dX7_write_28 : decode cX7_write 28 = .ok (.getfield 46, 3) := by decide +kernel
theorem dX7_write_31 : decode cX7_write 31 = .ok (.aload_n 0, 1) := by decide +kernel
theorem dX7_write_32 : decode cX7_write 32 = .ok (.getfield 87, 3) := by decide +kernel
theorem dX7_write_35 : decode cX7_write 35 = .ok (.iload_n 1, 1) := by decide +kernel
theorem dX7_write_36 : decode cX7_write 36 = .ok (.iastore, 1) := by decide +kernel
theorem dX7_write_37 : decode cX7_write 37 = .ok (.aload_n 0, 1) := by decide +kernel
theorem dX7_write_38 : decode cX7_write 38 = .ok (.dup, 1) := by decide +kernel
theorem dX7_write_39 : decode cX7_write 39 = .ok (.getfield 87, 3) := by decide +kernel
theorem dX7_write_42 : decode cX7_write 42 = .ok (.iconst 1, 1) := by decide +kernel
theorem dX7_write_43 : decode cX7_write 43 = .ok (.iadd, 1) := by decide +kernel
theorem dX7_write_44 : decode cX7_write 44 = .ok (.putfield 87, 3) := by decide +kernel
theorem dX7_write_47 : decode cX7_write 47 = .ok (.aload_n 0, 1) := by decide +kernel
theorem dX7_write_48 : decode cX7_write 48 = .ok (.getfield 87, 3) := by decide +kernel
theorem dX7_write_51 : decode cX7_write 51 = .ok (.ireturn, 1) := by decide +kernel
theorem dX7_wipe_0 : decode cX7_wipe 0 = .ok (.aload_n 0, 1) := by decide +kernel
theorem dX7_wipe_1 : decode cX7_wipe 1 = .ok (.getfield 87, 3) := by decide +kernel
theorem dX7_wipe_4 : decode cX7_wipe 4 = .ok (.istore_n 1, 1) := by decide +kernel
theorem dX7_wipe_5 : decode cX7_wipe 5 = .ok (.aload_n 0, 1) := by decide +kernel
theorem dX7_wipe_6 : decode cX7_wipe 6 = .ok (.iconst 0, 1) := by decide +kernel
theorem dX7_wipe_7 : decode cX7_wipe 7 = .ok (.putfield 87, 3) := by decide +kernel
theorem dX7_wipe_10 : decode cX7_wipe 10 = .ok (.iload_n 1, 1) := by decide +kernel
theorem dX7_wipe_11 : decode cX7_wipe 11 = .ok (.ireturn, 1) := by decide +kernel
theorem dX7_figureOf_0 : decode cX7_figureOf 0 = .ok (.aload_n 0, 1) := by decide +kernel
theorem dX7_figureOf_1 : decode cX7_figureOf 1 = .ok (.getfield 90, 3) := by decide +kernel
theorem dX7_figureOf_4 : decode cX7_figureOf 4 = .ok (.bipush (-9), 2) := by decide +kernel
theorem dX7_figureOf_6 : decode cX7_figureOf 6 = .ok (.if_icmp .ne 29, 3) := by decide +kernel
theorem dX7_figureOf_9 : decode cX7_figureOf 9 = .ok (.aload_n 0, 1) := by decide +kernel
theorem dX7_figureOf_10 : decode cX7_figureOf 10 = .ok (.getfield 93, 3) := by decide +kernel
theorem dX7_figureOf_13 : decode cX7_figureOf 13 = .ok (.aload_n 0, 1) := by decide +kernel
theorem dX7_figureOf_14 : decode cX7_figureOf 14 = .ok (.getfield 87, 3) := by decide +kernel
theorem dX7_figureOf_17 : decode cX7_figureOf 17 = .ok (.if_icmp .ge 18, 3) := by decide +kernel
theorem dX7_figureOf_20 : decode cX7_figureOf 20 = .ok (.aload_n 0, 1) := by decide +kernel
theorem dX7_figureOf_21 : decode cX7_figureOf 21 = .ok (.getfield 46, 3) := by decide +kernel
theorem dX7_figureOf_24 : decode cX7_figureOf 24 = .ok (.aload_n 0, 1) := by decide +kernel
theorem dX7_figureOf_25 : decode cX7_figureOf 25 = .ok (.getfield 93, 3) := by decide +kernel
theorem dX7_figureOf_28 : decode cX7_figureOf 28 = .ok (.iaload, 1) := by decide +kernel
theorem dX7_figureOf_29 : decode cX7_figureOf 29 = .ok (.bipush 48, 2) := by decide +kernel
theorem dX7_figureOf_31 : decode cX7_figureOf 31 = .ok (.isub, 1) := by decide +kernel
theorem dX7_figureOf_32 : decode cX7_figureOf 32 = .ok (.goto 5, 3) := by decide +kernel
theorem dX7_figureOf_35 : decode cX7_figureOf 35 = .ok (.bipush (-9), 2) := by decide +kernel
theorem dX7_figureOf_37 : decode cX7_figureOf 37 = .ok (.istore_n 2, 1) := by decide +kernel
theorem dX7_figureOf_38 : decode cX7_figureOf 38 = .ok (.iload_n 2, 1) := by decide +kernel
theorem dX7_figureOf_39 : decode cX7_figureOf 39 = .ok (.i2l, 1) := by decide +kernel
theorem dX7_figureOf_40 : decode cX7_figureOf 40 = .ok (.lconst 0, 1) := by decide +kernel
theorem dX7_figureOf_41 : decode cX7_figureOf 41 = .ok (.ldc2_w 96, 3) := by decide +kernel
theorem dX7_figureOf_44 : decode cX7_figureOf 44 = .ok (.invokestatic 83, 3) := by decide +kernel
theorem dX7_figureOf_47 : decode cX7_figureOf 47 = .ok (.ifCond .eq 11, 3) := by decide +kernel
theorem dX7_figureOf_50 : decode cX7_figureOf 50 = .ok (.iload_n 1, 1) := by decide +kernel
theorem dX7_figureOf_51 : decode cX7_figureOf 51 = .ok (.iload_n 2, 1) := by decide +kernel
theorem dX7_figureOf_52 : decode cX7_figureOf 52 = .ok (.invokestatic 98, 3) := by decide +kernel
theorem dX7_figureOf_55 : decode cX7_figureOf 55 = .ok (.ifCond .ne 29, 3) := by decide +kernel
theorem dX7_figureOf_58 : decode cX7_figureOf 58 = .ok (.aload_n 0, 1) := by decide +kernel
theorem dX7_figureOf_59 : decode cX7_figureOf 59 = .ok (.aload_n 0, 1) := by decide +kernel
theorem dX7_figureOf_60 : decode cX7_figureOf 60 = .ok (.getfield 90, 3) := by decide +kernel
theorem dX7_figureOf_63 : decode cX7_figureOf 63 = .ok (.bipush (-9), 2) := by decide +kernel
theorem dX7_figureOf_65 : decode cX7_figureOf 65 = .ok (.if_icmp .ne 10, 3) := by decide +kernel
theorem dX7_figureOf_68 : decode cX7_figureOf 68 = .ok (.aload_n 0, 1) := by decide +kernel
theorem dX7_figureOf_69 : decode cX7_figureOf 69 = .ok (.getfield 93, 3) := by decide +kernel
theorem dX7_figureOf_72 : decode cX7_figureOf 72 = .ok (.goto 7, 3) := by decide +kernel
theorem dX7_figureOf_75 : decode cX7_figureOf 75 = .ok (.aload_n 0, 1) := by decide +kernel
theorem dX7_figureOf_76 : decode cX7_figureOf 76 = .ok (.getfield 90, 3) := by decide +kernel
theorem dX7_figureOf_79 : decode cX7_figureOf 79 = .ok (.putfield 90, 3) := by decide +kernel
theorem dX7_figureOf_82 : decode cX7_figureOf 82 = .ok (.iconst 0, 1) := by decide +kernel
theorem dX7_figureOf_83 : decode cX7_figureOf 83 = .ok (.ireturn, 1) := by decide +kernel
theorem dX7_figureOf_84 : decode cX7_figureOf 84 = .ok (.aload_n 0, 1) := by decide +kernel
theorem dX7_figureOf_85 : decode cX7_figureOf 85 = .ok (.dup, 1) := by decide +kernel
theorem dX7_figureOf_86 : decode cX7_figureOf 86 = .ok (.getfield 93, 3) := by decide +kernel
theorem dX7_figureOf_89 : decode cX7_figureOf 89 = .ok (.iconst 1, 1) := by decide +kernel
theorem dX7_figureOf_90 : decode cX7_figureOf 90 = .ok (.iadd, 1) := by decide +kernel
theorem dX7_figureOf_91 : decode cX7_figureOf 91 = .ok (.putfield 93, 3) := by decide +kernel
theorem dX7_figureOf_94 : decode cX7_figureOf 94 = .ok (.iload_n 2, 1) := by decide +kernel
theorem dX7_figureOf_95 : decode cX7_figureOf 95 = .ok (.ireturn, 1) := by decide +kernel
theorem dX7_pairsLeft_0 : decode cX7_pairsLeft 0 = .ok (.iconst 0, 1) := by decide +kernel
theorem dX7_pairsLeft_1 : decode cX7_pairsLeft 1 = .ok (.istore_n 2, 1) := by decide +kernel
theorem dX7_pairsLeft_2 : decode cX7_pairsLeft 2 = .ok (.iload_n 1, 1) := by decide +kernel
theorem dX7_pairsLeft_3 : decode cX7_pairsLeft 3 = .ok (.iconst 1, 1) := by decide +kernel
theorem dX7_pairsLeft_4 : decode cX7_pairsLeft 4 = .ok (.iadd, 1) := by decide +kernel
theorem dX7_pairsLeft_5 : decode cX7_pairsLeft 5 = .ok (.istore_n 3, 1) := by decide +kernel
theorem dX7_pairsLeft_6 : decode cX7_pairsLeft 6 = .ok (.iload_n 3, 1) := by decide +kernel
theorem dX7_pairsLeft_7 : decode cX7_pairsLeft 7 = .ok (.aload_n 0, 1) := by decide +kernel
theorem dX7_pairsLeft_8 : decode cX7_pairsLeft 8 = .ok (.getfield 102, 3) := by decide +kernel
theorem dX7_pairsLeft_11 : decode cX7_pairsLeft 11 = .ok (.if_icmp .ge 32, 3) := by decide +kernel
theorem dX7_pairsLeft_14 : decode cX7_pairsLeft 14 = .ok (.iload_n 2, 1) := by decide +kernel
theorem dX7_pairsLeft_15 : decode cX7_pairsLeft 15 = .ok (.aload_n 0, 1) := by decide +kernel
theorem dX7_pairsLeft_16 : decode cX7_pairsLeft 16 = .ok (.getfield 37, 3) := by decide +kernel
theorem dX7_pairsLeft_19 : decode cX7_pairsLeft 19 = .ok (.iload_n 1, 1) := by decide +kernel
theorem dX7_pairsLeft_20 : decode cX7_pairsLeft 20 = .ok (.iaload, 1) := by decide +kernel
theorem dX7_pairsLeft_21 : decode cX7_pairsLeft 21 = .ok (.iload_n 3, 1) := by decide +kernel
theorem dX7_pairsLeft_22 : decode cX7_pairsLeft 22 = .ok (.invokestatic 98, 3) := by decide +kernel
theorem dX7_pairsLeft_25 : decode cX7_pairsLeft 25 = .ok (.ifCond .eq 7, 3) := by decide +kernel
theorem dX7_pairsLeft_28 : decode cX7_pairsLeft 28 = .ok (.iconst 0, 1) := by decide +kernel
theorem dX7_pairsLeft_29 : decode cX7_pairsLeft 29 = .ok (.goto 6, 3) := by decide +kernel
theorem dX7_pairsLeft_32 : decode cX7_pairsLeft 32 = .ok (.iconst 1, 1) := by decide +kernel
theorem dX7_pairsLeft_33 : decode cX7_pairsLeft 33 = .ok (.iload_n 3, 1) := by decide +kernel
theorem dX7_pairsLeft_34 : decode cX7_pairsLeft 34 = .ok (.ishl, 1) := by decide +kernel
theorem dX7_pairsLeft_35 : decode cX7_pairsLeft 35 = .ok (.ior, 1) := by decide +kernel
theorem dX7_pairsLeft_36 : decode cX7_pairsLeft 36 = .ok (.istore_n 2, 1) := by decide +kernel
theorem dX7_pairsLeft_37 : decode cX7_pairsLeft 37 = .ok (.iinc 3 1, 3) := by decide +kernel
theorem dX7_pairsLeft_40 : decode cX7_pairsLeft 40 = .ok (.goto (-34), 3) := by decide +kernel
theorem dX7_pairsLeft_43 : decode cX7_pairsLeft 43 = .ok (.iload_n 2, 1) := by decide +kernel
theorem dX7_pairsLeft_44 : decode cX7_pairsLeft 44 = .ok (.ireturn, 1) := by decide +kernel
theorem dX7_firstsLeft_0 : decode cX7_firstsLeft 0 = .ok (.iconst 0, 1) := by decide +kernel
theorem dX7_firstsLeft_1 : decode cX7_firstsLeft 1 = .ok (.istore_n 1, 1) := by decide +kernel
theorem dX7_firstsLeft_2 : decode cX7_firstsLeft 2 = .ok (.iconst 0, 1) := by decide +kernel
theorem dX7_firstsLeft_3 : decode cX7_firstsLeft 3 = .ok (.istore_n 2, 1) := by decide +kernel
theorem dX7_firstsLeft_4 : decode cX7_firstsLeft 4 = .ok (.iload_n 2, 1) := by decide +kernel
theorem dX7_firstsLeft_5 : decode cX7_firstsLeft 5 = .ok (.aload_n 0, 1) := by decide +kernel
theorem dX7_firstsLeft_6 : decode cX7_firstsLeft 6 = .ok (.getfield 102, 3) := by decide +kernel
theorem dX7_firstsLeft_9 : decode cX7_firstsLeft 9 = .ok (.if_icmp .ge 27, 3) := by decide +kernel
theorem dX7_firstsLeft_12 : decode cX7_firstsLeft 12 = .ok (.iload_n 1, 1) := by decide +kernel
theorem dX7_firstsLeft_13 : decode cX7_firstsLeft 13 = .ok (.aload_n 0, 1) := by decide +kernel
theorem dX7_firstsLeft_14 : decode cX7_firstsLeft 14 = .ok (.iload_n 2, 1) := by decide +kernel
theorem dX7_firstsLeft_15 : decode cX7_firstsLeft 15 = .ok (.invokevirtual 105, 3) := by decide +kernel
theorem dX7_firstsLeft_18 : decode cX7_firstsLeft 18 = .ok (.ifCond .eq 9, 3) := by decide +kernel
theorem dX7_firstsLeft_21 : decode cX7_firstsLeft 21 = .ok (.iconst 1, 1) := by decide +kernel
theorem dX7_firstsLeft_22 : decode cX7_firstsLeft 22 = .ok (.iload_n 2, 1) := by decide +kernel
theorem dX7_firstsLeft_23 : decode cX7_firstsLeft 23 = .ok (.ishl, 1) := by decide +kernel
theorem dX7_firstsLeft_24 : decode cX7_firstsLeft 24 = .ok (.goto 4, 3) := by decide +kernel
theorem dX7_firstsLeft_27 : decode cX7_firstsLeft 27 = .ok (.iconst 0, 1) := by decide +kernel
theorem dX7_firstsLeft_28 : decode cX7_firstsLeft 28 = .ok (.ior, 1) := by decide +kernel
theorem dX7_firstsLeft_29 : decode cX7_firstsLeft 29 = .ok (.istore_n 1, 1) := by decide +kernel
theorem dX7_firstsLeft_30 : decode cX7_firstsLeft 30 = .ok (.iinc 2 1, 3) := by decide +kernel
theorem dX7_firstsLeft_33 : decode cX7_firstsLeft 33 = .ok (.goto (-29), 3) := by decide +kernel
theorem dX7_firstsLeft_36 : decode cX7_firstsLeft 36 = .ok (.iload_n 1, 1) := by decide +kernel
theorem dX7_firstsLeft_37 : decode cX7_firstsLeft 37 = .ok (.ireturn, 1) := by decide +kernel
theorem dX7_saidLeft_0 : decode cX7_saidLeft 0 = .ok (.iconst 0, 1) := by decide +kernel
theorem dX7_saidLeft_1 : decode cX7_saidLeft 1 = .ok (.istore_n 1, 1) := by decide +kernel
theorem dX7_saidLeft_2 : decode cX7_saidLeft 2 = .ok (.iconst 0, 1) := by decide +kernel
