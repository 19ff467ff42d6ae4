theorem dX5_addRivals_22 : decode cX5_addRivals 22 = .ok (.iaload, 1) := by decide +kernel
theorem dX5_addRivals_23 : decode cX5_addRivals 23 = .ok (.iconst 1, 1) := by decide +kernel
theorem dX5_addRivals_24 : decode cX5_addRivals 24 = .ok (.iload_n 2, 1) := by decide +kernel
theorem dX5_addRivals_25 : decode cX5_addRivals 25 = .ok (.ishl, 1) := by decide +kernel
theorem dX5_addRivals_26 : decode cX5_addRivals 26 = .ok (.ior, 1) := by decide +kernel
theorem dX5_addRivals_27 : decode cX5_addRivals 27 = .ok (.iastore, 1) := by decide +kernel
theorem dX5_addRivals_28 : decode cX5_addRivals 28 = .ok (.aload_n 0, 1) := by decide +kernel
theorem dX5_addRivals_29 : decode cX5_addRivals 29 = .ok (.getfield 22, 3) := by decide +kernel
theorem dX5_addRivals_32 : decode cX5_addRivals 32 = .ok (.iload_n 2, 1) := by decide +kernel
theorem dX5_addRivals_33 : decode cX5_addRivals 33 = .ok (.dup2, 1) := by decide +kernel
theorem dX5_addRivals_34 : decode cX5_addRivals 34 = .ok (.iaload, 1) := by decide +kernel
theorem dX5_addRivals_35 : decode cX5_addRivals 35 = .ok (.iconst 1, 1) := by decide +kernel
theorem dX5_addRivals_36 : decode cX5_addRivals 36 = .ok (.iload_n 1, 1) := by decide +kernel
theorem dX5_addRivals_37 : decode cX5_addRivals 37 = .ok (.ishl, 1) := by decide +kernel
theorem dX5_addRivals_38 : decode cX5_addRivals 38 = .ok (.ior, 1) := by decide +kernel
theorem dX5_addRivals_39 : decode cX5_addRivals 39 = .ok (.iastore, 1) := by decide +kernel
theorem dX5_addRivals_40 : decode cX5_addRivals 40 = .ok (.return_, 1) := by decide +kernel
theorem dX5_addOpening_0 : decode cX5_addOpening 0 = .ok (.aload_n 0, 1) := by decide +kernel
theorem dX5_addOpening_1 : decode cX5_addOpening 1 = .ok (.iload_n 1, 1) := by decide +kernel
theorem dX5_addOpening_2 : decode cX5_addOpening 2 = .ok (.invokevirtual 42, 3) := by decide +kernel
theorem dX5_addOpening_5 : decode cX5_addOpening 5 = .ok (.ifCond .eq 15, 3) := by decide +kernel
theorem dX5_addOpening_8 : decode cX5_addOpening 8 = .ok (.aload_n 0, 1) := by decide +kernel
theorem dX5_addOpening_9 : decode cX5_addOpening 9 = .ok (.getfield 25, 3) := by decide +kernel
theorem dX5_addOpening_12 : decode cX5_addOpening 12 = .ok (.iload_n 1, 1) := by decide +kernel
theorem dX5_addOpening_13 : decode cX5_addOpening 13 = .ok (.dup2, 1) := by decide +kernel
theorem dX5_addOpening_14 : decode cX5_addOpening 14 = .ok (.iaload, 1) := by decide +kernel
theorem dX5_addOpening_15 : decode cX5_addOpening 15 = .ok (.iconst 1, 1) := by decide +kernel
theorem dX5_addOpening_16 : decode cX5_addOpening 16 = .ok (.iload_n 2, 1) := by decide +kernel
theorem dX5_addOpening_17 : decode cX5_addOpening 17 = .ok (.ishl, 1) := by decide +kernel
theorem dX5_addOpening_18 : decode cX5_addOpening 18 = .ok (.ior, 1) := by decide +kernel
theorem dX5_addOpening_19 : decode cX5_addOpening 19 = .ok (.iastore, 1) := by decide +kernel
theorem dX5_addOpening_20 : decode cX5_addOpening 20 = .ok (.return_, 1) := by decide +kernel
theorem dX5_freePartners_0 : decode cX5_freePartners 0 = .ok (.aload_n 0, 1) := by decide +kernel
theorem dX5_freePartners_1 : decode cX5_freePartners 1 = .ok (.iload_n 1, 1) := by decide +kernel
theorem dX5_freePartners_2 : decode cX5_freePartners 2 = .ok (.invokevirtual 42, 3) := by decide +kernel
theorem dX5_freePartners_5 : decode cX5_freePartners 5 = .ok (.ifCond .ne 5, 3) := by decide +kernel
theorem dX5_freePartners_8 : decode cX5_freePartners 8 = .ok (.iconst 0, 1) := by decide +kernel
theorem dX5_freePartners_9 : decode cX5_freePartners 9 = .ok (.ireturn, 1) := by decide +kernel
theorem dX5_freePartners_10 : decode cX5_freePartners 10 = .ok (.iconst 1, 1) := by decide +kernel
theorem dX5_freePartners_11 : decode cX5_freePartners 11 = .ok (.aload_n 0, 1) := by decide +kernel
theorem dX5_freePartners_12 : decode cX5_freePartners 12 = .ok (.getfield 31, 3) := by decide +kernel
theorem dX5_freePartners_15 : decode cX5_freePartners 15 = .ok (.ishl, 1) := by decide +kernel
theorem dX5_freePartners_16 : decode cX5_freePartners 16 = .ok (.iconst 2, 1) := by decide +kernel
theorem dX5_freePartners_17 : decode cX5_freePartners 17 = .ok (.iload_n 1, 1) := by decide +kernel
theorem dX5_freePartners_18 : decode cX5_freePartners 18 = .ok (.ishl, 1) := by decide +kernel
theorem dX5_freePartners_19 : decode cX5_freePartners 19 = .ok (.isub, 1) := by decide +kernel
theorem dX5_freePartners_20 : decode cX5_freePartners 20 = .ok (.istore_n 2, 1) := by decide +kernel
theorem dX5_freePartners_21 : decode cX5_freePartners 21 = .ok (.iload_n 2, 1) := by decide +kernel
theorem dX5_freePartners_22 : decode cX5_freePartners 22 = .ok (.aload_n 0, 1) := by decide +kernel
theorem dX5_freePartners_23 : decode cX5_freePartners 23 = .ok (.getfield 22, 3) := by decide +kernel
theorem dX5_freePartners_26 : decode cX5_freePartners 26 = .ok (.iload_n 1, 1) := by decide +kernel
theorem dX5_freePartners_27 : decode cX5_freePartners 27 = .ok (.iaload, 1) := by decide +kernel
theorem dX5_freePartners_28 : decode cX5_freePartners 28 = .ok (.iconst (-1), 1) := by decide +kernel
theorem dX5_freePartners_29 : decode cX5_freePartners 29 = .ok (.ixor, 1) := by decide +kernel
theorem dX5_freePartners_30 : decode cX5_freePartners 30 = .ok (.iand, 1) := by decide +kernel
theorem dX5_freePartners_31 : decode cX5_freePartners 31 = .ok (.ireturn, 1) := by decide +kernel
theorem dX5_freeTables_0 : decode cX5_freeTables 0 = .ok (.aload_n 0, 1) := by decide +kernel
theorem dX5_freeTables_1 : decode cX5_freeTables 1 = .ok (.iload_n 1, 1) := by decide +kernel
theorem dX5_freeTables_2 : decode cX5_freeTables 2 = .ok (.invokevirtual 42, 3) := by decide +kernel
theorem dX5_freeTables_5 : decode cX5_freeTables 5 = .ok (.ifCond .eq 17, 3) := by decide +kernel
theorem dX5_freeTables_8 : decode cX5_freeTables 8 = .ok (.bipush 63, 2) := by decide +kernel
theorem dX5_freeTables_10 : decode cX5_freeTables 10 = .ok (.aload_n 0, 1) := by decide +kernel
theorem dX5_freeTables_11 : decode cX5_freeTables 11 = .ok (.getfield 25, 3) := by decide +kernel
theorem dX5_freeTables_14 : decode cX5_freeTables 14 = .ok (.iload_n 1, 1) := by decide +kernel
theorem dX5_freeTables_15 : decode cX5_freeTables 15 = .ok (.iaload, 1) := by decide +kernel
theorem dX5_freeTables_16 : decode cX5_freeTables 16 = .ok (.iconst (-1), 1) := by decide +kernel
theorem dX5_freeTables_17 : decode cX5_freeTables 17 = .ok (.ixor, 1) := by decide +kernel
theorem dX5_freeTables_18 : decode cX5_freeTables 18 = .ok (.iand, 1) := by decide +kernel
theorem dX5_freeTables_19 : decode cX5_freeTables 19 = .ok (.goto 4, 3) := by decide +kernel
theorem dX5_freeTables_22 : decode cX5_freeTables 22 = .ok (.iconst 0, 1) := by decide +kernel
theorem dX5_freeTables_23 : decode cX5_freeTables 23 = .ok (.ireturn, 1) := by decide +kernel
theorem dX5_hasFreePair_0 : decode cX5_hasFreePair 0 = .ok (.iconst 0, 1) := by decide +kernel
theorem dX5_hasFreePair_1 : decode cX5_hasFreePair 1 = .ok (.istore_n 1, 1) := by decide +kernel
theorem dX5_hasFreePair_2 : decode cX5_hasFreePair 2 = .ok (.iconst 0, 1) := by decide +kernel
theorem dX5_hasFreePair_3 : decode cX5_hasFreePair 3 = .ok (.istore_n 2, 1) := by decide +kernel
theorem dX5_hasFreePair_4 : decode cX5_hasFreePair 4 = .ok (.iload_n 2, 1) := by decide +kernel
theorem dX5_hasFreePair_5 : decode cX5_hasFreePair 5 = .ok (.aload_n 0, 1) := by decide +kernel
theorem dX5_hasFreePair_6 : decode cX5_hasFreePair 6 = .ok (.getfield 31, 3) := by decide +kernel
theorem dX5_hasFreePair_9 : decode cX5_hasFreePair 9 = .ok (.if_icmp .ge 27, 3) := by decide +kernel
theorem dX5_hasFreePair_12 : decode cX5_hasFreePair 12 = .ok (.iload_n 1, 1) := by decide +kernel
theorem dX5_hasFreePair_13 : decode cX5_hasFreePair 13 = .ok (.ifCond .ne 11, 3) := by decide +kernel
theorem dX5_hasFreePair_16 : decode cX5_hasFreePair 16 = .ok (.aload_n 0, 1) := by decide +kernel
theorem dX5_hasFreePair_17 : decode cX5_hasFreePair 17 = .ok (.iload_n 2, 1) := by decide +kernel
theorem dX5_hasFreePair_18 : decode cX5_hasFreePair 18 = .ok (.invokevirtual 71, 3) := by decide +kernel
theorem dX5_hasFreePair_21 : decode cX5_hasFreePair 21 = .ok (.ifCond .eq 7, 3) := by decide +kernel
theorem dX5_hasFreePair_24 : decode cX5_hasFreePair 24 = .ok (.iconst 1, 1) := by decide +kernel
theorem dX5_hasFreePair_25 : decode cX5_hasFreePair 25 = .ok (.goto 4, 3) := by decide +kernel
theorem dX5_hasFreePair_28 : decode cX5_hasFreePair 28 = .ok (.iconst 0, 1) := by decide +kernel
theorem dX5_hasFreePair_29 : decode cX5_hasFreePair 29 = .ok (.istore_n 1, 1) := by decide +kernel
theorem dX5_hasFreePair_30 : decode cX5_hasFreePair 30 = .ok (.iinc 2 1, 3) := by decide +kernel
theorem dX5_hasFreePair_33 : decode cX5_hasFreePair 33 = .ok (.goto (-29), 3) := by decide +kernel
theorem dX5_hasFreePair_36 : decode cX5_hasFreePair 36 = .ok (.iload_n 1, 1) := by decide +kernel
theorem dX5_hasFreePair_37 : decode cX5_hasFreePair 37 = .ok (.ireturn, 1) := by decide +kernel
theorem dX5_hasFreeTable_0 : decode cX5_hasFreeTable 0 = .ok (.iconst 0, 1) := by decide +kernel
theorem dX5_hasFreeTable_1 : decode cX5_hasFreeTable 1 = .ok (.istore_n 1, 1) := by decide +kernel
theorem dX5_hasFreeTable_2 : decode cX5_hasFreeTable 2 = .ok (.iconst 0, 1) := by decide +kernel
theorem dX5_hasFreeTable_3 : decode cX5_hasFreeTable 3 = .ok (.istore_n 2, 1) := by decide +kernel
theorem dX5_hasFreeTable_4 : decode cX5_hasFreeTable 4 = .ok (.iload_n 2, 1) := by decide +kernel
theorem dX5_hasFreeTable_5 : decode cX5_hasFreeTable 5 = .ok (.aload_n 0, 1) := by decide +kernel
theorem dX5_hasFreeTable_6 : decode cX5_hasFreeTable 6 = .ok (.getfield 31, 3) := by decide +kernel
theorem dX5_hasFreeTable_9 : decode cX5_hasFreeTable 9 = .ok (.if_icmp .ge 27, 3) := by decide +kernel
theorem dX5_hasFreeTable_12 : decode cX5_hasFreeTable 12 = .ok (.iload_n 1, 1) := by decide +kernel
theorem dX5_hasFreeTable_13 : decode cX5_hasFreeTable 13 = .ok (.ifCond .ne 11, 3) := by decide +kernel
theorem dX5_hasFreeTable_16 : decode cX5_hasFreeTable 16 = .ok (.aload_n 0, 1) := by decide +kernel
theorem dX5_hasFreeTable_17 : decode cX5_hasFreeTable 17 = .ok (.iload_n 2, 1) := by decide +kernel
theorem dX5_hasFreeTable_18 : decode cX5_hasFreeTable 18 = .ok (.invokevirtual 74, 3) := by decide +kernel
theorem dX5_hasFreeTable_21 : decode cX5_hasFreeTable 21 = .ok (.ifCond .eq 7, 3) := by decide +kernel
theorem dX5_hasFreeTable_24 : decode cX5_hasFreeTable 24 = .ok (.iconst 1, 1) := by decide +kernel
theorem dX5_hasFreeTable_25 : decode cX5_hasFreeTable 25 = .ok (.goto 4, 3) := by decide +kernel
theorem dX5_hasFreeTable_28 : decode cX5_hasFreeTable 28 = .ok (.iconst 0, 1) := by decide +kernel
theorem dX5_hasFreeTable_29 : decode cX5_hasFreeTable 29 = .ok (.istore_n 1, 1) := by decide +kernel
theorem dX5_hasFreeTable_30 : decode cX5_hasFreeTable 30 = .ok (.iinc 2 1, 3) := by decide +kernel
theorem dX5_hasFreeTable_33 : decode cX5_hasFreeTable 33 = .ok (.goto (-29), 3) := by decide +kernel
theorem dX5_hasFreeTable_36 : decode cX5_hasFreeTable 36 = .ok (.iload_n 1, 1) := by decide +kernel
theorem dX5_hasFreeTable_37 : decode cX5_hasFreeTable 37 = .ok (.ireturn, 1) := by decide +kernel
theorem dX6_init_0 : decode cX6_init 0 = .ok (.aload_n 0, 1) := by decide +kernel
theorem dX6_init_1 : decode cX6_init 1 = .ok (.invokespecial 3, 3) := by decide +kernel
theorem dX6_init_4 : decode cX6_init 4 = .ok (.aload_n 0, 1) := by decide +kernel
theorem dX6_init_5 : decode cX6_init 5 = .ok (.new 9, 3) := by decide +kernel
theorem dX6_init_8 : decode cX6_init 8 = .ok (.dup, 1) := by decide +kernel
theorem dX6_init_9 : decode cX6_init 9 = .ok (.invokespecial 11, 3) := by decide +kernel
theorem dX6_init_12 : decode cX6_init 12 = .ok (.putfield 12, 3) := by decide +kernel
theorem dX6_init_15 : decode cX6_init 15 = .ok (.aload_n 0, 1) := by decide +kernel
theorem dX6_init_16 : decode cX6_init 16 = .ok (.new 16, 3) := by decide +kernel
theorem dX6_init_19 : decode cX6_init 19 = .ok (.dup, 1) := by decide +kernel
theorem dX6_init_20 : decode cX6_init 20 = .ok (.invokespecial 18, 3) := by decide +kernel
theorem dX6_init_23 : decode cX6_init 23 = .ok (.putfield 19, 3) := by decide +kernel
theorem dX6_init_26 : decode cX6_init 26 = .ok (.aload_n 0, 1) := by decide +kernel
theorem dX6_init_27 : decode cX6_init 27 = .ok (.new 16, 3) := by decide +kernel
theorem dX6_init_30 : decode cX6_init 30 = .ok (.dup, 1) := by decide +kernel
theorem dX6_init_31 : decode cX6_init 31 = .ok (.invokespecial 18, 3) := by decide +kernel
theorem dX6_init_34 : decode cX6_init 34 = .ok (.putfield 23, 3) := by decide +kernel
theorem dX6_init_37 : decode cX6_init 37 = .ok (.aload_n 0, 1) := by decide +kernel
theorem dX6_init_38 : decode cX6_init 38 = .ok (.new 26, 3) := by decide +kernel
theorem dX6_init_41 : decode cX6_init 41 = .ok (.dup, 1) := by decide +kernel
theorem dX6_init_42 : decode cX6_init 42 = .ok (.invokespecial 28, 3) := by decide +kernel
theorem dX6_init_45 : decode cX6_init 45 = .ok (.putfield 29, 3) := by decide +kernel
theorem dX6_init_48 : decode cX6_init 48 = .ok (.aload_n 0, 1) := by decide +kernel
theorem dX6_init_49 : decode cX6_init 49 = .ok (.new 26, 3) := by decide +kernel
theorem dX6_init_52 : decode cX6_init 52 = .ok (.dup, 1) := by decide +kernel
theorem dX6_init_53 : decode cX6_init 53 = .ok (.invokespecial 28, 3) := by decide +kernel
theorem dX6_init_56 : decode cX6_init 56 = .ok (.putfield 33, 3) := by decide +kernel
theorem dX6_init_59 : decode cX6_init 59 = .ok (.aload_n 0, 1) := by decide +kernel
theorem dX6_init_60 : decode cX6_init 60 = .ok (.new 36, 3) := by decide +kernel
theorem dX6_init_63 : decode cX6_init 63 = .ok (.dup, 1) := by decide +kernel
theorem dX6_init_64 : decode cX6_init 64 = .ok (.invokespecial 38, 3) := by decide +kernel
theorem dX6_init_67 : decode cX6_init 67 = .ok (.putfield 39, 3) := by decide +kernel
theorem dX6_init_70 : decode cX6_init 70 = .ok (.aload_n 0, 1) := by decide +kernel
theorem dX6_init_71 : decode cX6_init 71 = .ok (.new 43, 3) := by decide +kernel
theorem dX6_init_74 : decode cX6_init 74 = .ok (.dup, 1) := by decide +kernel
theorem dX6_init_75 : decode cX6_init 75 = .ok (.invokespecial 45, 3) := by decide +kernel
theorem dX6_init_78 : decode cX6_init 78 = .ok (.putfield 46, 3) := by decide +kernel
theorem dX6_init_81 : decode cX6_init 81 = .ok (.aload_n 0, 1) := by decide +kernel
theorem dX6_init_82 : decode cX6_init 82 = .ok (.iconst 2, 1) := by decide +kernel
theorem dX6_init_83 : decode cX6_init 83 = .ok (.anewarray 26, 3) := by decide +kernel
theorem dX6_init_86 : decode cX6_init 86 = .ok (.putfield 50, 3) := by decide +kernel
theorem dX6_init_89 : decode cX6_init 89 = .ok (.iconst 0, 1) := by decide +kernel
theorem dX6_init_90 : decode cX6_init 90 = .ok (.istore_n 1, 1) := by decide +kernel
theorem dX6_init_91 : decode cX6_init 91 = .ok (.iload_n 1, 1) := by decide +kernel
theorem dX6_init_92 : decode cX6_init 92 = .ok (.iconst 2, 1) := by decide +kernel
theorem dX6_init_93 : decode cX6_init 93 = .ok (.if_icmp .ge 22, 3) := by decide +kernel
theorem dX6_init_96 : decode cX6_init 96 = .ok (.aload_n 0, 1) := by decide +kernel
theorem dX6_init_97 : decode cX6_init 97 = .ok (.getfield 50, 3) := by decide +kernel
theorem dX6_init_100 : decode cX6_init 100 = .ok (.iload_n 1, 1) := by decide +kernel
theorem dX6_init_101 : decode cX6_init 101 = .ok (.new 26, 3) := by decide +kernel
theorem dX6_init_104 : decode cX6_init 104 = .ok (.dup, 1) := by decide +kernel
theorem dX6_init_105 : decode cX6_init 105 = .ok (.invokespecial 28, 3) := by decide +kernel
theorem dX6_init_108 : decode cX6_init 108 = .ok (.aastore, 1) := by decide +kernel
theorem dX6_init_109 : decode cX6_init 109 = .ok (.iinc 1 1, 3) := by decide +kernel
theorem dX6_init_112 : decode cX6_init 112 = .ok (.goto (-21), 3) := by decide +kernel
theorem dX6_init_115 : decode cX6_init 115 = .ok (.aload_n 0, 1) := by decide +kernel
theorem dX6_init_116 : decode cX6_init 116 = .ok (.iconst 2, 1) := by decide +kernel
theorem dX6_init_117 : decode cX6_init 117 = .ok (.newarray .boolean, 2) := by decide +kernel
theorem dX6_init_119 : decode cX6_init 119 = .ok (.putfield 54, 3) := by decide +kernel
theorem dX6_init_122 : decode cX6_init 122 = .ok (.aload_n 0, 1) := by decide +kernel
theorem dX6_init_123 : decode cX6_init 123 = .ok (.new 58, 3) := by decide +kernel
theorem dX6_init_126 : decode cX6_init 126 = .ok (.dup, 1) := by decide +kernel
theorem dX6_init_127 : decode cX6_init 127 = .ok (.invokespecial 60, 3) := by decide +kernel
theorem dX6_init_130 : decode cX6_init 130 = .ok (.putfield 61, 3) := by decide +kernel
theorem dX6_init_133 : decode cX6_init 133 = .ok (.aload_n 0, 1) := by decide +kernel
theorem dX6_init_134 : decode cX6_init 134 = .ok (.bipush 30, 2) := by decide +kernel
theorem dX6_init_136 : decode cX6_init 136 = .ok (.newarray .int, 2) := by decide +kernel
theorem dX6_init_138 : decode cX6_init 138 = .ok (.putfield 65, 3) := by decide +kernel
theorem dX6_init_141 : decode cX6_init 141 = .ok (.aload_n 0, 1) := by decide +kernel
theorem dX6_init_142 : decode cX6_init 142 = .ok (.iconst 4, 1) := by decide +kernel
theorem dX6_init_143 : decode cX6_init 143 = .ok (.newarray .int, 2) := by decide +kernel
theorem dX6_init_145 : decode cX6_init 145 = .ok (.putfield 69, 3) := by decide +kernel
theorem dX6_init_148 : decode cX6_init 148 = .ok (.aload_n 0, 1) := by decide +kernel
theorem dX6_init_149 : decode cX6_init 149 = .ok (.bipush 36, 2) := by decide +kernel
theorem dX6_init_151 : decode cX6_init 151 = .ok (.newarray .int, 2) := by decide +kernel
theorem dX6_init_153 : decode cX6_init 153 = .ok (.putfield 72, 3) := by decide +kernel
theorem dX6_init_156 : decode cX6_init 156 = .ok (.aload_n 0, 1) := by decide +kernel
theorem dX6_init_157 : decode cX6_init 157 = .ok (.bipush 36, 2) := by decide +kernel
theorem dX6_init_159 : decode cX6_init 159 = .ok (.newarray .int, 2) := by decide +kernel
theorem dX6_init_161 : decode cX6_init 161 = .ok (.putfield 75, 3) := by decide +kernel
theorem dX6_init_164 : decode cX6_init 164 = .ok (.return_, 1) := by decide +kernel
theorem dX6_write_0 : decode cX6_write 0 = .ok (.iload_n 1, 1) := by decide +kernel
theorem dX6_write_1 : decode cX6_write 1 = .ok (.iconst 0, 1) := by decide +kernel
theorem dX6_write_2 : decode cX6_write 2 = .ok (.sipush 255, 3) := by decide +kernel
theorem dX6_write_5 : decode cX6_write 5 = .ok (.invokestatic 78, 3) := by decide +kernel
theorem dX6_write_8 : decode cX6_write 8 = .ok (.ifCond .eq 6, 3) := by decide +kernel
theorem dX6_write_11 : decode cX6_write 11 = .ok (.bipush (-2), 2) := by decide +kernel
theorem dX6_write_13 : decode cX6_write 13 = .ok (.ireturn, 1) := by decide +kernel
theorem dX6_write_14 : decode cX6_write 14 = .ok (.aload_n 0, 1) := by decide +kernel
theorem dX6_write_15 : decode cX6_write 15 = .ok (.getfield 12, 3) := by decide +kernel
theorem dX6_write_18 : decode cX6_write 18 = .ok (.iload_n 1, 1) := by decide +kernel
theorem dX6_write_19 : decode cX6_write 19 = .ok (.invokevirtual 82, 3) := by decide +kernel
theorem dX6_write_22 : decode cX6_write 22 = .ok (.ireturn, 1) := by decide +kernel
theorem dX6_wipe_0 : decode cX6_wipe 0 = .ok (.aload_n 0, 1) := by decide +kernel
theorem dX6_wipe_1 : decode cX6_wipe 1 = .ok (.getfield 12, 3) := by decide +kernel
theorem dX6_wipe_4 : decode cX6_wipe 4 = .ok (.getfield 86, 3) := by decide +kernel
theorem dX6_wipe_7 : decode cX6_wipe 7 = .ok (.istore_n 1, 1) := by decide +kernel
theorem dX6_wipe_8 : decode cX6_wipe 8 = .ok (.aload_n 0, 1) := by decide +kernel
theorem dX6_wipe_9 : decode cX6_wipe 9 = .ok (.getfield 12, 3) := by decide +kernel
theorem dX6_wipe_12 : decode cX6_wipe 12 = .ok (.iconst 0, 1) := by decide +kernel
theorem dX6_wipe_13 : decode cX6_wipe 13 = .ok (.putfield 86, 3) := by decide +kernel
theorem dX6_wipe_16 : decode cX6_wipe 16 = .ok (.iload_n 1, 1) := by decide +kernel
theorem dX6_wipe_17 : decode cX6_wipe 17 = .ok (.ireturn, 1) := by decide +kernel
theorem dX6_fault_0 : decode cX6_fault 0 = .ok (.aload_n 0, 1) := by decide +kernel
theorem dX6_fault_1 : decode cX6_fault 1 = .ok (.getfield 12, 3) := by decide +kernel
theorem dX6_fault_4 : decode cX6_fault 4 = .ok (.aload_n 0, 1) := by decide +kernel
theorem dX6_fault_5 : decode cX6_fault 5 = .ok (.getfield 23, 3) := by decide +kernel
theorem dX6_fault_8 : decode cX6_fault 8 = .ok (.invokevirtual 90, 3) := by decide +kernel
theorem dX6_fault_11 : decode cX6_fault 11 = .ok (.ireturn, 1) := by decide +kernel
theorem dX6_town_0 : decode cX6_town 0 = .ok (.aload_n 0, 1) := by decide +kernel
theorem dX6_town_1 : decode cX6_town 1 = .ok (.getfield 12, 3) := by decide +kernel
theorem dX6_town_4 : decode cX6_town 4 = .ok (.aload_n 0, 1) := by decide +kernel
theorem dX6_town_5 : decode cX6_town 5 = .ok (.getfield 23, 3) := by decide +kernel
theorem dX6_town_8 : decode cX6_town 8 = .ok (.invokevirtual 90, 3) := by decide +kernel
theorem dX6_town_11 : decode cX6_town 11 = .ok (.bipush (-9), 2) := by decide +kernel
theorem dX6_town_13 : decode cX6_town 13 = .ok (.if_icmp .eq 6, 3) := by decide +kernel
theorem dX6_town_16 : decode cX6_town 16 = .ok (.bipush (-3), 2) := by decide +kernel
theorem dX6_town_18 : decode cX6_town 18 = .ok (.ireturn, 1) := by decide +kernel
theorem dX6_town_19 : decode cX6_town 19 = .ok (.aload_n 0, 1) := by decide +kernel
theorem dX6_town_20 : decode cX6_town 20 = .ok (.getfield 12, 3) := by decide +kernel
theorem dX6_town_23 : decode cX6_town 23 = .ok (.aload_n 0, 1) := by decide +kernel
theorem dX6_town_24 : decode cX6_town 24 = .ok (.getfield 19, 3) := by decide +kernel
theorem dX6_town_27 : decode cX6_town 27 = .ok (.invokevirtual 90, 3) := by decide +kernel
theorem dX6_town_30 : decode cX6_town 30 = .ok (.pop, 1) := by decide +kernel
theorem dX6_town_31 : decode cX6_town 31 = .ok (.aload_n 0, 1) := by decide +kernel
theorem dX6_town_32 : decode cX6_town 32 = .ok (.getfield 29, 3) := by decide +kernel
theorem dX6_town_35 : decode cX6_town 35 = .ok (.aload_n 0, 1) := by decide +kernel
theorem dX6_town_36 : decode cX6_town 36 = .ok (.getfield 19, 3) := by decide +kernel
theorem dX6_town_39 : decode cX6_town 39 = .ok (.invokevirtual 94, 3) := by decide +kernel
theorem dX6_town_42 : decode cX6_town 42 = .ok (.aload_n 0, 1) := by decide +kernel
theorem dX6_town_43 : decode cX6_town 43 = .ok (.getfield 39, 3) := by decide +kernel
theorem dX6_town_46 : decode cX6_town 46 = .ok (.iconst 0, 1) := by decide +kernel
theorem dX6_town_47 : decode cX6_town 47 = .ok (.putfield 98, 3) := by decide +kernel
theorem dX6_town_50 : decode cX6_town 50 = .ok (.iconst 0, 1) := by decide +kernel
theorem dX6_town_51 : decode cX6_town 51 = .ok (.istore_n 1, 1) := by decide +kernel
theorem dX6_town_52 : decode cX6_town 52 = .ok (.iload_n 1, 1) := by decide +kernel
theorem dX6_town_53 : decode cX6_town 53 = .ok (.aload_n 0, 1) := by decide +kernel
theorem dX6_town_54 : decode cX6_town 54 = .ok (.getfield 54, 3) := by decide +kernel
theorem dX6_town_57 : decode cX6_town 57 = .ok (.arraylength, 1) := by decide +kernel
theorem dX6_town_58 : decode cX6_town 58 = .ok (.if_icmp .ge 16, 3) := by decide +kernel
theorem dX6_town_61 : decode cX6_town 61 = .ok (.aload_n 0, 1) := by decide +kernel
theorem dX6_town_62 : decode cX6_town 62 = .ok (.getfield 54, 3) := by decide +kernel
theorem dX6_town_65 : decode cX6_town 65 = .ok (.iload_n 1, 1) := by decide +kernel
theorem dX6_town_66 : decode cX6_town 66 = .ok (.iconst 0, 1) := by decide +kernel
theorem dX6_town_67 : decode cX6_town 67 = .ok (.bastore, 1) := by decide +kernel
theorem dX6_town_68 : decode cX6_town 68 = .ok (.iinc 1 1, 3) := by decide +kernel
theorem dX6_town_71 : decode cX6_town 71 = .ok (.goto (-19), 3) := by decide +kernel
theorem dX6_town_74 : decode cX6_town 74 = .ok (.bipush 10, 2) := by decide +kernel
theorem dX6_town_76 : decode cX6_town 76 = .ok (.aload_n 0, 1) := by decide +kernel
theorem dX6_town_77 : decode cX6_town 77 = .ok (.getfield 19, 3) := by decide +kernel
theorem dX6_town_80 : decode cX6_town 80 = .ok (.getfield 101, 3) := by decide +kernel
theorem dX6_town_83 : decode cX6_town 83 = .ok (.imul, 1) := by decide +kernel
theorem dX6_town_84 : decode cX6_town 84 = .ok (.aload_n 0, 1) := by decide +kernel
theorem dX6_town_85 : decode cX6_town 85 = .ok (.getfield 19, 3) := by decide +kernel
theorem dX6_town_88 : decode cX6_town 88 = .ok (.getfield 104, 3) := by decide +kernel
theorem dX6_town_91 : decode cX6_town 91 = .ok (.iadd, 1) := by decide +kernel
theorem dX6_town_92 : decode cX6_town 92 = .ok (.ireturn, 1) := by decide +kernel
theorem dX6_rumour_0 : decode cX6_rumour 0 = .ok (.aload_n 0, 1) := by decide +kernel
theorem dX6_rumour_1 : decode cX6_rumour 1 = .ok (.getfield 19, 3) := by decide +kernel
theorem dX6_rumour_4 : decode cX6_rumour 4 = .ok (.iload_n 1, 1) := by decide +kernel
theorem dX6_rumour_5 : decode cX6_rumour 5 = .ok (.invokevirtual 107, 3) := by decide +kernel
theorem dX6_rumour_8 : decode cX6_rumour 8 = .ok (.ifCond .ne 5, 3) := by decide +kernel
theorem dX6_rumour_11 : decode cX6_rumour 11 = .ok (.iconst (-1), 1) := by decide +kernel
theorem dX6_rumour_12 : decode cX6_rumour 12 = .ok (.ireturn, 1) := by decide +kernel
theorem dX6_rumour_13 : decode cX6_rumour 13 = .ok (.iload_n 2, 1) := by decide +kernel
theorem dX6_rumour_14 : decode cX6_rumour 14 = .ok (.tableswitch 131 0 6 #[42, 52, 69, 79, 88, 97, 107], 42) := by decide +kernel
theorem dX6_rumour_56 : decode cX6_rumour 56 = .ok (.aload_n 0, 1) := by decide +kernel
theorem dX6_rumour_57 : decode cX6_rumour 57 = .ok (.getfield 19, 3) := by decide +kernel
theorem dX6_rumour_60 : decode cX6_rumour 60 = .ok (.getfield 111, 3) := by decide +kernel
theorem dX6_rumour_63 : decode cX6_rumour 63 = .ok (.iload_n 1, 1) := by decide +kernel
theorem dX6_rumour_64 : decode cX6_rumour 64 = .ok (.iaload, 1) := by decide +kernel
theorem dX6_rumour_65 : decode cX6_rumour 65 = .ok (.ireturn, 1) := by decide +kernel
theorem dX6_rumour_66 : decode cX6_rumour 66 = .ok (.aload_n 0, 1) := by decide +kernel
theorem dX6_rumour_67 : decode cX6_rumour 67 = .ok (.getfield 19, 3) := by decide +kernel
theorem dX6_rumour_70 : decode cX6_rumour 70 = .ok (.iload_n 1, 1) := by decide +kernel
theorem dX6_rumour_71 : decode cX6_rumour 71 = .ok (.invokevirtual 114, 3) := by decide +kernel
theorem dX6_rumour_74 : decode cX6_rumour 74 = .ok (.ifCond .eq 7, 3) := by decide +kernel
theorem dX6_rumour_77 : decode cX6_rumour 77 = .ok (.iconst 1, 1) := by decide +kernel
theorem dX6_rumour_78 : decode cX6_rumour 78 = .ok (.goto 4, 3) := by decide +kernel
theorem dX6_rumour_81 : decode cX6_rumour 81 = .ok (.iconst 0, 1) := by decide +kernel
theorem dX6_rumour_82 : decode cX6_rumour 82 = .ok (.ireturn, 1) := by decide +kernel
theorem dX6_rumour_83 : decode cX6_rumour 83 = .ok (.aload_n 0, 1) := by decide +kernel
theorem dX6_rumour_84 : decode cX6_rumour 84 = .ok (.getfield 19, 3) := by decide +kernel
theorem dX6_rumour_87 : decode cX6_rumour 87 = .ok (.getfield 117, 3) := by decide +kernel
theorem dX6_rumour_90 : decode cX6_rumour 90 = .ok (.iload_n 1, 1) := by decide +kernel
theorem dX6_rumour_91 : decode cX6_rumour 91 = .ok (.iaload, 1) := by decide +kernel
theorem dX6_rumour_92 : decode cX6_rumour 92 = .ok (.ireturn, 1) := by decide +kernel
theorem dX6_rumour_93 : decode cX6_rumour 93 = .ok (.aload_n 0, 1) := by decide +kernel
theorem dX6_rumour_94 : decode cX6_rumour 94 = .ok (.getfield 29, 3) := by decide +kernel
theorem dX6_rumour_97 : decode cX6_rumour 97 = .ok (.iload_n 1, 1) := by decide +kernel
theorem dX6_rumour_98 : decode cX6_rumour 98 = .ok (.invokevirtual 120, 3) := by decide +kernel
theorem dX6_rumour_101 : decode cX6_rumour 101 = .ok (.ireturn, 1) := by decide +kernel
theorem dX6_rumour_102 : decode cX6_rumour 102 = .ok (.aload_n 0, 1) := by decide +kernel
theorem dX6_rumour_103 : decode cX6_rumour 103 = .ok (.getfield 29, 3) := by decide +kernel
theorem dX6_rumour_106 : decode cX6_rumour 106 = .ok (.iload_n 1, 1) := by decide +kernel
theorem dX6_rumour_107 : decode cX6_rumour 107 = .ok (.invokevirtual 123, 3) := by decide +kernel
theorem dX6_rumour_110 : decode cX6_rumour 110 = .ok (.ireturn, 1) := by decide +kernel
theorem dX6_rumour_111 : decode cX6_rumour 111 = .ok (.aload_n 0, 1) := by decide +kernel
theorem dX6_rumour_112 : decode cX6_rumour 112 = .ok (.getfield 19, 3) := by decide +kernel
theorem dX6_rumour_115 : decode cX6_rumour 115 = .ok (.getfield 126, 3) := by decide +kernel
theorem dX6_rumour_118 : decode cX6_rumour 118 = .ok (.iload_n 1, 1) := by decide +kernel
theorem dX6_rumour_119 : decode cX6_rumour 119 = .ok (.iaload, 1) := by decide +kernel
theorem dX6_rumour_120 : decode cX6_rumour 120 = .ok (.ireturn, 1) := by decide +kernel
theorem dX6_rumour_121 : decode cX6_rumour 121 = .ok (.aload_n 0, 1) := by decide +kernel
theorem dX6_rumour_122 : decode cX6_rumour 122 = .ok (.getfield 19, 3) := by decide +kernel
theorem dX6_rumour_125 : decode cX6_rumour 125 = .ok (.iload_n 1, 1) := by decide +kernel
theorem dX6_rumour_126 : decode cX6_rumour 126 = .ok (.aload_n 0, 1) := by decide +kernel
theorem dX6_rumour_127 : decode cX6_rumour 127 = .ok (.getfield 29, 3) := by decide +kernel
theorem dX6_rumour_130 : decode cX6_rumour 130 = .ok (.getfield 129, 3) := by decide +kernel
theorem dX6_rumour_133 : decode cX6_rumour 133 = .ok (.invokevirtual 132, 3) := by decide +kernel
theorem dX6_rumour_136 : decode cX6_rumour 136 = .ok (.ifCond .eq 7, 3) := by decide +kernel
theorem dX6_rumour_139 : decode cX6_rumour 139 = .ok (.iconst 1, 1) := by decide +kernel
theorem dX6_rumour_140 : decode cX6_rumour 140 = .ok (.goto 4, 3) := by decide +kernel
theorem dX6_rumour_143 : decode cX6_rumour 143 = .ok (.iconst 0, 1) := by decide +kernel
theorem dX6_rumour_144 : decode cX6_rumour 144 = .ok (.ireturn, 1) := by decide +kernel
theorem dX6_rumour_145 : decode cX6_rumour 145 = .ok (.bipush (-2), 2) := by decide +kernel
theorem dX6_rumour_147 : decode cX6_rumour 147 = .ok (.ireturn, 1) := by decide +kernel
theorem dX6_table_0 : decode cX6_table 0 = .ok (.aload_n 0, 1) := by decide +kernel
theorem dX6_table_1 : decode cX6_table 1 = .ok (.getfield 19, 3) := by decide +kernel
theorem dX6_table_4 : decode cX6_table 4 = .ok (.iload_n 1, 1) := by decide +kernel
theorem dX6_table_5 : decode cX6_table 5 = .ok (.invokevirtual 136, 3) := by decide +kernel
theorem dX6_table_8 : decode cX6_table 8 = .ok (.ifCond .eq 15, 3) := by decide +kernel
theorem dX6_table_11 : decode cX6_table 11 = .ok (.aload_n 0, 1) := by decide +kernel
theorem dX6_table_12 : decode cX6_table 12 = .ok (.getfield 19, 3) := by decide +kernel
theorem dX6_table_15 : decode cX6_table 15 = .ok (.getfield 139, 3) := by decide +kernel
theorem dX6_table_18 : decode cX6_table 18 = .ok (.iload_n 1, 1) := by decide +kernel
theorem dX6_table_19 : decode cX6_table 19 = .ok (.iaload, 1) := by decide +kernel
theorem dX6_table_20 : decode cX6_table 20 = .ok (.goto 4, 3) := by decide +kernel
theorem dX6_table_23 : decode cX6_table 23 = .ok (.iconst (-1), 1) := by decide +kernel
theorem dX6_table_24 : decode cX6_table 24 = .ok (.ireturn, 1) := by decide +kernel
theorem dX6_coins_0 : decode cX6_coins 0 = .ok (.aload_n 0, 1) := by decide +kernel
theorem dX6_coins_1 : decode cX6_coins 1 = .ok (.getfield 19, 3) := by decide +kernel
theorem dX6_coins_4 : decode cX6_coins 4 = .ok (.iload_n 1, 1) := by decide +kernel
theorem dX6_coins_5 : decode cX6_coins 5 = .ok (.invokevirtual 136, 3) := by decide +kernel
theorem dX6_coins_8 : decode cX6_coins 8 = .ok (.ifCond .eq 14, 3) := by decide +kernel
theorem dX6_coins_11 : decode cX6_coins 11 = .ok (.aload_n 0, 1) := by decide +kernel
theorem dX6_coins_12 : decode cX6_coins 12 = .ok (.getfield 19, 3) := by decide +kernel
theorem dX6_coins_15 : decode cX6_coins 15 = .ok (.iload_n 2, 1) := by decide +kernel
theorem dX6_coins_16 : decode cX6_coins 16 = .ok (.invokevirtual 107, 3) := by decide +kernel
theorem dX6_coins_19 : decode cX6_coins 19 = .ok (.ifCond .ne 5, 3) := by decide +kernel
theorem dX6_coins_22 : decode cX6_coins 22 = .ok (.iconst (-1), 1) := by decide +kernel
theorem dX6_coins_23 : decode cX6_coins 23 = .ok (.ireturn, 1) := by decide +kernel
theorem dX6_coins_24 : decode cX6_coins 24 = .ok (.aload_n 0, 1) := by decide +kernel
theorem dX6_coins_25 : decode cX6_coins 25 = .ok (.getfield 29, 3) := by decide +kernel
theorem dX6_coins_28 : decode cX6_coins 28 = .ok (.iload_n 1, 1) := by decide +kernel
theorem dX6_coins_29 : decode cX6_coins 29 = .ok (.iload_n 2, 1) := by decide +kernel
theorem dX6_coins_30 : decode cX6_coins 30 = .ok (.invokevirtual 142, 3) := by decide +kernel
theorem dX6_coins_33 : decode cX6_coins 33 = .ok (.ireturn, 1) := by decide +kernel
theorem dX6_dawn_0 : decode cX6_dawn 0 = .ok (.aload_n 0, 1) := by decide +kernel
theorem dX6_dawn_1 : decode cX6_dawn 1 = .ok (.getfield 39, 3) := by decide +kernel
theorem dX6_dawn_4 : decode cX6_dawn 4 = .ok (.aload_n 0, 1) := by decide +kernel
theorem dX6_dawn_5 : decode cX6_dawn 5 = .ok (.getfield 29, 3) := by decide +kernel
theorem dX6_dawn_8 : decode cX6_dawn 8 = .ok (.invokevirtual 146, 3) := by decide +kernel
theorem dX6_dawn_11 : decode cX6_dawn 11 = .ok (.aload_n 0, 1) := by decide +kernel
theorem dX6_dawn_12 : decode cX6_dawn 12 = .ok (.getfield 29, 3) := by decide +kernel
theorem dX6_dawn_15 : decode cX6_dawn 15 = .ok (.aload_n 0, 1) := by decide +kernel
theorem dX6_dawn_16 : decode cX6_dawn 16 = .ok (.getfield 19, 3) := by decide +kernel
theorem dX6_dawn_19 : decode cX6_dawn 19 = .ok (.invokevirtual 150, 3) := by decide +kernel
theorem dX6_dawn_22 : decode cX6_dawn 22 = .ok (.ireturn, 1) := by decide +kernel
theorem dX6_say_0 : decode cX6_say 0 = .ok (.aload_n 0, 1) := by decide +kernel
theorem dX6_say_1 : decode cX6_say 1 = .ok (.getfield 19, 3) := by decide +kernel
theorem dX6_say_4 : decode cX6_say 4 = .ok (.iload_n 1, 1) := by decide +kernel
theorem dX6_say_5 : decode cX6_say 5 = .ok (.invokevirtual 107, 3) := by decide +kernel
theorem dX6_say_8 : decode cX6_say 8 = .ok (.ifCond .ne 5, 3) := by decide +kernel
theorem dX6_say_11 : decode cX6_say 11 = .ok (.iconst (-1), 1) := by decide +kernel
theorem dX6_say_12 : decode cX6_say 12 = .ok (.ireturn, 1) := by decide +kernel
theorem dX6_say_13 : decode cX6_say 13 = .ok (.iload_n 2, 1) := by decide +kernel
theorem dX6_say_14 : decode cX6_say 14 = .ok (.invokestatic 153, 3) := by decide +kernel
theorem dX6_say_17 : decode cX6_say 17 = .ok (.ifCond .ne 6, 3) := by decide +kernel
theorem dX6_say_20 : decode cX6_say 20 = .ok (.bipush (-2), 2) := by decide +kernel
theorem dX6_say_22 : decode cX6_say 22 = .ok (.ireturn, 1) := by decide +kernel
theorem dX6_say_23 : decode cX6_say 23 = .ok (.aload_n 0, 1) := by decide +kernel
theorem dX6_say_24 : decode cX6_say 24 = .ok (.getfield 29, 3) := by decide +kernel
theorem dX6_say_27 : decode cX6_say 27 = .ok (.aload_n 0, 1) := by decide +kernel
theorem dX6_say_28 : decode cX6_say 28 = .ok (.getfield 19, 3) := by decide +kernel
theorem dX6_say_31 : decode cX6_say 31 = .ok (.iload_n 1, 1) := by decide +kernel
theorem dX6_say_32 : decode cX6_say 32 = .ok (.iload_n 2, 1) := by decide +kernel
theorem dX6_say_33 : decode cX6_say 33 = .ok (.invokevirtual 156, 3) := by decide +kernel
theorem dX6_say_36 : decode cX6_say 36 = .ok (.ifCond .ne 6, 3) := by decide +kernel
theorem dX6_say_39 : decode cX6_say 39 = .ok (.bipush (-3), 2) := by decide +kernel
theorem dX6_say_41 : decode cX6_say 41 = .ok (.ireturn, 1) := by decide +kernel
theorem dX6_say_42 : decode cX6_say 42 = .ok (.aload_n 0, 1) := by decide +kernel
theorem dX6_say_43 : decode cX6_say 43 = .ok (.getfield 39, 3) := by decide +kernel
theorem dX6_say_46 : decode cX6_say 46 = .ok (.aload_n 0, 1) := by decide +kernel
theorem dX6_say_47 : decode cX6_say 47 = .ok (.getfield 29, 3) := by decide +kernel
theorem dX6_say_50 : decode cX6_say 50 = .ok (.invokevirtual 146, 3) := by decide +kernel
theorem dX6_say_53 : decode cX6_say 53 = .ok (.aload_n 0, 1) := by decide +kernel
theorem dX6_say_54 : decode cX6_say 54 = .ok (.getfield 29, 3) := by decide +kernel
theorem dX6_say_57 : decode cX6_say 57 = .ok (.iload_n 1, 1) := by decide +kernel
theorem dX6_say_58 : decode cX6_say 58 = .ok (.iload_n 2, 1) := by decide +kernel
theorem dX6_say_59 : decode cX6_say 59 = .ok (.invokevirtual 160, 3) := by decide +kernel
theorem dX6_say_62 : decode cX6_say 62 = .ok (.aload_n 0, 1) := by decide +kernel
theorem dX6_say_63 : decode cX6_say 63 = .ok (.getfield 29, 3) := by decide +kernel
theorem dX6_say_66 : decode cX6_say 66 = .ok (.iload_n 1, 1) := by decide +kernel
theorem dX6_say_67 : decode cX6_say 67 = .ok (.invokevirtual 120, 3) := by decide +kernel
theorem dX6_say_70 : decode cX6_say 70 = .ok (.invokestatic 164, 3) := by decide +kernel
theorem dX6_say_73 : decode cX6_say 73 = .ok (.ireturn, 1) := by decide +kernel
theorem dX6_deny_0 : decode cX6_deny 0 = .ok (.aload_n 0, 1) := by decide +kernel
theorem dX6_deny_1 : decode cX6_deny 1 = .ok (.getfield 19, 3) := by decide +kernel
theorem dX6_deny_4 : decode cX6_deny 4 = .ok (.iload_n 1, 1) := by decide +kernel
theorem dX6_deny_5 : decode cX6_deny 5 = .ok (.invokevirtual 107, 3) := by decide +kernel
theorem dX6_deny_8 : decode cX6_deny 8 = .ok (.ifCond .ne 5, 3) := by decide +kernel
theorem dX6_deny_11 : decode cX6_deny 11 = .ok (.iconst (-1), 1) := by decide +kernel
theorem dX6_deny_12 : decode cX6_deny 12 = .ok (.ireturn, 1) := by decide +kernel
theorem dX6_deny_13 : decode cX6_deny 13 = .ok (.iload_n 2, 1) := by decide +kernel
theorem dX6_deny_14 : decode cX6_deny 14 = .ok (.invokestatic 153, 3) := by decide +kernel
theorem dX6_deny_17 : decode cX6_deny 17 = .ok (.ifCond .ne 6, 3) := by decide +kernel
theorem dX6_deny_20 : decode cX6_deny 20 = .ok (.bipush (-2), 2) := by decide +kernel
theorem dX6_deny_22 : decode cX6_deny 22 = .ok (.ireturn, 1) := by decide +kernel
theorem dX6_deny_23 : decode cX6_deny 23 = .ok (.aload_n 0, 1) := by decide +kernel
theorem dX6_deny_24 : decode cX6_deny 24 = .ok (.getfield 29, 3) := by decide +kernel
theorem dX6_deny_27 : decode cX6_deny 27 = .ok (.aload_n 0, 1) := by decide +kernel
theorem dX6_deny_28 : decode cX6_deny 28 = .ok (.getfield 19, 3) := by decide +kernel
theorem dX6_deny_31 : decode cX6_deny 31 = .ok (.iload_n 1, 1) := by decide +kernel
theorem dX6_deny_32 : decode cX6_deny 32 = .ok (.iload_n 2, 1) := by decide +kernel
theorem dX6_deny_33 : decode cX6_deny 33 = .ok (.invokevirtual 169, 3) := by decide +kernel
theorem dX6_deny_36 : decode cX6_deny 36 = .ok (.ifCond .ne 6, 3) := by decide +kernel
theorem dX6_deny_39 : decode cX6_deny 39 = .ok (.bipush (-3), 2) := by decide +kernel
theorem dX6_deny_41 : decode cX6_deny 41 = .ok (.ireturn, 1) := by decide +kernel
theorem dX6_deny_42 : decode cX6_deny 42 = .ok (.aload_n 0, 1) := by decide +kernel
theorem dX6_deny_43 : decode cX6_deny 43 = .ok (.getfield 39, 3) := by decide +kernel
theorem dX6_deny_46 : decode cX6_deny 46 = .ok (.aload_n 0, 1) := by decide +kernel
theorem dX6_deny_47 : decode cX6_deny 47 = .ok (.getfield 29, 3) := by decide +kernel
theorem dX6_deny_50 : decode cX6_deny 50 = .ok (.invokevirtual 146, 3) := by decide +kernel
theorem dX6_deny_53 : decode cX6_deny 53 = .ok (.aload_n 0, 1) := by decide +kernel
theorem dX6_deny_54 : decode cX6_deny 54 = .ok (.getfield 29, 3) := by decide +kernel
theorem dX6_deny_57 : decode cX6_deny 57 = .ok (.iload_n 1, 1) := by decide +kernel
theorem dX6_deny_58 : decode cX6_deny 58 = .ok (.iload_n 2, 1) := by decide +kernel
theorem dX6_deny_59 : decode cX6_deny 59 = .ok (.invokevirtual 172, 3) := by decide +kernel
theorem dX6_deny_62 : decode cX6_deny 62 = .ok (.aload_n 0, 1) := by decide +kernel
theorem dX6_deny_63 : decode cX6_deny 63 = .ok (.getfield 29, 3) := by decide +kernel
theorem dX6_deny_66 : decode cX6_deny 66 = .ok (.iload_n 1, 1) := by decide +kernel
theorem dX6_deny_67 : decode cX6_deny 67 = .ok (.invokevirtual 120, 3) := by decide +kernel
theorem dX6_deny_70 : decode cX6_deny 70 = .ok (.invokestatic 164, 3) := by decide +kernel
theorem dX6_deny_73 : decode cX6_deny 73 = .ok (.ireturn, 1) := by decide +kernel
theorem dX6_pay_0 : decode cX6_pay 0 = .ok (.aload_n 0, 1) := by decide +kernel
theorem dX6_pay_1 : decode cX6_pay 1 = .ok (.getfield 19, 3) := by decide +kernel
theorem dX6_pay_4 : decode cX6_pay 4 = .ok (.iload_n 1, 1) := by decide +kernel
theorem dX6_pay_5 : decode cX6_pay 5 = .ok (.invokevirtual 136, 3) := by decide +kernel
theorem dX6_pay_8 : decode cX6_pay 8 = .ok (.ifCond .eq 25, 3) := by decide +kernel
theorem dX6_pay_11 : decode cX6_pay 11 = .ok (.aload_n 0, 1) := by decide +kernel
theorem dX6_pay_12 : decode cX6_pay 12 = .ok (.getfield 19, 3) := by decide +kernel
theorem dX6_pay_15 : decode cX6_pay 15 = .ok (.iload_n 2, 1) := by decide +kernel
theorem dX6_pay_16 : decode cX6_pay 16 = .ok (.invokevirtual 136, 3) := by decide +kernel
theorem dX6_pay_19 : decode cX6_pay 19 = .ok (.ifCond .eq 14, 3) := by decide +kernel
theorem dX6_pay_22 : decode cX6_pay 22 = .ok (.aload_n 0, 1) := by decide +kernel
theorem dX6_pay_23 : decode cX6_pay 23 = .ok (.getfield 19, 3) := by decide +kernel
theorem dX6_pay_26 : decode cX6_pay 26 = .ok (.iload_n 3, 1) := by decide +kernel
theorem dX6_pay_27 : decode cX6_pay 27 = .ok (.invokevirtual 107, 3) := by decide +kernel
theorem dX6_pay_30 : decode cX6_pay 30 = .ok (.ifCond .ne 5, 3) := by decide +kernel
theorem dX6_pay_33 : decode cX6_pay 33 = .ok (.iconst (-1), 1) := by decide +kernel
theorem dX6_pay_34 : decode cX6_pay 34 = .ok (.ireturn, 1) := by decide +kernel
theorem dX6_pay_35 : decode cX6_pay 35 = .ok (.iload_n 1, 1) := by decide +kernel
theorem dX6_pay_36 : decode cX6_pay 36 = .ok (.iload_n 2, 1) := by decide +kernel
theorem dX6_pay_37 : decode cX6_pay 37 = .ok (.if_icmp .ne 6, 3) := by decide +kernel
theorem dX6_pay_40 : decode cX6_pay 40 = .ok (.bipush (-2), 2) := by decide +kernel
theorem dX6_pay_42 : decode cX6_pay 42 = .ok (.ireturn, 1) := by decide +kernel
theorem dX6_pay_43 : decode cX6_pay 43 = .ok (.aload_n 0, 1) := by decide +kernel
theorem dX6_pay_44 : decode cX6_pay 44 = .ok (.getfield 29, 3) := by decide +kernel
theorem dX6_pay_47 : decode cX6_pay 47 = .ok (.iload_n 1, 1) := by decide +kernel
theorem dX6_pay_48 : decode cX6_pay 48 = .ok (.iload_n 3, 1) := by decide +kernel
theorem dX6_pay_49 : decode cX6_pay 49 = .ok (.invokevirtual 142, 3) := by decide +kernel
theorem dX6_pay_52 : decode cX6_pay 52 = .ok (.iconst 1, 1) := by decide +kernel
theorem dX6_pay_53 : decode cX6_pay 53 = .ok (.if_icmp .lt 19, 3) := by decide +kernel
theorem dX6_pay_56 : decode cX6_pay 56 = .ok (.aload_n 0, 1) := by decide +kernel
theorem dX6_pay_57 : decode cX6_pay 57 = .ok (.getfield 29, 3) := by decide +kernel
theorem dX6_pay_60 : decode cX6_pay 60 = .ok (.aload_n 0, 1) := by decide +kernel
theorem dX6_pay_61 : decode cX6_pay 61 = .ok (.getfield 19, 3) := by decide +kernel
theorem dX6_pay_64 : decode cX6_pay 64 = .ok (.iload_n 2, 1) := by decide +kernel
theorem dX6_pay_65 : decode cX6_pay 65 = .ok (.iload_n 3, 1) := by decide +kernel
theorem dX6_pay_66 : decode cX6_pay 66 = .ok (.invokevirtual 175, 3) := by decide +kernel
theorem dX6_pay_69 : decode cX6_pay 69 = .ok (.ifCond .ne 6, 3) := by decide +kernel
theorem dX6_pay_72 : decode cX6_pay 72 = .ok (.bipush (-3), 2) := by decide +kernel
theorem dX6_pay_74 : decode cX6_pay 74 = .ok (.ireturn, 1) := by decide +kernel
theorem dX6_pay_75 : decode cX6_pay 75 = .ok (.aload_n 0, 1) := by decide +kernel
theorem dX6_pay_76 : decode cX6_pay 76 = .ok (.getfield 39, 3) := by decide +kernel
theorem dX6_pay_79 : decode cX6_pay 79 = .ok (.aload_n 0, 1) := by decide +kernel
theorem dX6_pay_80 : decode cX6_pay 80 = .ok (.getfield 29, 3) := by decide +kernel
theorem dX6_pay_83 : decode cX6_pay 83 = .ok (.invokevirtual 146, 3) := by decide +kernel
theorem dX6_pay_86 : decode cX6_pay 86 = .ok (.aload_n 0, 1) := by decide +kernel
theorem dX6_pay_87 : decode cX6_pay 87 = .ok (.getfield 29, 3) := by decide +kernel
theorem dX6_pay_90 : decode cX6_pay 90 = .ok (.iload_n 1, 1) := by decide +kernel
theorem dX6_pay_91 : decode cX6_pay 91 = .ok (.iload_n 3, 1) := by decide +kernel
theorem dX6_pay_92 : decode cX6_pay 92 = .ok (.iconst (-1), 1) := by decide +kernel
theorem dX6_pay_93 : decode cX6_pay 93 = .ok (.invokevirtual 178, 3) := by decide +kernel
theorem dX6_pay_96 : decode cX6_pay 96 = .ok (.aload_n 0, 1) := by decide +kernel
theorem dX6_pay_97 : decode cX6_pay 97 = .ok (.getfield 29, 3) := by decide +kernel
theorem dX6_pay_100 : decode cX6_pay 100 = .ok (.iload_n 2, 1) := by decide +kernel
theorem dX6_pay_101 : decode cX6_pay 101 = .ok (.iload_n 3, 1) := by decide +kernel
theorem dX6_pay_102 : decode cX6_pay 102 = .ok (.iconst 1, 1) := by decide +kernel
theorem dX6_pay_103 : decode cX6_pay 103 = .ok (.invokevirtual 178, 3) := by decide +kernel
theorem dX6_pay_106 : decode cX6_pay 106 = .ok (.aload_n 0, 1) := by decide +kernel
theorem dX6_pay_107 : decode cX6_pay 107 = .ok (.getfield 29, 3) := by decide +kernel
theorem dX6_pay_110 : decode cX6_pay 110 = .ok (.aload_n 0, 1) := by decide +kernel
theorem dX6_pay_111 : decode cX6_pay 111 = .ok (.getfield 19, 3) := by decide +kernel
theorem dX6_pay_114 : decode cX6_pay 114 = .ok (.iload_n 3, 1) := by decide +kernel
theorem dX6_pay_115 : decode cX6_pay 115 = .ok (.invokevirtual 182, 3) := by decide +kernel
theorem dX6_pay_118 : decode cX6_pay 118 = .ok (.ireturn, 1) := by decide +kernel
theorem dX6_undo_0 : decode cX6_undo 0 = .ok (.aload_n 0, 1) := by decide +kernel
theorem dX6_undo_1 : decode cX6_undo 1 = .ok (.getfield 39, 3) := by decide +kernel
theorem dX6_undo_4 : decode cX6_undo 4 = .ok (.aload_n 0, 1) := by decide +kernel
theorem dX6_undo_5 : decode cX6_undo 5 = .ok (.getfield 29, 3) := by decide +kernel
theorem dX6_undo_8 : decode cX6_undo 8 = .ok (.invokevirtual 186, 3) := by decide +kernel
theorem dX6_undo_11 : decode cX6_undo 11 = .ok (.ifCond .eq 13, 3) := by decide +kernel
theorem dX6_undo_14 : decode cX6_undo 14 = .ok (.aload_n 0, 1) := by decide +kernel
theorem dX6_undo_15 : decode cX6_undo 15 = .ok (.getfield 39, 3) := by decide +kernel
theorem dX6_undo_18 : decode cX6_undo 18 = .ok (.getfield 98, 3) := by decide +kernel
theorem dX6_undo_21 : decode cX6_undo 21 = .ok (.goto 5, 3) := by decide +kernel
theorem dX6_undo_24 : decode cX6_undo 24 = .ok (.bipush (-3), 2) := by decide +kernel
theorem dX6_undo_26 : decode cX6_undo 26 = .ok (.ireturn, 1) := by decide +kernel
theorem dX6_worth_0 : decode cX6_worth 0 = .ok (.aload_n 0, 1) := by decide +kernel
theorem dX6_worth_1 : decode cX6_worth 1 = .ok (.getfield 19, 3) := by decide +kernel
theorem dX6_worth_4 : decode cX6_worth 4 = .ok (.iload_n 1, 1) := by decide +kernel
theorem dX6_worth_5 : decode cX6_worth 5 = .ok (.invokevirtual 107, 3) := by decide +kernel
theorem dX6_worth_8 : decode cX6_worth 8 = .ok (.ifCond .ne 5, 3) := by decide +kernel
theorem dX6_worth_11 : decode cX6_worth 11 = .ok (.iconst (-1), 1) := by decide +kernel
theorem dX6_worth_12 : decode cX6_worth 12 = .ok (.ireturn, 1) := by decide +kernel
theorem dX6_worth_13 : decode cX6_worth 13 = .ok (.iload_n 2, 1) := by decide +kernel
theorem dX6_worth_14 : decode cX6_worth 14 = .ok (.iconst 0, 1) := by decide +kernel
theorem dX6_worth_15 : decode cX6_worth 15 = .ok (.bipush 8, 2) := by decide +kernel
theorem dX6_worth_17 : decode cX6_worth 17 = .ok (.invokestatic 78, 3) := by decide +kernel
theorem dX6_worth_20 : decode cX6_worth 20 = .ok (.ifCond .eq 6, 3) := by decide +kernel
theorem dX6_worth_23 : decode cX6_worth 23 = .ok (.bipush (-2), 2) := by decide +kernel
theorem dX6_worth_25 : decode cX6_worth 25 = .ok (.ireturn, 1) := by decide +kernel
theorem dX6_worth_26 : decode cX6_worth 26 = .ok (.aload_n 0, 1) := by decide +kernel
theorem dX6_worth_27 : decode cX6_worth 27 = .ok (.iload_n 1, 1) := by decide +kernel
theorem dX6_worth_28 : decode cX6_worth 28 = .ok (.aload_n 0, 1) := by decide +kernel
theorem dX6_worth_29 : decode cX6_worth 29 = .ok (.getfield 29, 3) := by decide +kernel
theorem dX6_worth_32 : decode cX6_worth 32 = .ok (.iload_n 1, 1) := by decide +kernel
theorem dX6_worth_33 : decode cX6_worth 33 = .ok (.invokevirtual 120, 3) := by decide +kernel
theorem dX6_worth_36 : decode cX6_worth 36 = .ok (.iload_n 2, 1) := by decide +kernel
theorem dX6_worth_37 : decode cX6_worth 37 = .ok (.invokevirtual 190, 3) := by decide +kernel
theorem dX6_worth_40 : decode cX6_worth 40 = .ok (.ireturn, 1) := by decide +kernel
theorem dX6_purse_0 : decode cX6_purse 0 = .ok (.aload_n 0, 1) := by decide +kernel
theorem dX6_purse_1 : decode cX6_purse 1 = .ok (.getfield 19, 3) := by decide +kernel
theorem dX6_purse_4 : decode cX6_purse 4 = .ok (.iload_n 1, 1) := by decide +kernel
theorem dX6_purse_5 : decode cX6_purse 5 = .ok (.invokevirtual 136, 3) := by decide +kernel
theorem dX6_purse_8 : decode cX6_purse 8 = .ok (.ifCond .ne 5, 3) := by decide +kernel
theorem dX6_purse_11 : decode cX6_purse 11 = .ok (.iconst (-1), 1) := by decide +kernel
theorem dX6_purse_12 : decode cX6_purse 12 = .ok (.ireturn, 1) := by decide +kernel
theorem dX6_purse_13 : decode cX6_purse 13 = .ok (.iload_n 2, 1) := by decide +kernel
theorem dX6_purse_14 : decode cX6_purse 14 = .ok (.iconst 0, 1) := by decide +kernel
theorem dX6_purse_15 : decode cX6_purse 15 = .ok (.bipush 8, 2) := by decide +kernel
theorem dX6_purse_17 : decode cX6_purse 17 = .ok (.invokestatic 78, 3) := by decide +kernel
theorem dX6_purse_20 : decode cX6_purse 20 = .ok (.ifCond .eq 6, 3) := by decide +kernel
theorem dX6_purse_23 : decode cX6_purse 23 = .ok (.bipush (-2), 2) := by decide +kernel
theorem dX6_purse_25 : decode cX6_purse 25 = .ok (.ireturn, 1) := by decide +kernel
theorem dX6_purse_26 : decode cX6_purse 26 = .ok (.aload_n 0, 1) := by decide +kernel
theorem dX6_purse_27 : decode cX6_purse 27 = .ok (.iload_n 1, 1) := by decide +kernel
theorem dX6_purse_28 : decode cX6_purse 28 = .ok (.iload_n 2, 1) := by decide +kernel
theorem dX6_purse_29 : decode cX6_purse 29 = .ok (.invokevirtual 194, 3) := by decide +kernel
theorem dX6_purse_32 : decode cX6_purse 32 = .ok (.ireturn, 1) := by decide +kernel
theorem dX6_bestDay_0 : decode cX6_bestDay 0 = .ok (.aload_n 0, 1) := by decide +kernel
theorem dX6_bestDay_1 : decode cX6_bestDay 1 = .ok (.getfield 19, 3) := by decide +kernel
theorem dX6_bestDay_4 : decode cX6_bestDay 4 = .ok (.iload_n 1, 1) := by decide +kernel
theorem dX6_bestDay_5 : decode cX6_bestDay 5 = .ok (.invokevirtual 136, 3) := by decide +kernel
theorem dX6_bestDay_8 : decode cX6_bestDay 8 = .ok (.ifCond .ne 5, 3) := by decide +kernel
theorem dX6_bestDay_11 : decode cX6_bestDay 11 = .ok (.iconst (-1), 1) := by decide +kernel
theorem dX6_bestDay_12 : decode cX6_bestDay 12 = .ok (.ireturn, 1) := by decide +kernel
theorem dX6_bestDay_13 : decode cX6_bestDay 13 = .ok (.aload_n 0, 1) := by decide +kernel
theorem dX6_bestDay_14 : decode cX6_bestDay 14 = .ok (.getfield 61, 3) := by decide +kernel
theorem dX6_bestDay_17 : decode cX6_bestDay 17 = .ok (.aload_n 0, 1) := by decide +kernel
theorem dX6_bestDay_18 : decode cX6_bestDay 18 = .ok (.iload_n 1, 1) := by decide +kernel
theorem dX6_bestDay_19 : decode cX6_bestDay 19 = .ok (.iconst 0, 1) := by decide +kernel
theorem dX6_bestDay_20 : decode cX6_bestDay 20 = .ok (.invokevirtual 194, 3) := by decide +kernel
theorem dX6_bestDay_23 : decode cX6_bestDay 23 = .ok (.iconst 0, 1) := by decide +kernel
theorem dX6_bestDay_24 : decode cX6_bestDay 24 = .ok (.invokevirtual 197, 3) := by decide +kernel
theorem dX6_bestDay_27 : decode cX6_bestDay 27 = .ok (.iconst 1, 1) := by decide +kernel
theorem dX6_bestDay_28 : decode cX6_bestDay 28 = .ok (.istore_n 2, 1) := by decide +kernel
theorem dX6_bestDay_29 : decode cX6_bestDay 29 = .ok (.iload_n 2, 1) := by decide +kernel
theorem dX6_bestDay_30 : decode cX6_bestDay 30 = .ok (.bipush 8, 2) := by decide +kernel
theorem dX6_bestDay_32 : decode cX6_bestDay 32 = .ok (.if_icmp .gt 23, 3) := by decide +kernel
theorem dX6_bestDay_35 : decode cX6_bestDay 35 = .ok (.aload_n 0, 1) := by decide +kernel
theorem dX6_bestDay_36 : decode cX6_bestDay 36 = .ok (.getfield 61, 3) := by decide +kernel
theorem dX6_bestDay_39 : decode cX6_bestDay 39 = .ok (.aload_n 0, 1) := by decide +kernel
theorem dX6_bestDay_40 : decode cX6_bestDay 40 = .ok (.iload_n 1, 1) := by decide +kernel
theorem dX6_bestDay_41 : decode cX6_bestDay 41 = .ok (.iload_n 2, 1) := by decide +kernel
theorem dX6_bestDay_42 : decode cX6_bestDay 42 = .ok (.invokevirtual 194, 3) := by decide +kernel
theorem dX6_bestDay_45 : decode cX6_bestDay 45 = .ok (.iload_n 2, 1) := by decide +kernel
theorem dX6_bestDay_46 : decode cX6_bestDay 46 = .ok (.invokevirtual 200, 3) := by decide +kernel
theorem dX6_bestDay_49 : decode cX6_bestDay 49 = .ok (.iinc 2 1, 3) := by decide +kernel
theorem dX6_bestDay_52 : decode cX6_bestDay 52 = .ok (.goto (-23), 3) := by decide +kernel
theorem dX6_bestDay_55 : decode cX6_bestDay 55 = .ok (.aload_n 0, 1) := by decide +kernel
theorem dX6_bestDay_56 : decode cX6_bestDay 56 = .ok (.getfield 61, 3) := by decide +kernel
theorem dX6_bestDay_59 : decode cX6_bestDay 59 = .ok (.getfield 203, 3) := by decide +kernel
theorem dX6_bestDay_62 : decode cX6_bestDay 62 = .ok (.ireturn, 1) := by decide +kernel
theorem dX6_reach_0 : decode cX6_reach 0 = .ok (.aload_n 0, 1) := by decide +kernel
theorem dX6_reach_1 : decode cX6_reach 1 = .ok (.getfield 19, 3) := by decide +kernel
theorem dX6_reach_4 : decode cX6_reach 4 = .ok (.iload_n 1, 1) := by decide +kernel
theorem dX6_reach_5 : decode cX6_reach 5 = .ok (.invokevirtual 107, 3) := by decide +kernel
theorem dX6_reach_8 : decode cX6_reach 8 = .ok (.ifCond .ne 5, 3) := by decide +kernel
theorem dX6_reach_11 : decode cX6_reach 11 = .ok (.iconst (-1), 1) := by decide +kernel
theorem dX6_reach_12 : decode cX6_reach 12 = .ok (.ireturn, 1) := by decide +kernel
theorem dX6_reach_13 : decode cX6_reach 13 = .ok (.iload_n 2, 1) := by decide +kernel
theorem dX6_reach_14 : decode cX6_reach 14 = .ok (.invokestatic 153, 3) := by decide +kernel
theorem dX6_reach_17 : decode cX6_reach 17 = .ok (.ifCond .ne 6, 3) := by decide +kernel
theorem dX6_reach_20 : decode cX6_reach 20 = .ok (.bipush (-2), 2) := by decide +kernel
theorem dX6_reach_22 : decode cX6_reach 22 = .ok (.ireturn, 1) := by decide +kernel
theorem dX6_reach_23 : decode cX6_reach 23 = .ok (.iconst 0, 1) := by decide +kernel
theorem dX6_reach_24 : decode cX6_reach 24 = .ok (.istore_n 3, 1) := by decide +kernel
theorem dX6_reach_25 : decode cX6_reach 25 = .ok (.iload_n 3, 1) := by decide +kernel
theorem dX6_reach_26 : decode cX6_reach 26 = .ok (.bipush 8, 2) := by decide +kernel
theorem dX6_reach_28 : decode cX6_reach 28 = .ok (.if_icmp .gt 32, 3) := by decide +kernel
theorem dX6_reach_31 : decode cX6_reach 31 = .ok (.aload_n 0, 1) := by decide +kernel
theorem dX6_reach_32 : decode cX6_reach 32 = .ok (.iload_n 1, 1) := by decide +kernel
theorem dX6_reach_33 : decode cX6_reach 33 = .ok (.aload_n 0, 1) := by decide +kernel
theorem dX6_reach_34 : decode cX6_reach 34 = .ok (.getfield 29, 3) := by decide +kernel
theorem dX6_reach_37 : decode cX6_reach 37 = .ok (.iload_n 1, 1) := by decide +kernel
theorem dX6_reach_38 : decode cX6_reach 38 = .ok (.invokevirtual 120, 3) := by decide +kernel
theorem dX6_reach_41 : decode cX6_reach 41 = .ok (.iload_n 3, 1) := by decide +kernel
theorem dX6_reach_42 : decode cX6_reach 42 = .ok (.invokevirtual 206, 3) := by decide +kernel
theorem dX6_reach_45 : decode cX6_reach 45 = .ok (.iload_n 2, 1) := by decide +kernel
theorem dX6_reach_46 : decode cX6_reach 46 = .ok (.invokestatic 209, 3) := by decide +kernel
theorem dX6_reach_49 : decode cX6_reach 49 = .ok (.ifCond .eq 5, 3) := by decide +kernel
theorem dX6_reach_52 : decode cX6_reach 52 = .ok (.iload_n 3, 1) := by decide +kernel
theorem dX6_reach_53 : decode cX6_reach 53 = .ok (.ireturn, 1) := by decide +kernel
theorem dX6_reach_54 : decode cX6_reach 54 = .ok (.iinc 3 1, 3) := by decide +kernel
theorem dX6_reach_57 : decode cX6_reach 57 = .ok (.goto (-32), 3) := by decide +kernel
theorem dX6_reach_60 : decode cX6_reach 60 = .ok (.bipush (-9), 2) := by decide +kernel
theorem dX6_reach_62 : decode cX6_reach 62 = .ok (.ireturn, 1) := by decide +kernel
theorem dX6_plan_0 : decode cX6_plan 0 = .ok (.aload_n 0, 1) := by decide +kernel
theorem dX6_plan_1 : decode cX6_plan 1 = .ok (.getfield 19, 3) := by decide +kernel
theorem dX6_plan_4 : decode cX6_plan 4 = .ok (.iload_n 1, 1) := by decide +kernel
theorem dX6_plan_5 : decode cX6_plan 5 = .ok (.invokevirtual 136, 3) := by decide +kernel
theorem dX6_plan_8 : decode cX6_plan 8 = .ok (.ifCond .ne 5, 3) := by decide +kernel
theorem dX6_plan_11 : decode cX6_plan 11 = .ok (.iconst (-1), 1) := by decide +kernel
theorem dX6_plan_12 : decode cX6_plan 12 = .ok (.ireturn, 1) := by decide +kernel
theorem dX6_plan_13 : decode cX6_plan 13 = .ok (.iload_n 2, 1) := by decide +kernel
theorem dX6_plan_14 : decode cX6_plan 14 = .ok (.iconst 0, 1) := by decide +kernel
theorem dX6_plan_15 : decode cX6_plan 15 = .ok (.bipush 8, 2) := by decide +kernel
theorem dX6_plan_17 : decode cX6_plan 17 = .ok (.invokestatic 78, 3) := by decide +kernel
theorem dX6_plan_20 : decode cX6_plan 20 = .ok (.ifCond .eq 6, 3) := by decide +kernel
theorem dX6_plan_23 : decode cX6_plan 23 = .ok (.bipush (-2), 2) := by decide +kernel
theorem dX6_plan_25 : decode cX6_plan 25 = .ok (.ireturn, 1) := by decide +kernel
theorem dX6_plan_26 : decode cX6_plan 26 = .ok (.iconst 0, 1) := by decide +kernel
theorem dX6_plan_27 : decode cX6_plan 27 = .ok (.istore 4, 2) := by decide +kernel
theorem dX6_plan_29 : decode cX6_plan 29 = .ok (.iload 4, 2) := by decide +kernel
theorem dX6_plan_31 : decode cX6_plan 31 = .ok (.aload_n 0, 1) := by decide +kernel
theorem dX6_plan_32 : decode cX6_plan 32 = .ok (.getfield 65, 3) := by decide +kernel
theorem dX6_plan_35 : decode cX6_plan 35 = .ok (.arraylength, 1) := by decide +kernel
theorem dX6_plan_36 : decode cX6_plan 36 = .ok (.if_icmp .ge 45, 3) := by decide +kernel
theorem dX6_plan_39 : decode cX6_plan 39 = .ok (.aload_n 0, 1) := by decide +kernel
theorem dX6_plan_40 : decode cX6_plan 40 = .ok (.getfield 65, 3) := by decide +kernel
theorem dX6_plan_43 : decode cX6_plan 43 = .ok (.iload 4, 2) := by decide +kernel
theorem dX6_plan_45 : decode cX6_plan 45 = .ok (.aload_n 0, 1) := by decide +kernel
theorem dX6_plan_46 : decode cX6_plan 46 = .ok (.iload 4, 2) := by decide +kernel
theorem dX6_plan_48 : decode cX6_plan 48 = .ok (.invokevirtual 212, 3) := by decide +kernel
theorem dX6_plan_51 : decode cX6_plan 51 = .ok (.ifCond .eq 22, 3) := by decide +kernel
theorem dX6_plan_54 : decode cX6_plan 54 = .ok (.aload_n 0, 1) := by decide +kernel
theorem dX6_plan_55 : decode cX6_plan 55 = .ok (.iload_n 1, 1) := by decide +kernel
theorem dX6_plan_56 : decode cX6_plan 56 = .ok (.iload 4, 2) := by decide +kernel
theorem dX6_plan_58 : decode cX6_plan 58 = .ok (.bipush 6, 2) := by decide +kernel
theorem dX6_plan_60 : decode cX6_plan 60 = .ok (.idiv, 1) := by decide +kernel
theorem dX6_plan_61 : decode cX6_plan 61 = .ok (.iload 4, 2) := by decide +kernel
theorem dX6_plan_63 : decode cX6_plan 63 = .ok (.invokestatic 215, 3) := by decide +kernel
theorem dX6_plan_66 : decode cX6_plan 66 = .ok (.iload_n 2, 1) := by decide +kernel
theorem dX6_plan_67 : decode cX6_plan 67 = .ok (.invokevirtual 218, 3) := by decide +kernel
theorem dX6_plan_70 : decode cX6_plan 70 = .ok (.goto 4, 3) := by decide +kernel
theorem dX6_plan_73 : decode cX6_plan 73 = .ok (.iconst 0, 1) := by decide +kernel
theorem dX6_plan_74 : decode cX6_plan 74 = .ok (.iastore, 1) := by decide +kernel
theorem dX6_plan_75 : decode cX6_plan 75 = .ok (.iinc 4 1, 3) := by decide +kernel
theorem dX6_plan_78 : decode cX6_plan 78 = .ok (.goto (-49), 3) := by decide +kernel
theorem dX6_plan_81 : decode cX6_plan 81 = .ok (.aload_n 0, 1) := by decide +kernel
theorem dX6_plan_82 : decode cX6_plan 82 = .ok (.getfield 61, 3) := by decide +kernel
theorem dX6_plan_85 : decode cX6_plan 85 = .ok (.iconst 0, 1) := by decide +kernel
theorem dX6_plan_86 : decode cX6_plan 86 = .ok (.iconst 1, 1) := by decide +kernel
theorem dX6_plan_87 : decode cX6_plan 87 = .ok (.invokevirtual 197, 3) := by decide +kernel
theorem dX6_plan_90 : decode cX6_plan 90 = .ok (.aload_n 0, 1) := by decide +kernel
theorem dX6_plan_91 : decode cX6_plan 91 = .ok (.invokevirtual 222, 3) := by decide +kernel
theorem dX6_plan_94 : decode cX6_plan 94 = .ok (.aload_n 0, 1) := by decide +kernel
theorem dX6_plan_95 : decode cX6_plan 95 = .ok (.iload_n 1, 1) := by decide +kernel
theorem dX6_plan_96 : decode cX6_plan 96 = .ok (.iload_n 2, 1) := by decide +kernel
theorem dX6_plan_97 : decode cX6_plan 97 = .ok (.invokevirtual 225, 3) := by decide +kernel
theorem dX6_plan_100 : decode cX6_plan 100 = .ok (.iload_n 3, 1) := by decide +kernel
theorem dX6_plan_101 : decode cX6_plan 101 = .ok (.ifCond .eq 13, 3) := by decide +kernel
theorem dX6_plan_104 : decode cX6_plan 104 = .ok (.aload_n 0, 1) := by decide +kernel
theorem dX6_plan_105 : decode cX6_plan 105 = .ok (.getfield 61, 3) := by decide +kernel
theorem dX6_plan_108 : decode cX6_plan 108 = .ok (.getfield 203, 3) := by decide +kernel
theorem dX6_plan_111 : decode cX6_plan 111 = .ok (.goto 17, 3) := by decide +kernel
theorem dX6_plan_114 : decode cX6_plan 114 = .ok (.aload_n 0, 1) := by decide +kernel
theorem dX6_plan_115 : decode cX6_plan 115 = .ok (.iload_n 1, 1) := by decide +kernel
theorem dX6_plan_116 : decode cX6_plan 116 = .ok (.iload_n 2, 1) := by decide +kernel
theorem dX6_plan_117 : decode cX6_plan 117 = .ok (.invokevirtual 194, 3) := by decide +kernel
theorem dX6_plan_120 : decode cX6_plan 120 = .ok (.aload_n 0, 1) := by decide +kernel
theorem dX6_plan_121 : decode cX6_plan 121 = .ok (.getfield 61, 3) := by decide +kernel
theorem dX6_plan_124 : decode cX6_plan 124 = .ok (.getfield 228, 3) := by decide +kernel
theorem dX6_plan_127 : decode cX6_plan 127 = .ok (.iadd, 1) := by decide +kernel
theorem dX6_plan_128 : decode cX6_plan 128 = .ok (.ireturn, 1) := by decide +kernel
theorem dX6_holds_0 : decode cX6_holds 0 = .ok (.aload_n 0, 1) := by decide +kernel
theorem dX6_holds_1 : decode cX6_holds 1 = .ok (.getfield 19, 3) := by decide +kernel
theorem dX6_holds_4 : decode cX6_holds 4 = .ok (.iload_n 1, 1) := by decide +kernel
theorem dX6_holds_5 : decode cX6_holds 5 = .ok (.invokevirtual 136, 3) := by decide +kernel
theorem dX6_holds_8 : decode cX6_holds 8 = .ok (.ifCond .ne 5, 3) := by decide +kernel
theorem dX6_holds_11 : decode cX6_holds 11 = .ok (.iconst (-1), 1) := by decide +kernel
theorem dX6_holds_12 : decode cX6_holds 12 = .ok (.ireturn, 1) := by decide +kernel
theorem dX6_holds_13 : decode cX6_holds 13 = .ok (.iconst 0, 1) := by decide +kernel
theorem dX6_holds_14 : decode cX6_holds 14 = .ok (.istore_n 3, 1) := by decide +kernel
theorem dX6_holds_15 : decode cX6_holds 15 = .ok (.iconst 0, 1) := by decide +kernel
theorem dX6_holds_16 : decode cX6_holds 16 = .ok (.istore 4, 2) := by decide +kernel
theorem dX6_holds_18 : decode cX6_holds 18 = .ok (.iconst 1, 1) := by decide +kernel
theorem dX6_holds_19 : decode cX6_holds 19 = .ok (.istore 5, 2) := by decide +kernel
theorem dX6_holds_21 : decode cX6_holds 21 = .ok (.iload 5, 2) := by decide +kernel
theorem dX6_holds_23 : decode cX6_holds 23 = .ok (.bipush 32, 2) := by decide +kernel
theorem dX6_holds_25 : decode cX6_holds 25 = .ok (.if_icmp .ge 95, 3) := by decide +kernel
theorem dX6_holds_28 : decode cX6_holds 28 = .ok (.iload 5, 2) := by decide +kernel
theorem dX6_holds_30 : decode cX6_holds 30 = .ok (.iconst 1, 1) := by decide +kernel
theorem dX6_holds_31 : decode cX6_holds 31 = .ok (.aload_n 0, 1) := by decide +kernel
theorem dX6_holds_32 : decode cX6_holds 32 = .ok (.getfield 19, 3) := by decide +kernel
theorem dX6_holds_35 : decode cX6_holds 35 = .ok (.getfield 101, 3) := by decide +kernel
theorem dX6_holds_38 : decode cX6_holds 38 = .ok (.ishl, 1) := by decide +kernel
theorem dX6_holds_39 : decode cX6_holds 39 = .ok (.if_icmp .ge 81, 3) := by decide +kernel
theorem dX6_holds_42 : decode cX6_holds 42 = .ok (.aload_n 0, 1) := by decide +kernel
theorem dX6_holds_43 : decode cX6_holds 43 = .ok (.getfield 29, 3) := by decide +kernel
theorem dX6_holds_46 : decode cX6_holds 46 = .ok (.aload_n 0, 1) := by decide +kernel
theorem dX6_holds_47 : decode cX6_holds 47 = .ok (.getfield 19, 3) := by decide +kernel
theorem dX6_holds_50 : decode cX6_holds 50 = .ok (.iload_n 1, 1) := by decide +kernel
theorem dX6_holds_51 : decode cX6_holds 51 = .ok (.iload 5, 2) := by decide +kernel
theorem dX6_holds_53 : decode cX6_holds 53 = .ok (.invokevirtual 231, 3) := by decide +kernel
theorem dX6_holds_56 : decode cX6_holds 56 = .ok (.istore 6, 2) := by decide +kernel
theorem dX6_holds_58 : decode cX6_holds 58 = .ok (.iload 5, 2) := by decide +kernel
theorem dX6_holds_60 : decode cX6_holds 60 = .ok (.invokestatic 164, 3) := by decide +kernel
theorem dX6_holds_63 : decode cX6_holds 63 = .ok (.iload 4, 2) := by decide +kernel
theorem dX6_holds_65 : decode cX6_holds 65 = .ok (.invokestatic 164, 3) := by decide +kernel
theorem dX6_holds_68 : decode cX6_holds 68 = .ok (.if_icmp .ge 7, 3) := by decide +kernel
theorem dX6_holds_71 : decode cX6_holds 71 = .ok (.iconst 1, 1) := by decide +kernel
theorem dX6_holds_72 : decode cX6_holds 72 = .ok (.goto 4, 3) := by decide +kernel
theorem dX6_holds_75 : decode cX6_holds 75 = .ok (.iconst 0, 1) := by decide +kernel
theorem dX6_holds_76 : decode cX6_holds 76 = .ok (.istore 7, 2) := by decide +kernel
theorem dX6_holds_78 : decode cX6_holds 78 = .ok (.aload_n 0, 1) := by decide +kernel
theorem dX6_holds_79 : decode cX6_holds 79 = .ok (.getfield 19, 3) := by decide +kernel
theorem dX6_holds_82 : decode cX6_holds 82 = .ok (.iload 5, 2) := by decide +kernel
theorem dX6_holds_84 : decode cX6_holds 84 = .ok (.invokevirtual 235, 3) := by decide +kernel
theorem dX6_holds_87 : decode cX6_holds 87 = .ok (.ifCond .eq 27, 3) := by decide +kernel
theorem dX6_holds_90 : decode cX6_holds 90 = .ok (.iload 6, 2) := by decide +kernel
theorem dX6_holds_92 : decode cX6_holds 92 = .ok (.iload_n 3, 1) := by decide +kernel
theorem dX6_holds_93 : decode cX6_holds 93 = .ok (.if_icmp .gt 14, 3) := by decide +kernel
theorem dX6_holds_96 : decode cX6_holds 96 = .ok (.iload 6, 2) := by decide +kernel
theorem dX6_holds_98 : decode cX6_holds 98 = .ok (.iload_n 3, 1) := by decide +kernel
theorem dX6_holds_99 : decode cX6_holds 99 = .ok (.if_icmp .ne 15, 3) := by decide +kernel
theorem dX6_holds_102 : decode cX6_holds 102 = .ok (.iload 7, 2) := by decide +kernel
theorem dX6_holds_104 : decode cX6_holds 104 = .ok (.ifCond .eq 10, 3) := by decide +kernel
theorem dX6_holds_107 : decode cX6_holds 107 = .ok (.iload 6, 2) := by decide +kernel
theorem dX6_holds_109 : decode cX6_holds 109 = .ok (.istore_n 3, 1) := by decide +kernel
theorem dX6_holds_110 : decode cX6_holds 110 = .ok (.iload 5, 2) := by decide +kernel
theorem dX6_holds_112 : decode cX6_holds 112 = .ok (.istore 4, 2) := by decide +kernel
theorem dX6_holds_114 : decode cX6_holds 114 = .ok (.iinc 5 1, 3) := by decide +kernel
theorem dX6_holds_117 : decode cX6_holds 117 = .ok (.goto (-96), 3) := by decide +kernel
theorem dX6_holds_120 : decode cX6_holds 120 = .ok (.iload_n 2, 1) := by decide +kernel
theorem dX6_holds_121 : decode cX6_holds 121 = .ok (.ifCond .eq 8, 3) := by decide +kernel
theorem dX6_holds_124 : decode cX6_holds 124 = .ok (.iload 4, 2) := by decide +kernel
theorem dX6_holds_126 : decode cX6_holds 126 = .ok (.goto 4, 3) := by decide +kernel
theorem dX6_holds_129 : decode cX6_holds 129 = .ok (.iload_n 3, 1) := by decide +kernel
theorem dX6_holds_130 : decode cX6_holds 130 = .ok (.ireturn, 1) := by decide +kernel
theorem dX6_judge_0 : decode cX6_judge 0 = .ok (.iload_n 1, 1) := by decide +kernel
theorem dX6_judge_1 : decode cX6_judge 1 = .ok (.iconst 1, 1) := by decide +kernel
theorem dX6_judge_2 : decode cX6_judge 2 = .ok (.iconst 4, 1) := by decide +kernel
theorem dX6_judge_3 : decode cX6_judge 3 = .ok (.invokestatic 78, 3) := by decide +kernel
theorem dX6_judge_6 : decode cX6_judge 6 = .ok (.ifCond .ne 9, 3) := by decide +kernel
theorem dX6_judge_9 : decode cX6_judge 9 = .ok (.lload_n 2, 1) := by decide +kernel
theorem dX6_judge_10 : decode cX6_judge 10 = .ok (.lconst 0, 1) := by decide +kernel
theorem dX6_judge_11 : decode cX6_judge 11 = .ok (.lcmp, 1) := by decide +kernel
theorem dX6_judge_12 : decode cX6_judge 12 = .ok (.ifCond .ge 6, 3) := by decide +kernel
theorem dX6_judge_15 : decode cX6_judge 15 = .ok (.bipush (-2), 2) := by decide +kernel
theorem dX6_judge_17 : decode cX6_judge 17 = .ok (.ireturn, 1) := by decide +kernel
theorem dX6_judge_18 : decode cX6_judge 18 = .ok (.lload_n 2, 1) := by decide +kernel
theorem dX6_judge_19 : decode cX6_judge 19 = .ok (.lstore 4, 2) := by decide +kernel
theorem dX6_judge_21 : decode cX6_judge 21 = .ok (.iload_n 1, 1) := by decide +kernel
theorem dX6_judge_22 : decode cX6_judge 22 = .ok (.iconst 1, 1) := by decide +kernel
theorem dX6_judge_23 : decode cX6_judge 23 = .ok (.isub, 1) := by decide +kernel
theorem dX6_judge_24 : decode cX6_judge 24 = .ok (.istore 6, 2) := by decide +kernel
theorem dX6_judge_26 : decode cX6_judge 26 = .ok (.iload 6, 2) := by decide +kernel
theorem dX6_judge_28 : decode cX6_judge 28 = .ok (.ifCond .lt 41, 3) := by decide +kernel
theorem dX6_judge_31 : decode cX6_judge 31 = .ok (.iload 6, 2) := by decide +kernel
theorem dX6_judge_33 : decode cX6_judge 33 = .ok (.aload_n 0, 1) := by decide +kernel
theorem dX6_judge_34 : decode cX6_judge 34 = .ok (.getfield 69, 3) := by decide +kernel
theorem dX6_judge_37 : decode cX6_judge 37 = .ok (.arraylength, 1) := by decide +kernel
theorem dX6_judge_38 : decode cX6_judge 38 = .ok (.if_icmp .ge 31, 3) := by decide +kernel
theorem dX6_judge_41 : decode cX6_judge 41 = .ok (.aload_n 0, 1) := by decide +kernel
theorem dX6_judge_42 : decode cX6_judge 42 = .ok (.getfield 69, 3) := by decide +kernel
theorem dX6_judge_45 : decode cX6_judge 45 = .ok (.iload 6, 2) := by decide +kernel
theorem dX6_judge_47 : decode cX6_judge 47 = .ok (.lload 4, 2) := by decide +kernel
theorem dX6_judge_49 : decode cX6_judge 49 = .ok (.ldc2_w 238, 3) := by decide +kernel
theorem dX6_judge_52 : decode cX6_judge 52 = .ok (.lrem, 1) := by decide +kernel
theorem dX6_judge_53 : decode cX6_judge 53 = .ok (.l2i, 1) := by decide +kernel
theorem dX6_judge_54 : decode cX6_judge 54 = .ok (.iastore, 1) := by decide +kernel
theorem dX6_judge_55 : decode cX6_judge 55 = .ok (.lload 4, 2) := by decide +kernel
theorem dX6_judge_57 : decode cX6_judge 57 = .ok (.ldc2_w 238, 3) := by decide +kernel
theorem dX6_judge_60 : decode cX6_judge 60 = .ok (.ldiv, 1) := by decide +kernel
theorem dX6_judge_61 : decode cX6_judge 61 = .ok (.lstore 4, 2) := by decide +kernel
theorem dX6_judge_63 : decode cX6_judge 63 = .ok (.iinc 6 (-1), 3) := by decide +kernel
theorem dX6_judge_66 : decode cX6_judge 66 = .ok (.goto (-40), 3) := by decide +kernel
theorem dX6_judge_69 : decode cX6_judge 69 = .ok (.lload 4, 2) := by decide +kernel
theorem dX6_judge_71 : decode cX6_judge 71 = .ok (.lconst 0, 1) := by decide +kernel
theorem dX6_judge_72 : decode cX6_judge 72 = .ok (.lcmp, 1) := by decide +kernel
theorem dX6_judge_73 : decode cX6_judge 73 = .ok (.ifCond .eq 6, 3) := by decide +kernel
theorem dX6_judge_76 : decode cX6_judge 76 = .ok (.bipush (-2), 2) := by decide +kernel
theorem dX6_judge_78 : decode cX6_judge 78 = .ok (.ireturn, 1) := by decide +kernel
theorem dX6_judge_79 : decode cX6_judge 79 = .ok (.aload_n 0, 1) := by decide +kernel
theorem dX6_judge_80 : decode cX6_judge 80 = .ok (.getfield 33, 3) := by decide +kernel
theorem dX6_judge_83 : decode cX6_judge 83 = .ok (.aload_n 0, 1) := by decide +kernel
theorem dX6_judge_84 : decode cX6_judge 84 = .ok (.getfield 29, 3) := by decide +kernel
theorem dX6_judge_87 : decode cX6_judge 87 = .ok (.invokevirtual 240, 3) := by decide +kernel
theorem dX6_judge_90 : decode cX6_judge 90 = .ok (.iconst 0, 1) := by decide +kernel
theorem dX6_judge_91 : decode cX6_judge 91 = .ok (.istore 6, 2) := by decide +kernel
theorem dX6_judge_93 : decode cX6_judge 93 = .ok (.iload 6, 2) := by decide +kernel
theorem dX6_judge_95 : decode cX6_judge 95 = .ok (.iload_n 1, 1) := by decide +kernel
theorem dX6_judge_96 : decode cX6_judge 96 = .ok (.if_icmp .ge 65, 3) := by decide +kernel
theorem dX6_judge_99 : decode cX6_judge 99 = .ok (.iload 6, 2) := by decide +kernel
theorem dX6_judge_101 : decode cX6_judge 101 = .ok (.aload_n 0, 1) := by decide +kernel
theorem dX6_judge_102 : decode cX6_judge 102 = .ok (.getfield 69, 3) := by decide +kernel
theorem dX6_judge_105 : decode cX6_judge 105 = .ok (.arraylength, 1) := by decide +kernel
theorem dX6_judge_106 : decode cX6_judge 106 = .ok (.if_icmp .ge 55, 3) := by decide +kernel
theorem dX6_judge_109 : decode cX6_judge 109 = .ok (.aload_n 0, 1) := by decide +kernel
theorem dX6_judge_110 : decode cX6_judge 110 = .ok (.getfield 33, 3) := by decide +kernel
theorem dX6_judge_113 : decode cX6_judge 113 = .ok (.aload_n 0, 1) := by decide +kernel
theorem dX6_judge_114 : decode cX6_judge 114 = .ok (.getfield 19, 3) := by decide +kernel
theorem dX6_judge_117 : decode cX6_judge 117 = .ok (.invokevirtual 243, 3) := by decide +kernel
theorem dX6_judge_120 : decode cX6_judge 120 = .ok (.istore 7, 2) := by decide +kernel
theorem dX6_judge_122 : decode cX6_judge 122 = .ok (.aload_n 0, 1) := by decide +kernel
theorem dX6_judge_123 : decode cX6_judge 123 = .ok (.aload_n 0, 1) := by decide +kernel
theorem dX6_judge_124 : decode cX6_judge 124 = .ok (.getfield 69, 3) := by decide +kernel
theorem dX6_judge_127 : decode cX6_judge 127 = .ok (.iload 6, 2) := by decide +kernel
theorem dX6_judge_129 : decode cX6_judge 129 = .ok (.iaload, 1) := by decide +kernel
theorem dX6_judge_130 : decode cX6_judge 130 = .ok (.invokevirtual 246, 3) := by decide +kernel
theorem dX6_judge_133 : decode cX6_judge 133 = .ok (.ifCond .eq 19, 3) := by decide +kernel
theorem dX6_judge_136 : decode cX6_judge 136 = .ok (.aload_n 0, 1) := by decide +kernel
theorem dX6_judge_137 : decode cX6_judge 137 = .ok (.getfield 33, 3) := by decide +kernel
theorem dX6_judge_140 : decode cX6_judge 140 = .ok (.aload_n 0, 1) := by decide +kernel
theorem dX6_judge_141 : decode cX6_judge 141 = .ok (.getfield 19, 3) := by decide +kernel
theorem dX6_judge_144 : decode cX6_judge 144 = .ok (.invokevirtual 243, 3) := by decide +kernel
theorem dX6_judge_147 : decode cX6_judge 147 = .ok (.iload 7, 2) := by decide +kernel
theorem dX6_judge_149 : decode cX6_judge 149 = .ok (.if_icmp .ge 6, 3) := by decide +kernel
theorem dX6_judge_152 : decode cX6_judge 152 = .ok (.iload 6, 2) := by decide +kernel
theorem dX6_judge_154 : decode cX6_judge 154 = .ok (.ireturn, 1) := by decide +kernel
theorem dX6_judge_155 : decode cX6_judge 155 = .ok (.iinc 6 1, 3) := by decide +kernel
theorem dX6_judge_158 : decode cX6_judge 158 = .ok (.goto (-65), 3) := by decide +kernel
theorem dX6_judge_161 : decode cX6_judge 161 = .ok (.bipush (-9), 2) := by decide +kernel
theorem dX6_judge_163 : decode cX6_judge 163 = .ok (.ireturn, 1) := by decide +kernel
theorem dX6_hear_0 : decode cX6_hear 0 = .ok (.aload_n 0, 1) := by decide +kernel
theorem dX6_hear_1 : decode cX6_hear 1 = .ok (.getfield 19, 3) := by decide +kernel
theorem dX6_hear_4 : decode cX6_hear 4 = .ok (.iload_n 1, 1) := by decide +kernel
theorem dX6_hear_5 : decode cX6_hear 5 = .ok (.invokevirtual 107, 3) := by decide +kernel
theorem dX6_hear_8 : decode cX6_hear 8 = .ok (.ifCond .ne 5, 3) := by decide +kernel
theorem dX6_hear_11 : decode cX6_hear 11 = .ok (.iconst (-1), 1) := by decide +kernel
theorem dX6_hear_12 : decode cX6_hear 12 = .ok (.ireturn, 1) := by decide +kernel
theorem dX6_hear_13 : decode cX6_hear 13 = .ok (.iload_n 2, 1) := by decide +kernel
theorem dX6_hear_14 : decode cX6_hear 14 = .ok (.invokestatic 153, 3) := by decide +kernel
theorem dX6_hear_17 : decode cX6_hear 17 = .ok (.ifCond .eq 13, 3) := by decide +kernel
theorem dX6_hear_20 : decode cX6_hear 20 = .ok (.iload_n 3, 1) := by decide +kernel
theorem dX6_hear_21 : decode cX6_hear 21 = .ok (.iconst 0, 1) := by decide +kernel
theorem dX6_hear_22 : decode cX6_hear 22 = .ok (.bipush 8, 2) := by decide +kernel
theorem dX6_hear_24 : decode cX6_hear 24 = .ok (.invokestatic 78, 3) := by decide +kernel
theorem dX6_hear_27 : decode cX6_hear 27 = .ok (.ifCond .eq 6, 3) := by decide +kernel
theorem dX6_hear_30 : decode cX6_hear 30 = .ok (.bipush (-2), 2) := by decide +kernel
theorem dX6_hear_32 : decode cX6_hear 32 = .ok (.ireturn, 1) := by decide +kernel
theorem dX6_hear_33 : decode cX6_hear 33 = .ok (.aload_n 0, 1) := by decide +kernel
theorem dX6_hear_34 : decode cX6_hear 34 = .ok (.getfield 46, 3) := by decide +kernel
theorem dX6_hear_37 : decode cX6_hear 37 = .ok (.iload_n 1, 1) := by decide +kernel
theorem dX6_hear_38 : decode cX6_hear 38 = .ok (.iload_n 2, 1) := by decide +kernel
theorem dX6_hear_39 : decode cX6_hear 39 = .ok (.iload_n 3, 1) := by decide +kernel
theorem dX6_hear_40 : decode cX6_hear 40 = .ok (.iload 4, 2) := by decide +kernel
theorem dX6_hear_42 : decode cX6_hear 42 = .ok (.invokevirtual 249, 3) := by decide +kernel
theorem dX6_hear_45 : decode cX6_hear 45 = .ok (.ireturn, 1) := by decide +kernel
theorem dX6_unhear_0 : decode cX6_unhear 0 = .ok (.aload_n 0, 1) := by decide +kernel
theorem dX6_unhear_1 : decode cX6_unhear 1 = .ok (.getfield 46, 3) := by decide +kernel
theorem dX6_unhear_4 : decode cX6_unhear 4 = .ok (.getfield 252, 3) := by decide +kernel
theorem dX6_unhear_7 : decode cX6_unhear 7 = .ok (.istore_n 1, 1) := by decide +kernel
theorem dX6_unhear_8 : decode cX6_unhear 8 = .ok (.aload_n 0, 1) := by decide +kernel
theorem dX6_unhear_9 : decode cX6_unhear 9 = .ok (.getfield 46, 3) := by decide +kernel
theorem dX6_unhear_12 : decode cX6_unhear 12 = .ok (.iconst 0, 1) := by decide +kernel
theorem dX6_unhear_13 : decode cX6_unhear 13 = .ok (.putfield 252, 3) := by decide +kernel
theorem dX6_unhear_16 : decode cX6_unhear 16 = .ok (.iload_n 1, 1) := by decide +kernel
theorem dX6_unhear_17 : decode cX6_unhear 17 = .ok (.ireturn, 1) := by decide +kernel
theorem dX6_where_0 : decode cX6_where 0 = .ok (.aload_n 0, 1) := by decide +kernel
theorem dX6_where_1 : decode cX6_where 1 = .ok (.getfield 19, 3) := by decide +kernel
theorem dX6_where_4 : decode cX6_where 4 = .ok (.iload_n 1, 1) := by decide +kernel
theorem dX6_where_5 : decode cX6_where 5 = .ok (.invokevirtual 107, 3) := by decide +kernel
theorem dX6_where_8 : decode cX6_where 8 = .ok (.ifCond .ne 5, 3) := by decide +kernel
theorem dX6_where_11 : decode cX6_where 11 = .ok (.iconst (-1), 1) := by decide +kernel
theorem dX6_where_12 : decode cX6_where 12 = .ok (.ireturn, 1) := by decide +kernel
theorem dX6_where_13 : decode cX6_where 13 = .ok (.iload_n 2, 1) := by decide +kernel
theorem dX6_where_14 : decode cX6_where 14 = .ok (.iconst 0, 1) := by decide +kernel
theorem dX6_where_15 : decode cX6_where 15 = .ok (.iconst 2, 1) := by decide +kernel
theorem dX6_where_16 : decode cX6_where 16 = .ok (.invokestatic 78, 3) := by decide +kernel
theorem dX6_where_19 : decode cX6_where 19 = .ok (.ifCond .eq 6, 3) := by decide +kernel
theorem dX6_where_22 : decode cX6_where 22 = .ok (.bipush (-2), 2) := by decide +kernel
theorem dX6_where_24 : decode cX6_where 24 = .ok (.ireturn, 1) := by decide +kernel
theorem dX6_where_25 : decode cX6_where 25 = .ok (.iconst 0, 1) := by decide +kernel
theorem dX6_where_26 : decode cX6_where 26 = .ok (.istore_n 3, 1) := by decide +kernel
theorem dX6_where_27 : decode cX6_where 27 = .ok (.bipush 63, 2) := by decide +kernel
theorem dX6_where_29 : decode cX6_where 29 = .ok (.istore 4, 2) := by decide +kernel
theorem dX6_where_31 : decode cX6_where 31 = .ok (.iconst 0, 1) := by decide +kernel
theorem dX6_where_32 : decode cX6_where 32 = .ok (.istore 5, 2) := by decide +kernel
theorem dX6_where_34 : decode cX6_where 34 = .ok (.iconst 0, 1) := by decide +kernel
theorem dX6_where_35 : decode cX6_where 35 = .ok (.istore 6, 2) := by decide +kernel
theorem dX6_where_37 : decode cX6_where 37 = .ok (.iload 6, 2) := by decide +kernel
theorem dX6_where_39 : decode cX6_where 39 = .ok (.bipush 63, 2) := by decide +kernel
theorem dX6_where_41 : decode cX6_where 41 = .ok (.if_icmp .gt 50, 3) := by decide +kernel
theorem dX6_where_44 : decode cX6_where 44 = .ok (.iload 6, 2) := by decide +kernel
theorem dX6_where_46 : decode cX6_where 46 = .ok (.aload_n 0, 1) := by decide +kernel
theorem dX6_where_47 : decode cX6_where 47 = .ok (.getfield 29, 3) := by decide +kernel
theorem dX6_where_50 : decode cX6_where 50 = .ok (.iload_n 1, 1) := by decide +kernel
theorem dX6_where_51 : decode cX6_where 51 = .ok (.invokevirtual 123, 3) := by decide +kernel
theorem dX6_where_54 : decode cX6_where 54 = .ok (.iand, 1) := by decide +kernel
theorem dX6_where_55 : decode cX6_where 55 = .ok (.ifCond .ne 30, 3) := by decide +kernel
theorem dX6_where_58 : decode cX6_where 58 = .ok (.aload_n 0, 1) := by decide +kernel
theorem dX6_where_59 : decode cX6_where 59 = .ok (.iload_n 1, 1) := by decide +kernel
theorem dX6_where_60 : decode cX6_where 60 = .ok (.iload 6, 2) := by decide +kernel
theorem dX6_where_62 : decode cX6_where 62 = .ok (.invokevirtual 253, 3) := by decide +kernel
theorem dX6_where_65 : decode cX6_where 65 = .ok (.ifCond .eq 20, 3) := by decide +kernel
theorem dX6_where_68 : decode cX6_where 68 = .ok (.iinc 3 1, 3) := by decide +kernel
theorem dX6_where_71 : decode cX6_where 71 = .ok (.iload 4, 2) := by decide +kernel
theorem dX6_where_73 : decode cX6_where 73 = .ok (.iload 6, 2) := by decide +kernel
theorem dX6_where_75 : decode cX6_where 75 = .ok (.iand, 1) := by decide +kernel
theorem dX6_where_76 : decode cX6_where 76 = .ok (.istore 4, 2) := by decide +kernel
theorem dX6_where_78 : decode cX6_where 78 = .ok (.iload 5, 2) := by decide +kernel
theorem dX6_where_80 : decode cX6_where 80 = .ok (.iload 6, 2) := by decide +kernel
theorem dX6_where_82 : decode cX6_where 82 = .ok (.ior, 1) := by decide +kernel
theorem dX6_where_83 : decode cX6_where 83 = .ok (.istore 5, 2) := by decide +kernel
theorem dX6_where_85 : decode cX6_where 85 = .ok (.iinc 6 1, 3) := by decide +kernel
theorem dX6_where_88 : decode cX6_where 88 = .ok (.goto (-51), 3) := by decide +kernel
theorem dX6_where_91 : decode cX6_where 91 = .ok (.iload_n 2, 1) := by decide +kernel
theorem dX6_where_92 : decode cX6_where 92 = .ok (.ifCond .ne 5, 3) := by decide +kernel
theorem dX6_where_95 : decode cX6_where 95 = .ok (.iload_n 3, 1) := by decide +kernel
theorem dX6_where_96 : decode cX6_where 96 = .ok (.ireturn, 1) := by decide +kernel
theorem dX6_where_97 : decode cX6_where 97 = .ok (.iload_n 3, 1) := by decide +kernel
theorem dX6_where_98 : decode cX6_where 98 = .ok (.ifCond .ne 6, 3) := by decide +kernel
theorem dX6_where_101 : decode cX6_where 101 = .ok (.bipush (-9), 2) := by decide +kernel
theorem dX6_where_103 : decode cX6_where 103 = .ok (.ireturn, 1) := by decide +kernel
theorem dX6_where_104 : decode cX6_where 104 = .ok (.iload_n 2, 1) := by decide +kernel
theorem dX6_where_105 : decode cX6_where 105 = .ok (.iconst 1, 1) := by decide +kernel
theorem dX6_where_106 : decode cX6_where 106 = .ok (.if_icmp .ne 8, 3) := by decide +kernel
theorem dX6_where_109 : decode cX6_where 109 = .ok (.iload 4, 2) := by decide +kernel
theorem dX6_where_111 : decode cX6_where 111 = .ok (.goto 10, 3) := by decide +kernel
theorem dX6_where_114 : decode cX6_where 114 = .ok (.bipush 63, 2) := by decide +kernel
theorem dX6_where_116 : decode cX6_where 116 = .ok (.iload 5, 2) := by decide +kernel
theorem dX6_where_118 : decode cX6_where 118 = .ok (.iconst (-1), 1) := by decide +kernel
theorem dX6_where_119 : decode cX6_where 119 = .ok (.ixor, 1) := by decide +kernel
theorem dX6_where_120 : decode cX6_where 120 = .ok (.iand, 1) := by decide +kernel
theorem dX6_where_121 : decode cX6_where 121 = .ok (.ireturn, 1) := by decide +kernel
theorem dX6_share_0 : decode cX6_share 0 = .ok (.aload_n 0, 1) := by decide +kernel
theorem dX6_share_1 : decode cX6_share 1 = .ok (.getfield 19, 3) := by decide +kernel
theorem dX6_share_4 : decode cX6_share 4 = .ok (.iload_n 2, 1) := by decide +kernel
theorem dX6_share_5 : decode cX6_share 5 = .ok (.invokevirtual 107, 3) := by decide +kernel
theorem dX6_share_8 : decode cX6_share 8 = .ok (.ifCond .ne 5, 3) := by decide +kernel
theorem dX6_share_11 : decode cX6_share 11 = .ok (.iconst (-1), 1) := by decide +kernel
theorem dX6_share_12 : decode cX6_share 12 = .ok (.ireturn, 1) := by decide +kernel
theorem dX6_share_13 : decode cX6_share 13 = .ok (.iload_n 1, 1) := by decide +kernel
theorem dX6_share_14 : decode cX6_share 14 = .ok (.invokestatic 153, 3) := by decide +kernel
theorem dX6_share_17 : decode cX6_share 17 = .ok (.ifCond .eq 13, 3) := by decide +kernel
theorem dX6_share_20 : decode cX6_share 20 = .ok (.iload_n 3, 1) := by decide +kernel
theorem dX6_share_21 : decode cX6_share 21 = .ok (.iconst 0, 1) := by decide +kernel
theorem dX6_share_22 : decode cX6_share 22 = .ok (.bipush 8, 2) := by decide +kernel
theorem dX6_share_24 : decode cX6_share 24 = .ok (.invokestatic 78, 3) := by decide +kernel
theorem dX6_share_27 : decode cX6_share 27 = .ok (.ifCond .eq 6, 3) := by decide +kernel
theorem dX6_share_30 : decode cX6_share 30 = .ok (.bipush (-2), 2) := by decide +kernel
theorem dX6_share_32 : decode cX6_share 32 = .ok (.ireturn, 1) := by decide +kernel
theorem dX6_share_33 : decode cX6_share 33 = .ok (.aload_n 0, 1) := by decide +kernel
theorem dX6_share_34 : decode cX6_share 34 = .ok (.getfield 29, 3) := by decide +kernel
theorem dX6_share_37 : decode cX6_share 37 = .ok (.iload_n 2, 1) := by decide +kernel
theorem dX6_share_38 : decode cX6_share 38 = .ok (.invokevirtual 120, 3) := by decide +kernel
theorem dX6_share_41 : decode cX6_share 41 = .ok (.istore 5, 2) := by decide +kernel
theorem dX6_share_43 : decode cX6_share 43 = .ok (.iload 5, 2) := by decide +kernel
theorem dX6_share_45 : decode cX6_share 45 = .ok (.iload_n 1, 1) := by decide +kernel
theorem dX6_share_46 : decode cX6_share 46 = .ok (.invokestatic 209, 3) := by decide +kernel
theorem dX6_share_49 : decode cX6_share 49 = .ok (.ifCond .ne 11, 3) := by decide +kernel
theorem dX6_share_52 : decode cX6_share 52 = .ok (.iconst 0, 1) := by decide +kernel
theorem dX6_share_53 : decode cX6_share 53 = .ok (.iconst 1, 1) := by decide +kernel
theorem dX6_share_54 : decode cX6_share 54 = .ok (.iload 4, 2) := by decide +kernel
theorem dX6_share_56 : decode cX6_share 56 = .ok (.invokestatic 256, 3) := by decide +kernel
theorem dX6_share_59 : decode cX6_share 59 = .ok (.ireturn, 1) := by decide +kernel
theorem dX6_share_60 : decode cX6_share 60 = .ok (.iload 5, 2) := by decide +kernel
theorem dX6_share_62 : decode cX6_share 62 = .ok (.iconst 1, 1) := by decide +kernel
theorem dX6_share_63 : decode cX6_share 63 = .ok (.iload_n 1, 1) := by decide +kernel
theorem dX6_share_64 : decode cX6_share 64 = .ok (.ishl, 1) := by decide +kernel
theorem dX6_share_65 : decode cX6_share 65 = .ok (.iconst (-1), 1) := by decide +kernel
theorem dX6_share_66 : decode cX6_share 66 = .ok (.ixor, 1) := by decide +kernel
theorem dX6_share_67 : decode cX6_share 67 = .ok (.iand, 1) := by decide +kernel
theorem dX6_share_68 : decode cX6_share 68 = .ok (.istore 6, 2) := by decide +kernel
theorem dX6_share_70 : decode cX6_share 70 = .ok (.iload 6, 2) := by decide +kernel
theorem dX6_share_72 : decode cX6_share 72 = .ok (.invokestatic 164, 3) := by decide +kernel
theorem dX6_share_75 : decode cX6_share 75 = .ok (.istore 7, 2) := by decide +kernel
theorem dX6_share_77 : decode cX6_share 77 = .ok (.iconst 0, 1) := by decide +kernel
theorem dX6_share_78 : decode cX6_share 78 = .ok (.istore 8, 2) := by decide +kernel
theorem dX6_share_80 : decode cX6_share 80 = .ok (.iconst 0, 1) := by decide +kernel
theorem dX6_share_81 : decode cX6_share 81 = .ok (.istore 9, 2) := by decide +kernel
theorem dX6_share_83 : decode cX6_share 83 = .ok (.iload 9, 2) := by decide +kernel
theorem dX6_share_85 : decode cX6_share 85 = .ok (.bipush 63, 2) := by decide +kernel
theorem dX6_share_87 : decode cX6_share 87 = .ok (.if_icmp .gt 71, 3) := by decide +kernel
theorem dX6_share_90 : decode cX6_share 90 = .ok (.iload 9, 2) := by decide +kernel
theorem dX6_share_92 : decode cX6_share 92 = .ok (.iload 6, 2) := by decide +kernel
theorem dX6_share_94 : decode cX6_share 94 = .ok (.iconst (-1), 1) := by decide +kernel
theorem dX6_share_95 : decode cX6_share 95 = .ok (.ixor, 1) := by decide +kernel
theorem dX6_share_96 : decode cX6_share 96 = .ok (.iand, 1) := by decide +kernel
theorem dX6_share_97 : decode cX6_share 97 = .ok (.ifCond .ne 55, 3) := by decide +kernel
theorem dX6_share_100 : decode cX6_share 100 = .ok (.iload 9, 2) := by decide +kernel
theorem dX6_share_102 : decode cX6_share 102 = .ok (.invokestatic 164, 3) := by decide +kernel
theorem dX6_share_105 : decode cX6_share 105 = .ok (.istore 10, 2) := by decide +kernel
theorem dX6_share_107 : decode cX6_share 107 = .ok (.aload_n 0, 1) := by decide +kernel
theorem dX6_share_108 : decode cX6_share 108 = .ok (.iload_n 2, 1) := by decide +kernel
theorem dX6_share_109 : decode cX6_share 109 = .ok (.iload 9, 2) := by decide +kernel
theorem dX6_share_111 : decode cX6_share 111 = .ok (.iconst 1, 1) := by decide +kernel
theorem dX6_share_112 : decode cX6_share 112 = .ok (.iload_n 1, 1) := by decide +kernel
theorem dX6_share_113 : decode cX6_share 113 = .ok (.ishl, 1) := by decide +kernel
theorem dX6_share_114 : decode cX6_share 114 = .ok (.ior, 1) := by decide +kernel
theorem dX6_share_115 : decode cX6_share 115 = .ok (.iload_n 3, 1) := by decide +kernel
theorem dX6_share_116 : decode cX6_share 116 = .ok (.invokevirtual 190, 3) := by decide +kernel
theorem dX6_share_119 : decode cX6_share 119 = .ok (.aload_n 0, 1) := by decide +kernel
theorem dX6_share_120 : decode cX6_share 120 = .ok (.iload_n 2, 1) := by decide +kernel
theorem dX6_share_121 : decode cX6_share 121 = .ok (.iload 9, 2) := by decide +kernel
theorem dX6_share_123 : decode cX6_share 123 = .ok (.iload_n 3, 1) := by decide +kernel
theorem dX6_share_124 : decode cX6_share 124 = .ok (.invokevirtual 190, 3) := by decide +kernel
theorem dX6_share_127 : decode cX6_share 127 = .ok (.isub, 1) := by decide +kernel
theorem dX6_share_128 : decode cX6_share 128 = .ok (.istore 11, 2) := by decide +kernel
theorem dX6_share_130 : decode cX6_share 130 = .ok (.iload 8, 2) := by decide +kernel
theorem dX6_share_132 : decode cX6_share 132 = .ok (.iload 10, 2) := by decide +kernel
theorem dX6_share_134 : decode cX6_share 134 = .ok (.invokestatic 260, 3) := by decide +kernel
theorem dX6_share_137 : decode cX6_share 137 = .ok (.iload 7, 2) := by decide +kernel
theorem dX6_share_139 : decode cX6_share 139 = .ok (.iload 10, 2) := by decide +kernel
theorem dX6_share_141 : decode cX6_share 141 = .ok (.isub, 1) := by decide +kernel
theorem dX6_share_142 : decode cX6_share 142 = .ok (.invokestatic 260, 3) := by decide +kernel
theorem dX6_share_145 : decode cX6_share 145 = .ok (.imul, 1) := by decide +kernel
theorem dX6_share_146 : decode cX6_share 146 = .ok (.iload 11, 2) := by decide +kernel
theorem dX6_share_148 : decode cX6_share 148 = .ok (.imul, 1) := by decide +kernel
theorem dX6_share_149 : decode cX6_share 149 = .ok (.iadd, 1) := by decide +kernel
theorem dX6_share_150 : decode cX6_share 150 = .ok (.istore 8, 2) := by decide +kernel
theorem dX6_share_152 : decode cX6_share 152 = .ok (.iinc 9 1, 3) := by decide +kernel
theorem dX6_share_155 : decode cX6_share 155 = .ok (.goto (-72), 3) := by decide +kernel
theorem dX6_share_158 : decode cX6_share 158 = .ok (.iload 8, 2) := by decide +kernel
theorem dX6_share_160 : decode cX6_share 160 = .ok (.iload 7, 2) := by decide +kernel
theorem dX6_share_162 : decode cX6_share 162 = .ok (.iconst 1, 1) := by decide +kernel
theorem dX6_share_163 : decode cX6_share 163 = .ok (.iadd, 1) := by decide +kernel
theorem dX6_share_164 : decode cX6_share 164 = .ok (.invokestatic 260, 3) := by decide +kernel
theorem dX6_share_167 : decode cX6_share 167 = .ok (.iload 4, 2) := by decide +kernel
theorem dX6_share_169 : decode cX6_share 169 = .ok (.invokestatic 256, 3) := by decide +kernel
theorem dX6_share_172 : decode cX6_share 172 = .ok (.ireturn, 1) := by decide +kernel
theorem dX6_rests_0 : decode cX6_rests 0 = .ok (.aload_n 0, 1) := by decide +kernel
theorem dX6_rests_1 : decode cX6_rests 1 = .ok (.getfield 19, 3) := by decide +kernel
theorem dX6_rests_4 : decode cX6_rests 4 = .ok (.iload_n 1, 1) := by decide +kernel
theorem dX6_rests_5 : decode cX6_rests 5 = .ok (.invokevirtual 136, 3) := by decide +kernel
theorem dX6_rests_8 : decode cX6_rests 8 = .ok (.ifCond .eq 14, 3) := by decide +kernel
theorem dX6_rests_11 : decode cX6_rests 11 = .ok (.aload_n 0, 1) := by decide +kernel
theorem dX6_rests_12 : decode cX6_rests 12 = .ok (.getfield 19, 3) := by decide +kernel
theorem dX6_rests_15 : decode cX6_rests 15 = .ok (.iload_n 2, 1) := by decide +kernel
theorem dX6_rests_16 : decode cX6_rests 16 = .ok (.invokevirtual 136, 3) := by decide +kernel
theorem dX6_rests_19 : decode cX6_rests 19 = .ok (.ifCond .ne 5, 3) := by decide +kernel
theorem dX6_rests_22 : decode cX6_rests 22 = .ok (.iconst (-1), 1) := by decide +kernel
theorem dX6_rests_23 : decode cX6_rests 23 = .ok (.ireturn, 1) := by decide +kernel
theorem dX6_rests_24 : decode cX6_rests 24 = .ok (.iload_n 1, 1) := by decide +kernel
theorem dX6_rests_25 : decode cX6_rests 25 = .ok (.iload_n 2, 1) := by decide +kernel
theorem dX6_rests_26 : decode cX6_rests 26 = .ok (.if_icmp .eq 23, 3) := by decide +kernel
theorem dX6_rests_29 : decode cX6_rests 29 = .ok (.iload_n 3, 1) := by decide +kernel
theorem dX6_rests_30 : decode cX6_rests 30 = .ok (.iconst 0, 1) := by decide +kernel
theorem dX6_rests_31 : decode cX6_rests 31 = .ok (.bipush 8, 2) := by decide +kernel
theorem dX6_rests_33 : decode cX6_rests 33 = .ok (.invokestatic 78, 3) := by decide +kernel
theorem dX6_rests_36 : decode cX6_rests 36 = .ok (.ifCond .ne 13, 3) := by decide +kernel
theorem dX6_rests_39 : decode cX6_rests 39 = .ok (.iload 4, 2) := by decide +kernel
theorem dX6_rests_41 : decode cX6_rests 41 = .ok (.iconst 0, 1) := by decide +kernel
theorem dX6_rests_42 : decode cX6_rests 42 = .ok (.iconst 1, 1) := by decide +kernel
theorem dX6_rests_43 : decode cX6_rests 43 = .ok (.invokestatic 78, 3) := by decide +kernel
theorem dX6_rests_46 : decode cX6_rests 46 = .ok (.ifCond .eq 6, 3) := by decide +kernel
theorem dX6_rests_49 : decode cX6_rests 49 = .ok (.bipush (-2), 2) := by decide +kernel
theorem dX6_rests_51 : decode cX6_rests 51 = .ok (.ireturn, 1) := by decide +kernel
theorem dX6_rests_52 : decode cX6_rests 52 = .ok (.aload_n 0, 1) := by decide +kernel
theorem dX6_rests_53 : decode cX6_rests 53 = .ok (.iload_n 1, 1) := by decide +kernel
theorem dX6_rests_54 : decode cX6_rests 54 = .ok (.iload_n 2, 1) := by decide +kernel
theorem dX6_rests_55 : decode cX6_rests 55 = .ok (.iload_n 3, 1) := by decide +kernel
theorem dX6_rests_56 : decode cX6_rests 56 = .ok (.invokevirtual 263, 3) := by decide +kernel
theorem dX6_rests_59 : decode cX6_rests 59 = .ok (.iconst 0, 1) := by decide +kernel
theorem dX6_rests_60 : decode cX6_rests 60 = .ok (.istore 5, 2) := by decide +kernel
theorem dX6_rests_62 : decode cX6_rests 62 = .ok (.bipush (-9), 2) := by decide +kernel
theorem dX6_rests_64 : decode cX6_rests 64 = .ok (.istore 6, 2) := by decide +kernel
theorem dX6_rests_66 : decode cX6_rests 66 = .ok (.iconst 0, 1) := by decide +kernel
theorem dX6_rests_67 : decode cX6_rests 67 = .ok (.istore 7, 2) := by decide +kernel
theorem dX6_rests_69 : decode cX6_rests 69 = .ok (.iload 7, 2) := by decide +kernel
theorem dX6_rests_71 : decode cX6_rests 71 = .ok (.bipush 6, 2) := by decide +kernel
theorem dX6_rests_73 : decode cX6_rests 73 = .ok (.if_icmp .ge 81, 3) := by decide +kernel
theorem dX6_rests_76 : decode cX6_rests 76 = .ok (.iconst 0, 1) := by decide +kernel
theorem dX6_rests_77 : decode cX6_rests 77 = .ok (.istore 8, 2) := by decide +kernel
theorem dX6_rests_79 : decode cX6_rests 79 = .ok (.iload 8, 2) := by decide +kernel
theorem dX6_rests_81 : decode cX6_rests 81 = .ok (.bipush 6, 2) := by decide +kernel
theorem dX6_rests_83 : decode cX6_rests 83 = .ok (.if_icmp .ge 65, 3) := by decide +kernel
theorem dX6_rests_86 : decode cX6_rests 86 = .ok (.aload_n 0, 1) := by decide +kernel
theorem dX6_rests_87 : decode cX6_rests 87 = .ok (.iload_n 1, 1) := by decide +kernel
theorem dX6_rests_88 : decode cX6_rests 88 = .ok (.iload 7, 2) := by decide +kernel
theorem dX6_rests_90 : decode cX6_rests 90 = .ok (.invokevirtual 266, 3) := by decide +kernel
theorem dX6_rests_93 : decode cX6_rests 93 = .ok (.ifCond .eq 49, 3) := by decide +kernel
theorem dX6_rests_96 : decode cX6_rests 96 = .ok (.aload_n 0, 1) := by decide +kernel
theorem dX6_rests_97 : decode cX6_rests 97 = .ok (.iload_n 2, 1) := by decide +kernel
theorem dX6_rests_98 : decode cX6_rests 98 = .ok (.iload 8, 2) := by decide +kernel
theorem dX6_rests_100 : decode cX6_rests 100 = .ok (.invokevirtual 266, 3) := by decide +kernel
theorem dX6_rests_103 : decode cX6_rests 103 = .ok (.ifCond .eq 39, 3) := by decide +kernel
theorem dX6_rests_106 : decode cX6_rests 106 = .ok (.aload_n 0, 1) := by decide +kernel
theorem dX6_rests_107 : decode cX6_rests 107 = .ok (.iload_n 1, 1) := by decide +kernel
theorem dX6_rests_108 : decode cX6_rests 108 = .ok (.iload 7, 2) := by decide +kernel
theorem dX6_rests_110 : decode cX6_rests 110 = .ok (.iload_n 2, 1) := by decide +kernel
theorem dX6_rests_111 : decode cX6_rests 111 = .ok (.iload 8, 2) := by decide +kernel
theorem dX6_rests_113 : decode cX6_rests 113 = .ok (.invokevirtual 269, 3) := by decide +kernel
theorem dX6_rests_116 : decode cX6_rests 116 = .ok (.ifCond .eq 26, 3) := by decide +kernel
theorem dX6_rests_119 : decode cX6_rests 119 = .ok (.iload 5, 2) := by decide +kernel
theorem dX6_rests_121 : decode cX6_rests 121 = .ok (.ifCond .ne 14, 3) := by decide +kernel
theorem dX6_rests_124 : decode cX6_rests 124 = .ok (.bipush 10, 2) := by decide +kernel
theorem dX6_rests_126 : decode cX6_rests 126 = .ok (.iload 7, 2) := by decide +kernel
theorem dX6_rests_128 : decode cX6_rests 128 = .ok (.imul, 1) := by decide +kernel
theorem dX6_rests_129 : decode cX6_rests 129 = .ok (.iload 8, 2) := by decide +kernel
theorem dX6_rests_131 : decode cX6_rests 131 = .ok (.iadd, 1) := by decide +kernel
theorem dX6_rests_132 : decode cX6_rests 132 = .ok (.goto 5, 3) := by decide +kernel
theorem dX6_rests_135 : decode cX6_rests 135 = .ok (.iload 6, 2) := by decide +kernel
theorem dX6_rests_137 : decode cX6_rests 137 = .ok (.istore 6, 2) := by decide +kernel
theorem dX6_rests_139 : decode cX6_rests 139 = .ok (.iinc 5 1, 3) := by decide +kernel
theorem dX6_rests_142 : decode cX6_rests 142 = .ok (.iinc 8 1, 3) := by decide +kernel
theorem dX6_rests_145 : decode cX6_rests 145 = .ok (.goto (-66), 3) := by decide +kernel
theorem dX6_rests_148 : decode cX6_rests 148 = .ok (.iinc 7 1, 3) := by decide +kernel
theorem dX6_rests_151 : decode cX6_rests 151 = .ok (.goto (-82), 3) := by decide +kernel
theorem dX6_rests_154 : decode cX6_rests 154 = .ok (.iload 4, 2) := by decide +kernel
theorem dX6_rests_156 : decode cX6_rests 156 = .ok (.ifCond .ne 8, 3) := by decide +kernel
theorem dX6_rests_159 : decode cX6_rests 159 = .ok (.iload 5, 2) := by decide +kernel
theorem dX6_rests_161 : decode cX6_rests 161 = .ok (.goto 5, 3) := by decide +kernel
theorem dX6_rests_164 : decode cX6_rests 164 = .ok (.iload 6, 2) := by decide +kernel
theorem dX6_rests_166 : decode cX6_rests 166 = .ok (.ireturn, 1) := by decide +kernel
theorem dX6_chance_0 : decode cX6_chance 0 = .ok (.aload_n 0, 1) := by decide +kernel
theorem dX6_chance_1 : decode cX6_chance 1 = .ok (.getfield 19, 3) := by decide +kernel
theorem dX6_chance_4 : decode cX6_chance 4 = .ok (.iload_n 1, 1) := by decide +kernel
theorem dX6_chance_5 : decode cX6_chance 5 = .ok (.invokevirtual 107, 3) := by decide +kernel
theorem dX6_chance_8 : decode cX6_chance 8 = .ok (.ifCond .ne 5, 3) := by decide +kernel
theorem dX6_chance_11 : decode cX6_chance 11 = .ok (.iconst (-1), 1) := by decide +kernel
theorem dX6_chance_12 : decode cX6_chance 12 = .ok (.ireturn, 1) := by decide +kernel
theorem dX6_chance_13 : decode cX6_chance 13 = .ok (.iload_n 2, 1) := by decide +kernel
theorem dX6_chance_14 : decode cX6_chance 14 = .ok (.iconst 0, 1) := by decide +kernel
theorem dX6_chance_15 : decode cX6_chance 15 = .ok (.bipush 20, 2) := by decide +kernel
theorem dX6_chance_17 : decode cX6_chance 17 = .ok (.invokestatic 78, 3) := by decide +kernel
theorem dX6_chance_20 : decode cX6_chance 20 = .ok (.ifCond .ne 13, 3) := by decide +kernel
theorem dX6_chance_23 : decode cX6_chance 23 = .ok (.iload_n 3, 1) := by decide +kernel
theorem dX6_chance_24 : decode cX6_chance 24 = .ok (.iconst 0, 1) := by decide +kernel
theorem dX6_chance_25 : decode cX6_chance 25 = .ok (.bipush 10, 2) := by decide +kernel
theorem dX6_chance_27 : decode cX6_chance 27 = .ok (.invokestatic 78, 3) := by decide +kernel
theorem dX6_chance_30 : decode cX6_chance 30 = .ok (.ifCond .eq 6, 3) := by decide +kernel
theorem dX6_chance_33 : decode cX6_chance 33 = .ok (.bipush (-2), 2) := by decide +kernel
theorem dX6_chance_35 : decode cX6_chance 35 = .ok (.ireturn, 1) := by decide +kernel
theorem dX6_chance_36 : decode cX6_chance 36 = .ok (.aload_n 0, 1) := by decide +kernel
theorem dX6_chance_37 : decode cX6_chance 37 = .ok (.getfield 19, 3) := by decide +kernel
theorem dX6_chance_40 : decode cX6_chance 40 = .ok (.iload_n 1, 1) := by decide +kernel
theorem dX6_chance_41 : decode cX6_chance 41 = .ok (.aload_n 0, 1) := by decide +kernel
theorem dX6_chance_42 : decode cX6_chance 42 = .ok (.getfield 29, 3) := by decide +kernel
theorem dX6_chance_45 : decode cX6_chance 45 = .ok (.getfield 129, 3) := by decide +kernel
theorem dX6_chance_48 : decode cX6_chance 48 = .ok (.invokevirtual 273, 3) := by decide +kernel
theorem dX6_chance_51 : decode cX6_chance 51 = .ok (.ifCond .eq 7, 3) := by decide +kernel
theorem dX6_chance_54 : decode cX6_chance 54 = .ok (.iconst 0, 1) := by decide +kernel
theorem dX6_chance_55 : decode cX6_chance 55 = .ok (.goto 11, 3) := by decide +kernel
theorem dX6_chance_58 : decode cX6_chance 58 = .ok (.aload_n 0, 1) := by decide +kernel
theorem dX6_chance_59 : decode cX6_chance 59 = .ok (.getfield 29, 3) := by decide +kernel
theorem dX6_chance_62 : decode cX6_chance 62 = .ok (.iload_n 1, 1) := by decide +kernel
theorem dX6_chance_63 : decode cX6_chance 63 = .ok (.invokevirtual 120, 3) := by decide +kernel
theorem dX6_chance_66 : decode cX6_chance 66 = .ok (.istore 5, 2) := by decide +kernel
theorem dX6_chance_68 : decode cX6_chance 68 = .ok (.iload 5, 2) := by decide +kernel
theorem dX6_chance_70 : decode cX6_chance 70 = .ok (.invokestatic 164, 3) := by decide +kernel
theorem dX6_chance_73 : decode cX6_chance 73 = .ok (.istore 6, 2) := by decide +kernel
theorem dX6_chance_75 : decode cX6_chance 75 = .ok (.iconst 0, 1) := by decide +kernel
theorem dX6_chance_76 : decode cX6_chance 76 = .ok (.istore 7, 2) := by decide +kernel
theorem dX6_chance_78 : decode cX6_chance 78 = .ok (.iconst 0, 1) := by decide +kernel
theorem dX6_chance_79 : decode cX6_chance 79 = .ok (.istore 8, 2) := by decide +kernel
theorem dX6_chance_81 : decode cX6_chance 81 = .ok (.iload 8, 2) := by decide +kernel
theorem dX6_chance_83 : decode cX6_chance 83 = .ok (.bipush 63, 2) := by decide +kernel
theorem dX6_chance_85 : decode cX6_chance 85 = .ok (.if_icmp .gt 61, 3) := by decide +kernel
theorem dX6_chance_88 : decode cX6_chance 88 = .ok (.iload 8, 2) := by decide +kernel
theorem dX6_chance_90 : decode cX6_chance 90 = .ok (.iload 5, 2) := by decide +kernel
theorem dX6_chance_92 : decode cX6_chance 92 = .ok (.iconst (-1), 1) := by decide +kernel
theorem dX6_chance_93 : decode cX6_chance 93 = .ok (.ixor, 1) := by decide +kernel
theorem dX6_chance_94 : decode cX6_chance 94 = .ok (.iand, 1) := by decide +kernel
theorem dX6_chance_95 : decode cX6_chance 95 = .ok (.ifCond .ne 45, 3) := by decide +kernel
theorem dX6_chance_98 : decode cX6_chance 98 = .ok (.aload_n 0, 1) := by decide +kernel
theorem dX6_chance_99 : decode cX6_chance 99 = .ok (.iload_n 1, 1) := by decide +kernel
theorem dX6_chance_100 : decode cX6_chance 100 = .ok (.iload 8, 2) := by decide +kernel
theorem dX6_chance_102 : decode cX6_chance 102 = .ok (.invokevirtual 276, 3) := by decide +kernel
theorem dX6_chance_105 : decode cX6_chance 105 = .ok (.iload_n 2, 1) := by decide +kernel
theorem dX6_chance_106 : decode cX6_chance 106 = .ok (.if_icmp .lt 34, 3) := by decide +kernel
theorem dX6_chance_109 : decode cX6_chance 109 = .ok (.iload 8, 2) := by decide +kernel
theorem dX6_chance_111 : decode cX6_chance 111 = .ok (.invokestatic 164, 3) := by decide +kernel
theorem dX6_chance_114 : decode cX6_chance 114 = .ok (.istore 9, 2) := by decide +kernel
theorem dX6_chance_116 : decode cX6_chance 116 = .ok (.iload 7, 2) := by decide +kernel
theorem dX6_chance_118 : decode cX6_chance 118 = .ok (.iload_n 3, 1) := by decide +kernel
theorem dX6_chance_119 : decode cX6_chance 119 = .ok (.iload 9, 2) := by decide +kernel
theorem dX6_chance_121 : decode cX6_chance 121 = .ok (.invokestatic 279, 3) := by decide +kernel
theorem dX6_chance_124 : decode cX6_chance 124 = .ok (.bipush 10, 2) := by decide +kernel
theorem dX6_chance_126 : decode cX6_chance 126 = .ok (.iload_n 3, 1) := by decide +kernel
