theorem dX7_saidLeft_3 : decode cX7_saidLeft 3 = .ok (.istore_n 2, 1) := by decide +kernel
theorem dX7_saidLeft_4 : decode cX7_saidLeft 4 = .ok (.iload_n 2, 1) := by decide +kernel
theorem dX7_saidLeft_5 : decode cX7_saidLeft 5 = .ok (.aload_n 0, 1) := by decide +kernel
theorem dX7_saidLeft_6 : decode cX7_saidLeft 6 = .ok (.getfield 102, 3) := by decide +kernel
theorem dX7_saidLeft_9 : decode cX7_saidLeft 9 = .ok (.if_icmp .ge 30, 3) := by decide +kernel
theorem dX7_saidLeft_12 : decode cX7_saidLeft 12 = .ok (.iload_n 1, 1) := by decide +kernel
theorem dX7_saidLeft_13 : decode cX7_saidLeft 13 = .ok (.aload_n 0, 1) := by decide +kernel
theorem dX7_saidLeft_14 : decode cX7_saidLeft 14 = .ok (.getfield 40, 3) := by decide +kernel
theorem dX7_saidLeft_17 : decode cX7_saidLeft 17 = .ok (.iload_n 2, 1) := by decide +kernel
theorem dX7_saidLeft_18 : decode cX7_saidLeft 18 = .ok (.iaload, 1) := by decide +kernel
theorem dX7_saidLeft_19 : decode cX7_saidLeft 19 = .ok (.bipush 63, 2) := by decide +kernel
theorem dX7_saidLeft_21 : decode cX7_saidLeft 21 = .ok (.if_icmp .eq 9, 3) := by decide +kernel
theorem dX7_saidLeft_24 : decode cX7_saidLeft 24 = .ok (.iconst 1, 1) := by decide +kernel
theorem dX7_saidLeft_25 : decode cX7_saidLeft 25 = .ok (.iload_n 2, 1) := by decide +kernel
theorem dX7_saidLeft_26 : decode cX7_saidLeft 26 = .ok (.ishl, 1) := by decide +kernel
theorem dX7_saidLeft_27 : decode cX7_saidLeft 27 = .ok (.goto 4, 3) := by decide +kernel
theorem dX7_saidLeft_30 : decode cX7_saidLeft 30 = .ok (.iconst 0, 1) := by decide +kernel
theorem dX7_saidLeft_31 : decode cX7_saidLeft 31 = .ok (.ior, 1) := by decide +kernel
theorem dX7_saidLeft_32 : decode cX7_saidLeft 32 = .ok (.istore_n 1, 1) := by decide +kernel
theorem dX7_saidLeft_33 : decode cX7_saidLeft 33 = .ok (.iinc 2 1, 3) := by decide +kernel
theorem dX7_saidLeft_36 : decode cX7_saidLeft 36 = .ok (.goto (-32), 3) := by decide +kernel
theorem dX7_saidLeft_39 : decode cX7_saidLeft 39 = .ok (.iload_n 1, 1) := by decide +kernel
theorem dX7_saidLeft_40 : decode cX7_saidLeft 40 = .ok (.ireturn, 1) := by decide +kernel
theorem dX7_readText_0 : decode cX7_readText 0 = .ok (.aload_n 0, 1) := by decide +kernel
theorem dX7_readText_1 : decode cX7_readText 1 = .ok (.iconst 0, 1) := by decide +kernel
theorem dX7_readText_2 : decode cX7_readText 2 = .ok (.putfield 93, 3) := by decide +kernel
theorem dX7_readText_5 : decode cX7_readText 5 = .ok (.aload_n 0, 1) := by decide +kernel
theorem dX7_readText_6 : decode cX7_readText 6 = .ok (.bipush (-9), 2) := by decide +kernel
theorem dX7_readText_8 : decode cX7_readText 8 = .ok (.putfield 90, 3) := by decide +kernel
theorem dX7_readText_11 : decode cX7_readText 11 = .ok (.aload_n 0, 1) := by decide +kernel
theorem dX7_readText_12 : decode cX7_readText 12 = .ok (.iconst 0, 1) := by decide +kernel
theorem dX7_readText_13 : decode cX7_readText 13 = .ok (.putfield 102, 3) := by decide +kernel
theorem dX7_readText_16 : decode cX7_readText 16 = .ok (.aload_n 0, 1) := by decide +kernel
theorem dX7_readText_17 : decode cX7_readText 17 = .ok (.iconst 0, 1) := by decide +kernel
theorem dX7_readText_18 : decode cX7_readText 18 = .ok (.putfield 109, 3) := by decide +kernel
theorem dX7_readText_21 : decode cX7_readText 21 = .ok (.iconst 0, 1) := by decide +kernel
theorem dX7_readText_22 : decode cX7_readText 22 = .ok (.istore_n 1, 1) := by decide +kernel
theorem dX7_readText_23 : decode cX7_readText 23 = .ok (.iload_n 1, 1) := by decide +kernel
theorem dX7_readText_24 : decode cX7_readText 24 = .ok (.iconst 5, 1) := by decide +kernel
theorem dX7_readText_25 : decode cX7_readText 25 = .ok (.if_icmp .ge 23, 3) := by decide +kernel
theorem dX7_readText_28 : decode cX7_readText 28 = .ok (.aload_n 0, 1) := by decide +kernel
theorem dX7_readText_29 : decode cX7_readText 29 = .ok (.getfield 37, 3) := by decide +kernel
theorem dX7_readText_32 : decode cX7_readText 32 = .ok (.iload_n 1, 1) := by decide +kernel
theorem dX7_readText_33 : decode cX7_readText 33 = .ok (.iconst 0, 1) := by decide +kernel
theorem dX7_readText_34 : decode cX7_readText 34 = .ok (.iastore, 1) := by decide +kernel
theorem dX7_readText_35 : decode cX7_readText 35 = .ok (.aload_n 0, 1) := by decide +kernel
theorem dX7_readText_36 : decode cX7_readText 36 = .ok (.getfield 40, 3) := by decide +kernel
theorem dX7_readText_39 : decode cX7_readText 39 = .ok (.iload_n 1, 1) := by decide +kernel
theorem dX7_readText_40 : decode cX7_readText 40 = .ok (.iconst 0, 1) := by decide +kernel
theorem dX7_readText_41 : decode cX7_readText 41 = .ok (.iastore, 1) := by decide +kernel
theorem dX7_readText_42 : decode cX7_readText 42 = .ok (.iinc 1 1, 3) := by decide +kernel
theorem dX7_readText_45 : decode cX7_readText 45 = .ok (.goto (-22), 3) := by decide +kernel
theorem dX7_readText_48 : decode cX7_readText 48 = .ok (.aload_n 0, 1) := by decide +kernel
theorem dX7_readText_49 : decode cX7_readText 49 = .ok (.getfield 87, 3) := by decide +kernel
theorem dX7_readText_52 : decode cX7_readText 52 = .ok (.ifCond .eq 14, 3) := by decide +kernel
theorem dX7_readText_55 : decode cX7_readText 55 = .ok (.aload_n 0, 1) := by decide +kernel
theorem dX7_readText_56 : decode cX7_readText 56 = .ok (.getfield 46, 3) := by decide +kernel
theorem dX7_readText_59 : decode cX7_readText 59 = .ok (.iconst 0, 1) := by decide +kernel
theorem dX7_readText_60 : decode cX7_readText 60 = .ok (.iaload, 1) := by decide +kernel
theorem dX7_readText_61 : decode cX7_readText 61 = .ok (.bipush 89, 2) := by decide +kernel
theorem dX7_readText_63 : decode cX7_readText 63 = .ok (.if_icmp .eq 5, 3) := by decide +kernel
theorem dX7_readText_66 : decode cX7_readText 66 = .ok (.iconst 0, 1) := by decide +kernel
theorem dX7_readText_67 : decode cX7_readText 67 = .ok (.ireturn, 1) := by decide +kernel
theorem dX7_readText_68 : decode cX7_readText 68 = .ok (.aload_n 0, 1) := by decide +kernel
theorem dX7_readText_69 : decode cX7_readText 69 = .ok (.iconst 1, 1) := by decide +kernel
theorem dX7_readText_70 : decode cX7_readText 70 = .ok (.putfield 93, 3) := by decide +kernel
theorem dX7_readText_73 : decode cX7_readText 73 = .ok (.aload_n 0, 1) := by decide +kernel
theorem dX7_readText_74 : decode cX7_readText 74 = .ok (.getfield 90, 3) := by decide +kernel
theorem dX7_readText_77 : decode cX7_readText 77 = .ok (.bipush (-9), 2) := by decide +kernel
theorem dX7_readText_79 : decode cX7_readText 79 = .ok (.if_icmp .ne 30, 3) := by decide +kernel
theorem dX7_readText_82 : decode cX7_readText 82 = .ok (.aload_n 0, 1) := by decide +kernel
theorem dX7_readText_83 : decode cX7_readText 83 = .ok (.getfield 93, 3) := by decide +kernel
theorem dX7_readText_86 : decode cX7_readText 86 = .ok (.aload_n 0, 1) := by decide +kernel
theorem dX7_readText_87 : decode cX7_readText 87 = .ok (.getfield 87, 3) := by decide +kernel
theorem dX7_readText_90 : decode cX7_readText 90 = .ok (.if_icmp .ge 19, 3) := by decide +kernel
theorem dX7_readText_93 : decode cX7_readText 93 = .ok (.aload_n 0, 1) := by decide +kernel
theorem dX7_readText_94 : decode cX7_readText 94 = .ok (.aload_n 0, 1) := by decide +kernel
theorem dX7_readText_95 : decode cX7_readText 95 = .ok (.getfield 46, 3) := by decide +kernel
theorem dX7_readText_98 : decode cX7_readText 98 = .ok (.aload_n 0, 1) := by decide +kernel
theorem dX7_readText_99 : decode cX7_readText 99 = .ok (.getfield 93, 3) := by decide +kernel
theorem dX7_readText_102 : decode cX7_readText 102 = .ok (.iaload, 1) := by decide +kernel
theorem dX7_readText_103 : decode cX7_readText 103 = .ok (.invokevirtual 112, 3) := by decide +kernel
theorem dX7_readText_106 : decode cX7_readText 106 = .ok (.goto (-33), 3) := by decide +kernel
theorem dX7_readText_109 : decode cX7_readText 109 = .ok (.aload_n 0, 1) := by decide +kernel
theorem dX7_readText_110 : decode cX7_readText 110 = .ok (.getfield 90, 3) := by decide +kernel
theorem dX7_readText_113 : decode cX7_readText 113 = .ok (.ireturn, 1) := by decide +kernel
theorem dX7_readPart_0 : decode cX7_readPart 0 = .ok (.iload_n 1, 1) := by decide +kernel
theorem dX7_readPart_1 : decode cX7_readPart 1 = .ok (.bipush 82, 2) := by decide +kernel
theorem dX7_readPart_3 : decode cX7_readPart 3 = .ok (.if_icmp .ne 80, 3) := by decide +kernel
theorem dX7_readPart_6 : decode cX7_readPart 6 = .ok (.aload_n 0, 1) := by decide +kernel
theorem dX7_readPart_7 : decode cX7_readPart 7 = .ok (.getfield 102, 3) := by decide +kernel
theorem dX7_readPart_10 : decode cX7_readPart 10 = .ok (.iconst 5, 1) := by decide +kernel
theorem dX7_readPart_11 : decode cX7_readPart 11 = .ok (.if_icmp .ge 72, 3) := by decide +kernel
theorem dX7_readPart_14 : decode cX7_readPart 14 = .ok (.aload_n 0, 1) := by decide +kernel
theorem dX7_readPart_15 : decode cX7_readPart 15 = .ok (.dup, 1) := by decide +kernel
theorem dX7_readPart_16 : decode cX7_readPart 16 = .ok (.getfield 93, 3) := by decide +kernel
theorem dX7_readPart_19 : decode cX7_readPart 19 = .ok (.iconst 1, 1) := by decide +kernel
theorem dX7_readPart_20 : decode cX7_readPart 20 = .ok (.iadd, 1) := by decide +kernel
theorem dX7_readPart_21 : decode cX7_readPart 21 = .ok (.putfield 93, 3) := by decide +kernel
theorem dX7_readPart_24 : decode cX7_readPart 24 = .ok (.aload_n 0, 1) := by decide +kernel
theorem dX7_readPart_25 : decode cX7_readPart 25 = .ok (.getfield 28, 3) := by decide +kernel
theorem dX7_readPart_28 : decode cX7_readPart 28 = .ok (.aload_n 0, 1) := by decide +kernel
theorem dX7_readPart_29 : decode cX7_readPart 29 = .ok (.getfield 102, 3) := by decide +kernel
theorem dX7_readPart_32 : decode cX7_readPart 32 = .ok (.aload_n 0, 1) := by decide +kernel
theorem dX7_readPart_33 : decode cX7_readPart 33 = .ok (.sipush 1022, 3) := by decide +kernel
theorem dX7_readPart_36 : decode cX7_readPart 36 = .ok (.invokevirtual 116, 3) := by decide +kernel
theorem dX7_readPart_39 : decode cX7_readPart 39 = .ok (.iastore, 1) := by decide +kernel
theorem dX7_readPart_40 : decode cX7_readPart 40 = .ok (.aload_n 0, 1) := by decide +kernel
theorem dX7_readPart_41 : decode cX7_readPart 41 = .ok (.getfield 31, 3) := by decide +kernel
theorem dX7_readPart_44 : decode cX7_readPart 44 = .ok (.aload_n 0, 1) := by decide +kernel
theorem dX7_readPart_45 : decode cX7_readPart 45 = .ok (.getfield 102, 3) := by decide +kernel
theorem dX7_readPart_48 : decode cX7_readPart 48 = .ok (.aload_n 0, 1) := by decide +kernel
theorem dX7_readPart_49 : decode cX7_readPart 49 = .ok (.iconst 3, 1) := by decide +kernel
theorem dX7_readPart_50 : decode cX7_readPart 50 = .ok (.invokevirtual 116, 3) := by decide +kernel
theorem dX7_readPart_53 : decode cX7_readPart 53 = .ok (.iastore, 1) := by decide +kernel
theorem dX7_readPart_54 : decode cX7_readPart 54 = .ok (.aload_n 0, 1) := by decide +kernel
theorem dX7_readPart_55 : decode cX7_readPart 55 = .ok (.getfield 34, 3) := by decide +kernel
theorem dX7_readPart_58 : decode cX7_readPart 58 = .ok (.aload_n 0, 1) := by decide +kernel
theorem dX7_readPart_59 : decode cX7_readPart 59 = .ok (.getfield 102, 3) := by decide +kernel
theorem dX7_readPart_62 : decode cX7_readPart 62 = .ok (.aload_n 0, 1) := by decide +kernel
theorem dX7_readPart_63 : decode cX7_readPart 63 = .ok (.sipush 1023, 3) := by decide +kernel
theorem dX7_readPart_66 : decode cX7_readPart 66 = .ok (.invokevirtual 116, 3) := by decide +kernel
theorem dX7_readPart_69 : decode cX7_readPart 69 = .ok (.iastore, 1) := by decide +kernel
theorem dX7_readPart_70 : decode cX7_readPart 70 = .ok (.aload_n 0, 1) := by decide +kernel
theorem dX7_readPart_71 : decode cX7_readPart 71 = .ok (.dup, 1) := by decide +kernel
theorem dX7_readPart_72 : decode cX7_readPart 72 = .ok (.getfield 102, 3) := by decide +kernel
theorem dX7_readPart_75 : decode cX7_readPart 75 = .ok (.iconst 1, 1) := by decide +kernel
theorem dX7_readPart_76 : decode cX7_readPart 76 = .ok (.iadd, 1) := by decide +kernel
theorem dX7_readPart_77 : decode cX7_readPart 77 = .ok (.putfield 102, 3) := by decide +kernel
theorem dX7_readPart_80 : decode cX7_readPart 80 = .ok (.goto 217, 3) := by decide +kernel
theorem dX7_readPart_83 : decode cX7_readPart 83 = .ok (.iload_n 1, 1) := by decide +kernel
theorem dX7_readPart_84 : decode cX7_readPart 84 = .ok (.bipush 88, 2) := by decide +kernel
theorem dX7_readPart_86 : decode cX7_readPart 86 = .ok (.if_icmp .ne 75, 3) := by decide +kernel
theorem dX7_readPart_89 : decode cX7_readPart 89 = .ok (.aload_n 0, 1) := by decide +kernel
theorem dX7_readPart_90 : decode cX7_readPart 90 = .ok (.invokevirtual 119, 3) := by decide +kernel
theorem dX7_readPart_93 : decode cX7_readPart 93 = .ok (.ifCond .eq 68, 3) := by decide +kernel
theorem dX7_readPart_96 : decode cX7_readPart 96 = .ok (.aload_n 0, 1) := by decide +kernel
theorem dX7_readPart_97 : decode cX7_readPart 97 = .ok (.dup, 1) := by decide +kernel
theorem dX7_readPart_98 : decode cX7_readPart 98 = .ok (.getfield 93, 3) := by decide +kernel
theorem dX7_readPart_101 : decode cX7_readPart 101 = .ok (.iconst 1, 1) := by decide +kernel
theorem dX7_readPart_102 : decode cX7_readPart 102 = .ok (.iadd, 1) := by decide +kernel
theorem dX7_readPart_103 : decode cX7_readPart 103 = .ok (.putfield 93, 3) := by decide +kernel
theorem dX7_readPart_106 : decode cX7_readPart 106 = .ok (.aload_n 0, 1) := by decide +kernel
theorem dX7_readPart_107 : decode cX7_readPart 107 = .ok (.aload_n 0, 1) := by decide +kernel
theorem dX7_readPart_108 : decode cX7_readPart 108 = .ok (.invokevirtual 119, 3) := by decide +kernel
theorem dX7_readPart_111 : decode cX7_readPart 111 = .ok (.invokevirtual 116, 3) := by decide +kernel
theorem dX7_readPart_114 : decode cX7_readPart 114 = .ok (.istore_n 2, 1) := by decide +kernel
theorem dX7_readPart_115 : decode cX7_readPart 115 = .ok (.aload_n 0, 1) := by decide +kernel
theorem dX7_readPart_116 : decode cX7_readPart 116 = .ok (.aload_n 0, 1) := by decide +kernel
theorem dX7_readPart_117 : decode cX7_readPart 117 = .ok (.iload_n 2, 1) := by decide +kernel
theorem dX7_readPart_118 : decode cX7_readPart 118 = .ok (.invokevirtual 105, 3) := by decide +kernel
theorem dX7_readPart_121 : decode cX7_readPart 121 = .ok (.invokevirtual 116, 3) := by decide +kernel
theorem dX7_readPart_124 : decode cX7_readPart 124 = .ok (.istore_n 3, 1) := by decide +kernel
theorem dX7_readPart_125 : decode cX7_readPart 125 = .ok (.aload_n 0, 1) := by decide +kernel
theorem dX7_readPart_126 : decode cX7_readPart 126 = .ok (.getfield 90, 3) := by decide +kernel
theorem dX7_readPart_129 : decode cX7_readPart 129 = .ok (.bipush (-9), 2) := by decide +kernel
theorem dX7_readPart_131 : decode cX7_readPart 131 = .ok (.if_icmp .ne 27, 3) := by decide +kernel
theorem dX7_readPart_134 : decode cX7_readPart 134 = .ok (.aload_n 0, 1) := by decide +kernel
theorem dX7_readPart_135 : decode cX7_readPart 135 = .ok (.getfield 37, 3) := by decide +kernel
theorem dX7_readPart_138 : decode cX7_readPart 138 = .ok (.iload_n 2, 1) := by decide +kernel
theorem dX7_readPart_139 : decode cX7_readPart 139 = .ok (.dup2, 1) := by decide +kernel
theorem dX7_readPart_140 : decode cX7_readPart 140 = .ok (.iaload, 1) := by decide +kernel
theorem dX7_readPart_141 : decode cX7_readPart 141 = .ok (.iconst 1, 1) := by decide +kernel
theorem dX7_readPart_142 : decode cX7_readPart 142 = .ok (.iload_n 3, 1) := by decide +kernel
theorem dX7_readPart_143 : decode cX7_readPart 143 = .ok (.ishl, 1) := by decide +kernel
theorem dX7_readPart_144 : decode cX7_readPart 144 = .ok (.ior, 1) := by decide +kernel
theorem dX7_readPart_145 : decode cX7_readPart 145 = .ok (.iastore, 1) := by decide +kernel
theorem dX7_readPart_146 : decode cX7_readPart 146 = .ok (.aload_n 0, 1) := by decide +kernel
theorem dX7_readPart_147 : decode cX7_readPart 147 = .ok (.getfield 37, 3) := by decide +kernel
theorem dX7_readPart_150 : decode cX7_readPart 150 = .ok (.iload_n 3, 1) := by decide +kernel
theorem dX7_readPart_151 : decode cX7_readPart 151 = .ok (.dup2, 1) := by decide +kernel
theorem dX7_readPart_152 : decode cX7_readPart 152 = .ok (.iaload, 1) := by decide +kernel
theorem dX7_readPart_153 : decode cX7_readPart 153 = .ok (.iconst 1, 1) := by decide +kernel
theorem dX7_readPart_154 : decode cX7_readPart 154 = .ok (.iload_n 2, 1) := by decide +kernel
theorem dX7_readPart_155 : decode cX7_readPart 155 = .ok (.ishl, 1) := by decide +kernel
theorem dX7_readPart_156 : decode cX7_readPart 156 = .ok (.ior, 1) := by decide +kernel
theorem dX7_readPart_157 : decode cX7_readPart 157 = .ok (.iastore, 1) := by decide +kernel
theorem dX7_readPart_158 : decode cX7_readPart 158 = .ok (.goto 139, 3) := by decide +kernel
theorem dX7_readPart_161 : decode cX7_readPart 161 = .ok (.iload_n 1, 1) := by decide +kernel
theorem dX7_readPart_162 : decode cX7_readPart 162 = .ok (.bipush 80, 2) := by decide +kernel
theorem dX7_readPart_164 : decode cX7_readPart 164 = .ok (.if_icmp .ne 49, 3) := by decide +kernel
theorem dX7_readPart_167 : decode cX7_readPart 167 = .ok (.aload_n 0, 1) := by decide +kernel
theorem dX7_readPart_168 : decode cX7_readPart 168 = .ok (.getfield 109, 3) := by decide +kernel
theorem dX7_readPart_171 : decode cX7_readPart 171 = .ok (.iconst 4, 1) := by decide +kernel
theorem dX7_readPart_172 : decode cX7_readPart 172 = .ok (.if_icmp .ge 41, 3) := by decide +kernel
theorem dX7_readPart_175 : decode cX7_readPart 175 = .ok (.aload_n 0, 1) := by decide +kernel
theorem dX7_readPart_176 : decode cX7_readPart 176 = .ok (.dup, 1) := by decide +kernel
theorem dX7_readPart_177 : decode cX7_readPart 177 = .ok (.getfield 93, 3) := by decide +kernel
theorem dX7_readPart_180 : decode cX7_readPart 180 = .ok (.iconst 1, 1) := by decide +kernel
theorem dX7_readPart_181 : decode cX7_readPart 181 = .ok (.iadd, 1) := by decide +kernel
theorem dX7_readPart_182 : decode cX7_readPart 182 = .ok (.putfield 93, 3) := by decide +kernel
theorem dX7_readPart_185 : decode cX7_readPart 185 = .ok (.aload_n 0, 1) := by decide +kernel
theorem dX7_readPart_186 : decode cX7_readPart 186 = .ok (.getfield 43, 3) := by decide +kernel
theorem dX7_readPart_189 : decode cX7_readPart 189 = .ok (.aload_n 0, 1) := by decide +kernel
theorem dX7_readPart_190 : decode cX7_readPart 190 = .ok (.getfield 109, 3) := by decide +kernel
theorem dX7_readPart_193 : decode cX7_readPart 193 = .ok (.aload_n 0, 1) := by decide +kernel
theorem dX7_readPart_194 : decode cX7_readPart 194 = .ok (.bipush 63, 2) := by decide +kernel
theorem dX7_readPart_196 : decode cX7_readPart 196 = .ok (.invokevirtual 116, 3) := by decide +kernel
theorem dX7_readPart_199 : decode cX7_readPart 199 = .ok (.iastore, 1) := by decide +kernel
theorem dX7_readPart_200 : decode cX7_readPart 200 = .ok (.aload_n 0, 1) := by decide +kernel
theorem dX7_readPart_201 : decode cX7_readPart 201 = .ok (.dup, 1) := by decide +kernel
theorem dX7_readPart_202 : decode cX7_readPart 202 = .ok (.getfield 109, 3) := by decide +kernel
theorem dX7_readPart_205 : decode cX7_readPart 205 = .ok (.iconst 1, 1) := by decide +kernel
theorem dX7_readPart_206 : decode cX7_readPart 206 = .ok (.iadd, 1) := by decide +kernel
theorem dX7_readPart_207 : decode cX7_readPart 207 = .ok (.putfield 109, 3) := by decide +kernel
theorem dX7_readPart_210 : decode cX7_readPart 210 = .ok (.goto 87, 3) := by decide +kernel
theorem dX7_readPart_213 : decode cX7_readPart 213 = .ok (.iload_n 1, 1) := by decide +kernel
theorem dX7_readPart_214 : decode cX7_readPart 214 = .ok (.bipush 83, 2) := by decide +kernel
theorem dX7_readPart_216 : decode cX7_readPart 216 = .ok (.if_icmp .ne 73, 3) := by decide +kernel
theorem dX7_readPart_219 : decode cX7_readPart 219 = .ok (.aload_n 0, 1) := by decide +kernel
theorem dX7_readPart_220 : decode cX7_readPart 220 = .ok (.invokevirtual 123, 3) := by decide +kernel
theorem dX7_readPart_223 : decode cX7_readPart 223 = .ok (.ifCond .eq 66, 3) := by decide +kernel
theorem dX7_readPart_226 : decode cX7_readPart 226 = .ok (.aload_n 0, 1) := by decide +kernel
theorem dX7_readPart_227 : decode cX7_readPart 227 = .ok (.dup, 1) := by decide +kernel
theorem dX7_readPart_228 : decode cX7_readPart 228 = .ok (.getfield 93, 3) := by decide +kernel
theorem dX7_readPart_231 : decode cX7_readPart 231 = .ok (.iconst 1, 1) := by decide +kernel
theorem dX7_readPart_232 : decode cX7_readPart 232 = .ok (.iadd, 1) := by decide +kernel
theorem dX7_readPart_233 : decode cX7_readPart 233 = .ok (.putfield 93, 3) := by decide +kernel
theorem dX7_readPart_236 : decode cX7_readPart 236 = .ok (.aload_n 0, 1) := by decide +kernel
theorem dX7_readPart_237 : decode cX7_readPart 237 = .ok (.aload_n 0, 1) := by decide +kernel
theorem dX7_readPart_238 : decode cX7_readPart 238 = .ok (.invokevirtual 123, 3) := by decide +kernel
theorem dX7_readPart_241 : decode cX7_readPart 241 = .ok (.invokevirtual 116, 3) := by decide +kernel
theorem dX7_readPart_244 : decode cX7_readPart 244 = .ok (.istore_n 2, 1) := by decide +kernel
theorem dX7_readPart_245 : decode cX7_readPart 245 = .ok (.aload_n 0, 1) := by decide +kernel
theorem dX7_readPart_246 : decode cX7_readPart 246 = .ok (.bipush 63, 2) := by decide +kernel
theorem dX7_readPart_248 : decode cX7_readPart 248 = .ok (.aload_n 0, 1) := by decide +kernel
theorem dX7_readPart_249 : decode cX7_readPart 249 = .ok (.getfield 40, 3) := by decide +kernel
theorem dX7_readPart_252 : decode cX7_readPart 252 = .ok (.iload_n 2, 1) := by decide +kernel
theorem dX7_readPart_253 : decode cX7_readPart 253 = .ok (.iaload, 1) := by decide +kernel
theorem dX7_readPart_254 : decode cX7_readPart 254 = .ok (.iconst (-1), 1) := by decide +kernel
theorem dX7_readPart_255 : decode cX7_readPart 255 = .ok (.ixor, 1) := by decide +kernel
theorem dX7_readPart_256 : decode cX7_readPart 256 = .ok (.iand, 1) := by decide +kernel
theorem dX7_readPart_257 : decode cX7_readPart 257 = .ok (.invokevirtual 116, 3) := by decide +kernel
theorem dX7_readPart_260 : decode cX7_readPart 260 = .ok (.istore_n 3, 1) := by decide +kernel
theorem dX7_readPart_261 : decode cX7_readPart 261 = .ok (.aload_n 0, 1) := by decide +kernel
theorem dX7_readPart_262 : decode cX7_readPart 262 = .ok (.getfield 40, 3) := by decide +kernel
theorem dX7_readPart_265 : decode cX7_readPart 265 = .ok (.iload_n 2, 1) := by decide +kernel
theorem dX7_readPart_266 : decode cX7_readPart 266 = .ok (.dup2, 1) := by decide +kernel
theorem dX7_readPart_267 : decode cX7_readPart 267 = .ok (.iaload, 1) := by decide +kernel
theorem dX7_readPart_268 : decode cX7_readPart 268 = .ok (.aload_n 0, 1) := by decide +kernel
theorem dX7_readPart_269 : decode cX7_readPart 269 = .ok (.getfield 90, 3) := by decide +kernel
theorem dX7_readPart_272 : decode cX7_readPart 272 = .ok (.bipush (-9), 2) := by decide +kernel
theorem dX7_readPart_274 : decode cX7_readPart 274 = .ok (.if_icmp .ne 9, 3) := by decide +kernel
theorem dX7_readPart_277 : decode cX7_readPart 277 = .ok (.iconst 1, 1) := by decide +kernel
theorem dX7_readPart_278 : decode cX7_readPart 278 = .ok (.iload_n 3, 1) := by decide +kernel
theorem dX7_readPart_279 : decode cX7_readPart 279 = .ok (.ishl, 1) := by decide +kernel
theorem dX7_readPart_280 : decode cX7_readPart 280 = .ok (.goto 4, 3) := by decide +kernel
theorem dX7_readPart_283 : decode cX7_readPart 283 = .ok (.iconst 0, 1) := by decide +kernel
theorem dX7_readPart_284 : decode cX7_readPart 284 = .ok (.ior, 1) := by decide +kernel
theorem dX7_readPart_285 : decode cX7_readPart 285 = .ok (.iastore, 1) := by decide +kernel
theorem dX7_readPart_286 : decode cX7_readPart 286 = .ok (.goto 11, 3) := by decide +kernel
theorem dX7_readPart_289 : decode cX7_readPart 289 = .ok (.aload_n 0, 1) := by decide +kernel
theorem dX7_readPart_290 : decode cX7_readPart 290 = .ok (.aload_n 0, 1) := by decide +kernel
theorem dX7_readPart_291 : decode cX7_readPart 291 = .ok (.getfield 93, 3) := by decide +kernel
theorem dX7_readPart_294 : decode cX7_readPart 294 = .ok (.putfield 90, 3) := by decide +kernel
theorem dX7_readPart_297 : decode cX7_readPart 297 = .ok (.return_, 1) := by decide +kernel
theorem dX7_fault_0 : decode cX7_fault 0 = .ok (.aload_n 0, 1) := by decide +kernel
theorem dX7_fault_1 : decode cX7_fault 1 = .ok (.invokevirtual 126, 3) := by decide +kernel
theorem dX7_fault_4 : decode cX7_fault 4 = .ok (.ireturn, 1) := by decide +kernel
theorem dX7_town_0 : decode cX7_town 0 = .ok (.aload_n 0, 1) := by decide +kernel
theorem dX7_town_1 : decode cX7_town 1 = .ok (.invokevirtual 126, 3) := by decide +kernel
theorem dX7_town_4 : decode cX7_town 4 = .ok (.bipush (-9), 2) := by decide +kernel
theorem dX7_town_6 : decode cX7_town 6 = .ok (.if_icmp .eq 6, 3) := by decide +kernel
theorem dX7_town_9 : decode cX7_town 9 = .ok (.bipush (-3), 2) := by decide +kernel
theorem dX7_town_11 : decode cX7_town 11 = .ok (.ireturn, 1) := by decide +kernel
theorem dX7_town_12 : decode cX7_town 12 = .ok (.aload_n 0, 1) := by decide +kernel
theorem dX7_town_13 : decode cX7_town 13 = .ok (.aload_n 0, 1) := by decide +kernel
theorem dX7_town_14 : decode cX7_town 14 = .ok (.getfield 102, 3) := by decide +kernel
theorem dX7_town_17 : decode cX7_town 17 = .ok (.putfield 77, 3) := by decide +kernel
theorem dX7_town_20 : decode cX7_town 20 = .ok (.aload_n 0, 1) := by decide +kernel
theorem dX7_town_21 : decode cX7_town 21 = .ok (.aload_n 0, 1) := by decide +kernel
theorem dX7_town_22 : decode cX7_town 22 = .ok (.getfield 109, 3) := by decide +kernel
theorem dX7_town_25 : decode cX7_town 25 = .ok (.putfield 129, 3) := by decide +kernel
theorem dX7_town_28 : decode cX7_town 28 = .ok (.iconst 0, 1) := by decide +kernel
theorem dX7_town_29 : decode cX7_town 29 = .ok (.istore_n 1, 1) := by decide +kernel
theorem dX7_town_30 : decode cX7_town 30 = .ok (.iload_n 1, 1) := by decide +kernel
theorem dX7_town_31 : decode cX7_town 31 = .ok (.bipush 31, 2) := by decide +kernel
theorem dX7_town_33 : decode cX7_town 33 = .ok (.if_icmp .ge 16, 3) := by decide +kernel
theorem dX7_town_36 : decode cX7_town 36 = .ok (.aload_n 0, 1) := by decide +kernel
theorem dX7_town_37 : decode cX7_town 37 = .ok (.getfield 25, 3) := by decide +kernel
theorem dX7_town_40 : decode cX7_town 40 = .ok (.iload_n 1, 1) := by decide +kernel
theorem dX7_town_41 : decode cX7_town 41 = .ok (.iconst 0, 1) := by decide +kernel
theorem dX7_town_42 : decode cX7_town 42 = .ok (.iastore, 1) := by decide +kernel
theorem dX7_town_43 : decode cX7_town 43 = .ok (.iinc 1 1, 3) := by decide +kernel
theorem dX7_town_46 : decode cX7_town 46 = .ok (.goto (-16), 3) := by decide +kernel
theorem dX7_town_49 : decode cX7_town 49 = .ok (.iconst 0, 1) := by decide +kernel
theorem dX7_town_50 : decode cX7_town 50 = .ok (.istore_n 1, 1) := by decide +kernel
theorem dX7_town_51 : decode cX7_town 51 = .ok (.iload_n 1, 1) := by decide +kernel
theorem dX7_town_52 : decode cX7_town 52 = .ok (.iconst 5, 1) := by decide +kernel
theorem dX7_town_53 : decode cX7_town 53 = .ok (.if_icmp .ge 81, 3) := by decide +kernel
theorem dX7_town_56 : decode cX7_town 56 = .ok (.aload_n 0, 1) := by decide +kernel
theorem dX7_town_57 : decode cX7_town 57 = .ok (.getfield 7, 3) := by decide +kernel
theorem dX7_town_60 : decode cX7_town 60 = .ok (.iload_n 1, 1) := by decide +kernel
theorem dX7_town_61 : decode cX7_town 61 = .ok (.aload_n 0, 1) := by decide +kernel
theorem dX7_town_62 : decode cX7_town 62 = .ok (.getfield 28, 3) := by decide +kernel
theorem dX7_town_65 : decode cX7_town 65 = .ok (.iload_n 1, 1) := by decide +kernel
theorem dX7_town_66 : decode cX7_town 66 = .ok (.iaload, 1) := by decide +kernel
theorem dX7_town_67 : decode cX7_town 67 = .ok (.iastore, 1) := by decide +kernel
theorem dX7_town_68 : decode cX7_town 68 = .ok (.aload_n 0, 1) := by decide +kernel
theorem dX7_town_69 : decode cX7_town 69 = .ok (.getfield 13, 3) := by decide +kernel
theorem dX7_town_72 : decode cX7_town 72 = .ok (.iload_n 1, 1) := by decide +kernel
theorem dX7_town_73 : decode cX7_town 73 = .ok (.aload_n 0, 1) := by decide +kernel
theorem dX7_town_74 : decode cX7_town 74 = .ok (.getfield 31, 3) := by decide +kernel
theorem dX7_town_77 : decode cX7_town 77 = .ok (.iload_n 1, 1) := by decide +kernel
theorem dX7_town_78 : decode cX7_town 78 = .ok (.iaload, 1) := by decide +kernel
theorem dX7_town_79 : decode cX7_town 79 = .ok (.iastore, 1) := by decide +kernel
theorem dX7_town_80 : decode cX7_town 80 = .ok (.aload_n 0, 1) := by decide +kernel
theorem dX7_town_81 : decode cX7_town 81 = .ok (.getfield 16, 3) := by decide +kernel
theorem dX7_town_84 : decode cX7_town 84 = .ok (.iload_n 1, 1) := by decide +kernel
theorem dX7_town_85 : decode cX7_town 85 = .ok (.aload_n 0, 1) := by decide +kernel
theorem dX7_town_86 : decode cX7_town 86 = .ok (.getfield 34, 3) := by decide +kernel
theorem dX7_town_89 : decode cX7_town 89 = .ok (.iload_n 1, 1) := by decide +kernel
theorem dX7_town_90 : decode cX7_town 90 = .ok (.iaload, 1) := by decide +kernel
theorem dX7_town_91 : decode cX7_town 91 = .ok (.iastore, 1) := by decide +kernel
theorem dX7_town_92 : decode cX7_town 92 = .ok (.aload_n 0, 1) := by decide +kernel
theorem dX7_town_93 : decode cX7_town 93 = .ok (.getfield 19, 3) := by decide +kernel
theorem dX7_town_96 : decode cX7_town 96 = .ok (.iload_n 1, 1) := by decide +kernel
theorem dX7_town_97 : decode cX7_town 97 = .ok (.aload_n 0, 1) := by decide +kernel
theorem dX7_town_98 : decode cX7_town 98 = .ok (.getfield 37, 3) := by decide +kernel
theorem dX7_town_101 : decode cX7_town 101 = .ok (.iload_n 1, 1) := by decide +kernel
theorem dX7_town_102 : decode cX7_town 102 = .ok (.iaload, 1) := by decide +kernel
theorem dX7_town_103 : decode cX7_town 103 = .ok (.iastore, 1) := by decide +kernel
theorem dX7_town_104 : decode cX7_town 104 = .ok (.aload_n 0, 1) := by decide +kernel
theorem dX7_town_105 : decode cX7_town 105 = .ok (.getfield 25, 3) := by decide +kernel
theorem dX7_town_108 : decode cX7_town 108 = .ok (.iload_n 1, 1) := by decide +kernel
theorem dX7_town_109 : decode cX7_town 109 = .ok (.iload_n 1, 1) := by decide +kernel
theorem dX7_town_110 : decode cX7_town 110 = .ok (.aload_n 0, 1) := by decide +kernel
theorem dX7_town_111 : decode cX7_town 111 = .ok (.getfield 77, 3) := by decide +kernel
theorem dX7_town_114 : decode cX7_town 114 = .ok (.if_icmp .ge 12, 3) := by decide +kernel
theorem dX7_town_117 : decode cX7_town 117 = .ok (.aload_n 0, 1) := by decide +kernel
theorem dX7_town_118 : decode cX7_town 118 = .ok (.getfield 40, 3) := by decide +kernel
theorem dX7_town_121 : decode cX7_town 121 = .ok (.iload_n 1, 1) := by decide +kernel
theorem dX7_town_122 : decode cX7_town 122 = .ok (.iaload, 1) := by decide +kernel
theorem dX7_town_123 : decode cX7_town 123 = .ok (.goto 4, 3) := by decide +kernel
theorem dX7_town_126 : decode cX7_town 126 = .ok (.iconst 0, 1) := by decide +kernel
theorem dX7_town_127 : decode cX7_town 127 = .ok (.iastore, 1) := by decide +kernel
theorem dX7_town_128 : decode cX7_town 128 = .ok (.iinc 1 1, 3) := by decide +kernel
theorem dX7_town_131 : decode cX7_town 131 = .ok (.goto (-80), 3) := by decide +kernel
theorem dX7_town_134 : decode cX7_town 134 = .ok (.iconst 0, 1) := by decide +kernel
theorem dX7_town_135 : decode cX7_town 135 = .ok (.istore_n 1, 1) := by decide +kernel
theorem dX7_town_136 : decode cX7_town 136 = .ok (.iload_n 1, 1) := by decide +kernel
theorem dX7_town_137 : decode cX7_town 137 = .ok (.iconst 4, 1) := by decide +kernel
theorem dX7_town_138 : decode cX7_town 138 = .ok (.if_icmp .ge 21, 3) := by decide +kernel
theorem dX7_town_141 : decode cX7_town 141 = .ok (.aload_n 0, 1) := by decide +kernel
theorem dX7_town_142 : decode cX7_town 142 = .ok (.getfield 22, 3) := by decide +kernel
theorem dX7_town_145 : decode cX7_town 145 = .ok (.iload_n 1, 1) := by decide +kernel
theorem dX7_town_146 : decode cX7_town 146 = .ok (.aload_n 0, 1) := by decide +kernel
theorem dX7_town_147 : decode cX7_town 147 = .ok (.getfield 43, 3) := by decide +kernel
theorem dX7_town_150 : decode cX7_town 150 = .ok (.iload_n 1, 1) := by decide +kernel
theorem dX7_town_151 : decode cX7_town 151 = .ok (.iaload, 1) := by decide +kernel
theorem dX7_town_152 : decode cX7_town 152 = .ok (.iastore, 1) := by decide +kernel
theorem dX7_town_153 : decode cX7_town 153 = .ok (.iinc 1 1, 3) := by decide +kernel
theorem dX7_town_156 : decode cX7_town 156 = .ok (.goto (-20), 3) := by decide +kernel
theorem dX7_town_159 : decode cX7_town 159 = .ok (.aload_n 0, 1) := by decide +kernel
theorem dX7_town_160 : decode cX7_town 160 = .ok (.iconst 0, 1) := by decide +kernel
theorem dX7_town_161 : decode cX7_town 161 = .ok (.putfield 132, 3) := by decide +kernel
theorem dX7_town_164 : decode cX7_town 164 = .ok (.aload_n 0, 1) := by decide +kernel
theorem dX7_town_165 : decode cX7_town 165 = .ok (.getfield 71, 3) := by decide +kernel
theorem dX7_town_168 : decode cX7_town 168 = .ok (.iconst 0, 1) := by decide +kernel
theorem dX7_town_169 : decode cX7_town 169 = .ok (.iconst 0, 1) := by decide +kernel
theorem dX7_town_170 : decode cX7_town 170 = .ok (.bastore, 1) := by decide +kernel
theorem dX7_town_171 : decode cX7_town 171 = .ok (.aload_n 0, 1) := by decide +kernel
theorem dX7_town_172 : decode cX7_town 172 = .ok (.getfield 71, 3) := by decide +kernel
theorem dX7_town_175 : decode cX7_town 175 = .ok (.iconst 1, 1) := by decide +kernel
theorem dX7_town_176 : decode cX7_town 176 = .ok (.iconst 0, 1) := by decide +kernel
theorem dX7_town_177 : decode cX7_town 177 = .ok (.bastore, 1) := by decide +kernel
theorem dX7_town_178 : decode cX7_town 178 = .ok (.bipush 10, 2) := by decide +kernel
theorem dX7_town_180 : decode cX7_town 180 = .ok (.aload_n 0, 1) := by decide +kernel
theorem dX7_town_181 : decode cX7_town 181 = .ok (.getfield 77, 3) := by decide +kernel
theorem dX7_town_184 : decode cX7_town 184 = .ok (.imul, 1) := by decide +kernel
theorem dX7_town_185 : decode cX7_town 185 = .ok (.aload_n 0, 1) := by decide +kernel
theorem dX7_town_186 : decode cX7_town 186 = .ok (.getfield 129, 3) := by decide +kernel
theorem dX7_town_189 : decode cX7_town 189 = .ok (.iadd, 1) := by decide +kernel
theorem dX7_town_190 : decode cX7_town 190 = .ok (.ireturn, 1) := by decide +kernel
theorem dX7_isRumour_0 : decode cX7_isRumour 0 = .ok (.iload_n 1, 1) := by decide +kernel
theorem dX7_isRumour_1 : decode cX7_isRumour 1 = .ok (.i2l, 1) := by decide +kernel
theorem dX7_isRumour_2 : decode cX7_isRumour 2 = .ok (.lconst 0, 1) := by decide +kernel
theorem dX7_isRumour_3 : decode cX7_isRumour 3 = .ok (.aload_n 0, 1) := by decide +kernel
theorem dX7_isRumour_4 : decode cX7_isRumour 4 = .ok (.getfield 77, 3) := by decide +kernel
theorem dX7_isRumour_7 : decode cX7_isRumour 7 = .ok (.iconst 1, 1) := by decide +kernel
theorem dX7_isRumour_8 : decode cX7_isRumour 8 = .ok (.isub, 1) := by decide +kernel
theorem dX7_isRumour_9 : decode cX7_isRumour 9 = .ok (.i2l, 1) := by decide +kernel
theorem dX7_isRumour_10 : decode cX7_isRumour 10 = .ok (.invokestatic 83, 3) := by decide +kernel
theorem dX7_isRumour_13 : decode cX7_isRumour 13 = .ok (.ireturn, 1) := by decide +kernel
theorem dX7_isPerson_0 : decode cX7_isPerson 0 = .ok (.iload_n 1, 1) := by decide +kernel
theorem dX7_isPerson_1 : decode cX7_isPerson 1 = .ok (.i2l, 1) := by decide +kernel
theorem dX7_isPerson_2 : decode cX7_isPerson 2 = .ok (.lconst 0, 1) := by decide +kernel
theorem dX7_isPerson_3 : decode cX7_isPerson 3 = .ok (.aload_n 0, 1) := by decide +kernel
theorem dX7_isPerson_4 : decode cX7_isPerson 4 = .ok (.getfield 129, 3) := by decide +kernel
theorem dX7_isPerson_7 : decode cX7_isPerson 7 = .ok (.iconst 1, 1) := by decide +kernel
theorem dX7_isPerson_8 : decode cX7_isPerson 8 = .ok (.isub, 1) := by decide +kernel
theorem dX7_isPerson_9 : decode cX7_isPerson 9 = .ok (.i2l, 1) := by decide +kernel
theorem dX7_isPerson_10 : decode cX7_isPerson 10 = .ok (.invokestatic 83, 3) := by decide +kernel
theorem dX7_isPerson_13 : decode cX7_isPerson 13 = .ok (.ireturn, 1) := by decide +kernel
theorem dX7_isTable_0 : decode cX7_isTable 0 = .ok (.iload_n 0, 1) := by decide +kernel
theorem dX7_isTable_1 : decode cX7_isTable 1 = .ok (.i2l, 1) := by decide +kernel
theorem dX7_isTable_2 : decode cX7_isTable 2 = .ok (.lconst 0, 1) := by decide +kernel
theorem dX7_isTable_3 : decode cX7_isTable 3 = .ok (.ldc2_w 135, 3) := by decide +kernel
theorem dX7_isTable_6 : decode cX7_isTable 6 = .ok (.invokestatic 83, 3) := by decide +kernel
theorem dX7_isTable_9 : decode cX7_isTable 9 = .ok (.ireturn, 1) := by decide +kernel
theorem dX7_isProved_0 : decode cX7_isProved 0 = .ok (.aload_n 0, 1) := by decide +kernel
theorem dX7_isProved_1 : decode cX7_isProved 1 = .ok (.getfield 16, 3) := by decide +kernel
theorem dX7_isProved_4 : decode cX7_isProved 4 = .ok (.iload_n 2, 1) := by decide +kernel
theorem dX7_isProved_5 : decode cX7_isProved 5 = .ok (.iaload, 1) := by decide +kernel
theorem dX7_isProved_6 : decode cX7_isProved 6 = .ok (.ifCond .le 28, 3) := by decide +kernel
theorem dX7_isProved_9 : decode cX7_isProved 9 = .ok (.aload_n 0, 1) := by decide +kernel
theorem dX7_isProved_10 : decode cX7_isProved 10 = .ok (.getfield 25, 3) := by decide +kernel
theorem dX7_isProved_13 : decode cX7_isProved 13 = .ok (.bipush 31, 2) := by decide +kernel
theorem dX7_isProved_15 : decode cX7_isProved 15 = .ok (.iload_n 1, 1) := by decide +kernel
theorem dX7_isProved_16 : decode cX7_isProved 16 = .ok (.imul, 1) := by decide +kernel
theorem dX7_isProved_17 : decode cX7_isProved 17 = .ok (.bipush 30, 2) := by decide +kernel
theorem dX7_isProved_19 : decode cX7_isProved 19 = .ok (.iadd, 1) := by decide +kernel
theorem dX7_isProved_20 : decode cX7_isProved 20 = .ok (.iaload, 1) := by decide +kernel
theorem dX7_isProved_21 : decode cX7_isProved 21 = .ok (.aload_n 0, 1) := by decide +kernel
theorem dX7_isProved_22 : decode cX7_isProved 22 = .ok (.getfield 16, 3) := by decide +kernel
theorem dX7_isProved_25 : decode cX7_isProved 25 = .ok (.iload_n 2, 1) := by decide +kernel
theorem dX7_isProved_26 : decode cX7_isProved 26 = .ok (.iaload, 1) := by decide +kernel
theorem dX7_isProved_27 : decode cX7_isProved 27 = .ok (.if_icmp .lt 7, 3) := by decide +kernel
theorem dX7_isProved_30 : decode cX7_isProved 30 = .ok (.iconst 1, 1) := by decide +kernel
theorem dX7_isProved_31 : decode cX7_isProved 31 = .ok (.goto 4, 3) := by decide +kernel
theorem dX7_isProved_34 : decode cX7_isProved 34 = .ok (.iconst 0, 1) := by decide +kernel
theorem dX7_isProved_35 : decode cX7_isProved 35 = .ok (.ireturn, 1) := by decide +kernel
theorem dX7_worthOf_0 : decode cX7_worthOf 0 = .ok (.aload_n 0, 1) := by decide +kernel
theorem dX7_worthOf_1 : decode cX7_worthOf 1 = .ok (.iload_n 1, 1) := by decide +kernel
theorem dX7_worthOf_2 : decode cX7_worthOf 2 = .ok (.iload_n 2, 1) := by decide +kernel
theorem dX7_worthOf_3 : decode cX7_worthOf 3 = .ok (.invokevirtual 137, 3) := by decide +kernel
theorem dX7_worthOf_6 : decode cX7_worthOf 6 = .ok (.ifCond .eq 26, 3) := by decide +kernel
theorem dX7_worthOf_9 : decode cX7_worthOf 9 = .ok (.aload_n 0, 1) := by decide +kernel
theorem dX7_worthOf_10 : decode cX7_worthOf 10 = .ok (.getfield 13, 3) := by decide +kernel
theorem dX7_worthOf_13 : decode cX7_worthOf 13 = .ok (.iload_n 2, 1) := by decide +kernel
theorem dX7_worthOf_14 : decode cX7_worthOf 14 = .ok (.iaload, 1) := by decide +kernel
theorem dX7_worthOf_15 : decode cX7_worthOf 15 = .ok (.iconst 1, 1) := by decide +kernel
theorem dX7_worthOf_16 : decode cX7_worthOf 16 = .ok (.if_icmp .ne 7, 3) := by decide +kernel
theorem dX7_worthOf_19 : decode cX7_worthOf 19 = .ok (.iconst 0, 1) := by decide +kernel
theorem dX7_worthOf_20 : decode cX7_worthOf 20 = .ok (.goto 11, 3) := by decide +kernel
theorem dX7_worthOf_23 : decode cX7_worthOf 23 = .ok (.iconst 2, 1) := by decide +kernel
theorem dX7_worthOf_24 : decode cX7_worthOf 24 = .ok (.aload_n 0, 1) := by decide +kernel
theorem dX7_worthOf_25 : decode cX7_worthOf 25 = .ok (.getfield 7, 3) := by decide +kernel
theorem dX7_worthOf_28 : decode cX7_worthOf 28 = .ok (.iload_n 2, 1) := by decide +kernel
theorem dX7_worthOf_29 : decode cX7_worthOf 29 = .ok (.iaload, 1) := by decide +kernel
theorem dX7_worthOf_30 : decode cX7_worthOf 30 = .ok (.imul, 1) := by decide +kernel
theorem dX7_worthOf_31 : decode cX7_worthOf 31 = .ok (.ireturn, 1) := by decide +kernel
theorem dX7_worthOf_32 : decode cX7_worthOf 32 = .ok (.aload_n 0, 1) := by decide +kernel
theorem dX7_worthOf_33 : decode cX7_worthOf 33 = .ok (.getfield 7, 3) := by decide +kernel
theorem dX7_worthOf_36 : decode cX7_worthOf 36 = .ok (.iload_n 2, 1) := by decide +kernel
theorem dX7_worthOf_37 : decode cX7_worthOf 37 = .ok (.iaload, 1) := by decide +kernel
theorem dX7_worthOf_38 : decode cX7_worthOf 38 = .ok (.aload_n 0, 1) := by decide +kernel
theorem dX7_worthOf_39 : decode cX7_worthOf 39 = .ok (.getfield 25, 3) := by decide +kernel
theorem dX7_worthOf_42 : decode cX7_worthOf 42 = .ok (.bipush 31, 2) := by decide +kernel
theorem dX7_worthOf_44 : decode cX7_worthOf 44 = .ok (.iload_n 1, 1) := by decide +kernel
theorem dX7_worthOf_45 : decode cX7_worthOf 45 = .ok (.imul, 1) := by decide +kernel
theorem dX7_worthOf_46 : decode cX7_worthOf 46 = .ok (.iload_n 2, 1) := by decide +kernel
theorem dX7_worthOf_47 : decode cX7_worthOf 47 = .ok (.iadd, 1) := by decide +kernel
theorem dX7_worthOf_48 : decode cX7_worthOf 48 = .ok (.iaload, 1) := by decide +kernel
theorem dX7_worthOf_49 : decode cX7_worthOf 49 = .ok (.invokestatic 140, 3) := by decide +kernel
theorem dX7_worthOf_52 : decode cX7_worthOf 52 = .ok (.iadd, 1) := by decide +kernel
theorem dX7_worthOf_53 : decode cX7_worthOf 53 = .ok (.aload_n 0, 1) := by decide +kernel
theorem dX7_worthOf_54 : decode cX7_worthOf 54 = .ok (.getfield 25, 3) := by decide +kernel
theorem dX7_worthOf_57 : decode cX7_worthOf 57 = .ok (.bipush 31, 2) := by decide +kernel
theorem dX7_worthOf_59 : decode cX7_worthOf 59 = .ok (.iload_n 1, 1) := by decide +kernel
theorem dX7_worthOf_60 : decode cX7_worthOf 60 = .ok (.imul, 1) := by decide +kernel
theorem dX7_worthOf_61 : decode cX7_worthOf 61 = .ok (.iconst 5, 1) := by decide +kernel
theorem dX7_worthOf_62 : decode cX7_worthOf 62 = .ok (.iadd, 1) := by decide +kernel
theorem dX7_worthOf_63 : decode cX7_worthOf 63 = .ok (.iload_n 2, 1) := by decide +kernel
theorem dX7_worthOf_64 : decode cX7_worthOf 64 = .ok (.iadd, 1) := by decide +kernel
theorem dX7_worthOf_65 : decode cX7_worthOf 65 = .ok (.iaload, 1) := by decide +kernel
theorem dX7_worthOf_66 : decode cX7_worthOf 66 = .ok (.invokestatic 140, 3) := by decide +kernel
theorem dX7_worthOf_69 : decode cX7_worthOf 69 = .ok (.isub, 1) := by decide +kernel
theorem dX7_worthOf_70 : decode cX7_worthOf 70 = .ok (.istore_n 3, 1) := by decide +kernel
theorem dX7_worthOf_71 : decode cX7_worthOf 71 = .ok (.iload_n 3, 1) := by decide +kernel
theorem dX7_worthOf_72 : decode cX7_worthOf 72 = .ok (.ifCond .ge 7, 3) := by decide +kernel
theorem dX7_worthOf_75 : decode cX7_worthOf 75 = .ok (.iconst 0, 1) := by decide +kernel
theorem dX7_worthOf_76 : decode cX7_worthOf 76 = .ok (.goto 4, 3) := by decide +kernel
theorem dX7_worthOf_79 : decode cX7_worthOf 79 = .ok (.iload_n 3, 1) := by decide +kernel
theorem dX7_worthOf_80 : decode cX7_worthOf 80 = .ok (.ireturn, 1) := by decide +kernel
theorem dX7_rumour_0 : decode cX7_rumour 0 = .ok (.aload_n 0, 1) := by decide +kernel
theorem dX7_rumour_1 : decode cX7_rumour 1 = .ok (.iload_n 1, 1) := by decide +kernel
theorem dX7_rumour_2 : decode cX7_rumour 2 = .ok (.invokevirtual 143, 3) := by decide +kernel
theorem dX7_rumour_5 : decode cX7_rumour 5 = .ok (.ifCond .ne 5, 3) := by decide +kernel
theorem dX7_rumour_8 : decode cX7_rumour 8 = .ok (.iconst (-1), 1) := by decide +kernel
theorem dX7_rumour_9 : decode cX7_rumour 9 = .ok (.ireturn, 1) := by decide +kernel
theorem dX7_rumour_10 : decode cX7_rumour 10 = .ok (.iload_n 2, 1) := by decide +kernel
theorem dX7_rumour_11 : decode cX7_rumour 11 = .ok (.tableswitch 100 0 6 #[41, 48, 55, 62, 69, 78, 85], 41) := by decide +kernel
theorem dX7_rumour_52 : decode cX7_rumour 52 = .ok (.aload_n 0, 1) := by decide +kernel
theorem dX7_rumour_53 : decode cX7_rumour 53 = .ok (.getfield 7, 3) := by decide +kernel
theorem dX7_rumour_56 : decode cX7_rumour 56 = .ok (.iload_n 1, 1) := by decide +kernel
theorem dX7_rumour_57 : decode cX7_rumour 57 = .ok (.iaload, 1) := by decide +kernel
theorem dX7_rumour_58 : decode cX7_rumour 58 = .ok (.ireturn, 1) := by decide +kernel
theorem dX7_rumour_59 : decode cX7_rumour 59 = .ok (.aload_n 0, 1) := by decide +kernel
theorem dX7_rumour_60 : decode cX7_rumour 60 = .ok (.getfield 13, 3) := by decide +kernel
theorem dX7_rumour_63 : decode cX7_rumour 63 = .ok (.iload_n 1, 1) := by decide +kernel
theorem dX7_rumour_64 : decode cX7_rumour 64 = .ok (.iaload, 1) := by decide +kernel
theorem dX7_rumour_65 : decode cX7_rumour 65 = .ok (.ireturn, 1) := by decide +kernel
theorem dX7_rumour_66 : decode cX7_rumour 66 = .ok (.aload_n 0, 1) := by decide +kernel
theorem dX7_rumour_67 : decode cX7_rumour 67 = .ok (.getfield 16, 3) := by decide +kernel
theorem dX7_rumour_70 : decode cX7_rumour 70 = .ok (.iload_n 1, 1) := by decide +kernel
theorem dX7_rumour_71 : decode cX7_rumour 71 = .ok (.iaload, 1) := by decide +kernel
theorem dX7_rumour_72 : decode cX7_rumour 72 = .ok (.ireturn, 1) := by decide +kernel
theorem dX7_rumour_73 : decode cX7_rumour 73 = .ok (.aload_n 0, 1) := by decide +kernel
theorem dX7_rumour_74 : decode cX7_rumour 74 = .ok (.getfield 25, 3) := by decide +kernel
theorem dX7_rumour_77 : decode cX7_rumour 77 = .ok (.iload_n 1, 1) := by decide +kernel
theorem dX7_rumour_78 : decode cX7_rumour 78 = .ok (.iaload, 1) := by decide +kernel
theorem dX7_rumour_79 : decode cX7_rumour 79 = .ok (.ireturn, 1) := by decide +kernel
theorem dX7_rumour_80 : decode cX7_rumour 80 = .ok (.aload_n 0, 1) := by decide +kernel
theorem dX7_rumour_81 : decode cX7_rumour 81 = .ok (.getfield 25, 3) := by decide +kernel
theorem dX7_rumour_84 : decode cX7_rumour 84 = .ok (.iconst 5, 1) := by decide +kernel
theorem dX7_rumour_85 : decode cX7_rumour 85 = .ok (.iload_n 1, 1) := by decide +kernel
theorem dX7_rumour_86 : decode cX7_rumour 86 = .ok (.iadd, 1) := by decide +kernel
theorem dX7_rumour_87 : decode cX7_rumour 87 = .ok (.iaload, 1) := by decide +kernel
theorem dX7_rumour_88 : decode cX7_rumour 88 = .ok (.ireturn, 1) := by decide +kernel
theorem dX7_rumour_89 : decode cX7_rumour 89 = .ok (.aload_n 0, 1) := by decide +kernel
theorem dX7_rumour_90 : decode cX7_rumour 90 = .ok (.getfield 19, 3) := by decide +kernel
theorem dX7_rumour_93 : decode cX7_rumour 93 = .ok (.iload_n 1, 1) := by decide +kernel
theorem dX7_rumour_94 : decode cX7_rumour 94 = .ok (.iaload, 1) := by decide +kernel
theorem dX7_rumour_95 : decode cX7_rumour 95 = .ok (.ireturn, 1) := by decide +kernel
theorem dX7_rumour_96 : decode cX7_rumour 96 = .ok (.aload_n 0, 1) := by decide +kernel
theorem dX7_rumour_97 : decode cX7_rumour 97 = .ok (.iconst 0, 1) := by decide +kernel
theorem dX7_rumour_98 : decode cX7_rumour 98 = .ok (.iload_n 1, 1) := by decide +kernel
theorem dX7_rumour_99 : decode cX7_rumour 99 = .ok (.invokevirtual 137, 3) := by decide +kernel
theorem dX7_rumour_102 : decode cX7_rumour 102 = .ok (.ifCond .eq 7, 3) := by decide +kernel
theorem dX7_rumour_105 : decode cX7_rumour 105 = .ok (.iconst 1, 1) := by decide +kernel
theorem dX7_rumour_106 : decode cX7_rumour 106 = .ok (.goto 4, 3) := by decide +kernel
theorem dX7_rumour_109 : decode cX7_rumour 109 = .ok (.iconst 0, 1) := by decide +kernel
theorem dX7_rumour_110 : decode cX7_rumour 110 = .ok (.ireturn, 1) := by decide +kernel
theorem dX7_rumour_111 : decode cX7_rumour 111 = .ok (.bipush (-2), 2) := by decide +kernel
theorem dX7_rumour_113 : decode cX7_rumour 113 = .ok (.ireturn, 1) := by decide +kernel
theorem dX7_table_0 : decode cX7_table 0 = .ok (.aload_n 0, 1) := by decide +kernel
theorem dX7_table_1 : decode cX7_table 1 = .ok (.iload_n 1, 1) := by decide +kernel
theorem dX7_table_2 : decode cX7_table 2 = .ok (.invokevirtual 147, 3) := by decide +kernel
theorem dX7_table_5 : decode cX7_table 5 = .ok (.ifCond .eq 12, 3) := by decide +kernel
theorem dX7_table_8 : decode cX7_table 8 = .ok (.aload_n 0, 1) := by decide +kernel
theorem dX7_table_9 : decode cX7_table 9 = .ok (.getfield 22, 3) := by decide +kernel
theorem dX7_table_12 : decode cX7_table 12 = .ok (.iload_n 1, 1) := by decide +kernel
theorem dX7_table_13 : decode cX7_table 13 = .ok (.iaload, 1) := by decide +kernel
theorem dX7_table_14 : decode cX7_table 14 = .ok (.goto 4, 3) := by decide +kernel
theorem dX7_table_17 : decode cX7_table 17 = .ok (.iconst (-1), 1) := by decide +kernel
theorem dX7_table_18 : decode cX7_table 18 = .ok (.ireturn, 1) := by decide +kernel
theorem dX7_coinAt_0 : decode cX7_coinAt 0 = .ok (.bipush 31, 2) := by decide +kernel
theorem dX7_coinAt_2 : decode cX7_coinAt 2 = .ok (.iload_n 1, 1) := by decide +kernel
theorem dX7_coinAt_3 : decode cX7_coinAt 3 = .ok (.imul, 1) := by decide +kernel
theorem dX7_coinAt_4 : decode cX7_coinAt 4 = .ok (.bipush 10, 2) := by decide +kernel
theorem dX7_coinAt_6 : decode cX7_coinAt 6 = .ok (.iadd, 1) := by decide +kernel
theorem dX7_coinAt_7 : decode cX7_coinAt 7 = .ok (.iconst 5, 1) := by decide +kernel
theorem dX7_coinAt_8 : decode cX7_coinAt 8 = .ok (.iload_n 2, 1) := by decide +kernel
theorem dX7_coinAt_9 : decode cX7_coinAt 9 = .ok (.imul, 1) := by decide +kernel
theorem dX7_coinAt_10 : decode cX7_coinAt 10 = .ok (.iadd, 1) := by decide +kernel
theorem dX7_coinAt_11 : decode cX7_coinAt 11 = .ok (.iload_n 3, 1) := by decide +kernel
theorem dX7_coinAt_12 : decode cX7_coinAt 12 = .ok (.iadd, 1) := by decide +kernel
theorem dX7_coinAt_13 : decode cX7_coinAt 13 = .ok (.ireturn, 1) := by decide +kernel
theorem dX7_coins_0 : decode cX7_coins 0 = .ok (.aload_n 0, 1) := by decide +kernel
theorem dX7_coins_1 : decode cX7_coins 1 = .ok (.iload_n 1, 1) := by decide +kernel
theorem dX7_coins_2 : decode cX7_coins 2 = .ok (.invokevirtual 147, 3) := by decide +kernel
theorem dX7_coins_5 : decode cX7_coins 5 = .ok (.ifCond .eq 26, 3) := by decide +kernel
theorem dX7_coins_8 : decode cX7_coins 8 = .ok (.aload_n 0, 1) := by decide +kernel
theorem dX7_coins_9 : decode cX7_coins 9 = .ok (.iload_n 2, 1) := by decide +kernel
theorem dX7_coins_10 : decode cX7_coins 10 = .ok (.invokevirtual 143, 3) := by decide +kernel
theorem dX7_coins_13 : decode cX7_coins 13 = .ok (.ifCond .eq 18, 3) := by decide +kernel
theorem dX7_coins_16 : decode cX7_coins 16 = .ok (.aload_n 0, 1) := by decide +kernel
theorem dX7_coins_17 : decode cX7_coins 17 = .ok (.getfield 25, 3) := by decide +kernel
theorem dX7_coins_20 : decode cX7_coins 20 = .ok (.aload_n 0, 1) := by decide +kernel
theorem dX7_coins_21 : decode cX7_coins 21 = .ok (.iconst 0, 1) := by decide +kernel
theorem dX7_coins_22 : decode cX7_coins 22 = .ok (.iload_n 1, 1) := by decide +kernel
theorem dX7_coins_23 : decode cX7_coins 23 = .ok (.iload_n 2, 1) := by decide +kernel
theorem dX7_coins_24 : decode cX7_coins 24 = .ok (.invokevirtual 150, 3) := by decide +kernel
theorem dX7_coins_27 : decode cX7_coins 27 = .ok (.iaload, 1) := by decide +kernel
theorem dX7_coins_28 : decode cX7_coins 28 = .ok (.goto 4, 3) := by decide +kernel
theorem dX7_coins_31 : decode cX7_coins 31 = .ok (.iconst (-1), 1) := by decide +kernel
theorem dX7_coins_32 : decode cX7_coins 32 = .ok (.ireturn, 1) := by decide +kernel
theorem dX7_dawnOn_0 : decode cX7_dawnOn 0 = .ok (.bipush 31, 2) := by decide +kernel
theorem dX7_dawnOn_2 : decode cX7_dawnOn 2 = .ok (.iload_n 1, 1) := by decide +kernel
theorem dX7_dawnOn_3 : decode cX7_dawnOn 3 = .ok (.imul, 1) := by decide +kernel
theorem dX7_dawnOn_4 : decode cX7_dawnOn 4 = .ok (.istore_n 2, 1) := by decide +kernel
theorem dX7_dawnOn_5 : decode cX7_dawnOn 5 = .ok (.iconst 0, 1) := by decide +kernel
theorem dX7_dawnOn_6 : decode cX7_dawnOn 6 = .ok (.istore_n 3, 1) := by decide +kernel
theorem dX7_dawnOn_7 : decode cX7_dawnOn 7 = .ok (.iconst 0, 1) := by decide +kernel
theorem dX7_dawnOn_8 : decode cX7_dawnOn 8 = .ok (.istore 4, 2) := by decide +kernel
theorem dX7_dawnOn_10 : decode cX7_dawnOn 10 = .ok (.iload 4, 2) := by decide +kernel
theorem dX7_dawnOn_12 : decode cX7_dawnOn 12 = .ok (.aload_n 0, 1) := by decide +kernel
theorem dX7_dawnOn_13 : decode cX7_dawnOn 13 = .ok (.getfield 129, 3) := by decide +kernel
theorem dX7_dawnOn_16 : decode cX7_dawnOn 16 = .ok (.if_icmp .ge 115, 3) := by decide +kernel
theorem dX7_dawnOn_19 : decode cX7_dawnOn 19 = .ok (.iconst 0, 1) := by decide +kernel
theorem dX7_dawnOn_20 : decode cX7_dawnOn 20 = .ok (.istore 5, 2) := by decide +kernel
theorem dX7_dawnOn_22 : decode cX7_dawnOn 22 = .ok (.iload 5, 2) := by decide +kernel
theorem dX7_dawnOn_24 : decode cX7_dawnOn 24 = .ok (.aload_n 0, 1) := by decide +kernel
theorem dX7_dawnOn_25 : decode cX7_dawnOn 25 = .ok (.getfield 77, 3) := by decide +kernel
theorem dX7_dawnOn_28 : decode cX7_dawnOn 28 = .ok (.if_icmp .ge 97, 3) := by decide +kernel
theorem dX7_dawnOn_31 : decode cX7_dawnOn 31 = .ok (.aload_n 0, 1) := by decide +kernel
theorem dX7_dawnOn_32 : decode cX7_dawnOn 32 = .ok (.getfield 25, 3) := by decide +kernel
theorem dX7_dawnOn_35 : decode cX7_dawnOn 35 = .ok (.iload_n 2, 1) := by decide +kernel
theorem dX7_dawnOn_36 : decode cX7_dawnOn 36 = .ok (.iload 5, 2) := by decide +kernel
theorem dX7_dawnOn_38 : decode cX7_dawnOn 38 = .ok (.iadd, 1) := by decide +kernel
theorem dX7_dawnOn_39 : decode cX7_dawnOn 39 = .ok (.iaload, 1) := by decide +kernel
theorem dX7_dawnOn_40 : decode cX7_dawnOn 40 = .ok (.aload_n 0, 1) := by decide +kernel
theorem dX7_dawnOn_41 : decode cX7_dawnOn 41 = .ok (.getfield 22, 3) := by decide +kernel
theorem dX7_dawnOn_44 : decode cX7_dawnOn 44 = .ok (.iload 4, 2) := by decide +kernel
theorem dX7_dawnOn_46 : decode cX7_dawnOn 46 = .ok (.iaload, 1) := by decide +kernel
theorem dX7_dawnOn_47 : decode cX7_dawnOn 47 = .ok (.invokestatic 98, 3) := by decide +kernel
theorem dX7_dawnOn_50 : decode cX7_dawnOn 50 = .ok (.ifCond .eq 26, 3) := by decide +kernel
theorem dX7_dawnOn_53 : decode cX7_dawnOn 53 = .ok (.aload_n 0, 1) := by decide +kernel
theorem dX7_dawnOn_54 : decode cX7_dawnOn 54 = .ok (.getfield 25, 3) := by decide +kernel
theorem dX7_dawnOn_57 : decode cX7_dawnOn 57 = .ok (.aload_n 0, 1) := by decide +kernel
theorem dX7_dawnOn_58 : decode cX7_dawnOn 58 = .ok (.iload_n 1, 1) := by decide +kernel
theorem dX7_dawnOn_59 : decode cX7_dawnOn 59 = .ok (.iload 4, 2) := by decide +kernel
theorem dX7_dawnOn_61 : decode cX7_dawnOn 61 = .ok (.iload 5, 2) := by decide +kernel
theorem dX7_dawnOn_63 : decode cX7_dawnOn 63 = .ok (.invokevirtual 150, 3) := by decide +kernel
theorem dX7_dawnOn_66 : decode cX7_dawnOn 66 = .ok (.iaload, 1) := by decide +kernel
theorem dX7_dawnOn_67 : decode cX7_dawnOn 67 = .ok (.bipush 99, 2) := by decide +kernel
theorem dX7_dawnOn_69 : decode cX7_dawnOn 69 = .ok (.if_icmp .ge 7, 3) := by decide +kernel
theorem dX7_dawnOn_72 : decode cX7_dawnOn 72 = .ok (.iconst 1, 1) := by decide +kernel
theorem dX7_dawnOn_73 : decode cX7_dawnOn 73 = .ok (.goto 4, 3) := by decide +kernel
theorem dX7_dawnOn_76 : decode cX7_dawnOn 76 = .ok (.iconst 0, 1) := by decide +kernel
theorem dX7_dawnOn_77 : decode cX7_dawnOn 77 = .ok (.istore 6, 2) := by decide +kernel
theorem dX7_dawnOn_79 : decode cX7_dawnOn 79 = .ok (.aload_n 0, 1) := by decide +kernel
theorem dX7_dawnOn_80 : decode cX7_dawnOn 80 = .ok (.getfield 25, 3) := by decide +kernel
theorem dX7_dawnOn_83 : decode cX7_dawnOn 83 = .ok (.aload_n 0, 1) := by decide +kernel
theorem dX7_dawnOn_84 : decode cX7_dawnOn 84 = .ok (.iload_n 1, 1) := by decide +kernel
theorem dX7_dawnOn_85 : decode cX7_dawnOn 85 = .ok (.iload 4, 2) := by decide +kernel
theorem dX7_dawnOn_87 : decode cX7_dawnOn 87 = .ok (.iload 5, 2) := by decide +kernel
theorem dX7_dawnOn_89 : decode cX7_dawnOn 89 = .ok (.invokevirtual 150, 3) := by decide +kernel
theorem dX7_dawnOn_92 : decode cX7_dawnOn 92 = .ok (.dup2, 1) := by decide +kernel
theorem dX7_dawnOn_93 : decode cX7_dawnOn 93 = .ok (.iaload, 1) := by decide +kernel
theorem dX7_dawnOn_94 : decode cX7_dawnOn 94 = .ok (.iload 6, 2) := by decide +kernel
theorem dX7_dawnOn_96 : decode cX7_dawnOn 96 = .ok (.ifCond .eq 7, 3) := by decide +kernel
theorem dX7_dawnOn_99 : decode cX7_dawnOn 99 = .ok (.iconst 1, 1) := by decide +kernel
theorem dX7_dawnOn_100 : decode cX7_dawnOn 100 = .ok (.goto 4, 3) := by decide +kernel
theorem dX7_dawnOn_103 : decode cX7_dawnOn 103 = .ok (.iconst 0, 1) := by decide +kernel
theorem dX7_dawnOn_104 : decode cX7_dawnOn 104 = .ok (.iadd, 1) := by decide +kernel
theorem dX7_dawnOn_105 : decode cX7_dawnOn 105 = .ok (.iastore, 1) := by decide +kernel
theorem dX7_dawnOn_106 : decode cX7_dawnOn 106 = .ok (.iload_n 3, 1) := by decide +kernel
theorem dX7_dawnOn_107 : decode cX7_dawnOn 107 = .ok (.iload 6, 2) := by decide +kernel
theorem dX7_dawnOn_109 : decode cX7_dawnOn 109 = .ok (.ifCond .eq 7, 3) := by decide +kernel
theorem dX7_dawnOn_112 : decode cX7_dawnOn 112 = .ok (.iconst 1, 1) := by decide +kernel
theorem dX7_dawnOn_113 : decode cX7_dawnOn 113 = .ok (.goto 4, 3) := by decide +kernel
theorem dX7_dawnOn_116 : decode cX7_dawnOn 116 = .ok (.iconst 0, 1) := by decide +kernel
theorem dX7_dawnOn_117 : decode cX7_dawnOn 117 = .ok (.iadd, 1) := by decide +kernel
theorem dX7_dawnOn_118 : decode cX7_dawnOn 118 = .ok (.istore_n 3, 1) := by decide +kernel
theorem dX7_dawnOn_119 : decode cX7_dawnOn 119 = .ok (.iinc 5 1, 3) := by decide +kernel
theorem dX7_dawnOn_122 : decode cX7_dawnOn 122 = .ok (.goto (-100), 3) := by decide +kernel
theorem dX7_dawnOn_125 : decode cX7_dawnOn 125 = .ok (.iinc 4 1, 3) := by decide +kernel
theorem dX7_dawnOn_128 : decode cX7_dawnOn 128 = .ok (.goto (-118), 3) := by decide +kernel
theorem dX7_dawnOn_131 : decode cX7_dawnOn 131 = .ok (.aload_n 0, 1) := by decide +kernel
theorem dX7_dawnOn_132 : decode cX7_dawnOn 132 = .ok (.getfield 25, 3) := by decide +kernel
theorem dX7_dawnOn_135 : decode cX7_dawnOn 135 = .ok (.iload_n 2, 1) := by decide +kernel
theorem dX7_dawnOn_136 : decode cX7_dawnOn 136 = .ok (.bipush 30, 2) := by decide +kernel
theorem dX7_dawnOn_138 : decode cX7_dawnOn 138 = .ok (.iadd, 1) := by decide +kernel
theorem dX7_dawnOn_139 : decode cX7_dawnOn 139 = .ok (.dup2, 1) := by decide +kernel
theorem dX7_dawnOn_140 : decode cX7_dawnOn 140 = .ok (.iaload, 1) := by decide +kernel
theorem dX7_dawnOn_141 : decode cX7_dawnOn 141 = .ok (.iconst 1, 1) := by decide +kernel
theorem dX7_dawnOn_142 : decode cX7_dawnOn 142 = .ok (.iadd, 1) := by decide +kernel
theorem dX7_dawnOn_143 : decode cX7_dawnOn 143 = .ok (.iastore, 1) := by decide +kernel
theorem dX7_dawnOn_144 : decode cX7_dawnOn 144 = .ok (.iconst 0, 1) := by decide +kernel
theorem dX7_dawnOn_145 : decode cX7_dawnOn 145 = .ok (.istore 4, 2) := by decide +kernel
theorem dX7_dawnOn_147 : decode cX7_dawnOn 147 = .ok (.iload 4, 2) := by decide +kernel
theorem dX7_dawnOn_149 : decode cX7_dawnOn 149 = .ok (.aload_n 0, 1) := by decide +kernel
theorem dX7_dawnOn_150 : decode cX7_dawnOn 150 = .ok (.getfield 77, 3) := by decide +kernel
theorem dX7_dawnOn_153 : decode cX7_dawnOn 153 = .ok (.if_icmp .ge 87, 3) := by decide +kernel
theorem dX7_dawnOn_156 : decode cX7_dawnOn 156 = .ok (.aload_n 0, 1) := by decide +kernel
theorem dX7_dawnOn_157 : decode cX7_dawnOn 157 = .ok (.getfield 25, 3) := by decide +kernel
theorem dX7_dawnOn_160 : decode cX7_dawnOn 160 = .ok (.iload_n 2, 1) := by decide +kernel
theorem dX7_dawnOn_161 : decode cX7_dawnOn 161 = .ok (.iload 4, 2) := by decide +kernel
theorem dX7_dawnOn_163 : decode cX7_dawnOn 163 = .ok (.iadd, 1) := by decide +kernel
theorem dX7_dawnOn_164 : decode cX7_dawnOn 164 = .ok (.iaload, 1) := by decide +kernel
theorem dX7_dawnOn_165 : decode cX7_dawnOn 165 = .ok (.istore 5, 2) := by decide +kernel
theorem dX7_dawnOn_167 : decode cX7_dawnOn 167 = .ok (.iload 5, 2) := by decide +kernel
theorem dX7_dawnOn_169 : decode cX7_dawnOn 169 = .ok (.iload 5, 2) := by decide +kernel
theorem dX7_dawnOn_171 : decode cX7_dawnOn 171 = .ok (.iconst 1, 1) := by decide +kernel
theorem dX7_dawnOn_172 : decode cX7_dawnOn 172 = .ok (.ishl, 1) := by decide +kernel
theorem dX7_dawnOn_173 : decode cX7_dawnOn 173 = .ok (.ior, 1) := by decide +kernel
theorem dX7_dawnOn_174 : decode cX7_dawnOn 174 = .ok (.iload 5, 2) := by decide +kernel
theorem dX7_dawnOn_176 : decode cX7_dawnOn 176 = .ok (.iconst 1, 1) := by decide +kernel
theorem dX7_dawnOn_177 : decode cX7_dawnOn 177 = .ok (.ishr, 1) := by decide +kernel
theorem dX7_dawnOn_178 : decode cX7_dawnOn 178 = .ok (.ior, 1) := by decide +kernel
theorem dX7_dawnOn_179 : decode cX7_dawnOn 179 = .ok (.bipush 63, 2) := by decide +kernel
theorem dX7_dawnOn_181 : decode cX7_dawnOn 181 = .ok (.iand, 1) := by decide +kernel
theorem dX7_dawnOn_182 : decode cX7_dawnOn 182 = .ok (.aload_n 0, 1) := by decide +kernel
theorem dX7_dawnOn_183 : decode cX7_dawnOn 183 = .ok (.getfield 25, 3) := by decide +kernel
theorem dX7_dawnOn_186 : decode cX7_dawnOn 186 = .ok (.iload_n 2, 1) := by decide +kernel
theorem dX7_dawnOn_187 : decode cX7_dawnOn 187 = .ok (.iconst 5, 1) := by decide +kernel
theorem dX7_dawnOn_188 : decode cX7_dawnOn 188 = .ok (.iadd, 1) := by decide +kernel
theorem dX7_dawnOn_189 : decode cX7_dawnOn 189 = .ok (.iload 4, 2) := by decide +kernel
theorem dX7_dawnOn_191 : decode cX7_dawnOn 191 = .ok (.iadd, 1) := by decide +kernel
theorem dX7_dawnOn_192 : decode cX7_dawnOn 192 = .ok (.iaload, 1) := by decide +kernel
theorem dX7_dawnOn_193 : decode cX7_dawnOn 193 = .ok (.iconst (-1), 1) := by decide +kernel
theorem dX7_dawnOn_194 : decode cX7_dawnOn 194 = .ok (.ixor, 1) := by decide +kernel
theorem dX7_dawnOn_195 : decode cX7_dawnOn 195 = .ok (.iand, 1) := by decide +kernel
theorem dX7_dawnOn_196 : decode cX7_dawnOn 196 = .ok (.istore 6, 2) := by decide +kernel
theorem dX7_dawnOn_198 : decode cX7_dawnOn 198 = .ok (.aload_n 0, 1) := by decide +kernel
theorem dX7_dawnOn_199 : decode cX7_dawnOn 199 = .ok (.getfield 25, 3) := by decide +kernel
theorem dX7_dawnOn_202 : decode cX7_dawnOn 202 = .ok (.iload_n 2, 1) := by decide +kernel
theorem dX7_dawnOn_203 : decode cX7_dawnOn 203 = .ok (.iload 4, 2) := by decide +kernel
theorem dX7_dawnOn_205 : decode cX7_dawnOn 205 = .ok (.iadd, 1) := by decide +kernel
theorem dX7_dawnOn_206 : decode cX7_dawnOn 206 = .ok (.aload_n 0, 1) := by decide +kernel
theorem dX7_dawnOn_207 : decode cX7_dawnOn 207 = .ok (.getfield 13, 3) := by decide +kernel
theorem dX7_dawnOn_210 : decode cX7_dawnOn 210 = .ok (.iload 4, 2) := by decide +kernel
theorem dX7_dawnOn_212 : decode cX7_dawnOn 212 = .ok (.iaload, 1) := by decide +kernel
theorem dX7_dawnOn_213 : decode cX7_dawnOn 213 = .ok (.iconst 1, 1) := by decide +kernel
theorem dX7_dawnOn_214 : decode cX7_dawnOn 214 = .ok (.if_icmp .ne 17, 3) := by decide +kernel
theorem dX7_dawnOn_217 : decode cX7_dawnOn 217 = .ok (.aload_n 0, 1) := by decide +kernel
theorem dX7_dawnOn_218 : decode cX7_dawnOn 218 = .ok (.iload_n 1, 1) := by decide +kernel
theorem dX7_dawnOn_219 : decode cX7_dawnOn 219 = .ok (.iload 4, 2) := by decide +kernel
theorem dX7_dawnOn_221 : decode cX7_dawnOn 221 = .ok (.invokevirtual 137, 3) := by decide +kernel
theorem dX7_dawnOn_224 : decode cX7_dawnOn 224 = .ok (.ifCond .eq 7, 3) := by decide +kernel
theorem dX7_dawnOn_227 : decode cX7_dawnOn 227 = .ok (.iconst 0, 1) := by decide +kernel
theorem dX7_dawnOn_228 : decode cX7_dawnOn 228 = .ok (.goto 5, 3) := by decide +kernel
theorem dX7_dawnOn_231 : decode cX7_dawnOn 231 = .ok (.iload 6, 2) := by decide +kernel
theorem dX7_dawnOn_233 : decode cX7_dawnOn 233 = .ok (.iastore, 1) := by decide +kernel
theorem dX7_dawnOn_234 : decode cX7_dawnOn 234 = .ok (.iinc 4 1, 3) := by decide +kernel
theorem dX7_dawnOn_237 : decode cX7_dawnOn 237 = .ok (.goto (-90), 3) := by decide +kernel
theorem dX7_dawnOn_240 : decode cX7_dawnOn 240 = .ok (.iload_n 3, 1) := by decide +kernel
theorem dX7_dawnOn_241 : decode cX7_dawnOn 241 = .ok (.ireturn, 1) := by decide +kernel
theorem dX7_canSay_0 : decode cX7_canSay 0 = .ok (.bipush 31, 2) := by decide +kernel
theorem dX7_canSay_2 : decode cX7_canSay 2 = .ok (.iload_n 1, 1) := by decide +kernel
theorem dX7_canSay_3 : decode cX7_canSay 3 = .ok (.imul, 1) := by decide +kernel
theorem dX7_canSay_4 : decode cX7_canSay 4 = .ok (.istore 4, 2) := by decide +kernel
theorem dX7_canSay_6 : decode cX7_canSay 6 = .ok (.aload_n 0, 1) := by decide +kernel
theorem dX7_canSay_7 : decode cX7_canSay 7 = .ok (.iload_n 1, 1) := by decide +kernel
theorem dX7_canSay_8 : decode cX7_canSay 8 = .ok (.iload_n 2, 1) := by decide +kernel
theorem dX7_canSay_9 : decode cX7_canSay 9 = .ok (.invokevirtual 137, 3) := by decide +kernel
theorem dX7_canSay_12 : decode cX7_canSay 12 = .ok (.ifCond .ne 41, 3) := by decide +kernel
theorem dX7_canSay_15 : decode cX7_canSay 15 = .ok (.aload_n 0, 1) := by decide +kernel
theorem dX7_canSay_16 : decode cX7_canSay 16 = .ok (.getfield 25, 3) := by decide +kernel
theorem dX7_canSay_19 : decode cX7_canSay 19 = .ok (.iload 4, 2) := by decide +kernel
theorem dX7_canSay_21 : decode cX7_canSay 21 = .ok (.iload_n 2, 1) := by decide +kernel
theorem dX7_canSay_22 : decode cX7_canSay 22 = .ok (.iadd, 1) := by decide +kernel
theorem dX7_canSay_23 : decode cX7_canSay 23 = .ok (.iaload, 1) := by decide +kernel
theorem dX7_canSay_24 : decode cX7_canSay 24 = .ok (.iload_n 3, 1) := by decide +kernel
theorem dX7_canSay_25 : decode cX7_canSay 25 = .ok (.invokestatic 98, 3) := by decide +kernel
theorem dX7_canSay_28 : decode cX7_canSay 28 = .ok (.ifCond .ne 25, 3) := by decide +kernel
theorem dX7_canSay_31 : decode cX7_canSay 31 = .ok (.aload_n 0, 1) := by decide +kernel
theorem dX7_canSay_32 : decode cX7_canSay 32 = .ok (.getfield 25, 3) := by decide +kernel
theorem dX7_canSay_35 : decode cX7_canSay 35 = .ok (.iload 4, 2) := by decide +kernel
theorem dX7_canSay_37 : decode cX7_canSay 37 = .ok (.iconst 5, 1) := by decide +kernel
theorem dX7_canSay_38 : decode cX7_canSay 38 = .ok (.iadd, 1) := by decide +kernel
theorem dX7_canSay_39 : decode cX7_canSay 39 = .ok (.iload_n 2, 1) := by decide +kernel
theorem dX7_canSay_40 : decode cX7_canSay 40 = .ok (.iadd, 1) := by decide +kernel
theorem dX7_canSay_41 : decode cX7_canSay 41 = .ok (.iaload, 1) := by decide +kernel
theorem dX7_canSay_42 : decode cX7_canSay 42 = .ok (.iload_n 3, 1) := by decide +kernel
theorem dX7_canSay_43 : decode cX7_canSay 43 = .ok (.invokestatic 98, 3) := by decide +kernel
theorem dX7_canSay_46 : decode cX7_canSay 46 = .ok (.ifCond .ne 7, 3) := by decide +kernel
theorem dX7_canSay_49 : decode cX7_canSay 49 = .ok (.iconst 1, 1) := by decide +kernel
theorem dX7_canSay_50 : decode cX7_canSay 50 = .ok (.goto 4, 3) := by decide +kernel
theorem dX7_canSay_53 : decode cX7_canSay 53 = .ok (.iconst 0, 1) := by decide +kernel
theorem dX7_canSay_54 : decode cX7_canSay 54 = .ok (.ireturn, 1) := by decide +kernel
theorem dX7_canDeny_0 : decode cX7_canDeny 0 = .ok (.aload_n 0, 1) := by decide +kernel
theorem dX7_canDeny_1 : decode cX7_canDeny 1 = .ok (.iload_n 1, 1) := by decide +kernel
theorem dX7_canDeny_2 : decode cX7_canDeny 2 = .ok (.iload_n 2, 1) := by decide +kernel
theorem dX7_canDeny_3 : decode cX7_canDeny 3 = .ok (.invokevirtual 137, 3) := by decide +kernel
theorem dX7_canDeny_6 : decode cX7_canDeny 6 = .ok (.ifCond .eq 12, 3) := by decide +kernel
theorem dX7_canDeny_9 : decode cX7_canDeny 9 = .ok (.aload_n 0, 1) := by decide +kernel
theorem dX7_canDeny_10 : decode cX7_canDeny 10 = .ok (.getfield 13, 3) := by decide +kernel
theorem dX7_canDeny_13 : decode cX7_canDeny 13 = .ok (.iload_n 2, 1) := by decide +kernel
theorem dX7_canDeny_14 : decode cX7_canDeny 14 = .ok (.iaload, 1) := by decide +kernel
theorem dX7_canDeny_15 : decode cX7_canDeny 15 = .ok (.ifCond .eq 27, 3) := by decide +kernel
theorem dX7_canDeny_18 : decode cX7_canDeny 18 = .ok (.aload_n 0, 1) := by decide +kernel
theorem dX7_canDeny_19 : decode cX7_canDeny 19 = .ok (.getfield 25, 3) := by decide +kernel
theorem dX7_canDeny_22 : decode cX7_canDeny 22 = .ok (.bipush 31, 2) := by decide +kernel
theorem dX7_canDeny_24 : decode cX7_canDeny 24 = .ok (.iload_n 1, 1) := by decide +kernel
theorem dX7_canDeny_25 : decode cX7_canDeny 25 = .ok (.imul, 1) := by decide +kernel
theorem dX7_canDeny_26 : decode cX7_canDeny 26 = .ok (.iconst 5, 1) := by decide +kernel
theorem dX7_canDeny_27 : decode cX7_canDeny 27 = .ok (.iadd, 1) := by decide +kernel
theorem dX7_canDeny_28 : decode cX7_canDeny 28 = .ok (.iload_n 2, 1) := by decide +kernel
theorem dX7_canDeny_29 : decode cX7_canDeny 29 = .ok (.iadd, 1) := by decide +kernel
theorem dX7_canDeny_30 : decode cX7_canDeny 30 = .ok (.iaload, 1) := by decide +kernel
theorem dX7_canDeny_31 : decode cX7_canDeny 31 = .ok (.iload_n 3, 1) := by decide +kernel
theorem dX7_canDeny_32 : decode cX7_canDeny 32 = .ok (.invokestatic 98, 3) := by decide +kernel
theorem dX7_canDeny_35 : decode cX7_canDeny 35 = .ok (.ifCond .ne 7, 3) := by decide +kernel
theorem dX7_canDeny_38 : decode cX7_canDeny 38 = .ok (.iconst 1, 1) := by decide +kernel
theorem dX7_canDeny_39 : decode cX7_canDeny 39 = .ok (.goto 4, 3) := by decide +kernel
theorem dX7_canDeny_42 : decode cX7_canDeny 42 = .ok (.iconst 0, 1) := by decide +kernel
theorem dX7_canDeny_43 : decode cX7_canDeny 43 = .ok (.ireturn, 1) := by decide +kernel
theorem dX7_denyOn_0 : decode cX7_denyOn 0 = .ok (.aload_n 0, 1) := by decide +kernel
theorem dX7_denyOn_1 : decode cX7_denyOn 1 = .ok (.getfield 25, 3) := by decide +kernel
theorem dX7_denyOn_4 : decode cX7_denyOn 4 = .ok (.bipush 31, 2) := by decide +kernel
theorem dX7_denyOn_6 : decode cX7_denyOn 6 = .ok (.iload_n 1, 1) := by decide +kernel
theorem dX7_denyOn_7 : decode cX7_denyOn 7 = .ok (.imul, 1) := by decide +kernel
theorem dX7_denyOn_8 : decode cX7_denyOn 8 = .ok (.iconst 5, 1) := by decide +kernel
theorem dX7_denyOn_9 : decode cX7_denyOn 9 = .ok (.iadd, 1) := by decide +kernel
theorem dX7_denyOn_10 : decode cX7_denyOn 10 = .ok (.iload_n 2, 1) := by decide +kernel
theorem dX7_denyOn_11 : decode cX7_denyOn 11 = .ok (.iadd, 1) := by decide +kernel
theorem dX7_denyOn_12 : decode cX7_denyOn 12 = .ok (.dup2, 1) := by decide +kernel
theorem dX7_denyOn_13 : decode cX7_denyOn 13 = .ok (.iaload, 1) := by decide +kernel
theorem dX7_denyOn_14 : decode cX7_denyOn 14 = .ok (.iconst 1, 1) := by decide +kernel
theorem dX7_denyOn_15 : decode cX7_denyOn 15 = .ok (.iload_n 3, 1) := by decide +kernel
theorem dX7_denyOn_16 : decode cX7_denyOn 16 = .ok (.ishl, 1) := by decide +kernel
theorem dX7_denyOn_17 : decode cX7_denyOn 17 = .ok (.ior, 1) := by decide +kernel
theorem dX7_denyOn_18 : decode cX7_denyOn 18 = .ok (.iastore, 1) := by decide +kernel
theorem dX7_denyOn_19 : decode cX7_denyOn 19 = .ok (.aload_n 0, 1) := by decide +kernel
theorem dX7_denyOn_20 : decode cX7_denyOn 20 = .ok (.getfield 25, 3) := by decide +kernel
theorem dX7_denyOn_23 : decode cX7_denyOn 23 = .ok (.bipush 31, 2) := by decide +kernel
theorem dX7_denyOn_25 : decode cX7_denyOn 25 = .ok (.iload_n 1, 1) := by decide +kernel
theorem dX7_denyOn_26 : decode cX7_denyOn 26 = .ok (.imul, 1) := by decide +kernel
theorem dX7_denyOn_27 : decode cX7_denyOn 27 = .ok (.iload_n 2, 1) := by decide +kernel
theorem dX7_denyOn_28 : decode cX7_denyOn 28 = .ok (.iadd, 1) := by decide +kernel
theorem dX7_denyOn_29 : decode cX7_denyOn 29 = .ok (.dup2, 1) := by decide +kernel
theorem dX7_denyOn_30 : decode cX7_denyOn 30 = .ok (.iaload, 1) := by decide +kernel
theorem dX7_denyOn_31 : decode cX7_denyOn 31 = .ok (.iconst 1, 1) := by decide +kernel
theorem dX7_denyOn_32 : decode cX7_denyOn 32 = .ok (.iload_n 3, 1) := by decide +kernel
theorem dX7_denyOn_33 : decode cX7_denyOn 33 = .ok (.ishl, 1) := by decide +kernel
theorem dX7_denyOn_34 : decode cX7_denyOn 34 = .ok (.iconst (-1), 1) := by decide +kernel
theorem dX7_denyOn_35 : decode cX7_denyOn 35 = .ok (.ixor, 1) := by decide +kernel
theorem dX7_denyOn_36 : decode cX7_denyOn 36 = .ok (.iand, 1) := by decide +kernel
theorem dX7_denyOn_37 : decode cX7_denyOn 37 = .ok (.iastore, 1) := by decide +kernel
theorem dX7_denyOn_38 : decode cX7_denyOn 38 = .ok (.return_, 1) := by decide +kernel
theorem dX7_keepAct_0 : decode cX7_keepAct 0 = .ok (.iconst 0, 1) := by decide +kernel
theorem dX7_keepAct_1 : decode cX7_keepAct 1 = .ok (.istore_n 1, 1) := by decide +kernel
theorem dX7_keepAct_2 : decode cX7_keepAct 2 = .ok (.iload_n 1, 1) := by decide +kernel
theorem dX7_keepAct_3 : decode cX7_keepAct 3 = .ok (.bipush 31, 2) := by decide +kernel
theorem dX7_keepAct_5 : decode cX7_keepAct 5 = .ok (.if_icmp .ge 29, 3) := by decide +kernel
theorem dX7_keepAct_8 : decode cX7_keepAct 8 = .ok (.aload_n 0, 1) := by decide +kernel
theorem dX7_keepAct_9 : decode cX7_keepAct 9 = .ok (.getfield 49, 3) := by decide +kernel
theorem dX7_keepAct_12 : decode cX7_keepAct 12 = .ok (.bipush 31, 2) := by decide +kernel
theorem dX7_keepAct_14 : decode cX7_keepAct 14 = .ok (.aload_n 0, 1) := by decide +kernel
theorem dX7_keepAct_15 : decode cX7_keepAct 15 = .ok (.getfield 154, 3) := by decide +kernel
theorem dX7_keepAct_18 : decode cX7_keepAct 18 = .ok (.imul, 1) := by decide +kernel
theorem dX7_keepAct_19 : decode cX7_keepAct 19 = .ok (.iload_n 1, 1) := by decide +kernel
theorem dX7_keepAct_20 : decode cX7_keepAct 20 = .ok (.iadd, 1) := by decide +kernel
theorem dX7_keepAct_21 : decode cX7_keepAct 21 = .ok (.aload_n 0, 1) := by decide +kernel
theorem dX7_keepAct_22 : decode cX7_keepAct 22 = .ok (.getfield 25, 3) := by decide +kernel
theorem dX7_keepAct_25 : decode cX7_keepAct 25 = .ok (.iload_n 1, 1) := by decide +kernel
theorem dX7_keepAct_26 : decode cX7_keepAct 26 = .ok (.iaload, 1) := by decide +kernel
theorem dX7_keepAct_27 : decode cX7_keepAct 27 = .ok (.iastore, 1) := by decide +kernel
theorem dX7_keepAct_28 : decode cX7_keepAct 28 = .ok (.iinc 1 1, 3) := by decide +kernel
theorem dX7_keepAct_31 : decode cX7_keepAct 31 = .ok (.goto (-29), 3) := by decide +kernel
theorem dX7_keepAct_34 : decode cX7_keepAct 34 = .ok (.aload_n 0, 1) := by decide +kernel
theorem dX7_keepAct_35 : decode cX7_keepAct 35 = .ok (.aload_n 0, 1) := by decide +kernel
theorem dX7_keepAct_36 : decode cX7_keepAct 36 = .ok (.getfield 154, 3) := by decide +kernel
theorem dX7_keepAct_39 : decode cX7_keepAct 39 = .ok (.iconst 1, 1) := by decide +kernel
theorem dX7_keepAct_40 : decode cX7_keepAct 40 = .ok (.iadd, 1) := by decide +kernel
theorem dX7_keepAct_41 : decode cX7_keepAct 41 = .ok (.bipush 14, 2) := by decide +kernel
theorem dX7_keepAct_43 : decode cX7_keepAct 43 = .ok (.irem, 1) := by decide +kernel
theorem dX7_keepAct_44 : decode cX7_keepAct 44 = .ok (.putfield 154, 3) := by decide +kernel
theorem dX7_keepAct_47 : decode cX7_keepAct 47 = .ok (.aload_n 0, 1) := by decide +kernel
theorem dX7_keepAct_48 : decode cX7_keepAct 48 = .ok (.aload_n 0, 1) := by decide +kernel
theorem dX7_keepAct_49 : decode cX7_keepAct 49 = .ok (.getfield 132, 3) := by decide +kernel
theorem dX7_keepAct_52 : decode cX7_keepAct 52 = .ok (.bipush 14, 2) := by decide +kernel
theorem dX7_keepAct_54 : decode cX7_keepAct 54 = .ok (.if_icmp .ge 12, 3) := by decide +kernel
theorem dX7_keepAct_57 : decode cX7_keepAct 57 = .ok (.aload_n 0, 1) := by decide +kernel
theorem dX7_keepAct_58 : decode cX7_keepAct 58 = .ok (.getfield 132, 3) := by decide +kernel
theorem dX7_keepAct_61 : decode cX7_keepAct 61 = .ok (.iconst 1, 1) := by decide +kernel
theorem dX7_keepAct_62 : decode cX7_keepAct 62 = .ok (.iadd, 1) := by decide +kernel
theorem dX7_keepAct_63 : decode cX7_keepAct 63 = .ok (.goto 5, 3) := by decide +kernel
theorem dX7_keepAct_66 : decode cX7_keepAct 66 = .ok (.bipush 14, 2) := by decide +kernel
theorem dX7_keepAct_68 : decode cX7_keepAct 68 = .ok (.putfield 132, 3) := by decide +kernel
theorem dX7_keepAct_71 : decode cX7_keepAct 71 = .ok (.return_, 1) := by decide +kernel
theorem dX7_dawn_0 : decode cX7_dawn 0 = .ok (.aload_n 0, 1) := by decide +kernel
theorem dX7_dawn_1 : decode cX7_dawn 1 = .ok (.invokevirtual 157, 3) := by decide +kernel
theorem dX7_dawn_4 : decode cX7_dawn 4 = .ok (.aload_n 0, 1) := by decide +kernel
theorem dX7_dawn_5 : decode cX7_dawn 5 = .ok (.iconst 0, 1) := by decide +kernel
theorem dX7_dawn_6 : decode cX7_dawn 6 = .ok (.invokevirtual 160, 3) := by decide +kernel
theorem dX7_dawn_9 : decode cX7_dawn 9 = .ok (.ireturn, 1) := by decide +kernel
theorem dX7_say_0 : decode cX7_say 0 = .ok (.aload_n 0, 1) := by decide +kernel
theorem dX7_say_1 : decode cX7_say 1 = .ok (.iload_n 1, 1) := by decide +kernel
theorem dX7_say_2 : decode cX7_say 2 = .ok (.invokevirtual 143, 3) := by decide +kernel
theorem dX7_say_5 : decode cX7_say 5 = .ok (.ifCond .ne 5, 3) := by decide +kernel
theorem dX7_say_8 : decode cX7_say 8 = .ok (.iconst (-1), 1) := by decide +kernel
theorem dX7_say_9 : decode cX7_say 9 = .ok (.ireturn, 1) := by decide +kernel
theorem dX7_say_10 : decode cX7_say 10 = .ok (.iload_n 2, 1) := by decide +kernel
theorem dX7_say_11 : decode cX7_say 11 = .ok (.invokestatic 163, 3) := by decide +kernel
theorem dX7_say_14 : decode cX7_say 14 = .ok (.ifCond .ne 6, 3) := by decide +kernel
theorem dX7_say_17 : decode cX7_say 17 = .ok (.bipush (-2), 2) := by decide +kernel
theorem dX7_say_19 : decode cX7_say 19 = .ok (.ireturn, 1) := by decide +kernel
theorem dX7_say_20 : decode cX7_say 20 = .ok (.aload_n 0, 1) := by decide +kernel
theorem dX7_say_21 : decode cX7_say 21 = .ok (.iconst 0, 1) := by decide +kernel
theorem dX7_say_22 : decode cX7_say 22 = .ok (.iload_n 1, 1) := by decide +kernel
theorem dX7_say_23 : decode cX7_say 23 = .ok (.iload_n 2, 1) := by decide +kernel
theorem dX7_say_24 : decode cX7_say 24 = .ok (.invokevirtual 166, 3) := by decide +kernel
theorem dX7_say_27 : decode cX7_say 27 = .ok (.ifCond .ne 6, 3) := by decide +kernel
theorem dX7_say_30 : decode cX7_say 30 = .ok (.bipush (-3), 2) := by decide +kernel
theorem dX7_say_32 : decode cX7_say 32 = .ok (.ireturn, 1) := by decide +kernel
theorem dX7_say_33 : decode cX7_say 33 = .ok (.aload_n 0, 1) := by decide +kernel
theorem dX7_say_34 : decode cX7_say 34 = .ok (.invokevirtual 157, 3) := by decide +kernel
theorem dX7_say_37 : decode cX7_say 37 = .ok (.aload_n 0, 1) := by decide +kernel
theorem dX7_say_38 : decode cX7_say 38 = .ok (.getfield 25, 3) := by decide +kernel
theorem dX7_say_41 : decode cX7_say 41 = .ok (.iload_n 1, 1) := by decide +kernel
theorem dX7_say_42 : decode cX7_say 42 = .ok (.dup2, 1) := by decide +kernel
theorem dX7_say_43 : decode cX7_say 43 = .ok (.iaload, 1) := by decide +kernel
theorem dX7_say_44 : decode cX7_say 44 = .ok (.iconst 1, 1) := by decide +kernel
theorem dX7_say_45 : decode cX7_say 45 = .ok (.iload_n 2, 1) := by decide +kernel
theorem dX7_say_46 : decode cX7_say 46 = .ok (.ishl, 1) := by decide +kernel
theorem dX7_say_47 : decode cX7_say 47 = .ok (.ior, 1) := by decide +kernel
theorem dX7_say_48 : decode cX7_say 48 = .ok (.iastore, 1) := by decide +kernel
theorem dX7_say_49 : decode cX7_say 49 = .ok (.aload_n 0, 1) := by decide +kernel
theorem dX7_say_50 : decode cX7_say 50 = .ok (.getfield 25, 3) := by decide +kernel
theorem dX7_say_53 : decode cX7_say 53 = .ok (.iload_n 1, 1) := by decide +kernel
theorem dX7_say_54 : decode cX7_say 54 = .ok (.iaload, 1) := by decide +kernel
theorem dX7_say_55 : decode cX7_say 55 = .ok (.invokestatic 140, 3) := by decide +kernel
theorem dX7_say_58 : decode cX7_say 58 = .ok (.ireturn, 1) := by decide +kernel
theorem dX7_deny_0 : decode cX7_deny 0 = .ok (.aload_n 0, 1) := by decide +kernel
theorem dX7_deny_1 : decode cX7_deny 1 = .ok (.iload_n 1, 1) := by decide +kernel
theorem dX7_deny_2 : decode cX7_deny 2 = .ok (.invokevirtual 143, 3) := by decide +kernel
theorem dX7_deny_5 : decode cX7_deny 5 = .ok (.ifCond .ne 5, 3) := by decide +kernel
theorem dX7_deny_8 : decode cX7_deny 8 = .ok (.iconst (-1), 1) := by decide +kernel
theorem dX7_deny_9 : decode cX7_deny 9 = .ok (.ireturn, 1) := by decide +kernel
theorem dX7_deny_10 : decode cX7_deny 10 = .ok (.iload_n 2, 1) := by decide +kernel
theorem dX7_deny_11 : decode cX7_deny 11 = .ok (.invokestatic 163, 3) := by decide +kernel
theorem dX7_deny_14 : decode cX7_deny 14 = .ok (.ifCond .ne 6, 3) := by decide +kernel
theorem dX7_deny_17 : decode cX7_deny 17 = .ok (.bipush (-2), 2) := by decide +kernel
theorem dX7_deny_19 : decode cX7_deny 19 = .ok (.ireturn, 1) := by decide +kernel
theorem dX7_deny_20 : decode cX7_deny 20 = .ok (.aload_n 0, 1) := by decide +kernel
theorem dX7_deny_21 : decode cX7_deny 21 = .ok (.iconst 0, 1) := by decide +kernel
theorem dX7_deny_22 : decode cX7_deny 22 = .ok (.iload_n 1, 1) := by decide +kernel
theorem dX7_deny_23 : decode cX7_deny 23 = .ok (.iload_n 2, 1) := by decide +kernel
theorem dX7_deny_24 : decode cX7_deny 24 = .ok (.invokevirtual 170, 3) := by decide +kernel
theorem dX7_deny_27 : decode cX7_deny 27 = .ok (.ifCond .ne 6, 3) := by decide +kernel
theorem dX7_deny_30 : decode cX7_deny 30 = .ok (.bipush (-3), 2) := by decide +kernel
theorem dX7_deny_32 : decode cX7_deny 32 = .ok (.ireturn, 1) := by decide +kernel
theorem dX7_deny_33 : decode cX7_deny 33 = .ok (.aload_n 0, 1) := by decide +kernel
theorem dX7_deny_34 : decode cX7_deny 34 = .ok (.invokevirtual 157, 3) := by decide +kernel
theorem dX7_deny_37 : decode cX7_deny 37 = .ok (.aload_n 0, 1) := by decide +kernel
theorem dX7_deny_38 : decode cX7_deny 38 = .ok (.iconst 0, 1) := by decide +kernel
theorem dX7_deny_39 : decode cX7_deny 39 = .ok (.iload_n 1, 1) := by decide +kernel
theorem dX7_deny_40 : decode cX7_deny 40 = .ok (.iload_n 2, 1) := by decide +kernel
theorem dX7_deny_41 : decode cX7_deny 41 = .ok (.invokevirtual 173, 3) := by decide +kernel
theorem dX7_deny_44 : decode cX7_deny 44 = .ok (.aload_n 0, 1) := by decide +kernel
theorem dX7_deny_45 : decode cX7_deny 45 = .ok (.getfield 25, 3) := by decide +kernel
theorem dX7_deny_48 : decode cX7_deny 48 = .ok (.iload_n 1, 1) := by decide +kernel
theorem dX7_deny_49 : decode cX7_deny 49 = .ok (.iaload, 1) := by decide +kernel
theorem dX7_deny_50 : decode cX7_deny 50 = .ok (.invokestatic 140, 3) := by decide +kernel
theorem dX7_deny_53 : decode cX7_deny 53 = .ok (.ireturn, 1) := by decide +kernel
theorem dX7_takes_0 : decode cX7_takes 0 = .ok (.aload_n 0, 1) := by decide +kernel
theorem dX7_takes_1 : decode cX7_takes 1 = .ok (.iconst 0, 1) := by decide +kernel
theorem dX7_takes_2 : decode cX7_takes 2 = .ok (.iload_n 2, 1) := by decide +kernel
theorem dX7_takes_3 : decode cX7_takes 3 = .ok (.invokevirtual 177, 3) := by decide +kernel
theorem dX7_takes_6 : decode cX7_takes 6 = .ok (.ifCond .le 24, 3) := by decide +kernel
theorem dX7_takes_9 : decode cX7_takes 9 = .ok (.aload_n 0, 1) := by decide +kernel
theorem dX7_takes_10 : decode cX7_takes 10 = .ok (.getfield 25, 3) := by decide +kernel
theorem dX7_takes_13 : decode cX7_takes 13 = .ok (.aload_n 0, 1) := by decide +kernel
theorem dX7_takes_14 : decode cX7_takes 14 = .ok (.iconst 0, 1) := by decide +kernel
theorem dX7_takes_15 : decode cX7_takes 15 = .ok (.iload_n 1, 1) := by decide +kernel
theorem dX7_takes_16 : decode cX7_takes 16 = .ok (.iload_n 2, 1) := by decide +kernel
theorem dX7_takes_17 : decode cX7_takes 17 = .ok (.invokevirtual 150, 3) := by decide +kernel
theorem dX7_takes_20 : decode cX7_takes 20 = .ok (.iaload, 1) := by decide +kernel
theorem dX7_takes_21 : decode cX7_takes 21 = .ok (.bipush 99, 2) := by decide +kernel
theorem dX7_takes_23 : decode cX7_takes 23 = .ok (.if_icmp .ge 7, 3) := by decide +kernel
theorem dX7_takes_26 : decode cX7_takes 26 = .ok (.iconst 1, 1) := by decide +kernel
theorem dX7_takes_27 : decode cX7_takes 27 = .ok (.goto 4, 3) := by decide +kernel
theorem dX7_takes_30 : decode cX7_takes 30 = .ok (.iconst 0, 1) := by decide +kernel
theorem dX7_takes_31 : decode cX7_takes 31 = .ok (.istore_n 3, 1) := by decide +kernel
theorem dX7_takes_32 : decode cX7_takes 32 = .ok (.iconst 0, 1) := by decide +kernel
theorem dX7_takes_33 : decode cX7_takes 33 = .ok (.istore 4, 2) := by decide +kernel
theorem dX7_takes_35 : decode cX7_takes 35 = .ok (.iload 4, 2) := by decide +kernel
theorem dX7_takes_37 : decode cX7_takes 37 = .ok (.aload_n 0, 1) := by decide +kernel
theorem dX7_takes_38 : decode cX7_takes 38 = .ok (.getfield 77, 3) := by decide +kernel
theorem dX7_takes_41 : decode cX7_takes 41 = .ok (.if_icmp .ge 49, 3) := by decide +kernel
theorem dX7_takes_44 : decode cX7_takes 44 = .ok (.iload_n 3, 1) := by decide +kernel
theorem dX7_takes_45 : decode cX7_takes 45 = .ok (.ifCond .eq 37, 3) := by decide +kernel
theorem dX7_takes_48 : decode cX7_takes 48 = .ok (.aload_n 0, 1) := by decide +kernel
theorem dX7_takes_49 : decode cX7_takes 49 = .ok (.getfield 19, 3) := by decide +kernel
theorem dX7_takes_52 : decode cX7_takes 52 = .ok (.iload_n 2, 1) := by decide +kernel
theorem dX7_takes_53 : decode cX7_takes 53 = .ok (.iaload, 1) := by decide +kernel
theorem dX7_takes_54 : decode cX7_takes 54 = .ok (.iload 4, 2) := by decide +kernel
theorem dX7_takes_56 : decode cX7_takes 56 = .ok (.invokestatic 98, 3) := by decide +kernel
theorem dX7_takes_59 : decode cX7_takes 59 = .ok (.ifCond .eq 19, 3) := by decide +kernel
theorem dX7_takes_62 : decode cX7_takes 62 = .ok (.aload_n 0, 1) := by decide +kernel
theorem dX7_takes_63 : decode cX7_takes 63 = .ok (.getfield 25, 3) := by decide +kernel
theorem dX7_takes_66 : decode cX7_takes 66 = .ok (.aload_n 0, 1) := by decide +kernel
theorem dX7_takes_67 : decode cX7_takes 67 = .ok (.iconst 0, 1) := by decide +kernel
theorem dX7_takes_68 : decode cX7_takes 68 = .ok (.iload_n 1, 1) := by decide +kernel
theorem dX7_takes_69 : decode cX7_takes 69 = .ok (.iload 4, 2) := by decide +kernel
theorem dX7_takes_71 : decode cX7_takes 71 = .ok (.invokevirtual 150, 3) := by decide +kernel
theorem dX7_takes_74 : decode cX7_takes 74 = .ok (.iaload, 1) := by decide +kernel
theorem dX7_takes_75 : decode cX7_takes 75 = .ok (.ifCond .gt 7, 3) := by decide +kernel
theorem dX7_takes_78 : decode cX7_takes 78 = .ok (.iconst 1, 1) := by decide +kernel
theorem dX7_takes_79 : decode cX7_takes 79 = .ok (.goto 4, 3) := by decide +kernel
theorem dX7_takes_82 : decode cX7_takes 82 = .ok (.iconst 0, 1) := by decide +kernel
theorem dX7_takes_83 : decode cX7_takes 83 = .ok (.istore_n 3, 1) := by decide +kernel
theorem dX7_takes_84 : decode cX7_takes 84 = .ok (.iinc 4 1, 3) := by decide +kernel
theorem dX7_takes_87 : decode cX7_takes 87 = .ok (.goto (-52), 3) := by decide +kernel
theorem dX7_takes_90 : decode cX7_takes 90 = .ok (.iload_n 3, 1) := by decide +kernel
theorem dX7_takes_91 : decode cX7_takes 91 = .ok (.ireturn, 1) := by decide +kernel
theorem dX7_pay_0 : decode cX7_pay 0 = .ok (.aload_n 0, 1) := by decide +kernel
theorem dX7_pay_1 : decode cX7_pay 1 = .ok (.iload_n 1, 1) := by decide +kernel
theorem dX7_pay_2 : decode cX7_pay 2 = .ok (.invokevirtual 147, 3) := by decide +kernel
theorem dX7_pay_5 : decode cX7_pay 5 = .ok (.ifCond .eq 19, 3) := by decide +kernel
theorem dX7_pay_8 : decode cX7_pay 8 = .ok (.aload_n 0, 1) := by decide +kernel
theorem dX7_pay_9 : decode cX7_pay 9 = .ok (.iload_n 2, 1) := by decide +kernel
theorem dX7_pay_10 : decode cX7_pay 10 = .ok (.invokevirtual 147, 3) := by decide +kernel
theorem dX7_pay_13 : decode cX7_pay 13 = .ok (.ifCond .eq 11, 3) := by decide +kernel
theorem dX7_pay_16 : decode cX7_pay 16 = .ok (.aload_n 0, 1) := by decide +kernel
theorem dX7_pay_17 : decode cX7_pay 17 = .ok (.iload_n 3, 1) := by decide +kernel
theorem dX7_pay_18 : decode cX7_pay 18 = .ok (.invokevirtual 143, 3) := by decide +kernel
theorem dX7_pay_21 : decode cX7_pay 21 = .ok (.ifCond .ne 5, 3) := by decide +kernel
theorem dX7_pay_24 : decode cX7_pay 24 = .ok (.iconst (-1), 1) := by decide +kernel
theorem dX7_pay_25 : decode cX7_pay 25 = .ok (.ireturn, 1) := by decide +kernel
theorem dX7_pay_26 : decode cX7_pay 26 = .ok (.iload_n 1, 1) := by decide +kernel
theorem dX7_pay_27 : decode cX7_pay 27 = .ok (.iload_n 2, 1) := by decide +kernel
theorem dX7_pay_28 : decode cX7_pay 28 = .ok (.if_icmp .ne 6, 3) := by decide +kernel
theorem dX7_pay_31 : decode cX7_pay 31 = .ok (.bipush (-2), 2) := by decide +kernel
theorem dX7_pay_33 : decode cX7_pay 33 = .ok (.ireturn, 1) := by decide +kernel
theorem dX7_pay_34 : decode cX7_pay 34 = .ok (.aload_n 0, 1) := by decide +kernel
theorem dX7_pay_35 : decode cX7_pay 35 = .ok (.getfield 25, 3) := by decide +kernel
theorem dX7_pay_38 : decode cX7_pay 38 = .ok (.aload_n 0, 1) := by decide +kernel
theorem dX7_pay_39 : decode cX7_pay 39 = .ok (.iconst 0, 1) := by decide +kernel
theorem dX7_pay_40 : decode cX7_pay 40 = .ok (.iload_n 1, 1) := by decide +kernel
theorem dX7_pay_41 : decode cX7_pay 41 = .ok (.iload_n 3, 1) := by decide +kernel
theorem dX7_pay_42 : decode cX7_pay 42 = .ok (.invokevirtual 150, 3) := by decide +kernel
theorem dX7_pay_45 : decode cX7_pay 45 = .ok (.iaload, 1) := by decide +kernel
theorem dX7_pay_46 : decode cX7_pay 46 = .ok (.ifCond .eq 12, 3) := by decide +kernel
theorem dX7_pay_49 : decode cX7_pay 49 = .ok (.aload_n 0, 1) := by decide +kernel
theorem dX7_pay_50 : decode cX7_pay 50 = .ok (.iload_n 2, 1) := by decide +kernel
theorem dX7_pay_51 : decode cX7_pay 51 = .ok (.iload_n 3, 1) := by decide +kernel
theorem dX7_pay_52 : decode cX7_pay 52 = .ok (.invokevirtual 181, 3) := by decide +kernel
theorem dX7_pay_55 : decode cX7_pay 55 = .ok (.ifCond .ne 6, 3) := by decide +kernel
theorem dX7_pay_58 : decode cX7_pay 58 = .ok (.bipush (-3), 2) := by decide +kernel
theorem dX7_pay_60 : decode cX7_pay 60 = .ok (.ireturn, 1) := by decide +kernel
theorem dX7_pay_61 : decode cX7_pay 61 = .ok (.aload_n 0, 1) := by decide +kernel
theorem dX7_pay_62 : decode cX7_pay 62 = .ok (.invokevirtual 157, 3) := by decide +kernel
theorem dX7_pay_65 : decode cX7_pay 65 = .ok (.aload_n 0, 1) := by decide +kernel
theorem dX7_pay_66 : decode cX7_pay 66 = .ok (.getfield 25, 3) := by decide +kernel
theorem dX7_pay_69 : decode cX7_pay 69 = .ok (.aload_n 0, 1) := by decide +kernel
theorem dX7_pay_70 : decode cX7_pay 70 = .ok (.iconst 0, 1) := by decide +kernel
theorem dX7_pay_71 : decode cX7_pay 71 = .ok (.iload_n 1, 1) := by decide +kernel
theorem dX7_pay_72 : decode cX7_pay 72 = .ok (.iload_n 3, 1) := by decide +kernel
theorem dX7_pay_73 : decode cX7_pay 73 = .ok (.invokevirtual 150, 3) := by decide +kernel
theorem dX7_pay_76 : decode cX7_pay 76 = .ok (.dup2, 1) := by decide +kernel
theorem dX7_pay_77 : decode cX7_pay 77 = .ok (.iaload, 1) := by decide +kernel
theorem dX7_pay_78 : decode cX7_pay 78 = .ok (.iconst 1, 1) := by decide +kernel
theorem dX7_pay_79 : decode cX7_pay 79 = .ok (.isub, 1) := by decide +kernel
theorem dX7_pay_80 : decode cX7_pay 80 = .ok (.iastore, 1) := by decide +kernel
theorem dX7_pay_81 : decode cX7_pay 81 = .ok (.aload_n 0, 1) := by decide +kernel
theorem dX7_pay_82 : decode cX7_pay 82 = .ok (.getfield 25, 3) := by decide +kernel
theorem dX7_pay_85 : decode cX7_pay 85 = .ok (.aload_n 0, 1) := by decide +kernel
theorem dX7_pay_86 : decode cX7_pay 86 = .ok (.iconst 0, 1) := by decide +kernel
theorem dX7_pay_87 : decode cX7_pay 87 = .ok (.iload_n 2, 1) := by decide +kernel
theorem dX7_pay_88 : decode cX7_pay 88 = .ok (.iload_n 3, 1) := by decide +kernel
theorem dX7_pay_89 : decode cX7_pay 89 = .ok (.invokevirtual 150, 3) := by decide +kernel
theorem dX7_pay_92 : decode cX7_pay 92 = .ok (.dup2, 1) := by decide +kernel
theorem dX7_pay_93 : decode cX7_pay 93 = .ok (.iaload, 1) := by decide +kernel
theorem dX7_pay_94 : decode cX7_pay 94 = .ok (.iconst 1, 1) := by decide +kernel
theorem dX7_pay_95 : decode cX7_pay 95 = .ok (.iadd, 1) := by decide +kernel
theorem dX7_pay_96 : decode cX7_pay 96 = .ok (.iastore, 1) := by decide +kernel
theorem dX7_pay_97 : decode cX7_pay 97 = .ok (.aload_n 0, 1) := by decide +kernel
theorem dX7_pay_98 : decode cX7_pay 98 = .ok (.iconst 0, 1) := by decide +kernel
theorem dX7_pay_99 : decode cX7_pay 99 = .ok (.iload_n 3, 1) := by decide +kernel
theorem dX7_pay_100 : decode cX7_pay 100 = .ok (.invokevirtual 177, 3) := by decide +kernel
theorem dX7_pay_103 : decode cX7_pay 103 = .ok (.ireturn, 1) := by decide +kernel
theorem dX7_undo_0 : decode cX7_undo 0 = .ok (.aload_n 0, 1) := by decide +kernel
theorem dX7_undo_1 : decode cX7_undo 1 = .ok (.getfield 132, 3) := by decide +kernel
theorem dX7_undo_4 : decode cX7_undo 4 = .ok (.ifCond .ne 6, 3) := by decide +kernel
theorem dX7_undo_7 : decode cX7_undo 7 = .ok (.bipush (-3), 2) := by decide +kernel
theorem dX7_undo_9 : decode cX7_undo 9 = .ok (.ireturn, 1) := by decide +kernel
theorem dX7_undo_10 : decode cX7_undo 10 = .ok (.aload_n 0, 1) := by decide +kernel
theorem dX7_undo_11 : decode cX7_undo 11 = .ok (.dup, 1) := by decide +kernel
theorem dX7_undo_12 : decode cX7_undo 12 = .ok (.getfield 132, 3) := by decide +kernel
theorem dX7_undo_15 : decode cX7_undo 15 = .ok (.iconst 1, 1) := by decide +kernel
theorem dX7_undo_16 : decode cX7_undo 16 = .ok (.isub, 1) := by decide +kernel
theorem dX7_undo_17 : decode cX7_undo 17 = .ok (.putfield 132, 3) := by decide +kernel
theorem dX7_undo_20 : decode cX7_undo 20 = .ok (.aload_n 0, 1) := by decide +kernel
theorem dX7_undo_21 : decode cX7_undo 21 = .ok (.aload_n 0, 1) := by decide +kernel
theorem dX7_undo_22 : decode cX7_undo 22 = .ok (.getfield 154, 3) := by decide +kernel
theorem dX7_undo_25 : decode cX7_undo 25 = .ok (.bipush 13, 2) := by decide +kernel
theorem dX7_undo_27 : decode cX7_undo 27 = .ok (.iadd, 1) := by decide +kernel
theorem dX7_undo_28 : decode cX7_undo 28 = .ok (.bipush 14, 2) := by decide +kernel
theorem dX7_undo_30 : decode cX7_undo 30 = .ok (.irem, 1) := by decide +kernel
theorem dX7_undo_31 : decode cX7_undo 31 = .ok (.putfield 154, 3) := by decide +kernel
theorem dX7_undo_34 : decode cX7_undo 34 = .ok (.iconst 0, 1) := by decide +kernel
theorem dX7_undo_35 : decode cX7_undo 35 = .ok (.istore_n 1, 1) := by decide +kernel
theorem dX7_undo_36 : decode cX7_undo 36 = .ok (.iload_n 1, 1) := by decide +kernel
theorem dX7_undo_37 : decode cX7_undo 37 = .ok (.bipush 31, 2) := by decide +kernel
theorem dX7_undo_39 : decode cX7_undo 39 = .ok (.if_icmp .ge 29, 3) := by decide +kernel
theorem dX7_undo_42 : decode cX7_undo 42 = .ok (.aload_n 0, 1) := by decide +kernel
theorem dX7_undo_43 : decode cX7_undo 43 = .ok (.getfield 25, 3) := by decide +kernel
theorem dX7_undo_46 : decode cX7_undo 46 = .ok (.iload_n 1, 1) := by decide +kernel
theorem dX7_undo_47 : decode cX7_undo 47 = .ok (.aload_n 0, 1) := by decide +kernel
theorem dX7_undo_48 : decode cX7_undo 48 = .ok (.getfield 49, 3) := by decide +kernel
theorem dX7_undo_51 : decode cX7_undo 51 = .ok (.bipush 31, 2) := by decide +kernel
theorem dX7_undo_53 : decode cX7_undo 53 = .ok (.aload_n 0, 1) := by decide +kernel
theorem dX7_undo_54 : decode cX7_undo 54 = .ok (.getfield 154, 3) := by decide +kernel
theorem dX7_undo_57 : decode cX7_undo 57 = .ok (.imul, 1) := by decide +kernel
theorem dX7_undo_58 : decode cX7_undo 58 = .ok (.iload_n 1, 1) := by decide +kernel
theorem dX7_undo_59 : decode cX7_undo 59 = .ok (.iadd, 1) := by decide +kernel
theorem dX7_undo_60 : decode cX7_undo 60 = .ok (.iaload, 1) := by decide +kernel
theorem dX7_undo_61 : decode cX7_undo 61 = .ok (.iastore, 1) := by decide +kernel
theorem dX7_undo_62 : decode cX7_undo 62 = .ok (.iinc 1 1, 3) := by decide +kernel
theorem dX7_undo_65 : decode cX7_undo 65 = .ok (.goto (-29), 3) := by decide +kernel
theorem dX7_undo_68 : decode cX7_undo 68 = .ok (.aload_n 0, 1) := by decide +kernel
theorem dX7_undo_69 : decode cX7_undo 69 = .ok (.getfield 132, 3) := by decide +kernel
theorem dX7_undo_72 : decode cX7_undo 72 = .ok (.ireturn, 1) := by decide +kernel
theorem dX7_layTrial_0 : decode cX7_layTrial 0 = .ok (.iconst 0, 1) := by decide +kernel
theorem dX7_layTrial_1 : decode cX7_layTrial 1 = .ok (.istore_n 1, 1) := by decide +kernel
theorem dX7_layTrial_2 : decode cX7_layTrial 2 = .ok (.iload_n 1, 1) := by decide +kernel
theorem dX7_layTrial_3 : decode cX7_layTrial 3 = .ok (.bipush 31, 2) := by decide +kernel
theorem dX7_layTrial_5 : decode cX7_layTrial 5 = .ok (.if_icmp .ge 24, 3) := by decide +kernel
theorem dX7_layTrial_8 : decode cX7_layTrial 8 = .ok (.aload_n 0, 1) := by decide +kernel
theorem dX7_layTrial_9 : decode cX7_layTrial 9 = .ok (.getfield 25, 3) := by decide +kernel
theorem dX7_layTrial_12 : decode cX7_layTrial 12 = .ok (.bipush 31, 2) := by decide +kernel
theorem dX7_layTrial_14 : decode cX7_layTrial 14 = .ok (.iload_n 1, 1) := by decide +kernel
theorem dX7_layTrial_15 : decode cX7_layTrial 15 = .ok (.iadd, 1) := by decide +kernel
theorem dX7_layTrial_16 : decode cX7_layTrial 16 = .ok (.aload_n 0, 1) := by decide +kernel
theorem dX7_layTrial_17 : decode cX7_layTrial 17 = .ok (.getfield 25, 3) := by decide +kernel
theorem dX7_layTrial_20 : decode cX7_layTrial 20 = .ok (.iload_n 1, 1) := by decide +kernel
theorem dX7_layTrial_21 : decode cX7_layTrial 21 = .ok (.iaload, 1) := by decide +kernel
theorem dX7_layTrial_22 : decode cX7_layTrial 22 = .ok (.iastore, 1) := by decide +kernel
theorem dX7_layTrial_23 : decode cX7_layTrial 23 = .ok (.iinc 1 1, 3) := by decide +kernel
theorem dX7_layTrial_26 : decode cX7_layTrial 26 = .ok (.goto (-24), 3) := by decide +kernel
theorem dX7_layTrial_29 : decode cX7_layTrial 29 = .ok (.return_, 1) := by decide +kernel
theorem dX7_dawnTrial_0 : decode cX7_dawnTrial 0 = .ok (.iconst 0, 1) := by decide +kernel
theorem dX7_dawnTrial_1 : decode cX7_dawnTrial 1 = .ok (.istore_n 2, 1) := by decide +kernel
theorem dX7_dawnTrial_2 : decode cX7_dawnTrial 2 = .ok (.iload_n 2, 1) := by decide +kernel
theorem dX7_dawnTrial_3 : decode cX7_dawnTrial 3 = .ok (.iload_n 1, 1) := by decide +kernel
theorem dX7_dawnTrial_4 : decode cX7_dawnTrial 4 = .ok (.if_icmp .ge 15, 3) := by decide +kernel
theorem dX7_dawnTrial_7 : decode cX7_dawnTrial 7 = .ok (.aload_n 0, 1) := by decide +kernel
theorem dX7_dawnTrial_8 : decode cX7_dawnTrial 8 = .ok (.iconst 1, 1) := by decide +kernel
theorem dX7_dawnTrial_9 : decode cX7_dawnTrial 9 = .ok (.invokevirtual 160, 3) := by decide +kernel
theorem dX7_dawnTrial_12 : decode cX7_dawnTrial 12 = .ok (.pop, 1) := by decide +kernel
theorem dX7_dawnTrial_13 : decode cX7_dawnTrial 13 = .ok (.iinc 2 1, 3) := by decide +kernel
theorem dX7_dawnTrial_16 : decode cX7_dawnTrial 16 = .ok (.goto (-14), 3) := by decide +kernel
theorem dX7_dawnTrial_19 : decode cX7_dawnTrial 19 = .ok (.return_, 1) := by decide +kernel
theorem dX7_purseOf_0 : decode cX7_purseOf 0 = .ok (.iconst 0, 1) := by decide +kernel
theorem dX7_purseOf_1 : decode cX7_purseOf 1 = .ok (.istore_n 3, 1) := by decide +kernel
theorem dX7_purseOf_2 : decode cX7_purseOf 2 = .ok (.iconst 0, 1) := by decide +kernel
theorem dX7_purseOf_3 : decode cX7_purseOf 3 = .ok (.istore 4, 2) := by decide +kernel
theorem dX7_purseOf_5 : decode cX7_purseOf 5 = .ok (.iload 4, 2) := by decide +kernel
theorem dX7_purseOf_7 : decode cX7_purseOf 7 = .ok (.aload_n 0, 1) := by decide +kernel
theorem dX7_purseOf_8 : decode cX7_purseOf 8 = .ok (.getfield 77, 3) := by decide +kernel
theorem dX7_purseOf_11 : decode cX7_purseOf 11 = .ok (.if_icmp .ge 33, 3) := by decide +kernel
theorem dX7_purseOf_14 : decode cX7_purseOf 14 = .ok (.iload_n 3, 1) := by decide +kernel
theorem dX7_purseOf_15 : decode cX7_purseOf 15 = .ok (.aload_n 0, 1) := by decide +kernel
theorem dX7_purseOf_16 : decode cX7_purseOf 16 = .ok (.getfield 25, 3) := by decide +kernel
theorem dX7_purseOf_19 : decode cX7_purseOf 19 = .ok (.aload_n 0, 1) := by decide +kernel
theorem dX7_purseOf_20 : decode cX7_purseOf 20 = .ok (.iload_n 1, 1) := by decide +kernel
theorem dX7_purseOf_21 : decode cX7_purseOf 21 = .ok (.iload_n 2, 1) := by decide +kernel
theorem dX7_purseOf_22 : decode cX7_purseOf 22 = .ok (.iload 4, 2) := by decide +kernel
theorem dX7_purseOf_24 : decode cX7_purseOf 24 = .ok (.invokevirtual 150, 3) := by decide +kernel
theorem dX7_purseOf_27 : decode cX7_purseOf 27 = .ok (.iaload, 1) := by decide +kernel
theorem dX7_purseOf_28 : decode cX7_purseOf 28 = .ok (.aload_n 0, 1) := by decide +kernel
theorem dX7_purseOf_29 : decode cX7_purseOf 29 = .ok (.iload_n 1, 1) := by decide +kernel
theorem dX7_purseOf_30 : decode cX7_purseOf 30 = .ok (.iload 4, 2) := by decide +kernel
theorem dX7_purseOf_32 : decode cX7_purseOf 32 = .ok (.invokevirtual 177, 3) := by decide +kernel
theorem dX7_purseOf_35 : decode cX7_purseOf 35 = .ok (.imul, 1) := by decide +kernel
theorem dX7_purseOf_36 : decode cX7_purseOf 36 = .ok (.iadd, 1) := by decide +kernel
theorem dX7_purseOf_37 : decode cX7_purseOf 37 = .ok (.istore_n 3, 1) := by decide +kernel
theorem dX7_purseOf_38 : decode cX7_purseOf 38 = .ok (.iinc 4 1, 3) := by decide +kernel
theorem dX7_purseOf_41 : decode cX7_purseOf 41 = .ok (.goto (-36), 3) := by decide +kernel
theorem dX7_purseOf_44 : decode cX7_purseOf 44 = .ok (.iload_n 3, 1) := by decide +kernel
theorem dX7_purseOf_45 : decode cX7_purseOf 45 = .ok (.ireturn, 1) := by decide +kernel
theorem dX7_worth_0 : decode cX7_worth 0 = .ok (.aload_n 0, 1) := by decide +kernel
theorem dX7_worth_1 : decode cX7_worth 1 = .ok (.iload_n 1, 1) := by decide +kernel
theorem dX7_worth_2 : decode cX7_worth 2 = .ok (.invokevirtual 143, 3) := by decide +kernel
theorem dX7_worth_5 : decode cX7_worth 5 = .ok (.ifCond .ne 5, 3) := by decide +kernel
theorem dX7_worth_8 : decode cX7_worth 8 = .ok (.iconst (-1), 1) := by decide +kernel
theorem dX7_worth_9 : decode cX7_worth 9 = .ok (.ireturn, 1) := by decide +kernel
theorem dX7_worth_10 : decode cX7_worth 10 = .ok (.iload_n 2, 1) := by decide +kernel
theorem dX7_worth_11 : decode cX7_worth 11 = .ok (.i2l, 1) := by decide +kernel
theorem dX7_worth_12 : decode cX7_worth 12 = .ok (.lconst 0, 1) := by decide +kernel
theorem dX7_worth_13 : decode cX7_worth 13 = .ok (.ldc2_w 184, 3) := by decide +kernel
theorem dX7_worth_16 : decode cX7_worth 16 = .ok (.invokestatic 83, 3) := by decide +kernel
theorem dX7_worth_19 : decode cX7_worth 19 = .ok (.ifCond .ne 6, 3) := by decide +kernel
theorem dX7_worth_22 : decode cX7_worth 22 = .ok (.bipush (-2), 2) := by decide +kernel
theorem dX7_worth_24 : decode cX7_worth 24 = .ok (.ireturn, 1) := by decide +kernel
theorem dX7_worth_25 : decode cX7_worth 25 = .ok (.aload_n 0, 1) := by decide +kernel
theorem dX7_worth_26 : decode cX7_worth 26 = .ok (.invokevirtual 186, 3) := by decide +kernel
theorem dX7_worth_29 : decode cX7_worth 29 = .ok (.aload_n 0, 1) := by decide +kernel
theorem dX7_worth_30 : decode cX7_worth 30 = .ok (.iload_n 2, 1) := by decide +kernel
theorem dX7_worth_31 : decode cX7_worth 31 = .ok (.invokevirtual 189, 3) := by decide +kernel
theorem dX7_worth_34 : decode cX7_worth 34 = .ok (.aload_n 0, 1) := by decide +kernel
theorem dX7_worth_35 : decode cX7_worth 35 = .ok (.iconst 1, 1) := by decide +kernel
theorem dX7_worth_36 : decode cX7_worth 36 = .ok (.iload_n 1, 1) := by decide +kernel
theorem dX7_worth_37 : decode cX7_worth 37 = .ok (.invokevirtual 177, 3) := by decide +kernel
theorem dX7_worth_40 : decode cX7_worth 40 = .ok (.ireturn, 1) := by decide +kernel
theorem dX7_purse_0 : decode cX7_purse 0 = .ok (.aload_n 0, 1) := by decide +kernel
theorem dX7_purse_1 : decode cX7_purse 1 = .ok (.iload_n 1, 1) := by decide +kernel
theorem dX7_purse_2 : decode cX7_purse 2 = .ok (.invokevirtual 147, 3) := by decide +kernel
theorem dX7_purse_5 : decode cX7_purse 5 = .ok (.ifCond .ne 5, 3) := by decide +kernel
theorem dX7_purse_8 : decode cX7_purse 8 = .ok (.iconst (-1), 1) := by decide +kernel
theorem dX7_purse_9 : decode cX7_purse 9 = .ok (.ireturn, 1) := by decide +kernel
theorem dX7_purse_10 : decode cX7_purse 10 = .ok (.iload_n 2, 1) := by decide +kernel
theorem dX7_purse_11 : decode cX7_purse 11 = .ok (.i2l, 1) := by decide +kernel
theorem dX7_purse_12 : decode cX7_purse 12 = .ok (.lconst 0, 1) := by decide +kernel
theorem dX7_purse_13 : decode cX7_purse 13 = .ok (.ldc2_w 184, 3) := by decide +kernel
theorem dX7_purse_16 : decode cX7_purse 16 = .ok (.invokestatic 83, 3) := by decide +kernel
theorem dX7_purse_19 : decode cX7_purse 19 = .ok (.ifCond .ne 6, 3) := by decide +kernel
theorem dX7_purse_22 : decode cX7_purse 22 = .ok (.bipush (-2), 2) := by decide +kernel
theorem dX7_purse_24 : decode cX7_purse 24 = .ok (.ireturn, 1) := by decide +kernel
theorem dX7_purse_25 : decode cX7_purse 25 = .ok (.aload_n 0, 1) := by decide +kernel
theorem dX7_purse_26 : decode cX7_purse 26 = .ok (.invokevirtual 186, 3) := by decide +kernel
theorem dX7_purse_29 : decode cX7_purse 29 = .ok (.aload_n 0, 1) := by decide +kernel
theorem dX7_purse_30 : decode cX7_purse 30 = .ok (.iload_n 2, 1) := by decide +kernel
theorem dX7_purse_31 : decode cX7_purse 31 = .ok (.invokevirtual 189, 3) := by decide +kernel
theorem dX7_purse_34 : decode cX7_purse 34 = .ok (.aload_n 0, 1) := by decide +kernel
theorem dX7_purse_35 : decode cX7_purse 35 = .ok (.iconst 1, 1) := by decide +kernel
theorem dX7_purse_36 : decode cX7_purse 36 = .ok (.iload_n 1, 1) := by decide +kernel
theorem dX7_purse_37 : decode cX7_purse 37 = .ok (.invokevirtual 192, 3) := by decide +kernel
theorem dX7_purse_40 : decode cX7_purse 40 = .ok (.ireturn, 1) := by decide +kernel
theorem dX7_bestDay_0 : decode cX7_bestDay 0 = .ok (.aload_n 0, 1) := by decide +kernel
theorem dX7_bestDay_1 : decode cX7_bestDay 1 = .ok (.iload_n 1, 1) := by decide +kernel
theorem dX7_bestDay_2 : decode cX7_bestDay 2 = .ok (.invokevirtual 147, 3) := by decide +kernel
theorem dX7_bestDay_5 : decode cX7_bestDay 5 = .ok (.ifCond .ne 5, 3) := by decide +kernel
theorem dX7_bestDay_8 : decode cX7_bestDay 8 = .ok (.iconst (-1), 1) := by decide +kernel
theorem dX7_bestDay_9 : decode cX7_bestDay 9 = .ok (.ireturn, 1) := by decide +kernel
theorem dX7_bestDay_10 : decode cX7_bestDay 10 = .ok (.aload_n 0, 1) := by decide +kernel
theorem dX7_bestDay_11 : decode cX7_bestDay 11 = .ok (.invokevirtual 186, 3) := by decide +kernel
theorem dX7_bestDay_14 : decode cX7_bestDay 14 = .ok (.iconst 0, 1) := by decide +kernel
theorem dX7_bestDay_15 : decode cX7_bestDay 15 = .ok (.istore_n 2, 1) := by decide +kernel
theorem dX7_bestDay_16 : decode cX7_bestDay 16 = .ok (.aload_n 0, 1) := by decide +kernel
theorem dX7_bestDay_17 : decode cX7_bestDay 17 = .ok (.iconst 1, 1) := by decide +kernel
theorem dX7_bestDay_18 : decode cX7_bestDay 18 = .ok (.iload_n 1, 1) := by decide +kernel
theorem dX7_bestDay_19 : decode cX7_bestDay 19 = .ok (.invokevirtual 192, 3) := by decide +kernel
theorem dX7_bestDay_22 : decode cX7_bestDay 22 = .ok (.istore_n 3, 1) := by decide +kernel
theorem dX7_bestDay_23 : decode cX7_bestDay 23 = .ok (.iconst 1, 1) := by decide +kernel
