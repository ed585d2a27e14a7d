theorem dL_cell_0 : decode cL_cell 0 = .ok (.iload_n 1, 1) := by decide +kernel
theorem dL_cell_1 : decode cL_cell 1 = .ok (.aload_n 0, 1) := by decide +kernel
theorem dL_cell_2 : decode cL_cell 2 = .ok (.arraylength, 1) := by decide +kernel
theorem dL_cell_3 : decode cL_cell 3 = .ok (.if_icmp .ge 9, 3) := by decide +kernel
theorem dL_cell_6 : decode cL_cell 6 = .ok (.aload_n 0, 1) := by decide +kernel
theorem dL_cell_7 : decode cL_cell 7 = .ok (.iload_n 1, 1) := by decide +kernel
theorem dL_cell_8 : decode cL_cell 8 = .ok (.iaload, 1) := by decide +kernel
theorem dL_cell_9 : decode cL_cell 9 = .ok (.goto 10, 3) := by decide +kernel
theorem dL_cell_12 : decode cL_cell 12 = .ok (.ldc 7, 2) := by decide +kernel
theorem dL_cell_14 : decode cL_cell 14 = .ok (.iload_n 1, 1) := by decide +kernel
theorem dL_cell_15 : decode cL_cell 15 = .ok (.imul, 1) := by decide +kernel
theorem dL_cell_16 : decode cL_cell 16 = .ok (.ldc 8, 2) := by decide +kernel
theorem dL_cell_18 : decode cL_cell 18 = .ok (.iadd, 1) := by decide +kernel
theorem dL_cell_19 : decode cL_cell 19 = .ok (.ireturn, 1) := by decide +kernel
theorem dL_pick_0 : decode cL_pick 0 = .ok (.aload_n 0, 1) := by decide +kernel
theorem dL_pick_1 : decode cL_pick 1 = .ok (.iload_n 1, 1) := by decide +kernel
theorem dL_pick_2 : decode cL_pick 2 = .ok (.invokestatic 9, 3) := by decide +kernel
theorem dL_pick_5 : decode cL_pick 5 = .ok (.ldc 15, 2) := by decide +kernel
theorem dL_pick_7 : decode cL_pick 7 = .ok (.iand, 1) := by decide +kernel
theorem dL_pick_8 : decode cL_pick 8 = .ok (.iload_n 2, 1) := by decide +kernel
theorem dL_pick_9 : decode cL_pick 9 = .ok (.irem, 1) := by decide +kernel
theorem dL_pick_10 : decode cL_pick 10 = .ok (.ireturn, 1) := by decide +kernel
theorem dL_feeds_0 : decode cL_feeds 0 = .ok (.iconst 0, 1) := by decide +kernel
theorem dL_feeds_1 : decode cL_feeds 1 = .ok (.istore_n 2, 1) := by decide +kernel
theorem dL_feeds_2 : decode cL_feeds 2 = .ok (.iconst 0, 1) := by decide +kernel
theorem dL_feeds_3 : decode cL_feeds 3 = .ok (.istore_n 3, 1) := by decide +kernel
theorem dL_feeds_4 : decode cL_feeds 4 = .ok (.iload_n 3, 1) := by decide +kernel
theorem dL_feeds_5 : decode cL_feeds 5 = .ok (.aload_n 1, 1) := by decide +kernel
theorem dL_feeds_6 : decode cL_feeds 6 = .ok (.invokevirtual 16, 3) := by decide +kernel
theorem dL_feeds_9 : decode cL_feeds 9 = .ok (.if_icmp .ge 97, 3) := by decide +kernel
theorem dL_feeds_12 : decode cL_feeds 12 = .ok (.iconst 5, 1) := by decide +kernel
theorem dL_feeds_13 : decode cL_feeds 13 = .ok (.newarray .int, 2) := by decide +kernel
theorem dL_feeds_15 : decode cL_feeds 15 = .ok (.astore 4, 2) := by decide +kernel
theorem dL_feeds_17 : decode cL_feeds 17 = .ok (.iconst 0, 1) := by decide +kernel
theorem dL_feeds_18 : decode cL_feeds 18 = .ok (.istore 5, 2) := by decide +kernel
theorem dL_feeds_20 : decode cL_feeds 20 = .ok (.iload 5, 2) := by decide +kernel
theorem dL_feeds_22 : decode cL_feeds 22 = .ok (.bipush 20, 2) := by decide +kernel
theorem dL_feeds_24 : decode cL_feeds 24 = .ok (.if_icmp .ge 51, 3) := by decide +kernel
theorem dL_feeds_27 : decode cL_feeds 27 = .ok (.aload 4, 2) := by decide +kernel
theorem dL_feeds_29 : decode cL_feeds 29 = .ok (.iload 5, 2) := by decide +kernel
theorem dL_feeds_31 : decode cL_feeds 31 = .ok (.iconst 4, 1) := by decide +kernel
theorem dL_feeds_32 : decode cL_feeds 32 = .ok (.idiv, 1) := by decide +kernel
theorem dL_feeds_33 : decode cL_feeds 33 = .ok (.aload 4, 2) := by decide +kernel
theorem dL_feeds_35 : decode cL_feeds 35 = .ok (.iload 5, 2) := by decide +kernel
theorem dL_feeds_37 : decode cL_feeds 37 = .ok (.iconst 4, 1) := by decide +kernel
theorem dL_feeds_38 : decode cL_feeds 38 = .ok (.idiv, 1) := by decide +kernel
theorem dL_feeds_39 : decode cL_feeds 39 = .ok (.iaload, 1) := by decide +kernel
theorem dL_feeds_40 : decode cL_feeds 40 = .ok (.bipush 8, 2) := by decide +kernel
theorem dL_feeds_42 : decode cL_feeds 42 = .ok (.ishl, 1) := by decide +kernel
theorem dL_feeds_43 : decode cL_feeds 43 = .ok (.iload_n 3, 1) := by decide +kernel
theorem dL_feeds_44 : decode cL_feeds 44 = .ok (.iload 5, 2) := by decide +kernel
theorem dL_feeds_46 : decode cL_feeds 46 = .ok (.iadd, 1) := by decide +kernel
theorem dL_feeds_47 : decode cL_feeds 47 = .ok (.aload_n 1, 1) := by decide +kernel
theorem dL_feeds_48 : decode cL_feeds 48 = .ok (.invokevirtual 16, 3) := by decide +kernel
theorem dL_feeds_51 : decode cL_feeds 51 = .ok (.if_icmp .ge 14, 3) := by decide +kernel
theorem dL_feeds_54 : decode cL_feeds 54 = .ok (.aload_n 1, 1) := by decide +kernel
theorem dL_feeds_55 : decode cL_feeds 55 = .ok (.iload_n 3, 1) := by decide +kernel
theorem dL_feeds_56 : decode cL_feeds 56 = .ok (.iload 5, 2) := by decide +kernel
theorem dL_feeds_58 : decode cL_feeds 58 = .ok (.iadd, 1) := by decide +kernel
theorem dL_feeds_59 : decode cL_feeds 59 = .ok (.invokevirtual 22, 3) := by decide +kernel
theorem dL_feeds_62 : decode cL_feeds 62 = .ok (.goto 5, 3) := by decide +kernel
theorem dL_feeds_65 : decode cL_feeds 65 = .ok (.bipush 32, 2) := by decide +kernel
theorem dL_feeds_67 : decode cL_feeds 67 = .ok (.ior, 1) := by decide +kernel
theorem dL_feeds_68 : decode cL_feeds 68 = .ok (.iastore, 1) := by decide +kernel
theorem dL_feeds_69 : decode cL_feeds 69 = .ok (.iinc 5 1, 3) := by decide +kernel
theorem dL_feeds_72 : decode cL_feeds 72 = .ok (.goto (-52), 3) := by decide +kernel
theorem dL_feeds_75 : decode cL_feeds 75 = .ok (.aload_n 0, 1) := by decide +kernel
theorem dL_feeds_76 : decode cL_feeds 76 = .ok (.aload 4, 2) := by decide +kernel
theorem dL_feeds_78 : decode cL_feeds 78 = .ok (.iconst 0, 1) := by decide +kernel
theorem dL_feeds_79 : decode cL_feeds 79 = .ok (.iaload, 1) := by decide +kernel
theorem dL_feeds_80 : decode cL_feeds 80 = .ok (.aload 4, 2) := by decide +kernel
theorem dL_feeds_82 : decode cL_feeds 82 = .ok (.iconst 1, 1) := by decide +kernel
theorem dL_feeds_83 : decode cL_feeds 83 = .ok (.iaload, 1) := by decide +kernel
theorem dL_feeds_84 : decode cL_feeds 84 = .ok (.aload 4, 2) := by decide +kernel
theorem dL_feeds_86 : decode cL_feeds 86 = .ok (.iconst 2, 1) := by decide +kernel
theorem dL_feeds_87 : decode cL_feeds 87 = .ok (.iaload, 1) := by decide +kernel
theorem dL_feeds_88 : decode cL_feeds 88 = .ok (.aload 4, 2) := by decide +kernel
theorem dL_feeds_90 : decode cL_feeds 90 = .ok (.iconst 3, 1) := by decide +kernel
theorem dL_feeds_91 : decode cL_feeds 91 = .ok (.iaload, 1) := by decide +kernel
theorem dL_feeds_92 : decode cL_feeds 92 = .ok (.aload 4, 2) := by decide +kernel
theorem dL_feeds_94 : decode cL_feeds 94 = .ok (.iconst 4, 1) := by decide +kernel
theorem dL_feeds_95 : decode cL_feeds 95 = .ok (.iaload, 1) := by decide +kernel
theorem dL_feeds_96 : decode cL_feeds 96 = .ok (.invokevirtual 26, 3) := by decide +kernel
theorem dL_feeds_99 : decode cL_feeds 99 = .ok (.istore_n 2, 1) := by decide +kernel
theorem dL_feeds_100 : decode cL_feeds 100 = .ok (.iinc 3 20, 3) := by decide +kernel
theorem dL_feeds_103 : decode cL_feeds 103 = .ok (.goto (-99), 3) := by decide +kernel
theorem dL_feeds_106 : decode cL_feeds 106 = .ok (.aload_n 1, 1) := by decide +kernel
theorem dL_feeds_107 : decode cL_feeds 107 = .ok (.invokevirtual 32, 3) := by decide +kernel
theorem dL_feeds_110 : decode cL_feeds 110 = .ok (.ifCond .ne 26, 3) := by decide +kernel
theorem dL_feeds_113 : decode cL_feeds 113 = .ok (.iload_n 2, 1) := by decide +kernel
theorem dL_feeds_114 : decode cL_feeds 114 = .ok (.aload_n 1, 1) := by decide +kernel
theorem dL_feeds_115 : decode cL_feeds 115 = .ok (.invokevirtual 16, 3) := by decide +kernel
theorem dL_feeds_118 : decode cL_feeds 118 = .ok (.if_icmp .lt 22, 3) := by decide +kernel
theorem dL_feeds_121 : decode cL_feeds 121 = .ok (.aload_n 0, 1) := by decide +kernel
theorem dL_feeds_122 : decode cL_feeds 122 = .ok (.aload_n 1, 1) := by decide +kernel
theorem dL_feeds_123 : decode cL_feeds 123 = .ok (.invokevirtual 16, 3) := by decide +kernel
theorem dL_feeds_126 : decode cL_feeds 126 = .ok (.invokevirtual 36, 3) := by decide +kernel
theorem dL_feeds_129 : decode cL_feeds 129 = .ok (.aload_n 1, 1) := by decide +kernel
theorem dL_feeds_130 : decode cL_feeds 130 = .ok (.invokevirtual 16, 3) := by decide +kernel
theorem dL_feeds_133 : decode cL_feeds 133 = .ok (.if_icmp .ne 7, 3) := by decide +kernel
theorem dL_feeds_136 : decode cL_feeds 136 = .ok (.iconst 1, 1) := by decide +kernel
theorem dL_feeds_137 : decode cL_feeds 137 = .ok (.goto 4, 3) := by decide +kernel
theorem dL_feeds_140 : decode cL_feeds 140 = .ok (.iconst 0, 1) := by decide +kernel
theorem dL_feeds_141 : decode cL_feeds 141 = .ok (.ireturn, 1) := by decide +kernel
theorem dL_told_0 : decode cL_told 0 = .ok (.new 40, 3) := by decide +kernel
theorem dL_told_3 : decode cL_told 3 = .ok (.dup, 1) := by decide +kernel
theorem dL_told_4 : decode cL_told 4 = .ok (.invokespecial 42, 3) := by decide +kernel
theorem dL_told_7 : decode cL_told 7 = .ok (.iload_n 0, 1) := by decide +kernel
theorem dL_told_8 : decode cL_told 8 = .ok (.ifCond .ge 8, 3) := by decide +kernel
theorem dL_told_11 : decode cL_told 11 = .ok (.ldc 43, 2) := by decide +kernel
theorem dL_told_13 : decode cL_told 13 = .ok (.goto 5, 3) := by decide +kernel
theorem dL_told_16 : decode cL_told 16 = .ok (.ldc 45, 2) := by decide +kernel
theorem dL_told_18 : decode cL_told 18 = .ok (.invokevirtual 47, 3) := by decide +kernel
theorem dL_told_21 : decode cL_told 21 = .ok (.iload_n 0, 1) := by decide +kernel
theorem dL_told_22 : decode cL_told 22 = .ok (.invokestatic 51, 3) := by decide +kernel
theorem dL_told_25 : decode cL_told 25 = .ok (.invokevirtual 56, 3) := by decide +kernel
theorem dL_told_28 : decode cL_told 28 = .ok (.invokevirtual 59, 3) := by decide +kernel
theorem dL_told_31 : decode cL_told 31 = .ok (.areturn, 1) := by decide +kernel
theorem dL_alike_0 : decode cL_alike 0 = .ok (.iconst 0, 1) := by decide +kernel
theorem dL_alike_1 : decode cL_alike 1 = .ok (.istore_n 2, 1) := by decide +kernel
theorem dL_alike_2 : decode cL_alike 2 = .ok (.iconst 0, 1) := by decide +kernel
theorem dL_alike_3 : decode cL_alike 3 = .ok (.istore_n 3, 1) := by decide +kernel
theorem dL_alike_4 : decode cL_alike 4 = .ok (.iconst 0, 1) := by decide +kernel
theorem dL_alike_5 : decode cL_alike 5 = .ok (.istore 4, 2) := by decide +kernel
theorem dL_alike_7 : decode cL_alike 7 = .ok (.iconst 2, 1) := by decide +kernel
theorem dL_alike_8 : decode cL_alike 8 = .ok (.newarray .int, 2) := by decide +kernel
theorem dL_alike_10 : decode cL_alike 10 = .ok (.astore 5, 2) := by decide +kernel
theorem dL_alike_12 : decode cL_alike 12 = .ok (.aload_n 1, 1) := by decide +kernel
theorem dL_alike_13 : decode cL_alike 13 = .ok (.getfield 63, 3) := by decide +kernel
theorem dL_alike_16 : decode cL_alike 16 = .ok (.invokeinterface 69 1, 5) := by decide +kernel
theorem dL_alike_21 : decode cL_alike 21 = .ok (.astore 6, 2) := by decide +kernel
theorem dL_alike_23 : decode cL_alike 23 = .ok (.aload 6, 2) := by decide +kernel
theorem dL_alike_25 : decode cL_alike 25 = .ok (.invokeinterface 75 1, 5) := by decide +kernel
theorem dL_alike_30 : decode cL_alike 30 = .ok (.ifCond .eq 29, 3) := by decide +kernel
theorem dL_alike_33 : decode cL_alike 33 = .ok (.aload 6, 2) := by decide +kernel
theorem dL_alike_35 : decode cL_alike 35 = .ok (.invokeinterface 80 1, 5) := by decide +kernel
theorem dL_alike_40 : decode cL_alike 40 = .ok (.checkcast 84, 3) := by decide +kernel
theorem dL_alike_43 : decode cL_alike 43 = .ok (.astore 7, 2) := by decide +kernel
theorem dL_alike_45 : decode cL_alike 45 = .ok (.aload 5, 2) := by decide +kernel
theorem dL_alike_47 : decode cL_alike 47 = .ok (.aload 7, 2) := by decide +kernel
theorem dL_alike_49 : decode cL_alike 49 = .ok (.iconst 0, 1) := by decide +kernel
theorem dL_alike_50 : decode cL_alike 50 = .ok (.iaload, 1) := by decide +kernel
theorem dL_alike_51 : decode cL_alike 51 = .ok (.dup2, 1) := by decide +kernel
theorem dL_alike_52 : decode cL_alike 52 = .ok (.iaload, 1) := by decide +kernel
theorem dL_alike_53 : decode cL_alike 53 = .ok (.iconst 1, 1) := by decide +kernel
theorem dL_alike_54 : decode cL_alike 54 = .ok (.iadd, 1) := by decide +kernel
theorem dL_alike_55 : decode cL_alike 55 = .ok (.iastore, 1) := by decide +kernel
theorem dL_alike_56 : decode cL_alike 56 = .ok (.goto (-33), 3) := by decide +kernel
theorem dL_alike_59 : decode cL_alike 59 = .ok (.iconst 0, 1) := by decide +kernel
theorem dL_alike_60 : decode cL_alike 60 = .ok (.istore 6, 2) := by decide +kernel
theorem dL_alike_62 : decode cL_alike 62 = .ok (.iload 6, 2) := by decide +kernel
theorem dL_alike_64 : decode cL_alike 64 = .ok (.aload_n 1, 1) := by decide +kernel
theorem dL_alike_65 : decode cL_alike 65 = .ok (.getfield 86, 3) := by decide +kernel
theorem dL_alike_68 : decode cL_alike 68 = .ok (.invokeinterface 89 1, 5) := by decide +kernel
theorem dL_alike_73 : decode cL_alike 73 = .ok (.if_icmp .ge 315, 3) := by decide +kernel
theorem dL_alike_76 : decode cL_alike 76 = .ok (.aload_n 1, 1) := by decide +kernel
theorem dL_alike_77 : decode cL_alike 77 = .ok (.getfield 86, 3) := by decide +kernel
theorem dL_alike_80 : decode cL_alike 80 = .ok (.iload 6, 2) := by decide +kernel
theorem dL_alike_82 : decode cL_alike 82 = .ok (.invokeinterface 92 2, 5) := by decide +kernel
theorem dL_alike_87 : decode cL_alike 87 = .ok (.checkcast 84, 3) := by decide +kernel
theorem dL_alike_90 : decode cL_alike 90 = .ok (.astore 7, 2) := by decide +kernel
theorem dL_alike_92 : decode cL_alike 92 = .ok (.iload_n 2, 1) := by decide +kernel
theorem dL_alike_93 : decode cL_alike 93 = .ok (.aload 7, 2) := by decide +kernel
theorem dL_alike_95 : decode cL_alike 95 = .ok (.iconst 2, 1) := by decide +kernel
theorem dL_alike_96 : decode cL_alike 96 = .ok (.iaload, 1) := by decide +kernel
theorem dL_alike_97 : decode cL_alike 97 = .ok (.iadd, 1) := by decide +kernel
theorem dL_alike_98 : decode cL_alike 98 = .ok (.istore_n 2, 1) := by decide +kernel
theorem dL_alike_99 : decode cL_alike 99 = .ok (.iload_n 3, 1) := by decide +kernel
theorem dL_alike_100 : decode cL_alike 100 = .ok (.aload_n 1, 1) := by decide +kernel
theorem dL_alike_101 : decode cL_alike 101 = .ok (.iload 6, 2) := by decide +kernel
theorem dL_alike_103 : decode cL_alike 103 = .ok (.invokevirtual 96, 3) := by decide +kernel
theorem dL_alike_106 : decode cL_alike 106 = .ok (.ifCond .le 7, 3) := by decide +kernel
theorem dL_alike_109 : decode cL_alike 109 = .ok (.iconst 1, 1) := by decide +kernel
theorem dL_alike_110 : decode cL_alike 110 = .ok (.goto 4, 3) := by decide +kernel
theorem dL_alike_113 : decode cL_alike 113 = .ok (.iconst 0, 1) := by decide +kernel
theorem dL_alike_114 : decode cL_alike 114 = .ok (.iadd, 1) := by decide +kernel
theorem dL_alike_115 : decode cL_alike 115 = .ok (.istore_n 3, 1) := by decide +kernel
theorem dL_alike_116 : decode cL_alike 116 = .ok (.iload 4, 2) := by decide +kernel
theorem dL_alike_118 : decode cL_alike 118 = .ok (.aload_n 1, 1) := by decide +kernel
theorem dL_alike_119 : decode cL_alike 119 = .ok (.iload 6, 2) := by decide +kernel
theorem dL_alike_121 : decode cL_alike 121 = .ok (.invokevirtual 96, 3) := by decide +kernel
theorem dL_alike_124 : decode cL_alike 124 = .ok (.ifCond .ge 7, 3) := by decide +kernel
theorem dL_alike_127 : decode cL_alike 127 = .ok (.iconst 1, 1) := by decide +kernel
theorem dL_alike_128 : decode cL_alike 128 = .ok (.goto 4, 3) := by decide +kernel
theorem dL_alike_131 : decode cL_alike 131 = .ok (.iconst 0, 1) := by decide +kernel
theorem dL_alike_132 : decode cL_alike 132 = .ok (.iadd, 1) := by decide +kernel
theorem dL_alike_133 : decode cL_alike 133 = .ok (.istore 4, 2) := by decide +kernel
theorem dL_alike_135 : decode cL_alike 135 = .ok (.bipush 8, 2) := by decide +kernel
theorem dL_alike_137 : decode cL_alike 137 = .ok (.newarray .int, 2) := by decide +kernel
theorem dL_alike_139 : decode cL_alike 139 = .ok (.dup, 1) := by decide +kernel
theorem dL_alike_140 : decode cL_alike 140 = .ok (.iconst 0, 1) := by decide +kernel
theorem dL_alike_141 : decode cL_alike 141 = .ok (.aload 7, 2) := by decide +kernel
theorem dL_alike_143 : decode cL_alike 143 = .ok (.iconst 0, 1) := by decide +kernel
theorem dL_alike_144 : decode cL_alike 144 = .ok (.iaload, 1) := by decide +kernel
theorem dL_alike_145 : decode cL_alike 145 = .ok (.iastore, 1) := by decide +kernel
theorem dL_alike_146 : decode cL_alike 146 = .ok (.dup, 1) := by decide +kernel
theorem dL_alike_147 : decode cL_alike 147 = .ok (.iconst 1, 1) := by decide +kernel
theorem dL_alike_148 : decode cL_alike 148 = .ok (.aload_n 1, 1) := by decide +kernel
theorem dL_alike_149 : decode cL_alike 149 = .ok (.iload 6, 2) := by decide +kernel
theorem dL_alike_151 : decode cL_alike 151 = .ok (.invokevirtual 99, 3) := by decide +kernel
theorem dL_alike_154 : decode cL_alike 154 = .ok (.iastore, 1) := by decide +kernel
theorem dL_alike_155 : decode cL_alike 155 = .ok (.dup, 1) := by decide +kernel
theorem dL_alike_156 : decode cL_alike 156 = .ok (.iconst 2, 1) := by decide +kernel
theorem dL_alike_157 : decode cL_alike 157 = .ok (.aload 7, 2) := by decide +kernel
theorem dL_alike_159 : decode cL_alike 159 = .ok (.iconst 1, 1) := by decide +kernel
theorem dL_alike_160 : decode cL_alike 160 = .ok (.iaload, 1) := by decide +kernel
theorem dL_alike_161 : decode cL_alike 161 = .ok (.iastore, 1) := by decide +kernel
theorem dL_alike_162 : decode cL_alike 162 = .ok (.dup, 1) := by decide +kernel
theorem dL_alike_163 : decode cL_alike 163 = .ok (.iconst 3, 1) := by decide +kernel
theorem dL_alike_164 : decode cL_alike 164 = .ok (.aload 7, 2) := by decide +kernel
theorem dL_alike_166 : decode cL_alike 166 = .ok (.iconst 2, 1) := by decide +kernel
theorem dL_alike_167 : decode cL_alike 167 = .ok (.iaload, 1) := by decide +kernel
theorem dL_alike_168 : decode cL_alike 168 = .ok (.iastore, 1) := by decide +kernel
theorem dL_alike_169 : decode cL_alike 169 = .ok (.dup, 1) := by decide +kernel
theorem dL_alike_170 : decode cL_alike 170 = .ok (.iconst 4, 1) := by decide +kernel
theorem dL_alike_171 : decode cL_alike 171 = .ok (.aload 7, 2) := by decide +kernel
theorem dL_alike_173 : decode cL_alike 173 = .ok (.iconst 3, 1) := by decide +kernel
theorem dL_alike_174 : decode cL_alike 174 = .ok (.iaload, 1) := by decide +kernel
theorem dL_alike_175 : decode cL_alike 175 = .ok (.iastore, 1) := by decide +kernel
theorem dL_alike_176 : decode cL_alike 176 = .ok (.dup, 1) := by decide +kernel
theorem dL_alike_177 : decode cL_alike 177 = .ok (.iconst 5, 1) := by decide +kernel
theorem dL_alike_178 : decode cL_alike 178 = .ok (.aload 7, 2) := by decide +kernel
theorem dL_alike_180 : decode cL_alike 180 = .ok (.iconst 4, 1) := by decide +kernel
theorem dL_alike_181 : decode cL_alike 181 = .ok (.iaload, 1) := by decide +kernel
theorem dL_alike_182 : decode cL_alike 182 = .ok (.iastore, 1) := by decide +kernel
theorem dL_alike_183 : decode cL_alike 183 = .ok (.dup, 1) := by decide +kernel
theorem dL_alike_184 : decode cL_alike 184 = .ok (.bipush 6, 2) := by decide +kernel
theorem dL_alike_186 : decode cL_alike 186 = .ok (.aload_n 1, 1) := by decide +kernel
theorem dL_alike_187 : decode cL_alike 187 = .ok (.iload 6, 2) := by decide +kernel
theorem dL_alike_189 : decode cL_alike 189 = .ok (.iconst 0, 1) := by decide +kernel
theorem dL_alike_190 : decode cL_alike 190 = .ok (.invokevirtual 102, 3) := by decide +kernel
theorem dL_alike_193 : decode cL_alike 193 = .ok (.iastore, 1) := by decide +kernel
theorem dL_alike_194 : decode cL_alike 194 = .ok (.dup, 1) := by decide +kernel
theorem dL_alike_195 : decode cL_alike 195 = .ok (.bipush 7, 2) := by decide +kernel
theorem dL_alike_197 : decode cL_alike 197 = .ok (.aload_n 1, 1) := by decide +kernel
theorem dL_alike_198 : decode cL_alike 198 = .ok (.iload 6, 2) := by decide +kernel
theorem dL_alike_200 : decode cL_alike 200 = .ok (.iconst 1, 1) := by decide +kernel
theorem dL_alike_201 : decode cL_alike 201 = .ok (.invokevirtual 102, 3) := by decide +kernel
theorem dL_alike_204 : decode cL_alike 204 = .ok (.iastore, 1) := by decide +kernel
theorem dL_alike_205 : decode cL_alike 205 = .ok (.astore 8, 2) := by decide +kernel
theorem dL_alike_207 : decode cL_alike 207 = .ok (.iconst 0, 1) := by decide +kernel
theorem dL_alike_208 : decode cL_alike 208 = .ok (.istore 9, 2) := by decide +kernel
theorem dL_alike_210 : decode cL_alike 210 = .ok (.iload 9, 2) := by decide +kernel
theorem dL_alike_212 : decode cL_alike 212 = .ok (.bipush 8, 2) := by decide +kernel
theorem dL_alike_214 : decode cL_alike 214 = .ok (.if_icmp .ge 27, 3) := by decide +kernel
theorem dL_alike_217 : decode cL_alike 217 = .ok (.aload_n 0, 1) := by decide +kernel
theorem dL_alike_218 : decode cL_alike 218 = .ok (.iload 6, 2) := by decide +kernel
theorem dL_alike_220 : decode cL_alike 220 = .ok (.iload 9, 2) := by decide +kernel
theorem dL_alike_222 : decode cL_alike 222 = .ok (.invokevirtual 106, 3) := by decide +kernel
theorem dL_alike_225 : decode cL_alike 225 = .ok (.aload 8, 2) := by decide +kernel
theorem dL_alike_227 : decode cL_alike 227 = .ok (.iload 9, 2) := by decide +kernel
theorem dL_alike_229 : decode cL_alike 229 = .ok (.iaload, 1) := by decide +kernel
theorem dL_alike_230 : decode cL_alike 230 = .ok (.if_icmp .eq 5, 3) := by decide +kernel
theorem dL_alike_233 : decode cL_alike 233 = .ok (.iconst 0, 1) := by decide +kernel
theorem dL_alike_234 : decode cL_alike 234 = .ok (.ireturn, 1) := by decide +kernel
theorem dL_alike_235 : decode cL_alike 235 = .ok (.iinc 9 1, 3) := by decide +kernel
theorem dL_alike_238 : decode cL_alike 238 = .ok (.goto (-28), 3) := by decide +kernel
theorem dL_alike_241 : decode cL_alike 241 = .ok (.aload_n 0, 1) := by decide +kernel
theorem dL_alike_242 : decode cL_alike 242 = .ok (.iload 6, 2) := by decide +kernel
theorem dL_alike_244 : decode cL_alike 244 = .ok (.invokevirtual 109, 3) := by decide +kernel
theorem dL_alike_247 : decode cL_alike 247 = .ok (.aload_n 1, 1) := by decide +kernel
theorem dL_alike_248 : decode cL_alike 248 = .ok (.iload 6, 2) := by decide +kernel
theorem dL_alike_250 : decode cL_alike 250 = .ok (.invokevirtual 96, 3) := by decide +kernel
theorem dL_alike_253 : decode cL_alike 253 = .ok (.if_icmp .eq 5, 3) := by decide +kernel
theorem dL_alike_256 : decode cL_alike 256 = .ok (.iconst 0, 1) := by decide +kernel
theorem dL_alike_257 : decode cL_alike 257 = .ok (.ireturn, 1) := by decide +kernel
theorem dL_alike_258 : decode cL_alike 258 = .ok (.iconst 0, 1) := by decide +kernel
theorem dL_alike_259 : decode cL_alike 259 = .ok (.istore 9, 2) := by decide +kernel
theorem dL_alike_261 : decode cL_alike 261 = .ok (.iload 9, 2) := by decide +kernel
theorem dL_alike_263 : decode cL_alike 263 = .ok (.aload 7, 2) := by decide +kernel
theorem dL_alike_265 : decode cL_alike 265 = .ok (.iconst 0, 1) := by decide +kernel
theorem dL_alike_266 : decode cL_alike 266 = .ok (.iaload, 1) := by decide +kernel
theorem dL_alike_267 : decode cL_alike 267 = .ok (.if_icmp .ge 115, 3) := by decide +kernel
theorem dL_alike_270 : decode cL_alike 270 = .ok (.aload_n 0, 1) := by decide +kernel
theorem dL_alike_271 : decode cL_alike 271 = .ok (.aload_n 1, 1) := by decide +kernel
theorem dL_alike_272 : decode cL_alike 272 = .ok (.iload 6, 2) := by decide +kernel
theorem dL_alike_274 : decode cL_alike 274 = .ok (.invokevirtual 99, 3) := by decide +kernel
theorem dL_alike_277 : decode cL_alike 277 = .ok (.iload 9, 2) := by decide +kernel
theorem dL_alike_279 : decode cL_alike 279 = .ok (.iadd, 1) := by decide +kernel
theorem dL_alike_280 : decode cL_alike 280 = .ok (.invokevirtual 110, 3) := by decide +kernel
theorem dL_alike_283 : decode cL_alike 283 = .ok (.iload 6, 2) := by decide +kernel
theorem dL_alike_285 : decode cL_alike 285 = .ok (.if_icmp .eq 5, 3) := by decide +kernel
theorem dL_alike_288 : decode cL_alike 288 = .ok (.iconst 0, 1) := by decide +kernel
theorem dL_alike_289 : decode cL_alike 289 = .ok (.ireturn, 1) := by decide +kernel
theorem dL_alike_290 : decode cL_alike 290 = .ok (.iconst 0, 1) := by decide +kernel
theorem dL_alike_291 : decode cL_alike 291 = .ok (.istore 10, 2) := by decide +kernel
theorem dL_alike_293 : decode cL_alike 293 = .ok (.iload 10, 2) := by decide +kernel
theorem dL_alike_295 : decode cL_alike 295 = .ok (.aload_n 1, 1) := by decide +kernel
theorem dL_alike_296 : decode cL_alike 296 = .ok (.getfield 113, 3) := by decide +kernel
theorem dL_alike_299 : decode cL_alike 299 = .ok (.if_icmp .ge 77, 3) := by decide +kernel
theorem dL_alike_302 : decode cL_alike 302 = .ok (.aload_n 0, 1) := by decide +kernel
theorem dL_alike_303 : decode cL_alike 303 = .ok (.iload 6, 2) := by decide +kernel
theorem dL_alike_305 : decode cL_alike 305 = .ok (.iconst 0, 1) := by decide +kernel
theorem dL_alike_306 : decode cL_alike 306 = .ok (.iload 9, 2) := by decide +kernel
theorem dL_alike_308 : decode cL_alike 308 = .ok (.iload 10, 2) := by decide +kernel
theorem dL_alike_310 : decode cL_alike 310 = .ok (.invokevirtual 117, 3) := by decide +kernel
theorem dL_alike_313 : decode cL_alike 313 = .ok (.aload_n 1, 1) := by decide +kernel
theorem dL_alike_314 : decode cL_alike 314 = .ok (.getfield 121, 3) := by decide +kernel
theorem dL_alike_317 : decode cL_alike 317 = .ok (.iconst 0, 1) := by decide +kernel
theorem dL_alike_318 : decode cL_alike 318 = .ok (.aaload, 1) := by decide +kernel
theorem dL_alike_319 : decode cL_alike 319 = .ok (.aload_n 1, 1) := by decide +kernel
theorem dL_alike_320 : decode cL_alike 320 = .ok (.iload 6, 2) := by decide +kernel
theorem dL_alike_322 : decode cL_alike 322 = .ok (.invokevirtual 99, 3) := by decide +kernel
theorem dL_alike_325 : decode cL_alike 325 = .ok (.iload 9, 2) := by decide +kernel
theorem dL_alike_327 : decode cL_alike 327 = .ok (.iadd, 1) := by decide +kernel
theorem dL_alike_328 : decode cL_alike 328 = .ok (.aaload, 1) := by decide +kernel
theorem dL_alike_329 : decode cL_alike 329 = .ok (.iload 10, 2) := by decide +kernel
theorem dL_alike_331 : decode cL_alike 331 = .ok (.iaload, 1) := by decide +kernel
theorem dL_alike_332 : decode cL_alike 332 = .ok (.if_icmp .ne 36, 3) := by decide +kernel
theorem dL_alike_335 : decode cL_alike 335 = .ok (.aload_n 0, 1) := by decide +kernel
theorem dL_alike_336 : decode cL_alike 336 = .ok (.iload 6, 2) := by decide +kernel
theorem dL_alike_338 : decode cL_alike 338 = .ok (.iconst 1, 1) := by decide +kernel
theorem dL_alike_339 : decode cL_alike 339 = .ok (.iload 9, 2) := by decide +kernel
theorem dL_alike_341 : decode cL_alike 341 = .ok (.iload 10, 2) := by decide +kernel
theorem dL_alike_343 : decode cL_alike 343 = .ok (.invokevirtual 117, 3) := by decide +kernel
theorem dL_alike_346 : decode cL_alike 346 = .ok (.aload_n 1, 1) := by decide +kernel
theorem dL_alike_347 : decode cL_alike 347 = .ok (.getfield 121, 3) := by decide +kernel
theorem dL_alike_350 : decode cL_alike 350 = .ok (.iconst 1, 1) := by decide +kernel
theorem dL_alike_351 : decode cL_alike 351 = .ok (.aaload, 1) := by decide +kernel
theorem dL_alike_352 : decode cL_alike 352 = .ok (.aload_n 1, 1) := by decide +kernel
theorem dL_alike_353 : decode cL_alike 353 = .ok (.iload 6, 2) := by decide +kernel
theorem dL_alike_355 : decode cL_alike 355 = .ok (.invokevirtual 99, 3) := by decide +kernel
theorem dL_alike_358 : decode cL_alike 358 = .ok (.iload 9, 2) := by decide +kernel
theorem dL_alike_360 : decode cL_alike 360 = .ok (.iadd, 1) := by decide +kernel
theorem dL_alike_361 : decode cL_alike 361 = .ok (.aaload, 1) := by decide +kernel
theorem dL_alike_362 : decode cL_alike 362 = .ok (.iload 10, 2) := by decide +kernel
theorem dL_alike_364 : decode cL_alike 364 = .ok (.iaload, 1) := by decide +kernel
theorem dL_alike_365 : decode cL_alike 365 = .ok (.if_icmp .eq 5, 3) := by decide +kernel
theorem dL_alike_368 : decode cL_alike 368 = .ok (.iconst 0, 1) := by decide +kernel
theorem dL_alike_369 : decode cL_alike 369 = .ok (.ireturn, 1) := by decide +kernel
theorem dL_alike_370 : decode cL_alike 370 = .ok (.iinc 10 1, 3) := by decide +kernel
theorem dL_alike_373 : decode cL_alike 373 = .ok (.goto (-80), 3) := by decide +kernel
theorem dL_alike_376 : decode cL_alike 376 = .ok (.iinc 9 1, 3) := by decide +kernel
theorem dL_alike_379 : decode cL_alike 379 = .ok (.goto (-118), 3) := by decide +kernel
theorem dL_alike_382 : decode cL_alike 382 = .ok (.iinc 6 1, 3) := by decide +kernel
theorem dL_alike_385 : decode cL_alike 385 = .ok (.goto (-323), 3) := by decide +kernel
theorem dL_alike_388 : decode cL_alike 388 = .ok (.bipush 9, 2) := by decide +kernel
theorem dL_alike_390 : decode cL_alike 390 = .ok (.newarray .int, 2) := by decide +kernel
theorem dL_alike_392 : decode cL_alike 392 = .ok (.dup, 1) := by decide +kernel
theorem dL_alike_393 : decode cL_alike 393 = .ok (.iconst 0, 1) := by decide +kernel
theorem dL_alike_394 : decode cL_alike 394 = .ok (.aload_n 1, 1) := by decide +kernel
theorem dL_alike_395 : decode cL_alike 395 = .ok (.getfield 86, 3) := by decide +kernel
theorem dL_alike_398 : decode cL_alike 398 = .ok (.invokeinterface 89 1, 5) := by decide +kernel
theorem dL_alike_403 : decode cL_alike 403 = .ok (.iastore, 1) := by decide +kernel
theorem dL_alike_404 : decode cL_alike 404 = .ok (.dup, 1) := by decide +kernel
theorem dL_alike_405 : decode cL_alike 405 = .ok (.iconst 1, 1) := by decide +kernel
theorem dL_alike_406 : decode cL_alike 406 = .ok (.aload_n 1, 1) := by decide +kernel
theorem dL_alike_407 : decode cL_alike 407 = .ok (.getfield 113, 3) := by decide +kernel
theorem dL_alike_410 : decode cL_alike 410 = .ok (.iastore, 1) := by decide +kernel
theorem dL_alike_411 : decode cL_alike 411 = .ok (.dup, 1) := by decide +kernel
theorem dL_alike_412 : decode cL_alike 412 = .ok (.iconst 2, 1) := by decide +kernel
theorem dL_alike_413 : decode cL_alike 413 = .ok (.aload_n 1, 1) := by decide +kernel
theorem dL_alike_414 : decode cL_alike 414 = .ok (.invokevirtual 125, 3) := by decide +kernel
theorem dL_alike_417 : decode cL_alike 417 = .ok (.iastore, 1) := by decide +kernel
theorem dL_alike_418 : decode cL_alike 418 = .ok (.dup, 1) := by decide +kernel
theorem dL_alike_419 : decode cL_alike 419 = .ok (.iconst 3, 1) := by decide +kernel
theorem dL_alike_420 : decode cL_alike 420 = .ok (.aload 5, 2) := by decide +kernel
theorem dL_alike_422 : decode cL_alike 422 = .ok (.iconst 0, 1) := by decide +kernel
theorem dL_alike_423 : decode cL_alike 423 = .ok (.iaload, 1) := by decide +kernel
theorem dL_alike_424 : decode cL_alike 424 = .ok (.iastore, 1) := by decide +kernel
theorem dL_alike_425 : decode cL_alike 425 = .ok (.dup, 1) := by decide +kernel
theorem dL_alike_426 : decode cL_alike 426 = .ok (.iconst 4, 1) := by decide +kernel
theorem dL_alike_427 : decode cL_alike 427 = .ok (.aload 5, 2) := by decide +kernel
theorem dL_alike_429 : decode cL_alike 429 = .ok (.iconst 1, 1) := by decide +kernel
theorem dL_alike_430 : decode cL_alike 430 = .ok (.iaload, 1) := by decide +kernel
theorem dL_alike_431 : decode cL_alike 431 = .ok (.iastore, 1) := by decide +kernel
theorem dL_alike_432 : decode cL_alike 432 = .ok (.dup, 1) := by decide +kernel
theorem dL_alike_433 : decode cL_alike 433 = .ok (.iconst 5, 1) := by decide +kernel
theorem dL_alike_434 : decode cL_alike 434 = .ok (.aload_n 1, 1) := by decide +kernel
theorem dL_alike_435 : decode cL_alike 435 = .ok (.getfield 128, 3) := by decide +kernel
theorem dL_alike_438 : decode cL_alike 438 = .ok (.iastore, 1) := by decide +kernel
theorem dL_alike_439 : decode cL_alike 439 = .ok (.dup, 1) := by decide +kernel
theorem dL_alike_440 : decode cL_alike 440 = .ok (.bipush 6, 2) := by decide +kernel
theorem dL_alike_442 : decode cL_alike 442 = .ok (.iload_n 2, 1) := by decide +kernel
theorem dL_alike_443 : decode cL_alike 443 = .ok (.iastore, 1) := by decide +kernel
theorem dL_alike_444 : decode cL_alike 444 = .ok (.dup, 1) := by decide +kernel
theorem dL_alike_445 : decode cL_alike 445 = .ok (.bipush 7, 2) := by decide +kernel
theorem dL_alike_447 : decode cL_alike 447 = .ok (.iload_n 3, 1) := by decide +kernel
theorem dL_alike_448 : decode cL_alike 448 = .ok (.iastore, 1) := by decide +kernel
theorem dL_alike_449 : decode cL_alike 449 = .ok (.dup, 1) := by decide +kernel
theorem dL_alike_450 : decode cL_alike 450 = .ok (.bipush 8, 2) := by decide +kernel
theorem dL_alike_452 : decode cL_alike 452 = .ok (.iload 4, 2) := by decide +kernel
theorem dL_alike_454 : decode cL_alike 454 = .ok (.iastore, 1) := by decide +kernel
theorem dL_alike_455 : decode cL_alike 455 = .ok (.astore 6, 2) := by decide +kernel
theorem dL_alike_457 : decode cL_alike 457 = .ok (.iconst 0, 1) := by decide +kernel
theorem dL_alike_458 : decode cL_alike 458 = .ok (.istore 7, 2) := by decide +kernel
theorem dL_alike_460 : decode cL_alike 460 = .ok (.iload 7, 2) := by decide +kernel
theorem dL_alike_462 : decode cL_alike 462 = .ok (.bipush 9, 2) := by decide +kernel
theorem dL_alike_464 : decode cL_alike 464 = .ok (.if_icmp .ge 25, 3) := by decide +kernel
theorem dL_alike_467 : decode cL_alike 467 = .ok (.aload_n 0, 1) := by decide +kernel
theorem dL_alike_468 : decode cL_alike 468 = .ok (.iload 7, 2) := by decide +kernel
theorem dL_alike_470 : decode cL_alike 470 = .ok (.invokevirtual 131, 3) := by decide +kernel
theorem dL_alike_473 : decode cL_alike 473 = .ok (.aload 6, 2) := by decide +kernel
theorem dL_alike_475 : decode cL_alike 475 = .ok (.iload 7, 2) := by decide +kernel
theorem dL_alike_477 : decode cL_alike 477 = .ok (.iaload, 1) := by decide +kernel
theorem dL_alike_478 : decode cL_alike 478 = .ok (.if_icmp .eq 5, 3) := by decide +kernel
theorem dL_alike_481 : decode cL_alike 481 = .ok (.iconst 0, 1) := by decide +kernel
theorem dL_alike_482 : decode cL_alike 482 = .ok (.ireturn, 1) := by decide +kernel
theorem dL_alike_483 : decode cL_alike 483 = .ok (.iinc 7 1, 3) := by decide +kernel
theorem dL_alike_486 : decode cL_alike 486 = .ok (.goto (-26), 3) := by decide +kernel
theorem dL_alike_489 : decode cL_alike 489 = .ok (.iconst 1, 1) := by decide +kernel
theorem dL_alike_490 : decode cL_alike 490 = .ok (.ireturn, 1) := by decide +kernel
theorem dL_acts_0 : decode cL_acts 0 = .ok (.aload_n 2, 1) := by decide +kernel
theorem dL_acts_1 : decode cL_acts 1 = .ok (.sipush 340, 3) := by decide +kernel
theorem dL_acts_4 : decode cL_acts 4 = .ok (.iload_n 3, 1) := by decide +kernel
theorem dL_acts_5 : decode cL_acts 5 = .ok (.iadd, 1) := by decide +kernel
theorem dL_acts_6 : decode cL_acts 6 = .ok (.ldc 134, 2) := by decide +kernel
theorem dL_acts_8 : decode cL_acts 8 = .ok (.invokestatic 135, 3) := by decide +kernel
theorem dL_acts_11 : decode cL_acts 11 = .ok (.istore 4, 2) := by decide +kernel
theorem dL_acts_13 : decode cL_acts 13 = .ok (.aload_n 2, 1) := by decide +kernel
theorem dL_acts_14 : decode cL_acts 14 = .ok (.sipush 300, 3) := by decide +kernel
theorem dL_acts_17 : decode cL_acts 17 = .ok (.iload_n 3, 1) := by decide +kernel
theorem dL_acts_18 : decode cL_acts 18 = .ok (.iadd, 1) := by decide +kernel
theorem dL_acts_19 : decode cL_acts 19 = .ok (.bipush 11, 2) := by decide +kernel
theorem dL_acts_21 : decode cL_acts 21 = .ok (.invokestatic 135, 3) := by decide +kernel
theorem dL_acts_24 : decode cL_acts 24 = .ok (.istore 5, 2) := by decide +kernel
theorem dL_acts_26 : decode cL_acts 26 = .ok (.iload 5, 2) := by decide +kernel
theorem dL_acts_28 : decode cL_acts 28 = .ok (.ifCond .ne 53, 3) := by decide +kernel
theorem dL_acts_31 : decode cL_acts 31 = .ok (.iload 4, 2) := by decide +kernel
theorem dL_acts_33 : decode cL_acts 33 = .ok (.bipush 8, 2) := by decide +kernel
theorem dL_acts_35 : decode cL_acts 35 = .ok (.irem, 1) := by decide +kernel
theorem dL_acts_36 : decode cL_acts 36 = .ok (.iconst 4, 1) := by decide +kernel
theorem dL_acts_37 : decode cL_acts 37 = .ok (.isub, 1) := by decide +kernel
theorem dL_acts_38 : decode cL_acts 38 = .ok (.ifCond .ge 13, 3) := by decide +kernel
theorem dL_acts_41 : decode cL_acts 41 = .ok (.iload 4, 2) := by decide +kernel
theorem dL_acts_43 : decode cL_acts 43 = .ok (.bipush 8, 2) := by decide +kernel
theorem dL_acts_45 : decode cL_acts 45 = .ok (.irem, 1) := by decide +kernel
theorem dL_acts_46 : decode cL_acts 46 = .ok (.iconst 4, 1) := by decide +kernel
theorem dL_acts_47 : decode cL_acts 47 = .ok (.isub, 1) := by decide +kernel
theorem dL_acts_48 : decode cL_acts 48 = .ok (.goto 10, 3) := by decide +kernel
theorem dL_acts_51 : decode cL_acts 51 = .ok (.iload 4, 2) := by decide +kernel
theorem dL_acts_53 : decode cL_acts 53 = .ok (.bipush 8, 2) := by decide +kernel
theorem dL_acts_55 : decode cL_acts 55 = .ok (.irem, 1) := by decide +kernel
theorem dL_acts_56 : decode cL_acts 56 = .ok (.iconst 3, 1) := by decide +kernel
theorem dL_acts_57 : decode cL_acts 57 = .ok (.isub, 1) := by decide +kernel
theorem dL_acts_58 : decode cL_acts 58 = .ok (.istore 6, 2) := by decide +kernel
theorem dL_acts_60 : decode cL_acts 60 = .ok (.aload_n 0, 1) := by decide +kernel
theorem dL_acts_61 : decode cL_acts 61 = .ok (.iload 6, 2) := by decide +kernel
theorem dL_acts_63 : decode cL_acts 63 = .ok (.invokevirtual 139, 3) := by decide +kernel
theorem dL_acts_66 : decode cL_acts 66 = .ok (.aload_n 1, 1) := by decide +kernel
theorem dL_acts_67 : decode cL_acts 67 = .ok (.iload 6, 2) := by decide +kernel
theorem dL_acts_69 : decode cL_acts 69 = .ok (.invokevirtual 142, 3) := by decide +kernel
theorem dL_acts_72 : decode cL_acts 72 = .ok (.if_icmp .ne 7, 3) := by decide +kernel
theorem dL_acts_75 : decode cL_acts 75 = .ok (.iconst 1, 1) := by decide +kernel
theorem dL_acts_76 : decode cL_acts 76 = .ok (.goto 4, 3) := by decide +kernel
theorem dL_acts_79 : decode cL_acts 79 = .ok (.iconst 0, 1) := by decide +kernel
theorem dL_acts_80 : decode cL_acts 80 = .ok (.ireturn, 1) := by decide +kernel
theorem dL_acts_81 : decode cL_acts 81 = .ok (.aload_n 1, 1) := by decide +kernel
theorem dL_acts_82 : decode cL_acts 82 = .ok (.getfield 86, 3) := by decide +kernel
theorem dL_acts_85 : decode cL_acts 85 = .ok (.invokeinterface 143 1, 5) := by decide +kernel
theorem dL_acts_90 : decode cL_acts 90 = .ok (.ifCond .eq 5, 3) := by decide +kernel
theorem dL_acts_93 : decode cL_acts 93 = .ok (.iconst 1, 1) := by decide +kernel
theorem dL_acts_94 : decode cL_acts 94 = .ok (.ireturn, 1) := by decide +kernel
theorem dL_acts_95 : decode cL_acts 95 = .ok (.iload 4, 2) := by decide +kernel
theorem dL_acts_97 : decode cL_acts 97 = .ok (.aload_n 1, 1) := by decide +kernel
theorem dL_acts_98 : decode cL_acts 98 = .ok (.getfield 86, 3) := by decide +kernel
theorem dL_acts_101 : decode cL_acts 101 = .ok (.invokeinterface 89 1, 5) := by decide +kernel
theorem dL_acts_106 : decode cL_acts 106 = .ok (.irem, 1) := by decide +kernel
theorem dL_acts_107 : decode cL_acts 107 = .ok (.istore 6, 2) := by decide +kernel
theorem dL_acts_109 : decode cL_acts 109 = .ok (.aload_n 1, 1) := by decide +kernel
theorem dL_acts_110 : decode cL_acts 110 = .ok (.getfield 86, 3) := by decide +kernel
theorem dL_acts_113 : decode cL_acts 113 = .ok (.iload 6, 2) := by decide +kernel
theorem dL_acts_115 : decode cL_acts 115 = .ok (.invokeinterface 92 2, 5) := by decide +kernel
theorem dL_acts_120 : decode cL_acts 120 = .ok (.checkcast 84, 3) := by decide +kernel
theorem dL_acts_123 : decode cL_acts 123 = .ok (.astore 7, 2) := by decide +kernel
theorem dL_acts_125 : decode cL_acts 125 = .ok (.iload 4, 2) := by decide +kernel
theorem dL_acts_127 : decode cL_acts 127 = .ok (.bipush 8, 2) := by decide +kernel
theorem dL_acts_129 : decode cL_acts 129 = .ok (.idiv, 1) := by decide +kernel
theorem dL_acts_130 : decode cL_acts 130 = .ok (.iconst 2, 1) := by decide +kernel
theorem dL_acts_131 : decode cL_acts 131 = .ok (.irem, 1) := by decide +kernel
theorem dL_acts_132 : decode cL_acts 132 = .ok (.istore 8, 2) := by decide +kernel
theorem dL_acts_134 : decode cL_acts 134 = .ok (.aload_n 1, 1) := by decide +kernel
theorem dL_acts_135 : decode cL_acts 135 = .ok (.iload 6, 2) := by decide +kernel
theorem dL_acts_137 : decode cL_acts 137 = .ok (.invokevirtual 99, 3) := by decide +kernel
theorem dL_acts_140 : decode cL_acts 140 = .ok (.istore 9, 2) := by decide +kernel
theorem dL_acts_142 : decode cL_acts 142 = .ok (.iload 5, 2) := by decide +kernel
theorem dL_acts_144 : decode cL_acts 144 = .ok (.iconst 4, 1) := by decide +kernel
theorem dL_acts_145 : decode cL_acts 145 = .ok (.if_icmp .ge 54, 3) := by decide +kernel
theorem dL_acts_148 : decode cL_acts 148 = .ok (.aload 7, 2) := by decide +kernel
theorem dL_acts_150 : decode cL_acts 150 = .ok (.iconst 2, 1) := by decide +kernel
theorem dL_acts_151 : decode cL_acts 151 = .ok (.iaload, 1) := by decide +kernel
theorem dL_acts_152 : decode cL_acts 152 = .ok (.iconst 1, 1) := by decide +kernel
theorem dL_acts_153 : decode cL_acts 153 = .ok (.if_icmp .ne 5, 3) := by decide +kernel
theorem dL_acts_156 : decode cL_acts 156 = .ok (.iconst 1, 1) := by decide +kernel
theorem dL_acts_157 : decode cL_acts 157 = .ok (.ireturn, 1) := by decide +kernel
theorem dL_acts_158 : decode cL_acts 158 = .ok (.aload 7, 2) := by decide +kernel
theorem dL_acts_160 : decode cL_acts 160 = .ok (.iconst 1, 1) := by decide +kernel
theorem dL_acts_161 : decode cL_acts 161 = .ok (.iaload, 1) := by decide +kernel
theorem dL_acts_162 : decode cL_acts 162 = .ok (.istore 10, 2) := by decide +kernel
theorem dL_acts_164 : decode cL_acts 164 = .ok (.aload 7, 2) := by decide +kernel
theorem dL_acts_166 : decode cL_acts 166 = .ok (.iconst 1, 1) := by decide +kernel
theorem dL_acts_167 : decode cL_acts 167 = .ok (.iload 4, 2) := by decide +kernel
theorem dL_acts_169 : decode cL_acts 169 = .ok (.bipush 16, 2) := by decide +kernel
theorem dL_acts_171 : decode cL_acts 171 = .ok (.idiv, 1) := by decide +kernel
theorem dL_acts_172 : decode cL_acts 172 = .ok (.bipush 9, 2) := by decide +kernel
theorem dL_acts_174 : decode cL_acts 174 = .ok (.irem, 1) := by decide +kernel
theorem dL_acts_175 : decode cL_acts 175 = .ok (.iconst 4, 1) := by decide +kernel
theorem dL_acts_176 : decode cL_acts 176 = .ok (.isub, 1) := by decide +kernel
theorem dL_acts_177 : decode cL_acts 177 = .ok (.iastore, 1) := by decide +kernel
theorem dL_acts_178 : decode cL_acts 178 = .ok (.aload_n 0, 1) := by decide +kernel
theorem dL_acts_179 : decode cL_acts 179 = .ok (.iload 6, 2) := by decide +kernel
theorem dL_acts_181 : decode cL_acts 181 = .ok (.aload 7, 2) := by decide +kernel
theorem dL_acts_183 : decode cL_acts 183 = .ok (.iconst 1, 1) := by decide +kernel
theorem dL_acts_184 : decode cL_acts 184 = .ok (.iaload, 1) := by decide +kernel
theorem dL_acts_185 : decode cL_acts 185 = .ok (.invokevirtual 144, 3) := by decide +kernel
theorem dL_acts_188 : decode cL_acts 188 = .ok (.iload 10, 2) := by decide +kernel
theorem dL_acts_190 : decode cL_acts 190 = .ok (.if_icmp .ne 7, 3) := by decide +kernel
theorem dL_acts_193 : decode cL_acts 193 = .ok (.iconst 1, 1) := by decide +kernel
theorem dL_acts_194 : decode cL_acts 194 = .ok (.goto 4, 3) := by decide +kernel
theorem dL_acts_197 : decode cL_acts 197 = .ok (.iconst 0, 1) := by decide +kernel
theorem dL_acts_198 : decode cL_acts 198 = .ok (.ireturn, 1) := by decide +kernel
theorem dL_acts_199 : decode cL_acts 199 = .ok (.iload 5, 2) := by decide +kernel
theorem dL_acts_201 : decode cL_acts 201 = .ok (.iconst 4, 1) := by decide +kernel
theorem dL_acts_202 : decode cL_acts 202 = .ok (.if_icmp .ne 83, 3) := by decide +kernel
theorem dL_acts_205 : decode cL_acts 205 = .ok (.iload 4, 2) := by decide +kernel
theorem dL_acts_207 : decode cL_acts 207 = .ok (.bipush 16, 2) := by decide +kernel
theorem dL_acts_209 : decode cL_acts 209 = .ok (.idiv, 1) := by decide +kernel
theorem dL_acts_210 : decode cL_acts 210 = .ok (.iconst 2, 1) := by decide +kernel
theorem dL_acts_211 : decode cL_acts 211 = .ok (.irem, 1) := by decide +kernel
theorem dL_acts_212 : decode cL_acts 212 = .ok (.ifCond .ne 7, 3) := by decide +kernel
theorem dL_acts_215 : decode cL_acts 215 = .ok (.iconst 1, 1) := by decide +kernel
theorem dL_acts_216 : decode cL_acts 216 = .ok (.goto 4, 3) := by decide +kernel
theorem dL_acts_219 : decode cL_acts 219 = .ok (.iconst 0, 1) := by decide +kernel
theorem dL_acts_220 : decode cL_acts 220 = .ok (.istore 10, 2) := by decide +kernel
theorem dL_acts_222 : decode cL_acts 222 = .ok (.iload 10, 2) := by decide +kernel
theorem dL_acts_224 : decode cL_acts 224 = .ok (.aload 7, 2) := by decide +kernel
theorem dL_acts_226 : decode cL_acts 226 = .ok (.iconst 2, 1) := by decide +kernel
theorem dL_acts_227 : decode cL_acts 227 = .ok (.iaload, 1) := by decide +kernel
theorem dL_acts_228 : decode cL_acts 228 = .ok (.iconst 1, 1) := by decide +kernel
theorem dL_acts_229 : decode cL_acts 229 = .ok (.if_icmp .ne 7, 3) := by decide +kernel
theorem dL_acts_232 : decode cL_acts 232 = .ok (.iconst 1, 1) := by decide +kernel
theorem dL_acts_233 : decode cL_acts 233 = .ok (.goto 4, 3) := by decide +kernel
theorem dL_acts_236 : decode cL_acts 236 = .ok (.iconst 0, 1) := by decide +kernel
theorem dL_acts_237 : decode cL_acts 237 = .ok (.if_icmp .eq 7, 3) := by decide +kernel
theorem dL_acts_240 : decode cL_acts 240 = .ok (.iconst 1, 1) := by decide +kernel
theorem dL_acts_241 : decode cL_acts 241 = .ok (.goto 4, 3) := by decide +kernel
theorem dL_acts_244 : decode cL_acts 244 = .ok (.iconst 0, 1) := by decide +kernel
theorem dL_acts_245 : decode cL_acts 245 = .ok (.istore 11, 2) := by decide +kernel
theorem dL_acts_247 : decode cL_acts 247 = .ok (.iload 11, 2) := by decide +kernel
theorem dL_acts_249 : decode cL_acts 249 = .ok (.ifCond .eq 17, 3) := by decide +kernel
theorem dL_acts_252 : decode cL_acts 252 = .ok (.aload 7, 2) := by decide +kernel
theorem dL_acts_254 : decode cL_acts 254 = .ok (.iconst 2, 1) := by decide +kernel
theorem dL_acts_255 : decode cL_acts 255 = .ok (.iload 10, 2) := by decide +kernel
theorem dL_acts_257 : decode cL_acts 257 = .ok (.ifCond .eq 7, 3) := by decide +kernel
theorem dL_acts_260 : decode cL_acts 260 = .ok (.iconst 1, 1) := by decide +kernel
theorem dL_acts_261 : decode cL_acts 261 = .ok (.goto 4, 3) := by decide +kernel
theorem dL_acts_264 : decode cL_acts 264 = .ok (.iconst 0, 1) := by decide +kernel
theorem dL_acts_265 : decode cL_acts 265 = .ok (.iastore, 1) := by decide +kernel
theorem dL_acts_266 : decode cL_acts 266 = .ok (.aload_n 0, 1) := by decide +kernel
theorem dL_acts_267 : decode cL_acts 267 = .ok (.iload 6, 2) := by decide +kernel
theorem dL_acts_269 : decode cL_acts 269 = .ok (.iload 10, 2) := by decide +kernel
theorem dL_acts_271 : decode cL_acts 271 = .ok (.invokevirtual 147, 3) := by decide +kernel
theorem dL_acts_274 : decode cL_acts 274 = .ok (.iload 11, 2) := by decide +kernel
theorem dL_acts_276 : decode cL_acts 276 = .ok (.if_icmp .ne 7, 3) := by decide +kernel
theorem dL_acts_279 : decode cL_acts 279 = .ok (.iconst 1, 1) := by decide +kernel
theorem dL_acts_280 : decode cL_acts 280 = .ok (.goto 4, 3) := by decide +kernel
theorem dL_acts_283 : decode cL_acts 283 = .ok (.iconst 0, 1) := by decide +kernel
theorem dL_acts_284 : decode cL_acts 284 = .ok (.ireturn, 1) := by decide +kernel
theorem dL_acts_285 : decode cL_acts 285 = .ok (.iload 5, 2) := by decide +kernel
theorem dL_acts_287 : decode cL_acts 287 = .ok (.iconst 5, 1) := by decide +kernel
theorem dL_acts_288 : decode cL_acts 288 = .ok (.if_icmp .ne 131, 3) := by decide +kernel
theorem dL_acts_291 : decode cL_acts 291 = .ok (.aload 7, 2) := by decide +kernel
theorem dL_acts_293 : decode cL_acts 293 = .ok (.iconst 3, 1) := by decide +kernel
theorem dL_acts_294 : decode cL_acts 294 = .ok (.iload 8, 2) := by decide +kernel
theorem dL_acts_296 : decode cL_acts 296 = .ok (.iadd, 1) := by decide +kernel
theorem dL_acts_297 : decode cL_acts 297 = .ok (.iaload, 1) := by decide +kernel
theorem dL_acts_298 : decode cL_acts 298 = .ok (.aload_n 1, 1) := by decide +kernel
theorem dL_acts_299 : decode cL_acts 299 = .ok (.getfield 128, 3) := by decide +kernel
theorem dL_acts_302 : decode cL_acts 302 = .ok (.if_icmp .lt 5, 3) := by decide +kernel
theorem dL_acts_305 : decode cL_acts 305 = .ok (.iconst 1, 1) := by decide +kernel
theorem dL_acts_306 : decode cL_acts 306 = .ok (.ireturn, 1) := by decide +kernel
theorem dL_acts_307 : decode cL_acts 307 = .ok (.aload_n 1, 1) := by decide +kernel
theorem dL_acts_308 : decode cL_acts 308 = .ok (.iload 6, 2) := by decide +kernel
theorem dL_acts_310 : decode cL_acts 310 = .ok (.iload 8, 2) := by decide +kernel
theorem dL_acts_312 : decode cL_acts 312 = .ok (.invokevirtual 102, 3) := by decide +kernel
theorem dL_acts_315 : decode cL_acts 315 = .ok (.istore 10, 2) := by decide +kernel
theorem dL_acts_317 : decode cL_acts 317 = .ok (.aload 7, 2) := by decide +kernel
theorem dL_acts_319 : decode cL_acts 319 = .ok (.iconst 3, 1) := by decide +kernel
theorem dL_acts_320 : decode cL_acts 320 = .ok (.iload 8, 2) := by decide +kernel
theorem dL_acts_322 : decode cL_acts 322 = .ok (.iadd, 1) := by decide +kernel
theorem dL_acts_323 : decode cL_acts 323 = .ok (.dup2, 1) := by decide +kernel
theorem dL_acts_324 : decode cL_acts 324 = .ok (.iaload, 1) := by decide +kernel
theorem dL_acts_325 : decode cL_acts 325 = .ok (.iconst 1, 1) := by decide +kernel
theorem dL_acts_326 : decode cL_acts 326 = .ok (.iadd, 1) := by decide +kernel
theorem dL_acts_327 : decode cL_acts 327 = .ok (.iastore, 1) := by decide +kernel
theorem dL_acts_328 : decode cL_acts 328 = .ok (.iload 9, 2) := by decide +kernel
theorem dL_acts_330 : decode cL_acts 330 = .ok (.istore 11, 2) := by decide +kernel
theorem dL_acts_332 : decode cL_acts 332 = .ok (.iload 11, 2) := by decide +kernel
theorem dL_acts_334 : decode cL_acts 334 = .ok (.iload 9, 2) := by decide +kernel
theorem dL_acts_336 : decode cL_acts 336 = .ok (.aload 7, 2) := by decide +kernel
theorem dL_acts_338 : decode cL_acts 338 = .ok (.iconst 0, 1) := by decide +kernel
theorem dL_acts_339 : decode cL_acts 339 = .ok (.iaload, 1) := by decide +kernel
theorem dL_acts_340 : decode cL_acts 340 = .ok (.iadd, 1) := by decide +kernel
theorem dL_acts_341 : decode cL_acts 341 = .ok (.if_icmp .ge 50, 3) := by decide +kernel
theorem dL_acts_344 : decode cL_acts 344 = .ok (.iconst 0, 1) := by decide +kernel
theorem dL_acts_345 : decode cL_acts 345 = .ok (.istore 12, 2) := by decide +kernel
theorem dL_acts_347 : decode cL_acts 347 = .ok (.iload 12, 2) := by decide +kernel
theorem dL_acts_349 : decode cL_acts 349 = .ok (.aload_n 1, 1) := by decide +kernel
theorem dL_acts_350 : decode cL_acts 350 = .ok (.getfield 113, 3) := by decide +kernel
theorem dL_acts_353 : decode cL_acts 353 = .ok (.if_icmp .ge 32, 3) := by decide +kernel
theorem dL_acts_356 : decode cL_acts 356 = .ok (.aload_n 1, 1) := by decide +kernel
theorem dL_acts_357 : decode cL_acts 357 = .ok (.getfield 121, 3) := by decide +kernel
theorem dL_acts_360 : decode cL_acts 360 = .ok (.iload 8, 2) := by decide +kernel
theorem dL_acts_362 : decode cL_acts 362 = .ok (.aaload, 1) := by decide +kernel
theorem dL_acts_363 : decode cL_acts 363 = .ok (.iload 11, 2) := by decide +kernel
theorem dL_acts_365 : decode cL_acts 365 = .ok (.aaload, 1) := by decide +kernel
theorem dL_acts_366 : decode cL_acts 366 = .ok (.iload 12, 2) := by decide +kernel
theorem dL_acts_368 : decode cL_acts 368 = .ok (.aload_n 1, 1) := by decide +kernel
theorem dL_acts_369 : decode cL_acts 369 = .ok (.iload 8, 2) := by decide +kernel
theorem dL_acts_371 : decode cL_acts 371 = .ok (.iload 11, 2) := by decide +kernel
theorem dL_acts_373 : decode cL_acts 373 = .ok (.iload 12, 2) := by decide +kernel
theorem dL_acts_375 : decode cL_acts 375 = .ok (.invokevirtual 151, 3) := by decide +kernel
theorem dL_acts_378 : decode cL_acts 378 = .ok (.iastore, 1) := by decide +kernel
theorem dL_acts_379 : decode cL_acts 379 = .ok (.iinc 12 1, 3) := by decide +kernel
theorem dL_acts_382 : decode cL_acts 382 = .ok (.goto (-35), 3) := by decide +kernel
theorem dL_acts_385 : decode cL_acts 385 = .ok (.iinc 11 1, 3) := by decide +kernel
theorem dL_acts_388 : decode cL_acts 388 = .ok (.goto (-56), 3) := by decide +kernel
theorem dL_acts_391 : decode cL_acts 391 = .ok (.aload_n 0, 1) := by decide +kernel
theorem dL_acts_392 : decode cL_acts 392 = .ok (.iload 6, 2) := by decide +kernel
theorem dL_acts_394 : decode cL_acts 394 = .ok (.iload 8, 2) := by decide +kernel
theorem dL_acts_396 : decode cL_acts 396 = .ok (.iconst 1, 1) := by decide +kernel
theorem dL_acts_397 : decode cL_acts 397 = .ok (.if_icmp .ne 7, 3) := by decide +kernel
theorem dL_acts_400 : decode cL_acts 400 = .ok (.iconst 1, 1) := by decide +kernel
theorem dL_acts_401 : decode cL_acts 401 = .ok (.goto 4, 3) := by decide +kernel
theorem dL_acts_404 : decode cL_acts 404 = .ok (.iconst 0, 1) := by decide +kernel
theorem dL_acts_405 : decode cL_acts 405 = .ok (.invokevirtual 155, 3) := by decide +kernel
theorem dL_acts_408 : decode cL_acts 408 = .ok (.iload 10, 2) := by decide +kernel
theorem dL_acts_410 : decode cL_acts 410 = .ok (.if_icmp .ne 7, 3) := by decide +kernel
theorem dL_acts_413 : decode cL_acts 413 = .ok (.iconst 1, 1) := by decide +kernel
theorem dL_acts_414 : decode cL_acts 414 = .ok (.goto 4, 3) := by decide +kernel
theorem dL_acts_417 : decode cL_acts 417 = .ok (.iconst 0, 1) := by decide +kernel
theorem dL_acts_418 : decode cL_acts 418 = .ok (.ireturn, 1) := by decide +kernel
theorem dL_acts_419 : decode cL_acts 419 = .ok (.iload 4, 2) := by decide +kernel
theorem dL_acts_421 : decode cL_acts 421 = .ok (.bipush 32, 2) := by decide +kernel
theorem dL_acts_423 : decode cL_acts 423 = .ok (.idiv, 1) := by decide +kernel
theorem dL_acts_424 : decode cL_acts 424 = .ok (.aload 7, 2) := by decide +kernel
theorem dL_acts_426 : decode cL_acts 426 = .ok (.iconst 0, 1) := by decide +kernel
theorem dL_acts_427 : decode cL_acts 427 = .ok (.iaload, 1) := by decide +kernel
theorem dL_acts_428 : decode cL_acts 428 = .ok (.irem, 1) := by decide +kernel
theorem dL_acts_429 : decode cL_acts 429 = .ok (.istore 10, 2) := by decide +kernel
theorem dL_acts_431 : decode cL_acts 431 = .ok (.iload 4, 2) := by decide +kernel
theorem dL_acts_433 : decode cL_acts 433 = .ok (.sipush 256, 3) := by decide +kernel
theorem dL_acts_436 : decode cL_acts 436 = .ok (.idiv, 1) := by decide +kernel
theorem dL_acts_437 : decode cL_acts 437 = .ok (.aload_n 1, 1) := by decide +kernel
theorem dL_acts_438 : decode cL_acts 438 = .ok (.getfield 113, 3) := by decide +kernel
theorem dL_acts_441 : decode cL_acts 441 = .ok (.irem, 1) := by decide +kernel
theorem dL_acts_442 : decode cL_acts 442 = .ok (.istore 11, 2) := by decide +kernel
theorem dL_acts_444 : decode cL_acts 444 = .ok (.iload 4, 2) := by decide +kernel
theorem dL_acts_446 : decode cL_acts 446 = .ok (.sipush 2048, 3) := by decide +kernel
theorem dL_acts_449 : decode cL_acts 449 = .ok (.idiv, 1) := by decide +kernel
theorem dL_acts_450 : decode cL_acts 450 = .ok (.bipush 10, 2) := by decide +kernel
theorem dL_acts_452 : decode cL_acts 452 = .ok (.irem, 1) := by decide +kernel
theorem dL_acts_453 : decode cL_acts 453 = .ok (.istore 12, 2) := by decide +kernel
theorem dL_acts_455 : decode cL_acts 455 = .ok (.iload 5, 2) := by decide +kernel
theorem dL_acts_457 : decode cL_acts 457 = .ok (.bipush 8, 2) := by decide +kernel
theorem dL_acts_459 : decode cL_acts 459 = .ok (.if_icmp .ge 73, 3) := by decide +kernel
theorem dL_acts_462 : decode cL_acts 462 = .ok (.aload_n 1, 1) := by decide +kernel
