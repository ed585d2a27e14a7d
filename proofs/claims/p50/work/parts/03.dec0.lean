theorem dX0_init_0 : decode cX0_init 0 = .ok (.aload_n 0, 1) := by decide +kernel
theorem dX0_init_1 : decode cX0_init 1 = .ok (.invokespecial 3, 3) := by decide +kernel
theorem dX0_init_4 : decode cX0_init 4 = .ok (.aload_n 0, 1) := by decide +kernel
theorem dX0_init_5 : decode cX0_init 5 = .ok (.iconst 4, 1) := by decide +kernel
theorem dX0_init_6 : decode cX0_init 6 = .ok (.putfield 11, 3) := by decide +kernel
theorem dX0_init_9 : decode cX0_init 9 = .ok (.aload_n 0, 1) := by decide +kernel
theorem dX0_init_10 : decode cX0_init 10 = .ok (.bipush 9, 2) := by decide +kernel
theorem dX0_init_12 : decode cX0_init 12 = .ok (.putfield 15, 3) := by decide +kernel
theorem dX0_init_15 : decode cX0_init 15 = .ok (.aload_n 0, 1) := by decide +kernel
theorem dX0_init_16 : decode cX0_init 16 = .ok (.bipush 10, 2) := by decide +kernel
theorem dX0_init_18 : decode cX0_init 18 = .ok (.newarray .int, 2) := by decide +kernel
theorem dX0_init_20 : decode cX0_init 20 = .ok (.putfield 18, 3) := by decide +kernel
theorem dX0_init_23 : decode cX0_init 23 = .ok (.aload_n 0, 1) := by decide +kernel
theorem dX0_init_24 : decode cX0_init 24 = .ok (.bipush 10, 2) := by decide +kernel
theorem dX0_init_26 : decode cX0_init 26 = .ok (.newarray .int, 2) := by decide +kernel
theorem dX0_init_28 : decode cX0_init 28 = .ok (.putfield 22, 3) := by decide +kernel
theorem dX0_init_31 : decode cX0_init 31 = .ok (.aload_n 0, 1) := by decide +kernel
theorem dX0_init_32 : decode cX0_init 32 = .ok (.bipush 10, 2) := by decide +kernel
theorem dX0_init_34 : decode cX0_init 34 = .ok (.newarray .int, 2) := by decide +kernel
theorem dX0_init_36 : decode cX0_init 36 = .ok (.putfield 25, 3) := by decide +kernel
theorem dX0_init_39 : decode cX0_init 39 = .ok (.aload_n 0, 1) := by decide +kernel
theorem dX0_init_40 : decode cX0_init 40 = .ok (.bipush 10, 2) := by decide +kernel
theorem dX0_init_42 : decode cX0_init 42 = .ok (.newarray .int, 2) := by decide +kernel
theorem dX0_init_44 : decode cX0_init 44 = .ok (.putfield 28, 3) := by decide +kernel
theorem dX0_init_47 : decode cX0_init 47 = .ok (.aload_n 0, 1) := by decide +kernel
theorem dX0_init_48 : decode cX0_init 48 = .ok (.bipush 10, 2) := by decide +kernel
theorem dX0_init_50 : decode cX0_init 50 = .ok (.newarray .int, 2) := by decide +kernel
theorem dX0_init_52 : decode cX0_init 52 = .ok (.putfield 31, 3) := by decide +kernel
theorem dX0_init_55 : decode cX0_init 55 = .ok (.aload_n 0, 1) := by decide +kernel
theorem dX0_init_56 : decode cX0_init 56 = .ok (.bipush 60, 2) := by decide +kernel
theorem dX0_init_58 : decode cX0_init 58 = .ok (.newarray .int, 2) := by decide +kernel
theorem dX0_init_60 : decode cX0_init 60 = .ok (.putfield 34, 3) := by decide +kernel
theorem dX0_init_63 : decode cX0_init 63 = .ok (.aload_n 0, 1) := by decide +kernel
theorem dX0_init_64 : decode cX0_init 64 = .ok (.bipush 60, 2) := by decide +kernel
theorem dX0_init_66 : decode cX0_init 66 = .ok (.newarray .int, 2) := by decide +kernel
theorem dX0_init_68 : decode cX0_init 68 = .ok (.putfield 37, 3) := by decide +kernel
theorem dX0_init_71 : decode cX0_init 71 = .ok (.aload_n 0, 1) := by decide +kernel
theorem dX0_init_72 : decode cX0_init 72 = .ok (.bipush 60, 2) := by decide +kernel
theorem dX0_init_74 : decode cX0_init 74 = .ok (.newarray .int, 2) := by decide +kernel
theorem dX0_init_76 : decode cX0_init 76 = .ok (.putfield 40, 3) := by decide +kernel
theorem dX0_init_79 : decode cX0_init 79 = .ok (.aload_n 0, 1) := by decide +kernel
theorem dX0_init_80 : decode cX0_init 80 = .ok (.bipush 60, 2) := by decide +kernel
theorem dX0_init_82 : decode cX0_init 82 = .ok (.newarray .int, 2) := by decide +kernel
theorem dX0_init_84 : decode cX0_init 84 = .ok (.putfield 43, 3) := by decide +kernel
theorem dX0_init_87 : decode cX0_init 87 = .ok (.return_, 1) := by decide +kernel
theorem dX0_clear_0 : decode cX0_clear 0 = .ok (.aload_n 0, 1) := by decide +kernel
theorem dX0_clear_1 : decode cX0_clear 1 = .ok (.iconst 4, 1) := by decide +kernel
theorem dX0_clear_2 : decode cX0_clear 2 = .ok (.putfield 11, 3) := by decide +kernel
theorem dX0_clear_5 : decode cX0_clear 5 = .ok (.aload_n 0, 1) := by decide +kernel
theorem dX0_clear_6 : decode cX0_clear 6 = .ok (.bipush 9, 2) := by decide +kernel
theorem dX0_clear_8 : decode cX0_clear 8 = .ok (.putfield 15, 3) := by decide +kernel
theorem dX0_clear_11 : decode cX0_clear 11 = .ok (.aload_n 0, 1) := by decide +kernel
theorem dX0_clear_12 : decode cX0_clear 12 = .ok (.iconst 0, 1) := by decide +kernel
theorem dX0_clear_13 : decode cX0_clear 13 = .ok (.putfield 46, 3) := by decide +kernel
theorem dX0_clear_16 : decode cX0_clear 16 = .ok (.aload_n 0, 1) := by decide +kernel
theorem dX0_clear_17 : decode cX0_clear 17 = .ok (.iconst 0, 1) := by decide +kernel
theorem dX0_clear_18 : decode cX0_clear 18 = .ok (.putfield 49, 3) := by decide +kernel
theorem dX0_clear_21 : decode cX0_clear 21 = .ok (.aload_n 0, 1) := by decide +kernel
theorem dX0_clear_22 : decode cX0_clear 22 = .ok (.iconst 0, 1) := by decide +kernel
theorem dX0_clear_23 : decode cX0_clear 23 = .ok (.putfield 52, 3) := by decide +kernel
theorem dX0_clear_26 : decode cX0_clear 26 = .ok (.aload_n 0, 1) := by decide +kernel
theorem dX0_clear_27 : decode cX0_clear 27 = .ok (.iconst 0, 1) := by decide +kernel
theorem dX0_clear_28 : decode cX0_clear 28 = .ok (.putfield 55, 3) := by decide +kernel
theorem dX0_clear_31 : decode cX0_clear 31 = .ok (.aload_n 0, 1) := by decide +kernel
theorem dX0_clear_32 : decode cX0_clear 32 = .ok (.iconst 0, 1) := by decide +kernel
theorem dX0_clear_33 : decode cX0_clear 33 = .ok (.putfield 58, 3) := by decide +kernel
theorem dX0_clear_36 : decode cX0_clear 36 = .ok (.aload_n 0, 1) := by decide +kernel
theorem dX0_clear_37 : decode cX0_clear 37 = .ok (.getfield 34, 3) := by decide +kernel
theorem dX0_clear_40 : decode cX0_clear 40 = .ok (.iconst 0, 1) := by decide +kernel
theorem dX0_clear_41 : decode cX0_clear 41 = .ok (.invokestatic 61, 3) := by decide +kernel
theorem dX0_clear_44 : decode cX0_clear 44 = .ok (.aload_n 0, 1) := by decide +kernel
theorem dX0_clear_45 : decode cX0_clear 45 = .ok (.getfield 37, 3) := by decide +kernel
theorem dX0_clear_48 : decode cX0_clear 48 = .ok (.iconst 0, 1) := by decide +kernel
theorem dX0_clear_49 : decode cX0_clear 49 = .ok (.invokestatic 61, 3) := by decide +kernel
theorem dX0_clear_52 : decode cX0_clear 52 = .ok (.return_, 1) := by decide +kernel
theorem dX0_paintAll_0 : decode cX0_paintAll 0 = .ok (.aload_n 0, 1) := by decide +kernel
theorem dX0_paintAll_1 : decode cX0_paintAll 1 = .ok (.getfield 34, 3) := by decide +kernel
theorem dX0_paintAll_4 : decode cX0_paintAll 4 = .ok (.iconst 0, 1) := by decide +kernel
theorem dX0_paintAll_5 : decode cX0_paintAll 5 = .ok (.aload_n 0, 1) := by decide +kernel
theorem dX0_paintAll_6 : decode cX0_paintAll 6 = .ok (.getfield 40, 3) := by decide +kernel
theorem dX0_paintAll_9 : decode cX0_paintAll 9 = .ok (.iconst 0, 1) := by decide +kernel
theorem dX0_paintAll_10 : decode cX0_paintAll 10 = .ok (.bipush 60, 2) := by decide +kernel
theorem dX0_paintAll_12 : decode cX0_paintAll 12 = .ok (.invokestatic 67, 3) := by decide +kernel
theorem dX0_paintAll_15 : decode cX0_paintAll 15 = .ok (.aload_n 0, 1) := by decide +kernel
theorem dX0_paintAll_16 : decode cX0_paintAll 16 = .ok (.getfield 37, 3) := by decide +kernel
theorem dX0_paintAll_19 : decode cX0_paintAll 19 = .ok (.iconst 0, 1) := by decide +kernel
theorem dX0_paintAll_20 : decode cX0_paintAll 20 = .ok (.aload_n 0, 1) := by decide +kernel
theorem dX0_paintAll_21 : decode cX0_paintAll 21 = .ok (.getfield 43, 3) := by decide +kernel
theorem dX0_paintAll_24 : decode cX0_paintAll 24 = .ok (.iconst 0, 1) := by decide +kernel
theorem dX0_paintAll_25 : decode cX0_paintAll 25 = .ok (.bipush 60, 2) := by decide +kernel
theorem dX0_paintAll_27 : decode cX0_paintAll 27 = .ok (.invokestatic 67, 3) := by decide +kernel
theorem dX0_paintAll_30 : decode cX0_paintAll 30 = .ok (.return_, 1) := by decide +kernel
theorem dX0_copyFrom_0 : decode cX0_copyFrom 0 = .ok (.aload_n 0, 1) := by decide +kernel
theorem dX0_copyFrom_1 : decode cX0_copyFrom 1 = .ok (.aload_n 1, 1) := by decide +kernel
theorem dX0_copyFrom_2 : decode cX0_copyFrom 2 = .ok (.getfield 11, 3) := by decide +kernel
theorem dX0_copyFrom_5 : decode cX0_copyFrom 5 = .ok (.putfield 11, 3) := by decide +kernel
theorem dX0_copyFrom_8 : decode cX0_copyFrom 8 = .ok (.aload_n 0, 1) := by decide +kernel
theorem dX0_copyFrom_9 : decode cX0_copyFrom 9 = .ok (.aload_n 1, 1) := by decide +kernel
theorem dX0_copyFrom_10 : decode cX0_copyFrom 10 = .ok (.getfield 15, 3) := by decide +kernel
theorem dX0_copyFrom_13 : decode cX0_copyFrom 13 = .ok (.putfield 15, 3) := by decide +kernel
theorem dX0_copyFrom_16 : decode cX0_copyFrom 16 = .ok (.aload_n 0, 1) := by decide +kernel
theorem dX0_copyFrom_17 : decode cX0_copyFrom 17 = .ok (.aload_n 1, 1) := by decide +kernel
theorem dX0_copyFrom_18 : decode cX0_copyFrom 18 = .ok (.getfield 46, 3) := by decide +kernel
theorem dX0_copyFrom_21 : decode cX0_copyFrom 21 = .ok (.putfield 46, 3) := by decide +kernel
theorem dX0_copyFrom_24 : decode cX0_copyFrom 24 = .ok (.aload_n 0, 1) := by decide +kernel
theorem dX0_copyFrom_25 : decode cX0_copyFrom 25 = .ok (.aload_n 1, 1) := by decide +kernel
theorem dX0_copyFrom_26 : decode cX0_copyFrom 26 = .ok (.getfield 49, 3) := by decide +kernel
theorem dX0_copyFrom_29 : decode cX0_copyFrom 29 = .ok (.putfield 49, 3) := by decide +kernel
theorem dX0_copyFrom_32 : decode cX0_copyFrom 32 = .ok (.aload_n 0, 1) := by decide +kernel
theorem dX0_copyFrom_33 : decode cX0_copyFrom 33 = .ok (.aload_n 1, 1) := by decide +kernel
theorem dX0_copyFrom_34 : decode cX0_copyFrom 34 = .ok (.getfield 52, 3) := by decide +kernel
theorem dX0_copyFrom_37 : decode cX0_copyFrom 37 = .ok (.putfield 52, 3) := by decide +kernel
theorem dX0_copyFrom_40 : decode cX0_copyFrom 40 = .ok (.aload_n 0, 1) := by decide +kernel
theorem dX0_copyFrom_41 : decode cX0_copyFrom 41 = .ok (.aload_n 1, 1) := by decide +kernel
theorem dX0_copyFrom_42 : decode cX0_copyFrom 42 = .ok (.getfield 55, 3) := by decide +kernel
theorem dX0_copyFrom_45 : decode cX0_copyFrom 45 = .ok (.putfield 55, 3) := by decide +kernel
theorem dX0_copyFrom_48 : decode cX0_copyFrom 48 = .ok (.aload_n 0, 1) := by decide +kernel
theorem dX0_copyFrom_49 : decode cX0_copyFrom 49 = .ok (.aload_n 1, 1) := by decide +kernel
theorem dX0_copyFrom_50 : decode cX0_copyFrom 50 = .ok (.getfield 58, 3) := by decide +kernel
theorem dX0_copyFrom_53 : decode cX0_copyFrom 53 = .ok (.putfield 58, 3) := by decide +kernel
theorem dX0_copyFrom_56 : decode cX0_copyFrom 56 = .ok (.aload_n 1, 1) := by decide +kernel
theorem dX0_copyFrom_57 : decode cX0_copyFrom 57 = .ok (.getfield 18, 3) := by decide +kernel
theorem dX0_copyFrom_60 : decode cX0_copyFrom 60 = .ok (.iconst 0, 1) := by decide +kernel
theorem dX0_copyFrom_61 : decode cX0_copyFrom 61 = .ok (.aload_n 0, 1) := by decide +kernel
theorem dX0_copyFrom_62 : decode cX0_copyFrom 62 = .ok (.getfield 18, 3) := by decide +kernel
theorem dX0_copyFrom_65 : decode cX0_copyFrom 65 = .ok (.iconst 0, 1) := by decide +kernel
theorem dX0_copyFrom_66 : decode cX0_copyFrom 66 = .ok (.bipush 10, 2) := by decide +kernel
theorem dX0_copyFrom_68 : decode cX0_copyFrom 68 = .ok (.invokestatic 67, 3) := by decide +kernel
theorem dX0_copyFrom_71 : decode cX0_copyFrom 71 = .ok (.aload_n 1, 1) := by decide +kernel
theorem dX0_copyFrom_72 : decode cX0_copyFrom 72 = .ok (.getfield 22, 3) := by decide +kernel
theorem dX0_copyFrom_75 : decode cX0_copyFrom 75 = .ok (.iconst 0, 1) := by decide +kernel
theorem dX0_copyFrom_76 : decode cX0_copyFrom 76 = .ok (.aload_n 0, 1) := by decide +kernel
theorem dX0_copyFrom_77 : decode cX0_copyFrom 77 = .ok (.getfield 22, 3) := by decide +kernel
theorem dX0_copyFrom_80 : decode cX0_copyFrom 80 = .ok (.iconst 0, 1) := by decide +kernel
theorem dX0_copyFrom_81 : decode cX0_copyFrom 81 = .ok (.bipush 10, 2) := by decide +kernel
theorem dX0_copyFrom_83 : decode cX0_copyFrom 83 = .ok (.invokestatic 67, 3) := by decide +kernel
theorem dX0_copyFrom_86 : decode cX0_copyFrom 86 = .ok (.aload_n 1, 1) := by decide +kernel
theorem dX0_copyFrom_87 : decode cX0_copyFrom 87 = .ok (.getfield 25, 3) := by decide +kernel
theorem dX0_copyFrom_90 : decode cX0_copyFrom 90 = .ok (.iconst 0, 1) := by decide +kernel
theorem dX0_copyFrom_91 : decode cX0_copyFrom 91 = .ok (.aload_n 0, 1) := by decide +kernel
theorem dX0_copyFrom_92 : decode cX0_copyFrom 92 = .ok (.getfield 25, 3) := by decide +kernel
theorem dX0_copyFrom_95 : decode cX0_copyFrom 95 = .ok (.iconst 0, 1) := by decide +kernel
theorem dX0_copyFrom_96 : decode cX0_copyFrom 96 = .ok (.bipush 10, 2) := by decide +kernel
theorem dX0_copyFrom_98 : decode cX0_copyFrom 98 = .ok (.invokestatic 67, 3) := by decide +kernel
theorem dX0_copyFrom_101 : decode cX0_copyFrom 101 = .ok (.aload_n 1, 1) := by decide +kernel
theorem dX0_copyFrom_102 : decode cX0_copyFrom 102 = .ok (.getfield 28, 3) := by decide +kernel
theorem dX0_copyFrom_105 : decode cX0_copyFrom 105 = .ok (.iconst 0, 1) := by decide +kernel
theorem dX0_copyFrom_106 : decode cX0_copyFrom 106 = .ok (.aload_n 0, 1) := by decide +kernel
theorem dX0_copyFrom_107 : decode cX0_copyFrom 107 = .ok (.getfield 28, 3) := by decide +kernel
theorem dX0_copyFrom_110 : decode cX0_copyFrom 110 = .ok (.iconst 0, 1) := by decide +kernel
theorem dX0_copyFrom_111 : decode cX0_copyFrom 111 = .ok (.bipush 10, 2) := by decide +kernel
theorem dX0_copyFrom_113 : decode cX0_copyFrom 113 = .ok (.invokestatic 67, 3) := by decide +kernel
theorem dX0_copyFrom_116 : decode cX0_copyFrom 116 = .ok (.aload_n 1, 1) := by decide +kernel
theorem dX0_copyFrom_117 : decode cX0_copyFrom 117 = .ok (.getfield 31, 3) := by decide +kernel
theorem dX0_copyFrom_120 : decode cX0_copyFrom 120 = .ok (.iconst 0, 1) := by decide +kernel
theorem dX0_copyFrom_121 : decode cX0_copyFrom 121 = .ok (.aload_n 0, 1) := by decide +kernel
theorem dX0_copyFrom_122 : decode cX0_copyFrom 122 = .ok (.getfield 31, 3) := by decide +kernel
theorem dX0_copyFrom_125 : decode cX0_copyFrom 125 = .ok (.iconst 0, 1) := by decide +kernel
theorem dX0_copyFrom_126 : decode cX0_copyFrom 126 = .ok (.bipush 10, 2) := by decide +kernel
theorem dX0_copyFrom_128 : decode cX0_copyFrom 128 = .ok (.invokestatic 67, 3) := by decide +kernel
theorem dX0_copyFrom_131 : decode cX0_copyFrom 131 = .ok (.aload_n 1, 1) := by decide +kernel
theorem dX0_copyFrom_132 : decode cX0_copyFrom 132 = .ok (.getfield 34, 3) := by decide +kernel
theorem dX0_copyFrom_135 : decode cX0_copyFrom 135 = .ok (.iconst 0, 1) := by decide +kernel
theorem dX0_copyFrom_136 : decode cX0_copyFrom 136 = .ok (.aload_n 0, 1) := by decide +kernel
theorem dX0_copyFrom_137 : decode cX0_copyFrom 137 = .ok (.getfield 34, 3) := by decide +kernel
theorem dX0_copyFrom_140 : decode cX0_copyFrom 140 = .ok (.iconst 0, 1) := by decide +kernel
theorem dX0_copyFrom_141 : decode cX0_copyFrom 141 = .ok (.bipush 60, 2) := by decide +kernel
theorem dX0_copyFrom_143 : decode cX0_copyFrom 143 = .ok (.invokestatic 67, 3) := by decide +kernel
theorem dX0_copyFrom_146 : decode cX0_copyFrom 146 = .ok (.aload_n 1, 1) := by decide +kernel
theorem dX0_copyFrom_147 : decode cX0_copyFrom 147 = .ok (.getfield 37, 3) := by decide +kernel
theorem dX0_copyFrom_150 : decode cX0_copyFrom 150 = .ok (.iconst 0, 1) := by decide +kernel
theorem dX0_copyFrom_151 : decode cX0_copyFrom 151 = .ok (.aload_n 0, 1) := by decide +kernel
theorem dX0_copyFrom_152 : decode cX0_copyFrom 152 = .ok (.getfield 37, 3) := by decide +kernel
theorem dX0_copyFrom_155 : decode cX0_copyFrom 155 = .ok (.iconst 0, 1) := by decide +kernel
theorem dX0_copyFrom_156 : decode cX0_copyFrom 156 = .ok (.bipush 60, 2) := by decide +kernel
theorem dX0_copyFrom_158 : decode cX0_copyFrom 158 = .ok (.invokestatic 67, 3) := by decide +kernel
theorem dX0_copyFrom_161 : decode cX0_copyFrom 161 = .ok (.aload_n 1, 1) := by decide +kernel
theorem dX0_copyFrom_162 : decode cX0_copyFrom 162 = .ok (.getfield 40, 3) := by decide +kernel
theorem dX0_copyFrom_165 : decode cX0_copyFrom 165 = .ok (.iconst 0, 1) := by decide +kernel
theorem dX0_copyFrom_166 : decode cX0_copyFrom 166 = .ok (.aload_n 0, 1) := by decide +kernel
theorem dX0_copyFrom_167 : decode cX0_copyFrom 167 = .ok (.getfield 40, 3) := by decide +kernel
theorem dX0_copyFrom_170 : decode cX0_copyFrom 170 = .ok (.iconst 0, 1) := by decide +kernel
theorem dX0_copyFrom_171 : decode cX0_copyFrom 171 = .ok (.bipush 60, 2) := by decide +kernel
theorem dX0_copyFrom_173 : decode cX0_copyFrom 173 = .ok (.invokestatic 67, 3) := by decide +kernel
theorem dX0_copyFrom_176 : decode cX0_copyFrom 176 = .ok (.aload_n 1, 1) := by decide +kernel
theorem dX0_copyFrom_177 : decode cX0_copyFrom 177 = .ok (.getfield 43, 3) := by decide +kernel
theorem dX0_copyFrom_180 : decode cX0_copyFrom 180 = .ok (.iconst 0, 1) := by decide +kernel
theorem dX0_copyFrom_181 : decode cX0_copyFrom 181 = .ok (.aload_n 0, 1) := by decide +kernel
theorem dX0_copyFrom_182 : decode cX0_copyFrom 182 = .ok (.getfield 43, 3) := by decide +kernel
theorem dX0_copyFrom_185 : decode cX0_copyFrom 185 = .ok (.iconst 0, 1) := by decide +kernel
theorem dX0_copyFrom_186 : decode cX0_copyFrom 186 = .ok (.bipush 60, 2) := by decide +kernel
theorem dX0_copyFrom_188 : decode cX0_copyFrom 188 = .ok (.invokestatic 67, 3) := by decide +kernel
theorem dX0_copyFrom_191 : decode cX0_copyFrom 191 = .ok (.return_, 1) := by decide +kernel
theorem dX0_addSlat_0 : decode cX0_addSlat 0 = .ok (.aload_n 0, 1) := by decide +kernel
theorem dX0_addSlat_1 : decode cX0_addSlat 1 = .ok (.getfield 46, 3) := by decide +kernel
theorem dX0_addSlat_4 : decode cX0_addSlat 4 = .ok (.bipush 10, 2) := by decide +kernel
theorem dX0_addSlat_6 : decode cX0_addSlat 6 = .ok (.if_icmp .ge 76, 3) := by decide +kernel
theorem dX0_addSlat_9 : decode cX0_addSlat 9 = .ok (.aload_n 0, 1) := by decide +kernel
theorem dX0_addSlat_10 : decode cX0_addSlat 10 = .ok (.getfield 18, 3) := by decide +kernel
theorem dX0_addSlat_13 : decode cX0_addSlat 13 = .ok (.aload_n 0, 1) := by decide +kernel
theorem dX0_addSlat_14 : decode cX0_addSlat 14 = .ok (.getfield 46, 3) := by decide +kernel
theorem dX0_addSlat_17 : decode cX0_addSlat 17 = .ok (.iload_n 1, 1) := by decide +kernel
theorem dX0_addSlat_18 : decode cX0_addSlat 18 = .ok (.iastore, 1) := by decide +kernel
theorem dX0_addSlat_19 : decode cX0_addSlat 19 = .ok (.aload_n 0, 1) := by decide +kernel
theorem dX0_addSlat_20 : decode cX0_addSlat 20 = .ok (.getfield 22, 3) := by decide +kernel
theorem dX0_addSlat_23 : decode cX0_addSlat 23 = .ok (.aload_n 0, 1) := by decide +kernel
theorem dX0_addSlat_24 : decode cX0_addSlat 24 = .ok (.getfield 46, 3) := by decide +kernel
theorem dX0_addSlat_27 : decode cX0_addSlat 27 = .ok (.aload_n 0, 1) := by decide +kernel
theorem dX0_addSlat_28 : decode cX0_addSlat 28 = .ok (.getfield 49, 3) := by decide +kernel
theorem dX0_addSlat_31 : decode cX0_addSlat 31 = .ok (.iastore, 1) := by decide +kernel
theorem dX0_addSlat_32 : decode cX0_addSlat 32 = .ok (.aload_n 0, 1) := by decide +kernel
theorem dX0_addSlat_33 : decode cX0_addSlat 33 = .ok (.getfield 25, 3) := by decide +kernel
theorem dX0_addSlat_36 : decode cX0_addSlat 36 = .ok (.aload_n 0, 1) := by decide +kernel
theorem dX0_addSlat_37 : decode cX0_addSlat 37 = .ok (.getfield 46, 3) := by decide +kernel
theorem dX0_addSlat_40 : decode cX0_addSlat 40 = .ok (.iload_n 2, 1) := by decide +kernel
theorem dX0_addSlat_41 : decode cX0_addSlat 41 = .ok (.iastore, 1) := by decide +kernel
theorem dX0_addSlat_42 : decode cX0_addSlat 42 = .ok (.aload_n 0, 1) := by decide +kernel
theorem dX0_addSlat_43 : decode cX0_addSlat 43 = .ok (.getfield 28, 3) := by decide +kernel
theorem dX0_addSlat_46 : decode cX0_addSlat 46 = .ok (.aload_n 0, 1) := by decide +kernel
theorem dX0_addSlat_47 : decode cX0_addSlat 47 = .ok (.getfield 46, 3) := by decide +kernel
theorem dX0_addSlat_50 : decode cX0_addSlat 50 = .ok (.iconst 1, 1) := by decide +kernel
theorem dX0_addSlat_51 : decode cX0_addSlat 51 = .ok (.iastore, 1) := by decide +kernel
theorem dX0_addSlat_52 : decode cX0_addSlat 52 = .ok (.aload_n 0, 1) := by decide +kernel
theorem dX0_addSlat_53 : decode cX0_addSlat 53 = .ok (.getfield 31, 3) := by decide +kernel
theorem dX0_addSlat_56 : decode cX0_addSlat 56 = .ok (.aload_n 0, 1) := by decide +kernel
theorem dX0_addSlat_57 : decode cX0_addSlat 57 = .ok (.getfield 46, 3) := by decide +kernel
theorem dX0_addSlat_60 : decode cX0_addSlat 60 = .ok (.iconst 1, 1) := by decide +kernel
theorem dX0_addSlat_61 : decode cX0_addSlat 61 = .ok (.iastore, 1) := by decide +kernel
theorem dX0_addSlat_62 : decode cX0_addSlat 62 = .ok (.aload_n 0, 1) := by decide +kernel
theorem dX0_addSlat_63 : decode cX0_addSlat 63 = .ok (.dup, 1) := by decide +kernel
theorem dX0_addSlat_64 : decode cX0_addSlat 64 = .ok (.getfield 46, 3) := by decide +kernel
theorem dX0_addSlat_67 : decode cX0_addSlat 67 = .ok (.iconst 1, 1) := by decide +kernel
theorem dX0_addSlat_68 : decode cX0_addSlat 68 = .ok (.iadd, 1) := by decide +kernel
theorem dX0_addSlat_69 : decode cX0_addSlat 69 = .ok (.putfield 46, 3) := by decide +kernel
theorem dX0_addSlat_72 : decode cX0_addSlat 72 = .ok (.aload_n 0, 1) := by decide +kernel
theorem dX0_addSlat_73 : decode cX0_addSlat 73 = .ok (.dup, 1) := by decide +kernel
theorem dX0_addSlat_74 : decode cX0_addSlat 74 = .ok (.getfield 49, 3) := by decide +kernel
theorem dX0_addSlat_77 : decode cX0_addSlat 77 = .ok (.iload_n 1, 1) := by decide +kernel
theorem dX0_addSlat_78 : decode cX0_addSlat 78 = .ok (.iadd, 1) := by decide +kernel
theorem dX0_addSlat_79 : decode cX0_addSlat 79 = .ok (.putfield 49, 3) := by decide +kernel
theorem dX0_addSlat_82 : decode cX0_addSlat 82 = .ok (.return_, 1) := by decide +kernel
theorem dX0_countBox_0 : decode cX0_countBox 0 = .ok (.iload_n 1, 1) := by decide +kernel
theorem dX0_countBox_1 : decode cX0_countBox 1 = .ok (.ifCond .eq 16, 3) := by decide +kernel
theorem dX0_countBox_4 : decode cX0_countBox 4 = .ok (.aload_n 0, 1) := by decide +kernel
theorem dX0_countBox_5 : decode cX0_countBox 5 = .ok (.dup, 1) := by decide +kernel
theorem dX0_countBox_6 : decode cX0_countBox 6 = .ok (.getfield 55, 3) := by decide +kernel
theorem dX0_countBox_9 : decode cX0_countBox 9 = .ok (.iconst 1, 1) := by decide +kernel
theorem dX0_countBox_10 : decode cX0_countBox 10 = .ok (.iadd, 1) := by decide +kernel
theorem dX0_countBox_11 : decode cX0_countBox 11 = .ok (.putfield 55, 3) := by decide +kernel
theorem dX0_countBox_14 : decode cX0_countBox 14 = .ok (.goto 13, 3) := by decide +kernel
theorem dX0_countBox_17 : decode cX0_countBox 17 = .ok (.aload_n 0, 1) := by decide +kernel
theorem dX0_countBox_18 : decode cX0_countBox 18 = .ok (.dup, 1) := by decide +kernel
theorem dX0_countBox_19 : decode cX0_countBox 19 = .ok (.getfield 52, 3) := by decide +kernel
theorem dX0_countBox_22 : decode cX0_countBox 22 = .ok (.iconst 1, 1) := by decide +kernel
theorem dX0_countBox_23 : decode cX0_countBox 23 = .ok (.iadd, 1) := by decide +kernel
theorem dX0_countBox_24 : decode cX0_countBox 24 = .ok (.putfield 52, 3) := by decide +kernel
theorem dX0_countBox_27 : decode cX0_countBox 27 = .ok (.return_, 1) := by decide +kernel
theorem dX0_pictureOf_0 : decode cX0_pictureOf 0 = .ok (.iload_n 1, 1) := by decide +kernel
theorem dX0_pictureOf_1 : decode cX0_pictureOf 1 = .ok (.ifCond .eq 10, 3) := by decide +kernel
theorem dX0_pictureOf_4 : decode cX0_pictureOf 4 = .ok (.aload_n 0, 1) := by decide +kernel
theorem dX0_pictureOf_5 : decode cX0_pictureOf 5 = .ok (.getfield 37, 3) := by decide +kernel
theorem dX0_pictureOf_8 : decode cX0_pictureOf 8 = .ok (.goto 7, 3) := by decide +kernel
theorem dX0_pictureOf_11 : decode cX0_pictureOf 11 = .ok (.aload_n 0, 1) := by decide +kernel
theorem dX0_pictureOf_12 : decode cX0_pictureOf 12 = .ok (.getfield 34, 3) := by decide +kernel
theorem dX0_pictureOf_15 : decode cX0_pictureOf 15 = .ok (.areturn, 1) := by decide +kernel
theorem dX0_faceOf_0 : decode cX0_faceOf 0 = .ok (.iload_n 1, 1) := by decide +kernel
theorem dX0_faceOf_1 : decode cX0_faceOf 1 = .ok (.ifCond .eq 10, 3) := by decide +kernel
theorem dX0_faceOf_4 : decode cX0_faceOf 4 = .ok (.aload_n 0, 1) := by decide +kernel
theorem dX0_faceOf_5 : decode cX0_faceOf 5 = .ok (.getfield 43, 3) := by decide +kernel
theorem dX0_faceOf_8 : decode cX0_faceOf 8 = .ok (.goto 7, 3) := by decide +kernel
theorem dX0_faceOf_11 : decode cX0_faceOf 11 = .ok (.aload_n 0, 1) := by decide +kernel
theorem dX0_faceOf_12 : decode cX0_faceOf 12 = .ok (.getfield 40, 3) := by decide +kernel
theorem dX0_faceOf_15 : decode cX0_faceOf 15 = .ok (.areturn, 1) := by decide +kernel
theorem dX0_coatsOf_0 : decode cX0_coatsOf 0 = .ok (.iload_n 1, 1) := by decide +kernel
theorem dX0_coatsOf_1 : decode cX0_coatsOf 1 = .ok (.ifCond .eq 10, 3) := by decide +kernel
theorem dX0_coatsOf_4 : decode cX0_coatsOf 4 = .ok (.aload_n 0, 1) := by decide +kernel
theorem dX0_coatsOf_5 : decode cX0_coatsOf 5 = .ok (.getfield 31, 3) := by decide +kernel
theorem dX0_coatsOf_8 : decode cX0_coatsOf 8 = .ok (.goto 7, 3) := by decide +kernel
theorem dX0_coatsOf_11 : decode cX0_coatsOf 11 = .ok (.aload_n 0, 1) := by decide +kernel
theorem dX0_coatsOf_12 : decode cX0_coatsOf 12 = .ok (.getfield 28, 3) := by decide +kernel
theorem dX0_coatsOf_15 : decode cX0_coatsOf 15 = .ok (.areturn, 1) := by decide +kernel
theorem dX0_hasSlat_0 : decode cX0_hasSlat 0 = .ok (.iload_n 1, 1) := by decide +kernel
theorem dX0_hasSlat_1 : decode cX0_hasSlat 1 = .ok (.ifCond .lt 15, 3) := by decide +kernel
theorem dX0_hasSlat_4 : decode cX0_hasSlat 4 = .ok (.iload_n 1, 1) := by decide +kernel
theorem dX0_hasSlat_5 : decode cX0_hasSlat 5 = .ok (.aload_n 0, 1) := by decide +kernel
theorem dX0_hasSlat_6 : decode cX0_hasSlat 6 = .ok (.getfield 46, 3) := by decide +kernel
theorem dX0_hasSlat_9 : decode cX0_hasSlat 9 = .ok (.if_icmp .ge 7, 3) := by decide +kernel
theorem dX0_hasSlat_12 : decode cX0_hasSlat 12 = .ok (.iconst 1, 1) := by decide +kernel
theorem dX0_hasSlat_13 : decode cX0_hasSlat 13 = .ok (.goto 4, 3) := by decide +kernel
theorem dX0_hasSlat_16 : decode cX0_hasSlat 16 = .ok (.iconst 0, 1) := by decide +kernel
theorem dX0_hasSlat_17 : decode cX0_hasSlat 17 = .ok (.ireturn, 1) := by decide +kernel
theorem dX0_hasColumn_0 : decode cX0_hasColumn 0 = .ok (.iload_n 1, 1) := by decide +kernel
theorem dX0_hasColumn_1 : decode cX0_hasColumn 1 = .ok (.ifCond .lt 15, 3) := by decide +kernel
theorem dX0_hasColumn_4 : decode cX0_hasColumn 4 = .ok (.iload_n 1, 1) := by decide +kernel
theorem dX0_hasColumn_5 : decode cX0_hasColumn 5 = .ok (.aload_n 0, 1) := by decide +kernel
theorem dX0_hasColumn_6 : decode cX0_hasColumn 6 = .ok (.getfield 49, 3) := by decide +kernel
theorem dX0_hasColumn_9 : decode cX0_hasColumn 9 = .ok (.if_icmp .ge 7, 3) := by decide +kernel
theorem dX0_hasColumn_12 : decode cX0_hasColumn 12 = .ok (.iconst 1, 1) := by decide +kernel
theorem dX0_hasColumn_13 : decode cX0_hasColumn 13 = .ok (.goto 4, 3) := by decide +kernel
theorem dX0_hasColumn_16 : decode cX0_hasColumn 16 = .ok (.iconst 0, 1) := by decide +kernel
theorem dX0_hasColumn_17 : decode cX0_hasColumn 17 = .ok (.ireturn, 1) := by decide +kernel
theorem dX0_hasRow_0 : decode cX0_hasRow 0 = .ok (.iload_n 1, 1) := by decide +kernel
theorem dX0_hasRow_1 : decode cX0_hasRow 1 = .ok (.ifCond .lt 15, 3) := by decide +kernel
theorem dX0_hasRow_4 : decode cX0_hasRow 4 = .ok (.iload_n 1, 1) := by decide +kernel
theorem dX0_hasRow_5 : decode cX0_hasRow 5 = .ok (.aload_n 0, 1) := by decide +kernel
theorem dX0_hasRow_6 : decode cX0_hasRow 6 = .ok (.getfield 11, 3) := by decide +kernel
theorem dX0_hasRow_9 : decode cX0_hasRow 9 = .ok (.if_icmp .ge 7, 3) := by decide +kernel
theorem dX0_hasRow_12 : decode cX0_hasRow 12 = .ok (.iconst 1, 1) := by decide +kernel
theorem dX0_hasRow_13 : decode cX0_hasRow 13 = .ok (.goto 4, 3) := by decide +kernel
theorem dX0_hasRow_16 : decode cX0_hasRow 16 = .ok (.iconst 0, 1) := by decide +kernel
theorem dX0_hasRow_17 : decode cX0_hasRow 17 = .ok (.ireturn, 1) := by decide +kernel
theorem dX0_hasCell_0 : decode cX0_hasCell 0 = .ok (.aload_n 0, 1) := by decide +kernel
theorem dX0_hasCell_1 : decode cX0_hasCell 1 = .ok (.iload_n 1, 1) := by decide +kernel
theorem dX0_hasCell_2 : decode cX0_hasCell 2 = .ok (.invokevirtual 73, 3) := by decide +kernel
theorem dX0_hasCell_5 : decode cX0_hasCell 5 = .ok (.ifCond .eq 15, 3) := by decide +kernel
theorem dX0_hasCell_8 : decode cX0_hasCell 8 = .ok (.aload_n 0, 1) := by decide +kernel
theorem dX0_hasCell_9 : decode cX0_hasCell 9 = .ok (.iload_n 2, 1) := by decide +kernel
theorem dX0_hasCell_10 : decode cX0_hasCell 10 = .ok (.invokevirtual 77, 3) := by decide +kernel
theorem dX0_hasCell_13 : decode cX0_hasCell 13 = .ok (.ifCond .eq 7, 3) := by decide +kernel
theorem dX0_hasCell_16 : decode cX0_hasCell 16 = .ok (.iconst 1, 1) := by decide +kernel
theorem dX0_hasCell_17 : decode cX0_hasCell 17 = .ok (.goto 4, 3) := by decide +kernel
theorem dX0_hasCell_20 : decode cX0_hasCell 20 = .ok (.iconst 0, 1) := by decide +kernel
theorem dX0_hasCell_21 : decode cX0_hasCell 21 = .ok (.ireturn, 1) := by decide +kernel
theorem dX0_hasFaceCell_0 : decode cX0_hasFaceCell 0 = .ok (.aload_n 0, 1) := by decide +kernel
theorem dX0_hasFaceCell_1 : decode cX0_hasFaceCell 1 = .ok (.iload_n 1, 1) := by decide +kernel
theorem dX0_hasFaceCell_2 : decode cX0_hasFaceCell 2 = .ok (.invokevirtual 80, 3) := by decide +kernel
theorem dX0_hasFaceCell_5 : decode cX0_hasFaceCell 5 = .ok (.ifCond .eq 29, 3) := by decide +kernel
theorem dX0_hasFaceCell_8 : decode cX0_hasFaceCell 8 = .ok (.iload_n 2, 1) := by decide +kernel
theorem dX0_hasFaceCell_9 : decode cX0_hasFaceCell 9 = .ok (.ifCond .lt 25, 3) := by decide +kernel
theorem dX0_hasFaceCell_12 : decode cX0_hasFaceCell 12 = .ok (.iload_n 2, 1) := by decide +kernel
theorem dX0_hasFaceCell_13 : decode cX0_hasFaceCell 13 = .ok (.aload_n 0, 1) := by decide +kernel
theorem dX0_hasFaceCell_14 : decode cX0_hasFaceCell 14 = .ok (.getfield 18, 3) := by decide +kernel
theorem dX0_hasFaceCell_17 : decode cX0_hasFaceCell 17 = .ok (.iload_n 1, 1) := by decide +kernel
theorem dX0_hasFaceCell_18 : decode cX0_hasFaceCell 18 = .ok (.iaload, 1) := by decide +kernel
theorem dX0_hasFaceCell_19 : decode cX0_hasFaceCell 19 = .ok (.if_icmp .ge 15, 3) := by decide +kernel
theorem dX0_hasFaceCell_22 : decode cX0_hasFaceCell 22 = .ok (.aload_n 0, 1) := by decide +kernel
theorem dX0_hasFaceCell_23 : decode cX0_hasFaceCell 23 = .ok (.iload_n 3, 1) := by decide +kernel
theorem dX0_hasFaceCell_24 : decode cX0_hasFaceCell 24 = .ok (.invokevirtual 77, 3) := by decide +kernel
theorem dX0_hasFaceCell_27 : decode cX0_hasFaceCell 27 = .ok (.ifCond .eq 7, 3) := by decide +kernel
theorem dX0_hasFaceCell_30 : decode cX0_hasFaceCell 30 = .ok (.iconst 1, 1) := by decide +kernel
theorem dX0_hasFaceCell_31 : decode cX0_hasFaceCell 31 = .ok (.goto 4, 3) := by decide +kernel
theorem dX0_hasFaceCell_34 : decode cX0_hasFaceCell 34 = .ok (.iconst 0, 1) := by decide +kernel
theorem dX0_hasFaceCell_35 : decode cX0_hasFaceCell 35 = .ok (.ireturn, 1) := by decide +kernel
theorem dX0_cells_0 : decode cX0_cells 0 = .ok (.aload_n 0, 1) := by decide +kernel
theorem dX0_cells_1 : decode cX0_cells 1 = .ok (.getfield 49, 3) := by decide +kernel
theorem dX0_cells_4 : decode cX0_cells 4 = .ok (.aload_n 0, 1) := by decide +kernel
theorem dX0_cells_5 : decode cX0_cells 5 = .ok (.getfield 11, 3) := by decide +kernel
theorem dX0_cells_8 : decode cX0_cells 8 = .ok (.imul, 1) := by decide +kernel
theorem dX0_cells_9 : decode cX0_cells 9 = .ok (.ireturn, 1) := by decide +kernel
theorem dX0_slatWith_0 : decode cX0_slatWith 0 = .ok (.iconst 0, 1) := by decide +kernel
theorem dX0_slatWith_1 : decode cX0_slatWith 1 = .ok (.istore_n 2, 1) := by decide +kernel
theorem dX0_slatWith_2 : decode cX0_slatWith 2 = .ok (.iload_n 2, 1) := by decide +kernel
theorem dX0_slatWith_3 : decode cX0_slatWith 3 = .ok (.aload_n 0, 1) := by decide +kernel
theorem dX0_slatWith_4 : decode cX0_slatWith 4 = .ok (.getfield 46, 3) := by decide +kernel
theorem dX0_slatWith_7 : decode cX0_slatWith 7 = .ok (.iconst 1, 1) := by decide +kernel
theorem dX0_slatWith_8 : decode cX0_slatWith 8 = .ok (.isub, 1) := by decide +kernel
theorem dX0_slatWith_9 : decode cX0_slatWith 9 = .ok (.if_icmp .ge 26, 3) := by decide +kernel
theorem dX0_slatWith_12 : decode cX0_slatWith 12 = .ok (.iload_n 1, 1) := by decide +kernel
theorem dX0_slatWith_13 : decode cX0_slatWith 13 = .ok (.aload_n 0, 1) := by decide +kernel
theorem dX0_slatWith_14 : decode cX0_slatWith 14 = .ok (.getfield 22, 3) := by decide +kernel
theorem dX0_slatWith_17 : decode cX0_slatWith 17 = .ok (.iload_n 2, 1) := by decide +kernel
theorem dX0_slatWith_18 : decode cX0_slatWith 18 = .ok (.iaload, 1) := by decide +kernel
theorem dX0_slatWith_19 : decode cX0_slatWith 19 = .ok (.aload_n 0, 1) := by decide +kernel
theorem dX0_slatWith_20 : decode cX0_slatWith 20 = .ok (.getfield 18, 3) := by decide +kernel
theorem dX0_slatWith_23 : decode cX0_slatWith 23 = .ok (.iload_n 2, 1) := by decide +kernel
theorem dX0_slatWith_24 : decode cX0_slatWith 24 = .ok (.iaload, 1) := by decide +kernel
theorem dX0_slatWith_25 : decode cX0_slatWith 25 = .ok (.iadd, 1) := by decide +kernel
theorem dX0_slatWith_26 : decode cX0_slatWith 26 = .ok (.if_icmp .lt 9, 3) := by decide +kernel
theorem dX0_slatWith_29 : decode cX0_slatWith 29 = .ok (.iinc 2 1, 3) := by decide +kernel
theorem dX0_slatWith_32 : decode cX0_slatWith 32 = .ok (.goto (-30), 3) := by decide +kernel
theorem dX0_slatWith_35 : decode cX0_slatWith 35 = .ok (.iload_n 2, 1) := by decide +kernel
theorem dX0_slatWith_36 : decode cX0_slatWith 36 = .ok (.ireturn, 1) := by decide +kernel
theorem dX0_isTied_0 : decode cX0_isTied 0 = .ok (.aload_n 0, 1) := by decide +kernel
theorem dX0_isTied_1 : decode cX0_isTied 1 = .ok (.getfield 58, 3) := by decide +kernel
theorem dX0_isTied_4 : decode cX0_isTied 4 = .ok (.iload_n 1, 1) := by decide +kernel
theorem dX0_isTied_5 : decode cX0_isTied 5 = .ok (.iushr, 1) := by decide +kernel
theorem dX0_isTied_6 : decode cX0_isTied 6 = .ok (.iconst 1, 1) := by decide +kernel
theorem dX0_isTied_7 : decode cX0_isTied 7 = .ok (.iand, 1) := by decide +kernel
theorem dX0_isTied_8 : decode cX0_isTied 8 = .ok (.iconst 1, 1) := by decide +kernel
theorem dX0_isTied_9 : decode cX0_isTied 9 = .ok (.if_icmp .ne 7, 3) := by decide +kernel
theorem dX0_isTied_12 : decode cX0_isTied 12 = .ok (.iconst 1, 1) := by decide +kernel
theorem dX0_isTied_13 : decode cX0_isTied 13 = .ok (.goto 4, 3) := by decide +kernel
theorem dX0_isTied_16 : decode cX0_isTied 16 = .ok (.iconst 0, 1) := by decide +kernel
theorem dX0_isTied_17 : decode cX0_isTied 17 = .ok (.ireturn, 1) := by decide +kernel
theorem dX0_setTied_0 : decode cX0_setTied 0 = .ok (.iconst 1, 1) := by decide +kernel
theorem dX0_setTied_1 : decode cX0_setTied 1 = .ok (.iload_n 1, 1) := by decide +kernel
theorem dX0_setTied_2 : decode cX0_setTied 2 = .ok (.ishl, 1) := by decide +kernel
theorem dX0_setTied_3 : decode cX0_setTied 3 = .ok (.istore_n 3, 1) := by decide +kernel
theorem dX0_setTied_4 : decode cX0_setTied 4 = .ok (.aload_n 0, 1) := by decide +kernel
theorem dX0_setTied_5 : decode cX0_setTied 5 = .ok (.iload_n 2, 1) := by decide +kernel
theorem dX0_setTied_6 : decode cX0_setTied 6 = .ok (.ifCond .eq 12, 3) := by decide +kernel
theorem dX0_setTied_9 : decode cX0_setTied 9 = .ok (.aload_n 0, 1) := by decide +kernel
theorem dX0_setTied_10 : decode cX0_setTied 10 = .ok (.getfield 58, 3) := by decide +kernel
theorem dX0_setTied_13 : decode cX0_setTied 13 = .ok (.iload_n 3, 1) := by decide +kernel
theorem dX0_setTied_14 : decode cX0_setTied 14 = .ok (.ior, 1) := by decide +kernel
theorem dX0_setTied_15 : decode cX0_setTied 15 = .ok (.goto 11, 3) := by decide +kernel
theorem dX0_setTied_18 : decode cX0_setTied 18 = .ok (.aload_n 0, 1) := by decide +kernel
theorem dX0_setTied_19 : decode cX0_setTied 19 = .ok (.getfield 58, 3) := by decide +kernel
theorem dX0_setTied_22 : decode cX0_setTied 22 = .ok (.iload_n 3, 1) := by decide +kernel
theorem dX0_setTied_23 : decode cX0_setTied 23 = .ok (.iconst (-1), 1) := by decide +kernel
theorem dX0_setTied_24 : decode cX0_setTied 24 = .ok (.ixor, 1) := by decide +kernel
theorem dX0_setTied_25 : decode cX0_setTied 25 = .ok (.iand, 1) := by decide +kernel
theorem dX0_setTied_26 : decode cX0_setTied 26 = .ok (.putfield 58, 3) := by decide +kernel
theorem dX0_setTied_29 : decode cX0_setTied 29 = .ok (.return_, 1) := by decide +kernel
theorem dX0_seamBehind_0 : decode cX0_seamBehind 0 = .ok (.iload_n 1, 1) := by decide +kernel
theorem dX0_seamBehind_1 : decode cX0_seamBehind 1 = .ok (.ifCond .lt 31, 3) := by decide +kernel
theorem dX0_seamBehind_4 : decode cX0_seamBehind 4 = .ok (.iload_n 1, 1) := by decide +kernel
theorem dX0_seamBehind_5 : decode cX0_seamBehind 5 = .ok (.aload_n 0, 1) := by decide +kernel
theorem dX0_seamBehind_6 : decode cX0_seamBehind 6 = .ok (.getfield 46, 3) := by decide +kernel
theorem dX0_seamBehind_9 : decode cX0_seamBehind 9 = .ok (.iconst 1, 1) := by decide +kernel
theorem dX0_seamBehind_10 : decode cX0_seamBehind 10 = .ok (.isub, 1) := by decide +kernel
theorem dX0_seamBehind_11 : decode cX0_seamBehind 11 = .ok (.if_icmp .ge 21, 3) := by decide +kernel
theorem dX0_seamBehind_14 : decode cX0_seamBehind 14 = .ok (.aload_n 0, 1) := by decide +kernel
theorem dX0_seamBehind_15 : decode cX0_seamBehind 15 = .ok (.getfield 25, 3) := by decide +kernel
theorem dX0_seamBehind_18 : decode cX0_seamBehind 18 = .ok (.iload_n 1, 1) := by decide +kernel
theorem dX0_seamBehind_19 : decode cX0_seamBehind 19 = .ok (.iaload, 1) := by decide +kernel
theorem dX0_seamBehind_20 : decode cX0_seamBehind 20 = .ok (.aload_n 0, 1) := by decide +kernel
theorem dX0_seamBehind_21 : decode cX0_seamBehind 21 = .ok (.getfield 25, 3) := by decide +kernel
theorem dX0_seamBehind_24 : decode cX0_seamBehind 24 = .ok (.iload_n 1, 1) := by decide +kernel
theorem dX0_seamBehind_25 : decode cX0_seamBehind 25 = .ok (.iconst 1, 1) := by decide +kernel
theorem dX0_seamBehind_26 : decode cX0_seamBehind 26 = .ok (.iadd, 1) := by decide +kernel
theorem dX0_seamBehind_27 : decode cX0_seamBehind 27 = .ok (.iaload, 1) := by decide +kernel
theorem dX0_seamBehind_28 : decode cX0_seamBehind 28 = .ok (.isub, 1) := by decide +kernel
theorem dX0_seamBehind_29 : decode cX0_seamBehind 29 = .ok (.goto 4, 3) := by decide +kernel
theorem dX0_seamBehind_32 : decode cX0_seamBehind 32 = .ok (.iconst 0, 1) := by decide +kernel
theorem dX0_seamBehind_33 : decode cX0_seamBehind 33 = .ok (.ireturn, 1) := by decide +kernel
theorem dX0_coveringSeams_0 : decode cX0_coveringSeams 0 = .ok (.iconst 0, 1) := by decide +kernel
theorem dX0_coveringSeams_1 : decode cX0_coveringSeams 1 = .ok (.istore_n 1, 1) := by decide +kernel
theorem dX0_coveringSeams_2 : decode cX0_coveringSeams 2 = .ok (.iconst 0, 1) := by decide +kernel
theorem dX0_coveringSeams_3 : decode cX0_coveringSeams 3 = .ok (.istore_n 2, 1) := by decide +kernel
theorem dX0_coveringSeams_4 : decode cX0_coveringSeams 4 = .ok (.iload_n 2, 1) := by decide +kernel
theorem dX0_coveringSeams_5 : decode cX0_coveringSeams 5 = .ok (.aload_n 0, 1) := by decide +kernel
theorem dX0_coveringSeams_6 : decode cX0_coveringSeams 6 = .ok (.getfield 46, 3) := by decide +kernel
theorem dX0_coveringSeams_9 : decode cX0_coveringSeams 9 = .ok (.if_icmp .ge 25, 3) := by decide +kernel
theorem dX0_coveringSeams_12 : decode cX0_coveringSeams 12 = .ok (.iload_n 1, 1) := by decide +kernel
theorem dX0_coveringSeams_13 : decode cX0_coveringSeams 13 = .ok (.aload_n 0, 1) := by decide +kernel
theorem dX0_coveringSeams_14 : decode cX0_coveringSeams 14 = .ok (.iload_n 2, 1) := by decide +kernel
theorem dX0_coveringSeams_15 : decode cX0_coveringSeams 15 = .ok (.invokevirtual 83, 3) := by decide +kernel
theorem dX0_coveringSeams_18 : decode cX0_coveringSeams 18 = .ok (.ifCond .le 7, 3) := by decide +kernel
theorem dX0_coveringSeams_21 : decode cX0_coveringSeams 21 = .ok (.iconst 1, 1) := by decide +kernel
theorem dX0_coveringSeams_22 : decode cX0_coveringSeams 22 = .ok (.goto 4, 3) := by decide +kernel
theorem dX0_coveringSeams_25 : decode cX0_coveringSeams 25 = .ok (.iconst 0, 1) := by decide +kernel
theorem dX0_coveringSeams_26 : decode cX0_coveringSeams 26 = .ok (.iadd, 1) := by decide +kernel
theorem dX0_coveringSeams_27 : decode cX0_coveringSeams 27 = .ok (.istore_n 1, 1) := by decide +kernel
theorem dX0_coveringSeams_28 : decode cX0_coveringSeams 28 = .ok (.iinc 2 1, 3) := by decide +kernel
theorem dX0_coveringSeams_31 : decode cX0_coveringSeams 31 = .ok (.goto (-27), 3) := by decide +kernel
theorem dX0_coveringSeams_34 : decode cX0_coveringSeams 34 = .ok (.iload_n 1, 1) := by decide +kernel
theorem dX0_coveringSeams_35 : decode cX0_coveringSeams 35 = .ok (.ireturn, 1) := by decide +kernel
theorem dX0_openingSeams_0 : decode cX0_openingSeams 0 = .ok (.iconst 0, 1) := by decide +kernel
theorem dX0_openingSeams_1 : decode cX0_openingSeams 1 = .ok (.istore_n 1, 1) := by decide +kernel
theorem dX0_openingSeams_2 : decode cX0_openingSeams 2 = .ok (.iconst 0, 1) := by decide +kernel
theorem dX0_openingSeams_3 : decode cX0_openingSeams 3 = .ok (.istore_n 2, 1) := by decide +kernel
theorem dX0_openingSeams_4 : decode cX0_openingSeams 4 = .ok (.iload_n 2, 1) := by decide +kernel
theorem dX0_openingSeams_5 : decode cX0_openingSeams 5 = .ok (.aload_n 0, 1) := by decide +kernel
theorem dX0_openingSeams_6 : decode cX0_openingSeams 6 = .ok (.getfield 46, 3) := by decide +kernel
theorem dX0_openingSeams_9 : decode cX0_openingSeams 9 = .ok (.if_icmp .ge 25, 3) := by decide +kernel
theorem dX0_openingSeams_12 : decode cX0_openingSeams 12 = .ok (.iload_n 1, 1) := by decide +kernel
theorem dX0_openingSeams_13 : decode cX0_openingSeams 13 = .ok (.aload_n 0, 1) := by decide +kernel
theorem dX0_openingSeams_14 : decode cX0_openingSeams 14 = .ok (.iload_n 2, 1) := by decide +kernel
theorem dX0_openingSeams_15 : decode cX0_openingSeams 15 = .ok (.invokevirtual 83, 3) := by decide +kernel
theorem dX0_openingSeams_18 : decode cX0_openingSeams 18 = .ok (.ifCond .ge 7, 3) := by decide +kernel
theorem dX0_openingSeams_21 : decode cX0_openingSeams 21 = .ok (.iconst 1, 1) := by decide +kernel
theorem dX0_openingSeams_22 : decode cX0_openingSeams 22 = .ok (.goto 4, 3) := by decide +kernel
theorem dX0_openingSeams_25 : decode cX0_openingSeams 25 = .ok (.iconst 0, 1) := by decide +kernel
theorem dX0_openingSeams_26 : decode cX0_openingSeams 26 = .ok (.iadd, 1) := by decide +kernel
theorem dX0_openingSeams_27 : decode cX0_openingSeams 27 = .ok (.istore_n 1, 1) := by decide +kernel
theorem dX0_openingSeams_28 : decode cX0_openingSeams 28 = .ok (.iinc 2 1, 3) := by decide +kernel
theorem dX0_openingSeams_31 : decode cX0_openingSeams 31 = .ok (.goto (-27), 3) := by decide +kernel
theorem dX0_openingSeams_34 : decode cX0_openingSeams 34 = .ok (.iload_n 1, 1) := by decide +kernel
theorem dX0_openingSeams_35 : decode cX0_openingSeams 35 = .ok (.ireturn, 1) := by decide +kernel
theorem dX0_unlikePicture_0 : decode cX0_unlikePicture 0 = .ok (.aload_n 0, 1) := by decide +kernel
theorem dX0_unlikePicture_1 : decode cX0_unlikePicture 1 = .ok (.iload_n 2, 1) := by decide +kernel
theorem dX0_unlikePicture_2 : decode cX0_unlikePicture 2 = .ok (.invokevirtual 87, 3) := by decide +kernel
theorem dX0_unlikePicture_5 : decode cX0_unlikePicture 5 = .ok (.astore_n 3, 1) := by decide +kernel
theorem dX0_unlikePicture_6 : decode cX0_unlikePicture 6 = .ok (.aload_n 0, 1) := by decide +kernel
theorem dX0_unlikePicture_7 : decode cX0_unlikePicture 7 = .ok (.iload_n 2, 1) := by decide +kernel
theorem dX0_unlikePicture_8 : decode cX0_unlikePicture 8 = .ok (.invokevirtual 91, 3) := by decide +kernel
theorem dX0_unlikePicture_11 : decode cX0_unlikePicture 11 = .ok (.astore 4, 2) := by decide +kernel
theorem dX0_unlikePicture_13 : decode cX0_unlikePicture 13 = .ok (.iconst 0, 1) := by decide +kernel
theorem dX0_unlikePicture_14 : decode cX0_unlikePicture 14 = .ok (.istore 5, 2) := by decide +kernel
theorem dX0_unlikePicture_16 : decode cX0_unlikePicture 16 = .ok (.aload_n 0, 1) := by decide +kernel
theorem dX0_unlikePicture_17 : decode cX0_unlikePicture 17 = .ok (.getfield 22, 3) := by decide +kernel
theorem dX0_unlikePicture_20 : decode cX0_unlikePicture 20 = .ok (.iload_n 1, 1) := by decide +kernel
theorem dX0_unlikePicture_21 : decode cX0_unlikePicture 21 = .ok (.iaload, 1) := by decide +kernel
theorem dX0_unlikePicture_22 : decode cX0_unlikePicture 22 = .ok (.istore 6, 2) := by decide +kernel
theorem dX0_unlikePicture_24 : decode cX0_unlikePicture 24 = .ok (.iload 6, 2) := by decide +kernel
theorem dX0_unlikePicture_26 : decode cX0_unlikePicture 26 = .ok (.aload_n 0, 1) := by decide +kernel
theorem dX0_unlikePicture_27 : decode cX0_unlikePicture 27 = .ok (.getfield 22, 3) := by decide +kernel
theorem dX0_unlikePicture_30 : decode cX0_unlikePicture 30 = .ok (.iload_n 1, 1) := by decide +kernel
theorem dX0_unlikePicture_31 : decode cX0_unlikePicture 31 = .ok (.iaload, 1) := by decide +kernel
theorem dX0_unlikePicture_32 : decode cX0_unlikePicture 32 = .ok (.aload_n 0, 1) := by decide +kernel
theorem dX0_unlikePicture_33 : decode cX0_unlikePicture 33 = .ok (.getfield 18, 3) := by decide +kernel
theorem dX0_unlikePicture_36 : decode cX0_unlikePicture 36 = .ok (.iload_n 1, 1) := by decide +kernel
theorem dX0_unlikePicture_37 : decode cX0_unlikePicture 37 = .ok (.iaload, 1) := by decide +kernel
theorem dX0_unlikePicture_38 : decode cX0_unlikePicture 38 = .ok (.iadd, 1) := by decide +kernel
theorem dX0_unlikePicture_39 : decode cX0_unlikePicture 39 = .ok (.if_icmp .ge 26, 3) := by decide +kernel
theorem dX0_unlikePicture_42 : decode cX0_unlikePicture 42 = .ok (.iload 5, 2) := by decide +kernel
theorem dX0_unlikePicture_44 : decode cX0_unlikePicture 44 = .ok (.aload 4, 2) := by decide +kernel
theorem dX0_unlikePicture_46 : decode cX0_unlikePicture 46 = .ok (.iload 6, 2) := by decide +kernel
theorem dX0_unlikePicture_48 : decode cX0_unlikePicture 48 = .ok (.iaload, 1) := by decide +kernel
theorem dX0_unlikePicture_49 : decode cX0_unlikePicture 49 = .ok (.aload_n 3, 1) := by decide +kernel
theorem dX0_unlikePicture_50 : decode cX0_unlikePicture 50 = .ok (.iload 6, 2) := by decide +kernel
theorem dX0_unlikePicture_52 : decode cX0_unlikePicture 52 = .ok (.iaload, 1) := by decide +kernel
theorem dX0_unlikePicture_53 : decode cX0_unlikePicture 53 = .ok (.invokestatic 94, 3) := by decide +kernel
theorem dX0_unlikePicture_56 : decode cX0_unlikePicture 56 = .ok (.iadd, 1) := by decide +kernel
theorem dX0_unlikePicture_57 : decode cX0_unlikePicture 57 = .ok (.istore 5, 2) := by decide +kernel
theorem dX0_unlikePicture_59 : decode cX0_unlikePicture 59 = .ok (.iinc 6 1, 3) := by decide +kernel
theorem dX0_unlikePicture_62 : decode cX0_unlikePicture 62 = .ok (.goto (-38), 3) := by decide +kernel
theorem dX0_unlikePicture_65 : decode cX0_unlikePicture 65 = .ok (.iload 5, 2) := by decide +kernel
theorem dX0_unlikePicture_67 : decode cX0_unlikePicture 67 = .ok (.ireturn, 1) := by decide +kernel
theorem dX0_bearsCoat_0 : decode cX0_bearsCoat 0 = .ok (.aload_n 0, 1) := by decide +kernel
theorem dX0_bearsCoat_1 : decode cX0_bearsCoat 1 = .ok (.iload_n 2, 1) := by decide +kernel
theorem dX0_bearsCoat_2 : decode cX0_bearsCoat 2 = .ok (.invokevirtual 98, 3) := by decide +kernel
theorem dX0_bearsCoat_5 : decode cX0_bearsCoat 5 = .ok (.iload_n 1, 1) := by decide +kernel
theorem dX0_bearsCoat_6 : decode cX0_bearsCoat 6 = .ok (.iaload, 1) := by decide +kernel
theorem dX0_bearsCoat_7 : decode cX0_bearsCoat 7 = .ok (.aload_n 0, 1) := by decide +kernel
theorem dX0_bearsCoat_8 : decode cX0_bearsCoat 8 = .ok (.getfield 15, 3) := by decide +kernel
theorem dX0_bearsCoat_11 : decode cX0_bearsCoat 11 = .ok (.if_icmp .ge 7, 3) := by decide +kernel
theorem dX0_bearsCoat_14 : decode cX0_bearsCoat 14 = .ok (.iconst 1, 1) := by decide +kernel
theorem dX0_bearsCoat_15 : decode cX0_bearsCoat 15 = .ok (.goto 4, 3) := by decide +kernel
theorem dX0_bearsCoat_18 : decode cX0_bearsCoat 18 = .ok (.iconst 0, 1) := by decide +kernel
theorem dX0_bearsCoat_19 : decode cX0_bearsCoat 19 = .ok (.ireturn, 1) := by decide +kernel
theorem dX0_turnAfterPull_0 : decode cX0_turnAfterPull 0 = .ok (.aload_n 0, 1) := by decide +kernel
theorem dX0_turnAfterPull_1 : decode cX0_turnAfterPull 1 = .ok (.iload_n 1, 1) := by decide +kernel
theorem dX0_turnAfterPull_2 : decode cX0_turnAfterPull 2 = .ok (.invokevirtual 101, 3) := by decide +kernel
theorem dX0_turnAfterPull_5 : decode cX0_turnAfterPull 5 = .ok (.ifCond .eq 10, 3) := by decide +kernel
theorem dX0_turnAfterPull_8 : decode cX0_turnAfterPull 8 = .ok (.aload_n 0, 1) := by decide +kernel
theorem dX0_turnAfterPull_9 : decode cX0_turnAfterPull 9 = .ok (.getfield 25, 3) := by decide +kernel
theorem dX0_turnAfterPull_12 : decode cX0_turnAfterPull 12 = .ok (.iload_n 1, 1) := by decide +kernel
theorem dX0_turnAfterPull_13 : decode cX0_turnAfterPull 13 = .ok (.iaload, 1) := by decide +kernel
theorem dX0_turnAfterPull_14 : decode cX0_turnAfterPull 14 = .ok (.ireturn, 1) := by decide +kernel
theorem dX0_turnAfterPull_15 : decode cX0_turnAfterPull 15 = .ok (.bipush (-4), 2) := by decide +kernel
theorem dX0_turnAfterPull_17 : decode cX0_turnAfterPull 17 = .ok (.iconst 4, 1) := by decide +kernel
theorem dX0_turnAfterPull_18 : decode cX0_turnAfterPull 18 = .ok (.aload_n 0, 1) := by decide +kernel
theorem dX0_turnAfterPull_19 : decode cX0_turnAfterPull 19 = .ok (.getfield 25, 3) := by decide +kernel
theorem dX0_turnAfterPull_22 : decode cX0_turnAfterPull 22 = .ok (.iload_n 1, 1) := by decide +kernel
theorem dX0_turnAfterPull_23 : decode cX0_turnAfterPull 23 = .ok (.iaload, 1) := by decide +kernel
theorem dX0_turnAfterPull_24 : decode cX0_turnAfterPull 24 = .ok (.iload_n 2, 1) := by decide +kernel
theorem dX0_turnAfterPull_25 : decode cX0_turnAfterPull 25 = .ok (.iadd, 1) := by decide +kernel
theorem dX0_turnAfterPull_26 : decode cX0_turnAfterPull 26 = .ok (.invokestatic 104, 3) := by decide +kernel
theorem dX0_turnAfterPull_29 : decode cX0_turnAfterPull 29 = .ok (.invokestatic 109, 3) := by decide +kernel
theorem dX0_turnAfterPull_32 : decode cX0_turnAfterPull 32 = .ok (.ireturn, 1) := by decide +kernel
theorem dX0_turnsTo_0 : decode cX0_turnsTo 0 = .ok (.iconst 0, 1) := by decide +kernel
theorem dX0_turnsTo_1 : decode cX0_turnsTo 1 = .ok (.istore_n 2, 1) := by decide +kernel
theorem dX0_turnsTo_2 : decode cX0_turnsTo 2 = .ok (.iconst 0, 1) := by decide +kernel
theorem dX0_turnsTo_3 : decode cX0_turnsTo 3 = .ok (.istore_n 3, 1) := by decide +kernel
theorem dX0_turnsTo_4 : decode cX0_turnsTo 4 = .ok (.iload_n 3, 1) := by decide +kernel
theorem dX0_turnsTo_5 : decode cX0_turnsTo 5 = .ok (.aload_n 0, 1) := by decide +kernel
theorem dX0_turnsTo_6 : decode cX0_turnsTo 6 = .ok (.getfield 46, 3) := by decide +kernel
theorem dX0_turnsTo_9 : decode cX0_turnsTo 9 = .ok (.if_icmp .ge 47, 3) := by decide +kernel
theorem dX0_turnsTo_12 : decode cX0_turnsTo 12 = .ok (.aload_n 0, 1) := by decide +kernel
theorem dX0_turnsTo_13 : decode cX0_turnsTo 13 = .ok (.getfield 25, 3) := by decide +kernel
theorem dX0_turnsTo_16 : decode cX0_turnsTo 16 = .ok (.iload_n 3, 1) := by decide +kernel
theorem dX0_turnsTo_17 : decode cX0_turnsTo 17 = .ok (.iaload, 1) := by decide +kernel
theorem dX0_turnsTo_18 : decode cX0_turnsTo 18 = .ok (.iload_n 1, 1) := by decide +kernel
theorem dX0_turnsTo_19 : decode cX0_turnsTo 19 = .ok (.if_icmp .eq 13, 3) := by decide +kernel
theorem dX0_turnsTo_22 : decode cX0_turnsTo 22 = .ok (.aload_n 0, 1) := by decide +kernel
theorem dX0_turnsTo_23 : decode cX0_turnsTo 23 = .ok (.iload_n 3, 1) := by decide +kernel
theorem dX0_turnsTo_24 : decode cX0_turnsTo 24 = .ok (.invokevirtual 101, 3) := by decide +kernel
theorem dX0_turnsTo_27 : decode cX0_turnsTo 27 = .ok (.ifCond .eq 5, 3) := by decide +kernel
theorem dX0_turnsTo_30 : decode cX0_turnsTo 30 = .ok (.iconst (-1), 1) := by decide +kernel
theorem dX0_turnsTo_31 : decode cX0_turnsTo 31 = .ok (.ireturn, 1) := by decide +kernel
theorem dX0_turnsTo_32 : decode cX0_turnsTo 32 = .ok (.iload_n 2, 1) := by decide +kernel
theorem dX0_turnsTo_33 : decode cX0_turnsTo 33 = .ok (.aload_n 0, 1) := by decide +kernel
theorem dX0_turnsTo_34 : decode cX0_turnsTo 34 = .ok (.getfield 25, 3) := by decide +kernel
theorem dX0_turnsTo_37 : decode cX0_turnsTo 37 = .ok (.iload_n 3, 1) := by decide +kernel
theorem dX0_turnsTo_38 : decode cX0_turnsTo 38 = .ok (.iaload, 1) := by decide +kernel
theorem dX0_turnsTo_39 : decode cX0_turnsTo 39 = .ok (.iload_n 1, 1) := by decide +kernel
theorem dX0_turnsTo_40 : decode cX0_turnsTo 40 = .ok (.if_icmp .eq 7, 3) := by decide +kernel
theorem dX0_turnsTo_43 : decode cX0_turnsTo 43 = .ok (.iconst 1, 1) := by decide +kernel
theorem dX0_turnsTo_44 : decode cX0_turnsTo 44 = .ok (.goto 4, 3) := by decide +kernel
theorem dX0_turnsTo_47 : decode cX0_turnsTo 47 = .ok (.iconst 0, 1) := by decide +kernel
theorem dX0_turnsTo_48 : decode cX0_turnsTo 48 = .ok (.iadd, 1) := by decide +kernel
theorem dX0_turnsTo_49 : decode cX0_turnsTo 49 = .ok (.istore_n 2, 1) := by decide +kernel
theorem dX0_turnsTo_50 : decode cX0_turnsTo 50 = .ok (.iinc 3 1, 3) := by decide +kernel
theorem dX0_turnsTo_53 : decode cX0_turnsTo 53 = .ok (.goto (-49), 3) := by decide +kernel
theorem dX0_turnsTo_56 : decode cX0_turnsTo 56 = .ok (.iload_n 2, 1) := by decide +kernel
theorem dX0_turnsTo_57 : decode cX0_turnsTo 57 = .ok (.ireturn, 1) := by decide +kernel
theorem dX0_pullCord_0 : decode cX0_pullCord 0 = .ok (.iconst 0, 1) := by decide +kernel
theorem dX0_pullCord_1 : decode cX0_pullCord 1 = .ok (.istore_n 2, 1) := by decide +kernel
theorem dX0_pullCord_2 : decode cX0_pullCord 2 = .ok (.iconst 0, 1) := by decide +kernel
theorem dX0_pullCord_3 : decode cX0_pullCord 3 = .ok (.istore_n 3, 1) := by decide +kernel
theorem dX0_pullCord_4 : decode cX0_pullCord 4 = .ok (.iload_n 3, 1) := by decide +kernel
theorem dX0_pullCord_5 : decode cX0_pullCord 5 = .ok (.aload_n 0, 1) := by decide +kernel
theorem dX0_pullCord_6 : decode cX0_pullCord 6 = .ok (.getfield 46, 3) := by decide +kernel
theorem dX0_pullCord_9 : decode cX0_pullCord 9 = .ok (.if_icmp .ge 44, 3) := by decide +kernel
theorem dX0_pullCord_12 : decode cX0_pullCord 12 = .ok (.aload_n 0, 1) := by decide +kernel
theorem dX0_pullCord_13 : decode cX0_pullCord 13 = .ok (.iload_n 3, 1) := by decide +kernel
theorem dX0_pullCord_14 : decode cX0_pullCord 14 = .ok (.iload_n 1, 1) := by decide +kernel
theorem dX0_pullCord_15 : decode cX0_pullCord 15 = .ok (.invokevirtual 112, 3) := by decide +kernel
theorem dX0_pullCord_18 : decode cX0_pullCord 18 = .ok (.istore 4, 2) := by decide +kernel
theorem dX0_pullCord_20 : decode cX0_pullCord 20 = .ok (.iload_n 2, 1) := by decide +kernel
theorem dX0_pullCord_21 : decode cX0_pullCord 21 = .ok (.iload 4, 2) := by decide +kernel
theorem dX0_pullCord_23 : decode cX0_pullCord 23 = .ok (.aload_n 0, 1) := by decide +kernel
theorem dX0_pullCord_24 : decode cX0_pullCord 24 = .ok (.getfield 25, 3) := by decide +kernel
theorem dX0_pullCord_27 : decode cX0_pullCord 27 = .ok (.iload_n 3, 1) := by decide +kernel
theorem dX0_pullCord_28 : decode cX0_pullCord 28 = .ok (.iaload, 1) := by decide +kernel
theorem dX0_pullCord_29 : decode cX0_pullCord 29 = .ok (.if_icmp .eq 7, 3) := by decide +kernel
theorem dX0_pullCord_32 : decode cX0_pullCord 32 = .ok (.iconst 1, 1) := by decide +kernel
theorem dX0_pullCord_33 : decode cX0_pullCord 33 = .ok (.goto 4, 3) := by decide +kernel
theorem dX0_pullCord_36 : decode cX0_pullCord 36 = .ok (.iconst 0, 1) := by decide +kernel
theorem dX0_pullCord_37 : decode cX0_pullCord 37 = .ok (.iadd, 1) := by decide +kernel
theorem dX0_pullCord_38 : decode cX0_pullCord 38 = .ok (.istore_n 2, 1) := by decide +kernel
theorem dX0_pullCord_39 : decode cX0_pullCord 39 = .ok (.aload_n 0, 1) := by decide +kernel
theorem dX0_pullCord_40 : decode cX0_pullCord 40 = .ok (.getfield 25, 3) := by decide +kernel
theorem dX0_pullCord_43 : decode cX0_pullCord 43 = .ok (.iload_n 3, 1) := by decide +kernel
theorem dX0_pullCord_44 : decode cX0_pullCord 44 = .ok (.iload 4, 2) := by decide +kernel
theorem dX0_pullCord_46 : decode cX0_pullCord 46 = .ok (.iastore, 1) := by decide +kernel
theorem dX0_pullCord_47 : decode cX0_pullCord 47 = .ok (.iinc 3 1, 3) := by decide +kernel
theorem dX0_pullCord_50 : decode cX0_pullCord 50 = .ok (.goto (-46), 3) := by decide +kernel
theorem dX0_pullCord_53 : decode cX0_pullCord 53 = .ok (.iload_n 2, 1) := by decide +kernel
theorem dX0_pullCord_54 : decode cX0_pullCord 54 = .ok (.ireturn, 1) := by decide +kernel
theorem dX0_paintFace_0 : decode cX0_paintFace 0 = .ok (.aload_n 0, 1) := by decide +kernel
theorem dX0_paintFace_1 : decode cX0_paintFace 1 = .ok (.iload_n 1, 1) := by decide +kernel
theorem dX0_paintFace_2 : decode cX0_paintFace 2 = .ok (.iload_n 2, 1) := by decide +kernel
theorem dX0_paintFace_3 : decode cX0_paintFace 3 = .ok (.invokevirtual 115, 3) := by decide +kernel
theorem dX0_paintFace_6 : decode cX0_paintFace 6 = .ok (.istore_n 3, 1) := by decide +kernel
theorem dX0_paintFace_7 : decode cX0_paintFace 7 = .ok (.aload_n 0, 1) := by decide +kernel
theorem dX0_paintFace_8 : decode cX0_paintFace 8 = .ok (.getfield 22, 3) := by decide +kernel
theorem dX0_paintFace_11 : decode cX0_paintFace 11 = .ok (.iload_n 1, 1) := by decide +kernel
theorem dX0_paintFace_12 : decode cX0_paintFace 12 = .ok (.iaload, 1) := by decide +kernel
theorem dX0_paintFace_13 : decode cX0_paintFace 13 = .ok (.istore 4, 2) := by decide +kernel
theorem dX0_paintFace_15 : decode cX0_paintFace 15 = .ok (.aload_n 0, 1) := by decide +kernel
theorem dX0_paintFace_16 : decode cX0_paintFace 16 = .ok (.iload_n 2, 1) := by decide +kernel
theorem dX0_paintFace_17 : decode cX0_paintFace 17 = .ok (.invokevirtual 87, 3) := by decide +kernel
theorem dX0_paintFace_20 : decode cX0_paintFace 20 = .ok (.iload 4, 2) := by decide +kernel
theorem dX0_paintFace_22 : decode cX0_paintFace 22 = .ok (.aload_n 0, 1) := by decide +kernel
theorem dX0_paintFace_23 : decode cX0_paintFace 23 = .ok (.iload_n 2, 1) := by decide +kernel
theorem dX0_paintFace_24 : decode cX0_paintFace 24 = .ok (.invokevirtual 91, 3) := by decide +kernel
theorem dX0_paintFace_27 : decode cX0_paintFace 27 = .ok (.iload 4, 2) := by decide +kernel
theorem dX0_paintFace_29 : decode cX0_paintFace 29 = .ok (.aload_n 0, 1) := by decide +kernel
theorem dX0_paintFace_30 : decode cX0_paintFace 30 = .ok (.getfield 18, 3) := by decide +kernel
theorem dX0_paintFace_33 : decode cX0_paintFace 33 = .ok (.iload_n 1, 1) := by decide +kernel
theorem dX0_paintFace_34 : decode cX0_paintFace 34 = .ok (.iaload, 1) := by decide +kernel
theorem dX0_paintFace_35 : decode cX0_paintFace 35 = .ok (.invokestatic 67, 3) := by decide +kernel
theorem dX0_paintFace_38 : decode cX0_paintFace 38 = .ok (.aload_n 0, 1) := by decide +kernel
theorem dX0_paintFace_39 : decode cX0_paintFace 39 = .ok (.iload_n 2, 1) := by decide +kernel
theorem dX0_paintFace_40 : decode cX0_paintFace 40 = .ok (.invokevirtual 98, 3) := by decide +kernel
theorem dX0_paintFace_43 : decode cX0_paintFace 43 = .ok (.iload_n 1, 1) := by decide +kernel
theorem dX0_paintFace_44 : decode cX0_paintFace 44 = .ok (.dup2, 1) := by decide +kernel
theorem dX0_paintFace_45 : decode cX0_paintFace 45 = .ok (.iaload, 1) := by decide +kernel
theorem dX0_paintFace_46 : decode cX0_paintFace 46 = .ok (.iconst 1, 1) := by decide +kernel
theorem dX0_paintFace_47 : decode cX0_paintFace 47 = .ok (.iadd, 1) := by decide +kernel
theorem dX0_paintFace_48 : decode cX0_paintFace 48 = .ok (.iastore, 1) := by decide +kernel
theorem dX0_paintFace_49 : decode cX0_paintFace 49 = .ok (.iload_n 3, 1) := by decide +kernel
theorem dX0_paintFace_50 : decode cX0_paintFace 50 = .ok (.ireturn, 1) := by decide +kernel
theorem dX0_dabCell_0 : decode cX0_dabCell 0 = .ok (.aload_n 0, 1) := by decide +kernel
theorem dX0_dabCell_1 : decode cX0_dabCell 1 = .ok (.iload_n 2, 1) := by decide +kernel
theorem dX0_dabCell_2 : decode cX0_dabCell 2 = .ok (.invokevirtual 91, 3) := by decide +kernel
theorem dX0_dabCell_5 : decode cX0_dabCell 5 = .ok (.astore 6, 2) := by decide +kernel
theorem dX0_dabCell_7 : decode cX0_dabCell 7 = .ok (.aload_n 0, 1) := by decide +kernel
theorem dX0_dabCell_8 : decode cX0_dabCell 8 = .ok (.getfield 22, 3) := by decide +kernel
theorem dX0_dabCell_11 : decode cX0_dabCell 11 = .ok (.iload_n 1, 1) := by decide +kernel
theorem dX0_dabCell_12 : decode cX0_dabCell 12 = .ok (.iaload, 1) := by decide +kernel
theorem dX0_dabCell_13 : decode cX0_dabCell 13 = .ok (.iload_n 3, 1) := by decide +kernel
theorem dX0_dabCell_14 : decode cX0_dabCell 14 = .ok (.iadd, 1) := by decide +kernel
theorem dX0_dabCell_15 : decode cX0_dabCell 15 = .ok (.istore 7, 2) := by decide +kernel
theorem dX0_dabCell_17 : decode cX0_dabCell 17 = .ok (.aload 6, 2) := by decide +kernel
theorem dX0_dabCell_19 : decode cX0_dabCell 19 = .ok (.iload 7, 2) := by decide +kernel
theorem dX0_dabCell_21 : decode cX0_dabCell 21 = .ok (.iaload, 1) := by decide +kernel
theorem dX0_dabCell_22 : decode cX0_dabCell 22 = .ok (.iload 4, 2) := by decide +kernel
theorem dX0_dabCell_24 : decode cX0_dabCell 24 = .ok (.invokestatic 119, 3) := by decide +kernel
theorem dX0_dabCell_27 : decode cX0_dabCell 27 = .ok (.istore 8, 2) := by decide +kernel
theorem dX0_dabCell_29 : decode cX0_dabCell 29 = .ok (.aload 6, 2) := by decide +kernel
theorem dX0_dabCell_31 : decode cX0_dabCell 31 = .ok (.iload 7, 2) := by decide +kernel
theorem dX0_dabCell_33 : decode cX0_dabCell 33 = .ok (.aload 6, 2) := by decide +kernel
theorem dX0_dabCell_35 : decode cX0_dabCell 35 = .ok (.iload 7, 2) := by decide +kernel
theorem dX0_dabCell_37 : decode cX0_dabCell 37 = .ok (.iaload, 1) := by decide +kernel
theorem dX0_dabCell_38 : decode cX0_dabCell 38 = .ok (.iload 4, 2) := by decide +kernel
theorem dX0_dabCell_40 : decode cX0_dabCell 40 = .ok (.iload 5, 2) := by decide +kernel
theorem dX0_dabCell_42 : decode cX0_dabCell 42 = .ok (.invokestatic 122, 3) := by decide +kernel
theorem dX0_dabCell_45 : decode cX0_dabCell 45 = .ok (.iastore, 1) := by decide +kernel
theorem dX0_dabCell_46 : decode cX0_dabCell 46 = .ok (.iload 8, 2) := by decide +kernel
theorem dX0_dabCell_48 : decode cX0_dabCell 48 = .ok (.ireturn, 1) := by decide +kernel
theorem dX0_swapFaces_0 : decode cX0_swapFaces 0 = .ok (.iconst 0, 1) := by decide +kernel
theorem dX0_swapFaces_1 : decode cX0_swapFaces 1 = .ok (.istore_n 2, 1) := by decide +kernel
theorem dX0_swapFaces_2 : decode cX0_swapFaces 2 = .ok (.aload_n 0, 1) := by decide +kernel
theorem dX0_swapFaces_3 : decode cX0_swapFaces 3 = .ok (.getfield 22, 3) := by decide +kernel
theorem dX0_swapFaces_6 : decode cX0_swapFaces 6 = .ok (.iload_n 1, 1) := by decide +kernel
theorem dX0_swapFaces_7 : decode cX0_swapFaces 7 = .ok (.iaload, 1) := by decide +kernel
theorem dX0_swapFaces_8 : decode cX0_swapFaces 8 = .ok (.istore_n 3, 1) := by decide +kernel
theorem dX0_swapFaces_9 : decode cX0_swapFaces 9 = .ok (.iload_n 3, 1) := by decide +kernel
theorem dX0_swapFaces_10 : decode cX0_swapFaces 10 = .ok (.aload_n 0, 1) := by decide +kernel
theorem dX0_swapFaces_11 : decode cX0_swapFaces 11 = .ok (.getfield 22, 3) := by decide +kernel
theorem dX0_swapFaces_14 : decode cX0_swapFaces 14 = .ok (.iload_n 1, 1) := by decide +kernel
theorem dX0_swapFaces_15 : decode cX0_swapFaces 15 = .ok (.iaload, 1) := by decide +kernel
theorem dX0_swapFaces_16 : decode cX0_swapFaces 16 = .ok (.aload_n 0, 1) := by decide +kernel
theorem dX0_swapFaces_17 : decode cX0_swapFaces 17 = .ok (.getfield 18, 3) := by decide +kernel
theorem dX0_swapFaces_20 : decode cX0_swapFaces 20 = .ok (.iload_n 1, 1) := by decide +kernel
theorem dX0_swapFaces_21 : decode cX0_swapFaces 21 = .ok (.iaload, 1) := by decide +kernel
theorem dX0_swapFaces_22 : decode cX0_swapFaces 22 = .ok (.iadd, 1) := by decide +kernel
theorem dX0_swapFaces_23 : decode cX0_swapFaces 23 = .ok (.if_icmp .ge 55, 3) := by decide +kernel
theorem dX0_swapFaces_26 : decode cX0_swapFaces 26 = .ok (.iload_n 2, 1) := by decide +kernel
theorem dX0_swapFaces_27 : decode cX0_swapFaces 27 = .ok (.aload_n 0, 1) := by decide +kernel
theorem dX0_swapFaces_28 : decode cX0_swapFaces 28 = .ok (.getfield 40, 3) := by decide +kernel
theorem dX0_swapFaces_31 : decode cX0_swapFaces 31 = .ok (.iload_n 3, 1) := by decide +kernel
theorem dX0_swapFaces_32 : decode cX0_swapFaces 32 = .ok (.iaload, 1) := by decide +kernel
theorem dX0_swapFaces_33 : decode cX0_swapFaces 33 = .ok (.aload_n 0, 1) := by decide +kernel
theorem dX0_swapFaces_34 : decode cX0_swapFaces 34 = .ok (.getfield 43, 3) := by decide +kernel
theorem dX0_swapFaces_37 : decode cX0_swapFaces 37 = .ok (.iload_n 3, 1) := by decide +kernel
theorem dX0_swapFaces_38 : decode cX0_swapFaces 38 = .ok (.iaload, 1) := by decide +kernel
theorem dX0_swapFaces_39 : decode cX0_swapFaces 39 = .ok (.invokestatic 94, 3) := by decide +kernel
theorem dX0_swapFaces_42 : decode cX0_swapFaces 42 = .ok (.iadd, 1) := by decide +kernel
theorem dX0_swapFaces_43 : decode cX0_swapFaces 43 = .ok (.istore_n 2, 1) := by decide +kernel
theorem dX0_swapFaces_44 : decode cX0_swapFaces 44 = .ok (.aload_n 0, 1) := by decide +kernel
theorem dX0_swapFaces_45 : decode cX0_swapFaces 45 = .ok (.getfield 40, 3) := by decide +kernel
theorem dX0_swapFaces_48 : decode cX0_swapFaces 48 = .ok (.iload_n 3, 1) := by decide +kernel
theorem dX0_swapFaces_49 : decode cX0_swapFaces 49 = .ok (.iaload, 1) := by decide +kernel
theorem dX0_swapFaces_50 : decode cX0_swapFaces 50 = .ok (.istore 4, 2) := by decide +kernel
theorem dX0_swapFaces_52 : decode cX0_swapFaces 52 = .ok (.aload_n 0, 1) := by decide +kernel
theorem dX0_swapFaces_53 : decode cX0_swapFaces 53 = .ok (.getfield 40, 3) := by decide +kernel
theorem dX0_swapFaces_56 : decode cX0_swapFaces 56 = .ok (.iload_n 3, 1) := by decide +kernel
theorem dX0_swapFaces_57 : decode cX0_swapFaces 57 = .ok (.aload_n 0, 1) := by decide +kernel
theorem dX0_swapFaces_58 : decode cX0_swapFaces 58 = .ok (.getfield 43, 3) := by decide +kernel
theorem dX0_swapFaces_61 : decode cX0_swapFaces 61 = .ok (.iload_n 3, 1) := by decide +kernel
theorem dX0_swapFaces_62 : decode cX0_swapFaces 62 = .ok (.iaload, 1) := by decide +kernel
theorem dX0_swapFaces_63 : decode cX0_swapFaces 63 = .ok (.iastore, 1) := by decide +kernel
theorem dX0_swapFaces_64 : decode cX0_swapFaces 64 = .ok (.aload_n 0, 1) := by decide +kernel
theorem dX0_swapFaces_65 : decode cX0_swapFaces 65 = .ok (.getfield 43, 3) := by decide +kernel
theorem dX0_swapFaces_68 : decode cX0_swapFaces 68 = .ok (.iload_n 3, 1) := by decide +kernel
theorem dX0_swapFaces_69 : decode cX0_swapFaces 69 = .ok (.iload 4, 2) := by decide +kernel
theorem dX0_swapFaces_71 : decode cX0_swapFaces 71 = .ok (.iastore, 1) := by decide +kernel
theorem dX0_swapFaces_72 : decode cX0_swapFaces 72 = .ok (.iinc 3 1, 3) := by decide +kernel
theorem dX0_swapFaces_75 : decode cX0_swapFaces 75 = .ok (.goto (-66), 3) := by decide +kernel
theorem dX0_swapFaces_78 : decode cX0_swapFaces 78 = .ok (.aload_n 0, 1) := by decide +kernel
theorem dX0_swapFaces_79 : decode cX0_swapFaces 79 = .ok (.getfield 28, 3) := by decide +kernel
theorem dX0_swapFaces_82 : decode cX0_swapFaces 82 = .ok (.iload_n 1, 1) := by decide +kernel
theorem dX0_swapFaces_83 : decode cX0_swapFaces 83 = .ok (.iaload, 1) := by decide +kernel
theorem dX0_swapFaces_84 : decode cX0_swapFaces 84 = .ok (.istore_n 3, 1) := by decide +kernel
theorem dX0_swapFaces_85 : decode cX0_swapFaces 85 = .ok (.aload_n 0, 1) := by decide +kernel
theorem dX0_swapFaces_86 : decode cX0_swapFaces 86 = .ok (.getfield 28, 3) := by decide +kernel
theorem dX0_swapFaces_89 : decode cX0_swapFaces 89 = .ok (.iload_n 1, 1) := by decide +kernel
theorem dX0_swapFaces_90 : decode cX0_swapFaces 90 = .ok (.aload_n 0, 1) := by decide +kernel
theorem dX0_swapFaces_91 : decode cX0_swapFaces 91 = .ok (.getfield 31, 3) := by decide +kernel
theorem dX0_swapFaces_94 : decode cX0_swapFaces 94 = .ok (.iload_n 1, 1) := by decide +kernel
theorem dX0_swapFaces_95 : decode cX0_swapFaces 95 = .ok (.iaload, 1) := by decide +kernel
theorem dX0_swapFaces_96 : decode cX0_swapFaces 96 = .ok (.iastore, 1) := by decide +kernel
theorem dX0_swapFaces_97 : decode cX0_swapFaces 97 = .ok (.aload_n 0, 1) := by decide +kernel
theorem dX0_swapFaces_98 : decode cX0_swapFaces 98 = .ok (.getfield 31, 3) := by decide +kernel
theorem dX0_swapFaces_101 : decode cX0_swapFaces 101 = .ok (.iload_n 1, 1) := by decide +kernel
theorem dX0_swapFaces_102 : decode cX0_swapFaces 102 = .ok (.iload_n 3, 1) := by decide +kernel
theorem dX0_swapFaces_103 : decode cX0_swapFaces 103 = .ok (.iastore, 1) := by decide +kernel
theorem dX0_swapFaces_104 : decode cX0_swapFaces 104 = .ok (.iload_n 2, 1) := by decide +kernel
theorem dX0_swapFaces_105 : decode cX0_swapFaces 105 = .ok (.ireturn, 1) := by decide +kernel
theorem dX0_addSpot_0 : decode cX0_addSpot 0 = .ok (.aload_n 0, 1) := by decide +kernel
theorem dX0_addSpot_1 : decode cX0_addSpot 1 = .ok (.iload_n 1, 1) := by decide +kernel
theorem dX0_addSpot_2 : decode cX0_addSpot 2 = .ok (.invokevirtual 87, 3) := by decide +kernel
theorem dX0_addSpot_5 : decode cX0_addSpot 5 = .ok (.astore 5, 2) := by decide +kernel
theorem dX0_addSpot_7 : decode cX0_addSpot 7 = .ok (.aload 5, 2) := by decide +kernel
theorem dX0_addSpot_9 : decode cX0_addSpot 9 = .ok (.iload_n 2, 1) := by decide +kernel
theorem dX0_addSpot_10 : decode cX0_addSpot 10 = .ok (.aload 5, 2) := by decide +kernel
theorem dX0_addSpot_12 : decode cX0_addSpot 12 = .ok (.iload_n 2, 1) := by decide +kernel
theorem dX0_addSpot_13 : decode cX0_addSpot 13 = .ok (.iaload, 1) := by decide +kernel
theorem dX0_addSpot_14 : decode cX0_addSpot 14 = .ok (.iload_n 3, 1) := by decide +kernel
theorem dX0_addSpot_15 : decode cX0_addSpot 15 = .ok (.iload 4, 2) := by decide +kernel
theorem dX0_addSpot_17 : decode cX0_addSpot 17 = .ok (.invokestatic 122, 3) := by decide +kernel
theorem dX0_addSpot_20 : decode cX0_addSpot 20 = .ok (.iastore, 1) := by decide +kernel
theorem dX0_addSpot_21 : decode cX0_addSpot 21 = .ok (.aload_n 0, 1) := by decide +kernel
theorem dX0_addSpot_22 : decode cX0_addSpot 22 = .ok (.iload_n 1, 1) := by decide +kernel
theorem dX0_addSpot_23 : decode cX0_addSpot 23 = .ok (.invokevirtual 126, 3) := by decide +kernel
theorem dX0_addSpot_26 : decode cX0_addSpot 26 = .ok (.aload_n 0, 1) := by decide +kernel
theorem dX0_addSpot_27 : decode cX0_addSpot 27 = .ok (.getfield 52, 3) := by decide +kernel
theorem dX0_addSpot_30 : decode cX0_addSpot 30 = .ok (.aload_n 0, 1) := by decide +kernel
theorem dX0_addSpot_31 : decode cX0_addSpot 31 = .ok (.getfield 55, 3) := by decide +kernel
theorem dX0_addSpot_34 : decode cX0_addSpot 34 = .ok (.iadd, 1) := by decide +kernel
theorem dX0_addSpot_35 : decode cX0_addSpot 35 = .ok (.ireturn, 1) := by decide +kernel
theorem dX1_init_0 : decode cX1_init 0 = .ok (.aload_n 0, 1) := by decide +kernel
theorem dX1_init_1 : decode cX1_init 1 = .ok (.invokespecial 1, 3) := by decide +kernel
theorem dX1_init_4 : decode cX1_init 4 = .ok (.aload_n 0, 1) := by decide +kernel
theorem dX1_init_5 : decode cX1_init 5 = .ok (.bipush 6, 2) := by decide +kernel
theorem dX1_init_7 : decode cX1_init 7 = .ok (.anewarray 9, 3) := by decide +kernel
theorem dX1_init_10 : decode cX1_init 10 = .ok (.putfield 11, 3) := by decide +kernel
theorem dX1_init_13 : decode cX1_init 13 = .ok (.iconst 0, 1) := by decide +kernel
theorem dX1_init_14 : decode cX1_init 14 = .ok (.istore_n 1, 1) := by decide +kernel
theorem dX1_init_15 : decode cX1_init 15 = .ok (.iload_n 1, 1) := by decide +kernel
theorem dX1_init_16 : decode cX1_init 16 = .ok (.bipush 6, 2) := by decide +kernel
theorem dX1_init_18 : decode cX1_init 18 = .ok (.if_icmp .ge 22, 3) := by decide +kernel
theorem dX1_init_21 : decode cX1_init 21 = .ok (.aload_n 0, 1) := by decide +kernel
theorem dX1_init_22 : decode cX1_init 22 = .ok (.getfield 11, 3) := by decide +kernel
theorem dX1_init_25 : decode cX1_init 25 = .ok (.iload_n 1, 1) := by decide +kernel
theorem dX1_init_26 : decode cX1_init 26 = .ok (.new 9, 3) := by decide +kernel
theorem dX1_init_29 : decode cX1_init 29 = .ok (.dup, 1) := by decide +kernel
theorem dX1_init_30 : decode cX1_init 30 = .ok (.invokespecial 15, 3) := by decide +kernel
theorem dX1_init_33 : decode cX1_init 33 = .ok (.aastore, 1) := by decide +kernel
theorem dX1_init_34 : decode cX1_init 34 = .ok (.iinc 1 1, 3) := by decide +kernel
theorem dX1_init_37 : decode cX1_init 37 = .ok (.goto (-22), 3) := by decide +kernel
theorem dX1_init_40 : decode cX1_init 40 = .ok (.return_, 1) := by decide +kernel
theorem dX1_keep_0 : decode cX1_keep 0 = .ok (.aload_n 0, 1) := by decide +kernel
theorem dX1_keep_1 : decode cX1_keep 1 = .ok (.getfield 11, 3) := by decide +kernel
theorem dX1_keep_4 : decode cX1_keep 4 = .ok (.aload_n 0, 1) := by decide +kernel
theorem dX1_keep_5 : decode cX1_keep 5 = .ok (.getfield 16, 3) := by decide +kernel
theorem dX1_keep_8 : decode cX1_keep 8 = .ok (.aaload, 1) := by decide +kernel
theorem dX1_keep_9 : decode cX1_keep 9 = .ok (.aload_n 1, 1) := by decide +kernel
theorem dX1_keep_10 : decode cX1_keep 10 = .ok (.invokevirtual 20, 3) := by decide +kernel
theorem dX1_keep_13 : decode cX1_keep 13 = .ok (.aload_n 0, 1) := by decide +kernel
theorem dX1_keep_14 : decode cX1_keep 14 = .ok (.aload_n 0, 1) := by decide +kernel
theorem dX1_keep_15 : decode cX1_keep 15 = .ok (.getfield 16, 3) := by decide +kernel
theorem dX1_keep_18 : decode cX1_keep 18 = .ok (.iconst 1, 1) := by decide +kernel
theorem dX1_keep_19 : decode cX1_keep 19 = .ok (.iadd, 1) := by decide +kernel
theorem dX1_keep_20 : decode cX1_keep 20 = .ok (.bipush 6, 2) := by decide +kernel
theorem dX1_keep_22 : decode cX1_keep 22 = .ok (.irem, 1) := by decide +kernel
theorem dX1_keep_23 : decode cX1_keep 23 = .ok (.putfield 16, 3) := by decide +kernel
theorem dX1_keep_26 : decode cX1_keep 26 = .ok (.aload_n 0, 1) := by decide +kernel
theorem dX1_keep_27 : decode cX1_keep 27 = .ok (.bipush 6, 2) := by decide +kernel
theorem dX1_keep_29 : decode cX1_keep 29 = .ok (.aload_n 0, 1) := by decide +kernel
theorem dX1_keep_30 : decode cX1_keep 30 = .ok (.getfield 24, 3) := by decide +kernel
theorem dX1_keep_33 : decode cX1_keep 33 = .ok (.iconst 1, 1) := by decide +kernel
theorem dX1_keep_34 : decode cX1_keep 34 = .ok (.iadd, 1) := by decide +kernel
theorem dX1_keep_35 : decode cX1_keep 35 = .ok (.invokestatic 27, 3) := by decide +kernel
theorem dX1_keep_38 : decode cX1_keep 38 = .ok (.putfield 24, 3) := by decide +kernel
theorem dX1_keep_41 : decode cX1_keep 41 = .ok (.return_, 1) := by decide +kernel
theorem dX1_takeBack_0 : decode cX1_takeBack 0 = .ok (.aload_n 0, 1) := by decide +kernel
theorem dX1_takeBack_1 : decode cX1_takeBack 1 = .ok (.getfield 24, 3) := by decide +kernel
theorem dX1_takeBack_4 : decode cX1_takeBack 4 = .ok (.ifCond .ne 5, 3) := by decide +kernel
theorem dX1_takeBack_7 : decode cX1_takeBack 7 = .ok (.iconst 0, 1) := by decide +kernel
theorem dX1_takeBack_8 : decode cX1_takeBack 8 = .ok (.ireturn, 1) := by decide +kernel
theorem dX1_takeBack_9 : decode cX1_takeBack 9 = .ok (.aload_n 0, 1) := by decide +kernel
theorem dX1_takeBack_10 : decode cX1_takeBack 10 = .ok (.aload_n 0, 1) := by decide +kernel
theorem dX1_takeBack_11 : decode cX1_takeBack 11 = .ok (.getfield 16, 3) := by decide +kernel
theorem dX1_takeBack_14 : decode cX1_takeBack 14 = .ok (.bipush 6, 2) := by decide +kernel
theorem dX1_takeBack_16 : decode cX1_takeBack 16 = .ok (.iadd, 1) := by decide +kernel
theorem dX1_takeBack_17 : decode cX1_takeBack 17 = .ok (.iconst 1, 1) := by decide +kernel
theorem dX1_takeBack_18 : decode cX1_takeBack 18 = .ok (.isub, 1) := by decide +kernel
theorem dX1_takeBack_19 : decode cX1_takeBack 19 = .ok (.bipush 6, 2) := by decide +kernel
theorem dX1_takeBack_21 : decode cX1_takeBack 21 = .ok (.irem, 1) := by decide +kernel
theorem dX1_takeBack_22 : decode cX1_takeBack 22 = .ok (.putfield 16, 3) := by decide +kernel
theorem dX1_takeBack_25 : decode cX1_takeBack 25 = .ok (.aload_n 0, 1) := by decide +kernel
theorem dX1_takeBack_26 : decode cX1_takeBack 26 = .ok (.dup, 1) := by decide +kernel
theorem dX1_takeBack_27 : decode cX1_takeBack 27 = .ok (.getfield 24, 3) := by decide +kernel
theorem dX1_takeBack_30 : decode cX1_takeBack 30 = .ok (.iconst 1, 1) := by decide +kernel
theorem dX1_takeBack_31 : decode cX1_takeBack 31 = .ok (.isub, 1) := by decide +kernel
theorem dX1_takeBack_32 : decode cX1_takeBack 32 = .ok (.putfield 24, 3) := by decide +kernel
theorem dX1_takeBack_35 : decode cX1_takeBack 35 = .ok (.aload_n 1, 1) := by decide +kernel
theorem dX1_takeBack_36 : decode cX1_takeBack 36 = .ok (.aload_n 0, 1) := by decide +kernel
theorem dX1_takeBack_37 : decode cX1_takeBack 37 = .ok (.getfield 11, 3) := by decide +kernel
theorem dX1_takeBack_40 : decode cX1_takeBack 40 = .ok (.aload_n 0, 1) := by decide +kernel
theorem dX1_takeBack_41 : decode cX1_takeBack 41 = .ok (.getfield 16, 3) := by decide +kernel
theorem dX1_takeBack_44 : decode cX1_takeBack 44 = .ok (.aaload, 1) := by decide +kernel
theorem dX1_takeBack_45 : decode cX1_takeBack 45 = .ok (.invokevirtual 20, 3) := by decide +kernel
theorem dX1_takeBack_48 : decode cX1_takeBack 48 = .ok (.iconst 1, 1) := by decide +kernel
theorem dX1_takeBack_49 : decode cX1_takeBack 49 = .ok (.ireturn, 1) := by decide +kernel
theorem dX1_forget_0 : decode cX1_forget 0 = .ok (.aload_n 0, 1) := by decide +kernel
theorem dX1_forget_1 : decode cX1_forget 1 = .ok (.iconst 0, 1) := by decide +kernel
theorem dX1_forget_2 : decode cX1_forget 2 = .ok (.putfield 24, 3) := by decide +kernel
theorem dX1_forget_5 : decode cX1_forget 5 = .ok (.return_, 1) := by decide +kernel
theorem dX2_init_0 : decode cX2_init 0 = .ok (.aload_n 0, 1) := by decide +kernel
theorem dX2_init_1 : decode cX2_init 1 = .ok (.invokespecial 3, 3) := by decide +kernel
theorem dX2_init_4 : decode cX2_init 4 = .ok (.aload_n 0, 1) := by decide +kernel
theorem dX2_init_5 : decode cX2_init 5 = .ok (.bipush 30, 2) := by decide +kernel
theorem dX2_init_7 : decode cX2_init 7 = .ok (.newarray .int, 2) := by decide +kernel
theorem dX2_init_9 : decode cX2_init 9 = .ok (.putfield 11, 3) := by decide +kernel
theorem dX2_init_12 : decode cX2_init 12 = .ok (.aload_n 0, 1) := by decide +kernel
theorem dX2_init_13 : decode cX2_init 13 = .ok (.bipush 30, 2) := by decide +kernel
theorem dX2_init_15 : decode cX2_init 15 = .ok (.newarray .boolean, 2) := by decide +kernel
theorem dX2_init_17 : decode cX2_init 17 = .ok (.putfield 15, 3) := by decide +kernel
theorem dX2_init_20 : decode cX2_init 20 = .ok (.aload_n 0, 1) := by decide +kernel
theorem dX2_init_21 : decode cX2_init 21 = .ok (.bipush 30, 2) := by decide +kernel
theorem dX2_init_23 : decode cX2_init 23 = .ok (.iconst 4, 1) := by decide +kernel
theorem dX2_init_24 : decode cX2_init 24 = .ok (.multianewarray 19 2, 4) := by decide +kernel
theorem dX2_init_28 : decode cX2_init 28 = .ok (.putfield 21, 3) := by decide +kernel
theorem dX2_init_31 : decode cX2_init 31 = .ok (.aload_n 0, 1) := by decide +kernel
theorem dX2_init_32 : decode cX2_init 32 = .ok (.bipush 30, 2) := by decide +kernel
theorem dX2_init_34 : decode cX2_init 34 = .ok (.newarray .int, 2) := by decide +kernel
theorem dX2_init_36 : decode cX2_init 36 = .ok (.putfield 24, 3) := by decide +kernel
theorem dX2_init_39 : decode cX2_init 39 = .ok (.aload_n 0, 1) := by decide +kernel
theorem dX2_init_40 : decode cX2_init 40 = .ok (.iconst 2, 1) := by decide +kernel
theorem dX2_init_41 : decode cX2_init 41 = .ok (.newarray .int, 2) := by decide +kernel
theorem dX2_init_43 : decode cX2_init 43 = .ok (.putfield 27, 3) := by decide +kernel
theorem dX2_init_46 : decode cX2_init 46 = .ok (.aload_n 0, 1) := by decide +kernel
theorem dX2_init_47 : decode cX2_init 47 = .ok (.aload_n 1, 1) := by decide +kernel
theorem dX2_init_48 : decode cX2_init 48 = .ok (.putfield 30, 3) := by decide +kernel
theorem dX2_init_51 : decode cX2_init 51 = .ok (.return_, 1) := by decide +kernel
theorem dX3_init_0 : decode cX3_init 0 = .ok (.aload_n 0, 1) := by decide +kernel
theorem dX3_init_1 : decode cX3_init 1 = .ok (.invokespecial 3, 3) := by decide +kernel
theorem dX3_init_4 : decode cX3_init 4 = .ok (.aload_n 0, 1) := by decide +kernel
theorem dX3_init_5 : decode cX3_init 5 = .ok (.sipush 600, 3) := by decide +kernel
theorem dX3_init_8 : decode cX3_init 8 = .ok (.newarray .byte, 2) := by decide +kernel
theorem dX3_init_10 : decode cX3_init 10 = .ok (.putfield 9, 3) := by decide +kernel
theorem dX3_init_13 : decode cX3_init 13 = .ok (.aload_n 0, 1) := by decide +kernel
theorem dX3_init_14 : decode cX3_init 14 = .ok (.iconst (-1), 1) := by decide +kernel
theorem dX3_init_15 : decode cX3_init 15 = .ok (.putfield 15, 3) := by decide +kernel
theorem dX3_init_18 : decode cX3_init 18 = .ok (.return_, 1) := by decide +kernel
theorem dX3_append_0 : decode cX3_append 0 = .ok (.bipush 24, 2) := by decide +kernel
theorem dX3_append_2 : decode cX3_append 2 = .ok (.istore_n 2, 1) := by decide +kernel
theorem dX3_append_3 : decode cX3_append 3 = .ok (.iload_n 2, 1) := by decide +kernel
theorem dX3_append_4 : decode cX3_append 4 = .ok (.ifCond .lt 42, 3) := by decide +kernel
theorem dX3_append_7 : decode cX3_append 7 = .ok (.aload_n 0, 1) := by decide +kernel
theorem dX3_append_8 : decode cX3_append 8 = .ok (.getfield 19, 3) := by decide +kernel
theorem dX3_append_11 : decode cX3_append 11 = .ok (.sipush 600, 3) := by decide +kernel
theorem dX3_append_14 : decode cX3_append 14 = .ok (.if_icmp .ge 32, 3) := by decide +kernel
theorem dX3_append_17 : decode cX3_append 17 = .ok (.aload_n 0, 1) := by decide +kernel
theorem dX3_append_18 : decode cX3_append 18 = .ok (.getfield 9, 3) := by decide +kernel
theorem dX3_append_21 : decode cX3_append 21 = .ok (.aload_n 0, 1) := by decide +kernel
theorem dX3_append_22 : decode cX3_append 22 = .ok (.getfield 19, 3) := by decide +kernel
theorem dX3_append_25 : decode cX3_append 25 = .ok (.iload_n 1, 1) := by decide +kernel
theorem dX3_append_26 : decode cX3_append 26 = .ok (.iload_n 2, 1) := by decide +kernel
theorem dX3_append_27 : decode cX3_append 27 = .ok (.iushr, 1) := by decide +kernel
theorem dX3_append_28 : decode cX3_append 28 = .ok (.i2b, 1) := by decide +kernel
theorem dX3_append_29 : decode cX3_append 29 = .ok (.bastore, 1) := by decide +kernel
theorem dX3_append_30 : decode cX3_append 30 = .ok (.aload_n 0, 1) := by decide +kernel
theorem dX3_append_31 : decode cX3_append 31 = .ok (.dup, 1) := by decide +kernel
theorem dX3_append_32 : decode cX3_append 32 = .ok (.getfield 19, 3) := by decide +kernel
theorem dX3_append_35 : decode cX3_append 35 = .ok (.iconst 1, 1) := by decide +kernel
theorem dX3_append_36 : decode cX3_append 36 = .ok (.iadd, 1) := by decide +kernel
theorem dX3_append_37 : decode cX3_append 37 = .ok (.putfield 19, 3) := by decide +kernel
theorem dX3_append_40 : decode cX3_append 40 = .ok (.iinc 2 (-8), 3) := by decide +kernel
theorem dX3_append_43 : decode cX3_append 43 = .ok (.goto (-40), 3) := by decide +kernel
theorem dX3_append_46 : decode cX3_append 46 = .ok (.return_, 1) := by decide +kernel
theorem dX3_begin_0 : decode cX3_begin 0 = .ok (.aload_n 0, 1) := by decide +kernel
theorem dX3_begin_1 : decode cX3_begin 1 = .ok (.iconst 0, 1) := by decide +kernel
theorem dX3_begin_2 : decode cX3_begin 2 = .ok (.putfield 22, 3) := by decide +kernel
theorem dX3_begin_5 : decode cX3_begin 5 = .ok (.aload_n 0, 1) := by decide +kernel
theorem dX3_begin_6 : decode cX3_begin 6 = .ok (.iconst (-1), 1) := by decide +kernel
theorem dX3_begin_7 : decode cX3_begin 7 = .ok (.putfield 15, 3) := by decide +kernel
theorem dX3_begin_10 : decode cX3_begin 10 = .ok (.aload_n 0, 1) := by decide +kernel
theorem dX3_begin_11 : decode cX3_begin 11 = .ok (.iconst 0, 1) := by decide +kernel
theorem dX3_begin_12 : decode cX3_begin 12 = .ok (.putfield 25, 3) := by decide +kernel
theorem dX3_begin_15 : decode cX3_begin 15 = .ok (.aload_n 0, 1) := by decide +kernel
theorem dX3_begin_16 : decode cX3_begin 16 = .ok (.invokevirtual 28, 3) := by decide +kernel
theorem dX3_begin_19 : decode cX3_begin 19 = .ok (.return_, 1) := by decide +kernel
theorem dX3_advance_0 : decode cX3_advance 0 = .ok (.aload_n 0, 1) := by decide +kernel
theorem dX3_advance_1 : decode cX3_advance 1 = .ok (.aload_n 0, 1) := by decide +kernel
theorem dX3_advance_2 : decode cX3_advance 2 = .ok (.getfield 25, 3) := by decide +kernel
theorem dX3_advance_5 : decode cX3_advance 5 = .ok (.putfield 31, 3) := by decide +kernel
theorem dX3_advance_8 : decode cX3_advance 8 = .ok (.aload_n 0, 1) := by decide +kernel
theorem dX3_advance_9 : decode cX3_advance 9 = .ok (.getfield 31, 3) := by decide +kernel
theorem dX3_advance_12 : decode cX3_advance 12 = .ok (.aload_n 0, 1) := by decide +kernel
theorem dX3_advance_13 : decode cX3_advance 13 = .ok (.getfield 19, 3) := by decide +kernel
theorem dX3_advance_16 : decode cX3_advance 16 = .ok (.if_icmp .ge 44, 3) := by decide +kernel
theorem dX3_advance_19 : decode cX3_advance 19 = .ok (.aload_n 0, 1) := by decide +kernel
theorem dX3_advance_20 : decode cX3_advance 20 = .ok (.getfield 9, 3) := by decide +kernel
theorem dX3_advance_23 : decode cX3_advance 23 = .ok (.aload_n 0, 1) := by decide +kernel
theorem dX3_advance_24 : decode cX3_advance 24 = .ok (.getfield 31, 3) := by decide +kernel
theorem dX3_advance_27 : decode cX3_advance 27 = .ok (.baload, 1) := by decide +kernel
theorem dX3_advance_28 : decode cX3_advance 28 = .ok (.bipush 32, 2) := by decide +kernel
theorem dX3_advance_30 : decode cX3_advance 30 = .ok (.if_icmp .eq 17, 3) := by decide +kernel
theorem dX3_advance_33 : decode cX3_advance 33 = .ok (.aload_n 0, 1) := by decide +kernel
theorem dX3_advance_34 : decode cX3_advance 34 = .ok (.getfield 9, 3) := by decide +kernel
theorem dX3_advance_37 : decode cX3_advance 37 = .ok (.aload_n 0, 1) := by decide +kernel
theorem dX3_advance_38 : decode cX3_advance 38 = .ok (.getfield 31, 3) := by decide +kernel
theorem dX3_advance_41 : decode cX3_advance 41 = .ok (.baload, 1) := by decide +kernel
theorem dX3_advance_42 : decode cX3_advance 42 = .ok (.bipush 10, 2) := by decide +kernel
theorem dX3_advance_44 : decode cX3_advance 44 = .ok (.if_icmp .ne 16, 3) := by decide +kernel
theorem dX3_advance_47 : decode cX3_advance 47 = .ok (.aload_n 0, 1) := by decide +kernel
theorem dX3_advance_48 : decode cX3_advance 48 = .ok (.dup, 1) := by decide +kernel
theorem dX3_advance_49 : decode cX3_advance 49 = .ok (.getfield 31, 3) := by decide +kernel
theorem dX3_advance_52 : decode cX3_advance 52 = .ok (.iconst 1, 1) := by decide +kernel
theorem dX3_advance_53 : decode cX3_advance 53 = .ok (.iadd, 1) := by decide +kernel
theorem dX3_advance_54 : decode cX3_advance 54 = .ok (.putfield 31, 3) := by decide +kernel
theorem dX3_advance_57 : decode cX3_advance 57 = .ok (.goto (-49), 3) := by decide +kernel
theorem dX3_advance_60 : decode cX3_advance 60 = .ok (.aload_n 0, 1) := by decide +kernel
theorem dX3_advance_61 : decode cX3_advance 61 = .ok (.bipush 97, 2) := by decide +kernel
theorem dX3_advance_63 : decode cX3_advance 63 = .ok (.bipush 122, 2) := by decide +kernel
theorem dX3_advance_65 : decode cX3_advance 65 = .ok (.invokevirtual 34, 3) := by decide +kernel
theorem dX3_advance_68 : decode cX3_advance 68 = .ok (.istore_n 1, 1) := by decide +kernel
theorem dX3_advance_69 : decode cX3_advance 69 = .ok (.aload_n 0, 1) := by decide +kernel
theorem dX3_advance_70 : decode cX3_advance 70 = .ok (.bipush 48, 2) := by decide +kernel
theorem dX3_advance_72 : decode cX3_advance 72 = .ok (.bipush 57, 2) := by decide +kernel
theorem dX3_advance_74 : decode cX3_advance 74 = .ok (.invokevirtual 34, 3) := by decide +kernel
theorem dX3_advance_77 : decode cX3_advance 77 = .ok (.istore_n 2, 1) := by decide +kernel
theorem dX3_advance_78 : decode cX3_advance 78 = .ok (.aload_n 0, 1) := by decide +kernel
theorem dX3_advance_79 : decode cX3_advance 79 = .ok (.getfield 31, 3) := by decide +kernel
theorem dX3_advance_82 : decode cX3_advance 82 = .ok (.aload_n 0, 1) := by decide +kernel
theorem dX3_advance_83 : decode cX3_advance 83 = .ok (.getfield 19, 3) := by decide +kernel
theorem dX3_advance_86 : decode cX3_advance 86 = .ok (.if_icmp .lt 19, 3) := by decide +kernel
theorem dX3_advance_89 : decode cX3_advance 89 = .ok (.aload_n 0, 1) := by decide +kernel
theorem dX3_advance_90 : decode cX3_advance 90 = .ok (.aload_n 0, 1) := by decide +kernel
theorem dX3_advance_91 : decode cX3_advance 91 = .ok (.getfield 31, 3) := by decide +kernel
theorem dX3_advance_94 : decode cX3_advance 94 = .ok (.putfield 25, 3) := by decide +kernel
theorem dX3_advance_97 : decode cX3_advance 97 = .ok (.aload_n 0, 1) := by decide +kernel
theorem dX3_advance_98 : decode cX3_advance 98 = .ok (.iconst 0, 1) := by decide +kernel
theorem dX3_advance_99 : decode cX3_advance 99 = .ok (.putfield 38, 3) := by decide +kernel
theorem dX3_advance_102 : decode cX3_advance 102 = .ok (.goto 142, 3) := by decide +kernel
theorem dX3_advance_105 : decode cX3_advance 105 = .ok (.iload_n 1, 1) := by decide +kernel
theorem dX3_advance_106 : decode cX3_advance 106 = .ok (.aload_n 0, 1) := by decide +kernel
theorem dX3_advance_107 : decode cX3_advance 107 = .ok (.getfield 31, 3) := by decide +kernel
theorem dX3_advance_110 : decode cX3_advance 110 = .ok (.if_icmp .le 34, 3) := by decide +kernel
theorem dX3_advance_113 : decode cX3_advance 113 = .ok (.aload_n 0, 1) := by decide +kernel
theorem dX3_advance_114 : decode cX3_advance 114 = .ok (.iload_n 1, 1) := by decide +kernel
theorem dX3_advance_115 : decode cX3_advance 115 = .ok (.putfield 25, 3) := by decide +kernel
theorem dX3_advance_118 : decode cX3_advance 118 = .ok (.aload_n 0, 1) := by decide +kernel
theorem dX3_advance_119 : decode cX3_advance 119 = .ok (.aload_n 0, 1) := by decide +kernel
theorem dX3_advance_120 : decode cX3_advance 120 = .ok (.getfield 25, 3) := by decide +kernel
theorem dX3_advance_123 : decode cX3_advance 123 = .ok (.aload_n 0, 1) := by decide +kernel
theorem dX3_advance_124 : decode cX3_advance 124 = .ok (.getfield 31, 3) := by decide +kernel
theorem dX3_advance_127 : decode cX3_advance 127 = .ok (.isub, 1) := by decide +kernel
theorem dX3_advance_128 : decode cX3_advance 128 = .ok (.bipush 8, 2) := by decide +kernel
theorem dX3_advance_130 : decode cX3_advance 130 = .ok (.if_icmp .gt 7, 3) := by decide +kernel
theorem dX3_advance_133 : decode cX3_advance 133 = .ok (.iconst 2, 1) := by decide +kernel
theorem dX3_advance_134 : decode cX3_advance 134 = .ok (.goto 4, 3) := by decide +kernel
theorem dX3_advance_137 : decode cX3_advance 137 = .ok (.iconst 1, 1) := by decide +kernel
theorem dX3_advance_138 : decode cX3_advance 138 = .ok (.putfield 38, 3) := by decide +kernel
theorem dX3_advance_141 : decode cX3_advance 141 = .ok (.goto 103, 3) := by decide +kernel
theorem dX3_advance_144 : decode cX3_advance 144 = .ok (.iload_n 2, 1) := by decide +kernel
theorem dX3_advance_145 : decode cX3_advance 145 = .ok (.aload_n 0, 1) := by decide +kernel
theorem dX3_advance_146 : decode cX3_advance 146 = .ok (.getfield 31, 3) := by decide +kernel
theorem dX3_advance_149 : decode cX3_advance 149 = .ok (.if_icmp .le 53, 3) := by decide +kernel
theorem dX3_advance_152 : decode cX3_advance 152 = .ok (.aload_n 0, 1) := by decide +kernel
theorem dX3_advance_153 : decode cX3_advance 153 = .ok (.iload_n 2, 1) := by decide +kernel
theorem dX3_advance_154 : decode cX3_advance 154 = .ok (.putfield 25, 3) := by decide +kernel
theorem dX3_advance_157 : decode cX3_advance 157 = .ok (.aload_n 0, 1) := by decide +kernel
theorem dX3_advance_158 : decode cX3_advance 158 = .ok (.aload_n 0, 1) := by decide +kernel
theorem dX3_advance_159 : decode cX3_advance 159 = .ok (.getfield 25, 3) := by decide +kernel
theorem dX3_advance_162 : decode cX3_advance 162 = .ok (.aload_n 0, 1) := by decide +kernel
theorem dX3_advance_163 : decode cX3_advance 163 = .ok (.getfield 31, 3) := by decide +kernel
theorem dX3_advance_166 : decode cX3_advance 166 = .ok (.isub, 1) := by decide +kernel
theorem dX3_advance_167 : decode cX3_advance 167 = .ok (.iconst 3, 1) := by decide +kernel
theorem dX3_advance_168 : decode cX3_advance 168 = .ok (.if_icmp .gt 7, 3) := by decide +kernel
theorem dX3_advance_171 : decode cX3_advance 171 = .ok (.iconst 3, 1) := by decide +kernel
theorem dX3_advance_172 : decode cX3_advance 172 = .ok (.goto 4, 3) := by decide +kernel
theorem dX3_advance_175 : decode cX3_advance 175 = .ok (.iconst 1, 1) := by decide +kernel
theorem dX3_advance_176 : decode cX3_advance 176 = .ok (.putfield 38, 3) := by decide +kernel
theorem dX3_advance_179 : decode cX3_advance 179 = .ok (.aload_n 0, 1) := by decide +kernel
theorem dX3_advance_180 : decode cX3_advance 180 = .ok (.aload_n 0, 1) := by decide +kernel
theorem dX3_advance_181 : decode cX3_advance 181 = .ok (.getfield 38, 3) := by decide +kernel
theorem dX3_advance_184 : decode cX3_advance 184 = .ok (.iconst 3, 1) := by decide +kernel
theorem dX3_advance_185 : decode cX3_advance 185 = .ok (.if_icmp .ne 10, 3) := by decide +kernel
theorem dX3_advance_188 : decode cX3_advance 188 = .ok (.aload_n 0, 1) := by decide +kernel
theorem dX3_advance_189 : decode cX3_advance 189 = .ok (.invokevirtual 41, 3) := by decide +kernel
theorem dX3_advance_192 : decode cX3_advance 192 = .ok (.goto 4, 3) := by decide +kernel
theorem dX3_advance_195 : decode cX3_advance 195 = .ok (.iconst 0, 1) := by decide +kernel
theorem dX3_advance_196 : decode cX3_advance 196 = .ok (.putfield 45, 3) := by decide +kernel
theorem dX3_advance_199 : decode cX3_advance 199 = .ok (.goto 45, 3) := by decide +kernel
theorem dX3_advance_202 : decode cX3_advance 202 = .ok (.aload_n 0, 1) := by decide +kernel
theorem dX3_advance_203 : decode cX3_advance 203 = .ok (.aload_n 0, 1) := by decide +kernel
theorem dX3_advance_204 : decode cX3_advance 204 = .ok (.getfield 31, 3) := by decide +kernel
theorem dX3_advance_207 : decode cX3_advance 207 = .ok (.iconst 1, 1) := by decide +kernel
theorem dX3_advance_208 : decode cX3_advance 208 = .ok (.iadd, 1) := by decide +kernel
theorem dX3_advance_209 : decode cX3_advance 209 = .ok (.putfield 25, 3) := by decide +kernel
theorem dX3_advance_212 : decode cX3_advance 212 = .ok (.aload_n 0, 1) := by decide +kernel
theorem dX3_advance_213 : decode cX3_advance 213 = .ok (.aload_n 0, 1) := by decide +kernel
theorem dX3_advance_214 : decode cX3_advance 214 = .ok (.getfield 9, 3) := by decide +kernel
theorem dX3_advance_217 : decode cX3_advance 217 = .ok (.aload_n 0, 1) := by decide +kernel
theorem dX3_advance_218 : decode cX3_advance 218 = .ok (.getfield 31, 3) := by decide +kernel
theorem dX3_advance_221 : decode cX3_advance 221 = .ok (.baload, 1) := by decide +kernel
theorem dX3_advance_222 : decode cX3_advance 222 = .ok (.invokestatic 48, 3) := by decide +kernel
theorem dX3_advance_225 : decode cX3_advance 225 = .ok (.ifCond .eq 15, 3) := by decide +kernel
theorem dX3_advance_228 : decode cX3_advance 228 = .ok (.aload_n 0, 1) := by decide +kernel
theorem dX3_advance_229 : decode cX3_advance 229 = .ok (.getfield 9, 3) := by decide +kernel
theorem dX3_advance_232 : decode cX3_advance 232 = .ok (.aload_n 0, 1) := by decide +kernel
theorem dX3_advance_233 : decode cX3_advance 233 = .ok (.getfield 31, 3) := by decide +kernel
theorem dX3_advance_236 : decode cX3_advance 236 = .ok (.baload, 1) := by decide +kernel
theorem dX3_advance_237 : decode cX3_advance 237 = .ok (.goto 4, 3) := by decide +kernel
theorem dX3_advance_240 : decode cX3_advance 240 = .ok (.iconst 1, 1) := by decide +kernel
theorem dX3_advance_241 : decode cX3_advance 241 = .ok (.putfield 38, 3) := by decide +kernel
theorem dX3_advance_244 : decode cX3_advance 244 = .ok (.return_, 1) := by decide +kernel
theorem dX3_isSign_0 : decode cX3_isSign 0 = .ok (.iload_n 0, 1) := by decide +kernel
theorem dX3_isSign_1 : decode cX3_isSign 1 = .ok (.bipush 59, 2) := by decide +kernel
theorem dX3_isSign_3 : decode cX3_isSign 3 = .ok (.if_icmp .eq 15, 3) := by decide +kernel
theorem dX3_isSign_6 : decode cX3_isSign 6 = .ok (.iload_n 0, 1) := by decide +kernel
theorem dX3_isSign_7 : decode cX3_isSign 7 = .ok (.bipush 40, 2) := by decide +kernel
theorem dX3_isSign_9 : decode cX3_isSign 9 = .ok (.if_icmp .eq 9, 3) := by decide +kernel
theorem dX3_isSign_12 : decode cX3_isSign 12 = .ok (.iload_n 0, 1) := by decide +kernel
theorem dX3_isSign_13 : decode cX3_isSign 13 = .ok (.bipush 41, 2) := by decide +kernel
theorem dX3_isSign_15 : decode cX3_isSign 15 = .ok (.if_icmp .ne 7, 3) := by decide +kernel
theorem dX3_isSign_18 : decode cX3_isSign 18 = .ok (.iconst 1, 1) := by decide +kernel
theorem dX3_isSign_19 : decode cX3_isSign 19 = .ok (.goto 4, 3) := by decide +kernel
theorem dX3_isSign_22 : decode cX3_isSign 22 = .ok (.iconst 0, 1) := by decide +kernel
theorem dX3_isSign_23 : decode cX3_isSign 23 = .ok (.ireturn, 1) := by decide +kernel
theorem dX3_endOfRun_0 : decode cX3_endOfRun 0 = .ok (.aload_n 0, 1) := by decide +kernel
theorem dX3_endOfRun_1 : decode cX3_endOfRun 1 = .ok (.getfield 31, 3) := by decide +kernel
theorem dX3_endOfRun_4 : decode cX3_endOfRun 4 = .ok (.istore_n 3, 1) := by decide +kernel
theorem dX3_endOfRun_5 : decode cX3_endOfRun 5 = .ok (.iload_n 3, 1) := by decide +kernel
theorem dX3_endOfRun_6 : decode cX3_endOfRun 6 = .ok (.aload_n 0, 1) := by decide +kernel
theorem dX3_endOfRun_7 : decode cX3_endOfRun 7 = .ok (.getfield 19, 3) := by decide +kernel
theorem dX3_endOfRun_10 : decode cX3_endOfRun 10 = .ok (.if_icmp .ge 29, 3) := by decide +kernel
theorem dX3_endOfRun_13 : decode cX3_endOfRun 13 = .ok (.aload_n 0, 1) := by decide +kernel
theorem dX3_endOfRun_14 : decode cX3_endOfRun 14 = .ok (.getfield 9, 3) := by decide +kernel
theorem dX3_endOfRun_17 : decode cX3_endOfRun 17 = .ok (.iload_n 3, 1) := by decide +kernel
theorem dX3_endOfRun_18 : decode cX3_endOfRun 18 = .ok (.baload, 1) := by decide +kernel
theorem dX3_endOfRun_19 : decode cX3_endOfRun 19 = .ok (.iload_n 1, 1) := by decide +kernel
theorem dX3_endOfRun_20 : decode cX3_endOfRun 20 = .ok (.if_icmp .lt 19, 3) := by decide +kernel
theorem dX3_endOfRun_23 : decode cX3_endOfRun 23 = .ok (.aload_n 0, 1) := by decide +kernel
theorem dX3_endOfRun_24 : decode cX3_endOfRun 24 = .ok (.getfield 9, 3) := by decide +kernel
theorem dX3_endOfRun_27 : decode cX3_endOfRun 27 = .ok (.iload_n 3, 1) := by decide +kernel
theorem dX3_endOfRun_28 : decode cX3_endOfRun 28 = .ok (.baload, 1) := by decide +kernel
theorem dX3_endOfRun_29 : decode cX3_endOfRun 29 = .ok (.iload_n 2, 1) := by decide +kernel
theorem dX3_endOfRun_30 : decode cX3_endOfRun 30 = .ok (.if_icmp .gt 9, 3) := by decide +kernel
theorem dX3_endOfRun_33 : decode cX3_endOfRun 33 = .ok (.iinc 3 1, 3) := by decide +kernel
theorem dX3_endOfRun_36 : decode cX3_endOfRun 36 = .ok (.goto (-31), 3) := by decide +kernel
theorem dX3_endOfRun_39 : decode cX3_endOfRun 39 = .ok (.iload_n 3, 1) := by decide +kernel
theorem dX3_endOfRun_40 : decode cX3_endOfRun 40 = .ok (.ireturn, 1) := by decide +kernel
theorem dX3_numberHere_0 : decode cX3_numberHere 0 = .ok (.iconst 0, 1) := by decide +kernel
theorem dX3_numberHere_1 : decode cX3_numberHere 1 = .ok (.istore_n 1, 1) := by decide +kernel
theorem dX3_numberHere_2 : decode cX3_numberHere 2 = .ok (.aload_n 0, 1) := by decide +kernel
theorem dX3_numberHere_3 : decode cX3_numberHere 3 = .ok (.getfield 31, 3) := by decide +kernel
theorem dX3_numberHere_6 : decode cX3_numberHere 6 = .ok (.istore_n 2, 1) := by decide +kernel
theorem dX3_numberHere_7 : decode cX3_numberHere 7 = .ok (.iload_n 2, 1) := by decide +kernel
theorem dX3_numberHere_8 : decode cX3_numberHere 8 = .ok (.aload_n 0, 1) := by decide +kernel
theorem dX3_numberHere_9 : decode cX3_numberHere 9 = .ok (.getfield 25, 3) := by decide +kernel
theorem dX3_numberHere_12 : decode cX3_numberHere 12 = .ok (.if_icmp .ge 24, 3) := by decide +kernel
theorem dX3_numberHere_15 : decode cX3_numberHere 15 = .ok (.bipush 10, 2) := by decide +kernel
theorem dX3_numberHere_17 : decode cX3_numberHere 17 = .ok (.iload_n 1, 1) := by decide +kernel
theorem dX3_numberHere_18 : decode cX3_numberHere 18 = .ok (.imul, 1) := by decide +kernel
theorem dX3_numberHere_19 : decode cX3_numberHere 19 = .ok (.aload_n 0, 1) := by decide +kernel
theorem dX3_numberHere_20 : decode cX3_numberHere 20 = .ok (.getfield 9, 3) := by decide +kernel
theorem dX3_numberHere_23 : decode cX3_numberHere 23 = .ok (.iload_n 2, 1) := by decide +kernel
theorem dX3_numberHere_24 : decode cX3_numberHere 24 = .ok (.baload, 1) := by decide +kernel
theorem dX3_numberHere_25 : decode cX3_numberHere 25 = .ok (.iadd, 1) := by decide +kernel
theorem dX3_numberHere_26 : decode cX3_numberHere 26 = .ok (.bipush 48, 2) := by decide +kernel
theorem dX3_numberHere_28 : decode cX3_numberHere 28 = .ok (.isub, 1) := by decide +kernel
theorem dX3_numberHere_29 : decode cX3_numberHere 29 = .ok (.istore_n 1, 1) := by decide +kernel
theorem dX3_numberHere_30 : decode cX3_numberHere 30 = .ok (.iinc 2 1, 3) := by decide +kernel
theorem dX3_numberHere_33 : decode cX3_numberHere 33 = .ok (.goto (-26), 3) := by decide +kernel
theorem dX3_numberHere_36 : decode cX3_numberHere 36 = .ok (.iload_n 1, 1) := by decide +kernel
theorem dX3_numberHere_37 : decode cX3_numberHere 37 = .ok (.ireturn, 1) := by decide +kernel
theorem dX3_isAtEnd_0 : decode cX3_isAtEnd 0 = .ok (.aload_n 0, 1) := by decide +kernel
theorem dX3_isAtEnd_1 : decode cX3_isAtEnd 1 = .ok (.getfield 38, 3) := by decide +kernel
theorem dX3_isAtEnd_4 : decode cX3_isAtEnd 4 = .ok (.ifCond .ne 7, 3) := by decide +kernel
theorem dX3_isAtEnd_7 : decode cX3_isAtEnd 7 = .ok (.iconst 1, 1) := by decide +kernel
theorem dX3_isAtEnd_8 : decode cX3_isAtEnd 8 = .ok (.goto 4, 3) := by decide +kernel
theorem dX3_isAtEnd_11 : decode cX3_isAtEnd 11 = .ok (.iconst 0, 1) := by decide +kernel
theorem dX3_isAtEnd_12 : decode cX3_isAtEnd 12 = .ok (.ireturn, 1) := by decide +kernel
theorem dX3_isAtSign_0 : decode cX3_isAtSign 0 = .ok (.aload_n 0, 1) := by decide +kernel
theorem dX3_isAtSign_1 : decode cX3_isAtSign 1 = .ok (.getfield 38, 3) := by decide +kernel
theorem dX3_isAtSign_4 : decode cX3_isAtSign 4 = .ok (.iload_n 1, 1) := by decide +kernel
theorem dX3_isAtSign_5 : decode cX3_isAtSign 5 = .ok (.if_icmp .ne 7, 3) := by decide +kernel
theorem dX3_isAtSign_8 : decode cX3_isAtSign 8 = .ok (.iconst 1, 1) := by decide +kernel
theorem dX3_isAtSign_9 : decode cX3_isAtSign 9 = .ok (.goto 4, 3) := by decide +kernel
theorem dX3_isAtSign_12 : decode cX3_isAtSign 12 = .ok (.iconst 0, 1) := by decide +kernel
theorem dX3_isAtSign_13 : decode cX3_isAtSign 13 = .ok (.ireturn, 1) := by decide +kernel
theorem dX3_isAtWord_0 : decode cX3_isAtWord 0 = .ok (.aload_n 0, 1) := by decide +kernel
theorem dX3_isAtWord_1 : decode cX3_isAtWord 1 = .ok (.getfield 38, 3) := by decide +kernel
theorem dX3_isAtWord_4 : decode cX3_isAtWord 4 = .ok (.iconst 2, 1) := by decide +kernel
theorem dX3_isAtWord_5 : decode cX3_isAtWord 5 = .ok (.if_icmp .ne 19, 3) := by decide +kernel
theorem dX3_isAtWord_8 : decode cX3_isAtWord 8 = .ok (.aload_n 0, 1) := by decide +kernel
theorem dX3_isAtWord_9 : decode cX3_isAtWord 9 = .ok (.getfield 25, 3) := by decide +kernel
theorem dX3_isAtWord_12 : decode cX3_isAtWord 12 = .ok (.aload_n 0, 1) := by decide +kernel
theorem dX3_isAtWord_13 : decode cX3_isAtWord 13 = .ok (.getfield 31, 3) := by decide +kernel
theorem dX3_isAtWord_16 : decode cX3_isAtWord 16 = .ok (.isub, 1) := by decide +kernel
theorem dX3_isAtWord_17 : decode cX3_isAtWord 17 = .ok (.aload_n 1, 1) := by decide +kernel
theorem dX3_isAtWord_18 : decode cX3_isAtWord 18 = .ok (.invokevirtual 52, 3) := by decide +kernel
theorem dX3_isAtWord_21 : decode cX3_isAtWord 21 = .ok (.if_icmp .eq 5, 3) := by decide +kernel
theorem dX3_isAtWord_24 : decode cX3_isAtWord 24 = .ok (.iconst 0, 1) := by decide +kernel
theorem dX3_isAtWord_25 : decode cX3_isAtWord 25 = .ok (.ireturn, 1) := by decide +kernel
theorem dX3_isAtWord_26 : decode cX3_isAtWord 26 = .ok (.iconst 0, 1) := by decide +kernel
theorem dX3_isAtWord_27 : decode cX3_isAtWord 27 = .ok (.istore_n 2, 1) := by decide +kernel
theorem dX3_isAtWord_28 : decode cX3_isAtWord 28 = .ok (.iload_n 2, 1) := by decide +kernel
theorem dX3_isAtWord_29 : decode cX3_isAtWord 29 = .ok (.aload_n 1, 1) := by decide +kernel
theorem dX3_isAtWord_30 : decode cX3_isAtWord 30 = .ok (.invokevirtual 52, 3) := by decide +kernel
theorem dX3_isAtWord_33 : decode cX3_isAtWord 33 = .ok (.if_icmp .ge 30, 3) := by decide +kernel
theorem dX3_isAtWord_36 : decode cX3_isAtWord 36 = .ok (.aload_n 0, 1) := by decide +kernel
theorem dX3_isAtWord_37 : decode cX3_isAtWord 37 = .ok (.getfield 9, 3) := by decide +kernel
theorem dX3_isAtWord_40 : decode cX3_isAtWord 40 = .ok (.aload_n 0, 1) := by decide +kernel
theorem dX3_isAtWord_41 : decode cX3_isAtWord 41 = .ok (.getfield 31, 3) := by decide +kernel
theorem dX3_isAtWord_44 : decode cX3_isAtWord 44 = .ok (.iload_n 2, 1) := by decide +kernel
theorem dX3_isAtWord_45 : decode cX3_isAtWord 45 = .ok (.iadd, 1) := by decide +kernel
theorem dX3_isAtWord_46 : decode cX3_isAtWord 46 = .ok (.baload, 1) := by decide +kernel
theorem dX3_isAtWord_47 : decode cX3_isAtWord 47 = .ok (.aload_n 1, 1) := by decide +kernel
theorem dX3_isAtWord_48 : decode cX3_isAtWord 48 = .ok (.iload_n 2, 1) := by decide +kernel
theorem dX3_isAtWord_49 : decode cX3_isAtWord 49 = .ok (.invokevirtual 56, 3) := by decide +kernel
theorem dX3_isAtWord_52 : decode cX3_isAtWord 52 = .ok (.if_icmp .eq 5, 3) := by decide +kernel
theorem dX3_isAtWord_55 : decode cX3_isAtWord 55 = .ok (.iconst 0, 1) := by decide +kernel
theorem dX3_isAtWord_56 : decode cX3_isAtWord 56 = .ok (.ireturn, 1) := by decide +kernel
theorem dX3_isAtWord_57 : decode cX3_isAtWord 57 = .ok (.iinc 2 1, 3) := by decide +kernel
theorem dX3_isAtWord_60 : decode cX3_isAtWord 60 = .ok (.goto (-32), 3) := by decide +kernel
theorem dX3_isAtWord_63 : decode cX3_isAtWord 63 = .ok (.iconst 1, 1) := by decide +kernel
theorem dX3_isAtWord_64 : decode cX3_isAtWord 64 = .ok (.ireturn, 1) := by decide +kernel
theorem dX3_fail_0 : decode cX3_fail 0 = .ok (.aload_n 0, 1) := by decide +kernel
theorem dX3_fail_1 : decode cX3_fail 1 = .ok (.iload_n 1, 1) := by decide +kernel
theorem dX3_fail_2 : decode cX3_fail 2 = .ok (.putfield 22, 3) := by decide +kernel
theorem dX3_fail_5 : decode cX3_fail 5 = .ok (.aload_n 0, 1) := by decide +kernel
theorem dX3_fail_6 : decode cX3_fail 6 = .ok (.aload_n 0, 1) := by decide +kernel
theorem dX3_fail_7 : decode cX3_fail 7 = .ok (.getfield 31, 3) := by decide +kernel
theorem dX3_fail_10 : decode cX3_fail 10 = .ok (.putfield 15, 3) := by decide +kernel
theorem dX3_fail_13 : decode cX3_fail 13 = .ok (.iconst 0, 1) := by decide +kernel
theorem dX3_fail_14 : decode cX3_fail 14 = .ok (.ireturn, 1) := by decide +kernel
theorem dX3_takeSign_0 : decode cX3_takeSign 0 = .ok (.aload_n 0, 1) := by decide +kernel
theorem dX3_takeSign_1 : decode cX3_takeSign 1 = .ok (.iload_n 1, 1) := by decide +kernel
theorem dX3_takeSign_2 : decode cX3_takeSign 2 = .ok (.invokevirtual 60, 3) := by decide +kernel
theorem dX3_takeSign_5 : decode cX3_takeSign 5 = .ok (.ifCond .ne 9, 3) := by decide +kernel
theorem dX3_takeSign_8 : decode cX3_takeSign 8 = .ok (.aload_n 0, 1) := by decide +kernel
theorem dX3_takeSign_9 : decode cX3_takeSign 9 = .ok (.iconst 1, 1) := by decide +kernel
theorem dX3_takeSign_10 : decode cX3_takeSign 10 = .ok (.invokevirtual 64, 3) := by decide +kernel
theorem dX3_takeSign_13 : decode cX3_takeSign 13 = .ok (.ireturn, 1) := by decide +kernel
theorem dX3_takeSign_14 : decode cX3_takeSign 14 = .ok (.aload_n 0, 1) := by decide +kernel
theorem dX3_takeSign_15 : decode cX3_takeSign 15 = .ok (.invokevirtual 28, 3) := by decide +kernel
theorem dX3_takeSign_18 : decode cX3_takeSign 18 = .ok (.iconst 1, 1) := by decide +kernel
theorem dX3_takeSign_19 : decode cX3_takeSign 19 = .ok (.ireturn, 1) := by decide +kernel
theorem dX3_takeNumber_0 : decode cX3_takeNumber 0 = .ok (.aload_n 0, 1) := by decide +kernel
theorem dX3_takeNumber_1 : decode cX3_takeNumber 1 = .ok (.getfield 38, 3) := by decide +kernel
theorem dX3_takeNumber_4 : decode cX3_takeNumber 4 = .ok (.iconst 3, 1) := by decide +kernel
theorem dX3_takeNumber_5 : decode cX3_takeNumber 5 = .ok (.if_icmp .eq 11, 3) := by decide +kernel
theorem dX3_takeNumber_8 : decode cX3_takeNumber 8 = .ok (.aload_n 0, 1) := by decide +kernel
theorem dX3_takeNumber_9 : decode cX3_takeNumber 9 = .ok (.iconst 1, 1) := by decide +kernel
theorem dX3_takeNumber_10 : decode cX3_takeNumber 10 = .ok (.invokevirtual 64, 3) := by decide +kernel
theorem dX3_takeNumber_13 : decode cX3_takeNumber 13 = .ok (.pop, 1) := by decide +kernel
theorem dX3_takeNumber_14 : decode cX3_takeNumber 14 = .ok (.iconst (-1), 1) := by decide +kernel
theorem dX3_takeNumber_15 : decode cX3_takeNumber 15 = .ok (.ireturn, 1) := by decide +kernel
theorem dX3_takeNumber_16 : decode cX3_takeNumber 16 = .ok (.aload_n 0, 1) := by decide +kernel
theorem dX3_takeNumber_17 : decode cX3_takeNumber 17 = .ok (.getfield 45, 3) := by decide +kernel
theorem dX3_takeNumber_20 : decode cX3_takeNumber 20 = .ok (.iload_n 1, 1) := by decide +kernel
theorem dX3_takeNumber_21 : decode cX3_takeNumber 21 = .ok (.if_icmp .lt 11, 3) := by decide +kernel
theorem dX3_takeNumber_24 : decode cX3_takeNumber 24 = .ok (.aload_n 0, 1) := by decide +kernel
theorem dX3_takeNumber_25 : decode cX3_takeNumber 25 = .ok (.getfield 45, 3) := by decide +kernel
theorem dX3_takeNumber_28 : decode cX3_takeNumber 28 = .ok (.iload_n 2, 1) := by decide +kernel
theorem dX3_takeNumber_29 : decode cX3_takeNumber 29 = .ok (.if_icmp .le 11, 3) := by decide +kernel
theorem dX3_takeNumber_32 : decode cX3_takeNumber 32 = .ok (.aload_n 0, 1) := by decide +kernel
theorem dX3_takeNumber_33 : decode cX3_takeNumber 33 = .ok (.iconst 2, 1) := by decide +kernel
theorem dX3_takeNumber_34 : decode cX3_takeNumber 34 = .ok (.invokevirtual 64, 3) := by decide +kernel
theorem dX3_takeNumber_37 : decode cX3_takeNumber 37 = .ok (.pop, 1) := by decide +kernel
theorem dX3_takeNumber_38 : decode cX3_takeNumber 38 = .ok (.iconst (-1), 1) := by decide +kernel
theorem dX3_takeNumber_39 : decode cX3_takeNumber 39 = .ok (.ireturn, 1) := by decide +kernel
theorem dX3_takeNumber_40 : decode cX3_takeNumber 40 = .ok (.aload_n 0, 1) := by decide +kernel
theorem dX3_takeNumber_41 : decode cX3_takeNumber 41 = .ok (.getfield 45, 3) := by decide +kernel
theorem dX3_takeNumber_44 : decode cX3_takeNumber 44 = .ok (.istore_n 3, 1) := by decide +kernel
theorem dX3_takeNumber_45 : decode cX3_takeNumber 45 = .ok (.aload_n 0, 1) := by decide +kernel
theorem dX3_takeNumber_46 : decode cX3_takeNumber 46 = .ok (.invokevirtual 28, 3) := by decide +kernel
theorem dX3_takeNumber_49 : decode cX3_takeNumber 49 = .ok (.iload_n 3, 1) := by decide +kernel
theorem dX3_takeNumber_50 : decode cX3_takeNumber 50 = .ok (.ireturn, 1) := by decide +kernel
theorem dX3_takeSide_0 : decode cX3_takeSide 0 = .ok (.aload_n 0, 1) := by decide +kernel
theorem dX3_takeSide_1 : decode cX3_takeSide 1 = .ok (.ldc 67, 2) := by decide +kernel
theorem dX3_takeSide_3 : decode cX3_takeSide 3 = .ok (.invokevirtual 69, 3) := by decide +kernel
theorem dX3_takeSide_6 : decode cX3_takeSide 6 = .ok (.istore_n 1, 1) := by decide +kernel
theorem dX3_takeSide_7 : decode cX3_takeSide 7 = .ok (.iload_n 1, 1) := by decide +kernel
theorem dX3_takeSide_8 : decode cX3_takeSide 8 = .ok (.ifCond .ne 20, 3) := by decide +kernel
theorem dX3_takeSide_11 : decode cX3_takeSide 11 = .ok (.aload_n 0, 1) := by decide +kernel
theorem dX3_takeSide_12 : decode cX3_takeSide 12 = .ok (.ldc 73, 2) := by decide +kernel
theorem dX3_takeSide_14 : decode cX3_takeSide 14 = .ok (.invokevirtual 69, 3) := by decide +kernel
theorem dX3_takeSide_17 : decode cX3_takeSide 17 = .ok (.ifCond .ne 11, 3) := by decide +kernel
theorem dX3_takeSide_20 : decode cX3_takeSide 20 = .ok (.aload_n 0, 1) := by decide +kernel
theorem dX3_takeSide_21 : decode cX3_takeSide 21 = .ok (.iconst 1, 1) := by decide +kernel
theorem dX3_takeSide_22 : decode cX3_takeSide 22 = .ok (.invokevirtual 64, 3) := by decide +kernel
theorem dX3_takeSide_25 : decode cX3_takeSide 25 = .ok (.pop, 1) := by decide +kernel
theorem dX3_takeSide_26 : decode cX3_takeSide 26 = .ok (.iconst (-1), 1) := by decide +kernel
theorem dX3_takeSide_27 : decode cX3_takeSide 27 = .ok (.ireturn, 1) := by decide +kernel
theorem dX3_takeSide_28 : decode cX3_takeSide 28 = .ok (.aload_n 0, 1) := by decide +kernel
theorem dX3_takeSide_29 : decode cX3_takeSide 29 = .ok (.invokevirtual 28, 3) := by decide +kernel
theorem dX3_takeSide_32 : decode cX3_takeSide 32 = .ok (.iload_n 1, 1) := by decide +kernel
theorem dX3_takeSide_33 : decode cX3_takeSide 33 = .ok (.ifCond .eq 7, 3) := by decide +kernel
theorem dX3_takeSide_36 : decode cX3_takeSide 36 = .ok (.iconst 1, 1) := by decide +kernel
theorem dX3_takeSide_37 : decode cX3_takeSide 37 = .ok (.goto 4, 3) := by decide +kernel
theorem dX3_takeSide_40 : decode cX3_takeSide 40 = .ok (.iconst 0, 1) := by decide +kernel
theorem dX3_takeSide_41 : decode cX3_takeSide 41 = .ok (.ireturn, 1) := by decide +kernel
