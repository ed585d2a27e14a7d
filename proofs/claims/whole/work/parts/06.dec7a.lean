theorem dX7_init_0 : decode cX7_init 0 = .ok (.aload_n 0, 1) := by decide +kernel
theorem dX7_init_1 : decode cX7_init 1 = .ok (.invokespecial 1, 3) := by decide +kernel
theorem dX7_init_4 : decode cX7_init 4 = .ok (.aload_n 0, 1) := by decide +kernel
theorem dX7_init_5 : decode cX7_init 5 = .ok (.sipush 600, 3) := by decide +kernel
theorem dX7_init_8 : decode cX7_init 8 = .ok (.newarray .int, 2) := by decide +kernel
theorem dX7_init_10 : decode cX7_init 10 = .ok (.putfield 7, 3) := by decide +kernel
theorem dX7_init_13 : decode cX7_init 13 = .ok (.aload_n 0, 1) := by decide +kernel
theorem dX7_init_14 : decode cX7_init 14 = .ok (.iconst (-1), 1) := by decide +kernel
theorem dX7_init_15 : decode cX7_init 15 = .ok (.putfield 13, 3) := by decide +kernel
theorem dX7_init_18 : decode cX7_init 18 = .ok (.aload_n 0, 1) := by decide +kernel
theorem dX7_init_19 : decode cX7_init 19 = .ok (.iconst (-1), 1) := by decide +kernel
theorem dX7_init_20 : decode cX7_init 20 = .ok (.putfield 17, 3) := by decide +kernel
theorem dX7_init_23 : decode cX7_init 23 = .ok (.aload_n 0, 1) := by decide +kernel
theorem dX7_init_24 : decode cX7_init 24 = .ok (.sipush 1110, 3) := by decide +kernel
theorem dX7_init_27 : decode cX7_init 27 = .ok (.newarray .int, 2) := by decide +kernel
theorem dX7_init_29 : decode cX7_init 29 = .ok (.putfield 20, 3) := by decide +kernel
theorem dX7_init_32 : decode cX7_init 32 = .ok (.aload_n 0, 1) := by decide +kernel
theorem dX7_init_33 : decode cX7_init 33 = .ok (.sipush 1110, 3) := by decide +kernel
theorem dX7_init_36 : decode cX7_init 36 = .ok (.newarray .int, 2) := by decide +kernel
theorem dX7_init_38 : decode cX7_init 38 = .ok (.putfield 23, 3) := by decide +kernel
theorem dX7_init_41 : decode cX7_init 41 = .ok (.aload_n 0, 1) := by decide +kernel
theorem dX7_init_42 : decode cX7_init 42 = .ok (.sipush 1110, 3) := by decide +kernel
theorem dX7_init_45 : decode cX7_init 45 = .ok (.newarray .int, 2) := by decide +kernel
theorem dX7_init_47 : decode cX7_init 47 = .ok (.putfield 26, 3) := by decide +kernel
theorem dX7_init_50 : decode cX7_init 50 = .ok (.aload_n 0, 1) := by decide +kernel
theorem dX7_init_51 : decode cX7_init 51 = .ok (.sipush 1110, 3) := by decide +kernel
theorem dX7_init_54 : decode cX7_init 54 = .ok (.newarray .int, 2) := by decide +kernel
theorem dX7_init_56 : decode cX7_init 56 = .ok (.putfield 29, 3) := by decide +kernel
theorem dX7_init_59 : decode cX7_init 59 = .ok (.aload_n 0, 1) := by decide +kernel
theorem dX7_init_60 : decode cX7_init 60 = .ok (.sipush 6660, 3) := by decide +kernel
theorem dX7_init_63 : decode cX7_init 63 = .ok (.newarray .int, 2) := by decide +kernel
theorem dX7_init_65 : decode cX7_init 65 = .ok (.putfield 32, 3) := by decide +kernel
theorem dX7_init_68 : decode cX7_init 68 = .ok (.aload_n 0, 1) := by decide +kernel
theorem dX7_init_69 : decode cX7_init 69 = .ok (.bipush 10, 2) := by decide +kernel
theorem dX7_init_71 : decode cX7_init 71 = .ok (.newarray .int, 2) := by decide +kernel
theorem dX7_init_73 : decode cX7_init 73 = .ok (.putfield 35, 3) := by decide +kernel
theorem dX7_init_76 : decode cX7_init 76 = .ok (.aload_n 0, 1) := by decide +kernel
theorem dX7_init_77 : decode cX7_init 77 = .ok (.bipush 60, 2) := by decide +kernel
theorem dX7_init_79 : decode cX7_init 79 = .ok (.newarray .int, 2) := by decide +kernel
theorem dX7_init_81 : decode cX7_init 81 = .ok (.putfield 38, 3) := by decide +kernel
theorem dX7_init_84 : decode cX7_init 84 = .ok (.aload_n 0, 1) := by decide +kernel
theorem dX7_init_85 : decode cX7_init 85 = .ok (.bipush 60, 2) := by decide +kernel
theorem dX7_init_87 : decode cX7_init 87 = .ok (.newarray .int, 2) := by decide +kernel
theorem dX7_init_89 : decode cX7_init 89 = .ok (.putfield 41, 3) := by decide +kernel
theorem dX7_init_92 : decode cX7_init 92 = .ok (.aload_n 0, 1) := by decide +kernel
theorem dX7_init_93 : decode cX7_init 93 = .ok (.bipush 60, 2) := by decide +kernel
theorem dX7_init_95 : decode cX7_init 95 = .ok (.newarray .int, 2) := by decide +kernel
theorem dX7_init_97 : decode cX7_init 97 = .ok (.putfield 44, 3) := by decide +kernel
theorem dX7_init_100 : decode cX7_init 100 = .ok (.aload_n 0, 1) := by decide +kernel
theorem dX7_init_101 : decode cX7_init 101 = .ok (.bipush 60, 2) := by decide +kernel
theorem dX7_init_103 : decode cX7_init 103 = .ok (.newarray .int, 2) := by decide +kernel
theorem dX7_init_105 : decode cX7_init 105 = .ok (.putfield 47, 3) := by decide +kernel
theorem dX7_init_108 : decode cX7_init 108 = .ok (.aload_n 0, 1) := by decide +kernel
theorem dX7_init_109 : decode cX7_init 109 = .ok (.bipush 60, 2) := by decide +kernel
theorem dX7_init_111 : decode cX7_init 111 = .ok (.newarray .int, 2) := by decide +kernel
theorem dX7_init_113 : decode cX7_init 113 = .ok (.putfield 50, 3) := by decide +kernel
theorem dX7_init_116 : decode cX7_init 116 = .ok (.aload_n 0, 1) := by decide +kernel
theorem dX7_init_117 : decode cX7_init 117 = .ok (.bipush 60, 2) := by decide +kernel
theorem dX7_init_119 : decode cX7_init 119 = .ok (.newarray .int, 2) := by decide +kernel
theorem dX7_init_121 : decode cX7_init 121 = .ok (.putfield 53, 3) := by decide +kernel
theorem dX7_init_124 : decode cX7_init 124 = .ok (.aload_n 0, 1) := by decide +kernel
theorem dX7_init_125 : decode cX7_init 125 = .ok (.iconst 2, 1) := by decide +kernel
theorem dX7_init_126 : decode cX7_init 126 = .ok (.newarray .int, 2) := by decide +kernel
theorem dX7_init_128 : decode cX7_init 128 = .ok (.putfield 56, 3) := by decide +kernel
theorem dX7_init_131 : decode cX7_init 131 = .ok (.aload_n 0, 1) := by decide +kernel
theorem dX7_init_132 : decode cX7_init 132 = .ok (.iconst 2, 1) := by decide +kernel
theorem dX7_init_133 : decode cX7_init 133 = .ok (.newarray .int, 2) := by decide +kernel
theorem dX7_init_135 : decode cX7_init 135 = .ok (.putfield 59, 3) := by decide +kernel
theorem dX7_init_138 : decode cX7_init 138 = .ok (.aload_n 0, 1) := by decide +kernel
theorem dX7_init_139 : decode cX7_init 139 = .ok (.sipush 500, 3) := by decide +kernel
theorem dX7_init_142 : decode cX7_init 142 = .ok (.newarray .int, 2) := by decide +kernel
theorem dX7_init_144 : decode cX7_init 144 = .ok (.putfield 62, 3) := by decide +kernel
theorem dX7_init_147 : decode cX7_init 147 = .ok (.aload_n 0, 1) := by decide +kernel
theorem dX7_init_148 : decode cX7_init 148 = .ok (.invokevirtual 65, 3) := by decide +kernel
theorem dX7_init_151 : decode cX7_init 151 = .ok (.return_, 1) := by decide +kernel
theorem dX7_thrown_0 : decode cX7_thrown 0 = .ok (.aload_n 0, 1) := by decide +kernel
theorem dX7_thrown_1 : decode cX7_thrown 1 = .ok (.getfield 68, 3) := by decide +kernel
theorem dX7_thrown_4 : decode cX7_thrown 4 = .ok (.ireturn, 1) := by decide +kernel
theorem dX7_isIn_0 : decode cX7_isIn 0 = .ok (.lload_n 0, 1) := by decide +kernel
theorem dX7_isIn_1 : decode cX7_isIn 1 = .ok (.lload_n 2, 1) := by decide +kernel
theorem dX7_isIn_2 : decode cX7_isIn 2 = .ok (.lcmp, 1) := by decide +kernel
theorem dX7_isIn_3 : decode cX7_isIn 3 = .ok (.ifCond .lt 14, 3) := by decide +kernel
theorem dX7_isIn_6 : decode cX7_isIn 6 = .ok (.lload_n 0, 1) := by decide +kernel
theorem dX7_isIn_7 : decode cX7_isIn 7 = .ok (.lload 4, 2) := by decide +kernel
theorem dX7_isIn_9 : decode cX7_isIn 9 = .ok (.lcmp, 1) := by decide +kernel
theorem dX7_isIn_10 : decode cX7_isIn 10 = .ok (.ifCond .gt 7, 3) := by decide +kernel
theorem dX7_isIn_13 : decode cX7_isIn 13 = .ok (.iconst 1, 1) := by decide +kernel
theorem dX7_isIn_14 : decode cX7_isIn 14 = .ok (.goto 4, 3) := by decide +kernel
theorem dX7_isIn_17 : decode cX7_isIn 17 = .ok (.iconst 0, 1) := by decide +kernel
theorem dX7_isIn_18 : decode cX7_isIn 18 = .ok (.ireturn, 1) := by decide +kernel
theorem dX7_truth_0 : decode cX7_truth 0 = .ok (.iload_n 0, 1) := by decide +kernel
theorem dX7_truth_1 : decode cX7_truth 1 = .ok (.ifCond .eq 7, 3) := by decide +kernel
theorem dX7_truth_4 : decode cX7_truth 4 = .ok (.iconst 1, 1) := by decide +kernel
theorem dX7_truth_5 : decode cX7_truth 5 = .ok (.goto 4, 3) := by decide +kernel
theorem dX7_truth_8 : decode cX7_truth 8 = .ok (.iconst 0, 1) := by decide +kernel
theorem dX7_truth_9 : decode cX7_truth 9 = .ok (.ireturn, 1) := by decide +kernel
theorem dX7_has_0 : decode cX7_has 0 = .ok (.iload_n 0, 1) := by decide +kernel
theorem dX7_has_1 : decode cX7_has 1 = .ok (.iload_n 1, 1) := by decide +kernel
theorem dX7_has_2 : decode cX7_has 2 = .ok (.ishr, 1) := by decide +kernel
theorem dX7_has_3 : decode cX7_has 3 = .ok (.iconst 1, 1) := by decide +kernel
theorem dX7_has_4 : decode cX7_has 4 = .ok (.iand, 1) := by decide +kernel
theorem dX7_has_5 : decode cX7_has 5 = .ok (.iconst 1, 1) := by decide +kernel
theorem dX7_has_6 : decode cX7_has 6 = .ok (.if_icmp .ne 7, 3) := by decide +kernel
theorem dX7_has_9 : decode cX7_has 9 = .ok (.iconst 1, 1) := by decide +kernel
theorem dX7_has_10 : decode cX7_has 10 = .ok (.goto 4, 3) := by decide +kernel
theorem dX7_has_13 : decode cX7_has 13 = .ok (.iconst 0, 1) := by decide +kernel
theorem dX7_has_14 : decode cX7_has 14 = .ok (.ireturn, 1) := by decide +kernel
theorem dX7_goes_0 : decode cX7_goes 0 = .ok (.aload_n 0, 1) := by decide +kernel
theorem dX7_goes_1 : decode cX7_goes 1 = .ok (.iload_n 1, 1) := by decide +kernel
theorem dX7_goes_2 : decode cX7_goes 2 = .ok (.ifCond .ne 7, 3) := by decide +kernel
theorem dX7_goes_5 : decode cX7_goes 5 = .ok (.iconst 1, 1) := by decide +kernel
theorem dX7_goes_6 : decode cX7_goes 6 = .ok (.goto 4, 3) := by decide +kernel
theorem dX7_goes_9 : decode cX7_goes 9 = .ok (.iconst 0, 1) := by decide +kernel
theorem dX7_goes_10 : decode cX7_goes 10 = .ok (.invokestatic 71, 3) := by decide +kernel
theorem dX7_goes_13 : decode cX7_goes 13 = .ok (.putfield 68, 3) := by decide +kernel
theorem dX7_goes_16 : decode cX7_goes 16 = .ok (.iload_n 1, 1) := by decide +kernel
theorem dX7_goes_17 : decode cX7_goes 17 = .ok (.ireturn, 1) := by decide +kernel
theorem dX7_goesBoth_0 : decode cX7_goesBoth 0 = .ok (.aload_n 0, 1) := by decide +kernel
theorem dX7_goesBoth_1 : decode cX7_goesBoth 1 = .ok (.iload_n 1, 1) := by decide +kernel
theorem dX7_goesBoth_2 : decode cX7_goesBoth 2 = .ok (.ifCond .ne 7, 3) := by decide +kernel
theorem dX7_goesBoth_5 : decode cX7_goesBoth 5 = .ok (.iconst 1, 1) := by decide +kernel
theorem dX7_goesBoth_6 : decode cX7_goesBoth 6 = .ok (.goto 12, 3) := by decide +kernel
theorem dX7_goesBoth_9 : decode cX7_goesBoth 9 = .ok (.iload_n 2, 1) := by decide +kernel
theorem dX7_goesBoth_10 : decode cX7_goesBoth 10 = .ok (.ifCond .ne 7, 3) := by decide +kernel
theorem dX7_goesBoth_13 : decode cX7_goesBoth 13 = .ok (.iconst 2, 1) := by decide +kernel
theorem dX7_goesBoth_14 : decode cX7_goesBoth 14 = .ok (.goto 4, 3) := by decide +kernel
theorem dX7_goesBoth_17 : decode cX7_goesBoth 17 = .ok (.iconst 0, 1) := by decide +kernel
theorem dX7_goesBoth_18 : decode cX7_goesBoth 18 = .ok (.putfield 68, 3) := by decide +kernel
theorem dX7_goesBoth_21 : decode cX7_goesBoth 21 = .ok (.aload_n 0, 1) := by decide +kernel
theorem dX7_goesBoth_22 : decode cX7_goesBoth 22 = .ok (.getfield 68, 3) := by decide +kernel
theorem dX7_goesBoth_25 : decode cX7_goesBoth 25 = .ok (.ifCond .ne 7, 3) := by decide +kernel
theorem dX7_goesBoth_28 : decode cX7_goesBoth 28 = .ok (.iconst 1, 1) := by decide +kernel
theorem dX7_goesBoth_29 : decode cX7_goesBoth 29 = .ok (.goto 4, 3) := by decide +kernel
theorem dX7_goesBoth_32 : decode cX7_goesBoth 32 = .ok (.iconst 0, 1) := by decide +kernel
theorem dX7_goesBoth_33 : decode cX7_goesBoth 33 = .ok (.ireturn, 1) := by decide +kernel
theorem dX7_feed_0 : decode cX7_feed 0 = .ok (.aload_n 0, 1) := by decide +kernel
theorem dX7_feed_1 : decode cX7_feed 1 = .ok (.aload_n 0, 1) := by decide +kernel
theorem dX7_feed_2 : decode cX7_feed 2 = .ok (.getfield 75, 3) := by decide +kernel
theorem dX7_feed_5 : decode cX7_feed 5 = .ok (.bipush 20, 2) := by decide +kernel
theorem dX7_feed_7 : decode cX7_feed 7 = .ok (.iadd, 1) := by decide +kernel
theorem dX7_feed_8 : decode cX7_feed 8 = .ok (.sipush 600, 3) := by decide +kernel
theorem dX7_feed_11 : decode cX7_feed 11 = .ok (.if_icmp .gt 7, 3) := by decide +kernel
theorem dX7_feed_14 : decode cX7_feed 14 = .ok (.iconst 1, 1) := by decide +kernel
theorem dX7_feed_15 : decode cX7_feed 15 = .ok (.goto 4, 3) := by decide +kernel
theorem dX7_feed_18 : decode cX7_feed 18 = .ok (.iconst 0, 1) := by decide +kernel
theorem dX7_feed_19 : decode cX7_feed 19 = .ok (.invokevirtual 78, 3) := by decide +kernel
theorem dX7_feed_22 : decode cX7_feed 22 = .ok (.ifCond .ne 5, 3) := by decide +kernel
theorem dX7_feed_25 : decode cX7_feed 25 = .ok (.iconst 0, 1) := by decide +kernel
theorem dX7_feed_26 : decode cX7_feed 26 = .ok (.ireturn, 1) := by decide +kernel
theorem dX7_feed_27 : decode cX7_feed 27 = .ok (.aload_n 0, 1) := by decide +kernel
theorem dX7_feed_28 : decode cX7_feed 28 = .ok (.iload_n 1, 1) := by decide +kernel
theorem dX7_feed_29 : decode cX7_feed 29 = .ok (.invokevirtual 82, 3) := by decide +kernel
theorem dX7_feed_32 : decode cX7_feed 32 = .ok (.aload_n 0, 1) := by decide +kernel
theorem dX7_feed_33 : decode cX7_feed 33 = .ok (.iload_n 2, 1) := by decide +kernel
theorem dX7_feed_34 : decode cX7_feed 34 = .ok (.invokevirtual 82, 3) := by decide +kernel
theorem dX7_feed_37 : decode cX7_feed 37 = .ok (.aload_n 0, 1) := by decide +kernel
theorem dX7_feed_38 : decode cX7_feed 38 = .ok (.iload_n 3, 1) := by decide +kernel
theorem dX7_feed_39 : decode cX7_feed 39 = .ok (.invokevirtual 82, 3) := by decide +kernel
theorem dX7_feed_42 : decode cX7_feed 42 = .ok (.aload_n 0, 1) := by decide +kernel
theorem dX7_feed_43 : decode cX7_feed 43 = .ok (.iload 4, 2) := by decide +kernel
theorem dX7_feed_45 : decode cX7_feed 45 = .ok (.invokevirtual 82, 3) := by decide +kernel
theorem dX7_feed_48 : decode cX7_feed 48 = .ok (.aload_n 0, 1) := by decide +kernel
theorem dX7_feed_49 : decode cX7_feed 49 = .ok (.iload 5, 2) := by decide +kernel
theorem dX7_feed_51 : decode cX7_feed 51 = .ok (.invokevirtual 82, 3) := by decide +kernel
theorem dX7_feed_54 : decode cX7_feed 54 = .ok (.aload_n 0, 1) := by decide +kernel
theorem dX7_feed_55 : decode cX7_feed 55 = .ok (.getfield 75, 3) := by decide +kernel
theorem dX7_feed_58 : decode cX7_feed 58 = .ok (.ireturn, 1) := by decide +kernel
theorem dX7_four_0 : decode cX7_four 0 = .ok (.bipush 24, 2) := by decide +kernel
theorem dX7_four_2 : decode cX7_four 2 = .ok (.istore_n 2, 1) := by decide +kernel
theorem dX7_four_3 : decode cX7_four 3 = .ok (.iload_n 2, 1) := by decide +kernel
theorem dX7_four_4 : decode cX7_four 4 = .ok (.ifCond .lt 35, 3) := by decide +kernel
theorem dX7_four_7 : decode cX7_four 7 = .ok (.aload_n 0, 1) := by decide +kernel
theorem dX7_four_8 : decode cX7_four 8 = .ok (.getfield 7, 3) := by decide +kernel
theorem dX7_four_11 : decode cX7_four 11 = .ok (.aload_n 0, 1) := by decide +kernel
theorem dX7_four_12 : decode cX7_four 12 = .ok (.getfield 75, 3) := by decide +kernel
theorem dX7_four_15 : decode cX7_four 15 = .ok (.iload_n 1, 1) := by decide +kernel
theorem dX7_four_16 : decode cX7_four 16 = .ok (.iload_n 2, 1) := by decide +kernel
theorem dX7_four_17 : decode cX7_four 17 = .ok (.ishr, 1) := by decide +kernel
theorem dX7_four_18 : decode cX7_four 18 = .ok (.sipush 255, 3) := by decide +kernel
theorem dX7_four_21 : decode cX7_four 21 = .ok (.iand, 1) := by decide +kernel
theorem dX7_four_22 : decode cX7_four 22 = .ok (.iastore, 1) := by decide +kernel
theorem dX7_four_23 : decode cX7_four 23 = .ok (.aload_n 0, 1) := by decide +kernel
theorem dX7_four_24 : decode cX7_four 24 = .ok (.dup, 1) := by decide +kernel
theorem dX7_four_25 : decode cX7_four 25 = .ok (.getfield 75, 3) := by decide +kernel
theorem dX7_four_28 : decode cX7_four 28 = .ok (.iconst 1, 1) := by decide +kernel
theorem dX7_four_29 : decode cX7_four 29 = .ok (.iadd, 1) := by decide +kernel
theorem dX7_four_30 : decode cX7_four 30 = .ok (.putfield 75, 3) := by decide +kernel
theorem dX7_four_33 : decode cX7_four 33 = .ok (.iinc 2 (-8), 3) := by decide +kernel
theorem dX7_four_36 : decode cX7_four 36 = .ok (.goto (-33), 3) := by decide +kernel
theorem dX7_four_39 : decode cX7_four 39 = .ok (.return_, 1) := by decide +kernel
theorem dX7_truncate_0 : decode cX7_truncate 0 = .ok (.aload_n 0, 1) := by decide +kernel
theorem dX7_truncate_1 : decode cX7_truncate 1 = .ok (.iload_n 1, 1) := by decide +kernel
theorem dX7_truncate_2 : decode cX7_truncate 2 = .ok (.i2l, 1) := by decide +kernel
theorem dX7_truncate_3 : decode cX7_truncate 3 = .ok (.lconst 0, 1) := by decide +kernel
theorem dX7_truncate_4 : decode cX7_truncate 4 = .ok (.aload_n 0, 1) := by decide +kernel
theorem dX7_truncate_5 : decode cX7_truncate 5 = .ok (.getfield 75, 3) := by decide +kernel
theorem dX7_truncate_8 : decode cX7_truncate 8 = .ok (.i2l, 1) := by decide +kernel
theorem dX7_truncate_9 : decode cX7_truncate 9 = .ok (.invokestatic 85, 3) := by decide +kernel
theorem dX7_truncate_12 : decode cX7_truncate 12 = .ok (.invokevirtual 78, 3) := by decide +kernel
theorem dX7_truncate_15 : decode cX7_truncate 15 = .ok (.ifCond .ne 5, 3) := by decide +kernel
theorem dX7_truncate_18 : decode cX7_truncate 18 = .ok (.iconst 0, 1) := by decide +kernel
theorem dX7_truncate_19 : decode cX7_truncate 19 = .ok (.ireturn, 1) := by decide +kernel
theorem dX7_truncate_20 : decode cX7_truncate 20 = .ok (.aload_n 0, 1) := by decide +kernel
theorem dX7_truncate_21 : decode cX7_truncate 21 = .ok (.iload_n 1, 1) := by decide +kernel
theorem dX7_truncate_22 : decode cX7_truncate 22 = .ok (.putfield 75, 3) := by decide +kernel
theorem dX7_truncate_25 : decode cX7_truncate 25 = .ok (.iload_n 1, 1) := by decide +kernel
theorem dX7_truncate_26 : decode cX7_truncate 26 = .ok (.ireturn, 1) := by decide +kernel
theorem dX7_here_0 : decode cX7_here 0 = .ok (.aload_n 0, 1) := by decide +kernel
theorem dX7_here_1 : decode cX7_here 1 = .ok (.getfield 89, 3) := by decide +kernel
theorem dX7_here_4 : decode cX7_here 4 = .ok (.iload_n 1, 1) := by decide +kernel
theorem dX7_here_5 : decode cX7_here 5 = .ok (.iadd, 1) := by decide +kernel
theorem dX7_here_6 : decode cX7_here 6 = .ok (.aload_n 0, 1) := by decide +kernel
theorem dX7_here_7 : decode cX7_here 7 = .ok (.getfield 92, 3) := by decide +kernel
theorem dX7_here_10 : decode cX7_here 10 = .ok (.if_icmp .ge 17, 3) := by decide +kernel
theorem dX7_here_13 : decode cX7_here 13 = .ok (.aload_n 0, 1) := by decide +kernel
theorem dX7_here_14 : decode cX7_here 14 = .ok (.getfield 7, 3) := by decide +kernel
theorem dX7_here_17 : decode cX7_here 17 = .ok (.aload_n 0, 1) := by decide +kernel
theorem dX7_here_18 : decode cX7_here 18 = .ok (.getfield 89, 3) := by decide +kernel
theorem dX7_here_21 : decode cX7_here 21 = .ok (.iload_n 1, 1) := by decide +kernel
theorem dX7_here_22 : decode cX7_here 22 = .ok (.iadd, 1) := by decide +kernel
theorem dX7_here_23 : decode cX7_here 23 = .ok (.iaload, 1) := by decide +kernel
theorem dX7_here_24 : decode cX7_here 24 = .ok (.goto 4, 3) := by decide +kernel
theorem dX7_here_27 : decode cX7_here 27 = .ok (.iconst (-1), 1) := by decide +kernel
theorem dX7_here_28 : decode cX7_here 28 = .ok (.ireturn, 1) := by decide +kernel
theorem dX7_isLetter_0 : decode cX7_isLetter 0 = .ok (.iload_n 0, 1) := by decide +kernel
theorem dX7_isLetter_1 : decode cX7_isLetter 1 = .ok (.bipush 97, 2) := by decide +kernel
theorem dX7_isLetter_3 : decode cX7_isLetter 3 = .ok (.if_icmp .lt 13, 3) := by decide +kernel
theorem dX7_isLetter_6 : decode cX7_isLetter 6 = .ok (.iload_n 0, 1) := by decide +kernel
theorem dX7_isLetter_7 : decode cX7_isLetter 7 = .ok (.bipush 122, 2) := by decide +kernel
theorem dX7_isLetter_9 : decode cX7_isLetter 9 = .ok (.if_icmp .gt 7, 3) := by decide +kernel
theorem dX7_isLetter_12 : decode cX7_isLetter 12 = .ok (.iconst 1, 1) := by decide +kernel
theorem dX7_isLetter_13 : decode cX7_isLetter 13 = .ok (.goto 4, 3) := by decide +kernel
theorem dX7_isLetter_16 : decode cX7_isLetter 16 = .ok (.iconst 0, 1) := by decide +kernel
theorem dX7_isLetter_17 : decode cX7_isLetter 17 = .ok (.ireturn, 1) := by decide +kernel
theorem dX7_isDigit_0 : decode cX7_isDigit 0 = .ok (.iload_n 0, 1) := by decide +kernel
theorem dX7_isDigit_1 : decode cX7_isDigit 1 = .ok (.bipush 48, 2) := by decide +kernel
theorem dX7_isDigit_3 : decode cX7_isDigit 3 = .ok (.if_icmp .lt 13, 3) := by decide +kernel
theorem dX7_isDigit_6 : decode cX7_isDigit 6 = .ok (.iload_n 0, 1) := by decide +kernel
theorem dX7_isDigit_7 : decode cX7_isDigit 7 = .ok (.bipush 57, 2) := by decide +kernel
theorem dX7_isDigit_9 : decode cX7_isDigit 9 = .ok (.if_icmp .gt 7, 3) := by decide +kernel
theorem dX7_isDigit_12 : decode cX7_isDigit 12 = .ok (.iconst 1, 1) := by decide +kernel
theorem dX7_isDigit_13 : decode cX7_isDigit 13 = .ok (.goto 4, 3) := by decide +kernel
theorem dX7_isDigit_16 : decode cX7_isDigit 16 = .ok (.iconst 0, 1) := by decide +kernel
theorem dX7_isDigit_17 : decode cX7_isDigit 17 = .ok (.ireturn, 1) := by decide +kernel
theorem dX7_goOn_0 : decode cX7_goOn 0 = .ok (.aload_n 0, 1) := by decide +kernel
theorem dX7_goOn_1 : decode cX7_goOn 1 = .ok (.iconst 0, 1) := by decide +kernel
theorem dX7_goOn_2 : decode cX7_goOn 2 = .ok (.invokevirtual 95, 3) := by decide +kernel
theorem dX7_goOn_5 : decode cX7_goOn 5 = .ok (.bipush 32, 2) := by decide +kernel
theorem dX7_goOn_7 : decode cX7_goOn 7 = .ok (.if_icmp .eq 13, 3) := by decide +kernel
theorem dX7_goOn_10 : decode cX7_goOn 10 = .ok (.aload_n 0, 1) := by decide +kernel
theorem dX7_goOn_11 : decode cX7_goOn 11 = .ok (.iconst 0, 1) := by decide +kernel
theorem dX7_goOn_12 : decode cX7_goOn 12 = .ok (.invokevirtual 95, 3) := by decide +kernel
theorem dX7_goOn_15 : decode cX7_goOn 15 = .ok (.bipush 10, 2) := by decide +kernel
theorem dX7_goOn_17 : decode cX7_goOn 17 = .ok (.if_icmp .ne 16, 3) := by decide +kernel
theorem dX7_goOn_20 : decode cX7_goOn 20 = .ok (.aload_n 0, 1) := by decide +kernel
theorem dX7_goOn_21 : decode cX7_goOn 21 = .ok (.dup, 1) := by decide +kernel
theorem dX7_goOn_22 : decode cX7_goOn 22 = .ok (.getfield 89, 3) := by decide +kernel
theorem dX7_goOn_25 : decode cX7_goOn 25 = .ok (.iconst 1, 1) := by decide +kernel
theorem dX7_goOn_26 : decode cX7_goOn 26 = .ok (.iadd, 1) := by decide +kernel
theorem dX7_goOn_27 : decode cX7_goOn 27 = .ok (.putfield 89, 3) := by decide +kernel
theorem dX7_goOn_30 : decode cX7_goOn 30 = .ok (.goto (-30), 3) := by decide +kernel
theorem dX7_goOn_33 : decode cX7_goOn 33 = .ok (.aload_n 0, 1) := by decide +kernel
theorem dX7_goOn_34 : decode cX7_goOn 34 = .ok (.aload_n 0, 1) := by decide +kernel
theorem dX7_goOn_35 : decode cX7_goOn 35 = .ok (.getfield 89, 3) := by decide +kernel
theorem dX7_goOn_38 : decode cX7_goOn 38 = .ok (.putfield 99, 3) := by decide +kernel
theorem dX7_goOn_41 : decode cX7_goOn 41 = .ok (.aload_n 0, 1) := by decide +kernel
theorem dX7_goOn_42 : decode cX7_goOn 42 = .ok (.lconst 0, 1) := by decide +kernel
theorem dX7_goOn_43 : decode cX7_goOn 43 = .ok (.putfield 102, 3) := by decide +kernel
theorem dX7_goOn_46 : decode cX7_goOn 46 = .ok (.aload_n 0, 1) := by decide +kernel
theorem dX7_goOn_47 : decode cX7_goOn 47 = .ok (.iconst 0, 1) := by decide +kernel
theorem dX7_goOn_48 : decode cX7_goOn 48 = .ok (.putfield 106, 3) := by decide +kernel
theorem dX7_goOn_51 : decode cX7_goOn 51 = .ok (.aload_n 0, 1) := by decide +kernel
theorem dX7_goOn_52 : decode cX7_goOn 52 = .ok (.iconst 0, 1) := by decide +kernel
theorem dX7_goOn_53 : decode cX7_goOn 53 = .ok (.invokevirtual 95, 3) := by decide +kernel
theorem dX7_goOn_56 : decode cX7_goOn 56 = .ok (.istore_n 1, 1) := by decide +kernel
theorem dX7_goOn_57 : decode cX7_goOn 57 = .ok (.iconst 0, 1) := by decide +kernel
theorem dX7_goOn_58 : decode cX7_goOn 58 = .ok (.istore_n 2, 1) := by decide +kernel
theorem dX7_goOn_59 : decode cX7_goOn 59 = .ok (.iload_n 1, 1) := by decide +kernel
theorem dX7_goOn_60 : decode cX7_goOn 60 = .ok (.ifCond .ge 9, 3) := by decide +kernel
theorem dX7_goOn_63 : decode cX7_goOn 63 = .ok (.aload_n 0, 1) := by decide +kernel
theorem dX7_goOn_64 : decode cX7_goOn 64 = .ok (.iconst 0, 1) := by decide +kernel
theorem dX7_goOn_65 : decode cX7_goOn 65 = .ok (.putfield 109, 3) := by decide +kernel
theorem dX7_goOn_68 : decode cX7_goOn 68 = .ok (.return_, 1) := by decide +kernel
theorem dX7_goOn_69 : decode cX7_goOn 69 = .ok (.iload_n 1, 1) := by decide +kernel
theorem dX7_goOn_70 : decode cX7_goOn 70 = .ok (.invokestatic 112, 3) := by decide +kernel
theorem dX7_goOn_73 : decode cX7_goOn 73 = .ok (.ifCond .eq 66, 3) := by decide +kernel
theorem dX7_goOn_76 : decode cX7_goOn 76 = .ok (.aload_n 0, 1) := by decide +kernel
theorem dX7_goOn_77 : decode cX7_goOn 77 = .ok (.iload_n 2, 1) := by decide +kernel
theorem dX7_goOn_78 : decode cX7_goOn 78 = .ok (.invokevirtual 95, 3) := by decide +kernel
theorem dX7_goOn_81 : decode cX7_goOn 81 = .ok (.invokestatic 112, 3) := by decide +kernel
theorem dX7_goOn_84 : decode cX7_goOn 84 = .ok (.ifCond .eq 37, 3) := by decide +kernel
theorem dX7_goOn_87 : decode cX7_goOn 87 = .ok (.iload_n 2, 1) := by decide +kernel
theorem dX7_goOn_88 : decode cX7_goOn 88 = .ok (.bipush 8, 2) := by decide +kernel
theorem dX7_goOn_90 : decode cX7_goOn 90 = .ok (.if_icmp .ge 25, 3) := by decide +kernel
theorem dX7_goOn_93 : decode cX7_goOn 93 = .ok (.aload_n 0, 1) := by decide +kernel
theorem dX7_goOn_94 : decode cX7_goOn 94 = .ok (.aload_n 0, 1) := by decide +kernel
theorem dX7_goOn_95 : decode cX7_goOn 95 = .ok (.getfield 102, 3) := by decide +kernel
theorem dX7_goOn_98 : decode cX7_goOn 98 = .ok (.iconst 5, 1) := by decide +kernel
theorem dX7_goOn_99 : decode cX7_goOn 99 = .ok (.lshl, 1) := by decide +kernel
theorem dX7_goOn_100 : decode cX7_goOn 100 = .ok (.aload_n 0, 1) := by decide +kernel
theorem dX7_goOn_101 : decode cX7_goOn 101 = .ok (.iload_n 2, 1) := by decide +kernel
theorem dX7_goOn_102 : decode cX7_goOn 102 = .ok (.invokevirtual 95, 3) := by decide +kernel
theorem dX7_goOn_105 : decode cX7_goOn 105 = .ok (.bipush 97, 2) := by decide +kernel
theorem dX7_goOn_107 : decode cX7_goOn 107 = .ok (.isub, 1) := by decide +kernel
theorem dX7_goOn_108 : decode cX7_goOn 108 = .ok (.iconst 1, 1) := by decide +kernel
theorem dX7_goOn_109 : decode cX7_goOn 109 = .ok (.iadd, 1) := by decide +kernel
theorem dX7_goOn_110 : decode cX7_goOn 110 = .ok (.i2l, 1) := by decide +kernel
theorem dX7_goOn_111 : decode cX7_goOn 111 = .ok (.lor, 1) := by decide +kernel
theorem dX7_goOn_112 : decode cX7_goOn 112 = .ok (.putfield 102, 3) := by decide +kernel
theorem dX7_goOn_115 : decode cX7_goOn 115 = .ok (.iinc 2 1, 3) := by decide +kernel
theorem dX7_goOn_118 : decode cX7_goOn 118 = .ok (.goto (-42), 3) := by decide +kernel
theorem dX7_goOn_121 : decode cX7_goOn 121 = .ok (.aload_n 0, 1) := by decide +kernel
theorem dX7_goOn_122 : decode cX7_goOn 122 = .ok (.iload_n 2, 1) := by decide +kernel
theorem dX7_goOn_123 : decode cX7_goOn 123 = .ok (.bipush 8, 2) := by decide +kernel
theorem dX7_goOn_125 : decode cX7_goOn 125 = .ok (.if_icmp .le 7, 3) := by decide +kernel
theorem dX7_goOn_128 : decode cX7_goOn 128 = .ok (.iconst 4, 1) := by decide +kernel
theorem dX7_goOn_129 : decode cX7_goOn 129 = .ok (.goto 4, 3) := by decide +kernel
theorem dX7_goOn_132 : decode cX7_goOn 132 = .ok (.iconst 1, 1) := by decide +kernel
theorem dX7_goOn_133 : decode cX7_goOn 133 = .ok (.putfield 109, 3) := by decide +kernel
theorem dX7_goOn_136 : decode cX7_goOn 136 = .ok (.goto 103, 3) := by decide +kernel
theorem dX7_goOn_139 : decode cX7_goOn 139 = .ok (.iload_n 1, 1) := by decide +kernel
theorem dX7_goOn_140 : decode cX7_goOn 140 = .ok (.invokestatic 116, 3) := by decide +kernel
theorem dX7_goOn_143 : decode cX7_goOn 143 = .ok (.ifCond .eq 62, 3) := by decide +kernel
theorem dX7_goOn_146 : decode cX7_goOn 146 = .ok (.aload_n 0, 1) := by decide +kernel
theorem dX7_goOn_147 : decode cX7_goOn 147 = .ok (.iload_n 2, 1) := by decide +kernel
theorem dX7_goOn_148 : decode cX7_goOn 148 = .ok (.invokevirtual 95, 3) := by decide +kernel
theorem dX7_goOn_151 : decode cX7_goOn 151 = .ok (.invokestatic 116, 3) := by decide +kernel
theorem dX7_goOn_154 : decode cX7_goOn 154 = .ok (.ifCond .eq 34, 3) := by decide +kernel
theorem dX7_goOn_157 : decode cX7_goOn 157 = .ok (.iload_n 2, 1) := by decide +kernel
theorem dX7_goOn_158 : decode cX7_goOn 158 = .ok (.iconst 3, 1) := by decide +kernel
theorem dX7_goOn_159 : decode cX7_goOn 159 = .ok (.if_icmp .ge 23, 3) := by decide +kernel
theorem dX7_goOn_162 : decode cX7_goOn 162 = .ok (.aload_n 0, 1) := by decide +kernel
theorem dX7_goOn_163 : decode cX7_goOn 163 = .ok (.bipush 10, 2) := by decide +kernel
theorem dX7_goOn_165 : decode cX7_goOn 165 = .ok (.aload_n 0, 1) := by decide +kernel
theorem dX7_goOn_166 : decode cX7_goOn 166 = .ok (.getfield 106, 3) := by decide +kernel
theorem dX7_goOn_169 : decode cX7_goOn 169 = .ok (.imul, 1) := by decide +kernel
theorem dX7_goOn_170 : decode cX7_goOn 170 = .ok (.aload_n 0, 1) := by decide +kernel
theorem dX7_goOn_171 : decode cX7_goOn 171 = .ok (.iload_n 2, 1) := by decide +kernel
theorem dX7_goOn_172 : decode cX7_goOn 172 = .ok (.invokevirtual 95, 3) := by decide +kernel
theorem dX7_goOn_175 : decode cX7_goOn 175 = .ok (.iadd, 1) := by decide +kernel
theorem dX7_goOn_176 : decode cX7_goOn 176 = .ok (.bipush 48, 2) := by decide +kernel
theorem dX7_goOn_178 : decode cX7_goOn 178 = .ok (.isub, 1) := by decide +kernel
theorem dX7_goOn_179 : decode cX7_goOn 179 = .ok (.putfield 106, 3) := by decide +kernel
theorem dX7_goOn_182 : decode cX7_goOn 182 = .ok (.iinc 2 1, 3) := by decide +kernel
theorem dX7_goOn_185 : decode cX7_goOn 185 = .ok (.goto (-39), 3) := by decide +kernel
theorem dX7_goOn_188 : decode cX7_goOn 188 = .ok (.aload_n 0, 1) := by decide +kernel
theorem dX7_goOn_189 : decode cX7_goOn 189 = .ok (.iload_n 2, 1) := by decide +kernel
theorem dX7_goOn_190 : decode cX7_goOn 190 = .ok (.iconst 3, 1) := by decide +kernel
theorem dX7_goOn_191 : decode cX7_goOn 191 = .ok (.if_icmp .le 7, 3) := by decide +kernel
theorem dX7_goOn_194 : decode cX7_goOn 194 = .ok (.iconst 4, 1) := by decide +kernel
theorem dX7_goOn_195 : decode cX7_goOn 195 = .ok (.goto 4, 3) := by decide +kernel
theorem dX7_goOn_198 : decode cX7_goOn 198 = .ok (.iconst 2, 1) := by decide +kernel
theorem dX7_goOn_199 : decode cX7_goOn 199 = .ok (.putfield 109, 3) := by decide +kernel
theorem dX7_goOn_202 : decode cX7_goOn 202 = .ok (.goto 37, 3) := by decide +kernel
theorem dX7_goOn_205 : decode cX7_goOn 205 = .ok (.aload_n 0, 1) := by decide +kernel
theorem dX7_goOn_206 : decode cX7_goOn 206 = .ok (.iload_n 1, 1) := by decide +kernel
theorem dX7_goOn_207 : decode cX7_goOn 207 = .ok (.bipush 59, 2) := by decide +kernel
theorem dX7_goOn_209 : decode cX7_goOn 209 = .ok (.if_icmp .eq 15, 3) := by decide +kernel
theorem dX7_goOn_212 : decode cX7_goOn 212 = .ok (.iload_n 1, 1) := by decide +kernel
theorem dX7_goOn_213 : decode cX7_goOn 213 = .ok (.bipush 40, 2) := by decide +kernel
theorem dX7_goOn_215 : decode cX7_goOn 215 = .ok (.if_icmp .eq 9, 3) := by decide +kernel
theorem dX7_goOn_218 : decode cX7_goOn 218 = .ok (.iload_n 1, 1) := by decide +kernel
theorem dX7_goOn_219 : decode cX7_goOn 219 = .ok (.bipush 41, 2) := by decide +kernel
theorem dX7_goOn_221 : decode cX7_goOn 221 = .ok (.if_icmp .ne 7, 3) := by decide +kernel
theorem dX7_goOn_224 : decode cX7_goOn 224 = .ok (.iconst 3, 1) := by decide +kernel
theorem dX7_goOn_225 : decode cX7_goOn 225 = .ok (.goto 4, 3) := by decide +kernel
theorem dX7_goOn_228 : decode cX7_goOn 228 = .ok (.iconst 4, 1) := by decide +kernel
theorem dX7_goOn_229 : decode cX7_goOn 229 = .ok (.putfield 109, 3) := by decide +kernel
theorem dX7_goOn_232 : decode cX7_goOn 232 = .ok (.aload_n 0, 1) := by decide +kernel
theorem dX7_goOn_233 : decode cX7_goOn 233 = .ok (.iload_n 1, 1) := by decide +kernel
theorem dX7_goOn_234 : decode cX7_goOn 234 = .ok (.putfield 106, 3) := by decide +kernel
theorem dX7_goOn_237 : decode cX7_goOn 237 = .ok (.iconst 1, 1) := by decide +kernel
theorem dX7_goOn_238 : decode cX7_goOn 238 = .ok (.istore_n 2, 1) := by decide +kernel
theorem dX7_goOn_239 : decode cX7_goOn 239 = .ok (.aload_n 0, 1) := by decide +kernel
theorem dX7_goOn_240 : decode cX7_goOn 240 = .ok (.dup, 1) := by decide +kernel
theorem dX7_goOn_241 : decode cX7_goOn 241 = .ok (.getfield 89, 3) := by decide +kernel
theorem dX7_goOn_244 : decode cX7_goOn 244 = .ok (.iload_n 2, 1) := by decide +kernel
theorem dX7_goOn_245 : decode cX7_goOn 245 = .ok (.iadd, 1) := by decide +kernel
theorem dX7_goOn_246 : decode cX7_goOn 246 = .ok (.putfield 89, 3) := by decide +kernel
theorem dX7_goOn_249 : decode cX7_goOn 249 = .ok (.return_, 1) := by decide +kernel
theorem dX7_wrong_0 : decode cX7_wrong 0 = .ok (.aload_n 0, 1) := by decide +kernel
theorem dX7_wrong_1 : decode cX7_wrong 1 = .ok (.getfield 119, 3) := by decide +kernel
theorem dX7_wrong_4 : decode cX7_wrong 4 = .ok (.ifCond .le 4, 3) := by decide +kernel
theorem dX7_wrong_7 : decode cX7_wrong 7 = .ok (.return_, 1) := by decide +kernel
theorem dX7_wrong_8 : decode cX7_wrong 8 = .ok (.aload_n 0, 1) := by decide +kernel
theorem dX7_wrong_9 : decode cX7_wrong 9 = .ok (.aload_n 0, 1) := by decide +kernel
theorem dX7_wrong_10 : decode cX7_wrong 10 = .ok (.getfield 109, 3) := by decide +kernel
theorem dX7_wrong_13 : decode cX7_wrong 13 = .ok (.iconst 4, 1) := by decide +kernel
theorem dX7_wrong_14 : decode cX7_wrong 14 = .ok (.if_icmp .ne 7, 3) := by decide +kernel
theorem dX7_wrong_17 : decode cX7_wrong 17 = .ok (.iconst 1, 1) := by decide +kernel
theorem dX7_wrong_18 : decode cX7_wrong 18 = .ok (.goto 4, 3) := by decide +kernel
theorem dX7_wrong_21 : decode cX7_wrong 21 = .ok (.iload_n 1, 1) := by decide +kernel
theorem dX7_wrong_22 : decode cX7_wrong 22 = .ok (.putfield 119, 3) := by decide +kernel
theorem dX7_wrong_25 : decode cX7_wrong 25 = .ok (.aload_n 0, 1) := by decide +kernel
theorem dX7_wrong_26 : decode cX7_wrong 26 = .ok (.aload_n 0, 1) := by decide +kernel
theorem dX7_wrong_27 : decode cX7_wrong 27 = .ok (.getfield 99, 3) := by decide +kernel
theorem dX7_wrong_30 : decode cX7_wrong 30 = .ok (.putfield 13, 3) := by decide +kernel
theorem dX7_wrong_33 : decode cX7_wrong 33 = .ok (.return_, 1) := by decide +kernel
theorem dX7_isGood_0 : decode cX7_isGood 0 = .ok (.aload_n 0, 1) := by decide +kernel
theorem dX7_isGood_1 : decode cX7_isGood 1 = .ok (.getfield 119, 3) := by decide +kernel
theorem dX7_isGood_4 : decode cX7_isGood 4 = .ok (.ifCond .ne 7, 3) := by decide +kernel
theorem dX7_isGood_7 : decode cX7_isGood 7 = .ok (.iconst 1, 1) := by decide +kernel
theorem dX7_isGood_8 : decode cX7_isGood 8 = .ok (.goto 4, 3) := by decide +kernel
theorem dX7_isGood_11 : decode cX7_isGood 11 = .ok (.iconst 0, 1) := by decide +kernel
theorem dX7_isGood_12 : decode cX7_isGood 12 = .ok (.ireturn, 1) := by decide +kernel
theorem dX7_isWord_0 : decode cX7_isWord 0 = .ok (.aload_n 0, 1) := by decide +kernel
theorem dX7_isWord_1 : decode cX7_isWord 1 = .ok (.getfield 119, 3) := by decide +kernel
theorem dX7_isWord_4 : decode cX7_isWord 4 = .ok (.ifCond .ne 24, 3) := by decide +kernel
theorem dX7_isWord_7 : decode cX7_isWord 7 = .ok (.aload_n 0, 1) := by decide +kernel
theorem dX7_isWord_8 : decode cX7_isWord 8 = .ok (.getfield 109, 3) := by decide +kernel
theorem dX7_isWord_11 : decode cX7_isWord 11 = .ok (.iconst 1, 1) := by decide +kernel
theorem dX7_isWord_12 : decode cX7_isWord 12 = .ok (.if_icmp .ne 16, 3) := by decide +kernel
theorem dX7_isWord_15 : decode cX7_isWord 15 = .ok (.aload_n 0, 1) := by decide +kernel
theorem dX7_isWord_16 : decode cX7_isWord 16 = .ok (.getfield 102, 3) := by decide +kernel
theorem dX7_isWord_19 : decode cX7_isWord 19 = .ok (.lload_n 1, 1) := by decide +kernel
theorem dX7_isWord_20 : decode cX7_isWord 20 = .ok (.lcmp, 1) := by decide +kernel
theorem dX7_isWord_21 : decode cX7_isWord 21 = .ok (.ifCond .ne 7, 3) := by decide +kernel
theorem dX7_isWord_24 : decode cX7_isWord 24 = .ok (.iconst 1, 1) := by decide +kernel
theorem dX7_isWord_25 : decode cX7_isWord 25 = .ok (.goto 4, 3) := by decide +kernel
theorem dX7_isWord_28 : decode cX7_isWord 28 = .ok (.iconst 0, 1) := by decide +kernel
theorem dX7_isWord_29 : decode cX7_isWord 29 = .ok (.ireturn, 1) := by decide +kernel
theorem dX7_isSign_0 : decode cX7_isSign 0 = .ok (.aload_n 0, 1) := by decide +kernel
theorem dX7_isSign_1 : decode cX7_isSign 1 = .ok (.getfield 119, 3) := by decide +kernel
theorem dX7_isSign_4 : decode cX7_isSign 4 = .ok (.ifCond .ne 23, 3) := by decide +kernel
theorem dX7_isSign_7 : decode cX7_isSign 7 = .ok (.aload_n 0, 1) := by decide +kernel
theorem dX7_isSign_8 : decode cX7_isSign 8 = .ok (.getfield 109, 3) := by decide +kernel
theorem dX7_isSign_11 : decode cX7_isSign 11 = .ok (.iconst 3, 1) := by decide +kernel
theorem dX7_isSign_12 : decode cX7_isSign 12 = .ok (.if_icmp .ne 15, 3) := by decide +kernel
theorem dX7_isSign_15 : decode cX7_isSign 15 = .ok (.aload_n 0, 1) := by decide +kernel
theorem dX7_isSign_16 : decode cX7_isSign 16 = .ok (.getfield 106, 3) := by decide +kernel
theorem dX7_isSign_19 : decode cX7_isSign 19 = .ok (.iload_n 1, 1) := by decide +kernel
theorem dX7_isSign_20 : decode cX7_isSign 20 = .ok (.if_icmp .ne 7, 3) := by decide +kernel
theorem dX7_isSign_23 : decode cX7_isSign 23 = .ok (.iconst 1, 1) := by decide +kernel
theorem dX7_isSign_24 : decode cX7_isSign 24 = .ok (.goto 4, 3) := by decide +kernel
theorem dX7_isSign_27 : decode cX7_isSign 27 = .ok (.iconst 0, 1) := by decide +kernel
theorem dX7_isSign_28 : decode cX7_isSign 28 = .ok (.ireturn, 1) := by decide +kernel
theorem dX7_mustSign_0 : decode cX7_mustSign 0 = .ok (.aload_n 0, 1) := by decide +kernel
theorem dX7_mustSign_1 : decode cX7_mustSign 1 = .ok (.invokevirtual 122, 3) := by decide +kernel
theorem dX7_mustSign_4 : decode cX7_mustSign 4 = .ok (.ifCond .eq 16, 3) := by decide +kernel
theorem dX7_mustSign_7 : decode cX7_mustSign 7 = .ok (.aload_n 0, 1) := by decide +kernel
theorem dX7_mustSign_8 : decode cX7_mustSign 8 = .ok (.iload_n 1, 1) := by decide +kernel
theorem dX7_mustSign_9 : decode cX7_mustSign 9 = .ok (.invokevirtual 126, 3) := by decide +kernel
theorem dX7_mustSign_12 : decode cX7_mustSign 12 = .ok (.ifCond .ne 8, 3) := by decide +kernel
theorem dX7_mustSign_15 : decode cX7_mustSign 15 = .ok (.aload_n 0, 1) := by decide +kernel
theorem dX7_mustSign_16 : decode cX7_mustSign 16 = .ok (.iconst 1, 1) := by decide +kernel
theorem dX7_mustSign_17 : decode cX7_mustSign 17 = .ok (.invokevirtual 129, 3) := by decide +kernel
theorem dX7_mustSign_20 : decode cX7_mustSign 20 = .ok (.aload_n 0, 1) := by decide +kernel
theorem dX7_mustSign_21 : decode cX7_mustSign 21 = .ok (.invokevirtual 122, 3) := by decide +kernel
theorem dX7_mustSign_24 : decode cX7_mustSign 24 = .ok (.ifCond .eq 7, 3) := by decide +kernel
theorem dX7_mustSign_27 : decode cX7_mustSign 27 = .ok (.aload_n 0, 1) := by decide +kernel
theorem dX7_mustSign_28 : decode cX7_mustSign 28 = .ok (.invokevirtual 132, 3) := by decide +kernel
theorem dX7_mustSign_31 : decode cX7_mustSign 31 = .ok (.return_, 1) := by decide +kernel
theorem dX7_looks_0 : decode cX7_looks 0 = .ok (.aload_n 0, 1) := by decide +kernel
theorem dX7_looks_1 : decode cX7_looks 1 = .ok (.invokevirtual 122, 3) := by decide +kernel
theorem dX7_looks_4 : decode cX7_looks 4 = .ok (.ifCond .eq 16, 3) := by decide +kernel
theorem dX7_looks_7 : decode cX7_looks 7 = .ok (.aload_n 0, 1) := by decide +kernel
theorem dX7_looks_8 : decode cX7_looks 8 = .ok (.getfield 109, 3) := by decide +kernel
theorem dX7_looks_11 : decode cX7_looks 11 = .ok (.iconst 2, 1) := by decide +kernel
theorem dX7_looks_12 : decode cX7_looks 12 = .ok (.if_icmp .eq 8, 3) := by decide +kernel
theorem dX7_looks_15 : decode cX7_looks 15 = .ok (.aload_n 0, 1) := by decide +kernel
theorem dX7_looks_16 : decode cX7_looks 16 = .ok (.iconst 1, 1) := by decide +kernel
theorem dX7_looks_17 : decode cX7_looks 17 = .ok (.invokevirtual 129, 3) := by decide +kernel
theorem dX7_looks_20 : decode cX7_looks 20 = .ok (.aload_n 0, 1) := by decide +kernel
theorem dX7_looks_21 : decode cX7_looks 21 = .ok (.invokevirtual 122, 3) := by decide +kernel
theorem dX7_looks_24 : decode cX7_looks 24 = .ok (.ifCond .eq 23, 3) := by decide +kernel
theorem dX7_looks_27 : decode cX7_looks 27 = .ok (.aload_n 0, 1) := by decide +kernel
theorem dX7_looks_28 : decode cX7_looks 28 = .ok (.getfield 106, 3) := by decide +kernel
theorem dX7_looks_31 : decode cX7_looks 31 = .ok (.i2l, 1) := by decide +kernel
theorem dX7_looks_32 : decode cX7_looks 32 = .ok (.iload_n 1, 1) := by decide +kernel
theorem dX7_looks_33 : decode cX7_looks 33 = .ok (.i2l, 1) := by decide +kernel
theorem dX7_looks_34 : decode cX7_looks 34 = .ok (.iload_n 2, 1) := by decide +kernel
theorem dX7_looks_35 : decode cX7_looks 35 = .ok (.i2l, 1) := by decide +kernel
theorem dX7_looks_36 : decode cX7_looks 36 = .ok (.invokestatic 85, 3) := by decide +kernel
theorem dX7_looks_39 : decode cX7_looks 39 = .ok (.ifCond .ne 8, 3) := by decide +kernel
theorem dX7_looks_42 : decode cX7_looks 42 = .ok (.aload_n 0, 1) := by decide +kernel
theorem dX7_looks_43 : decode cX7_looks 43 = .ok (.iconst 2, 1) := by decide +kernel
theorem dX7_looks_44 : decode cX7_looks 44 = .ok (.invokevirtual 129, 3) := by decide +kernel
theorem dX7_looks_47 : decode cX7_looks 47 = .ok (.aload_n 0, 1) := by decide +kernel
theorem dX7_looks_48 : decode cX7_looks 48 = .ok (.getfield 106, 3) := by decide +kernel
theorem dX7_looks_51 : decode cX7_looks 51 = .ok (.ireturn, 1) := by decide +kernel
theorem dX7_number_0 : decode cX7_number 0 = .ok (.aload_n 0, 1) := by decide +kernel
theorem dX7_number_1 : decode cX7_number 1 = .ok (.iload_n 1, 1) := by decide +kernel
theorem dX7_number_2 : decode cX7_number 2 = .ok (.iload_n 2, 1) := by decide +kernel
theorem dX7_number_3 : decode cX7_number 3 = .ok (.invokevirtual 139, 3) := by decide +kernel
theorem dX7_number_6 : decode cX7_number 6 = .ok (.istore_n 3, 1) := by decide +kernel
theorem dX7_number_7 : decode cX7_number 7 = .ok (.aload_n 0, 1) := by decide +kernel
theorem dX7_number_8 : decode cX7_number 8 = .ok (.invokevirtual 122, 3) := by decide +kernel
theorem dX7_number_11 : decode cX7_number 11 = .ok (.ifCond .eq 7, 3) := by decide +kernel
theorem dX7_number_14 : decode cX7_number 14 = .ok (.aload_n 0, 1) := by decide +kernel
theorem dX7_number_15 : decode cX7_number 15 = .ok (.invokevirtual 132, 3) := by decide +kernel
theorem dX7_number_18 : decode cX7_number 18 = .ok (.iload_n 3, 1) := by decide +kernel
theorem dX7_number_19 : decode cX7_number 19 = .ok (.ireturn, 1) := by decide +kernel
theorem dX7_beginsText_0 : decode cX7_beginsText 0 = .ok (.aload_n 0, 1) := by decide +kernel
theorem dX7_beginsText_1 : decode cX7_beginsText 1 = .ok (.aload_n 0, 1) := by decide +kernel
theorem dX7_beginsText_2 : decode cX7_beginsText 2 = .ok (.getfield 75, 3) := by decide +kernel
theorem dX7_beginsText_5 : decode cX7_beginsText 5 = .ok (.putfield 92, 3) := by decide +kernel
theorem dX7_beginsText_8 : decode cX7_beginsText 8 = .ok (.aload_n 0, 1) := by decide +kernel
theorem dX7_beginsText_9 : decode cX7_beginsText 9 = .ok (.iconst 0, 1) := by decide +kernel
theorem dX7_beginsText_10 : decode cX7_beginsText 10 = .ok (.putfield 75, 3) := by decide +kernel
theorem dX7_beginsText_13 : decode cX7_beginsText 13 = .ok (.aload_n 0, 1) := by decide +kernel
theorem dX7_beginsText_14 : decode cX7_beginsText 14 = .ok (.iconst 0, 1) := by decide +kernel
theorem dX7_beginsText_15 : decode cX7_beginsText 15 = .ok (.putfield 89, 3) := by decide +kernel
theorem dX7_beginsText_18 : decode cX7_beginsText 18 = .ok (.aload_n 0, 1) := by decide +kernel
theorem dX7_beginsText_19 : decode cX7_beginsText 19 = .ok (.iconst 0, 1) := by decide +kernel
theorem dX7_beginsText_20 : decode cX7_beginsText 20 = .ok (.putfield 119, 3) := by decide +kernel
theorem dX7_beginsText_23 : decode cX7_beginsText 23 = .ok (.aload_n 0, 1) := by decide +kernel
theorem dX7_beginsText_24 : decode cX7_beginsText 24 = .ok (.iconst (-1), 1) := by decide +kernel
theorem dX7_beginsText_25 : decode cX7_beginsText 25 = .ok (.putfield 13, 3) := by decide +kernel
theorem dX7_beginsText_28 : decode cX7_beginsText 28 = .ok (.aload_n 0, 1) := by decide +kernel
theorem dX7_beginsText_29 : decode cX7_beginsText 29 = .ok (.invokevirtual 132, 3) := by decide +kernel
theorem dX7_beginsText_32 : decode cX7_beginsText 32 = .ok (.return_, 1) := by decide +kernel
theorem dX7_endsText_0 : decode cX7_endsText 0 = .ok (.aload_n 0, 1) := by decide +kernel
theorem dX7_endsText_1 : decode cX7_endsText 1 = .ok (.aload_n 0, 1) := by decide +kernel
theorem dX7_endsText_2 : decode cX7_endsText 2 = .ok (.getfield 119, 3) := by decide +kernel
theorem dX7_endsText_5 : decode cX7_endsText 5 = .ok (.putfield 143, 3) := by decide +kernel
theorem dX7_endsText_8 : decode cX7_endsText 8 = .ok (.aload_n 0, 1) := by decide +kernel
theorem dX7_endsText_9 : decode cX7_endsText 9 = .ok (.aload_n 0, 1) := by decide +kernel
theorem dX7_endsText_10 : decode cX7_endsText 10 = .ok (.getfield 13, 3) := by decide +kernel
theorem dX7_endsText_13 : decode cX7_endsText 13 = .ok (.putfield 17, 3) := by decide +kernel
theorem dX7_endsText_16 : decode cX7_endsText 16 = .ok (.aload_n 0, 1) := by decide +kernel
theorem dX7_endsText_17 : decode cX7_endsText 17 = .ok (.aload_n 0, 1) := by decide +kernel
theorem dX7_endsText_18 : decode cX7_endsText 18 = .ok (.getfield 119, 3) := by decide +kernel
theorem dX7_endsText_21 : decode cX7_endsText 21 = .ok (.ifCond .ne 7, 3) := by decide +kernel
theorem dX7_endsText_24 : decode cX7_endsText 24 = .ok (.iconst 1, 1) := by decide +kernel
theorem dX7_endsText_25 : decode cX7_endsText 25 = .ok (.goto 4, 3) := by decide +kernel
theorem dX7_endsText_28 : decode cX7_endsText 28 = .ok (.iconst 0, 1) := by decide +kernel
theorem dX7_endsText_29 : decode cX7_endsText 29 = .ok (.invokevirtual 78, 3) := by decide +kernel
theorem dX7_endsText_32 : decode cX7_endsText 32 = .ok (.ireturn, 1) := by decide +kernel
theorem dX7_errorCode_0 : decode cX7_errorCode 0 = .ok (.aload_n 0, 1) := by decide +kernel
theorem dX7_errorCode_1 : decode cX7_errorCode 1 = .ok (.iconst 0, 1) := by decide +kernel
theorem dX7_errorCode_2 : decode cX7_errorCode 2 = .ok (.putfield 68, 3) := by decide +kernel
theorem dX7_errorCode_5 : decode cX7_errorCode 5 = .ok (.aload_n 0, 1) := by decide +kernel
theorem dX7_errorCode_6 : decode cX7_errorCode 6 = .ok (.getfield 143, 3) := by decide +kernel
theorem dX7_errorCode_9 : decode cX7_errorCode 9 = .ok (.ireturn, 1) := by decide +kernel
theorem dX7_errorPosition_0 : decode cX7_errorPosition 0 = .ok (.aload_n 0, 1) := by decide +kernel
theorem dX7_errorPosition_1 : decode cX7_errorPosition 1 = .ok (.iconst 0, 1) := by decide +kernel
theorem dX7_errorPosition_2 : decode cX7_errorPosition 2 = .ok (.putfield 68, 3) := by decide +kernel
theorem dX7_errorPosition_5 : decode cX7_errorPosition 5 = .ok (.aload_n 0, 1) := by decide +kernel
theorem dX7_errorPosition_6 : decode cX7_errorPosition 6 = .ok (.getfield 17, 3) := by decide +kernel
theorem dX7_errorPosition_9 : decode cX7_errorPosition 9 = .ok (.ireturn, 1) := by decide +kernel
theorem dX7_copiesRow_0 : decode cX7_copiesRow 0 = .ok (.iconst 0, 1) := by decide +kernel
theorem dX7_copiesRow_1 : decode cX7_copiesRow 1 = .ok (.istore 4, 2) := by decide +kernel
theorem dX7_copiesRow_3 : decode cX7_copiesRow 3 = .ok (.iload 4, 2) := by decide +kernel
theorem dX7_copiesRow_5 : decode cX7_copiesRow 5 = .ok (.sipush 1110, 3) := by decide +kernel
theorem dX7_copiesRow_8 : decode cX7_copiesRow 8 = .ok (.if_icmp .ge 21, 3) := by decide +kernel
theorem dX7_copiesRow_11 : decode cX7_copiesRow 11 = .ok (.aload_n 2, 1) := by decide +kernel
theorem dX7_copiesRow_12 : decode cX7_copiesRow 12 = .ok (.iload_n 3, 1) := by decide +kernel
theorem dX7_copiesRow_13 : decode cX7_copiesRow 13 = .ok (.iload 4, 2) := by decide +kernel
theorem dX7_copiesRow_15 : decode cX7_copiesRow 15 = .ok (.iadd, 1) := by decide +kernel
theorem dX7_copiesRow_16 : decode cX7_copiesRow 16 = .ok (.aload_n 0, 1) := by decide +kernel
theorem dX7_copiesRow_17 : decode cX7_copiesRow 17 = .ok (.iload_n 1, 1) := by decide +kernel
theorem dX7_copiesRow_18 : decode cX7_copiesRow 18 = .ok (.iload 4, 2) := by decide +kernel
theorem dX7_copiesRow_20 : decode cX7_copiesRow 20 = .ok (.iadd, 1) := by decide +kernel
theorem dX7_copiesRow_21 : decode cX7_copiesRow 21 = .ok (.iaload, 1) := by decide +kernel
theorem dX7_copiesRow_22 : decode cX7_copiesRow 22 = .ok (.iastore, 1) := by decide +kernel
theorem dX7_copiesRow_23 : decode cX7_copiesRow 23 = .ok (.iinc 4 1, 3) := by decide +kernel
theorem dX7_copiesRow_26 : decode cX7_copiesRow 26 = .ok (.goto (-23), 3) := by decide +kernel
theorem dX7_copiesRow_29 : decode cX7_copiesRow 29 = .ok (.return_, 1) := by decide +kernel
theorem dX7_clears_0 : decode cX7_clears 0 = .ok (.iconst 0, 1) := by decide +kernel
theorem dX7_clears_1 : decode cX7_clears 1 = .ok (.istore_n 1, 1) := by decide +kernel
theorem dX7_clears_2 : decode cX7_clears 2 = .ok (.iload_n 1, 1) := by decide +kernel
theorem dX7_clears_3 : decode cX7_clears 3 = .ok (.sipush 1110, 3) := by decide +kernel
theorem dX7_clears_6 : decode cX7_clears 6 = .ok (.if_icmp .ge 16, 3) := by decide +kernel
theorem dX7_clears_9 : decode cX7_clears 9 = .ok (.aload_n 0, 1) := by decide +kernel
theorem dX7_clears_10 : decode cX7_clears 10 = .ok (.getfield 20, 3) := by decide +kernel
theorem dX7_clears_13 : decode cX7_clears 13 = .ok (.iload_n 1, 1) := by decide +kernel
theorem dX7_clears_14 : decode cX7_clears 14 = .ok (.iconst 0, 1) := by decide +kernel
theorem dX7_clears_15 : decode cX7_clears 15 = .ok (.iastore, 1) := by decide +kernel
theorem dX7_clears_16 : decode cX7_clears 16 = .ok (.iinc 1 1, 3) := by decide +kernel
theorem dX7_clears_19 : decode cX7_clears 19 = .ok (.goto (-17), 3) := by decide +kernel
theorem dX7_clears_22 : decode cX7_clears 22 = .ok (.aload_n 0, 1) := by decide +kernel
theorem dX7_clears_23 : decode cX7_clears 23 = .ok (.getfield 20, 3) := by decide +kernel
theorem dX7_clears_26 : decode cX7_clears 26 = .ok (.iconst 0, 1) := by decide +kernel
theorem dX7_clears_27 : decode cX7_clears 27 = .ok (.iconst 4, 1) := by decide +kernel
theorem dX7_clears_28 : decode cX7_clears 28 = .ok (.iastore, 1) := by decide +kernel
theorem dX7_clears_29 : decode cX7_clears 29 = .ok (.aload_n 0, 1) := by decide +kernel
theorem dX7_clears_30 : decode cX7_clears 30 = .ok (.getfield 20, 3) := by decide +kernel
theorem dX7_clears_33 : decode cX7_clears 33 = .ok (.iconst 2, 1) := by decide +kernel
theorem dX7_clears_34 : decode cX7_clears 34 = .ok (.bipush 9, 2) := by decide +kernel
theorem dX7_clears_36 : decode cX7_clears 36 = .ok (.iastore, 1) := by decide +kernel
theorem dX7_clears_37 : decode cX7_clears 37 = .ok (.return_, 1) := by decide +kernel
theorem dX7_laysAside_0 : decode cX7_laysAside 0 = .ok (.aload_n 0, 1) := by decide +kernel
theorem dX7_laysAside_1 : decode cX7_laysAside 1 = .ok (.getfield 20, 3) := by decide +kernel
theorem dX7_laysAside_4 : decode cX7_laysAside 4 = .ok (.iconst 0, 1) := by decide +kernel
theorem dX7_laysAside_5 : decode cX7_laysAside 5 = .ok (.aload_n 0, 1) := by decide +kernel
theorem dX7_laysAside_6 : decode cX7_laysAside 6 = .ok (.getfield 26, 3) := by decide +kernel
theorem dX7_laysAside_9 : decode cX7_laysAside 9 = .ok (.iconst 0, 1) := by decide +kernel
theorem dX7_laysAside_10 : decode cX7_laysAside 10 = .ok (.invokestatic 146, 3) := by decide +kernel
theorem dX7_laysAside_13 : decode cX7_laysAside 13 = .ok (.return_, 1) := by decide +kernel
theorem dX7_keeps_0 : decode cX7_keeps 0 = .ok (.aload_n 0, 1) := by decide +kernel
theorem dX7_keeps_1 : decode cX7_keeps 1 = .ok (.getfield 150, 3) := by decide +kernel
theorem dX7_keeps_4 : decode cX7_keeps 4 = .ok (.bipush 6, 2) := by decide +kernel
theorem dX7_keeps_6 : decode cX7_keeps 6 = .ok (.if_icmp .ne 49, 3) := by decide +kernel
theorem dX7_keeps_9 : decode cX7_keeps 9 = .ok (.aload_n 0, 1) := by decide +kernel
theorem dX7_keeps_10 : decode cX7_keeps 10 = .ok (.dup, 1) := by decide +kernel
theorem dX7_keeps_11 : decode cX7_keeps 11 = .ok (.getfield 150, 3) := by decide +kernel
theorem dX7_keeps_14 : decode cX7_keeps 14 = .ok (.iconst 1, 1) := by decide +kernel
theorem dX7_keeps_15 : decode cX7_keeps 15 = .ok (.isub, 1) := by decide +kernel
theorem dX7_keeps_16 : decode cX7_keeps 16 = .ok (.putfield 150, 3) := by decide +kernel
theorem dX7_keeps_19 : decode cX7_keeps 19 = .ok (.iconst 0, 1) := by decide +kernel
theorem dX7_keeps_20 : decode cX7_keeps 20 = .ok (.istore_n 1, 1) := by decide +kernel
theorem dX7_keeps_21 : decode cX7_keeps 21 = .ok (.iload_n 1, 1) := by decide +kernel
theorem dX7_keeps_22 : decode cX7_keeps 22 = .ok (.sipush 1110, 3) := by decide +kernel
theorem dX7_keeps_25 : decode cX7_keeps 25 = .ok (.aload_n 0, 1) := by decide +kernel
theorem dX7_keeps_26 : decode cX7_keeps 26 = .ok (.getfield 150, 3) := by decide +kernel
theorem dX7_keeps_29 : decode cX7_keeps 29 = .ok (.imul, 1) := by decide +kernel
theorem dX7_keeps_30 : decode cX7_keeps 30 = .ok (.if_icmp .ge 25, 3) := by decide +kernel
theorem dX7_keeps_33 : decode cX7_keeps 33 = .ok (.aload_n 0, 1) := by decide +kernel
theorem dX7_keeps_34 : decode cX7_keeps 34 = .ok (.getfield 32, 3) := by decide +kernel
theorem dX7_keeps_37 : decode cX7_keeps 37 = .ok (.iload_n 1, 1) := by decide +kernel
theorem dX7_keeps_38 : decode cX7_keeps 38 = .ok (.aload_n 0, 1) := by decide +kernel
theorem dX7_keeps_39 : decode cX7_keeps 39 = .ok (.getfield 32, 3) := by decide +kernel
theorem dX7_keeps_42 : decode cX7_keeps 42 = .ok (.iload_n 1, 1) := by decide +kernel
theorem dX7_keeps_43 : decode cX7_keeps 43 = .ok (.sipush 1110, 3) := by decide +kernel
theorem dX7_keeps_46 : decode cX7_keeps 46 = .ok (.iadd, 1) := by decide +kernel
theorem dX7_keeps_47 : decode cX7_keeps 47 = .ok (.iaload, 1) := by decide +kernel
theorem dX7_keeps_48 : decode cX7_keeps 48 = .ok (.iastore, 1) := by decide +kernel
theorem dX7_keeps_49 : decode cX7_keeps 49 = .ok (.iinc 1 1, 3) := by decide +kernel
theorem dX7_keeps_52 : decode cX7_keeps 52 = .ok (.goto (-31), 3) := by decide +kernel
theorem dX7_keeps_55 : decode cX7_keeps 55 = .ok (.aload_n 0, 1) := by decide +kernel
theorem dX7_keeps_56 : decode cX7_keeps 56 = .ok (.getfield 26, 3) := by decide +kernel
theorem dX7_keeps_59 : decode cX7_keeps 59 = .ok (.iconst 0, 1) := by decide +kernel
theorem dX7_keeps_60 : decode cX7_keeps 60 = .ok (.aload_n 0, 1) := by decide +kernel
theorem dX7_keeps_61 : decode cX7_keeps 61 = .ok (.getfield 32, 3) := by decide +kernel
theorem dX7_keeps_64 : decode cX7_keeps 64 = .ok (.sipush 1110, 3) := by decide +kernel
theorem dX7_keeps_67 : decode cX7_keeps 67 = .ok (.aload_n 0, 1) := by decide +kernel
theorem dX7_keeps_68 : decode cX7_keeps 68 = .ok (.getfield 150, 3) := by decide +kernel
theorem dX7_keeps_71 : decode cX7_keeps 71 = .ok (.imul, 1) := by decide +kernel
theorem dX7_keeps_72 : decode cX7_keeps 72 = .ok (.invokestatic 146, 3) := by decide +kernel
theorem dX7_keeps_75 : decode cX7_keeps 75 = .ok (.aload_n 0, 1) := by decide +kernel
theorem dX7_keeps_76 : decode cX7_keeps 76 = .ok (.dup, 1) := by decide +kernel
theorem dX7_keeps_77 : decode cX7_keeps 77 = .ok (.getfield 150, 3) := by decide +kernel
theorem dX7_keeps_80 : decode cX7_keeps 80 = .ok (.iconst 1, 1) := by decide +kernel
theorem dX7_keeps_81 : decode cX7_keeps 81 = .ok (.iadd, 1) := by decide +kernel
theorem dX7_keeps_82 : decode cX7_keeps 82 = .ok (.putfield 150, 3) := by decide +kernel
theorem dX7_keeps_85 : decode cX7_keeps 85 = .ok (.return_, 1) := by decide +kernel
theorem dX7_kept_0 : decode cX7_kept 0 = .ok (.aload_n 0, 1) := by decide +kernel
theorem dX7_kept_1 : decode cX7_kept 1 = .ok (.invokevirtual 153, 3) := by decide +kernel
theorem dX7_kept_4 : decode cX7_kept 4 = .ok (.iload_n 1, 1) := by decide +kernel
theorem dX7_kept_5 : decode cX7_kept 5 = .ok (.ireturn, 1) := by decide +kernel
theorem dX7_undo_0 : decode cX7_undo 0 = .ok (.aload_n 0, 1) := by decide +kernel
theorem dX7_undo_1 : decode cX7_undo 1 = .ok (.iconst 0, 1) := by decide +kernel
theorem dX7_undo_2 : decode cX7_undo 2 = .ok (.putfield 68, 3) := by decide +kernel
theorem dX7_undo_5 : decode cX7_undo 5 = .ok (.aload_n 0, 1) := by decide +kernel
theorem dX7_undo_6 : decode cX7_undo 6 = .ok (.getfield 150, 3) := by decide +kernel
theorem dX7_undo_9 : decode cX7_undo 9 = .ok (.ifCond .ne 5, 3) := by decide +kernel
theorem dX7_undo_12 : decode cX7_undo 12 = .ok (.iconst (-1), 1) := by decide +kernel
theorem dX7_undo_13 : decode cX7_undo 13 = .ok (.ireturn, 1) := by decide +kernel
theorem dX7_undo_14 : decode cX7_undo 14 = .ok (.aload_n 0, 1) := by decide +kernel
theorem dX7_undo_15 : decode cX7_undo 15 = .ok (.dup, 1) := by decide +kernel
theorem dX7_undo_16 : decode cX7_undo 16 = .ok (.getfield 150, 3) := by decide +kernel
theorem dX7_undo_19 : decode cX7_undo 19 = .ok (.iconst 1, 1) := by decide +kernel
theorem dX7_undo_20 : decode cX7_undo 20 = .ok (.isub, 1) := by decide +kernel
theorem dX7_undo_21 : decode cX7_undo 21 = .ok (.putfield 150, 3) := by decide +kernel
theorem dX7_undo_24 : decode cX7_undo 24 = .ok (.aload_n 0, 1) := by decide +kernel
theorem dX7_undo_25 : decode cX7_undo 25 = .ok (.getfield 32, 3) := by decide +kernel
theorem dX7_undo_28 : decode cX7_undo 28 = .ok (.sipush 1110, 3) := by decide +kernel
theorem dX7_undo_31 : decode cX7_undo 31 = .ok (.aload_n 0, 1) := by decide +kernel
theorem dX7_undo_32 : decode cX7_undo 32 = .ok (.getfield 150, 3) := by decide +kernel
theorem dX7_undo_35 : decode cX7_undo 35 = .ok (.imul, 1) := by decide +kernel
theorem dX7_undo_36 : decode cX7_undo 36 = .ok (.aload_n 0, 1) := by decide +kernel
theorem dX7_undo_37 : decode cX7_undo 37 = .ok (.getfield 20, 3) := by decide +kernel
theorem dX7_undo_40 : decode cX7_undo 40 = .ok (.iconst 0, 1) := by decide +kernel
theorem dX7_undo_41 : decode cX7_undo 41 = .ok (.invokestatic 146, 3) := by decide +kernel
theorem dX7_undo_44 : decode cX7_undo 44 = .ok (.aload_n 0, 1) := by decide +kernel
theorem dX7_undo_45 : decode cX7_undo 45 = .ok (.getfield 150, 3) := by decide +kernel
theorem dX7_undo_48 : decode cX7_undo 48 = .ok (.ireturn, 1) := by decide +kernel
theorem dX7_save_0 : decode cX7_save 0 = .ok (.aload_n 0, 1) := by decide +kernel
theorem dX7_save_1 : decode cX7_save 1 = .ok (.iconst 0, 1) := by decide +kernel
theorem dX7_save_2 : decode cX7_save 2 = .ok (.putfield 68, 3) := by decide +kernel
theorem dX7_save_5 : decode cX7_save 5 = .ok (.aload_n 0, 1) := by decide +kernel
theorem dX7_save_6 : decode cX7_save 6 = .ok (.getfield 20, 3) := by decide +kernel
theorem dX7_save_9 : decode cX7_save 9 = .ok (.iconst 0, 1) := by decide +kernel
theorem dX7_save_10 : decode cX7_save 10 = .ok (.aload_n 0, 1) := by decide +kernel
theorem dX7_save_11 : decode cX7_save 11 = .ok (.getfield 23, 3) := by decide +kernel
theorem dX7_save_14 : decode cX7_save 14 = .ok (.iconst 0, 1) := by decide +kernel
theorem dX7_save_15 : decode cX7_save 15 = .ok (.invokestatic 146, 3) := by decide +kernel
theorem dX7_save_18 : decode cX7_save 18 = .ok (.aload_n 0, 1) := by decide +kernel
theorem dX7_save_19 : decode cX7_save 19 = .ok (.iconst 1, 1) := by decide +kernel
theorem dX7_save_20 : decode cX7_save 20 = .ok (.putfield 156, 3) := by decide +kernel
theorem dX7_save_23 : decode cX7_save 23 = .ok (.aload_n 0, 1) := by decide +kernel
theorem dX7_save_24 : decode cX7_save 24 = .ok (.getfield 20, 3) := by decide +kernel
theorem dX7_save_27 : decode cX7_save 27 = .ok (.iconst 1, 1) := by decide +kernel
theorem dX7_save_28 : decode cX7_save 28 = .ok (.iaload, 1) := by decide +kernel
theorem dX7_save_29 : decode cX7_save 29 = .ok (.ireturn, 1) := by decide +kernel
theorem dX7_restore_0 : decode cX7_restore 0 = .ok (.aload_n 0, 1) := by decide +kernel
theorem dX7_restore_1 : decode cX7_restore 1 = .ok (.aload_n 0, 1) := by decide +kernel
theorem dX7_restore_2 : decode cX7_restore 2 = .ok (.getfield 156, 3) := by decide +kernel
theorem dX7_restore_5 : decode cX7_restore 5 = .ok (.invokevirtual 78, 3) := by decide +kernel
theorem dX7_restore_8 : decode cX7_restore 8 = .ok (.ifCond .ne 5, 3) := by decide +kernel
theorem dX7_restore_11 : decode cX7_restore 11 = .ok (.iconst 0, 1) := by decide +kernel
theorem dX7_restore_12 : decode cX7_restore 12 = .ok (.ireturn, 1) := by decide +kernel
theorem dX7_restore_13 : decode cX7_restore 13 = .ok (.aload_n 0, 1) := by decide +kernel
theorem dX7_restore_14 : decode cX7_restore 14 = .ok (.getfield 23, 3) := by decide +kernel
theorem dX7_restore_17 : decode cX7_restore 17 = .ok (.iconst 0, 1) := by decide +kernel
theorem dX7_restore_18 : decode cX7_restore 18 = .ok (.aload_n 0, 1) := by decide +kernel
theorem dX7_restore_19 : decode cX7_restore 19 = .ok (.getfield 20, 3) := by decide +kernel
theorem dX7_restore_22 : decode cX7_restore 22 = .ok (.iconst 0, 1) := by decide +kernel
theorem dX7_restore_23 : decode cX7_restore 23 = .ok (.invokestatic 146, 3) := by decide +kernel
theorem dX7_restore_26 : decode cX7_restore 26 = .ok (.aload_n 0, 1) := by decide +kernel
theorem dX7_restore_27 : decode cX7_restore 27 = .ok (.iconst 0, 1) := by decide +kernel
theorem dX7_restore_28 : decode cX7_restore 28 = .ok (.putfield 150, 3) := by decide +kernel
theorem dX7_restore_31 : decode cX7_restore 31 = .ok (.aload_n 0, 1) := by decide +kernel
theorem dX7_restore_32 : decode cX7_restore 32 = .ok (.getfield 20, 3) := by decide +kernel
theorem dX7_restore_35 : decode cX7_restore 35 = .ok (.iconst 1, 1) := by decide +kernel
theorem dX7_restore_36 : decode cX7_restore 36 = .ok (.iaload, 1) := by decide +kernel
theorem dX7_restore_37 : decode cX7_restore 37 = .ok (.ireturn, 1) := by decide +kernel
theorem dX7_of_0 : decode cX7_of 0 = .ok (.aload_n 0, 1) := by decide +kernel
theorem dX7_of_1 : decode cX7_of 1 = .ok (.getfield 20, 3) := by decide +kernel
theorem dX7_of_4 : decode cX7_of 4 = .ok (.iconst 4, 1) := by decide +kernel
theorem dX7_of_5 : decode cX7_of 5 = .ok (.iconst 5, 1) := by decide +kernel
theorem dX7_of_6 : decode cX7_of 6 = .ok (.iload_n 1, 1) := by decide +kernel
theorem dX7_of_7 : decode cX7_of 7 = .ok (.imul, 1) := by decide +kernel
theorem dX7_of_8 : decode cX7_of 8 = .ok (.iadd, 1) := by decide +kernel
theorem dX7_of_9 : decode cX7_of 9 = .ok (.iload_n 2, 1) := by decide +kernel
theorem dX7_of_10 : decode cX7_of 10 = .ok (.iadd, 1) := by decide +kernel
theorem dX7_of_11 : decode cX7_of 11 = .ok (.iaload, 1) := by decide +kernel
theorem dX7_of_12 : decode cX7_of 12 = .ok (.ireturn, 1) := by decide +kernel
theorem dX7_sets_0 : decode cX7_sets 0 = .ok (.aload_n 0, 1) := by decide +kernel
theorem dX7_sets_1 : decode cX7_sets 1 = .ok (.getfield 20, 3) := by decide +kernel
theorem dX7_sets_4 : decode cX7_sets 4 = .ok (.iconst 4, 1) := by decide +kernel
theorem dX7_sets_5 : decode cX7_sets 5 = .ok (.iconst 5, 1) := by decide +kernel
theorem dX7_sets_6 : decode cX7_sets 6 = .ok (.iload_n 1, 1) := by decide +kernel
theorem dX7_sets_7 : decode cX7_sets 7 = .ok (.imul, 1) := by decide +kernel
theorem dX7_sets_8 : decode cX7_sets 8 = .ok (.iadd, 1) := by decide +kernel
theorem dX7_sets_9 : decode cX7_sets 9 = .ok (.iload_n 2, 1) := by decide +kernel
theorem dX7_sets_10 : decode cX7_sets 10 = .ok (.iadd, 1) := by decide +kernel
theorem dX7_sets_11 : decode cX7_sets 11 = .ok (.iload_n 3, 1) := by decide +kernel
theorem dX7_sets_12 : decode cX7_sets 12 = .ok (.iastore, 1) := by decide +kernel
theorem dX7_sets_13 : decode cX7_sets 13 = .ok (.return_, 1) := by decide +kernel
theorem dX7_ofBox_0 : decode cX7_ofBox 0 = .ok (.aload_n 0, 1) := by decide +kernel
theorem dX7_ofBox_1 : decode cX7_ofBox 1 = .ok (.getfield 20, 3) := by decide +kernel
theorem dX7_ofBox_4 : decode cX7_ofBox 4 = .ok (.bipush 54, 2) := by decide +kernel
theorem dX7_ofBox_6 : decode cX7_ofBox 6 = .ok (.bipush 6, 2) := by decide +kernel
theorem dX7_ofBox_8 : decode cX7_ofBox 8 = .ok (.iload_n 1, 1) := by decide +kernel
theorem dX7_ofBox_9 : decode cX7_ofBox 9 = .ok (.imul, 1) := by decide +kernel
theorem dX7_ofBox_10 : decode cX7_ofBox 10 = .ok (.iadd, 1) := by decide +kernel
theorem dX7_ofBox_11 : decode cX7_ofBox 11 = .ok (.iload_n 2, 1) := by decide +kernel
theorem dX7_ofBox_12 : decode cX7_ofBox 12 = .ok (.iadd, 1) := by decide +kernel
theorem dX7_ofBox_13 : decode cX7_ofBox 13 = .ok (.iaload, 1) := by decide +kernel
theorem dX7_ofBox_14 : decode cX7_ofBox 14 = .ok (.ireturn, 1) := by decide +kernel
theorem dX7_faceCell_0 : decode cX7_faceCell 0 = .ok (.sipush 150, 3) := by decide +kernel
theorem dX7_faceCell_3 : decode cX7_faceCell 3 = .ok (.sipush 480, 3) := by decide +kernel
theorem dX7_faceCell_6 : decode cX7_faceCell 6 = .ok (.iload_n 0, 1) := by decide +kernel
theorem dX7_faceCell_7 : decode cX7_faceCell 7 = .ok (.imul, 1) := by decide +kernel
theorem dX7_faceCell_8 : decode cX7_faceCell 8 = .ok (.iadd, 1) := by decide +kernel
theorem dX7_faceCell_9 : decode cX7_faceCell 9 = .ok (.bipush 8, 2) := by decide +kernel
theorem dX7_faceCell_11 : decode cX7_faceCell 11 = .ok (.iload_n 1, 1) := by decide +kernel
theorem dX7_faceCell_12 : decode cX7_faceCell 12 = .ok (.imul, 1) := by decide +kernel
theorem dX7_faceCell_13 : decode cX7_faceCell 13 = .ok (.iadd, 1) := by decide +kernel
theorem dX7_faceCell_14 : decode cX7_faceCell 14 = .ok (.iload_n 2, 1) := by decide +kernel
theorem dX7_faceCell_15 : decode cX7_faceCell 15 = .ok (.iadd, 1) := by decide +kernel
theorem dX7_faceCell_16 : decode cX7_faceCell 16 = .ok (.ireturn, 1) := by decide +kernel
theorem dX7_painted_0 : decode cX7_painted 0 = .ok (.aload_n 0, 1) := by decide +kernel
theorem dX7_painted_1 : decode cX7_painted 1 = .ok (.getfield 20, 3) := by decide +kernel
theorem dX7_painted_4 : decode cX7_painted 4 = .ok (.iload_n 1, 1) := by decide +kernel
theorem dX7_painted_5 : decode cX7_painted 5 = .ok (.iload_n 2, 1) := by decide +kernel
theorem dX7_painted_6 : decode cX7_painted 6 = .ok (.iload_n 3, 1) := by decide +kernel
theorem dX7_painted_7 : decode cX7_painted 7 = .ok (.invokestatic 160, 3) := by decide +kernel
theorem dX7_painted_10 : decode cX7_painted 10 = .ok (.iaload, 1) := by decide +kernel
theorem dX7_painted_11 : decode cX7_painted 11 = .ok (.ireturn, 1) := by decide +kernel
theorem dX7_firstOf_0 : decode cX7_firstOf 0 = .ok (.iconst 0, 1) := by decide +kernel
theorem dX7_firstOf_1 : decode cX7_firstOf 1 = .ok (.istore_n 2, 1) := by decide +kernel
theorem dX7_firstOf_2 : decode cX7_firstOf 2 = .ok (.iconst 0, 1) := by decide +kernel
theorem dX7_firstOf_3 : decode cX7_firstOf 3 = .ok (.istore_n 3, 1) := by decide +kernel
theorem dX7_firstOf_4 : decode cX7_firstOf 4 = .ok (.iload_n 3, 1) := by decide +kernel
theorem dX7_firstOf_5 : decode cX7_firstOf 5 = .ok (.iload_n 1, 1) := by decide +kernel
theorem dX7_firstOf_6 : decode cX7_firstOf 6 = .ok (.if_icmp .ge 18, 3) := by decide +kernel
theorem dX7_firstOf_9 : decode cX7_firstOf 9 = .ok (.iload_n 2, 1) := by decide +kernel
theorem dX7_firstOf_10 : decode cX7_firstOf 10 = .ok (.aload_n 0, 1) := by decide +kernel
theorem dX7_firstOf_11 : decode cX7_firstOf 11 = .ok (.iload_n 3, 1) := by decide +kernel
theorem dX7_firstOf_12 : decode cX7_firstOf 12 = .ok (.iconst 0, 1) := by decide +kernel
theorem dX7_firstOf_13 : decode cX7_firstOf 13 = .ok (.invokevirtual 164, 3) := by decide +kernel
theorem dX7_firstOf_16 : decode cX7_firstOf 16 = .ok (.iadd, 1) := by decide +kernel
theorem dX7_firstOf_17 : decode cX7_firstOf 17 = .ok (.istore_n 2, 1) := by decide +kernel
theorem dX7_firstOf_18 : decode cX7_firstOf 18 = .ok (.iinc 3 1, 3) := by decide +kernel
theorem dX7_firstOf_21 : decode cX7_firstOf 21 = .ok (.goto (-17), 3) := by decide +kernel
theorem dX7_firstOf_24 : decode cX7_firstOf 24 = .ok (.iload_n 2, 1) := by decide +kernel
theorem dX7_firstOf_25 : decode cX7_firstOf 25 = .ok (.ireturn, 1) := by decide +kernel
theorem dX7_columns_0 : decode cX7_columns 0 = .ok (.aload_n 0, 1) := by decide +kernel
theorem dX7_columns_1 : decode cX7_columns 1 = .ok (.aload_n 0, 1) := by decide +kernel
theorem dX7_columns_2 : decode cX7_columns 2 = .ok (.getfield 20, 3) := by decide +kernel
theorem dX7_columns_5 : decode cX7_columns 5 = .ok (.iconst 1, 1) := by decide +kernel
theorem dX7_columns_6 : decode cX7_columns 6 = .ok (.iaload, 1) := by decide +kernel
theorem dX7_columns_7 : decode cX7_columns 7 = .ok (.invokevirtual 167, 3) := by decide +kernel
theorem dX7_columns_10 : decode cX7_columns 10 = .ok (.ireturn, 1) := by decide +kernel
theorem dX7_cells_0 : decode cX7_cells 0 = .ok (.aload_n 0, 1) := by decide +kernel
theorem dX7_cells_1 : decode cX7_cells 1 = .ok (.invokevirtual 170, 3) := by decide +kernel
theorem dX7_cells_4 : decode cX7_cells 4 = .ok (.aload_n 0, 1) := by decide +kernel
theorem dX7_cells_5 : decode cX7_cells 5 = .ok (.getfield 20, 3) := by decide +kernel
theorem dX7_cells_8 : decode cX7_cells 8 = .ok (.iconst 0, 1) := by decide +kernel
theorem dX7_cells_9 : decode cX7_cells 9 = .ok (.iaload, 1) := by decide +kernel
theorem dX7_cells_10 : decode cX7_cells 10 = .ok (.imul, 1) := by decide +kernel
theorem dX7_cells_11 : decode cX7_cells 11 = .ok (.ireturn, 1) := by decide +kernel
theorem dX7_slatOf_0 : decode cX7_slatOf 0 = .ok (.iconst 0, 1) := by decide +kernel
theorem dX7_slatOf_1 : decode cX7_slatOf 1 = .ok (.istore_n 2, 1) := by decide +kernel
theorem dX7_slatOf_2 : decode cX7_slatOf 2 = .ok (.iload_n 1, 1) := by decide +kernel
theorem dX7_slatOf_3 : decode cX7_slatOf 3 = .ok (.istore_n 3, 1) := by decide +kernel
theorem dX7_slatOf_4 : decode cX7_slatOf 4 = .ok (.iload_n 3, 1) := by decide +kernel
theorem dX7_slatOf_5 : decode cX7_slatOf 5 = .ok (.aload_n 0, 1) := by decide +kernel
theorem dX7_slatOf_6 : decode cX7_slatOf 6 = .ok (.iload_n 2, 1) := by decide +kernel
theorem dX7_slatOf_7 : decode cX7_slatOf 7 = .ok (.iconst 0, 1) := by decide +kernel
theorem dX7_slatOf_8 : decode cX7_slatOf 8 = .ok (.invokevirtual 164, 3) := by decide +kernel
theorem dX7_slatOf_11 : decode cX7_slatOf 11 = .ok (.if_icmp .lt 18, 3) := by decide +kernel
theorem dX7_slatOf_14 : decode cX7_slatOf 14 = .ok (.iload_n 3, 1) := by decide +kernel
theorem dX7_slatOf_15 : decode cX7_slatOf 15 = .ok (.aload_n 0, 1) := by decide +kernel
theorem dX7_slatOf_16 : decode cX7_slatOf 16 = .ok (.iload_n 2, 1) := by decide +kernel
theorem dX7_slatOf_17 : decode cX7_slatOf 17 = .ok (.iconst 0, 1) := by decide +kernel
theorem dX7_slatOf_18 : decode cX7_slatOf 18 = .ok (.invokevirtual 164, 3) := by decide +kernel
theorem dX7_slatOf_21 : decode cX7_slatOf 21 = .ok (.isub, 1) := by decide +kernel
theorem dX7_slatOf_22 : decode cX7_slatOf 22 = .ok (.istore_n 3, 1) := by decide +kernel
theorem dX7_slatOf_23 : decode cX7_slatOf 23 = .ok (.iinc 2 1, 3) := by decide +kernel
theorem dX7_slatOf_26 : decode cX7_slatOf 26 = .ok (.goto (-22), 3) := by decide +kernel
theorem dX7_slatOf_29 : decode cX7_slatOf 29 = .ok (.iload_n 2, 1) := by decide +kernel
theorem dX7_slatOf_30 : decode cX7_slatOf 30 = .ok (.ireturn, 1) := by decide +kernel
theorem dX7_pictureAt_0 : decode cX7_pictureAt 0 = .ok (.iconst 0, 1) := by decide +kernel
theorem dX7_pictureAt_1 : decode cX7_pictureAt 1 = .ok (.istore 4, 2) := by decide +kernel
theorem dX7_pictureAt_3 : decode cX7_pictureAt 3 = .ok (.iconst 0, 1) := by decide +kernel
theorem dX7_pictureAt_4 : decode cX7_pictureAt 4 = .ok (.istore 5, 2) := by decide +kernel
theorem dX7_pictureAt_6 : decode cX7_pictureAt 6 = .ok (.iload 5, 2) := by decide +kernel
theorem dX7_pictureAt_8 : decode cX7_pictureAt 8 = .ok (.aload_n 0, 1) := by decide +kernel
theorem dX7_pictureAt_9 : decode cX7_pictureAt 9 = .ok (.getfield 20, 3) := by decide +kernel
theorem dX7_pictureAt_12 : decode cX7_pictureAt 12 = .ok (.iconst 3, 1) := by decide +kernel
theorem dX7_pictureAt_13 : decode cX7_pictureAt 13 = .ok (.iaload, 1) := by decide +kernel
theorem dX7_pictureAt_14 : decode cX7_pictureAt 14 = .ok (.if_icmp .ge 100, 3) := by decide +kernel
theorem dX7_pictureAt_17 : decode cX7_pictureAt 17 = .ok (.aload_n 0, 1) := by decide +kernel
theorem dX7_pictureAt_18 : decode cX7_pictureAt 18 = .ok (.iload 5, 2) := by decide +kernel
theorem dX7_pictureAt_20 : decode cX7_pictureAt 20 = .ok (.iconst 0, 1) := by decide +kernel
theorem dX7_pictureAt_21 : decode cX7_pictureAt 21 = .ok (.invokevirtual 174, 3) := by decide +kernel
theorem dX7_pictureAt_24 : decode cX7_pictureAt 24 = .ok (.iload_n 1, 1) := by decide +kernel
theorem dX7_pictureAt_25 : decode cX7_pictureAt 25 = .ok (.if_icmp .ne 61, 3) := by decide +kernel
theorem dX7_pictureAt_28 : decode cX7_pictureAt 28 = .ok (.iload_n 2, 1) := by decide +kernel
theorem dX7_pictureAt_29 : decode cX7_pictureAt 29 = .ok (.aload_n 0, 1) := by decide +kernel
theorem dX7_pictureAt_30 : decode cX7_pictureAt 30 = .ok (.iload 5, 2) := by decide +kernel
theorem dX7_pictureAt_32 : decode cX7_pictureAt 32 = .ok (.iconst 1, 1) := by decide +kernel
theorem dX7_pictureAt_33 : decode cX7_pictureAt 33 = .ok (.invokevirtual 174, 3) := by decide +kernel
theorem dX7_pictureAt_36 : decode cX7_pictureAt 36 = .ok (.isub, 1) := by decide +kernel
theorem dX7_pictureAt_37 : decode cX7_pictureAt 37 = .ok (.i2l, 1) := by decide +kernel
theorem dX7_pictureAt_38 : decode cX7_pictureAt 38 = .ok (.lconst 0, 1) := by decide +kernel
theorem dX7_pictureAt_39 : decode cX7_pictureAt 39 = .ok (.aload_n 0, 1) := by decide +kernel
theorem dX7_pictureAt_40 : decode cX7_pictureAt 40 = .ok (.iload 5, 2) := by decide +kernel
theorem dX7_pictureAt_42 : decode cX7_pictureAt 42 = .ok (.iconst 3, 1) := by decide +kernel
theorem dX7_pictureAt_43 : decode cX7_pictureAt 43 = .ok (.invokevirtual 174, 3) := by decide +kernel
theorem dX7_pictureAt_46 : decode cX7_pictureAt 46 = .ok (.iconst 1, 1) := by decide +kernel
theorem dX7_pictureAt_47 : decode cX7_pictureAt 47 = .ok (.isub, 1) := by decide +kernel
theorem dX7_pictureAt_48 : decode cX7_pictureAt 48 = .ok (.i2l, 1) := by decide +kernel
theorem dX7_pictureAt_49 : decode cX7_pictureAt 49 = .ok (.invokestatic 85, 3) := by decide +kernel
theorem dX7_pictureAt_52 : decode cX7_pictureAt 52 = .ok (.ifCond .eq 34, 3) := by decide +kernel
theorem dX7_pictureAt_55 : decode cX7_pictureAt 55 = .ok (.iload_n 3, 1) := by decide +kernel
theorem dX7_pictureAt_56 : decode cX7_pictureAt 56 = .ok (.aload_n 0, 1) := by decide +kernel
theorem dX7_pictureAt_57 : decode cX7_pictureAt 57 = .ok (.iload 5, 2) := by decide +kernel
theorem dX7_pictureAt_59 : decode cX7_pictureAt 59 = .ok (.iconst 2, 1) := by decide +kernel
theorem dX7_pictureAt_60 : decode cX7_pictureAt 60 = .ok (.invokevirtual 174, 3) := by decide +kernel
theorem dX7_pictureAt_63 : decode cX7_pictureAt 63 = .ok (.isub, 1) := by decide +kernel
theorem dX7_pictureAt_64 : decode cX7_pictureAt 64 = .ok (.i2l, 1) := by decide +kernel
theorem dX7_pictureAt_65 : decode cX7_pictureAt 65 = .ok (.lconst 0, 1) := by decide +kernel
theorem dX7_pictureAt_66 : decode cX7_pictureAt 66 = .ok (.aload_n 0, 1) := by decide +kernel
theorem dX7_pictureAt_67 : decode cX7_pictureAt 67 = .ok (.iload 5, 2) := by decide +kernel
theorem dX7_pictureAt_69 : decode cX7_pictureAt 69 = .ok (.iconst 4, 1) := by decide +kernel
theorem dX7_pictureAt_70 : decode cX7_pictureAt 70 = .ok (.invokevirtual 174, 3) := by decide +kernel
theorem dX7_pictureAt_73 : decode cX7_pictureAt 73 = .ok (.iconst 1, 1) := by decide +kernel
theorem dX7_pictureAt_74 : decode cX7_pictureAt 74 = .ok (.isub, 1) := by decide +kernel
theorem dX7_pictureAt_75 : decode cX7_pictureAt 75 = .ok (.i2l, 1) := by decide +kernel
theorem dX7_pictureAt_76 : decode cX7_pictureAt 76 = .ok (.invokestatic 85, 3) := by decide +kernel
theorem dX7_pictureAt_79 : decode cX7_pictureAt 79 = .ok (.ifCond .eq 7, 3) := by decide +kernel
theorem dX7_pictureAt_82 : decode cX7_pictureAt 82 = .ok (.iconst 1, 1) := by decide +kernel
theorem dX7_pictureAt_83 : decode cX7_pictureAt 83 = .ok (.goto 4, 3) := by decide +kernel
theorem dX7_pictureAt_86 : decode cX7_pictureAt 86 = .ok (.iconst 0, 1) := by decide +kernel
theorem dX7_pictureAt_87 : decode cX7_pictureAt 87 = .ok (.istore 6, 2) := by decide +kernel
theorem dX7_pictureAt_89 : decode cX7_pictureAt 89 = .ok (.iload 6, 2) := by decide +kernel
theorem dX7_pictureAt_91 : decode cX7_pictureAt 91 = .ok (.ifCond .eq 13, 3) := by decide +kernel
theorem dX7_pictureAt_94 : decode cX7_pictureAt 94 = .ok (.aload_n 0, 1) := by decide +kernel
theorem dX7_pictureAt_95 : decode cX7_pictureAt 95 = .ok (.iload 5, 2) := by decide +kernel
theorem dX7_pictureAt_97 : decode cX7_pictureAt 97 = .ok (.iconst 5, 1) := by decide +kernel
theorem dX7_pictureAt_98 : decode cX7_pictureAt 98 = .ok (.invokevirtual 174, 3) := by decide +kernel
theorem dX7_pictureAt_101 : decode cX7_pictureAt 101 = .ok (.goto 5, 3) := by decide +kernel
theorem dX7_pictureAt_104 : decode cX7_pictureAt 104 = .ok (.iload 4, 2) := by decide +kernel
theorem dX7_pictureAt_106 : decode cX7_pictureAt 106 = .ok (.istore 4, 2) := by decide +kernel
theorem dX7_pictureAt_108 : decode cX7_pictureAt 108 = .ok (.iinc 5 1, 3) := by decide +kernel
theorem dX7_pictureAt_111 : decode cX7_pictureAt 111 = .ok (.goto (-105), 3) := by decide +kernel
theorem dX7_pictureAt_114 : decode cX7_pictureAt 114 = .ok (.iload 4, 2) := by decide +kernel
theorem dX7_pictureAt_116 : decode cX7_pictureAt 116 = .ok (.ireturn, 1) := by decide +kernel
theorem dX7_repaints_0 : decode cX7_repaints 0 = .ok (.iconst 0, 1) := by decide +kernel
theorem dX7_repaints_1 : decode cX7_repaints 1 = .ok (.istore_n 3, 1) := by decide +kernel
theorem dX7_repaints_2 : decode cX7_repaints 2 = .ok (.aload_n 0, 1) := by decide +kernel
theorem dX7_repaints_3 : decode cX7_repaints 3 = .ok (.iload_n 1, 1) := by decide +kernel
theorem dX7_repaints_4 : decode cX7_repaints 4 = .ok (.invokevirtual 167, 3) := by decide +kernel
theorem dX7_repaints_7 : decode cX7_repaints 7 = .ok (.istore 4, 2) := by decide +kernel
theorem dX7_repaints_9 : decode cX7_repaints 9 = .ok (.iload 4, 2) := by decide +kernel
theorem dX7_repaints_11 : decode cX7_repaints 11 = .ok (.istore 5, 2) := by decide +kernel
theorem dX7_repaints_13 : decode cX7_repaints 13 = .ok (.iload 5, 2) := by decide +kernel
theorem dX7_repaints_15 : decode cX7_repaints 15 = .ok (.iload 4, 2) := by decide +kernel
theorem dX7_repaints_17 : decode cX7_repaints 17 = .ok (.aload_n 0, 1) := by decide +kernel
theorem dX7_repaints_18 : decode cX7_repaints 18 = .ok (.iload_n 1, 1) := by decide +kernel
theorem dX7_repaints_19 : decode cX7_repaints 19 = .ok (.iconst 0, 1) := by decide +kernel
theorem dX7_repaints_20 : decode cX7_repaints 20 = .ok (.invokevirtual 164, 3) := by decide +kernel
theorem dX7_repaints_23 : decode cX7_repaints 23 = .ok (.iadd, 1) := by decide +kernel
theorem dX7_repaints_24 : decode cX7_repaints 24 = .ok (.if_icmp .ge 80, 3) := by decide +kernel
theorem dX7_repaints_27 : decode cX7_repaints 27 = .ok (.iconst 0, 1) := by decide +kernel
theorem dX7_repaints_28 : decode cX7_repaints 28 = .ok (.istore 6, 2) := by decide +kernel
theorem dX7_repaints_30 : decode cX7_repaints 30 = .ok (.iload 6, 2) := by decide +kernel
theorem dX7_repaints_32 : decode cX7_repaints 32 = .ok (.aload_n 0, 1) := by decide +kernel
theorem dX7_repaints_33 : decode cX7_repaints 33 = .ok (.getfield 20, 3) := by decide +kernel
theorem dX7_repaints_36 : decode cX7_repaints 36 = .ok (.iconst 0, 1) := by decide +kernel
theorem dX7_repaints_37 : decode cX7_repaints 37 = .ok (.iaload, 1) := by decide +kernel
theorem dX7_repaints_38 : decode cX7_repaints 38 = .ok (.if_icmp .ge 60, 3) := by decide +kernel
theorem dX7_repaints_41 : decode cX7_repaints 41 = .ok (.aload_n 0, 1) := by decide +kernel
theorem dX7_repaints_42 : decode cX7_repaints 42 = .ok (.iload_n 2, 1) := by decide +kernel
theorem dX7_repaints_43 : decode cX7_repaints 43 = .ok (.iload 5, 2) := by decide +kernel
theorem dX7_repaints_45 : decode cX7_repaints 45 = .ok (.iload 6, 2) := by decide +kernel
theorem dX7_repaints_47 : decode cX7_repaints 47 = .ok (.invokevirtual 177, 3) := by decide +kernel
theorem dX7_repaints_50 : decode cX7_repaints 50 = .ok (.istore 7, 2) := by decide +kernel
theorem dX7_repaints_52 : decode cX7_repaints 52 = .ok (.iload_n 3, 1) := by decide +kernel
theorem dX7_repaints_53 : decode cX7_repaints 53 = .ok (.aload_n 0, 1) := by decide +kernel
theorem dX7_repaints_54 : decode cX7_repaints 54 = .ok (.iload_n 2, 1) := by decide +kernel
theorem dX7_repaints_55 : decode cX7_repaints 55 = .ok (.iload 5, 2) := by decide +kernel
theorem dX7_repaints_57 : decode cX7_repaints 57 = .ok (.iload 6, 2) := by decide +kernel
theorem dX7_repaints_59 : decode cX7_repaints 59 = .ok (.invokevirtual 180, 3) := by decide +kernel
theorem dX7_repaints_62 : decode cX7_repaints 62 = .ok (.iload 7, 2) := by decide +kernel
theorem dX7_repaints_64 : decode cX7_repaints 64 = .ok (.if_icmp .eq 7, 3) := by decide +kernel
theorem dX7_repaints_67 : decode cX7_repaints 67 = .ok (.iconst 1, 1) := by decide +kernel
theorem dX7_repaints_68 : decode cX7_repaints 68 = .ok (.goto 4, 3) := by decide +kernel
theorem dX7_repaints_71 : decode cX7_repaints 71 = .ok (.iconst 0, 1) := by decide +kernel
theorem dX7_repaints_72 : decode cX7_repaints 72 = .ok (.invokestatic 71, 3) := by decide +kernel
theorem dX7_repaints_75 : decode cX7_repaints 75 = .ok (.iadd, 1) := by decide +kernel
theorem dX7_repaints_76 : decode cX7_repaints 76 = .ok (.istore_n 3, 1) := by decide +kernel
theorem dX7_repaints_77 : decode cX7_repaints 77 = .ok (.aload_n 0, 1) := by decide +kernel
theorem dX7_repaints_78 : decode cX7_repaints 78 = .ok (.getfield 20, 3) := by decide +kernel
theorem dX7_repaints_81 : decode cX7_repaints 81 = .ok (.iload_n 2, 1) := by decide +kernel
theorem dX7_repaints_82 : decode cX7_repaints 82 = .ok (.iload 5, 2) := by decide +kernel
theorem dX7_repaints_84 : decode cX7_repaints 84 = .ok (.iload 6, 2) := by decide +kernel
theorem dX7_repaints_86 : decode cX7_repaints 86 = .ok (.invokestatic 160, 3) := by decide +kernel
theorem dX7_repaints_89 : decode cX7_repaints 89 = .ok (.iload 7, 2) := by decide +kernel
theorem dX7_repaints_91 : decode cX7_repaints 91 = .ok (.iastore, 1) := by decide +kernel
theorem dX7_repaints_92 : decode cX7_repaints 92 = .ok (.iinc 6 1, 3) := by decide +kernel
theorem dX7_repaints_95 : decode cX7_repaints 95 = .ok (.goto (-65), 3) := by decide +kernel
theorem dX7_repaints_98 : decode cX7_repaints 98 = .ok (.iinc 5 1, 3) := by decide +kernel
theorem dX7_repaints_101 : decode cX7_repaints 101 = .ok (.goto (-88), 3) := by decide +kernel
theorem dX7_repaints_104 : decode cX7_repaints 104 = .ok (.iload_n 3, 1) := by decide +kernel
theorem dX7_repaints_105 : decode cX7_repaints 105 = .ok (.ireturn, 1) := by decide +kernel
theorem dX7_unlike_0 : decode cX7_unlike 0 = .ok (.iconst 0, 1) := by decide +kernel
theorem dX7_unlike_1 : decode cX7_unlike 1 = .ok (.istore_n 3, 1) := by decide +kernel
theorem dX7_unlike_2 : decode cX7_unlike 2 = .ok (.aload_n 0, 1) := by decide +kernel
theorem dX7_unlike_3 : decode cX7_unlike 3 = .ok (.iload_n 1, 1) := by decide +kernel
theorem dX7_unlike_4 : decode cX7_unlike 4 = .ok (.invokevirtual 167, 3) := by decide +kernel
theorem dX7_unlike_7 : decode cX7_unlike 7 = .ok (.istore 4, 2) := by decide +kernel
theorem dX7_unlike_9 : decode cX7_unlike 9 = .ok (.iload 4, 2) := by decide +kernel
theorem dX7_unlike_11 : decode cX7_unlike 11 = .ok (.istore 5, 2) := by decide +kernel
theorem dX7_unlike_13 : decode cX7_unlike 13 = .ok (.iload 5, 2) := by decide +kernel
theorem dX7_unlike_15 : decode cX7_unlike 15 = .ok (.iload 4, 2) := by decide +kernel
theorem dX7_unlike_17 : decode cX7_unlike 17 = .ok (.aload_n 0, 1) := by decide +kernel
theorem dX7_unlike_18 : decode cX7_unlike 18 = .ok (.iload_n 1, 1) := by decide +kernel
theorem dX7_unlike_19 : decode cX7_unlike 19 = .ok (.iconst 0, 1) := by decide +kernel
theorem dX7_unlike_20 : decode cX7_unlike 20 = .ok (.invokevirtual 164, 3) := by decide +kernel
theorem dX7_unlike_23 : decode cX7_unlike 23 = .ok (.iadd, 1) := by decide +kernel
theorem dX7_unlike_24 : decode cX7_unlike 24 = .ok (.if_icmp .ge 61, 3) := by decide +kernel
theorem dX7_unlike_27 : decode cX7_unlike 27 = .ok (.iconst 0, 1) := by decide +kernel
theorem dX7_unlike_28 : decode cX7_unlike 28 = .ok (.istore 6, 2) := by decide +kernel
theorem dX7_unlike_30 : decode cX7_unlike 30 = .ok (.iload 6, 2) := by decide +kernel
theorem dX7_unlike_32 : decode cX7_unlike 32 = .ok (.aload_n 0, 1) := by decide +kernel
theorem dX7_unlike_33 : decode cX7_unlike 33 = .ok (.getfield 20, 3) := by decide +kernel
theorem dX7_unlike_36 : decode cX7_unlike 36 = .ok (.iconst 0, 1) := by decide +kernel
theorem dX7_unlike_37 : decode cX7_unlike 37 = .ok (.iaload, 1) := by decide +kernel
theorem dX7_unlike_38 : decode cX7_unlike 38 = .ok (.if_icmp .ge 41, 3) := by decide +kernel
theorem dX7_unlike_41 : decode cX7_unlike 41 = .ok (.iload_n 3, 1) := by decide +kernel
theorem dX7_unlike_42 : decode cX7_unlike 42 = .ok (.aload_n 0, 1) := by decide +kernel
theorem dX7_unlike_43 : decode cX7_unlike 43 = .ok (.iload_n 2, 1) := by decide +kernel
theorem dX7_unlike_44 : decode cX7_unlike 44 = .ok (.iload 5, 2) := by decide +kernel
theorem dX7_unlike_46 : decode cX7_unlike 46 = .ok (.iload 6, 2) := by decide +kernel
theorem dX7_unlike_48 : decode cX7_unlike 48 = .ok (.invokevirtual 180, 3) := by decide +kernel
theorem dX7_unlike_51 : decode cX7_unlike 51 = .ok (.aload_n 0, 1) := by decide +kernel
theorem dX7_unlike_52 : decode cX7_unlike 52 = .ok (.iload_n 2, 1) := by decide +kernel
theorem dX7_unlike_53 : decode cX7_unlike 53 = .ok (.iload 5, 2) := by decide +kernel
theorem dX7_unlike_55 : decode cX7_unlike 55 = .ok (.iload 6, 2) := by decide +kernel
theorem dX7_unlike_57 : decode cX7_unlike 57 = .ok (.invokevirtual 177, 3) := by decide +kernel
theorem dX7_unlike_60 : decode cX7_unlike 60 = .ok (.if_icmp .eq 7, 3) := by decide +kernel
theorem dX7_unlike_63 : decode cX7_unlike 63 = .ok (.iconst 1, 1) := by decide +kernel
theorem dX7_unlike_64 : decode cX7_unlike 64 = .ok (.goto 4, 3) := by decide +kernel
theorem dX7_unlike_67 : decode cX7_unlike 67 = .ok (.iconst 0, 1) := by decide +kernel
theorem dX7_unlike_68 : decode cX7_unlike 68 = .ok (.invokestatic 71, 3) := by decide +kernel
theorem dX7_unlike_71 : decode cX7_unlike 71 = .ok (.iadd, 1) := by decide +kernel
theorem dX7_unlike_72 : decode cX7_unlike 72 = .ok (.istore_n 3, 1) := by decide +kernel
theorem dX7_unlike_73 : decode cX7_unlike 73 = .ok (.iinc 6 1, 3) := by decide +kernel
theorem dX7_unlike_76 : decode cX7_unlike 76 = .ok (.goto (-46), 3) := by decide +kernel
theorem dX7_unlike_79 : decode cX7_unlike 79 = .ok (.iinc 5 1, 3) := by decide +kernel
theorem dX7_unlike_82 : decode cX7_unlike 82 = .ok (.goto (-69), 3) := by decide +kernel
theorem dX7_unlike_85 : decode cX7_unlike 85 = .ok (.iload_n 3, 1) := by decide +kernel
theorem dX7_unlike_86 : decode cX7_unlike 86 = .ok (.ireturn, 1) := by decide +kernel
theorem dX7_readsOnce_0 : decode cX7_readsOnce 0 = .ok (.aload_n 0, 1) := by decide +kernel
theorem dX7_readsOnce_1 : decode cX7_readsOnce 1 = .ok (.getfield 183, 3) := by decide +kernel
theorem dX7_readsOnce_4 : decode cX7_readsOnce 4 = .ok (.iload_n 2, 1) := by decide +kernel
theorem dX7_readsOnce_5 : decode cX7_readsOnce 5 = .ok (.invokestatic 186, 3) := by decide +kernel
theorem dX7_readsOnce_8 : decode cX7_readsOnce 8 = .ok (.ifCond .eq 8, 3) := by decide +kernel
theorem dX7_readsOnce_11 : decode cX7_readsOnce 11 = .ok (.aload_n 0, 1) := by decide +kernel
theorem dX7_readsOnce_12 : decode cX7_readsOnce 12 = .ok (.iconst 3, 1) := by decide +kernel
theorem dX7_readsOnce_13 : decode cX7_readsOnce 13 = .ok (.invokevirtual 129, 3) := by decide +kernel
theorem dX7_readsOnce_16 : decode cX7_readsOnce 16 = .ok (.aload_n 0, 1) := by decide +kernel
theorem dX7_readsOnce_17 : decode cX7_readsOnce 17 = .ok (.dup, 1) := by decide +kernel
theorem dX7_readsOnce_18 : decode cX7_readsOnce 18 = .ok (.getfield 183, 3) := by decide +kernel
theorem dX7_readsOnce_21 : decode cX7_readsOnce 21 = .ok (.iconst 1, 1) := by decide +kernel
theorem dX7_readsOnce_22 : decode cX7_readsOnce 22 = .ok (.iload_n 2, 1) := by decide +kernel
theorem dX7_readsOnce_23 : decode cX7_readsOnce 23 = .ok (.ishl, 1) := by decide +kernel
theorem dX7_readsOnce_24 : decode cX7_readsOnce 24 = .ok (.ior, 1) := by decide +kernel
theorem dX7_readsOnce_25 : decode cX7_readsOnce 25 = .ok (.putfield 183, 3) := by decide +kernel
theorem dX7_readsOnce_28 : decode cX7_readsOnce 28 = .ok (.aload_n 0, 1) := by decide +kernel
theorem dX7_readsOnce_29 : decode cX7_readsOnce 29 = .ok (.invokevirtual 122, 3) := by decide +kernel
theorem dX7_readsOnce_32 : decode cX7_readsOnce 32 = .ok (.ifCond .eq 7, 3) := by decide +kernel
theorem dX7_readsOnce_35 : decode cX7_readsOnce 35 = .ok (.aload_n 0, 1) := by decide +kernel
theorem dX7_readsOnce_36 : decode cX7_readsOnce 36 = .ok (.invokevirtual 132, 3) := by decide +kernel
theorem dX7_readsOnce_39 : decode cX7_readsOnce 39 = .ok (.aload_n 0, 1) := by decide +kernel
theorem dX7_readsOnce_40 : decode cX7_readsOnce 40 = .ok (.iconst 1, 1) := by decide +kernel
theorem dX7_readsOnce_41 : decode cX7_readsOnce 41 = .ok (.iload_n 3, 1) := by decide +kernel
theorem dX7_readsOnce_42 : decode cX7_readsOnce 42 = .ok (.invokevirtual 190, 3) := by decide +kernel
theorem dX7_readsOnce_45 : decode cX7_readsOnce 45 = .ok (.istore 4, 2) := by decide +kernel
theorem dX7_readsOnce_47 : decode cX7_readsOnce 47 = .ok (.aload_n 0, 1) := by decide +kernel
theorem dX7_readsOnce_48 : decode cX7_readsOnce 48 = .ok (.invokevirtual 122, 3) := by decide +kernel
theorem dX7_readsOnce_51 : decode cX7_readsOnce 51 = .ok (.ifCond .eq 11, 3) := by decide +kernel
theorem dX7_readsOnce_54 : decode cX7_readsOnce 54 = .ok (.aload_n 0, 1) := by decide +kernel
theorem dX7_readsOnce_55 : decode cX7_readsOnce 55 = .ok (.getfield 20, 3) := by decide +kernel
theorem dX7_readsOnce_58 : decode cX7_readsOnce 58 = .ok (.iload_n 1, 1) := by decide +kernel
theorem dX7_readsOnce_59 : decode cX7_readsOnce 59 = .ok (.iload 4, 2) := by decide +kernel
theorem dX7_readsOnce_61 : decode cX7_readsOnce 61 = .ok (.iastore, 1) := by decide +kernel
theorem dX7_readsOnce_62 : decode cX7_readsOnce 62 = .ok (.return_, 1) := by decide +kernel
theorem dX7_isSide_0 : decode cX7_isSide 0 = .ok (.aload_n 0, 1) := by decide +kernel
theorem dX7_isSide_1 : decode cX7_isSide 1 = .ok (.ldc2_w 193, 3) := by decide +kernel
theorem dX7_isSide_4 : decode cX7_isSide 4 = .ok (.invokevirtual 135, 3) := by decide +kernel
theorem dX7_isSide_7 : decode cX7_isSide 7 = .ok (.ifCond .ne 13, 3) := by decide +kernel
theorem dX7_isSide_10 : decode cX7_isSide 10 = .ok (.aload_n 0, 1) := by decide +kernel
theorem dX7_isSide_11 : decode cX7_isSide 11 = .ok (.ldc2_w 195, 3) := by decide +kernel
theorem dX7_isSide_14 : decode cX7_isSide 14 = .ok (.invokevirtual 135, 3) := by decide +kernel
theorem dX7_isSide_17 : decode cX7_isSide 17 = .ok (.ifCond .eq 7, 3) := by decide +kernel
theorem dX7_isSide_20 : decode cX7_isSide 20 = .ok (.iconst 1, 1) := by decide +kernel
theorem dX7_isSide_21 : decode cX7_isSide 21 = .ok (.goto 4, 3) := by decide +kernel
theorem dX7_isSide_24 : decode cX7_isSide 24 = .ok (.iconst 0, 1) := by decide +kernel
theorem dX7_isSide_25 : decode cX7_isSide 25 = .ok (.ireturn, 1) := by decide +kernel
theorem dX7_side_0 : decode cX7_side 0 = .ok (.aload_n 0, 1) := by decide +kernel
theorem dX7_side_1 : decode cX7_side 1 = .ok (.ldc2_w 195, 3) := by decide +kernel
theorem dX7_side_4 : decode cX7_side 4 = .ok (.invokevirtual 135, 3) := by decide +kernel
theorem dX7_side_7 : decode cX7_side 7 = .ok (.istore_n 1, 1) := by decide +kernel
theorem dX7_side_8 : decode cX7_side 8 = .ok (.aload_n 0, 1) := by decide +kernel
theorem dX7_side_9 : decode cX7_side 9 = .ok (.invokevirtual 197, 3) := by decide +kernel
theorem dX7_side_12 : decode cX7_side 12 = .ok (.ifCond .ne 8, 3) := by decide +kernel
theorem dX7_side_15 : decode cX7_side 15 = .ok (.aload_n 0, 1) := by decide +kernel
theorem dX7_side_16 : decode cX7_side 16 = .ok (.iconst 1, 1) := by decide +kernel
theorem dX7_side_17 : decode cX7_side 17 = .ok (.invokevirtual 129, 3) := by decide +kernel
theorem dX7_side_20 : decode cX7_side 20 = .ok (.aload_n 0, 1) := by decide +kernel
theorem dX7_side_21 : decode cX7_side 21 = .ok (.invokevirtual 122, 3) := by decide +kernel
theorem dX7_side_24 : decode cX7_side 24 = .ok (.ifCond .eq 7, 3) := by decide +kernel
theorem dX7_side_27 : decode cX7_side 27 = .ok (.aload_n 0, 1) := by decide +kernel
theorem dX7_side_28 : decode cX7_side 28 = .ok (.invokevirtual 132, 3) := by decide +kernel
theorem dX7_side_31 : decode cX7_side 31 = .ok (.iload_n 1, 1) := by decide +kernel
theorem dX7_side_32 : decode cX7_side 32 = .ok (.invokestatic 71, 3) := by decide +kernel
theorem dX7_side_35 : decode cX7_side 35 = .ok (.ireturn, 1) := by decide +kernel
theorem dX7_readsSlat_0 : decode cX7_readsSlat 0 = .ok (.aload_n 0, 1) := by decide +kernel
theorem dX7_readsSlat_1 : decode cX7_readsSlat 1 = .ok (.getfield 20, 3) := by decide +kernel
theorem dX7_readsSlat_4 : decode cX7_readsSlat 4 = .ok (.iconst 1, 1) := by decide +kernel
theorem dX7_readsSlat_5 : decode cX7_readsSlat 5 = .ok (.iaload, 1) := by decide +kernel
theorem dX7_readsSlat_6 : decode cX7_readsSlat 6 = .ok (.istore_n 1, 1) := by decide +kernel
theorem dX7_readsSlat_7 : decode cX7_readsSlat 7 = .ok (.iload_n 1, 1) := by decide +kernel
theorem dX7_readsSlat_8 : decode cX7_readsSlat 8 = .ok (.bipush 10, 2) := by decide +kernel
theorem dX7_readsSlat_10 : decode cX7_readsSlat 10 = .ok (.if_icmp .ne 8, 3) := by decide +kernel
theorem dX7_readsSlat_13 : decode cX7_readsSlat 13 = .ok (.aload_n 0, 1) := by decide +kernel
theorem dX7_readsSlat_14 : decode cX7_readsSlat 14 = .ok (.iconst 5, 1) := by decide +kernel
theorem dX7_readsSlat_15 : decode cX7_readsSlat 15 = .ok (.invokevirtual 129, 3) := by decide +kernel
theorem dX7_readsSlat_18 : decode cX7_readsSlat 18 = .ok (.aload_n 0, 1) := by decide +kernel
theorem dX7_readsSlat_19 : decode cX7_readsSlat 19 = .ok (.invokevirtual 122, 3) := by decide +kernel
theorem dX7_readsSlat_22 : decode cX7_readsSlat 22 = .ok (.ifCond .eq 7, 3) := by decide +kernel
theorem dX7_readsSlat_25 : decode cX7_readsSlat 25 = .ok (.aload_n 0, 1) := by decide +kernel
theorem dX7_readsSlat_26 : decode cX7_readsSlat 26 = .ok (.invokevirtual 132, 3) := by decide +kernel
theorem dX7_readsSlat_29 : decode cX7_readsSlat 29 = .ok (.aload_n 0, 1) := by decide +kernel
theorem dX7_readsSlat_30 : decode cX7_readsSlat 30 = .ok (.iconst 1, 1) := by decide +kernel
theorem dX7_readsSlat_31 : decode cX7_readsSlat 31 = .ok (.bipush 6, 2) := by decide +kernel
theorem dX7_readsSlat_33 : decode cX7_readsSlat 33 = .ok (.invokevirtual 190, 3) := by decide +kernel
theorem dX7_readsSlat_36 : decode cX7_readsSlat 36 = .ok (.istore_n 2, 1) := by decide +kernel
theorem dX7_readsSlat_37 : decode cX7_readsSlat 37 = .ok (.aload_n 0, 1) := by decide +kernel
theorem dX7_readsSlat_38 : decode cX7_readsSlat 38 = .ok (.invokevirtual 197, 3) := by decide +kernel
theorem dX7_readsSlat_41 : decode cX7_readsSlat 41 = .ok (.istore_n 3, 1) := by decide +kernel
theorem dX7_readsSlat_42 : decode cX7_readsSlat 42 = .ok (.iload_n 3, 1) := by decide +kernel
theorem dX7_readsSlat_43 : decode cX7_readsSlat 43 = .ok (.ifCond .eq 10, 3) := by decide +kernel
theorem dX7_readsSlat_46 : decode cX7_readsSlat 46 = .ok (.aload_n 0, 1) := by decide +kernel
theorem dX7_readsSlat_47 : decode cX7_readsSlat 47 = .ok (.invokevirtual 200, 3) := by decide +kernel
theorem dX7_readsSlat_50 : decode cX7_readsSlat 50 = .ok (.goto 4, 3) := by decide +kernel
theorem dX7_readsSlat_53 : decode cX7_readsSlat 53 = .ok (.iconst 0, 1) := by decide +kernel
theorem dX7_readsSlat_54 : decode cX7_readsSlat 54 = .ok (.istore 4, 2) := by decide +kernel
theorem dX7_readsSlat_56 : decode cX7_readsSlat 56 = .ok (.iload_n 3, 1) := by decide +kernel
theorem dX7_readsSlat_57 : decode cX7_readsSlat 57 = .ok (.ifCond .eq 12, 3) := by decide +kernel
theorem dX7_readsSlat_60 : decode cX7_readsSlat 60 = .ok (.aload_n 0, 1) := by decide +kernel
theorem dX7_readsSlat_61 : decode cX7_readsSlat 61 = .ok (.iconst 0, 1) := by decide +kernel
theorem dX7_readsSlat_62 : decode cX7_readsSlat 62 = .ok (.iconst 4, 1) := by decide +kernel
theorem dX7_readsSlat_63 : decode cX7_readsSlat 63 = .ok (.invokevirtual 190, 3) := by decide +kernel
theorem dX7_readsSlat_66 : decode cX7_readsSlat 66 = .ok (.goto 4, 3) := by decide +kernel
theorem dX7_readsSlat_69 : decode cX7_readsSlat 69 = .ok (.iconst 0, 1) := by decide +kernel
theorem dX7_readsSlat_70 : decode cX7_readsSlat 70 = .ok (.istore 5, 2) := by decide +kernel
theorem dX7_readsSlat_72 : decode cX7_readsSlat 72 = .ok (.aload_n 0, 1) := by decide +kernel
theorem dX7_readsSlat_73 : decode cX7_readsSlat 73 = .ok (.invokevirtual 122, 3) := by decide +kernel
theorem dX7_readsSlat_76 : decode cX7_readsSlat 76 = .ok (.ifCond .ne 4, 3) := by decide +kernel
theorem dX7_readsSlat_79 : decode cX7_readsSlat 79 = .ok (.return_, 1) := by decide +kernel
theorem dX7_readsSlat_80 : decode cX7_readsSlat 80 = .ok (.aload_n 0, 1) := by decide +kernel
theorem dX7_readsSlat_81 : decode cX7_readsSlat 81 = .ok (.iload_n 1, 1) := by decide +kernel
theorem dX7_readsSlat_82 : decode cX7_readsSlat 82 = .ok (.iconst 0, 1) := by decide +kernel
theorem dX7_readsSlat_83 : decode cX7_readsSlat 83 = .ok (.iload_n 2, 1) := by decide +kernel
theorem dX7_readsSlat_84 : decode cX7_readsSlat 84 = .ok (.invokevirtual 203, 3) := by decide +kernel
theorem dX7_readsSlat_87 : decode cX7_readsSlat 87 = .ok (.aload_n 0, 1) := by decide +kernel
theorem dX7_readsSlat_88 : decode cX7_readsSlat 88 = .ok (.iload_n 1, 1) := by decide +kernel
theorem dX7_readsSlat_89 : decode cX7_readsSlat 89 = .ok (.iconst 1, 1) := by decide +kernel
theorem dX7_readsSlat_90 : decode cX7_readsSlat 90 = .ok (.iload 4, 2) := by decide +kernel
theorem dX7_readsSlat_92 : decode cX7_readsSlat 92 = .ok (.iconst 1, 1) := by decide +kernel
theorem dX7_readsSlat_93 : decode cX7_readsSlat 93 = .ok (.if_icmp .ne 8, 3) := by decide +kernel
theorem dX7_readsSlat_96 : decode cX7_readsSlat 96 = .ok (.iload 5, 2) := by decide +kernel
theorem dX7_readsSlat_98 : decode cX7_readsSlat 98 = .ok (.goto 6, 3) := by decide +kernel
theorem dX7_readsSlat_101 : decode cX7_readsSlat 101 = .ok (.iload 5, 2) := by decide +kernel
theorem dX7_readsSlat_103 : decode cX7_readsSlat 103 = .ok (.ineg, 1) := by decide +kernel
theorem dX7_readsSlat_104 : decode cX7_readsSlat 104 = .ok (.invokevirtual 203, 3) := by decide +kernel
theorem dX7_readsSlat_107 : decode cX7_readsSlat 107 = .ok (.aload_n 0, 1) := by decide +kernel
theorem dX7_readsSlat_108 : decode cX7_readsSlat 108 = .ok (.iload_n 1, 1) := by decide +kernel
theorem dX7_readsSlat_109 : decode cX7_readsSlat 109 = .ok (.iconst 3, 1) := by decide +kernel
theorem dX7_readsSlat_110 : decode cX7_readsSlat 110 = .ok (.iconst 1, 1) := by decide +kernel
theorem dX7_readsSlat_111 : decode cX7_readsSlat 111 = .ok (.invokevirtual 203, 3) := by decide +kernel
theorem dX7_readsSlat_114 : decode cX7_readsSlat 114 = .ok (.aload_n 0, 1) := by decide +kernel
theorem dX7_readsSlat_115 : decode cX7_readsSlat 115 = .ok (.iload_n 1, 1) := by decide +kernel
theorem dX7_readsSlat_116 : decode cX7_readsSlat 116 = .ok (.iconst 4, 1) := by decide +kernel
theorem dX7_readsSlat_117 : decode cX7_readsSlat 117 = .ok (.iconst 1, 1) := by decide +kernel
theorem dX7_readsSlat_118 : decode cX7_readsSlat 118 = .ok (.invokevirtual 203, 3) := by decide +kernel
theorem dX7_readsSlat_121 : decode cX7_readsSlat 121 = .ok (.aload_n 0, 1) := by decide +kernel
theorem dX7_readsSlat_122 : decode cX7_readsSlat 122 = .ok (.getfield 20, 3) := by decide +kernel
theorem dX7_readsSlat_125 : decode cX7_readsSlat 125 = .ok (.iconst 1, 1) := by decide +kernel
theorem dX7_readsSlat_126 : decode cX7_readsSlat 126 = .ok (.dup2, 1) := by decide +kernel
theorem dX7_readsSlat_127 : decode cX7_readsSlat 127 = .ok (.iaload, 1) := by decide +kernel
theorem dX7_readsSlat_128 : decode cX7_readsSlat 128 = .ok (.iconst 1, 1) := by decide +kernel
theorem dX7_readsSlat_129 : decode cX7_readsSlat 129 = .ok (.iadd, 1) := by decide +kernel
theorem dX7_readsSlat_130 : decode cX7_readsSlat 130 = .ok (.iastore, 1) := by decide +kernel
theorem dX7_readsSlat_131 : decode cX7_readsSlat 131 = .ok (.return_, 1) := by decide +kernel
theorem dX7_setsBox_0 : decode cX7_setsBox 0 = .ok (.aload_n 0, 1) := by decide +kernel
theorem dX7_setsBox_1 : decode cX7_setsBox 1 = .ok (.getfield 20, 3) := by decide +kernel
theorem dX7_setsBox_4 : decode cX7_setsBox 4 = .ok (.bipush 54, 2) := by decide +kernel
theorem dX7_setsBox_6 : decode cX7_setsBox 6 = .ok (.bipush 6, 2) := by decide +kernel
theorem dX7_setsBox_8 : decode cX7_setsBox 8 = .ok (.iload_n 1, 1) := by decide +kernel
theorem dX7_setsBox_9 : decode cX7_setsBox 9 = .ok (.imul, 1) := by decide +kernel
theorem dX7_setsBox_10 : decode cX7_setsBox 10 = .ok (.iadd, 1) := by decide +kernel
theorem dX7_setsBox_11 : decode cX7_setsBox 11 = .ok (.iload_n 2, 1) := by decide +kernel
theorem dX7_setsBox_12 : decode cX7_setsBox 12 = .ok (.iadd, 1) := by decide +kernel
theorem dX7_setsBox_13 : decode cX7_setsBox 13 = .ok (.iload_n 3, 1) := by decide +kernel
theorem dX7_setsBox_14 : decode cX7_setsBox 14 = .ok (.iastore, 1) := by decide +kernel
theorem dX7_setsBox_15 : decode cX7_setsBox 15 = .ok (.return_, 1) := by decide +kernel
theorem dX7_readsBox_0 : decode cX7_readsBox 0 = .ok (.aload_n 0, 1) := by decide +kernel
theorem dX7_readsBox_1 : decode cX7_readsBox 1 = .ok (.getfield 20, 3) := by decide +kernel
theorem dX7_readsBox_4 : decode cX7_readsBox 4 = .ok (.iconst 3, 1) := by decide +kernel
theorem dX7_readsBox_5 : decode cX7_readsBox 5 = .ok (.iaload, 1) := by decide +kernel
theorem dX7_readsBox_6 : decode cX7_readsBox 6 = .ok (.istore_n 1, 1) := by decide +kernel
theorem dX7_readsBox_7 : decode cX7_readsBox 7 = .ok (.iload_n 1, 1) := by decide +kernel
theorem dX7_readsBox_8 : decode cX7_readsBox 8 = .ok (.bipush 16, 2) := by decide +kernel
theorem dX7_readsBox_10 : decode cX7_readsBox 10 = .ok (.if_icmp .ne 8, 3) := by decide +kernel
theorem dX7_readsBox_13 : decode cX7_readsBox 13 = .ok (.aload_n 0, 1) := by decide +kernel
theorem dX7_readsBox_14 : decode cX7_readsBox 14 = .ok (.iconst 5, 1) := by decide +kernel
theorem dX7_readsBox_15 : decode cX7_readsBox 15 = .ok (.invokevirtual 129, 3) := by decide +kernel
theorem dX7_readsBox_18 : decode cX7_readsBox 18 = .ok (.aload_n 0, 1) := by decide +kernel
theorem dX7_readsBox_19 : decode cX7_readsBox 19 = .ok (.invokevirtual 122, 3) := by decide +kernel
theorem dX7_readsBox_22 : decode cX7_readsBox 22 = .ok (.ifCond .eq 7, 3) := by decide +kernel
theorem dX7_readsBox_25 : decode cX7_readsBox 25 = .ok (.aload_n 0, 1) := by decide +kernel
theorem dX7_readsBox_26 : decode cX7_readsBox 26 = .ok (.invokevirtual 132, 3) := by decide +kernel
theorem dX7_readsBox_29 : decode cX7_readsBox 29 = .ok (.aload_n 0, 1) := by decide +kernel
theorem dX7_readsBox_30 : decode cX7_readsBox 30 = .ok (.invokevirtual 200, 3) := by decide +kernel
theorem dX7_readsBox_33 : decode cX7_readsBox 33 = .ok (.istore_n 2, 1) := by decide +kernel
theorem dX7_readsBox_34 : decode cX7_readsBox 34 = .ok (.aload_n 0, 1) := by decide +kernel
theorem dX7_readsBox_35 : decode cX7_readsBox 35 = .ok (.iconst 0, 1) := by decide +kernel
theorem dX7_readsBox_36 : decode cX7_readsBox 36 = .ok (.bipush 63, 2) := by decide +kernel
theorem dX7_readsBox_38 : decode cX7_readsBox 38 = .ok (.invokevirtual 190, 3) := by decide +kernel
theorem dX7_readsBox_41 : decode cX7_readsBox 41 = .ok (.istore_n 3, 1) := by decide +kernel
theorem dX7_readsBox_42 : decode cX7_readsBox 42 = .ok (.aload_n 0, 1) := by decide +kernel
theorem dX7_readsBox_43 : decode cX7_readsBox 43 = .ok (.iconst 0, 1) := by decide +kernel
theorem dX7_readsBox_44 : decode cX7_readsBox 44 = .ok (.bipush 63, 2) := by decide +kernel
theorem dX7_readsBox_46 : decode cX7_readsBox 46 = .ok (.invokevirtual 190, 3) := by decide +kernel
theorem dX7_readsBox_49 : decode cX7_readsBox 49 = .ok (.istore 4, 2) := by decide +kernel
theorem dX7_readsBox_51 : decode cX7_readsBox 51 = .ok (.aload_n 0, 1) := by decide +kernel
theorem dX7_readsBox_52 : decode cX7_readsBox 52 = .ok (.iconst 1, 1) := by decide +kernel
theorem dX7_readsBox_53 : decode cX7_readsBox 53 = .ok (.bipush 64, 2) := by decide +kernel
theorem dX7_readsBox_55 : decode cX7_readsBox 55 = .ok (.invokevirtual 190, 3) := by decide +kernel
theorem dX7_readsBox_58 : decode cX7_readsBox 58 = .ok (.istore 5, 2) := by decide +kernel
theorem dX7_readsBox_60 : decode cX7_readsBox 60 = .ok (.aload_n 0, 1) := by decide +kernel
theorem dX7_readsBox_61 : decode cX7_readsBox 61 = .ok (.iconst 1, 1) := by decide +kernel
theorem dX7_readsBox_62 : decode cX7_readsBox 62 = .ok (.bipush 64, 2) := by decide +kernel
theorem dX7_readsBox_64 : decode cX7_readsBox 64 = .ok (.invokevirtual 190, 3) := by decide +kernel
theorem dX7_readsBox_67 : decode cX7_readsBox 67 = .ok (.istore 6, 2) := by decide +kernel
theorem dX7_readsBox_69 : decode cX7_readsBox 69 = .ok (.aload_n 0, 1) := by decide +kernel
theorem dX7_readsBox_70 : decode cX7_readsBox 70 = .ok (.iconst 1, 1) := by decide +kernel
theorem dX7_readsBox_71 : decode cX7_readsBox 71 = .ok (.bipush 9, 2) := by decide +kernel
theorem dX7_readsBox_73 : decode cX7_readsBox 73 = .ok (.invokevirtual 190, 3) := by decide +kernel
theorem dX7_readsBox_76 : decode cX7_readsBox 76 = .ok (.istore 7, 2) := by decide +kernel
theorem dX7_readsBox_78 : decode cX7_readsBox 78 = .ok (.aload_n 0, 1) := by decide +kernel
theorem dX7_readsBox_79 : decode cX7_readsBox 79 = .ok (.invokevirtual 122, 3) := by decide +kernel
theorem dX7_readsBox_82 : decode cX7_readsBox 82 = .ok (.ifCond .eq 15, 3) := by decide +kernel
theorem dX7_readsBox_85 : decode cX7_readsBox 85 = .ok (.aload_n 0, 1) := by decide +kernel
theorem dX7_readsBox_86 : decode cX7_readsBox 86 = .ok (.iload_n 2, 1) := by decide +kernel
theorem dX7_readsBox_87 : decode cX7_readsBox 87 = .ok (.iload_n 3, 1) := by decide +kernel
theorem dX7_readsBox_88 : decode cX7_readsBox 88 = .ok (.iload 4, 2) := by decide +kernel
theorem dX7_readsBox_90 : decode cX7_readsBox 90 = .ok (.iload 5, 2) := by decide +kernel
theorem dX7_readsBox_92 : decode cX7_readsBox 92 = .ok (.iload 6, 2) := by decide +kernel
theorem dX7_readsBox_94 : decode cX7_readsBox 94 = .ok (.invokevirtual 207, 3) := by decide +kernel
theorem dX7_readsBox_97 : decode cX7_readsBox 97 = .ok (.aload_n 0, 1) := by decide +kernel
theorem dX7_readsBox_98 : decode cX7_readsBox 98 = .ok (.invokevirtual 122, 3) := by decide +kernel
theorem dX7_readsBox_101 : decode cX7_readsBox 101 = .ok (.ifCond .eq 11, 3) := by decide +kernel
theorem dX7_readsBox_104 : decode cX7_readsBox 104 = .ok (.aload_n 0, 1) := by decide +kernel
theorem dX7_readsBox_105 : decode cX7_readsBox 105 = .ok (.iload_n 1, 1) := by decide +kernel
theorem dX7_readsBox_106 : decode cX7_readsBox 106 = .ok (.iconst 5, 1) := by decide +kernel
theorem dX7_readsBox_107 : decode cX7_readsBox 107 = .ok (.iload 7, 2) := by decide +kernel
theorem dX7_readsBox_109 : decode cX7_readsBox 109 = .ok (.invokevirtual 211, 3) := by decide +kernel
theorem dX7_readsBox_112 : decode cX7_readsBox 112 = .ok (.return_, 1) := by decide +kernel
theorem dX7_laysBox_0 : decode cX7_laysBox 0 = .ok (.aload_n 0, 1) := by decide +kernel
theorem dX7_laysBox_1 : decode cX7_laysBox 1 = .ok (.getfield 20, 3) := by decide +kernel
theorem dX7_laysBox_4 : decode cX7_laysBox 4 = .ok (.iconst 3, 1) := by decide +kernel
theorem dX7_laysBox_5 : decode cX7_laysBox 5 = .ok (.iaload, 1) := by decide +kernel
theorem dX7_laysBox_6 : decode cX7_laysBox 6 = .ok (.istore 6, 2) := by decide +kernel
theorem dX7_laysBox_8 : decode cX7_laysBox 8 = .ok (.aload_n 0, 1) := by decide +kernel
theorem dX7_laysBox_9 : decode cX7_laysBox 9 = .ok (.iload 6, 2) := by decide +kernel
theorem dX7_laysBox_11 : decode cX7_laysBox 11 = .ok (.iconst 0, 1) := by decide +kernel
theorem dX7_laysBox_12 : decode cX7_laysBox 12 = .ok (.iload_n 1, 1) := by decide +kernel
theorem dX7_laysBox_13 : decode cX7_laysBox 13 = .ok (.invokevirtual 211, 3) := by decide +kernel
theorem dX7_laysBox_16 : decode cX7_laysBox 16 = .ok (.aload_n 0, 1) := by decide +kernel
theorem dX7_laysBox_17 : decode cX7_laysBox 17 = .ok (.iload 6, 2) := by decide +kernel
theorem dX7_laysBox_19 : decode cX7_laysBox 19 = .ok (.iconst 1, 1) := by decide +kernel
theorem dX7_laysBox_20 : decode cX7_laysBox 20 = .ok (.iload_n 2, 1) := by decide +kernel
theorem dX7_laysBox_21 : decode cX7_laysBox 21 = .ok (.invokevirtual 211, 3) := by decide +kernel
theorem dX7_laysBox_24 : decode cX7_laysBox 24 = .ok (.aload_n 0, 1) := by decide +kernel
theorem dX7_laysBox_25 : decode cX7_laysBox 25 = .ok (.iload 6, 2) := by decide +kernel
theorem dX7_laysBox_27 : decode cX7_laysBox 27 = .ok (.iconst 2, 1) := by decide +kernel
theorem dX7_laysBox_28 : decode cX7_laysBox 28 = .ok (.iload_n 3, 1) := by decide +kernel
theorem dX7_laysBox_29 : decode cX7_laysBox 29 = .ok (.invokevirtual 211, 3) := by decide +kernel
theorem dX7_laysBox_32 : decode cX7_laysBox 32 = .ok (.aload_n 0, 1) := by decide +kernel
theorem dX7_laysBox_33 : decode cX7_laysBox 33 = .ok (.iload 6, 2) := by decide +kernel
theorem dX7_laysBox_35 : decode cX7_laysBox 35 = .ok (.iconst 3, 1) := by decide +kernel
theorem dX7_laysBox_36 : decode cX7_laysBox 36 = .ok (.iload 4, 2) := by decide +kernel
theorem dX7_laysBox_38 : decode cX7_laysBox 38 = .ok (.invokevirtual 211, 3) := by decide +kernel
theorem dX7_laysBox_41 : decode cX7_laysBox 41 = .ok (.aload_n 0, 1) := by decide +kernel
theorem dX7_laysBox_42 : decode cX7_laysBox 42 = .ok (.iload 6, 2) := by decide +kernel
theorem dX7_laysBox_44 : decode cX7_laysBox 44 = .ok (.iconst 4, 1) := by decide +kernel
theorem dX7_laysBox_45 : decode cX7_laysBox 45 = .ok (.iload 5, 2) := by decide +kernel
theorem dX7_laysBox_47 : decode cX7_laysBox 47 = .ok (.invokevirtual 211, 3) := by decide +kernel
theorem dX7_laysBox_50 : decode cX7_laysBox 50 = .ok (.aload_n 0, 1) := by decide +kernel
theorem dX7_laysBox_51 : decode cX7_laysBox 51 = .ok (.getfield 20, 3) := by decide +kernel
theorem dX7_laysBox_54 : decode cX7_laysBox 54 = .ok (.iconst 3, 1) := by decide +kernel
theorem dX7_laysBox_55 : decode cX7_laysBox 55 = .ok (.dup2, 1) := by decide +kernel
theorem dX7_laysBox_56 : decode cX7_laysBox 56 = .ok (.iaload, 1) := by decide +kernel
theorem dX7_laysBox_57 : decode cX7_laysBox 57 = .ok (.iconst 1, 1) := by decide +kernel
theorem dX7_laysBox_58 : decode cX7_laysBox 58 = .ok (.iadd, 1) := by decide +kernel
theorem dX7_laysBox_59 : decode cX7_laysBox 59 = .ok (.iastore, 1) := by decide +kernel
theorem dX7_laysBox_60 : decode cX7_laysBox 60 = .ok (.return_, 1) := by decide +kernel
theorem dX7_statement_0 : decode cX7_statement 0 = .ok (.aload_n 0, 1) := by decide +kernel
theorem dX7_statement_1 : decode cX7_statement 1 = .ok (.ldc2_w 214, 3) := by decide +kernel
theorem dX7_statement_4 : decode cX7_statement 4 = .ok (.invokevirtual 135, 3) := by decide +kernel
theorem dX7_statement_7 : decode cX7_statement 7 = .ok (.ifCond .eq 14, 3) := by decide +kernel
theorem dX7_statement_10 : decode cX7_statement 10 = .ok (.aload_n 0, 1) := by decide +kernel
theorem dX7_statement_11 : decode cX7_statement 11 = .ok (.iconst 0, 1) := by decide +kernel
theorem dX7_statement_12 : decode cX7_statement 12 = .ok (.iconst 0, 1) := by decide +kernel
theorem dX7_statement_13 : decode cX7_statement 13 = .ok (.bipush 8, 2) := by decide +kernel
theorem dX7_statement_15 : decode cX7_statement 15 = .ok (.invokevirtual 216, 3) := by decide +kernel
theorem dX7_statement_18 : decode cX7_statement 18 = .ok (.goto 63, 3) := by decide +kernel
theorem dX7_statement_21 : decode cX7_statement 21 = .ok (.aload_n 0, 1) := by decide +kernel
theorem dX7_statement_22 : decode cX7_statement 22 = .ok (.ldc2_w 219, 3) := by decide +kernel
theorem dX7_statement_25 : decode cX7_statement 25 = .ok (.invokevirtual 135, 3) := by decide +kernel
theorem dX7_statement_28 : decode cX7_statement 28 = .ok (.ifCond .eq 14, 3) := by decide +kernel
theorem dX7_statement_31 : decode cX7_statement 31 = .ok (.aload_n 0, 1) := by decide +kernel
theorem dX7_statement_32 : decode cX7_statement 32 = .ok (.iconst 2, 1) := by decide +kernel
theorem dX7_statement_33 : decode cX7_statement 33 = .ok (.iconst 1, 1) := by decide +kernel
theorem dX7_statement_34 : decode cX7_statement 34 = .ok (.bipush 99, 2) := by decide +kernel
theorem dX7_statement_36 : decode cX7_statement 36 = .ok (.invokevirtual 216, 3) := by decide +kernel
theorem dX7_statement_39 : decode cX7_statement 39 = .ok (.goto 42, 3) := by decide +kernel
theorem dX7_statement_42 : decode cX7_statement 42 = .ok (.aload_n 0, 1) := by decide +kernel
theorem dX7_statement_43 : decode cX7_statement 43 = .ok (.ldc2_w 221, 3) := by decide +kernel
theorem dX7_statement_46 : decode cX7_statement 46 = .ok (.invokevirtual 135, 3) := by decide +kernel
theorem dX7_statement_49 : decode cX7_statement 49 = .ok (.ifCond .eq 10, 3) := by decide +kernel
theorem dX7_statement_52 : decode cX7_statement 52 = .ok (.aload_n 0, 1) := by decide +kernel
theorem dX7_statement_53 : decode cX7_statement 53 = .ok (.invokevirtual 223, 3) := by decide +kernel
theorem dX7_statement_56 : decode cX7_statement 56 = .ok (.goto 25, 3) := by decide +kernel
theorem dX7_statement_59 : decode cX7_statement 59 = .ok (.aload_n 0, 1) := by decide +kernel
theorem dX7_statement_60 : decode cX7_statement 60 = .ok (.ldc2_w 226, 3) := by decide +kernel
theorem dX7_statement_63 : decode cX7_statement 63 = .ok (.invokevirtual 135, 3) := by decide +kernel
theorem dX7_statement_66 : decode cX7_statement 66 = .ok (.ifCond .eq 10, 3) := by decide +kernel
theorem dX7_statement_69 : decode cX7_statement 69 = .ok (.aload_n 0, 1) := by decide +kernel
theorem dX7_statement_70 : decode cX7_statement 70 = .ok (.invokevirtual 228, 3) := by decide +kernel
theorem dX7_statement_73 : decode cX7_statement 73 = .ok (.goto 8, 3) := by decide +kernel
theorem dX7_statement_76 : decode cX7_statement 76 = .ok (.aload_n 0, 1) := by decide +kernel
theorem dX7_statement_77 : decode cX7_statement 77 = .ok (.iconst 1, 1) := by decide +kernel
theorem dX7_statement_78 : decode cX7_statement 78 = .ok (.invokevirtual 129, 3) := by decide +kernel
theorem dX7_statement_81 : decode cX7_statement 81 = .ok (.aload_n 0, 1) := by decide +kernel
theorem dX7_statement_82 : decode cX7_statement 82 = .ok (.bipush 59, 2) := by decide +kernel
theorem dX7_statement_84 : decode cX7_statement 84 = .ok (.invokevirtual 231, 3) := by decide +kernel
theorem dX7_statement_87 : decode cX7_statement 87 = .ok (.return_, 1) := by decide +kernel
theorem dX7_paintsAll_0 : decode cX7_paintsAll 0 = .ok (.iconst 0, 1) := by decide +kernel
theorem dX7_paintsAll_1 : decode cX7_paintsAll 1 = .ok (.istore_n 1, 1) := by decide +kernel
theorem dX7_paintsAll_2 : decode cX7_paintsAll 2 = .ok (.iconst 0, 1) := by decide +kernel
theorem dX7_paintsAll_3 : decode cX7_paintsAll 3 = .ok (.istore_n 2, 1) := by decide +kernel
theorem dX7_paintsAll_4 : decode cX7_paintsAll 4 = .ok (.iload_n 2, 1) := by decide +kernel
theorem dX7_paintsAll_5 : decode cX7_paintsAll 5 = .ok (.aload_n 0, 1) := by decide +kernel
theorem dX7_paintsAll_6 : decode cX7_paintsAll 6 = .ok (.getfield 20, 3) := by decide +kernel
theorem dX7_paintsAll_9 : decode cX7_paintsAll 9 = .ok (.iconst 1, 1) := by decide +kernel
theorem dX7_paintsAll_10 : decode cX7_paintsAll 10 = .ok (.iaload, 1) := by decide +kernel
theorem dX7_paintsAll_11 : decode cX7_paintsAll 11 = .ok (.if_icmp .ge 25, 3) := by decide +kernel
theorem dX7_paintsAll_14 : decode cX7_paintsAll 14 = .ok (.iload_n 1, 1) := by decide +kernel
theorem dX7_paintsAll_15 : decode cX7_paintsAll 15 = .ok (.aload_n 0, 1) := by decide +kernel
theorem dX7_paintsAll_16 : decode cX7_paintsAll 16 = .ok (.iload_n 2, 1) := by decide +kernel
theorem dX7_paintsAll_17 : decode cX7_paintsAll 17 = .ok (.iconst 0, 1) := by decide +kernel
theorem dX7_paintsAll_18 : decode cX7_paintsAll 18 = .ok (.invokevirtual 234, 3) := by decide +kernel
theorem dX7_paintsAll_21 : decode cX7_paintsAll 21 = .ok (.aload_n 0, 1) := by decide +kernel
theorem dX7_paintsAll_22 : decode cX7_paintsAll 22 = .ok (.iload_n 2, 1) := by decide +kernel
theorem dX7_paintsAll_23 : decode cX7_paintsAll 23 = .ok (.iconst 1, 1) := by decide +kernel
theorem dX7_paintsAll_24 : decode cX7_paintsAll 24 = .ok (.invokevirtual 234, 3) := by decide +kernel
theorem dX7_paintsAll_27 : decode cX7_paintsAll 27 = .ok (.iadd, 1) := by decide +kernel
theorem dX7_paintsAll_28 : decode cX7_paintsAll 28 = .ok (.iadd, 1) := by decide +kernel
theorem dX7_paintsAll_29 : decode cX7_paintsAll 29 = .ok (.istore_n 1, 1) := by decide +kernel
theorem dX7_paintsAll_30 : decode cX7_paintsAll 30 = .ok (.iinc 2 1, 3) := by decide +kernel
theorem dX7_paintsAll_33 : decode cX7_paintsAll 33 = .ok (.goto (-29), 3) := by decide +kernel
theorem dX7_paintsAll_36 : decode cX7_paintsAll 36 = .ok (.return_, 1) := by decide +kernel
theorem dX7_readText_0 : decode cX7_readText 0 = .ok (.aload_n 0, 1) := by decide +kernel
theorem dX7_readText_1 : decode cX7_readText 1 = .ok (.invokevirtual 237, 3) := by decide +kernel
theorem dX7_readText_4 : decode cX7_readText 4 = .ok (.aload_n 0, 1) := by decide +kernel
theorem dX7_readText_5 : decode cX7_readText 5 = .ok (.invokevirtual 240, 3) := by decide +kernel
theorem dX7_readText_8 : decode cX7_readText 8 = .ok (.aload_n 0, 1) := by decide +kernel
theorem dX7_readText_9 : decode cX7_readText 9 = .ok (.invokevirtual 65, 3) := by decide +kernel
theorem dX7_readText_12 : decode cX7_readText 12 = .ok (.aload_n 0, 1) := by decide +kernel
theorem dX7_readText_13 : decode cX7_readText 13 = .ok (.iconst 0, 1) := by decide +kernel
theorem dX7_readText_14 : decode cX7_readText 14 = .ok (.putfield 183, 3) := by decide +kernel
theorem dX7_readText_17 : decode cX7_readText 17 = .ok (.aload_n 0, 1) := by decide +kernel
theorem dX7_readText_18 : decode cX7_readText 18 = .ok (.invokevirtual 122, 3) := by decide +kernel
theorem dX7_readText_21 : decode cX7_readText 21 = .ok (.ifCond .eq 17, 3) := by decide +kernel
theorem dX7_readText_24 : decode cX7_readText 24 = .ok (.aload_n 0, 1) := by decide +kernel
theorem dX7_readText_25 : decode cX7_readText 25 = .ok (.getfield 109, 3) := by decide +kernel
theorem dX7_readText_28 : decode cX7_readText 28 = .ok (.ifCond .eq 10, 3) := by decide +kernel
theorem dX7_readText_31 : decode cX7_readText 31 = .ok (.aload_n 0, 1) := by decide +kernel
theorem dX7_readText_32 : decode cX7_readText 32 = .ok (.invokevirtual 243, 3) := by decide +kernel
theorem dX7_readText_35 : decode cX7_readText 35 = .ok (.goto (-18), 3) := by decide +kernel
theorem dX7_readText_38 : decode cX7_readText 38 = .ok (.aload_n 0, 1) := by decide +kernel
theorem dX7_readText_39 : decode cX7_readText 39 = .ok (.invokevirtual 246, 3) := by decide +kernel
theorem dX7_readText_42 : decode cX7_readText 42 = .ok (.ifCond .ne 18, 3) := by decide +kernel
theorem dX7_readText_45 : decode cX7_readText 45 = .ok (.aload_n 0, 1) := by decide +kernel
theorem dX7_readText_46 : decode cX7_readText 46 = .ok (.getfield 26, 3) := by decide +kernel
theorem dX7_readText_49 : decode cX7_readText 49 = .ok (.iconst 0, 1) := by decide +kernel
theorem dX7_readText_50 : decode cX7_readText 50 = .ok (.aload_n 0, 1) := by decide +kernel
theorem dX7_readText_51 : decode cX7_readText 51 = .ok (.getfield 20, 3) := by decide +kernel
theorem dX7_readText_54 : decode cX7_readText 54 = .ok (.iconst 0, 1) := by decide +kernel
theorem dX7_readText_55 : decode cX7_readText 55 = .ok (.invokestatic 146, 3) := by decide +kernel
theorem dX7_readText_58 : decode cX7_readText 58 = .ok (.iconst 0, 1) := by decide +kernel
theorem dX7_readText_59 : decode cX7_readText 59 = .ok (.ireturn, 1) := by decide +kernel
theorem dX7_readText_60 : decode cX7_readText 60 = .ok (.aload_n 0, 1) := by decide +kernel
theorem dX7_readText_61 : decode cX7_readText 61 = .ok (.invokevirtual 249, 3) := by decide +kernel
theorem dX7_readText_64 : decode cX7_readText 64 = .ok (.aload_n 0, 1) := by decide +kernel
theorem dX7_readText_65 : decode cX7_readText 65 = .ok (.iconst 0, 1) := by decide +kernel
theorem dX7_readText_66 : decode cX7_readText 66 = .ok (.putfield 150, 3) := by decide +kernel
theorem dX7_readText_69 : decode cX7_readText 69 = .ok (.aload_n 0, 1) := by decide +kernel
theorem dX7_readText_70 : decode cX7_readText 70 = .ok (.getfield 20, 3) := by decide +kernel
theorem dX7_readText_73 : decode cX7_readText 73 = .ok (.iconst 1, 1) := by decide +kernel
theorem dX7_readText_74 : decode cX7_readText 74 = .ok (.iaload, 1) := by decide +kernel
theorem dX7_readText_75 : decode cX7_readText 75 = .ok (.ireturn, 1) := by decide +kernel
theorem dX7_greater_0 : decode cX7_greater 0 = .ok (.iload_n 0, 1) := by decide +kernel
theorem dX7_greater_1 : decode cX7_greater 1 = .ok (.iload_n 1, 1) := by decide +kernel
theorem dX7_greater_2 : decode cX7_greater 2 = .ok (.if_icmp .le 7, 3) := by decide +kernel
theorem dX7_greater_5 : decode cX7_greater 5 = .ok (.iload_n 0, 1) := by decide +kernel
theorem dX7_greater_6 : decode cX7_greater 6 = .ok (.goto 4, 3) := by decide +kernel
theorem dX7_greater_9 : decode cX7_greater 9 = .ok (.iload_n 1, 1) := by decide +kernel
theorem dX7_greater_10 : decode cX7_greater 10 = .ok (.ireturn, 1) := by decide +kernel
theorem dX7_lesser_0 : decode cX7_lesser 0 = .ok (.iload_n 0, 1) := by decide +kernel
theorem dX7_lesser_1 : decode cX7_lesser 1 = .ok (.iload_n 1, 1) := by decide +kernel
theorem dX7_lesser_2 : decode cX7_lesser 2 = .ok (.if_icmp .ge 7, 3) := by decide +kernel
theorem dX7_lesser_5 : decode cX7_lesser 5 = .ok (.iload_n 0, 1) := by decide +kernel
theorem dX7_lesser_6 : decode cX7_lesser 6 = .ok (.goto 4, 3) := by decide +kernel
theorem dX7_lesser_9 : decode cX7_lesser 9 = .ok (.iload_n 1, 1) := by decide +kernel
theorem dX7_lesser_10 : decode cX7_lesser 10 = .ok (.ireturn, 1) := by decide +kernel
theorem dX7_held_0 : decode cX7_held 0 = .ok (.iload_n 1, 1) := by decide +kernel
theorem dX7_held_1 : decode cX7_held 1 = .ok (.ineg, 1) := by decide +kernel
theorem dX7_held_2 : decode cX7_held 2 = .ok (.iload_n 1, 1) := by decide +kernel
theorem dX7_held_3 : decode cX7_held 3 = .ok (.iload_n 0, 1) := by decide +kernel
theorem dX7_held_4 : decode cX7_held 4 = .ok (.invokestatic 252, 3) := by decide +kernel
theorem dX7_held_7 : decode cX7_held 7 = .ok (.invokestatic 255, 3) := by decide +kernel
theorem dX7_held_10 : decode cX7_held 10 = .ok (.ireturn, 1) := by decide +kernel
theorem dX7_leanOf_0 : decode cX7_leanOf 0 = .ok (.iload_n 2, 1) := by decide +kernel
theorem dX7_leanOf_1 : decode cX7_leanOf 1 = .ok (.aload_n 0, 1) := by decide +kernel
theorem dX7_leanOf_2 : decode cX7_leanOf 2 = .ok (.iload_n 1, 1) := by decide +kernel
theorem dX7_leanOf_3 : decode cX7_leanOf 3 = .ok (.iconst 1, 1) := by decide +kernel
theorem dX7_leanOf_4 : decode cX7_leanOf 4 = .ok (.invokevirtual 164, 3) := by decide +kernel
theorem dX7_leanOf_7 : decode cX7_leanOf 7 = .ok (.isub, 1) := by decide +kernel
theorem dX7_leanOf_8 : decode cX7_leanOf 8 = .ok (.bipush 6, 2) := by decide +kernel
theorem dX7_leanOf_10 : decode cX7_leanOf 10 = .ok (.invokestatic 258, 3) := by decide +kernel
theorem dX7_leanOf_13 : decode cX7_leanOf 13 = .ok (.ireturn, 1) := by decide +kernel
theorem dX7_seamBehind_0 : decode cX7_seamBehind 0 = .ok (.iload_n 1, 1) := by decide +kernel
theorem dX7_seamBehind_1 : decode cX7_seamBehind 1 = .ok (.aload_n 0, 1) := by decide +kernel
theorem dX7_seamBehind_2 : decode cX7_seamBehind 2 = .ok (.getfield 20, 3) := by decide +kernel
theorem dX7_seamBehind_5 : decode cX7_seamBehind 5 = .ok (.iconst 1, 1) := by decide +kernel
theorem dX7_seamBehind_6 : decode cX7_seamBehind 6 = .ok (.iaload, 1) := by decide +kernel
theorem dX7_seamBehind_7 : decode cX7_seamBehind 7 = .ok (.iconst 1, 1) := by decide +kernel
theorem dX7_seamBehind_8 : decode cX7_seamBehind 8 = .ok (.isub, 1) := by decide +kernel
theorem dX7_seamBehind_9 : decode cX7_seamBehind 9 = .ok (.if_icmp .ne 7, 3) := by decide +kernel
theorem dX7_seamBehind_12 : decode cX7_seamBehind 12 = .ok (.iconst 0, 1) := by decide +kernel
theorem dX7_seamBehind_13 : decode cX7_seamBehind 13 = .ok (.goto 18, 3) := by decide +kernel
theorem dX7_seamBehind_16 : decode cX7_seamBehind 16 = .ok (.aload_n 0, 1) := by decide +kernel
theorem dX7_seamBehind_17 : decode cX7_seamBehind 17 = .ok (.iload_n 1, 1) := by decide +kernel
theorem dX7_seamBehind_18 : decode cX7_seamBehind 18 = .ok (.iconst 1, 1) := by decide +kernel
theorem dX7_seamBehind_19 : decode cX7_seamBehind 19 = .ok (.invokevirtual 164, 3) := by decide +kernel
theorem dX7_seamBehind_22 : decode cX7_seamBehind 22 = .ok (.aload_n 0, 1) := by decide +kernel
theorem dX7_seamBehind_23 : decode cX7_seamBehind 23 = .ok (.iload_n 1, 1) := by decide +kernel
theorem dX7_seamBehind_24 : decode cX7_seamBehind 24 = .ok (.iconst 1, 1) := by decide +kernel
theorem dX7_seamBehind_25 : decode cX7_seamBehind 25 = .ok (.iadd, 1) := by decide +kernel
theorem dX7_seamBehind_26 : decode cX7_seamBehind 26 = .ok (.iconst 1, 1) := by decide +kernel
theorem dX7_seamBehind_27 : decode cX7_seamBehind 27 = .ok (.invokevirtual 164, 3) := by decide +kernel
theorem dX7_seamBehind_30 : decode cX7_seamBehind 30 = .ok (.isub, 1) := by decide +kernel
theorem dX7_seamBehind_31 : decode cX7_seamBehind 31 = .ok (.ireturn, 1) := by decide +kernel
theorem dX7_isHidden_0 : decode cX7_isHidden 0 = .ok (.aload_n 0, 1) := by decide +kernel
theorem dX7_isHidden_1 : decode cX7_isHidden 1 = .ok (.iload_n 1, 1) := by decide +kernel
theorem dX7_isHidden_2 : decode cX7_isHidden 2 = .ok (.iconst 0, 1) := by decide +kernel
theorem dX7_isHidden_3 : decode cX7_isHidden 3 = .ok (.invokevirtual 164, 3) := by decide +kernel
theorem dX7_isHidden_6 : decode cX7_isHidden 6 = .ok (.istore 4, 2) := by decide +kernel
theorem dX7_isHidden_8 : decode cX7_isHidden 8 = .ok (.iload 4, 2) := by decide +kernel
theorem dX7_isHidden_10 : decode cX7_isHidden 10 = .ok (.iload_n 3, 1) := by decide +kernel
theorem dX7_isHidden_11 : decode cX7_isHidden 11 = .ok (.iload_n 3, 1) := by decide +kernel
theorem dX7_isHidden_12 : decode cX7_isHidden 12 = .ok (.ineg, 1) := by decide +kernel
theorem dX7_isHidden_13 : decode cX7_isHidden 13 = .ok (.invokestatic 255, 3) := by decide +kernel
theorem dX7_isHidden_16 : decode cX7_isHidden 16 = .ok (.imul, 1) := by decide +kernel
theorem dX7_isHidden_17 : decode cX7_isHidden 17 = .ok (.iconst 5, 1) := by decide +kernel
theorem dX7_isHidden_18 : decode cX7_isHidden 18 = .ok (.iadd, 1) := by decide +kernel
theorem dX7_isHidden_19 : decode cX7_isHidden 19 = .ok (.bipush 6, 2) := by decide +kernel
theorem dX7_isHidden_21 : decode cX7_isHidden 21 = .ok (.idiv, 1) := by decide +kernel
theorem dX7_isHidden_22 : decode cX7_isHidden 22 = .ok (.istore 5, 2) := by decide +kernel
theorem dX7_isHidden_24 : decode cX7_isHidden 24 = .ok (.iload_n 3, 1) := by decide +kernel
theorem dX7_isHidden_25 : decode cX7_isHidden 25 = .ok (.ifCond .le 20, 3) := by decide +kernel
theorem dX7_isHidden_28 : decode cX7_isHidden 28 = .ok (.iload_n 2, 1) := by decide +kernel
theorem dX7_isHidden_29 : decode cX7_isHidden 29 = .ok (.iload 4, 2) := by decide +kernel
theorem dX7_isHidden_31 : decode cX7_isHidden 31 = .ok (.iload 5, 2) := by decide +kernel
theorem dX7_isHidden_33 : decode cX7_isHidden 33 = .ok (.isub, 1) := by decide +kernel
theorem dX7_isHidden_34 : decode cX7_isHidden 34 = .ok (.if_icmp .ge 7, 3) := by decide +kernel
theorem dX7_isHidden_37 : decode cX7_isHidden 37 = .ok (.iconst 1, 1) := by decide +kernel
theorem dX7_isHidden_38 : decode cX7_isHidden 38 = .ok (.goto 18, 3) := by decide +kernel
theorem dX7_isHidden_41 : decode cX7_isHidden 41 = .ok (.iconst 0, 1) := by decide +kernel
theorem dX7_isHidden_42 : decode cX7_isHidden 42 = .ok (.goto 14, 3) := by decide +kernel
theorem dX7_isHidden_45 : decode cX7_isHidden 45 = .ok (.iload_n 2, 1) := by decide +kernel
theorem dX7_isHidden_46 : decode cX7_isHidden 46 = .ok (.iload 5, 2) := by decide +kernel
theorem dX7_isHidden_48 : decode cX7_isHidden 48 = .ok (.if_icmp .lt 7, 3) := by decide +kernel
theorem dX7_isHidden_51 : decode cX7_isHidden 51 = .ok (.iconst 1, 1) := by decide +kernel
theorem dX7_isHidden_52 : decode cX7_isHidden 52 = .ok (.goto 4, 3) := by decide +kernel
theorem dX7_isHidden_55 : decode cX7_isHidden 55 = .ok (.iconst 0, 1) := by decide +kernel
theorem dX7_isHidden_56 : decode cX7_isHidden 56 = .ok (.ireturn, 1) := by decide +kernel
theorem dX7_stateOf_0 : decode cX7_stateOf 0 = .ok (.aload_n 0, 1) := by decide +kernel
theorem dX7_stateOf_1 : decode cX7_stateOf 1 = .ok (.iload_n 2, 1) := by decide +kernel
theorem dX7_stateOf_2 : decode cX7_stateOf 2 = .ok (.invokevirtual 261, 3) := by decide +kernel
theorem dX7_stateOf_5 : decode cX7_stateOf 5 = .ok (.istore_n 3, 1) := by decide +kernel
theorem dX7_stateOf_6 : decode cX7_stateOf 6 = .ok (.iload_n 2, 1) := by decide +kernel
theorem dX7_stateOf_7 : decode cX7_stateOf 7 = .ok (.aload_n 0, 1) := by decide +kernel
theorem dX7_stateOf_8 : decode cX7_stateOf 8 = .ok (.iload_n 3, 1) := by decide +kernel
theorem dX7_stateOf_9 : decode cX7_stateOf 9 = .ok (.invokevirtual 167, 3) := by decide +kernel
theorem dX7_stateOf_12 : decode cX7_stateOf 12 = .ok (.isub, 1) := by decide +kernel
theorem dX7_stateOf_13 : decode cX7_stateOf 13 = .ok (.istore 4, 2) := by decide +kernel
theorem dX7_stateOf_15 : decode cX7_stateOf 15 = .ok (.iload_n 3, 1) := by decide +kernel
theorem dX7_stateOf_16 : decode cX7_stateOf 16 = .ok (.ifCond .le 17, 3) := by decide +kernel
theorem dX7_stateOf_19 : decode cX7_stateOf 19 = .ok (.iload 4, 2) := by decide +kernel
theorem dX7_stateOf_21 : decode cX7_stateOf 21 = .ok (.aload_n 0, 1) := by decide +kernel
theorem dX7_stateOf_22 : decode cX7_stateOf 22 = .ok (.iload_n 3, 1) := by decide +kernel
theorem dX7_stateOf_23 : decode cX7_stateOf 23 = .ok (.iconst 1, 1) := by decide +kernel
theorem dX7_stateOf_24 : decode cX7_stateOf 24 = .ok (.isub, 1) := by decide +kernel
theorem dX7_stateOf_25 : decode cX7_stateOf 25 = .ok (.invokevirtual 264, 3) := by decide +kernel
theorem dX7_stateOf_28 : decode cX7_stateOf 28 = .ok (.if_icmp .ge 5, 3) := by decide +kernel
theorem dX7_stateOf_31 : decode cX7_stateOf 31 = .ok (.iconst 1, 1) := by decide +kernel
theorem dX7_stateOf_32 : decode cX7_stateOf 32 = .ok (.ireturn, 1) := by decide +kernel
theorem dX7_stateOf_33 : decode cX7_stateOf 33 = .ok (.iload 4, 2) := by decide +kernel
theorem dX7_stateOf_35 : decode cX7_stateOf 35 = .ok (.aload_n 0, 1) := by decide +kernel
theorem dX7_stateOf_36 : decode cX7_stateOf 36 = .ok (.iload_n 3, 1) := by decide +kernel
theorem dX7_stateOf_37 : decode cX7_stateOf 37 = .ok (.iconst 0, 1) := by decide +kernel
theorem dX7_stateOf_38 : decode cX7_stateOf 38 = .ok (.invokevirtual 164, 3) := by decide +kernel
theorem dX7_stateOf_41 : decode cX7_stateOf 41 = .ok (.aload_n 0, 1) := by decide +kernel
theorem dX7_stateOf_42 : decode cX7_stateOf 42 = .ok (.iload_n 3, 1) := by decide +kernel
theorem dX7_stateOf_43 : decode cX7_stateOf 43 = .ok (.invokevirtual 264, 3) := by decide +kernel
theorem dX7_stateOf_46 : decode cX7_stateOf 46 = .ok (.iadd, 1) := by decide +kernel
theorem dX7_stateOf_47 : decode cX7_stateOf 47 = .ok (.if_icmp .lt 5, 3) := by decide +kernel
theorem dX7_stateOf_50 : decode cX7_stateOf 50 = .ok (.iconst 2, 1) := by decide +kernel
theorem dX7_stateOf_51 : decode cX7_stateOf 51 = .ok (.ireturn, 1) := by decide +kernel
theorem dX7_stateOf_52 : decode cX7_stateOf 52 = .ok (.aload_n 0, 1) := by decide +kernel
theorem dX7_stateOf_53 : decode cX7_stateOf 53 = .ok (.iload_n 3, 1) := by decide +kernel
theorem dX7_stateOf_54 : decode cX7_stateOf 54 = .ok (.iload 4, 2) := by decide +kernel
theorem dX7_stateOf_56 : decode cX7_stateOf 56 = .ok (.aload_n 0, 1) := by decide +kernel
theorem dX7_stateOf_57 : decode cX7_stateOf 57 = .ok (.iload_n 3, 1) := by decide +kernel
theorem dX7_stateOf_58 : decode cX7_stateOf 58 = .ok (.iload_n 1, 1) := by decide +kernel
theorem dX7_stateOf_59 : decode cX7_stateOf 59 = .ok (.invokevirtual 267, 3) := by decide +kernel
theorem dX7_stateOf_62 : decode cX7_stateOf 62 = .ok (.invokevirtual 270, 3) := by decide +kernel
theorem dX7_stateOf_65 : decode cX7_stateOf 65 = .ok (.ifCond .eq 7, 3) := by decide +kernel
theorem dX7_stateOf_68 : decode cX7_stateOf 68 = .ok (.iconst 3, 1) := by decide +kernel
theorem dX7_stateOf_69 : decode cX7_stateOf 69 = .ok (.goto 4, 3) := by decide +kernel
theorem dX7_stateOf_72 : decode cX7_stateOf 72 = .ok (.iconst 0, 1) := by decide +kernel
theorem dX7_stateOf_73 : decode cX7_stateOf 73 = .ok (.ireturn, 1) := by decide +kernel
theorem dX7_sideSeen_0 : decode cX7_sideSeen 0 = .ok (.aload_n 0, 1) := by decide +kernel
theorem dX7_sideSeen_1 : decode cX7_sideSeen 1 = .ok (.aload_n 0, 1) := by decide +kernel
theorem dX7_sideSeen_2 : decode cX7_sideSeen 2 = .ok (.iload_n 2, 1) := by decide +kernel
theorem dX7_sideSeen_3 : decode cX7_sideSeen 3 = .ok (.invokevirtual 261, 3) := by decide +kernel
theorem dX7_sideSeen_6 : decode cX7_sideSeen 6 = .ok (.iload_n 1, 1) := by decide +kernel
theorem dX7_sideSeen_7 : decode cX7_sideSeen 7 = .ok (.invokevirtual 267, 3) := by decide +kernel
theorem dX7_sideSeen_10 : decode cX7_sideSeen 10 = .ok (.ifCond .le 7, 3) := by decide +kernel
theorem dX7_sideSeen_13 : decode cX7_sideSeen 13 = .ok (.iconst 1, 1) := by decide +kernel
theorem dX7_sideSeen_14 : decode cX7_sideSeen 14 = .ok (.goto 4, 3) := by decide +kernel
theorem dX7_sideSeen_17 : decode cX7_sideSeen 17 = .ok (.iconst 0, 1) := by decide +kernel
theorem dX7_sideSeen_18 : decode cX7_sideSeen 18 = .ok (.invokestatic 71, 3) := by decide +kernel
theorem dX7_sideSeen_21 : decode cX7_sideSeen 21 = .ok (.ireturn, 1) := by decide +kernel
theorem dX7_colourSeen_0 : decode cX7_colourSeen 0 = .ok (.aload_n 0, 1) := by decide +kernel
theorem dX7_colourSeen_1 : decode cX7_colourSeen 1 = .ok (.aload_n 0, 1) := by decide +kernel
theorem dX7_colourSeen_2 : decode cX7_colourSeen 2 = .ok (.iload_n 1, 1) := by decide +kernel
theorem dX7_colourSeen_3 : decode cX7_colourSeen 3 = .ok (.iload_n 2, 1) := by decide +kernel
theorem dX7_colourSeen_4 : decode cX7_colourSeen 4 = .ok (.invokevirtual 274, 3) := by decide +kernel
theorem dX7_colourSeen_7 : decode cX7_colourSeen 7 = .ok (.iload_n 2, 1) := by decide +kernel
theorem dX7_colourSeen_8 : decode cX7_colourSeen 8 = .ok (.iload_n 3, 1) := by decide +kernel
theorem dX7_colourSeen_9 : decode cX7_colourSeen 9 = .ok (.invokevirtual 180, 3) := by decide +kernel
theorem dX7_colourSeen_12 : decode cX7_colourSeen 12 = .ok (.ireturn, 1) := by decide +kernel
theorem dX7_whyNot_0 : decode cX7_whyNot 0 = .ok (.aload_n 0, 1) := by decide +kernel
theorem dX7_whyNot_1 : decode cX7_whyNot 1 = .ok (.iload_n 1, 1) := by decide +kernel
theorem dX7_whyNot_2 : decode cX7_whyNot 2 = .ok (.iload_n 3, 1) := by decide +kernel
theorem dX7_whyNot_3 : decode cX7_whyNot 3 = .ok (.invokevirtual 277, 3) := by decide +kernel
theorem dX7_whyNot_6 : decode cX7_whyNot 6 = .ok (.istore 5, 2) := by decide +kernel
theorem dX7_whyNot_8 : decode cX7_whyNot 8 = .ok (.iload 5, 2) := by decide +kernel
theorem dX7_whyNot_10 : decode cX7_whyNot 10 = .ok (.ifCond .eq 6, 3) := by decide +kernel
theorem dX7_whyNot_13 : decode cX7_whyNot 13 = .ok (.iload 5, 2) := by decide +kernel
theorem dX7_whyNot_15 : decode cX7_whyNot 15 = .ok (.ireturn, 1) := by decide +kernel
theorem dX7_whyNot_16 : decode cX7_whyNot 16 = .ok (.aload_n 0, 1) := by decide +kernel
theorem dX7_whyNot_17 : decode cX7_whyNot 17 = .ok (.iload_n 1, 1) := by decide +kernel
theorem dX7_whyNot_18 : decode cX7_whyNot 18 = .ok (.iload_n 3, 1) := by decide +kernel
theorem dX7_whyNot_19 : decode cX7_whyNot 19 = .ok (.iload 4, 2) := by decide +kernel
theorem dX7_whyNot_21 : decode cX7_whyNot 21 = .ok (.invokevirtual 280, 3) := by decide +kernel
theorem dX7_whyNot_24 : decode cX7_whyNot 24 = .ok (.aload_n 0, 1) := by decide +kernel
theorem dX7_whyNot_25 : decode cX7_whyNot 25 = .ok (.iload_n 2, 1) := by decide +kernel
theorem dX7_whyNot_26 : decode cX7_whyNot 26 = .ok (.iload_n 3, 1) := by decide +kernel
theorem dX7_whyNot_27 : decode cX7_whyNot 27 = .ok (.iload 4, 2) := by decide +kernel
theorem dX7_whyNot_29 : decode cX7_whyNot 29 = .ok (.invokevirtual 177, 3) := by decide +kernel
theorem dX7_whyNot_32 : decode cX7_whyNot 32 = .ok (.if_icmp .ne 5, 3) := by decide +kernel
theorem dX7_whyNot_35 : decode cX7_whyNot 35 = .ok (.iconst 0, 1) := by decide +kernel
theorem dX7_whyNot_36 : decode cX7_whyNot 36 = .ok (.ireturn, 1) := by decide +kernel
theorem dX7_whyNot_37 : decode cX7_whyNot 37 = .ok (.aload_n 0, 1) := by decide +kernel
theorem dX7_whyNot_38 : decode cX7_whyNot 38 = .ok (.iload_n 1, 1) := by decide +kernel
theorem dX7_whyNot_39 : decode cX7_whyNot 39 = .ok (.iload_n 3, 1) := by decide +kernel
theorem dX7_whyNot_40 : decode cX7_whyNot 40 = .ok (.invokevirtual 274, 3) := by decide +kernel
theorem dX7_whyNot_43 : decode cX7_whyNot 43 = .ok (.iload_n 2, 1) := by decide +kernel
theorem dX7_whyNot_44 : decode cX7_whyNot 44 = .ok (.if_icmp .eq 7, 3) := by decide +kernel
theorem dX7_whyNot_47 : decode cX7_whyNot 47 = .ok (.iconst 4, 1) := by decide +kernel
theorem dX7_whyNot_48 : decode cX7_whyNot 48 = .ok (.goto 4, 3) := by decide +kernel
theorem dX7_whyNot_51 : decode cX7_whyNot 51 = .ok (.iconst 5, 1) := by decide +kernel
theorem dX7_whyNot_52 : decode cX7_whyNot 52 = .ok (.ireturn, 1) := by decide +kernel
theorem dX7_rightMany_0 : decode cX7_rightMany 0 = .ok (.iconst 0, 1) := by decide +kernel
theorem dX7_rightMany_1 : decode cX7_rightMany 1 = .ok (.istore_n 3, 1) := by decide +kernel
theorem dX7_rightMany_2 : decode cX7_rightMany 2 = .ok (.aload_n 0, 1) := by decide +kernel
theorem dX7_rightMany_3 : decode cX7_rightMany 3 = .ok (.invokevirtual 170, 3) := by decide +kernel
theorem dX7_rightMany_6 : decode cX7_rightMany 6 = .ok (.istore 4, 2) := by decide +kernel
theorem dX7_rightMany_8 : decode cX7_rightMany 8 = .ok (.iconst 0, 1) := by decide +kernel
theorem dX7_rightMany_9 : decode cX7_rightMany 9 = .ok (.istore 5, 2) := by decide +kernel
theorem dX7_rightMany_11 : decode cX7_rightMany 11 = .ok (.iload 5, 2) := by decide +kernel
theorem dX7_rightMany_13 : decode cX7_rightMany 13 = .ok (.iload 4, 2) := by decide +kernel
theorem dX7_rightMany_15 : decode cX7_rightMany 15 = .ok (.if_icmp .ge 53, 3) := by decide +kernel
theorem dX7_rightMany_18 : decode cX7_rightMany 18 = .ok (.iconst 0, 1) := by decide +kernel
theorem dX7_rightMany_19 : decode cX7_rightMany 19 = .ok (.istore 6, 2) := by decide +kernel
theorem dX7_rightMany_21 : decode cX7_rightMany 21 = .ok (.iload 6, 2) := by decide +kernel
theorem dX7_rightMany_23 : decode cX7_rightMany 23 = .ok (.aload_n 0, 1) := by decide +kernel
theorem dX7_rightMany_24 : decode cX7_rightMany 24 = .ok (.getfield 20, 3) := by decide +kernel
theorem dX7_rightMany_27 : decode cX7_rightMany 27 = .ok (.iconst 0, 1) := by decide +kernel
theorem dX7_rightMany_28 : decode cX7_rightMany 28 = .ok (.iaload, 1) := by decide +kernel
theorem dX7_rightMany_29 : decode cX7_rightMany 29 = .ok (.if_icmp .ge 33, 3) := by decide +kernel
theorem dX7_rightMany_32 : decode cX7_rightMany 32 = .ok (.iload_n 3, 1) := by decide +kernel
theorem dX7_rightMany_33 : decode cX7_rightMany 33 = .ok (.aload_n 0, 1) := by decide +kernel
theorem dX7_rightMany_34 : decode cX7_rightMany 34 = .ok (.iload_n 1, 1) := by decide +kernel
theorem dX7_rightMany_35 : decode cX7_rightMany 35 = .ok (.iload_n 2, 1) := by decide +kernel
theorem dX7_rightMany_36 : decode cX7_rightMany 36 = .ok (.iload 5, 2) := by decide +kernel
theorem dX7_rightMany_38 : decode cX7_rightMany 38 = .ok (.iload 6, 2) := by decide +kernel
theorem dX7_rightMany_40 : decode cX7_rightMany 40 = .ok (.invokevirtual 283, 3) := by decide +kernel
theorem dX7_rightMany_43 : decode cX7_rightMany 43 = .ok (.ifCond .ne 7, 3) := by decide +kernel
theorem dX7_rightMany_46 : decode cX7_rightMany 46 = .ok (.iconst 1, 1) := by decide +kernel
theorem dX7_rightMany_47 : decode cX7_rightMany 47 = .ok (.goto 4, 3) := by decide +kernel
theorem dX7_rightMany_50 : decode cX7_rightMany 50 = .ok (.iconst 0, 1) := by decide +kernel
theorem dX7_rightMany_51 : decode cX7_rightMany 51 = .ok (.invokestatic 71, 3) := by decide +kernel
theorem dX7_rightMany_54 : decode cX7_rightMany 54 = .ok (.iadd, 1) := by decide +kernel
theorem dX7_rightMany_55 : decode cX7_rightMany 55 = .ok (.istore_n 3, 1) := by decide +kernel
theorem dX7_rightMany_56 : decode cX7_rightMany 56 = .ok (.iinc 6 1, 3) := by decide +kernel
theorem dX7_rightMany_59 : decode cX7_rightMany 59 = .ok (.goto (-38), 3) := by decide +kernel
theorem dX7_rightMany_62 : decode cX7_rightMany 62 = .ok (.iinc 5 1, 3) := by decide +kernel
theorem dX7_rightMany_65 : decode cX7_rightMany 65 = .ok (.goto (-54), 3) := by decide +kernel
theorem dX7_rightMany_68 : decode cX7_rightMany 68 = .ok (.iload_n 3, 1) := by decide +kernel
theorem dX7_rightMany_69 : decode cX7_rightMany 69 = .ok (.ireturn, 1) := by decide +kernel
theorem dX7_columnsAs_0 : decode cX7_columnsAs 0 = .ok (.iconst 0, 1) := by decide +kernel
theorem dX7_columnsAs_1 : decode cX7_columnsAs 1 = .ok (.istore 4, 2) := by decide +kernel
theorem dX7_columnsAs_3 : decode cX7_columnsAs 3 = .ok (.aload_n 0, 1) := by decide +kernel
theorem dX7_columnsAs_4 : decode cX7_columnsAs 4 = .ok (.invokevirtual 170, 3) := by decide +kernel
theorem dX7_columnsAs_7 : decode cX7_columnsAs 7 = .ok (.istore 5, 2) := by decide +kernel
theorem dX7_columnsAs_9 : decode cX7_columnsAs 9 = .ok (.iconst 0, 1) := by decide +kernel
theorem dX7_columnsAs_10 : decode cX7_columnsAs 10 = .ok (.istore 6, 2) := by decide +kernel
theorem dX7_columnsAs_12 : decode cX7_columnsAs 12 = .ok (.iload 6, 2) := by decide +kernel
theorem dX7_columnsAs_14 : decode cX7_columnsAs 14 = .ok (.iload 5, 2) := by decide +kernel
theorem dX7_columnsAs_16 : decode cX7_columnsAs 16 = .ok (.if_icmp .ge 32, 3) := by decide +kernel
theorem dX7_columnsAs_19 : decode cX7_columnsAs 19 = .ok (.iload 4, 2) := by decide +kernel
theorem dX7_columnsAs_21 : decode cX7_columnsAs 21 = .ok (.aload_n 0, 1) := by decide +kernel
theorem dX7_columnsAs_22 : decode cX7_columnsAs 22 = .ok (.iload_n 1, 1) := by decide +kernel
theorem dX7_columnsAs_23 : decode cX7_columnsAs 23 = .ok (.iload 6, 2) := by decide +kernel
theorem dX7_columnsAs_25 : decode cX7_columnsAs 25 = .ok (.invokevirtual 277, 3) := by decide +kernel
theorem dX7_columnsAs_28 : decode cX7_columnsAs 28 = .ok (.i2l, 1) := by decide +kernel
theorem dX7_columnsAs_29 : decode cX7_columnsAs 29 = .ok (.iload_n 2, 1) := by decide +kernel
theorem dX7_columnsAs_30 : decode cX7_columnsAs 30 = .ok (.i2l, 1) := by decide +kernel
theorem dX7_columnsAs_31 : decode cX7_columnsAs 31 = .ok (.iload_n 3, 1) := by decide +kernel
theorem dX7_columnsAs_32 : decode cX7_columnsAs 32 = .ok (.i2l, 1) := by decide +kernel
theorem dX7_columnsAs_33 : decode cX7_columnsAs 33 = .ok (.invokestatic 85, 3) := by decide +kernel
theorem dX7_columnsAs_36 : decode cX7_columnsAs 36 = .ok (.invokestatic 71, 3) := by decide +kernel
theorem dX7_columnsAs_39 : decode cX7_columnsAs 39 = .ok (.iadd, 1) := by decide +kernel
theorem dX7_columnsAs_40 : decode cX7_columnsAs 40 = .ok (.istore 4, 2) := by decide +kernel
theorem dX7_columnsAs_42 : decode cX7_columnsAs 42 = .ok (.iinc 6 1, 3) := by decide +kernel
theorem dX7_columnsAs_45 : decode cX7_columnsAs 45 = .ok (.goto (-33), 3) := by decide +kernel
theorem dX7_columnsAs_48 : decode cX7_columnsAs 48 = .ok (.iload 4, 2) := by decide +kernel
theorem dX7_columnsAs_50 : decode cX7_columnsAs 50 = .ok (.ireturn, 1) := by decide +kernel
theorem dX7_firstNot_0 : decode cX7_firstNot 0 = .ok (.aload_n 0, 1) := by decide +kernel
theorem dX7_firstNot_1 : decode cX7_firstNot 1 = .ok (.invokevirtual 170, 3) := by decide +kernel
theorem dX7_firstNot_4 : decode cX7_firstNot 4 = .ok (.istore_n 3, 1) := by decide +kernel
theorem dX7_firstNot_5 : decode cX7_firstNot 5 = .ok (.iconst 0, 1) := by decide +kernel
theorem dX7_firstNot_6 : decode cX7_firstNot 6 = .ok (.istore 4, 2) := by decide +kernel
theorem dX7_firstNot_8 : decode cX7_firstNot 8 = .ok (.iload 4, 2) := by decide +kernel
theorem dX7_firstNot_10 : decode cX7_firstNot 10 = .ok (.iload_n 3, 1) := by decide +kernel
theorem dX7_firstNot_11 : decode cX7_firstNot 11 = .ok (.aload_n 0, 1) := by decide +kernel
theorem dX7_firstNot_12 : decode cX7_firstNot 12 = .ok (.getfield 20, 3) := by decide +kernel
theorem dX7_firstNot_15 : decode cX7_firstNot 15 = .ok (.iconst 0, 1) := by decide +kernel
theorem dX7_firstNot_16 : decode cX7_firstNot 16 = .ok (.iaload, 1) := by decide +kernel
theorem dX7_firstNot_17 : decode cX7_firstNot 17 = .ok (.imul, 1) := by decide +kernel
theorem dX7_firstNot_18 : decode cX7_firstNot 18 = .ok (.if_icmp .ge 29, 3) := by decide +kernel
theorem dX7_firstNot_21 : decode cX7_firstNot 21 = .ok (.aload_n 0, 1) := by decide +kernel
theorem dX7_firstNot_22 : decode cX7_firstNot 22 = .ok (.iload_n 1, 1) := by decide +kernel
theorem dX7_firstNot_23 : decode cX7_firstNot 23 = .ok (.iload_n 2, 1) := by decide +kernel
theorem dX7_firstNot_24 : decode cX7_firstNot 24 = .ok (.iload 4, 2) := by decide +kernel
theorem dX7_firstNot_26 : decode cX7_firstNot 26 = .ok (.iload_n 3, 1) := by decide +kernel
theorem dX7_firstNot_27 : decode cX7_firstNot 27 = .ok (.irem, 1) := by decide +kernel
theorem dX7_firstNot_28 : decode cX7_firstNot 28 = .ok (.iload 4, 2) := by decide +kernel
theorem dX7_firstNot_30 : decode cX7_firstNot 30 = .ok (.iload_n 3, 1) := by decide +kernel
theorem dX7_firstNot_31 : decode cX7_firstNot 31 = .ok (.idiv, 1) := by decide +kernel
theorem dX7_firstNot_32 : decode cX7_firstNot 32 = .ok (.invokevirtual 283, 3) := by decide +kernel
theorem dX7_firstNot_35 : decode cX7_firstNot 35 = .ok (.ifCond .eq 6, 3) := by decide +kernel
theorem dX7_firstNot_38 : decode cX7_firstNot 38 = .ok (.iload 4, 2) := by decide +kernel
theorem dX7_firstNot_40 : decode cX7_firstNot 40 = .ok (.ireturn, 1) := by decide +kernel
theorem dX7_firstNot_41 : decode cX7_firstNot 41 = .ok (.iinc 4 1, 3) := by decide +kernel
theorem dX7_firstNot_44 : decode cX7_firstNot 44 = .ok (.goto (-36), 3) := by decide +kernel
theorem dX7_firstNot_47 : decode cX7_firstNot 47 = .ok (.iconst (-1), 1) := by decide +kernel
theorem dX7_firstNot_48 : decode cX7_firstNot 48 = .ok (.ireturn, 1) := by decide +kernel
theorem dX7_isWhole_0 : decode cX7_isWhole 0 = .ok (.aload_n 0, 1) := by decide +kernel
theorem dX7_isWhole_1 : decode cX7_isWhole 1 = .ok (.getfield 20, 3) := by decide +kernel
theorem dX7_isWhole_4 : decode cX7_isWhole 4 = .ok (.iconst 1, 1) := by decide +kernel
theorem dX7_isWhole_5 : decode cX7_isWhole 5 = .ok (.iaload, 1) := by decide +kernel
theorem dX7_isWhole_6 : decode cX7_isWhole 6 = .ok (.ifCond .le 17, 3) := by decide +kernel
theorem dX7_isWhole_9 : decode cX7_isWhole 9 = .ok (.aload_n 0, 1) := by decide +kernel
theorem dX7_isWhole_10 : decode cX7_isWhole 10 = .ok (.iload_n 1, 1) := by decide +kernel
theorem dX7_isWhole_11 : decode cX7_isWhole 11 = .ok (.iload_n 2, 1) := by decide +kernel
theorem dX7_isWhole_12 : decode cX7_isWhole 12 = .ok (.invokevirtual 287, 3) := by decide +kernel
theorem dX7_isWhole_15 : decode cX7_isWhole 15 = .ok (.iconst (-1), 1) := by decide +kernel
theorem dX7_isWhole_16 : decode cX7_isWhole 16 = .ok (.if_icmp .ne 7, 3) := by decide +kernel
theorem dX7_isWhole_19 : decode cX7_isWhole 19 = .ok (.iconst 1, 1) := by decide +kernel
theorem dX7_isWhole_20 : decode cX7_isWhole 20 = .ok (.goto 4, 3) := by decide +kernel
theorem dX7_isWhole_23 : decode cX7_isWhole 23 = .ok (.iconst 0, 1) := by decide +kernel
theorem dX7_isWhole_24 : decode cX7_isWhole 24 = .ok (.ireturn, 1) := by decide +kernel
theorem dX7_isSlat_0 : decode cX7_isSlat 0 = .ok (.iload_n 1, 1) := by decide +kernel
theorem dX7_isSlat_1 : decode cX7_isSlat 1 = .ok (.i2l, 1) := by decide +kernel
theorem dX7_isSlat_2 : decode cX7_isSlat 2 = .ok (.lconst 0, 1) := by decide +kernel
theorem dX7_isSlat_3 : decode cX7_isSlat 3 = .ok (.aload_n 0, 1) := by decide +kernel
theorem dX7_isSlat_4 : decode cX7_isSlat 4 = .ok (.getfield 20, 3) := by decide +kernel
theorem dX7_isSlat_7 : decode cX7_isSlat 7 = .ok (.iconst 1, 1) := by decide +kernel
theorem dX7_isSlat_8 : decode cX7_isSlat 8 = .ok (.iaload, 1) := by decide +kernel
theorem dX7_isSlat_9 : decode cX7_isSlat 9 = .ok (.iconst 1, 1) := by decide +kernel
theorem dX7_isSlat_10 : decode cX7_isSlat 10 = .ok (.isub, 1) := by decide +kernel
theorem dX7_isSlat_11 : decode cX7_isSlat 11 = .ok (.i2l, 1) := by decide +kernel
theorem dX7_isSlat_12 : decode cX7_isSlat 12 = .ok (.invokestatic 85, 3) := by decide +kernel
theorem dX7_isSlat_15 : decode cX7_isSlat 15 = .ok (.ireturn, 1) := by decide +kernel
theorem dX7_isColumn_0 : decode cX7_isColumn 0 = .ok (.iload_n 1, 1) := by decide +kernel
theorem dX7_isColumn_1 : decode cX7_isColumn 1 = .ok (.i2l, 1) := by decide +kernel
theorem dX7_isColumn_2 : decode cX7_isColumn 2 = .ok (.lconst 0, 1) := by decide +kernel
theorem dX7_isColumn_3 : decode cX7_isColumn 3 = .ok (.aload_n 0, 1) := by decide +kernel
theorem dX7_isColumn_4 : decode cX7_isColumn 4 = .ok (.invokevirtual 170, 3) := by decide +kernel
theorem dX7_isColumn_7 : decode cX7_isColumn 7 = .ok (.iconst 1, 1) := by decide +kernel
theorem dX7_isColumn_8 : decode cX7_isColumn 8 = .ok (.isub, 1) := by decide +kernel
theorem dX7_isColumn_9 : decode cX7_isColumn 9 = .ok (.i2l, 1) := by decide +kernel
theorem dX7_isColumn_10 : decode cX7_isColumn 10 = .ok (.invokestatic 85, 3) := by decide +kernel
theorem dX7_isColumn_13 : decode cX7_isColumn 13 = .ok (.ireturn, 1) := by decide +kernel
theorem dX7_isRow_0 : decode cX7_isRow 0 = .ok (.iload_n 1, 1) := by decide +kernel
theorem dX7_isRow_1 : decode cX7_isRow 1 = .ok (.i2l, 1) := by decide +kernel
theorem dX7_isRow_2 : decode cX7_isRow 2 = .ok (.lconst 0, 1) := by decide +kernel
theorem dX7_isRow_3 : decode cX7_isRow 3 = .ok (.aload_n 0, 1) := by decide +kernel
theorem dX7_isRow_4 : decode cX7_isRow 4 = .ok (.getfield 20, 3) := by decide +kernel
theorem dX7_isRow_7 : decode cX7_isRow 7 = .ok (.iconst 0, 1) := by decide +kernel
theorem dX7_isRow_8 : decode cX7_isRow 8 = .ok (.iaload, 1) := by decide +kernel
theorem dX7_isRow_9 : decode cX7_isRow 9 = .ok (.iconst 1, 1) := by decide +kernel
theorem dX7_isRow_10 : decode cX7_isRow 10 = .ok (.isub, 1) := by decide +kernel
theorem dX7_isRow_11 : decode cX7_isRow 11 = .ok (.i2l, 1) := by decide +kernel
theorem dX7_isRow_12 : decode cX7_isRow 12 = .ok (.invokestatic 85, 3) := by decide +kernel
theorem dX7_isRow_15 : decode cX7_isRow 15 = .ok (.ireturn, 1) := by decide +kernel
theorem dX7_isOfSlat_0 : decode cX7_isOfSlat 0 = .ok (.aload_n 0, 1) := by decide +kernel
theorem dX7_isOfSlat_1 : decode cX7_isOfSlat 1 = .ok (.iload_n 1, 1) := by decide +kernel
theorem dX7_isOfSlat_2 : decode cX7_isOfSlat 2 = .ok (.invokevirtual 290, 3) := by decide +kernel
theorem dX7_isOfSlat_5 : decode cX7_isOfSlat 5 = .ok (.ifCond .eq 33, 3) := by decide +kernel
theorem dX7_isOfSlat_8 : decode cX7_isOfSlat 8 = .ok (.iload_n 2, 1) := by decide +kernel
theorem dX7_isOfSlat_9 : decode cX7_isOfSlat 9 = .ok (.i2l, 1) := by decide +kernel
theorem dX7_isOfSlat_10 : decode cX7_isOfSlat 10 = .ok (.lconst 0, 1) := by decide +kernel
theorem dX7_isOfSlat_11 : decode cX7_isOfSlat 11 = .ok (.aload_n 0, 1) := by decide +kernel
theorem dX7_isOfSlat_12 : decode cX7_isOfSlat 12 = .ok (.iload_n 1, 1) := by decide +kernel
theorem dX7_isOfSlat_13 : decode cX7_isOfSlat 13 = .ok (.iconst 0, 1) := by decide +kernel
theorem dX7_isOfSlat_14 : decode cX7_isOfSlat 14 = .ok (.invokevirtual 164, 3) := by decide +kernel
theorem dX7_isOfSlat_17 : decode cX7_isOfSlat 17 = .ok (.iconst 1, 1) := by decide +kernel
theorem dX7_isOfSlat_18 : decode cX7_isOfSlat 18 = .ok (.isub, 1) := by decide +kernel
theorem dX7_isOfSlat_19 : decode cX7_isOfSlat 19 = .ok (.i2l, 1) := by decide +kernel
theorem dX7_isOfSlat_20 : decode cX7_isOfSlat 20 = .ok (.invokestatic 85, 3) := by decide +kernel
theorem dX7_isOfSlat_23 : decode cX7_isOfSlat 23 = .ok (.ifCond .eq 15, 3) := by decide +kernel
theorem dX7_isOfSlat_26 : decode cX7_isOfSlat 26 = .ok (.aload_n 0, 1) := by decide +kernel
theorem dX7_isOfSlat_27 : decode cX7_isOfSlat 27 = .ok (.iload_n 3, 1) := by decide +kernel
theorem dX7_isOfSlat_28 : decode cX7_isOfSlat 28 = .ok (.invokevirtual 293, 3) := by decide +kernel
theorem dX7_isOfSlat_31 : decode cX7_isOfSlat 31 = .ok (.ifCond .eq 7, 3) := by decide +kernel
theorem dX7_isOfSlat_34 : decode cX7_isOfSlat 34 = .ok (.iconst 1, 1) := by decide +kernel
theorem dX7_isOfSlat_35 : decode cX7_isOfSlat 35 = .ok (.goto 4, 3) := by decide +kernel
theorem dX7_isOfSlat_38 : decode cX7_isOfSlat 38 = .ok (.iconst 0, 1) := by decide +kernel
theorem dX7_isOfSlat_39 : decode cX7_isOfSlat 39 = .ok (.ireturn, 1) := by decide +kernel
theorem dX7_isAngle_0 : decode cX7_isAngle 0 = .ok (.iload_n 0, 1) := by decide +kernel
theorem dX7_isAngle_1 : decode cX7_isAngle 1 = .ok (.i2l, 1) := by decide +kernel
theorem dX7_isAngle_2 : decode cX7_isAngle 2 = .ok (.ldc2_w 296, 3) := by decide +kernel
theorem dX7_isAngle_5 : decode cX7_isAngle 5 = .ok (.ldc2_w 298, 3) := by decide +kernel
theorem dX7_isAngle_8 : decode cX7_isAngle 8 = .ok (.invokestatic 85, 3) := by decide +kernel
theorem dX7_isAngle_11 : decode cX7_isAngle 11 = .ok (.ireturn, 1) := by decide +kernel
theorem dX7_boxesOf_0 : decode cX7_boxesOf 0 = .ok (.iconst 0, 1) := by decide +kernel
theorem dX7_boxesOf_1 : decode cX7_boxesOf 1 = .ok (.istore_n 2, 1) := by decide +kernel
theorem dX7_boxesOf_2 : decode cX7_boxesOf 2 = .ok (.iconst 0, 1) := by decide +kernel
theorem dX7_boxesOf_3 : decode cX7_boxesOf 3 = .ok (.istore_n 3, 1) := by decide +kernel
theorem dX7_boxesOf_4 : decode cX7_boxesOf 4 = .ok (.iload_n 3, 1) := by decide +kernel
theorem dX7_boxesOf_5 : decode cX7_boxesOf 5 = .ok (.aload_n 0, 1) := by decide +kernel
theorem dX7_boxesOf_6 : decode cX7_boxesOf 6 = .ok (.getfield 20, 3) := by decide +kernel
theorem dX7_boxesOf_9 : decode cX7_boxesOf 9 = .ok (.iconst 3, 1) := by decide +kernel
theorem dX7_boxesOf_10 : decode cX7_boxesOf 10 = .ok (.iaload, 1) := by decide +kernel
theorem dX7_boxesOf_11 : decode cX7_boxesOf 11 = .ok (.if_icmp .ge 30, 3) := by decide +kernel
theorem dX7_boxesOf_14 : decode cX7_boxesOf 14 = .ok (.iload_n 2, 1) := by decide +kernel
theorem dX7_boxesOf_15 : decode cX7_boxesOf 15 = .ok (.aload_n 0, 1) := by decide +kernel
theorem dX7_boxesOf_16 : decode cX7_boxesOf 16 = .ok (.iload_n 3, 1) := by decide +kernel
theorem dX7_boxesOf_17 : decode cX7_boxesOf 17 = .ok (.iconst 0, 1) := by decide +kernel
theorem dX7_boxesOf_18 : decode cX7_boxesOf 18 = .ok (.invokevirtual 174, 3) := by decide +kernel
theorem dX7_boxesOf_21 : decode cX7_boxesOf 21 = .ok (.iload_n 1, 1) := by decide +kernel
theorem dX7_boxesOf_22 : decode cX7_boxesOf 22 = .ok (.if_icmp .ne 7, 3) := by decide +kernel
theorem dX7_boxesOf_25 : decode cX7_boxesOf 25 = .ok (.iconst 1, 1) := by decide +kernel
theorem dX7_boxesOf_26 : decode cX7_boxesOf 26 = .ok (.goto 4, 3) := by decide +kernel
theorem dX7_boxesOf_29 : decode cX7_boxesOf 29 = .ok (.iconst 0, 1) := by decide +kernel
theorem dX7_boxesOf_30 : decode cX7_boxesOf 30 = .ok (.invokestatic 71, 3) := by decide +kernel
theorem dX7_boxesOf_33 : decode cX7_boxesOf 33 = .ok (.iadd, 1) := by decide +kernel
theorem dX7_boxesOf_34 : decode cX7_boxesOf 34 = .ok (.istore_n 2, 1) := by decide +kernel
theorem dX7_boxesOf_35 : decode cX7_boxesOf 35 = .ok (.iinc 3 1, 3) := by decide +kernel
theorem dX7_boxesOf_38 : decode cX7_boxesOf 38 = .ok (.goto (-34), 3) := by decide +kernel
theorem dX7_boxesOf_41 : decode cX7_boxesOf 41 = .ok (.iload_n 2, 1) := by decide +kernel
theorem dX7_boxesOf_42 : decode cX7_boxesOf 42 = .ok (.ireturn, 1) := by decide +kernel
theorem dX7_tiedMany_0 : decode cX7_tiedMany 0 = .ok (.iconst 0, 1) := by decide +kernel
theorem dX7_tiedMany_1 : decode cX7_tiedMany 1 = .ok (.istore_n 1, 1) := by decide +kernel
theorem dX7_tiedMany_2 : decode cX7_tiedMany 2 = .ok (.iconst 0, 1) := by decide +kernel
theorem dX7_tiedMany_3 : decode cX7_tiedMany 3 = .ok (.istore_n 2, 1) := by decide +kernel
theorem dX7_tiedMany_4 : decode cX7_tiedMany 4 = .ok (.iload_n 2, 1) := by decide +kernel
theorem dX7_tiedMany_5 : decode cX7_tiedMany 5 = .ok (.aload_n 0, 1) := by decide +kernel
theorem dX7_tiedMany_6 : decode cX7_tiedMany 6 = .ok (.getfield 20, 3) := by decide +kernel
theorem dX7_tiedMany_9 : decode cX7_tiedMany 9 = .ok (.iconst 1, 1) := by decide +kernel
theorem dX7_tiedMany_10 : decode cX7_tiedMany 10 = .ok (.iaload, 1) := by decide +kernel
theorem dX7_tiedMany_11 : decode cX7_tiedMany 11 = .ok (.if_icmp .ge 18, 3) := by decide +kernel
theorem dX7_tiedMany_14 : decode cX7_tiedMany 14 = .ok (.iload_n 1, 1) := by decide +kernel
theorem dX7_tiedMany_15 : decode cX7_tiedMany 15 = .ok (.aload_n 0, 1) := by decide +kernel
theorem dX7_tiedMany_16 : decode cX7_tiedMany 16 = .ok (.iload_n 2, 1) := by decide +kernel
theorem dX7_tiedMany_17 : decode cX7_tiedMany 17 = .ok (.iconst 2, 1) := by decide +kernel
theorem dX7_tiedMany_18 : decode cX7_tiedMany 18 = .ok (.invokevirtual 164, 3) := by decide +kernel
theorem dX7_tiedMany_21 : decode cX7_tiedMany 21 = .ok (.iadd, 1) := by decide +kernel
theorem dX7_tiedMany_22 : decode cX7_tiedMany 22 = .ok (.istore_n 1, 1) := by decide +kernel
theorem dX7_tiedMany_23 : decode cX7_tiedMany 23 = .ok (.iinc 2 1, 3) := by decide +kernel
theorem dX7_tiedMany_26 : decode cX7_tiedMany 26 = .ok (.goto (-22), 3) := by decide +kernel
theorem dX7_tiedMany_29 : decode cX7_tiedMany 29 = .ok (.iload_n 1, 1) := by decide +kernel
theorem dX7_tiedMany_30 : decode cX7_tiedMany 30 = .ok (.ireturn, 1) := by decide +kernel
theorem dX7_seams_0 : decode cX7_seams 0 = .ok (.iconst 0, 1) := by decide +kernel
theorem dX7_seams_1 : decode cX7_seams 1 = .ok (.istore_n 2, 1) := by decide +kernel
theorem dX7_seams_2 : decode cX7_seams 2 = .ok (.iconst 0, 1) := by decide +kernel
theorem dX7_seams_3 : decode cX7_seams 3 = .ok (.istore_n 3, 1) := by decide +kernel
theorem dX7_seams_4 : decode cX7_seams 4 = .ok (.iload_n 3, 1) := by decide +kernel
theorem dX7_seams_5 : decode cX7_seams 5 = .ok (.aload_n 0, 1) := by decide +kernel
theorem dX7_seams_6 : decode cX7_seams 6 = .ok (.getfield 20, 3) := by decide +kernel
theorem dX7_seams_9 : decode cX7_seams 9 = .ok (.iconst 1, 1) := by decide +kernel
theorem dX7_seams_10 : decode cX7_seams 10 = .ok (.iaload, 1) := by decide +kernel
theorem dX7_seams_11 : decode cX7_seams 11 = .ok (.if_icmp .ge 30, 3) := by decide +kernel
theorem dX7_seams_14 : decode cX7_seams 14 = .ok (.iload_n 2, 1) := by decide +kernel
theorem dX7_seams_15 : decode cX7_seams 15 = .ok (.iload_n 1, 1) := by decide +kernel
theorem dX7_seams_16 : decode cX7_seams 16 = .ok (.aload_n 0, 1) := by decide +kernel
theorem dX7_seams_17 : decode cX7_seams 17 = .ok (.iload_n 3, 1) := by decide +kernel
theorem dX7_seams_18 : decode cX7_seams 18 = .ok (.invokevirtual 264, 3) := by decide +kernel
theorem dX7_seams_21 : decode cX7_seams 21 = .ok (.imul, 1) := by decide +kernel
theorem dX7_seams_22 : decode cX7_seams 22 = .ok (.ifCond .le 7, 3) := by decide +kernel
theorem dX7_seams_25 : decode cX7_seams 25 = .ok (.iconst 1, 1) := by decide +kernel
theorem dX7_seams_26 : decode cX7_seams 26 = .ok (.goto 4, 3) := by decide +kernel
theorem dX7_seams_29 : decode cX7_seams 29 = .ok (.iconst 0, 1) := by decide +kernel
theorem dX7_seams_30 : decode cX7_seams 30 = .ok (.invokestatic 71, 3) := by decide +kernel
theorem dX7_seams_33 : decode cX7_seams 33 = .ok (.iadd, 1) := by decide +kernel
theorem dX7_seams_34 : decode cX7_seams 34 = .ok (.istore_n 2, 1) := by decide +kernel
theorem dX7_seams_35 : decode cX7_seams 35 = .ok (.iinc 3 1, 3) := by decide +kernel
theorem dX7_seams_38 : decode cX7_seams 38 = .ok (.goto (-34), 3) := by decide +kernel
theorem dX7_seams_41 : decode cX7_seams 41 = .ok (.iload_n 2, 1) := by decide +kernel
theorem dX7_seams_42 : decode cX7_seams 42 = .ok (.ireturn, 1) := by decide +kernel
theorem dX7_setting_0 : decode cX7_setting 0 = .ok (.aload_n 0, 1) := by decide +kernel
theorem dX7_setting_1 : decode cX7_setting 1 = .ok (.iload_n 1, 1) := by decide +kernel
theorem dX7_setting_2 : decode cX7_setting 2 = .ok (.i2l, 1) := by decide +kernel
theorem dX7_setting_3 : decode cX7_setting 3 = .ok (.lconst 0, 1) := by decide +kernel
theorem dX7_setting_4 : decode cX7_setting 4 = .ok (.ldc2_w 300, 3) := by decide +kernel
theorem dX7_setting_7 : decode cX7_setting 7 = .ok (.invokestatic 85, 3) := by decide +kernel
theorem dX7_setting_10 : decode cX7_setting 10 = .ok (.invokevirtual 78, 3) := by decide +kernel
theorem dX7_setting_13 : decode cX7_setting 13 = .ok (.ifCond .ne 5, 3) := by decide +kernel
theorem dX7_setting_16 : decode cX7_setting 16 = .ok (.iconst 0, 1) := by decide +kernel
theorem dX7_setting_17 : decode cX7_setting 17 = .ok (.ireturn, 1) := by decide +kernel
theorem dX7_setting_18 : decode cX7_setting 18 = .ok (.iload_n 1, 1) := by decide +kernel
theorem dX7_setting_19 : decode cX7_setting 19 = .ok (.tableswitch 104 0 8 #[49, 56, 63, 68, 74, 80, 87, 92, 98], 49) := by decide +kernel
theorem dX7_setting_68 : decode cX7_setting 68 = .ok (.aload_n 0, 1) := by decide +kernel
theorem dX7_setting_69 : decode cX7_setting 69 = .ok (.getfield 20, 3) := by decide +kernel
theorem dX7_setting_72 : decode cX7_setting 72 = .ok (.iconst 1, 1) := by decide +kernel
theorem dX7_setting_73 : decode cX7_setting 73 = .ok (.iaload, 1) := by decide +kernel
theorem dX7_setting_74 : decode cX7_setting 74 = .ok (.ireturn, 1) := by decide +kernel
theorem dX7_setting_75 : decode cX7_setting 75 = .ok (.aload_n 0, 1) := by decide +kernel
theorem dX7_setting_76 : decode cX7_setting 76 = .ok (.getfield 20, 3) := by decide +kernel
theorem dX7_setting_79 : decode cX7_setting 79 = .ok (.iconst 0, 1) := by decide +kernel
theorem dX7_setting_80 : decode cX7_setting 80 = .ok (.iaload, 1) := by decide +kernel
theorem dX7_setting_81 : decode cX7_setting 81 = .ok (.ireturn, 1) := by decide +kernel
theorem dX7_setting_82 : decode cX7_setting 82 = .ok (.aload_n 0, 1) := by decide +kernel
theorem dX7_setting_83 : decode cX7_setting 83 = .ok (.invokevirtual 170, 3) := by decide +kernel
theorem dX7_setting_86 : decode cX7_setting 86 = .ok (.ireturn, 1) := by decide +kernel
theorem dX7_setting_87 : decode cX7_setting 87 = .ok (.aload_n 0, 1) := by decide +kernel
theorem dX7_setting_88 : decode cX7_setting 88 = .ok (.iconst 0, 1) := by decide +kernel
theorem dX7_setting_89 : decode cX7_setting 89 = .ok (.invokevirtual 302, 3) := by decide +kernel
theorem dX7_setting_92 : decode cX7_setting 92 = .ok (.ireturn, 1) := by decide +kernel
theorem dX7_setting_93 : decode cX7_setting 93 = .ok (.aload_n 0, 1) := by decide +kernel
theorem dX7_setting_94 : decode cX7_setting 94 = .ok (.iconst 1, 1) := by decide +kernel
theorem dX7_setting_95 : decode cX7_setting 95 = .ok (.invokevirtual 302, 3) := by decide +kernel
theorem dX7_setting_98 : decode cX7_setting 98 = .ok (.ireturn, 1) := by decide +kernel
theorem dX7_setting_99 : decode cX7_setting 99 = .ok (.aload_n 0, 1) := by decide +kernel
theorem dX7_setting_100 : decode cX7_setting 100 = .ok (.getfield 20, 3) := by decide +kernel
theorem dX7_setting_103 : decode cX7_setting 103 = .ok (.iconst 2, 1) := by decide +kernel
theorem dX7_setting_104 : decode cX7_setting 104 = .ok (.iaload, 1) := by decide +kernel
theorem dX7_setting_105 : decode cX7_setting 105 = .ok (.ireturn, 1) := by decide +kernel
theorem dX7_setting_106 : decode cX7_setting 106 = .ok (.aload_n 0, 1) := by decide +kernel
theorem dX7_setting_107 : decode cX7_setting 107 = .ok (.invokevirtual 305, 3) := by decide +kernel
theorem dX7_setting_110 : decode cX7_setting 110 = .ok (.ireturn, 1) := by decide +kernel
theorem dX7_setting_111 : decode cX7_setting 111 = .ok (.aload_n 0, 1) := by decide +kernel
theorem dX7_setting_112 : decode cX7_setting 112 = .ok (.iconst 1, 1) := by decide +kernel
theorem dX7_setting_113 : decode cX7_setting 113 = .ok (.invokevirtual 308, 3) := by decide +kernel
theorem dX7_setting_116 : decode cX7_setting 116 = .ok (.ireturn, 1) := by decide +kernel
theorem dX7_setting_117 : decode cX7_setting 117 = .ok (.aload_n 0, 1) := by decide +kernel
theorem dX7_setting_118 : decode cX7_setting 118 = .ok (.iconst (-1), 1) := by decide +kernel
theorem dX7_setting_119 : decode cX7_setting 119 = .ok (.invokevirtual 308, 3) := by decide +kernel
theorem dX7_setting_122 : decode cX7_setting 122 = .ok (.ireturn, 1) := by decide +kernel
theorem dX7_setting_123 : decode cX7_setting 123 = .ok (.aload_n 0, 1) := by decide +kernel
theorem dX7_setting_124 : decode cX7_setting 124 = .ok (.getfield 150, 3) := by decide +kernel
theorem dX7_setting_127 : decode cX7_setting 127 = .ok (.ireturn, 1) := by decide +kernel
theorem dX7_slat_0 : decode cX7_slat 0 = .ok (.aload_n 0, 1) := by decide +kernel
theorem dX7_slat_1 : decode cX7_slat 1 = .ok (.aload_n 0, 1) := by decide +kernel
theorem dX7_slat_2 : decode cX7_slat 2 = .ok (.iload_n 1, 1) := by decide +kernel
theorem dX7_slat_3 : decode cX7_slat 3 = .ok (.invokevirtual 290, 3) := by decide +kernel
theorem dX7_slat_6 : decode cX7_slat 6 = .ok (.iload_n 2, 1) := by decide +kernel
theorem dX7_slat_7 : decode cX7_slat 7 = .ok (.i2l, 1) := by decide +kernel
theorem dX7_slat_8 : decode cX7_slat 8 = .ok (.lconst 0, 1) := by decide +kernel
theorem dX7_slat_9 : decode cX7_slat 9 = .ok (.ldc2_w 311, 3) := by decide +kernel
theorem dX7_slat_12 : decode cX7_slat 12 = .ok (.invokestatic 85, 3) := by decide +kernel
theorem dX7_slat_15 : decode cX7_slat 15 = .ok (.invokevirtual 313, 3) := by decide +kernel
theorem dX7_slat_18 : decode cX7_slat 18 = .ok (.ifCond .ne 5, 3) := by decide +kernel
theorem dX7_slat_21 : decode cX7_slat 21 = .ok (.iconst 0, 1) := by decide +kernel
theorem dX7_slat_22 : decode cX7_slat 22 = .ok (.ireturn, 1) := by decide +kernel
theorem dX7_slat_23 : decode cX7_slat 23 = .ok (.iload_n 2, 1) := by decide +kernel
theorem dX7_slat_24 : decode cX7_slat 24 = .ok (.tableswitch 92 0 6 #[44, 51, 57, 64, 71, 78, 85], 44) := by decide +kernel
theorem dX7_slat_68 : decode cX7_slat 68 = .ok (.aload_n 0, 1) := by decide +kernel
theorem dX7_slat_69 : decode cX7_slat 69 = .ok (.iload_n 1, 1) := by decide +kernel
theorem dX7_slat_70 : decode cX7_slat 70 = .ok (.iconst 0, 1) := by decide +kernel
theorem dX7_slat_71 : decode cX7_slat 71 = .ok (.invokevirtual 164, 3) := by decide +kernel
theorem dX7_slat_74 : decode cX7_slat 74 = .ok (.ireturn, 1) := by decide +kernel
theorem dX7_slat_75 : decode cX7_slat 75 = .ok (.aload_n 0, 1) := by decide +kernel
theorem dX7_slat_76 : decode cX7_slat 76 = .ok (.iload_n 1, 1) := by decide +kernel
theorem dX7_slat_77 : decode cX7_slat 77 = .ok (.invokevirtual 167, 3) := by decide +kernel
theorem dX7_slat_80 : decode cX7_slat 80 = .ok (.ireturn, 1) := by decide +kernel
theorem dX7_slat_81 : decode cX7_slat 81 = .ok (.aload_n 0, 1) := by decide +kernel
theorem dX7_slat_82 : decode cX7_slat 82 = .ok (.iload_n 1, 1) := by decide +kernel
theorem dX7_slat_83 : decode cX7_slat 83 = .ok (.iconst 1, 1) := by decide +kernel
theorem dX7_slat_84 : decode cX7_slat 84 = .ok (.invokevirtual 164, 3) := by decide +kernel
theorem dX7_slat_87 : decode cX7_slat 87 = .ok (.ireturn, 1) := by decide +kernel
theorem dX7_slat_88 : decode cX7_slat 88 = .ok (.aload_n 0, 1) := by decide +kernel
theorem dX7_slat_89 : decode cX7_slat 89 = .ok (.iload_n 1, 1) := by decide +kernel
theorem dX7_slat_90 : decode cX7_slat 90 = .ok (.iconst 2, 1) := by decide +kernel
theorem dX7_slat_91 : decode cX7_slat 91 = .ok (.invokevirtual 164, 3) := by decide +kernel
theorem dX7_slat_94 : decode cX7_slat 94 = .ok (.ireturn, 1) := by decide +kernel
theorem dX7_slat_95 : decode cX7_slat 95 = .ok (.aload_n 0, 1) := by decide +kernel
theorem dX7_slat_96 : decode cX7_slat 96 = .ok (.iload_n 1, 1) := by decide +kernel
theorem dX7_slat_97 : decode cX7_slat 97 = .ok (.iconst 3, 1) := by decide +kernel
theorem dX7_slat_98 : decode cX7_slat 98 = .ok (.invokevirtual 164, 3) := by decide +kernel
theorem dX7_slat_101 : decode cX7_slat 101 = .ok (.ireturn, 1) := by decide +kernel
theorem dX7_slat_102 : decode cX7_slat 102 = .ok (.aload_n 0, 1) := by decide +kernel
theorem dX7_slat_103 : decode cX7_slat 103 = .ok (.iload_n 1, 1) := by decide +kernel
theorem dX7_slat_104 : decode cX7_slat 104 = .ok (.iconst 4, 1) := by decide +kernel
theorem dX7_slat_105 : decode cX7_slat 105 = .ok (.invokevirtual 164, 3) := by decide +kernel
theorem dX7_slat_108 : decode cX7_slat 108 = .ok (.ireturn, 1) := by decide +kernel
theorem dX7_slat_109 : decode cX7_slat 109 = .ok (.aload_n 0, 1) := by decide +kernel
theorem dX7_slat_110 : decode cX7_slat 110 = .ok (.iload_n 1, 1) := by decide +kernel
theorem dX7_slat_111 : decode cX7_slat 111 = .ok (.iconst 0, 1) := by decide +kernel
theorem dX7_slat_112 : decode cX7_slat 112 = .ok (.invokevirtual 317, 3) := by decide +kernel
theorem dX7_slat_115 : decode cX7_slat 115 = .ok (.ireturn, 1) := by decide +kernel
theorem dX7_slat_116 : decode cX7_slat 116 = .ok (.aload_n 0, 1) := by decide +kernel
theorem dX7_slat_117 : decode cX7_slat 117 = .ok (.iload_n 1, 1) := by decide +kernel
theorem dX7_slat_118 : decode cX7_slat 118 = .ok (.iconst 1, 1) := by decide +kernel
theorem dX7_slat_119 : decode cX7_slat 119 = .ok (.invokevirtual 317, 3) := by decide +kernel
theorem dX7_slat_122 : decode cX7_slat 122 = .ok (.ireturn, 1) := by decide +kernel
theorem dX7_slatAt_0 : decode cX7_slatAt 0 = .ok (.aload_n 0, 1) := by decide +kernel
theorem dX7_slatAt_1 : decode cX7_slatAt 1 = .ok (.aload_n 0, 1) := by decide +kernel
theorem dX7_slatAt_2 : decode cX7_slatAt 2 = .ok (.iload_n 1, 1) := by decide +kernel
theorem dX7_slatAt_3 : decode cX7_slatAt 3 = .ok (.invokevirtual 320, 3) := by decide +kernel
theorem dX7_slatAt_6 : decode cX7_slatAt 6 = .ok (.invokevirtual 78, 3) := by decide +kernel
theorem dX7_slatAt_9 : decode cX7_slatAt 9 = .ok (.ifCond .eq 11, 3) := by decide +kernel
theorem dX7_slatAt_12 : decode cX7_slatAt 12 = .ok (.aload_n 0, 1) := by decide +kernel
theorem dX7_slatAt_13 : decode cX7_slatAt 13 = .ok (.iload_n 1, 1) := by decide +kernel
theorem dX7_slatAt_14 : decode cX7_slatAt 14 = .ok (.invokevirtual 261, 3) := by decide +kernel
theorem dX7_slatAt_17 : decode cX7_slatAt 17 = .ok (.goto 4, 3) := by decide +kernel
theorem dX7_slatAt_20 : decode cX7_slatAt 20 = .ok (.iconst 0, 1) := by decide +kernel
theorem dX7_slatAt_21 : decode cX7_slatAt 21 = .ok (.ireturn, 1) := by decide +kernel
theorem dX7_picture_0 : decode cX7_picture 0 = .ok (.aload_n 0, 1) := by decide +kernel
theorem dX7_picture_1 : decode cX7_picture 1 = .ok (.aload_n 0, 1) := by decide +kernel
theorem dX7_picture_2 : decode cX7_picture 2 = .ok (.iload_n 2, 1) := by decide +kernel
theorem dX7_picture_3 : decode cX7_picture 3 = .ok (.invokevirtual 320, 3) := by decide +kernel
theorem dX7_picture_6 : decode cX7_picture 6 = .ok (.ifCond .eq 15, 3) := by decide +kernel
theorem dX7_picture_9 : decode cX7_picture 9 = .ok (.aload_n 0, 1) := by decide +kernel
theorem dX7_picture_10 : decode cX7_picture 10 = .ok (.iload_n 3, 1) := by decide +kernel
theorem dX7_picture_11 : decode cX7_picture 11 = .ok (.invokevirtual 293, 3) := by decide +kernel
theorem dX7_picture_14 : decode cX7_picture 14 = .ok (.ifCond .eq 7, 3) := by decide +kernel
theorem dX7_picture_17 : decode cX7_picture 17 = .ok (.iconst 1, 1) := by decide +kernel
theorem dX7_picture_18 : decode cX7_picture 18 = .ok (.goto 4, 3) := by decide +kernel
theorem dX7_picture_21 : decode cX7_picture 21 = .ok (.iconst 0, 1) := by decide +kernel
theorem dX7_picture_22 : decode cX7_picture 22 = .ok (.invokevirtual 78, 3) := by decide +kernel
theorem dX7_picture_25 : decode cX7_picture 25 = .ok (.ifCond .eq 16, 3) := by decide +kernel
theorem dX7_picture_28 : decode cX7_picture 28 = .ok (.aload_n 0, 1) := by decide +kernel
theorem dX7_picture_29 : decode cX7_picture 29 = .ok (.iload_n 1, 1) := by decide +kernel
theorem dX7_picture_30 : decode cX7_picture 30 = .ok (.invokestatic 71, 3) := by decide +kernel
theorem dX7_picture_33 : decode cX7_picture 33 = .ok (.iload_n 2, 1) := by decide +kernel
theorem dX7_picture_34 : decode cX7_picture 34 = .ok (.iload_n 3, 1) := by decide +kernel
theorem dX7_picture_35 : decode cX7_picture 35 = .ok (.invokevirtual 177, 3) := by decide +kernel
theorem dX7_picture_38 : decode cX7_picture 38 = .ok (.goto 4, 3) := by decide +kernel
theorem dX7_picture_41 : decode cX7_picture 41 = .ok (.iconst 0, 1) := by decide +kernel
theorem dX7_picture_42 : decode cX7_picture 42 = .ok (.ireturn, 1) := by decide +kernel
theorem dX7_face_0 : decode cX7_face 0 = .ok (.aload_n 0, 1) := by decide +kernel
theorem dX7_face_1 : decode cX7_face 1 = .ok (.aload_n 0, 1) := by decide +kernel
theorem dX7_face_2 : decode cX7_face 2 = .ok (.iload_n 1, 1) := by decide +kernel
theorem dX7_face_3 : decode cX7_face 3 = .ok (.iload_n 3, 1) := by decide +kernel
theorem dX7_face_4 : decode cX7_face 4 = .ok (.iload 4, 2) := by decide +kernel
theorem dX7_face_6 : decode cX7_face 6 = .ok (.invokevirtual 323, 3) := by decide +kernel
theorem dX7_face_9 : decode cX7_face 9 = .ok (.invokevirtual 78, 3) := by decide +kernel
theorem dX7_face_12 : decode cX7_face 12 = .ok (.ifCond .eq 23, 3) := by decide +kernel
theorem dX7_face_15 : decode cX7_face 15 = .ok (.aload_n 0, 1) := by decide +kernel
theorem dX7_face_16 : decode cX7_face 16 = .ok (.iload_n 2, 1) := by decide +kernel
theorem dX7_face_17 : decode cX7_face 17 = .ok (.invokestatic 71, 3) := by decide +kernel
theorem dX7_face_20 : decode cX7_face 20 = .ok (.aload_n 0, 1) := by decide +kernel
theorem dX7_face_21 : decode cX7_face 21 = .ok (.iload_n 1, 1) := by decide +kernel
theorem dX7_face_22 : decode cX7_face 22 = .ok (.invokevirtual 167, 3) := by decide +kernel
theorem dX7_face_25 : decode cX7_face 25 = .ok (.iload_n 3, 1) := by decide +kernel
theorem dX7_face_26 : decode cX7_face 26 = .ok (.iadd, 1) := by decide +kernel
theorem dX7_face_27 : decode cX7_face 27 = .ok (.iload 4, 2) := by decide +kernel
theorem dX7_face_29 : decode cX7_face 29 = .ok (.invokevirtual 180, 3) := by decide +kernel
theorem dX7_face_32 : decode cX7_face 32 = .ok (.goto 4, 3) := by decide +kernel
theorem dX7_face_35 : decode cX7_face 35 = .ok (.iconst 0, 1) := by decide +kernel
theorem dX7_face_36 : decode cX7_face 36 = .ok (.ireturn, 1) := by decide +kernel
theorem dX7_common_0 : decode cX7_common 0 = .ok (.aload_n 0, 1) := by decide +kernel
theorem dX7_common_1 : decode cX7_common 1 = .ok (.iconst 0, 1) := by decide +kernel
theorem dX7_common_2 : decode cX7_common 2 = .ok (.putfield 68, 3) := by decide +kernel
theorem dX7_common_5 : decode cX7_common 5 = .ok (.iconst 0, 1) := by decide +kernel
theorem dX7_common_6 : decode cX7_common 6 = .ok (.istore_n 1, 1) := by decide +kernel
theorem dX7_common_7 : decode cX7_common 7 = .ok (.aload_n 0, 1) := by decide +kernel
theorem dX7_common_8 : decode cX7_common 8 = .ok (.invokevirtual 170, 3) := by decide +kernel
theorem dX7_common_11 : decode cX7_common 11 = .ok (.istore_n 2, 1) := by decide +kernel
theorem dX7_common_12 : decode cX7_common 12 = .ok (.iconst 0, 1) := by decide +kernel
theorem dX7_common_13 : decode cX7_common 13 = .ok (.istore_n 3, 1) := by decide +kernel
theorem dX7_common_14 : decode cX7_common 14 = .ok (.iload_n 3, 1) := by decide +kernel
theorem dX7_common_15 : decode cX7_common 15 = .ok (.iload_n 2, 1) := by decide +kernel
theorem dX7_common_16 : decode cX7_common 16 = .ok (.if_icmp .ge 59, 3) := by decide +kernel
theorem dX7_common_19 : decode cX7_common 19 = .ok (.iconst 0, 1) := by decide +kernel
theorem dX7_common_20 : decode cX7_common 20 = .ok (.istore 4, 2) := by decide +kernel
theorem dX7_common_22 : decode cX7_common 22 = .ok (.iload 4, 2) := by decide +kernel
theorem dX7_common_24 : decode cX7_common 24 = .ok (.aload_n 0, 1) := by decide +kernel
theorem dX7_common_25 : decode cX7_common 25 = .ok (.getfield 20, 3) := by decide +kernel
theorem dX7_common_28 : decode cX7_common 28 = .ok (.iconst 0, 1) := by decide +kernel
theorem dX7_common_29 : decode cX7_common 29 = .ok (.iaload, 1) := by decide +kernel
theorem dX7_common_30 : decode cX7_common 30 = .ok (.if_icmp .ge 39, 3) := by decide +kernel
theorem dX7_common_33 : decode cX7_common 33 = .ok (.iload_n 1, 1) := by decide +kernel
theorem dX7_common_34 : decode cX7_common 34 = .ok (.aload_n 0, 1) := by decide +kernel
theorem dX7_common_35 : decode cX7_common 35 = .ok (.iconst 0, 1) := by decide +kernel
theorem dX7_common_36 : decode cX7_common 36 = .ok (.iload_n 3, 1) := by decide +kernel
theorem dX7_common_37 : decode cX7_common 37 = .ok (.iload 4, 2) := by decide +kernel
theorem dX7_common_39 : decode cX7_common 39 = .ok (.invokevirtual 177, 3) := by decide +kernel
theorem dX7_common_42 : decode cX7_common 42 = .ok (.aload_n 0, 1) := by decide +kernel
theorem dX7_common_43 : decode cX7_common 43 = .ok (.iconst 1, 1) := by decide +kernel
theorem dX7_common_44 : decode cX7_common 44 = .ok (.iload_n 3, 1) := by decide +kernel
theorem dX7_common_45 : decode cX7_common 45 = .ok (.iload 4, 2) := by decide +kernel
theorem dX7_common_47 : decode cX7_common 47 = .ok (.invokevirtual 177, 3) := by decide +kernel
theorem dX7_common_50 : decode cX7_common 50 = .ok (.if_icmp .ne 7, 3) := by decide +kernel
theorem dX7_common_53 : decode cX7_common 53 = .ok (.iconst 1, 1) := by decide +kernel
theorem dX7_common_54 : decode cX7_common 54 = .ok (.goto 4, 3) := by decide +kernel
theorem dX7_common_57 : decode cX7_common 57 = .ok (.iconst 0, 1) := by decide +kernel
theorem dX7_common_58 : decode cX7_common 58 = .ok (.invokestatic 71, 3) := by decide +kernel
theorem dX7_common_61 : decode cX7_common 61 = .ok (.iadd, 1) := by decide +kernel
theorem dX7_common_62 : decode cX7_common 62 = .ok (.istore_n 1, 1) := by decide +kernel
theorem dX7_common_63 : decode cX7_common 63 = .ok (.iinc 4 1, 3) := by decide +kernel
theorem dX7_common_66 : decode cX7_common 66 = .ok (.goto (-44), 3) := by decide +kernel
theorem dX7_common_69 : decode cX7_common 69 = .ok (.iinc 3 1, 3) := by decide +kernel
theorem dX7_common_72 : decode cX7_common 72 = .ok (.goto (-58), 3) := by decide +kernel
theorem dX7_common_75 : decode cX7_common 75 = .ok (.iload_n 1, 1) := by decide +kernel
theorem dX7_common_76 : decode cX7_common 76 = .ok (.ireturn, 1) := by decide +kernel
theorem dX7_isSeeing_0 : decode cX7_isSeeing 0 = .ok (.aload_n 0, 1) := by decide +kernel
theorem dX7_isSeeing_1 : decode cX7_isSeeing 1 = .ok (.aload_n 0, 1) := by decide +kernel
theorem dX7_isSeeing_2 : decode cX7_isSeeing 2 = .ok (.iload_n 2, 1) := by decide +kernel
theorem dX7_isSeeing_3 : decode cX7_isSeeing 3 = .ok (.invokevirtual 320, 3) := by decide +kernel
theorem dX7_isSeeing_6 : decode cX7_isSeeing 6 = .ok (.ifCond .eq 15, 3) := by decide +kernel
theorem dX7_isSeeing_9 : decode cX7_isSeeing 9 = .ok (.aload_n 0, 1) := by decide +kernel
theorem dX7_isSeeing_10 : decode cX7_isSeeing 10 = .ok (.iload_n 3, 1) := by decide +kernel
theorem dX7_isSeeing_11 : decode cX7_isSeeing 11 = .ok (.invokevirtual 293, 3) := by decide +kernel
theorem dX7_isSeeing_14 : decode cX7_isSeeing 14 = .ok (.ifCond .eq 7, 3) := by decide +kernel
theorem dX7_isSeeing_17 : decode cX7_isSeeing 17 = .ok (.iconst 1, 1) := by decide +kernel
theorem dX7_isSeeing_18 : decode cX7_isSeeing 18 = .ok (.goto 4, 3) := by decide +kernel
theorem dX7_isSeeing_21 : decode cX7_isSeeing 21 = .ok (.iconst 0, 1) := by decide +kernel
theorem dX7_isSeeing_22 : decode cX7_isSeeing 22 = .ok (.iload_n 1, 1) := by decide +kernel
theorem dX7_isSeeing_23 : decode cX7_isSeeing 23 = .ok (.invokestatic 326, 3) := by decide +kernel
theorem dX7_isSeeing_26 : decode cX7_isSeeing 26 = .ok (.invokevirtual 313, 3) := by decide +kernel
theorem dX7_isSeeing_29 : decode cX7_isSeeing 29 = .ok (.ireturn, 1) := by decide +kernel
theorem dX7_seenAt_0 : decode cX7_seenAt 0 = .ok (.aload_n 0, 1) := by decide +kernel
theorem dX7_seenAt_1 : decode cX7_seenAt 1 = .ok (.iload_n 1, 1) := by decide +kernel
theorem dX7_seenAt_2 : decode cX7_seenAt 2 = .ok (.iload_n 2, 1) := by decide +kernel
theorem dX7_seenAt_3 : decode cX7_seenAt 3 = .ok (.invokevirtual 277, 3) := by decide +kernel
theorem dX7_seenAt_6 : decode cX7_seenAt 6 = .ok (.istore 4, 2) := by decide +kernel
theorem dX7_seenAt_8 : decode cX7_seenAt 8 = .ok (.iload 4, 2) := by decide +kernel
theorem dX7_seenAt_10 : decode cX7_seenAt 10 = .ok (.ifCond .ne 13, 3) := by decide +kernel
theorem dX7_seenAt_13 : decode cX7_seenAt 13 = .ok (.aload_n 0, 1) := by decide +kernel
theorem dX7_seenAt_14 : decode cX7_seenAt 14 = .ok (.iload_n 1, 1) := by decide +kernel
theorem dX7_seenAt_15 : decode cX7_seenAt 15 = .ok (.iload_n 2, 1) := by decide +kernel
theorem dX7_seenAt_16 : decode cX7_seenAt 16 = .ok (.iload_n 3, 1) := by decide +kernel
theorem dX7_seenAt_17 : decode cX7_seenAt 17 = .ok (.invokevirtual 280, 3) := by decide +kernel
theorem dX7_seenAt_20 : decode cX7_seenAt 20 = .ok (.goto 15, 3) := by decide +kernel
theorem dX7_seenAt_23 : decode cX7_seenAt 23 = .ok (.iload 4, 2) := by decide +kernel
theorem dX7_seenAt_25 : decode cX7_seenAt 25 = .ok (.iconst 1, 1) := by decide +kernel
theorem dX7_seenAt_26 : decode cX7_seenAt 26 = .ok (.if_icmp .ne 8, 3) := by decide +kernel
theorem dX7_seenAt_29 : decode cX7_seenAt 29 = .ok (.bipush (-2), 2) := by decide +kernel
theorem dX7_seenAt_31 : decode cX7_seenAt 31 = .ok (.goto 4, 3) := by decide +kernel
theorem dX7_seenAt_34 : decode cX7_seenAt 34 = .ok (.iconst (-1), 1) := by decide +kernel
theorem dX7_seenAt_35 : decode cX7_seenAt 35 = .ok (.ireturn, 1) := by decide +kernel
theorem dX7_seen_0 : decode cX7_seen 0 = .ok (.aload_n 0, 1) := by decide +kernel
theorem dX7_seen_1 : decode cX7_seen 1 = .ok (.iload_n 1, 1) := by decide +kernel
theorem dX7_seen_2 : decode cX7_seen 2 = .ok (.iload_n 2, 1) := by decide +kernel
theorem dX7_seen_3 : decode cX7_seen 3 = .ok (.iload_n 3, 1) := by decide +kernel
theorem dX7_seen_4 : decode cX7_seen 4 = .ok (.invokevirtual 329, 3) := by decide +kernel
theorem dX7_seen_7 : decode cX7_seen 7 = .ok (.ifCond .eq 13, 3) := by decide +kernel
theorem dX7_seen_10 : decode cX7_seen 10 = .ok (.aload_n 0, 1) := by decide +kernel
theorem dX7_seen_11 : decode cX7_seen 11 = .ok (.iload_n 1, 1) := by decide +kernel
theorem dX7_seen_12 : decode cX7_seen 12 = .ok (.iload_n 2, 1) := by decide +kernel
theorem dX7_seen_13 : decode cX7_seen 13 = .ok (.iload_n 3, 1) := by decide +kernel
theorem dX7_seen_14 : decode cX7_seen 14 = .ok (.invokevirtual 332, 3) := by decide +kernel
theorem dX7_seen_17 : decode cX7_seen 17 = .ok (.goto 4, 3) := by decide +kernel
theorem dX7_seen_20 : decode cX7_seen 20 = .ok (.iconst 0, 1) := by decide +kernel
theorem dX7_seen_21 : decode cX7_seen 21 = .ok (.ireturn, 1) := by decide +kernel
theorem dX7_why_0 : decode cX7_why 0 = .ok (.aload_n 0, 1) := by decide +kernel
theorem dX7_why_1 : decode cX7_why 1 = .ok (.iload_n 1, 1) := by decide +kernel
theorem dX7_why_2 : decode cX7_why 2 = .ok (.iload_n 3, 1) := by decide +kernel
theorem dX7_why_3 : decode cX7_why 3 = .ok (.iload 4, 2) := by decide +kernel
theorem dX7_why_5 : decode cX7_why 5 = .ok (.invokevirtual 329, 3) := by decide +kernel
theorem dX7_why_8 : decode cX7_why 8 = .ok (.ifCond .eq 18, 3) := by decide +kernel
theorem dX7_why_11 : decode cX7_why 11 = .ok (.aload_n 0, 1) := by decide +kernel
theorem dX7_why_12 : decode cX7_why 12 = .ok (.iload_n 1, 1) := by decide +kernel
theorem dX7_why_13 : decode cX7_why 13 = .ok (.iload_n 2, 1) := by decide +kernel
theorem dX7_why_14 : decode cX7_why 14 = .ok (.invokestatic 71, 3) := by decide +kernel
theorem dX7_why_17 : decode cX7_why 17 = .ok (.iload_n 3, 1) := by decide +kernel
theorem dX7_why_18 : decode cX7_why 18 = .ok (.iload 4, 2) := by decide +kernel
theorem dX7_why_20 : decode cX7_why 20 = .ok (.invokevirtual 283, 3) := by decide +kernel
theorem dX7_why_23 : decode cX7_why 23 = .ok (.goto 4, 3) := by decide +kernel
theorem dX7_why_26 : decode cX7_why 26 = .ok (.iconst 0, 1) := by decide +kernel
theorem dX7_why_27 : decode cX7_why 27 = .ok (.ireturn, 1) := by decide +kernel
