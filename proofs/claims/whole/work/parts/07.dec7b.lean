theorem dX7_right_0 : decode cX7_right 0 = .ok (.aload_n 0, 1) := by decide +kernel
theorem dX7_right_1 : decode cX7_right 1 = .ok (.iload_n 1, 1) := by decide +kernel
theorem dX7_right_2 : decode cX7_right 2 = .ok (.invokestatic 326, 3) := by decide +kernel
theorem dX7_right_5 : decode cX7_right 5 = .ok (.invokevirtual 78, 3) := by decide +kernel
theorem dX7_right_8 : decode cX7_right 8 = .ok (.ifCond .eq 15, 3) := by decide +kernel
theorem dX7_right_11 : decode cX7_right 11 = .ok (.aload_n 0, 1) := by decide +kernel
theorem dX7_right_12 : decode cX7_right 12 = .ok (.iload_n 1, 1) := by decide +kernel
theorem dX7_right_13 : decode cX7_right 13 = .ok (.iload_n 2, 1) := by decide +kernel
theorem dX7_right_14 : decode cX7_right 14 = .ok (.invokestatic 71, 3) := by decide +kernel
theorem dX7_right_17 : decode cX7_right 17 = .ok (.invokevirtual 335, 3) := by decide +kernel
theorem dX7_right_20 : decode cX7_right 20 = .ok (.goto 4, 3) := by decide +kernel
theorem dX7_right_23 : decode cX7_right 23 = .ok (.iconst 0, 1) := by decide +kernel
theorem dX7_right_24 : decode cX7_right 24 = .ok (.ireturn, 1) := by decide +kernel
theorem dX7_openMany_0 : decode cX7_openMany 0 = .ok (.aload_n 0, 1) := by decide +kernel
theorem dX7_openMany_1 : decode cX7_openMany 1 = .ok (.getfield 20, 3) := by decide +kernel
theorem dX7_openMany_4 : decode cX7_openMany 4 = .ok (.iconst 0, 1) := by decide +kernel
theorem dX7_openMany_5 : decode cX7_openMany 5 = .ok (.iaload, 1) := by decide +kernel
theorem dX7_openMany_6 : decode cX7_openMany 6 = .ok (.aload_n 0, 1) := by decide +kernel
theorem dX7_openMany_7 : decode cX7_openMany 7 = .ok (.iload_n 1, 1) := by decide +kernel
theorem dX7_openMany_8 : decode cX7_openMany 8 = .ok (.iconst 2, 1) := by decide +kernel
theorem dX7_openMany_9 : decode cX7_openMany 9 = .ok (.iconst 3, 1) := by decide +kernel
theorem dX7_openMany_10 : decode cX7_openMany 10 = .ok (.invokevirtual 338, 3) := by decide +kernel
theorem dX7_openMany_13 : decode cX7_openMany 13 = .ok (.imul, 1) := by decide +kernel
theorem dX7_openMany_14 : decode cX7_openMany 14 = .ok (.ireturn, 1) := by decide +kernel
theorem dX7_open_0 : decode cX7_open 0 = .ok (.aload_n 0, 1) := by decide +kernel
theorem dX7_open_1 : decode cX7_open 1 = .ok (.iload_n 1, 1) := by decide +kernel
theorem dX7_open_2 : decode cX7_open 2 = .ok (.invokestatic 326, 3) := by decide +kernel
theorem dX7_open_5 : decode cX7_open 5 = .ok (.invokevirtual 78, 3) := by decide +kernel
theorem dX7_open_8 : decode cX7_open 8 = .ok (.ifCond .eq 11, 3) := by decide +kernel
theorem dX7_open_11 : decode cX7_open 11 = .ok (.aload_n 0, 1) := by decide +kernel
theorem dX7_open_12 : decode cX7_open 12 = .ok (.iload_n 1, 1) := by decide +kernel
theorem dX7_open_13 : decode cX7_open 13 = .ok (.invokevirtual 341, 3) := by decide +kernel
theorem dX7_open_16 : decode cX7_open 16 = .ok (.goto 4, 3) := by decide +kernel
theorem dX7_open_19 : decode cX7_open 19 = .ok (.iconst 0, 1) := by decide +kernel
theorem dX7_open_20 : decode cX7_open 20 = .ok (.ireturn, 1) := by decide +kernel
theorem dX7_covered_0 : decode cX7_covered 0 = .ok (.aload_n 0, 1) := by decide +kernel
theorem dX7_covered_1 : decode cX7_covered 1 = .ok (.iload_n 1, 1) := by decide +kernel
theorem dX7_covered_2 : decode cX7_covered 2 = .ok (.invokestatic 326, 3) := by decide +kernel
theorem dX7_covered_5 : decode cX7_covered 5 = .ok (.invokevirtual 78, 3) := by decide +kernel
theorem dX7_covered_8 : decode cX7_covered 8 = .ok (.ifCond .eq 20, 3) := by decide +kernel
theorem dX7_covered_11 : decode cX7_covered 11 = .ok (.aload_n 0, 1) := by decide +kernel
theorem dX7_covered_12 : decode cX7_covered 12 = .ok (.getfield 20, 3) := by decide +kernel
theorem dX7_covered_15 : decode cX7_covered 15 = .ok (.iconst 0, 1) := by decide +kernel
theorem dX7_covered_16 : decode cX7_covered 16 = .ok (.iaload, 1) := by decide +kernel
theorem dX7_covered_17 : decode cX7_covered 17 = .ok (.aload_n 0, 1) := by decide +kernel
theorem dX7_covered_18 : decode cX7_covered 18 = .ok (.iload_n 1, 1) := by decide +kernel
theorem dX7_covered_19 : decode cX7_covered 19 = .ok (.iconst 1, 1) := by decide +kernel
theorem dX7_covered_20 : decode cX7_covered 20 = .ok (.iconst 1, 1) := by decide +kernel
theorem dX7_covered_21 : decode cX7_covered 21 = .ok (.invokevirtual 338, 3) := by decide +kernel
theorem dX7_covered_24 : decode cX7_covered 24 = .ok (.imul, 1) := by decide +kernel
theorem dX7_covered_25 : decode cX7_covered 25 = .ok (.goto 4, 3) := by decide +kernel
theorem dX7_covered_28 : decode cX7_covered 28 = .ok (.iconst 0, 1) := by decide +kernel
theorem dX7_covered_29 : decode cX7_covered 29 = .ok (.ireturn, 1) := by decide +kernel
theorem dX7_whole_0 : decode cX7_whole 0 = .ok (.aload_n 0, 1) := by decide +kernel
theorem dX7_whole_1 : decode cX7_whole 1 = .ok (.iload_n 1, 1) := by decide +kernel
theorem dX7_whole_2 : decode cX7_whole 2 = .ok (.invokestatic 326, 3) := by decide +kernel
theorem dX7_whole_5 : decode cX7_whole 5 = .ok (.invokevirtual 78, 3) := by decide +kernel
theorem dX7_whole_8 : decode cX7_whole 8 = .ok (.ifCond .eq 27, 3) := by decide +kernel
theorem dX7_whole_11 : decode cX7_whole 11 = .ok (.aload_n 0, 1) := by decide +kernel
theorem dX7_whole_12 : decode cX7_whole 12 = .ok (.iload_n 1, 1) := by decide +kernel
theorem dX7_whole_13 : decode cX7_whole 13 = .ok (.iconst 0, 1) := by decide +kernel
theorem dX7_whole_14 : decode cX7_whole 14 = .ok (.invokevirtual 344, 3) := by decide +kernel
theorem dX7_whole_17 : decode cX7_whole 17 = .ok (.invokestatic 71, 3) := by decide +kernel
theorem dX7_whole_20 : decode cX7_whole 20 = .ok (.iconst 2, 1) := by decide +kernel
theorem dX7_whole_21 : decode cX7_whole 21 = .ok (.aload_n 0, 1) := by decide +kernel
theorem dX7_whole_22 : decode cX7_whole 22 = .ok (.iload_n 1, 1) := by decide +kernel
theorem dX7_whole_23 : decode cX7_whole 23 = .ok (.iconst 1, 1) := by decide +kernel
theorem dX7_whole_24 : decode cX7_whole 24 = .ok (.invokevirtual 344, 3) := by decide +kernel
theorem dX7_whole_27 : decode cX7_whole 27 = .ok (.invokestatic 71, 3) := by decide +kernel
theorem dX7_whole_30 : decode cX7_whole 30 = .ok (.imul, 1) := by decide +kernel
theorem dX7_whole_31 : decode cX7_whole 31 = .ok (.iadd, 1) := by decide +kernel
theorem dX7_whole_32 : decode cX7_whole 32 = .ok (.goto 4, 3) := by decide +kernel
theorem dX7_whole_35 : decode cX7_whole 35 = .ok (.iconst 0, 1) := by decide +kernel
theorem dX7_whole_36 : decode cX7_whole 36 = .ok (.ireturn, 1) := by decide +kernel
theorem dX7_firstWrong_0 : decode cX7_firstWrong 0 = .ok (.aload_n 0, 1) := by decide +kernel
theorem dX7_firstWrong_1 : decode cX7_firstWrong 1 = .ok (.iload_n 1, 1) := by decide +kernel
theorem dX7_firstWrong_2 : decode cX7_firstWrong 2 = .ok (.invokestatic 326, 3) := by decide +kernel
theorem dX7_firstWrong_5 : decode cX7_firstWrong 5 = .ok (.invokevirtual 78, 3) := by decide +kernel
theorem dX7_firstWrong_8 : decode cX7_firstWrong 8 = .ok (.ifCond .eq 15, 3) := by decide +kernel
theorem dX7_firstWrong_11 : decode cX7_firstWrong 11 = .ok (.aload_n 0, 1) := by decide +kernel
theorem dX7_firstWrong_12 : decode cX7_firstWrong 12 = .ok (.iload_n 1, 1) := by decide +kernel
theorem dX7_firstWrong_13 : decode cX7_firstWrong 13 = .ok (.iload_n 2, 1) := by decide +kernel
theorem dX7_firstWrong_14 : decode cX7_firstWrong 14 = .ok (.invokestatic 71, 3) := by decide +kernel
theorem dX7_firstWrong_17 : decode cX7_firstWrong 17 = .ok (.invokevirtual 287, 3) := by decide +kernel
theorem dX7_firstWrong_20 : decode cX7_firstWrong 20 = .ok (.goto 4, 3) := by decide +kernel
theorem dX7_firstWrong_23 : decode cX7_firstWrong 23 = .ok (.iconst 0, 1) := by decide +kernel
theorem dX7_firstWrong_24 : decode cX7_firstWrong 24 = .ok (.ireturn, 1) := by decide +kernel
theorem dX7_shownFrom_0 : decode cX7_shownFrom 0 = .ok (.aload_n 0, 1) := by decide +kernel
theorem dX7_shownFrom_1 : decode cX7_shownFrom 1 = .ok (.aload_n 0, 1) := by decide +kernel
theorem dX7_shownFrom_2 : decode cX7_shownFrom 2 = .ok (.iload_n 1, 1) := by decide +kernel
theorem dX7_shownFrom_3 : decode cX7_shownFrom 3 = .ok (.invokevirtual 320, 3) := by decide +kernel
theorem dX7_shownFrom_6 : decode cX7_shownFrom 6 = .ok (.invokevirtual 78, 3) := by decide +kernel
theorem dX7_shownFrom_9 : decode cX7_shownFrom 9 = .ok (.ifCond .ne 5, 3) := by decide +kernel
theorem dX7_shownFrom_12 : decode cX7_shownFrom 12 = .ok (.iconst 0, 1) := by decide +kernel
theorem dX7_shownFrom_13 : decode cX7_shownFrom 13 = .ok (.ireturn, 1) := by decide +kernel
theorem dX7_shownFrom_14 : decode cX7_shownFrom 14 = .ok (.iconst 0, 1) := by decide +kernel
theorem dX7_shownFrom_15 : decode cX7_shownFrom 15 = .ok (.istore_n 2, 1) := by decide +kernel
theorem dX7_shownFrom_16 : decode cX7_shownFrom 16 = .ok (.bipush (-6), 2) := by decide +kernel
theorem dX7_shownFrom_18 : decode cX7_shownFrom 18 = .ok (.istore_n 3, 1) := by decide +kernel
theorem dX7_shownFrom_19 : decode cX7_shownFrom 19 = .ok (.iload_n 3, 1) := by decide +kernel
theorem dX7_shownFrom_20 : decode cX7_shownFrom 20 = .ok (.bipush 6, 2) := by decide +kernel
theorem dX7_shownFrom_22 : decode cX7_shownFrom 22 = .ok (.if_icmp .gt 31, 3) := by decide +kernel
theorem dX7_shownFrom_25 : decode cX7_shownFrom 25 = .ok (.iload_n 2, 1) := by decide +kernel
theorem dX7_shownFrom_26 : decode cX7_shownFrom 26 = .ok (.aload_n 0, 1) := by decide +kernel
theorem dX7_shownFrom_27 : decode cX7_shownFrom 27 = .ok (.iload_n 3, 1) := by decide +kernel
theorem dX7_shownFrom_28 : decode cX7_shownFrom 28 = .ok (.iload_n 1, 1) := by decide +kernel
theorem dX7_shownFrom_29 : decode cX7_shownFrom 29 = .ok (.invokevirtual 277, 3) := by decide +kernel
theorem dX7_shownFrom_32 : decode cX7_shownFrom 32 = .ok (.ifCond .ne 12, 3) := by decide +kernel
theorem dX7_shownFrom_35 : decode cX7_shownFrom 35 = .ok (.iconst 1, 1) := by decide +kernel
theorem dX7_shownFrom_36 : decode cX7_shownFrom 36 = .ok (.iload_n 3, 1) := by decide +kernel
theorem dX7_shownFrom_37 : decode cX7_shownFrom 37 = .ok (.bipush 6, 2) := by decide +kernel
theorem dX7_shownFrom_39 : decode cX7_shownFrom 39 = .ok (.iadd, 1) := by decide +kernel
theorem dX7_shownFrom_40 : decode cX7_shownFrom 40 = .ok (.ishl, 1) := by decide +kernel
theorem dX7_shownFrom_41 : decode cX7_shownFrom 41 = .ok (.goto 4, 3) := by decide +kernel
theorem dX7_shownFrom_44 : decode cX7_shownFrom 44 = .ok (.iconst 0, 1) := by decide +kernel
theorem dX7_shownFrom_45 : decode cX7_shownFrom 45 = .ok (.ior, 1) := by decide +kernel
theorem dX7_shownFrom_46 : decode cX7_shownFrom 46 = .ok (.istore_n 2, 1) := by decide +kernel
theorem dX7_shownFrom_47 : decode cX7_shownFrom 47 = .ok (.iinc 3 1, 3) := by decide +kernel
theorem dX7_shownFrom_50 : decode cX7_shownFrom 50 = .ok (.goto (-31), 3) := by decide +kernel
theorem dX7_shownFrom_53 : decode cX7_shownFrom 53 = .ok (.iload_n 2, 1) := by decide +kernel
theorem dX7_shownFrom_54 : decode cX7_shownFrom 54 = .ok (.ireturn, 1) := by decide +kernel
theorem dX7_bestAngle_0 : decode cX7_bestAngle 0 = .ok (.aload_n 0, 1) := by decide +kernel
theorem dX7_bestAngle_1 : decode cX7_bestAngle 1 = .ok (.iconst 0, 1) := by decide +kernel
theorem dX7_bestAngle_2 : decode cX7_bestAngle 2 = .ok (.putfield 68, 3) := by decide +kernel
theorem dX7_bestAngle_5 : decode cX7_bestAngle 5 = .ok (.bipush (-99), 2) := by decide +kernel
theorem dX7_bestAngle_7 : decode cX7_bestAngle 7 = .ok (.istore_n 2, 1) := by decide +kernel
theorem dX7_bestAngle_8 : decode cX7_bestAngle 8 = .ok (.iconst (-1), 1) := by decide +kernel
theorem dX7_bestAngle_9 : decode cX7_bestAngle 9 = .ok (.istore_n 3, 1) := by decide +kernel
theorem dX7_bestAngle_10 : decode cX7_bestAngle 10 = .ok (.bipush (-6), 2) := by decide +kernel
theorem dX7_bestAngle_12 : decode cX7_bestAngle 12 = .ok (.istore 4, 2) := by decide +kernel
theorem dX7_bestAngle_14 : decode cX7_bestAngle 14 = .ok (.iload 4, 2) := by decide +kernel
theorem dX7_bestAngle_16 : decode cX7_bestAngle 16 = .ok (.bipush 6, 2) := by decide +kernel
theorem dX7_bestAngle_18 : decode cX7_bestAngle 18 = .ok (.if_icmp .gt 45, 3) := by decide +kernel
theorem dX7_bestAngle_21 : decode cX7_bestAngle 21 = .ok (.aload_n 0, 1) := by decide +kernel
theorem dX7_bestAngle_22 : decode cX7_bestAngle 22 = .ok (.getfield 20, 3) := by decide +kernel
theorem dX7_bestAngle_25 : decode cX7_bestAngle 25 = .ok (.iconst 1, 1) := by decide +kernel
theorem dX7_bestAngle_26 : decode cX7_bestAngle 26 = .ok (.iaload, 1) := by decide +kernel
theorem dX7_bestAngle_27 : decode cX7_bestAngle 27 = .ok (.ifCond .le 36, 3) := by decide +kernel
theorem dX7_bestAngle_30 : decode cX7_bestAngle 30 = .ok (.aload_n 0, 1) := by decide +kernel
theorem dX7_bestAngle_31 : decode cX7_bestAngle 31 = .ok (.iload 4, 2) := by decide +kernel
theorem dX7_bestAngle_33 : decode cX7_bestAngle 33 = .ok (.iload_n 1, 1) := by decide +kernel
theorem dX7_bestAngle_34 : decode cX7_bestAngle 34 = .ok (.invokestatic 71, 3) := by decide +kernel
theorem dX7_bestAngle_37 : decode cX7_bestAngle 37 = .ok (.invokevirtual 335, 3) := by decide +kernel
theorem dX7_bestAngle_40 : decode cX7_bestAngle 40 = .ok (.istore 5, 2) := by decide +kernel
theorem dX7_bestAngle_42 : decode cX7_bestAngle 42 = .ok (.iload 5, 2) := by decide +kernel
theorem dX7_bestAngle_44 : decode cX7_bestAngle 44 = .ok (.iload_n 3, 1) := by decide +kernel
theorem dX7_bestAngle_45 : decode cX7_bestAngle 45 = .ok (.if_icmp .gt 6, 3) := by decide +kernel
theorem dX7_bestAngle_48 : decode cX7_bestAngle 48 = .ok (.goto 9, 3) := by decide +kernel
theorem dX7_bestAngle_51 : decode cX7_bestAngle 51 = .ok (.iload 5, 2) := by decide +kernel
theorem dX7_bestAngle_53 : decode cX7_bestAngle 53 = .ok (.istore_n 3, 1) := by decide +kernel
theorem dX7_bestAngle_54 : decode cX7_bestAngle 54 = .ok (.iload 4, 2) := by decide +kernel
theorem dX7_bestAngle_56 : decode cX7_bestAngle 56 = .ok (.istore_n 2, 1) := by decide +kernel
theorem dX7_bestAngle_57 : decode cX7_bestAngle 57 = .ok (.iinc 4 1, 3) := by decide +kernel
theorem dX7_bestAngle_60 : decode cX7_bestAngle 60 = .ok (.goto (-46), 3) := by decide +kernel
theorem dX7_bestAngle_63 : decode cX7_bestAngle 63 = .ok (.iload_n 2, 1) := by decide +kernel
theorem dX7_bestAngle_64 : decode cX7_bestAngle 64 = .ok (.ireturn, 1) := by decide +kernel
theorem dX7_seam_0 : decode cX7_seam 0 = .ok (.aload_n 0, 1) := by decide +kernel
theorem dX7_seam_1 : decode cX7_seam 1 = .ok (.aload_n 0, 1) := by decide +kernel
theorem dX7_seam_2 : decode cX7_seam 2 = .ok (.iload_n 1, 1) := by decide +kernel
theorem dX7_seam_3 : decode cX7_seam 3 = .ok (.invokevirtual 290, 3) := by decide +kernel
theorem dX7_seam_6 : decode cX7_seam 6 = .ok (.invokevirtual 78, 3) := by decide +kernel
theorem dX7_seam_9 : decode cX7_seam 9 = .ok (.ifCond .eq 11, 3) := by decide +kernel
theorem dX7_seam_12 : decode cX7_seam 12 = .ok (.aload_n 0, 1) := by decide +kernel
theorem dX7_seam_13 : decode cX7_seam 13 = .ok (.iload_n 1, 1) := by decide +kernel
theorem dX7_seam_14 : decode cX7_seam 14 = .ok (.invokevirtual 264, 3) := by decide +kernel
theorem dX7_seam_17 : decode cX7_seam 17 = .ok (.goto 4, 3) := by decide +kernel
theorem dX7_seam_20 : decode cX7_seam 20 = .ok (.iconst 0, 1) := by decide +kernel
theorem dX7_seam_21 : decode cX7_seam 21 = .ok (.ireturn, 1) := by decide +kernel
theorem dX7_run_0 : decode cX7_run 0 = .ok (.aload_n 0, 1) := by decide +kernel
theorem dX7_run_1 : decode cX7_run 1 = .ok (.iload_n 1, 1) := by decide +kernel
theorem dX7_run_2 : decode cX7_run 2 = .ok (.invokestatic 326, 3) := by decide +kernel
theorem dX7_run_5 : decode cX7_run 5 = .ok (.invokevirtual 78, 3) := by decide +kernel
theorem dX7_run_8 : decode cX7_run 8 = .ok (.ifCond .ne 5, 3) := by decide +kernel
theorem dX7_run_11 : decode cX7_run 11 = .ok (.iconst 0, 1) := by decide +kernel
theorem dX7_run_12 : decode cX7_run 12 = .ok (.ireturn, 1) := by decide +kernel
theorem dX7_run_13 : decode cX7_run 13 = .ok (.iconst 0, 1) := by decide +kernel
theorem dX7_run_14 : decode cX7_run 14 = .ok (.istore_n 2, 1) := by decide +kernel
theorem dX7_run_15 : decode cX7_run 15 = .ok (.iconst 0, 1) := by decide +kernel
theorem dX7_run_16 : decode cX7_run 16 = .ok (.istore_n 3, 1) := by decide +kernel
theorem dX7_run_17 : decode cX7_run 17 = .ok (.aload_n 0, 1) := by decide +kernel
theorem dX7_run_18 : decode cX7_run 18 = .ok (.invokevirtual 170, 3) := by decide +kernel
theorem dX7_run_21 : decode cX7_run 21 = .ok (.istore 4, 2) := by decide +kernel
theorem dX7_run_23 : decode cX7_run 23 = .ok (.iconst 0, 1) := by decide +kernel
theorem dX7_run_24 : decode cX7_run 24 = .ok (.istore 5, 2) := by decide +kernel
theorem dX7_run_26 : decode cX7_run 26 = .ok (.iload 5, 2) := by decide +kernel
theorem dX7_run_28 : decode cX7_run 28 = .ok (.iload 4, 2) := by decide +kernel
theorem dX7_run_30 : decode cX7_run 30 = .ok (.if_icmp .ge 33, 3) := by decide +kernel
theorem dX7_run_33 : decode cX7_run 33 = .ok (.aload_n 0, 1) := by decide +kernel
theorem dX7_run_34 : decode cX7_run 34 = .ok (.iload_n 1, 1) := by decide +kernel
theorem dX7_run_35 : decode cX7_run 35 = .ok (.iload 5, 2) := by decide +kernel
theorem dX7_run_37 : decode cX7_run 37 = .ok (.invokevirtual 277, 3) := by decide +kernel
theorem dX7_run_40 : decode cX7_run 40 = .ok (.ifCond .ne 9, 3) := by decide +kernel
theorem dX7_run_43 : decode cX7_run 43 = .ok (.iload_n 3, 1) := by decide +kernel
theorem dX7_run_44 : decode cX7_run 44 = .ok (.iconst 1, 1) := by decide +kernel
theorem dX7_run_45 : decode cX7_run 45 = .ok (.iadd, 1) := by decide +kernel
theorem dX7_run_46 : decode cX7_run 46 = .ok (.goto 4, 3) := by decide +kernel
theorem dX7_run_49 : decode cX7_run 49 = .ok (.iconst 0, 1) := by decide +kernel
theorem dX7_run_50 : decode cX7_run 50 = .ok (.istore_n 3, 1) := by decide +kernel
theorem dX7_run_51 : decode cX7_run 51 = .ok (.iload_n 2, 1) := by decide +kernel
theorem dX7_run_52 : decode cX7_run 52 = .ok (.iload_n 3, 1) := by decide +kernel
theorem dX7_run_53 : decode cX7_run 53 = .ok (.invokestatic 255, 3) := by decide +kernel
theorem dX7_run_56 : decode cX7_run 56 = .ok (.istore_n 2, 1) := by decide +kernel
theorem dX7_run_57 : decode cX7_run 57 = .ok (.iinc 5 1, 3) := by decide +kernel
theorem dX7_run_60 : decode cX7_run 60 = .ok (.goto (-34), 3) := by decide +kernel
theorem dX7_run_63 : decode cX7_run 63 = .ok (.iload_n 2, 1) := by decide +kernel
theorem dX7_run_64 : decode cX7_run 64 = .ok (.ireturn, 1) := by decide +kernel
theorem dX7_wrongIn_0 : decode cX7_wrongIn 0 = .ok (.iconst 0, 1) := by decide +kernel
theorem dX7_wrongIn_1 : decode cX7_wrongIn 1 = .ok (.istore 4, 2) := by decide +kernel
theorem dX7_wrongIn_3 : decode cX7_wrongIn 3 = .ok (.aload_n 0, 1) := by decide +kernel
theorem dX7_wrongIn_4 : decode cX7_wrongIn 4 = .ok (.iload_n 1, 1) := by decide +kernel
theorem dX7_wrongIn_5 : decode cX7_wrongIn 5 = .ok (.invokevirtual 167, 3) := by decide +kernel
theorem dX7_wrongIn_8 : decode cX7_wrongIn 8 = .ok (.istore 5, 2) := by decide +kernel
theorem dX7_wrongIn_10 : decode cX7_wrongIn 10 = .ok (.iload 5, 2) := by decide +kernel
theorem dX7_wrongIn_12 : decode cX7_wrongIn 12 = .ok (.istore 6, 2) := by decide +kernel
theorem dX7_wrongIn_14 : decode cX7_wrongIn 14 = .ok (.iload 6, 2) := by decide +kernel
theorem dX7_wrongIn_16 : decode cX7_wrongIn 16 = .ok (.iload 5, 2) := by decide +kernel
theorem dX7_wrongIn_18 : decode cX7_wrongIn 18 = .ok (.aload_n 0, 1) := by decide +kernel
theorem dX7_wrongIn_19 : decode cX7_wrongIn 19 = .ok (.iload_n 1, 1) := by decide +kernel
theorem dX7_wrongIn_20 : decode cX7_wrongIn 20 = .ok (.iconst 0, 1) := by decide +kernel
theorem dX7_wrongIn_21 : decode cX7_wrongIn 21 = .ok (.invokevirtual 164, 3) := by decide +kernel
theorem dX7_wrongIn_24 : decode cX7_wrongIn 24 = .ok (.iadd, 1) := by decide +kernel
theorem dX7_wrongIn_25 : decode cX7_wrongIn 25 = .ok (.if_icmp .ge 55, 3) := by decide +kernel
theorem dX7_wrongIn_28 : decode cX7_wrongIn 28 = .ok (.iconst 0, 1) := by decide +kernel
theorem dX7_wrongIn_29 : decode cX7_wrongIn 29 = .ok (.istore 7, 2) := by decide +kernel
theorem dX7_wrongIn_31 : decode cX7_wrongIn 31 = .ok (.iload 7, 2) := by decide +kernel
theorem dX7_wrongIn_33 : decode cX7_wrongIn 33 = .ok (.aload_n 0, 1) := by decide +kernel
theorem dX7_wrongIn_34 : decode cX7_wrongIn 34 = .ok (.getfield 20, 3) := by decide +kernel
theorem dX7_wrongIn_37 : decode cX7_wrongIn 37 = .ok (.iconst 0, 1) := by decide +kernel
theorem dX7_wrongIn_38 : decode cX7_wrongIn 38 = .ok (.iaload, 1) := by decide +kernel
theorem dX7_wrongIn_39 : decode cX7_wrongIn 39 = .ok (.if_icmp .ge 35, 3) := by decide +kernel
theorem dX7_wrongIn_42 : decode cX7_wrongIn 42 = .ok (.iload 4, 2) := by decide +kernel
theorem dX7_wrongIn_44 : decode cX7_wrongIn 44 = .ok (.aload_n 0, 1) := by decide +kernel
theorem dX7_wrongIn_45 : decode cX7_wrongIn 45 = .ok (.iload_n 2, 1) := by decide +kernel
theorem dX7_wrongIn_46 : decode cX7_wrongIn 46 = .ok (.iload_n 3, 1) := by decide +kernel
theorem dX7_wrongIn_47 : decode cX7_wrongIn 47 = .ok (.iload 6, 2) := by decide +kernel
theorem dX7_wrongIn_49 : decode cX7_wrongIn 49 = .ok (.iload 7, 2) := by decide +kernel
theorem dX7_wrongIn_51 : decode cX7_wrongIn 51 = .ok (.invokevirtual 283, 3) := by decide +kernel
theorem dX7_wrongIn_54 : decode cX7_wrongIn 54 = .ok (.ifCond .eq 7, 3) := by decide +kernel
theorem dX7_wrongIn_57 : decode cX7_wrongIn 57 = .ok (.iconst 1, 1) := by decide +kernel
theorem dX7_wrongIn_58 : decode cX7_wrongIn 58 = .ok (.goto 4, 3) := by decide +kernel
theorem dX7_wrongIn_61 : decode cX7_wrongIn 61 = .ok (.iconst 0, 1) := by decide +kernel
theorem dX7_wrongIn_62 : decode cX7_wrongIn 62 = .ok (.invokestatic 71, 3) := by decide +kernel
theorem dX7_wrongIn_65 : decode cX7_wrongIn 65 = .ok (.iadd, 1) := by decide +kernel
theorem dX7_wrongIn_66 : decode cX7_wrongIn 66 = .ok (.istore 4, 2) := by decide +kernel
theorem dX7_wrongIn_68 : decode cX7_wrongIn 68 = .ok (.iinc 7 1, 3) := by decide +kernel
theorem dX7_wrongIn_71 : decode cX7_wrongIn 71 = .ok (.goto (-40), 3) := by decide +kernel
theorem dX7_wrongIn_74 : decode cX7_wrongIn 74 = .ok (.iinc 6 1, 3) := by decide +kernel
theorem dX7_wrongIn_77 : decode cX7_wrongIn 77 = .ok (.goto (-63), 3) := by decide +kernel
theorem dX7_wrongIn_80 : decode cX7_wrongIn 80 = .ok (.iload 4, 2) := by decide +kernel
theorem dX7_wrongIn_82 : decode cX7_wrongIn 82 = .ok (.ireturn, 1) := by decide +kernel
theorem dX7_worstSlat_0 : decode cX7_worstSlat 0 = .ok (.aload_n 0, 1) := by decide +kernel
theorem dX7_worstSlat_1 : decode cX7_worstSlat 1 = .ok (.iload_n 1, 1) := by decide +kernel
theorem dX7_worstSlat_2 : decode cX7_worstSlat 2 = .ok (.invokestatic 326, 3) := by decide +kernel
theorem dX7_worstSlat_5 : decode cX7_worstSlat 5 = .ok (.invokevirtual 78, 3) := by decide +kernel
theorem dX7_worstSlat_8 : decode cX7_worstSlat 8 = .ok (.ifCond .ne 5, 3) := by decide +kernel
theorem dX7_worstSlat_11 : decode cX7_worstSlat 11 = .ok (.iconst 0, 1) := by decide +kernel
theorem dX7_worstSlat_12 : decode cX7_worstSlat 12 = .ok (.ireturn, 1) := by decide +kernel
theorem dX7_worstSlat_13 : decode cX7_worstSlat 13 = .ok (.iconst (-1), 1) := by decide +kernel
theorem dX7_worstSlat_14 : decode cX7_worstSlat 14 = .ok (.istore_n 3, 1) := by decide +kernel
theorem dX7_worstSlat_15 : decode cX7_worstSlat 15 = .ok (.iconst 0, 1) := by decide +kernel
theorem dX7_worstSlat_16 : decode cX7_worstSlat 16 = .ok (.istore 4, 2) := by decide +kernel
theorem dX7_worstSlat_18 : decode cX7_worstSlat 18 = .ok (.iconst 0, 1) := by decide +kernel
theorem dX7_worstSlat_19 : decode cX7_worstSlat 19 = .ok (.istore 5, 2) := by decide +kernel
theorem dX7_worstSlat_21 : decode cX7_worstSlat 21 = .ok (.iload 5, 2) := by decide +kernel
theorem dX7_worstSlat_23 : decode cX7_worstSlat 23 = .ok (.aload_n 0, 1) := by decide +kernel
theorem dX7_worstSlat_24 : decode cX7_worstSlat 24 = .ok (.getfield 20, 3) := by decide +kernel
theorem dX7_worstSlat_27 : decode cX7_worstSlat 27 = .ok (.iconst 1, 1) := by decide +kernel
theorem dX7_worstSlat_28 : decode cX7_worstSlat 28 = .ok (.iaload, 1) := by decide +kernel
theorem dX7_worstSlat_29 : decode cX7_worstSlat 29 = .ok (.if_icmp .ge 39, 3) := by decide +kernel
theorem dX7_worstSlat_32 : decode cX7_worstSlat 32 = .ok (.aload_n 0, 1) := by decide +kernel
theorem dX7_worstSlat_33 : decode cX7_worstSlat 33 = .ok (.iload 5, 2) := by decide +kernel
theorem dX7_worstSlat_35 : decode cX7_worstSlat 35 = .ok (.iload_n 1, 1) := by decide +kernel
theorem dX7_worstSlat_36 : decode cX7_worstSlat 36 = .ok (.iload_n 2, 1) := by decide +kernel
theorem dX7_worstSlat_37 : decode cX7_worstSlat 37 = .ok (.invokestatic 71, 3) := by decide +kernel
theorem dX7_worstSlat_40 : decode cX7_worstSlat 40 = .ok (.invokevirtual 347, 3) := by decide +kernel
theorem dX7_worstSlat_43 : decode cX7_worstSlat 43 = .ok (.istore 6, 2) := by decide +kernel
theorem dX7_worstSlat_45 : decode cX7_worstSlat 45 = .ok (.iload 6, 2) := by decide +kernel
theorem dX7_worstSlat_47 : decode cX7_worstSlat 47 = .ok (.iload 4, 2) := by decide +kernel
theorem dX7_worstSlat_49 : decode cX7_worstSlat 49 = .ok (.if_icmp .gt 6, 3) := by decide +kernel
theorem dX7_worstSlat_52 : decode cX7_worstSlat 52 = .ok (.goto 10, 3) := by decide +kernel
theorem dX7_worstSlat_55 : decode cX7_worstSlat 55 = .ok (.iload 6, 2) := by decide +kernel
theorem dX7_worstSlat_57 : decode cX7_worstSlat 57 = .ok (.istore 4, 2) := by decide +kernel
theorem dX7_worstSlat_59 : decode cX7_worstSlat 59 = .ok (.iload 5, 2) := by decide +kernel
theorem dX7_worstSlat_61 : decode cX7_worstSlat 61 = .ok (.istore_n 3, 1) := by decide +kernel
theorem dX7_worstSlat_62 : decode cX7_worstSlat 62 = .ok (.iinc 5 1, 3) := by decide +kernel
theorem dX7_worstSlat_65 : decode cX7_worstSlat 65 = .ok (.goto (-44), 3) := by decide +kernel
theorem dX7_worstSlat_68 : decode cX7_worstSlat 68 = .ok (.iload_n 3, 1) := by decide +kernel
theorem dX7_worstSlat_69 : decode cX7_worstSlat 69 = .ok (.ireturn, 1) := by decide +kernel
theorem dX7_isGhost_0 : decode cX7_isGhost 0 = .ok (.aload_n 0, 1) := by decide +kernel
theorem dX7_isGhost_1 : decode cX7_isGhost 1 = .ok (.iload_n 1, 1) := by decide +kernel
theorem dX7_isGhost_2 : decode cX7_isGhost 2 = .ok (.iload_n 3, 1) := by decide +kernel
theorem dX7_isGhost_3 : decode cX7_isGhost 3 = .ok (.iload 4, 2) := by decide +kernel
theorem dX7_isGhost_5 : decode cX7_isGhost 5 = .ok (.invokevirtual 280, 3) := by decide +kernel
theorem dX7_isGhost_8 : decode cX7_isGhost 8 = .ok (.istore 5, 2) := by decide +kernel
theorem dX7_isGhost_10 : decode cX7_isGhost 10 = .ok (.iload 5, 2) := by decide +kernel
theorem dX7_isGhost_12 : decode cX7_isGhost 12 = .ok (.aload_n 0, 1) := by decide +kernel
theorem dX7_isGhost_13 : decode cX7_isGhost 13 = .ok (.iload_n 2, 1) := by decide +kernel
theorem dX7_isGhost_14 : decode cX7_isGhost 14 = .ok (.iload_n 3, 1) := by decide +kernel
theorem dX7_isGhost_15 : decode cX7_isGhost 15 = .ok (.iload 4, 2) := by decide +kernel
theorem dX7_isGhost_17 : decode cX7_isGhost 17 = .ok (.invokevirtual 177, 3) := by decide +kernel
theorem dX7_isGhost_20 : decode cX7_isGhost 20 = .ok (.if_icmp .eq 22, 3) := by decide +kernel
theorem dX7_isGhost_23 : decode cX7_isGhost 23 = .ok (.iload 5, 2) := by decide +kernel
theorem dX7_isGhost_25 : decode cX7_isGhost 25 = .ok (.aload_n 0, 1) := by decide +kernel
theorem dX7_isGhost_26 : decode cX7_isGhost 26 = .ok (.iconst 1, 1) := by decide +kernel
theorem dX7_isGhost_27 : decode cX7_isGhost 27 = .ok (.iload_n 2, 1) := by decide +kernel
theorem dX7_isGhost_28 : decode cX7_isGhost 28 = .ok (.isub, 1) := by decide +kernel
theorem dX7_isGhost_29 : decode cX7_isGhost 29 = .ok (.iload_n 3, 1) := by decide +kernel
theorem dX7_isGhost_30 : decode cX7_isGhost 30 = .ok (.iload 4, 2) := by decide +kernel
theorem dX7_isGhost_32 : decode cX7_isGhost 32 = .ok (.invokevirtual 177, 3) := by decide +kernel
theorem dX7_isGhost_35 : decode cX7_isGhost 35 = .ok (.if_icmp .ne 7, 3) := by decide +kernel
theorem dX7_isGhost_38 : decode cX7_isGhost 38 = .ok (.iconst 1, 1) := by decide +kernel
theorem dX7_isGhost_39 : decode cX7_isGhost 39 = .ok (.goto 4, 3) := by decide +kernel
theorem dX7_isGhost_42 : decode cX7_isGhost 42 = .ok (.iconst 0, 1) := by decide +kernel
theorem dX7_isGhost_43 : decode cX7_isGhost 43 = .ok (.ireturn, 1) := by decide +kernel
theorem dX7_ghosts_0 : decode cX7_ghosts 0 = .ok (.aload_n 0, 1) := by decide +kernel
theorem dX7_ghosts_1 : decode cX7_ghosts 1 = .ok (.iload_n 1, 1) := by decide +kernel
theorem dX7_ghosts_2 : decode cX7_ghosts 2 = .ok (.invokestatic 326, 3) := by decide +kernel
theorem dX7_ghosts_5 : decode cX7_ghosts 5 = .ok (.invokevirtual 78, 3) := by decide +kernel
theorem dX7_ghosts_8 : decode cX7_ghosts 8 = .ok (.ifCond .ne 5, 3) := by decide +kernel
theorem dX7_ghosts_11 : decode cX7_ghosts 11 = .ok (.iconst 0, 1) := by decide +kernel
theorem dX7_ghosts_12 : decode cX7_ghosts 12 = .ok (.ireturn, 1) := by decide +kernel
theorem dX7_ghosts_13 : decode cX7_ghosts 13 = .ok (.iconst 0, 1) := by decide +kernel
theorem dX7_ghosts_14 : decode cX7_ghosts 14 = .ok (.istore_n 3, 1) := by decide +kernel
theorem dX7_ghosts_15 : decode cX7_ghosts 15 = .ok (.aload_n 0, 1) := by decide +kernel
theorem dX7_ghosts_16 : decode cX7_ghosts 16 = .ok (.invokevirtual 170, 3) := by decide +kernel
theorem dX7_ghosts_19 : decode cX7_ghosts 19 = .ok (.istore 4, 2) := by decide +kernel
theorem dX7_ghosts_21 : decode cX7_ghosts 21 = .ok (.iconst 0, 1) := by decide +kernel
theorem dX7_ghosts_22 : decode cX7_ghosts 22 = .ok (.istore 5, 2) := by decide +kernel
theorem dX7_ghosts_24 : decode cX7_ghosts 24 = .ok (.iload 5, 2) := by decide +kernel
theorem dX7_ghosts_26 : decode cX7_ghosts 26 = .ok (.iload 4, 2) := by decide +kernel
theorem dX7_ghosts_28 : decode cX7_ghosts 28 = .ok (.if_icmp .ge 61, 3) := by decide +kernel
theorem dX7_ghosts_31 : decode cX7_ghosts 31 = .ok (.aload_n 0, 1) := by decide +kernel
theorem dX7_ghosts_32 : decode cX7_ghosts 32 = .ok (.iload_n 1, 1) := by decide +kernel
theorem dX7_ghosts_33 : decode cX7_ghosts 33 = .ok (.iload 5, 2) := by decide +kernel
theorem dX7_ghosts_35 : decode cX7_ghosts 35 = .ok (.invokevirtual 277, 3) := by decide +kernel
theorem dX7_ghosts_38 : decode cX7_ghosts 38 = .ok (.ifCond .eq 6, 3) := by decide +kernel
theorem dX7_ghosts_41 : decode cX7_ghosts 41 = .ok (.goto 42, 3) := by decide +kernel
theorem dX7_ghosts_44 : decode cX7_ghosts 44 = .ok (.iconst 0, 1) := by decide +kernel
theorem dX7_ghosts_45 : decode cX7_ghosts 45 = .ok (.istore 6, 2) := by decide +kernel
theorem dX7_ghosts_47 : decode cX7_ghosts 47 = .ok (.iload 6, 2) := by decide +kernel
theorem dX7_ghosts_49 : decode cX7_ghosts 49 = .ok (.aload_n 0, 1) := by decide +kernel
theorem dX7_ghosts_50 : decode cX7_ghosts 50 = .ok (.getfield 20, 3) := by decide +kernel
theorem dX7_ghosts_53 : decode cX7_ghosts 53 = .ok (.iconst 0, 1) := by decide +kernel
theorem dX7_ghosts_54 : decode cX7_ghosts 54 = .ok (.iaload, 1) := by decide +kernel
theorem dX7_ghosts_55 : decode cX7_ghosts 55 = .ok (.if_icmp .ge 28, 3) := by decide +kernel
theorem dX7_ghosts_58 : decode cX7_ghosts 58 = .ok (.iload_n 3, 1) := by decide +kernel
theorem dX7_ghosts_59 : decode cX7_ghosts 59 = .ok (.aload_n 0, 1) := by decide +kernel
theorem dX7_ghosts_60 : decode cX7_ghosts 60 = .ok (.iload_n 1, 1) := by decide +kernel
theorem dX7_ghosts_61 : decode cX7_ghosts 61 = .ok (.iload_n 2, 1) := by decide +kernel
theorem dX7_ghosts_62 : decode cX7_ghosts 62 = .ok (.invokestatic 71, 3) := by decide +kernel
theorem dX7_ghosts_65 : decode cX7_ghosts 65 = .ok (.iload 5, 2) := by decide +kernel
theorem dX7_ghosts_67 : decode cX7_ghosts 67 = .ok (.iload 6, 2) := by decide +kernel
theorem dX7_ghosts_69 : decode cX7_ghosts 69 = .ok (.invokevirtual 350, 3) := by decide +kernel
theorem dX7_ghosts_72 : decode cX7_ghosts 72 = .ok (.invokestatic 71, 3) := by decide +kernel
theorem dX7_ghosts_75 : decode cX7_ghosts 75 = .ok (.iadd, 1) := by decide +kernel
theorem dX7_ghosts_76 : decode cX7_ghosts 76 = .ok (.istore_n 3, 1) := by decide +kernel
theorem dX7_ghosts_77 : decode cX7_ghosts 77 = .ok (.iinc 6 1, 3) := by decide +kernel
theorem dX7_ghosts_80 : decode cX7_ghosts 80 = .ok (.goto (-33), 3) := by decide +kernel
theorem dX7_ghosts_83 : decode cX7_ghosts 83 = .ok (.iinc 5 1, 3) := by decide +kernel
theorem dX7_ghosts_86 : decode cX7_ghosts 86 = .ok (.goto (-62), 3) := by decide +kernel
theorem dX7_ghosts_89 : decode cX7_ghosts 89 = .ok (.iload_n 3, 1) := by decide +kernel
theorem dX7_ghosts_90 : decode cX7_ghosts 90 = .ok (.ireturn, 1) := by decide +kernel
theorem dX7_bearsMore_0 : decode cX7_bearsMore 0 = .ok (.aload_n 0, 1) := by decide +kernel
theorem dX7_bearsMore_1 : decode cX7_bearsMore 1 = .ok (.iload_n 1, 1) := by decide +kernel
theorem dX7_bearsMore_2 : decode cX7_bearsMore 2 = .ok (.iconst 3, 1) := by decide +kernel
theorem dX7_bearsMore_3 : decode cX7_bearsMore 3 = .ok (.iload_n 2, 1) := by decide +kernel
theorem dX7_bearsMore_4 : decode cX7_bearsMore 4 = .ok (.iadd, 1) := by decide +kernel
theorem dX7_bearsMore_5 : decode cX7_bearsMore 5 = .ok (.invokevirtual 164, 3) := by decide +kernel
theorem dX7_bearsMore_8 : decode cX7_bearsMore 8 = .ok (.aload_n 0, 1) := by decide +kernel
theorem dX7_bearsMore_9 : decode cX7_bearsMore 9 = .ok (.getfield 20, 3) := by decide +kernel
theorem dX7_bearsMore_12 : decode cX7_bearsMore 12 = .ok (.iconst 2, 1) := by decide +kernel
theorem dX7_bearsMore_13 : decode cX7_bearsMore 13 = .ok (.iaload, 1) := by decide +kernel
theorem dX7_bearsMore_14 : decode cX7_bearsMore 14 = .ok (.if_icmp .ge 7, 3) := by decide +kernel
theorem dX7_bearsMore_17 : decode cX7_bearsMore 17 = .ok (.iconst 1, 1) := by decide +kernel
theorem dX7_bearsMore_18 : decode cX7_bearsMore 18 = .ok (.goto 4, 3) := by decide +kernel
theorem dX7_bearsMore_21 : decode cX7_bearsMore 21 = .ok (.iconst 0, 1) := by decide +kernel
theorem dX7_bearsMore_22 : decode cX7_bearsMore 22 = .ok (.ireturn, 1) := by decide +kernel
theorem dX7_paintable_0 : decode cX7_paintable 0 = .ok (.aload_n 0, 1) := by decide +kernel
theorem dX7_paintable_1 : decode cX7_paintable 1 = .ok (.iconst 0, 1) := by decide +kernel
theorem dX7_paintable_2 : decode cX7_paintable 2 = .ok (.putfield 68, 3) := by decide +kernel
theorem dX7_paintable_5 : decode cX7_paintable 5 = .ok (.iconst 0, 1) := by decide +kernel
theorem dX7_paintable_6 : decode cX7_paintable 6 = .ok (.istore_n 2, 1) := by decide +kernel
theorem dX7_paintable_7 : decode cX7_paintable 7 = .ok (.iload_n 1, 1) := by decide +kernel
theorem dX7_paintable_8 : decode cX7_paintable 8 = .ok (.invokestatic 71, 3) := by decide +kernel
theorem dX7_paintable_11 : decode cX7_paintable 11 = .ok (.istore_n 3, 1) := by decide +kernel
theorem dX7_paintable_12 : decode cX7_paintable 12 = .ok (.iconst 0, 1) := by decide +kernel
theorem dX7_paintable_13 : decode cX7_paintable 13 = .ok (.istore 4, 2) := by decide +kernel
theorem dX7_paintable_15 : decode cX7_paintable 15 = .ok (.iload 4, 2) := by decide +kernel
theorem dX7_paintable_17 : decode cX7_paintable 17 = .ok (.aload_n 0, 1) := by decide +kernel
theorem dX7_paintable_18 : decode cX7_paintable 18 = .ok (.getfield 20, 3) := by decide +kernel
theorem dX7_paintable_21 : decode cX7_paintable 21 = .ok (.iconst 1, 1) := by decide +kernel
theorem dX7_paintable_22 : decode cX7_paintable 22 = .ok (.iaload, 1) := by decide +kernel
theorem dX7_paintable_23 : decode cX7_paintable 23 = .ok (.if_icmp .ge 40, 3) := by decide +kernel
theorem dX7_paintable_26 : decode cX7_paintable 26 = .ok (.iload_n 2, 1) := by decide +kernel
theorem dX7_paintable_27 : decode cX7_paintable 27 = .ok (.aload_n 0, 1) := by decide +kernel
theorem dX7_paintable_28 : decode cX7_paintable 28 = .ok (.iload 4, 2) := by decide +kernel
theorem dX7_paintable_30 : decode cX7_paintable 30 = .ok (.iload_n 3, 1) := by decide +kernel
theorem dX7_paintable_31 : decode cX7_paintable 31 = .ok (.invokevirtual 354, 3) := by decide +kernel
theorem dX7_paintable_34 : decode cX7_paintable 34 = .ok (.ifCond .eq 20, 3) := by decide +kernel
theorem dX7_paintable_37 : decode cX7_paintable 37 = .ok (.aload_n 0, 1) := by decide +kernel
theorem dX7_paintable_38 : decode cX7_paintable 38 = .ok (.iload 4, 2) := by decide +kernel
theorem dX7_paintable_40 : decode cX7_paintable 40 = .ok (.iload_n 3, 1) := by decide +kernel
theorem dX7_paintable_41 : decode cX7_paintable 41 = .ok (.invokevirtual 317, 3) := by decide +kernel
theorem dX7_paintable_44 : decode cX7_paintable 44 = .ok (.ifCond .le 10, 3) := by decide +kernel
theorem dX7_paintable_47 : decode cX7_paintable 47 = .ok (.iconst 1, 1) := by decide +kernel
theorem dX7_paintable_48 : decode cX7_paintable 48 = .ok (.iload 4, 2) := by decide +kernel
theorem dX7_paintable_50 : decode cX7_paintable 50 = .ok (.ishl, 1) := by decide +kernel
theorem dX7_paintable_51 : decode cX7_paintable 51 = .ok (.goto 4, 3) := by decide +kernel
theorem dX7_paintable_54 : decode cX7_paintable 54 = .ok (.iconst 0, 1) := by decide +kernel
theorem dX7_paintable_55 : decode cX7_paintable 55 = .ok (.ior, 1) := by decide +kernel
theorem dX7_paintable_56 : decode cX7_paintable 56 = .ok (.istore_n 2, 1) := by decide +kernel
theorem dX7_paintable_57 : decode cX7_paintable 57 = .ok (.iinc 4 1, 3) := by decide +kernel
theorem dX7_paintable_60 : decode cX7_paintable 60 = .ok (.goto (-45), 3) := by decide +kernel
theorem dX7_paintable_63 : decode cX7_paintable 63 = .ok (.iload_n 2, 1) := by decide +kernel
theorem dX7_paintable_64 : decode cX7_paintable 64 = .ok (.ireturn, 1) := by decide +kernel
theorem dX7_span_0 : decode cX7_span 0 = .ok (.aload_n 0, 1) := by decide +kernel
theorem dX7_span_1 : decode cX7_span 1 = .ok (.iconst 0, 1) := by decide +kernel
theorem dX7_span_2 : decode cX7_span 2 = .ok (.putfield 68, 3) := by decide +kernel
theorem dX7_span_5 : decode cX7_span 5 = .ok (.iconst 0, 1) := by decide +kernel
theorem dX7_span_6 : decode cX7_span 6 = .ok (.istore_n 2, 1) := by decide +kernel
theorem dX7_span_7 : decode cX7_span 7 = .ok (.iconst 0, 1) := by decide +kernel
theorem dX7_span_8 : decode cX7_span 8 = .ok (.istore_n 3, 1) := by decide +kernel
theorem dX7_span_9 : decode cX7_span 9 = .ok (.bipush (-6), 2) := by decide +kernel
theorem dX7_span_11 : decode cX7_span 11 = .ok (.istore 4, 2) := by decide +kernel
theorem dX7_span_13 : decode cX7_span 13 = .ok (.iload 4, 2) := by decide +kernel
theorem dX7_span_15 : decode cX7_span 15 = .ok (.bipush 6, 2) := by decide +kernel
theorem dX7_span_17 : decode cX7_span 17 = .ok (.if_icmp .gt 36, 3) := by decide +kernel
theorem dX7_span_20 : decode cX7_span 20 = .ok (.aload_n 0, 1) := by decide +kernel
theorem dX7_span_21 : decode cX7_span 21 = .ok (.iload 4, 2) := by decide +kernel
theorem dX7_span_23 : decode cX7_span 23 = .ok (.iload_n 1, 1) := by decide +kernel
theorem dX7_span_24 : decode cX7_span 24 = .ok (.invokestatic 71, 3) := by decide +kernel
theorem dX7_span_27 : decode cX7_span 27 = .ok (.invokevirtual 344, 3) := by decide +kernel
theorem dX7_span_30 : decode cX7_span 30 = .ok (.ifCond .eq 9, 3) := by decide +kernel
theorem dX7_span_33 : decode cX7_span 33 = .ok (.iload_n 3, 1) := by decide +kernel
theorem dX7_span_34 : decode cX7_span 34 = .ok (.iconst 1, 1) := by decide +kernel
theorem dX7_span_35 : decode cX7_span 35 = .ok (.iadd, 1) := by decide +kernel
theorem dX7_span_36 : decode cX7_span 36 = .ok (.goto 4, 3) := by decide +kernel
theorem dX7_span_39 : decode cX7_span 39 = .ok (.iconst 0, 1) := by decide +kernel
theorem dX7_span_40 : decode cX7_span 40 = .ok (.istore_n 3, 1) := by decide +kernel
theorem dX7_span_41 : decode cX7_span 41 = .ok (.iload_n 2, 1) := by decide +kernel
theorem dX7_span_42 : decode cX7_span 42 = .ok (.iload_n 3, 1) := by decide +kernel
theorem dX7_span_43 : decode cX7_span 43 = .ok (.invokestatic 255, 3) := by decide +kernel
theorem dX7_span_46 : decode cX7_span 46 = .ok (.istore_n 2, 1) := by decide +kernel
theorem dX7_span_47 : decode cX7_span 47 = .ok (.iinc 4 1, 3) := by decide +kernel
theorem dX7_span_50 : decode cX7_span 50 = .ok (.goto (-37), 3) := by decide +kernel
theorem dX7_span_53 : decode cX7_span 53 = .ok (.iload_n 2, 1) := by decide +kernel
theorem dX7_span_54 : decode cX7_span 54 = .ok (.ireturn, 1) := by decide +kernel
theorem dX7_light_0 : decode cX7_light 0 = .ok (.aload_n 0, 1) := by decide +kernel
theorem dX7_light_1 : decode cX7_light 1 = .ok (.iload_n 1, 1) := by decide +kernel
theorem dX7_light_2 : decode cX7_light 2 = .ok (.invokestatic 326, 3) := by decide +kernel
theorem dX7_light_5 : decode cX7_light 5 = .ok (.invokevirtual 78, 3) := by decide +kernel
theorem dX7_light_8 : decode cX7_light 8 = .ok (.ifCond .eq 12, 3) := by decide +kernel
theorem dX7_light_11 : decode cX7_light 11 = .ok (.aload_n 0, 1) := by decide +kernel
theorem dX7_light_12 : decode cX7_light 12 = .ok (.getfield 20, 3) := by decide +kernel
theorem dX7_light_15 : decode cX7_light 15 = .ok (.iconst 1, 1) := by decide +kernel
theorem dX7_light_16 : decode cX7_light 16 = .ok (.iaload, 1) := by decide +kernel
theorem dX7_light_17 : decode cX7_light 17 = .ok (.ifCond .ne 5, 3) := by decide +kernel
theorem dX7_light_20 : decode cX7_light 20 = .ok (.fconst 0, 1) := by decide +kernel
theorem dX7_light_21 : decode cX7_light 21 = .ok (.freturn, 1) := by decide +kernel
theorem dX7_light_22 : decode cX7_light 22 = .ok (.aload_n 0, 1) := by decide +kernel
theorem dX7_light_23 : decode cX7_light 23 = .ok (.iload_n 1, 1) := by decide +kernel
theorem dX7_light_24 : decode cX7_light 24 = .ok (.invokevirtual 341, 3) := by decide +kernel
theorem dX7_light_27 : decode cX7_light 27 = .ok (.i2f, 1) := by decide +kernel
theorem dX7_light_28 : decode cX7_light 28 = .ok (.aload_n 0, 1) := by decide +kernel
theorem dX7_light_29 : decode cX7_light 29 = .ok (.invokevirtual 357, 3) := by decide +kernel
theorem dX7_light_32 : decode cX7_light 32 = .ok (.i2f, 1) := by decide +kernel
theorem dX7_light_33 : decode cX7_light 33 = .ok (.fdiv, 1) := by decide +kernel
theorem dX7_light_34 : decode cX7_light 34 = .ok (.freturn, 1) := by decide +kernel
theorem dX7_meanRight_0 : decode cX7_meanRight 0 = .ok (.aload_n 0, 1) := by decide +kernel
theorem dX7_meanRight_1 : decode cX7_meanRight 1 = .ok (.iconst 0, 1) := by decide +kernel
theorem dX7_meanRight_2 : decode cX7_meanRight 2 = .ok (.putfield 68, 3) := by decide +kernel
theorem dX7_meanRight_5 : decode cX7_meanRight 5 = .ok (.iconst 0, 1) := by decide +kernel
theorem dX7_meanRight_6 : decode cX7_meanRight 6 = .ok (.istore_n 2, 1) := by decide +kernel
theorem dX7_meanRight_7 : decode cX7_meanRight 7 = .ok (.bipush (-6), 2) := by decide +kernel
theorem dX7_meanRight_9 : decode cX7_meanRight 9 = .ok (.istore_n 3, 1) := by decide +kernel
theorem dX7_meanRight_10 : decode cX7_meanRight 10 = .ok (.iload_n 3, 1) := by decide +kernel
theorem dX7_meanRight_11 : decode cX7_meanRight 11 = .ok (.bipush 6, 2) := by decide +kernel
theorem dX7_meanRight_13 : decode cX7_meanRight 13 = .ok (.if_icmp .gt 21, 3) := by decide +kernel
theorem dX7_meanRight_16 : decode cX7_meanRight 16 = .ok (.iload_n 2, 1) := by decide +kernel
theorem dX7_meanRight_17 : decode cX7_meanRight 17 = .ok (.aload_n 0, 1) := by decide +kernel
theorem dX7_meanRight_18 : decode cX7_meanRight 18 = .ok (.iload_n 3, 1) := by decide +kernel
theorem dX7_meanRight_19 : decode cX7_meanRight 19 = .ok (.iload_n 1, 1) := by decide +kernel
theorem dX7_meanRight_20 : decode cX7_meanRight 20 = .ok (.invokestatic 71, 3) := by decide +kernel
theorem dX7_meanRight_23 : decode cX7_meanRight 23 = .ok (.invokevirtual 335, 3) := by decide +kernel
theorem dX7_meanRight_26 : decode cX7_meanRight 26 = .ok (.iadd, 1) := by decide +kernel
theorem dX7_meanRight_27 : decode cX7_meanRight 27 = .ok (.istore_n 2, 1) := by decide +kernel
theorem dX7_meanRight_28 : decode cX7_meanRight 28 = .ok (.iinc 3 1, 3) := by decide +kernel
theorem dX7_meanRight_31 : decode cX7_meanRight 31 = .ok (.goto (-21), 3) := by decide +kernel
theorem dX7_meanRight_34 : decode cX7_meanRight 34 = .ok (.iload_n 2, 1) := by decide +kernel
theorem dX7_meanRight_35 : decode cX7_meanRight 35 = .ok (.i2d, 1) := by decide +kernel
theorem dX7_meanRight_36 : decode cX7_meanRight 36 = .ok (.ldc2_w 360, 3) := by decide +kernel
theorem dX7_meanRight_39 : decode cX7_meanRight 39 = .ok (.ddiv, 1) := by decide +kernel
theorem dX7_meanRight_40 : decode cX7_meanRight 40 = .ok (.dreturn, 1) := by decide +kernel
theorem dX7_lightest_0 : decode cX7_lightest 0 = .ok (.aload_n 0, 1) := by decide +kernel
theorem dX7_lightest_1 : decode cX7_lightest 1 = .ok (.iconst 0, 1) := by decide +kernel
theorem dX7_lightest_2 : decode cX7_lightest 2 = .ok (.putfield 68, 3) := by decide +kernel
theorem dX7_lightest_5 : decode cX7_lightest 5 = .ok (.bipush (-99), 2) := by decide +kernel
theorem dX7_lightest_7 : decode cX7_lightest 7 = .ok (.istore_n 1, 1) := by decide +kernel
theorem dX7_lightest_8 : decode cX7_lightest 8 = .ok (.iconst (-1), 1) := by decide +kernel
theorem dX7_lightest_9 : decode cX7_lightest 9 = .ok (.istore_n 2, 1) := by decide +kernel
theorem dX7_lightest_10 : decode cX7_lightest 10 = .ok (.bipush (-6), 2) := by decide +kernel
theorem dX7_lightest_12 : decode cX7_lightest 12 = .ok (.istore_n 3, 1) := by decide +kernel
theorem dX7_lightest_13 : decode cX7_lightest 13 = .ok (.iload_n 3, 1) := by decide +kernel
theorem dX7_lightest_14 : decode cX7_lightest 14 = .ok (.bipush 6, 2) := by decide +kernel
theorem dX7_lightest_16 : decode cX7_lightest 16 = .ok (.if_icmp .gt 39, 3) := by decide +kernel
theorem dX7_lightest_19 : decode cX7_lightest 19 = .ok (.aload_n 0, 1) := by decide +kernel
theorem dX7_lightest_20 : decode cX7_lightest 20 = .ok (.getfield 20, 3) := by decide +kernel
theorem dX7_lightest_23 : decode cX7_lightest 23 = .ok (.iconst 1, 1) := by decide +kernel
theorem dX7_lightest_24 : decode cX7_lightest 24 = .ok (.iaload, 1) := by decide +kernel
theorem dX7_lightest_25 : decode cX7_lightest 25 = .ok (.ifCond .le 30, 3) := by decide +kernel
theorem dX7_lightest_28 : decode cX7_lightest 28 = .ok (.aload_n 0, 1) := by decide +kernel
theorem dX7_lightest_29 : decode cX7_lightest 29 = .ok (.iload_n 3, 1) := by decide +kernel
theorem dX7_lightest_30 : decode cX7_lightest 30 = .ok (.invokevirtual 341, 3) := by decide +kernel
theorem dX7_lightest_33 : decode cX7_lightest 33 = .ok (.istore 4, 2) := by decide +kernel
theorem dX7_lightest_35 : decode cX7_lightest 35 = .ok (.iload 4, 2) := by decide +kernel
theorem dX7_lightest_37 : decode cX7_lightest 37 = .ok (.iload_n 2, 1) := by decide +kernel
theorem dX7_lightest_38 : decode cX7_lightest 38 = .ok (.if_icmp .gt 6, 3) := by decide +kernel
theorem dX7_lightest_41 : decode cX7_lightest 41 = .ok (.goto 8, 3) := by decide +kernel
theorem dX7_lightest_44 : decode cX7_lightest 44 = .ok (.iload 4, 2) := by decide +kernel
theorem dX7_lightest_46 : decode cX7_lightest 46 = .ok (.istore_n 2, 1) := by decide +kernel
theorem dX7_lightest_47 : decode cX7_lightest 47 = .ok (.iload_n 3, 1) := by decide +kernel
theorem dX7_lightest_48 : decode cX7_lightest 48 = .ok (.istore_n 1, 1) := by decide +kernel
theorem dX7_lightest_49 : decode cX7_lightest 49 = .ok (.iinc 3 1, 3) := by decide +kernel
theorem dX7_lightest_52 : decode cX7_lightest 52 = .ok (.goto (-39), 3) := by decide +kernel
theorem dX7_lightest_55 : decode cX7_lightest 55 = .ok (.iload_n 1, 1) := by decide +kernel
theorem dX7_lightest_56 : decode cX7_lightest 56 = .ok (.ireturn, 1) := by decide +kernel
theorem dX7_leaves_0 : decode cX7_leaves 0 = .ok (.aload_n 0, 1) := by decide +kernel
theorem dX7_leaves_1 : decode cX7_leaves 1 = .ok (.getfield 20, 3) := by decide +kernel
theorem dX7_leaves_4 : decode cX7_leaves 4 = .ok (.iconst 0, 1) := by decide +kernel
theorem dX7_leaves_5 : decode cX7_leaves 5 = .ok (.aload_n 0, 1) := by decide +kernel
theorem dX7_leaves_6 : decode cX7_leaves 6 = .ok (.getfield 29, 3) := by decide +kernel
theorem dX7_leaves_9 : decode cX7_leaves 9 = .ok (.iconst 0, 1) := by decide +kernel
theorem dX7_leaves_10 : decode cX7_leaves 10 = .ok (.invokestatic 146, 3) := by decide +kernel
theorem dX7_leaves_13 : decode cX7_leaves 13 = .ok (.return_, 1) := by decide +kernel
theorem dX7_comesBack_0 : decode cX7_comesBack 0 = .ok (.aload_n 0, 1) := by decide +kernel
theorem dX7_comesBack_1 : decode cX7_comesBack 1 = .ok (.getfield 29, 3) := by decide +kernel
theorem dX7_comesBack_4 : decode cX7_comesBack 4 = .ok (.iconst 0, 1) := by decide +kernel
theorem dX7_comesBack_5 : decode cX7_comesBack 5 = .ok (.aload_n 0, 1) := by decide +kernel
theorem dX7_comesBack_6 : decode cX7_comesBack 6 = .ok (.getfield 20, 3) := by decide +kernel
theorem dX7_comesBack_9 : decode cX7_comesBack 9 = .ok (.iconst 0, 1) := by decide +kernel
theorem dX7_comesBack_10 : decode cX7_comesBack 10 = .ok (.invokestatic 146, 3) := by decide +kernel
theorem dX7_comesBack_13 : decode cX7_comesBack 13 = .ok (.iload_n 1, 1) := by decide +kernel
theorem dX7_comesBack_14 : decode cX7_comesBack 14 = .ok (.ireturn, 1) := by decide +kernel
theorem dX7_rightBy_0 : decode cX7_rightBy 0 = .ok (.aload_n 0, 1) := by decide +kernel
theorem dX7_rightBy_1 : decode cX7_rightBy 1 = .ok (.invokevirtual 362, 3) := by decide +kernel
theorem dX7_rightBy_4 : decode cX7_rightBy 4 = .ok (.aload_n 0, 1) := by decide +kernel
theorem dX7_rightBy_5 : decode cX7_rightBy 5 = .ok (.iload_n 1, 1) := by decide +kernel
theorem dX7_rightBy_6 : decode cX7_rightBy 6 = .ok (.iconst 1, 1) := by decide +kernel
theorem dX7_rightBy_7 : decode cX7_rightBy 7 = .ok (.iload_n 2, 1) := by decide +kernel
theorem dX7_rightBy_8 : decode cX7_rightBy 8 = .ok (.invokevirtual 203, 3) := by decide +kernel
theorem dX7_rightBy_11 : decode cX7_rightBy 11 = .ok (.aload_n 0, 1) := by decide +kernel
theorem dX7_rightBy_12 : decode cX7_rightBy 12 = .ok (.aload_n 0, 1) := by decide +kernel
theorem dX7_rightBy_13 : decode cX7_rightBy 13 = .ok (.iload_n 3, 1) := by decide +kernel
theorem dX7_rightBy_14 : decode cX7_rightBy 14 = .ok (.iload 4, 2) := by decide +kernel
theorem dX7_rightBy_16 : decode cX7_rightBy 16 = .ok (.invokevirtual 335, 3) := by decide +kernel
theorem dX7_rightBy_19 : decode cX7_rightBy 19 = .ok (.invokevirtual 365, 3) := by decide +kernel
theorem dX7_rightBy_22 : decode cX7_rightBy 22 = .ok (.ireturn, 1) := by decide +kernel
theorem dX7_bestTurn_0 : decode cX7_bestTurn 0 = .ok (.aload_n 0, 1) := by decide +kernel
theorem dX7_bestTurn_1 : decode cX7_bestTurn 1 = .ok (.aload_n 0, 1) := by decide +kernel
theorem dX7_bestTurn_2 : decode cX7_bestTurn 2 = .ok (.iload_n 1, 1) := by decide +kernel
theorem dX7_bestTurn_3 : decode cX7_bestTurn 3 = .ok (.invokevirtual 290, 3) := by decide +kernel
theorem dX7_bestTurn_6 : decode cX7_bestTurn 6 = .ok (.iload_n 2, 1) := by decide +kernel
theorem dX7_bestTurn_7 : decode cX7_bestTurn 7 = .ok (.invokestatic 326, 3) := by decide +kernel
theorem dX7_bestTurn_10 : decode cX7_bestTurn 10 = .ok (.invokevirtual 313, 3) := by decide +kernel
theorem dX7_bestTurn_13 : decode cX7_bestTurn 13 = .ok (.ifCond .ne 5, 3) := by decide +kernel
theorem dX7_bestTurn_16 : decode cX7_bestTurn 16 = .ok (.iconst 0, 1) := by decide +kernel
theorem dX7_bestTurn_17 : decode cX7_bestTurn 17 = .ok (.ireturn, 1) := by decide +kernel
theorem dX7_bestTurn_18 : decode cX7_bestTurn 18 = .ok (.iconst 0, 1) := by decide +kernel
theorem dX7_bestTurn_19 : decode cX7_bestTurn 19 = .ok (.istore 4, 2) := by decide +kernel
theorem dX7_bestTurn_21 : decode cX7_bestTurn 21 = .ok (.iconst (-1), 1) := by decide +kernel
theorem dX7_bestTurn_22 : decode cX7_bestTurn 22 = .ok (.istore 5, 2) := by decide +kernel
theorem dX7_bestTurn_24 : decode cX7_bestTurn 24 = .ok (.bipush (-4), 2) := by decide +kernel
theorem dX7_bestTurn_26 : decode cX7_bestTurn 26 = .ok (.istore 6, 2) := by decide +kernel
theorem dX7_bestTurn_28 : decode cX7_bestTurn 28 = .ok (.iload 6, 2) := by decide +kernel
theorem dX7_bestTurn_30 : decode cX7_bestTurn 30 = .ok (.iconst 4, 1) := by decide +kernel
theorem dX7_bestTurn_31 : decode cX7_bestTurn 31 = .ok (.if_icmp .gt 41, 3) := by decide +kernel
theorem dX7_bestTurn_34 : decode cX7_bestTurn 34 = .ok (.aload_n 0, 1) := by decide +kernel
theorem dX7_bestTurn_35 : decode cX7_bestTurn 35 = .ok (.iload_n 1, 1) := by decide +kernel
theorem dX7_bestTurn_36 : decode cX7_bestTurn 36 = .ok (.iload 6, 2) := by decide +kernel
theorem dX7_bestTurn_38 : decode cX7_bestTurn 38 = .ok (.iload_n 2, 1) := by decide +kernel
theorem dX7_bestTurn_39 : decode cX7_bestTurn 39 = .ok (.iload_n 3, 1) := by decide +kernel
theorem dX7_bestTurn_40 : decode cX7_bestTurn 40 = .ok (.invokestatic 71, 3) := by decide +kernel
theorem dX7_bestTurn_43 : decode cX7_bestTurn 43 = .ok (.invokevirtual 368, 3) := by decide +kernel
theorem dX7_bestTurn_46 : decode cX7_bestTurn 46 = .ok (.istore 7, 2) := by decide +kernel
theorem dX7_bestTurn_48 : decode cX7_bestTurn 48 = .ok (.iload 7, 2) := by decide +kernel
theorem dX7_bestTurn_50 : decode cX7_bestTurn 50 = .ok (.iload 5, 2) := by decide +kernel
theorem dX7_bestTurn_52 : decode cX7_bestTurn 52 = .ok (.if_icmp .gt 6, 3) := by decide +kernel
theorem dX7_bestTurn_55 : decode cX7_bestTurn 55 = .ok (.goto 11, 3) := by decide +kernel
theorem dX7_bestTurn_58 : decode cX7_bestTurn 58 = .ok (.iload 7, 2) := by decide +kernel
theorem dX7_bestTurn_60 : decode cX7_bestTurn 60 = .ok (.istore 5, 2) := by decide +kernel
theorem dX7_bestTurn_62 : decode cX7_bestTurn 62 = .ok (.iload 6, 2) := by decide +kernel
theorem dX7_bestTurn_64 : decode cX7_bestTurn 64 = .ok (.istore 4, 2) := by decide +kernel
theorem dX7_bestTurn_66 : decode cX7_bestTurn 66 = .ok (.iinc 6 1, 3) := by decide +kernel
theorem dX7_bestTurn_69 : decode cX7_bestTurn 69 = .ok (.goto (-41), 3) := by decide +kernel
theorem dX7_bestTurn_72 : decode cX7_bestTurn 72 = .ok (.iload 4, 2) := by decide +kernel
theorem dX7_bestTurn_74 : decode cX7_bestTurn 74 = .ok (.ireturn, 1) := by decide +kernel
theorem dX7_pulls_0 : decode cX7_pulls 0 = .ok (.iconst 0, 1) := by decide +kernel
theorem dX7_pulls_1 : decode cX7_pulls 1 = .ok (.istore_n 2, 1) := by decide +kernel
theorem dX7_pulls_2 : decode cX7_pulls 2 = .ok (.iconst 0, 1) := by decide +kernel
theorem dX7_pulls_3 : decode cX7_pulls 3 = .ok (.istore_n 3, 1) := by decide +kernel
theorem dX7_pulls_4 : decode cX7_pulls 4 = .ok (.iload_n 3, 1) := by decide +kernel
theorem dX7_pulls_5 : decode cX7_pulls 5 = .ok (.aload_n 0, 1) := by decide +kernel
theorem dX7_pulls_6 : decode cX7_pulls 6 = .ok (.getfield 20, 3) := by decide +kernel
theorem dX7_pulls_9 : decode cX7_pulls 9 = .ok (.iconst 1, 1) := by decide +kernel
theorem dX7_pulls_10 : decode cX7_pulls 10 = .ok (.iaload, 1) := by decide +kernel
theorem dX7_pulls_11 : decode cX7_pulls 11 = .ok (.if_icmp .ge 62, 3) := by decide +kernel
theorem dX7_pulls_14 : decode cX7_pulls 14 = .ok (.aload_n 0, 1) := by decide +kernel
theorem dX7_pulls_15 : decode cX7_pulls 15 = .ok (.iload_n 3, 1) := by decide +kernel
theorem dX7_pulls_16 : decode cX7_pulls 16 = .ok (.iconst 1, 1) := by decide +kernel
theorem dX7_pulls_17 : decode cX7_pulls 17 = .ok (.invokevirtual 164, 3) := by decide +kernel
theorem dX7_pulls_20 : decode cX7_pulls 20 = .ok (.istore 4, 2) := by decide +kernel
theorem dX7_pulls_22 : decode cX7_pulls 22 = .ok (.aload_n 0, 1) := by decide +kernel
theorem dX7_pulls_23 : decode cX7_pulls 23 = .ok (.iload_n 3, 1) := by decide +kernel
theorem dX7_pulls_24 : decode cX7_pulls 24 = .ok (.iconst 2, 1) := by decide +kernel
theorem dX7_pulls_25 : decode cX7_pulls 25 = .ok (.invokevirtual 164, 3) := by decide +kernel
theorem dX7_pulls_28 : decode cX7_pulls 28 = .ok (.ifCond .ne 17, 3) := by decide +kernel
theorem dX7_pulls_31 : decode cX7_pulls 31 = .ok (.aload_n 0, 1) := by decide +kernel
theorem dX7_pulls_32 : decode cX7_pulls 32 = .ok (.iload_n 3, 1) := by decide +kernel
theorem dX7_pulls_33 : decode cX7_pulls 33 = .ok (.iconst 1, 1) := by decide +kernel
theorem dX7_pulls_34 : decode cX7_pulls 34 = .ok (.iload 4, 2) := by decide +kernel
theorem dX7_pulls_36 : decode cX7_pulls 36 = .ok (.iload_n 1, 1) := by decide +kernel
theorem dX7_pulls_37 : decode cX7_pulls 37 = .ok (.iadd, 1) := by decide +kernel
theorem dX7_pulls_38 : decode cX7_pulls 38 = .ok (.iconst 4, 1) := by decide +kernel
theorem dX7_pulls_39 : decode cX7_pulls 39 = .ok (.invokestatic 258, 3) := by decide +kernel
theorem dX7_pulls_42 : decode cX7_pulls 42 = .ok (.invokevirtual 203, 3) := by decide +kernel
theorem dX7_pulls_45 : decode cX7_pulls 45 = .ok (.iload_n 2, 1) := by decide +kernel
theorem dX7_pulls_46 : decode cX7_pulls 46 = .ok (.aload_n 0, 1) := by decide +kernel
theorem dX7_pulls_47 : decode cX7_pulls 47 = .ok (.iload_n 3, 1) := by decide +kernel
theorem dX7_pulls_48 : decode cX7_pulls 48 = .ok (.iconst 1, 1) := by decide +kernel
theorem dX7_pulls_49 : decode cX7_pulls 49 = .ok (.invokevirtual 164, 3) := by decide +kernel
theorem dX7_pulls_52 : decode cX7_pulls 52 = .ok (.iload 4, 2) := by decide +kernel
theorem dX7_pulls_54 : decode cX7_pulls 54 = .ok (.if_icmp .eq 7, 3) := by decide +kernel
theorem dX7_pulls_57 : decode cX7_pulls 57 = .ok (.iconst 1, 1) := by decide +kernel
theorem dX7_pulls_58 : decode cX7_pulls 58 = .ok (.goto 4, 3) := by decide +kernel
theorem dX7_pulls_61 : decode cX7_pulls 61 = .ok (.iconst 0, 1) := by decide +kernel
theorem dX7_pulls_62 : decode cX7_pulls 62 = .ok (.invokestatic 71, 3) := by decide +kernel
theorem dX7_pulls_65 : decode cX7_pulls 65 = .ok (.iadd, 1) := by decide +kernel
theorem dX7_pulls_66 : decode cX7_pulls 66 = .ok (.istore_n 2, 1) := by decide +kernel
theorem dX7_pulls_67 : decode cX7_pulls 67 = .ok (.iinc 3 1, 3) := by decide +kernel
theorem dX7_pulls_70 : decode cX7_pulls 70 = .ok (.goto (-66), 3) := by decide +kernel
theorem dX7_pulls_73 : decode cX7_pulls 73 = .ok (.iload_n 2, 1) := by decide +kernel
theorem dX7_pulls_74 : decode cX7_pulls 74 = .ok (.ireturn, 1) := by decide +kernel
theorem dX7_rightPulled_0 : decode cX7_rightPulled 0 = .ok (.aload_n 0, 1) := by decide +kernel
theorem dX7_rightPulled_1 : decode cX7_rightPulled 1 = .ok (.invokevirtual 362, 3) := by decide +kernel
theorem dX7_rightPulled_4 : decode cX7_rightPulled 4 = .ok (.aload_n 0, 1) := by decide +kernel
theorem dX7_rightPulled_5 : decode cX7_rightPulled 5 = .ok (.iload_n 1, 1) := by decide +kernel
theorem dX7_rightPulled_6 : decode cX7_rightPulled 6 = .ok (.invokevirtual 371, 3) := by decide +kernel
theorem dX7_rightPulled_9 : decode cX7_rightPulled 9 = .ok (.istore 4, 2) := by decide +kernel
theorem dX7_rightPulled_11 : decode cX7_rightPulled 11 = .ok (.aload_n 0, 1) := by decide +kernel
theorem dX7_rightPulled_12 : decode cX7_rightPulled 12 = .ok (.aload_n 0, 1) := by decide +kernel
theorem dX7_rightPulled_13 : decode cX7_rightPulled 13 = .ok (.iload_n 2, 1) := by decide +kernel
theorem dX7_rightPulled_14 : decode cX7_rightPulled 14 = .ok (.iload_n 3, 1) := by decide +kernel
theorem dX7_rightPulled_15 : decode cX7_rightPulled 15 = .ok (.invokevirtual 335, 3) := by decide +kernel
theorem dX7_rightPulled_18 : decode cX7_rightPulled 18 = .ok (.invokevirtual 365, 3) := by decide +kernel
theorem dX7_rightPulled_21 : decode cX7_rightPulled 21 = .ok (.ireturn, 1) := by decide +kernel
theorem dX7_bestPull_0 : decode cX7_bestPull 0 = .ok (.aload_n 0, 1) := by decide +kernel
theorem dX7_bestPull_1 : decode cX7_bestPull 1 = .ok (.iload_n 1, 1) := by decide +kernel
theorem dX7_bestPull_2 : decode cX7_bestPull 2 = .ok (.invokestatic 326, 3) := by decide +kernel
theorem dX7_bestPull_5 : decode cX7_bestPull 5 = .ok (.invokevirtual 78, 3) := by decide +kernel
theorem dX7_bestPull_8 : decode cX7_bestPull 8 = .ok (.ifCond .ne 5, 3) := by decide +kernel
theorem dX7_bestPull_11 : decode cX7_bestPull 11 = .ok (.iconst 0, 1) := by decide +kernel
theorem dX7_bestPull_12 : decode cX7_bestPull 12 = .ok (.ireturn, 1) := by decide +kernel
theorem dX7_bestPull_13 : decode cX7_bestPull 13 = .ok (.iload_n 2, 1) := by decide +kernel
theorem dX7_bestPull_14 : decode cX7_bestPull 14 = .ok (.invokestatic 71, 3) := by decide +kernel
theorem dX7_bestPull_17 : decode cX7_bestPull 17 = .ok (.istore_n 3, 1) := by decide +kernel
theorem dX7_bestPull_18 : decode cX7_bestPull 18 = .ok (.iconst 0, 1) := by decide +kernel
theorem dX7_bestPull_19 : decode cX7_bestPull 19 = .ok (.istore 4, 2) := by decide +kernel
theorem dX7_bestPull_21 : decode cX7_bestPull 21 = .ok (.aload_n 0, 1) := by decide +kernel
theorem dX7_bestPull_22 : decode cX7_bestPull 22 = .ok (.iload_n 1, 1) := by decide +kernel
theorem dX7_bestPull_23 : decode cX7_bestPull 23 = .ok (.iload_n 3, 1) := by decide +kernel
theorem dX7_bestPull_24 : decode cX7_bestPull 24 = .ok (.invokevirtual 335, 3) := by decide +kernel
theorem dX7_bestPull_27 : decode cX7_bestPull 27 = .ok (.istore 5, 2) := by decide +kernel
theorem dX7_bestPull_29 : decode cX7_bestPull 29 = .ok (.iconst 2, 1) := by decide +kernel
theorem dX7_bestPull_30 : decode cX7_bestPull 30 = .ok (.istore 6, 2) := by decide +kernel
theorem dX7_bestPull_32 : decode cX7_bestPull 32 = .ok (.iload 6, 2) := by decide +kernel
theorem dX7_bestPull_34 : decode cX7_bestPull 34 = .ok (.bipush 18, 2) := by decide +kernel
theorem dX7_bestPull_36 : decode cX7_bestPull 36 = .ok (.if_icmp .ge 58, 3) := by decide +kernel
theorem dX7_bestPull_39 : decode cX7_bestPull 39 = .ok (.iload 6, 2) := by decide +kernel
theorem dX7_bestPull_41 : decode cX7_bestPull 41 = .ok (.iconst 2, 1) := by decide +kernel
theorem dX7_bestPull_42 : decode cX7_bestPull 42 = .ok (.irem, 1) := by decide +kernel
theorem dX7_bestPull_43 : decode cX7_bestPull 43 = .ok (.ifCond .ne 11, 3) := by decide +kernel
theorem dX7_bestPull_46 : decode cX7_bestPull 46 = .ok (.iload 6, 2) := by decide +kernel
theorem dX7_bestPull_48 : decode cX7_bestPull 48 = .ok (.iconst 2, 1) := by decide +kernel
theorem dX7_bestPull_49 : decode cX7_bestPull 49 = .ok (.idiv, 1) := by decide +kernel
theorem dX7_bestPull_50 : decode cX7_bestPull 50 = .ok (.ineg, 1) := by decide +kernel
theorem dX7_bestPull_51 : decode cX7_bestPull 51 = .ok (.goto 7, 3) := by decide +kernel
theorem dX7_bestPull_54 : decode cX7_bestPull 54 = .ok (.iload 6, 2) := by decide +kernel
theorem dX7_bestPull_56 : decode cX7_bestPull 56 = .ok (.iconst 2, 1) := by decide +kernel
theorem dX7_bestPull_57 : decode cX7_bestPull 57 = .ok (.idiv, 1) := by decide +kernel
theorem dX7_bestPull_58 : decode cX7_bestPull 58 = .ok (.istore 7, 2) := by decide +kernel
theorem dX7_bestPull_60 : decode cX7_bestPull 60 = .ok (.aload_n 0, 1) := by decide +kernel
theorem dX7_bestPull_61 : decode cX7_bestPull 61 = .ok (.iload 7, 2) := by decide +kernel
theorem dX7_bestPull_63 : decode cX7_bestPull 63 = .ok (.iload_n 1, 1) := by decide +kernel
theorem dX7_bestPull_64 : decode cX7_bestPull 64 = .ok (.iload_n 3, 1) := by decide +kernel
theorem dX7_bestPull_65 : decode cX7_bestPull 65 = .ok (.invokevirtual 374, 3) := by decide +kernel
theorem dX7_bestPull_68 : decode cX7_bestPull 68 = .ok (.istore 8, 2) := by decide +kernel
theorem dX7_bestPull_70 : decode cX7_bestPull 70 = .ok (.iload 8, 2) := by decide +kernel
theorem dX7_bestPull_72 : decode cX7_bestPull 72 = .ok (.iload 5, 2) := by decide +kernel
theorem dX7_bestPull_74 : decode cX7_bestPull 74 = .ok (.if_icmp .gt 6, 3) := by decide +kernel
theorem dX7_bestPull_77 : decode cX7_bestPull 77 = .ok (.goto 11, 3) := by decide +kernel
theorem dX7_bestPull_80 : decode cX7_bestPull 80 = .ok (.iload 8, 2) := by decide +kernel
theorem dX7_bestPull_82 : decode cX7_bestPull 82 = .ok (.istore 5, 2) := by decide +kernel
theorem dX7_bestPull_84 : decode cX7_bestPull 84 = .ok (.iload 7, 2) := by decide +kernel
theorem dX7_bestPull_86 : decode cX7_bestPull 86 = .ok (.istore 4, 2) := by decide +kernel
theorem dX7_bestPull_88 : decode cX7_bestPull 88 = .ok (.iinc 6 1, 3) := by decide +kernel
theorem dX7_bestPull_91 : decode cX7_bestPull 91 = .ok (.goto (-59), 3) := by decide +kernel
theorem dX7_bestPull_94 : decode cX7_bestPull 94 = .ok (.iload 4, 2) := by decide +kernel
theorem dX7_bestPull_96 : decode cX7_bestPull 96 = .ok (.ireturn, 1) := by decide +kernel
theorem dX7_dabs_0 : decode cX7_dabs 0 = .ok (.aload_n 0, 1) := by decide +kernel
theorem dX7_dabs_1 : decode cX7_dabs 1 = .ok (.iload_n 1, 1) := by decide +kernel
theorem dX7_dabs_2 : decode cX7_dabs 2 = .ok (.invokestatic 326, 3) := by decide +kernel
theorem dX7_dabs_5 : decode cX7_dabs 5 = .ok (.invokevirtual 78, 3) := by decide +kernel
theorem dX7_dabs_8 : decode cX7_dabs 8 = .ok (.ifCond .ne 5, 3) := by decide +kernel
theorem dX7_dabs_11 : decode cX7_dabs 11 = .ok (.iconst 0, 1) := by decide +kernel
theorem dX7_dabs_12 : decode cX7_dabs 12 = .ok (.ireturn, 1) := by decide +kernel
theorem dX7_dabs_13 : decode cX7_dabs 13 = .ok (.aload_n 0, 1) := by decide +kernel
theorem dX7_dabs_14 : decode cX7_dabs 14 = .ok (.getfield 20, 3) := by decide +kernel
theorem dX7_dabs_17 : decode cX7_dabs 17 = .ok (.iconst 1, 1) := by decide +kernel
theorem dX7_dabs_18 : decode cX7_dabs 18 = .ok (.iaload, 1) := by decide +kernel
theorem dX7_dabs_19 : decode cX7_dabs 19 = .ok (.ifCond .eq 13, 3) := by decide +kernel
theorem dX7_dabs_22 : decode cX7_dabs 22 = .ok (.aload_n 0, 1) := by decide +kernel
theorem dX7_dabs_23 : decode cX7_dabs 23 = .ok (.iload_n 1, 1) := by decide +kernel
theorem dX7_dabs_24 : decode cX7_dabs 24 = .ok (.iconst 1, 1) := by decide +kernel
theorem dX7_dabs_25 : decode cX7_dabs 25 = .ok (.iconst 3, 1) := by decide +kernel
theorem dX7_dabs_26 : decode cX7_dabs 26 = .ok (.invokevirtual 338, 3) := by decide +kernel
theorem dX7_dabs_29 : decode cX7_dabs 29 = .ok (.ifCond .le 5, 3) := by decide +kernel
theorem dX7_dabs_32 : decode cX7_dabs 32 = .ok (.iconst (-1), 1) := by decide +kernel
theorem dX7_dabs_33 : decode cX7_dabs 33 = .ok (.ireturn, 1) := by decide +kernel
theorem dX7_dabs_34 : decode cX7_dabs 34 = .ok (.aload_n 0, 1) := by decide +kernel
theorem dX7_dabs_35 : decode cX7_dabs 35 = .ok (.invokevirtual 357, 3) := by decide +kernel
theorem dX7_dabs_38 : decode cX7_dabs 38 = .ok (.aload_n 0, 1) := by decide +kernel
theorem dX7_dabs_39 : decode cX7_dabs 39 = .ok (.iload_n 1, 1) := by decide +kernel
theorem dX7_dabs_40 : decode cX7_dabs 40 = .ok (.iload_n 2, 1) := by decide +kernel
theorem dX7_dabs_41 : decode cX7_dabs 41 = .ok (.invokestatic 71, 3) := by decide +kernel
theorem dX7_dabs_44 : decode cX7_dabs 44 = .ok (.invokevirtual 335, 3) := by decide +kernel
theorem dX7_dabs_47 : decode cX7_dabs 47 = .ok (.isub, 1) := by decide +kernel
theorem dX7_dabs_48 : decode cX7_dabs 48 = .ok (.ireturn, 1) := by decide +kernel
theorem dX7_othersThan_0 : decode cX7_othersThan 0 = .ok (.iconst 0, 1) := by decide +kernel
theorem dX7_othersThan_1 : decode cX7_othersThan 1 = .ok (.istore_n 2, 1) := by decide +kernel
theorem dX7_othersThan_2 : decode cX7_othersThan 2 = .ok (.iconst 0, 1) := by decide +kernel
theorem dX7_othersThan_3 : decode cX7_othersThan 3 = .ok (.istore_n 3, 1) := by decide +kernel
theorem dX7_othersThan_4 : decode cX7_othersThan 4 = .ok (.iload_n 3, 1) := by decide +kernel
theorem dX7_othersThan_5 : decode cX7_othersThan 5 = .ok (.aload_n 0, 1) := by decide +kernel
theorem dX7_othersThan_6 : decode cX7_othersThan 6 = .ok (.getfield 20, 3) := by decide +kernel
theorem dX7_othersThan_9 : decode cX7_othersThan 9 = .ok (.iconst 1, 1) := by decide +kernel
theorem dX7_othersThan_10 : decode cX7_othersThan 10 = .ok (.iaload, 1) := by decide +kernel
theorem dX7_othersThan_11 : decode cX7_othersThan 11 = .ok (.if_icmp .ge 38, 3) := by decide +kernel
theorem dX7_othersThan_14 : decode cX7_othersThan 14 = .ok (.iload_n 2, 1) := by decide +kernel
theorem dX7_othersThan_15 : decode cX7_othersThan 15 = .ok (.aload_n 0, 1) := by decide +kernel
theorem dX7_othersThan_16 : decode cX7_othersThan 16 = .ok (.iload_n 3, 1) := by decide +kernel
theorem dX7_othersThan_17 : decode cX7_othersThan 17 = .ok (.iconst 2, 1) := by decide +kernel
theorem dX7_othersThan_18 : decode cX7_othersThan 18 = .ok (.invokevirtual 164, 3) := by decide +kernel
theorem dX7_othersThan_21 : decode cX7_othersThan 21 = .ok (.ifCond .ne 19, 3) := by decide +kernel
theorem dX7_othersThan_24 : decode cX7_othersThan 24 = .ok (.aload_n 0, 1) := by decide +kernel
theorem dX7_othersThan_25 : decode cX7_othersThan 25 = .ok (.iload_n 3, 1) := by decide +kernel
theorem dX7_othersThan_26 : decode cX7_othersThan 26 = .ok (.iconst 1, 1) := by decide +kernel
theorem dX7_othersThan_27 : decode cX7_othersThan 27 = .ok (.invokevirtual 164, 3) := by decide +kernel
theorem dX7_othersThan_30 : decode cX7_othersThan 30 = .ok (.iload_n 1, 1) := by decide +kernel
theorem dX7_othersThan_31 : decode cX7_othersThan 31 = .ok (.if_icmp .eq 9, 3) := by decide +kernel
theorem dX7_othersThan_34 : decode cX7_othersThan 34 = .ok (.iconst 1, 1) := by decide +kernel
theorem dX7_othersThan_35 : decode cX7_othersThan 35 = .ok (.iload_n 3, 1) := by decide +kernel
theorem dX7_othersThan_36 : decode cX7_othersThan 36 = .ok (.ishl, 1) := by decide +kernel
theorem dX7_othersThan_37 : decode cX7_othersThan 37 = .ok (.goto 4, 3) := by decide +kernel
theorem dX7_othersThan_40 : decode cX7_othersThan 40 = .ok (.iconst 0, 1) := by decide +kernel
theorem dX7_othersThan_41 : decode cX7_othersThan 41 = .ok (.ior, 1) := by decide +kernel
theorem dX7_othersThan_42 : decode cX7_othersThan 42 = .ok (.istore_n 2, 1) := by decide +kernel
theorem dX7_othersThan_43 : decode cX7_othersThan 43 = .ok (.iinc 3 1, 3) := by decide +kernel
theorem dX7_othersThan_46 : decode cX7_othersThan 46 = .ok (.goto (-42), 3) := by decide +kernel
theorem dX7_othersThan_49 : decode cX7_othersThan 49 = .ok (.iload_n 2, 1) := by decide +kernel
theorem dX7_othersThan_50 : decode cX7_othersThan 50 = .ok (.ireturn, 1) := by decide +kernel
theorem dX7_bits_0 : decode cX7_bits 0 = .ok (.iconst 0, 1) := by decide +kernel
theorem dX7_bits_1 : decode cX7_bits 1 = .ok (.istore_n 1, 1) := by decide +kernel
theorem dX7_bits_2 : decode cX7_bits 2 = .ok (.iload_n 0, 1) := by decide +kernel
theorem dX7_bits_3 : decode cX7_bits 3 = .ok (.istore_n 2, 1) := by decide +kernel
theorem dX7_bits_4 : decode cX7_bits 4 = .ok (.iload_n 2, 1) := by decide +kernel
theorem dX7_bits_5 : decode cX7_bits 5 = .ok (.ifCond .le 16, 3) := by decide +kernel
theorem dX7_bits_8 : decode cX7_bits 8 = .ok (.iload_n 1, 1) := by decide +kernel
theorem dX7_bits_9 : decode cX7_bits 9 = .ok (.iload_n 2, 1) := by decide +kernel
theorem dX7_bits_10 : decode cX7_bits 10 = .ok (.iconst 1, 1) := by decide +kernel
theorem dX7_bits_11 : decode cX7_bits 11 = .ok (.iand, 1) := by decide +kernel
theorem dX7_bits_12 : decode cX7_bits 12 = .ok (.iadd, 1) := by decide +kernel
theorem dX7_bits_13 : decode cX7_bits 13 = .ok (.istore_n 1, 1) := by decide +kernel
theorem dX7_bits_14 : decode cX7_bits 14 = .ok (.iload_n 2, 1) := by decide +kernel
theorem dX7_bits_15 : decode cX7_bits 15 = .ok (.iconst 1, 1) := by decide +kernel
theorem dX7_bits_16 : decode cX7_bits 16 = .ok (.ishr, 1) := by decide +kernel
theorem dX7_bits_17 : decode cX7_bits 17 = .ok (.istore_n 2, 1) := by decide +kernel
theorem dX7_bits_18 : decode cX7_bits 18 = .ok (.goto (-14), 3) := by decide +kernel
theorem dX7_bits_21 : decode cX7_bits 21 = .ok (.iload_n 1, 1) := by decide +kernel
theorem dX7_bits_22 : decode cX7_bits 22 = .ok (.ireturn, 1) := by decide +kernel
theorem dX7_isWholeBy_0 : decode cX7_isWholeBy 0 = .ok (.iconst 0, 1) := by decide +kernel
theorem dX7_isWholeBy_1 : decode cX7_isWholeBy 1 = .ok (.istore 5, 2) := by decide +kernel
theorem dX7_isWholeBy_3 : decode cX7_isWholeBy 3 = .ok (.iload 5, 2) := by decide +kernel
theorem dX7_isWholeBy_5 : decode cX7_isWholeBy 5 = .ok (.aload_n 0, 1) := by decide +kernel
theorem dX7_isWholeBy_6 : decode cX7_isWholeBy 6 = .ok (.getfield 20, 3) := by decide +kernel
theorem dX7_isWholeBy_9 : decode cX7_isWholeBy 9 = .ok (.iconst 1, 1) := by decide +kernel
theorem dX7_isWholeBy_10 : decode cX7_isWholeBy 10 = .ok (.iaload, 1) := by decide +kernel
theorem dX7_isWholeBy_11 : decode cX7_isWholeBy 11 = .ok (.if_icmp .ge 40, 3) := by decide +kernel
theorem dX7_isWholeBy_14 : decode cX7_isWholeBy 14 = .ok (.aload_n 0, 1) := by decide +kernel
theorem dX7_isWholeBy_15 : decode cX7_isWholeBy 15 = .ok (.getfield 35, 3) := by decide +kernel
theorem dX7_isWholeBy_18 : decode cX7_isWholeBy 18 = .ok (.iload 5, 2) := by decide +kernel
theorem dX7_isWholeBy_20 : decode cX7_isWholeBy 20 = .ok (.aload_n 0, 1) := by decide +kernel
theorem dX7_isWholeBy_21 : decode cX7_isWholeBy 21 = .ok (.iload 5, 2) := by decide +kernel
theorem dX7_isWholeBy_23 : decode cX7_isWholeBy 23 = .ok (.iconst 1, 1) := by decide +kernel
theorem dX7_isWholeBy_24 : decode cX7_isWholeBy 24 = .ok (.invokevirtual 164, 3) := by decide +kernel
theorem dX7_isWholeBy_27 : decode cX7_isWholeBy 27 = .ok (.iastore, 1) := by decide +kernel
theorem dX7_isWholeBy_28 : decode cX7_isWholeBy 28 = .ok (.iload_n 1, 1) := by decide +kernel
theorem dX7_isWholeBy_29 : decode cX7_isWholeBy 29 = .ok (.iload 5, 2) := by decide +kernel
theorem dX7_isWholeBy_31 : decode cX7_isWholeBy 31 = .ok (.invokestatic 186, 3) := by decide +kernel
theorem dX7_isWholeBy_34 : decode cX7_isWholeBy 34 = .ok (.ifCond .eq 11, 3) := by decide +kernel
theorem dX7_isWholeBy_37 : decode cX7_isWholeBy 37 = .ok (.aload_n 0, 1) := by decide +kernel
theorem dX7_isWholeBy_38 : decode cX7_isWholeBy 38 = .ok (.iload 5, 2) := by decide +kernel
theorem dX7_isWholeBy_40 : decode cX7_isWholeBy 40 = .ok (.iconst 1, 1) := by decide +kernel
theorem dX7_isWholeBy_41 : decode cX7_isWholeBy 41 = .ok (.iload_n 2, 1) := by decide +kernel
theorem dX7_isWholeBy_42 : decode cX7_isWholeBy 42 = .ok (.invokevirtual 203, 3) := by decide +kernel
theorem dX7_isWholeBy_45 : decode cX7_isWholeBy 45 = .ok (.iinc 5 1, 3) := by decide +kernel
theorem dX7_isWholeBy_48 : decode cX7_isWholeBy 48 = .ok (.goto (-45), 3) := by decide +kernel
theorem dX7_isWholeBy_51 : decode cX7_isWholeBy 51 = .ok (.aload_n 0, 1) := by decide +kernel
theorem dX7_isWholeBy_52 : decode cX7_isWholeBy 52 = .ok (.iload_n 3, 1) := by decide +kernel
theorem dX7_isWholeBy_53 : decode cX7_isWholeBy 53 = .ok (.iload 4, 2) := by decide +kernel
theorem dX7_isWholeBy_55 : decode cX7_isWholeBy 55 = .ok (.invokevirtual 344, 3) := by decide +kernel
theorem dX7_isWholeBy_58 : decode cX7_isWholeBy 58 = .ok (.istore 5, 2) := by decide +kernel
theorem dX7_isWholeBy_60 : decode cX7_isWholeBy 60 = .ok (.iconst 0, 1) := by decide +kernel
theorem dX7_isWholeBy_61 : decode cX7_isWholeBy 61 = .ok (.istore 6, 2) := by decide +kernel
theorem dX7_isWholeBy_63 : decode cX7_isWholeBy 63 = .ok (.iload 6, 2) := by decide +kernel
theorem dX7_isWholeBy_65 : decode cX7_isWholeBy 65 = .ok (.aload_n 0, 1) := by decide +kernel
theorem dX7_isWholeBy_66 : decode cX7_isWholeBy 66 = .ok (.getfield 20, 3) := by decide +kernel
theorem dX7_isWholeBy_69 : decode cX7_isWholeBy 69 = .ok (.iconst 1, 1) := by decide +kernel
theorem dX7_isWholeBy_70 : decode cX7_isWholeBy 70 = .ok (.iaload, 1) := by decide +kernel
theorem dX7_isWholeBy_71 : decode cX7_isWholeBy 71 = .ok (.if_icmp .ge 23, 3) := by decide +kernel
theorem dX7_isWholeBy_74 : decode cX7_isWholeBy 74 = .ok (.aload_n 0, 1) := by decide +kernel
theorem dX7_isWholeBy_75 : decode cX7_isWholeBy 75 = .ok (.iload 6, 2) := by decide +kernel
theorem dX7_isWholeBy_77 : decode cX7_isWholeBy 77 = .ok (.iconst 1, 1) := by decide +kernel
theorem dX7_isWholeBy_78 : decode cX7_isWholeBy 78 = .ok (.aload_n 0, 1) := by decide +kernel
theorem dX7_isWholeBy_79 : decode cX7_isWholeBy 79 = .ok (.getfield 35, 3) := by decide +kernel
theorem dX7_isWholeBy_82 : decode cX7_isWholeBy 82 = .ok (.iload 6, 2) := by decide +kernel
theorem dX7_isWholeBy_84 : decode cX7_isWholeBy 84 = .ok (.iaload, 1) := by decide +kernel
theorem dX7_isWholeBy_85 : decode cX7_isWholeBy 85 = .ok (.invokevirtual 203, 3) := by decide +kernel
theorem dX7_isWholeBy_88 : decode cX7_isWholeBy 88 = .ok (.iinc 6 1, 3) := by decide +kernel
theorem dX7_isWholeBy_91 : decode cX7_isWholeBy 91 = .ok (.goto (-28), 3) := by decide +kernel
theorem dX7_isWholeBy_94 : decode cX7_isWholeBy 94 = .ok (.iload 5, 2) := by decide +kernel
theorem dX7_isWholeBy_96 : decode cX7_isWholeBy 96 = .ok (.ireturn, 1) := by decide +kernel
theorem dX7_turnsNeeded_0 : decode cX7_turnsNeeded 0 = .ok (.aload_n 0, 1) := by decide +kernel
theorem dX7_turnsNeeded_1 : decode cX7_turnsNeeded 1 = .ok (.iload_n 1, 1) := by decide +kernel
theorem dX7_turnsNeeded_2 : decode cX7_turnsNeeded 2 = .ok (.invokestatic 326, 3) := by decide +kernel
theorem dX7_turnsNeeded_5 : decode cX7_turnsNeeded 5 = .ok (.invokevirtual 78, 3) := by decide +kernel
theorem dX7_turnsNeeded_8 : decode cX7_turnsNeeded 8 = .ok (.ifCond .ne 5, 3) := by decide +kernel
theorem dX7_turnsNeeded_11 : decode cX7_turnsNeeded 11 = .ok (.iconst 0, 1) := by decide +kernel
theorem dX7_turnsNeeded_12 : decode cX7_turnsNeeded 12 = .ok (.ireturn, 1) := by decide +kernel
theorem dX7_turnsNeeded_13 : decode cX7_turnsNeeded 13 = .ok (.iload_n 2, 1) := by decide +kernel
theorem dX7_turnsNeeded_14 : decode cX7_turnsNeeded 14 = .ok (.invokestatic 71, 3) := by decide +kernel
theorem dX7_turnsNeeded_17 : decode cX7_turnsNeeded 17 = .ok (.istore_n 3, 1) := by decide +kernel
theorem dX7_turnsNeeded_18 : decode cX7_turnsNeeded 18 = .ok (.aload_n 0, 1) := by decide +kernel
theorem dX7_turnsNeeded_19 : decode cX7_turnsNeeded 19 = .ok (.iload_n 1, 1) := by decide +kernel
theorem dX7_turnsNeeded_20 : decode cX7_turnsNeeded 20 = .ok (.iload_n 3, 1) := by decide +kernel
theorem dX7_turnsNeeded_21 : decode cX7_turnsNeeded 21 = .ok (.invokevirtual 344, 3) := by decide +kernel
theorem dX7_turnsNeeded_24 : decode cX7_turnsNeeded 24 = .ok (.ifCond .eq 5, 3) := by decide +kernel
theorem dX7_turnsNeeded_27 : decode cX7_turnsNeeded 27 = .ok (.iconst 0, 1) := by decide +kernel
theorem dX7_turnsNeeded_28 : decode cX7_turnsNeeded 28 = .ok (.ireturn, 1) := by decide +kernel
theorem dX7_turnsNeeded_29 : decode cX7_turnsNeeded 29 = .ok (.bipush 11, 2) := by decide +kernel
theorem dX7_turnsNeeded_31 : decode cX7_turnsNeeded 31 = .ok (.istore 4, 2) := by decide +kernel
theorem dX7_turnsNeeded_33 : decode cX7_turnsNeeded 33 = .ok (.bipush (-4), 2) := by decide +kernel
theorem dX7_turnsNeeded_35 : decode cX7_turnsNeeded 35 = .ok (.istore 5, 2) := by decide +kernel
theorem dX7_turnsNeeded_37 : decode cX7_turnsNeeded 37 = .ok (.iload 5, 2) := by decide +kernel
theorem dX7_turnsNeeded_39 : decode cX7_turnsNeeded 39 = .ok (.iconst 4, 1) := by decide +kernel
theorem dX7_turnsNeeded_40 : decode cX7_turnsNeeded 40 = .ok (.if_icmp .gt 68, 3) := by decide +kernel
theorem dX7_turnsNeeded_43 : decode cX7_turnsNeeded 43 = .ok (.aload_n 0, 1) := by decide +kernel
theorem dX7_turnsNeeded_44 : decode cX7_turnsNeeded 44 = .ok (.iload 5, 2) := by decide +kernel
theorem dX7_turnsNeeded_46 : decode cX7_turnsNeeded 46 = .ok (.invokevirtual 377, 3) := by decide +kernel
theorem dX7_turnsNeeded_49 : decode cX7_turnsNeeded 49 = .ok (.istore 6, 2) := by decide +kernel
theorem dX7_turnsNeeded_51 : decode cX7_turnsNeeded 51 = .ok (.iload 6, 2) := by decide +kernel
theorem dX7_turnsNeeded_53 : decode cX7_turnsNeeded 53 = .ok (.istore 7, 2) := by decide +kernel
theorem dX7_turnsNeeded_55 : decode cX7_turnsNeeded 55 = .ok (.iload 7, 2) := by decide +kernel
theorem dX7_turnsNeeded_57 : decode cX7_turnsNeeded 57 = .ok (.ifCond .le 45, 3) := by decide +kernel
theorem dX7_turnsNeeded_60 : decode cX7_turnsNeeded 60 = .ok (.iload 7, 2) := by decide +kernel
theorem dX7_turnsNeeded_62 : decode cX7_turnsNeeded 62 = .ok (.invokestatic 380, 3) := by decide +kernel
theorem dX7_turnsNeeded_65 : decode cX7_turnsNeeded 65 = .ok (.iload 4, 2) := by decide +kernel
theorem dX7_turnsNeeded_67 : decode cX7_turnsNeeded 67 = .ok (.if_icmp .ge 23, 3) := by decide +kernel
theorem dX7_turnsNeeded_70 : decode cX7_turnsNeeded 70 = .ok (.aload_n 0, 1) := by decide +kernel
theorem dX7_turnsNeeded_71 : decode cX7_turnsNeeded 71 = .ok (.iload 7, 2) := by decide +kernel
theorem dX7_turnsNeeded_73 : decode cX7_turnsNeeded 73 = .ok (.iload 5, 2) := by decide +kernel
theorem dX7_turnsNeeded_75 : decode cX7_turnsNeeded 75 = .ok (.iload_n 1, 1) := by decide +kernel
theorem dX7_turnsNeeded_76 : decode cX7_turnsNeeded 76 = .ok (.iload_n 3, 1) := by decide +kernel
theorem dX7_turnsNeeded_77 : decode cX7_turnsNeeded 77 = .ok (.invokevirtual 383, 3) := by decide +kernel
theorem dX7_turnsNeeded_80 : decode cX7_turnsNeeded 80 = .ok (.ifCond .eq 10, 3) := by decide +kernel
theorem dX7_turnsNeeded_83 : decode cX7_turnsNeeded 83 = .ok (.iload 7, 2) := by decide +kernel
theorem dX7_turnsNeeded_85 : decode cX7_turnsNeeded 85 = .ok (.invokestatic 380, 3) := by decide +kernel
theorem dX7_turnsNeeded_88 : decode cX7_turnsNeeded 88 = .ok (.istore 4, 2) := by decide +kernel
theorem dX7_turnsNeeded_90 : decode cX7_turnsNeeded 90 = .ok (.iload 7, 2) := by decide +kernel
theorem dX7_turnsNeeded_92 : decode cX7_turnsNeeded 92 = .ok (.iconst 1, 1) := by decide +kernel
theorem dX7_turnsNeeded_93 : decode cX7_turnsNeeded 93 = .ok (.isub, 1) := by decide +kernel
theorem dX7_turnsNeeded_94 : decode cX7_turnsNeeded 94 = .ok (.iload 6, 2) := by decide +kernel
theorem dX7_turnsNeeded_96 : decode cX7_turnsNeeded 96 = .ok (.iand, 1) := by decide +kernel
theorem dX7_turnsNeeded_97 : decode cX7_turnsNeeded 97 = .ok (.istore 7, 2) := by decide +kernel
theorem dX7_turnsNeeded_99 : decode cX7_turnsNeeded 99 = .ok (.goto (-44), 3) := by decide +kernel
theorem dX7_turnsNeeded_102 : decode cX7_turnsNeeded 102 = .ok (.iinc 5 1, 3) := by decide +kernel
theorem dX7_turnsNeeded_105 : decode cX7_turnsNeeded 105 = .ok (.goto (-68), 3) := by decide +kernel
theorem dX7_turnsNeeded_108 : decode cX7_turnsNeeded 108 = .ok (.iload 4, 2) := by decide +kernel
theorem dX7_turnsNeeded_110 : decode cX7_turnsNeeded 110 = .ok (.bipush 10, 2) := by decide +kernel
theorem dX7_turnsNeeded_112 : decode cX7_turnsNeeded 112 = .ok (.if_icmp .le 7, 3) := by decide +kernel
theorem dX7_turnsNeeded_115 : decode cX7_turnsNeeded 115 = .ok (.iconst (-1), 1) := by decide +kernel
theorem dX7_turnsNeeded_116 : decode cX7_turnsNeeded 116 = .ok (.goto 5, 3) := by decide +kernel
theorem dX7_turnsNeeded_119 : decode cX7_turnsNeeded 119 = .ok (.iload 4, 2) := by decide +kernel
theorem dX7_turnsNeeded_121 : decode cX7_turnsNeeded 121 = .ok (.ireturn, 1) := by decide +kernel
theorem dX7_rightAll_0 : decode cX7_rightAll 0 = .ok (.aload_n 0, 1) := by decide +kernel
theorem dX7_rightAll_1 : decode cX7_rightAll 1 = .ok (.invokevirtual 362, 3) := by decide +kernel
theorem dX7_rightAll_4 : decode cX7_rightAll 4 = .ok (.iconst 0, 1) := by decide +kernel
theorem dX7_rightAll_5 : decode cX7_rightAll 5 = .ok (.istore_n 3, 1) := by decide +kernel
theorem dX7_rightAll_6 : decode cX7_rightAll 6 = .ok (.iload_n 3, 1) := by decide +kernel
theorem dX7_rightAll_7 : decode cX7_rightAll 7 = .ok (.aload_n 0, 1) := by decide +kernel
theorem dX7_rightAll_8 : decode cX7_rightAll 8 = .ok (.getfield 20, 3) := by decide +kernel
theorem dX7_rightAll_11 : decode cX7_rightAll 11 = .ok (.iconst 1, 1) := by decide +kernel
theorem dX7_rightAll_12 : decode cX7_rightAll 12 = .ok (.iaload, 1) := by decide +kernel
theorem dX7_rightAll_13 : decode cX7_rightAll 13 = .ok (.if_icmp .ge 16, 3) := by decide +kernel
theorem dX7_rightAll_16 : decode cX7_rightAll 16 = .ok (.aload_n 0, 1) := by decide +kernel
theorem dX7_rightAll_17 : decode cX7_rightAll 17 = .ok (.iload_n 3, 1) := by decide +kernel
theorem dX7_rightAll_18 : decode cX7_rightAll 18 = .ok (.iconst 1, 1) := by decide +kernel
theorem dX7_rightAll_19 : decode cX7_rightAll 19 = .ok (.iload_n 1, 1) := by decide +kernel
theorem dX7_rightAll_20 : decode cX7_rightAll 20 = .ok (.invokevirtual 203, 3) := by decide +kernel
theorem dX7_rightAll_23 : decode cX7_rightAll 23 = .ok (.iinc 3 1, 3) := by decide +kernel
theorem dX7_rightAll_26 : decode cX7_rightAll 26 = .ok (.goto (-20), 3) := by decide +kernel
theorem dX7_rightAll_29 : decode cX7_rightAll 29 = .ok (.aload_n 0, 1) := by decide +kernel
theorem dX7_rightAll_30 : decode cX7_rightAll 30 = .ok (.aload_n 0, 1) := by decide +kernel
theorem dX7_rightAll_31 : decode cX7_rightAll 31 = .ok (.iload_n 2, 1) := by decide +kernel
theorem dX7_rightAll_32 : decode cX7_rightAll 32 = .ok (.iconst 0, 1) := by decide +kernel
theorem dX7_rightAll_33 : decode cX7_rightAll 33 = .ok (.invokevirtual 335, 3) := by decide +kernel
theorem dX7_rightAll_36 : decode cX7_rightAll 36 = .ok (.aload_n 0, 1) := by decide +kernel
theorem dX7_rightAll_37 : decode cX7_rightAll 37 = .ok (.iload_n 2, 1) := by decide +kernel
theorem dX7_rightAll_38 : decode cX7_rightAll 38 = .ok (.ineg, 1) := by decide +kernel
theorem dX7_rightAll_39 : decode cX7_rightAll 39 = .ok (.iconst 1, 1) := by decide +kernel
theorem dX7_rightAll_40 : decode cX7_rightAll 40 = .ok (.invokevirtual 335, 3) := by decide +kernel
theorem dX7_rightAll_43 : decode cX7_rightAll 43 = .ok (.iadd, 1) := by decide +kernel
theorem dX7_rightAll_44 : decode cX7_rightAll 44 = .ok (.invokevirtual 365, 3) := by decide +kernel
theorem dX7_rightAll_47 : decode cX7_rightAll 47 = .ok (.ireturn, 1) := by decide +kernel
theorem dX7_fairest_0 : decode cX7_fairest 0 = .ok (.aload_n 0, 1) := by decide +kernel
theorem dX7_fairest_1 : decode cX7_fairest 1 = .ok (.iload_n 1, 1) := by decide +kernel
theorem dX7_fairest_2 : decode cX7_fairest 2 = .ok (.invokestatic 326, 3) := by decide +kernel
theorem dX7_fairest_5 : decode cX7_fairest 5 = .ok (.invokevirtual 78, 3) := by decide +kernel
theorem dX7_fairest_8 : decode cX7_fairest 8 = .ok (.ifCond .ne 5, 3) := by decide +kernel
theorem dX7_fairest_11 : decode cX7_fairest 11 = .ok (.iconst 0, 1) := by decide +kernel
theorem dX7_fairest_12 : decode cX7_fairest 12 = .ok (.ireturn, 1) := by decide +kernel
theorem dX7_fairest_13 : decode cX7_fairest 13 = .ok (.iconst 0, 1) := by decide +kernel
theorem dX7_fairest_14 : decode cX7_fairest 14 = .ok (.istore_n 2, 1) := by decide +kernel
theorem dX7_fairest_15 : decode cX7_fairest 15 = .ok (.iconst (-1), 1) := by decide +kernel
theorem dX7_fairest_16 : decode cX7_fairest 16 = .ok (.istore_n 3, 1) := by decide +kernel
theorem dX7_fairest_17 : decode cX7_fairest 17 = .ok (.bipush (-4), 2) := by decide +kernel
theorem dX7_fairest_19 : decode cX7_fairest 19 = .ok (.istore 4, 2) := by decide +kernel
theorem dX7_fairest_21 : decode cX7_fairest 21 = .ok (.iload 4, 2) := by decide +kernel
theorem dX7_fairest_23 : decode cX7_fairest 23 = .ok (.iconst 4, 1) := by decide +kernel
theorem dX7_fairest_24 : decode cX7_fairest 24 = .ok (.if_icmp .gt 33, 3) := by decide +kernel
theorem dX7_fairest_27 : decode cX7_fairest 27 = .ok (.aload_n 0, 1) := by decide +kernel
theorem dX7_fairest_28 : decode cX7_fairest 28 = .ok (.iload 4, 2) := by decide +kernel
theorem dX7_fairest_30 : decode cX7_fairest 30 = .ok (.iload_n 1, 1) := by decide +kernel
theorem dX7_fairest_31 : decode cX7_fairest 31 = .ok (.invokevirtual 386, 3) := by decide +kernel
theorem dX7_fairest_34 : decode cX7_fairest 34 = .ok (.istore 5, 2) := by decide +kernel
theorem dX7_fairest_36 : decode cX7_fairest 36 = .ok (.iload 5, 2) := by decide +kernel
theorem dX7_fairest_38 : decode cX7_fairest 38 = .ok (.iload_n 3, 1) := by decide +kernel
theorem dX7_fairest_39 : decode cX7_fairest 39 = .ok (.if_icmp .gt 6, 3) := by decide +kernel
theorem dX7_fairest_42 : decode cX7_fairest 42 = .ok (.goto 9, 3) := by decide +kernel
theorem dX7_fairest_45 : decode cX7_fairest 45 = .ok (.iload 5, 2) := by decide +kernel
theorem dX7_fairest_47 : decode cX7_fairest 47 = .ok (.istore_n 3, 1) := by decide +kernel
theorem dX7_fairest_48 : decode cX7_fairest 48 = .ok (.iload 4, 2) := by decide +kernel
theorem dX7_fairest_50 : decode cX7_fairest 50 = .ok (.istore_n 2, 1) := by decide +kernel
theorem dX7_fairest_51 : decode cX7_fairest 51 = .ok (.iinc 4 1, 3) := by decide +kernel
theorem dX7_fairest_54 : decode cX7_fairest 54 = .ok (.goto (-33), 3) := by decide +kernel
theorem dX7_fairest_57 : decode cX7_fairest 57 = .ok (.iload_n 2, 1) := by decide +kernel
theorem dX7_fairest_58 : decode cX7_fairest 58 = .ok (.ireturn, 1) := by decide +kernel
theorem dX7_goesAll_0 : decode cX7_goesAll 0 = .ok (.aload_n 0, 1) := by decide +kernel
theorem dX7_goesAll_1 : decode cX7_goesAll 1 = .ok (.iload_n 1, 1) := by decide +kernel
theorem dX7_goesAll_2 : decode cX7_goesAll 2 = .ok (.iload_n 2, 1) := by decide +kernel
theorem dX7_goesAll_3 : decode cX7_goesAll 3 = .ok (.invokevirtual 313, 3) := by decide +kernel
theorem dX7_goesAll_6 : decode cX7_goesAll 6 = .ok (.ifCond .eq 12, 3) := by decide +kernel
theorem dX7_goesAll_9 : decode cX7_goesAll 9 = .ok (.iload_n 3, 1) := by decide +kernel
theorem dX7_goesAll_10 : decode cX7_goesAll 10 = .ok (.ifCond .ne 8, 3) := by decide +kernel
theorem dX7_goesAll_13 : decode cX7_goesAll 13 = .ok (.aload_n 0, 1) := by decide +kernel
theorem dX7_goesAll_14 : decode cX7_goesAll 14 = .ok (.iconst 3, 1) := by decide +kernel
theorem dX7_goesAll_15 : decode cX7_goesAll 15 = .ok (.putfield 68, 3) := by decide +kernel
theorem dX7_goesAll_18 : decode cX7_goesAll 18 = .ok (.aload_n 0, 1) := by decide +kernel
theorem dX7_goesAll_19 : decode cX7_goesAll 19 = .ok (.getfield 68, 3) := by decide +kernel
theorem dX7_goesAll_22 : decode cX7_goesAll 22 = .ok (.ifCond .ne 7, 3) := by decide +kernel
theorem dX7_goesAll_25 : decode cX7_goesAll 25 = .ok (.iconst 1, 1) := by decide +kernel
theorem dX7_goesAll_26 : decode cX7_goesAll 26 = .ok (.goto 4, 3) := by decide +kernel
theorem dX7_goesAll_29 : decode cX7_goesAll 29 = .ok (.iconst 0, 1) := by decide +kernel
theorem dX7_goesAll_30 : decode cX7_goesAll 30 = .ok (.ireturn, 1) := by decide +kernel
theorem dX7_isPull_0 : decode cX7_isPull 0 = .ok (.iload_n 0, 1) := by decide +kernel
theorem dX7_isPull_1 : decode cX7_isPull 1 = .ok (.ifCond .eq 21, 3) := by decide +kernel
theorem dX7_isPull_4 : decode cX7_isPull 4 = .ok (.iload_n 0, 1) := by decide +kernel
theorem dX7_isPull_5 : decode cX7_isPull 5 = .ok (.i2l, 1) := by decide +kernel
theorem dX7_isPull_6 : decode cX7_isPull 6 = .ok (.ldc2_w 389, 3) := by decide +kernel
theorem dX7_isPull_9 : decode cX7_isPull 9 = .ok (.ldc2_w 391, 3) := by decide +kernel
theorem dX7_isPull_12 : decode cX7_isPull 12 = .ok (.invokestatic 85, 3) := by decide +kernel
theorem dX7_isPull_15 : decode cX7_isPull 15 = .ok (.ifCond .eq 7, 3) := by decide +kernel
theorem dX7_isPull_18 : decode cX7_isPull 18 = .ok (.iconst 1, 1) := by decide +kernel
theorem dX7_isPull_19 : decode cX7_isPull 19 = .ok (.goto 4, 3) := by decide +kernel
theorem dX7_isPull_22 : decode cX7_isPull 22 = .ok (.iconst 0, 1) := by decide +kernel
theorem dX7_isPull_23 : decode cX7_isPull 23 = .ok (.ireturn, 1) := by decide +kernel
theorem dX7_pull_0 : decode cX7_pull 0 = .ok (.aload_n 0, 1) := by decide +kernel
theorem dX7_pull_1 : decode cX7_pull 1 = .ok (.iload_n 1, 1) := by decide +kernel
theorem dX7_pull_2 : decode cX7_pull 2 = .ok (.invokestatic 393, 3) := by decide +kernel
theorem dX7_pull_5 : decode cX7_pull 5 = .ok (.invokevirtual 78, 3) := by decide +kernel
theorem dX7_pull_8 : decode cX7_pull 8 = .ok (.ifCond .ne 5, 3) := by decide +kernel
theorem dX7_pull_11 : decode cX7_pull 11 = .ok (.iconst 0, 1) := by decide +kernel
theorem dX7_pull_12 : decode cX7_pull 12 = .ok (.ireturn, 1) := by decide +kernel
theorem dX7_pull_13 : decode cX7_pull 13 = .ok (.aload_n 0, 1) := by decide +kernel
theorem dX7_pull_14 : decode cX7_pull 14 = .ok (.invokevirtual 240, 3) := by decide +kernel
theorem dX7_pull_17 : decode cX7_pull 17 = .ok (.aload_n 0, 1) := by decide +kernel
theorem dX7_pull_18 : decode cX7_pull 18 = .ok (.aload_n 0, 1) := by decide +kernel
theorem dX7_pull_19 : decode cX7_pull 19 = .ok (.iload_n 1, 1) := by decide +kernel
theorem dX7_pull_20 : decode cX7_pull 20 = .ok (.invokevirtual 371, 3) := by decide +kernel
theorem dX7_pull_23 : decode cX7_pull 23 = .ok (.invokevirtual 396, 3) := by decide +kernel
theorem dX7_pull_26 : decode cX7_pull 26 = .ok (.ireturn, 1) := by decide +kernel
theorem dX7_isTurn_0 : decode cX7_isTurn 0 = .ok (.iload_n 0, 1) := by decide +kernel
theorem dX7_isTurn_1 : decode cX7_isTurn 1 = .ok (.i2l, 1) := by decide +kernel
theorem dX7_isTurn_2 : decode cX7_isTurn 2 = .ok (.ldc2_w 399, 3) := by decide +kernel
theorem dX7_isTurn_5 : decode cX7_isTurn 5 = .ok (.ldc2_w 401, 3) := by decide +kernel
theorem dX7_isTurn_8 : decode cX7_isTurn 8 = .ok (.invokestatic 85, 3) := by decide +kernel
theorem dX7_isTurn_11 : decode cX7_isTurn 11 = .ok (.ireturn, 1) := by decide +kernel
theorem dX7_isFree_0 : decode cX7_isFree 0 = .ok (.aload_n 0, 1) := by decide +kernel
theorem dX7_isFree_1 : decode cX7_isFree 1 = .ok (.iload_n 1, 1) := by decide +kernel
theorem dX7_isFree_2 : decode cX7_isFree 2 = .ok (.iconst 2, 1) := by decide +kernel
theorem dX7_isFree_3 : decode cX7_isFree 3 = .ok (.invokevirtual 164, 3) := by decide +kernel
theorem dX7_isFree_6 : decode cX7_isFree 6 = .ok (.ifCond .ne 7, 3) := by decide +kernel
theorem dX7_isFree_9 : decode cX7_isFree 9 = .ok (.iconst 1, 1) := by decide +kernel
theorem dX7_isFree_10 : decode cX7_isFree 10 = .ok (.goto 4, 3) := by decide +kernel
theorem dX7_isFree_13 : decode cX7_isFree 13 = .ok (.iconst 0, 1) := by decide +kernel
theorem dX7_isFree_14 : decode cX7_isFree 14 = .ok (.ireturn, 1) := by decide +kernel
theorem dX7_turns_0 : decode cX7_turns 0 = .ok (.aload_n 0, 1) := by decide +kernel
theorem dX7_turns_1 : decode cX7_turns 1 = .ok (.iload_n 1, 1) := by decide +kernel
theorem dX7_turns_2 : decode cX7_turns 2 = .ok (.iconst 1, 1) := by decide +kernel
theorem dX7_turns_3 : decode cX7_turns 3 = .ok (.invokevirtual 164, 3) := by decide +kernel
theorem dX7_turns_6 : decode cX7_turns 6 = .ok (.istore_n 3, 1) := by decide +kernel
theorem dX7_turns_7 : decode cX7_turns 7 = .ok (.aload_n 0, 1) := by decide +kernel
theorem dX7_turns_8 : decode cX7_turns 8 = .ok (.iload_n 1, 1) := by decide +kernel
theorem dX7_turns_9 : decode cX7_turns 9 = .ok (.iconst 1, 1) := by decide +kernel
theorem dX7_turns_10 : decode cX7_turns 10 = .ok (.iload_n 2, 1) := by decide +kernel
theorem dX7_turns_11 : decode cX7_turns 11 = .ok (.invokevirtual 203, 3) := by decide +kernel
theorem dX7_turns_14 : decode cX7_turns 14 = .ok (.iload_n 3, 1) := by decide +kernel
theorem dX7_turns_15 : decode cX7_turns 15 = .ok (.ireturn, 1) := by decide +kernel
theorem dX7_turn_0 : decode cX7_turn 0 = .ok (.aload_n 0, 1) := by decide +kernel
theorem dX7_turn_1 : decode cX7_turn 1 = .ok (.iload_n 1, 1) := by decide +kernel
theorem dX7_turn_2 : decode cX7_turn 2 = .ok (.invokevirtual 290, 3) := by decide +kernel
theorem dX7_turn_5 : decode cX7_turn 5 = .ok (.istore_n 3, 1) := by decide +kernel
theorem dX7_turn_6 : decode cX7_turn 6 = .ok (.aload_n 0, 1) := by decide +kernel
theorem dX7_turn_7 : decode cX7_turn 7 = .ok (.iload_n 3, 1) := by decide +kernel
theorem dX7_turn_8 : decode cX7_turn 8 = .ok (.iload_n 2, 1) := by decide +kernel
theorem dX7_turn_9 : decode cX7_turn 9 = .ok (.invokestatic 403, 3) := by decide +kernel
theorem dX7_turn_12 : decode cX7_turn 12 = .ok (.iload_n 3, 1) := by decide +kernel
theorem dX7_turn_13 : decode cX7_turn 13 = .ok (.ifCond .eq 15, 3) := by decide +kernel
theorem dX7_turn_16 : decode cX7_turn 16 = .ok (.aload_n 0, 1) := by decide +kernel
theorem dX7_turn_17 : decode cX7_turn 17 = .ok (.iload_n 1, 1) := by decide +kernel
theorem dX7_turn_18 : decode cX7_turn 18 = .ok (.invokevirtual 406, 3) := by decide +kernel
theorem dX7_turn_21 : decode cX7_turn 21 = .ok (.ifCond .eq 7, 3) := by decide +kernel
theorem dX7_turn_24 : decode cX7_turn 24 = .ok (.iconst 1, 1) := by decide +kernel
theorem dX7_turn_25 : decode cX7_turn 25 = .ok (.goto 4, 3) := by decide +kernel
theorem dX7_turn_28 : decode cX7_turn 28 = .ok (.iconst 0, 1) := by decide +kernel
theorem dX7_turn_29 : decode cX7_turn 29 = .ok (.invokevirtual 409, 3) := by decide +kernel
theorem dX7_turn_32 : decode cX7_turn 32 = .ok (.ifCond .ne 5, 3) := by decide +kernel
theorem dX7_turn_35 : decode cX7_turn 35 = .ok (.iconst 0, 1) := by decide +kernel
theorem dX7_turn_36 : decode cX7_turn 36 = .ok (.ireturn, 1) := by decide +kernel
theorem dX7_turn_37 : decode cX7_turn 37 = .ok (.aload_n 0, 1) := by decide +kernel
theorem dX7_turn_38 : decode cX7_turn 38 = .ok (.invokevirtual 240, 3) := by decide +kernel
theorem dX7_turn_41 : decode cX7_turn 41 = .ok (.aload_n 0, 1) := by decide +kernel
theorem dX7_turn_42 : decode cX7_turn 42 = .ok (.aload_n 0, 1) := by decide +kernel
theorem dX7_turn_43 : decode cX7_turn 43 = .ok (.iload_n 1, 1) := by decide +kernel
theorem dX7_turn_44 : decode cX7_turn 44 = .ok (.iload_n 2, 1) := by decide +kernel
theorem dX7_turn_45 : decode cX7_turn 45 = .ok (.invokevirtual 413, 3) := by decide +kernel
theorem dX7_turn_48 : decode cX7_turn 48 = .ok (.invokevirtual 396, 3) := by decide +kernel
theorem dX7_turn_51 : decode cX7_turn 51 = .ok (.ireturn, 1) := by decide +kernel
theorem dX7_ties_0 : decode cX7_ties 0 = .ok (.aload_n 0, 1) := by decide +kernel
theorem dX7_ties_1 : decode cX7_ties 1 = .ok (.iload_n 1, 1) := by decide +kernel
theorem dX7_ties_2 : decode cX7_ties 2 = .ok (.invokevirtual 406, 3) := by decide +kernel
theorem dX7_ties_5 : decode cX7_ties 5 = .ok (.iload_n 2, 1) := by decide +kernel
theorem dX7_ties_6 : decode cX7_ties 6 = .ok (.if_icmp .eq 5, 3) := by decide +kernel
theorem dX7_ties_9 : decode cX7_ties 9 = .ok (.iconst 0, 1) := by decide +kernel
theorem dX7_ties_10 : decode cX7_ties 10 = .ok (.ireturn, 1) := by decide +kernel
theorem dX7_ties_11 : decode cX7_ties 11 = .ok (.aload_n 0, 1) := by decide +kernel
theorem dX7_ties_12 : decode cX7_ties 12 = .ok (.iload_n 1, 1) := by decide +kernel
theorem dX7_ties_13 : decode cX7_ties 13 = .ok (.iconst 2, 1) := by decide +kernel
theorem dX7_ties_14 : decode cX7_ties 14 = .ok (.iload_n 2, 1) := by decide +kernel
theorem dX7_ties_15 : decode cX7_ties 15 = .ok (.invokestatic 71, 3) := by decide +kernel
theorem dX7_ties_18 : decode cX7_ties 18 = .ok (.invokevirtual 203, 3) := by decide +kernel
theorem dX7_ties_21 : decode cX7_ties 21 = .ok (.iconst 1, 1) := by decide +kernel
theorem dX7_ties_22 : decode cX7_ties 22 = .ok (.ireturn, 1) := by decide +kernel
theorem dX7_tie_0 : decode cX7_tie 0 = .ok (.aload_n 0, 1) := by decide +kernel
theorem dX7_tie_1 : decode cX7_tie 1 = .ok (.aload_n 0, 1) := by decide +kernel
theorem dX7_tie_2 : decode cX7_tie 2 = .ok (.iload_n 1, 1) := by decide +kernel
theorem dX7_tie_3 : decode cX7_tie 3 = .ok (.invokevirtual 290, 3) := by decide +kernel
theorem dX7_tie_6 : decode cX7_tie 6 = .ok (.invokevirtual 78, 3) := by decide +kernel
theorem dX7_tie_9 : decode cX7_tie 9 = .ok (.ifCond .eq 12, 3) := by decide +kernel
theorem dX7_tie_12 : decode cX7_tie 12 = .ok (.aload_n 0, 1) := by decide +kernel
theorem dX7_tie_13 : decode cX7_tie 13 = .ok (.iload_n 1, 1) := by decide +kernel
theorem dX7_tie_14 : decode cX7_tie 14 = .ok (.invokevirtual 406, 3) := by decide +kernel
theorem dX7_tie_17 : decode cX7_tie 17 = .ok (.iload_n 2, 1) := by decide +kernel
theorem dX7_tie_18 : decode cX7_tie 18 = .ok (.if_icmp .eq 5, 3) := by decide +kernel
theorem dX7_tie_21 : decode cX7_tie 21 = .ok (.iconst 0, 1) := by decide +kernel
theorem dX7_tie_22 : decode cX7_tie 22 = .ok (.ireturn, 1) := by decide +kernel
theorem dX7_tie_23 : decode cX7_tie 23 = .ok (.aload_n 0, 1) := by decide +kernel
theorem dX7_tie_24 : decode cX7_tie 24 = .ok (.invokevirtual 240, 3) := by decide +kernel
theorem dX7_tie_27 : decode cX7_tie 27 = .ok (.aload_n 0, 1) := by decide +kernel
theorem dX7_tie_28 : decode cX7_tie 28 = .ok (.iload_n 1, 1) := by decide +kernel
theorem dX7_tie_29 : decode cX7_tie 29 = .ok (.iload_n 2, 1) := by decide +kernel
theorem dX7_tie_30 : decode cX7_tie 30 = .ok (.invokevirtual 416, 3) := by decide +kernel
theorem dX7_tie_33 : decode cX7_tie 33 = .ok (.istore_n 3, 1) := by decide +kernel
theorem dX7_tie_34 : decode cX7_tie 34 = .ok (.aload_n 0, 1) := by decide +kernel
theorem dX7_tie_35 : decode cX7_tie 35 = .ok (.invokevirtual 153, 3) := by decide +kernel
theorem dX7_tie_38 : decode cX7_tie 38 = .ok (.iload_n 3, 1) := by decide +kernel
theorem dX7_tie_39 : decode cX7_tie 39 = .ok (.ireturn, 1) := by decide +kernel
theorem dX7_paints_0 : decode cX7_paints 0 = .ok (.aload_n 0, 1) := by decide +kernel
theorem dX7_paints_1 : decode cX7_paints 1 = .ok (.iload_n 1, 1) := by decide +kernel
theorem dX7_paints_2 : decode cX7_paints 2 = .ok (.iconst 3, 1) := by decide +kernel
theorem dX7_paints_3 : decode cX7_paints 3 = .ok (.iload_n 2, 1) := by decide +kernel
theorem dX7_paints_4 : decode cX7_paints 4 = .ok (.iadd, 1) := by decide +kernel
theorem dX7_paints_5 : decode cX7_paints 5 = .ok (.aload_n 0, 1) := by decide +kernel
theorem dX7_paints_6 : decode cX7_paints 6 = .ok (.iload_n 1, 1) := by decide +kernel
theorem dX7_paints_7 : decode cX7_paints 7 = .ok (.iconst 3, 1) := by decide +kernel
theorem dX7_paints_8 : decode cX7_paints 8 = .ok (.iload_n 2, 1) := by decide +kernel
theorem dX7_paints_9 : decode cX7_paints 9 = .ok (.iadd, 1) := by decide +kernel
theorem dX7_paints_10 : decode cX7_paints 10 = .ok (.invokevirtual 164, 3) := by decide +kernel
theorem dX7_paints_13 : decode cX7_paints 13 = .ok (.iconst 1, 1) := by decide +kernel
theorem dX7_paints_14 : decode cX7_paints 14 = .ok (.iadd, 1) := by decide +kernel
theorem dX7_paints_15 : decode cX7_paints 15 = .ok (.invokevirtual 203, 3) := by decide +kernel
theorem dX7_paints_18 : decode cX7_paints 18 = .ok (.aload_n 0, 1) := by decide +kernel
theorem dX7_paints_19 : decode cX7_paints 19 = .ok (.iload_n 1, 1) := by decide +kernel
theorem dX7_paints_20 : decode cX7_paints 20 = .ok (.iload_n 2, 1) := by decide +kernel
theorem dX7_paints_21 : decode cX7_paints 21 = .ok (.invokevirtual 234, 3) := by decide +kernel
theorem dX7_paints_24 : decode cX7_paints 24 = .ok (.ireturn, 1) := by decide +kernel
theorem dX7_paint_0 : decode cX7_paint 0 = .ok (.aload_n 0, 1) := by decide +kernel
theorem dX7_paint_1 : decode cX7_paint 1 = .ok (.iload_n 1, 1) := by decide +kernel
theorem dX7_paint_2 : decode cX7_paint 2 = .ok (.invokevirtual 290, 3) := by decide +kernel
theorem dX7_paint_5 : decode cX7_paint 5 = .ok (.istore_n 3, 1) := by decide +kernel
theorem dX7_paint_6 : decode cX7_paint 6 = .ok (.aload_n 0, 1) := by decide +kernel
theorem dX7_paint_7 : decode cX7_paint 7 = .ok (.iload_n 3, 1) := by decide +kernel
theorem dX7_paint_8 : decode cX7_paint 8 = .ok (.iload_n 3, 1) := by decide +kernel
theorem dX7_paint_9 : decode cX7_paint 9 = .ok (.ifCond .eq 19, 3) := by decide +kernel
theorem dX7_paint_12 : decode cX7_paint 12 = .ok (.aload_n 0, 1) := by decide +kernel
theorem dX7_paint_13 : decode cX7_paint 13 = .ok (.iload_n 1, 1) := by decide +kernel
theorem dX7_paint_14 : decode cX7_paint 14 = .ok (.iload_n 2, 1) := by decide +kernel
theorem dX7_paint_15 : decode cX7_paint 15 = .ok (.invokestatic 71, 3) := by decide +kernel
theorem dX7_paint_18 : decode cX7_paint 18 = .ok (.invokevirtual 354, 3) := by decide +kernel
theorem dX7_paint_21 : decode cX7_paint 21 = .ok (.ifCond .eq 7, 3) := by decide +kernel
theorem dX7_paint_24 : decode cX7_paint 24 = .ok (.iconst 1, 1) := by decide +kernel
theorem dX7_paint_25 : decode cX7_paint 25 = .ok (.goto 4, 3) := by decide +kernel
theorem dX7_paint_28 : decode cX7_paint 28 = .ok (.iconst 0, 1) := by decide +kernel
theorem dX7_paint_29 : decode cX7_paint 29 = .ok (.invokevirtual 313, 3) := by decide +kernel
theorem dX7_paint_32 : decode cX7_paint 32 = .ok (.ifCond .ne 5, 3) := by decide +kernel
theorem dX7_paint_35 : decode cX7_paint 35 = .ok (.iconst 0, 1) := by decide +kernel
theorem dX7_paint_36 : decode cX7_paint 36 = .ok (.ireturn, 1) := by decide +kernel
theorem dX7_paint_37 : decode cX7_paint 37 = .ok (.aload_n 0, 1) := by decide +kernel
theorem dX7_paint_38 : decode cX7_paint 38 = .ok (.invokevirtual 240, 3) := by decide +kernel
theorem dX7_paint_41 : decode cX7_paint 41 = .ok (.aload_n 0, 1) := by decide +kernel
theorem dX7_paint_42 : decode cX7_paint 42 = .ok (.aload_n 0, 1) := by decide +kernel
theorem dX7_paint_43 : decode cX7_paint 43 = .ok (.iload_n 1, 1) := by decide +kernel
theorem dX7_paint_44 : decode cX7_paint 44 = .ok (.iload_n 2, 1) := by decide +kernel
theorem dX7_paint_45 : decode cX7_paint 45 = .ok (.invokestatic 71, 3) := by decide +kernel
theorem dX7_paint_48 : decode cX7_paint 48 = .ok (.invokevirtual 420, 3) := by decide +kernel
theorem dX7_paint_51 : decode cX7_paint 51 = .ok (.invokevirtual 396, 3) := by decide +kernel
theorem dX7_paint_54 : decode cX7_paint 54 = .ok (.ireturn, 1) := by decide +kernel
theorem dX7_isColour_0 : decode cX7_isColour 0 = .ok (.iload_n 0, 1) := by decide +kernel
theorem dX7_isColour_1 : decode cX7_isColour 1 = .ok (.i2l, 1) := by decide +kernel
theorem dX7_isColour_2 : decode cX7_isColour 2 = .ok (.lconst 0, 1) := by decide +kernel
theorem dX7_isColour_3 : decode cX7_isColour 3 = .ok (.ldc2_w 300, 3) := by decide +kernel
theorem dX7_isColour_6 : decode cX7_isColour 6 = .ok (.invokestatic 85, 3) := by decide +kernel
theorem dX7_isColour_9 : decode cX7_isColour 9 = .ok (.ireturn, 1) := by decide +kernel
theorem dX7_dabs0_0 : decode cX7_dabs0 0 = .ok (.iload_n 2, 1) := by decide +kernel
theorem dX7_dabs0_1 : decode cX7_dabs0 1 = .ok (.aload_n 0, 1) := by decide +kernel
theorem dX7_dabs0_2 : decode cX7_dabs0 2 = .ok (.iload_n 1, 1) := by decide +kernel
theorem dX7_dabs0_3 : decode cX7_dabs0 3 = .ok (.invokevirtual 167, 3) := by decide +kernel
theorem dX7_dabs0_6 : decode cX7_dabs0 6 = .ok (.iload_n 3, 1) := by decide +kernel
theorem dX7_dabs0_7 : decode cX7_dabs0 7 = .ok (.iadd, 1) := by decide +kernel
theorem dX7_dabs0_8 : decode cX7_dabs0 8 = .ok (.iload 4, 2) := by decide +kernel
theorem dX7_dabs0_10 : decode cX7_dabs0 10 = .ok (.invokestatic 160, 3) := by decide +kernel
theorem dX7_dabs0_13 : decode cX7_dabs0 13 = .ok (.istore 6, 2) := by decide +kernel
theorem dX7_dabs0_15 : decode cX7_dabs0 15 = .ok (.aload_n 0, 1) := by decide +kernel
theorem dX7_dabs0_16 : decode cX7_dabs0 16 = .ok (.getfield 20, 3) := by decide +kernel
theorem dX7_dabs0_19 : decode cX7_dabs0 19 = .ok (.iload 6, 2) := by decide +kernel
theorem dX7_dabs0_21 : decode cX7_dabs0 21 = .ok (.iaload, 1) := by decide +kernel
theorem dX7_dabs0_22 : decode cX7_dabs0 22 = .ok (.istore 7, 2) := by decide +kernel
theorem dX7_dabs0_24 : decode cX7_dabs0 24 = .ok (.aload_n 0, 1) := by decide +kernel
theorem dX7_dabs0_25 : decode cX7_dabs0 25 = .ok (.getfield 20, 3) := by decide +kernel
theorem dX7_dabs0_28 : decode cX7_dabs0 28 = .ok (.iload 6, 2) := by decide +kernel
theorem dX7_dabs0_30 : decode cX7_dabs0 30 = .ok (.iload 5, 2) := by decide +kernel
theorem dX7_dabs0_32 : decode cX7_dabs0 32 = .ok (.iastore, 1) := by decide +kernel
theorem dX7_dabs0_33 : decode cX7_dabs0 33 = .ok (.iload 7, 2) := by decide +kernel
theorem dX7_dabs0_35 : decode cX7_dabs0 35 = .ok (.ireturn, 1) := by decide +kernel
theorem dX7_dab_0 : decode cX7_dab 0 = .ok (.aload_n 0, 1) := by decide +kernel
theorem dX7_dab_1 : decode cX7_dab 1 = .ok (.aload_n 0, 1) := by decide +kernel
theorem dX7_dab_2 : decode cX7_dab 2 = .ok (.iload_n 1, 1) := by decide +kernel
theorem dX7_dab_3 : decode cX7_dab 3 = .ok (.iload_n 3, 1) := by decide +kernel
theorem dX7_dab_4 : decode cX7_dab 4 = .ok (.iload 4, 2) := by decide +kernel
theorem dX7_dab_6 : decode cX7_dab 6 = .ok (.invokevirtual 323, 3) := by decide +kernel
theorem dX7_dab_9 : decode cX7_dab 9 = .ok (.iload 5, 2) := by decide +kernel
theorem dX7_dab_11 : decode cX7_dab 11 = .ok (.invokestatic 423, 3) := by decide +kernel
theorem dX7_dab_14 : decode cX7_dab 14 = .ok (.invokevirtual 313, 3) := by decide +kernel
theorem dX7_dab_17 : decode cX7_dab 17 = .ok (.ifCond .ne 5, 3) := by decide +kernel
theorem dX7_dab_20 : decode cX7_dab 20 = .ok (.iconst 0, 1) := by decide +kernel
theorem dX7_dab_21 : decode cX7_dab 21 = .ok (.ireturn, 1) := by decide +kernel
theorem dX7_dab_22 : decode cX7_dab 22 = .ok (.aload_n 0, 1) := by decide +kernel
theorem dX7_dab_23 : decode cX7_dab 23 = .ok (.invokevirtual 240, 3) := by decide +kernel
theorem dX7_dab_26 : decode cX7_dab 26 = .ok (.aload_n 0, 1) := by decide +kernel
theorem dX7_dab_27 : decode cX7_dab 27 = .ok (.aload_n 0, 1) := by decide +kernel
theorem dX7_dab_28 : decode cX7_dab 28 = .ok (.iload_n 1, 1) := by decide +kernel
theorem dX7_dab_29 : decode cX7_dab 29 = .ok (.iload_n 2, 1) := by decide +kernel
theorem dX7_dab_30 : decode cX7_dab 30 = .ok (.invokestatic 71, 3) := by decide +kernel
theorem dX7_dab_33 : decode cX7_dab 33 = .ok (.iload_n 3, 1) := by decide +kernel
theorem dX7_dab_34 : decode cX7_dab 34 = .ok (.iload 4, 2) := by decide +kernel
theorem dX7_dab_36 : decode cX7_dab 36 = .ok (.iload 5, 2) := by decide +kernel
theorem dX7_dab_38 : decode cX7_dab 38 = .ok (.invokevirtual 426, 3) := by decide +kernel
theorem dX7_dab_41 : decode cX7_dab 41 = .ok (.invokevirtual 396, 3) := by decide +kernel
theorem dX7_dab_44 : decode cX7_dab 44 = .ok (.ireturn, 1) := by decide +kernel
theorem dX7_swaps_0 : decode cX7_swaps 0 = .ok (.aload_n 0, 1) := by decide +kernel
theorem dX7_swaps_1 : decode cX7_swaps 1 = .ok (.iload_n 1, 1) := by decide +kernel
theorem dX7_swaps_2 : decode cX7_swaps 2 = .ok (.iconst 3, 1) := by decide +kernel
theorem dX7_swaps_3 : decode cX7_swaps 3 = .ok (.invokevirtual 164, 3) := by decide +kernel
theorem dX7_swaps_6 : decode cX7_swaps 6 = .ok (.istore_n 2, 1) := by decide +kernel
theorem dX7_swaps_7 : decode cX7_swaps 7 = .ok (.aload_n 0, 1) := by decide +kernel
theorem dX7_swaps_8 : decode cX7_swaps 8 = .ok (.iload_n 1, 1) := by decide +kernel
theorem dX7_swaps_9 : decode cX7_swaps 9 = .ok (.iconst 3, 1) := by decide +kernel
theorem dX7_swaps_10 : decode cX7_swaps 10 = .ok (.aload_n 0, 1) := by decide +kernel
theorem dX7_swaps_11 : decode cX7_swaps 11 = .ok (.iload_n 1, 1) := by decide +kernel
theorem dX7_swaps_12 : decode cX7_swaps 12 = .ok (.iconst 4, 1) := by decide +kernel
theorem dX7_swaps_13 : decode cX7_swaps 13 = .ok (.invokevirtual 164, 3) := by decide +kernel
theorem dX7_swaps_16 : decode cX7_swaps 16 = .ok (.invokevirtual 203, 3) := by decide +kernel
theorem dX7_swaps_19 : decode cX7_swaps 19 = .ok (.aload_n 0, 1) := by decide +kernel
theorem dX7_swaps_20 : decode cX7_swaps 20 = .ok (.iload_n 1, 1) := by decide +kernel
theorem dX7_swaps_21 : decode cX7_swaps 21 = .ok (.iconst 4, 1) := by decide +kernel
theorem dX7_swaps_22 : decode cX7_swaps 22 = .ok (.iload_n 2, 1) := by decide +kernel
theorem dX7_swaps_23 : decode cX7_swaps 23 = .ok (.invokevirtual 203, 3) := by decide +kernel
theorem dX7_swaps_26 : decode cX7_swaps 26 = .ok (.iconst 0, 1) := by decide +kernel
theorem dX7_swaps_27 : decode cX7_swaps 27 = .ok (.istore_n 3, 1) := by decide +kernel
theorem dX7_swaps_28 : decode cX7_swaps 28 = .ok (.aload_n 0, 1) := by decide +kernel
theorem dX7_swaps_29 : decode cX7_swaps 29 = .ok (.iload_n 1, 1) := by decide +kernel
theorem dX7_swaps_30 : decode cX7_swaps 30 = .ok (.invokevirtual 167, 3) := by decide +kernel
theorem dX7_swaps_33 : decode cX7_swaps 33 = .ok (.istore 4, 2) := by decide +kernel
theorem dX7_swaps_35 : decode cX7_swaps 35 = .ok (.iload 4, 2) := by decide +kernel
theorem dX7_swaps_37 : decode cX7_swaps 37 = .ok (.istore 5, 2) := by decide +kernel
theorem dX7_swaps_39 : decode cX7_swaps 39 = .ok (.iload 5, 2) := by decide +kernel
theorem dX7_swaps_41 : decode cX7_swaps 41 = .ok (.iload 4, 2) := by decide +kernel
theorem dX7_swaps_43 : decode cX7_swaps 43 = .ok (.aload_n 0, 1) := by decide +kernel
theorem dX7_swaps_44 : decode cX7_swaps 44 = .ok (.iload_n 1, 1) := by decide +kernel
theorem dX7_swaps_45 : decode cX7_swaps 45 = .ok (.iconst 0, 1) := by decide +kernel
theorem dX7_swaps_46 : decode cX7_swaps 46 = .ok (.invokevirtual 164, 3) := by decide +kernel
theorem dX7_swaps_49 : decode cX7_swaps 49 = .ok (.iadd, 1) := by decide +kernel
theorem dX7_swaps_50 : decode cX7_swaps 50 = .ok (.if_icmp .ge 102, 3) := by decide +kernel
theorem dX7_swaps_53 : decode cX7_swaps 53 = .ok (.iconst 0, 1) := by decide +kernel
theorem dX7_swaps_54 : decode cX7_swaps 54 = .ok (.istore 6, 2) := by decide +kernel
theorem dX7_swaps_56 : decode cX7_swaps 56 = .ok (.iload 6, 2) := by decide +kernel
theorem dX7_swaps_58 : decode cX7_swaps 58 = .ok (.aload_n 0, 1) := by decide +kernel
theorem dX7_swaps_59 : decode cX7_swaps 59 = .ok (.getfield 20, 3) := by decide +kernel
theorem dX7_swaps_62 : decode cX7_swaps 62 = .ok (.iconst 0, 1) := by decide +kernel
theorem dX7_swaps_63 : decode cX7_swaps 63 = .ok (.iaload, 1) := by decide +kernel
theorem dX7_swaps_64 : decode cX7_swaps 64 = .ok (.if_icmp .ge 82, 3) := by decide +kernel
theorem dX7_swaps_67 : decode cX7_swaps 67 = .ok (.aload_n 0, 1) := by decide +kernel
theorem dX7_swaps_68 : decode cX7_swaps 68 = .ok (.iconst 0, 1) := by decide +kernel
theorem dX7_swaps_69 : decode cX7_swaps 69 = .ok (.iload 5, 2) := by decide +kernel
theorem dX7_swaps_71 : decode cX7_swaps 71 = .ok (.iload 6, 2) := by decide +kernel
theorem dX7_swaps_73 : decode cX7_swaps 73 = .ok (.invokevirtual 180, 3) := by decide +kernel
theorem dX7_swaps_76 : decode cX7_swaps 76 = .ok (.istore 7, 2) := by decide +kernel
theorem dX7_swaps_78 : decode cX7_swaps 78 = .ok (.iload_n 3, 1) := by decide +kernel
theorem dX7_swaps_79 : decode cX7_swaps 79 = .ok (.aload_n 0, 1) := by decide +kernel
theorem dX7_swaps_80 : decode cX7_swaps 80 = .ok (.iconst 1, 1) := by decide +kernel
theorem dX7_swaps_81 : decode cX7_swaps 81 = .ok (.iload 5, 2) := by decide +kernel
theorem dX7_swaps_83 : decode cX7_swaps 83 = .ok (.iload 6, 2) := by decide +kernel
theorem dX7_swaps_85 : decode cX7_swaps 85 = .ok (.invokevirtual 180, 3) := by decide +kernel
theorem dX7_swaps_88 : decode cX7_swaps 88 = .ok (.iload 7, 2) := by decide +kernel
theorem dX7_swaps_90 : decode cX7_swaps 90 = .ok (.if_icmp .eq 7, 3) := by decide +kernel
theorem dX7_swaps_93 : decode cX7_swaps 93 = .ok (.iconst 1, 1) := by decide +kernel
theorem dX7_swaps_94 : decode cX7_swaps 94 = .ok (.goto 4, 3) := by decide +kernel
theorem dX7_swaps_97 : decode cX7_swaps 97 = .ok (.iconst 0, 1) := by decide +kernel
theorem dX7_swaps_98 : decode cX7_swaps 98 = .ok (.invokestatic 71, 3) := by decide +kernel
theorem dX7_swaps_101 : decode cX7_swaps 101 = .ok (.iadd, 1) := by decide +kernel
theorem dX7_swaps_102 : decode cX7_swaps 102 = .ok (.istore_n 3, 1) := by decide +kernel
theorem dX7_swaps_103 : decode cX7_swaps 103 = .ok (.aload_n 0, 1) := by decide +kernel
theorem dX7_swaps_104 : decode cX7_swaps 104 = .ok (.getfield 20, 3) := by decide +kernel
theorem dX7_swaps_107 : decode cX7_swaps 107 = .ok (.iconst 0, 1) := by decide +kernel
theorem dX7_swaps_108 : decode cX7_swaps 108 = .ok (.iload 5, 2) := by decide +kernel
theorem dX7_swaps_110 : decode cX7_swaps 110 = .ok (.iload 6, 2) := by decide +kernel
theorem dX7_swaps_112 : decode cX7_swaps 112 = .ok (.invokestatic 160, 3) := by decide +kernel
theorem dX7_swaps_115 : decode cX7_swaps 115 = .ok (.aload_n 0, 1) := by decide +kernel
theorem dX7_swaps_116 : decode cX7_swaps 116 = .ok (.iconst 1, 1) := by decide +kernel
theorem dX7_swaps_117 : decode cX7_swaps 117 = .ok (.iload 5, 2) := by decide +kernel
theorem dX7_swaps_119 : decode cX7_swaps 119 = .ok (.iload 6, 2) := by decide +kernel
theorem dX7_swaps_121 : decode cX7_swaps 121 = .ok (.invokevirtual 180, 3) := by decide +kernel
theorem dX7_swaps_124 : decode cX7_swaps 124 = .ok (.iastore, 1) := by decide +kernel
theorem dX7_swaps_125 : decode cX7_swaps 125 = .ok (.aload_n 0, 1) := by decide +kernel
theorem dX7_swaps_126 : decode cX7_swaps 126 = .ok (.getfield 20, 3) := by decide +kernel
theorem dX7_swaps_129 : decode cX7_swaps 129 = .ok (.iconst 1, 1) := by decide +kernel
theorem dX7_swaps_130 : decode cX7_swaps 130 = .ok (.iload 5, 2) := by decide +kernel
theorem dX7_swaps_132 : decode cX7_swaps 132 = .ok (.iload 6, 2) := by decide +kernel
theorem dX7_swaps_134 : decode cX7_swaps 134 = .ok (.invokestatic 160, 3) := by decide +kernel
theorem dX7_swaps_137 : decode cX7_swaps 137 = .ok (.iload 7, 2) := by decide +kernel
theorem dX7_swaps_139 : decode cX7_swaps 139 = .ok (.iastore, 1) := by decide +kernel
theorem dX7_swaps_140 : decode cX7_swaps 140 = .ok (.iinc 6 1, 3) := by decide +kernel
theorem dX7_swaps_143 : decode cX7_swaps 143 = .ok (.goto (-87), 3) := by decide +kernel
theorem dX7_swaps_146 : decode cX7_swaps 146 = .ok (.iinc 5 1, 3) := by decide +kernel
theorem dX7_swaps_149 : decode cX7_swaps 149 = .ok (.goto (-110), 3) := by decide +kernel
theorem dX7_swaps_152 : decode cX7_swaps 152 = .ok (.iload_n 3, 1) := by decide +kernel
theorem dX7_swaps_153 : decode cX7_swaps 153 = .ok (.ireturn, 1) := by decide +kernel
theorem dX7_swap_0 : decode cX7_swap 0 = .ok (.aload_n 0, 1) := by decide +kernel
theorem dX7_swap_1 : decode cX7_swap 1 = .ok (.aload_n 0, 1) := by decide +kernel
theorem dX7_swap_2 : decode cX7_swap 2 = .ok (.iload_n 1, 1) := by decide +kernel
theorem dX7_swap_3 : decode cX7_swap 3 = .ok (.invokevirtual 290, 3) := by decide +kernel
theorem dX7_swap_6 : decode cX7_swap 6 = .ok (.invokevirtual 78, 3) := by decide +kernel
theorem dX7_swap_9 : decode cX7_swap 9 = .ok (.ifCond .ne 5, 3) := by decide +kernel
theorem dX7_swap_12 : decode cX7_swap 12 = .ok (.iconst 0, 1) := by decide +kernel
theorem dX7_swap_13 : decode cX7_swap 13 = .ok (.ireturn, 1) := by decide +kernel
theorem dX7_swap_14 : decode cX7_swap 14 = .ok (.aload_n 0, 1) := by decide +kernel
theorem dX7_swap_15 : decode cX7_swap 15 = .ok (.invokevirtual 240, 3) := by decide +kernel
theorem dX7_swap_18 : decode cX7_swap 18 = .ok (.aload_n 0, 1) := by decide +kernel
theorem dX7_swap_19 : decode cX7_swap 19 = .ok (.aload_n 0, 1) := by decide +kernel
theorem dX7_swap_20 : decode cX7_swap 20 = .ok (.iload_n 1, 1) := by decide +kernel
theorem dX7_swap_21 : decode cX7_swap 21 = .ok (.invokevirtual 430, 3) := by decide +kernel
theorem dX7_swap_24 : decode cX7_swap 24 = .ok (.invokevirtual 396, 3) := by decide +kernel
theorem dX7_swap_27 : decode cX7_swap 27 = .ok (.ireturn, 1) := by decide +kernel
theorem dX7_spots_0 : decode cX7_spots 0 = .ok (.aload_n 0, 1) := by decide +kernel
theorem dX7_spots_1 : decode cX7_spots 1 = .ok (.getfield 20, 3) := by decide +kernel
theorem dX7_spots_4 : decode cX7_spots 4 = .ok (.iconst 3, 1) := by decide +kernel
theorem dX7_spots_5 : decode cX7_spots 5 = .ok (.iaload, 1) := by decide +kernel
theorem dX7_spots_6 : decode cX7_spots 6 = .ok (.istore 5, 2) := by decide +kernel
theorem dX7_spots_8 : decode cX7_spots 8 = .ok (.aload_n 0, 1) := by decide +kernel
theorem dX7_spots_9 : decode cX7_spots 9 = .ok (.iload_n 1, 1) := by decide +kernel
theorem dX7_spots_10 : decode cX7_spots 10 = .ok (.iload_n 2, 1) := by decide +kernel
theorem dX7_spots_11 : decode cX7_spots 11 = .ok (.iload_n 3, 1) := by decide +kernel
theorem dX7_spots_12 : decode cX7_spots 12 = .ok (.iconst 1, 1) := by decide +kernel
theorem dX7_spots_13 : decode cX7_spots 13 = .ok (.iconst 1, 1) := by decide +kernel
theorem dX7_spots_14 : decode cX7_spots 14 = .ok (.invokevirtual 207, 3) := by decide +kernel
theorem dX7_spots_17 : decode cX7_spots 17 = .ok (.aload_n 0, 1) := by decide +kernel
theorem dX7_spots_18 : decode cX7_spots 18 = .ok (.iload 5, 2) := by decide +kernel
theorem dX7_spots_20 : decode cX7_spots 20 = .ok (.iconst 5, 1) := by decide +kernel
theorem dX7_spots_21 : decode cX7_spots 21 = .ok (.iload 4, 2) := by decide +kernel
theorem dX7_spots_23 : decode cX7_spots 23 = .ok (.invokevirtual 211, 3) := by decide +kernel
theorem dX7_spots_26 : decode cX7_spots 26 = .ok (.aload_n 0, 1) := by decide +kernel
theorem dX7_spots_27 : decode cX7_spots 27 = .ok (.getfield 20, 3) := by decide +kernel
theorem dX7_spots_30 : decode cX7_spots 30 = .ok (.iconst 3, 1) := by decide +kernel
theorem dX7_spots_31 : decode cX7_spots 31 = .ok (.iaload, 1) := by decide +kernel
theorem dX7_spots_32 : decode cX7_spots 32 = .ok (.ireturn, 1) := by decide +kernel
theorem dX7_spot_0 : decode cX7_spot 0 = .ok (.aload_n 0, 1) := by decide +kernel
theorem dX7_spot_1 : decode cX7_spot 1 = .ok (.aload_n 0, 1) := by decide +kernel
theorem dX7_spot_2 : decode cX7_spot 2 = .ok (.iload_n 2, 1) := by decide +kernel
theorem dX7_spot_3 : decode cX7_spot 3 = .ok (.invokevirtual 320, 3) := by decide +kernel
theorem dX7_spot_6 : decode cX7_spot 6 = .ok (.ifCond .eq 15, 3) := by decide +kernel
theorem dX7_spot_9 : decode cX7_spot 9 = .ok (.aload_n 0, 1) := by decide +kernel
theorem dX7_spot_10 : decode cX7_spot 10 = .ok (.iload_n 3, 1) := by decide +kernel
theorem dX7_spot_11 : decode cX7_spot 11 = .ok (.invokevirtual 293, 3) := by decide +kernel
theorem dX7_spot_14 : decode cX7_spot 14 = .ok (.ifCond .eq 7, 3) := by decide +kernel
theorem dX7_spot_17 : decode cX7_spot 17 = .ok (.iconst 1, 1) := by decide +kernel
theorem dX7_spot_18 : decode cX7_spot 18 = .ok (.goto 4, 3) := by decide +kernel
theorem dX7_spot_21 : decode cX7_spot 21 = .ok (.iconst 0, 1) := by decide +kernel
theorem dX7_spot_22 : decode cX7_spot 22 = .ok (.iload 4, 2) := by decide +kernel
theorem dX7_spot_24 : decode cX7_spot 24 = .ok (.invokestatic 423, 3) := by decide +kernel
theorem dX7_spot_27 : decode cX7_spot 27 = .ok (.aload_n 0, 1) := by decide +kernel
theorem dX7_spot_28 : decode cX7_spot 28 = .ok (.getfield 20, 3) := by decide +kernel
theorem dX7_spot_31 : decode cX7_spot 31 = .ok (.iconst 3, 1) := by decide +kernel
theorem dX7_spot_32 : decode cX7_spot 32 = .ok (.iaload, 1) := by decide +kernel
theorem dX7_spot_33 : decode cX7_spot 33 = .ok (.bipush 16, 2) := by decide +kernel
theorem dX7_spot_35 : decode cX7_spot 35 = .ok (.if_icmp .ge 7, 3) := by decide +kernel
theorem dX7_spot_38 : decode cX7_spot 38 = .ok (.iconst 1, 1) := by decide +kernel
theorem dX7_spot_39 : decode cX7_spot 39 = .ok (.goto 4, 3) := by decide +kernel
theorem dX7_spot_42 : decode cX7_spot 42 = .ok (.iconst 0, 1) := by decide +kernel
theorem dX7_spot_43 : decode cX7_spot 43 = .ok (.invokevirtual 409, 3) := by decide +kernel
theorem dX7_spot_46 : decode cX7_spot 46 = .ok (.ifCond .ne 5, 3) := by decide +kernel
theorem dX7_spot_49 : decode cX7_spot 49 = .ok (.iconst 0, 1) := by decide +kernel
theorem dX7_spot_50 : decode cX7_spot 50 = .ok (.ireturn, 1) := by decide +kernel
theorem dX7_spot_51 : decode cX7_spot 51 = .ok (.aload_n 0, 1) := by decide +kernel
theorem dX7_spot_52 : decode cX7_spot 52 = .ok (.invokevirtual 240, 3) := by decide +kernel
theorem dX7_spot_55 : decode cX7_spot 55 = .ok (.aload_n 0, 1) := by decide +kernel
theorem dX7_spot_56 : decode cX7_spot 56 = .ok (.aload_n 0, 1) := by decide +kernel
theorem dX7_spot_57 : decode cX7_spot 57 = .ok (.iload_n 1, 1) := by decide +kernel
theorem dX7_spot_58 : decode cX7_spot 58 = .ok (.invokestatic 71, 3) := by decide +kernel
theorem dX7_spot_61 : decode cX7_spot 61 = .ok (.iload_n 2, 1) := by decide +kernel
theorem dX7_spot_62 : decode cX7_spot 62 = .ok (.iload_n 3, 1) := by decide +kernel
theorem dX7_spot_63 : decode cX7_spot 63 = .ok (.iload 4, 2) := by decide +kernel
theorem dX7_spot_65 : decode cX7_spot 65 = .ok (.invokevirtual 433, 3) := by decide +kernel
theorem dX7_spot_68 : decode cX7_spot 68 = .ok (.invokevirtual 396, 3) := by decide +kernel
theorem dX7_spot_71 : decode cX7_spot 71 = .ok (.ireturn, 1) := by decide +kernel
theorem dX7_commandHere_0 : decode cX7_commandHere 0 = .ok (.aload_n 0, 1) := by decide +kernel
theorem dX7_commandHere_1 : decode cX7_commandHere 1 = .ok (.ldc2_w 436, 3) := by decide +kernel
theorem dX7_commandHere_4 : decode cX7_commandHere 4 = .ok (.invokevirtual 135, 3) := by decide +kernel
theorem dX7_commandHere_7 : decode cX7_commandHere 7 = .ok (.ifCond .eq 5, 3) := by decide +kernel
theorem dX7_commandHere_10 : decode cX7_commandHere 10 = .ok (.iconst 0, 1) := by decide +kernel
theorem dX7_commandHere_11 : decode cX7_commandHere 11 = .ok (.ireturn, 1) := by decide +kernel
theorem dX7_commandHere_12 : decode cX7_commandHere 12 = .ok (.aload_n 0, 1) := by decide +kernel
theorem dX7_commandHere_13 : decode cX7_commandHere 13 = .ok (.ldc2_w 438, 3) := by decide +kernel
theorem dX7_commandHere_16 : decode cX7_commandHere 16 = .ok (.invokevirtual 135, 3) := by decide +kernel
theorem dX7_commandHere_19 : decode cX7_commandHere 19 = .ok (.ifCond .eq 5, 3) := by decide +kernel
theorem dX7_commandHere_22 : decode cX7_commandHere 22 = .ok (.iconst 1, 1) := by decide +kernel
theorem dX7_commandHere_23 : decode cX7_commandHere 23 = .ok (.ireturn, 1) := by decide +kernel
theorem dX7_commandHere_24 : decode cX7_commandHere 24 = .ok (.aload_n 0, 1) := by decide +kernel
theorem dX7_commandHere_25 : decode cX7_commandHere 25 = .ok (.ldc2_w 440, 3) := by decide +kernel
theorem dX7_commandHere_28 : decode cX7_commandHere 28 = .ok (.invokevirtual 135, 3) := by decide +kernel
theorem dX7_commandHere_31 : decode cX7_commandHere 31 = .ok (.ifCond .eq 5, 3) := by decide +kernel
theorem dX7_commandHere_34 : decode cX7_commandHere 34 = .ok (.iconst 2, 1) := by decide +kernel
theorem dX7_commandHere_35 : decode cX7_commandHere 35 = .ok (.ireturn, 1) := by decide +kernel
theorem dX7_commandHere_36 : decode cX7_commandHere 36 = .ok (.aload_n 0, 1) := by decide +kernel
theorem dX7_commandHere_37 : decode cX7_commandHere 37 = .ok (.ldc2_w 442, 3) := by decide +kernel
theorem dX7_commandHere_40 : decode cX7_commandHere 40 = .ok (.invokevirtual 135, 3) := by decide +kernel
theorem dX7_commandHere_43 : decode cX7_commandHere 43 = .ok (.ifCond .eq 5, 3) := by decide +kernel
theorem dX7_commandHere_46 : decode cX7_commandHere 46 = .ok (.iconst 3, 1) := by decide +kernel
theorem dX7_commandHere_47 : decode cX7_commandHere 47 = .ok (.ireturn, 1) := by decide +kernel
theorem dX7_commandHere_48 : decode cX7_commandHere 48 = .ok (.aload_n 0, 1) := by decide +kernel
theorem dX7_commandHere_49 : decode cX7_commandHere 49 = .ok (.ldc2_w 444, 3) := by decide +kernel
theorem dX7_commandHere_52 : decode cX7_commandHere 52 = .ok (.invokevirtual 135, 3) := by decide +kernel
theorem dX7_commandHere_55 : decode cX7_commandHere 55 = .ok (.ifCond .eq 5, 3) := by decide +kernel
theorem dX7_commandHere_58 : decode cX7_commandHere 58 = .ok (.iconst 4, 1) := by decide +kernel
theorem dX7_commandHere_59 : decode cX7_commandHere 59 = .ok (.ireturn, 1) := by decide +kernel
theorem dX7_commandHere_60 : decode cX7_commandHere 60 = .ok (.aload_n 0, 1) := by decide +kernel
theorem dX7_commandHere_61 : decode cX7_commandHere 61 = .ok (.ldc2_w 446, 3) := by decide +kernel
theorem dX7_commandHere_64 : decode cX7_commandHere 64 = .ok (.invokevirtual 135, 3) := by decide +kernel
theorem dX7_commandHere_67 : decode cX7_commandHere 67 = .ok (.ifCond .eq 5, 3) := by decide +kernel
theorem dX7_commandHere_70 : decode cX7_commandHere 70 = .ok (.iconst 5, 1) := by decide +kernel
theorem dX7_commandHere_71 : decode cX7_commandHere 71 = .ok (.ireturn, 1) := by decide +kernel
theorem dX7_commandHere_72 : decode cX7_commandHere 72 = .ok (.aload_n 0, 1) := by decide +kernel
theorem dX7_commandHere_73 : decode cX7_commandHere 73 = .ok (.ldc2_w 448, 3) := by decide +kernel
theorem dX7_commandHere_76 : decode cX7_commandHere 76 = .ok (.invokevirtual 135, 3) := by decide +kernel
theorem dX7_commandHere_79 : decode cX7_commandHere 79 = .ok (.ifCond .eq 6, 3) := by decide +kernel
theorem dX7_commandHere_82 : decode cX7_commandHere 82 = .ok (.bipush 6, 2) := by decide +kernel
theorem dX7_commandHere_84 : decode cX7_commandHere 84 = .ok (.ireturn, 1) := by decide +kernel
theorem dX7_commandHere_85 : decode cX7_commandHere 85 = .ok (.aload_n 0, 1) := by decide +kernel
theorem dX7_commandHere_86 : decode cX7_commandHere 86 = .ok (.ldc2_w 450, 3) := by decide +kernel
theorem dX7_commandHere_89 : decode cX7_commandHere 89 = .ok (.invokevirtual 135, 3) := by decide +kernel
theorem dX7_commandHere_92 : decode cX7_commandHere 92 = .ok (.ifCond .eq 8, 3) := by decide +kernel
theorem dX7_commandHere_95 : decode cX7_commandHere 95 = .ok (.bipush 7, 2) := by decide +kernel
theorem dX7_commandHere_97 : decode cX7_commandHere 97 = .ok (.goto 4, 3) := by decide +kernel
theorem dX7_commandHere_100 : decode cX7_commandHere 100 = .ok (.iconst (-1), 1) := by decide +kernel
theorem dX7_commandHere_101 : decode cX7_commandHere 101 = .ok (.ireturn, 1) := by decide +kernel
theorem dX7_any_0 : decode cX7_any 0 = .ok (.aload_n 0, 1) := by decide +kernel
theorem dX7_any_1 : decode cX7_any 1 = .ok (.iconst 0, 1) := by decide +kernel
theorem dX7_any_2 : decode cX7_any 2 = .ok (.sipush 999, 3) := by decide +kernel
theorem dX7_any_5 : decode cX7_any 5 = .ok (.invokevirtual 190, 3) := by decide +kernel
theorem dX7_any_8 : decode cX7_any 8 = .ok (.ireturn, 1) := by decide +kernel
theorem dX7_readsNumbers_0 : decode cX7_readsNumbers 0 = .ok (.iload_n 2, 1) := by decide +kernel
theorem dX7_readsNumbers_1 : decode cX7_readsNumbers 1 = .ok (.i2l, 1) := by decide +kernel
theorem dX7_readsNumbers_2 : decode cX7_readsNumbers 2 = .ok (.lconst 1, 1) := by decide +kernel
theorem dX7_readsNumbers_3 : decode cX7_readsNumbers 3 = .ok (.ldc2_w 298, 3) := by decide +kernel
theorem dX7_readsNumbers_6 : decode cX7_readsNumbers 6 = .ok (.invokestatic 85, 3) := by decide +kernel
theorem dX7_readsNumbers_9 : decode cX7_readsNumbers 9 = .ok (.ifCond .eq 13, 3) := by decide +kernel
theorem dX7_readsNumbers_12 : decode cX7_readsNumbers 12 = .ok (.aload_n 0, 1) := by decide +kernel
theorem dX7_readsNumbers_13 : decode cX7_readsNumbers 13 = .ok (.getfield 41, 3) := by decide +kernel
theorem dX7_readsNumbers_16 : decode cX7_readsNumbers 16 = .ok (.iload_n 1, 1) := by decide +kernel
theorem dX7_readsNumbers_17 : decode cX7_readsNumbers 17 = .ok (.aload_n 0, 1) := by decide +kernel
theorem dX7_readsNumbers_18 : decode cX7_readsNumbers 18 = .ok (.invokevirtual 452, 3) := by decide +kernel
theorem dX7_readsNumbers_21 : decode cX7_readsNumbers 21 = .ok (.iastore, 1) := by decide +kernel
theorem dX7_readsNumbers_22 : decode cX7_readsNumbers 22 = .ok (.iload_n 2, 1) := by decide +kernel
theorem dX7_readsNumbers_23 : decode cX7_readsNumbers 23 = .ok (.ifCond .eq 18, 3) := by decide +kernel
theorem dX7_readsNumbers_26 : decode cX7_readsNumbers 26 = .ok (.iload_n 2, 1) := by decide +kernel
theorem dX7_readsNumbers_27 : decode cX7_readsNumbers 27 = .ok (.iconst 1, 1) := by decide +kernel
theorem dX7_readsNumbers_28 : decode cX7_readsNumbers 28 = .ok (.if_icmp .eq 13, 3) := by decide +kernel
theorem dX7_readsNumbers_31 : decode cX7_readsNumbers 31 = .ok (.iload_n 2, 1) := by decide +kernel
theorem dX7_readsNumbers_32 : decode cX7_readsNumbers 32 = .ok (.iconst 4, 1) := by decide +kernel
theorem dX7_readsNumbers_33 : decode cX7_readsNumbers 33 = .ok (.if_icmp .eq 8, 3) := by decide +kernel
theorem dX7_readsNumbers_36 : decode cX7_readsNumbers 36 = .ok (.iload_n 2, 1) := by decide +kernel
theorem dX7_readsNumbers_37 : decode cX7_readsNumbers 37 = .ok (.iconst 5, 1) := by decide +kernel
theorem dX7_readsNumbers_38 : decode cX7_readsNumbers 38 = .ok (.if_icmp .ne 13, 3) := by decide +kernel
theorem dX7_readsNumbers_41 : decode cX7_readsNumbers 41 = .ok (.aload_n 0, 1) := by decide +kernel
theorem dX7_readsNumbers_42 : decode cX7_readsNumbers 42 = .ok (.getfield 44, 3) := by decide +kernel
theorem dX7_readsNumbers_45 : decode cX7_readsNumbers 45 = .ok (.iload_n 1, 1) := by decide +kernel
theorem dX7_readsNumbers_46 : decode cX7_readsNumbers 46 = .ok (.aload_n 0, 1) := by decide +kernel
theorem dX7_readsNumbers_47 : decode cX7_readsNumbers 47 = .ok (.invokevirtual 200, 3) := by decide +kernel
theorem dX7_readsNumbers_50 : decode cX7_readsNumbers 50 = .ok (.iastore, 1) := by decide +kernel
theorem dX7_readsNumbers_51 : decode cX7_readsNumbers 51 = .ok (.iload_n 2, 1) := by decide +kernel
theorem dX7_readsNumbers_52 : decode cX7_readsNumbers 52 = .ok (.ifCond .eq 13, 3) := by decide +kernel
theorem dX7_readsNumbers_55 : decode cX7_readsNumbers 55 = .ok (.iload_n 2, 1) := by decide +kernel
theorem dX7_readsNumbers_56 : decode cX7_readsNumbers 56 = .ok (.iconst 1, 1) := by decide +kernel
theorem dX7_readsNumbers_57 : decode cX7_readsNumbers 57 = .ok (.if_icmp .eq 8, 3) := by decide +kernel
theorem dX7_readsNumbers_60 : decode cX7_readsNumbers 60 = .ok (.iload_n 2, 1) := by decide +kernel
theorem dX7_readsNumbers_61 : decode cX7_readsNumbers 61 = .ok (.iconst 5, 1) := by decide +kernel
theorem dX7_readsNumbers_62 : decode cX7_readsNumbers 62 = .ok (.if_icmp .ne 13, 3) := by decide +kernel
theorem dX7_readsNumbers_65 : decode cX7_readsNumbers 65 = .ok (.aload_n 0, 1) := by decide +kernel
theorem dX7_readsNumbers_66 : decode cX7_readsNumbers 66 = .ok (.getfield 47, 3) := by decide +kernel
theorem dX7_readsNumbers_69 : decode cX7_readsNumbers 69 = .ok (.iload_n 1, 1) := by decide +kernel
theorem dX7_readsNumbers_70 : decode cX7_readsNumbers 70 = .ok (.aload_n 0, 1) := by decide +kernel
theorem dX7_readsNumbers_71 : decode cX7_readsNumbers 71 = .ok (.invokevirtual 452, 3) := by decide +kernel
theorem dX7_readsNumbers_74 : decode cX7_readsNumbers 74 = .ok (.iastore, 1) := by decide +kernel
theorem dX7_readsNumbers_75 : decode cX7_readsNumbers 75 = .ok (.iload_n 2, 1) := by decide +kernel
theorem dX7_readsNumbers_76 : decode cX7_readsNumbers 76 = .ok (.iconst 5, 1) := by decide +kernel
theorem dX7_readsNumbers_77 : decode cX7_readsNumbers 77 = .ok (.if_icmp .ne 13, 3) := by decide +kernel
theorem dX7_readsNumbers_80 : decode cX7_readsNumbers 80 = .ok (.aload_n 0, 1) := by decide +kernel
theorem dX7_readsNumbers_81 : decode cX7_readsNumbers 81 = .ok (.getfield 50, 3) := by decide +kernel
theorem dX7_readsNumbers_84 : decode cX7_readsNumbers 84 = .ok (.iload_n 1, 1) := by decide +kernel
theorem dX7_readsNumbers_85 : decode cX7_readsNumbers 85 = .ok (.aload_n 0, 1) := by decide +kernel
theorem dX7_readsNumbers_86 : decode cX7_readsNumbers 86 = .ok (.invokevirtual 452, 3) := by decide +kernel
theorem dX7_readsNumbers_89 : decode cX7_readsNumbers 89 = .ok (.iastore, 1) := by decide +kernel
theorem dX7_readsNumbers_90 : decode cX7_readsNumbers 90 = .ok (.iload_n 2, 1) := by decide +kernel
theorem dX7_readsNumbers_91 : decode cX7_readsNumbers 91 = .ok (.iconst 5, 1) := by decide +kernel
theorem dX7_readsNumbers_92 : decode cX7_readsNumbers 92 = .ok (.if_icmp .ne 13, 3) := by decide +kernel
theorem dX7_readsNumbers_95 : decode cX7_readsNumbers 95 = .ok (.aload_n 0, 1) := by decide +kernel
theorem dX7_readsNumbers_96 : decode cX7_readsNumbers 96 = .ok (.getfield 53, 3) := by decide +kernel
theorem dX7_readsNumbers_99 : decode cX7_readsNumbers 99 = .ok (.iload_n 1, 1) := by decide +kernel
theorem dX7_readsNumbers_100 : decode cX7_readsNumbers 100 = .ok (.aload_n 0, 1) := by decide +kernel
theorem dX7_readsNumbers_101 : decode cX7_readsNumbers 101 = .ok (.invokevirtual 452, 3) := by decide +kernel
theorem dX7_readsNumbers_104 : decode cX7_readsNumbers 104 = .ok (.iastore, 1) := by decide +kernel
theorem dX7_readsNumbers_105 : decode cX7_readsNumbers 105 = .ok (.iload_n 2, 1) := by decide +kernel
theorem dX7_readsNumbers_106 : decode cX7_readsNumbers 106 = .ok (.bipush 7, 2) := by decide +kernel
theorem dX7_readsNumbers_108 : decode cX7_readsNumbers 108 = .ok (.if_icmp .ne 16, 3) := by decide +kernel
theorem dX7_readsNumbers_111 : decode cX7_readsNumbers 111 = .ok (.aload_n 0, 1) := by decide +kernel
theorem dX7_readsNumbers_112 : decode cX7_readsNumbers 112 = .ok (.getfield 41, 3) := by decide +kernel
theorem dX7_readsNumbers_115 : decode cX7_readsNumbers 115 = .ok (.iload_n 1, 1) := by decide +kernel
theorem dX7_readsNumbers_116 : decode cX7_readsNumbers 116 = .ok (.aload_n 0, 1) := by decide +kernel
theorem dX7_readsNumbers_117 : decode cX7_readsNumbers 117 = .ok (.iconst 1, 1) := by decide +kernel
theorem dX7_readsNumbers_118 : decode cX7_readsNumbers 118 = .ok (.bipush 20, 2) := by decide +kernel
theorem dX7_readsNumbers_120 : decode cX7_readsNumbers 120 = .ok (.invokevirtual 190, 3) := by decide +kernel
theorem dX7_readsNumbers_123 : decode cX7_readsNumbers 123 = .ok (.iastore, 1) := by decide +kernel
theorem dX7_readsNumbers_124 : decode cX7_readsNumbers 124 = .ok (.iload_n 2, 1) := by decide +kernel
theorem dX7_readsNumbers_125 : decode cX7_readsNumbers 125 = .ok (.bipush 7, 2) := by decide +kernel
theorem dX7_readsNumbers_127 : decode cX7_readsNumbers 127 = .ok (.if_icmp .ne 9, 3) := by decide +kernel
theorem dX7_readsNumbers_130 : decode cX7_readsNumbers 130 = .ok (.aload_n 0, 1) := by decide +kernel
theorem dX7_readsNumbers_131 : decode cX7_readsNumbers 131 = .ok (.bipush 40, 2) := by decide +kernel
theorem dX7_readsNumbers_133 : decode cX7_readsNumbers 133 = .ok (.invokevirtual 231, 3) := by decide +kernel
theorem dX7_readsNumbers_136 : decode cX7_readsNumbers 136 = .ok (.return_, 1) := by decide +kernel
theorem dX7_command_0 : decode cX7_command 0 = .ok (.aload_n 0, 1) := by decide +kernel
theorem dX7_command_1 : decode cX7_command 1 = .ok (.invokevirtual 455, 3) := by decide +kernel
theorem dX7_command_4 : decode cX7_command 4 = .ok (.istore_n 1, 1) := by decide +kernel
theorem dX7_command_5 : decode cX7_command 5 = .ok (.iload_n 1, 1) := by decide +kernel
theorem dX7_command_6 : decode cX7_command 6 = .ok (.iconst (-1), 1) := by decide +kernel
theorem dX7_command_7 : decode cX7_command 7 = .ok (.if_icmp .ne 8, 3) := by decide +kernel
theorem dX7_command_10 : decode cX7_command 10 = .ok (.aload_n 0, 1) := by decide +kernel
theorem dX7_command_11 : decode cX7_command 11 = .ok (.iconst 1, 1) := by decide +kernel
theorem dX7_command_12 : decode cX7_command 12 = .ok (.invokevirtual 129, 3) := by decide +kernel
theorem dX7_command_15 : decode cX7_command 15 = .ok (.iload_n 1, 1) := by decide +kernel
theorem dX7_command_16 : decode cX7_command 16 = .ok (.bipush 7, 2) := by decide +kernel
theorem dX7_command_18 : decode cX7_command 18 = .ok (.if_icmp .ne 16, 3) := by decide +kernel
theorem dX7_command_21 : decode cX7_command 21 = .ok (.aload_n 0, 1) := by decide +kernel
theorem dX7_command_22 : decode cX7_command 22 = .ok (.getfield 458, 3) := by decide +kernel
theorem dX7_command_25 : decode cX7_command 25 = .ok (.iconst 2, 1) := by decide +kernel
theorem dX7_command_26 : decode cX7_command 26 = .ok (.if_icmp .ne 8, 3) := by decide +kernel
theorem dX7_command_29 : decode cX7_command 29 = .ok (.aload_n 0, 1) := by decide +kernel
theorem dX7_command_30 : decode cX7_command 30 = .ok (.iconst 3, 1) := by decide +kernel
theorem dX7_command_31 : decode cX7_command 31 = .ok (.invokevirtual 129, 3) := by decide +kernel
theorem dX7_command_34 : decode cX7_command 34 = .ok (.aload_n 0, 1) := by decide +kernel
theorem dX7_command_35 : decode cX7_command 35 = .ok (.getfield 461, 3) := by decide +kernel
theorem dX7_command_38 : decode cX7_command 38 = .ok (.bipush 30, 2) := by decide +kernel
theorem dX7_command_40 : decode cX7_command 40 = .ok (.if_icmp .ne 8, 3) := by decide +kernel
theorem dX7_command_43 : decode cX7_command 43 = .ok (.aload_n 0, 1) := by decide +kernel
theorem dX7_command_44 : decode cX7_command 44 = .ok (.iconst 5, 1) := by decide +kernel
theorem dX7_command_45 : decode cX7_command 45 = .ok (.invokevirtual 129, 3) := by decide +kernel
theorem dX7_command_48 : decode cX7_command 48 = .ok (.aload_n 0, 1) := by decide +kernel
theorem dX7_command_49 : decode cX7_command 49 = .ok (.invokevirtual 122, 3) := by decide +kernel
theorem dX7_command_52 : decode cX7_command 52 = .ok (.ifCond .ne 4, 3) := by decide +kernel
theorem dX7_command_55 : decode cX7_command 55 = .ok (.return_, 1) := by decide +kernel
theorem dX7_command_56 : decode cX7_command 56 = .ok (.aload_n 0, 1) := by decide +kernel
theorem dX7_command_57 : decode cX7_command 57 = .ok (.dup, 1) := by decide +kernel
theorem dX7_command_58 : decode cX7_command 58 = .ok (.getfield 461, 3) := by decide +kernel
theorem dX7_command_61 : decode cX7_command 61 = .ok (.iconst 1, 1) := by decide +kernel
theorem dX7_command_62 : decode cX7_command 62 = .ok (.iadd, 1) := by decide +kernel
theorem dX7_command_63 : decode cX7_command 63 = .ok (.putfield 461, 3) := by decide +kernel
theorem dX7_command_66 : decode cX7_command 66 = .ok (.aload_n 0, 1) := by decide +kernel
theorem dX7_command_67 : decode cX7_command 67 = .ok (.invokevirtual 132, 3) := by decide +kernel
theorem dX7_command_70 : decode cX7_command 70 = .ok (.aload_n 0, 1) := by decide +kernel
theorem dX7_command_71 : decode cX7_command 71 = .ok (.getfield 464, 3) := by decide +kernel
theorem dX7_command_74 : decode cX7_command 74 = .ok (.istore_n 2, 1) := by decide +kernel
theorem dX7_command_75 : decode cX7_command 75 = .ok (.aload_n 0, 1) := by decide +kernel
theorem dX7_command_76 : decode cX7_command 76 = .ok (.getfield 38, 3) := by decide +kernel
theorem dX7_command_79 : decode cX7_command 79 = .ok (.iload_n 2, 1) := by decide +kernel
theorem dX7_command_80 : decode cX7_command 80 = .ok (.iload_n 1, 1) := by decide +kernel
theorem dX7_command_81 : decode cX7_command 81 = .ok (.iastore, 1) := by decide +kernel
theorem dX7_command_82 : decode cX7_command 82 = .ok (.aload_n 0, 1) := by decide +kernel
theorem dX7_command_83 : decode cX7_command 83 = .ok (.iload_n 2, 1) := by decide +kernel
theorem dX7_command_84 : decode cX7_command 84 = .ok (.iload_n 1, 1) := by decide +kernel
theorem dX7_command_85 : decode cX7_command 85 = .ok (.invokevirtual 467, 3) := by decide +kernel
theorem dX7_command_88 : decode cX7_command 88 = .ok (.aload_n 0, 1) := by decide +kernel
theorem dX7_command_89 : decode cX7_command 89 = .ok (.invokevirtual 122, 3) := by decide +kernel
theorem dX7_command_92 : decode cX7_command 92 = .ok (.ifCond .ne 4, 3) := by decide +kernel
theorem dX7_command_95 : decode cX7_command 95 = .ok (.return_, 1) := by decide +kernel
theorem dX7_command_96 : decode cX7_command 96 = .ok (.aload_n 0, 1) := by decide +kernel
theorem dX7_command_97 : decode cX7_command 97 = .ok (.dup, 1) := by decide +kernel
theorem dX7_command_98 : decode cX7_command 98 = .ok (.getfield 464, 3) := by decide +kernel
theorem dX7_command_101 : decode cX7_command 101 = .ok (.iconst 1, 1) := by decide +kernel
theorem dX7_command_102 : decode cX7_command 102 = .ok (.iadd, 1) := by decide +kernel
theorem dX7_command_103 : decode cX7_command 103 = .ok (.putfield 464, 3) := by decide +kernel
theorem dX7_command_106 : decode cX7_command 106 = .ok (.aload_n 0, 1) := by decide +kernel
theorem dX7_command_107 : decode cX7_command 107 = .ok (.dup, 1) := by decide +kernel
theorem dX7_command_108 : decode cX7_command 108 = .ok (.getfield 458, 3) := by decide +kernel
theorem dX7_command_111 : decode cX7_command 111 = .ok (.iload_n 1, 1) := by decide +kernel
theorem dX7_command_112 : decode cX7_command 112 = .ok (.bipush 7, 2) := by decide +kernel
theorem dX7_command_114 : decode cX7_command 114 = .ok (.if_icmp .ne 7, 3) := by decide +kernel
theorem dX7_command_117 : decode cX7_command 117 = .ok (.iconst 1, 1) := by decide +kernel
theorem dX7_command_118 : decode cX7_command 118 = .ok (.goto 4, 3) := by decide +kernel
theorem dX7_command_121 : decode cX7_command 121 = .ok (.iconst 0, 1) := by decide +kernel
theorem dX7_command_122 : decode cX7_command 122 = .ok (.invokestatic 71, 3) := by decide +kernel
theorem dX7_command_125 : decode cX7_command 125 = .ok (.iadd, 1) := by decide +kernel
theorem dX7_command_126 : decode cX7_command 126 = .ok (.putfield 458, 3) := by decide +kernel
theorem dX7_command_129 : decode cX7_command 129 = .ok (.return_, 1) := by decide +kernel
theorem dX7_closes_0 : decode cX7_closes 0 = .ok (.aload_n 0, 1) := by decide +kernel
theorem dX7_closes_1 : decode cX7_closes 1 = .ok (.getfield 458, 3) := by decide +kernel
theorem dX7_closes_4 : decode cX7_closes 4 = .ok (.ifCond .le 56, 3) := by decide +kernel
theorem dX7_closes_7 : decode cX7_closes 7 = .ok (.aload_n 0, 1) := by decide +kernel
theorem dX7_closes_8 : decode cX7_closes 8 = .ok (.bipush 41, 2) := by decide +kernel
theorem dX7_closes_10 : decode cX7_closes 10 = .ok (.invokevirtual 126, 3) := by decide +kernel
theorem dX7_closes_13 : decode cX7_closes 13 = .ok (.ifCond .eq 47, 3) := by decide +kernel
theorem dX7_closes_16 : decode cX7_closes 16 = .ok (.aload_n 0, 1) := by decide +kernel
theorem dX7_closes_17 : decode cX7_closes 17 = .ok (.dup, 1) := by decide +kernel
theorem dX7_closes_18 : decode cX7_closes 18 = .ok (.getfield 458, 3) := by decide +kernel
theorem dX7_closes_21 : decode cX7_closes 21 = .ok (.iconst 1, 1) := by decide +kernel
theorem dX7_closes_22 : decode cX7_closes 22 = .ok (.isub, 1) := by decide +kernel
theorem dX7_closes_23 : decode cX7_closes 23 = .ok (.putfield 458, 3) := by decide +kernel
theorem dX7_closes_26 : decode cX7_closes 26 = .ok (.aload_n 0, 1) := by decide +kernel
theorem dX7_closes_27 : decode cX7_closes 27 = .ok (.getfield 38, 3) := by decide +kernel
theorem dX7_closes_30 : decode cX7_closes 30 = .ok (.aload_n 0, 1) := by decide +kernel
theorem dX7_closes_31 : decode cX7_closes 31 = .ok (.getfield 464, 3) := by decide +kernel
theorem dX7_closes_34 : decode cX7_closes 34 = .ok (.bipush 8, 2) := by decide +kernel
theorem dX7_closes_36 : decode cX7_closes 36 = .ok (.iastore, 1) := by decide +kernel
theorem dX7_closes_37 : decode cX7_closes 37 = .ok (.aload_n 0, 1) := by decide +kernel
theorem dX7_closes_38 : decode cX7_closes 38 = .ok (.dup, 1) := by decide +kernel
theorem dX7_closes_39 : decode cX7_closes 39 = .ok (.getfield 464, 3) := by decide +kernel
theorem dX7_closes_42 : decode cX7_closes 42 = .ok (.iconst 1, 1) := by decide +kernel
theorem dX7_closes_43 : decode cX7_closes 43 = .ok (.iadd, 1) := by decide +kernel
theorem dX7_closes_44 : decode cX7_closes 44 = .ok (.putfield 464, 3) := by decide +kernel
theorem dX7_closes_47 : decode cX7_closes 47 = .ok (.aload_n 0, 1) := by decide +kernel
theorem dX7_closes_48 : decode cX7_closes 48 = .ok (.invokevirtual 132, 3) := by decide +kernel
theorem dX7_closes_51 : decode cX7_closes 51 = .ok (.aload_n 0, 1) := by decide +kernel
theorem dX7_closes_52 : decode cX7_closes 52 = .ok (.bipush 59, 2) := by decide +kernel
theorem dX7_closes_54 : decode cX7_closes 54 = .ok (.invokevirtual 231, 3) := by decide +kernel
theorem dX7_closes_57 : decode cX7_closes 57 = .ok (.goto (-57), 3) := by decide +kernel
theorem dX7_closes_60 : decode cX7_closes 60 = .ok (.return_, 1) := by decide +kernel
theorem dX7_sided_0 : decode cX7_sided 0 = .ok (.aload_n 0, 1) := by decide +kernel
theorem dX7_sided_1 : decode cX7_sided 1 = .ok (.getfield 44, 3) := by decide +kernel
theorem dX7_sided_4 : decode cX7_sided 4 = .ok (.iload_n 1, 1) := by decide +kernel
theorem dX7_sided_5 : decode cX7_sided 5 = .ok (.iaload, 1) := by decide +kernel
theorem dX7_sided_6 : decode cX7_sided 6 = .ok (.iconst 1, 1) := by decide +kernel
theorem dX7_sided_7 : decode cX7_sided 7 = .ok (.if_icmp .ne 12, 3) := by decide +kernel
theorem dX7_sided_10 : decode cX7_sided 10 = .ok (.aload_n 0, 1) := by decide +kernel
theorem dX7_sided_11 : decode cX7_sided 11 = .ok (.getfield 47, 3) := by decide +kernel
theorem dX7_sided_14 : decode cX7_sided 14 = .ok (.iload_n 1, 1) := by decide +kernel
theorem dX7_sided_15 : decode cX7_sided 15 = .ok (.iaload, 1) := by decide +kernel
theorem dX7_sided_16 : decode cX7_sided 16 = .ok (.goto 10, 3) := by decide +kernel
theorem dX7_sided_19 : decode cX7_sided 19 = .ok (.aload_n 0, 1) := by decide +kernel
theorem dX7_sided_20 : decode cX7_sided 20 = .ok (.getfield 47, 3) := by decide +kernel
theorem dX7_sided_23 : decode cX7_sided 23 = .ok (.iload_n 1, 1) := by decide +kernel
theorem dX7_sided_24 : decode cX7_sided 24 = .ok (.iaload, 1) := by decide +kernel
theorem dX7_sided_25 : decode cX7_sided 25 = .ok (.ineg, 1) := by decide +kernel
theorem dX7_sided_26 : decode cX7_sided 26 = .ok (.ireturn, 1) := by decide +kernel
theorem dX7_may_0 : decode cX7_may 0 = .ok (.aload_n 0, 1) := by decide +kernel
theorem dX7_may_1 : decode cX7_may 1 = .ok (.getfield 41, 3) := by decide +kernel
theorem dX7_may_4 : decode cX7_may 4 = .ok (.iload_n 1, 1) := by decide +kernel
theorem dX7_may_5 : decode cX7_may 5 = .ok (.iaload, 1) := by decide +kernel
theorem dX7_may_6 : decode cX7_may 6 = .ok (.istore_n 2, 1) := by decide +kernel
theorem dX7_may_7 : decode cX7_may 7 = .ok (.aload_n 0, 1) := by decide +kernel
theorem dX7_may_8 : decode cX7_may 8 = .ok (.getfield 38, 3) := by decide +kernel
theorem dX7_may_11 : decode cX7_may 11 = .ok (.iload_n 1, 1) := by decide +kernel
theorem dX7_may_12 : decode cX7_may 12 = .ok (.iaload, 1) := by decide +kernel
theorem dX7_may_13 : decode cX7_may 13 = .ok (.tableswitch 191 0 5 #[39, 48, 81, 103, 125, 153], 39) := by decide +kernel
theorem dX7_may_52 : decode cX7_may 52 = .ok (.aload_n 0, 1) := by decide +kernel
theorem dX7_may_53 : decode cX7_may 53 = .ok (.iload_n 1, 1) := by decide +kernel
theorem dX7_may_54 : decode cX7_may 54 = .ok (.invokevirtual 471, 3) := by decide +kernel
theorem dX7_may_57 : decode cX7_may 57 = .ok (.invokestatic 393, 3) := by decide +kernel
theorem dX7_may_60 : decode cX7_may 60 = .ok (.ireturn, 1) := by decide +kernel
theorem dX7_may_61 : decode cX7_may 61 = .ok (.aload_n 0, 1) := by decide +kernel
theorem dX7_may_62 : decode cX7_may 62 = .ok (.iload_n 2, 1) := by decide +kernel
theorem dX7_may_63 : decode cX7_may 63 = .ok (.invokevirtual 290, 3) := by decide +kernel
theorem dX7_may_66 : decode cX7_may 66 = .ok (.ifCond .eq 26, 3) := by decide +kernel
theorem dX7_may_69 : decode cX7_may 69 = .ok (.aload_n 0, 1) := by decide +kernel
theorem dX7_may_70 : decode cX7_may 70 = .ok (.iload_n 1, 1) := by decide +kernel
theorem dX7_may_71 : decode cX7_may 71 = .ok (.invokevirtual 471, 3) := by decide +kernel
theorem dX7_may_74 : decode cX7_may 74 = .ok (.invokestatic 403, 3) := by decide +kernel
theorem dX7_may_77 : decode cX7_may 77 = .ok (.ifCond .eq 15, 3) := by decide +kernel
theorem dX7_may_80 : decode cX7_may 80 = .ok (.aload_n 0, 1) := by decide +kernel
theorem dX7_may_81 : decode cX7_may 81 = .ok (.iload_n 2, 1) := by decide +kernel
theorem dX7_may_82 : decode cX7_may 82 = .ok (.invokevirtual 406, 3) := by decide +kernel
theorem dX7_may_85 : decode cX7_may 85 = .ok (.ifCond .eq 7, 3) := by decide +kernel
theorem dX7_may_88 : decode cX7_may 88 = .ok (.iconst 1, 1) := by decide +kernel
theorem dX7_may_89 : decode cX7_may 89 = .ok (.goto 4, 3) := by decide +kernel
theorem dX7_may_92 : decode cX7_may 92 = .ok (.iconst 0, 1) := by decide +kernel
theorem dX7_may_93 : decode cX7_may 93 = .ok (.ireturn, 1) := by decide +kernel
theorem dX7_may_94 : decode cX7_may 94 = .ok (.aload_n 0, 1) := by decide +kernel
theorem dX7_may_95 : decode cX7_may 95 = .ok (.iload_n 2, 1) := by decide +kernel
theorem dX7_may_96 : decode cX7_may 96 = .ok (.invokevirtual 290, 3) := by decide +kernel
theorem dX7_may_99 : decode cX7_may 99 = .ok (.ifCond .eq 15, 3) := by decide +kernel
theorem dX7_may_102 : decode cX7_may 102 = .ok (.aload_n 0, 1) := by decide +kernel
theorem dX7_may_103 : decode cX7_may 103 = .ok (.iload_n 2, 1) := by decide +kernel
theorem dX7_may_104 : decode cX7_may 104 = .ok (.invokevirtual 406, 3) := by decide +kernel
theorem dX7_may_107 : decode cX7_may 107 = .ok (.ifCond .eq 7, 3) := by decide +kernel
theorem dX7_may_110 : decode cX7_may 110 = .ok (.iconst 1, 1) := by decide +kernel
theorem dX7_may_111 : decode cX7_may 111 = .ok (.goto 4, 3) := by decide +kernel
theorem dX7_may_114 : decode cX7_may 114 = .ok (.iconst 0, 1) := by decide +kernel
theorem dX7_may_115 : decode cX7_may 115 = .ok (.ireturn, 1) := by decide +kernel
theorem dX7_may_116 : decode cX7_may 116 = .ok (.aload_n 0, 1) := by decide +kernel
theorem dX7_may_117 : decode cX7_may 117 = .ok (.iload_n 2, 1) := by decide +kernel
theorem dX7_may_118 : decode cX7_may 118 = .ok (.invokevirtual 290, 3) := by decide +kernel
theorem dX7_may_121 : decode cX7_may 121 = .ok (.ifCond .eq 15, 3) := by decide +kernel
theorem dX7_may_124 : decode cX7_may 124 = .ok (.aload_n 0, 1) := by decide +kernel
theorem dX7_may_125 : decode cX7_may 125 = .ok (.iload_n 2, 1) := by decide +kernel
theorem dX7_may_126 : decode cX7_may 126 = .ok (.invokevirtual 406, 3) := by decide +kernel
theorem dX7_may_129 : decode cX7_may 129 = .ok (.ifCond .ne 7, 3) := by decide +kernel
theorem dX7_may_132 : decode cX7_may 132 = .ok (.iconst 1, 1) := by decide +kernel
theorem dX7_may_133 : decode cX7_may 133 = .ok (.goto 4, 3) := by decide +kernel
theorem dX7_may_136 : decode cX7_may 136 = .ok (.iconst 0, 1) := by decide +kernel
theorem dX7_may_137 : decode cX7_may 137 = .ok (.ireturn, 1) := by decide +kernel
theorem dX7_may_138 : decode cX7_may 138 = .ok (.aload_n 0, 1) := by decide +kernel
theorem dX7_may_139 : decode cX7_may 139 = .ok (.iload_n 2, 1) := by decide +kernel
theorem dX7_may_140 : decode cX7_may 140 = .ok (.invokevirtual 290, 3) := by decide +kernel
theorem dX7_may_143 : decode cX7_may 143 = .ok (.ifCond .eq 21, 3) := by decide +kernel
theorem dX7_may_146 : decode cX7_may 146 = .ok (.aload_n 0, 1) := by decide +kernel
theorem dX7_may_147 : decode cX7_may 147 = .ok (.iload_n 2, 1) := by decide +kernel
theorem dX7_may_148 : decode cX7_may 148 = .ok (.aload_n 0, 1) := by decide +kernel
theorem dX7_may_149 : decode cX7_may 149 = .ok (.getfield 44, 3) := by decide +kernel
theorem dX7_may_152 : decode cX7_may 152 = .ok (.iload_n 1, 1) := by decide +kernel
theorem dX7_may_153 : decode cX7_may 153 = .ok (.iaload, 1) := by decide +kernel
theorem dX7_may_154 : decode cX7_may 154 = .ok (.invokevirtual 354, 3) := by decide +kernel
theorem dX7_may_157 : decode cX7_may 157 = .ok (.ifCond .eq 7, 3) := by decide +kernel
theorem dX7_may_160 : decode cX7_may 160 = .ok (.iconst 1, 1) := by decide +kernel
theorem dX7_may_161 : decode cX7_may 161 = .ok (.goto 4, 3) := by decide +kernel
theorem dX7_may_164 : decode cX7_may 164 = .ok (.iconst 0, 1) := by decide +kernel
theorem dX7_may_165 : decode cX7_may 165 = .ok (.ireturn, 1) := by decide +kernel
theorem dX7_may_166 : decode cX7_may 166 = .ok (.aload_n 0, 1) := by decide +kernel
theorem dX7_may_167 : decode cX7_may 167 = .ok (.iload_n 2, 1) := by decide +kernel
theorem dX7_may_168 : decode cX7_may 168 = .ok (.aload_n 0, 1) := by decide +kernel
theorem dX7_may_169 : decode cX7_may 169 = .ok (.getfield 47, 3) := by decide +kernel
theorem dX7_may_172 : decode cX7_may 172 = .ok (.iload_n 1, 1) := by decide +kernel
theorem dX7_may_173 : decode cX7_may 173 = .ok (.iaload, 1) := by decide +kernel
theorem dX7_may_174 : decode cX7_may 174 = .ok (.aload_n 0, 1) := by decide +kernel
theorem dX7_may_175 : decode cX7_may 175 = .ok (.getfield 50, 3) := by decide +kernel
theorem dX7_may_178 : decode cX7_may 178 = .ok (.iload_n 1, 1) := by decide +kernel
theorem dX7_may_179 : decode cX7_may 179 = .ok (.iaload, 1) := by decide +kernel
theorem dX7_may_180 : decode cX7_may 180 = .ok (.invokevirtual 323, 3) := by decide +kernel
theorem dX7_may_183 : decode cX7_may 183 = .ok (.ifCond .eq 19, 3) := by decide +kernel
theorem dX7_may_186 : decode cX7_may 186 = .ok (.aload_n 0, 1) := by decide +kernel
theorem dX7_may_187 : decode cX7_may 187 = .ok (.getfield 53, 3) := by decide +kernel
theorem dX7_may_190 : decode cX7_may 190 = .ok (.iload_n 1, 1) := by decide +kernel
theorem dX7_may_191 : decode cX7_may 191 = .ok (.iaload, 1) := by decide +kernel
theorem dX7_may_192 : decode cX7_may 192 = .ok (.invokestatic 423, 3) := by decide +kernel
theorem dX7_may_195 : decode cX7_may 195 = .ok (.ifCond .eq 7, 3) := by decide +kernel
theorem dX7_may_198 : decode cX7_may 198 = .ok (.iconst 1, 1) := by decide +kernel
theorem dX7_may_199 : decode cX7_may 199 = .ok (.goto 4, 3) := by decide +kernel
theorem dX7_may_202 : decode cX7_may 202 = .ok (.iconst 0, 1) := by decide +kernel
theorem dX7_may_203 : decode cX7_may 203 = .ok (.ireturn, 1) := by decide +kernel
theorem dX7_may_204 : decode cX7_may 204 = .ok (.aload_n 0, 1) := by decide +kernel
theorem dX7_may_205 : decode cX7_may 205 = .ok (.iload_n 2, 1) := by decide +kernel
theorem dX7_may_206 : decode cX7_may 206 = .ok (.invokevirtual 290, 3) := by decide +kernel
theorem dX7_may_209 : decode cX7_may 209 = .ok (.ireturn, 1) := by decide +kernel
theorem dX7_does_0 : decode cX7_does 0 = .ok (.aload_n 0, 1) := by decide +kernel
theorem dX7_does_1 : decode cX7_does 1 = .ok (.getfield 41, 3) := by decide +kernel
theorem dX7_does_4 : decode cX7_does 4 = .ok (.iload_n 1, 1) := by decide +kernel
theorem dX7_does_5 : decode cX7_does 5 = .ok (.iaload, 1) := by decide +kernel
theorem dX7_does_6 : decode cX7_does 6 = .ok (.istore_n 2, 1) := by decide +kernel
theorem dX7_does_7 : decode cX7_does 7 = .ok (.aload_n 0, 1) := by decide +kernel
theorem dX7_does_8 : decode cX7_does 8 = .ok (.getfield 38, 3) := by decide +kernel
theorem dX7_does_11 : decode cX7_does 11 = .ok (.iload_n 1, 1) := by decide +kernel
theorem dX7_does_12 : decode cX7_does 12 = .ok (.iaload, 1) := by decide +kernel
theorem dX7_does_13 : decode cX7_does 13 = .ok (.tableswitch 122 0 5 #[39, 49, 60, 70, 80, 92], 39) := by decide +kernel
theorem dX7_does_52 : decode cX7_does 52 = .ok (.aload_n 0, 1) := by decide +kernel
theorem dX7_does_53 : decode cX7_does 53 = .ok (.aload_n 0, 1) := by decide +kernel
theorem dX7_does_54 : decode cX7_does 54 = .ok (.iload_n 1, 1) := by decide +kernel
theorem dX7_does_55 : decode cX7_does 55 = .ok (.invokevirtual 471, 3) := by decide +kernel
theorem dX7_does_58 : decode cX7_does 58 = .ok (.invokevirtual 371, 3) := by decide +kernel
theorem dX7_does_61 : decode cX7_does 61 = .ok (.ireturn, 1) := by decide +kernel
theorem dX7_does_62 : decode cX7_does 62 = .ok (.aload_n 0, 1) := by decide +kernel
theorem dX7_does_63 : decode cX7_does 63 = .ok (.iload_n 2, 1) := by decide +kernel
theorem dX7_does_64 : decode cX7_does 64 = .ok (.aload_n 0, 1) := by decide +kernel
theorem dX7_does_65 : decode cX7_does 65 = .ok (.iload_n 1, 1) := by decide +kernel
theorem dX7_does_66 : decode cX7_does 66 = .ok (.invokevirtual 471, 3) := by decide +kernel
theorem dX7_does_69 : decode cX7_does 69 = .ok (.invokevirtual 413, 3) := by decide +kernel
theorem dX7_does_72 : decode cX7_does 72 = .ok (.ireturn, 1) := by decide +kernel
theorem dX7_does_73 : decode cX7_does 73 = .ok (.aload_n 0, 1) := by decide +kernel
theorem dX7_does_74 : decode cX7_does 74 = .ok (.iload_n 2, 1) := by decide +kernel
theorem dX7_does_75 : decode cX7_does 75 = .ok (.iconst 1, 1) := by decide +kernel
theorem dX7_does_76 : decode cX7_does 76 = .ok (.invokevirtual 416, 3) := by decide +kernel
theorem dX7_does_79 : decode cX7_does 79 = .ok (.invokestatic 71, 3) := by decide +kernel
theorem dX7_does_82 : decode cX7_does 82 = .ok (.ireturn, 1) := by decide +kernel
theorem dX7_does_83 : decode cX7_does 83 = .ok (.aload_n 0, 1) := by decide +kernel
theorem dX7_does_84 : decode cX7_does 84 = .ok (.iload_n 2, 1) := by decide +kernel
theorem dX7_does_85 : decode cX7_does 85 = .ok (.iconst 0, 1) := by decide +kernel
theorem dX7_does_86 : decode cX7_does 86 = .ok (.invokevirtual 416, 3) := by decide +kernel
theorem dX7_does_89 : decode cX7_does 89 = .ok (.invokestatic 71, 3) := by decide +kernel
theorem dX7_does_92 : decode cX7_does 92 = .ok (.ireturn, 1) := by decide +kernel
theorem dX7_does_93 : decode cX7_does 93 = .ok (.aload_n 0, 1) := by decide +kernel
theorem dX7_does_94 : decode cX7_does 94 = .ok (.iload_n 2, 1) := by decide +kernel
theorem dX7_does_95 : decode cX7_does 95 = .ok (.aload_n 0, 1) := by decide +kernel
theorem dX7_does_96 : decode cX7_does 96 = .ok (.getfield 44, 3) := by decide +kernel
theorem dX7_does_99 : decode cX7_does 99 = .ok (.iload_n 1, 1) := by decide +kernel
theorem dX7_does_100 : decode cX7_does 100 = .ok (.iaload, 1) := by decide +kernel
theorem dX7_does_101 : decode cX7_does 101 = .ok (.invokevirtual 420, 3) := by decide +kernel
theorem dX7_does_104 : decode cX7_does 104 = .ok (.ireturn, 1) := by decide +kernel
theorem dX7_does_105 : decode cX7_does 105 = .ok (.aload_n 0, 1) := by decide +kernel
theorem dX7_does_106 : decode cX7_does 106 = .ok (.iload_n 2, 1) := by decide +kernel
theorem dX7_does_107 : decode cX7_does 107 = .ok (.aload_n 0, 1) := by decide +kernel
theorem dX7_does_108 : decode cX7_does 108 = .ok (.getfield 44, 3) := by decide +kernel
theorem dX7_does_111 : decode cX7_does 111 = .ok (.iload_n 1, 1) := by decide +kernel
theorem dX7_does_112 : decode cX7_does 112 = .ok (.iaload, 1) := by decide +kernel
theorem dX7_does_113 : decode cX7_does 113 = .ok (.aload_n 0, 1) := by decide +kernel
theorem dX7_does_114 : decode cX7_does 114 = .ok (.getfield 47, 3) := by decide +kernel
theorem dX7_does_117 : decode cX7_does 117 = .ok (.iload_n 1, 1) := by decide +kernel
theorem dX7_does_118 : decode cX7_does 118 = .ok (.iaload, 1) := by decide +kernel
theorem dX7_does_119 : decode cX7_does 119 = .ok (.aload_n 0, 1) := by decide +kernel
theorem dX7_does_120 : decode cX7_does 120 = .ok (.getfield 50, 3) := by decide +kernel
theorem dX7_does_123 : decode cX7_does 123 = .ok (.iload_n 1, 1) := by decide +kernel
theorem dX7_does_124 : decode cX7_does 124 = .ok (.iaload, 1) := by decide +kernel
theorem dX7_does_125 : decode cX7_does 125 = .ok (.aload_n 0, 1) := by decide +kernel
theorem dX7_does_126 : decode cX7_does 126 = .ok (.getfield 53, 3) := by decide +kernel
theorem dX7_does_129 : decode cX7_does 129 = .ok (.iload_n 1, 1) := by decide +kernel
theorem dX7_does_130 : decode cX7_does 130 = .ok (.iaload, 1) := by decide +kernel
theorem dX7_does_131 : decode cX7_does 131 = .ok (.invokevirtual 426, 3) := by decide +kernel
theorem dX7_does_134 : decode cX7_does 134 = .ok (.ireturn, 1) := by decide +kernel
theorem dX7_does_135 : decode cX7_does 135 = .ok (.aload_n 0, 1) := by decide +kernel
theorem dX7_does_136 : decode cX7_does 136 = .ok (.iload_n 2, 1) := by decide +kernel
theorem dX7_does_137 : decode cX7_does 137 = .ok (.invokevirtual 430, 3) := by decide +kernel
theorem dX7_does_140 : decode cX7_does 140 = .ok (.ireturn, 1) := by decide +kernel
theorem dX7_runScript_0 : decode cX7_runScript 0 = .ok (.aload_n 0, 1) := by decide +kernel
theorem dX7_runScript_1 : decode cX7_runScript 1 = .ok (.invokevirtual 237, 3) := by decide +kernel
theorem dX7_runScript_4 : decode cX7_runScript 4 = .ok (.aload_n 0, 1) := by decide +kernel
theorem dX7_runScript_5 : decode cX7_runScript 5 = .ok (.iconst 0, 1) := by decide +kernel
theorem dX7_runScript_6 : decode cX7_runScript 6 = .ok (.putfield 464, 3) := by decide +kernel
theorem dX7_runScript_9 : decode cX7_runScript 9 = .ok (.aload_n 0, 1) := by decide +kernel
theorem dX7_runScript_10 : decode cX7_runScript 10 = .ok (.iconst 0, 1) := by decide +kernel
theorem dX7_runScript_11 : decode cX7_runScript 11 = .ok (.putfield 461, 3) := by decide +kernel
theorem dX7_runScript_14 : decode cX7_runScript 14 = .ok (.aload_n 0, 1) := by decide +kernel
theorem dX7_runScript_15 : decode cX7_runScript 15 = .ok (.iconst 0, 1) := by decide +kernel
theorem dX7_runScript_16 : decode cX7_runScript 16 = .ok (.putfield 458, 3) := by decide +kernel
theorem dX7_runScript_19 : decode cX7_runScript 19 = .ok (.aload_n 0, 1) := by decide +kernel
theorem dX7_runScript_20 : decode cX7_runScript 20 = .ok (.invokevirtual 122, 3) := by decide +kernel
theorem dX7_runScript_23 : decode cX7_runScript 23 = .ok (.ifCond .eq 40, 3) := by decide +kernel
theorem dX7_runScript_26 : decode cX7_runScript 26 = .ok (.aload_n 0, 1) := by decide +kernel
theorem dX7_runScript_27 : decode cX7_runScript 27 = .ok (.getfield 109, 3) := by decide +kernel
theorem dX7_runScript_30 : decode cX7_runScript 30 = .ok (.ifCond .eq 33, 3) := by decide +kernel
theorem dX7_runScript_33 : decode cX7_runScript 33 = .ok (.aload_n 0, 1) := by decide +kernel
theorem dX7_runScript_34 : decode cX7_runScript 34 = .ok (.getfield 458, 3) := by decide +kernel
theorem dX7_runScript_37 : decode cX7_runScript 37 = .ok (.istore_n 1, 1) := by decide +kernel
theorem dX7_runScript_38 : decode cX7_runScript 38 = .ok (.aload_n 0, 1) := by decide +kernel
theorem dX7_runScript_39 : decode cX7_runScript 39 = .ok (.invokevirtual 474, 3) := by decide +kernel
theorem dX7_runScript_42 : decode cX7_runScript 42 = .ok (.aload_n 0, 1) := by decide +kernel
theorem dX7_runScript_43 : decode cX7_runScript 43 = .ok (.getfield 458, 3) := by decide +kernel
theorem dX7_runScript_46 : decode cX7_runScript 46 = .ok (.iload_n 1, 1) := by decide +kernel
theorem dX7_runScript_47 : decode cX7_runScript 47 = .ok (.if_icmp .ne 9, 3) := by decide +kernel
theorem dX7_runScript_50 : decode cX7_runScript 50 = .ok (.aload_n 0, 1) := by decide +kernel
theorem dX7_runScript_51 : decode cX7_runScript 51 = .ok (.bipush 59, 2) := by decide +kernel
theorem dX7_runScript_53 : decode cX7_runScript 53 = .ok (.invokevirtual 231, 3) := by decide +kernel
theorem dX7_runScript_56 : decode cX7_runScript 56 = .ok (.aload_n 0, 1) := by decide +kernel
theorem dX7_runScript_57 : decode cX7_runScript 57 = .ok (.invokevirtual 477, 3) := by decide +kernel
theorem dX7_runScript_60 : decode cX7_runScript 60 = .ok (.goto (-41), 3) := by decide +kernel
theorem dX7_runScript_63 : decode cX7_runScript 63 = .ok (.aload_n 0, 1) := by decide +kernel
theorem dX7_runScript_64 : decode cX7_runScript 64 = .ok (.invokevirtual 122, 3) := by decide +kernel
theorem dX7_runScript_67 : decode cX7_runScript 67 = .ok (.ifCond .eq 15, 3) := by decide +kernel
theorem dX7_runScript_70 : decode cX7_runScript 70 = .ok (.aload_n 0, 1) := by decide +kernel
theorem dX7_runScript_71 : decode cX7_runScript 71 = .ok (.getfield 458, 3) := by decide +kernel
theorem dX7_runScript_74 : decode cX7_runScript 74 = .ok (.ifCond .le 8, 3) := by decide +kernel
theorem dX7_runScript_77 : decode cX7_runScript 77 = .ok (.aload_n 0, 1) := by decide +kernel
theorem dX7_runScript_78 : decode cX7_runScript 78 = .ok (.iconst 1, 1) := by decide +kernel
theorem dX7_runScript_79 : decode cX7_runScript 79 = .ok (.invokevirtual 129, 3) := by decide +kernel
theorem dX7_runScript_82 : decode cX7_runScript 82 = .ok (.aload_n 0, 1) := by decide +kernel
theorem dX7_runScript_83 : decode cX7_runScript 83 = .ok (.invokevirtual 246, 3) := by decide +kernel
theorem dX7_runScript_86 : decode cX7_runScript 86 = .ok (.ifCond .ne 5, 3) := by decide +kernel
theorem dX7_runScript_89 : decode cX7_runScript 89 = .ok (.iconst 0, 1) := by decide +kernel
theorem dX7_runScript_90 : decode cX7_runScript 90 = .ok (.ireturn, 1) := by decide +kernel
theorem dX7_runScript_91 : decode cX7_runScript 91 = .ok (.aload_n 0, 1) := by decide +kernel
theorem dX7_runScript_92 : decode cX7_runScript 92 = .ok (.invokevirtual 240, 3) := by decide +kernel
theorem dX7_runScript_95 : decode cX7_runScript 95 = .ok (.aload_n 0, 1) := by decide +kernel
theorem dX7_runScript_96 : decode cX7_runScript 96 = .ok (.invokevirtual 480, 3) := by decide +kernel
theorem dX7_runScript_99 : decode cX7_runScript 99 = .ok (.istore_n 1, 1) := by decide +kernel
theorem dX7_runScript_100 : decode cX7_runScript 100 = .ok (.aload_n 0, 1) := by decide +kernel
theorem dX7_runScript_101 : decode cX7_runScript 101 = .ok (.invokevirtual 153, 3) := by decide +kernel
theorem dX7_runScript_104 : decode cX7_runScript 104 = .ok (.iload_n 1, 1) := by decide +kernel
theorem dX7_runScript_105 : decode cX7_runScript 105 = .ok (.ireturn, 1) := by decide +kernel
theorem dX7_doesAll_0 : decode cX7_doesAll 0 = .ok (.iconst 0, 1) := by decide +kernel
theorem dX7_doesAll_1 : decode cX7_doesAll 1 = .ok (.istore_n 1, 1) := by decide +kernel
theorem dX7_doesAll_2 : decode cX7_doesAll 2 = .ok (.iconst 0, 1) := by decide +kernel
theorem dX7_doesAll_3 : decode cX7_doesAll 3 = .ok (.istore_n 2, 1) := by decide +kernel
theorem dX7_doesAll_4 : decode cX7_doesAll 4 = .ok (.iconst 0, 1) := by decide +kernel
theorem dX7_doesAll_5 : decode cX7_doesAll 5 = .ok (.istore_n 3, 1) := by decide +kernel
theorem dX7_doesAll_6 : decode cX7_doesAll 6 = .ok (.iconst 1, 1) := by decide +kernel
theorem dX7_doesAll_7 : decode cX7_doesAll 7 = .ok (.istore 4, 2) := by decide +kernel
theorem dX7_doesAll_9 : decode cX7_doesAll 9 = .ok (.iload 4, 2) := by decide +kernel
theorem dX7_doesAll_11 : decode cX7_doesAll 11 = .ok (.ifCond .eq 175, 3) := by decide +kernel
theorem dX7_doesAll_14 : decode cX7_doesAll 14 = .ok (.iload_n 3, 1) := by decide +kernel
theorem dX7_doesAll_15 : decode cX7_doesAll 15 = .ok (.aload_n 0, 1) := by decide +kernel
theorem dX7_doesAll_16 : decode cX7_doesAll 16 = .ok (.getfield 464, 3) := by decide +kernel
theorem dX7_doesAll_19 : decode cX7_doesAll 19 = .ok (.if_icmp .ge 167, 3) := by decide +kernel
theorem dX7_doesAll_22 : decode cX7_doesAll 22 = .ok (.iload_n 1, 1) := by decide +kernel
theorem dX7_doesAll_23 : decode cX7_doesAll 23 = .ok (.bipush 40, 2) := by decide +kernel
theorem dX7_doesAll_25 : decode cX7_doesAll 25 = .ok (.if_icmp .ge 161, 3) := by decide +kernel
theorem dX7_doesAll_28 : decode cX7_doesAll 28 = .ok (.aload_n 0, 1) := by decide +kernel
theorem dX7_doesAll_29 : decode cX7_doesAll 29 = .ok (.getfield 38, 3) := by decide +kernel
theorem dX7_doesAll_32 : decode cX7_doesAll 32 = .ok (.iload_n 3, 1) := by decide +kernel
theorem dX7_doesAll_33 : decode cX7_doesAll 33 = .ok (.iaload, 1) := by decide +kernel
theorem dX7_doesAll_34 : decode cX7_doesAll 34 = .ok (.bipush 7, 2) := by decide +kernel
theorem dX7_doesAll_36 : decode cX7_doesAll 36 = .ok (.if_icmp .ne 31, 3) := by decide +kernel
theorem dX7_doesAll_39 : decode cX7_doesAll 39 = .ok (.aload_n 0, 1) := by decide +kernel
theorem dX7_doesAll_40 : decode cX7_doesAll 40 = .ok (.getfield 56, 3) := by decide +kernel
theorem dX7_doesAll_43 : decode cX7_doesAll 43 = .ok (.iload_n 2, 1) := by decide +kernel
theorem dX7_doesAll_44 : decode cX7_doesAll 44 = .ok (.iload_n 3, 1) := by decide +kernel
theorem dX7_doesAll_45 : decode cX7_doesAll 45 = .ok (.iastore, 1) := by decide +kernel
theorem dX7_doesAll_46 : decode cX7_doesAll 46 = .ok (.aload_n 0, 1) := by decide +kernel
theorem dX7_doesAll_47 : decode cX7_doesAll 47 = .ok (.getfield 59, 3) := by decide +kernel
theorem dX7_doesAll_50 : decode cX7_doesAll 50 = .ok (.iload_n 2, 1) := by decide +kernel
theorem dX7_doesAll_51 : decode cX7_doesAll 51 = .ok (.aload_n 0, 1) := by decide +kernel
theorem dX7_doesAll_52 : decode cX7_doesAll 52 = .ok (.getfield 41, 3) := by decide +kernel
theorem dX7_doesAll_55 : decode cX7_doesAll 55 = .ok (.iload_n 3, 1) := by decide +kernel
theorem dX7_doesAll_56 : decode cX7_doesAll 56 = .ok (.iaload, 1) := by decide +kernel
theorem dX7_doesAll_57 : decode cX7_doesAll 57 = .ok (.iastore, 1) := by decide +kernel
theorem dX7_doesAll_58 : decode cX7_doesAll 58 = .ok (.iinc 2 1, 3) := by decide +kernel
theorem dX7_doesAll_61 : decode cX7_doesAll 61 = .ok (.iinc 3 1, 3) := by decide +kernel
theorem dX7_doesAll_64 : decode cX7_doesAll 64 = .ok (.goto (-55), 3) := by decide +kernel
theorem dX7_doesAll_67 : decode cX7_doesAll 67 = .ok (.aload_n 0, 1) := by decide +kernel
theorem dX7_doesAll_68 : decode cX7_doesAll 68 = .ok (.getfield 38, 3) := by decide +kernel
theorem dX7_doesAll_71 : decode cX7_doesAll 71 = .ok (.iload_n 3, 1) := by decide +kernel
theorem dX7_doesAll_72 : decode cX7_doesAll 72 = .ok (.iaload, 1) := by decide +kernel
theorem dX7_doesAll_73 : decode cX7_doesAll 73 = .ok (.bipush 8, 2) := by decide +kernel
theorem dX7_doesAll_75 : decode cX7_doesAll 75 = .ok (.if_icmp .ne 74, 3) := by decide +kernel
theorem dX7_doesAll_78 : decode cX7_doesAll 78 = .ok (.aload_n 0, 1) := by decide +kernel
theorem dX7_doesAll_79 : decode cX7_doesAll 79 = .ok (.getfield 59, 3) := by decide +kernel
theorem dX7_doesAll_82 : decode cX7_doesAll 82 = .ok (.iload_n 2, 1) := by decide +kernel
theorem dX7_doesAll_83 : decode cX7_doesAll 83 = .ok (.iconst 1, 1) := by decide +kernel
theorem dX7_doesAll_84 : decode cX7_doesAll 84 = .ok (.isub, 1) := by decide +kernel
theorem dX7_doesAll_85 : decode cX7_doesAll 85 = .ok (.dup2, 1) := by decide +kernel
theorem dX7_doesAll_86 : decode cX7_doesAll 86 = .ok (.iaload, 1) := by decide +kernel
theorem dX7_doesAll_87 : decode cX7_doesAll 87 = .ok (.iconst 1, 1) := by decide +kernel
theorem dX7_doesAll_88 : decode cX7_doesAll 88 = .ok (.isub, 1) := by decide +kernel
theorem dX7_doesAll_89 : decode cX7_doesAll 89 = .ok (.iastore, 1) := by decide +kernel
theorem dX7_doesAll_90 : decode cX7_doesAll 90 = .ok (.aload_n 0, 1) := by decide +kernel
theorem dX7_doesAll_91 : decode cX7_doesAll 91 = .ok (.getfield 59, 3) := by decide +kernel
theorem dX7_doesAll_94 : decode cX7_doesAll 94 = .ok (.iload_n 2, 1) := by decide +kernel
theorem dX7_doesAll_95 : decode cX7_doesAll 95 = .ok (.iconst 1, 1) := by decide +kernel
theorem dX7_doesAll_96 : decode cX7_doesAll 96 = .ok (.isub, 1) := by decide +kernel
theorem dX7_doesAll_97 : decode cX7_doesAll 97 = .ok (.iaload, 1) := by decide +kernel
theorem dX7_doesAll_98 : decode cX7_doesAll 98 = .ok (.ifCond .le 7, 3) := by decide +kernel
theorem dX7_doesAll_101 : decode cX7_doesAll 101 = .ok (.iconst 1, 1) := by decide +kernel
theorem dX7_doesAll_102 : decode cX7_doesAll 102 = .ok (.goto 4, 3) := by decide +kernel
theorem dX7_doesAll_105 : decode cX7_doesAll 105 = .ok (.iconst 0, 1) := by decide +kernel
theorem dX7_doesAll_106 : decode cX7_doesAll 106 = .ok (.istore 5, 2) := by decide +kernel
theorem dX7_doesAll_108 : decode cX7_doesAll 108 = .ok (.iload 5, 2) := by decide +kernel
theorem dX7_doesAll_110 : decode cX7_doesAll 110 = .ok (.ifCond .eq 16, 3) := by decide +kernel
theorem dX7_doesAll_113 : decode cX7_doesAll 113 = .ok (.aload_n 0, 1) := by decide +kernel
theorem dX7_doesAll_114 : decode cX7_doesAll 114 = .ok (.getfield 56, 3) := by decide +kernel
theorem dX7_doesAll_117 : decode cX7_doesAll 117 = .ok (.iload_n 2, 1) := by decide +kernel
theorem dX7_doesAll_118 : decode cX7_doesAll 118 = .ok (.iconst 1, 1) := by decide +kernel
theorem dX7_doesAll_119 : decode cX7_doesAll 119 = .ok (.isub, 1) := by decide +kernel
theorem dX7_doesAll_120 : decode cX7_doesAll 120 = .ok (.iaload, 1) := by decide +kernel
theorem dX7_doesAll_121 : decode cX7_doesAll 121 = .ok (.iconst 1, 1) := by decide +kernel
theorem dX7_doesAll_122 : decode cX7_doesAll 122 = .ok (.iadd, 1) := by decide +kernel
theorem dX7_doesAll_123 : decode cX7_doesAll 123 = .ok (.goto 6, 3) := by decide +kernel
theorem dX7_doesAll_126 : decode cX7_doesAll 126 = .ok (.iload_n 3, 1) := by decide +kernel
theorem dX7_doesAll_127 : decode cX7_doesAll 127 = .ok (.iconst 1, 1) := by decide +kernel
theorem dX7_doesAll_128 : decode cX7_doesAll 128 = .ok (.iadd, 1) := by decide +kernel
theorem dX7_doesAll_129 : decode cX7_doesAll 129 = .ok (.istore_n 3, 1) := by decide +kernel
theorem dX7_doesAll_130 : decode cX7_doesAll 130 = .ok (.iload_n 2, 1) := by decide +kernel
theorem dX7_doesAll_131 : decode cX7_doesAll 131 = .ok (.iload 5, 2) := by decide +kernel
theorem dX7_doesAll_133 : decode cX7_doesAll 133 = .ok (.ifCond .ne 7, 3) := by decide +kernel
theorem dX7_doesAll_136 : decode cX7_doesAll 136 = .ok (.iconst 1, 1) := by decide +kernel
theorem dX7_doesAll_137 : decode cX7_doesAll 137 = .ok (.goto 4, 3) := by decide +kernel
theorem dX7_doesAll_140 : decode cX7_doesAll 140 = .ok (.iconst 0, 1) := by decide +kernel
theorem dX7_doesAll_141 : decode cX7_doesAll 141 = .ok (.invokestatic 71, 3) := by decide +kernel
theorem dX7_doesAll_144 : decode cX7_doesAll 144 = .ok (.isub, 1) := by decide +kernel
theorem dX7_doesAll_145 : decode cX7_doesAll 145 = .ok (.istore_n 2, 1) := by decide +kernel
theorem dX7_doesAll_146 : decode cX7_doesAll 146 = .ok (.goto (-137), 3) := by decide +kernel
theorem dX7_doesAll_149 : decode cX7_doesAll 149 = .ok (.aload_n 0, 1) := by decide +kernel
theorem dX7_doesAll_150 : decode cX7_doesAll 150 = .ok (.iload_n 3, 1) := by decide +kernel
theorem dX7_doesAll_151 : decode cX7_doesAll 151 = .ok (.invokevirtual 483, 3) := by decide +kernel
theorem dX7_doesAll_154 : decode cX7_doesAll 154 = .ok (.istore 4, 2) := by decide +kernel
theorem dX7_doesAll_156 : decode cX7_doesAll 156 = .ok (.iload 4, 2) := by decide +kernel
theorem dX7_doesAll_158 : decode cX7_doesAll 158 = .ok (.ifCond .eq 11, 3) := by decide +kernel
theorem dX7_doesAll_161 : decode cX7_doesAll 161 = .ok (.aload_n 0, 1) := by decide +kernel
theorem dX7_doesAll_162 : decode cX7_doesAll 162 = .ok (.iload_n 3, 1) := by decide +kernel
theorem dX7_doesAll_163 : decode cX7_doesAll 163 = .ok (.invokevirtual 486, 3) := by decide +kernel
theorem dX7_doesAll_166 : decode cX7_doesAll 166 = .ok (.goto 4, 3) := by decide +kernel
theorem dX7_doesAll_169 : decode cX7_doesAll 169 = .ok (.iconst 0, 1) := by decide +kernel
theorem dX7_doesAll_170 : decode cX7_doesAll 170 = .ok (.istore 5, 2) := by decide +kernel
theorem dX7_doesAll_172 : decode cX7_doesAll 172 = .ok (.iload_n 1, 1) := by decide +kernel
theorem dX7_doesAll_173 : decode cX7_doesAll 173 = .ok (.iload 4, 2) := by decide +kernel
theorem dX7_doesAll_175 : decode cX7_doesAll 175 = .ok (.invokestatic 71, 3) := by decide +kernel
theorem dX7_doesAll_178 : decode cX7_doesAll 178 = .ok (.iadd, 1) := by decide +kernel
theorem dX7_doesAll_179 : decode cX7_doesAll 179 = .ok (.istore_n 1, 1) := by decide +kernel
theorem dX7_doesAll_180 : decode cX7_doesAll 180 = .ok (.iinc 3 1, 3) := by decide +kernel
theorem dX7_doesAll_183 : decode cX7_doesAll 183 = .ok (.goto (-174), 3) := by decide +kernel
theorem dX7_doesAll_186 : decode cX7_doesAll 186 = .ok (.iload_n 1, 1) := by decide +kernel
theorem dX7_doesAll_187 : decode cX7_doesAll 187 = .ok (.ireturn, 1) := by decide +kernel
theorem dX7_tell_0 : decode cX7_tell 0 = .ok (.aload_n 0, 1) := by decide +kernel
theorem dX7_tell_1 : decode cX7_tell 1 = .ok (.getfield 62, 3) := by decide +kernel
theorem dX7_tell_4 : decode cX7_tell 4 = .ok (.aload_n 0, 1) := by decide +kernel
theorem dX7_tell_5 : decode cX7_tell 5 = .ok (.getfield 489, 3) := by decide +kernel
theorem dX7_tell_8 : decode cX7_tell 8 = .ok (.iload_n 1, 1) := by decide +kernel
theorem dX7_tell_9 : decode cX7_tell 9 = .ok (.iastore, 1) := by decide +kernel
theorem dX7_tell_10 : decode cX7_tell 10 = .ok (.aload_n 0, 1) := by decide +kernel
theorem dX7_tell_11 : decode cX7_tell 11 = .ok (.dup, 1) := by decide +kernel
theorem dX7_tell_12 : decode cX7_tell 12 = .ok (.getfield 489, 3) := by decide +kernel
theorem dX7_tell_15 : decode cX7_tell 15 = .ok (.iconst 1, 1) := by decide +kernel
theorem dX7_tell_16 : decode cX7_tell 16 = .ok (.iadd, 1) := by decide +kernel
theorem dX7_tell_17 : decode cX7_tell 17 = .ok (.putfield 489, 3) := by decide +kernel
theorem dX7_tell_20 : decode cX7_tell 20 = .ok (.return_, 1) := by decide +kernel
theorem dX7_report_0 : decode cX7_report 0 = .ok (.aload_n 0, 1) := by decide +kernel
theorem dX7_report_1 : decode cX7_report 1 = .ok (.iload_n 1, 1) := by decide +kernel
theorem dX7_report_2 : decode cX7_report 2 = .ok (.invokestatic 326, 3) := by decide +kernel
theorem dX7_report_5 : decode cX7_report 5 = .ok (.invokevirtual 78, 3) := by decide +kernel
theorem dX7_report_8 : decode cX7_report 8 = .ok (.ifCond .ne 5, 3) := by decide +kernel
theorem dX7_report_11 : decode cX7_report 11 = .ok (.iconst 0, 1) := by decide +kernel
theorem dX7_report_12 : decode cX7_report 12 = .ok (.ireturn, 1) := by decide +kernel
theorem dX7_report_13 : decode cX7_report 13 = .ok (.aload_n 0, 1) := by decide +kernel
theorem dX7_report_14 : decode cX7_report 14 = .ok (.iconst 0, 1) := by decide +kernel
theorem dX7_report_15 : decode cX7_report 15 = .ok (.putfield 489, 3) := by decide +kernel
theorem dX7_report_18 : decode cX7_report 18 = .ok (.aload_n 0, 1) := by decide +kernel
theorem dX7_report_19 : decode cX7_report 19 = .ok (.iconst 1, 1) := by decide +kernel
theorem dX7_report_20 : decode cX7_report 20 = .ok (.putfield 492, 3) := by decide +kernel
theorem dX7_report_23 : decode cX7_report 23 = .ok (.aload_n 0, 1) := by decide +kernel
theorem dX7_report_24 : decode cX7_report 24 = .ok (.invokevirtual 170, 3) := by decide +kernel
theorem dX7_report_27 : decode cX7_report 27 = .ok (.istore_n 2, 1) := by decide +kernel
theorem dX7_report_28 : decode cX7_report 28 = .ok (.iconst 0, 1) := by decide +kernel
theorem dX7_report_29 : decode cX7_report 29 = .ok (.istore_n 3, 1) := by decide +kernel
theorem dX7_report_30 : decode cX7_report 30 = .ok (.iload_n 3, 1) := by decide +kernel
theorem dX7_report_31 : decode cX7_report 31 = .ok (.aload_n 0, 1) := by decide +kernel
theorem dX7_report_32 : decode cX7_report 32 = .ok (.getfield 20, 3) := by decide +kernel
theorem dX7_report_35 : decode cX7_report 35 = .ok (.iconst 0, 1) := by decide +kernel
theorem dX7_report_36 : decode cX7_report 36 = .ok (.iaload, 1) := by decide +kernel
theorem dX7_report_37 : decode cX7_report 37 = .ok (.if_icmp .ge 72, 3) := by decide +kernel
theorem dX7_report_40 : decode cX7_report 40 = .ok (.iconst 0, 1) := by decide +kernel
theorem dX7_report_41 : decode cX7_report 41 = .ok (.istore 4, 2) := by decide +kernel
theorem dX7_report_43 : decode cX7_report 43 = .ok (.iload 4, 2) := by decide +kernel
theorem dX7_report_45 : decode cX7_report 45 = .ok (.iload_n 2, 1) := by decide +kernel
theorem dX7_report_46 : decode cX7_report 46 = .ok (.if_icmp .ge 51, 3) := by decide +kernel
theorem dX7_report_49 : decode cX7_report 49 = .ok (.aload_n 0, 1) := by decide +kernel
theorem dX7_report_50 : decode cX7_report 50 = .ok (.iload_n 1, 1) := by decide +kernel
theorem dX7_report_51 : decode cX7_report 51 = .ok (.iload 4, 2) := by decide +kernel
theorem dX7_report_53 : decode cX7_report 53 = .ok (.iload_n 3, 1) := by decide +kernel
theorem dX7_report_54 : decode cX7_report 54 = .ok (.invokevirtual 332, 3) := by decide +kernel
theorem dX7_report_57 : decode cX7_report 57 = .ok (.istore 5, 2) := by decide +kernel
theorem dX7_report_59 : decode cX7_report 59 = .ok (.aload_n 0, 1) := by decide +kernel
theorem dX7_report_60 : decode cX7_report 60 = .ok (.iload 5, 2) := by decide +kernel
theorem dX7_report_62 : decode cX7_report 62 = .ok (.bipush (-2), 2) := by decide +kernel
theorem dX7_report_64 : decode cX7_report 64 = .ok (.if_icmp .ne 8, 3) := by decide +kernel
theorem dX7_report_67 : decode cX7_report 67 = .ok (.bipush 124, 2) := by decide +kernel
theorem dX7_report_69 : decode cX7_report 69 = .ok (.goto 19, 3) := by decide +kernel
theorem dX7_report_72 : decode cX7_report 72 = .ok (.iload 5, 2) := by decide +kernel
theorem dX7_report_74 : decode cX7_report 74 = .ok (.iconst (-1), 1) := by decide +kernel
theorem dX7_report_75 : decode cX7_report 75 = .ok (.if_icmp .ne 8, 3) := by decide +kernel
theorem dX7_report_78 : decode cX7_report 78 = .ok (.bipush 46, 2) := by decide +kernel
theorem dX7_report_80 : decode cX7_report 80 = .ok (.goto 8, 3) := by decide +kernel
theorem dX7_report_83 : decode cX7_report 83 = .ok (.bipush 48, 2) := by decide +kernel
theorem dX7_report_85 : decode cX7_report 85 = .ok (.iload 5, 2) := by decide +kernel
theorem dX7_report_87 : decode cX7_report 87 = .ok (.iadd, 1) := by decide +kernel
theorem dX7_report_88 : decode cX7_report 88 = .ok (.invokevirtual 495, 3) := by decide +kernel
theorem dX7_report_91 : decode cX7_report 91 = .ok (.iinc 4 1, 3) := by decide +kernel
theorem dX7_report_94 : decode cX7_report 94 = .ok (.goto (-51), 3) := by decide +kernel
theorem dX7_report_97 : decode cX7_report 97 = .ok (.aload_n 0, 1) := by decide +kernel
theorem dX7_report_98 : decode cX7_report 98 = .ok (.bipush 10, 2) := by decide +kernel
theorem dX7_report_100 : decode cX7_report 100 = .ok (.invokevirtual 495, 3) := by decide +kernel
theorem dX7_report_103 : decode cX7_report 103 = .ok (.iinc 3 1, 3) := by decide +kernel
theorem dX7_report_106 : decode cX7_report 106 = .ok (.goto (-76), 3) := by decide +kernel
theorem dX7_report_109 : decode cX7_report 109 = .ok (.aload_n 0, 1) := by decide +kernel
theorem dX7_report_110 : decode cX7_report 110 = .ok (.getfield 489, 3) := by decide +kernel
theorem dX7_report_113 : decode cX7_report 113 = .ok (.ireturn, 1) := by decide +kernel
theorem dX7_reportByte_0 : decode cX7_reportByte 0 = .ok (.aload_n 0, 1) := by decide +kernel
theorem dX7_reportByte_1 : decode cX7_reportByte 1 = .ok (.aload_n 0, 1) := by decide +kernel
theorem dX7_reportByte_2 : decode cX7_reportByte 2 = .ok (.getfield 492, 3) := by decide +kernel
theorem dX7_reportByte_5 : decode cX7_reportByte 5 = .ok (.ifCond .eq 23, 3) := by decide +kernel
theorem dX7_reportByte_8 : decode cX7_reportByte 8 = .ok (.iload_n 1, 1) := by decide +kernel
theorem dX7_reportByte_9 : decode cX7_reportByte 9 = .ok (.i2l, 1) := by decide +kernel
theorem dX7_reportByte_10 : decode cX7_reportByte 10 = .ok (.lconst 0, 1) := by decide +kernel
theorem dX7_reportByte_11 : decode cX7_reportByte 11 = .ok (.aload_n 0, 1) := by decide +kernel
theorem dX7_reportByte_12 : decode cX7_reportByte 12 = .ok (.getfield 489, 3) := by decide +kernel
theorem dX7_reportByte_15 : decode cX7_reportByte 15 = .ok (.iconst 1, 1) := by decide +kernel
theorem dX7_reportByte_16 : decode cX7_reportByte 16 = .ok (.isub, 1) := by decide +kernel
theorem dX7_reportByte_17 : decode cX7_reportByte 17 = .ok (.i2l, 1) := by decide +kernel
theorem dX7_reportByte_18 : decode cX7_reportByte 18 = .ok (.invokestatic 85, 3) := by decide +kernel
theorem dX7_reportByte_21 : decode cX7_reportByte 21 = .ok (.ifCond .eq 7, 3) := by decide +kernel
theorem dX7_reportByte_24 : decode cX7_reportByte 24 = .ok (.iconst 1, 1) := by decide +kernel
theorem dX7_reportByte_25 : decode cX7_reportByte 25 = .ok (.goto 4, 3) := by decide +kernel
theorem dX7_reportByte_28 : decode cX7_reportByte 28 = .ok (.iconst 0, 1) := by decide +kernel
theorem dX7_reportByte_29 : decode cX7_reportByte 29 = .ok (.invokevirtual 78, 3) := by decide +kernel
theorem dX7_reportByte_32 : decode cX7_reportByte 32 = .ok (.ifCond .eq 12, 3) := by decide +kernel
theorem dX7_reportByte_35 : decode cX7_reportByte 35 = .ok (.aload_n 0, 1) := by decide +kernel
theorem dX7_reportByte_36 : decode cX7_reportByte 36 = .ok (.getfield 62, 3) := by decide +kernel
theorem dX7_reportByte_39 : decode cX7_reportByte 39 = .ok (.iload_n 1, 1) := by decide +kernel
theorem dX7_reportByte_40 : decode cX7_reportByte 40 = .ok (.iaload, 1) := by decide +kernel
theorem dX7_reportByte_41 : decode cX7_reportByte 41 = .ok (.goto 4, 3) := by decide +kernel
theorem dX7_reportByte_44 : decode cX7_reportByte 44 = .ok (.iconst 0, 1) := by decide +kernel
theorem dX7_reportByte_45 : decode cX7_reportByte 45 = .ok (.ireturn, 1) := by decide +kernel
