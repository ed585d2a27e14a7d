theorem dL_feed_0 : decode cL_feed 0 = .ok (.aload 6, 2) := by decide +kernel
theorem dL_feed_2 : decode cL_feed 2 = .ok (.iconst 0, 1) := by decide +kernel
theorem dL_feed_3 : decode cL_feed 3 = .ok (.aload_n 0, 1) := by decide +kernel
theorem dL_feed_4 : decode cL_feed 4 = .ok (.iload_n 1, 1) := by decide +kernel
theorem dL_feed_5 : decode cL_feed 5 = .ok (.iload_n 2, 1) := by decide +kernel
theorem dL_feed_6 : decode cL_feed 6 = .ok (.iload_n 3, 1) := by decide +kernel
theorem dL_feed_7 : decode cL_feed 7 = .ok (.iload 4, 2) := by decide +kernel
theorem dL_feed_9 : decode cL_feed 9 = .ok (.iload 5, 2) := by decide +kernel
theorem dL_feed_11 : decode cL_feed 11 = .ok (.invokevirtual 7, 3) := by decide +kernel
theorem dL_feed_14 : decode cL_feed 14 = .ok (.i2l, 1) := by decide +kernel
theorem dL_feed_15 : decode cL_feed 15 = .ok (.lastore, 1) := by decide +kernel
theorem dL_feed_16 : decode cL_feed 16 = .ok (.goto 7, 3) := by decide +kernel
theorem dL_feed_19 : decode cL_feed 19 = .ok (.astore 7, 2) := by decide +kernel
theorem dL_feed_21 : decode cL_feed 21 = .ok (.iconst 1, 1) := by decide +kernel
theorem dL_feed_22 : decode cL_feed 22 = .ok (.ireturn, 1) := by decide +kernel
theorem dL_feed_23 : decode cL_feed 23 = .ok (.iconst 0, 1) := by decide +kernel
theorem dL_feed_24 : decode cL_feed 24 = .ok (.ireturn, 1) := by decide +kernel
theorem dL_truncate_0 : decode cL_truncate 0 = .ok (.aload_n 2, 1) := by decide +kernel
theorem dL_truncate_1 : decode cL_truncate 1 = .ok (.iconst 0, 1) := by decide +kernel
theorem dL_truncate_2 : decode cL_truncate 2 = .ok (.aload_n 0, 1) := by decide +kernel
theorem dL_truncate_3 : decode cL_truncate 3 = .ok (.iload_n 1, 1) := by decide +kernel
theorem dL_truncate_4 : decode cL_truncate 4 = .ok (.invokevirtual 15, 3) := by decide +kernel
theorem dL_truncate_7 : decode cL_truncate 7 = .ok (.i2l, 1) := by decide +kernel
theorem dL_truncate_8 : decode cL_truncate 8 = .ok (.lastore, 1) := by decide +kernel
theorem dL_truncate_9 : decode cL_truncate 9 = .ok (.goto 6, 3) := by decide +kernel
theorem dL_truncate_12 : decode cL_truncate 12 = .ok (.astore_n 3, 1) := by decide +kernel
theorem dL_truncate_13 : decode cL_truncate 13 = .ok (.iconst 1, 1) := by decide +kernel
theorem dL_truncate_14 : decode cL_truncate 14 = .ok (.ireturn, 1) := by decide +kernel
theorem dL_truncate_15 : decode cL_truncate 15 = .ok (.iconst 0, 1) := by decide +kernel
theorem dL_truncate_16 : decode cL_truncate 16 = .ok (.ireturn, 1) := by decide +kernel
theorem dL_readText_0 : decode cL_readText 0 = .ok (.aload_n 1, 1) := by decide +kernel
theorem dL_readText_1 : decode cL_readText 1 = .ok (.iconst 0, 1) := by decide +kernel
theorem dL_readText_2 : decode cL_readText 2 = .ok (.aload_n 0, 1) := by decide +kernel
theorem dL_readText_3 : decode cL_readText 3 = .ok (.invokevirtual 21, 3) := by decide +kernel
theorem dL_readText_6 : decode cL_readText 6 = .ok (.i2l, 1) := by decide +kernel
theorem dL_readText_7 : decode cL_readText 7 = .ok (.lastore, 1) := by decide +kernel
theorem dL_readText_8 : decode cL_readText 8 = .ok (.goto 6, 3) := by decide +kernel
theorem dL_readText_11 : decode cL_readText 11 = .ok (.astore_n 2, 1) := by decide +kernel
theorem dL_readText_12 : decode cL_readText 12 = .ok (.iconst 1, 1) := by decide +kernel
theorem dL_readText_13 : decode cL_readText 13 = .ok (.ireturn, 1) := by decide +kernel
theorem dL_readText_14 : decode cL_readText 14 = .ok (.iconst 0, 1) := by decide +kernel
theorem dL_readText_15 : decode cL_readText 15 = .ok (.ireturn, 1) := by decide +kernel
theorem dL_runScript_0 : decode cL_runScript 0 = .ok (.aload_n 1, 1) := by decide +kernel
theorem dL_runScript_1 : decode cL_runScript 1 = .ok (.iconst 0, 1) := by decide +kernel
theorem dL_runScript_2 : decode cL_runScript 2 = .ok (.aload_n 0, 1) := by decide +kernel
theorem dL_runScript_3 : decode cL_runScript 3 = .ok (.invokevirtual 25, 3) := by decide +kernel
theorem dL_runScript_6 : decode cL_runScript 6 = .ok (.i2l, 1) := by decide +kernel
theorem dL_runScript_7 : decode cL_runScript 7 = .ok (.lastore, 1) := by decide +kernel
theorem dL_runScript_8 : decode cL_runScript 8 = .ok (.goto 6, 3) := by decide +kernel
theorem dL_runScript_11 : decode cL_runScript 11 = .ok (.astore_n 2, 1) := by decide +kernel
theorem dL_runScript_12 : decode cL_runScript 12 = .ok (.iconst 1, 1) := by decide +kernel
theorem dL_runScript_13 : decode cL_runScript 13 = .ok (.ireturn, 1) := by decide +kernel
theorem dL_runScript_14 : decode cL_runScript 14 = .ok (.iconst 0, 1) := by decide +kernel
theorem dL_runScript_15 : decode cL_runScript 15 = .ok (.ireturn, 1) := by decide +kernel
theorem dL_setting_0 : decode cL_setting 0 = .ok (.aload_n 2, 1) := by decide +kernel
theorem dL_setting_1 : decode cL_setting 1 = .ok (.iconst 0, 1) := by decide +kernel
theorem dL_setting_2 : decode cL_setting 2 = .ok (.aload_n 0, 1) := by decide +kernel
theorem dL_setting_3 : decode cL_setting 3 = .ok (.iload_n 1, 1) := by decide +kernel
theorem dL_setting_4 : decode cL_setting 4 = .ok (.invokevirtual 28, 3) := by decide +kernel
theorem dL_setting_7 : decode cL_setting 7 = .ok (.i2l, 1) := by decide +kernel
theorem dL_setting_8 : decode cL_setting 8 = .ok (.lastore, 1) := by decide +kernel
theorem dL_setting_9 : decode cL_setting 9 = .ok (.goto 6, 3) := by decide +kernel
theorem dL_setting_12 : decode cL_setting 12 = .ok (.astore_n 3, 1) := by decide +kernel
theorem dL_setting_13 : decode cL_setting 13 = .ok (.iconst 1, 1) := by decide +kernel
theorem dL_setting_14 : decode cL_setting 14 = .ok (.ireturn, 1) := by decide +kernel
theorem dL_setting_15 : decode cL_setting 15 = .ok (.iconst 0, 1) := by decide +kernel
theorem dL_setting_16 : decode cL_setting 16 = .ok (.ireturn, 1) := by decide +kernel
theorem dL_slat_0 : decode cL_slat 0 = .ok (.aload_n 3, 1) := by decide +kernel
theorem dL_slat_1 : decode cL_slat 1 = .ok (.iconst 0, 1) := by decide +kernel
theorem dL_slat_2 : decode cL_slat 2 = .ok (.aload_n 0, 1) := by decide +kernel
theorem dL_slat_3 : decode cL_slat 3 = .ok (.iload_n 1, 1) := by decide +kernel
theorem dL_slat_4 : decode cL_slat 4 = .ok (.iload_n 2, 1) := by decide +kernel
theorem dL_slat_5 : decode cL_slat 5 = .ok (.invokevirtual 31, 3) := by decide +kernel
theorem dL_slat_8 : decode cL_slat 8 = .ok (.i2l, 1) := by decide +kernel
theorem dL_slat_9 : decode cL_slat 9 = .ok (.lastore, 1) := by decide +kernel
theorem dL_slat_10 : decode cL_slat 10 = .ok (.goto 11, 3) := by decide +kernel
theorem dL_slat_13 : decode cL_slat 13 = .ok (.astore 4, 2) := by decide +kernel
theorem dL_slat_15 : decode cL_slat 15 = .ok (.iconst 1, 1) := by decide +kernel
theorem dL_slat_16 : decode cL_slat 16 = .ok (.ireturn, 1) := by decide +kernel
theorem dL_slat_17 : decode cL_slat 17 = .ok (.astore 4, 2) := by decide +kernel
theorem dL_slat_19 : decode cL_slat 19 = .ok (.iconst 2, 1) := by decide +kernel
theorem dL_slat_20 : decode cL_slat 20 = .ok (.ireturn, 1) := by decide +kernel
theorem dL_slat_21 : decode cL_slat 21 = .ok (.iconst 0, 1) := by decide +kernel
theorem dL_slat_22 : decode cL_slat 22 = .ok (.ireturn, 1) := by decide +kernel
theorem dL_slatAt_0 : decode cL_slatAt 0 = .ok (.aload_n 2, 1) := by decide +kernel
theorem dL_slatAt_1 : decode cL_slatAt 1 = .ok (.iconst 0, 1) := by decide +kernel
theorem dL_slatAt_2 : decode cL_slatAt 2 = .ok (.aload_n 0, 1) := by decide +kernel
theorem dL_slatAt_3 : decode cL_slatAt 3 = .ok (.iload_n 1, 1) := by decide +kernel
theorem dL_slatAt_4 : decode cL_slatAt 4 = .ok (.invokevirtual 37, 3) := by decide +kernel
theorem dL_slatAt_7 : decode cL_slatAt 7 = .ok (.i2l, 1) := by decide +kernel
theorem dL_slatAt_8 : decode cL_slatAt 8 = .ok (.lastore, 1) := by decide +kernel
theorem dL_slatAt_9 : decode cL_slatAt 9 = .ok (.goto 6, 3) := by decide +kernel
theorem dL_slatAt_12 : decode cL_slatAt 12 = .ok (.astore_n 3, 1) := by decide +kernel
theorem dL_slatAt_13 : decode cL_slatAt 13 = .ok (.iconst 1, 1) := by decide +kernel
theorem dL_slatAt_14 : decode cL_slatAt 14 = .ok (.ireturn, 1) := by decide +kernel
theorem dL_slatAt_15 : decode cL_slatAt 15 = .ok (.iconst 0, 1) := by decide +kernel
theorem dL_slatAt_16 : decode cL_slatAt 16 = .ok (.ireturn, 1) := by decide +kernel
theorem dL_picture_0 : decode cL_picture 0 = .ok (.aload 4, 2) := by decide +kernel
theorem dL_picture_2 : decode cL_picture 2 = .ok (.iconst 0, 1) := by decide +kernel
theorem dL_picture_3 : decode cL_picture 3 = .ok (.aload_n 0, 1) := by decide +kernel
theorem dL_picture_4 : decode cL_picture 4 = .ok (.iload_n 1, 1) := by decide +kernel
theorem dL_picture_5 : decode cL_picture 5 = .ok (.iload_n 2, 1) := by decide +kernel
theorem dL_picture_6 : decode cL_picture 6 = .ok (.iload_n 3, 1) := by decide +kernel
theorem dL_picture_7 : decode cL_picture 7 = .ok (.invokevirtual 40, 3) := by decide +kernel
theorem dL_picture_10 : decode cL_picture 10 = .ok (.i2l, 1) := by decide +kernel
theorem dL_picture_11 : decode cL_picture 11 = .ok (.lastore, 1) := by decide +kernel
theorem dL_picture_12 : decode cL_picture 12 = .ok (.goto 7, 3) := by decide +kernel
theorem dL_picture_15 : decode cL_picture 15 = .ok (.astore 5, 2) := by decide +kernel
theorem dL_picture_17 : decode cL_picture 17 = .ok (.iconst 1, 1) := by decide +kernel
theorem dL_picture_18 : decode cL_picture 18 = .ok (.ireturn, 1) := by decide +kernel
theorem dL_picture_19 : decode cL_picture 19 = .ok (.iconst 0, 1) := by decide +kernel
theorem dL_picture_20 : decode cL_picture 20 = .ok (.ireturn, 1) := by decide +kernel
theorem dL_face_0 : decode cL_face 0 = .ok (.aload 5, 2) := by decide +kernel
theorem dL_face_2 : decode cL_face 2 = .ok (.iconst 0, 1) := by decide +kernel
theorem dL_face_3 : decode cL_face 3 = .ok (.aload_n 0, 1) := by decide +kernel
theorem dL_face_4 : decode cL_face 4 = .ok (.iload_n 1, 1) := by decide +kernel
theorem dL_face_5 : decode cL_face 5 = .ok (.iload_n 2, 1) := by decide +kernel
theorem dL_face_6 : decode cL_face 6 = .ok (.iload_n 3, 1) := by decide +kernel
theorem dL_face_7 : decode cL_face 7 = .ok (.iload 4, 2) := by decide +kernel
theorem dL_face_9 : decode cL_face 9 = .ok (.invokevirtual 44, 3) := by decide +kernel
theorem dL_face_12 : decode cL_face 12 = .ok (.i2l, 1) := by decide +kernel
theorem dL_face_13 : decode cL_face 13 = .ok (.lastore, 1) := by decide +kernel
theorem dL_face_14 : decode cL_face 14 = .ok (.goto 7, 3) := by decide +kernel
theorem dL_face_17 : decode cL_face 17 = .ok (.astore 6, 2) := by decide +kernel
theorem dL_face_19 : decode cL_face 19 = .ok (.iconst 1, 1) := by decide +kernel
theorem dL_face_20 : decode cL_face 20 = .ok (.ireturn, 1) := by decide +kernel
theorem dL_face_21 : decode cL_face 21 = .ok (.iconst 0, 1) := by decide +kernel
theorem dL_face_22 : decode cL_face 22 = .ok (.ireturn, 1) := by decide +kernel
theorem dL_seen_0 : decode cL_seen 0 = .ok (.aload 4, 2) := by decide +kernel
theorem dL_seen_2 : decode cL_seen 2 = .ok (.iconst 0, 1) := by decide +kernel
theorem dL_seen_3 : decode cL_seen 3 = .ok (.aload_n 0, 1) := by decide +kernel
theorem dL_seen_4 : decode cL_seen 4 = .ok (.iload_n 1, 1) := by decide +kernel
theorem dL_seen_5 : decode cL_seen 5 = .ok (.iload_n 2, 1) := by decide +kernel
theorem dL_seen_6 : decode cL_seen 6 = .ok (.iload_n 3, 1) := by decide +kernel
theorem dL_seen_7 : decode cL_seen 7 = .ok (.invokevirtual 48, 3) := by decide +kernel
theorem dL_seen_10 : decode cL_seen 10 = .ok (.i2l, 1) := by decide +kernel
theorem dL_seen_11 : decode cL_seen 11 = .ok (.lastore, 1) := by decide +kernel
theorem dL_seen_12 : decode cL_seen 12 = .ok (.goto 11, 3) := by decide +kernel
theorem dL_seen_15 : decode cL_seen 15 = .ok (.astore 5, 2) := by decide +kernel
theorem dL_seen_17 : decode cL_seen 17 = .ok (.iconst 1, 1) := by decide +kernel
theorem dL_seen_18 : decode cL_seen 18 = .ok (.ireturn, 1) := by decide +kernel
theorem dL_seen_19 : decode cL_seen 19 = .ok (.astore 5, 2) := by decide +kernel
theorem dL_seen_21 : decode cL_seen 21 = .ok (.iconst 2, 1) := by decide +kernel
theorem dL_seen_22 : decode cL_seen 22 = .ok (.ireturn, 1) := by decide +kernel
theorem dL_seen_23 : decode cL_seen 23 = .ok (.iconst 0, 1) := by decide +kernel
theorem dL_seen_24 : decode cL_seen 24 = .ok (.ireturn, 1) := by decide +kernel
theorem dL_why_0 : decode cL_why 0 = .ok (.aload 5, 2) := by decide +kernel
theorem dL_why_2 : decode cL_why 2 = .ok (.iconst 0, 1) := by decide +kernel
theorem dL_why_3 : decode cL_why 3 = .ok (.aload_n 0, 1) := by decide +kernel
theorem dL_why_4 : decode cL_why 4 = .ok (.iload_n 1, 1) := by decide +kernel
theorem dL_why_5 : decode cL_why 5 = .ok (.iload_n 2, 1) := by decide +kernel
theorem dL_why_6 : decode cL_why 6 = .ok (.iload_n 3, 1) := by decide +kernel
theorem dL_why_7 : decode cL_why 7 = .ok (.iload 4, 2) := by decide +kernel
theorem dL_why_9 : decode cL_why 9 = .ok (.invokevirtual 52, 3) := by decide +kernel
theorem dL_why_12 : decode cL_why 12 = .ok (.i2l, 1) := by decide +kernel
theorem dL_why_13 : decode cL_why 13 = .ok (.lastore, 1) := by decide +kernel
theorem dL_why_14 : decode cL_why 14 = .ok (.goto 11, 3) := by decide +kernel
theorem dL_why_17 : decode cL_why 17 = .ok (.astore 6, 2) := by decide +kernel
theorem dL_why_19 : decode cL_why 19 = .ok (.iconst 1, 1) := by decide +kernel
theorem dL_why_20 : decode cL_why 20 = .ok (.ireturn, 1) := by decide +kernel
theorem dL_why_21 : decode cL_why 21 = .ok (.astore 6, 2) := by decide +kernel
theorem dL_why_23 : decode cL_why 23 = .ok (.iconst 2, 1) := by decide +kernel
theorem dL_why_24 : decode cL_why 24 = .ok (.ireturn, 1) := by decide +kernel
theorem dL_why_25 : decode cL_why 25 = .ok (.iconst 0, 1) := by decide +kernel
theorem dL_why_26 : decode cL_why 26 = .ok (.ireturn, 1) := by decide +kernel
theorem dL_right_0 : decode cL_right 0 = .ok (.aload_n 3, 1) := by decide +kernel
theorem dL_right_1 : decode cL_right 1 = .ok (.iconst 0, 1) := by decide +kernel
theorem dL_right_2 : decode cL_right 2 = .ok (.aload_n 0, 1) := by decide +kernel
theorem dL_right_3 : decode cL_right 3 = .ok (.iload_n 1, 1) := by decide +kernel
theorem dL_right_4 : decode cL_right 4 = .ok (.iload_n 2, 1) := by decide +kernel
theorem dL_right_5 : decode cL_right 5 = .ok (.invokevirtual 55, 3) := by decide +kernel
theorem dL_right_8 : decode cL_right 8 = .ok (.i2l, 1) := by decide +kernel
theorem dL_right_9 : decode cL_right 9 = .ok (.lastore, 1) := by decide +kernel
theorem dL_right_10 : decode cL_right 10 = .ok (.goto 7, 3) := by decide +kernel
theorem dL_right_13 : decode cL_right 13 = .ok (.astore 4, 2) := by decide +kernel
theorem dL_right_15 : decode cL_right 15 = .ok (.iconst 1, 1) := by decide +kernel
theorem dL_right_16 : decode cL_right 16 = .ok (.ireturn, 1) := by decide +kernel
theorem dL_right_17 : decode cL_right 17 = .ok (.iconst 0, 1) := by decide +kernel
theorem dL_right_18 : decode cL_right 18 = .ok (.ireturn, 1) := by decide +kernel
theorem dL_open_0 : decode cL_open 0 = .ok (.aload_n 2, 1) := by decide +kernel
theorem dL_open_1 : decode cL_open 1 = .ok (.iconst 0, 1) := by decide +kernel
theorem dL_open_2 : decode cL_open 2 = .ok (.aload_n 0, 1) := by decide +kernel
theorem dL_open_3 : decode cL_open 3 = .ok (.iload_n 1, 1) := by decide +kernel
theorem dL_open_4 : decode cL_open 4 = .ok (.invokevirtual 59, 3) := by decide +kernel
theorem dL_open_7 : decode cL_open 7 = .ok (.i2l, 1) := by decide +kernel
theorem dL_open_8 : decode cL_open 8 = .ok (.lastore, 1) := by decide +kernel
theorem dL_open_9 : decode cL_open 9 = .ok (.goto 6, 3) := by decide +kernel
theorem dL_open_12 : decode cL_open 12 = .ok (.astore_n 3, 1) := by decide +kernel
theorem dL_open_13 : decode cL_open 13 = .ok (.iconst 1, 1) := by decide +kernel
theorem dL_open_14 : decode cL_open 14 = .ok (.ireturn, 1) := by decide +kernel
theorem dL_open_15 : decode cL_open 15 = .ok (.iconst 0, 1) := by decide +kernel
theorem dL_open_16 : decode cL_open 16 = .ok (.ireturn, 1) := by decide +kernel
theorem dL_covered_0 : decode cL_covered 0 = .ok (.aload_n 2, 1) := by decide +kernel
theorem dL_covered_1 : decode cL_covered 1 = .ok (.iconst 0, 1) := by decide +kernel
theorem dL_covered_2 : decode cL_covered 2 = .ok (.aload_n 0, 1) := by decide +kernel
theorem dL_covered_3 : decode cL_covered 3 = .ok (.iload_n 1, 1) := by decide +kernel
theorem dL_covered_4 : decode cL_covered 4 = .ok (.invokevirtual 62, 3) := by decide +kernel
theorem dL_covered_7 : decode cL_covered 7 = .ok (.i2l, 1) := by decide +kernel
theorem dL_covered_8 : decode cL_covered 8 = .ok (.lastore, 1) := by decide +kernel
theorem dL_covered_9 : decode cL_covered 9 = .ok (.goto 6, 3) := by decide +kernel
theorem dL_covered_12 : decode cL_covered 12 = .ok (.astore_n 3, 1) := by decide +kernel
theorem dL_covered_13 : decode cL_covered 13 = .ok (.iconst 1, 1) := by decide +kernel
theorem dL_covered_14 : decode cL_covered 14 = .ok (.ireturn, 1) := by decide +kernel
theorem dL_covered_15 : decode cL_covered 15 = .ok (.iconst 0, 1) := by decide +kernel
theorem dL_covered_16 : decode cL_covered 16 = .ok (.ireturn, 1) := by decide +kernel
theorem dL_whole_0 : decode cL_whole 0 = .ok (.aload_n 2, 1) := by decide +kernel
theorem dL_whole_1 : decode cL_whole 1 = .ok (.iconst 0, 1) := by decide +kernel
theorem dL_whole_2 : decode cL_whole 2 = .ok (.aload_n 0, 1) := by decide +kernel
theorem dL_whole_3 : decode cL_whole 3 = .ok (.iload_n 1, 1) := by decide +kernel
theorem dL_whole_4 : decode cL_whole 4 = .ok (.invokevirtual 65, 3) := by decide +kernel
theorem dL_whole_7 : decode cL_whole 7 = .ok (.i2l, 1) := by decide +kernel
theorem dL_whole_8 : decode cL_whole 8 = .ok (.lastore, 1) := by decide +kernel
theorem dL_whole_9 : decode cL_whole 9 = .ok (.goto 6, 3) := by decide +kernel
theorem dL_whole_12 : decode cL_whole 12 = .ok (.astore_n 3, 1) := by decide +kernel
theorem dL_whole_13 : decode cL_whole 13 = .ok (.iconst 1, 1) := by decide +kernel
theorem dL_whole_14 : decode cL_whole 14 = .ok (.ireturn, 1) := by decide +kernel
theorem dL_whole_15 : decode cL_whole 15 = .ok (.iconst 0, 1) := by decide +kernel
theorem dL_whole_16 : decode cL_whole 16 = .ok (.ireturn, 1) := by decide +kernel
theorem dL_firstWrong_0 : decode cL_firstWrong 0 = .ok (.aload_n 3, 1) := by decide +kernel
theorem dL_firstWrong_1 : decode cL_firstWrong 1 = .ok (.iconst 0, 1) := by decide +kernel
theorem dL_firstWrong_2 : decode cL_firstWrong 2 = .ok (.aload_n 0, 1) := by decide +kernel
theorem dL_firstWrong_3 : decode cL_firstWrong 3 = .ok (.iload_n 1, 1) := by decide +kernel
theorem dL_firstWrong_4 : decode cL_firstWrong 4 = .ok (.iload_n 2, 1) := by decide +kernel
theorem dL_firstWrong_5 : decode cL_firstWrong 5 = .ok (.invokevirtual 68, 3) := by decide +kernel
theorem dL_firstWrong_8 : decode cL_firstWrong 8 = .ok (.i2l, 1) := by decide +kernel
theorem dL_firstWrong_9 : decode cL_firstWrong 9 = .ok (.lastore, 1) := by decide +kernel
theorem dL_firstWrong_10 : decode cL_firstWrong 10 = .ok (.goto 7, 3) := by decide +kernel
theorem dL_firstWrong_13 : decode cL_firstWrong 13 = .ok (.astore 4, 2) := by decide +kernel
theorem dL_firstWrong_15 : decode cL_firstWrong 15 = .ok (.iconst 1, 1) := by decide +kernel
theorem dL_firstWrong_16 : decode cL_firstWrong 16 = .ok (.ireturn, 1) := by decide +kernel
theorem dL_firstWrong_17 : decode cL_firstWrong 17 = .ok (.iconst 0, 1) := by decide +kernel
theorem dL_firstWrong_18 : decode cL_firstWrong 18 = .ok (.ireturn, 1) := by decide +kernel
theorem dL_shownFrom_0 : decode cL_shownFrom 0 = .ok (.aload_n 2, 1) := by decide +kernel
theorem dL_shownFrom_1 : decode cL_shownFrom 1 = .ok (.iconst 0, 1) := by decide +kernel
theorem dL_shownFrom_2 : decode cL_shownFrom 2 = .ok (.aload_n 0, 1) := by decide +kernel
theorem dL_shownFrom_3 : decode cL_shownFrom 3 = .ok (.iload_n 1, 1) := by decide +kernel
theorem dL_shownFrom_4 : decode cL_shownFrom 4 = .ok (.invokevirtual 71, 3) := by decide +kernel
theorem dL_shownFrom_7 : decode cL_shownFrom 7 = .ok (.i2l, 1) := by decide +kernel
theorem dL_shownFrom_8 : decode cL_shownFrom 8 = .ok (.lastore, 1) := by decide +kernel
theorem dL_shownFrom_9 : decode cL_shownFrom 9 = .ok (.goto 6, 3) := by decide +kernel
theorem dL_shownFrom_12 : decode cL_shownFrom 12 = .ok (.astore_n 3, 1) := by decide +kernel
theorem dL_shownFrom_13 : decode cL_shownFrom 13 = .ok (.iconst 1, 1) := by decide +kernel
theorem dL_shownFrom_14 : decode cL_shownFrom 14 = .ok (.ireturn, 1) := by decide +kernel
theorem dL_shownFrom_15 : decode cL_shownFrom 15 = .ok (.iconst 0, 1) := by decide +kernel
theorem dL_shownFrom_16 : decode cL_shownFrom 16 = .ok (.ireturn, 1) := by decide +kernel
theorem dL_seam_0 : decode cL_seam 0 = .ok (.aload_n 2, 1) := by decide +kernel
theorem dL_seam_1 : decode cL_seam 1 = .ok (.iconst 0, 1) := by decide +kernel
theorem dL_seam_2 : decode cL_seam 2 = .ok (.aload_n 0, 1) := by decide +kernel
theorem dL_seam_3 : decode cL_seam 3 = .ok (.iload_n 1, 1) := by decide +kernel
theorem dL_seam_4 : decode cL_seam 4 = .ok (.invokevirtual 74, 3) := by decide +kernel
theorem dL_seam_7 : decode cL_seam 7 = .ok (.i2l, 1) := by decide +kernel
theorem dL_seam_8 : decode cL_seam 8 = .ok (.lastore, 1) := by decide +kernel
theorem dL_seam_9 : decode cL_seam 9 = .ok (.goto 6, 3) := by decide +kernel
theorem dL_seam_12 : decode cL_seam 12 = .ok (.astore_n 3, 1) := by decide +kernel
theorem dL_seam_13 : decode cL_seam 13 = .ok (.iconst 1, 1) := by decide +kernel
theorem dL_seam_14 : decode cL_seam 14 = .ok (.ireturn, 1) := by decide +kernel
theorem dL_seam_15 : decode cL_seam 15 = .ok (.iconst 0, 1) := by decide +kernel
theorem dL_seam_16 : decode cL_seam 16 = .ok (.ireturn, 1) := by decide +kernel
theorem dL_run_0 : decode cL_run 0 = .ok (.aload_n 2, 1) := by decide +kernel
theorem dL_run_1 : decode cL_run 1 = .ok (.iconst 0, 1) := by decide +kernel
theorem dL_run_2 : decode cL_run 2 = .ok (.aload_n 0, 1) := by decide +kernel
theorem dL_run_3 : decode cL_run 3 = .ok (.iload_n 1, 1) := by decide +kernel
theorem dL_run_4 : decode cL_run 4 = .ok (.invokevirtual 77, 3) := by decide +kernel
theorem dL_run_7 : decode cL_run 7 = .ok (.i2l, 1) := by decide +kernel
theorem dL_run_8 : decode cL_run 8 = .ok (.lastore, 1) := by decide +kernel
theorem dL_run_9 : decode cL_run 9 = .ok (.goto 6, 3) := by decide +kernel
theorem dL_run_12 : decode cL_run 12 = .ok (.astore_n 3, 1) := by decide +kernel
theorem dL_run_13 : decode cL_run 13 = .ok (.iconst 1, 1) := by decide +kernel
theorem dL_run_14 : decode cL_run 14 = .ok (.ireturn, 1) := by decide +kernel
theorem dL_run_15 : decode cL_run 15 = .ok (.iconst 0, 1) := by decide +kernel
theorem dL_run_16 : decode cL_run 16 = .ok (.ireturn, 1) := by decide +kernel
theorem dL_worstSlat_0 : decode cL_worstSlat 0 = .ok (.aload_n 3, 1) := by decide +kernel
theorem dL_worstSlat_1 : decode cL_worstSlat 1 = .ok (.iconst 0, 1) := by decide +kernel
theorem dL_worstSlat_2 : decode cL_worstSlat 2 = .ok (.aload_n 0, 1) := by decide +kernel
theorem dL_worstSlat_3 : decode cL_worstSlat 3 = .ok (.iload_n 1, 1) := by decide +kernel
theorem dL_worstSlat_4 : decode cL_worstSlat 4 = .ok (.iload_n 2, 1) := by decide +kernel
theorem dL_worstSlat_5 : decode cL_worstSlat 5 = .ok (.invokevirtual 80, 3) := by decide +kernel
theorem dL_worstSlat_8 : decode cL_worstSlat 8 = .ok (.i2l, 1) := by decide +kernel
theorem dL_worstSlat_9 : decode cL_worstSlat 9 = .ok (.lastore, 1) := by decide +kernel
theorem dL_worstSlat_10 : decode cL_worstSlat 10 = .ok (.goto 7, 3) := by decide +kernel
theorem dL_worstSlat_13 : decode cL_worstSlat 13 = .ok (.astore 4, 2) := by decide +kernel
theorem dL_worstSlat_15 : decode cL_worstSlat 15 = .ok (.iconst 1, 1) := by decide +kernel
theorem dL_worstSlat_16 : decode cL_worstSlat 16 = .ok (.ireturn, 1) := by decide +kernel
theorem dL_worstSlat_17 : decode cL_worstSlat 17 = .ok (.iconst 0, 1) := by decide +kernel
theorem dL_worstSlat_18 : decode cL_worstSlat 18 = .ok (.ireturn, 1) := by decide +kernel
theorem dL_ghosts_0 : decode cL_ghosts 0 = .ok (.aload_n 3, 1) := by decide +kernel
theorem dL_ghosts_1 : decode cL_ghosts 1 = .ok (.iconst 0, 1) := by decide +kernel
theorem dL_ghosts_2 : decode cL_ghosts 2 = .ok (.aload_n 0, 1) := by decide +kernel
theorem dL_ghosts_3 : decode cL_ghosts 3 = .ok (.iload_n 1, 1) := by decide +kernel
theorem dL_ghosts_4 : decode cL_ghosts 4 = .ok (.iload_n 2, 1) := by decide +kernel
theorem dL_ghosts_5 : decode cL_ghosts 5 = .ok (.invokevirtual 83, 3) := by decide +kernel
theorem dL_ghosts_8 : decode cL_ghosts 8 = .ok (.i2l, 1) := by decide +kernel
theorem dL_ghosts_9 : decode cL_ghosts 9 = .ok (.lastore, 1) := by decide +kernel
theorem dL_ghosts_10 : decode cL_ghosts 10 = .ok (.goto 7, 3) := by decide +kernel
theorem dL_ghosts_13 : decode cL_ghosts 13 = .ok (.astore 4, 2) := by decide +kernel
theorem dL_ghosts_15 : decode cL_ghosts 15 = .ok (.iconst 1, 1) := by decide +kernel
theorem dL_ghosts_16 : decode cL_ghosts 16 = .ok (.ireturn, 1) := by decide +kernel
theorem dL_ghosts_17 : decode cL_ghosts 17 = .ok (.iconst 0, 1) := by decide +kernel
theorem dL_ghosts_18 : decode cL_ghosts 18 = .ok (.ireturn, 1) := by decide +kernel
theorem dL_light_0 : decode cL_light 0 = .ok (.aload_n 2, 1) := by decide +kernel
theorem dL_light_1 : decode cL_light 1 = .ok (.iconst 0, 1) := by decide +kernel
theorem dL_light_2 : decode cL_light 2 = .ok (.aload_n 0, 1) := by decide +kernel
theorem dL_light_3 : decode cL_light 3 = .ok (.iload_n 1, 1) := by decide +kernel
theorem dL_light_4 : decode cL_light 4 = .ok (.invokevirtual 86, 3) := by decide +kernel
theorem dL_light_7 : decode cL_light 7 = .ok (.f2d, 1) := by decide +kernel
theorem dL_light_8 : decode cL_light 8 = .ok (.dastore, 1) := by decide +kernel
theorem dL_light_9 : decode cL_light 9 = .ok (.goto 6, 3) := by decide +kernel
theorem dL_light_12 : decode cL_light 12 = .ok (.astore_n 3, 1) := by decide +kernel
theorem dL_light_13 : decode cL_light 13 = .ok (.iconst 1, 1) := by decide +kernel
theorem dL_light_14 : decode cL_light 14 = .ok (.ireturn, 1) := by decide +kernel
theorem dL_light_15 : decode cL_light 15 = .ok (.iconst 0, 1) := by decide +kernel
theorem dL_light_16 : decode cL_light 16 = .ok (.ireturn, 1) := by decide +kernel
theorem dL_bestTurn_0 : decode cL_bestTurn 0 = .ok (.aload 4, 2) := by decide +kernel
theorem dL_bestTurn_2 : decode cL_bestTurn 2 = .ok (.iconst 0, 1) := by decide +kernel
theorem dL_bestTurn_3 : decode cL_bestTurn 3 = .ok (.aload_n 0, 1) := by decide +kernel
theorem dL_bestTurn_4 : decode cL_bestTurn 4 = .ok (.iload_n 1, 1) := by decide +kernel
theorem dL_bestTurn_5 : decode cL_bestTurn 5 = .ok (.iload_n 2, 1) := by decide +kernel
theorem dL_bestTurn_6 : decode cL_bestTurn 6 = .ok (.iload_n 3, 1) := by decide +kernel
theorem dL_bestTurn_7 : decode cL_bestTurn 7 = .ok (.invokevirtual 90, 3) := by decide +kernel
theorem dL_bestTurn_10 : decode cL_bestTurn 10 = .ok (.i2l, 1) := by decide +kernel
theorem dL_bestTurn_11 : decode cL_bestTurn 11 = .ok (.lastore, 1) := by decide +kernel
theorem dL_bestTurn_12 : decode cL_bestTurn 12 = .ok (.goto 11, 3) := by decide +kernel
theorem dL_bestTurn_15 : decode cL_bestTurn 15 = .ok (.astore 5, 2) := by decide +kernel
theorem dL_bestTurn_17 : decode cL_bestTurn 17 = .ok (.iconst 1, 1) := by decide +kernel
theorem dL_bestTurn_18 : decode cL_bestTurn 18 = .ok (.ireturn, 1) := by decide +kernel
theorem dL_bestTurn_19 : decode cL_bestTurn 19 = .ok (.astore 5, 2) := by decide +kernel
theorem dL_bestTurn_21 : decode cL_bestTurn 21 = .ok (.iconst 2, 1) := by decide +kernel
theorem dL_bestTurn_22 : decode cL_bestTurn 22 = .ok (.ireturn, 1) := by decide +kernel
theorem dL_bestTurn_23 : decode cL_bestTurn 23 = .ok (.iconst 0, 1) := by decide +kernel
theorem dL_bestTurn_24 : decode cL_bestTurn 24 = .ok (.ireturn, 1) := by decide +kernel
theorem dL_bestPull_0 : decode cL_bestPull 0 = .ok (.aload_n 3, 1) := by decide +kernel
theorem dL_bestPull_1 : decode cL_bestPull 1 = .ok (.iconst 0, 1) := by decide +kernel
theorem dL_bestPull_2 : decode cL_bestPull 2 = .ok (.aload_n 0, 1) := by decide +kernel
theorem dL_bestPull_3 : decode cL_bestPull 3 = .ok (.iload_n 1, 1) := by decide +kernel
theorem dL_bestPull_4 : decode cL_bestPull 4 = .ok (.iload_n 2, 1) := by decide +kernel
theorem dL_bestPull_5 : decode cL_bestPull 5 = .ok (.invokevirtual 94, 3) := by decide +kernel
theorem dL_bestPull_8 : decode cL_bestPull 8 = .ok (.i2l, 1) := by decide +kernel
theorem dL_bestPull_9 : decode cL_bestPull 9 = .ok (.lastore, 1) := by decide +kernel
theorem dL_bestPull_10 : decode cL_bestPull 10 = .ok (.goto 7, 3) := by decide +kernel
theorem dL_bestPull_13 : decode cL_bestPull 13 = .ok (.astore 4, 2) := by decide +kernel
theorem dL_bestPull_15 : decode cL_bestPull 15 = .ok (.iconst 1, 1) := by decide +kernel
theorem dL_bestPull_16 : decode cL_bestPull 16 = .ok (.ireturn, 1) := by decide +kernel
theorem dL_bestPull_17 : decode cL_bestPull 17 = .ok (.iconst 0, 1) := by decide +kernel
theorem dL_bestPull_18 : decode cL_bestPull 18 = .ok (.ireturn, 1) := by decide +kernel
theorem dL_dabs_0 : decode cL_dabs 0 = .ok (.aload_n 3, 1) := by decide +kernel
theorem dL_dabs_1 : decode cL_dabs 1 = .ok (.iconst 0, 1) := by decide +kernel
theorem dL_dabs_2 : decode cL_dabs 2 = .ok (.aload_n 0, 1) := by decide +kernel
theorem dL_dabs_3 : decode cL_dabs 3 = .ok (.iload_n 1, 1) := by decide +kernel
theorem dL_dabs_4 : decode cL_dabs 4 = .ok (.iload_n 2, 1) := by decide +kernel
theorem dL_dabs_5 : decode cL_dabs 5 = .ok (.invokevirtual 97, 3) := by decide +kernel
theorem dL_dabs_8 : decode cL_dabs 8 = .ok (.i2l, 1) := by decide +kernel
theorem dL_dabs_9 : decode cL_dabs 9 = .ok (.lastore, 1) := by decide +kernel
theorem dL_dabs_10 : decode cL_dabs 10 = .ok (.goto 7, 3) := by decide +kernel
theorem dL_dabs_13 : decode cL_dabs 13 = .ok (.astore 4, 2) := by decide +kernel
theorem dL_dabs_15 : decode cL_dabs 15 = .ok (.iconst 1, 1) := by decide +kernel
theorem dL_dabs_16 : decode cL_dabs 16 = .ok (.ireturn, 1) := by decide +kernel
theorem dL_dabs_17 : decode cL_dabs 17 = .ok (.iconst 0, 1) := by decide +kernel
theorem dL_dabs_18 : decode cL_dabs 18 = .ok (.ireturn, 1) := by decide +kernel
theorem dL_turnsNeeded_0 : decode cL_turnsNeeded 0 = .ok (.aload_n 3, 1) := by decide +kernel
theorem dL_turnsNeeded_1 : decode cL_turnsNeeded 1 = .ok (.iconst 0, 1) := by decide +kernel
theorem dL_turnsNeeded_2 : decode cL_turnsNeeded 2 = .ok (.aload_n 0, 1) := by decide +kernel
theorem dL_turnsNeeded_3 : decode cL_turnsNeeded 3 = .ok (.iload_n 1, 1) := by decide +kernel
theorem dL_turnsNeeded_4 : decode cL_turnsNeeded 4 = .ok (.iload_n 2, 1) := by decide +kernel
theorem dL_turnsNeeded_5 : decode cL_turnsNeeded 5 = .ok (.invokevirtual 100, 3) := by decide +kernel
theorem dL_turnsNeeded_8 : decode cL_turnsNeeded 8 = .ok (.i2l, 1) := by decide +kernel
theorem dL_turnsNeeded_9 : decode cL_turnsNeeded 9 = .ok (.lastore, 1) := by decide +kernel
theorem dL_turnsNeeded_10 : decode cL_turnsNeeded 10 = .ok (.goto 7, 3) := by decide +kernel
theorem dL_turnsNeeded_13 : decode cL_turnsNeeded 13 = .ok (.astore 4, 2) := by decide +kernel
theorem dL_turnsNeeded_15 : decode cL_turnsNeeded 15 = .ok (.iconst 1, 1) := by decide +kernel
theorem dL_turnsNeeded_16 : decode cL_turnsNeeded 16 = .ok (.ireturn, 1) := by decide +kernel
theorem dL_turnsNeeded_17 : decode cL_turnsNeeded 17 = .ok (.iconst 0, 1) := by decide +kernel
theorem dL_turnsNeeded_18 : decode cL_turnsNeeded 18 = .ok (.ireturn, 1) := by decide +kernel
theorem dL_fairest_0 : decode cL_fairest 0 = .ok (.aload_n 2, 1) := by decide +kernel
theorem dL_fairest_1 : decode cL_fairest 1 = .ok (.iconst 0, 1) := by decide +kernel
theorem dL_fairest_2 : decode cL_fairest 2 = .ok (.aload_n 0, 1) := by decide +kernel
theorem dL_fairest_3 : decode cL_fairest 3 = .ok (.iload_n 1, 1) := by decide +kernel
theorem dL_fairest_4 : decode cL_fairest 4 = .ok (.invokevirtual 103, 3) := by decide +kernel
theorem dL_fairest_7 : decode cL_fairest 7 = .ok (.i2l, 1) := by decide +kernel
theorem dL_fairest_8 : decode cL_fairest 8 = .ok (.lastore, 1) := by decide +kernel
theorem dL_fairest_9 : decode cL_fairest 9 = .ok (.goto 6, 3) := by decide +kernel
theorem dL_fairest_12 : decode cL_fairest 12 = .ok (.astore_n 3, 1) := by decide +kernel
theorem dL_fairest_13 : decode cL_fairest 13 = .ok (.iconst 1, 1) := by decide +kernel
theorem dL_fairest_14 : decode cL_fairest 14 = .ok (.ireturn, 1) := by decide +kernel
theorem dL_fairest_15 : decode cL_fairest 15 = .ok (.iconst 0, 1) := by decide +kernel
theorem dL_fairest_16 : decode cL_fairest 16 = .ok (.ireturn, 1) := by decide +kernel
theorem dL_pull_0 : decode cL_pull 0 = .ok (.aload_n 2, 1) := by decide +kernel
theorem dL_pull_1 : decode cL_pull 1 = .ok (.iconst 0, 1) := by decide +kernel
theorem dL_pull_2 : decode cL_pull 2 = .ok (.aload_n 0, 1) := by decide +kernel
theorem dL_pull_3 : decode cL_pull 3 = .ok (.iload_n 1, 1) := by decide +kernel
theorem dL_pull_4 : decode cL_pull 4 = .ok (.invokevirtual 106, 3) := by decide +kernel
theorem dL_pull_7 : decode cL_pull 7 = .ok (.i2l, 1) := by decide +kernel
theorem dL_pull_8 : decode cL_pull 8 = .ok (.lastore, 1) := by decide +kernel
theorem dL_pull_9 : decode cL_pull 9 = .ok (.goto 6, 3) := by decide +kernel
theorem dL_pull_12 : decode cL_pull 12 = .ok (.astore_n 3, 1) := by decide +kernel
theorem dL_pull_13 : decode cL_pull 13 = .ok (.iconst 1, 1) := by decide +kernel
theorem dL_pull_14 : decode cL_pull 14 = .ok (.ireturn, 1) := by decide +kernel
theorem dL_pull_15 : decode cL_pull 15 = .ok (.iconst 0, 1) := by decide +kernel
theorem dL_pull_16 : decode cL_pull 16 = .ok (.ireturn, 1) := by decide +kernel
theorem dL_turn_0 : decode cL_turn 0 = .ok (.aload_n 3, 1) := by decide +kernel
theorem dL_turn_1 : decode cL_turn 1 = .ok (.iconst 0, 1) := by decide +kernel
theorem dL_turn_2 : decode cL_turn 2 = .ok (.aload_n 0, 1) := by decide +kernel
theorem dL_turn_3 : decode cL_turn 3 = .ok (.iload_n 1, 1) := by decide +kernel
theorem dL_turn_4 : decode cL_turn 4 = .ok (.iload_n 2, 1) := by decide +kernel
theorem dL_turn_5 : decode cL_turn 5 = .ok (.invokevirtual 109, 3) := by decide +kernel
theorem dL_turn_8 : decode cL_turn 8 = .ok (.i2l, 1) := by decide +kernel
theorem dL_turn_9 : decode cL_turn 9 = .ok (.lastore, 1) := by decide +kernel
theorem dL_turn_10 : decode cL_turn 10 = .ok (.goto 15, 3) := by decide +kernel
theorem dL_turn_13 : decode cL_turn 13 = .ok (.astore 4, 2) := by decide +kernel
theorem dL_turn_15 : decode cL_turn 15 = .ok (.iconst 1, 1) := by decide +kernel
theorem dL_turn_16 : decode cL_turn 16 = .ok (.ireturn, 1) := by decide +kernel
theorem dL_turn_17 : decode cL_turn 17 = .ok (.astore 4, 2) := by decide +kernel
theorem dL_turn_19 : decode cL_turn 19 = .ok (.iconst 2, 1) := by decide +kernel
theorem dL_turn_20 : decode cL_turn 20 = .ok (.ireturn, 1) := by decide +kernel
theorem dL_turn_21 : decode cL_turn 21 = .ok (.astore 4, 2) := by decide +kernel
theorem dL_turn_23 : decode cL_turn 23 = .ok (.iconst 3, 1) := by decide +kernel
theorem dL_turn_24 : decode cL_turn 24 = .ok (.ireturn, 1) := by decide +kernel
theorem dL_turn_25 : decode cL_turn 25 = .ok (.iconst 0, 1) := by decide +kernel
theorem dL_turn_26 : decode cL_turn 26 = .ok (.ireturn, 1) := by decide +kernel
theorem dL_tie_0 : decode cL_tie 0 = .ok (.aload_n 3, 1) := by decide +kernel
theorem dL_tie_1 : decode cL_tie 1 = .ok (.iconst 0, 1) := by decide +kernel
theorem dL_tie_2 : decode cL_tie 2 = .ok (.aload_n 0, 1) := by decide +kernel
theorem dL_tie_3 : decode cL_tie 3 = .ok (.iload_n 1, 1) := by decide +kernel
theorem dL_tie_4 : decode cL_tie 4 = .ok (.iload_n 2, 1) := by decide +kernel
theorem dL_tie_5 : decode cL_tie 5 = .ok (.invokevirtual 112, 3) := by decide +kernel
theorem dL_tie_8 : decode cL_tie 8 = .ok (.ifCond .eq 7, 3) := by decide +kernel
theorem dL_tie_11 : decode cL_tie 11 = .ok (.lconst 1, 1) := by decide +kernel
theorem dL_tie_12 : decode cL_tie 12 = .ok (.goto 4, 3) := by decide +kernel
theorem dL_tie_15 : decode cL_tie 15 = .ok (.lconst 0, 1) := by decide +kernel
theorem dL_tie_16 : decode cL_tie 16 = .ok (.lastore, 1) := by decide +kernel
theorem dL_tie_17 : decode cL_tie 17 = .ok (.goto 7, 3) := by decide +kernel
theorem dL_tie_20 : decode cL_tie 20 = .ok (.astore 4, 2) := by decide +kernel
theorem dL_tie_22 : decode cL_tie 22 = .ok (.iconst 1, 1) := by decide +kernel
theorem dL_tie_23 : decode cL_tie 23 = .ok (.ireturn, 1) := by decide +kernel
theorem dL_tie_24 : decode cL_tie 24 = .ok (.iconst 0, 1) := by decide +kernel
theorem dL_tie_25 : decode cL_tie 25 = .ok (.ireturn, 1) := by decide +kernel
theorem dL_paint_0 : decode cL_paint 0 = .ok (.aload_n 3, 1) := by decide +kernel
theorem dL_paint_1 : decode cL_paint 1 = .ok (.iconst 0, 1) := by decide +kernel
theorem dL_paint_2 : decode cL_paint 2 = .ok (.aload_n 0, 1) := by decide +kernel
theorem dL_paint_3 : decode cL_paint 3 = .ok (.iload_n 1, 1) := by decide +kernel
theorem dL_paint_4 : decode cL_paint 4 = .ok (.iload_n 2, 1) := by decide +kernel
theorem dL_paint_5 : decode cL_paint 5 = .ok (.invokevirtual 116, 3) := by decide +kernel
theorem dL_paint_8 : decode cL_paint 8 = .ok (.i2l, 1) := by decide +kernel
theorem dL_paint_9 : decode cL_paint 9 = .ok (.lastore, 1) := by decide +kernel
theorem dL_paint_10 : decode cL_paint 10 = .ok (.goto 11, 3) := by decide +kernel
theorem dL_paint_13 : decode cL_paint 13 = .ok (.astore 4, 2) := by decide +kernel
theorem dL_paint_15 : decode cL_paint 15 = .ok (.iconst 1, 1) := by decide +kernel
theorem dL_paint_16 : decode cL_paint 16 = .ok (.ireturn, 1) := by decide +kernel
theorem dL_paint_17 : decode cL_paint 17 = .ok (.astore 4, 2) := by decide +kernel
theorem dL_paint_19 : decode cL_paint 19 = .ok (.iconst 2, 1) := by decide +kernel
theorem dL_paint_20 : decode cL_paint 20 = .ok (.ireturn, 1) := by decide +kernel
theorem dL_paint_21 : decode cL_paint 21 = .ok (.iconst 0, 1) := by decide +kernel
theorem dL_paint_22 : decode cL_paint 22 = .ok (.ireturn, 1) := by decide +kernel
theorem dL_dab_0 : decode cL_dab 0 = .ok (.aload 6, 2) := by decide +kernel
theorem dL_dab_2 : decode cL_dab 2 = .ok (.iconst 0, 1) := by decide +kernel
theorem dL_dab_3 : decode cL_dab 3 = .ok (.aload_n 0, 1) := by decide +kernel
theorem dL_dab_4 : decode cL_dab 4 = .ok (.iload_n 1, 1) := by decide +kernel
theorem dL_dab_5 : decode cL_dab 5 = .ok (.iload_n 2, 1) := by decide +kernel
theorem dL_dab_6 : decode cL_dab 6 = .ok (.iload_n 3, 1) := by decide +kernel
theorem dL_dab_7 : decode cL_dab 7 = .ok (.iload 4, 2) := by decide +kernel
theorem dL_dab_9 : decode cL_dab 9 = .ok (.iload 5, 2) := by decide +kernel
theorem dL_dab_11 : decode cL_dab 11 = .ok (.invokevirtual 119, 3) := by decide +kernel
theorem dL_dab_14 : decode cL_dab 14 = .ok (.i2l, 1) := by decide +kernel
theorem dL_dab_15 : decode cL_dab 15 = .ok (.lastore, 1) := by decide +kernel
theorem dL_dab_16 : decode cL_dab 16 = .ok (.goto 11, 3) := by decide +kernel
theorem dL_dab_19 : decode cL_dab 19 = .ok (.astore 7, 2) := by decide +kernel
theorem dL_dab_21 : decode cL_dab 21 = .ok (.iconst 1, 1) := by decide +kernel
theorem dL_dab_22 : decode cL_dab 22 = .ok (.ireturn, 1) := by decide +kernel
theorem dL_dab_23 : decode cL_dab 23 = .ok (.astore 7, 2) := by decide +kernel
theorem dL_dab_25 : decode cL_dab 25 = .ok (.iconst 2, 1) := by decide +kernel
theorem dL_dab_26 : decode cL_dab 26 = .ok (.ireturn, 1) := by decide +kernel
theorem dL_dab_27 : decode cL_dab 27 = .ok (.iconst 0, 1) := by decide +kernel
theorem dL_dab_28 : decode cL_dab 28 = .ok (.ireturn, 1) := by decide +kernel
theorem dL_swap_0 : decode cL_swap 0 = .ok (.aload_n 2, 1) := by decide +kernel
theorem dL_swap_1 : decode cL_swap 1 = .ok (.iconst 0, 1) := by decide +kernel
theorem dL_swap_2 : decode cL_swap 2 = .ok (.aload_n 0, 1) := by decide +kernel
theorem dL_swap_3 : decode cL_swap 3 = .ok (.iload_n 1, 1) := by decide +kernel
theorem dL_swap_4 : decode cL_swap 4 = .ok (.invokevirtual 123, 3) := by decide +kernel
theorem dL_swap_7 : decode cL_swap 7 = .ok (.i2l, 1) := by decide +kernel
theorem dL_swap_8 : decode cL_swap 8 = .ok (.lastore, 1) := by decide +kernel
theorem dL_swap_9 : decode cL_swap 9 = .ok (.goto 6, 3) := by decide +kernel
theorem dL_swap_12 : decode cL_swap 12 = .ok (.astore_n 3, 1) := by decide +kernel
theorem dL_swap_13 : decode cL_swap 13 = .ok (.iconst 1, 1) := by decide +kernel
theorem dL_swap_14 : decode cL_swap 14 = .ok (.ireturn, 1) := by decide +kernel
theorem dL_swap_15 : decode cL_swap 15 = .ok (.iconst 0, 1) := by decide +kernel
theorem dL_swap_16 : decode cL_swap 16 = .ok (.ireturn, 1) := by decide +kernel
theorem dL_spot_0 : decode cL_spot 0 = .ok (.aload 5, 2) := by decide +kernel
theorem dL_spot_2 : decode cL_spot 2 = .ok (.iconst 0, 1) := by decide +kernel
theorem dL_spot_3 : decode cL_spot 3 = .ok (.aload_n 0, 1) := by decide +kernel
theorem dL_spot_4 : decode cL_spot 4 = .ok (.iload_n 1, 1) := by decide +kernel
theorem dL_spot_5 : decode cL_spot 5 = .ok (.iload_n 2, 1) := by decide +kernel
theorem dL_spot_6 : decode cL_spot 6 = .ok (.iload_n 3, 1) := by decide +kernel
theorem dL_spot_7 : decode cL_spot 7 = .ok (.iload 4, 2) := by decide +kernel
theorem dL_spot_9 : decode cL_spot 9 = .ok (.invokevirtual 126, 3) := by decide +kernel
theorem dL_spot_12 : decode cL_spot 12 = .ok (.i2l, 1) := by decide +kernel
theorem dL_spot_13 : decode cL_spot 13 = .ok (.lastore, 1) := by decide +kernel
theorem dL_spot_14 : decode cL_spot 14 = .ok (.goto 15, 3) := by decide +kernel
theorem dL_spot_17 : decode cL_spot 17 = .ok (.astore 6, 2) := by decide +kernel
theorem dL_spot_19 : decode cL_spot 19 = .ok (.iconst 1, 1) := by decide +kernel
theorem dL_spot_20 : decode cL_spot 20 = .ok (.ireturn, 1) := by decide +kernel
theorem dL_spot_21 : decode cL_spot 21 = .ok (.astore 6, 2) := by decide +kernel
theorem dL_spot_23 : decode cL_spot 23 = .ok (.iconst 2, 1) := by decide +kernel
theorem dL_spot_24 : decode cL_spot 24 = .ok (.ireturn, 1) := by decide +kernel
theorem dL_spot_25 : decode cL_spot 25 = .ok (.astore 6, 2) := by decide +kernel
theorem dL_spot_27 : decode cL_spot 27 = .ok (.iconst 3, 1) := by decide +kernel
theorem dL_spot_28 : decode cL_spot 28 = .ok (.ireturn, 1) := by decide +kernel
theorem dL_spot_29 : decode cL_spot 29 = .ok (.iconst 0, 1) := by decide +kernel
theorem dL_spot_30 : decode cL_spot 30 = .ok (.ireturn, 1) := by decide +kernel
theorem dL_report_0 : decode cL_report 0 = .ok (.aload_n 2, 1) := by decide +kernel
theorem dL_report_1 : decode cL_report 1 = .ok (.iconst 0, 1) := by decide +kernel
theorem dL_report_2 : decode cL_report 2 = .ok (.aload_n 0, 1) := by decide +kernel
theorem dL_report_3 : decode cL_report 3 = .ok (.iload_n 1, 1) := by decide +kernel
theorem dL_report_4 : decode cL_report 4 = .ok (.invokevirtual 130, 3) := by decide +kernel
theorem dL_report_7 : decode cL_report 7 = .ok (.i2l, 1) := by decide +kernel
theorem dL_report_8 : decode cL_report 8 = .ok (.lastore, 1) := by decide +kernel
theorem dL_report_9 : decode cL_report 9 = .ok (.goto 6, 3) := by decide +kernel
theorem dL_report_12 : decode cL_report 12 = .ok (.astore_n 3, 1) := by decide +kernel
theorem dL_report_13 : decode cL_report 13 = .ok (.iconst 1, 1) := by decide +kernel
theorem dL_report_14 : decode cL_report 14 = .ok (.ireturn, 1) := by decide +kernel
theorem dL_report_15 : decode cL_report 15 = .ok (.iconst 0, 1) := by decide +kernel
theorem dL_report_16 : decode cL_report 16 = .ok (.ireturn, 1) := by decide +kernel
theorem dL_reportByte_0 : decode cL_reportByte 0 = .ok (.aload_n 2, 1) := by decide +kernel
theorem dL_reportByte_1 : decode cL_reportByte 1 = .ok (.iconst 0, 1) := by decide +kernel
theorem dL_reportByte_2 : decode cL_reportByte 2 = .ok (.aload_n 0, 1) := by decide +kernel
theorem dL_reportByte_3 : decode cL_reportByte 3 = .ok (.iload_n 1, 1) := by decide +kernel
theorem dL_reportByte_4 : decode cL_reportByte 4 = .ok (.invokevirtual 133, 3) := by decide +kernel
theorem dL_reportByte_7 : decode cL_reportByte 7 = .ok (.i2l, 1) := by decide +kernel
theorem dL_reportByte_8 : decode cL_reportByte 8 = .ok (.lastore, 1) := by decide +kernel
theorem dL_reportByte_9 : decode cL_reportByte 9 = .ok (.goto 6, 3) := by decide +kernel
theorem dL_reportByte_12 : decode cL_reportByte 12 = .ok (.astore_n 3, 1) := by decide +kernel
theorem dL_reportByte_13 : decode cL_reportByte 13 = .ok (.iconst 1, 1) := by decide +kernel
theorem dL_reportByte_14 : decode cL_reportByte 14 = .ok (.ireturn, 1) := by decide +kernel
theorem dL_reportByte_15 : decode cL_reportByte 15 = .ok (.iconst 0, 1) := by decide +kernel
theorem dL_reportByte_16 : decode cL_reportByte 16 = .ok (.ireturn, 1) := by decide +kernel
theorem dL_restore_0 : decode cL_restore 0 = .ok (.aload_n 1, 1) := by decide +kernel
theorem dL_restore_1 : decode cL_restore 1 = .ok (.iconst 0, 1) := by decide +kernel
theorem dL_restore_2 : decode cL_restore 2 = .ok (.aload_n 0, 1) := by decide +kernel
theorem dL_restore_3 : decode cL_restore 3 = .ok (.invokevirtual 136, 3) := by decide +kernel
theorem dL_restore_6 : decode cL_restore 6 = .ok (.i2l, 1) := by decide +kernel
theorem dL_restore_7 : decode cL_restore 7 = .ok (.lastore, 1) := by decide +kernel
theorem dL_restore_8 : decode cL_restore 8 = .ok (.goto 6, 3) := by decide +kernel
theorem dL_restore_11 : decode cL_restore 11 = .ok (.astore_n 2, 1) := by decide +kernel
theorem dL_restore_12 : decode cL_restore 12 = .ok (.iconst 1, 1) := by decide +kernel
theorem dL_restore_13 : decode cL_restore 13 = .ok (.ireturn, 1) := by decide +kernel
theorem dL_restore_14 : decode cL_restore 14 = .ok (.iconst 0, 1) := by decide +kernel
theorem dL_restore_15 : decode cL_restore 15 = .ok (.ireturn, 1) := by decide +kernel
