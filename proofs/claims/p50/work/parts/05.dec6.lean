theorem dX6_init_0 : decode cX6_init 0 = .ok (.aload_n 0, 1) := by decide +kernel
theorem dX6_init_1 : decode cX6_init 1 = .ok (.invokespecial 3, 3) := by decide +kernel
theorem dX6_init_4 : decode cX6_init 4 = .ok (.aload_n 0, 1) := by decide +kernel
theorem dX6_init_5 : decode cX6_init 5 = .ok (.new 9, 3) := by decide +kernel
theorem dX6_init_8 : decode cX6_init 8 = .ok (.dup, 1) := by decide +kernel
theorem dX6_init_9 : decode cX6_init 9 = .ok (.invokespecial 11, 3) := by decide +kernel
theorem dX6_init_12 : decode cX6_init 12 = .ok (.putfield 12, 3) := by decide +kernel
theorem dX6_init_15 : decode cX6_init 15 = .ok (.aload_n 0, 1) := by decide +kernel
theorem dX6_init_16 : decode cX6_init 16 = .ok (.new 16, 3) := by decide +kernel
theorem dX6_init_19 : decode cX6_init 19 = .ok (.dup, 1) := by decide +kernel
theorem dX6_init_20 : decode cX6_init 20 = .ok (.aload_n 0, 1) := by decide +kernel
theorem dX6_init_21 : decode cX6_init 21 = .ok (.getfield 12, 3) := by decide +kernel
theorem dX6_init_24 : decode cX6_init 24 = .ok (.invokespecial 18, 3) := by decide +kernel
theorem dX6_init_27 : decode cX6_init 27 = .ok (.putfield 21, 3) := by decide +kernel
theorem dX6_init_30 : decode cX6_init 30 = .ok (.aload_n 0, 1) := by decide +kernel
theorem dX6_init_31 : decode cX6_init 31 = .ok (.new 25, 3) := by decide +kernel
theorem dX6_init_34 : decode cX6_init 34 = .ok (.dup, 1) := by decide +kernel
theorem dX6_init_35 : decode cX6_init 35 = .ok (.aload_n 0, 1) := by decide +kernel
theorem dX6_init_36 : decode cX6_init 36 = .ok (.getfield 12, 3) := by decide +kernel
theorem dX6_init_39 : decode cX6_init 39 = .ok (.invokespecial 27, 3) := by decide +kernel
theorem dX6_init_42 : decode cX6_init 42 = .ok (.putfield 28, 3) := by decide +kernel
theorem dX6_init_45 : decode cX6_init 45 = .ok (.aload_n 0, 1) := by decide +kernel
theorem dX6_init_46 : decode cX6_init 46 = .ok (.new 32, 3) := by decide +kernel
theorem dX6_init_49 : decode cX6_init 49 = .ok (.dup, 1) := by decide +kernel
theorem dX6_init_50 : decode cX6_init 50 = .ok (.invokespecial 34, 3) := by decide +kernel
theorem dX6_init_53 : decode cX6_init 53 = .ok (.putfield 35, 3) := by decide +kernel
theorem dX6_init_56 : decode cX6_init 56 = .ok (.aload_n 0, 1) := by decide +kernel
theorem dX6_init_57 : decode cX6_init 57 = .ok (.new 32, 3) := by decide +kernel
theorem dX6_init_60 : decode cX6_init 60 = .ok (.dup, 1) := by decide +kernel
theorem dX6_init_61 : decode cX6_init 61 = .ok (.invokespecial 34, 3) := by decide +kernel
theorem dX6_init_64 : decode cX6_init 64 = .ok (.putfield 39, 3) := by decide +kernel
theorem dX6_init_67 : decode cX6_init 67 = .ok (.aload_n 0, 1) := by decide +kernel
theorem dX6_init_68 : decode cX6_init 68 = .ok (.new 42, 3) := by decide +kernel
theorem dX6_init_71 : decode cX6_init 71 = .ok (.dup, 1) := by decide +kernel
theorem dX6_init_72 : decode cX6_init 72 = .ok (.invokespecial 44, 3) := by decide +kernel
theorem dX6_init_75 : decode cX6_init 75 = .ok (.putfield 45, 3) := by decide +kernel
theorem dX6_init_78 : decode cX6_init 78 = .ok (.aload_n 0, 1) := by decide +kernel
theorem dX6_init_79 : decode cX6_init 79 = .ok (.new 49, 3) := by decide +kernel
theorem dX6_init_82 : decode cX6_init 82 = .ok (.dup, 1) := by decide +kernel
theorem dX6_init_83 : decode cX6_init 83 = .ok (.aload_n 0, 1) := by decide +kernel
theorem dX6_init_84 : decode cX6_init 84 = .ok (.getfield 35, 3) := by decide +kernel
theorem dX6_init_87 : decode cX6_init 87 = .ok (.invokespecial 51, 3) := by decide +kernel
theorem dX6_init_90 : decode cX6_init 90 = .ok (.putfield 54, 3) := by decide +kernel
theorem dX6_init_93 : decode cX6_init 93 = .ok (.aload_n 0, 1) := by decide +kernel
theorem dX6_init_94 : decode cX6_init 94 = .ok (.bipush 10, 2) := by decide +kernel
theorem dX6_init_96 : decode cX6_init 96 = .ok (.newarray .int, 2) := by decide +kernel
theorem dX6_init_98 : decode cX6_init 98 = .ok (.putfield 58, 3) := by decide +kernel
theorem dX6_init_101 : decode cX6_init 101 = .ok (.aload_n 0, 1) := by decide +kernel
theorem dX6_init_102 : decode cX6_init 102 = .ok (.sipush 488, 3) := by decide +kernel
theorem dX6_init_105 : decode cX6_init 105 = .ok (.newarray .byte, 2) := by decide +kernel
theorem dX6_init_107 : decode cX6_init 107 = .ok (.putfield 62, 3) := by decide +kernel
theorem dX6_init_110 : decode cX6_init 110 = .ok (.return_, 1) := by decide +kernel
theorem dX6_feed_0 : decode cX6_feed 0 = .ok (.aload_n 0, 1) := by decide +kernel
theorem dX6_feed_1 : decode cX6_feed 1 = .ok (.getfield 12, 3) := by decide +kernel
theorem dX6_feed_4 : decode cX6_feed 4 = .ok (.getfield 66, 3) := by decide +kernel
theorem dX6_feed_7 : decode cX6_feed 7 = .ok (.bipush 20, 2) := by decide +kernel
theorem dX6_feed_9 : decode cX6_feed 9 = .ok (.iadd, 1) := by decide +kernel
theorem dX6_feed_10 : decode cX6_feed 10 = .ok (.sipush 600, 3) := by decide +kernel
theorem dX6_feed_13 : decode cX6_feed 13 = .ok (.if_icmp .le 13, 3) := by decide +kernel
theorem dX6_feed_16 : decode cX6_feed 16 = .ok (.new 70, 3) := by decide +kernel
theorem dX6_feed_19 : decode cX6_feed 19 = .ok (.dup, 1) := by decide +kernel
theorem dX6_feed_20 : decode cX6_feed 20 = .ok (.ldc 72, 2) := by decide +kernel
theorem dX6_feed_22 : decode cX6_feed 22 = .ok (.invokespecial 74, 3) := by decide +kernel
theorem dX6_feed_25 : decode cX6_feed 25 = .ok (.athrow, 1) := by decide +kernel
theorem dX6_feed_26 : decode cX6_feed 26 = .ok (.aload_n 0, 1) := by decide +kernel
theorem dX6_feed_27 : decode cX6_feed 27 = .ok (.getfield 12, 3) := by decide +kernel
theorem dX6_feed_30 : decode cX6_feed 30 = .ok (.iload_n 1, 1) := by decide +kernel
theorem dX6_feed_31 : decode cX6_feed 31 = .ok (.invokevirtual 77, 3) := by decide +kernel
theorem dX6_feed_34 : decode cX6_feed 34 = .ok (.aload_n 0, 1) := by decide +kernel
theorem dX6_feed_35 : decode cX6_feed 35 = .ok (.getfield 12, 3) := by decide +kernel
theorem dX6_feed_38 : decode cX6_feed 38 = .ok (.iload_n 2, 1) := by decide +kernel
theorem dX6_feed_39 : decode cX6_feed 39 = .ok (.invokevirtual 77, 3) := by decide +kernel
theorem dX6_feed_42 : decode cX6_feed 42 = .ok (.aload_n 0, 1) := by decide +kernel
theorem dX6_feed_43 : decode cX6_feed 43 = .ok (.getfield 12, 3) := by decide +kernel
theorem dX6_feed_46 : decode cX6_feed 46 = .ok (.iload_n 3, 1) := by decide +kernel
theorem dX6_feed_47 : decode cX6_feed 47 = .ok (.invokevirtual 77, 3) := by decide +kernel
theorem dX6_feed_50 : decode cX6_feed 50 = .ok (.aload_n 0, 1) := by decide +kernel
theorem dX6_feed_51 : decode cX6_feed 51 = .ok (.getfield 12, 3) := by decide +kernel
theorem dX6_feed_54 : decode cX6_feed 54 = .ok (.iload 4, 2) := by decide +kernel
theorem dX6_feed_56 : decode cX6_feed 56 = .ok (.invokevirtual 77, 3) := by decide +kernel
theorem dX6_feed_59 : decode cX6_feed 59 = .ok (.aload_n 0, 1) := by decide +kernel
theorem dX6_feed_60 : decode cX6_feed 60 = .ok (.getfield 12, 3) := by decide +kernel
theorem dX6_feed_63 : decode cX6_feed 63 = .ok (.iload 5, 2) := by decide +kernel
theorem dX6_feed_65 : decode cX6_feed 65 = .ok (.invokevirtual 77, 3) := by decide +kernel
theorem dX6_feed_68 : decode cX6_feed 68 = .ok (.aload_n 0, 1) := by decide +kernel
theorem dX6_feed_69 : decode cX6_feed 69 = .ok (.getfield 12, 3) := by decide +kernel
theorem dX6_feed_72 : decode cX6_feed 72 = .ok (.getfield 66, 3) := by decide +kernel
theorem dX6_feed_75 : decode cX6_feed 75 = .ok (.ireturn, 1) := by decide +kernel
theorem dX6_truncate_0 : decode cX6_truncate 0 = .ok (.iload_n 1, 1) := by decide +kernel
theorem dX6_truncate_1 : decode cX6_truncate 1 = .ok (.ifCond .lt 14, 3) := by decide +kernel
theorem dX6_truncate_4 : decode cX6_truncate 4 = .ok (.iload_n 1, 1) := by decide +kernel
theorem dX6_truncate_5 : decode cX6_truncate 5 = .ok (.aload_n 0, 1) := by decide +kernel
theorem dX6_truncate_6 : decode cX6_truncate 6 = .ok (.getfield 12, 3) := by decide +kernel
theorem dX6_truncate_9 : decode cX6_truncate 9 = .ok (.getfield 66, 3) := by decide +kernel
theorem dX6_truncate_12 : decode cX6_truncate 12 = .ok (.if_icmp .le 13, 3) := by decide +kernel
theorem dX6_truncate_15 : decode cX6_truncate 15 = .ok (.new 81, 3) := by decide +kernel
theorem dX6_truncate_18 : decode cX6_truncate 18 = .ok (.dup, 1) := by decide +kernel
theorem dX6_truncate_19 : decode cX6_truncate 19 = .ok (.ldc 83, 2) := by decide +kernel
theorem dX6_truncate_21 : decode cX6_truncate 21 = .ok (.invokespecial 85, 3) := by decide +kernel
theorem dX6_truncate_24 : decode cX6_truncate 24 = .ok (.athrow, 1) := by decide +kernel
theorem dX6_truncate_25 : decode cX6_truncate 25 = .ok (.aload_n 0, 1) := by decide +kernel
theorem dX6_truncate_26 : decode cX6_truncate 26 = .ok (.getfield 12, 3) := by decide +kernel
theorem dX6_truncate_29 : decode cX6_truncate 29 = .ok (.iload_n 1, 1) := by decide +kernel
theorem dX6_truncate_30 : decode cX6_truncate 30 = .ok (.putfield 66, 3) := by decide +kernel
theorem dX6_truncate_33 : decode cX6_truncate 33 = .ok (.iload_n 1, 1) := by decide +kernel
theorem dX6_truncate_34 : decode cX6_truncate 34 = .ok (.ireturn, 1) := by decide +kernel
theorem dX6_readText_0 : decode cX6_readText 0 = .ok (.aload_n 0, 1) := by decide +kernel
theorem dX6_readText_1 : decode cX6_readText 1 = .ok (.getfield 21, 3) := by decide +kernel
theorem dX6_readText_4 : decode cX6_readText 4 = .ok (.invokevirtual 86, 3) := by decide +kernel
theorem dX6_readText_7 : decode cX6_readText 7 = .ok (.istore_n 1, 1) := by decide +kernel
theorem dX6_readText_8 : decode cX6_readText 8 = .ok (.aload_n 0, 1) := by decide +kernel
theorem dX6_readText_9 : decode cX6_readText 9 = .ok (.getfield 12, 3) := by decide +kernel
theorem dX6_readText_12 : decode cX6_readText 12 = .ok (.iconst 0, 1) := by decide +kernel
theorem dX6_readText_13 : decode cX6_readText 13 = .ok (.putfield 66, 3) := by decide +kernel
theorem dX6_readText_16 : decode cX6_readText 16 = .ok (.iload_n 1, 1) := by decide +kernel
theorem dX6_readText_17 : decode cX6_readText 17 = .ok (.ifCond .ne 13, 3) := by decide +kernel
theorem dX6_readText_20 : decode cX6_readText 20 = .ok (.new 81, 3) := by decide +kernel
theorem dX6_readText_23 : decode cX6_readText 23 = .ok (.dup, 1) := by decide +kernel
theorem dX6_readText_24 : decode cX6_readText 24 = .ok (.ldc 90, 2) := by decide +kernel
theorem dX6_readText_26 : decode cX6_readText 26 = .ok (.invokespecial 85, 3) := by decide +kernel
theorem dX6_readText_29 : decode cX6_readText 29 = .ok (.athrow, 1) := by decide +kernel
theorem dX6_readText_30 : decode cX6_readText 30 = .ok (.aload_n 0, 1) := by decide +kernel
theorem dX6_readText_31 : decode cX6_readText 31 = .ok (.getfield 35, 3) := by decide +kernel
theorem dX6_readText_34 : decode cX6_readText 34 = .ok (.aload_n 0, 1) := by decide +kernel
theorem dX6_readText_35 : decode cX6_readText 35 = .ok (.getfield 21, 3) := by decide +kernel
theorem dX6_readText_38 : decode cX6_readText 38 = .ok (.getfield 92, 3) := by decide +kernel
theorem dX6_readText_41 : decode cX6_readText 41 = .ok (.invokevirtual 95, 3) := by decide +kernel
theorem dX6_readText_44 : decode cX6_readText 44 = .ok (.aload_n 0, 1) := by decide +kernel
theorem dX6_readText_45 : decode cX6_readText 45 = .ok (.getfield 45, 3) := by decide +kernel
theorem dX6_readText_48 : decode cX6_readText 48 = .ok (.invokevirtual 98, 3) := by decide +kernel
theorem dX6_readText_51 : decode cX6_readText 51 = .ok (.aload_n 0, 1) := by decide +kernel
theorem dX6_readText_52 : decode cX6_readText 52 = .ok (.getfield 35, 3) := by decide +kernel
theorem dX6_readText_55 : decode cX6_readText 55 = .ok (.getfield 101, 3) := by decide +kernel
theorem dX6_readText_58 : decode cX6_readText 58 = .ok (.ireturn, 1) := by decide +kernel
theorem dX6_setting_0 : decode cX6_setting 0 = .ok (.iload_n 1, 1) := by decide +kernel
theorem dX6_setting_1 : decode cX6_setting 1 = .ok (.tableswitch 138 0 9 #[55, 63, 71, 79, 87, 95, 103, 114, 122, 130], 55) := by decide +kernel
theorem dX6_setting_56 : decode cX6_setting 56 = .ok (.aload_n 0, 1) := by decide +kernel
theorem dX6_setting_57 : decode cX6_setting 57 = .ok (.getfield 35, 3) := by decide +kernel
theorem dX6_setting_60 : decode cX6_setting 60 = .ok (.getfield 101, 3) := by decide +kernel
theorem dX6_setting_63 : decode cX6_setting 63 = .ok (.ireturn, 1) := by decide +kernel
theorem dX6_setting_64 : decode cX6_setting 64 = .ok (.aload_n 0, 1) := by decide +kernel
theorem dX6_setting_65 : decode cX6_setting 65 = .ok (.getfield 35, 3) := by decide +kernel
theorem dX6_setting_68 : decode cX6_setting 68 = .ok (.getfield 126, 3) := by decide +kernel
theorem dX6_setting_71 : decode cX6_setting 71 = .ok (.ireturn, 1) := by decide +kernel
theorem dX6_setting_72 : decode cX6_setting 72 = .ok (.aload_n 0, 1) := by decide +kernel
theorem dX6_setting_73 : decode cX6_setting 73 = .ok (.getfield 35, 3) := by decide +kernel
theorem dX6_setting_76 : decode cX6_setting 76 = .ok (.getfield 129, 3) := by decide +kernel
theorem dX6_setting_79 : decode cX6_setting 79 = .ok (.ireturn, 1) := by decide +kernel
theorem dX6_setting_80 : decode cX6_setting 80 = .ok (.aload_n 0, 1) := by decide +kernel
theorem dX6_setting_81 : decode cX6_setting 81 = .ok (.getfield 35, 3) := by decide +kernel
theorem dX6_setting_84 : decode cX6_setting 84 = .ok (.getfield 132, 3) := by decide +kernel
theorem dX6_setting_87 : decode cX6_setting 87 = .ok (.ireturn, 1) := by decide +kernel
theorem dX6_setting_88 : decode cX6_setting 88 = .ok (.aload_n 0, 1) := by decide +kernel
theorem dX6_setting_89 : decode cX6_setting 89 = .ok (.getfield 35, 3) := by decide +kernel
theorem dX6_setting_92 : decode cX6_setting 92 = .ok (.getfield 135, 3) := by decide +kernel
theorem dX6_setting_95 : decode cX6_setting 95 = .ok (.ireturn, 1) := by decide +kernel
theorem dX6_setting_96 : decode cX6_setting 96 = .ok (.aload_n 0, 1) := by decide +kernel
theorem dX6_setting_97 : decode cX6_setting 97 = .ok (.getfield 35, 3) := by decide +kernel
theorem dX6_setting_100 : decode cX6_setting 100 = .ok (.getfield 138, 3) := by decide +kernel
theorem dX6_setting_103 : decode cX6_setting 103 = .ok (.ireturn, 1) := by decide +kernel
theorem dX6_setting_104 : decode cX6_setting 104 = .ok (.aload_n 0, 1) := by decide +kernel
theorem dX6_setting_105 : decode cX6_setting 105 = .ok (.getfield 35, 3) := by decide +kernel
theorem dX6_setting_108 : decode cX6_setting 108 = .ok (.getfield 141, 3) := by decide +kernel
theorem dX6_setting_111 : decode cX6_setting 111 = .ok (.invokestatic 144, 3) := by decide +kernel
theorem dX6_setting_114 : decode cX6_setting 114 = .ok (.ireturn, 1) := by decide +kernel
theorem dX6_setting_115 : decode cX6_setting 115 = .ok (.aload_n 0, 1) := by decide +kernel
theorem dX6_setting_116 : decode cX6_setting 116 = .ok (.getfield 35, 3) := by decide +kernel
theorem dX6_setting_119 : decode cX6_setting 119 = .ok (.invokevirtual 150, 3) := by decide +kernel
theorem dX6_setting_122 : decode cX6_setting 122 = .ok (.ireturn, 1) := by decide +kernel
theorem dX6_setting_123 : decode cX6_setting 123 = .ok (.aload_n 0, 1) := by decide +kernel
theorem dX6_setting_124 : decode cX6_setting 124 = .ok (.getfield 35, 3) := by decide +kernel
theorem dX6_setting_127 : decode cX6_setting 127 = .ok (.invokevirtual 154, 3) := by decide +kernel
theorem dX6_setting_130 : decode cX6_setting 130 = .ok (.ireturn, 1) := by decide +kernel
theorem dX6_setting_131 : decode cX6_setting 131 = .ok (.aload_n 0, 1) := by decide +kernel
theorem dX6_setting_132 : decode cX6_setting 132 = .ok (.getfield 45, 3) := by decide +kernel
theorem dX6_setting_135 : decode cX6_setting 135 = .ok (.getfield 157, 3) := by decide +kernel
theorem dX6_setting_138 : decode cX6_setting 138 = .ok (.ireturn, 1) := by decide +kernel
theorem dX6_setting_139 : decode cX6_setting 139 = .ok (.new 81, 3) := by decide +kernel
theorem dX6_setting_142 : decode cX6_setting 142 = .ok (.dup, 1) := by decide +kernel
theorem dX6_setting_143 : decode cX6_setting 143 = .ok (.ldc 160, 2) := by decide +kernel
theorem dX6_setting_145 : decode cX6_setting 145 = .ok (.invokespecial 85, 3) := by decide +kernel
theorem dX6_setting_148 : decode cX6_setting 148 = .ok (.athrow, 1) := by decide +kernel
theorem dX6_slat_0 : decode cX6_slat 0 = .ok (.aload_n 0, 1) := by decide +kernel
theorem dX6_slat_1 : decode cX6_slat 1 = .ok (.getfield 35, 3) := by decide +kernel
theorem dX6_slat_4 : decode cX6_slat 4 = .ok (.iload_n 1, 1) := by decide +kernel
theorem dX6_slat_5 : decode cX6_slat 5 = .ok (.invokevirtual 162, 3) := by decide +kernel
theorem dX6_slat_8 : decode cX6_slat 8 = .ok (.ifCond .eq 7, 3) := by decide +kernel
theorem dX6_slat_11 : decode cX6_slat 11 = .ok (.iconst 0, 1) := by decide +kernel
theorem dX6_slat_12 : decode cX6_slat 12 = .ok (.goto 4, 3) := by decide +kernel
theorem dX6_slat_15 : decode cX6_slat 15 = .ok (.iconst 1, 1) := by decide +kernel
theorem dX6_slat_16 : decode cX6_slat 16 = .ok (.invokestatic 166, 3) := by decide +kernel
theorem dX6_slat_19 : decode cX6_slat 19 = .ok (.iload_n 2, 1) := by decide +kernel
theorem dX6_slat_20 : decode cX6_slat 20 = .ok (.tableswitch 135 0 7 #[48, 58, 68, 78, 95, 105, 115, 125], 48) := by decide +kernel
theorem dX6_slat_68 : decode cX6_slat 68 = .ok (.aload_n 0, 1) := by decide +kernel
theorem dX6_slat_69 : decode cX6_slat 69 = .ok (.getfield 35, 3) := by decide +kernel
theorem dX6_slat_72 : decode cX6_slat 72 = .ok (.getfield 169, 3) := by decide +kernel
theorem dX6_slat_75 : decode cX6_slat 75 = .ok (.iload_n 1, 1) := by decide +kernel
theorem dX6_slat_76 : decode cX6_slat 76 = .ok (.iaload, 1) := by decide +kernel
theorem dX6_slat_77 : decode cX6_slat 77 = .ok (.ireturn, 1) := by decide +kernel
theorem dX6_slat_78 : decode cX6_slat 78 = .ok (.aload_n 0, 1) := by decide +kernel
theorem dX6_slat_79 : decode cX6_slat 79 = .ok (.getfield 35, 3) := by decide +kernel
theorem dX6_slat_82 : decode cX6_slat 82 = .ok (.getfield 172, 3) := by decide +kernel
theorem dX6_slat_85 : decode cX6_slat 85 = .ok (.iload_n 1, 1) := by decide +kernel
theorem dX6_slat_86 : decode cX6_slat 86 = .ok (.iaload, 1) := by decide +kernel
theorem dX6_slat_87 : decode cX6_slat 87 = .ok (.ireturn, 1) := by decide +kernel
theorem dX6_slat_88 : decode cX6_slat 88 = .ok (.aload_n 0, 1) := by decide +kernel
theorem dX6_slat_89 : decode cX6_slat 89 = .ok (.getfield 35, 3) := by decide +kernel
theorem dX6_slat_92 : decode cX6_slat 92 = .ok (.getfield 175, 3) := by decide +kernel
theorem dX6_slat_95 : decode cX6_slat 95 = .ok (.iload_n 1, 1) := by decide +kernel
theorem dX6_slat_96 : decode cX6_slat 96 = .ok (.iaload, 1) := by decide +kernel
theorem dX6_slat_97 : decode cX6_slat 97 = .ok (.ireturn, 1) := by decide +kernel
theorem dX6_slat_98 : decode cX6_slat 98 = .ok (.aload_n 0, 1) := by decide +kernel
theorem dX6_slat_99 : decode cX6_slat 99 = .ok (.getfield 35, 3) := by decide +kernel
theorem dX6_slat_102 : decode cX6_slat 102 = .ok (.iload_n 1, 1) := by decide +kernel
theorem dX6_slat_103 : decode cX6_slat 103 = .ok (.invokevirtual 178, 3) := by decide +kernel
theorem dX6_slat_106 : decode cX6_slat 106 = .ok (.ifCond .eq 7, 3) := by decide +kernel
theorem dX6_slat_109 : decode cX6_slat 109 = .ok (.iconst 1, 1) := by decide +kernel
theorem dX6_slat_110 : decode cX6_slat 110 = .ok (.goto 4, 3) := by decide +kernel
theorem dX6_slat_113 : decode cX6_slat 113 = .ok (.iconst 0, 1) := by decide +kernel
theorem dX6_slat_114 : decode cX6_slat 114 = .ok (.ireturn, 1) := by decide +kernel
theorem dX6_slat_115 : decode cX6_slat 115 = .ok (.aload_n 0, 1) := by decide +kernel
theorem dX6_slat_116 : decode cX6_slat 116 = .ok (.getfield 35, 3) := by decide +kernel
theorem dX6_slat_119 : decode cX6_slat 119 = .ok (.getfield 181, 3) := by decide +kernel
theorem dX6_slat_122 : decode cX6_slat 122 = .ok (.iload_n 1, 1) := by decide +kernel
theorem dX6_slat_123 : decode cX6_slat 123 = .ok (.iaload, 1) := by decide +kernel
theorem dX6_slat_124 : decode cX6_slat 124 = .ok (.ireturn, 1) := by decide +kernel
theorem dX6_slat_125 : decode cX6_slat 125 = .ok (.aload_n 0, 1) := by decide +kernel
theorem dX6_slat_126 : decode cX6_slat 126 = .ok (.getfield 35, 3) := by decide +kernel
theorem dX6_slat_129 : decode cX6_slat 129 = .ok (.getfield 184, 3) := by decide +kernel
theorem dX6_slat_132 : decode cX6_slat 132 = .ok (.iload_n 1, 1) := by decide +kernel
theorem dX6_slat_133 : decode cX6_slat 133 = .ok (.iaload, 1) := by decide +kernel
theorem dX6_slat_134 : decode cX6_slat 134 = .ok (.ireturn, 1) := by decide +kernel
theorem dX6_slat_135 : decode cX6_slat 135 = .ok (.aload_n 0, 1) := by decide +kernel
theorem dX6_slat_136 : decode cX6_slat 136 = .ok (.getfield 35, 3) := by decide +kernel
theorem dX6_slat_139 : decode cX6_slat 139 = .ok (.iload_n 1, 1) := by decide +kernel
theorem dX6_slat_140 : decode cX6_slat 140 = .ok (.iconst 0, 1) := by decide +kernel
theorem dX6_slat_141 : decode cX6_slat 141 = .ok (.invokevirtual 187, 3) := by decide +kernel
theorem dX6_slat_144 : decode cX6_slat 144 = .ok (.ireturn, 1) := by decide +kernel
theorem dX6_slat_145 : decode cX6_slat 145 = .ok (.aload_n 0, 1) := by decide +kernel
theorem dX6_slat_146 : decode cX6_slat 146 = .ok (.getfield 35, 3) := by decide +kernel
theorem dX6_slat_149 : decode cX6_slat 149 = .ok (.iload_n 1, 1) := by decide +kernel
theorem dX6_slat_150 : decode cX6_slat 150 = .ok (.iconst 1, 1) := by decide +kernel
theorem dX6_slat_151 : decode cX6_slat 151 = .ok (.invokevirtual 187, 3) := by decide +kernel
theorem dX6_slat_154 : decode cX6_slat 154 = .ok (.ireturn, 1) := by decide +kernel
theorem dX6_slat_155 : decode cX6_slat 155 = .ok (.new 81, 3) := by decide +kernel
theorem dX6_slat_158 : decode cX6_slat 158 = .ok (.dup, 1) := by decide +kernel
theorem dX6_slat_159 : decode cX6_slat 159 = .ok (.ldc 191, 2) := by decide +kernel
theorem dX6_slat_161 : decode cX6_slat 161 = .ok (.invokespecial 85, 3) := by decide +kernel
theorem dX6_slat_164 : decode cX6_slat 164 = .ok (.athrow, 1) := by decide +kernel
theorem dX6_slatAt_0 : decode cX6_slatAt 0 = .ok (.aload_n 0, 1) := by decide +kernel
theorem dX6_slatAt_1 : decode cX6_slatAt 1 = .ok (.getfield 35, 3) := by decide +kernel
theorem dX6_slatAt_4 : decode cX6_slatAt 4 = .ok (.iload_n 1, 1) := by decide +kernel
theorem dX6_slatAt_5 : decode cX6_slatAt 5 = .ok (.invokevirtual 193, 3) := by decide +kernel
theorem dX6_slatAt_8 : decode cX6_slatAt 8 = .ok (.ifCond .eq 7, 3) := by decide +kernel
theorem dX6_slatAt_11 : decode cX6_slatAt 11 = .ok (.iconst 0, 1) := by decide +kernel
theorem dX6_slatAt_12 : decode cX6_slatAt 12 = .ok (.goto 4, 3) := by decide +kernel
theorem dX6_slatAt_15 : decode cX6_slatAt 15 = .ok (.iconst 1, 1) := by decide +kernel
theorem dX6_slatAt_16 : decode cX6_slatAt 16 = .ok (.invokestatic 166, 3) := by decide +kernel
theorem dX6_slatAt_19 : decode cX6_slatAt 19 = .ok (.aload_n 0, 1) := by decide +kernel
theorem dX6_slatAt_20 : decode cX6_slatAt 20 = .ok (.getfield 35, 3) := by decide +kernel
theorem dX6_slatAt_23 : decode cX6_slatAt 23 = .ok (.iload_n 1, 1) := by decide +kernel
theorem dX6_slatAt_24 : decode cX6_slatAt 24 = .ok (.invokevirtual 196, 3) := by decide +kernel
theorem dX6_slatAt_27 : decode cX6_slatAt 27 = .ok (.ireturn, 1) := by decide +kernel
theorem dX6_picture_0 : decode cX6_picture 0 = .ok (.aload_n 0, 1) := by decide +kernel
theorem dX6_picture_1 : decode cX6_picture 1 = .ok (.getfield 35, 3) := by decide +kernel
theorem dX6_picture_4 : decode cX6_picture 4 = .ok (.iload_n 2, 1) := by decide +kernel
theorem dX6_picture_5 : decode cX6_picture 5 = .ok (.iload_n 3, 1) := by decide +kernel
theorem dX6_picture_6 : decode cX6_picture 6 = .ok (.invokevirtual 199, 3) := by decide +kernel
theorem dX6_picture_9 : decode cX6_picture 9 = .ok (.ifCond .eq 7, 3) := by decide +kernel
theorem dX6_picture_12 : decode cX6_picture 12 = .ok (.iconst 0, 1) := by decide +kernel
theorem dX6_picture_13 : decode cX6_picture 13 = .ok (.goto 4, 3) := by decide +kernel
theorem dX6_picture_16 : decode cX6_picture 16 = .ok (.iconst 1, 1) := by decide +kernel
theorem dX6_picture_17 : decode cX6_picture 17 = .ok (.invokestatic 166, 3) := by decide +kernel
theorem dX6_picture_20 : decode cX6_picture 20 = .ok (.aload_n 0, 1) := by decide +kernel
theorem dX6_picture_21 : decode cX6_picture 21 = .ok (.getfield 35, 3) := by decide +kernel
theorem dX6_picture_24 : decode cX6_picture 24 = .ok (.iload_n 1, 1) := by decide +kernel
theorem dX6_picture_25 : decode cX6_picture 25 = .ok (.invokevirtual 203, 3) := by decide +kernel
theorem dX6_picture_28 : decode cX6_picture 28 = .ok (.iload_n 2, 1) := by decide +kernel
theorem dX6_picture_29 : decode cX6_picture 29 = .ok (.iaload, 1) := by decide +kernel
theorem dX6_picture_30 : decode cX6_picture 30 = .ok (.iload_n 3, 1) := by decide +kernel
theorem dX6_picture_31 : decode cX6_picture 31 = .ok (.invokestatic 207, 3) := by decide +kernel
theorem dX6_picture_34 : decode cX6_picture 34 = .ok (.ireturn, 1) := by decide +kernel
theorem dX6_face_0 : decode cX6_face 0 = .ok (.aload_n 0, 1) := by decide +kernel
theorem dX6_face_1 : decode cX6_face 1 = .ok (.getfield 35, 3) := by decide +kernel
theorem dX6_face_4 : decode cX6_face 4 = .ok (.iload_n 1, 1) := by decide +kernel
theorem dX6_face_5 : decode cX6_face 5 = .ok (.iload_n 3, 1) := by decide +kernel
theorem dX6_face_6 : decode cX6_face 6 = .ok (.iload 4, 2) := by decide +kernel
theorem dX6_face_8 : decode cX6_face 8 = .ok (.invokevirtual 211, 3) := by decide +kernel
theorem dX6_face_11 : decode cX6_face 11 = .ok (.ifCond .eq 7, 3) := by decide +kernel
theorem dX6_face_14 : decode cX6_face 14 = .ok (.iconst 0, 1) := by decide +kernel
theorem dX6_face_15 : decode cX6_face 15 = .ok (.goto 4, 3) := by decide +kernel
theorem dX6_face_18 : decode cX6_face 18 = .ok (.iconst 1, 1) := by decide +kernel
theorem dX6_face_19 : decode cX6_face 19 = .ok (.invokestatic 166, 3) := by decide +kernel
theorem dX6_face_22 : decode cX6_face 22 = .ok (.aload_n 0, 1) := by decide +kernel
theorem dX6_face_23 : decode cX6_face 23 = .ok (.getfield 35, 3) := by decide +kernel
theorem dX6_face_26 : decode cX6_face 26 = .ok (.iload_n 2, 1) := by decide +kernel
theorem dX6_face_27 : decode cX6_face 27 = .ok (.invokevirtual 214, 3) := by decide +kernel
theorem dX6_face_30 : decode cX6_face 30 = .ok (.aload_n 0, 1) := by decide +kernel
theorem dX6_face_31 : decode cX6_face 31 = .ok (.getfield 35, 3) := by decide +kernel
theorem dX6_face_34 : decode cX6_face 34 = .ok (.getfield 172, 3) := by decide +kernel
theorem dX6_face_37 : decode cX6_face 37 = .ok (.iload_n 1, 1) := by decide +kernel
theorem dX6_face_38 : decode cX6_face 38 = .ok (.iaload, 1) := by decide +kernel
theorem dX6_face_39 : decode cX6_face 39 = .ok (.iload_n 3, 1) := by decide +kernel
theorem dX6_face_40 : decode cX6_face 40 = .ok (.iadd, 1) := by decide +kernel
theorem dX6_face_41 : decode cX6_face 41 = .ok (.iaload, 1) := by decide +kernel
theorem dX6_face_42 : decode cX6_face 42 = .ok (.iload 4, 2) := by decide +kernel
theorem dX6_face_44 : decode cX6_face 44 = .ok (.invokestatic 207, 3) := by decide +kernel
theorem dX6_face_47 : decode cX6_face 47 = .ok (.ireturn, 1) := by decide +kernel
theorem dX6_seen_0 : decode cX6_seen 0 = .ok (.aload_n 0, 1) := by decide +kernel
theorem dX6_seen_1 : decode cX6_seen 1 = .ok (.getfield 35, 3) := by decide +kernel
theorem dX6_seen_4 : decode cX6_seen 4 = .ok (.iload_n 2, 1) := by decide +kernel
theorem dX6_seen_5 : decode cX6_seen 5 = .ok (.iload_n 3, 1) := by decide +kernel
theorem dX6_seen_6 : decode cX6_seen 6 = .ok (.invokevirtual 199, 3) := by decide +kernel
theorem dX6_seen_9 : decode cX6_seen 9 = .ok (.ifCond .eq 10, 3) := by decide +kernel
theorem dX6_seen_12 : decode cX6_seen 12 = .ok (.iload_n 1, 1) := by decide +kernel
theorem dX6_seen_13 : decode cX6_seen 13 = .ok (.invokestatic 229, 3) := by decide +kernel
theorem dX6_seen_16 : decode cX6_seen 16 = .ok (.goto 4, 3) := by decide +kernel
theorem dX6_seen_19 : decode cX6_seen 19 = .ok (.iconst 1, 1) := by decide +kernel
theorem dX6_seen_20 : decode cX6_seen 20 = .ok (.invokestatic 166, 3) := by decide +kernel
theorem dX6_seen_23 : decode cX6_seen 23 = .ok (.aload_n 0, 1) := by decide +kernel
theorem dX6_seen_24 : decode cX6_seen 24 = .ok (.getfield 54, 3) := by decide +kernel
theorem dX6_seen_27 : decode cX6_seen 27 = .ok (.aload_n 0, 1) := by decide +kernel
theorem dX6_seen_28 : decode cX6_seen 28 = .ok (.getfield 35, 3) := by decide +kernel
theorem dX6_seen_31 : decode cX6_seen 31 = .ok (.getfield 175, 3) := by decide +kernel
theorem dX6_seen_34 : decode cX6_seen 34 = .ok (.iload_n 1, 1) := by decide +kernel
theorem dX6_seen_35 : decode cX6_seen 35 = .ok (.invokevirtual 232, 3) := by decide +kernel
theorem dX6_seen_38 : decode cX6_seen 38 = .ok (.aload_n 0, 1) := by decide +kernel
theorem dX6_seen_39 : decode cX6_seen 39 = .ok (.getfield 54, 3) := by decide +kernel
theorem dX6_seen_42 : decode cX6_seen 42 = .ok (.iload_n 2, 1) := by decide +kernel
theorem dX6_seen_43 : decode cX6_seen 43 = .ok (.iload_n 3, 1) := by decide +kernel
theorem dX6_seen_44 : decode cX6_seen 44 = .ok (.invokevirtual 236, 3) := by decide +kernel
theorem dX6_seen_47 : decode cX6_seen 47 = .ok (.ireturn, 1) := by decide +kernel
theorem dX6_why_0 : decode cX6_why 0 = .ok (.aload_n 0, 1) := by decide +kernel
theorem dX6_why_1 : decode cX6_why 1 = .ok (.getfield 35, 3) := by decide +kernel
theorem dX6_why_4 : decode cX6_why 4 = .ok (.iload_n 3, 1) := by decide +kernel
theorem dX6_why_5 : decode cX6_why 5 = .ok (.iload 4, 2) := by decide +kernel
theorem dX6_why_7 : decode cX6_why 7 = .ok (.invokevirtual 199, 3) := by decide +kernel
theorem dX6_why_10 : decode cX6_why 10 = .ok (.ifCond .eq 10, 3) := by decide +kernel
theorem dX6_why_13 : decode cX6_why 13 = .ok (.iload_n 1, 1) := by decide +kernel
theorem dX6_why_14 : decode cX6_why 14 = .ok (.invokestatic 229, 3) := by decide +kernel
theorem dX6_why_17 : decode cX6_why 17 = .ok (.goto 4, 3) := by decide +kernel
theorem dX6_why_20 : decode cX6_why 20 = .ok (.iconst 1, 1) := by decide +kernel
theorem dX6_why_21 : decode cX6_why 21 = .ok (.invokestatic 166, 3) := by decide +kernel
theorem dX6_why_24 : decode cX6_why 24 = .ok (.aload_n 0, 1) := by decide +kernel
theorem dX6_why_25 : decode cX6_why 25 = .ok (.getfield 54, 3) := by decide +kernel
theorem dX6_why_28 : decode cX6_why 28 = .ok (.aload_n 0, 1) := by decide +kernel
theorem dX6_why_29 : decode cX6_why 29 = .ok (.getfield 35, 3) := by decide +kernel
theorem dX6_why_32 : decode cX6_why 32 = .ok (.getfield 175, 3) := by decide +kernel
theorem dX6_why_35 : decode cX6_why 35 = .ok (.iload_n 1, 1) := by decide +kernel
theorem dX6_why_36 : decode cX6_why 36 = .ok (.invokevirtual 232, 3) := by decide +kernel
theorem dX6_why_39 : decode cX6_why 39 = .ok (.aload_n 0, 1) := by decide +kernel
theorem dX6_why_40 : decode cX6_why 40 = .ok (.getfield 54, 3) := by decide +kernel
theorem dX6_why_43 : decode cX6_why 43 = .ok (.iload_n 2, 1) := by decide +kernel
theorem dX6_why_44 : decode cX6_why 44 = .ok (.iload_n 3, 1) := by decide +kernel
theorem dX6_why_45 : decode cX6_why 45 = .ok (.iload 4, 2) := by decide +kernel
theorem dX6_why_47 : decode cX6_why 47 = .ok (.invokevirtual 239, 3) := by decide +kernel
theorem dX6_why_50 : decode cX6_why 50 = .ok (.ireturn, 1) := by decide +kernel
theorem dX6_right_0 : decode cX6_right 0 = .ok (.iload_n 1, 1) := by decide +kernel
theorem dX6_right_1 : decode cX6_right 1 = .ok (.invokestatic 229, 3) := by decide +kernel
theorem dX6_right_4 : decode cX6_right 4 = .ok (.invokestatic 166, 3) := by decide +kernel
theorem dX6_right_7 : decode cX6_right 7 = .ok (.aload_n 0, 1) := by decide +kernel
theorem dX6_right_8 : decode cX6_right 8 = .ok (.iload_n 1, 1) := by decide +kernel
theorem dX6_right_9 : decode cX6_right 9 = .ok (.iload_n 2, 1) := by decide +kernel
theorem dX6_right_10 : decode cX6_right 10 = .ok (.invokevirtual 243, 3) := by decide +kernel
theorem dX6_right_13 : decode cX6_right 13 = .ok (.ireturn, 1) := by decide +kernel
theorem dX6_open_0 : decode cX6_open 0 = .ok (.iload_n 1, 1) := by decide +kernel
theorem dX6_open_1 : decode cX6_open 1 = .ok (.invokestatic 229, 3) := by decide +kernel
theorem dX6_open_4 : decode cX6_open 4 = .ok (.invokestatic 166, 3) := by decide +kernel
theorem dX6_open_7 : decode cX6_open 7 = .ok (.aload_n 0, 1) := by decide +kernel
theorem dX6_open_8 : decode cX6_open 8 = .ok (.iload_n 1, 1) := by decide +kernel
theorem dX6_open_9 : decode cX6_open 9 = .ok (.invokevirtual 246, 3) := by decide +kernel
theorem dX6_open_12 : decode cX6_open 12 = .ok (.ireturn, 1) := by decide +kernel
theorem dX6_covered_0 : decode cX6_covered 0 = .ok (.iload_n 1, 1) := by decide +kernel
theorem dX6_covered_1 : decode cX6_covered 1 = .ok (.invokestatic 229, 3) := by decide +kernel
theorem dX6_covered_4 : decode cX6_covered 4 = .ok (.invokestatic 166, 3) := by decide +kernel
theorem dX6_covered_7 : decode cX6_covered 7 = .ok (.aload_n 0, 1) := by decide +kernel
theorem dX6_covered_8 : decode cX6_covered 8 = .ok (.getfield 54, 3) := by decide +kernel
theorem dX6_covered_11 : decode cX6_covered 11 = .ok (.aload_n 0, 1) := by decide +kernel
theorem dX6_covered_12 : decode cX6_covered 12 = .ok (.getfield 35, 3) := by decide +kernel
theorem dX6_covered_15 : decode cX6_covered 15 = .ok (.getfield 175, 3) := by decide +kernel
theorem dX6_covered_18 : decode cX6_covered 18 = .ok (.iload_n 1, 1) := by decide +kernel
theorem dX6_covered_19 : decode cX6_covered 19 = .ok (.invokevirtual 232, 3) := by decide +kernel
theorem dX6_covered_22 : decode cX6_covered 22 = .ok (.aload_n 0, 1) := by decide +kernel
theorem dX6_covered_23 : decode cX6_covered 23 = .ok (.getfield 54, 3) := by decide +kernel
theorem dX6_covered_26 : decode cX6_covered 26 = .ok (.iconst 1, 1) := by decide +kernel
theorem dX6_covered_27 : decode cX6_covered 27 = .ok (.invokevirtual 249, 3) := by decide +kernel
theorem dX6_covered_30 : decode cX6_covered 30 = .ok (.aload_n 0, 1) := by decide +kernel
theorem dX6_covered_31 : decode cX6_covered 31 = .ok (.getfield 35, 3) := by decide +kernel
theorem dX6_covered_34 : decode cX6_covered 34 = .ok (.getfield 126, 3) := by decide +kernel
theorem dX6_covered_37 : decode cX6_covered 37 = .ok (.imul, 1) := by decide +kernel
theorem dX6_covered_38 : decode cX6_covered 38 = .ok (.ireturn, 1) := by decide +kernel
theorem dX6_whole_0 : decode cX6_whole 0 = .ok (.iload_n 1, 1) := by decide +kernel
theorem dX6_whole_1 : decode cX6_whole 1 = .ok (.invokestatic 229, 3) := by decide +kernel
theorem dX6_whole_4 : decode cX6_whole 4 = .ok (.invokestatic 166, 3) := by decide +kernel
theorem dX6_whole_7 : decode cX6_whole 7 = .ok (.aload_n 0, 1) := by decide +kernel
theorem dX6_whole_8 : decode cX6_whole 8 = .ok (.getfield 54, 3) := by decide +kernel
theorem dX6_whole_11 : decode cX6_whole 11 = .ok (.aload_n 0, 1) := by decide +kernel
theorem dX6_whole_12 : decode cX6_whole 12 = .ok (.getfield 35, 3) := by decide +kernel
theorem dX6_whole_15 : decode cX6_whole 15 = .ok (.getfield 175, 3) := by decide +kernel
theorem dX6_whole_18 : decode cX6_whole 18 = .ok (.iload_n 1, 1) := by decide +kernel
theorem dX6_whole_19 : decode cX6_whole 19 = .ok (.invokevirtual 232, 3) := by decide +kernel
theorem dX6_whole_22 : decode cX6_whole 22 = .ok (.aload_n 0, 1) := by decide +kernel
theorem dX6_whole_23 : decode cX6_whole 23 = .ok (.getfield 54, 3) := by decide +kernel
theorem dX6_whole_26 : decode cX6_whole 26 = .ok (.iconst 0, 1) := by decide +kernel
theorem dX6_whole_27 : decode cX6_whole 27 = .ok (.invokevirtual 252, 3) := by decide +kernel
theorem dX6_whole_30 : decode cX6_whole 30 = .ok (.ifCond .eq 7, 3) := by decide +kernel
theorem dX6_whole_33 : decode cX6_whole 33 = .ok (.iconst 1, 1) := by decide +kernel
theorem dX6_whole_34 : decode cX6_whole 34 = .ok (.goto 4, 3) := by decide +kernel
theorem dX6_whole_37 : decode cX6_whole 37 = .ok (.iconst 0, 1) := by decide +kernel
theorem dX6_whole_38 : decode cX6_whole 38 = .ok (.aload_n 0, 1) := by decide +kernel
theorem dX6_whole_39 : decode cX6_whole 39 = .ok (.getfield 54, 3) := by decide +kernel
theorem dX6_whole_42 : decode cX6_whole 42 = .ok (.iconst 1, 1) := by decide +kernel
theorem dX6_whole_43 : decode cX6_whole 43 = .ok (.invokevirtual 252, 3) := by decide +kernel
theorem dX6_whole_46 : decode cX6_whole 46 = .ok (.ifCond .eq 7, 3) := by decide +kernel
theorem dX6_whole_49 : decode cX6_whole 49 = .ok (.iconst 2, 1) := by decide +kernel
theorem dX6_whole_50 : decode cX6_whole 50 = .ok (.goto 4, 3) := by decide +kernel
theorem dX6_whole_53 : decode cX6_whole 53 = .ok (.iconst 0, 1) := by decide +kernel
theorem dX6_whole_54 : decode cX6_whole 54 = .ok (.iadd, 1) := by decide +kernel
theorem dX6_whole_55 : decode cX6_whole 55 = .ok (.ireturn, 1) := by decide +kernel
theorem dX6_firstWrong_0 : decode cX6_firstWrong 0 = .ok (.iload_n 1, 1) := by decide +kernel
theorem dX6_firstWrong_1 : decode cX6_firstWrong 1 = .ok (.invokestatic 229, 3) := by decide +kernel
theorem dX6_firstWrong_4 : decode cX6_firstWrong 4 = .ok (.invokestatic 166, 3) := by decide +kernel
theorem dX6_firstWrong_7 : decode cX6_firstWrong 7 = .ok (.aload_n 0, 1) := by decide +kernel
theorem dX6_firstWrong_8 : decode cX6_firstWrong 8 = .ok (.getfield 54, 3) := by decide +kernel
theorem dX6_firstWrong_11 : decode cX6_firstWrong 11 = .ok (.aload_n 0, 1) := by decide +kernel
theorem dX6_firstWrong_12 : decode cX6_firstWrong 12 = .ok (.getfield 35, 3) := by decide +kernel
theorem dX6_firstWrong_15 : decode cX6_firstWrong 15 = .ok (.getfield 175, 3) := by decide +kernel
theorem dX6_firstWrong_18 : decode cX6_firstWrong 18 = .ok (.iload_n 1, 1) := by decide +kernel
theorem dX6_firstWrong_19 : decode cX6_firstWrong 19 = .ok (.invokevirtual 232, 3) := by decide +kernel
theorem dX6_firstWrong_22 : decode cX6_firstWrong 22 = .ok (.aload_n 0, 1) := by decide +kernel
theorem dX6_firstWrong_23 : decode cX6_firstWrong 23 = .ok (.getfield 54, 3) := by decide +kernel
theorem dX6_firstWrong_26 : decode cX6_firstWrong 26 = .ok (.iload_n 2, 1) := by decide +kernel
theorem dX6_firstWrong_27 : decode cX6_firstWrong 27 = .ok (.invokevirtual 256, 3) := by decide +kernel
theorem dX6_firstWrong_30 : decode cX6_firstWrong 30 = .ok (.ireturn, 1) := by decide +kernel
theorem dX6_shownFrom_0 : decode cX6_shownFrom 0 = .ok (.aload_n 0, 1) := by decide +kernel
theorem dX6_shownFrom_1 : decode cX6_shownFrom 1 = .ok (.getfield 35, 3) := by decide +kernel
theorem dX6_shownFrom_4 : decode cX6_shownFrom 4 = .ok (.iload_n 1, 1) := by decide +kernel
theorem dX6_shownFrom_5 : decode cX6_shownFrom 5 = .ok (.invokevirtual 193, 3) := by decide +kernel
theorem dX6_shownFrom_8 : decode cX6_shownFrom 8 = .ok (.ifCond .eq 7, 3) := by decide +kernel
theorem dX6_shownFrom_11 : decode cX6_shownFrom 11 = .ok (.iconst 0, 1) := by decide +kernel
theorem dX6_shownFrom_12 : decode cX6_shownFrom 12 = .ok (.goto 4, 3) := by decide +kernel
theorem dX6_shownFrom_15 : decode cX6_shownFrom 15 = .ok (.iconst 1, 1) := by decide +kernel
theorem dX6_shownFrom_16 : decode cX6_shownFrom 16 = .ok (.invokestatic 166, 3) := by decide +kernel
theorem dX6_shownFrom_19 : decode cX6_shownFrom 19 = .ok (.iconst 0, 1) := by decide +kernel
theorem dX6_shownFrom_20 : decode cX6_shownFrom 20 = .ok (.istore_n 2, 1) := by decide +kernel
theorem dX6_shownFrom_21 : decode cX6_shownFrom 21 = .ok (.iconst 0, 1) := by decide +kernel
theorem dX6_shownFrom_22 : decode cX6_shownFrom 22 = .ok (.istore_n 3, 1) := by decide +kernel
theorem dX6_shownFrom_23 : decode cX6_shownFrom 23 = .ok (.iload_n 3, 1) := by decide +kernel
theorem dX6_shownFrom_24 : decode cX6_shownFrom 24 = .ok (.bipush 13, 2) := by decide +kernel
theorem dX6_shownFrom_26 : decode cX6_shownFrom 26 = .ok (.if_icmp .ge 44, 3) := by decide +kernel
theorem dX6_shownFrom_29 : decode cX6_shownFrom 29 = .ok (.aload_n 0, 1) := by decide +kernel
theorem dX6_shownFrom_30 : decode cX6_shownFrom 30 = .ok (.getfield 54, 3) := by decide +kernel
theorem dX6_shownFrom_33 : decode cX6_shownFrom 33 = .ok (.aload_n 0, 1) := by decide +kernel
theorem dX6_shownFrom_34 : decode cX6_shownFrom 34 = .ok (.getfield 35, 3) := by decide +kernel
theorem dX6_shownFrom_37 : decode cX6_shownFrom 37 = .ok (.getfield 175, 3) := by decide +kernel
theorem dX6_shownFrom_40 : decode cX6_shownFrom 40 = .ok (.iload_n 3, 1) := by decide +kernel
theorem dX6_shownFrom_41 : decode cX6_shownFrom 41 = .ok (.bipush 6, 2) := by decide +kernel
theorem dX6_shownFrom_43 : decode cX6_shownFrom 43 = .ok (.isub, 1) := by decide +kernel
theorem dX6_shownFrom_44 : decode cX6_shownFrom 44 = .ok (.invokevirtual 232, 3) := by decide +kernel
theorem dX6_shownFrom_47 : decode cX6_shownFrom 47 = .ok (.aload_n 0, 1) := by decide +kernel
theorem dX6_shownFrom_48 : decode cX6_shownFrom 48 = .ok (.getfield 54, 3) := by decide +kernel
theorem dX6_shownFrom_51 : decode cX6_shownFrom 51 = .ok (.iload_n 1, 1) := by decide +kernel
theorem dX6_shownFrom_52 : decode cX6_shownFrom 52 = .ok (.invokevirtual 260, 3) := by decide +kernel
theorem dX6_shownFrom_55 : decode cX6_shownFrom 55 = .ok (.ifCond .eq 9, 3) := by decide +kernel
theorem dX6_shownFrom_58 : decode cX6_shownFrom 58 = .ok (.iload_n 2, 1) := by decide +kernel
theorem dX6_shownFrom_59 : decode cX6_shownFrom 59 = .ok (.iconst 1, 1) := by decide +kernel
theorem dX6_shownFrom_60 : decode cX6_shownFrom 60 = .ok (.iload_n 3, 1) := by decide +kernel
theorem dX6_shownFrom_61 : decode cX6_shownFrom 61 = .ok (.ishl, 1) := by decide +kernel
theorem dX6_shownFrom_62 : decode cX6_shownFrom 62 = .ok (.ior, 1) := by decide +kernel
theorem dX6_shownFrom_63 : decode cX6_shownFrom 63 = .ok (.istore_n 2, 1) := by decide +kernel
theorem dX6_shownFrom_64 : decode cX6_shownFrom 64 = .ok (.iinc 3 1, 3) := by decide +kernel
theorem dX6_shownFrom_67 : decode cX6_shownFrom 67 = .ok (.goto (-44), 3) := by decide +kernel
theorem dX6_shownFrom_70 : decode cX6_shownFrom 70 = .ok (.iload_n 2, 1) := by decide +kernel
theorem dX6_shownFrom_71 : decode cX6_shownFrom 71 = .ok (.ireturn, 1) := by decide +kernel
theorem dX6_bestAngle_0 : decode cX6_bestAngle 0 = .ok (.bipush (-99), 2) := by decide +kernel
theorem dX6_bestAngle_2 : decode cX6_bestAngle 2 = .ok (.istore_n 2, 1) := by decide +kernel
theorem dX6_bestAngle_3 : decode cX6_bestAngle 3 = .ok (.iconst (-1), 1) := by decide +kernel
theorem dX6_bestAngle_4 : decode cX6_bestAngle 4 = .ok (.istore_n 3, 1) := by decide +kernel
theorem dX6_bestAngle_5 : decode cX6_bestAngle 5 = .ok (.bipush (-6), 2) := by decide +kernel
theorem dX6_bestAngle_7 : decode cX6_bestAngle 7 = .ok (.istore 4, 2) := by decide +kernel
theorem dX6_bestAngle_9 : decode cX6_bestAngle 9 = .ok (.iload 4, 2) := by decide +kernel
theorem dX6_bestAngle_11 : decode cX6_bestAngle 11 = .ok (.bipush 6, 2) := by decide +kernel
theorem dX6_bestAngle_13 : decode cX6_bestAngle 13 = .ok (.if_icmp .gt 40, 3) := by decide +kernel
theorem dX6_bestAngle_16 : decode cX6_bestAngle 16 = .ok (.aload_n 0, 1) := by decide +kernel
theorem dX6_bestAngle_17 : decode cX6_bestAngle 17 = .ok (.getfield 35, 3) := by decide +kernel
theorem dX6_bestAngle_20 : decode cX6_bestAngle 20 = .ok (.getfield 129, 3) := by decide +kernel
theorem dX6_bestAngle_23 : decode cX6_bestAngle 23 = .ok (.ifCond .le 30, 3) := by decide +kernel
theorem dX6_bestAngle_26 : decode cX6_bestAngle 26 = .ok (.aload_n 0, 1) := by decide +kernel
theorem dX6_bestAngle_27 : decode cX6_bestAngle 27 = .ok (.iload 4, 2) := by decide +kernel
theorem dX6_bestAngle_29 : decode cX6_bestAngle 29 = .ok (.iload_n 1, 1) := by decide +kernel
theorem dX6_bestAngle_30 : decode cX6_bestAngle 30 = .ok (.invokevirtual 243, 3) := by decide +kernel
theorem dX6_bestAngle_33 : decode cX6_bestAngle 33 = .ok (.istore 5, 2) := by decide +kernel
theorem dX6_bestAngle_35 : decode cX6_bestAngle 35 = .ok (.iload 5, 2) := by decide +kernel
theorem dX6_bestAngle_37 : decode cX6_bestAngle 37 = .ok (.iload_n 3, 1) := by decide +kernel
theorem dX6_bestAngle_38 : decode cX6_bestAngle 38 = .ok (.if_icmp .le 9, 3) := by decide +kernel
theorem dX6_bestAngle_41 : decode cX6_bestAngle 41 = .ok (.iload 5, 2) := by decide +kernel
theorem dX6_bestAngle_43 : decode cX6_bestAngle 43 = .ok (.istore_n 3, 1) := by decide +kernel
theorem dX6_bestAngle_44 : decode cX6_bestAngle 44 = .ok (.iload 4, 2) := by decide +kernel
theorem dX6_bestAngle_46 : decode cX6_bestAngle 46 = .ok (.istore_n 2, 1) := by decide +kernel
theorem dX6_bestAngle_47 : decode cX6_bestAngle 47 = .ok (.iinc 4 1, 3) := by decide +kernel
theorem dX6_bestAngle_50 : decode cX6_bestAngle 50 = .ok (.goto (-41), 3) := by decide +kernel
theorem dX6_bestAngle_53 : decode cX6_bestAngle 53 = .ok (.iload_n 2, 1) := by decide +kernel
theorem dX6_bestAngle_54 : decode cX6_bestAngle 54 = .ok (.ireturn, 1) := by decide +kernel
theorem dX6_seam_0 : decode cX6_seam 0 = .ok (.aload_n 0, 1) := by decide +kernel
theorem dX6_seam_1 : decode cX6_seam 1 = .ok (.getfield 35, 3) := by decide +kernel
theorem dX6_seam_4 : decode cX6_seam 4 = .ok (.iload_n 1, 1) := by decide +kernel
theorem dX6_seam_5 : decode cX6_seam 5 = .ok (.invokevirtual 162, 3) := by decide +kernel
theorem dX6_seam_8 : decode cX6_seam 8 = .ok (.ifCond .eq 7, 3) := by decide +kernel
theorem dX6_seam_11 : decode cX6_seam 11 = .ok (.iconst 0, 1) := by decide +kernel
theorem dX6_seam_12 : decode cX6_seam 12 = .ok (.goto 4, 3) := by decide +kernel
theorem dX6_seam_15 : decode cX6_seam 15 = .ok (.iconst 1, 1) := by decide +kernel
theorem dX6_seam_16 : decode cX6_seam 16 = .ok (.invokestatic 166, 3) := by decide +kernel
theorem dX6_seam_19 : decode cX6_seam 19 = .ok (.aload_n 0, 1) := by decide +kernel
theorem dX6_seam_20 : decode cX6_seam 20 = .ok (.getfield 35, 3) := by decide +kernel
theorem dX6_seam_23 : decode cX6_seam 23 = .ok (.iload_n 1, 1) := by decide +kernel
theorem dX6_seam_24 : decode cX6_seam 24 = .ok (.invokevirtual 263, 3) := by decide +kernel
theorem dX6_seam_27 : decode cX6_seam 27 = .ok (.ireturn, 1) := by decide +kernel
theorem dX6_run_0 : decode cX6_run 0 = .ok (.iload_n 1, 1) := by decide +kernel
theorem dX6_run_1 : decode cX6_run 1 = .ok (.invokestatic 229, 3) := by decide +kernel
theorem dX6_run_4 : decode cX6_run 4 = .ok (.invokestatic 166, 3) := by decide +kernel
theorem dX6_run_7 : decode cX6_run 7 = .ok (.aload_n 0, 1) := by decide +kernel
theorem dX6_run_8 : decode cX6_run 8 = .ok (.getfield 54, 3) := by decide +kernel
theorem dX6_run_11 : decode cX6_run 11 = .ok (.aload_n 0, 1) := by decide +kernel
theorem dX6_run_12 : decode cX6_run 12 = .ok (.getfield 35, 3) := by decide +kernel
theorem dX6_run_15 : decode cX6_run 15 = .ok (.getfield 175, 3) := by decide +kernel
theorem dX6_run_18 : decode cX6_run 18 = .ok (.iload_n 1, 1) := by decide +kernel
theorem dX6_run_19 : decode cX6_run 19 = .ok (.invokevirtual 232, 3) := by decide +kernel
theorem dX6_run_22 : decode cX6_run 22 = .ok (.aload_n 0, 1) := by decide +kernel
theorem dX6_run_23 : decode cX6_run 23 = .ok (.getfield 54, 3) := by decide +kernel
theorem dX6_run_26 : decode cX6_run 26 = .ok (.invokevirtual 266, 3) := by decide +kernel
theorem dX6_run_29 : decode cX6_run 29 = .ok (.ireturn, 1) := by decide +kernel
theorem dX6_ghosts_0 : decode cX6_ghosts 0 = .ok (.iload_n 1, 1) := by decide +kernel
theorem dX6_ghosts_1 : decode cX6_ghosts 1 = .ok (.invokestatic 229, 3) := by decide +kernel
theorem dX6_ghosts_4 : decode cX6_ghosts 4 = .ok (.invokestatic 166, 3) := by decide +kernel
theorem dX6_ghosts_7 : decode cX6_ghosts 7 = .ok (.aload_n 0, 1) := by decide +kernel
theorem dX6_ghosts_8 : decode cX6_ghosts 8 = .ok (.getfield 54, 3) := by decide +kernel
theorem dX6_ghosts_11 : decode cX6_ghosts 11 = .ok (.aload_n 0, 1) := by decide +kernel
theorem dX6_ghosts_12 : decode cX6_ghosts 12 = .ok (.getfield 35, 3) := by decide +kernel
theorem dX6_ghosts_15 : decode cX6_ghosts 15 = .ok (.getfield 175, 3) := by decide +kernel
theorem dX6_ghosts_18 : decode cX6_ghosts 18 = .ok (.iload_n 1, 1) := by decide +kernel
theorem dX6_ghosts_19 : decode cX6_ghosts 19 = .ok (.invokevirtual 232, 3) := by decide +kernel
theorem dX6_ghosts_22 : decode cX6_ghosts 22 = .ok (.aload_n 0, 1) := by decide +kernel
theorem dX6_ghosts_23 : decode cX6_ghosts 23 = .ok (.getfield 54, 3) := by decide +kernel
theorem dX6_ghosts_26 : decode cX6_ghosts 26 = .ok (.iload_n 2, 1) := by decide +kernel
theorem dX6_ghosts_27 : decode cX6_ghosts 27 = .ok (.invokevirtual 272, 3) := by decide +kernel
theorem dX6_ghosts_30 : decode cX6_ghosts 30 = .ok (.ireturn, 1) := by decide +kernel
theorem dX6_paintable_0 : decode cX6_paintable 0 = .ok (.iconst 0, 1) := by decide +kernel
theorem dX6_paintable_1 : decode cX6_paintable 1 = .ok (.istore_n 2, 1) := by decide +kernel
theorem dX6_paintable_2 : decode cX6_paintable 2 = .ok (.iconst 0, 1) := by decide +kernel
theorem dX6_paintable_3 : decode cX6_paintable 3 = .ok (.istore_n 3, 1) := by decide +kernel
theorem dX6_paintable_4 : decode cX6_paintable 4 = .ok (.iload_n 3, 1) := by decide +kernel
theorem dX6_paintable_5 : decode cX6_paintable 5 = .ok (.aload_n 0, 1) := by decide +kernel
theorem dX6_paintable_6 : decode cX6_paintable 6 = .ok (.getfield 35, 3) := by decide +kernel
theorem dX6_paintable_9 : decode cX6_paintable 9 = .ok (.getfield 101, 3) := by decide +kernel
theorem dX6_paintable_12 : decode cX6_paintable 12 = .ok (.if_icmp .ge 39, 3) := by decide +kernel
theorem dX6_paintable_15 : decode cX6_paintable 15 = .ok (.aload_n 0, 1) := by decide +kernel
theorem dX6_paintable_16 : decode cX6_paintable 16 = .ok (.getfield 35, 3) := by decide +kernel
theorem dX6_paintable_19 : decode cX6_paintable 19 = .ok (.iload_n 3, 1) := by decide +kernel
theorem dX6_paintable_20 : decode cX6_paintable 20 = .ok (.iload_n 1, 1) := by decide +kernel
theorem dX6_paintable_21 : decode cX6_paintable 21 = .ok (.invokevirtual 275, 3) := by decide +kernel
theorem dX6_paintable_24 : decode cX6_paintable 24 = .ok (.ifCond .eq 21, 3) := by decide +kernel
theorem dX6_paintable_27 : decode cX6_paintable 27 = .ok (.aload_n 0, 1) := by decide +kernel
theorem dX6_paintable_28 : decode cX6_paintable 28 = .ok (.getfield 35, 3) := by decide +kernel
theorem dX6_paintable_31 : decode cX6_paintable 31 = .ok (.iload_n 3, 1) := by decide +kernel
theorem dX6_paintable_32 : decode cX6_paintable 32 = .ok (.iload_n 1, 1) := by decide +kernel
theorem dX6_paintable_33 : decode cX6_paintable 33 = .ok (.invokevirtual 187, 3) := by decide +kernel
theorem dX6_paintable_36 : decode cX6_paintable 36 = .ok (.ifCond .le 9, 3) := by decide +kernel
theorem dX6_paintable_39 : decode cX6_paintable 39 = .ok (.iload_n 2, 1) := by decide +kernel
theorem dX6_paintable_40 : decode cX6_paintable 40 = .ok (.iconst 1, 1) := by decide +kernel
theorem dX6_paintable_41 : decode cX6_paintable 41 = .ok (.iload_n 3, 1) := by decide +kernel
theorem dX6_paintable_42 : decode cX6_paintable 42 = .ok (.ishl, 1) := by decide +kernel
theorem dX6_paintable_43 : decode cX6_paintable 43 = .ok (.ior, 1) := by decide +kernel
theorem dX6_paintable_44 : decode cX6_paintable 44 = .ok (.istore_n 2, 1) := by decide +kernel
theorem dX6_paintable_45 : decode cX6_paintable 45 = .ok (.iinc 3 1, 3) := by decide +kernel
theorem dX6_paintable_48 : decode cX6_paintable 48 = .ok (.goto (-44), 3) := by decide +kernel
theorem dX6_paintable_51 : decode cX6_paintable 51 = .ok (.iload_n 2, 1) := by decide +kernel
theorem dX6_paintable_52 : decode cX6_paintable 52 = .ok (.ireturn, 1) := by decide +kernel
theorem dX6_light_0 : decode cX6_light 0 = .ok (.iload_n 1, 1) := by decide +kernel
theorem dX6_light_1 : decode cX6_light 1 = .ok (.invokestatic 229, 3) := by decide +kernel
theorem dX6_light_4 : decode cX6_light 4 = .ok (.invokestatic 166, 3) := by decide +kernel
theorem dX6_light_7 : decode cX6_light 7 = .ok (.aload_n 0, 1) := by decide +kernel
theorem dX6_light_8 : decode cX6_light 8 = .ok (.getfield 35, 3) := by decide +kernel
theorem dX6_light_11 : decode cX6_light 11 = .ok (.invokevirtual 217, 3) := by decide +kernel
theorem dX6_light_14 : decode cX6_light 14 = .ok (.istore_n 2, 1) := by decide +kernel
theorem dX6_light_15 : decode cX6_light 15 = .ok (.iload_n 2, 1) := by decide +kernel
theorem dX6_light_16 : decode cX6_light 16 = .ok (.ifCond .gt 5, 3) := by decide +kernel
theorem dX6_light_19 : decode cX6_light 19 = .ok (.fconst 0, 1) := by decide +kernel
theorem dX6_light_20 : decode cX6_light 20 = .ok (.freturn, 1) := by decide +kernel
theorem dX6_light_21 : decode cX6_light 21 = .ok (.aload_n 0, 1) := by decide +kernel
theorem dX6_light_22 : decode cX6_light 22 = .ok (.iload_n 1, 1) := by decide +kernel
theorem dX6_light_23 : decode cX6_light 23 = .ok (.invokevirtual 246, 3) := by decide +kernel
theorem dX6_light_26 : decode cX6_light 26 = .ok (.i2f, 1) := by decide +kernel
theorem dX6_light_27 : decode cX6_light 27 = .ok (.iload_n 2, 1) := by decide +kernel
theorem dX6_light_28 : decode cX6_light 28 = .ok (.i2f, 1) := by decide +kernel
theorem dX6_light_29 : decode cX6_light 29 = .ok (.fdiv, 1) := by decide +kernel
theorem dX6_light_30 : decode cX6_light 30 = .ok (.freturn, 1) := by decide +kernel
theorem dX6_lightest_0 : decode cX6_lightest 0 = .ok (.bipush (-99), 2) := by decide +kernel
theorem dX6_lightest_2 : decode cX6_lightest 2 = .ok (.istore_n 1, 1) := by decide +kernel
theorem dX6_lightest_3 : decode cX6_lightest 3 = .ok (.iconst (-1), 1) := by decide +kernel
theorem dX6_lightest_4 : decode cX6_lightest 4 = .ok (.istore_n 2, 1) := by decide +kernel
theorem dX6_lightest_5 : decode cX6_lightest 5 = .ok (.bipush (-6), 2) := by decide +kernel
theorem dX6_lightest_7 : decode cX6_lightest 7 = .ok (.istore_n 3, 1) := by decide +kernel
theorem dX6_lightest_8 : decode cX6_lightest 8 = .ok (.iload_n 3, 1) := by decide +kernel
theorem dX6_lightest_9 : decode cX6_lightest 9 = .ok (.bipush 6, 2) := by decide +kernel
theorem dX6_lightest_11 : decode cX6_lightest 11 = .ok (.if_icmp .gt 37, 3) := by decide +kernel
theorem dX6_lightest_14 : decode cX6_lightest 14 = .ok (.aload_n 0, 1) := by decide +kernel
theorem dX6_lightest_15 : decode cX6_lightest 15 = .ok (.getfield 35, 3) := by decide +kernel
theorem dX6_lightest_18 : decode cX6_lightest 18 = .ok (.getfield 129, 3) := by decide +kernel
theorem dX6_lightest_21 : decode cX6_lightest 21 = .ok (.ifCond .le 27, 3) := by decide +kernel
theorem dX6_lightest_24 : decode cX6_lightest 24 = .ok (.aload_n 0, 1) := by decide +kernel
theorem dX6_lightest_25 : decode cX6_lightest 25 = .ok (.iload_n 3, 1) := by decide +kernel
theorem dX6_lightest_26 : decode cX6_lightest 26 = .ok (.invokevirtual 246, 3) := by decide +kernel
theorem dX6_lightest_29 : decode cX6_lightest 29 = .ok (.istore 4, 2) := by decide +kernel
theorem dX6_lightest_31 : decode cX6_lightest 31 = .ok (.iload 4, 2) := by decide +kernel
theorem dX6_lightest_33 : decode cX6_lightest 33 = .ok (.iload_n 2, 1) := by decide +kernel
theorem dX6_lightest_34 : decode cX6_lightest 34 = .ok (.if_icmp .le 8, 3) := by decide +kernel
theorem dX6_lightest_37 : decode cX6_lightest 37 = .ok (.iload 4, 2) := by decide +kernel
theorem dX6_lightest_39 : decode cX6_lightest 39 = .ok (.istore_n 2, 1) := by decide +kernel
theorem dX6_lightest_40 : decode cX6_lightest 40 = .ok (.iload_n 3, 1) := by decide +kernel
theorem dX6_lightest_41 : decode cX6_lightest 41 = .ok (.istore_n 1, 1) := by decide +kernel
theorem dX6_lightest_42 : decode cX6_lightest 42 = .ok (.iinc 3 1, 3) := by decide +kernel
theorem dX6_lightest_45 : decode cX6_lightest 45 = .ok (.goto (-37), 3) := by decide +kernel
theorem dX6_lightest_48 : decode cX6_lightest 48 = .ok (.iload_n 1, 1) := by decide +kernel
theorem dX6_lightest_49 : decode cX6_lightest 49 = .ok (.ireturn, 1) := by decide +kernel
theorem dX6_bestTurn_0 : decode cX6_bestTurn 0 = .ok (.aload_n 0, 1) := by decide +kernel
theorem dX6_bestTurn_1 : decode cX6_bestTurn 1 = .ok (.getfield 35, 3) := by decide +kernel
theorem dX6_bestTurn_4 : decode cX6_bestTurn 4 = .ok (.iload_n 1, 1) := by decide +kernel
theorem dX6_bestTurn_5 : decode cX6_bestTurn 5 = .ok (.invokevirtual 162, 3) := by decide +kernel
theorem dX6_bestTurn_8 : decode cX6_bestTurn 8 = .ok (.ifCond .eq 10, 3) := by decide +kernel
theorem dX6_bestTurn_11 : decode cX6_bestTurn 11 = .ok (.iload_n 2, 1) := by decide +kernel
theorem dX6_bestTurn_12 : decode cX6_bestTurn 12 = .ok (.invokestatic 229, 3) := by decide +kernel
theorem dX6_bestTurn_15 : decode cX6_bestTurn 15 = .ok (.goto 4, 3) := by decide +kernel
theorem dX6_bestTurn_18 : decode cX6_bestTurn 18 = .ok (.iconst 1, 1) := by decide +kernel
theorem dX6_bestTurn_19 : decode cX6_bestTurn 19 = .ok (.invokestatic 166, 3) := by decide +kernel
theorem dX6_bestTurn_22 : decode cX6_bestTurn 22 = .ok (.aload_n 0, 1) := by decide +kernel
theorem dX6_bestTurn_23 : decode cX6_bestTurn 23 = .ok (.getfield 35, 3) := by decide +kernel
theorem dX6_bestTurn_26 : decode cX6_bestTurn 26 = .ok (.getfield 175, 3) := by decide +kernel
theorem dX6_bestTurn_29 : decode cX6_bestTurn 29 = .ok (.iconst 0, 1) := by decide +kernel
theorem dX6_bestTurn_30 : decode cX6_bestTurn 30 = .ok (.aload_n 0, 1) := by decide +kernel
theorem dX6_bestTurn_31 : decode cX6_bestTurn 31 = .ok (.getfield 58, 3) := by decide +kernel
theorem dX6_bestTurn_34 : decode cX6_bestTurn 34 = .ok (.iconst 0, 1) := by decide +kernel
theorem dX6_bestTurn_35 : decode cX6_bestTurn 35 = .ok (.bipush 10, 2) := by decide +kernel
theorem dX6_bestTurn_37 : decode cX6_bestTurn 37 = .ok (.invokestatic 286, 3) := by decide +kernel
theorem dX6_bestTurn_40 : decode cX6_bestTurn 40 = .ok (.bipush (-4), 2) := by decide +kernel
theorem dX6_bestTurn_42 : decode cX6_bestTurn 42 = .ok (.istore 4, 2) := by decide +kernel
theorem dX6_bestTurn_44 : decode cX6_bestTurn 44 = .ok (.iconst (-1), 1) := by decide +kernel
theorem dX6_bestTurn_45 : decode cX6_bestTurn 45 = .ok (.istore 5, 2) := by decide +kernel
theorem dX6_bestTurn_47 : decode cX6_bestTurn 47 = .ok (.bipush (-4), 2) := by decide +kernel
theorem dX6_bestTurn_49 : decode cX6_bestTurn 49 = .ok (.istore 6, 2) := by decide +kernel
theorem dX6_bestTurn_51 : decode cX6_bestTurn 51 = .ok (.iload 6, 2) := by decide +kernel
theorem dX6_bestTurn_53 : decode cX6_bestTurn 53 = .ok (.iconst 4, 1) := by decide +kernel
theorem dX6_bestTurn_54 : decode cX6_bestTurn 54 = .ok (.if_icmp .gt 40, 3) := by decide +kernel
theorem dX6_bestTurn_57 : decode cX6_bestTurn 57 = .ok (.aload_n 0, 1) := by decide +kernel
theorem dX6_bestTurn_58 : decode cX6_bestTurn 58 = .ok (.getfield 58, 3) := by decide +kernel
theorem dX6_bestTurn_61 : decode cX6_bestTurn 61 = .ok (.iload_n 1, 1) := by decide +kernel
theorem dX6_bestTurn_62 : decode cX6_bestTurn 62 = .ok (.iload 6, 2) := by decide +kernel
theorem dX6_bestTurn_64 : decode cX6_bestTurn 64 = .ok (.iastore, 1) := by decide +kernel
theorem dX6_bestTurn_65 : decode cX6_bestTurn 65 = .ok (.aload_n 0, 1) := by decide +kernel
theorem dX6_bestTurn_66 : decode cX6_bestTurn 66 = .ok (.iload_n 2, 1) := by decide +kernel
theorem dX6_bestTurn_67 : decode cX6_bestTurn 67 = .ok (.iload_n 3, 1) := by decide +kernel
theorem dX6_bestTurn_68 : decode cX6_bestTurn 68 = .ok (.invokevirtual 292, 3) := by decide +kernel
theorem dX6_bestTurn_71 : decode cX6_bestTurn 71 = .ok (.istore 7, 2) := by decide +kernel
theorem dX6_bestTurn_73 : decode cX6_bestTurn 73 = .ok (.iload 7, 2) := by decide +kernel
theorem dX6_bestTurn_75 : decode cX6_bestTurn 75 = .ok (.iload 5, 2) := by decide +kernel
theorem dX6_bestTurn_77 : decode cX6_bestTurn 77 = .ok (.if_icmp .le 11, 3) := by decide +kernel
theorem dX6_bestTurn_80 : decode cX6_bestTurn 80 = .ok (.iload 7, 2) := by decide +kernel
theorem dX6_bestTurn_82 : decode cX6_bestTurn 82 = .ok (.istore 5, 2) := by decide +kernel
theorem dX6_bestTurn_84 : decode cX6_bestTurn 84 = .ok (.iload 6, 2) := by decide +kernel
theorem dX6_bestTurn_86 : decode cX6_bestTurn 86 = .ok (.istore 4, 2) := by decide +kernel
theorem dX6_bestTurn_88 : decode cX6_bestTurn 88 = .ok (.iinc 6 1, 3) := by decide +kernel
theorem dX6_bestTurn_91 : decode cX6_bestTurn 91 = .ok (.goto (-40), 3) := by decide +kernel
theorem dX6_bestTurn_94 : decode cX6_bestTurn 94 = .ok (.iload 4, 2) := by decide +kernel
theorem dX6_bestTurn_96 : decode cX6_bestTurn 96 = .ok (.ireturn, 1) := by decide +kernel
theorem dX6_bestPull_0 : decode cX6_bestPull 0 = .ok (.iload_n 1, 1) := by decide +kernel
theorem dX6_bestPull_1 : decode cX6_bestPull 1 = .ok (.invokestatic 229, 3) := by decide +kernel
theorem dX6_bestPull_4 : decode cX6_bestPull 4 = .ok (.invokestatic 166, 3) := by decide +kernel
theorem dX6_bestPull_7 : decode cX6_bestPull 7 = .ok (.iconst 0, 1) := by decide +kernel
theorem dX6_bestPull_8 : decode cX6_bestPull 8 = .ok (.istore_n 3, 1) := by decide +kernel
theorem dX6_bestPull_9 : decode cX6_bestPull 9 = .ok (.aload_n 0, 1) := by decide +kernel
theorem dX6_bestPull_10 : decode cX6_bestPull 10 = .ok (.iload_n 1, 1) := by decide +kernel
theorem dX6_bestPull_11 : decode cX6_bestPull 11 = .ok (.iload_n 2, 1) := by decide +kernel
theorem dX6_bestPull_12 : decode cX6_bestPull 12 = .ok (.invokevirtual 243, 3) := by decide +kernel
theorem dX6_bestPull_15 : decode cX6_bestPull 15 = .ok (.istore 4, 2) := by decide +kernel
theorem dX6_bestPull_17 : decode cX6_bestPull 17 = .ok (.iconst 1, 1) := by decide +kernel
theorem dX6_bestPull_18 : decode cX6_bestPull 18 = .ok (.istore 5, 2) := by decide +kernel
theorem dX6_bestPull_20 : decode cX6_bestPull 20 = .ok (.iload 5, 2) := by decide +kernel
theorem dX6_bestPull_22 : decode cX6_bestPull 22 = .ok (.bipush 8, 2) := by decide +kernel
theorem dX6_bestPull_24 : decode cX6_bestPull 24 = .ok (.if_icmp .gt 59, 3) := by decide +kernel
theorem dX6_bestPull_27 : decode cX6_bestPull 27 = .ok (.aload_n 0, 1) := by decide +kernel
theorem dX6_bestPull_28 : decode cX6_bestPull 28 = .ok (.iload 5, 2) := by decide +kernel
theorem dX6_bestPull_30 : decode cX6_bestPull 30 = .ok (.ineg, 1) := by decide +kernel
theorem dX6_bestPull_31 : decode cX6_bestPull 31 = .ok (.iload_n 1, 1) := by decide +kernel
theorem dX6_bestPull_32 : decode cX6_bestPull 32 = .ok (.iload_n 2, 1) := by decide +kernel
theorem dX6_bestPull_33 : decode cX6_bestPull 33 = .ok (.invokevirtual 295, 3) := by decide +kernel
theorem dX6_bestPull_36 : decode cX6_bestPull 36 = .ok (.istore 6, 2) := by decide +kernel
theorem dX6_bestPull_38 : decode cX6_bestPull 38 = .ok (.iload 6, 2) := by decide +kernel
theorem dX6_bestPull_40 : decode cX6_bestPull 40 = .ok (.iload 4, 2) := by decide +kernel
theorem dX6_bestPull_42 : decode cX6_bestPull 42 = .ok (.if_icmp .le 11, 3) := by decide +kernel
theorem dX6_bestPull_45 : decode cX6_bestPull 45 = .ok (.iload 6, 2) := by decide +kernel
theorem dX6_bestPull_47 : decode cX6_bestPull 47 = .ok (.istore 4, 2) := by decide +kernel
theorem dX6_bestPull_49 : decode cX6_bestPull 49 = .ok (.iload 5, 2) := by decide +kernel
theorem dX6_bestPull_51 : decode cX6_bestPull 51 = .ok (.ineg, 1) := by decide +kernel
theorem dX6_bestPull_52 : decode cX6_bestPull 52 = .ok (.istore_n 3, 1) := by decide +kernel
theorem dX6_bestPull_53 : decode cX6_bestPull 53 = .ok (.aload_n 0, 1) := by decide +kernel
theorem dX6_bestPull_54 : decode cX6_bestPull 54 = .ok (.iload 5, 2) := by decide +kernel
theorem dX6_bestPull_56 : decode cX6_bestPull 56 = .ok (.iload_n 1, 1) := by decide +kernel
theorem dX6_bestPull_57 : decode cX6_bestPull 57 = .ok (.iload_n 2, 1) := by decide +kernel
theorem dX6_bestPull_58 : decode cX6_bestPull 58 = .ok (.invokevirtual 295, 3) := by decide +kernel
theorem dX6_bestPull_61 : decode cX6_bestPull 61 = .ok (.istore 7, 2) := by decide +kernel
theorem dX6_bestPull_63 : decode cX6_bestPull 63 = .ok (.iload 7, 2) := by decide +kernel
theorem dX6_bestPull_65 : decode cX6_bestPull 65 = .ok (.iload 4, 2) := by decide +kernel
theorem dX6_bestPull_67 : decode cX6_bestPull 67 = .ok (.if_icmp .le 10, 3) := by decide +kernel
theorem dX6_bestPull_70 : decode cX6_bestPull 70 = .ok (.iload 7, 2) := by decide +kernel
theorem dX6_bestPull_72 : decode cX6_bestPull 72 = .ok (.istore 4, 2) := by decide +kernel
theorem dX6_bestPull_74 : decode cX6_bestPull 74 = .ok (.iload 5, 2) := by decide +kernel
theorem dX6_bestPull_76 : decode cX6_bestPull 76 = .ok (.istore_n 3, 1) := by decide +kernel
theorem dX6_bestPull_77 : decode cX6_bestPull 77 = .ok (.iinc 5 1, 3) := by decide +kernel
theorem dX6_bestPull_80 : decode cX6_bestPull 80 = .ok (.goto (-60), 3) := by decide +kernel
theorem dX6_bestPull_83 : decode cX6_bestPull 83 = .ok (.iload_n 3, 1) := by decide +kernel
theorem dX6_bestPull_84 : decode cX6_bestPull 84 = .ok (.ireturn, 1) := by decide +kernel
theorem dX6_turnsNeeded_0 : decode cX6_turnsNeeded 0 = .ok (.iload_n 1, 1) := by decide +kernel
theorem dX6_turnsNeeded_1 : decode cX6_turnsNeeded 1 = .ok (.invokestatic 229, 3) := by decide +kernel
theorem dX6_turnsNeeded_4 : decode cX6_turnsNeeded 4 = .ok (.invokestatic 166, 3) := by decide +kernel
theorem dX6_turnsNeeded_7 : decode cX6_turnsNeeded 7 = .ok (.iconst (-1), 1) := by decide +kernel
theorem dX6_turnsNeeded_8 : decode cX6_turnsNeeded 8 = .ok (.istore_n 3, 1) := by decide +kernel
theorem dX6_turnsNeeded_9 : decode cX6_turnsNeeded 9 = .ok (.bipush (-4), 2) := by decide +kernel
theorem dX6_turnsNeeded_11 : decode cX6_turnsNeeded 11 = .ok (.istore 4, 2) := by decide +kernel
theorem dX6_turnsNeeded_13 : decode cX6_turnsNeeded 13 = .ok (.iload 4, 2) := by decide +kernel
theorem dX6_turnsNeeded_15 : decode cX6_turnsNeeded 15 = .ok (.iconst 4, 1) := by decide +kernel
theorem dX6_turnsNeeded_16 : decode cX6_turnsNeeded 16 = .ok (.if_icmp .gt 84, 3) := by decide +kernel
theorem dX6_turnsNeeded_19 : decode cX6_turnsNeeded 19 = .ok (.aload_n 0, 1) := by decide +kernel
theorem dX6_turnsNeeded_20 : decode cX6_turnsNeeded 20 = .ok (.getfield 35, 3) := by decide +kernel
theorem dX6_turnsNeeded_23 : decode cX6_turnsNeeded 23 = .ok (.iload 4, 2) := by decide +kernel
theorem dX6_turnsNeeded_25 : decode cX6_turnsNeeded 25 = .ok (.invokevirtual 302, 3) := by decide +kernel
theorem dX6_turnsNeeded_28 : decode cX6_turnsNeeded 28 = .ok (.istore 5, 2) := by decide +kernel
theorem dX6_turnsNeeded_30 : decode cX6_turnsNeeded 30 = .ok (.aload_n 0, 1) := by decide +kernel
theorem dX6_turnsNeeded_31 : decode cX6_turnsNeeded 31 = .ok (.getfield 58, 3) := by decide +kernel
theorem dX6_turnsNeeded_34 : decode cX6_turnsNeeded 34 = .ok (.iload 4, 2) := by decide +kernel
theorem dX6_turnsNeeded_36 : decode cX6_turnsNeeded 36 = .ok (.invokestatic 305, 3) := by decide +kernel
theorem dX6_turnsNeeded_39 : decode cX6_turnsNeeded 39 = .ok (.aload_n 0, 1) := by decide +kernel
theorem dX6_turnsNeeded_40 : decode cX6_turnsNeeded 40 = .ok (.getfield 54, 3) := by decide +kernel
theorem dX6_turnsNeeded_43 : decode cX6_turnsNeeded 43 = .ok (.aload_n 0, 1) := by decide +kernel
theorem dX6_turnsNeeded_44 : decode cX6_turnsNeeded 44 = .ok (.getfield 58, 3) := by decide +kernel
theorem dX6_turnsNeeded_47 : decode cX6_turnsNeeded 47 = .ok (.iload_n 1, 1) := by decide +kernel
theorem dX6_turnsNeeded_48 : decode cX6_turnsNeeded 48 = .ok (.invokevirtual 232, 3) := by decide +kernel
theorem dX6_turnsNeeded_51 : decode cX6_turnsNeeded 51 = .ok (.iload_n 3, 1) := by decide +kernel
theorem dX6_turnsNeeded_52 : decode cX6_turnsNeeded 52 = .ok (.iconst (-1), 1) := by decide +kernel
theorem dX6_turnsNeeded_53 : decode cX6_turnsNeeded 53 = .ok (.if_icmp .eq 9, 3) := by decide +kernel
theorem dX6_turnsNeeded_56 : decode cX6_turnsNeeded 56 = .ok (.iload 5, 2) := by decide +kernel
theorem dX6_turnsNeeded_58 : decode cX6_turnsNeeded 58 = .ok (.iload_n 3, 1) := by decide +kernel
theorem dX6_turnsNeeded_59 : decode cX6_turnsNeeded 59 = .ok (.if_icmp .ge 7, 3) := by decide +kernel
theorem dX6_turnsNeeded_62 : decode cX6_turnsNeeded 62 = .ok (.iconst 1, 1) := by decide +kernel
theorem dX6_turnsNeeded_63 : decode cX6_turnsNeeded 63 = .ok (.goto 4, 3) := by decide +kernel
theorem dX6_turnsNeeded_66 : decode cX6_turnsNeeded 66 = .ok (.iconst 0, 1) := by decide +kernel
theorem dX6_turnsNeeded_67 : decode cX6_turnsNeeded 67 = .ok (.istore 6, 2) := by decide +kernel
theorem dX6_turnsNeeded_69 : decode cX6_turnsNeeded 69 = .ok (.iload 5, 2) := by decide +kernel
theorem dX6_turnsNeeded_71 : decode cX6_turnsNeeded 71 = .ok (.iconst (-1), 1) := by decide +kernel
theorem dX6_turnsNeeded_72 : decode cX6_turnsNeeded 72 = .ok (.if_icmp .eq 22, 3) := by decide +kernel
theorem dX6_turnsNeeded_75 : decode cX6_turnsNeeded 75 = .ok (.iload 6, 2) := by decide +kernel
theorem dX6_turnsNeeded_77 : decode cX6_turnsNeeded 77 = .ok (.ifCond .eq 17, 3) := by decide +kernel
theorem dX6_turnsNeeded_80 : decode cX6_turnsNeeded 80 = .ok (.aload_n 0, 1) := by decide +kernel
theorem dX6_turnsNeeded_81 : decode cX6_turnsNeeded 81 = .ok (.getfield 54, 3) := by decide +kernel
theorem dX6_turnsNeeded_84 : decode cX6_turnsNeeded 84 = .ok (.iload_n 2, 1) := by decide +kernel
theorem dX6_turnsNeeded_85 : decode cX6_turnsNeeded 85 = .ok (.invokevirtual 252, 3) := by decide +kernel
theorem dX6_turnsNeeded_88 : decode cX6_turnsNeeded 88 = .ok (.ifCond .eq 6, 3) := by decide +kernel
theorem dX6_turnsNeeded_91 : decode cX6_turnsNeeded 91 = .ok (.iload 5, 2) := by decide +kernel
theorem dX6_turnsNeeded_93 : decode cX6_turnsNeeded 93 = .ok (.istore_n 3, 1) := by decide +kernel
theorem dX6_turnsNeeded_94 : decode cX6_turnsNeeded 94 = .ok (.iinc 4 1, 3) := by decide +kernel
theorem dX6_turnsNeeded_97 : decode cX6_turnsNeeded 97 = .ok (.goto (-84), 3) := by decide +kernel
theorem dX6_turnsNeeded_100 : decode cX6_turnsNeeded 100 = .ok (.iload_n 3, 1) := by decide +kernel
theorem dX6_turnsNeeded_101 : decode cX6_turnsNeeded 101 = .ok (.ireturn, 1) := by decide +kernel
theorem dX6_pull_0 : decode cX6_pull 0 = .ok (.iload_n 1, 1) := by decide +kernel
theorem dX6_pull_1 : decode cX6_pull 1 = .ok (.invokestatic 310, 3) := by decide +kernel
theorem dX6_pull_4 : decode cX6_pull 4 = .ok (.invokestatic 166, 3) := by decide +kernel
theorem dX6_pull_7 : decode cX6_pull 7 = .ok (.aload_n 0, 1) := by decide +kernel
theorem dX6_pull_8 : decode cX6_pull 8 = .ok (.getfield 45, 3) := by decide +kernel
theorem dX6_pull_11 : decode cX6_pull 11 = .ok (.aload_n 0, 1) := by decide +kernel
theorem dX6_pull_12 : decode cX6_pull 12 = .ok (.getfield 35, 3) := by decide +kernel
theorem dX6_pull_15 : decode cX6_pull 15 = .ok (.invokevirtual 107, 3) := by decide +kernel
theorem dX6_pull_18 : decode cX6_pull 18 = .ok (.aload_n 0, 1) := by decide +kernel
theorem dX6_pull_19 : decode cX6_pull 19 = .ok (.getfield 35, 3) := by decide +kernel
theorem dX6_pull_22 : decode cX6_pull 22 = .ok (.iload_n 1, 1) := by decide +kernel
theorem dX6_pull_23 : decode cX6_pull 23 = .ok (.invokevirtual 313, 3) := by decide +kernel
theorem dX6_pull_26 : decode cX6_pull 26 = .ok (.ireturn, 1) := by decide +kernel
theorem dX6_turn_0 : decode cX6_turn 0 = .ok (.aload_n 0, 1) := by decide +kernel
theorem dX6_turn_1 : decode cX6_turn 1 = .ok (.iload_n 1, 1) := by decide +kernel
theorem dX6_turn_2 : decode cX6_turn 2 = .ok (.iload_n 2, 1) := by decide +kernel
theorem dX6_turn_3 : decode cX6_turn 3 = .ok (.invokevirtual 316, 3) := by decide +kernel
theorem dX6_turn_6 : decode cX6_turn 6 = .ok (.invokestatic 166, 3) := by decide +kernel
theorem dX6_turn_9 : decode cX6_turn 9 = .ok (.aload_n 0, 1) := by decide +kernel
theorem dX6_turn_10 : decode cX6_turn 10 = .ok (.getfield 45, 3) := by decide +kernel
theorem dX6_turn_13 : decode cX6_turn 13 = .ok (.aload_n 0, 1) := by decide +kernel
theorem dX6_turn_14 : decode cX6_turn 14 = .ok (.getfield 35, 3) := by decide +kernel
theorem dX6_turn_17 : decode cX6_turn 17 = .ok (.invokevirtual 107, 3) := by decide +kernel
theorem dX6_turn_20 : decode cX6_turn 20 = .ok (.aload_n 0, 1) := by decide +kernel
theorem dX6_turn_21 : decode cX6_turn 21 = .ok (.getfield 35, 3) := by decide +kernel
theorem dX6_turn_24 : decode cX6_turn 24 = .ok (.getfield 175, 3) := by decide +kernel
theorem dX6_turn_27 : decode cX6_turn 27 = .ok (.iload_n 1, 1) := by decide +kernel
theorem dX6_turn_28 : decode cX6_turn 28 = .ok (.iaload, 1) := by decide +kernel
theorem dX6_turn_29 : decode cX6_turn 29 = .ok (.istore_n 3, 1) := by decide +kernel
theorem dX6_turn_30 : decode cX6_turn 30 = .ok (.aload_n 0, 1) := by decide +kernel
theorem dX6_turn_31 : decode cX6_turn 31 = .ok (.getfield 35, 3) := by decide +kernel
theorem dX6_turn_34 : decode cX6_turn 34 = .ok (.getfield 175, 3) := by decide +kernel
theorem dX6_turn_37 : decode cX6_turn 37 = .ok (.iload_n 1, 1) := by decide +kernel
theorem dX6_turn_38 : decode cX6_turn 38 = .ok (.iload_n 2, 1) := by decide +kernel
theorem dX6_turn_39 : decode cX6_turn 39 = .ok (.iastore, 1) := by decide +kernel
theorem dX6_turn_40 : decode cX6_turn 40 = .ok (.iload_n 3, 1) := by decide +kernel
theorem dX6_turn_41 : decode cX6_turn 41 = .ok (.ireturn, 1) := by decide +kernel
theorem dX6_tie_0 : decode cX6_tie 0 = .ok (.aload_n 0, 1) := by decide +kernel
theorem dX6_tie_1 : decode cX6_tie 1 = .ok (.iload_n 1, 1) := by decide +kernel
theorem dX6_tie_2 : decode cX6_tie 2 = .ok (.iload_n 2, 1) := by decide +kernel
theorem dX6_tie_3 : decode cX6_tie 3 = .ok (.invokevirtual 319, 3) := by decide +kernel
theorem dX6_tie_6 : decode cX6_tie 6 = .ok (.istore_n 3, 1) := by decide +kernel
theorem dX6_tie_7 : decode cX6_tie 7 = .ok (.iload_n 3, 1) := by decide +kernel
theorem dX6_tie_8 : decode cX6_tie 8 = .ok (.invokestatic 166, 3) := by decide +kernel
theorem dX6_tie_11 : decode cX6_tie 11 = .ok (.iload_n 3, 1) := by decide +kernel
theorem dX6_tie_12 : decode cX6_tie 12 = .ok (.iconst 4, 1) := by decide +kernel
theorem dX6_tie_13 : decode cX6_tie 13 = .ok (.if_icmp .ne 5, 3) := by decide +kernel
theorem dX6_tie_16 : decode cX6_tie 16 = .ok (.iconst 0, 1) := by decide +kernel
theorem dX6_tie_17 : decode cX6_tie 17 = .ok (.ireturn, 1) := by decide +kernel
theorem dX6_tie_18 : decode cX6_tie 18 = .ok (.aload_n 0, 1) := by decide +kernel
theorem dX6_tie_19 : decode cX6_tie 19 = .ok (.getfield 45, 3) := by decide +kernel
theorem dX6_tie_22 : decode cX6_tie 22 = .ok (.aload_n 0, 1) := by decide +kernel
theorem dX6_tie_23 : decode cX6_tie 23 = .ok (.getfield 35, 3) := by decide +kernel
theorem dX6_tie_26 : decode cX6_tie 26 = .ok (.invokevirtual 107, 3) := by decide +kernel
theorem dX6_tie_29 : decode cX6_tie 29 = .ok (.aload_n 0, 1) := by decide +kernel
theorem dX6_tie_30 : decode cX6_tie 30 = .ok (.getfield 35, 3) := by decide +kernel
theorem dX6_tie_33 : decode cX6_tie 33 = .ok (.iload_n 1, 1) := by decide +kernel
theorem dX6_tie_34 : decode cX6_tie 34 = .ok (.iload_n 2, 1) := by decide +kernel
theorem dX6_tie_35 : decode cX6_tie 35 = .ok (.invokevirtual 322, 3) := by decide +kernel
theorem dX6_tie_38 : decode cX6_tie 38 = .ok (.iconst 1, 1) := by decide +kernel
theorem dX6_tie_39 : decode cX6_tie 39 = .ok (.ireturn, 1) := by decide +kernel
theorem dX6_paint_0 : decode cX6_paint 0 = .ok (.aload_n 0, 1) := by decide +kernel
theorem dX6_paint_1 : decode cX6_paint 1 = .ok (.iload_n 1, 1) := by decide +kernel
theorem dX6_paint_2 : decode cX6_paint 2 = .ok (.iload_n 2, 1) := by decide +kernel
theorem dX6_paint_3 : decode cX6_paint 3 = .ok (.invokevirtual 326, 3) := by decide +kernel
theorem dX6_paint_6 : decode cX6_paint 6 = .ok (.invokestatic 166, 3) := by decide +kernel
theorem dX6_paint_9 : decode cX6_paint 9 = .ok (.aload_n 0, 1) := by decide +kernel
theorem dX6_paint_10 : decode cX6_paint 10 = .ok (.getfield 45, 3) := by decide +kernel
theorem dX6_paint_13 : decode cX6_paint 13 = .ok (.aload_n 0, 1) := by decide +kernel
theorem dX6_paint_14 : decode cX6_paint 14 = .ok (.getfield 35, 3) := by decide +kernel
theorem dX6_paint_17 : decode cX6_paint 17 = .ok (.invokevirtual 107, 3) := by decide +kernel
theorem dX6_paint_20 : decode cX6_paint 20 = .ok (.aload_n 0, 1) := by decide +kernel
theorem dX6_paint_21 : decode cX6_paint 21 = .ok (.getfield 35, 3) := by decide +kernel
theorem dX6_paint_24 : decode cX6_paint 24 = .ok (.iload_n 1, 1) := by decide +kernel
theorem dX6_paint_25 : decode cX6_paint 25 = .ok (.iload_n 2, 1) := by decide +kernel
theorem dX6_paint_26 : decode cX6_paint 26 = .ok (.invokevirtual 329, 3) := by decide +kernel
theorem dX6_paint_29 : decode cX6_paint 29 = .ok (.ireturn, 1) := by decide +kernel
theorem dX6_dab_0 : decode cX6_dab 0 = .ok (.aload_n 0, 1) := by decide +kernel
theorem dX6_dab_1 : decode cX6_dab 1 = .ok (.iload_n 1, 1) := by decide +kernel
theorem dX6_dab_2 : decode cX6_dab 2 = .ok (.iload_n 3, 1) := by decide +kernel
theorem dX6_dab_3 : decode cX6_dab 3 = .ok (.iload 4, 2) := by decide +kernel
theorem dX6_dab_5 : decode cX6_dab 5 = .ok (.iload 5, 2) := by decide +kernel
theorem dX6_dab_7 : decode cX6_dab 7 = .ok (.invokevirtual 332, 3) := by decide +kernel
theorem dX6_dab_10 : decode cX6_dab 10 = .ok (.invokestatic 166, 3) := by decide +kernel
theorem dX6_dab_13 : decode cX6_dab 13 = .ok (.aload_n 0, 1) := by decide +kernel
theorem dX6_dab_14 : decode cX6_dab 14 = .ok (.getfield 45, 3) := by decide +kernel
theorem dX6_dab_17 : decode cX6_dab 17 = .ok (.aload_n 0, 1) := by decide +kernel
theorem dX6_dab_18 : decode cX6_dab 18 = .ok (.getfield 35, 3) := by decide +kernel
theorem dX6_dab_21 : decode cX6_dab 21 = .ok (.invokevirtual 107, 3) := by decide +kernel
theorem dX6_dab_24 : decode cX6_dab 24 = .ok (.aload_n 0, 1) := by decide +kernel
theorem dX6_dab_25 : decode cX6_dab 25 = .ok (.getfield 35, 3) := by decide +kernel
theorem dX6_dab_28 : decode cX6_dab 28 = .ok (.iload_n 1, 1) := by decide +kernel
theorem dX6_dab_29 : decode cX6_dab 29 = .ok (.iload_n 2, 1) := by decide +kernel
theorem dX6_dab_30 : decode cX6_dab 30 = .ok (.iload_n 3, 1) := by decide +kernel
theorem dX6_dab_31 : decode cX6_dab 31 = .ok (.iload 4, 2) := by decide +kernel
theorem dX6_dab_33 : decode cX6_dab 33 = .ok (.iload 5, 2) := by decide +kernel
theorem dX6_dab_35 : decode cX6_dab 35 = .ok (.invokevirtual 336, 3) := by decide +kernel
theorem dX6_dab_38 : decode cX6_dab 38 = .ok (.ireturn, 1) := by decide +kernel
theorem dX6_swap_0 : decode cX6_swap 0 = .ok (.aload_n 0, 1) := by decide +kernel
theorem dX6_swap_1 : decode cX6_swap 1 = .ok (.iload_n 1, 1) := by decide +kernel
theorem dX6_swap_2 : decode cX6_swap 2 = .ok (.invokevirtual 340, 3) := by decide +kernel
theorem dX6_swap_5 : decode cX6_swap 5 = .ok (.invokestatic 166, 3) := by decide +kernel
theorem dX6_swap_8 : decode cX6_swap 8 = .ok (.aload_n 0, 1) := by decide +kernel
theorem dX6_swap_9 : decode cX6_swap 9 = .ok (.getfield 45, 3) := by decide +kernel
theorem dX6_swap_12 : decode cX6_swap 12 = .ok (.aload_n 0, 1) := by decide +kernel
theorem dX6_swap_13 : decode cX6_swap 13 = .ok (.getfield 35, 3) := by decide +kernel
theorem dX6_swap_16 : decode cX6_swap 16 = .ok (.invokevirtual 107, 3) := by decide +kernel
theorem dX6_swap_19 : decode cX6_swap 19 = .ok (.aload_n 0, 1) := by decide +kernel
theorem dX6_swap_20 : decode cX6_swap 20 = .ok (.getfield 35, 3) := by decide +kernel
theorem dX6_swap_23 : decode cX6_swap 23 = .ok (.iload_n 1, 1) := by decide +kernel
theorem dX6_swap_24 : decode cX6_swap 24 = .ok (.invokevirtual 343, 3) := by decide +kernel
theorem dX6_swap_27 : decode cX6_swap 27 = .ok (.ireturn, 1) := by decide +kernel
theorem dX6_spot_0 : decode cX6_spot 0 = .ok (.aload_n 0, 1) := by decide +kernel
theorem dX6_spot_1 : decode cX6_spot 1 = .ok (.iload_n 2, 1) := by decide +kernel
theorem dX6_spot_2 : decode cX6_spot 2 = .ok (.iload_n 3, 1) := by decide +kernel
theorem dX6_spot_3 : decode cX6_spot 3 = .ok (.iload 4, 2) := by decide +kernel
theorem dX6_spot_5 : decode cX6_spot 5 = .ok (.invokevirtual 346, 3) := by decide +kernel
theorem dX6_spot_8 : decode cX6_spot 8 = .ok (.invokestatic 166, 3) := by decide +kernel
theorem dX6_spot_11 : decode cX6_spot 11 = .ok (.aload_n 0, 1) := by decide +kernel
theorem dX6_spot_12 : decode cX6_spot 12 = .ok (.getfield 45, 3) := by decide +kernel
theorem dX6_spot_15 : decode cX6_spot 15 = .ok (.aload_n 0, 1) := by decide +kernel
theorem dX6_spot_16 : decode cX6_spot 16 = .ok (.getfield 35, 3) := by decide +kernel
theorem dX6_spot_19 : decode cX6_spot 19 = .ok (.invokevirtual 107, 3) := by decide +kernel
theorem dX6_spot_22 : decode cX6_spot 22 = .ok (.aload_n 0, 1) := by decide +kernel
theorem dX6_spot_23 : decode cX6_spot 23 = .ok (.getfield 35, 3) := by decide +kernel
theorem dX6_spot_26 : decode cX6_spot 26 = .ok (.iload_n 1, 1) := by decide +kernel
theorem dX6_spot_27 : decode cX6_spot 27 = .ok (.iload_n 2, 1) := by decide +kernel
theorem dX6_spot_28 : decode cX6_spot 28 = .ok (.iload_n 3, 1) := by decide +kernel
theorem dX6_spot_29 : decode cX6_spot 29 = .ok (.iload 4, 2) := by decide +kernel
theorem dX6_spot_31 : decode cX6_spot 31 = .ok (.invokevirtual 350, 3) := by decide +kernel
theorem dX6_spot_34 : decode cX6_spot 34 = .ok (.ireturn, 1) := by decide +kernel
theorem dX6_undo_0 : decode cX6_undo 0 = .ok (.aload_n 0, 1) := by decide +kernel
theorem dX6_undo_1 : decode cX6_undo 1 = .ok (.getfield 45, 3) := by decide +kernel
theorem dX6_undo_4 : decode cX6_undo 4 = .ok (.aload_n 0, 1) := by decide +kernel
theorem dX6_undo_5 : decode cX6_undo 5 = .ok (.getfield 35, 3) := by decide +kernel
theorem dX6_undo_8 : decode cX6_undo 8 = .ok (.invokevirtual 370, 3) := by decide +kernel
theorem dX6_undo_11 : decode cX6_undo 11 = .ok (.ifCond .eq 13, 3) := by decide +kernel
theorem dX6_undo_14 : decode cX6_undo 14 = .ok (.aload_n 0, 1) := by decide +kernel
theorem dX6_undo_15 : decode cX6_undo 15 = .ok (.getfield 45, 3) := by decide +kernel
theorem dX6_undo_18 : decode cX6_undo 18 = .ok (.getfield 157, 3) := by decide +kernel
theorem dX6_undo_21 : decode cX6_undo 21 = .ok (.goto 4, 3) := by decide +kernel
theorem dX6_undo_24 : decode cX6_undo 24 = .ok (.iconst (-1), 1) := by decide +kernel
theorem dX6_undo_25 : decode cX6_undo 25 = .ok (.ireturn, 1) := by decide +kernel
theorem dX6_refuse_0 : decode cX6_refuse 0 = .ok (.iload_n 0, 1) := by decide +kernel
theorem dX6_refuse_1 : decode cX6_refuse 1 = .ok (.iconst 1, 1) := by decide +kernel
theorem dX6_refuse_2 : decode cX6_refuse 2 = .ok (.if_icmp .ne 14, 3) := by decide +kernel
theorem dX6_refuse_5 : decode cX6_refuse 5 = .ok (.new 365, 3) := by decide +kernel
theorem dX6_refuse_8 : decode cX6_refuse 8 = .ok (.dup, 1) := by decide +kernel
theorem dX6_refuse_9 : decode cX6_refuse 9 = .ok (.ldc_w 380, 3) := by decide +kernel
theorem dX6_refuse_12 : decode cX6_refuse 12 = .ok (.invokespecial 369, 3) := by decide +kernel
theorem dX6_refuse_15 : decode cX6_refuse 15 = .ok (.athrow, 1) := by decide +kernel
theorem dX6_refuse_16 : decode cX6_refuse 16 = .ok (.iload_n 0, 1) := by decide +kernel
theorem dX6_refuse_17 : decode cX6_refuse 17 = .ok (.iconst 2, 1) := by decide +kernel
theorem dX6_refuse_18 : decode cX6_refuse 18 = .ok (.if_icmp .ne 14, 3) := by decide +kernel
theorem dX6_refuse_21 : decode cX6_refuse 21 = .ok (.new 81, 3) := by decide +kernel
theorem dX6_refuse_24 : decode cX6_refuse 24 = .ok (.dup, 1) := by decide +kernel
theorem dX6_refuse_25 : decode cX6_refuse 25 = .ok (.ldc_w 382, 3) := by decide +kernel
theorem dX6_refuse_28 : decode cX6_refuse 28 = .ok (.invokespecial 85, 3) := by decide +kernel
theorem dX6_refuse_31 : decode cX6_refuse 31 = .ok (.athrow, 1) := by decide +kernel
theorem dX6_refuse_32 : decode cX6_refuse 32 = .ok (.iload_n 0, 1) := by decide +kernel
theorem dX6_refuse_33 : decode cX6_refuse 33 = .ok (.iconst 3, 1) := by decide +kernel
theorem dX6_refuse_34 : decode cX6_refuse 34 = .ok (.if_icmp .ne 14, 3) := by decide +kernel
theorem dX6_refuse_37 : decode cX6_refuse 37 = .ok (.new 70, 3) := by decide +kernel
theorem dX6_refuse_40 : decode cX6_refuse 40 = .ok (.dup, 1) := by decide +kernel
theorem dX6_refuse_41 : decode cX6_refuse 41 = .ok (.ldc_w 384, 3) := by decide +kernel
theorem dX6_refuse_44 : decode cX6_refuse 44 = .ok (.invokespecial 74, 3) := by decide +kernel
theorem dX6_refuse_47 : decode cX6_refuse 47 = .ok (.athrow, 1) := by decide +kernel
theorem dX6_refuse_48 : decode cX6_refuse 48 = .ok (.return_, 1) := by decide +kernel
theorem dX6_angleProblem_0 : decode cX6_angleProblem 0 = .ok (.iload_n 0, 1) := by decide +kernel
theorem dX6_angleProblem_1 : decode cX6_angleProblem 1 = .ok (.bipush (-6), 2) := by decide +kernel
theorem dX6_angleProblem_3 : decode cX6_angleProblem 3 = .ok (.if_icmp .lt 9, 3) := by decide +kernel
theorem dX6_angleProblem_6 : decode cX6_angleProblem 6 = .ok (.iload_n 0, 1) := by decide +kernel
theorem dX6_angleProblem_7 : decode cX6_angleProblem 7 = .ok (.bipush 6, 2) := by decide +kernel
theorem dX6_angleProblem_9 : decode cX6_angleProblem 9 = .ok (.if_icmp .le 7, 3) := by decide +kernel
theorem dX6_angleProblem_12 : decode cX6_angleProblem 12 = .ok (.iconst 2, 1) := by decide +kernel
theorem dX6_angleProblem_13 : decode cX6_angleProblem 13 = .ok (.goto 4, 3) := by decide +kernel
theorem dX6_angleProblem_16 : decode cX6_angleProblem 16 = .ok (.iconst 0, 1) := by decide +kernel
theorem dX6_angleProblem_17 : decode cX6_angleProblem 17 = .ok (.ireturn, 1) := by decide +kernel
theorem dX6_pullProblem_0 : decode cX6_pullProblem 0 = .ok (.iload_n 0, 1) := by decide +kernel
theorem dX6_pullProblem_1 : decode cX6_pullProblem 1 = .ok (.bipush (-8), 2) := by decide +kernel
theorem dX6_pullProblem_3 : decode cX6_pullProblem 3 = .ok (.if_icmp .lt 13, 3) := by decide +kernel
theorem dX6_pullProblem_6 : decode cX6_pullProblem 6 = .ok (.iload_n 0, 1) := by decide +kernel
theorem dX6_pullProblem_7 : decode cX6_pullProblem 7 = .ok (.bipush 8, 2) := by decide +kernel
theorem dX6_pullProblem_9 : decode cX6_pullProblem 9 = .ok (.if_icmp .gt 7, 3) := by decide +kernel
theorem dX6_pullProblem_12 : decode cX6_pullProblem 12 = .ok (.iload_n 0, 1) := by decide +kernel
theorem dX6_pullProblem_13 : decode cX6_pullProblem 13 = .ok (.ifCond .ne 7, 3) := by decide +kernel
theorem dX6_pullProblem_16 : decode cX6_pullProblem 16 = .ok (.iconst 2, 1) := by decide +kernel
theorem dX6_pullProblem_17 : decode cX6_pullProblem 17 = .ok (.goto 4, 3) := by decide +kernel
theorem dX6_pullProblem_20 : decode cX6_pullProblem 20 = .ok (.iconst 0, 1) := by decide +kernel
theorem dX6_pullProblem_21 : decode cX6_pullProblem 21 = .ok (.ireturn, 1) := by decide +kernel
theorem dX6_turnProblem_0 : decode cX6_turnProblem 0 = .ok (.aload_n 0, 1) := by decide +kernel
theorem dX6_turnProblem_1 : decode cX6_turnProblem 1 = .ok (.getfield 35, 3) := by decide +kernel
theorem dX6_turnProblem_4 : decode cX6_turnProblem 4 = .ok (.iload_n 1, 1) := by decide +kernel
theorem dX6_turnProblem_5 : decode cX6_turnProblem 5 = .ok (.invokevirtual 162, 3) := by decide +kernel
theorem dX6_turnProblem_8 : decode cX6_turnProblem 8 = .ok (.ifCond .ne 5, 3) := by decide +kernel
theorem dX6_turnProblem_11 : decode cX6_turnProblem 11 = .ok (.iconst 1, 1) := by decide +kernel
theorem dX6_turnProblem_12 : decode cX6_turnProblem 12 = .ok (.ireturn, 1) := by decide +kernel
theorem dX6_turnProblem_13 : decode cX6_turnProblem 13 = .ok (.iload_n 2, 1) := by decide +kernel
theorem dX6_turnProblem_14 : decode cX6_turnProblem 14 = .ok (.bipush (-4), 2) := by decide +kernel
theorem dX6_turnProblem_16 : decode cX6_turnProblem 16 = .ok (.if_icmp .lt 8, 3) := by decide +kernel
theorem dX6_turnProblem_19 : decode cX6_turnProblem 19 = .ok (.iload_n 2, 1) := by decide +kernel
theorem dX6_turnProblem_20 : decode cX6_turnProblem 20 = .ok (.iconst 4, 1) := by decide +kernel
theorem dX6_turnProblem_21 : decode cX6_turnProblem 21 = .ok (.if_icmp .le 5, 3) := by decide +kernel
theorem dX6_turnProblem_24 : decode cX6_turnProblem 24 = .ok (.iconst 2, 1) := by decide +kernel
theorem dX6_turnProblem_25 : decode cX6_turnProblem 25 = .ok (.ireturn, 1) := by decide +kernel
theorem dX6_turnProblem_26 : decode cX6_turnProblem 26 = .ok (.aload_n 0, 1) := by decide +kernel
theorem dX6_turnProblem_27 : decode cX6_turnProblem 27 = .ok (.getfield 35, 3) := by decide +kernel
theorem dX6_turnProblem_30 : decode cX6_turnProblem 30 = .ok (.iload_n 1, 1) := by decide +kernel
theorem dX6_turnProblem_31 : decode cX6_turnProblem 31 = .ok (.invokevirtual 178, 3) := by decide +kernel
theorem dX6_turnProblem_34 : decode cX6_turnProblem 34 = .ok (.ifCond .eq 7, 3) := by decide +kernel
theorem dX6_turnProblem_37 : decode cX6_turnProblem 37 = .ok (.iconst 3, 1) := by decide +kernel
theorem dX6_turnProblem_38 : decode cX6_turnProblem 38 = .ok (.goto 4, 3) := by decide +kernel
theorem dX6_turnProblem_41 : decode cX6_turnProblem 41 = .ok (.iconst 0, 1) := by decide +kernel
theorem dX6_turnProblem_42 : decode cX6_turnProblem 42 = .ok (.ireturn, 1) := by decide +kernel
theorem dX6_tieProblem_0 : decode cX6_tieProblem 0 = .ok (.aload_n 0, 1) := by decide +kernel
theorem dX6_tieProblem_1 : decode cX6_tieProblem 1 = .ok (.getfield 35, 3) := by decide +kernel
theorem dX6_tieProblem_4 : decode cX6_tieProblem 4 = .ok (.iload_n 1, 1) := by decide +kernel
theorem dX6_tieProblem_5 : decode cX6_tieProblem 5 = .ok (.invokevirtual 162, 3) := by decide +kernel
theorem dX6_tieProblem_8 : decode cX6_tieProblem 8 = .ok (.ifCond .ne 5, 3) := by decide +kernel
theorem dX6_tieProblem_11 : decode cX6_tieProblem 11 = .ok (.iconst 1, 1) := by decide +kernel
theorem dX6_tieProblem_12 : decode cX6_tieProblem 12 = .ok (.ireturn, 1) := by decide +kernel
theorem dX6_tieProblem_13 : decode cX6_tieProblem 13 = .ok (.aload_n 0, 1) := by decide +kernel
theorem dX6_tieProblem_14 : decode cX6_tieProblem 14 = .ok (.getfield 35, 3) := by decide +kernel
theorem dX6_tieProblem_17 : decode cX6_tieProblem 17 = .ok (.iload_n 1, 1) := by decide +kernel
theorem dX6_tieProblem_18 : decode cX6_tieProblem 18 = .ok (.invokevirtual 178, 3) := by decide +kernel
theorem dX6_tieProblem_21 : decode cX6_tieProblem 21 = .ok (.iload_n 2, 1) := by decide +kernel
theorem dX6_tieProblem_22 : decode cX6_tieProblem 22 = .ok (.if_icmp .ne 7, 3) := by decide +kernel
theorem dX6_tieProblem_25 : decode cX6_tieProblem 25 = .ok (.iconst 4, 1) := by decide +kernel
theorem dX6_tieProblem_26 : decode cX6_tieProblem 26 = .ok (.goto 4, 3) := by decide +kernel
theorem dX6_tieProblem_29 : decode cX6_tieProblem 29 = .ok (.iconst 0, 1) := by decide +kernel
theorem dX6_tieProblem_30 : decode cX6_tieProblem 30 = .ok (.ireturn, 1) := by decide +kernel
theorem dX6_paintProblem_0 : decode cX6_paintProblem 0 = .ok (.aload_n 0, 1) := by decide +kernel
theorem dX6_paintProblem_1 : decode cX6_paintProblem 1 = .ok (.getfield 35, 3) := by decide +kernel
theorem dX6_paintProblem_4 : decode cX6_paintProblem 4 = .ok (.iload_n 1, 1) := by decide +kernel
theorem dX6_paintProblem_5 : decode cX6_paintProblem 5 = .ok (.invokevirtual 162, 3) := by decide +kernel
theorem dX6_paintProblem_8 : decode cX6_paintProblem 8 = .ok (.ifCond .ne 5, 3) := by decide +kernel
theorem dX6_paintProblem_11 : decode cX6_paintProblem 11 = .ok (.iconst 1, 1) := by decide +kernel
theorem dX6_paintProblem_12 : decode cX6_paintProblem 12 = .ok (.ireturn, 1) := by decide +kernel
theorem dX6_paintProblem_13 : decode cX6_paintProblem 13 = .ok (.aload_n 0, 1) := by decide +kernel
theorem dX6_paintProblem_14 : decode cX6_paintProblem 14 = .ok (.getfield 35, 3) := by decide +kernel
theorem dX6_paintProblem_17 : decode cX6_paintProblem 17 = .ok (.iload_n 1, 1) := by decide +kernel
theorem dX6_paintProblem_18 : decode cX6_paintProblem 18 = .ok (.iload_n 2, 1) := by decide +kernel
theorem dX6_paintProblem_19 : decode cX6_paintProblem 19 = .ok (.invokevirtual 275, 3) := by decide +kernel
theorem dX6_paintProblem_22 : decode cX6_paintProblem 22 = .ok (.ifCond .eq 7, 3) := by decide +kernel
theorem dX6_paintProblem_25 : decode cX6_paintProblem 25 = .ok (.iconst 0, 1) := by decide +kernel
theorem dX6_paintProblem_26 : decode cX6_paintProblem 26 = .ok (.goto 4, 3) := by decide +kernel
theorem dX6_paintProblem_29 : decode cX6_paintProblem 29 = .ok (.iconst 3, 1) := by decide +kernel
theorem dX6_paintProblem_30 : decode cX6_paintProblem 30 = .ok (.ireturn, 1) := by decide +kernel
theorem dX6_dabProblem_0 : decode cX6_dabProblem 0 = .ok (.aload_n 0, 1) := by decide +kernel
theorem dX6_dabProblem_1 : decode cX6_dabProblem 1 = .ok (.getfield 35, 3) := by decide +kernel
theorem dX6_dabProblem_4 : decode cX6_dabProblem 4 = .ok (.iload_n 1, 1) := by decide +kernel
theorem dX6_dabProblem_5 : decode cX6_dabProblem 5 = .ok (.iload_n 2, 1) := by decide +kernel
theorem dX6_dabProblem_6 : decode cX6_dabProblem 6 = .ok (.iload_n 3, 1) := by decide +kernel
theorem dX6_dabProblem_7 : decode cX6_dabProblem 7 = .ok (.invokevirtual 211, 3) := by decide +kernel
theorem dX6_dabProblem_10 : decode cX6_dabProblem 10 = .ok (.ifCond .eq 11, 3) := by decide +kernel
theorem dX6_dabProblem_13 : decode cX6_dabProblem 13 = .ok (.iload 4, 2) := by decide +kernel
theorem dX6_dabProblem_15 : decode cX6_dabProblem 15 = .ok (.invokestatic 386, 3) := by decide +kernel
theorem dX6_dabProblem_18 : decode cX6_dabProblem 18 = .ok (.goto 4, 3) := by decide +kernel
theorem dX6_dabProblem_21 : decode cX6_dabProblem 21 = .ok (.iconst 1, 1) := by decide +kernel
theorem dX6_dabProblem_22 : decode cX6_dabProblem 22 = .ok (.ireturn, 1) := by decide +kernel
theorem dX6_swapProblem_0 : decode cX6_swapProblem 0 = .ok (.aload_n 0, 1) := by decide +kernel
theorem dX6_swapProblem_1 : decode cX6_swapProblem 1 = .ok (.getfield 35, 3) := by decide +kernel
theorem dX6_swapProblem_4 : decode cX6_swapProblem 4 = .ok (.iload_n 1, 1) := by decide +kernel
theorem dX6_swapProblem_5 : decode cX6_swapProblem 5 = .ok (.invokevirtual 162, 3) := by decide +kernel
theorem dX6_swapProblem_8 : decode cX6_swapProblem 8 = .ok (.ifCond .eq 7, 3) := by decide +kernel
theorem dX6_swapProblem_11 : decode cX6_swapProblem 11 = .ok (.iconst 0, 1) := by decide +kernel
theorem dX6_swapProblem_12 : decode cX6_swapProblem 12 = .ok (.goto 4, 3) := by decide +kernel
theorem dX6_swapProblem_15 : decode cX6_swapProblem 15 = .ok (.iconst 1, 1) := by decide +kernel
theorem dX6_swapProblem_16 : decode cX6_swapProblem 16 = .ok (.ireturn, 1) := by decide +kernel
theorem dX6_spotProblem_0 : decode cX6_spotProblem 0 = .ok (.aload_n 0, 1) := by decide +kernel
theorem dX6_spotProblem_1 : decode cX6_spotProblem 1 = .ok (.getfield 35, 3) := by decide +kernel
theorem dX6_spotProblem_4 : decode cX6_spotProblem 4 = .ok (.iload_n 1, 1) := by decide +kernel
theorem dX6_spotProblem_5 : decode cX6_spotProblem 5 = .ok (.iload_n 2, 1) := by decide +kernel
theorem dX6_spotProblem_6 : decode cX6_spotProblem 6 = .ok (.invokevirtual 199, 3) := by decide +kernel
theorem dX6_spotProblem_9 : decode cX6_spotProblem 9 = .ok (.ifCond .eq 10, 3) := by decide +kernel
theorem dX6_spotProblem_12 : decode cX6_spotProblem 12 = .ok (.iload_n 3, 1) := by decide +kernel
theorem dX6_spotProblem_13 : decode cX6_spotProblem 13 = .ok (.invokestatic 386, 3) := by decide +kernel
theorem dX6_spotProblem_16 : decode cX6_spotProblem 16 = .ok (.goto 4, 3) := by decide +kernel
theorem dX6_spotProblem_19 : decode cX6_spotProblem 19 = .ok (.iconst 1, 1) := by decide +kernel
theorem dX6_spotProblem_20 : decode cX6_spotProblem 20 = .ok (.istore 4, 2) := by decide +kernel
theorem dX6_spotProblem_22 : decode cX6_spotProblem 22 = .ok (.iload 4, 2) := by decide +kernel
theorem dX6_spotProblem_24 : decode cX6_spotProblem 24 = .ok (.ifCond .eq 6, 3) := by decide +kernel
theorem dX6_spotProblem_27 : decode cX6_spotProblem 27 = .ok (.iload 4, 2) := by decide +kernel
theorem dX6_spotProblem_29 : decode cX6_spotProblem 29 = .ok (.ireturn, 1) := by decide +kernel
theorem dX6_spotProblem_30 : decode cX6_spotProblem 30 = .ok (.aload_n 0, 1) := by decide +kernel
theorem dX6_spotProblem_31 : decode cX6_spotProblem 31 = .ok (.getfield 35, 3) := by decide +kernel
theorem dX6_spotProblem_34 : decode cX6_spotProblem 34 = .ok (.getfield 132, 3) := by decide +kernel
theorem dX6_spotProblem_37 : decode cX6_spotProblem 37 = .ok (.aload_n 0, 1) := by decide +kernel
theorem dX6_spotProblem_38 : decode cX6_spotProblem 38 = .ok (.getfield 35, 3) := by decide +kernel
theorem dX6_spotProblem_41 : decode cX6_spotProblem 41 = .ok (.getfield 135, 3) := by decide +kernel
theorem dX6_spotProblem_44 : decode cX6_spotProblem 44 = .ok (.iadd, 1) := by decide +kernel
theorem dX6_spotProblem_45 : decode cX6_spotProblem 45 = .ok (.bipush 16, 2) := by decide +kernel
theorem dX6_spotProblem_47 : decode cX6_spotProblem 47 = .ok (.if_icmp .lt 7, 3) := by decide +kernel
theorem dX6_spotProblem_50 : decode cX6_spotProblem 50 = .ok (.iconst 3, 1) := by decide +kernel
theorem dX6_spotProblem_51 : decode cX6_spotProblem 51 = .ok (.goto 4, 3) := by decide +kernel
theorem dX6_spotProblem_54 : decode cX6_spotProblem 54 = .ok (.iconst 0, 1) := by decide +kernel
theorem dX6_spotProblem_55 : decode cX6_spotProblem 55 = .ok (.ireturn, 1) := by decide +kernel
theorem dX6_colourProblem_0 : decode cX6_colourProblem 0 = .ok (.iload_n 0, 1) := by decide +kernel
theorem dX6_colourProblem_1 : decode cX6_colourProblem 1 = .ok (.ifCond .lt 9, 3) := by decide +kernel
theorem dX6_colourProblem_4 : decode cX6_colourProblem 4 = .ok (.iload_n 0, 1) := by decide +kernel
theorem dX6_colourProblem_5 : decode cX6_colourProblem 5 = .ok (.bipush 9, 2) := by decide +kernel
theorem dX6_colourProblem_7 : decode cX6_colourProblem 7 = .ok (.if_icmp .le 7, 3) := by decide +kernel
theorem dX6_colourProblem_10 : decode cX6_colourProblem 10 = .ok (.iconst 2, 1) := by decide +kernel
theorem dX6_colourProblem_11 : decode cX6_colourProblem 11 = .ok (.goto 4, 3) := by decide +kernel
theorem dX6_colourProblem_14 : decode cX6_colourProblem 14 = .ok (.iconst 0, 1) := by decide +kernel
theorem dX6_colourProblem_15 : decode cX6_colourProblem 15 = .ok (.ireturn, 1) := by decide +kernel
theorem dX6_toSide_0 : decode cX6_toSide 0 = .ok (.iload_n 1, 1) := by decide +kernel
theorem dX6_toSide_1 : decode cX6_toSide 1 = .ok (.ifCond .eq 7, 3) := by decide +kernel
theorem dX6_toSide_4 : decode cX6_toSide 4 = .ok (.iload_n 0, 1) := by decide +kernel
theorem dX6_toSide_5 : decode cX6_toSide 5 = .ok (.goto 5, 3) := by decide +kernel
theorem dX6_toSide_8 : decode cX6_toSide 8 = .ok (.iload_n 0, 1) := by decide +kernel
theorem dX6_toSide_9 : decode cX6_toSide 9 = .ok (.ineg, 1) := by decide +kernel
theorem dX6_toSide_10 : decode cX6_toSide 10 = .ok (.ireturn, 1) := by decide +kernel
theorem dX6_rightFrom_0 : decode cX6_rightFrom 0 = .ok (.aload_n 0, 1) := by decide +kernel
theorem dX6_rightFrom_1 : decode cX6_rightFrom 1 = .ok (.getfield 54, 3) := by decide +kernel
theorem dX6_rightFrom_4 : decode cX6_rightFrom 4 = .ok (.aload_n 0, 1) := by decide +kernel
theorem dX6_rightFrom_5 : decode cX6_rightFrom 5 = .ok (.getfield 35, 3) := by decide +kernel
theorem dX6_rightFrom_8 : decode cX6_rightFrom 8 = .ok (.getfield 175, 3) := by decide +kernel
theorem dX6_rightFrom_11 : decode cX6_rightFrom 11 = .ok (.iload_n 1, 1) := by decide +kernel
theorem dX6_rightFrom_12 : decode cX6_rightFrom 12 = .ok (.invokevirtual 232, 3) := by decide +kernel
theorem dX6_rightFrom_15 : decode cX6_rightFrom 15 = .ok (.aload_n 0, 1) := by decide +kernel
theorem dX6_rightFrom_16 : decode cX6_rightFrom 16 = .ok (.getfield 54, 3) := by decide +kernel
theorem dX6_rightFrom_19 : decode cX6_rightFrom 19 = .ok (.iload_n 2, 1) := by decide +kernel
theorem dX6_rightFrom_20 : decode cX6_rightFrom 20 = .ok (.iconst 0, 1) := by decide +kernel
theorem dX6_rightFrom_21 : decode cX6_rightFrom 21 = .ok (.aload_n 0, 1) := by decide +kernel
theorem dX6_rightFrom_22 : decode cX6_rightFrom 22 = .ok (.getfield 35, 3) := by decide +kernel
theorem dX6_rightFrom_25 : decode cX6_rightFrom 25 = .ok (.getfield 129, 3) := by decide +kernel
theorem dX6_rightFrom_28 : decode cX6_rightFrom 28 = .ok (.invokevirtual 299, 3) := by decide +kernel
theorem dX6_rightFrom_31 : decode cX6_rightFrom 31 = .ok (.ireturn, 1) := by decide +kernel
theorem dX6_rightOfTrial_0 : decode cX6_rightOfTrial 0 = .ok (.aload_n 0, 1) := by decide +kernel
theorem dX6_rightOfTrial_1 : decode cX6_rightOfTrial 1 = .ok (.getfield 54, 3) := by decide +kernel
theorem dX6_rightOfTrial_4 : decode cX6_rightOfTrial 4 = .ok (.aload_n 0, 1) := by decide +kernel
theorem dX6_rightOfTrial_5 : decode cX6_rightOfTrial 5 = .ok (.getfield 58, 3) := by decide +kernel
theorem dX6_rightOfTrial_8 : decode cX6_rightOfTrial 8 = .ok (.iload_n 1, 1) := by decide +kernel
theorem dX6_rightOfTrial_9 : decode cX6_rightOfTrial 9 = .ok (.invokevirtual 232, 3) := by decide +kernel
theorem dX6_rightOfTrial_12 : decode cX6_rightOfTrial 12 = .ok (.aload_n 0, 1) := by decide +kernel
theorem dX6_rightOfTrial_13 : decode cX6_rightOfTrial 13 = .ok (.getfield 54, 3) := by decide +kernel
theorem dX6_rightOfTrial_16 : decode cX6_rightOfTrial 16 = .ok (.iload_n 2, 1) := by decide +kernel
theorem dX6_rightOfTrial_17 : decode cX6_rightOfTrial 17 = .ok (.iconst 0, 1) := by decide +kernel
theorem dX6_rightOfTrial_18 : decode cX6_rightOfTrial 18 = .ok (.aload_n 0, 1) := by decide +kernel
theorem dX6_rightOfTrial_19 : decode cX6_rightOfTrial 19 = .ok (.getfield 35, 3) := by decide +kernel
theorem dX6_rightOfTrial_22 : decode cX6_rightOfTrial 22 = .ok (.getfield 129, 3) := by decide +kernel
theorem dX6_rightOfTrial_25 : decode cX6_rightOfTrial 25 = .ok (.invokevirtual 299, 3) := by decide +kernel
theorem dX6_rightOfTrial_28 : decode cX6_rightOfTrial 28 = .ok (.ireturn, 1) := by decide +kernel
theorem dX6_rightAfterPull_0 : decode cX6_rightAfterPull 0 = .ok (.iconst 0, 1) := by decide +kernel
theorem dX6_rightAfterPull_1 : decode cX6_rightAfterPull 1 = .ok (.istore 4, 2) := by decide +kernel
theorem dX6_rightAfterPull_3 : decode cX6_rightAfterPull 3 = .ok (.iload 4, 2) := by decide +kernel
theorem dX6_rightAfterPull_5 : decode cX6_rightAfterPull 5 = .ok (.aload_n 0, 1) := by decide +kernel
theorem dX6_rightAfterPull_6 : decode cX6_rightAfterPull 6 = .ok (.getfield 35, 3) := by decide +kernel
theorem dX6_rightAfterPull_9 : decode cX6_rightAfterPull 9 = .ok (.getfield 101, 3) := by decide +kernel
theorem dX6_rightAfterPull_12 : decode cX6_rightAfterPull 12 = .ok (.if_icmp .ge 26, 3) := by decide +kernel
theorem dX6_rightAfterPull_15 : decode cX6_rightAfterPull 15 = .ok (.aload_n 0, 1) := by decide +kernel
theorem dX6_rightAfterPull_16 : decode cX6_rightAfterPull 16 = .ok (.getfield 58, 3) := by decide +kernel
theorem dX6_rightAfterPull_19 : decode cX6_rightAfterPull 19 = .ok (.iload 4, 2) := by decide +kernel
theorem dX6_rightAfterPull_21 : decode cX6_rightAfterPull 21 = .ok (.aload_n 0, 1) := by decide +kernel
theorem dX6_rightAfterPull_22 : decode cX6_rightAfterPull 22 = .ok (.getfield 35, 3) := by decide +kernel
theorem dX6_rightAfterPull_25 : decode cX6_rightAfterPull 25 = .ok (.iload 4, 2) := by decide +kernel
theorem dX6_rightAfterPull_27 : decode cX6_rightAfterPull 27 = .ok (.iload_n 1, 1) := by decide +kernel
theorem dX6_rightAfterPull_28 : decode cX6_rightAfterPull 28 = .ok (.invokevirtual 415, 3) := by decide +kernel
theorem dX6_rightAfterPull_31 : decode cX6_rightAfterPull 31 = .ok (.iastore, 1) := by decide +kernel
theorem dX6_rightAfterPull_32 : decode cX6_rightAfterPull 32 = .ok (.iinc 4 1, 3) := by decide +kernel
theorem dX6_rightAfterPull_35 : decode cX6_rightAfterPull 35 = .ok (.goto (-32), 3) := by decide +kernel
theorem dX6_rightAfterPull_38 : decode cX6_rightAfterPull 38 = .ok (.aload_n 0, 1) := by decide +kernel
theorem dX6_rightAfterPull_39 : decode cX6_rightAfterPull 39 = .ok (.iload_n 2, 1) := by decide +kernel
theorem dX6_rightAfterPull_40 : decode cX6_rightAfterPull 40 = .ok (.iload_n 3, 1) := by decide +kernel
theorem dX6_rightAfterPull_41 : decode cX6_rightAfterPull 41 = .ok (.invokevirtual 292, 3) := by decide +kernel
theorem dX6_rightAfterPull_44 : decode cX6_rightAfterPull 44 = .ok (.ireturn, 1) := by decide +kernel
theorem dX6_openFrom_0 : decode cX6_openFrom 0 = .ok (.aload_n 0, 1) := by decide +kernel
theorem dX6_openFrom_1 : decode cX6_openFrom 1 = .ok (.getfield 54, 3) := by decide +kernel
theorem dX6_openFrom_4 : decode cX6_openFrom 4 = .ok (.aload_n 0, 1) := by decide +kernel
theorem dX6_openFrom_5 : decode cX6_openFrom 5 = .ok (.getfield 35, 3) := by decide +kernel
theorem dX6_openFrom_8 : decode cX6_openFrom 8 = .ok (.getfield 175, 3) := by decide +kernel
theorem dX6_openFrom_11 : decode cX6_openFrom 11 = .ok (.iload_n 1, 1) := by decide +kernel
theorem dX6_openFrom_12 : decode cX6_openFrom 12 = .ok (.invokevirtual 232, 3) := by decide +kernel
theorem dX6_openFrom_15 : decode cX6_openFrom 15 = .ok (.aload_n 0, 1) := by decide +kernel
theorem dX6_openFrom_16 : decode cX6_openFrom 16 = .ok (.getfield 54, 3) := by decide +kernel
theorem dX6_openFrom_19 : decode cX6_openFrom 19 = .ok (.iconst 2, 1) := by decide +kernel
theorem dX6_openFrom_20 : decode cX6_openFrom 20 = .ok (.invokevirtual 249, 3) := by decide +kernel
theorem dX6_openFrom_23 : decode cX6_openFrom 23 = .ok (.aload_n 0, 1) := by decide +kernel
theorem dX6_openFrom_24 : decode cX6_openFrom 24 = .ok (.getfield 54, 3) := by decide +kernel
theorem dX6_openFrom_27 : decode cX6_openFrom 27 = .ok (.iconst 3, 1) := by decide +kernel
theorem dX6_openFrom_28 : decode cX6_openFrom 28 = .ok (.invokevirtual 249, 3) := by decide +kernel
theorem dX6_openFrom_31 : decode cX6_openFrom 31 = .ok (.iadd, 1) := by decide +kernel
theorem dX6_openFrom_32 : decode cX6_openFrom 32 = .ok (.istore_n 2, 1) := by decide +kernel
theorem dX6_openFrom_33 : decode cX6_openFrom 33 = .ok (.iload_n 2, 1) := by decide +kernel
theorem dX6_openFrom_34 : decode cX6_openFrom 34 = .ok (.aload_n 0, 1) := by decide +kernel
theorem dX6_openFrom_35 : decode cX6_openFrom 35 = .ok (.getfield 35, 3) := by decide +kernel
theorem dX6_openFrom_38 : decode cX6_openFrom 38 = .ok (.getfield 126, 3) := by decide +kernel
theorem dX6_openFrom_41 : decode cX6_openFrom 41 = .ok (.imul, 1) := by decide +kernel
theorem dX6_openFrom_42 : decode cX6_openFrom 42 = .ok (.ireturn, 1) := by decide +kernel
theorem dX6_colourIn_0 : decode cX6_colourIn 0 = .ok (.iload_n 0, 1) := by decide +kernel
theorem dX6_colourIn_1 : decode cX6_colourIn 1 = .ok (.iconst 4, 1) := by decide +kernel
theorem dX6_colourIn_2 : decode cX6_colourIn 2 = .ok (.iload_n 1, 1) := by decide +kernel
theorem dX6_colourIn_3 : decode cX6_colourIn 3 = .ok (.imul, 1) := by decide +kernel
theorem dX6_colourIn_4 : decode cX6_colourIn 4 = .ok (.iushr, 1) := by decide +kernel
theorem dX6_colourIn_5 : decode cX6_colourIn 5 = .ok (.bipush 15, 2) := by decide +kernel
theorem dX6_colourIn_7 : decode cX6_colourIn 7 = .ok (.iand, 1) := by decide +kernel
theorem dX6_colourIn_8 : decode cX6_colourIn 8 = .ok (.ireturn, 1) := by decide +kernel
theorem dX6_withColour_0 : decode cX6_withColour 0 = .ok (.iconst 4, 1) := by decide +kernel
theorem dX6_withColour_1 : decode cX6_withColour 1 = .ok (.iload_n 1, 1) := by decide +kernel
theorem dX6_withColour_2 : decode cX6_withColour 2 = .ok (.imul, 1) := by decide +kernel
theorem dX6_withColour_3 : decode cX6_withColour 3 = .ok (.istore_n 3, 1) := by decide +kernel
theorem dX6_withColour_4 : decode cX6_withColour 4 = .ok (.iload_n 0, 1) := by decide +kernel
theorem dX6_withColour_5 : decode cX6_withColour 5 = .ok (.bipush 15, 2) := by decide +kernel
theorem dX6_withColour_7 : decode cX6_withColour 7 = .ok (.iload_n 3, 1) := by decide +kernel
theorem dX6_withColour_8 : decode cX6_withColour 8 = .ok (.ishl, 1) := by decide +kernel
theorem dX6_withColour_9 : decode cX6_withColour 9 = .ok (.iconst (-1), 1) := by decide +kernel
theorem dX6_withColour_10 : decode cX6_withColour 10 = .ok (.ixor, 1) := by decide +kernel
theorem dX6_withColour_11 : decode cX6_withColour 11 = .ok (.iand, 1) := by decide +kernel
theorem dX6_withColour_12 : decode cX6_withColour 12 = .ok (.iload_n 2, 1) := by decide +kernel
theorem dX6_withColour_13 : decode cX6_withColour 13 = .ok (.iload_n 3, 1) := by decide +kernel
theorem dX6_withColour_14 : decode cX6_withColour 14 = .ok (.ishl, 1) := by decide +kernel
theorem dX6_withColour_15 : decode cX6_withColour 15 = .ok (.ior, 1) := by decide +kernel
theorem dX6_withColour_16 : decode cX6_withColour 16 = .ok (.ireturn, 1) := by decide +kernel
theorem dX6_unlikeBits_0 : decode cX6_unlikeBits 0 = .ok (.iload_n 0, 1) := by decide +kernel
theorem dX6_unlikeBits_1 : decode cX6_unlikeBits 1 = .ok (.iload_n 1, 1) := by decide +kernel
theorem dX6_unlikeBits_2 : decode cX6_unlikeBits 2 = .ok (.ixor, 1) := by decide +kernel
theorem dX6_unlikeBits_3 : decode cX6_unlikeBits 3 = .ok (.istore_n 2, 1) := by decide +kernel
theorem dX6_unlikeBits_4 : decode cX6_unlikeBits 4 = .ok (.iload_n 2, 1) := by decide +kernel
theorem dX6_unlikeBits_5 : decode cX6_unlikeBits 5 = .ok (.iload_n 2, 1) := by decide +kernel
theorem dX6_unlikeBits_6 : decode cX6_unlikeBits 6 = .ok (.iconst 1, 1) := by decide +kernel
theorem dX6_unlikeBits_7 : decode cX6_unlikeBits 7 = .ok (.iushr, 1) := by decide +kernel
theorem dX6_unlikeBits_8 : decode cX6_unlikeBits 8 = .ok (.ior, 1) := by decide +kernel
theorem dX6_unlikeBits_9 : decode cX6_unlikeBits 9 = .ok (.iload_n 2, 1) := by decide +kernel
theorem dX6_unlikeBits_10 : decode cX6_unlikeBits 10 = .ok (.iconst 2, 1) := by decide +kernel
theorem dX6_unlikeBits_11 : decode cX6_unlikeBits 11 = .ok (.iushr, 1) := by decide +kernel
theorem dX6_unlikeBits_12 : decode cX6_unlikeBits 12 = .ok (.ior, 1) := by decide +kernel
theorem dX6_unlikeBits_13 : decode cX6_unlikeBits 13 = .ok (.iload_n 2, 1) := by decide +kernel
theorem dX6_unlikeBits_14 : decode cX6_unlikeBits 14 = .ok (.iconst 3, 1) := by decide +kernel
theorem dX6_unlikeBits_15 : decode cX6_unlikeBits 15 = .ok (.iushr, 1) := by decide +kernel
theorem dX6_unlikeBits_16 : decode cX6_unlikeBits 16 = .ok (.ior, 1) := by decide +kernel
theorem dX6_unlikeBits_17 : decode cX6_unlikeBits 17 = .ok (.ldc_w 418, 3) := by decide +kernel
theorem dX6_unlikeBits_20 : decode cX6_unlikeBits 20 = .ok (.iand, 1) := by decide +kernel
theorem dX6_unlikeBits_21 : decode cX6_unlikeBits 21 = .ok (.ireturn, 1) := by decide +kernel
theorem dX6_unlikeRows_0 : decode cX6_unlikeRows 0 = .ok (.iload_n 0, 1) := by decide +kernel
theorem dX6_unlikeRows_1 : decode cX6_unlikeRows 1 = .ok (.iload_n 1, 1) := by decide +kernel
theorem dX6_unlikeRows_2 : decode cX6_unlikeRows 2 = .ok (.invokestatic 419, 3) := by decide +kernel
theorem dX6_unlikeRows_5 : decode cX6_unlikeRows 5 = .ok (.invokestatic 144, 3) := by decide +kernel
theorem dX6_unlikeRows_8 : decode cX6_unlikeRows 8 = .ok (.ireturn, 1) := by decide +kernel
