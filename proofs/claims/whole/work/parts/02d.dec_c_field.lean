theorem dX10_init_0 : decode cX10_init 0 = .ok (.aload_n 0, 1) := by decide +kernel
theorem dX10_init_1 : decode cX10_init 1 = .ok (.invokespecial 1, 3) := by decide +kernel
theorem dX10_init_4 : decode cX10_init 4 = .ok (.aload_n 0, 1) := by decide +kernel
theorem dX10_init_5 : decode cX10_init 5 = .ok (.new 7, 3) := by decide +kernel
theorem dX10_init_8 : decode cX10_init 8 = .ok (.dup, 1) := by decide +kernel
theorem dX10_init_9 : decode cX10_init 9 = .ok (.invokespecial 9, 3) := by decide +kernel
theorem dX10_init_12 : decode cX10_init 12 = .ok (.putfield 10, 3) := by decide +kernel
theorem dX10_init_15 : decode cX10_init 15 = .ok (.aload_n 0, 1) := by decide +kernel
theorem dX10_init_16 : decode cX10_init 16 = .ok (.new 16, 3) := by decide +kernel
theorem dX10_init_19 : decode cX10_init 19 = .ok (.dup, 1) := by decide +kernel
theorem dX10_init_20 : decode cX10_init 20 = .ok (.invokespecial 18, 3) := by decide +kernel
theorem dX10_init_23 : decode cX10_init 23 = .ok (.putfield 19, 3) := by decide +kernel
theorem dX10_init_26 : decode cX10_init 26 = .ok (.aload_n 0, 1) := by decide +kernel
theorem dX10_init_27 : decode cX10_init 27 = .ok (.new 23, 3) := by decide +kernel
theorem dX10_init_30 : decode cX10_init 30 = .ok (.dup, 1) := by decide +kernel
theorem dX10_init_31 : decode cX10_init 31 = .ok (.invokespecial 25, 3) := by decide +kernel
theorem dX10_init_34 : decode cX10_init 34 = .ok (.putfield 26, 3) := by decide +kernel
theorem dX10_init_37 : decode cX10_init 37 = .ok (.aload_n 0, 1) := by decide +kernel
theorem dX10_init_38 : decode cX10_init 38 = .ok (.new 30, 3) := by decide +kernel
theorem dX10_init_41 : decode cX10_init 41 = .ok (.dup, 1) := by decide +kernel
theorem dX10_init_42 : decode cX10_init 42 = .ok (.invokespecial 32, 3) := by decide +kernel
theorem dX10_init_45 : decode cX10_init 45 = .ok (.putfield 33, 3) := by decide +kernel
theorem dX10_init_48 : decode cX10_init 48 = .ok (.aload_n 0, 1) := by decide +kernel
theorem dX10_init_49 : decode cX10_init 49 = .ok (.new 37, 3) := by decide +kernel
theorem dX10_init_52 : decode cX10_init 52 = .ok (.dup, 1) := by decide +kernel
theorem dX10_init_53 : decode cX10_init 53 = .ok (.invokespecial 39, 3) := by decide +kernel
theorem dX10_init_56 : decode cX10_init 56 = .ok (.putfield 40, 3) := by decide +kernel
theorem dX10_init_59 : decode cX10_init 59 = .ok (.aload_n 0, 1) := by decide +kernel
theorem dX10_init_60 : decode cX10_init 60 = .ok (.new 44, 3) := by decide +kernel
theorem dX10_init_63 : decode cX10_init 63 = .ok (.dup, 1) := by decide +kernel
theorem dX10_init_64 : decode cX10_init 64 = .ok (.aload_n 0, 1) := by decide +kernel
theorem dX10_init_65 : decode cX10_init 65 = .ok (.getfield 10, 3) := by decide +kernel
theorem dX10_init_68 : decode cX10_init 68 = .ok (.invokespecial 46, 3) := by decide +kernel
theorem dX10_init_71 : decode cX10_init 71 = .ok (.putfield 49, 3) := by decide +kernel
theorem dX10_init_74 : decode cX10_init 74 = .ok (.aload_n 0, 1) := by decide +kernel
theorem dX10_init_75 : decode cX10_init 75 = .ok (.new 53, 3) := by decide +kernel
theorem dX10_init_78 : decode cX10_init 78 = .ok (.dup, 1) := by decide +kernel
theorem dX10_init_79 : decode cX10_init 79 = .ok (.invokespecial 55, 3) := by decide +kernel
theorem dX10_init_82 : decode cX10_init 82 = .ok (.putfield 56, 3) := by decide +kernel
theorem dX10_init_85 : decode cX10_init 85 = .ok (.aload_n 0, 1) := by decide +kernel
theorem dX10_init_86 : decode cX10_init 86 = .ok (.new 60, 3) := by decide +kernel
theorem dX10_init_89 : decode cX10_init 89 = .ok (.dup, 1) := by decide +kernel
theorem dX10_init_90 : decode cX10_init 90 = .ok (.invokespecial 62, 3) := by decide +kernel
theorem dX10_init_93 : decode cX10_init 93 = .ok (.putfield 63, 3) := by decide +kernel
theorem dX10_init_96 : decode cX10_init 96 = .ok (.aload_n 0, 1) := by decide +kernel
theorem dX10_init_97 : decode cX10_init 97 = .ok (.new 67, 3) := by decide +kernel
theorem dX10_init_100 : decode cX10_init 100 = .ok (.dup, 1) := by decide +kernel
theorem dX10_init_101 : decode cX10_init 101 = .ok (.aload_n 0, 1) := by decide +kernel
theorem dX10_init_102 : decode cX10_init 102 = .ok (.getfield 10, 3) := by decide +kernel
theorem dX10_init_105 : decode cX10_init 105 = .ok (.invokespecial 69, 3) := by decide +kernel
theorem dX10_init_108 : decode cX10_init 108 = .ok (.putfield 70, 3) := by decide +kernel
theorem dX10_init_111 : decode cX10_init 111 = .ok (.aload_n 0, 1) := by decide +kernel
theorem dX10_init_112 : decode cX10_init 112 = .ok (.new 74, 3) := by decide +kernel
theorem dX10_init_115 : decode cX10_init 115 = .ok (.dup, 1) := by decide +kernel
theorem dX10_init_116 : decode cX10_init 116 = .ok (.aload_n 0, 1) := by decide +kernel
theorem dX10_init_117 : decode cX10_init 117 = .ok (.getfield 10, 3) := by decide +kernel
theorem dX10_init_120 : decode cX10_init 120 = .ok (.invokespecial 76, 3) := by decide +kernel
theorem dX10_init_123 : decode cX10_init 123 = .ok (.putfield 77, 3) := by decide +kernel
theorem dX10_init_126 : decode cX10_init 126 = .ok (.aload_n 0, 1) := by decide +kernel
theorem dX10_init_127 : decode cX10_init 127 = .ok (.iconst 0, 1) := by decide +kernel
theorem dX10_init_128 : decode cX10_init 128 = .ok (.putfield 81, 3) := by decide +kernel
theorem dX10_init_131 : decode cX10_init 131 = .ok (.return_, 1) := by decide +kernel
theorem dX10_choir_0 : decode cX10_choir 0 = .ok (.iload_n 2, 1) := by decide +kernel
theorem dX10_choir_1 : decode cX10_choir 1 = .ok (.invokestatic 85, 3) := by decide +kernel
theorem dX10_choir_4 : decode cX10_choir 4 = .ok (.ifCond .eq 20, 3) := by decide +kernel
theorem dX10_choir_7 : decode cX10_choir 7 = .ok (.iload_n 1, 1) := by decide +kernel
theorem dX10_choir_8 : decode cX10_choir 8 = .ok (.iconst 5, 1) := by decide +kernel
theorem dX10_choir_9 : decode cX10_choir 9 = .ok (.if_icmp .ne 17, 3) := by decide +kernel
theorem dX10_choir_12 : decode cX10_choir 12 = .ok (.aload_n 0, 1) := by decide +kernel
theorem dX10_choir_13 : decode cX10_choir 13 = .ok (.getfield 10, 3) := by decide +kernel
theorem dX10_choir_16 : decode cX10_choir 16 = .ok (.iload 4, 2) := by decide +kernel
theorem dX10_choir_18 : decode cX10_choir 18 = .ok (.invokevirtual 89, 3) := by decide +kernel
theorem dX10_choir_21 : decode cX10_choir 21 = .ok (.ifCond .ne 5, 3) := by decide +kernel
theorem dX10_choir_24 : decode cX10_choir 24 = .ok (.iconst (-1), 1) := by decide +kernel
theorem dX10_choir_25 : decode cX10_choir 25 = .ok (.ireturn, 1) := by decide +kernel
theorem dX10_choir_26 : decode cX10_choir 26 = .ok (.aload_n 0, 1) := by decide +kernel
theorem dX10_choir_27 : decode cX10_choir 27 = .ok (.getfield 10, 3) := by decide +kernel
theorem dX10_choir_30 : decode cX10_choir 30 = .ok (.iload_n 1, 1) := by decide +kernel
theorem dX10_choir_31 : decode cX10_choir 31 = .ok (.iload_n 3, 1) := by decide +kernel
theorem dX10_choir_32 : decode cX10_choir 32 = .ok (.iload 4, 2) := by decide +kernel
theorem dX10_choir_34 : decode cX10_choir 34 = .ok (.invokevirtual 92, 3) := by decide +kernel
theorem dX10_choir_37 : decode cX10_choir 37 = .ok (.ifCond .ne 6, 3) := by decide +kernel
theorem dX10_choir_40 : decode cX10_choir 40 = .ok (.bipush (-2), 2) := by decide +kernel
theorem dX10_choir_42 : decode cX10_choir 42 = .ok (.ireturn, 1) := by decide +kernel
theorem dX10_choir_43 : decode cX10_choir 43 = .ok (.aload_n 0, 1) := by decide +kernel
theorem dX10_choir_44 : decode cX10_choir 44 = .ok (.getfield 10, 3) := by decide +kernel
theorem dX10_choir_47 : decode cX10_choir 47 = .ok (.getfield 96, 3) := by decide +kernel
theorem dX10_choir_50 : decode cX10_choir 50 = .ok (.bipush 16, 2) := by decide +kernel
theorem dX10_choir_52 : decode cX10_choir 52 = .ok (.if_icmp .lt 6, 3) := by decide +kernel
theorem dX10_choir_55 : decode cX10_choir 55 = .ok (.bipush (-4), 2) := by decide +kernel
theorem dX10_choir_57 : decode cX10_choir 57 = .ok (.ireturn, 1) := by decide +kernel
theorem dX10_choir_58 : decode cX10_choir 58 = .ok (.iload_n 1, 1) := by decide +kernel
theorem dX10_choir_59 : decode cX10_choir 59 = .ok (.iconst 5, 1) := by decide +kernel
theorem dX10_choir_60 : decode cX10_choir 60 = .ok (.if_icmp .ne 21, 3) := by decide +kernel
theorem dX10_choir_63 : decode cX10_choir 63 = .ok (.aload_n 0, 1) := by decide +kernel
theorem dX10_choir_64 : decode cX10_choir 64 = .ok (.getfield 10, 3) := by decide +kernel
theorem dX10_choir_67 : decode cX10_choir 67 = .ok (.iload 4, 2) := by decide +kernel
theorem dX10_choir_69 : decode cX10_choir 69 = .ok (.invokestatic 99, 3) := by decide +kernel
theorem dX10_choir_72 : decode cX10_choir 72 = .ok (.iload 4, 2) := by decide +kernel
theorem dX10_choir_74 : decode cX10_choir 74 = .ok (.invokestatic 103, 3) := by decide +kernel
theorem dX10_choir_77 : decode cX10_choir 77 = .ok (.invokevirtual 106, 3) := by decide +kernel
theorem dX10_choir_80 : decode cX10_choir 80 = .ok (.ireturn, 1) := by decide +kernel
theorem dX10_choir_81 : decode cX10_choir 81 = .ok (.aload_n 0, 1) := by decide +kernel
theorem dX10_choir_82 : decode cX10_choir 82 = .ok (.getfield 10, 3) := by decide +kernel
theorem dX10_choir_85 : decode cX10_choir 85 = .ok (.iload_n 1, 1) := by decide +kernel
theorem dX10_choir_86 : decode cX10_choir 86 = .ok (.iload_n 2, 1) := by decide +kernel
theorem dX10_choir_87 : decode cX10_choir 87 = .ok (.iload_n 3, 1) := by decide +kernel
theorem dX10_choir_88 : decode cX10_choir 88 = .ok (.iload 4, 2) := by decide +kernel
theorem dX10_choir_90 : decode cX10_choir 90 = .ok (.invokevirtual 110, 3) := by decide +kernel
theorem dX10_choir_93 : decode cX10_choir 93 = .ok (.ireturn, 1) := by decide +kernel
theorem dX10_day_0 : decode cX10_day 0 = .ok (.iload_n 1, 1) := by decide +kernel
theorem dX10_day_1 : decode cX10_day 1 = .ok (.aload_n 0, 1) := by decide +kernel
theorem dX10_day_2 : decode cX10_day 2 = .ok (.getfield 81, 3) := by decide +kernel
theorem dX10_day_5 : decode cX10_day 5 = .ok (.if_icmp .lt 8, 3) := by decide +kernel
theorem dX10_day_8 : decode cX10_day 8 = .ok (.iload_n 1, 1) := by decide +kernel
theorem dX10_day_9 : decode cX10_day 9 = .ok (.iconst 4, 1) := by decide +kernel
theorem dX10_day_10 : decode cX10_day 10 = .ok (.if_icmp .lt 6, 3) := by decide +kernel
theorem dX10_day_13 : decode cX10_day 13 = .ok (.bipush (-2), 2) := by decide +kernel
theorem dX10_day_15 : decode cX10_day 15 = .ok (.ireturn, 1) := by decide +kernel
theorem dX10_day_16 : decode cX10_day 16 = .ok (.aload_n 0, 1) := by decide +kernel
theorem dX10_day_17 : decode cX10_day 17 = .ok (.getfield 81, 3) := by decide +kernel
theorem dX10_day_20 : decode cX10_day 20 = .ok (.istore_n 2, 1) := by decide +kernel
theorem dX10_day_21 : decode cX10_day 21 = .ok (.aload_n 0, 1) := by decide +kernel
theorem dX10_day_22 : decode cX10_day 22 = .ok (.iload_n 1, 1) := by decide +kernel
theorem dX10_day_23 : decode cX10_day 23 = .ok (.putfield 81, 3) := by decide +kernel
theorem dX10_day_26 : decode cX10_day 26 = .ok (.iload_n 2, 1) := by decide +kernel
theorem dX10_day_27 : decode cX10_day 27 = .ok (.ireturn, 1) := by decide +kernel
theorem dX10_song_0 : decode cX10_song 0 = .ok (.iload_n 1, 1) := by decide +kernel
theorem dX10_song_1 : decode cX10_song 1 = .ok (.iconst 1, 1) := by decide +kernel
theorem dX10_song_2 : decode cX10_song 2 = .ok (.bipush 63, 2) := by decide +kernel
theorem dX10_song_4 : decode cX10_song 4 = .ok (.invokestatic 114, 3) := by decide +kernel
theorem dX10_song_7 : decode cX10_song 7 = .ok (.ifCond .eq 34, 3) := by decide +kernel
theorem dX10_song_10 : decode cX10_song 10 = .ok (.iload_n 2, 1) := by decide +kernel
theorem dX10_song_11 : decode cX10_song 11 = .ok (.iconst 1, 1) := by decide +kernel
theorem dX10_song_12 : decode cX10_song 12 = .ok (.bipush 15, 2) := by decide +kernel
theorem dX10_song_14 : decode cX10_song 14 = .ok (.invokestatic 114, 3) := by decide +kernel
theorem dX10_song_17 : decode cX10_song 17 = .ok (.ifCond .eq 24, 3) := by decide +kernel
theorem dX10_song_20 : decode cX10_song 20 = .ok (.iload_n 3, 1) := by decide +kernel
theorem dX10_song_21 : decode cX10_song 21 = .ok (.iconst 0, 1) := by decide +kernel
theorem dX10_song_22 : decode cX10_song 22 = .ok (.bipush 9, 2) := by decide +kernel
theorem dX10_song_24 : decode cX10_song 24 = .ok (.invokestatic 114, 3) := by decide +kernel
theorem dX10_song_27 : decode cX10_song 27 = .ok (.ifCond .eq 14, 3) := by decide +kernel
theorem dX10_song_30 : decode cX10_song 30 = .ok (.iload 4, 2) := by decide +kernel
theorem dX10_song_32 : decode cX10_song 32 = .ok (.iconst 1, 1) := by decide +kernel
theorem dX10_song_33 : decode cX10_song 33 = .ok (.bipush 30, 2) := by decide +kernel
theorem dX10_song_35 : decode cX10_song 35 = .ok (.invokestatic 114, 3) := by decide +kernel
theorem dX10_song_38 : decode cX10_song 38 = .ok (.ifCond .ne 6, 3) := by decide +kernel
theorem dX10_song_41 : decode cX10_song 41 = .ok (.bipush (-2), 2) := by decide +kernel
theorem dX10_song_43 : decode cX10_song 43 = .ok (.ireturn, 1) := by decide +kernel
theorem dX10_song_44 : decode cX10_song 44 = .ok (.aload_n 0, 1) := by decide +kernel
theorem dX10_song_45 : decode cX10_song 45 = .ok (.getfield 19, 3) := by decide +kernel
theorem dX10_song_48 : decode cX10_song 48 = .ok (.getfield 117, 3) := by decide +kernel
theorem dX10_song_51 : decode cX10_song 51 = .ok (.bipush 9, 2) := by decide +kernel
theorem dX10_song_53 : decode cX10_song 53 = .ok (.if_icmp .lt 6, 3) := by decide +kernel
theorem dX10_song_56 : decode cX10_song 56 = .ok (.bipush (-4), 2) := by decide +kernel
theorem dX10_song_58 : decode cX10_song 58 = .ok (.ireturn, 1) := by decide +kernel
theorem dX10_song_59 : decode cX10_song 59 = .ok (.aload_n 0, 1) := by decide +kernel
theorem dX10_song_60 : decode cX10_song 60 = .ok (.getfield 19, 3) := by decide +kernel
theorem dX10_song_63 : decode cX10_song 63 = .ok (.iload_n 1, 1) := by decide +kernel
theorem dX10_song_64 : decode cX10_song 64 = .ok (.iload_n 2, 1) := by decide +kernel
theorem dX10_song_65 : decode cX10_song 65 = .ok (.iload_n 3, 1) := by decide +kernel
theorem dX10_song_66 : decode cX10_song 66 = .ok (.invokevirtual 118, 3) := by decide +kernel
theorem dX10_song_69 : decode cX10_song 69 = .ok (.ireturn, 1) := by decide +kernel
theorem dX10_judge_0 : decode cX10_judge 0 = .ok (.iload_n 1, 1) := by decide +kernel
theorem dX10_judge_1 : decode cX10_judge 1 = .ok (.invokestatic 85, 3) := by decide +kernel
theorem dX10_judge_4 : decode cX10_judge 4 = .ok (.ifCond .ne 5, 3) := by decide +kernel
theorem dX10_judge_7 : decode cX10_judge 7 = .ok (.iconst (-1), 1) := by decide +kernel
theorem dX10_judge_8 : decode cX10_judge 8 = .ok (.ireturn, 1) := by decide +kernel
theorem dX10_judge_9 : decode cX10_judge 9 = .ok (.aload_n 0, 1) := by decide +kernel
theorem dX10_judge_10 : decode cX10_judge 10 = .ok (.getfield 26, 3) := by decide +kernel
theorem dX10_judge_13 : decode cX10_judge 13 = .ok (.getfield 121, 3) := by decide +kernel
theorem dX10_judge_16 : decode cX10_judge 16 = .ok (.bipush 6, 2) := by decide +kernel
theorem dX10_judge_18 : decode cX10_judge 18 = .ok (.if_icmp .lt 6, 3) := by decide +kernel
theorem dX10_judge_21 : decode cX10_judge 21 = .ok (.bipush (-4), 2) := by decide +kernel
theorem dX10_judge_23 : decode cX10_judge 23 = .ok (.ireturn, 1) := by decide +kernel
theorem dX10_judge_24 : decode cX10_judge 24 = .ok (.aload_n 0, 1) := by decide +kernel
theorem dX10_judge_25 : decode cX10_judge 25 = .ok (.getfield 26, 3) := by decide +kernel
theorem dX10_judge_28 : decode cX10_judge 28 = .ok (.iload_n 1, 1) := by decide +kernel
theorem dX10_judge_29 : decode cX10_judge 29 = .ok (.invokevirtual 122, 3) := by decide +kernel
theorem dX10_judge_32 : decode cX10_judge 32 = .ok (.ireturn, 1) := by decide +kernel
theorem dX10_mark_0 : decode cX10_mark 0 = .ok (.aload_n 0, 1) := by decide +kernel
theorem dX10_mark_1 : decode cX10_mark 1 = .ok (.getfield 26, 3) := by decide +kernel
theorem dX10_mark_4 : decode cX10_mark 4 = .ok (.iload_n 1, 1) := by decide +kernel
theorem dX10_mark_5 : decode cX10_mark 5 = .ok (.invokevirtual 124, 3) := by decide +kernel
theorem dX10_mark_8 : decode cX10_mark 8 = .ok (.ifCond .eq 14, 3) := by decide +kernel
theorem dX10_mark_11 : decode cX10_mark 11 = .ok (.aload_n 0, 1) := by decide +kernel
theorem dX10_mark_12 : decode cX10_mark 12 = .ok (.getfield 10, 3) := by decide +kernel
theorem dX10_mark_15 : decode cX10_mark 15 = .ok (.iload_n 2, 1) := by decide +kernel
theorem dX10_mark_16 : decode cX10_mark 16 = .ok (.invokevirtual 127, 3) := by decide +kernel
theorem dX10_mark_19 : decode cX10_mark 19 = .ok (.ifCond .ne 6, 3) := by decide +kernel
theorem dX10_mark_22 : decode cX10_mark 22 = .ok (.bipush (-5), 2) := by decide +kernel
theorem dX10_mark_24 : decode cX10_mark 24 = .ok (.ireturn, 1) := by decide +kernel
theorem dX10_mark_25 : decode cX10_mark 25 = .ok (.iload_n 3, 1) := by decide +kernel
theorem dX10_mark_26 : decode cX10_mark 26 = .ok (.iconst 0, 1) := by decide +kernel
theorem dX10_mark_27 : decode cX10_mark 27 = .ok (.bipush 100, 2) := by decide +kernel
theorem dX10_mark_29 : decode cX10_mark 29 = .ok (.invokestatic 114, 3) := by decide +kernel
theorem dX10_mark_32 : decode cX10_mark 32 = .ok (.ifCond .ne 6, 3) := by decide +kernel
theorem dX10_mark_35 : decode cX10_mark 35 = .ok (.bipush (-2), 2) := by decide +kernel
theorem dX10_mark_37 : decode cX10_mark 37 = .ok (.ireturn, 1) := by decide +kernel
theorem dX10_mark_38 : decode cX10_mark 38 = .ok (.aload_n 0, 1) := by decide +kernel
theorem dX10_mark_39 : decode cX10_mark 39 = .ok (.getfield 26, 3) := by decide +kernel
theorem dX10_mark_42 : decode cX10_mark 42 = .ok (.getfield 128, 3) := by decide +kernel
theorem dX10_mark_45 : decode cX10_mark 45 = .ok (.iload_n 1, 1) := by decide +kernel
theorem dX10_mark_46 : decode cX10_mark 46 = .ok (.iaload, 1) := by decide +kernel
theorem dX10_mark_47 : decode cX10_mark 47 = .ok (.aload_n 0, 1) := by decide +kernel
theorem dX10_mark_48 : decode cX10_mark 48 = .ok (.getfield 10, 3) := by decide +kernel
theorem dX10_mark_51 : decode cX10_mark 51 = .ok (.getfield 132, 3) := by decide +kernel
theorem dX10_mark_54 : decode cX10_mark 54 = .ok (.iload_n 2, 1) := by decide +kernel
theorem dX10_mark_55 : decode cX10_mark 55 = .ok (.iaload, 1) := by decide +kernel
theorem dX10_mark_56 : decode cX10_mark 56 = .ok (.if_icmp .ne 6, 3) := by decide +kernel
theorem dX10_mark_59 : decode cX10_mark 59 = .ok (.bipush (-3), 2) := by decide +kernel
theorem dX10_mark_61 : decode cX10_mark 61 = .ok (.ireturn, 1) := by decide +kernel
theorem dX10_mark_62 : decode cX10_mark 62 = .ok (.aload_n 0, 1) := by decide +kernel
theorem dX10_mark_63 : decode cX10_mark 63 = .ok (.getfield 26, 3) := by decide +kernel
theorem dX10_mark_66 : decode cX10_mark 66 = .ok (.iload_n 1, 1) := by decide +kernel
theorem dX10_mark_67 : decode cX10_mark 67 = .ok (.iload_n 2, 1) := by decide +kernel
theorem dX10_mark_68 : decode cX10_mark 68 = .ok (.iload_n 3, 1) := by decide +kernel
theorem dX10_mark_69 : decode cX10_mark 69 = .ok (.invokevirtual 133, 3) := by decide +kernel
theorem dX10_mark_72 : decode cX10_mark 72 = .ok (.ireturn, 1) := by decide +kernel
theorem dX10_mean_0 : decode cX10_mean 0 = .ok (.aload_n 0, 1) := by decide +kernel
theorem dX10_mean_1 : decode cX10_mean 1 = .ok (.getfield 10, 3) := by decide +kernel
theorem dX10_mean_4 : decode cX10_mean 4 = .ok (.iload_n 1, 1) := by decide +kernel
theorem dX10_mean_5 : decode cX10_mean 5 = .ok (.invokevirtual 127, 3) := by decide +kernel
theorem dX10_mean_8 : decode cX10_mean 8 = .ok (.ifCond .eq 14, 3) := by decide +kernel
theorem dX10_mean_11 : decode cX10_mean 11 = .ok (.aload_n 0, 1) := by decide +kernel
theorem dX10_mean_12 : decode cX10_mean 12 = .ok (.getfield 26, 3) := by decide +kernel
theorem dX10_mean_15 : decode cX10_mean 15 = .ok (.iload_n 1, 1) := by decide +kernel
theorem dX10_mean_16 : decode cX10_mean 16 = .ok (.invokevirtual 136, 3) := by decide +kernel
theorem dX10_mean_19 : decode cX10_mean 19 = .ok (.goto 4, 3) := by decide +kernel
theorem dX10_mean_22 : decode cX10_mean 22 = .ok (.iconst (-1), 1) := by decide +kernel
theorem dX10_mean_23 : decode cX10_mean 23 = .ok (.ireturn, 1) := by decide +kernel
theorem dX10_scale_0 : decode cX10_scale 0 = .ok (.aload_n 0, 1) := by decide +kernel
theorem dX10_scale_1 : decode cX10_scale 1 = .ok (.getfield 26, 3) := by decide +kernel
theorem dX10_scale_4 : decode cX10_scale 4 = .ok (.iload_n 1, 1) := by decide +kernel
theorem dX10_scale_5 : decode cX10_scale 5 = .ok (.invokevirtual 124, 3) := by decide +kernel
theorem dX10_scale_8 : decode cX10_scale 8 = .ok (.ifCond .eq 19, 3) := by decide +kernel
theorem dX10_scale_11 : decode cX10_scale 11 = .ok (.aload_n 0, 1) := by decide +kernel
theorem dX10_scale_12 : decode cX10_scale 12 = .ok (.getfield 26, 3) := by decide +kernel
theorem dX10_scale_15 : decode cX10_scale 15 = .ok (.iload_n 2, 1) := by decide +kernel
theorem dX10_scale_16 : decode cX10_scale 16 = .ok (.invokevirtual 124, 3) := by decide +kernel
theorem dX10_scale_19 : decode cX10_scale 19 = .ok (.ifCond .eq 8, 3) := by decide +kernel
theorem dX10_scale_22 : decode cX10_scale 22 = .ok (.iload_n 1, 1) := by decide +kernel
theorem dX10_scale_23 : decode cX10_scale 23 = .ok (.iload_n 2, 1) := by decide +kernel
theorem dX10_scale_24 : decode cX10_scale 24 = .ok (.if_icmp .ne 7, 3) := by decide +kernel
theorem dX10_scale_27 : decode cX10_scale 27 = .ok (.sipush (-200), 3) := by decide +kernel
theorem dX10_scale_30 : decode cX10_scale 30 = .ok (.ireturn, 1) := by decide +kernel
theorem dX10_scale_31 : decode cX10_scale 31 = .ok (.aload_n 0, 1) := by decide +kernel
theorem dX10_scale_32 : decode cX10_scale 32 = .ok (.getfield 26, 3) := by decide +kernel
theorem dX10_scale_35 : decode cX10_scale 35 = .ok (.iload_n 1, 1) := by decide +kernel
theorem dX10_scale_36 : decode cX10_scale 36 = .ok (.iload_n 2, 1) := by decide +kernel
theorem dX10_scale_37 : decode cX10_scale 37 = .ok (.invokevirtual 139, 3) := by decide +kernel
theorem dX10_scale_40 : decode cX10_scale 40 = .ok (.ireturn, 1) := by decide +kernel
theorem dX10_about_0 : decode cX10_about 0 = .ok (.aload_n 0, 1) := by decide +kernel
theorem dX10_about_1 : decode cX10_about 1 = .ok (.getfield 10, 3) := by decide +kernel
theorem dX10_about_4 : decode cX10_about 4 = .ok (.iload_n 1, 1) := by decide +kernel
theorem dX10_about_5 : decode cX10_about 5 = .ok (.invokevirtual 127, 3) := by decide +kernel
theorem dX10_about_8 : decode cX10_about 8 = .ok (.ifCond .ne 5, 3) := by decide +kernel
theorem dX10_about_11 : decode cX10_about 11 = .ok (.iconst (-1), 1) := by decide +kernel
theorem dX10_about_12 : decode cX10_about 12 = .ok (.ireturn, 1) := by decide +kernel
theorem dX10_about_13 : decode cX10_about 13 = .ok (.iload_n 2, 1) := by decide +kernel
theorem dX10_about_14 : decode cX10_about 14 = .ok (.tableswitch 144 0 8 #[50, 60, 70, 80, 94, 104, 114, 124, 134], 50) := by decide +kernel
theorem dX10_about_64 : decode cX10_about 64 = .ok (.aload_n 0, 1) := by decide +kernel
theorem dX10_about_65 : decode cX10_about 65 = .ok (.getfield 10, 3) := by decide +kernel
theorem dX10_about_68 : decode cX10_about 68 = .ok (.getfield 142, 3) := by decide +kernel
theorem dX10_about_71 : decode cX10_about 71 = .ok (.iload_n 1, 1) := by decide +kernel
theorem dX10_about_72 : decode cX10_about 72 = .ok (.iaload, 1) := by decide +kernel
theorem dX10_about_73 : decode cX10_about 73 = .ok (.ireturn, 1) := by decide +kernel
theorem dX10_about_74 : decode cX10_about 74 = .ok (.aload_n 0, 1) := by decide +kernel
theorem dX10_about_75 : decode cX10_about 75 = .ok (.getfield 10, 3) := by decide +kernel
theorem dX10_about_78 : decode cX10_about 78 = .ok (.getfield 132, 3) := by decide +kernel
theorem dX10_about_81 : decode cX10_about 81 = .ok (.iload_n 1, 1) := by decide +kernel
theorem dX10_about_82 : decode cX10_about 82 = .ok (.iaload, 1) := by decide +kernel
theorem dX10_about_83 : decode cX10_about 83 = .ok (.ireturn, 1) := by decide +kernel
theorem dX10_about_84 : decode cX10_about 84 = .ok (.aload_n 0, 1) := by decide +kernel
theorem dX10_about_85 : decode cX10_about 85 = .ok (.getfield 10, 3) := by decide +kernel
theorem dX10_about_88 : decode cX10_about 88 = .ok (.getfield 145, 3) := by decide +kernel
theorem dX10_about_91 : decode cX10_about 91 = .ok (.iload_n 1, 1) := by decide +kernel
theorem dX10_about_92 : decode cX10_about 92 = .ok (.iaload, 1) := by decide +kernel
theorem dX10_about_93 : decode cX10_about 93 = .ok (.ireturn, 1) := by decide +kernel
theorem dX10_about_94 : decode cX10_about 94 = .ok (.aload_n 0, 1) := by decide +kernel
theorem dX10_about_95 : decode cX10_about 95 = .ok (.iload_n 1, 1) := by decide +kernel
theorem dX10_about_96 : decode cX10_about 96 = .ok (.invokevirtual 148, 3) := by decide +kernel
theorem dX10_about_99 : decode cX10_about 99 = .ok (.ifCond .eq 7, 3) := by decide +kernel
theorem dX10_about_102 : decode cX10_about 102 = .ok (.iconst 1, 1) := by decide +kernel
theorem dX10_about_103 : decode cX10_about 103 = .ok (.goto 4, 3) := by decide +kernel
theorem dX10_about_106 : decode cX10_about 106 = .ok (.iconst 0, 1) := by decide +kernel
theorem dX10_about_107 : decode cX10_about 107 = .ok (.ireturn, 1) := by decide +kernel
theorem dX10_about_108 : decode cX10_about 108 = .ok (.aload_n 0, 1) := by decide +kernel
theorem dX10_about_109 : decode cX10_about 109 = .ok (.getfield 10, 3) := by decide +kernel
theorem dX10_about_112 : decode cX10_about 112 = .ok (.getfield 151, 3) := by decide +kernel
theorem dX10_about_115 : decode cX10_about 115 = .ok (.iload_n 1, 1) := by decide +kernel
theorem dX10_about_116 : decode cX10_about 116 = .ok (.iaload, 1) := by decide +kernel
theorem dX10_about_117 : decode cX10_about 117 = .ok (.ireturn, 1) := by decide +kernel
theorem dX10_about_118 : decode cX10_about 118 = .ok (.aload_n 0, 1) := by decide +kernel
theorem dX10_about_119 : decode cX10_about 119 = .ok (.getfield 70, 3) := by decide +kernel
theorem dX10_about_122 : decode cX10_about 122 = .ok (.getfield 154, 3) := by decide +kernel
theorem dX10_about_125 : decode cX10_about 125 = .ok (.iload_n 1, 1) := by decide +kernel
theorem dX10_about_126 : decode cX10_about 126 = .ok (.iaload, 1) := by decide +kernel
theorem dX10_about_127 : decode cX10_about 127 = .ok (.ireturn, 1) := by decide +kernel
theorem dX10_about_128 : decode cX10_about 128 = .ok (.aload_n 0, 1) := by decide +kernel
theorem dX10_about_129 : decode cX10_about 129 = .ok (.getfield 49, 3) := by decide +kernel
theorem dX10_about_132 : decode cX10_about 132 = .ok (.getfield 157, 3) := by decide +kernel
theorem dX10_about_135 : decode cX10_about 135 = .ok (.iload_n 1, 1) := by decide +kernel
theorem dX10_about_136 : decode cX10_about 136 = .ok (.iaload, 1) := by decide +kernel
theorem dX10_about_137 : decode cX10_about 137 = .ok (.ireturn, 1) := by decide +kernel
theorem dX10_about_138 : decode cX10_about 138 = .ok (.aload_n 0, 1) := by decide +kernel
theorem dX10_about_139 : decode cX10_about 139 = .ok (.getfield 49, 3) := by decide +kernel
theorem dX10_about_142 : decode cX10_about 142 = .ok (.getfield 160, 3) := by decide +kernel
theorem dX10_about_145 : decode cX10_about 145 = .ok (.iload_n 1, 1) := by decide +kernel
theorem dX10_about_146 : decode cX10_about 146 = .ok (.iaload, 1) := by decide +kernel
theorem dX10_about_147 : decode cX10_about 147 = .ok (.ireturn, 1) := by decide +kernel
theorem dX10_about_148 : decode cX10_about 148 = .ok (.aload_n 0, 1) := by decide +kernel
theorem dX10_about_149 : decode cX10_about 149 = .ok (.getfield 10, 3) := by decide +kernel
theorem dX10_about_152 : decode cX10_about 152 = .ok (.getfield 163, 3) := by decide +kernel
theorem dX10_about_155 : decode cX10_about 155 = .ok (.iload_n 1, 1) := by decide +kernel
theorem dX10_about_156 : decode cX10_about 156 = .ok (.iaload, 1) := by decide +kernel
theorem dX10_about_157 : decode cX10_about 157 = .ok (.ireturn, 1) := by decide +kernel
theorem dX10_about_158 : decode cX10_about 158 = .ok (.iconst (-1), 1) := by decide +kernel
theorem dX10_about_159 : decode cX10_about 159 = .ok (.ireturn, 1) := by decide +kernel
theorem dX10_voice_0 : decode cX10_voice 0 = .ok (.aload_n 0, 1) := by decide +kernel
theorem dX10_voice_1 : decode cX10_voice 1 = .ok (.getfield 10, 3) := by decide +kernel
theorem dX10_voice_4 : decode cX10_voice 4 = .ok (.iload_n 1, 1) := by decide +kernel
theorem dX10_voice_5 : decode cX10_voice 5 = .ok (.invokevirtual 127, 3) := by decide +kernel
theorem dX10_voice_8 : decode cX10_voice 8 = .ok (.ifCond .eq 12, 3) := by decide +kernel
theorem dX10_voice_11 : decode cX10_voice 11 = .ok (.iload_n 2, 1) := by decide +kernel
theorem dX10_voice_12 : decode cX10_voice 12 = .ok (.ifCond .lt 8, 3) := by decide +kernel
theorem dX10_voice_15 : decode cX10_voice 15 = .ok (.iload_n 2, 1) := by decide +kernel
theorem dX10_voice_16 : decode cX10_voice 16 = .ok (.iconst 4, 1) := by decide +kernel
theorem dX10_voice_17 : decode cX10_voice 17 = .ok (.if_icmp .lt 5, 3) := by decide +kernel
theorem dX10_voice_20 : decode cX10_voice 20 = .ok (.iconst (-1), 1) := by decide +kernel
theorem dX10_voice_21 : decode cX10_voice 21 = .ok (.ireturn, 1) := by decide +kernel
theorem dX10_voice_22 : decode cX10_voice 22 = .ok (.aload_n 0, 1) := by decide +kernel
theorem dX10_voice_23 : decode cX10_voice 23 = .ok (.getfield 10, 3) := by decide +kernel
theorem dX10_voice_26 : decode cX10_voice 26 = .ok (.getfield 166, 3) := by decide +kernel
theorem dX10_voice_29 : decode cX10_voice 29 = .ok (.iload_n 1, 1) := by decide +kernel
theorem dX10_voice_30 : decode cX10_voice 30 = .ok (.iconst 4, 1) := by decide +kernel
theorem dX10_voice_31 : decode cX10_voice 31 = .ok (.imul, 1) := by decide +kernel
theorem dX10_voice_32 : decode cX10_voice 32 = .ok (.iload_n 2, 1) := by decide +kernel
theorem dX10_voice_33 : decode cX10_voice 33 = .ok (.iadd, 1) := by decide +kernel
theorem dX10_voice_34 : decode cX10_voice 34 = .ok (.iaload, 1) := by decide +kernel
theorem dX10_voice_35 : decode cX10_voice 35 = .ok (.ireturn, 1) := by decide +kernel
theorem dX10_feed_0 : decode cX10_feed 0 = .ok (.iload_n 3, 1) := by decide +kernel
theorem dX10_feed_1 : decode cX10_feed 1 = .ok (.iconst 1, 1) := by decide +kernel
theorem dX10_feed_2 : decode cX10_feed 2 = .ok (.bipush 8, 2) := by decide +kernel
theorem dX10_feed_4 : decode cX10_feed 4 = .ok (.invokestatic 114, 3) := by decide +kernel
theorem dX10_feed_7 : decode cX10_feed 7 = .ok (.ifCond .ne 6, 3) := by decide +kernel
theorem dX10_feed_10 : decode cX10_feed 10 = .ok (.bipush (-2), 2) := by decide +kernel
theorem dX10_feed_12 : decode cX10_feed 12 = .ok (.ireturn, 1) := by decide +kernel
theorem dX10_feed_13 : decode cX10_feed 13 = .ok (.aload_n 0, 1) := by decide +kernel
theorem dX10_feed_14 : decode cX10_feed 14 = .ok (.getfield 33, 3) := by decide +kernel
theorem dX10_feed_17 : decode cX10_feed 17 = .ok (.getfield 169, 3) := by decide +kernel
theorem dX10_feed_20 : decode cX10_feed 20 = .ok (.iload_n 3, 1) := by decide +kernel
theorem dX10_feed_21 : decode cX10_feed 21 = .ok (.iadd, 1) := by decide +kernel
theorem dX10_feed_22 : decode cX10_feed 22 = .ok (.bipush 120, 2) := by decide +kernel
theorem dX10_feed_24 : decode cX10_feed 24 = .ok (.if_icmp .le 6, 3) := by decide +kernel
theorem dX10_feed_27 : decode cX10_feed 27 = .ok (.bipush (-4), 2) := by decide +kernel
theorem dX10_feed_29 : decode cX10_feed 29 = .ok (.ireturn, 1) := by decide +kernel
theorem dX10_feed_30 : decode cX10_feed 30 = .ok (.aload_n 0, 1) := by decide +kernel
theorem dX10_feed_31 : decode cX10_feed 31 = .ok (.getfield 33, 3) := by decide +kernel
theorem dX10_feed_34 : decode cX10_feed 34 = .ok (.lload_n 1, 1) := by decide +kernel
theorem dX10_feed_35 : decode cX10_feed 35 = .ok (.iload_n 3, 1) := by decide +kernel
theorem dX10_feed_36 : decode cX10_feed 36 = .ok (.invokevirtual 172, 3) := by decide +kernel
theorem dX10_feed_39 : decode cX10_feed 39 = .ok (.ireturn, 1) := by decide +kernel
theorem dX10_rule_0 : decode cX10_rule 0 = .ok (.aload_n 0, 1) := by decide +kernel
theorem dX10_rule_1 : decode cX10_rule 1 = .ok (.getfield 40, 3) := by decide +kernel
theorem dX10_rule_4 : decode cX10_rule 4 = .ok (.getfield 176, 3) := by decide +kernel
theorem dX10_rule_7 : decode cX10_rule 7 = .ok (.bipush 12, 2) := by decide +kernel
theorem dX10_rule_9 : decode cX10_rule 9 = .ok (.if_icmp .lt 6, 3) := by decide +kernel
theorem dX10_rule_12 : decode cX10_rule 12 = .ok (.bipush (-4), 2) := by decide +kernel
theorem dX10_rule_14 : decode cX10_rule 14 = .ok (.ireturn, 1) := by decide +kernel
theorem dX10_rule_15 : decode cX10_rule 15 = .ok (.aload_n 0, 1) := by decide +kernel
theorem dX10_rule_16 : decode cX10_rule 16 = .ok (.getfield 33, 3) := by decide +kernel
theorem dX10_rule_19 : decode cX10_rule 19 = .ok (.invokevirtual 177, 3) := by decide +kernel
theorem dX10_rule_22 : decode cX10_rule 22 = .ok (.istore_n 1, 1) := by decide +kernel
theorem dX10_rule_23 : decode cX10_rule 23 = .ok (.aload_n 0, 1) := by decide +kernel
theorem dX10_rule_24 : decode cX10_rule 24 = .ok (.getfield 33, 3) := by decide +kernel
theorem dX10_rule_27 : decode cX10_rule 27 = .ok (.iconst 0, 1) := by decide +kernel
theorem dX10_rule_28 : decode cX10_rule 28 = .ok (.putfield 169, 3) := by decide +kernel
theorem dX10_rule_31 : decode cX10_rule 31 = .ok (.iload_n 1, 1) := by decide +kernel
theorem dX10_rule_32 : decode cX10_rule 32 = .ok (.ifCond .eq 17, 3) := by decide +kernel
theorem dX10_rule_35 : decode cX10_rule 35 = .ok (.aload_n 0, 1) := by decide +kernel
theorem dX10_rule_36 : decode cX10_rule 36 = .ok (.getfield 40, 3) := by decide +kernel
theorem dX10_rule_39 : decode cX10_rule 39 = .ok (.aload_n 0, 1) := by decide +kernel
theorem dX10_rule_40 : decode cX10_rule 40 = .ok (.getfield 33, 3) := by decide +kernel
theorem dX10_rule_43 : decode cX10_rule 43 = .ok (.invokevirtual 181, 3) := by decide +kernel
theorem dX10_rule_46 : decode cX10_rule 46 = .ok (.goto 13, 3) := by decide +kernel
theorem dX10_rule_49 : decode cX10_rule 49 = .ok (.bipush (-10), 2) := by decide +kernel
theorem dX10_rule_51 : decode cX10_rule 51 = .ok (.aload_n 0, 1) := by decide +kernel
theorem dX10_rule_52 : decode cX10_rule 52 = .ok (.getfield 33, 3) := by decide +kernel
theorem dX10_rule_55 : decode cX10_rule 55 = .ok (.getfield 184, 3) := by decide +kernel
theorem dX10_rule_58 : decode cX10_rule 58 = .ok (.isub, 1) := by decide +kernel
theorem dX10_rule_59 : decode cX10_rule 59 = .ok (.ireturn, 1) := by decide +kernel
theorem dX10_may_0 : decode cX10_may 0 = .ok (.aload_n 0, 1) := by decide +kernel
theorem dX10_may_1 : decode cX10_may 1 = .ok (.getfield 10, 3) := by decide +kernel
theorem dX10_may_4 : decode cX10_may 4 = .ok (.iload_n 1, 1) := by decide +kernel
theorem dX10_may_5 : decode cX10_may 5 = .ok (.invokevirtual 127, 3) := by decide +kernel
theorem dX10_may_8 : decode cX10_may 8 = .ok (.ifCond .eq 23, 3) := by decide +kernel
theorem dX10_may_11 : decode cX10_may 11 = .ok (.aload_n 0, 1) := by decide +kernel
theorem dX10_may_12 : decode cX10_may 12 = .ok (.getfield 19, 3) := by decide +kernel
theorem dX10_may_15 : decode cX10_may 15 = .ok (.iload_n 2, 1) := by decide +kernel
theorem dX10_may_16 : decode cX10_may 16 = .ok (.invokevirtual 187, 3) := by decide +kernel
theorem dX10_may_19 : decode cX10_may 19 = .ok (.ifCond .eq 12, 3) := by decide +kernel
theorem dX10_may_22 : decode cX10_may 22 = .ok (.aload_n 0, 1) := by decide +kernel
theorem dX10_may_23 : decode cX10_may 23 = .ok (.iload_n 1, 1) := by decide +kernel
theorem dX10_may_24 : decode cX10_may 24 = .ok (.iload_n 2, 1) := by decide +kernel
theorem dX10_may_25 : decode cX10_may 25 = .ok (.invokevirtual 188, 3) := by decide +kernel
theorem dX10_may_28 : decode cX10_may 28 = .ok (.goto 4, 3) := by decide +kernel
theorem dX10_may_31 : decode cX10_may 31 = .ok (.iconst (-1), 1) := by decide +kernel
theorem dX10_may_32 : decode cX10_may 32 = .ok (.ireturn, 1) := by decide +kernel
theorem dX10_why_0 : decode cX10_why 0 = .ok (.aload_n 0, 1) := by decide +kernel
theorem dX10_why_1 : decode cX10_why 1 = .ok (.getfield 10, 3) := by decide +kernel
theorem dX10_why_4 : decode cX10_why 4 = .ok (.iload_n 1, 1) := by decide +kernel
theorem dX10_why_5 : decode cX10_why 5 = .ok (.invokevirtual 127, 3) := by decide +kernel
theorem dX10_why_8 : decode cX10_why 8 = .ok (.ifCond .eq 23, 3) := by decide +kernel
theorem dX10_why_11 : decode cX10_why 11 = .ok (.aload_n 0, 1) := by decide +kernel
theorem dX10_why_12 : decode cX10_why 12 = .ok (.getfield 19, 3) := by decide +kernel
theorem dX10_why_15 : decode cX10_why 15 = .ok (.iload_n 2, 1) := by decide +kernel
theorem dX10_why_16 : decode cX10_why 16 = .ok (.invokevirtual 187, 3) := by decide +kernel
theorem dX10_why_19 : decode cX10_why 19 = .ok (.ifCond .eq 12, 3) := by decide +kernel
theorem dX10_why_22 : decode cX10_why 22 = .ok (.aload_n 0, 1) := by decide +kernel
theorem dX10_why_23 : decode cX10_why 23 = .ok (.iload_n 1, 1) := by decide +kernel
theorem dX10_why_24 : decode cX10_why 24 = .ok (.iload_n 2, 1) := by decide +kernel
theorem dX10_why_25 : decode cX10_why 25 = .ok (.invokevirtual 191, 3) := by decide +kernel
theorem dX10_why_28 : decode cX10_why 28 = .ok (.goto 4, 3) := by decide +kernel
theorem dX10_why_31 : decode cX10_why 31 = .ok (.iconst (-1), 1) := by decide +kernel
theorem dX10_why_32 : decode cX10_why 32 = .ok (.ireturn, 1) := by decide +kernel
theorem dX10_vote_0 : decode cX10_vote 0 = .ok (.aload_n 0, 1) := by decide +kernel
theorem dX10_vote_1 : decode cX10_vote 1 = .ok (.getfield 10, 3) := by decide +kernel
theorem dX10_vote_4 : decode cX10_vote 4 = .ok (.iload_n 1, 1) := by decide +kernel
theorem dX10_vote_5 : decode cX10_vote 5 = .ok (.invokevirtual 127, 3) := by decide +kernel
theorem dX10_vote_8 : decode cX10_vote 8 = .ok (.ifCond .eq 13, 3) := by decide +kernel
theorem dX10_vote_11 : decode cX10_vote 11 = .ok (.iload_n 2, 1) := by decide +kernel
theorem dX10_vote_12 : decode cX10_vote 12 = .ok (.iconst (-1), 1) := by decide +kernel
theorem dX10_vote_13 : decode cX10_vote 13 = .ok (.bipush 7, 2) := by decide +kernel
theorem dX10_vote_15 : decode cX10_vote 15 = .ok (.invokestatic 114, 3) := by decide +kernel
theorem dX10_vote_18 : decode cX10_vote 18 = .ok (.ifCond .ne 6, 3) := by decide +kernel
theorem dX10_vote_21 : decode cX10_vote 21 = .ok (.bipush (-5), 2) := by decide +kernel
theorem dX10_vote_23 : decode cX10_vote 23 = .ok (.ireturn, 1) := by decide +kernel
theorem dX10_vote_24 : decode cX10_vote 24 = .ok (.aload_n 0, 1) := by decide +kernel
theorem dX10_vote_25 : decode cX10_vote 25 = .ok (.getfield 10, 3) := by decide +kernel
theorem dX10_vote_28 : decode cX10_vote 28 = .ok (.getfield 163, 3) := by decide +kernel
theorem dX10_vote_31 : decode cX10_vote 31 = .ok (.iload_n 1, 1) := by decide +kernel
theorem dX10_vote_32 : decode cX10_vote 32 = .ok (.iaload, 1) := by decide +kernel
theorem dX10_vote_33 : decode cX10_vote 33 = .ok (.istore_n 3, 1) := by decide +kernel
theorem dX10_vote_34 : decode cX10_vote 34 = .ok (.aload_n 0, 1) := by decide +kernel
theorem dX10_vote_35 : decode cX10_vote 35 = .ok (.getfield 10, 3) := by decide +kernel
theorem dX10_vote_38 : decode cX10_vote 38 = .ok (.getfield 163, 3) := by decide +kernel
theorem dX10_vote_41 : decode cX10_vote 41 = .ok (.iload_n 1, 1) := by decide +kernel
theorem dX10_vote_42 : decode cX10_vote 42 = .ok (.iload_n 2, 1) := by decide +kernel
theorem dX10_vote_43 : decode cX10_vote 43 = .ok (.iastore, 1) := by decide +kernel
theorem dX10_vote_44 : decode cX10_vote 44 = .ok (.iload_n 3, 1) := by decide +kernel
theorem dX10_vote_45 : decode cX10_vote 45 = .ok (.ireturn, 1) := by decide +kernel
theorem dX10_leader_0 : decode cX10_leader 0 = .ok (.aload_n 0, 1) := by decide +kernel
theorem dX10_leader_1 : decode cX10_leader 1 = .ok (.getfield 19, 3) := by decide +kernel
theorem dX10_leader_4 : decode cX10_leader 4 = .ok (.iload_n 1, 1) := by decide +kernel
theorem dX10_leader_5 : decode cX10_leader 5 = .ok (.invokevirtual 187, 3) := by decide +kernel
theorem dX10_leader_8 : decode cX10_leader 8 = .ok (.ifCond .ne 5, 3) := by decide +kernel
theorem dX10_leader_11 : decode cX10_leader 11 = .ok (.iconst (-1), 1) := by decide +kernel
theorem dX10_leader_12 : decode cX10_leader 12 = .ok (.ireturn, 1) := by decide +kernel
theorem dX10_leader_13 : decode cX10_leader 13 = .ok (.aload_n 0, 1) := by decide +kernel
theorem dX10_leader_14 : decode cX10_leader 14 = .ok (.iload_n 1, 1) := by decide +kernel
theorem dX10_leader_15 : decode cX10_leader 15 = .ok (.invokevirtual 194, 3) := by decide +kernel
theorem dX10_leader_18 : decode cX10_leader 18 = .ok (.istore_n 2, 1) := by decide +kernel
theorem dX10_leader_19 : decode cX10_leader 19 = .ok (.iconst (-1), 1) := by decide +kernel
theorem dX10_leader_20 : decode cX10_leader 20 = .ok (.istore_n 3, 1) := by decide +kernel
theorem dX10_leader_21 : decode cX10_leader 21 = .ok (.iconst 0, 1) := by decide +kernel
theorem dX10_leader_22 : decode cX10_leader 22 = .ok (.istore 4, 2) := by decide +kernel
theorem dX10_leader_24 : decode cX10_leader 24 = .ok (.iconst 0, 1) := by decide +kernel
theorem dX10_leader_25 : decode cX10_leader 25 = .ok (.istore 5, 2) := by decide +kernel
theorem dX10_leader_27 : decode cX10_leader 27 = .ok (.iload 5, 2) := by decide +kernel
theorem dX10_leader_29 : decode cX10_leader 29 = .ok (.bipush 8, 2) := by decide +kernel
theorem dX10_leader_31 : decode cX10_leader 31 = .ok (.if_icmp .ge 35, 3) := by decide +kernel
theorem dX10_leader_34 : decode cX10_leader 34 = .ok (.aload_n 0, 1) := by decide +kernel
theorem dX10_leader_35 : decode cX10_leader 35 = .ok (.getfield 10, 3) := by decide +kernel
theorem dX10_leader_38 : decode cX10_leader 38 = .ok (.iload 5, 2) := by decide +kernel
theorem dX10_leader_40 : decode cX10_leader 40 = .ok (.iload_n 2, 1) := by decide +kernel
theorem dX10_leader_41 : decode cX10_leader 41 = .ok (.invokevirtual 197, 3) := by decide +kernel
theorem dX10_leader_44 : decode cX10_leader 44 = .ok (.istore 6, 2) := by decide +kernel
theorem dX10_leader_46 : decode cX10_leader 46 = .ok (.iload 6, 2) := by decide +kernel
theorem dX10_leader_48 : decode cX10_leader 48 = .ok (.iload 4, 2) := by decide +kernel
theorem dX10_leader_50 : decode cX10_leader 50 = .ok (.if_icmp .le 10, 3) := by decide +kernel
theorem dX10_leader_53 : decode cX10_leader 53 = .ok (.iload 6, 2) := by decide +kernel
theorem dX10_leader_55 : decode cX10_leader 55 = .ok (.istore 4, 2) := by decide +kernel
theorem dX10_leader_57 : decode cX10_leader 57 = .ok (.iload 5, 2) := by decide +kernel
theorem dX10_leader_59 : decode cX10_leader 59 = .ok (.istore_n 3, 1) := by decide +kernel
theorem dX10_leader_60 : decode cX10_leader 60 = .ok (.iinc 5 1, 3) := by decide +kernel
theorem dX10_leader_63 : decode cX10_leader 63 = .ok (.goto (-36), 3) := by decide +kernel
theorem dX10_leader_66 : decode cX10_leader 66 = .ok (.iload_n 3, 1) := by decide +kernel
theorem dX10_leader_67 : decode cX10_leader 67 = .ok (.ireturn, 1) := by decide +kernel
theorem dX10_stage_0 : decode cX10_stage 0 = .ok (.iload_n 1, 1) := by decide +kernel
theorem dX10_stage_1 : decode cX10_stage 1 = .ok (.iconst 1, 1) := by decide +kernel
theorem dX10_stage_2 : decode cX10_stage 2 = .ok (.bipush 8, 2) := by decide +kernel
theorem dX10_stage_4 : decode cX10_stage 4 = .ok (.invokestatic 114, 3) := by decide +kernel
theorem dX10_stage_7 : decode cX10_stage 7 = .ok (.ifCond .eq 13, 3) := by decide +kernel
theorem dX10_stage_10 : decode cX10_stage 10 = .ok (.iload_n 2, 1) := by decide +kernel
theorem dX10_stage_11 : decode cX10_stage 11 = .ok (.iconst 1, 1) := by decide +kernel
theorem dX10_stage_12 : decode cX10_stage 12 = .ok (.bipush 60, 2) := by decide +kernel
theorem dX10_stage_14 : decode cX10_stage 14 = .ok (.invokestatic 114, 3) := by decide +kernel
theorem dX10_stage_17 : decode cX10_stage 17 = .ok (.ifCond .ne 6, 3) := by decide +kernel
theorem dX10_stage_20 : decode cX10_stage 20 = .ok (.bipush (-2), 2) := by decide +kernel
theorem dX10_stage_22 : decode cX10_stage 22 = .ok (.ireturn, 1) := by decide +kernel
theorem dX10_stage_23 : decode cX10_stage 23 = .ok (.aload_n 0, 1) := by decide +kernel
theorem dX10_stage_24 : decode cX10_stage 24 = .ok (.getfield 49, 3) := by decide +kernel
theorem dX10_stage_27 : decode cX10_stage 27 = .ok (.invokevirtual 200, 3) := by decide +kernel
theorem dX10_stage_30 : decode cX10_stage 30 = .ok (.ifCond .le 6, 3) := by decide +kernel
theorem dX10_stage_33 : decode cX10_stage 33 = .ok (.bipush (-3), 2) := by decide +kernel
theorem dX10_stage_35 : decode cX10_stage 35 = .ok (.ireturn, 1) := by decide +kernel
theorem dX10_stage_36 : decode cX10_stage 36 = .ok (.aload_n 0, 1) := by decide +kernel
theorem dX10_stage_37 : decode cX10_stage 37 = .ok (.getfield 49, 3) := by decide +kernel
theorem dX10_stage_40 : decode cX10_stage 40 = .ok (.iload_n 1, 1) := by decide +kernel
theorem dX10_stage_41 : decode cX10_stage 41 = .ok (.putfield 204, 3) := by decide +kernel
theorem dX10_stage_44 : decode cX10_stage 44 = .ok (.aload_n 0, 1) := by decide +kernel
theorem dX10_stage_45 : decode cX10_stage 45 = .ok (.getfield 49, 3) := by decide +kernel
theorem dX10_stage_48 : decode cX10_stage 48 = .ok (.iload_n 2, 1) := by decide +kernel
theorem dX10_stage_49 : decode cX10_stage 49 = .ok (.putfield 207, 3) := by decide +kernel
theorem dX10_stage_52 : decode cX10_stage 52 = .ok (.iconst 0, 1) := by decide +kernel
theorem dX10_stage_53 : decode cX10_stage 53 = .ok (.ireturn, 1) := by decide +kernel
theorem dX10_tall_0 : decode cX10_tall 0 = .ok (.aload_n 0, 1) := by decide +kernel
theorem dX10_tall_1 : decode cX10_tall 1 = .ok (.getfield 10, 3) := by decide +kernel
theorem dX10_tall_4 : decode cX10_tall 4 = .ok (.iload_n 1, 1) := by decide +kernel
theorem dX10_tall_5 : decode cX10_tall 5 = .ok (.invokevirtual 127, 3) := by decide +kernel
theorem dX10_tall_8 : decode cX10_tall 8 = .ok (.ifCond .ne 5, 3) := by decide +kernel
theorem dX10_tall_11 : decode cX10_tall 11 = .ok (.iconst (-1), 1) := by decide +kernel
theorem dX10_tall_12 : decode cX10_tall 12 = .ok (.ireturn, 1) := by decide +kernel
theorem dX10_tall_13 : decode cX10_tall 13 = .ok (.iload_n 2, 1) := by decide +kernel
theorem dX10_tall_14 : decode cX10_tall 14 = .ok (.iconst 0, 1) := by decide +kernel
theorem dX10_tall_15 : decode cX10_tall 15 = .ok (.bipush 9, 2) := by decide +kernel
theorem dX10_tall_17 : decode cX10_tall 17 = .ok (.invokestatic 114, 3) := by decide +kernel
theorem dX10_tall_20 : decode cX10_tall 20 = .ok (.ifCond .ne 6, 3) := by decide +kernel
theorem dX10_tall_23 : decode cX10_tall 23 = .ok (.bipush (-2), 2) := by decide +kernel
theorem dX10_tall_25 : decode cX10_tall 25 = .ok (.ireturn, 1) := by decide +kernel
theorem dX10_tall_26 : decode cX10_tall 26 = .ok (.aload_n 0, 1) := by decide +kernel
theorem dX10_tall_27 : decode cX10_tall 27 = .ok (.getfield 10, 3) := by decide +kernel
theorem dX10_tall_30 : decode cX10_tall 30 = .ok (.getfield 151, 3) := by decide +kernel
theorem dX10_tall_33 : decode cX10_tall 33 = .ok (.iload_n 1, 1) := by decide +kernel
theorem dX10_tall_34 : decode cX10_tall 34 = .ok (.iaload, 1) := by decide +kernel
theorem dX10_tall_35 : decode cX10_tall 35 = .ok (.istore_n 3, 1) := by decide +kernel
theorem dX10_tall_36 : decode cX10_tall 36 = .ok (.aload_n 0, 1) := by decide +kernel
theorem dX10_tall_37 : decode cX10_tall 37 = .ok (.getfield 10, 3) := by decide +kernel
theorem dX10_tall_40 : decode cX10_tall 40 = .ok (.getfield 151, 3) := by decide +kernel
theorem dX10_tall_43 : decode cX10_tall 43 = .ok (.iload_n 1, 1) := by decide +kernel
theorem dX10_tall_44 : decode cX10_tall 44 = .ok (.iload_n 2, 1) := by decide +kernel
theorem dX10_tall_45 : decode cX10_tall 45 = .ok (.iastore, 1) := by decide +kernel
theorem dX10_tall_46 : decode cX10_tall 46 = .ok (.iload_n 3, 1) := by decide +kernel
theorem dX10_tall_47 : decode cX10_tall 47 = .ok (.ireturn, 1) := by decide +kernel
theorem dX10_stand_0 : decode cX10_stand 0 = .ok (.aload_n 0, 1) := by decide +kernel
theorem dX10_stand_1 : decode cX10_stand 1 = .ok (.getfield 10, 3) := by decide +kernel
theorem dX10_stand_4 : decode cX10_stand 4 = .ok (.iload_n 1, 1) := by decide +kernel
theorem dX10_stand_5 : decode cX10_stand 5 = .ok (.invokevirtual 127, 3) := by decide +kernel
theorem dX10_stand_8 : decode cX10_stand 8 = .ok (.ifCond .eq 29, 3) := by decide +kernel
theorem dX10_stand_11 : decode cX10_stand 11 = .ok (.aload_n 0, 1) := by decide +kernel
theorem dX10_stand_12 : decode cX10_stand 12 = .ok (.getfield 49, 3) := by decide +kernel
theorem dX10_stand_15 : decode cX10_stand 15 = .ok (.iload_n 2, 1) := by decide +kernel
theorem dX10_stand_16 : decode cX10_stand 16 = .ok (.invokevirtual 210, 3) := by decide +kernel
theorem dX10_stand_19 : decode cX10_stand 19 = .ok (.ifCond .eq 18, 3) := by decide +kernel
theorem dX10_stand_22 : decode cX10_stand 22 = .ok (.iload_n 3, 1) := by decide +kernel
theorem dX10_stand_23 : decode cX10_stand 23 = .ok (.ifCond .lt 14, 3) := by decide +kernel
theorem dX10_stand_26 : decode cX10_stand 26 = .ok (.iload_n 3, 1) := by decide +kernel
theorem dX10_stand_27 : decode cX10_stand 27 = .ok (.aload_n 0, 1) := by decide +kernel
theorem dX10_stand_28 : decode cX10_stand 28 = .ok (.getfield 49, 3) := by decide +kernel
theorem dX10_stand_31 : decode cX10_stand 31 = .ok (.getfield 207, 3) := by decide +kernel
theorem dX10_stand_34 : decode cX10_stand 34 = .ok (.if_icmp .lt 5, 3) := by decide +kernel
theorem dX10_stand_37 : decode cX10_stand 37 = .ok (.iconst (-1), 1) := by decide +kernel
theorem dX10_stand_38 : decode cX10_stand 38 = .ok (.ireturn, 1) := by decide +kernel
theorem dX10_stand_39 : decode cX10_stand 39 = .ok (.aload_n 0, 1) := by decide +kernel
theorem dX10_stand_40 : decode cX10_stand 40 = .ok (.getfield 49, 3) := by decide +kernel
theorem dX10_stand_43 : decode cX10_stand 43 = .ok (.iload_n 1, 1) := by decide +kernel
theorem dX10_stand_44 : decode cX10_stand 44 = .ok (.invokevirtual 213, 3) := by decide +kernel
theorem dX10_stand_47 : decode cX10_stand 47 = .ok (.ifCond .ne 32, 3) := by decide +kernel
theorem dX10_stand_50 : decode cX10_stand 50 = .ok (.aload_n 0, 1) := by decide +kernel
theorem dX10_stand_51 : decode cX10_stand 51 = .ok (.iload_n 1, 1) := by decide +kernel
theorem dX10_stand_52 : decode cX10_stand 52 = .ok (.invokevirtual 148, 3) := by decide +kernel
theorem dX10_stand_55 : decode cX10_stand 55 = .ok (.ifCond .eq 24, 3) := by decide +kernel
theorem dX10_stand_58 : decode cX10_stand 58 = .ok (.aload_n 0, 1) := by decide +kernel
theorem dX10_stand_59 : decode cX10_stand 59 = .ok (.getfield 49, 3) := by decide +kernel
theorem dX10_stand_62 : decode cX10_stand 62 = .ok (.iload_n 2, 1) := by decide +kernel
theorem dX10_stand_63 : decode cX10_stand 63 = .ok (.iload_n 3, 1) := by decide +kernel
theorem dX10_stand_64 : decode cX10_stand 64 = .ok (.aload_n 0, 1) := by decide +kernel
theorem dX10_stand_65 : decode cX10_stand 65 = .ok (.getfield 10, 3) := by decide +kernel
theorem dX10_stand_68 : decode cX10_stand 68 = .ok (.getfield 145, 3) := by decide +kernel
theorem dX10_stand_71 : decode cX10_stand 71 = .ok (.iload_n 1, 1) := by decide +kernel
theorem dX10_stand_72 : decode cX10_stand 72 = .ok (.iaload, 1) := by decide +kernel
theorem dX10_stand_73 : decode cX10_stand 73 = .ok (.invokevirtual 216, 3) := by decide +kernel
theorem dX10_stand_76 : decode cX10_stand 76 = .ok (.ifCond .ne 6, 3) := by decide +kernel
theorem dX10_stand_79 : decode cX10_stand 79 = .ok (.bipush (-3), 2) := by decide +kernel
theorem dX10_stand_81 : decode cX10_stand 81 = .ok (.ireturn, 1) := by decide +kernel
theorem dX10_stand_82 : decode cX10_stand 82 = .ok (.aload_n 0, 1) := by decide +kernel
theorem dX10_stand_83 : decode cX10_stand 83 = .ok (.getfield 49, 3) := by decide +kernel
theorem dX10_stand_86 : decode cX10_stand 86 = .ok (.iload_n 1, 1) := by decide +kernel
theorem dX10_stand_87 : decode cX10_stand 87 = .ok (.iload_n 2, 1) := by decide +kernel
theorem dX10_stand_88 : decode cX10_stand 88 = .ok (.iload_n 3, 1) := by decide +kernel
theorem dX10_stand_89 : decode cX10_stand 89 = .ok (.invokevirtual 219, 3) := by decide +kernel
theorem dX10_stand_92 : decode cX10_stand 92 = .ok (.iconst 0, 1) := by decide +kernel
theorem dX10_stand_93 : decode cX10_stand 93 = .ok (.ireturn, 1) := by decide +kernel
theorem dX10_off_0 : decode cX10_off 0 = .ok (.aload_n 0, 1) := by decide +kernel
theorem dX10_off_1 : decode cX10_off 1 = .ok (.getfield 10, 3) := by decide +kernel
theorem dX10_off_4 : decode cX10_off 4 = .ok (.iload_n 1, 1) := by decide +kernel
theorem dX10_off_5 : decode cX10_off 5 = .ok (.invokevirtual 127, 3) := by decide +kernel
theorem dX10_off_8 : decode cX10_off 8 = .ok (.ifCond .ne 5, 3) := by decide +kernel
theorem dX10_off_11 : decode cX10_off 11 = .ok (.iconst (-1), 1) := by decide +kernel
theorem dX10_off_12 : decode cX10_off 12 = .ok (.ireturn, 1) := by decide +kernel
theorem dX10_off_13 : decode cX10_off 13 = .ok (.aload_n 0, 1) := by decide +kernel
theorem dX10_off_14 : decode cX10_off 14 = .ok (.getfield 49, 3) := by decide +kernel
theorem dX10_off_17 : decode cX10_off 17 = .ok (.iload_n 1, 1) := by decide +kernel
theorem dX10_off_18 : decode cX10_off 18 = .ok (.invokevirtual 213, 3) := by decide +kernel
theorem dX10_off_21 : decode cX10_off 21 = .ok (.ifCond .ne 6, 3) := by decide +kernel
theorem dX10_off_24 : decode cX10_off 24 = .ok (.bipush (-3), 2) := by decide +kernel
theorem dX10_off_26 : decode cX10_off 26 = .ok (.ireturn, 1) := by decide +kernel
theorem dX10_off_27 : decode cX10_off 27 = .ok (.aload_n 0, 1) := by decide +kernel
theorem dX10_off_28 : decode cX10_off 28 = .ok (.getfield 49, 3) := by decide +kernel
theorem dX10_off_31 : decode cX10_off 31 = .ok (.aload_n 0, 1) := by decide +kernel
theorem dX10_off_32 : decode cX10_off 32 = .ok (.getfield 49, 3) := by decide +kernel
theorem dX10_off_35 : decode cX10_off 35 = .ok (.getfield 160, 3) := by decide +kernel
theorem dX10_off_38 : decode cX10_off 38 = .ok (.iload_n 1, 1) := by decide +kernel
theorem dX10_off_39 : decode cX10_off 39 = .ok (.iaload, 1) := by decide +kernel
theorem dX10_off_40 : decode cX10_off 40 = .ok (.aload_n 0, 1) := by decide +kernel
theorem dX10_off_41 : decode cX10_off 41 = .ok (.getfield 10, 3) := by decide +kernel
theorem dX10_off_44 : decode cX10_off 44 = .ok (.getfield 145, 3) := by decide +kernel
theorem dX10_off_47 : decode cX10_off 47 = .ok (.iload_n 1, 1) := by decide +kernel
theorem dX10_off_48 : decode cX10_off 48 = .ok (.iaload, 1) := by decide +kernel
theorem dX10_off_49 : decode cX10_off 49 = .ok (.invokevirtual 223, 3) := by decide +kernel
theorem dX10_off_52 : decode cX10_off 52 = .ok (.istore_n 2, 1) := by decide +kernel
theorem dX10_off_53 : decode cX10_off 53 = .ok (.aload_n 0, 1) := by decide +kernel
theorem dX10_off_54 : decode cX10_off 54 = .ok (.getfield 49, 3) := by decide +kernel
theorem dX10_off_57 : decode cX10_off 57 = .ok (.iload_n 1, 1) := by decide +kernel
theorem dX10_off_58 : decode cX10_off 58 = .ok (.iconst (-1), 1) := by decide +kernel
theorem dX10_off_59 : decode cX10_off 59 = .ok (.iconst (-1), 1) := by decide +kernel
theorem dX10_off_60 : decode cX10_off 60 = .ok (.invokevirtual 219, 3) := by decide +kernel
theorem dX10_off_63 : decode cX10_off 63 = .ok (.iload_n 2, 1) := by decide +kernel
theorem dX10_off_64 : decode cX10_off 64 = .ok (.ireturn, 1) := by decide +kernel
theorem dX10_well_0 : decode cX10_well 0 = .ok (.aload_n 0, 1) := by decide +kernel
theorem dX10_well_1 : decode cX10_well 1 = .ok (.getfield 10, 3) := by decide +kernel
theorem dX10_well_4 : decode cX10_well 4 = .ok (.iload_n 1, 1) := by decide +kernel
theorem dX10_well_5 : decode cX10_well 5 = .ok (.invokevirtual 127, 3) := by decide +kernel
theorem dX10_well_8 : decode cX10_well 8 = .ok (.ifCond .ne 5, 3) := by decide +kernel
theorem dX10_well_11 : decode cX10_well 11 = .ok (.iconst (-1), 1) := by decide +kernel
theorem dX10_well_12 : decode cX10_well 12 = .ok (.ireturn, 1) := by decide +kernel
theorem dX10_well_13 : decode cX10_well 13 = .ok (.aload_n 0, 1) := by decide +kernel
theorem dX10_well_14 : decode cX10_well 14 = .ok (.getfield 49, 3) := by decide +kernel
theorem dX10_well_17 : decode cX10_well 17 = .ok (.iload_n 1, 1) := by decide +kernel
theorem dX10_well_18 : decode cX10_well 18 = .ok (.invokevirtual 213, 3) := by decide +kernel
theorem dX10_well_21 : decode cX10_well 21 = .ok (.ifCond .ne 6, 3) := by decide +kernel
theorem dX10_well_24 : decode cX10_well 24 = .ok (.bipush (-3), 2) := by decide +kernel
theorem dX10_well_26 : decode cX10_well 26 = .ok (.ireturn, 1) := by decide +kernel
theorem dX10_well_27 : decode cX10_well 27 = .ok (.aload_n 0, 1) := by decide +kernel
theorem dX10_well_28 : decode cX10_well 28 = .ok (.getfield 49, 3) := by decide +kernel
theorem dX10_well_31 : decode cX10_well 31 = .ok (.iload_n 1, 1) := by decide +kernel
theorem dX10_well_32 : decode cX10_well 32 = .ok (.invokevirtual 226, 3) := by decide +kernel
theorem dX10_well_35 : decode cX10_well 35 = .ok (.ifCond .eq 7, 3) := by decide +kernel
theorem dX10_well_38 : decode cX10_well 38 = .ok (.iconst 0, 1) := by decide +kernel
theorem dX10_well_39 : decode cX10_well 39 = .ok (.goto 4, 3) := by decide +kernel
theorem dX10_well_42 : decode cX10_well 42 = .ok (.iconst 1, 1) := by decide +kernel
theorem dX10_well_43 : decode cX10_well 43 = .ok (.ireturn, 1) := by decide +kernel
theorem dX10_clear_0 : decode cX10_clear 0 = .ok (.aload_n 0, 1) := by decide +kernel
theorem dX10_clear_1 : decode cX10_clear 1 = .ok (.getfield 49, 3) := by decide +kernel
theorem dX10_clear_4 : decode cX10_clear 4 = .ok (.invokevirtual 229, 3) := by decide +kernel
theorem dX10_clear_7 : decode cX10_clear 7 = .ok (.ireturn, 1) := by decide +kernel
theorem dX10_lay_0 : decode cX10_lay 0 = .ok (.aload_n 0, 1) := by decide +kernel
theorem dX10_lay_1 : decode cX10_lay 1 = .ok (.getfield 49, 3) := by decide +kernel
theorem dX10_lay_4 : decode cX10_lay 4 = .ok (.iload_n 1, 1) := by decide +kernel
theorem dX10_lay_5 : decode cX10_lay 5 = .ok (.invokevirtual 210, 3) := by decide +kernel
theorem dX10_lay_8 : decode cX10_lay 8 = .ok (.ifCond .ne 5, 3) := by decide +kernel
theorem dX10_lay_11 : decode cX10_lay 11 = .ok (.iconst (-1), 1) := by decide +kernel
theorem dX10_lay_12 : decode cX10_lay 12 = .ok (.ireturn, 1) := by decide +kernel
theorem dX10_lay_13 : decode cX10_lay 13 = .ok (.aload_n 0, 1) := by decide +kernel
theorem dX10_lay_14 : decode cX10_lay 14 = .ok (.iload_n 2, 1) := by decide +kernel
theorem dX10_lay_15 : decode cX10_lay 15 = .ok (.invokevirtual 232, 3) := by decide +kernel
theorem dX10_lay_18 : decode cX10_lay 18 = .ok (.ifCond .eq 11, 3) := by decide +kernel
theorem dX10_lay_21 : decode cX10_lay 21 = .ok (.iload_n 2, 1) := by decide +kernel
theorem dX10_lay_22 : decode cX10_lay 22 = .ok (.invokestatic 235, 3) := by decide +kernel
theorem dX10_lay_25 : decode cX10_lay 25 = .ok (.iconst 4, 1) := by decide +kernel
theorem dX10_lay_26 : decode cX10_lay 26 = .ok (.if_icmp .le 6, 3) := by decide +kernel
theorem dX10_lay_29 : decode cX10_lay 29 = .ok (.bipush (-2), 2) := by decide +kernel
theorem dX10_lay_31 : decode cX10_lay 31 = .ok (.ireturn, 1) := by decide +kernel
theorem dX10_lay_32 : decode cX10_lay 32 = .ok (.aload_n 0, 1) := by decide +kernel
theorem dX10_lay_33 : decode cX10_lay 33 = .ok (.iload_n 2, 1) := by decide +kernel
theorem dX10_lay_34 : decode cX10_lay 34 = .ok (.invokevirtual 240, 3) := by decide +kernel
theorem dX10_lay_37 : decode cX10_lay 37 = .ok (.ifCond .eq 32, 3) := by decide +kernel
theorem dX10_lay_40 : decode cX10_lay 40 = .ok (.aload_n 0, 1) := by decide +kernel
theorem dX10_lay_41 : decode cX10_lay 41 = .ok (.getfield 49, 3) := by decide +kernel
theorem dX10_lay_44 : decode cX10_lay 44 = .ok (.iload_n 1, 1) := by decide +kernel
theorem dX10_lay_45 : decode cX10_lay 45 = .ok (.invokevirtual 243, 3) := by decide +kernel
theorem dX10_lay_48 : decode cX10_lay 48 = .ok (.ifCond .eq 21, 3) := by decide +kernel
theorem dX10_lay_51 : decode cX10_lay 51 = .ok (.aload_n 0, 1) := by decide +kernel
theorem dX10_lay_52 : decode cX10_lay 52 = .ok (.getfield 10, 3) := by decide +kernel
theorem dX10_lay_55 : decode cX10_lay 55 = .ok (.iload_n 2, 1) := by decide +kernel
theorem dX10_lay_56 : decode cX10_lay 56 = .ok (.invokevirtual 246, 3) := by decide +kernel
theorem dX10_lay_59 : decode cX10_lay 59 = .ok (.aload_n 0, 1) := by decide +kernel
theorem dX10_lay_60 : decode cX10_lay 60 = .ok (.getfield 49, 3) := by decide +kernel
theorem dX10_lay_63 : decode cX10_lay 63 = .ok (.getfield 207, 3) := by decide +kernel
theorem dX10_lay_66 : decode cX10_lay 66 = .ok (.if_icmp .le 6, 3) := by decide +kernel
theorem dX10_lay_69 : decode cX10_lay 69 = .ok (.bipush (-3), 2) := by decide +kernel
theorem dX10_lay_71 : decode cX10_lay 71 = .ok (.ireturn, 1) := by decide +kernel
theorem dX10_lay_72 : decode cX10_lay 72 = .ok (.aload_n 0, 1) := by decide +kernel
theorem dX10_lay_73 : decode cX10_lay 73 = .ok (.getfield 49, 3) := by decide +kernel
theorem dX10_lay_76 : decode cX10_lay 76 = .ok (.iload_n 1, 1) := by decide +kernel
theorem dX10_lay_77 : decode cX10_lay 77 = .ok (.iload_n 2, 1) := by decide +kernel
theorem dX10_lay_78 : decode cX10_lay 78 = .ok (.invokevirtual 249, 3) := by decide +kernel
theorem dX10_lay_81 : decode cX10_lay 81 = .ok (.ireturn, 1) := by decide +kernel
theorem dX10_change_0 : decode cX10_change 0 = .ok (.aload_n 0, 1) := by decide +kernel
theorem dX10_change_1 : decode cX10_change 1 = .ok (.getfield 19, 3) := by decide +kernel
theorem dX10_change_4 : decode cX10_change 4 = .ok (.iload_n 1, 1) := by decide +kernel
theorem dX10_change_5 : decode cX10_change 5 = .ok (.invokevirtual 187, 3) := by decide +kernel
theorem dX10_change_8 : decode cX10_change 8 = .ok (.ifCond .eq 14, 3) := by decide +kernel
theorem dX10_change_11 : decode cX10_change 11 = .ok (.aload_n 0, 1) := by decide +kernel
theorem dX10_change_12 : decode cX10_change 12 = .ok (.getfield 19, 3) := by decide +kernel
theorem dX10_change_15 : decode cX10_change 15 = .ok (.iload_n 2, 1) := by decide +kernel
theorem dX10_change_16 : decode cX10_change 16 = .ok (.invokevirtual 187, 3) := by decide +kernel
theorem dX10_change_19 : decode cX10_change 19 = .ok (.ifCond .ne 5, 3) := by decide +kernel
theorem dX10_change_22 : decode cX10_change 22 = .ok (.iconst (-1), 1) := by decide +kernel
theorem dX10_change_23 : decode cX10_change 23 = .ok (.ireturn, 1) := by decide +kernel
theorem dX10_change_24 : decode cX10_change 24 = .ok (.iload_n 1, 1) := by decide +kernel
theorem dX10_change_25 : decode cX10_change 25 = .ok (.iload_n 2, 1) := by decide +kernel
theorem dX10_change_26 : decode cX10_change 26 = .ok (.if_icmp .ne 6, 3) := by decide +kernel
theorem dX10_change_29 : decode cX10_change 29 = .ok (.bipush (-2), 2) := by decide +kernel
theorem dX10_change_31 : decode cX10_change 31 = .ok (.ireturn, 1) := by decide +kernel
theorem dX10_change_32 : decode cX10_change 32 = .ok (.aload_n 0, 1) := by decide +kernel
theorem dX10_change_33 : decode cX10_change 33 = .ok (.getfield 10, 3) := by decide +kernel
theorem dX10_change_36 : decode cX10_change 36 = .ok (.aload_n 0, 1) := by decide +kernel
theorem dX10_change_37 : decode cX10_change 37 = .ok (.iload_n 1, 1) := by decide +kernel
theorem dX10_change_38 : decode cX10_change 38 = .ok (.invokevirtual 194, 3) := by decide +kernel
theorem dX10_change_41 : decode cX10_change 41 = .ok (.aload_n 0, 1) := by decide +kernel
theorem dX10_change_42 : decode cX10_change 42 = .ok (.iload_n 2, 1) := by decide +kernel
theorem dX10_change_43 : decode cX10_change 43 = .ok (.invokevirtual 194, 3) := by decide +kernel
theorem dX10_change_46 : decode cX10_change 46 = .ok (.ixor, 1) := by decide +kernel
theorem dX10_change_47 : decode cX10_change 47 = .ok (.invokevirtual 252, 3) := by decide +kernel
theorem dX10_change_50 : decode cX10_change 50 = .ok (.ireturn, 1) := by decide +kernel
theorem dX10_order_0 : decode cX10_order 0 = .ok (.iload_n 1, 1) := by decide +kernel
theorem dX10_order_1 : decode cX10_order 1 = .ok (.ifCond .eq 14, 3) := by decide +kernel
theorem dX10_order_4 : decode cX10_order 4 = .ok (.aload_n 0, 1) := by decide +kernel
theorem dX10_order_5 : decode cX10_order 5 = .ok (.getfield 19, 3) := by decide +kernel
theorem dX10_order_8 : decode cX10_order 8 = .ok (.iload_n 1, 1) := by decide +kernel
theorem dX10_order_9 : decode cX10_order 9 = .ok (.invokevirtual 255, 3) := by decide +kernel
theorem dX10_order_12 : decode cX10_order 12 = .ok (.ifCond .ne 6, 3) := by decide +kernel
theorem dX10_order_15 : decode cX10_order 15 = .ok (.bipush (-2), 2) := by decide +kernel
theorem dX10_order_17 : decode cX10_order 17 = .ok (.ireturn, 1) := by decide +kernel
theorem dX10_order_18 : decode cX10_order 18 = .ok (.aload_n 0, 1) := by decide +kernel
theorem dX10_order_19 : decode cX10_order 19 = .ok (.getfield 56, 3) := by decide +kernel
theorem dX10_order_22 : decode cX10_order 22 = .ok (.invokevirtual 258, 3) := by decide +kernel
theorem dX10_order_25 : decode cX10_order 25 = .ok (.iconst 0, 1) := by decide +kernel
theorem dX10_order_26 : decode cX10_order 26 = .ok (.istore_n 2, 1) := by decide +kernel
theorem dX10_order_27 : decode cX10_order 27 = .ok (.iload_n 2, 1) := by decide +kernel
theorem dX10_order_28 : decode cX10_order 28 = .ok (.aload_n 0, 1) := by decide +kernel
theorem dX10_order_29 : decode cX10_order 29 = .ok (.getfield 19, 3) := by decide +kernel
theorem dX10_order_32 : decode cX10_order 32 = .ok (.getfield 117, 3) := by decide +kernel
theorem dX10_order_35 : decode cX10_order 35 = .ok (.if_icmp .ge 31, 3) := by decide +kernel
theorem dX10_order_38 : decode cX10_order 38 = .ok (.iload_n 1, 1) := by decide +kernel
theorem dX10_order_39 : decode cX10_order 39 = .ok (.iload_n 2, 1) := by decide +kernel
theorem dX10_order_40 : decode cX10_order 40 = .ok (.ishr, 1) := by decide +kernel
theorem dX10_order_41 : decode cX10_order 41 = .ok (.iconst 1, 1) := by decide +kernel
theorem dX10_order_42 : decode cX10_order 42 = .ok (.iand, 1) := by decide +kernel
theorem dX10_order_43 : decode cX10_order 43 = .ok (.iconst 1, 1) := by decide +kernel
theorem dX10_order_44 : decode cX10_order 44 = .ok (.if_icmp .ne 16, 3) := by decide +kernel
theorem dX10_order_47 : decode cX10_order 47 = .ok (.aload_n 0, 1) := by decide +kernel
theorem dX10_order_48 : decode cX10_order 48 = .ok (.getfield 56, 3) := by decide +kernel
theorem dX10_order_51 : decode cX10_order 51 = .ok (.iload_n 2, 1) := by decide +kernel
theorem dX10_order_52 : decode cX10_order 52 = .ok (.aload_n 0, 1) := by decide +kernel
theorem dX10_order_53 : decode cX10_order 53 = .ok (.iload_n 2, 1) := by decide +kernel
theorem dX10_order_54 : decode cX10_order 54 = .ok (.invokevirtual 194, 3) := by decide +kernel
theorem dX10_order_57 : decode cX10_order 57 = .ok (.invokevirtual 261, 3) := by decide +kernel
theorem dX10_order_60 : decode cX10_order 60 = .ok (.iinc 2 1, 3) := by decide +kernel
theorem dX10_order_63 : decode cX10_order 63 = .ok (.goto (-36), 3) := by decide +kernel
theorem dX10_order_66 : decode cX10_order 66 = .ok (.aload_n 0, 1) := by decide +kernel
theorem dX10_order_67 : decode cX10_order 67 = .ok (.getfield 56, 3) := by decide +kernel
theorem dX10_order_70 : decode cX10_order 70 = .ok (.aload_n 0, 1) := by decide +kernel
theorem dX10_order_71 : decode cX10_order 71 = .ok (.getfield 10, 3) := by decide +kernel
theorem dX10_order_74 : decode cX10_order 74 = .ok (.invokevirtual 264, 3) := by decide +kernel
theorem dX10_order_77 : decode cX10_order 77 = .ok (.aload_n 0, 1) := by decide +kernel
theorem dX10_order_78 : decode cX10_order 78 = .ok (.getfield 56, 3) := by decide +kernel
theorem dX10_order_81 : decode cX10_order 81 = .ok (.invokevirtual 267, 3) := by decide +kernel
theorem dX10_order_84 : decode cX10_order 84 = .ok (.istore_n 2, 1) := by decide +kernel
theorem dX10_order_85 : decode cX10_order 85 = .ok (.iload_n 2, 1) := by decide +kernel
theorem dX10_order_86 : decode cX10_order 86 = .ok (.ldc_w 270, 3) := by decide +kernel
theorem dX10_order_89 : decode cX10_order 89 = .ok (.if_icmp .lt 6, 3) := by decide +kernel
theorem dX10_order_92 : decode cX10_order 92 = .ok (.bipush (-3), 2) := by decide +kernel
theorem dX10_order_94 : decode cX10_order 94 = .ok (.ireturn, 1) := by decide +kernel
theorem dX10_order_95 : decode cX10_order 95 = .ok (.aload_n 0, 1) := by decide +kernel
theorem dX10_order_96 : decode cX10_order 96 = .ok (.getfield 56, 3) := by decide +kernel
theorem dX10_order_99 : decode cX10_order 99 = .ok (.iload_n 2, 1) := by decide +kernel
theorem dX10_order_100 : decode cX10_order 100 = .ok (.invokevirtual 271, 3) := by decide +kernel
theorem dX10_order_103 : decode cX10_order 103 = .ok (.iload_n 2, 1) := by decide +kernel
theorem dX10_order_104 : decode cX10_order 104 = .ok (.ireturn, 1) := by decide +kernel
theorem dX10_ordered_0 : decode cX10_ordered 0 = .ok (.iload_n 1, 1) := by decide +kernel
theorem dX10_ordered_1 : decode cX10_ordered 1 = .ok (.ifCond .lt 26, 3) := by decide +kernel
theorem dX10_ordered_4 : decode cX10_ordered 4 = .ok (.iload_n 1, 1) := by decide +kernel
theorem dX10_ordered_5 : decode cX10_ordered 5 = .ok (.aload_n 0, 1) := by decide +kernel
theorem dX10_ordered_6 : decode cX10_ordered 6 = .ok (.getfield 56, 3) := by decide +kernel
theorem dX10_ordered_9 : decode cX10_ordered 9 = .ok (.getfield 275, 3) := by decide +kernel
theorem dX10_ordered_12 : decode cX10_ordered 12 = .ok (.if_icmp .ge 15, 3) := by decide +kernel
theorem dX10_ordered_15 : decode cX10_ordered 15 = .ok (.aload_n 0, 1) := by decide +kernel
theorem dX10_ordered_16 : decode cX10_ordered 16 = .ok (.getfield 56, 3) := by decide +kernel
theorem dX10_ordered_19 : decode cX10_ordered 19 = .ok (.getfield 278, 3) := by decide +kernel
theorem dX10_ordered_22 : decode cX10_ordered 22 = .ok (.iload_n 1, 1) := by decide +kernel
theorem dX10_ordered_23 : decode cX10_ordered 23 = .ok (.iaload, 1) := by decide +kernel
theorem dX10_ordered_24 : decode cX10_ordered 24 = .ok (.goto 4, 3) := by decide +kernel
theorem dX10_ordered_27 : decode cX10_ordered 27 = .ok (.iconst (-1), 1) := by decide +kernel
theorem dX10_ordered_28 : decode cX10_ordered 28 = .ok (.ireturn, 1) := by decide +kernel
theorem dX10_rehearse_0 : decode cX10_rehearse 0 = .ok (.aload_n 0, 1) := by decide +kernel
theorem dX10_rehearse_1 : decode cX10_rehearse 1 = .ok (.getfield 63, 3) := by decide +kernel
theorem dX10_rehearse_4 : decode cX10_rehearse 4 = .ok (.iload_n 1, 1) := by decide +kernel
theorem dX10_rehearse_5 : decode cX10_rehearse 5 = .ok (.iload_n 2, 1) := by decide +kernel
theorem dX10_rehearse_6 : decode cX10_rehearse 6 = .ok (.invokevirtual 281, 3) := by decide +kernel
theorem dX10_rehearse_9 : decode cX10_rehearse 9 = .ok (.ifCond .eq 14, 3) := by decide +kernel
theorem dX10_rehearse_12 : decode cX10_rehearse 12 = .ok (.aload_n 0, 1) := by decide +kernel
theorem dX10_rehearse_13 : decode cX10_rehearse 13 = .ok (.getfield 19, 3) := by decide +kernel
theorem dX10_rehearse_16 : decode cX10_rehearse 16 = .ok (.iload_n 3, 1) := by decide +kernel
theorem dX10_rehearse_17 : decode cX10_rehearse 17 = .ok (.invokevirtual 187, 3) := by decide +kernel
theorem dX10_rehearse_20 : decode cX10_rehearse 20 = .ok (.ifCond .ne 5, 3) := by decide +kernel
theorem dX10_rehearse_23 : decode cX10_rehearse 23 = .ok (.iconst (-1), 1) := by decide +kernel
theorem dX10_rehearse_24 : decode cX10_rehearse 24 = .ok (.ireturn, 1) := by decide +kernel
theorem dX10_rehearse_25 : decode cX10_rehearse 25 = .ok (.aload_n 0, 1) := by decide +kernel
theorem dX10_rehearse_26 : decode cX10_rehearse 26 = .ok (.iload 4, 2) := by decide +kernel
theorem dX10_rehearse_28 : decode cX10_rehearse 28 = .ok (.invokevirtual 232, 3) := by decide +kernel
theorem dX10_rehearse_31 : decode cX10_rehearse 31 = .ok (.ifCond .ne 6, 3) := by decide +kernel
theorem dX10_rehearse_34 : decode cX10_rehearse 34 = .ok (.bipush (-2), 2) := by decide +kernel
theorem dX10_rehearse_36 : decode cX10_rehearse 36 = .ok (.ireturn, 1) := by decide +kernel
theorem dX10_rehearse_37 : decode cX10_rehearse 37 = .ok (.iload 4, 2) := by decide +kernel
theorem dX10_rehearse_39 : decode cX10_rehearse 39 = .ok (.aload_n 0, 1) := by decide +kernel
theorem dX10_rehearse_40 : decode cX10_rehearse 40 = .ok (.iload_n 3, 1) := by decide +kernel
theorem dX10_rehearse_41 : decode cX10_rehearse 41 = .ok (.invokevirtual 194, 3) := by decide +kernel
theorem dX10_rehearse_44 : decode cX10_rehearse 44 = .ok (.iconst (-1), 1) := by decide +kernel
theorem dX10_rehearse_45 : decode cX10_rehearse 45 = .ok (.ixor, 1) := by decide +kernel
theorem dX10_rehearse_46 : decode cX10_rehearse 46 = .ok (.iand, 1) := by decide +kernel
theorem dX10_rehearse_47 : decode cX10_rehearse 47 = .ok (.ifCond .ne 7, 3) := by decide +kernel
theorem dX10_rehearse_50 : decode cX10_rehearse 50 = .ok (.iconst 1, 1) := by decide +kernel
theorem dX10_rehearse_51 : decode cX10_rehearse 51 = .ok (.goto 4, 3) := by decide +kernel
theorem dX10_rehearse_54 : decode cX10_rehearse 54 = .ok (.iconst 0, 1) := by decide +kernel
theorem dX10_rehearse_55 : decode cX10_rehearse 55 = .ok (.istore 5, 2) := by decide +kernel
theorem dX10_rehearse_57 : decode cX10_rehearse 57 = .ok (.iload 5, 2) := by decide +kernel
theorem dX10_rehearse_59 : decode cX10_rehearse 59 = .ok (.ifCond .eq 29, 3) := by decide +kernel
theorem dX10_rehearse_62 : decode cX10_rehearse 62 = .ok (.aload_n 0, 1) := by decide +kernel
theorem dX10_rehearse_63 : decode cX10_rehearse 63 = .ok (.getfield 63, 3) := by decide +kernel
theorem dX10_rehearse_66 : decode cX10_rehearse 66 = .ok (.iload_n 1, 1) := by decide +kernel
theorem dX10_rehearse_67 : decode cX10_rehearse 67 = .ok (.iload_n 2, 1) := by decide +kernel
theorem dX10_rehearse_68 : decode cX10_rehearse 68 = .ok (.invokevirtual 284, 3) := by decide +kernel
theorem dX10_rehearse_71 : decode cX10_rehearse 71 = .ok (.ifCond .eq 17, 3) := by decide +kernel
theorem dX10_rehearse_74 : decode cX10_rehearse 74 = .ok (.aload_n 0, 1) := by decide +kernel
theorem dX10_rehearse_75 : decode cX10_rehearse 75 = .ok (.getfield 63, 3) := by decide +kernel
theorem dX10_rehearse_78 : decode cX10_rehearse 78 = .ok (.iload_n 2, 1) := by decide +kernel
theorem dX10_rehearse_79 : decode cX10_rehearse 79 = .ok (.invokevirtual 286, 3) := by decide +kernel
theorem dX10_rehearse_82 : decode cX10_rehearse 82 = .ok (.iload 4, 2) := by decide +kernel
theorem dX10_rehearse_84 : decode cX10_rehearse 84 = .ok (.iand, 1) := by decide +kernel
theorem dX10_rehearse_85 : decode cX10_rehearse 85 = .ok (.ifCond .eq 6, 3) := by decide +kernel
theorem dX10_rehearse_88 : decode cX10_rehearse 88 = .ok (.bipush (-3), 2) := by decide +kernel
theorem dX10_rehearse_90 : decode cX10_rehearse 90 = .ok (.ireturn, 1) := by decide +kernel
theorem dX10_rehearse_91 : decode cX10_rehearse 91 = .ok (.aload_n 0, 1) := by decide +kernel
theorem dX10_rehearse_92 : decode cX10_rehearse 92 = .ok (.getfield 63, 3) := by decide +kernel
theorem dX10_rehearse_95 : decode cX10_rehearse 95 = .ok (.iload_n 1, 1) := by decide +kernel
theorem dX10_rehearse_96 : decode cX10_rehearse 96 = .ok (.iload_n 2, 1) := by decide +kernel
theorem dX10_rehearse_97 : decode cX10_rehearse 97 = .ok (.iload_n 3, 1) := by decide +kernel
theorem dX10_rehearse_98 : decode cX10_rehearse 98 = .ok (.iload 4, 2) := by decide +kernel
theorem dX10_rehearse_100 : decode cX10_rehearse 100 = .ok (.invokevirtual 289, 3) := by decide +kernel
theorem dX10_rehearse_103 : decode cX10_rehearse 103 = .ok (.aload_n 0, 1) := by decide +kernel
theorem dX10_rehearse_104 : decode cX10_rehearse 104 = .ok (.getfield 19, 3) := by decide +kernel
theorem dX10_rehearse_107 : decode cX10_rehearse 107 = .ok (.getfield 293, 3) := by decide +kernel
theorem dX10_rehearse_110 : decode cX10_rehearse 110 = .ok (.iload_n 3, 1) := by decide +kernel
theorem dX10_rehearse_111 : decode cX10_rehearse 111 = .ok (.dup2, 1) := by decide +kernel
theorem dX10_rehearse_112 : decode cX10_rehearse 112 = .ok (.iaload, 1) := by decide +kernel
theorem dX10_rehearse_113 : decode cX10_rehearse 113 = .ok (.iload 4, 2) := by decide +kernel
theorem dX10_rehearse_115 : decode cX10_rehearse 115 = .ok (.ior, 1) := by decide +kernel
theorem dX10_rehearse_116 : decode cX10_rehearse 116 = .ok (.iastore, 1) := by decide +kernel
theorem dX10_rehearse_117 : decode cX10_rehearse 117 = .ok (.iload 4, 2) := by decide +kernel
theorem dX10_rehearse_119 : decode cX10_rehearse 119 = .ok (.invokestatic 235, 3) := by decide +kernel
theorem dX10_rehearse_122 : decode cX10_rehearse 122 = .ok (.ireturn, 1) := by decide +kernel
theorem dX10_hall_0 : decode cX10_hall 0 = .ok (.aload_n 0, 1) := by decide +kernel
theorem dX10_hall_1 : decode cX10_hall 1 = .ok (.getfield 63, 3) := by decide +kernel
theorem dX10_hall_4 : decode cX10_hall 4 = .ok (.iload_n 1, 1) := by decide +kernel
theorem dX10_hall_5 : decode cX10_hall 5 = .ok (.iload_n 2, 1) := by decide +kernel
theorem dX10_hall_6 : decode cX10_hall 6 = .ok (.invokevirtual 281, 3) := by decide +kernel
theorem dX10_hall_9 : decode cX10_hall 9 = .ok (.ifCond .eq 15, 3) := by decide +kernel
theorem dX10_hall_12 : decode cX10_hall 12 = .ok (.aload_n 0, 1) := by decide +kernel
theorem dX10_hall_13 : decode cX10_hall 13 = .ok (.getfield 63, 3) := by decide +kernel
theorem dX10_hall_16 : decode cX10_hall 16 = .ok (.iload_n 1, 1) := by decide +kernel
theorem dX10_hall_17 : decode cX10_hall 17 = .ok (.iload_n 2, 1) := by decide +kernel
theorem dX10_hall_18 : decode cX10_hall 18 = .ok (.invokevirtual 296, 3) := by decide +kernel
theorem dX10_hall_21 : decode cX10_hall 21 = .ok (.goto 4, 3) := by decide +kernel
theorem dX10_hall_24 : decode cX10_hall 24 = .ok (.iconst (-1), 1) := by decide +kernel
theorem dX10_hall_25 : decode cX10_hall 25 = .ok (.ireturn, 1) := by decide +kernel
theorem dX10_whole_0 : decode cX10_whole 0 = .ok (.aload_n 0, 1) := by decide +kernel
theorem dX10_whole_1 : decode cX10_whole 1 = .ok (.getfield 19, 3) := by decide +kernel
theorem dX10_whole_4 : decode cX10_whole 4 = .ok (.iload_n 1, 1) := by decide +kernel
theorem dX10_whole_5 : decode cX10_whole 5 = .ok (.invokevirtual 187, 3) := by decide +kernel
theorem dX10_whole_8 : decode cX10_whole 8 = .ok (.ifCond .ne 5, 3) := by decide +kernel
theorem dX10_whole_11 : decode cX10_whole 11 = .ok (.iconst (-1), 1) := by decide +kernel
theorem dX10_whole_12 : decode cX10_whole 12 = .ok (.ireturn, 1) := by decide +kernel
theorem dX10_whole_13 : decode cX10_whole 13 = .ok (.aload_n 0, 1) := by decide +kernel
theorem dX10_whole_14 : decode cX10_whole 14 = .ok (.iload_n 1, 1) := by decide +kernel
theorem dX10_whole_15 : decode cX10_whole 15 = .ok (.invokevirtual 194, 3) := by decide +kernel
theorem dX10_whole_18 : decode cX10_whole 18 = .ok (.istore_n 2, 1) := by decide +kernel
theorem dX10_whole_19 : decode cX10_whole 19 = .ok (.iload_n 2, 1) := by decide +kernel
theorem dX10_whole_20 : decode cX10_whole 20 = .ok (.ifCond .eq 23, 3) := by decide +kernel
theorem dX10_whole_23 : decode cX10_whole 23 = .ok (.iload_n 2, 1) := by decide +kernel
theorem dX10_whole_24 : decode cX10_whole 24 = .ok (.aload_n 0, 1) := by decide +kernel
theorem dX10_whole_25 : decode cX10_whole 25 = .ok (.getfield 19, 3) := by decide +kernel
theorem dX10_whole_28 : decode cX10_whole 28 = .ok (.getfield 293, 3) := by decide +kernel
theorem dX10_whole_31 : decode cX10_whole 31 = .ok (.iload_n 1, 1) := by decide +kernel
theorem dX10_whole_32 : decode cX10_whole 32 = .ok (.iaload, 1) := by decide +kernel
theorem dX10_whole_33 : decode cX10_whole 33 = .ok (.iconst (-1), 1) := by decide +kernel
theorem dX10_whole_34 : decode cX10_whole 34 = .ok (.ixor, 1) := by decide +kernel
theorem dX10_whole_35 : decode cX10_whole 35 = .ok (.iand, 1) := by decide +kernel
theorem dX10_whole_36 : decode cX10_whole 36 = .ok (.ifCond .ne 7, 3) := by decide +kernel
theorem dX10_whole_39 : decode cX10_whole 39 = .ok (.iconst 1, 1) := by decide +kernel
theorem dX10_whole_40 : decode cX10_whole 40 = .ok (.goto 4, 3) := by decide +kernel
theorem dX10_whole_43 : decode cX10_whole 43 = .ok (.iconst 0, 1) := by decide +kernel
theorem dX10_whole_44 : decode cX10_whole 44 = .ok (.ireturn, 1) := by decide +kernel
theorem dX10_beds_0 : decode cX10_beds 0 = .ok (.iload_n 1, 1) := by decide +kernel
theorem dX10_beds_1 : decode cX10_beds 1 = .ok (.invokestatic 85, 3) := by decide +kernel
theorem dX10_beds_4 : decode cX10_beds 4 = .ok (.ifCond .ne 5, 3) := by decide +kernel
theorem dX10_beds_7 : decode cX10_beds 7 = .ok (.iconst (-1), 1) := by decide +kernel
theorem dX10_beds_8 : decode cX10_beds 8 = .ok (.ireturn, 1) := by decide +kernel
theorem dX10_beds_9 : decode cX10_beds 9 = .ok (.iload_n 2, 1) := by decide +kernel
theorem dX10_beds_10 : decode cX10_beds 10 = .ok (.iconst 0, 1) := by decide +kernel
theorem dX10_beds_11 : decode cX10_beds 11 = .ok (.sipush 999, 3) := by decide +kernel
theorem dX10_beds_14 : decode cX10_beds 14 = .ok (.invokestatic 114, 3) := by decide +kernel
theorem dX10_beds_17 : decode cX10_beds 17 = .ok (.ifCond .ne 6, 3) := by decide +kernel
theorem dX10_beds_20 : decode cX10_beds 20 = .ok (.bipush (-2), 2) := by decide +kernel
theorem dX10_beds_22 : decode cX10_beds 22 = .ok (.ireturn, 1) := by decide +kernel
theorem dX10_beds_23 : decode cX10_beds 23 = .ok (.aload_n 0, 1) := by decide +kernel
theorem dX10_beds_24 : decode cX10_beds 24 = .ok (.getfield 70, 3) := by decide +kernel
theorem dX10_beds_27 : decode cX10_beds 27 = .ok (.iload_n 1, 1) := by decide +kernel
theorem dX10_beds_28 : decode cX10_beds 28 = .ok (.invokevirtual 299, 3) := by decide +kernel
theorem dX10_beds_31 : decode cX10_beds 31 = .ok (.iload_n 2, 1) := by decide +kernel
theorem dX10_beds_32 : decode cX10_beds 32 = .ok (.if_icmp .le 6, 3) := by decide +kernel
theorem dX10_beds_35 : decode cX10_beds 35 = .ok (.bipush (-3), 2) := by decide +kernel
theorem dX10_beds_37 : decode cX10_beds 37 = .ok (.ireturn, 1) := by decide +kernel
theorem dX10_beds_38 : decode cX10_beds 38 = .ok (.aload_n 0, 1) := by decide +kernel
theorem dX10_beds_39 : decode cX10_beds 39 = .ok (.getfield 70, 3) := by decide +kernel
theorem dX10_beds_42 : decode cX10_beds 42 = .ok (.getfield 302, 3) := by decide +kernel
theorem dX10_beds_45 : decode cX10_beds 45 = .ok (.iload_n 1, 1) := by decide +kernel
theorem dX10_beds_46 : decode cX10_beds 46 = .ok (.iaload, 1) := by decide +kernel
theorem dX10_beds_47 : decode cX10_beds 47 = .ok (.istore_n 3, 1) := by decide +kernel
theorem dX10_beds_48 : decode cX10_beds 48 = .ok (.aload_n 0, 1) := by decide +kernel
theorem dX10_beds_49 : decode cX10_beds 49 = .ok (.getfield 70, 3) := by decide +kernel
theorem dX10_beds_52 : decode cX10_beds 52 = .ok (.getfield 302, 3) := by decide +kernel
theorem dX10_beds_55 : decode cX10_beds 55 = .ok (.iload_n 1, 1) := by decide +kernel
theorem dX10_beds_56 : decode cX10_beds 56 = .ok (.iload_n 2, 1) := by decide +kernel
theorem dX10_beds_57 : decode cX10_beds 57 = .ok (.iastore, 1) := by decide +kernel
theorem dX10_beds_58 : decode cX10_beds 58 = .ok (.iload_n 3, 1) := by decide +kernel
theorem dX10_beds_59 : decode cX10_beds 59 = .ok (.ireturn, 1) := by decide +kernel
theorem dX10_sleep_0 : decode cX10_sleep 0 = .ok (.aload_n 0, 1) := by decide +kernel
theorem dX10_sleep_1 : decode cX10_sleep 1 = .ok (.getfield 10, 3) := by decide +kernel
theorem dX10_sleep_4 : decode cX10_sleep 4 = .ok (.iload_n 1, 1) := by decide +kernel
theorem dX10_sleep_5 : decode cX10_sleep 5 = .ok (.invokevirtual 127, 3) := by decide +kernel
theorem dX10_sleep_8 : decode cX10_sleep 8 = .ok (.ifCond .eq 15, 3) := by decide +kernel
theorem dX10_sleep_11 : decode cX10_sleep 11 = .ok (.iload_n 2, 1) := by decide +kernel
theorem dX10_sleep_12 : decode cX10_sleep 12 = .ok (.iconst (-1), 1) := by decide +kernel
theorem dX10_sleep_13 : decode cX10_sleep 13 = .ok (.if_icmp .eq 13, 3) := by decide +kernel
theorem dX10_sleep_16 : decode cX10_sleep 16 = .ok (.iload_n 2, 1) := by decide +kernel
theorem dX10_sleep_17 : decode cX10_sleep 17 = .ok (.invokestatic 85, 3) := by decide +kernel
theorem dX10_sleep_20 : decode cX10_sleep 20 = .ok (.ifCond .ne 6, 3) := by decide +kernel
theorem dX10_sleep_23 : decode cX10_sleep 23 = .ok (.bipush (-5), 2) := by decide +kernel
theorem dX10_sleep_25 : decode cX10_sleep 25 = .ok (.ireturn, 1) := by decide +kernel
theorem dX10_sleep_26 : decode cX10_sleep 26 = .ok (.iload_n 2, 1) := by decide +kernel
theorem dX10_sleep_27 : decode cX10_sleep 27 = .ok (.iconst (-1), 1) := by decide +kernel
theorem dX10_sleep_28 : decode cX10_sleep 28 = .ok (.if_icmp .eq 18, 3) := by decide +kernel
theorem dX10_sleep_31 : decode cX10_sleep 31 = .ok (.aload_n 0, 1) := by decide +kernel
theorem dX10_sleep_32 : decode cX10_sleep 32 = .ok (.getfield 70, 3) := by decide +kernel
theorem dX10_sleep_35 : decode cX10_sleep 35 = .ok (.iload_n 2, 1) := by decide +kernel
theorem dX10_sleep_36 : decode cX10_sleep 36 = .ok (.iload_n 1, 1) := by decide +kernel
theorem dX10_sleep_37 : decode cX10_sleep 37 = .ok (.invokevirtual 305, 3) := by decide +kernel
theorem dX10_sleep_40 : decode cX10_sleep 40 = .ok (.ifCond .ne 6, 3) := by decide +kernel
theorem dX10_sleep_43 : decode cX10_sleep 43 = .ok (.bipush (-3), 2) := by decide +kernel
theorem dX10_sleep_45 : decode cX10_sleep 45 = .ok (.ireturn, 1) := by decide +kernel
theorem dX10_sleep_46 : decode cX10_sleep 46 = .ok (.aload_n 0, 1) := by decide +kernel
theorem dX10_sleep_47 : decode cX10_sleep 47 = .ok (.getfield 70, 3) := by decide +kernel
theorem dX10_sleep_50 : decode cX10_sleep 50 = .ok (.getfield 154, 3) := by decide +kernel
theorem dX10_sleep_53 : decode cX10_sleep 53 = .ok (.iload_n 1, 1) := by decide +kernel
theorem dX10_sleep_54 : decode cX10_sleep 54 = .ok (.iaload, 1) := by decide +kernel
theorem dX10_sleep_55 : decode cX10_sleep 55 = .ok (.istore_n 3, 1) := by decide +kernel
theorem dX10_sleep_56 : decode cX10_sleep 56 = .ok (.aload_n 0, 1) := by decide +kernel
theorem dX10_sleep_57 : decode cX10_sleep 57 = .ok (.getfield 70, 3) := by decide +kernel
theorem dX10_sleep_60 : decode cX10_sleep 60 = .ok (.getfield 154, 3) := by decide +kernel
theorem dX10_sleep_63 : decode cX10_sleep 63 = .ok (.iload_n 1, 1) := by decide +kernel
theorem dX10_sleep_64 : decode cX10_sleep 64 = .ok (.iload_n 2, 1) := by decide +kernel
theorem dX10_sleep_65 : decode cX10_sleep 65 = .ok (.iastore, 1) := by decide +kernel
theorem dX10_sleep_66 : decode cX10_sleep 66 = .ok (.iload_n 3, 1) := by decide +kernel
theorem dX10_sleep_67 : decode cX10_sleep 67 = .ok (.ireturn, 1) := by decide +kernel
theorem dX10_bed_0 : decode cX10_bed 0 = .ok (.aload_n 0, 1) := by decide +kernel
theorem dX10_bed_1 : decode cX10_bed 1 = .ok (.getfield 10, 3) := by decide +kernel
theorem dX10_bed_4 : decode cX10_bed 4 = .ok (.iload_n 1, 1) := by decide +kernel
theorem dX10_bed_5 : decode cX10_bed 5 = .ok (.invokevirtual 308, 3) := by decide +kernel
theorem dX10_bed_8 : decode cX10_bed 8 = .ok (.ifCond .ne 6, 3) := by decide +kernel
theorem dX10_bed_11 : decode cX10_bed 11 = .ok (.bipush (-2), 2) := by decide +kernel
theorem dX10_bed_13 : decode cX10_bed 13 = .ok (.ireturn, 1) := by decide +kernel
theorem dX10_bed_14 : decode cX10_bed 14 = .ok (.iconst 0, 1) := by decide +kernel
theorem dX10_bed_15 : decode cX10_bed 15 = .ok (.istore_n 2, 1) := by decide +kernel
theorem dX10_bed_16 : decode cX10_bed 16 = .ok (.iconst 0, 1) := by decide +kernel
theorem dX10_bed_17 : decode cX10_bed 17 = .ok (.istore_n 3, 1) := by decide +kernel
theorem dX10_bed_18 : decode cX10_bed 18 = .ok (.iload_n 3, 1) := by decide +kernel
theorem dX10_bed_19 : decode cX10_bed 19 = .ok (.aload_n 0, 1) := by decide +kernel
theorem dX10_bed_20 : decode cX10_bed 20 = .ok (.getfield 10, 3) := by decide +kernel
theorem dX10_bed_23 : decode cX10_bed 23 = .ok (.getfield 96, 3) := by decide +kernel
theorem dX10_bed_26 : decode cX10_bed 26 = .ok (.if_icmp .ge 66, 3) := by decide +kernel
theorem dX10_bed_29 : decode cX10_bed 29 = .ok (.iload_n 1, 1) := by decide +kernel
theorem dX10_bed_30 : decode cX10_bed 30 = .ok (.iload_n 3, 1) := by decide +kernel
theorem dX10_bed_31 : decode cX10_bed 31 = .ok (.ishr, 1) := by decide +kernel
theorem dX10_bed_32 : decode cX10_bed 32 = .ok (.iconst 1, 1) := by decide +kernel
theorem dX10_bed_33 : decode cX10_bed 33 = .ok (.iand, 1) := by decide +kernel
theorem dX10_bed_34 : decode cX10_bed 34 = .ok (.iconst 1, 1) := by decide +kernel
theorem dX10_bed_35 : decode cX10_bed 35 = .ok (.if_icmp .ne 51, 3) := by decide +kernel
theorem dX10_bed_38 : decode cX10_bed 38 = .ok (.aload_n 0, 1) := by decide +kernel
theorem dX10_bed_39 : decode cX10_bed 39 = .ok (.getfield 70, 3) := by decide +kernel
theorem dX10_bed_42 : decode cX10_bed 42 = .ok (.getfield 154, 3) := by decide +kernel
theorem dX10_bed_45 : decode cX10_bed 45 = .ok (.iload_n 3, 1) := by decide +kernel
theorem dX10_bed_46 : decode cX10_bed 46 = .ok (.iaload, 1) := by decide +kernel
theorem dX10_bed_47 : decode cX10_bed 47 = .ok (.iconst (-1), 1) := by decide +kernel
theorem dX10_bed_48 : decode cX10_bed 48 = .ok (.if_icmp .ne 38, 3) := by decide +kernel
theorem dX10_bed_51 : decode cX10_bed 51 = .ok (.aload_n 0, 1) := by decide +kernel
theorem dX10_bed_52 : decode cX10_bed 52 = .ok (.getfield 70, 3) := by decide +kernel
theorem dX10_bed_55 : decode cX10_bed 55 = .ok (.iload_n 3, 1) := by decide +kernel
theorem dX10_bed_56 : decode cX10_bed 56 = .ok (.invokevirtual 309, 3) := by decide +kernel
theorem dX10_bed_59 : decode cX10_bed 59 = .ok (.istore 4, 2) := by decide +kernel
theorem dX10_bed_61 : decode cX10_bed 61 = .ok (.aload_n 0, 1) := by decide +kernel
theorem dX10_bed_62 : decode cX10_bed 62 = .ok (.getfield 70, 3) := by decide +kernel
theorem dX10_bed_65 : decode cX10_bed 65 = .ok (.getfield 154, 3) := by decide +kernel
theorem dX10_bed_68 : decode cX10_bed 68 = .ok (.iload_n 3, 1) := by decide +kernel
theorem dX10_bed_69 : decode cX10_bed 69 = .ok (.iload 4, 2) := by decide +kernel
theorem dX10_bed_71 : decode cX10_bed 71 = .ok (.iastore, 1) := by decide +kernel
theorem dX10_bed_72 : decode cX10_bed 72 = .ok (.iload_n 2, 1) := by decide +kernel
theorem dX10_bed_73 : decode cX10_bed 73 = .ok (.iload 4, 2) := by decide +kernel
theorem dX10_bed_75 : decode cX10_bed 75 = .ok (.iconst (-1), 1) := by decide +kernel
theorem dX10_bed_76 : decode cX10_bed 76 = .ok (.if_icmp .ne 7, 3) := by decide +kernel
theorem dX10_bed_79 : decode cX10_bed 79 = .ok (.iconst 1, 1) := by decide +kernel
theorem dX10_bed_80 : decode cX10_bed 80 = .ok (.goto 4, 3) := by decide +kernel
theorem dX10_bed_83 : decode cX10_bed 83 = .ok (.iconst 0, 1) := by decide +kernel
theorem dX10_bed_84 : decode cX10_bed 84 = .ok (.iadd, 1) := by decide +kernel
theorem dX10_bed_85 : decode cX10_bed 85 = .ok (.istore_n 2, 1) := by decide +kernel
theorem dX10_bed_86 : decode cX10_bed 86 = .ok (.iinc 3 1, 3) := by decide +kernel
theorem dX10_bed_89 : decode cX10_bed 89 = .ok (.goto (-71), 3) := by decide +kernel
theorem dX10_bed_92 : decode cX10_bed 92 = .ok (.iload_n 2, 1) := by decide +kernel
theorem dX10_bed_93 : decode cX10_bed 93 = .ok (.ireturn, 1) := by decide +kernel
theorem dX10_march_0 : decode cX10_march 0 = .ok (.aload_n 0, 1) := by decide +kernel
theorem dX10_march_1 : decode cX10_march 1 = .ok (.getfield 10, 3) := by decide +kernel
theorem dX10_march_4 : decode cX10_march 4 = .ok (.iload_n 1, 1) := by decide +kernel
theorem dX10_march_5 : decode cX10_march 5 = .ok (.invokevirtual 127, 3) := by decide +kernel
theorem dX10_march_8 : decode cX10_march 8 = .ok (.ifCond .ne 5, 3) := by decide +kernel
theorem dX10_march_11 : decode cX10_march 11 = .ok (.iconst (-1), 1) := by decide +kernel
theorem dX10_march_12 : decode cX10_march 12 = .ok (.ireturn, 1) := by decide +kernel
theorem dX10_march_13 : decode cX10_march 13 = .ok (.aload_n 0, 1) := by decide +kernel
theorem dX10_march_14 : decode cX10_march 14 = .ok (.getfield 77, 3) := by decide +kernel
theorem dX10_march_17 : decode cX10_march 17 = .ok (.iload_n 1, 1) := by decide +kernel
theorem dX10_march_18 : decode cX10_march 18 = .ok (.invokevirtual 312, 3) := by decide +kernel
theorem dX10_march_21 : decode cX10_march 21 = .ok (.ifCond .eq 6, 3) := by decide +kernel
theorem dX10_march_24 : decode cX10_march 24 = .ok (.bipush (-3), 2) := by decide +kernel
theorem dX10_march_26 : decode cX10_march 26 = .ok (.ireturn, 1) := by decide +kernel
theorem dX10_march_27 : decode cX10_march 27 = .ok (.aload_n 0, 1) := by decide +kernel
theorem dX10_march_28 : decode cX10_march 28 = .ok (.getfield 77, 3) := by decide +kernel
theorem dX10_march_31 : decode cX10_march 31 = .ok (.iload_n 1, 1) := by decide +kernel
theorem dX10_march_32 : decode cX10_march 32 = .ok (.invokevirtual 313, 3) := by decide +kernel
theorem dX10_march_35 : decode cX10_march 35 = .ok (.aload_n 0, 1) := by decide +kernel
theorem dX10_march_36 : decode cX10_march 36 = .ok (.getfield 77, 3) := by decide +kernel
theorem dX10_march_39 : decode cX10_march 39 = .ok (.invokevirtual 315, 3) := by decide +kernel
theorem dX10_march_42 : decode cX10_march 42 = .ok (.ireturn, 1) := by decide +kernel
theorem dX10_leave_0 : decode cX10_leave 0 = .ok (.aload_n 0, 1) := by decide +kernel
theorem dX10_leave_1 : decode cX10_leave 1 = .ok (.getfield 10, 3) := by decide +kernel
theorem dX10_leave_4 : decode cX10_leave 4 = .ok (.iload_n 1, 1) := by decide +kernel
theorem dX10_leave_5 : decode cX10_leave 5 = .ok (.invokevirtual 127, 3) := by decide +kernel
theorem dX10_leave_8 : decode cX10_leave 8 = .ok (.ifCond .ne 5, 3) := by decide +kernel
theorem dX10_leave_11 : decode cX10_leave 11 = .ok (.iconst (-1), 1) := by decide +kernel
theorem dX10_leave_12 : decode cX10_leave 12 = .ok (.ireturn, 1) := by decide +kernel
theorem dX10_leave_13 : decode cX10_leave 13 = .ok (.aload_n 0, 1) := by decide +kernel
theorem dX10_leave_14 : decode cX10_leave 14 = .ok (.getfield 77, 3) := by decide +kernel
theorem dX10_leave_17 : decode cX10_leave 17 = .ok (.iload_n 1, 1) := by decide +kernel
theorem dX10_leave_18 : decode cX10_leave 18 = .ok (.invokevirtual 312, 3) := by decide +kernel
theorem dX10_leave_21 : decode cX10_leave 21 = .ok (.ifCond .ne 6, 3) := by decide +kernel
theorem dX10_leave_24 : decode cX10_leave 24 = .ok (.bipush (-3), 2) := by decide +kernel
theorem dX10_leave_26 : decode cX10_leave 26 = .ok (.ireturn, 1) := by decide +kernel
theorem dX10_leave_27 : decode cX10_leave 27 = .ok (.aload_n 0, 1) := by decide +kernel
theorem dX10_leave_28 : decode cX10_leave 28 = .ok (.getfield 77, 3) := by decide +kernel
theorem dX10_leave_31 : decode cX10_leave 31 = .ok (.iload_n 1, 1) := by decide +kernel
theorem dX10_leave_32 : decode cX10_leave 32 = .ok (.invokevirtual 317, 3) := by decide +kernel
theorem dX10_leave_35 : decode cX10_leave 35 = .ok (.aload_n 0, 1) := by decide +kernel
theorem dX10_leave_36 : decode cX10_leave 36 = .ok (.getfield 77, 3) := by decide +kernel
theorem dX10_leave_39 : decode cX10_leave 39 = .ok (.invokevirtual 315, 3) := by decide +kernel
theorem dX10_leave_42 : decode cX10_leave 42 = .ok (.ireturn, 1) := by decide +kernel
theorem dX10_gap_0 : decode cX10_gap 0 = .ok (.iload_n 1, 1) := by decide +kernel
theorem dX10_gap_1 : decode cX10_gap 1 = .ok (.iconst 0, 1) := by decide +kernel
theorem dX10_gap_2 : decode cX10_gap 2 = .ok (.bipush 9, 2) := by decide +kernel
theorem dX10_gap_4 : decode cX10_gap 4 = .ok (.invokestatic 114, 3) := by decide +kernel
theorem dX10_gap_7 : decode cX10_gap 7 = .ok (.ifCond .ne 6, 3) := by decide +kernel
theorem dX10_gap_10 : decode cX10_gap 10 = .ok (.bipush (-2), 2) := by decide +kernel
theorem dX10_gap_12 : decode cX10_gap 12 = .ok (.ireturn, 1) := by decide +kernel
theorem dX10_gap_13 : decode cX10_gap 13 = .ok (.aload_n 0, 1) := by decide +kernel
theorem dX10_gap_14 : decode cX10_gap 14 = .ok (.getfield 77, 3) := by decide +kernel
theorem dX10_gap_17 : decode cX10_gap 17 = .ok (.getfield 320, 3) := by decide +kernel
theorem dX10_gap_20 : decode cX10_gap 20 = .ok (.istore_n 2, 1) := by decide +kernel
theorem dX10_gap_21 : decode cX10_gap 21 = .ok (.aload_n 0, 1) := by decide +kernel
theorem dX10_gap_22 : decode cX10_gap 22 = .ok (.getfield 77, 3) := by decide +kernel
theorem dX10_gap_25 : decode cX10_gap 25 = .ok (.iload_n 1, 1) := by decide +kernel
theorem dX10_gap_26 : decode cX10_gap 26 = .ok (.putfield 320, 3) := by decide +kernel
theorem dX10_gap_29 : decode cX10_gap 29 = .ok (.iload_n 2, 1) := by decide +kernel
theorem dX10_gap_30 : decode cX10_gap 30 = .ok (.ireturn, 1) := by decide +kernel
theorem dX10_count_0 : decode cX10_count 0 = .ok (.iload_n 1, 1) := by decide +kernel
theorem dX10_count_1 : decode cX10_count 1 = .ok (.tableswitch 141 0 10 #[59, 67, 75, 83, 91, 96, 104, 112, 120, 128, 136], 59) := by decide +kernel
theorem dX10_count_60 : decode cX10_count 60 = .ok (.aload_n 0, 1) := by decide +kernel
theorem dX10_count_61 : decode cX10_count 61 = .ok (.getfield 10, 3) := by decide +kernel
theorem dX10_count_64 : decode cX10_count 64 = .ok (.getfield 96, 3) := by decide +kernel
theorem dX10_count_67 : decode cX10_count 67 = .ok (.ireturn, 1) := by decide +kernel
theorem dX10_count_68 : decode cX10_count 68 = .ok (.aload_n 0, 1) := by decide +kernel
theorem dX10_count_69 : decode cX10_count 69 = .ok (.getfield 19, 3) := by decide +kernel
theorem dX10_count_72 : decode cX10_count 72 = .ok (.getfield 117, 3) := by decide +kernel
theorem dX10_count_75 : decode cX10_count 75 = .ok (.ireturn, 1) := by decide +kernel
theorem dX10_count_76 : decode cX10_count 76 = .ok (.aload_n 0, 1) := by decide +kernel
theorem dX10_count_77 : decode cX10_count 77 = .ok (.getfield 26, 3) := by decide +kernel
theorem dX10_count_80 : decode cX10_count 80 = .ok (.getfield 121, 3) := by decide +kernel
theorem dX10_count_83 : decode cX10_count 83 = .ok (.ireturn, 1) := by decide +kernel
theorem dX10_count_84 : decode cX10_count 84 = .ok (.aload_n 0, 1) := by decide +kernel
theorem dX10_count_85 : decode cX10_count 85 = .ok (.getfield 40, 3) := by decide +kernel
theorem dX10_count_88 : decode cX10_count 88 = .ok (.getfield 176, 3) := by decide +kernel
theorem dX10_count_91 : decode cX10_count 91 = .ok (.ireturn, 1) := by decide +kernel
theorem dX10_count_92 : decode cX10_count 92 = .ok (.aload_n 0, 1) := by decide +kernel
theorem dX10_count_93 : decode cX10_count 93 = .ok (.getfield 81, 3) := by decide +kernel
theorem dX10_count_96 : decode cX10_count 96 = .ok (.ireturn, 1) := by decide +kernel
theorem dX10_count_97 : decode cX10_count 97 = .ok (.aload_n 0, 1) := by decide +kernel
theorem dX10_count_98 : decode cX10_count 98 = .ok (.getfield 49, 3) := by decide +kernel
theorem dX10_count_101 : decode cX10_count 101 = .ok (.invokevirtual 200, 3) := by decide +kernel
theorem dX10_count_104 : decode cX10_count 104 = .ok (.ireturn, 1) := by decide +kernel
theorem dX10_count_105 : decode cX10_count 105 = .ok (.aload_n 0, 1) := by decide +kernel
theorem dX10_count_106 : decode cX10_count 106 = .ok (.getfield 77, 3) := by decide +kernel
theorem dX10_count_109 : decode cX10_count 109 = .ok (.invokevirtual 323, 3) := by decide +kernel
theorem dX10_count_112 : decode cX10_count 112 = .ok (.ireturn, 1) := by decide +kernel
theorem dX10_count_113 : decode cX10_count 113 = .ok (.aload_n 0, 1) := by decide +kernel
theorem dX10_count_114 : decode cX10_count 114 = .ok (.getfield 77, 3) := by decide +kernel
theorem dX10_count_117 : decode cX10_count 117 = .ok (.invokevirtual 315, 3) := by decide +kernel
theorem dX10_count_120 : decode cX10_count 120 = .ok (.ireturn, 1) := by decide +kernel
theorem dX10_count_121 : decode cX10_count 121 = .ok (.aload_n 0, 1) := by decide +kernel
theorem dX10_count_122 : decode cX10_count 122 = .ok (.getfield 33, 3) := by decide +kernel
theorem dX10_count_125 : decode cX10_count 125 = .ok (.getfield 169, 3) := by decide +kernel
theorem dX10_count_128 : decode cX10_count 128 = .ok (.ireturn, 1) := by decide +kernel
theorem dX10_count_129 : decode cX10_count 129 = .ok (.aload_n 0, 1) := by decide +kernel
theorem dX10_count_130 : decode cX10_count 130 = .ok (.getfield 70, 3) := by decide +kernel
theorem dX10_count_133 : decode cX10_count 133 = .ok (.invokevirtual 325, 3) := by decide +kernel
theorem dX10_count_136 : decode cX10_count 136 = .ok (.ireturn, 1) := by decide +kernel
theorem dX10_count_137 : decode cX10_count 137 = .ok (.aload_n 0, 1) := by decide +kernel
theorem dX10_count_138 : decode cX10_count 138 = .ok (.invokevirtual 328, 3) := by decide +kernel
theorem dX10_count_141 : decode cX10_count 141 = .ok (.ireturn, 1) := by decide +kernel
theorem dX10_count_142 : decode cX10_count 142 = .ok (.iconst (-1), 1) := by decide +kernel
theorem dX10_count_143 : decode cX10_count 143 = .ok (.ireturn, 1) := by decide +kernel
theorem dX10_isWithin_0 : decode cX10_isWithin 0 = .ok (.iload_n 0, 1) := by decide +kernel
theorem dX10_isWithin_1 : decode cX10_isWithin 1 = .ok (.iload_n 1, 1) := by decide +kernel
theorem dX10_isWithin_2 : decode cX10_isWithin 2 = .ok (.if_icmp .lt 12, 3) := by decide +kernel
theorem dX10_isWithin_5 : decode cX10_isWithin 5 = .ok (.iload_n 0, 1) := by decide +kernel
theorem dX10_isWithin_6 : decode cX10_isWithin 6 = .ok (.iload_n 2, 1) := by decide +kernel
theorem dX10_isWithin_7 : decode cX10_isWithin 7 = .ok (.if_icmp .gt 7, 3) := by decide +kernel
theorem dX10_isWithin_10 : decode cX10_isWithin 10 = .ok (.iconst 1, 1) := by decide +kernel
theorem dX10_isWithin_11 : decode cX10_isWithin 11 = .ok (.goto 4, 3) := by decide +kernel
theorem dX10_isWithin_14 : decode cX10_isWithin 14 = .ok (.iconst 0, 1) := by decide +kernel
theorem dX10_isWithin_15 : decode cX10_isWithin 15 = .ok (.ireturn, 1) := by decide +kernel
theorem dX10_isTown_0 : decode cX10_isTown 0 = .ok (.iload_n 0, 1) := by decide +kernel
theorem dX10_isTown_1 : decode cX10_isTown 1 = .ok (.ifCond .lt 13, 3) := by decide +kernel
theorem dX10_isTown_4 : decode cX10_isTown 4 = .ok (.iload_n 0, 1) := by decide +kernel
theorem dX10_isTown_5 : decode cX10_isTown 5 = .ok (.bipush 8, 2) := by decide +kernel
theorem dX10_isTown_7 : decode cX10_isTown 7 = .ok (.if_icmp .ge 7, 3) := by decide +kernel
theorem dX10_isTown_10 : decode cX10_isTown 10 = .ok (.iconst 1, 1) := by decide +kernel
theorem dX10_isTown_11 : decode cX10_isTown 11 = .ok (.goto 4, 3) := by decide +kernel
theorem dX10_isTown_14 : decode cX10_isTown 14 = .ok (.iconst 0, 1) := by decide +kernel
theorem dX10_isTown_15 : decode cX10_isTown 15 = .ok (.ireturn, 1) := by decide +kernel
theorem dX10_firstPart_0 : decode cX10_firstPart 0 = .ok (.iload_n 0, 1) := by decide +kernel
theorem dX10_firstPart_1 : decode cX10_firstPart 1 = .ok (.iconst 4, 1) := by decide +kernel
theorem dX10_firstPart_2 : decode cX10_firstPart 2 = .ok (.ishr, 1) := by decide +kernel
theorem dX10_firstPart_3 : decode cX10_firstPart 3 = .ok (.ireturn, 1) := by decide +kernel
theorem dX10_secondPart_0 : decode cX10_secondPart 0 = .ok (.iload_n 0, 1) := by decide +kernel
theorem dX10_secondPart_1 : decode cX10_secondPart 1 = .ok (.bipush 15, 2) := by decide +kernel
theorem dX10_secondPart_3 : decode cX10_secondPart 3 = .ok (.iand, 1) := by decide +kernel
theorem dX10_secondPart_4 : decode cX10_secondPart 4 = .ok (.ireturn, 1) := by decide +kernel
theorem dX10_portions_0 : decode cX10_portions 0 = .ok (.iload_n 1, 1) := by decide +kernel
theorem dX10_portions_1 : decode cX10_portions 1 = .ok (.ifCond .le 13, 3) := by decide +kernel
theorem dX10_portions_4 : decode cX10_portions 4 = .ok (.iload_n 0, 1) := by decide +kernel
theorem dX10_portions_5 : decode cX10_portions 5 = .ok (.iload_n 1, 1) := by decide +kernel
theorem dX10_portions_6 : decode cX10_portions 6 = .ok (.iadd, 1) := by decide +kernel
theorem dX10_portions_7 : decode cX10_portions 7 = .ok (.iconst 1, 1) := by decide +kernel
theorem dX10_portions_8 : decode cX10_portions 8 = .ok (.isub, 1) := by decide +kernel
theorem dX10_portions_9 : decode cX10_portions 9 = .ok (.iload_n 1, 1) := by decide +kernel
theorem dX10_portions_10 : decode cX10_portions 10 = .ok (.idiv, 1) := by decide +kernel
theorem dX10_portions_11 : decode cX10_portions 11 = .ok (.goto 4, 3) := by decide +kernel
theorem dX10_portions_14 : decode cX10_portions 14 = .ok (.iconst 0, 1) := by decide +kernel
theorem dX10_portions_15 : decode cX10_portions 15 = .ok (.ireturn, 1) := by decide +kernel
theorem dX10_isSetOfChoirs_0 : decode cX10_isSetOfChoirs 0 = .ok (.iload_n 1, 1) := by decide +kernel
theorem dX10_isSetOfChoirs_1 : decode cX10_isSetOfChoirs 1 = .ok (.ifCond .eq 18, 3) := by decide +kernel
theorem dX10_isSetOfChoirs_4 : decode cX10_isSetOfChoirs 4 = .ok (.aload_n 0, 1) := by decide +kernel
theorem dX10_isSetOfChoirs_5 : decode cX10_isSetOfChoirs 5 = .ok (.getfield 10, 3) := by decide +kernel
theorem dX10_isSetOfChoirs_8 : decode cX10_isSetOfChoirs 8 = .ok (.iload_n 1, 1) := by decide +kernel
theorem dX10_isSetOfChoirs_9 : decode cX10_isSetOfChoirs 9 = .ok (.invokevirtual 308, 3) := by decide +kernel
theorem dX10_isSetOfChoirs_12 : decode cX10_isSetOfChoirs 12 = .ok (.ifCond .eq 7, 3) := by decide +kernel
theorem dX10_isSetOfChoirs_15 : decode cX10_isSetOfChoirs 15 = .ok (.iconst 1, 1) := by decide +kernel
theorem dX10_isSetOfChoirs_16 : decode cX10_isSetOfChoirs 16 = .ok (.goto 4, 3) := by decide +kernel
theorem dX10_isSetOfChoirs_19 : decode cX10_isSetOfChoirs 19 = .ok (.iconst 0, 1) := by decide +kernel
theorem dX10_isSetOfChoirs_20 : decode cX10_isSetOfChoirs 20 = .ok (.ireturn, 1) := by decide +kernel
theorem dX10_isThere_0 : decode cX10_isThere 0 = .ok (.aload_n 0, 1) := by decide +kernel
theorem dX10_isThere_1 : decode cX10_isThere 1 = .ok (.getfield 10, 3) := by decide +kernel
theorem dX10_isThere_4 : decode cX10_isThere 4 = .ok (.getfield 331, 3) := by decide +kernel
theorem dX10_isThere_7 : decode cX10_isThere 7 = .ok (.iload_n 1, 1) := by decide +kernel
theorem dX10_isThere_8 : decode cX10_isThere 8 = .ok (.iaload, 1) := by decide +kernel
theorem dX10_isThere_9 : decode cX10_isThere 9 = .ok (.aload_n 0, 1) := by decide +kernel
theorem dX10_isThere_10 : decode cX10_isThere 10 = .ok (.getfield 81, 3) := by decide +kernel
theorem dX10_isThere_13 : decode cX10_isThere 13 = .ok (.if_icmp .gt 7, 3) := by decide +kernel
theorem dX10_isThere_16 : decode cX10_isThere 16 = .ok (.iconst 1, 1) := by decide +kernel
theorem dX10_isThere_17 : decode cX10_isThere 17 = .ok (.goto 4, 3) := by decide +kernel
theorem dX10_isThere_20 : decode cX10_isThere 20 = .ok (.iconst 0, 1) := by decide +kernel
theorem dX10_isThere_21 : decode cX10_isThere 21 = .ok (.ireturn, 1) := by decide +kernel
theorem dX10_singersThere_0 : decode cX10_singersThere 0 = .ok (.iconst 0, 1) := by decide +kernel
theorem dX10_singersThere_1 : decode cX10_singersThere 1 = .ok (.istore_n 1, 1) := by decide +kernel
theorem dX10_singersThere_2 : decode cX10_singersThere 2 = .ok (.iconst 0, 1) := by decide +kernel
theorem dX10_singersThere_3 : decode cX10_singersThere 3 = .ok (.istore_n 2, 1) := by decide +kernel
theorem dX10_singersThere_4 : decode cX10_singersThere 4 = .ok (.iload_n 2, 1) := by decide +kernel
theorem dX10_singersThere_5 : decode cX10_singersThere 5 = .ok (.aload_n 0, 1) := by decide +kernel
theorem dX10_singersThere_6 : decode cX10_singersThere 6 = .ok (.getfield 10, 3) := by decide +kernel
theorem dX10_singersThere_9 : decode cX10_singersThere 9 = .ok (.getfield 96, 3) := by decide +kernel
theorem dX10_singersThere_12 : decode cX10_singersThere 12 = .ok (.if_icmp .ge 29, 3) := by decide +kernel
theorem dX10_singersThere_15 : decode cX10_singersThere 15 = .ok (.aload_n 0, 1) := by decide +kernel
theorem dX10_singersThere_16 : decode cX10_singersThere 16 = .ok (.iload_n 2, 1) := by decide +kernel
theorem dX10_singersThere_17 : decode cX10_singersThere 17 = .ok (.invokevirtual 148, 3) := by decide +kernel
theorem dX10_singersThere_20 : decode cX10_singersThere 20 = .ok (.ifCond .eq 15, 3) := by decide +kernel
theorem dX10_singersThere_23 : decode cX10_singersThere 23 = .ok (.iload_n 1, 1) := by decide +kernel
theorem dX10_singersThere_24 : decode cX10_singersThere 24 = .ok (.aload_n 0, 1) := by decide +kernel
theorem dX10_singersThere_25 : decode cX10_singersThere 25 = .ok (.getfield 10, 3) := by decide +kernel
theorem dX10_singersThere_28 : decode cX10_singersThere 28 = .ok (.getfield 145, 3) := by decide +kernel
theorem dX10_singersThere_31 : decode cX10_singersThere 31 = .ok (.iload_n 2, 1) := by decide +kernel
theorem dX10_singersThere_32 : decode cX10_singersThere 32 = .ok (.iaload, 1) := by decide +kernel
theorem dX10_singersThere_33 : decode cX10_singersThere 33 = .ok (.iadd, 1) := by decide +kernel
theorem dX10_singersThere_34 : decode cX10_singersThere 34 = .ok (.istore_n 1, 1) := by decide +kernel
theorem dX10_singersThere_35 : decode cX10_singersThere 35 = .ok (.iinc 2 1, 3) := by decide +kernel
theorem dX10_singersThere_38 : decode cX10_singersThere 38 = .ok (.goto (-34), 3) := by decide +kernel
theorem dX10_singersThere_41 : decode cX10_singersThere 41 = .ok (.iload_n 1, 1) := by decide +kernel
theorem dX10_singersThere_42 : decode cX10_singersThere 42 = .ok (.ireturn, 1) := by decide +kernel
theorem dX10_areReadyToBeLaid_0 : decode cX10_areReadyToBeLaid 0 = .ok (.iconst 0, 1) := by decide +kernel
theorem dX10_areReadyToBeLaid_1 : decode cX10_areReadyToBeLaid 1 = .ok (.istore_n 2, 1) := by decide +kernel
theorem dX10_areReadyToBeLaid_2 : decode cX10_areReadyToBeLaid 2 = .ok (.iload_n 2, 1) := by decide +kernel
theorem dX10_areReadyToBeLaid_3 : decode cX10_areReadyToBeLaid 3 = .ok (.aload_n 0, 1) := by decide +kernel
theorem dX10_areReadyToBeLaid_4 : decode cX10_areReadyToBeLaid 4 = .ok (.getfield 10, 3) := by decide +kernel
theorem dX10_areReadyToBeLaid_7 : decode cX10_areReadyToBeLaid 7 = .ok (.getfield 96, 3) := by decide +kernel
theorem dX10_areReadyToBeLaid_10 : decode cX10_areReadyToBeLaid 10 = .ok (.if_icmp .ge 39, 3) := by decide +kernel
theorem dX10_areReadyToBeLaid_13 : decode cX10_areReadyToBeLaid 13 = .ok (.iload_n 1, 1) := by decide +kernel
theorem dX10_areReadyToBeLaid_14 : decode cX10_areReadyToBeLaid 14 = .ok (.iload_n 2, 1) := by decide +kernel
theorem dX10_areReadyToBeLaid_15 : decode cX10_areReadyToBeLaid 15 = .ok (.ishr, 1) := by decide +kernel
theorem dX10_areReadyToBeLaid_16 : decode cX10_areReadyToBeLaid 16 = .ok (.iconst 1, 1) := by decide +kernel
theorem dX10_areReadyToBeLaid_17 : decode cX10_areReadyToBeLaid 17 = .ok (.iand, 1) := by decide +kernel
theorem dX10_areReadyToBeLaid_18 : decode cX10_areReadyToBeLaid 18 = .ok (.iconst 1, 1) := by decide +kernel
theorem dX10_areReadyToBeLaid_19 : decode cX10_areReadyToBeLaid 19 = .ok (.if_icmp .ne 24, 3) := by decide +kernel
theorem dX10_areReadyToBeLaid_22 : decode cX10_areReadyToBeLaid 22 = .ok (.aload_n 0, 1) := by decide +kernel
theorem dX10_areReadyToBeLaid_23 : decode cX10_areReadyToBeLaid 23 = .ok (.getfield 49, 3) := by decide +kernel
theorem dX10_areReadyToBeLaid_26 : decode cX10_areReadyToBeLaid 26 = .ok (.iload_n 2, 1) := by decide +kernel
theorem dX10_areReadyToBeLaid_27 : decode cX10_areReadyToBeLaid 27 = .ok (.invokevirtual 213, 3) := by decide +kernel
theorem dX10_areReadyToBeLaid_30 : decode cX10_areReadyToBeLaid 30 = .ok (.ifCond .ne 11, 3) := by decide +kernel
theorem dX10_areReadyToBeLaid_33 : decode cX10_areReadyToBeLaid 33 = .ok (.aload_n 0, 1) := by decide +kernel
theorem dX10_areReadyToBeLaid_34 : decode cX10_areReadyToBeLaid 34 = .ok (.iload_n 2, 1) := by decide +kernel
theorem dX10_areReadyToBeLaid_35 : decode cX10_areReadyToBeLaid 35 = .ok (.invokevirtual 148, 3) := by decide +kernel
theorem dX10_areReadyToBeLaid_38 : decode cX10_areReadyToBeLaid 38 = .ok (.ifCond .ne 5, 3) := by decide +kernel
theorem dX10_areReadyToBeLaid_41 : decode cX10_areReadyToBeLaid 41 = .ok (.iconst 0, 1) := by decide +kernel
theorem dX10_areReadyToBeLaid_42 : decode cX10_areReadyToBeLaid 42 = .ok (.ireturn, 1) := by decide +kernel
theorem dX10_areReadyToBeLaid_43 : decode cX10_areReadyToBeLaid 43 = .ok (.iinc 2 1, 3) := by decide +kernel
theorem dX10_areReadyToBeLaid_46 : decode cX10_areReadyToBeLaid 46 = .ok (.goto (-44), 3) := by decide +kernel
theorem dX10_areReadyToBeLaid_49 : decode cX10_areReadyToBeLaid 49 = .ok (.iconst 1, 1) := by decide +kernel
theorem dX10_areReadyToBeLaid_50 : decode cX10_areReadyToBeLaid 50 = .ok (.ireturn, 1) := by decide +kernel
theorem dX10_verdict_0 : decode cX10_verdict 0 = .ok (.aload_n 0, 1) := by decide +kernel
theorem dX10_verdict_1 : decode cX10_verdict 1 = .ok (.iload_n 1, 1) := by decide +kernel
theorem dX10_verdict_2 : decode cX10_verdict 2 = .ok (.invokevirtual 148, 3) := by decide +kernel
theorem dX10_verdict_5 : decode cX10_verdict 5 = .ok (.ifCond .ne 5, 3) := by decide +kernel
theorem dX10_verdict_8 : decode cX10_verdict 8 = .ok (.iconst 1, 1) := by decide +kernel
theorem dX10_verdict_9 : decode cX10_verdict 9 = .ok (.ireturn, 1) := by decide +kernel
theorem dX10_verdict_10 : decode cX10_verdict 10 = .ok (.aload_n 0, 1) := by decide +kernel
theorem dX10_verdict_11 : decode cX10_verdict 11 = .ok (.getfield 19, 3) := by decide +kernel
theorem dX10_verdict_14 : decode cX10_verdict 14 = .ok (.getfield 334, 3) := by decide +kernel
theorem dX10_verdict_17 : decode cX10_verdict 17 = .ok (.iload_n 2, 1) := by decide +kernel
theorem dX10_verdict_18 : decode cX10_verdict 18 = .ok (.iaload, 1) := by decide +kernel
theorem dX10_verdict_19 : decode cX10_verdict 19 = .ok (.aload_n 0, 1) := by decide +kernel
theorem dX10_verdict_20 : decode cX10_verdict 20 = .ok (.getfield 10, 3) := by decide +kernel
theorem dX10_verdict_23 : decode cX10_verdict 23 = .ok (.getfield 142, 3) := by decide +kernel
theorem dX10_verdict_26 : decode cX10_verdict 26 = .ok (.iload_n 1, 1) := by decide +kernel
theorem dX10_verdict_27 : decode cX10_verdict 27 = .ok (.iaload, 1) := by decide +kernel
theorem dX10_verdict_28 : decode cX10_verdict 28 = .ok (.ishr, 1) := by decide +kernel
theorem dX10_verdict_29 : decode cX10_verdict 29 = .ok (.iconst 1, 1) := by decide +kernel
theorem dX10_verdict_30 : decode cX10_verdict 30 = .ok (.iand, 1) := by decide +kernel
theorem dX10_verdict_31 : decode cX10_verdict 31 = .ok (.ifCond .ne 5, 3) := by decide +kernel
theorem dX10_verdict_34 : decode cX10_verdict 34 = .ok (.iconst 2, 1) := by decide +kernel
theorem dX10_verdict_35 : decode cX10_verdict 35 = .ok (.ireturn, 1) := by decide +kernel
theorem dX10_verdict_36 : decode cX10_verdict 36 = .ok (.aload_n 0, 1) := by decide +kernel
theorem dX10_verdict_37 : decode cX10_verdict 37 = .ok (.getfield 19, 3) := by decide +kernel
theorem dX10_verdict_40 : decode cX10_verdict 40 = .ok (.getfield 337, 3) := by decide +kernel
theorem dX10_verdict_43 : decode cX10_verdict 43 = .ok (.iload_n 2, 1) := by decide +kernel
theorem dX10_verdict_44 : decode cX10_verdict 44 = .ok (.iaload, 1) := by decide +kernel
theorem dX10_verdict_45 : decode cX10_verdict 45 = .ok (.aload_n 0, 1) := by decide +kernel
theorem dX10_verdict_46 : decode cX10_verdict 46 = .ok (.getfield 10, 3) := by decide +kernel
theorem dX10_verdict_49 : decode cX10_verdict 49 = .ok (.iload_n 1, 1) := by decide +kernel
theorem dX10_verdict_50 : decode cX10_verdict 50 = .ok (.invokevirtual 340, 3) := by decide +kernel
theorem dX10_verdict_53 : decode cX10_verdict 53 = .ok (.iconst (-1), 1) := by decide +kernel
theorem dX10_verdict_54 : decode cX10_verdict 54 = .ok (.ixor, 1) := by decide +kernel
theorem dX10_verdict_55 : decode cX10_verdict 55 = .ok (.iand, 1) := by decide +kernel
theorem dX10_verdict_56 : decode cX10_verdict 56 = .ok (.ifCond .eq 5, 3) := by decide +kernel
theorem dX10_verdict_59 : decode cX10_verdict 59 = .ok (.iconst 3, 1) := by decide +kernel
theorem dX10_verdict_60 : decode cX10_verdict 60 = .ok (.ireturn, 1) := by decide +kernel
theorem dX10_verdict_61 : decode cX10_verdict 61 = .ok (.aload_n 0, 1) := by decide +kernel
theorem dX10_verdict_62 : decode cX10_verdict 62 = .ok (.iload_n 1, 1) := by decide +kernel
theorem dX10_verdict_63 : decode cX10_verdict 63 = .ok (.iload_n 2, 1) := by decide +kernel
theorem dX10_verdict_64 : decode cX10_verdict 64 = .ok (.invokevirtual 191, 3) := by decide +kernel
theorem dX10_verdict_67 : decode cX10_verdict 67 = .ok (.istore_n 3, 1) := by decide +kernel
theorem dX10_verdict_68 : decode cX10_verdict 68 = .ok (.iload_n 3, 1) := by decide +kernel
theorem dX10_verdict_69 : decode cX10_verdict 69 = .ok (.iconst (-1), 1) := by decide +kernel
theorem dX10_verdict_70 : decode cX10_verdict 70 = .ok (.if_icmp .eq 19, 3) := by decide +kernel
theorem dX10_verdict_73 : decode cX10_verdict 73 = .ok (.aload_n 0, 1) := by decide +kernel
theorem dX10_verdict_74 : decode cX10_verdict 74 = .ok (.getfield 40, 3) := by decide +kernel
theorem dX10_verdict_77 : decode cX10_verdict 77 = .ok (.getfield 343, 3) := by decide +kernel
theorem dX10_verdict_80 : decode cX10_verdict 80 = .ok (.iload_n 3, 1) := by decide +kernel
theorem dX10_verdict_81 : decode cX10_verdict 81 = .ok (.baload, 1) := by decide +kernel
theorem dX10_verdict_82 : decode cX10_verdict 82 = .ok (.ifCond .eq 7, 3) := by decide +kernel
theorem dX10_verdict_85 : decode cX10_verdict 85 = .ok (.iconst 4, 1) := by decide +kernel
theorem dX10_verdict_86 : decode cX10_verdict 86 = .ok (.goto 4, 3) := by decide +kernel
theorem dX10_verdict_89 : decode cX10_verdict 89 = .ok (.iconst 0, 1) := by decide +kernel
theorem dX10_verdict_90 : decode cX10_verdict 90 = .ok (.ireturn, 1) := by decide +kernel
theorem dX10_lastRuleThatHolds_0 : decode cX10_lastRuleThatHolds 0 = .ok (.aload_n 0, 1) := by decide +kernel
theorem dX10_lastRuleThatHolds_1 : decode cX10_lastRuleThatHolds 1 = .ok (.getfield 40, 3) := by decide +kernel
theorem dX10_lastRuleThatHolds_4 : decode cX10_lastRuleThatHolds 4 = .ok (.getfield 176, 3) := by decide +kernel
theorem dX10_lastRuleThatHolds_7 : decode cX10_lastRuleThatHolds 7 = .ok (.iconst 1, 1) := by decide +kernel
theorem dX10_lastRuleThatHolds_8 : decode cX10_lastRuleThatHolds 8 = .ok (.isub, 1) := by decide +kernel
theorem dX10_lastRuleThatHolds_9 : decode cX10_lastRuleThatHolds 9 = .ok (.istore_n 3, 1) := by decide +kernel
theorem dX10_lastRuleThatHolds_10 : decode cX10_lastRuleThatHolds 10 = .ok (.iload_n 3, 1) := by decide +kernel
theorem dX10_lastRuleThatHolds_11 : decode cX10_lastRuleThatHolds 11 = .ok (.ifCond .lt 21, 3) := by decide +kernel
theorem dX10_lastRuleThatHolds_14 : decode cX10_lastRuleThatHolds 14 = .ok (.aload_n 0, 1) := by decide +kernel
theorem dX10_lastRuleThatHolds_15 : decode cX10_lastRuleThatHolds 15 = .ok (.iload_n 3, 1) := by decide +kernel
theorem dX10_lastRuleThatHolds_16 : decode cX10_lastRuleThatHolds 16 = .ok (.iload_n 1, 1) := by decide +kernel
theorem dX10_lastRuleThatHolds_17 : decode cX10_lastRuleThatHolds 17 = .ok (.iload_n 2, 1) := by decide +kernel
theorem dX10_lastRuleThatHolds_18 : decode cX10_lastRuleThatHolds 18 = .ok (.invokevirtual 347, 3) := by decide +kernel
theorem dX10_lastRuleThatHolds_21 : decode cX10_lastRuleThatHolds 21 = .ok (.ifCond .eq 5, 3) := by decide +kernel
theorem dX10_lastRuleThatHolds_24 : decode cX10_lastRuleThatHolds 24 = .ok (.iload_n 3, 1) := by decide +kernel
theorem dX10_lastRuleThatHolds_25 : decode cX10_lastRuleThatHolds 25 = .ok (.ireturn, 1) := by decide +kernel
theorem dX10_lastRuleThatHolds_26 : decode cX10_lastRuleThatHolds 26 = .ok (.iinc 3 (-1), 3) := by decide +kernel
theorem dX10_lastRuleThatHolds_29 : decode cX10_lastRuleThatHolds 29 = .ok (.goto (-19), 3) := by decide +kernel
theorem dX10_lastRuleThatHolds_32 : decode cX10_lastRuleThatHolds 32 = .ok (.iconst (-1), 1) := by decide +kernel
theorem dX10_lastRuleThatHolds_33 : decode cX10_lastRuleThatHolds 33 = .ok (.ireturn, 1) := by decide +kernel
theorem dX10_ruleHolds_0 : decode cX10_ruleHolds 0 = .ok (.aload_n 0, 1) := by decide +kernel
theorem dX10_ruleHolds_1 : decode cX10_ruleHolds 1 = .ok (.getfield 40, 3) := by decide +kernel
theorem dX10_ruleHolds_4 : decode cX10_ruleHolds 4 = .ok (.getfield 350, 3) := by decide +kernel
theorem dX10_ruleHolds_7 : decode cX10_ruleHolds 7 = .ok (.iload_n 1, 1) := by decide +kernel
theorem dX10_ruleHolds_8 : decode cX10_ruleHolds 8 = .ok (.iaload, 1) := by decide +kernel
theorem dX10_ruleHolds_9 : decode cX10_ruleHolds 9 = .ok (.iconst (-1), 1) := by decide +kernel
theorem dX10_ruleHolds_10 : decode cX10_ruleHolds 10 = .ok (.if_icmp .eq 26, 3) := by decide +kernel
theorem dX10_ruleHolds_13 : decode cX10_ruleHolds 13 = .ok (.aload_n 0, 1) := by decide +kernel
theorem dX10_ruleHolds_14 : decode cX10_ruleHolds 14 = .ok (.getfield 40, 3) := by decide +kernel
theorem dX10_ruleHolds_17 : decode cX10_ruleHolds 17 = .ok (.getfield 350, 3) := by decide +kernel
theorem dX10_ruleHolds_20 : decode cX10_ruleHolds 20 = .ok (.iload_n 1, 1) := by decide +kernel
theorem dX10_ruleHolds_21 : decode cX10_ruleHolds 21 = .ok (.iaload, 1) := by decide +kernel
theorem dX10_ruleHolds_22 : decode cX10_ruleHolds 22 = .ok (.aload_n 0, 1) := by decide +kernel
theorem dX10_ruleHolds_23 : decode cX10_ruleHolds 23 = .ok (.getfield 10, 3) := by decide +kernel
theorem dX10_ruleHolds_26 : decode cX10_ruleHolds 26 = .ok (.getfield 142, 3) := by decide +kernel
theorem dX10_ruleHolds_29 : decode cX10_ruleHolds 29 = .ok (.iload_n 2, 1) := by decide +kernel
theorem dX10_ruleHolds_30 : decode cX10_ruleHolds 30 = .ok (.iaload, 1) := by decide +kernel
theorem dX10_ruleHolds_31 : decode cX10_ruleHolds 31 = .ok (.if_icmp .eq 5, 3) := by decide +kernel
theorem dX10_ruleHolds_34 : decode cX10_ruleHolds 34 = .ok (.iconst 0, 1) := by decide +kernel
theorem dX10_ruleHolds_35 : decode cX10_ruleHolds 35 = .ok (.ireturn, 1) := by decide +kernel
theorem dX10_ruleHolds_36 : decode cX10_ruleHolds 36 = .ok (.iconst 0, 1) := by decide +kernel
theorem dX10_ruleHolds_37 : decode cX10_ruleHolds 37 = .ok (.istore 4, 2) := by decide +kernel
theorem dX10_ruleHolds_39 : decode cX10_ruleHolds 39 = .ok (.iload 4, 2) := by decide +kernel
theorem dX10_ruleHolds_41 : decode cX10_ruleHolds 41 = .ok (.aload_n 0, 1) := by decide +kernel
theorem dX10_ruleHolds_42 : decode cX10_ruleHolds 42 = .ok (.getfield 40, 3) := by decide +kernel
theorem dX10_ruleHolds_45 : decode cX10_ruleHolds 45 = .ok (.getfield 351, 3) := by decide +kernel
theorem dX10_ruleHolds_48 : decode cX10_ruleHolds 48 = .ok (.iload_n 1, 1) := by decide +kernel
theorem dX10_ruleHolds_49 : decode cX10_ruleHolds 49 = .ok (.iaload, 1) := by decide +kernel
theorem dX10_ruleHolds_50 : decode cX10_ruleHolds 50 = .ok (.if_icmp .ge 44, 3) := by decide +kernel
theorem dX10_ruleHolds_53 : decode cX10_ruleHolds 53 = .ok (.aload_n 0, 1) := by decide +kernel
theorem dX10_ruleHolds_54 : decode cX10_ruleHolds 54 = .ok (.aload_n 0, 1) := by decide +kernel
theorem dX10_ruleHolds_55 : decode cX10_ruleHolds 55 = .ok (.getfield 40, 3) := by decide +kernel
theorem dX10_ruleHolds_58 : decode cX10_ruleHolds 58 = .ok (.iload_n 1, 1) := by decide +kernel
theorem dX10_ruleHolds_59 : decode cX10_ruleHolds 59 = .ok (.iload 4, 2) := by decide +kernel
theorem dX10_ruleHolds_61 : decode cX10_ruleHolds 61 = .ok (.invokevirtual 354, 3) := by decide +kernel
theorem dX10_ruleHolds_64 : decode cX10_ruleHolds 64 = .ok (.iload_n 2, 1) := by decide +kernel
theorem dX10_ruleHolds_65 : decode cX10_ruleHolds 65 = .ok (.iload_n 3, 1) := by decide +kernel
theorem dX10_ruleHolds_66 : decode cX10_ruleHolds 66 = .ok (.invokevirtual 357, 3) := by decide +kernel
theorem dX10_ruleHolds_69 : decode cX10_ruleHolds 69 = .ok (.istore 5, 2) := by decide +kernel
theorem dX10_ruleHolds_71 : decode cX10_ruleHolds 71 = .ok (.aload_n 0, 1) := by decide +kernel
theorem dX10_ruleHolds_72 : decode cX10_ruleHolds 72 = .ok (.getfield 40, 3) := by decide +kernel
theorem dX10_ruleHolds_75 : decode cX10_ruleHolds 75 = .ok (.iload_n 1, 1) := by decide +kernel
theorem dX10_ruleHolds_76 : decode cX10_ruleHolds 76 = .ok (.iload 4, 2) := by decide +kernel
theorem dX10_ruleHolds_78 : decode cX10_ruleHolds 78 = .ok (.iload 5, 2) := by decide +kernel
theorem dX10_ruleHolds_80 : decode cX10_ruleHolds 80 = .ok (.invokevirtual 360, 3) := by decide +kernel
theorem dX10_ruleHolds_83 : decode cX10_ruleHolds 83 = .ok (.ifCond .ne 5, 3) := by decide +kernel
theorem dX10_ruleHolds_86 : decode cX10_ruleHolds 86 = .ok (.iconst 0, 1) := by decide +kernel
theorem dX10_ruleHolds_87 : decode cX10_ruleHolds 87 = .ok (.ireturn, 1) := by decide +kernel
theorem dX10_ruleHolds_88 : decode cX10_ruleHolds 88 = .ok (.iinc 4 1, 3) := by decide +kernel
theorem dX10_ruleHolds_91 : decode cX10_ruleHolds 91 = .ok (.goto (-52), 3) := by decide +kernel
theorem dX10_ruleHolds_94 : decode cX10_ruleHolds 94 = .ok (.iconst 1, 1) := by decide +kernel
theorem dX10_ruleHolds_95 : decode cX10_ruleHolds 95 = .ok (.ireturn, 1) := by decide +kernel
theorem dX10_valueOf_0 : decode cX10_valueOf 0 = .ok (.iload_n 1, 1) := by decide +kernel
theorem dX10_valueOf_1 : decode cX10_valueOf 1 = .ok (.tableswitch 74 0 3 #[31, 44, 54, 64], 31) := by decide +kernel
theorem dX10_valueOf_32 : decode cX10_valueOf 32 = .ok (.iconst 0, 1) := by decide +kernel
theorem dX10_valueOf_33 : decode cX10_valueOf 33 = .ok (.aload_n 0, 1) := by decide +kernel
theorem dX10_valueOf_34 : decode cX10_valueOf 34 = .ok (.getfield 26, 3) := by decide +kernel
theorem dX10_valueOf_37 : decode cX10_valueOf 37 = .ok (.iload_n 2, 1) := by decide +kernel
theorem dX10_valueOf_38 : decode cX10_valueOf 38 = .ok (.invokevirtual 136, 3) := by decide +kernel
theorem dX10_valueOf_41 : decode cX10_valueOf 41 = .ok (.invokestatic 363, 3) := by decide +kernel
theorem dX10_valueOf_44 : decode cX10_valueOf 44 = .ok (.ireturn, 1) := by decide +kernel
theorem dX10_valueOf_45 : decode cX10_valueOf 45 = .ok (.aload_n 0, 1) := by decide +kernel
theorem dX10_valueOf_46 : decode cX10_valueOf 46 = .ok (.getfield 19, 3) := by decide +kernel
theorem dX10_valueOf_49 : decode cX10_valueOf 49 = .ok (.getfield 368, 3) := by decide +kernel
theorem dX10_valueOf_52 : decode cX10_valueOf 52 = .ok (.iload_n 3, 1) := by decide +kernel
theorem dX10_valueOf_53 : decode cX10_valueOf 53 = .ok (.iaload, 1) := by decide +kernel
theorem dX10_valueOf_54 : decode cX10_valueOf 54 = .ok (.ireturn, 1) := by decide +kernel
theorem dX10_valueOf_55 : decode cX10_valueOf 55 = .ok (.aload_n 0, 1) := by decide +kernel
theorem dX10_valueOf_56 : decode cX10_valueOf 56 = .ok (.getfield 10, 3) := by decide +kernel
theorem dX10_valueOf_59 : decode cX10_valueOf 59 = .ok (.getfield 132, 3) := by decide +kernel
theorem dX10_valueOf_62 : decode cX10_valueOf 62 = .ok (.iload_n 2, 1) := by decide +kernel
theorem dX10_valueOf_63 : decode cX10_valueOf 63 = .ok (.iaload, 1) := by decide +kernel
theorem dX10_valueOf_64 : decode cX10_valueOf 64 = .ok (.ireturn, 1) := by decide +kernel
theorem dX10_valueOf_65 : decode cX10_valueOf 65 = .ok (.aload_n 0, 1) := by decide +kernel
theorem dX10_valueOf_66 : decode cX10_valueOf 66 = .ok (.getfield 10, 3) := by decide +kernel
theorem dX10_valueOf_69 : decode cX10_valueOf 69 = .ok (.getfield 145, 3) := by decide +kernel
theorem dX10_valueOf_72 : decode cX10_valueOf 72 = .ok (.iload_n 2, 1) := by decide +kernel
theorem dX10_valueOf_73 : decode cX10_valueOf 73 = .ok (.iaload, 1) := by decide +kernel
theorem dX10_valueOf_74 : decode cX10_valueOf 74 = .ok (.ireturn, 1) := by decide +kernel
theorem dX10_valueOf_75 : decode cX10_valueOf 75 = .ok (.aload_n 0, 1) := by decide +kernel
theorem dX10_valueOf_76 : decode cX10_valueOf 76 = .ok (.getfield 81, 3) := by decide +kernel
theorem dX10_valueOf_79 : decode cX10_valueOf 79 = .ok (.ireturn, 1) := by decide +kernel
theorem dX10_choirsThatMay_0 : decode cX10_choirsThatMay 0 = .ok (.iconst 0, 1) := by decide +kernel
theorem dX10_choirsThatMay_1 : decode cX10_choirsThatMay 1 = .ok (.istore_n 2, 1) := by decide +kernel
theorem dX10_choirsThatMay_2 : decode cX10_choirsThatMay 2 = .ok (.iconst 0, 1) := by decide +kernel
theorem dX10_choirsThatMay_3 : decode cX10_choirsThatMay 3 = .ok (.istore_n 3, 1) := by decide +kernel
theorem dX10_choirsThatMay_4 : decode cX10_choirsThatMay 4 = .ok (.iload_n 3, 1) := by decide +kernel
theorem dX10_choirsThatMay_5 : decode cX10_choirsThatMay 5 = .ok (.aload_n 0, 1) := by decide +kernel
theorem dX10_choirsThatMay_6 : decode cX10_choirsThatMay 6 = .ok (.getfield 10, 3) := by decide +kernel
theorem dX10_choirsThatMay_9 : decode cX10_choirsThatMay 9 = .ok (.getfield 96, 3) := by decide +kernel
theorem dX10_choirsThatMay_12 : decode cX10_choirsThatMay 12 = .ok (.if_icmp .ge 24, 3) := by decide +kernel
theorem dX10_choirsThatMay_15 : decode cX10_choirsThatMay 15 = .ok (.aload_n 0, 1) := by decide +kernel
theorem dX10_choirsThatMay_16 : decode cX10_choirsThatMay 16 = .ok (.iload_n 3, 1) := by decide +kernel
theorem dX10_choirsThatMay_17 : decode cX10_choirsThatMay 17 = .ok (.iload_n 1, 1) := by decide +kernel
theorem dX10_choirsThatMay_18 : decode cX10_choirsThatMay 18 = .ok (.invokevirtual 188, 3) := by decide +kernel
theorem dX10_choirsThatMay_21 : decode cX10_choirsThatMay 21 = .ok (.ifCond .ne 9, 3) := by decide +kernel
theorem dX10_choirsThatMay_24 : decode cX10_choirsThatMay 24 = .ok (.iload_n 2, 1) := by decide +kernel
theorem dX10_choirsThatMay_25 : decode cX10_choirsThatMay 25 = .ok (.iconst 1, 1) := by decide +kernel
theorem dX10_choirsThatMay_26 : decode cX10_choirsThatMay 26 = .ok (.iload_n 3, 1) := by decide +kernel
theorem dX10_choirsThatMay_27 : decode cX10_choirsThatMay 27 = .ok (.ishl, 1) := by decide +kernel
theorem dX10_choirsThatMay_28 : decode cX10_choirsThatMay 28 = .ok (.ior, 1) := by decide +kernel
theorem dX10_choirsThatMay_29 : decode cX10_choirsThatMay 29 = .ok (.istore_n 2, 1) := by decide +kernel
theorem dX10_choirsThatMay_30 : decode cX10_choirsThatMay 30 = .ok (.iinc 3 1, 3) := by decide +kernel
theorem dX10_choirsThatMay_33 : decode cX10_choirsThatMay 33 = .ok (.goto (-29), 3) := by decide +kernel
theorem dX10_choirsThatMay_36 : decode cX10_choirsThatMay 36 = .ok (.iload_n 2, 1) := by decide +kernel
theorem dX10_choirsThatMay_37 : decode cX10_choirsThatMay 37 = .ok (.ireturn, 1) := by decide +kernel
