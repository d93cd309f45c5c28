theorem dX0_init_0 : decode cX0_init 0 = .ok (.aload_n 0, 1) := by decide +kernel
theorem dX0_init_1 : decode cX0_init 1 = .ok (.invokespecial 3, 3) := by decide +kernel
theorem dX0_init_4 : decode cX0_init 4 = .ok (.aload_n 0, 1) := by decide +kernel
theorem dX0_init_5 : decode cX0_init 5 = .ok (.iconst 0, 1) := by decide +kernel
theorem dX0_init_6 : decode cX0_init 6 = .ok (.putfield 9, 3) := by decide +kernel
theorem dX0_init_9 : decode cX0_init 9 = .ok (.aload_n 0, 1) := by decide +kernel
theorem dX0_init_10 : decode cX0_init 10 = .ok (.bipush 16, 2) := by decide +kernel
theorem dX0_init_12 : decode cX0_init 12 = .ok (.newarray .int, 2) := by decide +kernel
theorem dX0_init_14 : decode cX0_init 14 = .ok (.putfield 15, 3) := by decide +kernel
theorem dX0_init_17 : decode cX0_init 17 = .ok (.aload_n 0, 1) := by decide +kernel
theorem dX0_init_18 : decode cX0_init 18 = .ok (.bipush 16, 2) := by decide +kernel
theorem dX0_init_20 : decode cX0_init 20 = .ok (.newarray .int, 2) := by decide +kernel
theorem dX0_init_22 : decode cX0_init 22 = .ok (.putfield 19, 3) := by decide +kernel
theorem dX0_init_25 : decode cX0_init 25 = .ok (.aload_n 0, 1) := by decide +kernel
theorem dX0_init_26 : decode cX0_init 26 = .ok (.bipush 16, 2) := by decide +kernel
theorem dX0_init_28 : decode cX0_init 28 = .ok (.newarray .int, 2) := by decide +kernel
theorem dX0_init_30 : decode cX0_init 30 = .ok (.putfield 22, 3) := by decide +kernel
theorem dX0_init_33 : decode cX0_init 33 = .ok (.aload_n 0, 1) := by decide +kernel
theorem dX0_init_34 : decode cX0_init 34 = .ok (.bipush 64, 2) := by decide +kernel
theorem dX0_init_36 : decode cX0_init 36 = .ok (.newarray .int, 2) := by decide +kernel
theorem dX0_init_38 : decode cX0_init 38 = .ok (.putfield 25, 3) := by decide +kernel
theorem dX0_init_41 : decode cX0_init 41 = .ok (.aload_n 0, 1) := by decide +kernel
theorem dX0_init_42 : decode cX0_init 42 = .ok (.bipush 16, 2) := by decide +kernel
theorem dX0_init_44 : decode cX0_init 44 = .ok (.newarray .int, 2) := by decide +kernel
theorem dX0_init_46 : decode cX0_init 46 = .ok (.putfield 28, 3) := by decide +kernel
theorem dX0_init_49 : decode cX0_init 49 = .ok (.aload_n 0, 1) := by decide +kernel
theorem dX0_init_50 : decode cX0_init 50 = .ok (.bipush 16, 2) := by decide +kernel
theorem dX0_init_52 : decode cX0_init 52 = .ok (.newarray .int, 2) := by decide +kernel
theorem dX0_init_54 : decode cX0_init 54 = .ok (.putfield 31, 3) := by decide +kernel
theorem dX0_init_57 : decode cX0_init 57 = .ok (.aload_n 0, 1) := by decide +kernel
theorem dX0_init_58 : decode cX0_init 58 = .ok (.bipush 16, 2) := by decide +kernel
theorem dX0_init_60 : decode cX0_init 60 = .ok (.newarray .int, 2) := by decide +kernel
theorem dX0_init_62 : decode cX0_init 62 = .ok (.putfield 34, 3) := by decide +kernel
theorem dX0_init_65 : decode cX0_init 65 = .ok (.return_, 1) := by decide +kernel
theorem dX0_has_0 : decode cX0_has 0 = .ok (.iload_n 1, 1) := by decide +kernel
theorem dX0_has_1 : decode cX0_has 1 = .ok (.ifCond .lt 15, 3) := by decide +kernel
theorem dX0_has_4 : decode cX0_has 4 = .ok (.iload_n 1, 1) := by decide +kernel
theorem dX0_has_5 : decode cX0_has 5 = .ok (.aload_n 0, 1) := by decide +kernel
theorem dX0_has_6 : decode cX0_has 6 = .ok (.getfield 9, 3) := by decide +kernel
theorem dX0_has_9 : decode cX0_has 9 = .ok (.if_icmp .ge 7, 3) := by decide +kernel
theorem dX0_has_12 : decode cX0_has 12 = .ok (.iconst 1, 1) := by decide +kernel
theorem dX0_has_13 : decode cX0_has 13 = .ok (.goto 4, 3) := by decide +kernel
theorem dX0_has_16 : decode cX0_has 16 = .ok (.iconst 0, 1) := by decide +kernel
theorem dX0_has_17 : decode cX0_has 17 = .ok (.ireturn, 1) := by decide +kernel
theorem dX0_hasAll_0 : decode cX0_hasAll 0 = .ok (.iload_n 1, 1) := by decide +kernel
theorem dX0_hasAll_1 : decode cX0_hasAll 1 = .ok (.iconst 1, 1) := by decide +kernel
theorem dX0_hasAll_2 : decode cX0_hasAll 2 = .ok (.aload_n 0, 1) := by decide +kernel
theorem dX0_hasAll_3 : decode cX0_hasAll 3 = .ok (.getfield 9, 3) := by decide +kernel
theorem dX0_hasAll_6 : decode cX0_hasAll 6 = .ok (.ishl, 1) := by decide +kernel
theorem dX0_hasAll_7 : decode cX0_hasAll 7 = .ok (.ineg, 1) := by decide +kernel
theorem dX0_hasAll_8 : decode cX0_hasAll 8 = .ok (.iand, 1) := by decide +kernel
theorem dX0_hasAll_9 : decode cX0_hasAll 9 = .ok (.ifCond .ne 7, 3) := by decide +kernel
theorem dX0_hasAll_12 : decode cX0_hasAll 12 = .ok (.iconst 1, 1) := by decide +kernel
theorem dX0_hasAll_13 : decode cX0_hasAll 13 = .ok (.goto 4, 3) := by decide +kernel
theorem dX0_hasAll_16 : decode cX0_hasAll 16 = .ok (.iconst 0, 1) := by decide +kernel
theorem dX0_hasAll_17 : decode cX0_hasAll 17 = .ok (.ireturn, 1) := by decide +kernel
theorem dX0_hasParts_0 : decode cX0_hasParts 0 = .ok (.aload_n 0, 1) := by decide +kernel
theorem dX0_hasParts_1 : decode cX0_hasParts 1 = .ok (.iload_n 1, 1) := by decide +kernel
theorem dX0_hasParts_2 : decode cX0_hasParts 2 = .ok (.invokestatic 37, 3) := by decide +kernel
theorem dX0_hasParts_5 : decode cX0_hasParts 5 = .ok (.invokevirtual 41, 3) := by decide +kernel
theorem dX0_hasParts_8 : decode cX0_hasParts 8 = .ok (.ifCond .eq 18, 3) := by decide +kernel
theorem dX0_hasParts_11 : decode cX0_hasParts 11 = .ok (.aload_n 0, 1) := by decide +kernel
theorem dX0_hasParts_12 : decode cX0_hasParts 12 = .ok (.iload_n 1, 1) := by decide +kernel
theorem dX0_hasParts_13 : decode cX0_hasParts 13 = .ok (.invokestatic 45, 3) := by decide +kernel
theorem dX0_hasParts_16 : decode cX0_hasParts 16 = .ok (.invokevirtual 41, 3) := by decide +kernel
theorem dX0_hasParts_19 : decode cX0_hasParts 19 = .ok (.ifCond .eq 7, 3) := by decide +kernel
theorem dX0_hasParts_22 : decode cX0_hasParts 22 = .ok (.iconst 1, 1) := by decide +kernel
theorem dX0_hasParts_23 : decode cX0_hasParts 23 = .ok (.goto 4, 3) := by decide +kernel
theorem dX0_hasParts_26 : decode cX0_hasParts 26 = .ok (.iconst 0, 1) := by decide +kernel
theorem dX0_hasParts_27 : decode cX0_hasParts 27 = .ok (.ireturn, 1) := by decide +kernel
theorem dX0_isAsTold_0 : decode cX0_isAsTold 0 = .ok (.iload_n 1, 1) := by decide +kernel
theorem dX0_isAsTold_1 : decode cX0_isAsTold 1 = .ok (.iconst 5, 1) := by decide +kernel
theorem dX0_isAsTold_2 : decode cX0_isAsTold 2 = .ok (.if_icmp .ne 28, 3) := by decide +kernel
theorem dX0_isAsTold_5 : decode cX0_isAsTold 5 = .ok (.iload_n 2, 1) := by decide +kernel
theorem dX0_isAsTold_6 : decode cX0_isAsTold 6 = .ok (.ifCond .ne 22, 3) := by decide +kernel
theorem dX0_isAsTold_9 : decode cX0_isAsTold 9 = .ok (.aload_n 0, 1) := by decide +kernel
theorem dX0_isAsTold_10 : decode cX0_isAsTold 10 = .ok (.iload_n 3, 1) := by decide +kernel
theorem dX0_isAsTold_11 : decode cX0_isAsTold 11 = .ok (.invokestatic 37, 3) := by decide +kernel
theorem dX0_isAsTold_14 : decode cX0_isAsTold 14 = .ok (.iload_n 3, 1) := by decide +kernel
theorem dX0_isAsTold_15 : decode cX0_isAsTold 15 = .ok (.invokestatic 45, 3) := by decide +kernel
theorem dX0_isAsTold_18 : decode cX0_isAsTold 18 = .ok (.invokevirtual 48, 3) := by decide +kernel
theorem dX0_isAsTold_21 : decode cX0_isAsTold 21 = .ok (.ifCond .eq 7, 3) := by decide +kernel
theorem dX0_isAsTold_24 : decode cX0_isAsTold 24 = .ok (.iconst 1, 1) := by decide +kernel
theorem dX0_isAsTold_25 : decode cX0_isAsTold 25 = .ok (.goto 4, 3) := by decide +kernel
theorem dX0_isAsTold_28 : decode cX0_isAsTold 28 = .ok (.iconst 0, 1) := by decide +kernel
theorem dX0_isAsTold_29 : decode cX0_isAsTold 29 = .ok (.ireturn, 1) := by decide +kernel
theorem dX0_isAsTold_30 : decode cX0_isAsTold 30 = .ok (.iload_n 1, 1) := by decide +kernel
theorem dX0_isAsTold_31 : decode cX0_isAsTold 31 = .ok (.iconst 0, 1) := by decide +kernel
theorem dX0_isAsTold_32 : decode cX0_isAsTold 32 = .ok (.iconst 5, 1) := by decide +kernel
theorem dX0_isAsTold_33 : decode cX0_isAsTold 33 = .ok (.invokestatic 52, 3) := by decide +kernel
theorem dX0_isAsTold_36 : decode cX0_isAsTold 36 = .ok (.ifCond .eq 13, 3) := by decide +kernel
theorem dX0_isAsTold_39 : decode cX0_isAsTold 39 = .ok (.iload_n 2, 1) := by decide +kernel
theorem dX0_isAsTold_40 : decode cX0_isAsTold 40 = .ok (.iconst 1, 1) := by decide +kernel
theorem dX0_isAsTold_41 : decode cX0_isAsTold 41 = .ok (.ldc 56, 2) := by decide +kernel
theorem dX0_isAsTold_43 : decode cX0_isAsTold 43 = .ok (.invokestatic 52, 3) := by decide +kernel
theorem dX0_isAsTold_46 : decode cX0_isAsTold 46 = .ok (.ifCond .ne 5, 3) := by decide +kernel
theorem dX0_isAsTold_49 : decode cX0_isAsTold 49 = .ok (.iconst 0, 1) := by decide +kernel
theorem dX0_isAsTold_50 : decode cX0_isAsTold 50 = .ok (.ireturn, 1) := by decide +kernel
theorem dX0_isAsTold_51 : decode cX0_isAsTold 51 = .ok (.iload_n 1, 1) := by decide +kernel
theorem dX0_isAsTold_52 : decode cX0_isAsTold 52 = .ok (.iconst 4, 1) := by decide +kernel
theorem dX0_isAsTold_53 : decode cX0_isAsTold 53 = .ok (.if_icmp .ne 18, 3) := by decide +kernel
theorem dX0_isAsTold_56 : decode cX0_isAsTold 56 = .ok (.iload_n 3, 1) := by decide +kernel
theorem dX0_isAsTold_57 : decode cX0_isAsTold 57 = .ok (.ifCond .lt 12, 3) := by decide +kernel
theorem dX0_isAsTold_60 : decode cX0_isAsTold 60 = .ok (.iload_n 3, 1) := by decide +kernel
theorem dX0_isAsTold_61 : decode cX0_isAsTold 61 = .ok (.iconst 4, 1) := by decide +kernel
theorem dX0_isAsTold_62 : decode cX0_isAsTold 62 = .ok (.if_icmp .ge 7, 3) := by decide +kernel
theorem dX0_isAsTold_65 : decode cX0_isAsTold 65 = .ok (.iconst 1, 1) := by decide +kernel
theorem dX0_isAsTold_66 : decode cX0_isAsTold 66 = .ok (.goto 4, 3) := by decide +kernel
theorem dX0_isAsTold_69 : decode cX0_isAsTold 69 = .ok (.iconst 0, 1) := by decide +kernel
theorem dX0_isAsTold_70 : decode cX0_isAsTold 70 = .ok (.ireturn, 1) := by decide +kernel
theorem dX0_isAsTold_71 : decode cX0_isAsTold 71 = .ok (.iload_n 1, 1) := by decide +kernel
theorem dX0_isAsTold_72 : decode cX0_isAsTold 72 = .ok (.iconst 1, 1) := by decide +kernel
theorem dX0_isAsTold_73 : decode cX0_isAsTold 73 = .ok (.if_icmp .ne 10, 3) := by decide +kernel
theorem dX0_isAsTold_76 : decode cX0_isAsTold 76 = .ok (.iload_n 2, 1) := by decide +kernel
theorem dX0_isAsTold_77 : decode cX0_isAsTold 77 = .ok (.sipush 10000, 3) := by decide +kernel
theorem dX0_isAsTold_80 : decode cX0_isAsTold 80 = .ok (.if_icmp .ge 20, 3) := by decide +kernel
theorem dX0_isAsTold_83 : decode cX0_isAsTold 83 = .ok (.iload_n 1, 1) := by decide +kernel
theorem dX0_isAsTold_84 : decode cX0_isAsTold 84 = .ok (.iconst 2, 1) := by decide +kernel
theorem dX0_isAsTold_85 : decode cX0_isAsTold 85 = .ok (.if_icmp .ne 11, 3) := by decide +kernel
theorem dX0_isAsTold_88 : decode cX0_isAsTold 88 = .ok (.iload_n 2, 1) := by decide +kernel
theorem dX0_isAsTold_89 : decode cX0_isAsTold 89 = .ok (.sipush 10000, 3) := by decide +kernel
theorem dX0_isAsTold_92 : decode cX0_isAsTold 92 = .ok (.irem, 1) := by decide +kernel
theorem dX0_isAsTold_93 : decode cX0_isAsTold 93 = .ok (.ifCond .ne 7, 3) := by decide +kernel
theorem dX0_isAsTold_96 : decode cX0_isAsTold 96 = .ok (.iconst 1, 1) := by decide +kernel
theorem dX0_isAsTold_97 : decode cX0_isAsTold 97 = .ok (.goto 4, 3) := by decide +kernel
theorem dX0_isAsTold_100 : decode cX0_isAsTold 100 = .ok (.iconst 0, 1) := by decide +kernel
theorem dX0_isAsTold_101 : decode cX0_isAsTold 101 = .ok (.istore 4, 2) := by decide +kernel
theorem dX0_isAsTold_103 : decode cX0_isAsTold 103 = .ok (.iload 4, 2) := by decide +kernel
theorem dX0_isAsTold_105 : decode cX0_isAsTold 105 = .ok (.ifCond .eq 11, 3) := by decide +kernel
theorem dX0_isAsTold_108 : decode cX0_isAsTold 108 = .ok (.iload_n 3, 1) := by decide +kernel
theorem dX0_isAsTold_109 : decode cX0_isAsTold 109 = .ok (.ifCond .ne 7, 3) := by decide +kernel
theorem dX0_isAsTold_112 : decode cX0_isAsTold 112 = .ok (.iconst 1, 1) := by decide +kernel
theorem dX0_isAsTold_113 : decode cX0_isAsTold 113 = .ok (.goto 4, 3) := by decide +kernel
theorem dX0_isAsTold_116 : decode cX0_isAsTold 116 = .ok (.iconst 0, 1) := by decide +kernel
theorem dX0_isAsTold_117 : decode cX0_isAsTold 117 = .ok (.ireturn, 1) := by decide +kernel
theorem dX0_canJoin_0 : decode cX0_canJoin 0 = .ok (.aload_n 0, 1) := by decide +kernel
theorem dX0_canJoin_1 : decode cX0_canJoin 1 = .ok (.iload_n 1, 1) := by decide +kernel
theorem dX0_canJoin_2 : decode cX0_canJoin 2 = .ok (.invokevirtual 41, 3) := by decide +kernel
theorem dX0_canJoin_5 : decode cX0_canJoin 5 = .ok (.ifCond .eq 40, 3) := by decide +kernel
theorem dX0_canJoin_8 : decode cX0_canJoin 8 = .ok (.aload_n 0, 1) := by decide +kernel
theorem dX0_canJoin_9 : decode cX0_canJoin 9 = .ok (.iload_n 2, 1) := by decide +kernel
theorem dX0_canJoin_10 : decode cX0_canJoin 10 = .ok (.invokevirtual 41, 3) := by decide +kernel
theorem dX0_canJoin_13 : decode cX0_canJoin 13 = .ok (.ifCond .eq 32, 3) := by decide +kernel
theorem dX0_canJoin_16 : decode cX0_canJoin 16 = .ok (.iload_n 1, 1) := by decide +kernel
theorem dX0_canJoin_17 : decode cX0_canJoin 17 = .ok (.iload_n 2, 1) := by decide +kernel
theorem dX0_canJoin_18 : decode cX0_canJoin 18 = .ok (.if_icmp .eq 27, 3) := by decide +kernel
theorem dX0_canJoin_21 : decode cX0_canJoin 21 = .ok (.aload_n 0, 1) := by decide +kernel
theorem dX0_canJoin_22 : decode cX0_canJoin 22 = .ok (.getfield 15, 3) := by decide +kernel
theorem dX0_canJoin_25 : decode cX0_canJoin 25 = .ok (.iload_n 1, 1) := by decide +kernel
theorem dX0_canJoin_26 : decode cX0_canJoin 26 = .ok (.iaload, 1) := by decide +kernel
theorem dX0_canJoin_27 : decode cX0_canJoin 27 = .ok (.iconst 5, 1) := by decide +kernel
theorem dX0_canJoin_28 : decode cX0_canJoin 28 = .ok (.if_icmp .eq 17, 3) := by decide +kernel
theorem dX0_canJoin_31 : decode cX0_canJoin 31 = .ok (.aload_n 0, 1) := by decide +kernel
theorem dX0_canJoin_32 : decode cX0_canJoin 32 = .ok (.getfield 15, 3) := by decide +kernel
theorem dX0_canJoin_35 : decode cX0_canJoin 35 = .ok (.iload_n 2, 1) := by decide +kernel
theorem dX0_canJoin_36 : decode cX0_canJoin 36 = .ok (.iaload, 1) := by decide +kernel
theorem dX0_canJoin_37 : decode cX0_canJoin 37 = .ok (.iconst 5, 1) := by decide +kernel
theorem dX0_canJoin_38 : decode cX0_canJoin 38 = .ok (.if_icmp .eq 7, 3) := by decide +kernel
theorem dX0_canJoin_41 : decode cX0_canJoin 41 = .ok (.iconst 1, 1) := by decide +kernel
theorem dX0_canJoin_42 : decode cX0_canJoin 42 = .ok (.goto 4, 3) := by decide +kernel
theorem dX0_canJoin_45 : decode cX0_canJoin 45 = .ok (.iconst 0, 1) := by decide +kernel
theorem dX0_canJoin_46 : decode cX0_canJoin 46 = .ok (.ireturn, 1) := by decide +kernel
theorem dX0_add_0 : decode cX0_add 0 = .ok (.aload_n 0, 1) := by decide +kernel
theorem dX0_add_1 : decode cX0_add 1 = .ok (.iload_n 1, 1) := by decide +kernel
theorem dX0_add_2 : decode cX0_add 2 = .ok (.iload_n 2, 1) := by decide +kernel
theorem dX0_add_3 : decode cX0_add 3 = .ok (.iload 4, 2) := by decide +kernel
theorem dX0_add_5 : decode cX0_add 5 = .ok (.invokevirtual 57, 3) := by decide +kernel
theorem dX0_add_8 : decode cX0_add 8 = .ok (.istore 5, 2) := by decide +kernel
theorem dX0_add_10 : decode cX0_add 10 = .ok (.iload_n 3, 1) := by decide +kernel
theorem dX0_add_11 : decode cX0_add 11 = .ok (.istore 6, 2) := by decide +kernel
theorem dX0_add_13 : decode cX0_add 13 = .ok (.iconst 3, 1) := by decide +kernel
theorem dX0_add_14 : decode cX0_add 14 = .ok (.istore 7, 2) := by decide +kernel
theorem dX0_add_16 : decode cX0_add 16 = .ok (.iload 7, 2) := by decide +kernel
theorem dX0_add_18 : decode cX0_add 18 = .ok (.ifCond .lt 29, 3) := by decide +kernel
theorem dX0_add_21 : decode cX0_add 21 = .ok (.aload_n 0, 1) := by decide +kernel
theorem dX0_add_22 : decode cX0_add 22 = .ok (.iload 5, 2) := by decide +kernel
theorem dX0_add_24 : decode cX0_add 24 = .ok (.iload 7, 2) := by decide +kernel
theorem dX0_add_26 : decode cX0_add 26 = .ok (.iload 6, 2) := by decide +kernel
theorem dX0_add_28 : decode cX0_add 28 = .ok (.bipush 100, 2) := by decide +kernel
theorem dX0_add_30 : decode cX0_add 30 = .ok (.irem, 1) := by decide +kernel
theorem dX0_add_31 : decode cX0_add 31 = .ok (.invokevirtual 61, 3) := by decide +kernel
theorem dX0_add_34 : decode cX0_add 34 = .ok (.iload 6, 2) := by decide +kernel
theorem dX0_add_36 : decode cX0_add 36 = .ok (.bipush 100, 2) := by decide +kernel
theorem dX0_add_38 : decode cX0_add 38 = .ok (.idiv, 1) := by decide +kernel
theorem dX0_add_39 : decode cX0_add 39 = .ok (.istore 6, 2) := by decide +kernel
theorem dX0_add_41 : decode cX0_add 41 = .ok (.iinc 7 (-1), 3) := by decide +kernel
theorem dX0_add_44 : decode cX0_add 44 = .ok (.goto (-28), 3) := by decide +kernel
theorem dX0_add_47 : decode cX0_add 47 = .ok (.iload 5, 2) := by decide +kernel
theorem dX0_add_49 : decode cX0_add 49 = .ok (.ireturn, 1) := by decide +kernel
theorem dX0_join_0 : decode cX0_join 0 = .ok (.aload_n 0, 1) := by decide +kernel
theorem dX0_join_1 : decode cX0_join 1 = .ok (.iconst 5, 1) := by decide +kernel
theorem dX0_join_2 : decode cX0_join 2 = .ok (.aload_n 0, 1) := by decide +kernel
theorem dX0_join_3 : decode cX0_join 3 = .ok (.getfield 19, 3) := by decide +kernel
theorem dX0_join_6 : decode cX0_join 6 = .ok (.iload_n 1, 1) := by decide +kernel
theorem dX0_join_7 : decode cX0_join 7 = .ok (.iaload, 1) := by decide +kernel
theorem dX0_join_8 : decode cX0_join 8 = .ok (.aload_n 0, 1) := by decide +kernel
theorem dX0_join_9 : decode cX0_join 9 = .ok (.getfield 22, 3) := by decide +kernel
theorem dX0_join_12 : decode cX0_join 12 = .ok (.iload_n 1, 1) := by decide +kernel
theorem dX0_join_13 : decode cX0_join 13 = .ok (.iaload, 1) := by decide +kernel
theorem dX0_join_14 : decode cX0_join 14 = .ok (.aload_n 0, 1) := by decide +kernel
theorem dX0_join_15 : decode cX0_join 15 = .ok (.getfield 22, 3) := by decide +kernel
theorem dX0_join_18 : decode cX0_join 18 = .ok (.iload_n 2, 1) := by decide +kernel
theorem dX0_join_19 : decode cX0_join 19 = .ok (.iaload, 1) := by decide +kernel
theorem dX0_join_20 : decode cX0_join 20 = .ok (.invokestatic 65, 3) := by decide +kernel
theorem dX0_join_23 : decode cX0_join 23 = .ok (.invokevirtual 57, 3) := by decide +kernel
theorem dX0_join_26 : decode cX0_join 26 = .ok (.istore_n 3, 1) := by decide +kernel
theorem dX0_join_27 : decode cX0_join 27 = .ok (.iconst 0, 1) := by decide +kernel
theorem dX0_join_28 : decode cX0_join 28 = .ok (.istore 4, 2) := by decide +kernel
theorem dX0_join_30 : decode cX0_join 30 = .ok (.iload 4, 2) := by decide +kernel
theorem dX0_join_32 : decode cX0_join 32 = .ok (.iconst 4, 1) := by decide +kernel
theorem dX0_join_33 : decode cX0_join 33 = .ok (.if_icmp .ge 39, 3) := by decide +kernel
theorem dX0_join_36 : decode cX0_join 36 = .ok (.aload_n 0, 1) := by decide +kernel
theorem dX0_join_37 : decode cX0_join 37 = .ok (.iload_n 3, 1) := by decide +kernel
theorem dX0_join_38 : decode cX0_join 38 = .ok (.iload 4, 2) := by decide +kernel
theorem dX0_join_40 : decode cX0_join 40 = .ok (.aload_n 0, 1) := by decide +kernel
theorem dX0_join_41 : decode cX0_join 41 = .ok (.getfield 25, 3) := by decide +kernel
theorem dX0_join_44 : decode cX0_join 44 = .ok (.iload_n 1, 1) := by decide +kernel
theorem dX0_join_45 : decode cX0_join 45 = .ok (.iconst 4, 1) := by decide +kernel
theorem dX0_join_46 : decode cX0_join 46 = .ok (.imul, 1) := by decide +kernel
theorem dX0_join_47 : decode cX0_join 47 = .ok (.iload 4, 2) := by decide +kernel
theorem dX0_join_49 : decode cX0_join 49 = .ok (.iadd, 1) := by decide +kernel
theorem dX0_join_50 : decode cX0_join 50 = .ok (.iaload, 1) := by decide +kernel
theorem dX0_join_51 : decode cX0_join 51 = .ok (.aload_n 0, 1) := by decide +kernel
theorem dX0_join_52 : decode cX0_join 52 = .ok (.getfield 25, 3) := by decide +kernel
theorem dX0_join_55 : decode cX0_join 55 = .ok (.iload_n 2, 1) := by decide +kernel
theorem dX0_join_56 : decode cX0_join 56 = .ok (.iconst 4, 1) := by decide +kernel
theorem dX0_join_57 : decode cX0_join 57 = .ok (.imul, 1) := by decide +kernel
theorem dX0_join_58 : decode cX0_join 58 = .ok (.iload 4, 2) := by decide +kernel
theorem dX0_join_60 : decode cX0_join 60 = .ok (.iadd, 1) := by decide +kernel
theorem dX0_join_61 : decode cX0_join 61 = .ok (.iaload, 1) := by decide +kernel
theorem dX0_join_62 : decode cX0_join 62 = .ok (.iadd, 1) := by decide +kernel
theorem dX0_join_63 : decode cX0_join 63 = .ok (.invokevirtual 61, 3) := by decide +kernel
theorem dX0_join_66 : decode cX0_join 66 = .ok (.iinc 4 1, 3) := by decide +kernel
theorem dX0_join_69 : decode cX0_join 69 = .ok (.goto (-39), 3) := by decide +kernel
theorem dX0_join_72 : decode cX0_join 72 = .ok (.iload_n 3, 1) := by decide +kernel
theorem dX0_join_73 : decode cX0_join 73 = .ok (.ireturn, 1) := by decide +kernel
theorem dX0_open_0 : decode cX0_open 0 = .ok (.aload_n 0, 1) := by decide +kernel
theorem dX0_open_1 : decode cX0_open 1 = .ok (.getfield 9, 3) := by decide +kernel
theorem dX0_open_4 : decode cX0_open 4 = .ok (.istore 4, 2) := by decide +kernel
theorem dX0_open_6 : decode cX0_open 6 = .ok (.aload_n 0, 1) := by decide +kernel
theorem dX0_open_7 : decode cX0_open 7 = .ok (.getfield 15, 3) := by decide +kernel
theorem dX0_open_10 : decode cX0_open 10 = .ok (.iload 4, 2) := by decide +kernel
theorem dX0_open_12 : decode cX0_open 12 = .ok (.iload_n 1, 1) := by decide +kernel
theorem dX0_open_13 : decode cX0_open 13 = .ok (.iastore, 1) := by decide +kernel
theorem dX0_open_14 : decode cX0_open 14 = .ok (.aload_n 0, 1) := by decide +kernel
theorem dX0_open_15 : decode cX0_open 15 = .ok (.getfield 19, 3) := by decide +kernel
theorem dX0_open_18 : decode cX0_open 18 = .ok (.iload 4, 2) := by decide +kernel
theorem dX0_open_20 : decode cX0_open 20 = .ok (.iload_n 2, 1) := by decide +kernel
theorem dX0_open_21 : decode cX0_open 21 = .ok (.iastore, 1) := by decide +kernel
theorem dX0_open_22 : decode cX0_open 22 = .ok (.aload_n 0, 1) := by decide +kernel
theorem dX0_open_23 : decode cX0_open 23 = .ok (.getfield 22, 3) := by decide +kernel
theorem dX0_open_26 : decode cX0_open 26 = .ok (.iload 4, 2) := by decide +kernel
theorem dX0_open_28 : decode cX0_open 28 = .ok (.iload_n 3, 1) := by decide +kernel
theorem dX0_open_29 : decode cX0_open 29 = .ok (.iastore, 1) := by decide +kernel
theorem dX0_open_30 : decode cX0_open 30 = .ok (.aload_n 0, 1) := by decide +kernel
theorem dX0_open_31 : decode cX0_open 31 = .ok (.getfield 31, 3) := by decide +kernel
theorem dX0_open_34 : decode cX0_open 34 = .ok (.iload 4, 2) := by decide +kernel
theorem dX0_open_36 : decode cX0_open 36 = .ok (.iconst 5, 1) := by decide +kernel
theorem dX0_open_37 : decode cX0_open 37 = .ok (.iastore, 1) := by decide +kernel
theorem dX0_open_38 : decode cX0_open 38 = .ok (.aload_n 0, 1) := by decide +kernel
theorem dX0_open_39 : decode cX0_open 39 = .ok (.getfield 34, 3) := by decide +kernel
theorem dX0_open_42 : decode cX0_open 42 = .ok (.iload 4, 2) := by decide +kernel
theorem dX0_open_44 : decode cX0_open 44 = .ok (.iconst (-1), 1) := by decide +kernel
theorem dX0_open_45 : decode cX0_open 45 = .ok (.iastore, 1) := by decide +kernel
theorem dX0_open_46 : decode cX0_open 46 = .ok (.aload_n 0, 1) := by decide +kernel
theorem dX0_open_47 : decode cX0_open 47 = .ok (.dup, 1) := by decide +kernel
theorem dX0_open_48 : decode cX0_open 48 = .ok (.getfield 9, 3) := by decide +kernel
theorem dX0_open_51 : decode cX0_open 51 = .ok (.iconst 1, 1) := by decide +kernel
theorem dX0_open_52 : decode cX0_open 52 = .ok (.iadd, 1) := by decide +kernel
theorem dX0_open_53 : decode cX0_open 53 = .ok (.putfield 9, 3) := by decide +kernel
theorem dX0_open_56 : decode cX0_open 56 = .ok (.iload 4, 2) := by decide +kernel
theorem dX0_open_58 : decode cX0_open 58 = .ok (.ireturn, 1) := by decide +kernel
theorem dX0_seat_0 : decode cX0_seat 0 = .ok (.aload_n 0, 1) := by decide +kernel
theorem dX0_seat_1 : decode cX0_seat 1 = .ok (.getfield 25, 3) := by decide +kernel
theorem dX0_seat_4 : decode cX0_seat 4 = .ok (.iload_n 1, 1) := by decide +kernel
theorem dX0_seat_5 : decode cX0_seat 5 = .ok (.iconst 4, 1) := by decide +kernel
theorem dX0_seat_6 : decode cX0_seat 6 = .ok (.imul, 1) := by decide +kernel
theorem dX0_seat_7 : decode cX0_seat 7 = .ok (.iload_n 2, 1) := by decide +kernel
theorem dX0_seat_8 : decode cX0_seat 8 = .ok (.iadd, 1) := by decide +kernel
theorem dX0_seat_9 : decode cX0_seat 9 = .ok (.iload_n 3, 1) := by decide +kernel
theorem dX0_seat_10 : decode cX0_seat 10 = .ok (.iastore, 1) := by decide +kernel
theorem dX0_seat_11 : decode cX0_seat 11 = .ok (.aload_n 0, 1) := by decide +kernel
theorem dX0_seat_12 : decode cX0_seat 12 = .ok (.getfield 28, 3) := by decide +kernel
theorem dX0_seat_15 : decode cX0_seat 15 = .ok (.iload_n 1, 1) := by decide +kernel
theorem dX0_seat_16 : decode cX0_seat 16 = .ok (.dup2, 1) := by decide +kernel
theorem dX0_seat_17 : decode cX0_seat 17 = .ok (.iaload, 1) := by decide +kernel
theorem dX0_seat_18 : decode cX0_seat 18 = .ok (.iload_n 3, 1) := by decide +kernel
theorem dX0_seat_19 : decode cX0_seat 19 = .ok (.iadd, 1) := by decide +kernel
theorem dX0_seat_20 : decode cX0_seat 20 = .ok (.iastore, 1) := by decide +kernel
theorem dX0_seat_21 : decode cX0_seat 21 = .ok (.return_, 1) := by decide +kernel
theorem dX0_voicesOf_0 : decode cX0_voicesOf 0 = .ok (.iconst 0, 1) := by decide +kernel
theorem dX0_voicesOf_1 : decode cX0_voicesOf 1 = .ok (.istore_n 2, 1) := by decide +kernel
theorem dX0_voicesOf_2 : decode cX0_voicesOf 2 = .ok (.iconst 0, 1) := by decide +kernel
theorem dX0_voicesOf_3 : decode cX0_voicesOf 3 = .ok (.istore_n 3, 1) := by decide +kernel
theorem dX0_voicesOf_4 : decode cX0_voicesOf 4 = .ok (.iload_n 3, 1) := by decide +kernel
theorem dX0_voicesOf_5 : decode cX0_voicesOf 5 = .ok (.iconst 4, 1) := by decide +kernel
theorem dX0_voicesOf_6 : decode cX0_voicesOf 6 = .ok (.if_icmp .ge 28, 3) := by decide +kernel
theorem dX0_voicesOf_9 : decode cX0_voicesOf 9 = .ok (.aload_n 0, 1) := by decide +kernel
theorem dX0_voicesOf_10 : decode cX0_voicesOf 10 = .ok (.getfield 25, 3) := by decide +kernel
theorem dX0_voicesOf_13 : decode cX0_voicesOf 13 = .ok (.iload_n 1, 1) := by decide +kernel
theorem dX0_voicesOf_14 : decode cX0_voicesOf 14 = .ok (.iconst 4, 1) := by decide +kernel
theorem dX0_voicesOf_15 : decode cX0_voicesOf 15 = .ok (.imul, 1) := by decide +kernel
theorem dX0_voicesOf_16 : decode cX0_voicesOf 16 = .ok (.iload_n 3, 1) := by decide +kernel
theorem dX0_voicesOf_17 : decode cX0_voicesOf 17 = .ok (.iadd, 1) := by decide +kernel
theorem dX0_voicesOf_18 : decode cX0_voicesOf 18 = .ok (.iaload, 1) := by decide +kernel
theorem dX0_voicesOf_19 : decode cX0_voicesOf 19 = .ok (.ifCond .le 9, 3) := by decide +kernel
theorem dX0_voicesOf_22 : decode cX0_voicesOf 22 = .ok (.iload_n 2, 1) := by decide +kernel
theorem dX0_voicesOf_23 : decode cX0_voicesOf 23 = .ok (.iconst 1, 1) := by decide +kernel
theorem dX0_voicesOf_24 : decode cX0_voicesOf 24 = .ok (.iload_n 3, 1) := by decide +kernel
theorem dX0_voicesOf_25 : decode cX0_voicesOf 25 = .ok (.ishl, 1) := by decide +kernel
theorem dX0_voicesOf_26 : decode cX0_voicesOf 26 = .ok (.ior, 1) := by decide +kernel
theorem dX0_voicesOf_27 : decode cX0_voicesOf 27 = .ok (.istore_n 2, 1) := by decide +kernel
theorem dX0_voicesOf_28 : decode cX0_voicesOf 28 = .ok (.iinc 3 1, 3) := by decide +kernel
theorem dX0_voicesOf_31 : decode cX0_voicesOf 31 = .ok (.goto (-27), 3) := by decide +kernel
theorem dX0_voicesOf_34 : decode cX0_voicesOf 34 = .ok (.iload_n 2, 1) := by decide +kernel
theorem dX0_voicesOf_35 : decode cX0_voicesOf 35 = .ok (.ireturn, 1) := by decide +kernel
theorem dX0_sizeOfSet_0 : decode cX0_sizeOfSet 0 = .ok (.iconst 0, 1) := by decide +kernel
theorem dX0_sizeOfSet_1 : decode cX0_sizeOfSet 1 = .ok (.istore_n 2, 1) := by decide +kernel
theorem dX0_sizeOfSet_2 : decode cX0_sizeOfSet 2 = .ok (.iconst 0, 1) := by decide +kernel
theorem dX0_sizeOfSet_3 : decode cX0_sizeOfSet 3 = .ok (.istore_n 3, 1) := by decide +kernel
theorem dX0_sizeOfSet_4 : decode cX0_sizeOfSet 4 = .ok (.iload_n 3, 1) := by decide +kernel
theorem dX0_sizeOfSet_5 : decode cX0_sizeOfSet 5 = .ok (.aload_n 0, 1) := by decide +kernel
theorem dX0_sizeOfSet_6 : decode cX0_sizeOfSet 6 = .ok (.getfield 9, 3) := by decide +kernel
theorem dX0_sizeOfSet_9 : decode cX0_sizeOfSet 9 = .ok (.if_icmp .ge 24, 3) := by decide +kernel
theorem dX0_sizeOfSet_12 : decode cX0_sizeOfSet 12 = .ok (.iload_n 2, 1) := by decide +kernel
theorem dX0_sizeOfSet_13 : decode cX0_sizeOfSet 13 = .ok (.iload_n 1, 1) := by decide +kernel
theorem dX0_sizeOfSet_14 : decode cX0_sizeOfSet 14 = .ok (.iload_n 3, 1) := by decide +kernel
theorem dX0_sizeOfSet_15 : decode cX0_sizeOfSet 15 = .ok (.ishr, 1) := by decide +kernel
theorem dX0_sizeOfSet_16 : decode cX0_sizeOfSet 16 = .ok (.iconst 1, 1) := by decide +kernel
theorem dX0_sizeOfSet_17 : decode cX0_sizeOfSet 17 = .ok (.iand, 1) := by decide +kernel
theorem dX0_sizeOfSet_18 : decode cX0_sizeOfSet 18 = .ok (.aload_n 0, 1) := by decide +kernel
theorem dX0_sizeOfSet_19 : decode cX0_sizeOfSet 19 = .ok (.getfield 28, 3) := by decide +kernel
theorem dX0_sizeOfSet_22 : decode cX0_sizeOfSet 22 = .ok (.iload_n 3, 1) := by decide +kernel
theorem dX0_sizeOfSet_23 : decode cX0_sizeOfSet 23 = .ok (.iaload, 1) := by decide +kernel
theorem dX0_sizeOfSet_24 : decode cX0_sizeOfSet 24 = .ok (.imul, 1) := by decide +kernel
theorem dX0_sizeOfSet_25 : decode cX0_sizeOfSet 25 = .ok (.iadd, 1) := by decide +kernel
theorem dX0_sizeOfSet_26 : decode cX0_sizeOfSet 26 = .ok (.istore_n 2, 1) := by decide +kernel
theorem dX0_sizeOfSet_27 : decode cX0_sizeOfSet 27 = .ok (.iinc 3 1, 3) := by decide +kernel
theorem dX0_sizeOfSet_30 : decode cX0_sizeOfSet 30 = .ok (.goto (-26), 3) := by decide +kernel
theorem dX0_sizeOfSet_33 : decode cX0_sizeOfSet 33 = .ok (.iload_n 2, 1) := by decide +kernel
theorem dX0_sizeOfSet_34 : decode cX0_sizeOfSet 34 = .ok (.ireturn, 1) := by decide +kernel
theorem dX0_changeOf_0 : decode cX0_changeOf 0 = .ok (.iconst 0, 1) := by decide +kernel
theorem dX0_changeOf_1 : decode cX0_changeOf 1 = .ok (.istore_n 2, 1) := by decide +kernel
theorem dX0_changeOf_2 : decode cX0_changeOf 2 = .ok (.iconst 0, 1) := by decide +kernel
theorem dX0_changeOf_3 : decode cX0_changeOf 3 = .ok (.istore_n 3, 1) := by decide +kernel
theorem dX0_changeOf_4 : decode cX0_changeOf 4 = .ok (.iload_n 3, 1) := by decide +kernel
theorem dX0_changeOf_5 : decode cX0_changeOf 5 = .ok (.aload_n 0, 1) := by decide +kernel
theorem dX0_changeOf_6 : decode cX0_changeOf 6 = .ok (.getfield 9, 3) := by decide +kernel
theorem dX0_changeOf_9 : decode cX0_changeOf 9 = .ok (.if_icmp .ge 28, 3) := by decide +kernel
theorem dX0_changeOf_12 : decode cX0_changeOf 12 = .ok (.iload_n 2, 1) := by decide +kernel
theorem dX0_changeOf_13 : decode cX0_changeOf 13 = .ok (.iload_n 1, 1) := by decide +kernel
theorem dX0_changeOf_14 : decode cX0_changeOf 14 = .ok (.iload_n 3, 1) := by decide +kernel
theorem dX0_changeOf_15 : decode cX0_changeOf 15 = .ok (.ishr, 1) := by decide +kernel
theorem dX0_changeOf_16 : decode cX0_changeOf 16 = .ok (.iconst 1, 1) := by decide +kernel
theorem dX0_changeOf_17 : decode cX0_changeOf 17 = .ok (.iand, 1) := by decide +kernel
theorem dX0_changeOf_18 : decode cX0_changeOf 18 = .ok (.aload_n 0, 1) := by decide +kernel
theorem dX0_changeOf_19 : decode cX0_changeOf 19 = .ok (.getfield 28, 3) := by decide +kernel
theorem dX0_changeOf_22 : decode cX0_changeOf 22 = .ok (.iload_n 3, 1) := by decide +kernel
theorem dX0_changeOf_23 : decode cX0_changeOf 23 = .ok (.iaload, 1) := by decide +kernel
theorem dX0_changeOf_24 : decode cX0_changeOf 24 = .ok (.iconst 5, 1) := by decide +kernel
theorem dX0_changeOf_25 : decode cX0_changeOf 25 = .ok (.invokestatic 71, 3) := by decide +kernel
theorem dX0_changeOf_28 : decode cX0_changeOf 28 = .ok (.imul, 1) := by decide +kernel
theorem dX0_changeOf_29 : decode cX0_changeOf 29 = .ok (.iadd, 1) := by decide +kernel
theorem dX0_changeOf_30 : decode cX0_changeOf 30 = .ok (.istore_n 2, 1) := by decide +kernel
theorem dX0_changeOf_31 : decode cX0_changeOf 31 = .ok (.iinc 3 1, 3) := by decide +kernel
theorem dX0_changeOf_34 : decode cX0_changeOf 34 = .ok (.goto (-30), 3) := by decide +kernel
theorem dX0_changeOf_37 : decode cX0_changeOf 37 = .ok (.iload_n 2, 1) := by decide +kernel
theorem dX0_changeOf_38 : decode cX0_changeOf 38 = .ok (.ireturn, 1) := by decide +kernel
theorem dX0_votesFor_0 : decode cX0_votesFor 0 = .ok (.iconst 0, 1) := by decide +kernel
theorem dX0_votesFor_1 : decode cX0_votesFor 1 = .ok (.istore_n 3, 1) := by decide +kernel
theorem dX0_votesFor_2 : decode cX0_votesFor 2 = .ok (.iconst 0, 1) := by decide +kernel
theorem dX0_votesFor_3 : decode cX0_votesFor 3 = .ok (.istore 4, 2) := by decide +kernel
theorem dX0_votesFor_5 : decode cX0_votesFor 5 = .ok (.iload 4, 2) := by decide +kernel
theorem dX0_votesFor_7 : decode cX0_votesFor 7 = .ok (.aload_n 0, 1) := by decide +kernel
theorem dX0_votesFor_8 : decode cX0_votesFor 8 = .ok (.getfield 9, 3) := by decide +kernel
theorem dX0_votesFor_11 : decode cX0_votesFor 11 = .ok (.if_icmp .ge 45, 3) := by decide +kernel
theorem dX0_votesFor_14 : decode cX0_votesFor 14 = .ok (.iload_n 2, 1) := by decide +kernel
theorem dX0_votesFor_15 : decode cX0_votesFor 15 = .ok (.iload 4, 2) := by decide +kernel
theorem dX0_votesFor_17 : decode cX0_votesFor 17 = .ok (.ishr, 1) := by decide +kernel
theorem dX0_votesFor_18 : decode cX0_votesFor 18 = .ok (.iconst 1, 1) := by decide +kernel
theorem dX0_votesFor_19 : decode cX0_votesFor 19 = .ok (.iand, 1) := by decide +kernel
theorem dX0_votesFor_20 : decode cX0_votesFor 20 = .ok (.iconst 1, 1) := by decide +kernel
theorem dX0_votesFor_21 : decode cX0_votesFor 21 = .ok (.if_icmp .ne 29, 3) := by decide +kernel
theorem dX0_votesFor_24 : decode cX0_votesFor 24 = .ok (.aload_n 0, 1) := by decide +kernel
theorem dX0_votesFor_25 : decode cX0_votesFor 25 = .ok (.getfield 34, 3) := by decide +kernel
theorem dX0_votesFor_28 : decode cX0_votesFor 28 = .ok (.iload 4, 2) := by decide +kernel
theorem dX0_votesFor_30 : decode cX0_votesFor 30 = .ok (.iaload, 1) := by decide +kernel
theorem dX0_votesFor_31 : decode cX0_votesFor 31 = .ok (.iload_n 1, 1) := by decide +kernel
theorem dX0_votesFor_32 : decode cX0_votesFor 32 = .ok (.if_icmp .ne 18, 3) := by decide +kernel
theorem dX0_votesFor_35 : decode cX0_votesFor 35 = .ok (.iload_n 3, 1) := by decide +kernel
theorem dX0_votesFor_36 : decode cX0_votesFor 36 = .ok (.aload_n 0, 1) := by decide +kernel
theorem dX0_votesFor_37 : decode cX0_votesFor 37 = .ok (.getfield 28, 3) := by decide +kernel
theorem dX0_votesFor_40 : decode cX0_votesFor 40 = .ok (.iload 4, 2) := by decide +kernel
theorem dX0_votesFor_42 : decode cX0_votesFor 42 = .ok (.iaload, 1) := by decide +kernel
theorem dX0_votesFor_43 : decode cX0_votesFor 43 = .ok (.bipush 10, 2) := by decide +kernel
theorem dX0_votesFor_45 : decode cX0_votesFor 45 = .ok (.invokestatic 71, 3) := by decide +kernel
theorem dX0_votesFor_48 : decode cX0_votesFor 48 = .ok (.iadd, 1) := by decide +kernel
theorem dX0_votesFor_49 : decode cX0_votesFor 49 = .ok (.istore_n 3, 1) := by decide +kernel
theorem dX0_votesFor_50 : decode cX0_votesFor 50 = .ok (.iinc 4 1, 3) := by decide +kernel
theorem dX0_votesFor_53 : decode cX0_votesFor 53 = .ok (.goto (-48), 3) := by decide +kernel
theorem dX0_votesFor_56 : decode cX0_votesFor 56 = .ok (.iload_n 3, 1) := by decide +kernel
theorem dX0_votesFor_57 : decode cX0_votesFor 57 = .ok (.ireturn, 1) := by decide +kernel
theorem dX0_setOfKind_0 : decode cX0_setOfKind 0 = .ok (.iconst 0, 1) := by decide +kernel
theorem dX0_setOfKind_1 : decode cX0_setOfKind 1 = .ok (.istore_n 2, 1) := by decide +kernel
theorem dX0_setOfKind_2 : decode cX0_setOfKind 2 = .ok (.iconst 0, 1) := by decide +kernel
theorem dX0_setOfKind_3 : decode cX0_setOfKind 3 = .ok (.istore_n 3, 1) := by decide +kernel
theorem dX0_setOfKind_4 : decode cX0_setOfKind 4 = .ok (.iload_n 3, 1) := by decide +kernel
theorem dX0_setOfKind_5 : decode cX0_setOfKind 5 = .ok (.aload_n 0, 1) := by decide +kernel
theorem dX0_setOfKind_6 : decode cX0_setOfKind 6 = .ok (.getfield 9, 3) := by decide +kernel
theorem dX0_setOfKind_9 : decode cX0_setOfKind 9 = .ok (.if_icmp .ge 25, 3) := by decide +kernel
theorem dX0_setOfKind_12 : decode cX0_setOfKind 12 = .ok (.aload_n 0, 1) := by decide +kernel
theorem dX0_setOfKind_13 : decode cX0_setOfKind 13 = .ok (.getfield 15, 3) := by decide +kernel
theorem dX0_setOfKind_16 : decode cX0_setOfKind 16 = .ok (.iload_n 3, 1) := by decide +kernel
theorem dX0_setOfKind_17 : decode cX0_setOfKind 17 = .ok (.iaload, 1) := by decide +kernel
theorem dX0_setOfKind_18 : decode cX0_setOfKind 18 = .ok (.iload_n 1, 1) := by decide +kernel
theorem dX0_setOfKind_19 : decode cX0_setOfKind 19 = .ok (.if_icmp .ne 9, 3) := by decide +kernel
theorem dX0_setOfKind_22 : decode cX0_setOfKind 22 = .ok (.iload_n 2, 1) := by decide +kernel
theorem dX0_setOfKind_23 : decode cX0_setOfKind 23 = .ok (.iconst 1, 1) := by decide +kernel
theorem dX0_setOfKind_24 : decode cX0_setOfKind 24 = .ok (.iload_n 3, 1) := by decide +kernel
theorem dX0_setOfKind_25 : decode cX0_setOfKind 25 = .ok (.ishl, 1) := by decide +kernel
theorem dX0_setOfKind_26 : decode cX0_setOfKind 26 = .ok (.ior, 1) := by decide +kernel
theorem dX0_setOfKind_27 : decode cX0_setOfKind 27 = .ok (.istore_n 2, 1) := by decide +kernel
theorem dX0_setOfKind_28 : decode cX0_setOfKind 28 = .ok (.iinc 3 1, 3) := by decide +kernel
theorem dX0_setOfKind_31 : decode cX0_setOfKind 31 = .ok (.goto (-27), 3) := by decide +kernel
theorem dX0_setOfKind_34 : decode cX0_setOfKind 34 = .ok (.iload_n 2, 1) := by decide +kernel
theorem dX0_setOfKind_35 : decode cX0_setOfKind 35 = .ok (.ireturn, 1) := by decide +kernel
theorem dX1_init_0 : decode cX1_init 0 = .ok (.aload_n 0, 1) := by decide +kernel
theorem dX1_init_1 : decode cX1_init 1 = .ok (.invokespecial 3, 3) := by decide +kernel
theorem dX1_init_4 : decode cX1_init 4 = .ok (.aload_n 0, 1) := by decide +kernel
theorem dX1_init_5 : decode cX1_init 5 = .ok (.bipush 96, 2) := by decide +kernel
theorem dX1_init_7 : decode cX1_init 7 = .ok (.newarray .int, 2) := by decide +kernel
theorem dX1_init_9 : decode cX1_init 9 = .ok (.putfield 9, 3) := by decide +kernel
theorem dX1_init_12 : decode cX1_init 12 = .ok (.aload_n 0, 1) := by decide +kernel
theorem dX1_init_13 : decode cX1_init 13 = .ok (.bipush 96, 2) := by decide +kernel
theorem dX1_init_15 : decode cX1_init 15 = .ok (.newarray .int, 2) := by decide +kernel
theorem dX1_init_17 : decode cX1_init 17 = .ok (.putfield 15, 3) := by decide +kernel
theorem dX1_init_20 : decode cX1_init 20 = .ok (.aload_n 0, 1) := by decide +kernel
theorem dX1_init_21 : decode cX1_init 21 = .ok (.getfield 9, 3) := by decide +kernel
theorem dX1_init_24 : decode cX1_init 24 = .ok (.iconst (-1), 1) := by decide +kernel
theorem dX1_init_25 : decode cX1_init 25 = .ok (.invokestatic 18, 3) := by decide +kernel
theorem dX1_init_28 : decode cX1_init 28 = .ok (.return_, 1) := by decide +kernel
theorem dX1_has_0 : decode cX1_has 0 = .ok (.iload_n 1, 1) := by decide +kernel
theorem dX1_has_1 : decode cX1_has 1 = .ok (.ifCond .lt 22, 3) := by decide +kernel
theorem dX1_has_4 : decode cX1_has 4 = .ok (.iload_n 1, 1) := by decide +kernel
theorem dX1_has_5 : decode cX1_has 5 = .ok (.iconst 4, 1) := by decide +kernel
theorem dX1_has_6 : decode cX1_has 6 = .ok (.if_icmp .ge 17, 3) := by decide +kernel
theorem dX1_has_9 : decode cX1_has 9 = .ok (.iload_n 2, 1) := by decide +kernel
theorem dX1_has_10 : decode cX1_has 10 = .ok (.ifCond .lt 13, 3) := by decide +kernel
theorem dX1_has_13 : decode cX1_has 13 = .ok (.iload_n 2, 1) := by decide +kernel
theorem dX1_has_14 : decode cX1_has 14 = .ok (.bipush 24, 2) := by decide +kernel
theorem dX1_has_16 : decode cX1_has 16 = .ok (.if_icmp .ge 7, 3) := by decide +kernel
theorem dX1_has_19 : decode cX1_has 19 = .ok (.iconst 1, 1) := by decide +kernel
theorem dX1_has_20 : decode cX1_has 20 = .ok (.goto 4, 3) := by decide +kernel
theorem dX1_has_23 : decode cX1_has 23 = .ok (.iconst 0, 1) := by decide +kernel
theorem dX1_has_24 : decode cX1_has 24 = .ok (.ireturn, 1) := by decide +kernel
theorem dX1_songIn_0 : decode cX1_songIn 0 = .ok (.aload_n 0, 1) := by decide +kernel
theorem dX1_songIn_1 : decode cX1_songIn 1 = .ok (.getfield 9, 3) := by decide +kernel
theorem dX1_songIn_4 : decode cX1_songIn 4 = .ok (.iload_n 1, 1) := by decide +kernel
theorem dX1_songIn_5 : decode cX1_songIn 5 = .ok (.bipush 24, 2) := by decide +kernel
theorem dX1_songIn_7 : decode cX1_songIn 7 = .ok (.imul, 1) := by decide +kernel
theorem dX1_songIn_8 : decode cX1_songIn 8 = .ok (.iload_n 2, 1) := by decide +kernel
theorem dX1_songIn_9 : decode cX1_songIn 9 = .ok (.iadd, 1) := by decide +kernel
theorem dX1_songIn_10 : decode cX1_songIn 10 = .ok (.iaload, 1) := by decide +kernel
theorem dX1_songIn_11 : decode cX1_songIn 11 = .ok (.ireturn, 1) := by decide +kernel
theorem dX1_isFree_0 : decode cX1_isFree 0 = .ok (.aload_n 0, 1) := by decide +kernel
theorem dX1_isFree_1 : decode cX1_isFree 1 = .ok (.iload_n 1, 1) := by decide +kernel
theorem dX1_isFree_2 : decode cX1_isFree 2 = .ok (.iload_n 2, 1) := by decide +kernel
theorem dX1_isFree_3 : decode cX1_isFree 3 = .ok (.invokevirtual 24, 3) := by decide +kernel
theorem dX1_isFree_6 : decode cX1_isFree 6 = .ok (.iconst (-1), 1) := by decide +kernel
theorem dX1_isFree_7 : decode cX1_isFree 7 = .ok (.if_icmp .ne 7, 3) := by decide +kernel
theorem dX1_isFree_10 : decode cX1_isFree 10 = .ok (.iconst 1, 1) := by decide +kernel
theorem dX1_isFree_11 : decode cX1_isFree 11 = .ok (.goto 4, 3) := by decide +kernel
theorem dX1_isFree_14 : decode cX1_isFree 14 = .ok (.iconst 0, 1) := by decide +kernel
theorem dX1_isFree_15 : decode cX1_isFree 15 = .ok (.ireturn, 1) := by decide +kernel
theorem dX1_busyAt_0 : decode cX1_busyAt 0 = .ok (.iconst 0, 1) := by decide +kernel
theorem dX1_busyAt_1 : decode cX1_busyAt 1 = .ok (.istore_n 2, 1) := by decide +kernel
theorem dX1_busyAt_2 : decode cX1_busyAt 2 = .ok (.iconst 0, 1) := by decide +kernel
theorem dX1_busyAt_3 : decode cX1_busyAt 3 = .ok (.istore_n 3, 1) := by decide +kernel
theorem dX1_busyAt_4 : decode cX1_busyAt 4 = .ok (.iload_n 3, 1) := by decide +kernel
theorem dX1_busyAt_5 : decode cX1_busyAt 5 = .ok (.iconst 4, 1) := by decide +kernel
theorem dX1_busyAt_6 : decode cX1_busyAt 6 = .ok (.if_icmp .ge 23, 3) := by decide +kernel
theorem dX1_busyAt_9 : decode cX1_busyAt 9 = .ok (.iload_n 2, 1) := by decide +kernel
theorem dX1_busyAt_10 : decode cX1_busyAt 10 = .ok (.aload_n 0, 1) := by decide +kernel
theorem dX1_busyAt_11 : decode cX1_busyAt 11 = .ok (.getfield 15, 3) := by decide +kernel
theorem dX1_busyAt_14 : decode cX1_busyAt 14 = .ok (.iload_n 3, 1) := by decide +kernel
theorem dX1_busyAt_15 : decode cX1_busyAt 15 = .ok (.bipush 24, 2) := by decide +kernel
theorem dX1_busyAt_17 : decode cX1_busyAt 17 = .ok (.imul, 1) := by decide +kernel
theorem dX1_busyAt_18 : decode cX1_busyAt 18 = .ok (.iload_n 1, 1) := by decide +kernel
theorem dX1_busyAt_19 : decode cX1_busyAt 19 = .ok (.iadd, 1) := by decide +kernel
theorem dX1_busyAt_20 : decode cX1_busyAt 20 = .ok (.iaload, 1) := by decide +kernel
theorem dX1_busyAt_21 : decode cX1_busyAt 21 = .ok (.ior, 1) := by decide +kernel
theorem dX1_busyAt_22 : decode cX1_busyAt 22 = .ok (.istore_n 2, 1) := by decide +kernel
theorem dX1_busyAt_23 : decode cX1_busyAt 23 = .ok (.iinc 3 1, 3) := by decide +kernel
theorem dX1_busyAt_26 : decode cX1_busyAt 26 = .ok (.goto (-22), 3) := by decide +kernel
theorem dX1_busyAt_29 : decode cX1_busyAt 29 = .ok (.iload_n 2, 1) := by decide +kernel
theorem dX1_busyAt_30 : decode cX1_busyAt 30 = .ok (.ireturn, 1) := by decide +kernel
theorem dX1_take_0 : decode cX1_take 0 = .ok (.aload_n 0, 1) := by decide +kernel
theorem dX1_take_1 : decode cX1_take 1 = .ok (.getfield 9, 3) := by decide +kernel
theorem dX1_take_4 : decode cX1_take 4 = .ok (.iload_n 1, 1) := by decide +kernel
theorem dX1_take_5 : decode cX1_take 5 = .ok (.bipush 24, 2) := by decide +kernel
theorem dX1_take_7 : decode cX1_take 7 = .ok (.imul, 1) := by decide +kernel
theorem dX1_take_8 : decode cX1_take 8 = .ok (.iload_n 2, 1) := by decide +kernel
theorem dX1_take_9 : decode cX1_take 9 = .ok (.iadd, 1) := by decide +kernel
theorem dX1_take_10 : decode cX1_take 10 = .ok (.iload_n 3, 1) := by decide +kernel
theorem dX1_take_11 : decode cX1_take 11 = .ok (.iastore, 1) := by decide +kernel
theorem dX1_take_12 : decode cX1_take 12 = .ok (.aload_n 0, 1) := by decide +kernel
theorem dX1_take_13 : decode cX1_take 13 = .ok (.getfield 15, 3) := by decide +kernel
theorem dX1_take_16 : decode cX1_take 16 = .ok (.iload_n 1, 1) := by decide +kernel
theorem dX1_take_17 : decode cX1_take 17 = .ok (.bipush 24, 2) := by decide +kernel
theorem dX1_take_19 : decode cX1_take 19 = .ok (.imul, 1) := by decide +kernel
theorem dX1_take_20 : decode cX1_take 20 = .ok (.iload_n 2, 1) := by decide +kernel
theorem dX1_take_21 : decode cX1_take 21 = .ok (.iadd, 1) := by decide +kernel
theorem dX1_take_22 : decode cX1_take 22 = .ok (.iload 4, 2) := by decide +kernel
theorem dX1_take_24 : decode cX1_take 24 = .ok (.iastore, 1) := by decide +kernel
theorem dX1_take_25 : decode cX1_take 25 = .ok (.return_, 1) := by decide +kernel
theorem dX2_init_0 : decode cX2_init 0 = .ok (.aload_n 0, 1) := by decide +kernel
theorem dX2_init_1 : decode cX2_init 1 = .ok (.invokespecial 3, 3) := by decide +kernel
theorem dX2_init_4 : decode cX2_init 4 = .ok (.aload_n 0, 1) := by decide +kernel
theorem dX2_init_5 : decode cX2_init 5 = .ok (.iconst 0, 1) := by decide +kernel
theorem dX2_init_6 : decode cX2_init 6 = .ok (.putfield 9, 3) := by decide +kernel
theorem dX2_init_9 : decode cX2_init 9 = .ok (.aload_n 0, 1) := by decide +kernel
theorem dX2_init_10 : decode cX2_init 10 = .ok (.bipush 6, 2) := by decide +kernel
theorem dX2_init_12 : decode cX2_init 12 = .ok (.newarray .int, 2) := by decide +kernel
theorem dX2_init_14 : decode cX2_init 14 = .ok (.putfield 15, 3) := by decide +kernel
theorem dX2_init_17 : decode cX2_init 17 = .ok (.aload_n 0, 1) := by decide +kernel
theorem dX2_init_18 : decode cX2_init 18 = .ok (.bipush 96, 2) := by decide +kernel
theorem dX2_init_20 : decode cX2_init 20 = .ok (.newarray .int, 2) := by decide +kernel
theorem dX2_init_22 : decode cX2_init 22 = .ok (.putfield 19, 3) := by decide +kernel
theorem dX2_init_25 : decode cX2_init 25 = .ok (.aload_n 0, 1) := by decide +kernel
theorem dX2_init_26 : decode cX2_init 26 = .ok (.getfield 19, 3) := by decide +kernel
theorem dX2_init_29 : decode cX2_init 29 = .ok (.iconst (-1), 1) := by decide +kernel
theorem dX2_init_30 : decode cX2_init 30 = .ok (.invokestatic 22, 3) := by decide +kernel
theorem dX2_init_33 : decode cX2_init 33 = .ok (.return_, 1) := by decide +kernel
theorem dX2_has_0 : decode cX2_has 0 = .ok (.iload_n 1, 1) := by decide +kernel
theorem dX2_has_1 : decode cX2_has 1 = .ok (.ifCond .lt 15, 3) := by decide +kernel
theorem dX2_has_4 : decode cX2_has 4 = .ok (.iload_n 1, 1) := by decide +kernel
theorem dX2_has_5 : decode cX2_has 5 = .ok (.aload_n 0, 1) := by decide +kernel
theorem dX2_has_6 : decode cX2_has 6 = .ok (.getfield 9, 3) := by decide +kernel
theorem dX2_has_9 : decode cX2_has 9 = .ok (.if_icmp .ge 7, 3) := by decide +kernel
theorem dX2_has_12 : decode cX2_has 12 = .ok (.iconst 1, 1) := by decide +kernel
theorem dX2_has_13 : decode cX2_has 13 = .ok (.goto 4, 3) := by decide +kernel
theorem dX2_has_16 : decode cX2_has 16 = .ok (.iconst 0, 1) := by decide +kernel
theorem dX2_has_17 : decode cX2_has 17 = .ok (.ireturn, 1) := by decide +kernel
theorem dX2_add_0 : decode cX2_add 0 = .ok (.aload_n 0, 1) := by decide +kernel
theorem dX2_add_1 : decode cX2_add 1 = .ok (.getfield 9, 3) := by decide +kernel
theorem dX2_add_4 : decode cX2_add 4 = .ok (.istore_n 2, 1) := by decide +kernel
theorem dX2_add_5 : decode cX2_add 5 = .ok (.aload_n 0, 1) := by decide +kernel
theorem dX2_add_6 : decode cX2_add 6 = .ok (.getfield 15, 3) := by decide +kernel
theorem dX2_add_9 : decode cX2_add 9 = .ok (.iload_n 2, 1) := by decide +kernel
theorem dX2_add_10 : decode cX2_add 10 = .ok (.iload_n 1, 1) := by decide +kernel
theorem dX2_add_11 : decode cX2_add 11 = .ok (.iastore, 1) := by decide +kernel
theorem dX2_add_12 : decode cX2_add 12 = .ok (.aload_n 0, 1) := by decide +kernel
theorem dX2_add_13 : decode cX2_add 13 = .ok (.dup, 1) := by decide +kernel
theorem dX2_add_14 : decode cX2_add 14 = .ok (.getfield 9, 3) := by decide +kernel
theorem dX2_add_17 : decode cX2_add 17 = .ok (.iconst 1, 1) := by decide +kernel
theorem dX2_add_18 : decode cX2_add 18 = .ok (.iadd, 1) := by decide +kernel
theorem dX2_add_19 : decode cX2_add 19 = .ok (.putfield 9, 3) := by decide +kernel
theorem dX2_add_22 : decode cX2_add 22 = .ok (.iload_n 2, 1) := by decide +kernel
theorem dX2_add_23 : decode cX2_add 23 = .ok (.ireturn, 1) := by decide +kernel
theorem dX2_give_0 : decode cX2_give 0 = .ok (.aload_n 0, 1) := by decide +kernel
theorem dX2_give_1 : decode cX2_give 1 = .ok (.getfield 19, 3) := by decide +kernel
theorem dX2_give_4 : decode cX2_give 4 = .ok (.iload_n 1, 1) := by decide +kernel
theorem dX2_give_5 : decode cX2_give 5 = .ok (.bipush 16, 2) := by decide +kernel
theorem dX2_give_7 : decode cX2_give 7 = .ok (.imul, 1) := by decide +kernel
theorem dX2_give_8 : decode cX2_give 8 = .ok (.iload_n 2, 1) := by decide +kernel
theorem dX2_give_9 : decode cX2_give 9 = .ok (.iadd, 1) := by decide +kernel
theorem dX2_give_10 : decode cX2_give 10 = .ok (.iaload, 1) := by decide +kernel
theorem dX2_give_11 : decode cX2_give 11 = .ok (.istore 4, 2) := by decide +kernel
theorem dX2_give_13 : decode cX2_give 13 = .ok (.aload_n 0, 1) := by decide +kernel
theorem dX2_give_14 : decode cX2_give 14 = .ok (.getfield 19, 3) := by decide +kernel
theorem dX2_give_17 : decode cX2_give 17 = .ok (.iload_n 1, 1) := by decide +kernel
theorem dX2_give_18 : decode cX2_give 18 = .ok (.bipush 16, 2) := by decide +kernel
theorem dX2_give_20 : decode cX2_give 20 = .ok (.imul, 1) := by decide +kernel
theorem dX2_give_21 : decode cX2_give 21 = .ok (.iload_n 2, 1) := by decide +kernel
theorem dX2_give_22 : decode cX2_give 22 = .ok (.iadd, 1) := by decide +kernel
theorem dX2_give_23 : decode cX2_give 23 = .ok (.iload_n 3, 1) := by decide +kernel
theorem dX2_give_24 : decode cX2_give 24 = .ok (.iastore, 1) := by decide +kernel
theorem dX2_give_25 : decode cX2_give 25 = .ok (.iload 4, 2) := by decide +kernel
theorem dX2_give_27 : decode cX2_give 27 = .ok (.ireturn, 1) := by decide +kernel
theorem dX2_meanOf_0 : decode cX2_meanOf 0 = .ok (.iconst 0, 1) := by decide +kernel
theorem dX2_meanOf_1 : decode cX2_meanOf 1 = .ok (.istore_n 2, 1) := by decide +kernel
theorem dX2_meanOf_2 : decode cX2_meanOf 2 = .ok (.iconst 0, 1) := by decide +kernel
theorem dX2_meanOf_3 : decode cX2_meanOf 3 = .ok (.istore_n 3, 1) := by decide +kernel
theorem dX2_meanOf_4 : decode cX2_meanOf 4 = .ok (.iconst 0, 1) := by decide +kernel
theorem dX2_meanOf_5 : decode cX2_meanOf 5 = .ok (.istore 4, 2) := by decide +kernel
theorem dX2_meanOf_7 : decode cX2_meanOf 7 = .ok (.iload 4, 2) := by decide +kernel
theorem dX2_meanOf_9 : decode cX2_meanOf 9 = .ok (.aload_n 0, 1) := by decide +kernel
theorem dX2_meanOf_10 : decode cX2_meanOf 10 = .ok (.getfield 9, 3) := by decide +kernel
theorem dX2_meanOf_13 : decode cX2_meanOf 13 = .ok (.if_icmp .ge 37, 3) := by decide +kernel
theorem dX2_meanOf_16 : decode cX2_meanOf 16 = .ok (.aload_n 0, 1) := by decide +kernel
theorem dX2_meanOf_17 : decode cX2_meanOf 17 = .ok (.getfield 19, 3) := by decide +kernel
theorem dX2_meanOf_20 : decode cX2_meanOf 20 = .ok (.iload 4, 2) := by decide +kernel
theorem dX2_meanOf_22 : decode cX2_meanOf 22 = .ok (.bipush 16, 2) := by decide +kernel
theorem dX2_meanOf_24 : decode cX2_meanOf 24 = .ok (.imul, 1) := by decide +kernel
theorem dX2_meanOf_25 : decode cX2_meanOf 25 = .ok (.iload_n 1, 1) := by decide +kernel
theorem dX2_meanOf_26 : decode cX2_meanOf 26 = .ok (.iadd, 1) := by decide +kernel
theorem dX2_meanOf_27 : decode cX2_meanOf 27 = .ok (.iaload, 1) := by decide +kernel
theorem dX2_meanOf_28 : decode cX2_meanOf 28 = .ok (.istore 5, 2) := by decide +kernel
theorem dX2_meanOf_30 : decode cX2_meanOf 30 = .ok (.iload 5, 2) := by decide +kernel
theorem dX2_meanOf_32 : decode cX2_meanOf 32 = .ok (.iconst (-1), 1) := by decide +kernel
theorem dX2_meanOf_33 : decode cX2_meanOf 33 = .ok (.if_icmp .eq 11, 3) := by decide +kernel
theorem dX2_meanOf_36 : decode cX2_meanOf 36 = .ok (.iload_n 2, 1) := by decide +kernel
theorem dX2_meanOf_37 : decode cX2_meanOf 37 = .ok (.iload 5, 2) := by decide +kernel
theorem dX2_meanOf_39 : decode cX2_meanOf 39 = .ok (.iadd, 1) := by decide +kernel
theorem dX2_meanOf_40 : decode cX2_meanOf 40 = .ok (.istore_n 2, 1) := by decide +kernel
theorem dX2_meanOf_41 : decode cX2_meanOf 41 = .ok (.iinc 3 1, 3) := by decide +kernel
theorem dX2_meanOf_44 : decode cX2_meanOf 44 = .ok (.iinc 4 1, 3) := by decide +kernel
theorem dX2_meanOf_47 : decode cX2_meanOf 47 = .ok (.goto (-40), 3) := by decide +kernel
theorem dX2_meanOf_50 : decode cX2_meanOf 50 = .ok (.iload_n 3, 1) := by decide +kernel
theorem dX2_meanOf_51 : decode cX2_meanOf 51 = .ok (.ifCond .ne 7, 3) := by decide +kernel
theorem dX2_meanOf_54 : decode cX2_meanOf 54 = .ok (.iconst (-1), 1) := by decide +kernel
theorem dX2_meanOf_55 : decode cX2_meanOf 55 = .ok (.goto 6, 3) := by decide +kernel
theorem dX2_meanOf_58 : decode cX2_meanOf 58 = .ok (.iload_n 2, 1) := by decide +kernel
theorem dX2_meanOf_59 : decode cX2_meanOf 59 = .ok (.iload_n 3, 1) := by decide +kernel
theorem dX2_meanOf_60 : decode cX2_meanOf 60 = .ok (.idiv, 1) := by decide +kernel
theorem dX2_meanOf_61 : decode cX2_meanOf 61 = .ok (.ireturn, 1) := by decide +kernel
theorem dX2_scaleOf_0 : decode cX2_scaleOf 0 = .ok (.iconst 0, 1) := by decide +kernel
theorem dX2_scaleOf_1 : decode cX2_scaleOf 1 = .ok (.istore_n 3, 1) := by decide +kernel
theorem dX2_scaleOf_2 : decode cX2_scaleOf 2 = .ok (.iconst 0, 1) := by decide +kernel
theorem dX2_scaleOf_3 : decode cX2_scaleOf 3 = .ok (.istore 4, 2) := by decide +kernel
theorem dX2_scaleOf_5 : decode cX2_scaleOf 5 = .ok (.iconst 0, 1) := by decide +kernel
theorem dX2_scaleOf_6 : decode cX2_scaleOf 6 = .ok (.istore 5, 2) := by decide +kernel
theorem dX2_scaleOf_8 : decode cX2_scaleOf 8 = .ok (.iload 5, 2) := by decide +kernel
theorem dX2_scaleOf_10 : decode cX2_scaleOf 10 = .ok (.bipush 16, 2) := by decide +kernel
theorem dX2_scaleOf_12 : decode cX2_scaleOf 12 = .ok (.if_icmp .ge 60, 3) := by decide +kernel
theorem dX2_scaleOf_15 : decode cX2_scaleOf 15 = .ok (.aload_n 0, 1) := by decide +kernel
theorem dX2_scaleOf_16 : decode cX2_scaleOf 16 = .ok (.getfield 19, 3) := by decide +kernel
theorem dX2_scaleOf_19 : decode cX2_scaleOf 19 = .ok (.iload_n 1, 1) := by decide +kernel
theorem dX2_scaleOf_20 : decode cX2_scaleOf 20 = .ok (.bipush 16, 2) := by decide +kernel
theorem dX2_scaleOf_22 : decode cX2_scaleOf 22 = .ok (.imul, 1) := by decide +kernel
theorem dX2_scaleOf_23 : decode cX2_scaleOf 23 = .ok (.iload 5, 2) := by decide +kernel
theorem dX2_scaleOf_25 : decode cX2_scaleOf 25 = .ok (.iadd, 1) := by decide +kernel
theorem dX2_scaleOf_26 : decode cX2_scaleOf 26 = .ok (.iaload, 1) := by decide +kernel
theorem dX2_scaleOf_27 : decode cX2_scaleOf 27 = .ok (.istore 6, 2) := by decide +kernel
theorem dX2_scaleOf_29 : decode cX2_scaleOf 29 = .ok (.aload_n 0, 1) := by decide +kernel
theorem dX2_scaleOf_30 : decode cX2_scaleOf 30 = .ok (.getfield 19, 3) := by decide +kernel
theorem dX2_scaleOf_33 : decode cX2_scaleOf 33 = .ok (.iload_n 2, 1) := by decide +kernel
theorem dX2_scaleOf_34 : decode cX2_scaleOf 34 = .ok (.bipush 16, 2) := by decide +kernel
theorem dX2_scaleOf_36 : decode cX2_scaleOf 36 = .ok (.imul, 1) := by decide +kernel
theorem dX2_scaleOf_37 : decode cX2_scaleOf 37 = .ok (.iload 5, 2) := by decide +kernel
theorem dX2_scaleOf_39 : decode cX2_scaleOf 39 = .ok (.iadd, 1) := by decide +kernel
theorem dX2_scaleOf_40 : decode cX2_scaleOf 40 = .ok (.iaload, 1) := by decide +kernel
theorem dX2_scaleOf_41 : decode cX2_scaleOf 41 = .ok (.istore 7, 2) := by decide +kernel
theorem dX2_scaleOf_43 : decode cX2_scaleOf 43 = .ok (.iload 6, 2) := by decide +kernel
theorem dX2_scaleOf_45 : decode cX2_scaleOf 45 = .ok (.iconst (-1), 1) := by decide +kernel
theorem dX2_scaleOf_46 : decode cX2_scaleOf 46 = .ok (.if_icmp .eq 20, 3) := by decide +kernel
theorem dX2_scaleOf_49 : decode cX2_scaleOf 49 = .ok (.iload 7, 2) := by decide +kernel
theorem dX2_scaleOf_51 : decode cX2_scaleOf 51 = .ok (.iconst (-1), 1) := by decide +kernel
theorem dX2_scaleOf_52 : decode cX2_scaleOf 52 = .ok (.if_icmp .eq 14, 3) := by decide +kernel
theorem dX2_scaleOf_55 : decode cX2_scaleOf 55 = .ok (.iload_n 3, 1) := by decide +kernel
theorem dX2_scaleOf_56 : decode cX2_scaleOf 56 = .ok (.iload 6, 2) := by decide +kernel
theorem dX2_scaleOf_58 : decode cX2_scaleOf 58 = .ok (.iload 7, 2) := by decide +kernel
theorem dX2_scaleOf_60 : decode cX2_scaleOf 60 = .ok (.isub, 1) := by decide +kernel
theorem dX2_scaleOf_61 : decode cX2_scaleOf 61 = .ok (.iadd, 1) := by decide +kernel
theorem dX2_scaleOf_62 : decode cX2_scaleOf 62 = .ok (.istore_n 3, 1) := by decide +kernel
theorem dX2_scaleOf_63 : decode cX2_scaleOf 63 = .ok (.iinc 4 1, 3) := by decide +kernel
theorem dX2_scaleOf_66 : decode cX2_scaleOf 66 = .ok (.iinc 5 1, 3) := by decide +kernel
theorem dX2_scaleOf_69 : decode cX2_scaleOf 69 = .ok (.goto (-61), 3) := by decide +kernel
theorem dX2_scaleOf_72 : decode cX2_scaleOf 72 = .ok (.iload 4, 2) := by decide +kernel
theorem dX2_scaleOf_74 : decode cX2_scaleOf 74 = .ok (.ifCond .ne 9, 3) := by decide +kernel
theorem dX2_scaleOf_77 : decode cX2_scaleOf 77 = .ok (.sipush (-200), 3) := by decide +kernel
theorem dX2_scaleOf_80 : decode cX2_scaleOf 80 = .ok (.goto 9, 3) := by decide +kernel
theorem dX2_scaleOf_83 : decode cX2_scaleOf 83 = .ok (.iload_n 3, 1) := by decide +kernel
theorem dX2_scaleOf_84 : decode cX2_scaleOf 84 = .ok (.iload 4, 2) := by decide +kernel
theorem dX2_scaleOf_86 : decode cX2_scaleOf 86 = .ok (.invokestatic 28, 3) := by decide +kernel
theorem dX2_scaleOf_89 : decode cX2_scaleOf 89 = .ok (.ireturn, 1) := by decide +kernel
theorem dX3_init_0 : decode cX3_init 0 = .ok (.aload_n 0, 1) := by decide +kernel
theorem dX3_init_1 : decode cX3_init 1 = .ok (.invokespecial 3, 3) := by decide +kernel
theorem dX3_init_4 : decode cX3_init 4 = .ok (.aload_n 0, 1) := by decide +kernel
theorem dX3_init_5 : decode cX3_init 5 = .ok (.bipush 8, 2) := by decide +kernel
theorem dX3_init_7 : decode cX3_init 7 = .ok (.newarray .int, 2) := by decide +kernel
theorem dX3_init_9 : decode cX3_init 9 = .ok (.putfield 9, 3) := by decide +kernel
theorem dX3_init_12 : decode cX3_init 12 = .ok (.aload_n 0, 1) := by decide +kernel
theorem dX3_init_13 : decode cX3_init 13 = .ok (.bipush 16, 2) := by decide +kernel
theorem dX3_init_15 : decode cX3_init 15 = .ok (.newarray .int, 2) := by decide +kernel
theorem dX3_init_17 : decode cX3_init 17 = .ok (.putfield 15, 3) := by decide +kernel
theorem dX3_init_20 : decode cX3_init 20 = .ok (.aload_n 0, 1) := by decide +kernel
theorem dX3_init_21 : decode cX3_init 21 = .ok (.aload_n 1, 1) := by decide +kernel
theorem dX3_init_22 : decode cX3_init 22 = .ok (.putfield 18, 3) := by decide +kernel
theorem dX3_init_25 : decode cX3_init 25 = .ok (.aload_n 0, 1) := by decide +kernel
theorem dX3_init_26 : decode cX3_init 26 = .ok (.getfield 15, 3) := by decide +kernel
theorem dX3_init_29 : decode cX3_init 29 = .ok (.iconst (-1), 1) := by decide +kernel
theorem dX3_init_30 : decode cX3_init 30 = .ok (.invokestatic 22, 3) := by decide +kernel
theorem dX3_init_33 : decode cX3_init 33 = .ok (.return_, 1) := by decide +kernel
theorem dX3_taken_0 : decode cX3_taken 0 = .ok (.iconst 0, 1) := by decide +kernel
theorem dX3_taken_1 : decode cX3_taken 1 = .ok (.istore_n 2, 1) := by decide +kernel
theorem dX3_taken_2 : decode cX3_taken 2 = .ok (.iconst 0, 1) := by decide +kernel
theorem dX3_taken_3 : decode cX3_taken 3 = .ok (.istore_n 3, 1) := by decide +kernel
theorem dX3_taken_4 : decode cX3_taken 4 = .ok (.iload_n 3, 1) := by decide +kernel
theorem dX3_taken_5 : decode cX3_taken 5 = .ok (.aload_n 0, 1) := by decide +kernel
theorem dX3_taken_6 : decode cX3_taken 6 = .ok (.getfield 18, 3) := by decide +kernel
theorem dX3_taken_9 : decode cX3_taken 9 = .ok (.getfield 28, 3) := by decide +kernel
theorem dX3_taken_12 : decode cX3_taken 12 = .ok (.if_icmp .ge 31, 3) := by decide +kernel
theorem dX3_taken_15 : decode cX3_taken 15 = .ok (.aload_n 0, 1) := by decide +kernel
theorem dX3_taken_16 : decode cX3_taken 16 = .ok (.getfield 15, 3) := by decide +kernel
theorem dX3_taken_19 : decode cX3_taken 19 = .ok (.iload_n 3, 1) := by decide +kernel
theorem dX3_taken_20 : decode cX3_taken 20 = .ok (.iaload, 1) := by decide +kernel
theorem dX3_taken_21 : decode cX3_taken 21 = .ok (.iload_n 1, 1) := by decide +kernel
theorem dX3_taken_22 : decode cX3_taken 22 = .ok (.if_icmp .ne 15, 3) := by decide +kernel
theorem dX3_taken_25 : decode cX3_taken 25 = .ok (.iload_n 2, 1) := by decide +kernel
theorem dX3_taken_26 : decode cX3_taken 26 = .ok (.aload_n 0, 1) := by decide +kernel
theorem dX3_taken_27 : decode cX3_taken 27 = .ok (.getfield 18, 3) := by decide +kernel
theorem dX3_taken_30 : decode cX3_taken 30 = .ok (.getfield 34, 3) := by decide +kernel
theorem dX3_taken_33 : decode cX3_taken 33 = .ok (.iload_n 3, 1) := by decide +kernel
theorem dX3_taken_34 : decode cX3_taken 34 = .ok (.iaload, 1) := by decide +kernel
theorem dX3_taken_35 : decode cX3_taken 35 = .ok (.iadd, 1) := by decide +kernel
theorem dX3_taken_36 : decode cX3_taken 36 = .ok (.istore_n 2, 1) := by decide +kernel
theorem dX3_taken_37 : decode cX3_taken 37 = .ok (.iinc 3 1, 3) := by decide +kernel
theorem dX3_taken_40 : decode cX3_taken 40 = .ok (.goto (-36), 3) := by decide +kernel
theorem dX3_taken_43 : decode cX3_taken 43 = .ok (.iload_n 2, 1) := by decide +kernel
theorem dX3_taken_44 : decode cX3_taken 44 = .ok (.ireturn, 1) := by decide +kernel
theorem dX3_freeBeds_0 : decode cX3_freeBeds 0 = .ok (.aload_n 0, 1) := by decide +kernel
theorem dX3_freeBeds_1 : decode cX3_freeBeds 1 = .ok (.getfield 9, 3) := by decide +kernel
theorem dX3_freeBeds_4 : decode cX3_freeBeds 4 = .ok (.iload_n 1, 1) := by decide +kernel
theorem dX3_freeBeds_5 : decode cX3_freeBeds 5 = .ok (.iaload, 1) := by decide +kernel
theorem dX3_freeBeds_6 : decode cX3_freeBeds 6 = .ok (.aload_n 0, 1) := by decide +kernel
theorem dX3_freeBeds_7 : decode cX3_freeBeds 7 = .ok (.iload_n 1, 1) := by decide +kernel
theorem dX3_freeBeds_8 : decode cX3_freeBeds 8 = .ok (.invokevirtual 37, 3) := by decide +kernel
theorem dX3_freeBeds_11 : decode cX3_freeBeds 11 = .ok (.isub, 1) := by decide +kernel
theorem dX3_freeBeds_12 : decode cX3_freeBeds 12 = .ok (.ireturn, 1) := by decide +kernel
theorem dX3_bedsFor_0 : decode cX3_bedsFor 0 = .ok (.aload_n 0, 1) := by decide +kernel
theorem dX3_bedsFor_1 : decode cX3_bedsFor 1 = .ok (.getfield 15, 3) := by decide +kernel
theorem dX3_bedsFor_4 : decode cX3_bedsFor 4 = .ok (.iload_n 1, 1) := by decide +kernel
theorem dX3_bedsFor_5 : decode cX3_bedsFor 5 = .ok (.iaload, 1) := by decide +kernel
theorem dX3_bedsFor_6 : decode cX3_bedsFor 6 = .ok (.iload_n 2, 1) := by decide +kernel
theorem dX3_bedsFor_7 : decode cX3_bedsFor 7 = .ok (.if_icmp .ne 15, 3) := by decide +kernel
theorem dX3_bedsFor_10 : decode cX3_bedsFor 10 = .ok (.aload_n 0, 1) := by decide +kernel
theorem dX3_bedsFor_11 : decode cX3_bedsFor 11 = .ok (.getfield 18, 3) := by decide +kernel
theorem dX3_bedsFor_14 : decode cX3_bedsFor 14 = .ok (.getfield 34, 3) := by decide +kernel
theorem dX3_bedsFor_17 : decode cX3_bedsFor 17 = .ok (.iload_n 1, 1) := by decide +kernel
theorem dX3_bedsFor_18 : decode cX3_bedsFor 18 = .ok (.iaload, 1) := by decide +kernel
theorem dX3_bedsFor_19 : decode cX3_bedsFor 19 = .ok (.goto 4, 3) := by decide +kernel
theorem dX3_bedsFor_22 : decode cX3_bedsFor 22 = .ok (.iconst 0, 1) := by decide +kernel
theorem dX3_bedsFor_23 : decode cX3_bedsFor 23 = .ok (.istore_n 3, 1) := by decide +kernel
theorem dX3_bedsFor_24 : decode cX3_bedsFor 24 = .ok (.aload_n 0, 1) := by decide +kernel
theorem dX3_bedsFor_25 : decode cX3_bedsFor 25 = .ok (.iload_n 2, 1) := by decide +kernel
theorem dX3_bedsFor_26 : decode cX3_bedsFor 26 = .ok (.invokevirtual 41, 3) := by decide +kernel
theorem dX3_bedsFor_29 : decode cX3_bedsFor 29 = .ok (.iload_n 3, 1) := by decide +kernel
theorem dX3_bedsFor_30 : decode cX3_bedsFor 30 = .ok (.iadd, 1) := by decide +kernel
theorem dX3_bedsFor_31 : decode cX3_bedsFor 31 = .ok (.ireturn, 1) := by decide +kernel
theorem dX3_canTake_0 : decode cX3_canTake 0 = .ok (.iload_n 1, 1) := by decide +kernel
theorem dX3_canTake_1 : decode cX3_canTake 1 = .ok (.aload_n 0, 1) := by decide +kernel
theorem dX3_canTake_2 : decode cX3_canTake 2 = .ok (.getfield 18, 3) := by decide +kernel
theorem dX3_canTake_5 : decode cX3_canTake 5 = .ok (.getfield 44, 3) := by decide +kernel
theorem dX3_canTake_8 : decode cX3_canTake 8 = .ok (.iload_n 2, 1) := by decide +kernel
theorem dX3_canTake_9 : decode cX3_canTake 9 = .ok (.iaload, 1) := by decide +kernel
theorem dX3_canTake_10 : decode cX3_canTake 10 = .ok (.if_icmp .eq 25, 3) := by decide +kernel
theorem dX3_canTake_13 : decode cX3_canTake 13 = .ok (.aload_n 0, 1) := by decide +kernel
theorem dX3_canTake_14 : decode cX3_canTake 14 = .ok (.iload_n 2, 1) := by decide +kernel
theorem dX3_canTake_15 : decode cX3_canTake 15 = .ok (.iload_n 1, 1) := by decide +kernel
theorem dX3_canTake_16 : decode cX3_canTake 16 = .ok (.invokevirtual 47, 3) := by decide +kernel
theorem dX3_canTake_19 : decode cX3_canTake 19 = .ok (.aload_n 0, 1) := by decide +kernel
theorem dX3_canTake_20 : decode cX3_canTake 20 = .ok (.getfield 18, 3) := by decide +kernel
theorem dX3_canTake_23 : decode cX3_canTake 23 = .ok (.getfield 34, 3) := by decide +kernel
theorem dX3_canTake_26 : decode cX3_canTake 26 = .ok (.iload_n 2, 1) := by decide +kernel
theorem dX3_canTake_27 : decode cX3_canTake 27 = .ok (.iaload, 1) := by decide +kernel
theorem dX3_canTake_28 : decode cX3_canTake 28 = .ok (.if_icmp .lt 7, 3) := by decide +kernel
theorem dX3_canTake_31 : decode cX3_canTake 31 = .ok (.iconst 1, 1) := by decide +kernel
theorem dX3_canTake_32 : decode cX3_canTake 32 = .ok (.goto 4, 3) := by decide +kernel
theorem dX3_canTake_35 : decode cX3_canTake 35 = .ok (.iconst 0, 1) := by decide +kernel
theorem dX3_canTake_36 : decode cX3_canTake 36 = .ok (.ireturn, 1) := by decide +kernel
theorem dX3_tightestTown_0 : decode cX3_tightestTown 0 = .ok (.iconst (-1), 1) := by decide +kernel
theorem dX3_tightestTown_1 : decode cX3_tightestTown 1 = .ok (.istore_n 2, 1) := by decide +kernel
theorem dX3_tightestTown_2 : decode cX3_tightestTown 2 = .ok (.iconst 0, 1) := by decide +kernel
theorem dX3_tightestTown_3 : decode cX3_tightestTown 3 = .ok (.istore_n 3, 1) := by decide +kernel
theorem dX3_tightestTown_4 : decode cX3_tightestTown 4 = .ok (.iload_n 3, 1) := by decide +kernel
theorem dX3_tightestTown_5 : decode cX3_tightestTown 5 = .ok (.bipush 8, 2) := by decide +kernel
theorem dX3_tightestTown_7 : decode cX3_tightestTown 7 = .ok (.if_icmp .ge 50, 3) := by decide +kernel
theorem dX3_tightestTown_10 : decode cX3_tightestTown 10 = .ok (.iload_n 2, 1) := by decide +kernel
theorem dX3_tightestTown_11 : decode cX3_tightestTown 11 = .ok (.iconst (-1), 1) := by decide +kernel
theorem dX3_tightestTown_12 : decode cX3_tightestTown 12 = .ok (.if_icmp .eq 16, 3) := by decide +kernel
theorem dX3_tightestTown_15 : decode cX3_tightestTown 15 = .ok (.aload_n 0, 1) := by decide +kernel
theorem dX3_tightestTown_16 : decode cX3_tightestTown 16 = .ok (.iload_n 3, 1) := by decide +kernel
theorem dX3_tightestTown_17 : decode cX3_tightestTown 17 = .ok (.invokevirtual 41, 3) := by decide +kernel
theorem dX3_tightestTown_20 : decode cX3_tightestTown 20 = .ok (.aload_n 0, 1) := by decide +kernel
theorem dX3_tightestTown_21 : decode cX3_tightestTown 21 = .ok (.iload_n 2, 1) := by decide +kernel
theorem dX3_tightestTown_22 : decode cX3_tightestTown 22 = .ok (.invokevirtual 41, 3) := by decide +kernel
theorem dX3_tightestTown_25 : decode cX3_tightestTown 25 = .ok (.if_icmp .ge 7, 3) := by decide +kernel
theorem dX3_tightestTown_28 : decode cX3_tightestTown 28 = .ok (.iconst 1, 1) := by decide +kernel
theorem dX3_tightestTown_29 : decode cX3_tightestTown 29 = .ok (.goto 4, 3) := by decide +kernel
theorem dX3_tightestTown_32 : decode cX3_tightestTown 32 = .ok (.iconst 0, 1) := by decide +kernel
theorem dX3_tightestTown_33 : decode cX3_tightestTown 33 = .ok (.istore 4, 2) := by decide +kernel
theorem dX3_tightestTown_35 : decode cX3_tightestTown 35 = .ok (.iload 4, 2) := by decide +kernel
theorem dX3_tightestTown_37 : decode cX3_tightestTown 37 = .ok (.ifCond .eq 14, 3) := by decide +kernel
theorem dX3_tightestTown_40 : decode cX3_tightestTown 40 = .ok (.aload_n 0, 1) := by decide +kernel
theorem dX3_tightestTown_41 : decode cX3_tightestTown 41 = .ok (.iload_n 3, 1) := by decide +kernel
theorem dX3_tightestTown_42 : decode cX3_tightestTown 42 = .ok (.iload_n 1, 1) := by decide +kernel
theorem dX3_tightestTown_43 : decode cX3_tightestTown 43 = .ok (.invokevirtual 51, 3) := by decide +kernel
theorem dX3_tightestTown_46 : decode cX3_tightestTown 46 = .ok (.ifCond .eq 5, 3) := by decide +kernel
theorem dX3_tightestTown_49 : decode cX3_tightestTown 49 = .ok (.iload_n 3, 1) := by decide +kernel
theorem dX3_tightestTown_50 : decode cX3_tightestTown 50 = .ok (.istore_n 2, 1) := by decide +kernel
theorem dX3_tightestTown_51 : decode cX3_tightestTown 51 = .ok (.iinc 3 1, 3) := by decide +kernel
theorem dX3_tightestTown_54 : decode cX3_tightestTown 54 = .ok (.goto (-50), 3) := by decide +kernel
theorem dX3_tightestTown_57 : decode cX3_tightestTown 57 = .ok (.iload_n 2, 1) := by decide +kernel
theorem dX3_tightestTown_58 : decode cX3_tightestTown 58 = .ok (.ireturn, 1) := by decide +kernel
theorem dX3_sleepers_0 : decode cX3_sleepers 0 = .ok (.iconst 0, 1) := by decide +kernel
theorem dX3_sleepers_1 : decode cX3_sleepers 1 = .ok (.istore_n 1, 1) := by decide +kernel
theorem dX3_sleepers_2 : decode cX3_sleepers 2 = .ok (.iconst 0, 1) := by decide +kernel
theorem dX3_sleepers_3 : decode cX3_sleepers 3 = .ok (.istore_n 2, 1) := by decide +kernel
theorem dX3_sleepers_4 : decode cX3_sleepers 4 = .ok (.iload_n 2, 1) := by decide +kernel
theorem dX3_sleepers_5 : decode cX3_sleepers 5 = .ok (.aload_n 0, 1) := by decide +kernel
theorem dX3_sleepers_6 : decode cX3_sleepers 6 = .ok (.getfield 18, 3) := by decide +kernel
theorem dX3_sleepers_9 : decode cX3_sleepers 9 = .ok (.getfield 28, 3) := by decide +kernel
theorem dX3_sleepers_12 : decode cX3_sleepers 12 = .ok (.if_icmp .ge 27, 3) := by decide +kernel
theorem dX3_sleepers_15 : decode cX3_sleepers 15 = .ok (.iload_n 1, 1) := by decide +kernel
theorem dX3_sleepers_16 : decode cX3_sleepers 16 = .ok (.aload_n 0, 1) := by decide +kernel
theorem dX3_sleepers_17 : decode cX3_sleepers 17 = .ok (.getfield 15, 3) := by decide +kernel
theorem dX3_sleepers_20 : decode cX3_sleepers 20 = .ok (.iload_n 2, 1) := by decide +kernel
theorem dX3_sleepers_21 : decode cX3_sleepers 21 = .ok (.iaload, 1) := by decide +kernel
theorem dX3_sleepers_22 : decode cX3_sleepers 22 = .ok (.iconst (-1), 1) := by decide +kernel
theorem dX3_sleepers_23 : decode cX3_sleepers 23 = .ok (.if_icmp .eq 7, 3) := by decide +kernel
theorem dX3_sleepers_26 : decode cX3_sleepers 26 = .ok (.iconst 1, 1) := by decide +kernel
theorem dX3_sleepers_27 : decode cX3_sleepers 27 = .ok (.goto 4, 3) := by decide +kernel
theorem dX3_sleepers_30 : decode cX3_sleepers 30 = .ok (.iconst 0, 1) := by decide +kernel
theorem dX3_sleepers_31 : decode cX3_sleepers 31 = .ok (.iadd, 1) := by decide +kernel
theorem dX3_sleepers_32 : decode cX3_sleepers 32 = .ok (.istore_n 1, 1) := by decide +kernel
theorem dX3_sleepers_33 : decode cX3_sleepers 33 = .ok (.iinc 2 1, 3) := by decide +kernel
theorem dX3_sleepers_36 : decode cX3_sleepers 36 = .ok (.goto (-32), 3) := by decide +kernel
theorem dX3_sleepers_39 : decode cX3_sleepers 39 = .ok (.iload_n 1, 1) := by decide +kernel
theorem dX3_sleepers_40 : decode cX3_sleepers 40 = .ok (.ireturn, 1) := by decide +kernel
theorem dX4_init_0 : decode cX4_init 0 = .ok (.aload_n 0, 1) := by decide +kernel
theorem dX4_init_1 : decode cX4_init 1 = .ok (.invokespecial 1, 3) := by decide +kernel
theorem dX4_init_4 : decode cX4_init 4 = .ok (.aload_n 0, 1) := by decide +kernel
theorem dX4_init_5 : decode cX4_init 5 = .ok (.iconst 2, 1) := by decide +kernel
theorem dX4_init_6 : decode cX4_init 6 = .ok (.putfield 7, 3) := by decide +kernel
theorem dX4_init_9 : decode cX4_init 9 = .ok (.aload_n 0, 1) := by decide +kernel
theorem dX4_init_10 : decode cX4_init 10 = .ok (.iconst 0, 1) := by decide +kernel
theorem dX4_init_11 : decode cX4_init 11 = .ok (.putfield 13, 3) := by decide +kernel
theorem dX4_init_14 : decode cX4_init 14 = .ok (.aload_n 0, 1) := by decide +kernel
theorem dX4_init_15 : decode cX4_init 15 = .ok (.aload_n 1, 1) := by decide +kernel
theorem dX4_init_16 : decode cX4_init 16 = .ok (.putfield 16, 3) := by decide +kernel
theorem dX4_init_19 : decode cX4_init 19 = .ok (.return_, 1) := by decide +kernel
theorem dX4_holds_0 : decode cX4_holds 0 = .ok (.aload_n 0, 1) := by decide +kernel
theorem dX4_holds_1 : decode cX4_holds 1 = .ok (.getfield 13, 3) := by decide +kernel
theorem dX4_holds_4 : decode cX4_holds 4 = .ok (.iload_n 1, 1) := by decide +kernel
theorem dX4_holds_5 : decode cX4_holds 5 = .ok (.ishr, 1) := by decide +kernel
theorem dX4_holds_6 : decode cX4_holds 6 = .ok (.iconst 1, 1) := by decide +kernel
theorem dX4_holds_7 : decode cX4_holds 7 = .ok (.iand, 1) := by decide +kernel
theorem dX4_holds_8 : decode cX4_holds 8 = .ok (.iconst 1, 1) := by decide +kernel
theorem dX4_holds_9 : decode cX4_holds 9 = .ok (.if_icmp .ne 7, 3) := by decide +kernel
theorem dX4_holds_12 : decode cX4_holds 12 = .ok (.iconst 1, 1) := by decide +kernel
theorem dX4_holds_13 : decode cX4_holds 13 = .ok (.goto 4, 3) := by decide +kernel
theorem dX4_holds_16 : decode cX4_holds 16 = .ok (.iconst 0, 1) := by decide +kernel
theorem dX4_holds_17 : decode cX4_holds 17 = .ok (.ireturn, 1) := by decide +kernel
theorem dX4_add_0 : decode cX4_add 0 = .ok (.aload_n 0, 1) := by decide +kernel
theorem dX4_add_1 : decode cX4_add 1 = .ok (.dup, 1) := by decide +kernel
theorem dX4_add_2 : decode cX4_add 2 = .ok (.getfield 13, 3) := by decide +kernel
theorem dX4_add_5 : decode cX4_add 5 = .ok (.iconst 1, 1) := by decide +kernel
theorem dX4_add_6 : decode cX4_add 6 = .ok (.iload_n 1, 1) := by decide +kernel
theorem dX4_add_7 : decode cX4_add 7 = .ok (.ishl, 1) := by decide +kernel
theorem dX4_add_8 : decode cX4_add 8 = .ok (.ior, 1) := by decide +kernel
theorem dX4_add_9 : decode cX4_add 9 = .ok (.putfield 13, 3) := by decide +kernel
theorem dX4_add_12 : decode cX4_add 12 = .ok (.return_, 1) := by decide +kernel
theorem dX4_remove_0 : decode cX4_remove 0 = .ok (.aload_n 0, 1) := by decide +kernel
theorem dX4_remove_1 : decode cX4_remove 1 = .ok (.dup, 1) := by decide +kernel
theorem dX4_remove_2 : decode cX4_remove 2 = .ok (.getfield 13, 3) := by decide +kernel
theorem dX4_remove_5 : decode cX4_remove 5 = .ok (.iconst 1, 1) := by decide +kernel
theorem dX4_remove_6 : decode cX4_remove 6 = .ok (.iload_n 1, 1) := by decide +kernel
theorem dX4_remove_7 : decode cX4_remove 7 = .ok (.ishl, 1) := by decide +kernel
theorem dX4_remove_8 : decode cX4_remove 8 = .ok (.iconst (-1), 1) := by decide +kernel
theorem dX4_remove_9 : decode cX4_remove 9 = .ok (.ixor, 1) := by decide +kernel
theorem dX4_remove_10 : decode cX4_remove 10 = .ok (.iand, 1) := by decide +kernel
theorem dX4_remove_11 : decode cX4_remove 11 = .ok (.putfield 13, 3) := by decide +kernel
theorem dX4_remove_14 : decode cX4_remove 14 = .ok (.return_, 1) := by decide +kernel
theorem dX4_number_0 : decode cX4_number 0 = .ok (.aload_n 0, 1) := by decide +kernel
theorem dX4_number_1 : decode cX4_number 1 = .ok (.getfield 13, 3) := by decide +kernel
theorem dX4_number_4 : decode cX4_number 4 = .ok (.invokestatic 20, 3) := by decide +kernel
theorem dX4_number_7 : decode cX4_number 7 = .ok (.ireturn, 1) := by decide +kernel
theorem dX4_length_0 : decode cX4_length 0 = .ok (.iconst 0, 1) := by decide +kernel
theorem dX4_length_1 : decode cX4_length 1 = .ok (.istore_n 1, 1) := by decide +kernel
theorem dX4_length_2 : decode cX4_length 2 = .ok (.iconst 0, 1) := by decide +kernel
theorem dX4_length_3 : decode cX4_length 3 = .ok (.istore_n 2, 1) := by decide +kernel
theorem dX4_length_4 : decode cX4_length 4 = .ok (.iload_n 2, 1) := by decide +kernel
theorem dX4_length_5 : decode cX4_length 5 = .ok (.aload_n 0, 1) := by decide +kernel
theorem dX4_length_6 : decode cX4_length 6 = .ok (.getfield 16, 3) := by decide +kernel
theorem dX4_length_9 : decode cX4_length 9 = .ok (.getfield 26, 3) := by decide +kernel
theorem dX4_length_12 : decode cX4_length 12 = .ok (.if_icmp .ge 37, 3) := by decide +kernel
theorem dX4_length_15 : decode cX4_length 15 = .ok (.iload_n 1, 1) := by decide +kernel
theorem dX4_length_16 : decode cX4_length 16 = .ok (.aload_n 0, 1) := by decide +kernel
theorem dX4_length_17 : decode cX4_length 17 = .ok (.iload_n 2, 1) := by decide +kernel
theorem dX4_length_18 : decode cX4_length 18 = .ok (.invokevirtual 31, 3) := by decide +kernel
theorem dX4_length_21 : decode cX4_length 21 = .ok (.ifCond .eq 19, 3) := by decide +kernel
theorem dX4_length_24 : decode cX4_length 24 = .ok (.aload_n 0, 1) := by decide +kernel
theorem dX4_length_25 : decode cX4_length 25 = .ok (.getfield 16, 3) := by decide +kernel
theorem dX4_length_28 : decode cX4_length 28 = .ok (.getfield 35, 3) := by decide +kernel
theorem dX4_length_31 : decode cX4_length 31 = .ok (.iload_n 2, 1) := by decide +kernel
theorem dX4_length_32 : decode cX4_length 32 = .ok (.iaload, 1) := by decide +kernel
theorem dX4_length_33 : decode cX4_length 33 = .ok (.iconst 4, 1) := by decide +kernel
theorem dX4_length_34 : decode cX4_length 34 = .ok (.invokestatic 39, 3) := by decide +kernel
theorem dX4_length_37 : decode cX4_length 37 = .ok (.goto 4, 3) := by decide +kernel
theorem dX4_length_40 : decode cX4_length 40 = .ok (.iconst 0, 1) := by decide +kernel
theorem dX4_length_41 : decode cX4_length 41 = .ok (.iadd, 1) := by decide +kernel
theorem dX4_length_42 : decode cX4_length 42 = .ok (.istore_n 1, 1) := by decide +kernel
theorem dX4_length_43 : decode cX4_length 43 = .ok (.iinc 2 1, 3) := by decide +kernel
theorem dX4_length_46 : decode cX4_length 46 = .ok (.goto (-42), 3) := by decide +kernel
theorem dX4_length_49 : decode cX4_length 49 = .ok (.iload_n 1, 1) := by decide +kernel
theorem dX4_length_50 : decode cX4_length 50 = .ok (.aload_n 0, 1) := by decide +kernel
theorem dX4_length_51 : decode cX4_length 51 = .ok (.getfield 7, 3) := by decide +kernel
theorem dX4_length_54 : decode cX4_length 54 = .ok (.iconst 0, 1) := by decide +kernel
theorem dX4_length_55 : decode cX4_length 55 = .ok (.aload_n 0, 1) := by decide +kernel
theorem dX4_length_56 : decode cX4_length 56 = .ok (.invokevirtual 45, 3) := by decide +kernel
theorem dX4_length_59 : decode cX4_length 59 = .ok (.iconst 1, 1) := by decide +kernel
theorem dX4_length_60 : decode cX4_length 60 = .ok (.isub, 1) := by decide +kernel
theorem dX4_length_61 : decode cX4_length 61 = .ok (.invokestatic 48, 3) := by decide +kernel
theorem dX4_length_64 : decode cX4_length 64 = .ok (.imul, 1) := by decide +kernel
theorem dX4_length_65 : decode cX4_length 65 = .ok (.iadd, 1) := by decide +kernel
theorem dX4_length_66 : decode cX4_length 66 = .ok (.ireturn, 1) := by decide +kernel
theorem dX5_init_0 : decode cX5_init 0 = .ok (.aload_n 0, 1) := by decide +kernel
theorem dX5_init_1 : decode cX5_init 1 = .ok (.invokespecial 3, 3) := by decide +kernel
theorem dX5_init_4 : decode cX5_init 4 = .ok (.aload_n 0, 1) := by decide +kernel
theorem dX5_init_5 : decode cX5_init 5 = .ok (.iconst 0, 1) := by decide +kernel
theorem dX5_init_6 : decode cX5_init 6 = .ok (.putfield 9, 3) := by decide +kernel
theorem dX5_init_9 : decode cX5_init 9 = .ok (.aload_n 0, 1) := by decide +kernel
theorem dX5_init_10 : decode cX5_init 10 = .ok (.bipush 9, 2) := by decide +kernel
theorem dX5_init_12 : decode cX5_init 12 = .ok (.newarray .int, 2) := by decide +kernel
theorem dX5_init_14 : decode cX5_init 14 = .ok (.putfield 15, 3) := by decide +kernel
theorem dX5_init_17 : decode cX5_init 17 = .ok (.aload_n 0, 1) := by decide +kernel
theorem dX5_init_18 : decode cX5_init 18 = .ok (.iconst 0, 1) := by decide +kernel
theorem dX5_init_19 : decode cX5_init 19 = .ok (.putfield 19, 3) := by decide +kernel
theorem dX5_init_22 : decode cX5_init 22 = .ok (.aload_n 0, 1) := by decide +kernel
theorem dX5_init_23 : decode cX5_init 23 = .ok (.bipush 9, 2) := by decide +kernel
theorem dX5_init_25 : decode cX5_init 25 = .ok (.newarray .int, 2) := by decide +kernel
theorem dX5_init_27 : decode cX5_init 27 = .ok (.putfield 22, 3) := by decide +kernel
theorem dX5_init_30 : decode cX5_init 30 = .ok (.aload_n 0, 1) := by decide +kernel
theorem dX5_init_31 : decode cX5_init 31 = .ok (.bipush 9, 2) := by decide +kernel
theorem dX5_init_33 : decode cX5_init 33 = .ok (.newarray .int, 2) := by decide +kernel
theorem dX5_init_35 : decode cX5_init 35 = .ok (.putfield 25, 3) := by decide +kernel
theorem dX5_init_38 : decode cX5_init 38 = .ok (.aload_n 0, 1) := by decide +kernel
theorem dX5_init_39 : decode cX5_init 39 = .ok (.bipush 81, 2) := by decide +kernel
theorem dX5_init_41 : decode cX5_init 41 = .ok (.newarray .int, 2) := by decide +kernel
theorem dX5_init_43 : decode cX5_init 43 = .ok (.putfield 28, 3) := by decide +kernel
theorem dX5_init_46 : decode cX5_init 46 = .ok (.aload_n 0, 1) := by decide +kernel
theorem dX5_init_47 : decode cX5_init 47 = .ok (.iconst 0, 1) := by decide +kernel
theorem dX5_init_48 : decode cX5_init 48 = .ok (.newarray .int, 2) := by decide +kernel
theorem dX5_init_50 : decode cX5_init 50 = .ok (.putfield 31, 3) := by decide +kernel
theorem dX5_init_53 : decode cX5_init 53 = .ok (.return_, 1) := by decide +kernel
theorem dX5_begin_0 : decode cX5_begin 0 = .ok (.aload_n 0, 1) := by decide +kernel
theorem dX5_begin_1 : decode cX5_begin 1 = .ok (.iconst 0, 1) := by decide +kernel
theorem dX5_begin_2 : decode cX5_begin 2 = .ok (.putfield 19, 3) := by decide +kernel
theorem dX5_begin_5 : decode cX5_begin 5 = .ok (.aload_n 0, 1) := by decide +kernel
theorem dX5_begin_6 : decode cX5_begin 6 = .ok (.getfield 31, 3) := by decide +kernel
theorem dX5_begin_9 : decode cX5_begin 9 = .ok (.arraylength, 1) := by decide +kernel
theorem dX5_begin_10 : decode cX5_begin 10 = .ok (.ifCond .ne 12, 3) := by decide +kernel
theorem dX5_begin_13 : decode cX5_begin 13 = .ok (.aload_n 0, 1) := by decide +kernel
theorem dX5_begin_14 : decode cX5_begin 14 = .ok (.sipush 4608, 3) := by decide +kernel
theorem dX5_begin_17 : decode cX5_begin 17 = .ok (.newarray .int, 2) := by decide +kernel
theorem dX5_begin_19 : decode cX5_begin 19 = .ok (.putfield 31, 3) := by decide +kernel
theorem dX5_begin_22 : decode cX5_begin 22 = .ok (.return_, 1) := by decide +kernel
theorem dX5_add_0 : decode cX5_add 0 = .ok (.aload_n 0, 1) := by decide +kernel
theorem dX5_add_1 : decode cX5_add 1 = .ok (.getfield 19, 3) := by decide +kernel
theorem dX5_add_4 : decode cX5_add 4 = .ok (.bipush 9, 2) := by decide +kernel
theorem dX5_add_6 : decode cX5_add 6 = .ok (.if_icmp .ge 33, 3) := by decide +kernel
theorem dX5_add_9 : decode cX5_add 9 = .ok (.aload_n 0, 1) := by decide +kernel
theorem dX5_add_10 : decode cX5_add 10 = .ok (.getfield 22, 3) := by decide +kernel
theorem dX5_add_13 : decode cX5_add 13 = .ok (.aload_n 0, 1) := by decide +kernel
theorem dX5_add_14 : decode cX5_add 14 = .ok (.getfield 19, 3) := by decide +kernel
theorem dX5_add_17 : decode cX5_add 17 = .ok (.iload_n 1, 1) := by decide +kernel
theorem dX5_add_18 : decode cX5_add 18 = .ok (.iastore, 1) := by decide +kernel
theorem dX5_add_19 : decode cX5_add 19 = .ok (.aload_n 0, 1) := by decide +kernel
theorem dX5_add_20 : decode cX5_add 20 = .ok (.getfield 25, 3) := by decide +kernel
theorem dX5_add_23 : decode cX5_add 23 = .ok (.aload_n 0, 1) := by decide +kernel
theorem dX5_add_24 : decode cX5_add 24 = .ok (.getfield 19, 3) := by decide +kernel
theorem dX5_add_27 : decode cX5_add 27 = .ok (.iload_n 2, 1) := by decide +kernel
theorem dX5_add_28 : decode cX5_add 28 = .ok (.iastore, 1) := by decide +kernel
theorem dX5_add_29 : decode cX5_add 29 = .ok (.aload_n 0, 1) := by decide +kernel
theorem dX5_add_30 : decode cX5_add 30 = .ok (.dup, 1) := by decide +kernel
theorem dX5_add_31 : decode cX5_add 31 = .ok (.getfield 19, 3) := by decide +kernel
theorem dX5_add_34 : decode cX5_add 34 = .ok (.iconst 1, 1) := by decide +kernel
theorem dX5_add_35 : decode cX5_add 35 = .ok (.iadd, 1) := by decide +kernel
theorem dX5_add_36 : decode cX5_add 36 = .ok (.putfield 19, 3) := by decide +kernel
theorem dX5_add_39 : decode cX5_add 39 = .ok (.return_, 1) := by decide +kernel
theorem dX5_price_0 : decode cX5_price 0 = .ok (.aload_n 1, 1) := by decide +kernel
theorem dX5_price_1 : decode cX5_price 1 = .ok (.iconst 3, 1) := by decide +kernel
theorem dX5_price_2 : decode cX5_price 2 = .ok (.invokevirtual 34, 3) := by decide +kernel
theorem dX5_price_5 : decode cX5_price 5 = .ok (.istore_n 2, 1) := by decide +kernel
theorem dX5_price_6 : decode cX5_price 6 = .ok (.iconst 0, 1) := by decide +kernel
theorem dX5_price_7 : decode cX5_price 7 = .ok (.istore_n 3, 1) := by decide +kernel
theorem dX5_price_8 : decode cX5_price 8 = .ok (.iload_n 3, 1) := by decide +kernel
theorem dX5_price_9 : decode cX5_price 9 = .ok (.aload_n 0, 1) := by decide +kernel
theorem dX5_price_10 : decode cX5_price 10 = .ok (.getfield 19, 3) := by decide +kernel
theorem dX5_price_13 : decode cX5_price 13 = .ok (.if_icmp .ge 97, 3) := by decide +kernel
theorem dX5_price_16 : decode cX5_price 16 = .ok (.iconst 0, 1) := by decide +kernel
theorem dX5_price_17 : decode cX5_price 17 = .ok (.istore 4, 2) := by decide +kernel
theorem dX5_price_19 : decode cX5_price 19 = .ok (.iload 4, 2) := by decide +kernel
theorem dX5_price_21 : decode cX5_price 21 = .ok (.aload_n 0, 1) := by decide +kernel
theorem dX5_price_22 : decode cX5_price 22 = .ok (.getfield 19, 3) := by decide +kernel
theorem dX5_price_25 : decode cX5_price 25 = .ok (.if_icmp .ge 79, 3) := by decide +kernel
theorem dX5_price_28 : decode cX5_price 28 = .ok (.aload_n 0, 1) := by decide +kernel
theorem dX5_price_29 : decode cX5_price 29 = .ok (.getfield 25, 3) := by decide +kernel
theorem dX5_price_32 : decode cX5_price 32 = .ok (.iload_n 3, 1) := by decide +kernel
theorem dX5_price_33 : decode cX5_price 33 = .ok (.iaload, 1) := by decide +kernel
theorem dX5_price_34 : decode cX5_price 34 = .ok (.iload_n 2, 1) := by decide +kernel
theorem dX5_price_35 : decode cX5_price 35 = .ok (.iand, 1) := by decide +kernel
theorem dX5_price_36 : decode cX5_price 36 = .ok (.ifCond .eq 19, 3) := by decide +kernel
theorem dX5_price_39 : decode cX5_price 39 = .ok (.aload_n 0, 1) := by decide +kernel
theorem dX5_price_40 : decode cX5_price 40 = .ok (.getfield 25, 3) := by decide +kernel
theorem dX5_price_43 : decode cX5_price 43 = .ok (.iload 4, 2) := by decide +kernel
theorem dX5_price_45 : decode cX5_price 45 = .ok (.iaload, 1) := by decide +kernel
theorem dX5_price_46 : decode cX5_price 46 = .ok (.iload_n 2, 1) := by decide +kernel
theorem dX5_price_47 : decode cX5_price 47 = .ok (.iand, 1) := by decide +kernel
theorem dX5_price_48 : decode cX5_price 48 = .ok (.ifCond .eq 7, 3) := by decide +kernel
theorem dX5_price_51 : decode cX5_price 51 = .ok (.iconst 1, 1) := by decide +kernel
theorem dX5_price_52 : decode cX5_price 52 = .ok (.goto 4, 3) := by decide +kernel
theorem dX5_price_55 : decode cX5_price 55 = .ok (.iconst 0, 1) := by decide +kernel
theorem dX5_price_56 : decode cX5_price 56 = .ok (.istore 5, 2) := by decide +kernel
theorem dX5_price_58 : decode cX5_price 58 = .ok (.aload_n 0, 1) := by decide +kernel
theorem dX5_price_59 : decode cX5_price 59 = .ok (.getfield 28, 3) := by decide +kernel
theorem dX5_price_62 : decode cX5_price 62 = .ok (.iload_n 3, 1) := by decide +kernel
theorem dX5_price_63 : decode cX5_price 63 = .ok (.bipush 9, 2) := by decide +kernel
theorem dX5_price_65 : decode cX5_price 65 = .ok (.imul, 1) := by decide +kernel
theorem dX5_price_66 : decode cX5_price 66 = .ok (.iload 4, 2) := by decide +kernel
theorem dX5_price_68 : decode cX5_price 68 = .ok (.iadd, 1) := by decide +kernel
theorem dX5_price_69 : decode cX5_price 69 = .ok (.iload 5, 2) := by decide +kernel
theorem dX5_price_71 : decode cX5_price 71 = .ok (.ifCond .eq 8, 3) := by decide +kernel
theorem dX5_price_74 : decode cX5_price 74 = .ok (.ldc 40, 2) := by decide +kernel
theorem dX5_price_76 : decode cX5_price 76 = .ok (.goto 21, 3) := by decide +kernel
theorem dX5_price_79 : decode cX5_price 79 = .ok (.aload_n 1, 1) := by decide +kernel
theorem dX5_price_80 : decode cX5_price 80 = .ok (.aload_n 0, 1) := by decide +kernel
theorem dX5_price_81 : decode cX5_price 81 = .ok (.getfield 25, 3) := by decide +kernel
theorem dX5_price_84 : decode cX5_price 84 = .ok (.iload_n 3, 1) := by decide +kernel
theorem dX5_price_85 : decode cX5_price 85 = .ok (.iaload, 1) := by decide +kernel
theorem dX5_price_86 : decode cX5_price 86 = .ok (.aload_n 0, 1) := by decide +kernel
theorem dX5_price_87 : decode cX5_price 87 = .ok (.getfield 25, 3) := by decide +kernel
theorem dX5_price_90 : decode cX5_price 90 = .ok (.iload 4, 2) := by decide +kernel
theorem dX5_price_92 : decode cX5_price 92 = .ok (.iaload, 1) := by decide +kernel
theorem dX5_price_93 : decode cX5_price 93 = .ok (.ixor, 1) := by decide +kernel
theorem dX5_price_94 : decode cX5_price 94 = .ok (.invokevirtual 41, 3) := by decide +kernel
theorem dX5_price_97 : decode cX5_price 97 = .ok (.iastore, 1) := by decide +kernel
theorem dX5_price_98 : decode cX5_price 98 = .ok (.iinc 4 1, 3) := by decide +kernel
theorem dX5_price_101 : decode cX5_price 101 = .ok (.goto (-82), 3) := by decide +kernel
theorem dX5_price_104 : decode cX5_price 104 = .ok (.iinc 3 1, 3) := by decide +kernel
theorem dX5_price_107 : decode cX5_price 107 = .ok (.goto (-99), 3) := by decide +kernel
theorem dX5_price_110 : decode cX5_price 110 = .ok (.return_, 1) := by decide +kernel
theorem dX5_leastSum_0 : decode cX5_leastSum 0 = .ok (.iconst 1, 1) := by decide +kernel
theorem dX5_leastSum_1 : decode cX5_leastSum 1 = .ok (.aload_n 0, 1) := by decide +kernel
theorem dX5_leastSum_2 : decode cX5_leastSum 2 = .ok (.getfield 19, 3) := by decide +kernel
theorem dX5_leastSum_5 : decode cX5_leastSum 5 = .ok (.ishl, 1) := by decide +kernel
theorem dX5_leastSum_6 : decode cX5_leastSum 6 = .ok (.iconst 1, 1) := by decide +kernel
theorem dX5_leastSum_7 : decode cX5_leastSum 7 = .ok (.isub, 1) := by decide +kernel
theorem dX5_leastSum_8 : decode cX5_leastSum 8 = .ok (.istore_n 1, 1) := by decide +kernel
theorem dX5_leastSum_9 : decode cX5_leastSum 9 = .ok (.iload_n 1, 1) := by decide +kernel
theorem dX5_leastSum_10 : decode cX5_leastSum 10 = .ok (.ifCond .le 51, 3) := by decide +kernel
theorem dX5_leastSum_13 : decode cX5_leastSum 13 = .ok (.iconst 0, 1) := by decide +kernel
theorem dX5_leastSum_14 : decode cX5_leastSum 14 = .ok (.istore_n 2, 1) := by decide +kernel
theorem dX5_leastSum_15 : decode cX5_leastSum 15 = .ok (.iload_n 2, 1) := by decide +kernel
theorem dX5_leastSum_16 : decode cX5_leastSum 16 = .ok (.aload_n 0, 1) := by decide +kernel
theorem dX5_leastSum_17 : decode cX5_leastSum 17 = .ok (.getfield 19, 3) := by decide +kernel
theorem dX5_leastSum_20 : decode cX5_leastSum 20 = .ok (.if_icmp .ge 35, 3) := by decide +kernel
theorem dX5_leastSum_23 : decode cX5_leastSum 23 = .ok (.iload_n 1, 1) := by decide +kernel
theorem dX5_leastSum_24 : decode cX5_leastSum 24 = .ok (.iload_n 2, 1) := by decide +kernel
theorem dX5_leastSum_25 : decode cX5_leastSum 25 = .ok (.ishr, 1) := by decide +kernel
theorem dX5_leastSum_26 : decode cX5_leastSum 26 = .ok (.iconst 1, 1) := by decide +kernel
theorem dX5_leastSum_27 : decode cX5_leastSum 27 = .ok (.iand, 1) := by decide +kernel
theorem dX5_leastSum_28 : decode cX5_leastSum 28 = .ok (.iconst 1, 1) := by decide +kernel
theorem dX5_leastSum_29 : decode cX5_leastSum 29 = .ok (.if_icmp .ne 20, 3) := by decide +kernel
theorem dX5_leastSum_32 : decode cX5_leastSum 32 = .ok (.aload_n 0, 1) := by decide +kernel
theorem dX5_leastSum_33 : decode cX5_leastSum 33 = .ok (.getfield 31, 3) := by decide +kernel
theorem dX5_leastSum_36 : decode cX5_leastSum 36 = .ok (.iload_n 1, 1) := by decide +kernel
theorem dX5_leastSum_37 : decode cX5_leastSum 37 = .ok (.bipush 9, 2) := by decide +kernel
theorem dX5_leastSum_39 : decode cX5_leastSum 39 = .ok (.imul, 1) := by decide +kernel
theorem dX5_leastSum_40 : decode cX5_leastSum 40 = .ok (.iload_n 2, 1) := by decide +kernel
theorem dX5_leastSum_41 : decode cX5_leastSum 41 = .ok (.iadd, 1) := by decide +kernel
theorem dX5_leastSum_42 : decode cX5_leastSum 42 = .ok (.aload_n 0, 1) := by decide +kernel
theorem dX5_leastSum_43 : decode cX5_leastSum 43 = .ok (.iload_n 1, 1) := by decide +kernel
theorem dX5_leastSum_44 : decode cX5_leastSum 44 = .ok (.iload_n 2, 1) := by decide +kernel
theorem dX5_leastSum_45 : decode cX5_leastSum 45 = .ok (.invokevirtual 44, 3) := by decide +kernel
theorem dX5_leastSum_48 : decode cX5_leastSum 48 = .ok (.iastore, 1) := by decide +kernel
theorem dX5_leastSum_49 : decode cX5_leastSum 49 = .ok (.iinc 2 1, 3) := by decide +kernel
theorem dX5_leastSum_52 : decode cX5_leastSum 52 = .ok (.goto (-37), 3) := by decide +kernel
theorem dX5_leastSum_55 : decode cX5_leastSum 55 = .ok (.iinc 1 (-1), 3) := by decide +kernel
theorem dX5_leastSum_58 : decode cX5_leastSum 58 = .ok (.goto (-49), 3) := by decide +kernel
theorem dX5_leastSum_61 : decode cX5_leastSum 61 = .ok (.ldc 40, 2) := by decide +kernel
theorem dX5_leastSum_63 : decode cX5_leastSum 63 = .ok (.istore_n 1, 1) := by decide +kernel
theorem dX5_leastSum_64 : decode cX5_leastSum 64 = .ok (.iconst 0, 1) := by decide +kernel
theorem dX5_leastSum_65 : decode cX5_leastSum 65 = .ok (.istore_n 2, 1) := by decide +kernel
theorem dX5_leastSum_66 : decode cX5_leastSum 66 = .ok (.iload_n 2, 1) := by decide +kernel
theorem dX5_leastSum_67 : decode cX5_leastSum 67 = .ok (.aload_n 0, 1) := by decide +kernel
theorem dX5_leastSum_68 : decode cX5_leastSum 68 = .ok (.getfield 19, 3) := by decide +kernel
theorem dX5_leastSum_71 : decode cX5_leastSum 71 = .ok (.if_icmp .ge 21, 3) := by decide +kernel
theorem dX5_leastSum_74 : decode cX5_leastSum 74 = .ok (.iload_n 1, 1) := by decide +kernel
theorem dX5_leastSum_75 : decode cX5_leastSum 75 = .ok (.aload_n 0, 1) := by decide +kernel
theorem dX5_leastSum_76 : decode cX5_leastSum 76 = .ok (.iconst 0, 1) := by decide +kernel
theorem dX5_leastSum_77 : decode cX5_leastSum 77 = .ok (.iconst (-1), 1) := by decide +kernel
theorem dX5_leastSum_78 : decode cX5_leastSum 78 = .ok (.iload_n 2, 1) := by decide +kernel
theorem dX5_leastSum_79 : decode cX5_leastSum 79 = .ok (.invokevirtual 48, 3) := by decide +kernel
theorem dX5_leastSum_82 : decode cX5_leastSum 82 = .ok (.invokestatic 52, 3) := by decide +kernel
theorem dX5_leastSum_85 : decode cX5_leastSum 85 = .ok (.istore_n 1, 1) := by decide +kernel
theorem dX5_leastSum_86 : decode cX5_leastSum 86 = .ok (.iinc 2 1, 3) := by decide +kernel
theorem dX5_leastSum_89 : decode cX5_leastSum 89 = .ok (.goto (-23), 3) := by decide +kernel
theorem dX5_leastSum_92 : decode cX5_leastSum 92 = .ok (.iload_n 1, 1) := by decide +kernel
theorem dX5_leastSum_93 : decode cX5_leastSum 93 = .ok (.ireturn, 1) := by decide +kernel
theorem dX5_leastRest_0 : decode cX5_leastRest 0 = .ok (.iload_n 1, 1) := by decide +kernel
theorem dX5_leastRest_1 : decode cX5_leastRest 1 = .ok (.iconst 1, 1) := by decide +kernel
theorem dX5_leastRest_2 : decode cX5_leastRest 2 = .ok (.aload_n 0, 1) := by decide +kernel
theorem dX5_leastRest_3 : decode cX5_leastRest 3 = .ok (.getfield 19, 3) := by decide +kernel
theorem dX5_leastRest_6 : decode cX5_leastRest 6 = .ok (.ishl, 1) := by decide +kernel
theorem dX5_leastRest_7 : decode cX5_leastRest 7 = .ok (.iconst 1, 1) := by decide +kernel
theorem dX5_leastRest_8 : decode cX5_leastRest 8 = .ok (.isub, 1) := by decide +kernel
theorem dX5_leastRest_9 : decode cX5_leastRest 9 = .ok (.if_icmp .ne 5, 3) := by decide +kernel
theorem dX5_leastRest_12 : decode cX5_leastRest 12 = .ok (.iconst 0, 1) := by decide +kernel
theorem dX5_leastRest_13 : decode cX5_leastRest 13 = .ok (.ireturn, 1) := by decide +kernel
theorem dX5_leastRest_14 : decode cX5_leastRest 14 = .ok (.ldc 40, 2) := by decide +kernel
theorem dX5_leastRest_16 : decode cX5_leastRest 16 = .ok (.istore_n 3, 1) := by decide +kernel
theorem dX5_leastRest_17 : decode cX5_leastRest 17 = .ok (.iconst 0, 1) := by decide +kernel
theorem dX5_leastRest_18 : decode cX5_leastRest 18 = .ok (.istore 4, 2) := by decide +kernel
theorem dX5_leastRest_20 : decode cX5_leastRest 20 = .ok (.iload 4, 2) := by decide +kernel
theorem dX5_leastRest_22 : decode cX5_leastRest 22 = .ok (.aload_n 0, 1) := by decide +kernel
theorem dX5_leastRest_23 : decode cX5_leastRest 23 = .ok (.getfield 19, 3) := by decide +kernel
theorem dX5_leastRest_26 : decode cX5_leastRest 26 = .ok (.if_icmp .ge 31, 3) := by decide +kernel
theorem dX5_leastRest_29 : decode cX5_leastRest 29 = .ok (.iload_n 1, 1) := by decide +kernel
theorem dX5_leastRest_30 : decode cX5_leastRest 30 = .ok (.iload 4, 2) := by decide +kernel
theorem dX5_leastRest_32 : decode cX5_leastRest 32 = .ok (.ishr, 1) := by decide +kernel
theorem dX5_leastRest_33 : decode cX5_leastRest 33 = .ok (.iconst 1, 1) := by decide +kernel
theorem dX5_leastRest_34 : decode cX5_leastRest 34 = .ok (.iand, 1) := by decide +kernel
theorem dX5_leastRest_35 : decode cX5_leastRest 35 = .ok (.ifCond .ne 16, 3) := by decide +kernel
theorem dX5_leastRest_38 : decode cX5_leastRest 38 = .ok (.iload_n 3, 1) := by decide +kernel
theorem dX5_leastRest_39 : decode cX5_leastRest 39 = .ok (.aload_n 0, 1) := by decide +kernel
theorem dX5_leastRest_40 : decode cX5_leastRest 40 = .ok (.iload_n 1, 1) := by decide +kernel
theorem dX5_leastRest_41 : decode cX5_leastRest 41 = .ok (.iload_n 2, 1) := by decide +kernel
theorem dX5_leastRest_42 : decode cX5_leastRest 42 = .ok (.iload 4, 2) := by decide +kernel
theorem dX5_leastRest_44 : decode cX5_leastRest 44 = .ok (.invokevirtual 48, 3) := by decide +kernel
theorem dX5_leastRest_47 : decode cX5_leastRest 47 = .ok (.invokestatic 52, 3) := by decide +kernel
theorem dX5_leastRest_50 : decode cX5_leastRest 50 = .ok (.istore_n 3, 1) := by decide +kernel
theorem dX5_leastRest_51 : decode cX5_leastRest 51 = .ok (.iinc 4 1, 3) := by decide +kernel
theorem dX5_leastRest_54 : decode cX5_leastRest 54 = .ok (.goto (-34), 3) := by decide +kernel
theorem dX5_leastRest_57 : decode cX5_leastRest 57 = .ok (.iload_n 3, 1) := by decide +kernel
theorem dX5_leastRest_58 : decode cX5_leastRest 58 = .ok (.ireturn, 1) := by decide +kernel
theorem dX5_sumWith_0 : decode cX5_sumWith 0 = .ok (.iload_n 2, 1) := by decide +kernel
theorem dX5_sumWith_1 : decode cX5_sumWith 1 = .ok (.iconst (-1), 1) := by decide +kernel
theorem dX5_sumWith_2 : decode cX5_sumWith 2 = .ok (.if_icmp .ne 7, 3) := by decide +kernel
theorem dX5_sumWith_5 : decode cX5_sumWith 5 = .ok (.iconst 0, 1) := by decide +kernel
theorem dX5_sumWith_6 : decode cX5_sumWith 6 = .ok (.goto 14, 3) := by decide +kernel
theorem dX5_sumWith_9 : decode cX5_sumWith 9 = .ok (.aload_n 0, 1) := by decide +kernel
theorem dX5_sumWith_10 : decode cX5_sumWith 10 = .ok (.getfield 28, 3) := by decide +kernel
theorem dX5_sumWith_13 : decode cX5_sumWith 13 = .ok (.iload_n 2, 1) := by decide +kernel
theorem dX5_sumWith_14 : decode cX5_sumWith 14 = .ok (.bipush 9, 2) := by decide +kernel
theorem dX5_sumWith_16 : decode cX5_sumWith 16 = .ok (.imul, 1) := by decide +kernel
theorem dX5_sumWith_17 : decode cX5_sumWith 17 = .ok (.iload_n 3, 1) := by decide +kernel
theorem dX5_sumWith_18 : decode cX5_sumWith 18 = .ok (.iadd, 1) := by decide +kernel
theorem dX5_sumWith_19 : decode cX5_sumWith 19 = .ok (.iaload, 1) := by decide +kernel
theorem dX5_sumWith_20 : decode cX5_sumWith 20 = .ok (.istore 4, 2) := by decide +kernel
theorem dX5_sumWith_22 : decode cX5_sumWith 22 = .ok (.ldc 40, 2) := by decide +kernel
theorem dX5_sumWith_24 : decode cX5_sumWith 24 = .ok (.iload 4, 2) := by decide +kernel
theorem dX5_sumWith_26 : decode cX5_sumWith 26 = .ok (.aload_n 0, 1) := by decide +kernel
theorem dX5_sumWith_27 : decode cX5_sumWith 27 = .ok (.getfield 31, 3) := by decide +kernel
theorem dX5_sumWith_30 : decode cX5_sumWith 30 = .ok (.iload_n 1, 1) := by decide +kernel
theorem dX5_sumWith_31 : decode cX5_sumWith 31 = .ok (.iconst 1, 1) := by decide +kernel
theorem dX5_sumWith_32 : decode cX5_sumWith 32 = .ok (.iload_n 3, 1) := by decide +kernel
theorem dX5_sumWith_33 : decode cX5_sumWith 33 = .ok (.ishl, 1) := by decide +kernel
theorem dX5_sumWith_34 : decode cX5_sumWith 34 = .ok (.ior, 1) := by decide +kernel
theorem dX5_sumWith_35 : decode cX5_sumWith 35 = .ok (.bipush 9, 2) := by decide +kernel
theorem dX5_sumWith_37 : decode cX5_sumWith 37 = .ok (.imul, 1) := by decide +kernel
theorem dX5_sumWith_38 : decode cX5_sumWith 38 = .ok (.iload_n 3, 1) := by decide +kernel
theorem dX5_sumWith_39 : decode cX5_sumWith 39 = .ok (.iadd, 1) := by decide +kernel
theorem dX5_sumWith_40 : decode cX5_sumWith 40 = .ok (.iaload, 1) := by decide +kernel
theorem dX5_sumWith_41 : decode cX5_sumWith 41 = .ok (.iadd, 1) := by decide +kernel
theorem dX5_sumWith_42 : decode cX5_sumWith 42 = .ok (.invokestatic 52, 3) := by decide +kernel
theorem dX5_sumWith_45 : decode cX5_sumWith 45 = .ok (.ireturn, 1) := by decide +kernel
theorem dX5_keepOrder_0 : decode cX5_keepOrder 0 = .ok (.iconst 0, 1) := by decide +kernel
theorem dX5_keepOrder_1 : decode cX5_keepOrder 1 = .ok (.istore_n 2, 1) := by decide +kernel
theorem dX5_keepOrder_2 : decode cX5_keepOrder 2 = .ok (.iconst (-1), 1) := by decide +kernel
theorem dX5_keepOrder_3 : decode cX5_keepOrder 3 = .ok (.istore_n 3, 1) := by decide +kernel
theorem dX5_keepOrder_4 : decode cX5_keepOrder 4 = .ok (.iload_n 1, 1) := by decide +kernel
theorem dX5_keepOrder_5 : decode cX5_keepOrder 5 = .ok (.istore 4, 2) := by decide +kernel
theorem dX5_keepOrder_7 : decode cX5_keepOrder 7 = .ok (.iconst 0, 1) := by decide +kernel
theorem dX5_keepOrder_8 : decode cX5_keepOrder 8 = .ok (.istore 5, 2) := by decide +kernel
theorem dX5_keepOrder_10 : decode cX5_keepOrder 10 = .ok (.iload 5, 2) := by decide +kernel
theorem dX5_keepOrder_12 : decode cX5_keepOrder 12 = .ok (.aload_n 0, 1) := by decide +kernel
theorem dX5_keepOrder_13 : decode cX5_keepOrder 13 = .ok (.getfield 19, 3) := by decide +kernel
theorem dX5_keepOrder_16 : decode cX5_keepOrder 16 = .ok (.if_icmp .ge 56, 3) := by decide +kernel
theorem dX5_keepOrder_19 : decode cX5_keepOrder 19 = .ok (.aload_n 0, 1) := by decide +kernel
theorem dX5_keepOrder_20 : decode cX5_keepOrder 20 = .ok (.iload_n 2, 1) := by decide +kernel
theorem dX5_keepOrder_21 : decode cX5_keepOrder 21 = .ok (.iload_n 3, 1) := by decide +kernel
theorem dX5_keepOrder_22 : decode cX5_keepOrder 22 = .ok (.iload 4, 2) := by decide +kernel
theorem dX5_keepOrder_24 : decode cX5_keepOrder 24 = .ok (.invokevirtual 57, 3) := by decide +kernel
theorem dX5_keepOrder_27 : decode cX5_keepOrder 27 = .ok (.istore 6, 2) := by decide +kernel
theorem dX5_keepOrder_29 : decode cX5_keepOrder 29 = .ok (.aload_n 0, 1) := by decide +kernel
theorem dX5_keepOrder_30 : decode cX5_keepOrder 30 = .ok (.getfield 15, 3) := by decide +kernel
theorem dX5_keepOrder_33 : decode cX5_keepOrder 33 = .ok (.iload 5, 2) := by decide +kernel
theorem dX5_keepOrder_35 : decode cX5_keepOrder 35 = .ok (.aload_n 0, 1) := by decide +kernel
theorem dX5_keepOrder_36 : decode cX5_keepOrder 36 = .ok (.getfield 22, 3) := by decide +kernel
theorem dX5_keepOrder_39 : decode cX5_keepOrder 39 = .ok (.iload 6, 2) := by decide +kernel
theorem dX5_keepOrder_41 : decode cX5_keepOrder 41 = .ok (.iaload, 1) := by decide +kernel
theorem dX5_keepOrder_42 : decode cX5_keepOrder 42 = .ok (.iastore, 1) := by decide +kernel
theorem dX5_keepOrder_43 : decode cX5_keepOrder 43 = .ok (.iload_n 2, 1) := by decide +kernel
theorem dX5_keepOrder_44 : decode cX5_keepOrder 44 = .ok (.iconst 1, 1) := by decide +kernel
theorem dX5_keepOrder_45 : decode cX5_keepOrder 45 = .ok (.iload 6, 2) := by decide +kernel
theorem dX5_keepOrder_47 : decode cX5_keepOrder 47 = .ok (.ishl, 1) := by decide +kernel
theorem dX5_keepOrder_48 : decode cX5_keepOrder 48 = .ok (.ior, 1) := by decide +kernel
theorem dX5_keepOrder_49 : decode cX5_keepOrder 49 = .ok (.istore_n 2, 1) := by decide +kernel
theorem dX5_keepOrder_50 : decode cX5_keepOrder 50 = .ok (.iload 6, 2) := by decide +kernel
theorem dX5_keepOrder_52 : decode cX5_keepOrder 52 = .ok (.istore_n 3, 1) := by decide +kernel
theorem dX5_keepOrder_53 : decode cX5_keepOrder 53 = .ok (.aload_n 0, 1) := by decide +kernel
theorem dX5_keepOrder_54 : decode cX5_keepOrder 54 = .ok (.getfield 31, 3) := by decide +kernel
theorem dX5_keepOrder_57 : decode cX5_keepOrder 57 = .ok (.iload_n 2, 1) := by decide +kernel
theorem dX5_keepOrder_58 : decode cX5_keepOrder 58 = .ok (.bipush 9, 2) := by decide +kernel
theorem dX5_keepOrder_60 : decode cX5_keepOrder 60 = .ok (.imul, 1) := by decide +kernel
theorem dX5_keepOrder_61 : decode cX5_keepOrder 61 = .ok (.iload_n 3, 1) := by decide +kernel
theorem dX5_keepOrder_62 : decode cX5_keepOrder 62 = .ok (.iadd, 1) := by decide +kernel
theorem dX5_keepOrder_63 : decode cX5_keepOrder 63 = .ok (.iaload, 1) := by decide +kernel
theorem dX5_keepOrder_64 : decode cX5_keepOrder 64 = .ok (.istore 4, 2) := by decide +kernel
theorem dX5_keepOrder_66 : decode cX5_keepOrder 66 = .ok (.iinc 5 1, 3) := by decide +kernel
theorem dX5_keepOrder_69 : decode cX5_keepOrder 69 = .ok (.goto (-59), 3) := by decide +kernel
theorem dX5_keepOrder_72 : decode cX5_keepOrder 72 = .ok (.aload_n 0, 1) := by decide +kernel
theorem dX5_keepOrder_73 : decode cX5_keepOrder 73 = .ok (.aload_n 0, 1) := by decide +kernel
theorem dX5_keepOrder_74 : decode cX5_keepOrder 74 = .ok (.getfield 19, 3) := by decide +kernel
theorem dX5_keepOrder_77 : decode cX5_keepOrder 77 = .ok (.putfield 9, 3) := by decide +kernel
theorem dX5_keepOrder_80 : decode cX5_keepOrder 80 = .ok (.return_, 1) := by decide +kernel
theorem dX5_leastNext_0 : decode cX5_leastNext 0 = .ok (.iconst 0, 1) := by decide +kernel
theorem dX5_leastNext_1 : decode cX5_leastNext 1 = .ok (.istore 4, 2) := by decide +kernel
theorem dX5_leastNext_3 : decode cX5_leastNext 3 = .ok (.iload 4, 2) := by decide +kernel
theorem dX5_leastNext_5 : decode cX5_leastNext 5 = .ok (.aload_n 0, 1) := by decide +kernel
theorem dX5_leastNext_6 : decode cX5_leastNext 6 = .ok (.getfield 19, 3) := by decide +kernel
theorem dX5_leastNext_9 : decode cX5_leastNext 9 = .ok (.if_icmp .ge 33, 3) := by decide +kernel
theorem dX5_leastNext_12 : decode cX5_leastNext 12 = .ok (.iload_n 1, 1) := by decide +kernel
theorem dX5_leastNext_13 : decode cX5_leastNext 13 = .ok (.iload 4, 2) := by decide +kernel
theorem dX5_leastNext_15 : decode cX5_leastNext 15 = .ok (.ishr, 1) := by decide +kernel
theorem dX5_leastNext_16 : decode cX5_leastNext 16 = .ok (.iconst 1, 1) := by decide +kernel
theorem dX5_leastNext_17 : decode cX5_leastNext 17 = .ok (.iand, 1) := by decide +kernel
theorem dX5_leastNext_18 : decode cX5_leastNext 18 = .ok (.ifCond .ne 18, 3) := by decide +kernel
theorem dX5_leastNext_21 : decode cX5_leastNext 21 = .ok (.aload_n 0, 1) := by decide +kernel
theorem dX5_leastNext_22 : decode cX5_leastNext 22 = .ok (.iload_n 1, 1) := by decide +kernel
theorem dX5_leastNext_23 : decode cX5_leastNext 23 = .ok (.iload_n 2, 1) := by decide +kernel
theorem dX5_leastNext_24 : decode cX5_leastNext 24 = .ok (.iload 4, 2) := by decide +kernel
theorem dX5_leastNext_26 : decode cX5_leastNext 26 = .ok (.invokevirtual 48, 3) := by decide +kernel
theorem dX5_leastNext_29 : decode cX5_leastNext 29 = .ok (.iload_n 3, 1) := by decide +kernel
theorem dX5_leastNext_30 : decode cX5_leastNext 30 = .ok (.if_icmp .ne 6, 3) := by decide +kernel
theorem dX5_leastNext_33 : decode cX5_leastNext 33 = .ok (.iload 4, 2) := by decide +kernel
theorem dX5_leastNext_35 : decode cX5_leastNext 35 = .ok (.ireturn, 1) := by decide +kernel
theorem dX5_leastNext_36 : decode cX5_leastNext 36 = .ok (.iinc 4 1, 3) := by decide +kernel
theorem dX5_leastNext_39 : decode cX5_leastNext 39 = .ok (.goto (-36), 3) := by decide +kernel
theorem dX5_leastNext_42 : decode cX5_leastNext 42 = .ok (.iconst 0, 1) := by decide +kernel
theorem dX5_leastNext_43 : decode cX5_leastNext 43 = .ok (.ireturn, 1) := by decide +kernel
theorem dX6_init_0 : decode cX6_init 0 = .ok (.aload_n 0, 1) := by decide +kernel
theorem dX6_init_1 : decode cX6_init 1 = .ok (.invokespecial 3, 3) := by decide +kernel
theorem dX6_init_4 : decode cX6_init 4 = .ok (.aload_n 0, 1) := by decide +kernel
theorem dX6_init_5 : decode cX6_init 5 = .ok (.iconst 0, 1) := by decide +kernel
theorem dX6_init_6 : decode cX6_init 6 = .ok (.putfield 9, 3) := by decide +kernel
theorem dX6_init_9 : decode cX6_init 9 = .ok (.aload_n 0, 1) := by decide +kernel
theorem dX6_init_10 : decode cX6_init 10 = .ok (.bipush 12, 2) := by decide +kernel
theorem dX6_init_12 : decode cX6_init 12 = .ok (.newarray .boolean, 2) := by decide +kernel
theorem dX6_init_14 : decode cX6_init 14 = .ok (.putfield 15, 3) := by decide +kernel
theorem dX6_init_17 : decode cX6_init 17 = .ok (.aload_n 0, 1) := by decide +kernel
theorem dX6_init_18 : decode cX6_init 18 = .ok (.bipush 12, 2) := by decide +kernel
theorem dX6_init_20 : decode cX6_init 20 = .ok (.newarray .int, 2) := by decide +kernel
theorem dX6_init_22 : decode cX6_init 22 = .ok (.putfield 19, 3) := by decide +kernel
theorem dX6_init_25 : decode cX6_init 25 = .ok (.aload_n 0, 1) := by decide +kernel
theorem dX6_init_26 : decode cX6_init 26 = .ok (.bipush 12, 2) := by decide +kernel
theorem dX6_init_28 : decode cX6_init 28 = .ok (.newarray .int, 2) := by decide +kernel
theorem dX6_init_30 : decode cX6_init 30 = .ok (.putfield 23, 3) := by decide +kernel
theorem dX6_init_33 : decode cX6_init 33 = .ok (.aload_n 0, 1) := by decide +kernel
theorem dX6_init_34 : decode cX6_init 34 = .ok (.bipush 24, 2) := by decide +kernel
theorem dX6_init_36 : decode cX6_init 36 = .ok (.newarray .int, 2) := by decide +kernel
theorem dX6_init_38 : decode cX6_init 38 = .ok (.putfield 26, 3) := by decide +kernel
theorem dX6_init_41 : decode cX6_init 41 = .ok (.aload_n 0, 1) := by decide +kernel
theorem dX6_init_42 : decode cX6_init 42 = .ok (.bipush 24, 2) := by decide +kernel
theorem dX6_init_44 : decode cX6_init 44 = .ok (.newarray .int, 2) := by decide +kernel
theorem dX6_init_46 : decode cX6_init 46 = .ok (.putfield 29, 3) := by decide +kernel
theorem dX6_init_49 : decode cX6_init 49 = .ok (.aload_n 0, 1) := by decide +kernel
theorem dX6_init_50 : decode cX6_init 50 = .ok (.bipush 24, 2) := by decide +kernel
theorem dX6_init_52 : decode cX6_init 52 = .ok (.newarray .int, 2) := by decide +kernel
theorem dX6_init_54 : decode cX6_init 54 = .ok (.putfield 32, 3) := by decide +kernel
theorem dX6_init_57 : decode cX6_init 57 = .ok (.return_, 1) := by decide +kernel
theorem dX6_add_0 : decode cX6_add 0 = .ok (.aload_n 0, 1) := by decide +kernel
theorem dX6_add_1 : decode cX6_add 1 = .ok (.getfield 9, 3) := by decide +kernel
theorem dX6_add_4 : decode cX6_add 4 = .ok (.istore_n 2, 1) := by decide +kernel
theorem dX6_add_5 : decode cX6_add 5 = .ok (.aload_n 0, 1) := by decide +kernel
theorem dX6_add_6 : decode cX6_add 6 = .ok (.getfield 15, 3) := by decide +kernel
theorem dX6_add_9 : decode cX6_add 9 = .ok (.iload_n 2, 1) := by decide +kernel
theorem dX6_add_10 : decode cX6_add 10 = .ok (.aload_n 1, 1) := by decide +kernel
theorem dX6_add_11 : decode cX6_add 11 = .ok (.getfield 35, 3) := by decide +kernel
theorem dX6_add_14 : decode cX6_add 14 = .ok (.bastore, 1) := by decide +kernel
theorem dX6_add_15 : decode cX6_add 15 = .ok (.aload_n 0, 1) := by decide +kernel
theorem dX6_add_16 : decode cX6_add 16 = .ok (.getfield 19, 3) := by decide +kernel
theorem dX6_add_19 : decode cX6_add 19 = .ok (.iload_n 2, 1) := by decide +kernel
theorem dX6_add_20 : decode cX6_add 20 = .ok (.aload_n 1, 1) := by decide +kernel
theorem dX6_add_21 : decode cX6_add 21 = .ok (.getfield 40, 3) := by decide +kernel
theorem dX6_add_24 : decode cX6_add 24 = .ok (.iastore, 1) := by decide +kernel
theorem dX6_add_25 : decode cX6_add 25 = .ok (.aload_n 0, 1) := by decide +kernel
theorem dX6_add_26 : decode cX6_add 26 = .ok (.getfield 23, 3) := by decide +kernel
theorem dX6_add_29 : decode cX6_add 29 = .ok (.iload_n 2, 1) := by decide +kernel
theorem dX6_add_30 : decode cX6_add 30 = .ok (.aload_n 1, 1) := by decide +kernel
theorem dX6_add_31 : decode cX6_add 31 = .ok (.getfield 42, 3) := by decide +kernel
theorem dX6_add_34 : decode cX6_add 34 = .ok (.iastore, 1) := by decide +kernel
theorem dX6_add_35 : decode cX6_add 35 = .ok (.iconst 0, 1) := by decide +kernel
theorem dX6_add_36 : decode cX6_add 36 = .ok (.istore_n 3, 1) := by decide +kernel
theorem dX6_add_37 : decode cX6_add 37 = .ok (.iload_n 3, 1) := by decide +kernel
theorem dX6_add_38 : decode cX6_add 38 = .ok (.iconst 2, 1) := by decide +kernel
theorem dX6_add_39 : decode cX6_add 39 = .ok (.if_icmp .ge 57, 3) := by decide +kernel
theorem dX6_add_42 : decode cX6_add 42 = .ok (.aload_n 0, 1) := by decide +kernel
theorem dX6_add_43 : decode cX6_add 43 = .ok (.getfield 26, 3) := by decide +kernel
theorem dX6_add_46 : decode cX6_add 46 = .ok (.iload_n 2, 1) := by decide +kernel
theorem dX6_add_47 : decode cX6_add 47 = .ok (.iconst 2, 1) := by decide +kernel
theorem dX6_add_48 : decode cX6_add 48 = .ok (.imul, 1) := by decide +kernel
theorem dX6_add_49 : decode cX6_add 49 = .ok (.iload_n 3, 1) := by decide +kernel
theorem dX6_add_50 : decode cX6_add 50 = .ok (.iadd, 1) := by decide +kernel
theorem dX6_add_51 : decode cX6_add 51 = .ok (.aload_n 1, 1) := by decide +kernel
theorem dX6_add_52 : decode cX6_add 52 = .ok (.getfield 44, 3) := by decide +kernel
theorem dX6_add_55 : decode cX6_add 55 = .ok (.iload_n 3, 1) := by decide +kernel
theorem dX6_add_56 : decode cX6_add 56 = .ok (.iaload, 1) := by decide +kernel
theorem dX6_add_57 : decode cX6_add 57 = .ok (.iastore, 1) := by decide +kernel
theorem dX6_add_58 : decode cX6_add 58 = .ok (.aload_n 0, 1) := by decide +kernel
theorem dX6_add_59 : decode cX6_add 59 = .ok (.getfield 29, 3) := by decide +kernel
theorem dX6_add_62 : decode cX6_add 62 = .ok (.iload_n 2, 1) := by decide +kernel
theorem dX6_add_63 : decode cX6_add 63 = .ok (.iconst 2, 1) := by decide +kernel
theorem dX6_add_64 : decode cX6_add 64 = .ok (.imul, 1) := by decide +kernel
theorem dX6_add_65 : decode cX6_add 65 = .ok (.iload_n 3, 1) := by decide +kernel
theorem dX6_add_66 : decode cX6_add 66 = .ok (.iadd, 1) := by decide +kernel
theorem dX6_add_67 : decode cX6_add 67 = .ok (.aload_n 1, 1) := by decide +kernel
theorem dX6_add_68 : decode cX6_add 68 = .ok (.getfield 45, 3) := by decide +kernel
theorem dX6_add_71 : decode cX6_add 71 = .ok (.iload_n 3, 1) := by decide +kernel
theorem dX6_add_72 : decode cX6_add 72 = .ok (.iaload, 1) := by decide +kernel
theorem dX6_add_73 : decode cX6_add 73 = .ok (.iastore, 1) := by decide +kernel
theorem dX6_add_74 : decode cX6_add 74 = .ok (.aload_n 0, 1) := by decide +kernel
theorem dX6_add_75 : decode cX6_add 75 = .ok (.getfield 32, 3) := by decide +kernel
theorem dX6_add_78 : decode cX6_add 78 = .ok (.iload_n 2, 1) := by decide +kernel
theorem dX6_add_79 : decode cX6_add 79 = .ok (.iconst 2, 1) := by decide +kernel
theorem dX6_add_80 : decode cX6_add 80 = .ok (.imul, 1) := by decide +kernel
theorem dX6_add_81 : decode cX6_add 81 = .ok (.iload_n 3, 1) := by decide +kernel
theorem dX6_add_82 : decode cX6_add 82 = .ok (.iadd, 1) := by decide +kernel
theorem dX6_add_83 : decode cX6_add 83 = .ok (.aload_n 1, 1) := by decide +kernel
theorem dX6_add_84 : decode cX6_add 84 = .ok (.getfield 46, 3) := by decide +kernel
theorem dX6_add_87 : decode cX6_add 87 = .ok (.iload_n 3, 1) := by decide +kernel
theorem dX6_add_88 : decode cX6_add 88 = .ok (.iaload, 1) := by decide +kernel
theorem dX6_add_89 : decode cX6_add 89 = .ok (.iastore, 1) := by decide +kernel
theorem dX6_add_90 : decode cX6_add 90 = .ok (.iinc 3 1, 3) := by decide +kernel
theorem dX6_add_93 : decode cX6_add 93 = .ok (.goto (-56), 3) := by decide +kernel
theorem dX6_add_96 : decode cX6_add 96 = .ok (.aload_n 0, 1) := by decide +kernel
theorem dX6_add_97 : decode cX6_add 97 = .ok (.dup, 1) := by decide +kernel
theorem dX6_add_98 : decode cX6_add 98 = .ok (.getfield 9, 3) := by decide +kernel
theorem dX6_add_101 : decode cX6_add 101 = .ok (.iconst 1, 1) := by decide +kernel
theorem dX6_add_102 : decode cX6_add 102 = .ok (.iadd, 1) := by decide +kernel
theorem dX6_add_103 : decode cX6_add 103 = .ok (.putfield 9, 3) := by decide +kernel
theorem dX6_add_106 : decode cX6_add 106 = .ok (.iload_n 2, 1) := by decide +kernel
theorem dX6_add_107 : decode cX6_add 107 = .ok (.ireturn, 1) := by decide +kernel
theorem dX6_fieldOf_0 : decode cX6_fieldOf 0 = .ok (.aload_n 0, 1) := by decide +kernel
theorem dX6_fieldOf_1 : decode cX6_fieldOf 1 = .ok (.getfield 26, 3) := by decide +kernel
theorem dX6_fieldOf_4 : decode cX6_fieldOf 4 = .ok (.iload_n 1, 1) := by decide +kernel
theorem dX6_fieldOf_5 : decode cX6_fieldOf 5 = .ok (.iconst 2, 1) := by decide +kernel
theorem dX6_fieldOf_6 : decode cX6_fieldOf 6 = .ok (.imul, 1) := by decide +kernel
theorem dX6_fieldOf_7 : decode cX6_fieldOf 7 = .ok (.iload_n 2, 1) := by decide +kernel
theorem dX6_fieldOf_8 : decode cX6_fieldOf 8 = .ok (.iadd, 1) := by decide +kernel
theorem dX6_fieldOf_9 : decode cX6_fieldOf 9 = .ok (.iaload, 1) := by decide +kernel
theorem dX6_fieldOf_10 : decode cX6_fieldOf 10 = .ok (.ireturn, 1) := by decide +kernel
theorem dX6_testHolds_0 : decode cX6_testHolds 0 = .ok (.aload_n 0, 1) := by decide +kernel
theorem dX6_testHolds_1 : decode cX6_testHolds 1 = .ok (.getfield 32, 3) := by decide +kernel
theorem dX6_testHolds_4 : decode cX6_testHolds 4 = .ok (.iload_n 1, 1) := by decide +kernel
theorem dX6_testHolds_5 : decode cX6_testHolds 5 = .ok (.iconst 2, 1) := by decide +kernel
theorem dX6_testHolds_6 : decode cX6_testHolds 6 = .ok (.imul, 1) := by decide +kernel
theorem dX6_testHolds_7 : decode cX6_testHolds 7 = .ok (.iload_n 2, 1) := by decide +kernel
theorem dX6_testHolds_8 : decode cX6_testHolds 8 = .ok (.iadd, 1) := by decide +kernel
theorem dX6_testHolds_9 : decode cX6_testHolds 9 = .ok (.iaload, 1) := by decide +kernel
theorem dX6_testHolds_10 : decode cX6_testHolds 10 = .ok (.istore 4, 2) := by decide +kernel
theorem dX6_testHolds_12 : decode cX6_testHolds 12 = .ok (.aload_n 0, 1) := by decide +kernel
theorem dX6_testHolds_13 : decode cX6_testHolds 13 = .ok (.getfield 29, 3) := by decide +kernel
theorem dX6_testHolds_16 : decode cX6_testHolds 16 = .ok (.iload_n 1, 1) := by decide +kernel
theorem dX6_testHolds_17 : decode cX6_testHolds 17 = .ok (.iconst 2, 1) := by decide +kernel
theorem dX6_testHolds_18 : decode cX6_testHolds 18 = .ok (.imul, 1) := by decide +kernel
theorem dX6_testHolds_19 : decode cX6_testHolds 19 = .ok (.iload_n 2, 1) := by decide +kernel
theorem dX6_testHolds_20 : decode cX6_testHolds 20 = .ok (.iadd, 1) := by decide +kernel
theorem dX6_testHolds_21 : decode cX6_testHolds 21 = .ok (.iaload, 1) := by decide +kernel
theorem dX6_testHolds_22 : decode cX6_testHolds 22 = .ok (.lookupswitch 50 #[(60, 26), (62, 38)], 26) := by decide +kernel
theorem dX6_testHolds_48 : decode cX6_testHolds 48 = .ok (.iload_n 3, 1) := by decide +kernel
theorem dX6_testHolds_49 : decode cX6_testHolds 49 = .ok (.iload 4, 2) := by decide +kernel
theorem dX6_testHolds_51 : decode cX6_testHolds 51 = .ok (.if_icmp .ge 7, 3) := by decide +kernel
theorem dX6_testHolds_54 : decode cX6_testHolds 54 = .ok (.iconst 1, 1) := by decide +kernel
theorem dX6_testHolds_55 : decode cX6_testHolds 55 = .ok (.goto 4, 3) := by decide +kernel
theorem dX6_testHolds_58 : decode cX6_testHolds 58 = .ok (.iconst 0, 1) := by decide +kernel
theorem dX6_testHolds_59 : decode cX6_testHolds 59 = .ok (.ireturn, 1) := by decide +kernel
theorem dX6_testHolds_60 : decode cX6_testHolds 60 = .ok (.iload_n 3, 1) := by decide +kernel
theorem dX6_testHolds_61 : decode cX6_testHolds 61 = .ok (.iload 4, 2) := by decide +kernel
theorem dX6_testHolds_63 : decode cX6_testHolds 63 = .ok (.if_icmp .le 7, 3) := by decide +kernel
theorem dX6_testHolds_66 : decode cX6_testHolds 66 = .ok (.iconst 1, 1) := by decide +kernel
theorem dX6_testHolds_67 : decode cX6_testHolds 67 = .ok (.goto 4, 3) := by decide +kernel
theorem dX6_testHolds_70 : decode cX6_testHolds 70 = .ok (.iconst 0, 1) := by decide +kernel
theorem dX6_testHolds_71 : decode cX6_testHolds 71 = .ok (.ireturn, 1) := by decide +kernel
theorem dX6_testHolds_72 : decode cX6_testHolds 72 = .ok (.iload_n 3, 1) := by decide +kernel
theorem dX6_testHolds_73 : decode cX6_testHolds 73 = .ok (.iload 4, 2) := by decide +kernel
theorem dX6_testHolds_75 : decode cX6_testHolds 75 = .ok (.if_icmp .ne 7, 3) := by decide +kernel
theorem dX6_testHolds_78 : decode cX6_testHolds 78 = .ok (.iconst 1, 1) := by decide +kernel
theorem dX6_testHolds_79 : decode cX6_testHolds 79 = .ok (.goto 4, 3) := by decide +kernel
theorem dX6_testHolds_82 : decode cX6_testHolds 82 = .ok (.iconst 0, 1) := by decide +kernel
theorem dX6_testHolds_83 : decode cX6_testHolds 83 = .ok (.ireturn, 1) := by decide +kernel
theorem dX7_init_0 : decode cX7_init 0 = .ok (.aload_n 0, 1) := by decide +kernel
theorem dX7_init_1 : decode cX7_init 1 = .ok (.invokespecial 3, 3) := by decide +kernel
theorem dX7_init_4 : decode cX7_init 4 = .ok (.aload_n 0, 1) := by decide +kernel
theorem dX7_init_5 : decode cX7_init 5 = .ok (.iconst 0, 1) := by decide +kernel
theorem dX7_init_6 : decode cX7_init 6 = .ok (.putfield 9, 3) := by decide +kernel
theorem dX7_init_9 : decode cX7_init 9 = .ok (.aload_n 0, 1) := by decide +kernel
theorem dX7_init_10 : decode cX7_init 10 = .ok (.bipush 9, 2) := by decide +kernel
theorem dX7_init_12 : decode cX7_init 12 = .ok (.newarray .int, 2) := by decide +kernel
theorem dX7_init_14 : decode cX7_init 14 = .ok (.putfield 15, 3) := by decide +kernel
theorem dX7_init_17 : decode cX7_init 17 = .ok (.aload_n 0, 1) := by decide +kernel
theorem dX7_init_18 : decode cX7_init 18 = .ok (.bipush 9, 2) := by decide +kernel
theorem dX7_init_20 : decode cX7_init 20 = .ok (.newarray .int, 2) := by decide +kernel
theorem dX7_init_22 : decode cX7_init 22 = .ok (.putfield 19, 3) := by decide +kernel
theorem dX7_init_25 : decode cX7_init 25 = .ok (.aload_n 0, 1) := by decide +kernel
theorem dX7_init_26 : decode cX7_init 26 = .ok (.bipush 9, 2) := by decide +kernel
theorem dX7_init_28 : decode cX7_init 28 = .ok (.newarray .int, 2) := by decide +kernel
theorem dX7_init_30 : decode cX7_init 30 = .ok (.putfield 22, 3) := by decide +kernel
theorem dX7_init_33 : decode cX7_init 33 = .ok (.aload_n 0, 1) := by decide +kernel
theorem dX7_init_34 : decode cX7_init 34 = .ok (.bipush 9, 2) := by decide +kernel
theorem dX7_init_36 : decode cX7_init 36 = .ok (.newarray .int, 2) := by decide +kernel
theorem dX7_init_38 : decode cX7_init 38 = .ok (.putfield 25, 3) := by decide +kernel
theorem dX7_init_41 : decode cX7_init 41 = .ok (.return_, 1) := by decide +kernel
theorem dX7_has_0 : decode cX7_has 0 = .ok (.iload_n 1, 1) := by decide +kernel
theorem dX7_has_1 : decode cX7_has 1 = .ok (.ifCond .lt 15, 3) := by decide +kernel
theorem dX7_has_4 : decode cX7_has 4 = .ok (.iload_n 1, 1) := by decide +kernel
theorem dX7_has_5 : decode cX7_has 5 = .ok (.aload_n 0, 1) := by decide +kernel
theorem dX7_has_6 : decode cX7_has 6 = .ok (.getfield 9, 3) := by decide +kernel
theorem dX7_has_9 : decode cX7_has 9 = .ok (.if_icmp .ge 7, 3) := by decide +kernel
theorem dX7_has_12 : decode cX7_has 12 = .ok (.iconst 1, 1) := by decide +kernel
theorem dX7_has_13 : decode cX7_has 13 = .ok (.goto 4, 3) := by decide +kernel
theorem dX7_has_16 : decode cX7_has 16 = .ok (.iconst 0, 1) := by decide +kernel
theorem dX7_has_17 : decode cX7_has 17 = .ok (.ireturn, 1) := by decide +kernel
theorem dX7_hasAll_0 : decode cX7_hasAll 0 = .ok (.iload_n 1, 1) := by decide +kernel
theorem dX7_hasAll_1 : decode cX7_hasAll 1 = .ok (.iconst 1, 1) := by decide +kernel
theorem dX7_hasAll_2 : decode cX7_hasAll 2 = .ok (.aload_n 0, 1) := by decide +kernel
theorem dX7_hasAll_3 : decode cX7_hasAll 3 = .ok (.getfield 9, 3) := by decide +kernel
theorem dX7_hasAll_6 : decode cX7_hasAll 6 = .ok (.ishl, 1) := by decide +kernel
theorem dX7_hasAll_7 : decode cX7_hasAll 7 = .ok (.ineg, 1) := by decide +kernel
theorem dX7_hasAll_8 : decode cX7_hasAll 8 = .ok (.iand, 1) := by decide +kernel
theorem dX7_hasAll_9 : decode cX7_hasAll 9 = .ok (.ifCond .ne 7, 3) := by decide +kernel
theorem dX7_hasAll_12 : decode cX7_hasAll 12 = .ok (.iconst 1, 1) := by decide +kernel
theorem dX7_hasAll_13 : decode cX7_hasAll 13 = .ok (.goto 4, 3) := by decide +kernel
theorem dX7_hasAll_16 : decode cX7_hasAll 16 = .ok (.iconst 0, 1) := by decide +kernel
theorem dX7_hasAll_17 : decode cX7_hasAll 17 = .ok (.ireturn, 1) := by decide +kernel
theorem dX7_add_0 : decode cX7_add 0 = .ok (.aload_n 0, 1) := by decide +kernel
theorem dX7_add_1 : decode cX7_add 1 = .ok (.getfield 9, 3) := by decide +kernel
theorem dX7_add_4 : decode cX7_add 4 = .ok (.istore 4, 2) := by decide +kernel
theorem dX7_add_6 : decode cX7_add 6 = .ok (.aload_n 0, 1) := by decide +kernel
theorem dX7_add_7 : decode cX7_add 7 = .ok (.getfield 15, 3) := by decide +kernel
theorem dX7_add_10 : decode cX7_add 10 = .ok (.iload 4, 2) := by decide +kernel
theorem dX7_add_12 : decode cX7_add 12 = .ok (.iload_n 1, 1) := by decide +kernel
theorem dX7_add_13 : decode cX7_add 13 = .ok (.iastore, 1) := by decide +kernel
theorem dX7_add_14 : decode cX7_add 14 = .ok (.aload_n 0, 1) := by decide +kernel
theorem dX7_add_15 : decode cX7_add 15 = .ok (.getfield 19, 3) := by decide +kernel
theorem dX7_add_18 : decode cX7_add 18 = .ok (.iload 4, 2) := by decide +kernel
theorem dX7_add_20 : decode cX7_add 20 = .ok (.iload_n 2, 1) := by decide +kernel
theorem dX7_add_21 : decode cX7_add 21 = .ok (.iastore, 1) := by decide +kernel
theorem dX7_add_22 : decode cX7_add 22 = .ok (.aload_n 0, 1) := by decide +kernel
theorem dX7_add_23 : decode cX7_add 23 = .ok (.getfield 22, 3) := by decide +kernel
theorem dX7_add_26 : decode cX7_add 26 = .ok (.iload 4, 2) := by decide +kernel
theorem dX7_add_28 : decode cX7_add 28 = .ok (.iload_n 3, 1) := by decide +kernel
theorem dX7_add_29 : decode cX7_add 29 = .ok (.iastore, 1) := by decide +kernel
theorem dX7_add_30 : decode cX7_add 30 = .ok (.aload_n 0, 1) := by decide +kernel
theorem dX7_add_31 : decode cX7_add 31 = .ok (.dup, 1) := by decide +kernel
theorem dX7_add_32 : decode cX7_add 32 = .ok (.getfield 9, 3) := by decide +kernel
theorem dX7_add_35 : decode cX7_add 35 = .ok (.iconst 1, 1) := by decide +kernel
theorem dX7_add_36 : decode cX7_add 36 = .ok (.iadd, 1) := by decide +kernel
theorem dX7_add_37 : decode cX7_add 37 = .ok (.putfield 9, 3) := by decide +kernel
theorem dX7_add_40 : decode cX7_add 40 = .ok (.iload 4, 2) := by decide +kernel
theorem dX7_add_42 : decode cX7_add 42 = .ok (.ireturn, 1) := by decide +kernel
theorem dX8_init_0 : decode cX8_init 0 = .ok (.aload_n 0, 1) := by decide +kernel
theorem dX8_init_1 : decode cX8_init 1 = .ok (.invokespecial 3, 3) := by decide +kernel
theorem dX8_init_4 : decode cX8_init 4 = .ok (.aload_n 0, 1) := by decide +kernel
theorem dX8_init_5 : decode cX8_init 5 = .ok (.iconst 4, 1) := by decide +kernel
theorem dX8_init_6 : decode cX8_init 6 = .ok (.putfield 9, 3) := by decide +kernel
theorem dX8_init_9 : decode cX8_init 9 = .ok (.aload_n 0, 1) := by decide +kernel
theorem dX8_init_10 : decode cX8_init 10 = .ok (.bipush 20, 2) := by decide +kernel
theorem dX8_init_12 : decode cX8_init 12 = .ok (.putfield 15, 3) := by decide +kernel
theorem dX8_init_15 : decode cX8_init 15 = .ok (.aload_n 0, 1) := by decide +kernel
theorem dX8_init_16 : decode cX8_init 16 = .ok (.bipush 16, 2) := by decide +kernel
theorem dX8_init_18 : decode cX8_init 18 = .ok (.newarray .int, 2) := by decide +kernel
theorem dX8_init_20 : decode cX8_init 20 = .ok (.putfield 18, 3) := by decide +kernel
theorem dX8_init_23 : decode cX8_init 23 = .ok (.aload_n 0, 1) := by decide +kernel
theorem dX8_init_24 : decode cX8_init 24 = .ok (.bipush 16, 2) := by decide +kernel
theorem dX8_init_26 : decode cX8_init 26 = .ok (.newarray .int, 2) := by decide +kernel
theorem dX8_init_28 : decode cX8_init 28 = .ok (.putfield 22, 3) := by decide +kernel
theorem dX8_init_31 : decode cX8_init 31 = .ok (.aload_n 0, 1) := by decide +kernel
theorem dX8_init_32 : decode cX8_init 32 = .ok (.iconst 4, 1) := by decide +kernel
theorem dX8_init_33 : decode cX8_init 33 = .ok (.newarray .int, 2) := by decide +kernel
theorem dX8_init_35 : decode cX8_init 35 = .ok (.putfield 25, 3) := by decide +kernel
theorem dX8_init_38 : decode cX8_init 38 = .ok (.aload_n 0, 1) := by decide +kernel
theorem dX8_init_39 : decode cX8_init 39 = .ok (.iconst 4, 1) := by decide +kernel
theorem dX8_init_40 : decode cX8_init 40 = .ok (.newarray .int, 2) := by decide +kernel
theorem dX8_init_42 : decode cX8_init 42 = .ok (.putfield 28, 3) := by decide +kernel
theorem dX8_init_45 : decode cX8_init 45 = .ok (.aload_n 0, 1) := by decide +kernel
theorem dX8_init_46 : decode cX8_init 46 = .ok (.iconst 0, 1) := by decide +kernel
theorem dX8_init_47 : decode cX8_init 47 = .ok (.putfield 31, 3) := by decide +kernel
theorem dX8_init_50 : decode cX8_init 50 = .ok (.aload_n 0, 1) := by decide +kernel
theorem dX8_init_51 : decode cX8_init 51 = .ok (.iconst 0, 1) := by decide +kernel
theorem dX8_init_52 : decode cX8_init 52 = .ok (.putfield 34, 3) := by decide +kernel
theorem dX8_init_55 : decode cX8_init 55 = .ok (.aload_n 0, 1) := by decide +kernel
theorem dX8_init_56 : decode cX8_init 56 = .ok (.aload_n 1, 1) := by decide +kernel
theorem dX8_init_57 : decode cX8_init 57 = .ok (.putfield 37, 3) := by decide +kernel
theorem dX8_init_60 : decode cX8_init 60 = .ok (.aload_n 0, 1) := by decide +kernel
theorem dX8_init_61 : decode cX8_init 61 = .ok (.getfield 18, 3) := by decide +kernel
theorem dX8_init_64 : decode cX8_init 64 = .ok (.iconst (-1), 1) := by decide +kernel
theorem dX8_init_65 : decode cX8_init 65 = .ok (.invokestatic 41, 3) := by decide +kernel
theorem dX8_init_68 : decode cX8_init 68 = .ok (.aload_n 0, 1) := by decide +kernel
theorem dX8_init_69 : decode cX8_init 69 = .ok (.getfield 22, 3) := by decide +kernel
theorem dX8_init_72 : decode cX8_init 72 = .ok (.iconst (-1), 1) := by decide +kernel
theorem dX8_init_73 : decode cX8_init 73 = .ok (.invokestatic 41, 3) := by decide +kernel
theorem dX8_init_76 : decode cX8_init 76 = .ok (.return_, 1) := by decide +kernel
theorem dX8_hasRow_0 : decode cX8_hasRow 0 = .ok (.iload_n 1, 1) := by decide +kernel
theorem dX8_hasRow_1 : decode cX8_hasRow 1 = .ok (.ifCond .lt 15, 3) := by decide +kernel
theorem dX8_hasRow_4 : decode cX8_hasRow 4 = .ok (.iload_n 1, 1) := by decide +kernel
theorem dX8_hasRow_5 : decode cX8_hasRow 5 = .ok (.aload_n 0, 1) := by decide +kernel
theorem dX8_hasRow_6 : decode cX8_hasRow 6 = .ok (.getfield 9, 3) := by decide +kernel
theorem dX8_hasRow_9 : decode cX8_hasRow 9 = .ok (.if_icmp .ge 7, 3) := by decide +kernel
theorem dX8_hasRow_12 : decode cX8_hasRow 12 = .ok (.iconst 1, 1) := by decide +kernel
theorem dX8_hasRow_13 : decode cX8_hasRow 13 = .ok (.goto 4, 3) := by decide +kernel
theorem dX8_hasRow_16 : decode cX8_hasRow 16 = .ok (.iconst 0, 1) := by decide +kernel
theorem dX8_hasRow_17 : decode cX8_hasRow 17 = .ok (.ireturn, 1) := by decide +kernel
theorem dX8_holds_0 : decode cX8_holds 0 = .ok (.aload_n 0, 1) := by decide +kernel
theorem dX8_holds_1 : decode cX8_holds 1 = .ok (.getfield 18, 3) := by decide +kernel
theorem dX8_holds_4 : decode cX8_holds 4 = .ok (.iload_n 1, 1) := by decide +kernel
theorem dX8_holds_5 : decode cX8_holds 5 = .ok (.iaload, 1) := by decide +kernel
theorem dX8_holds_6 : decode cX8_holds 6 = .ok (.iconst (-1), 1) := by decide +kernel
theorem dX8_holds_7 : decode cX8_holds 7 = .ok (.if_icmp .eq 7, 3) := by decide +kernel
theorem dX8_holds_10 : decode cX8_holds 10 = .ok (.iconst 1, 1) := by decide +kernel
theorem dX8_holds_11 : decode cX8_holds 11 = .ok (.goto 4, 3) := by decide +kernel
theorem dX8_holds_14 : decode cX8_holds 14 = .ok (.iconst 0, 1) := by decide +kernel
theorem dX8_holds_15 : decode cX8_holds 15 = .ok (.ireturn, 1) := by decide +kernel
theorem dX8_blocks_0 : decode cX8_blocks 0 = .ok (.iconst 0, 1) := by decide +kernel
theorem dX8_blocks_1 : decode cX8_blocks 1 = .ok (.istore_n 1, 1) := by decide +kernel
theorem dX8_blocks_2 : decode cX8_blocks 2 = .ok (.iconst 0, 1) := by decide +kernel
theorem dX8_blocks_3 : decode cX8_blocks 3 = .ok (.istore_n 2, 1) := by decide +kernel
theorem dX8_blocks_4 : decode cX8_blocks 4 = .ok (.iload_n 2, 1) := by decide +kernel
theorem dX8_blocks_5 : decode cX8_blocks 5 = .ok (.aload_n 0, 1) := by decide +kernel
theorem dX8_blocks_6 : decode cX8_blocks 6 = .ok (.getfield 37, 3) := by decide +kernel
theorem dX8_blocks_9 : decode cX8_blocks 9 = .ok (.getfield 47, 3) := by decide +kernel
theorem dX8_blocks_12 : decode cX8_blocks 12 = .ok (.if_icmp .ge 25, 3) := by decide +kernel
theorem dX8_blocks_15 : decode cX8_blocks 15 = .ok (.iload_n 1, 1) := by decide +kernel
theorem dX8_blocks_16 : decode cX8_blocks 16 = .ok (.aload_n 0, 1) := by decide +kernel
theorem dX8_blocks_17 : decode cX8_blocks 17 = .ok (.iload_n 2, 1) := by decide +kernel
theorem dX8_blocks_18 : decode cX8_blocks 18 = .ok (.invokevirtual 52, 3) := by decide +kernel
theorem dX8_blocks_21 : decode cX8_blocks 21 = .ok (.ifCond .eq 7, 3) := by decide +kernel
theorem dX8_blocks_24 : decode cX8_blocks 24 = .ok (.iconst 1, 1) := by decide +kernel
theorem dX8_blocks_25 : decode cX8_blocks 25 = .ok (.goto 4, 3) := by decide +kernel
theorem dX8_blocks_28 : decode cX8_blocks 28 = .ok (.iconst 0, 1) := by decide +kernel
theorem dX8_blocks_29 : decode cX8_blocks 29 = .ok (.iadd, 1) := by decide +kernel
theorem dX8_blocks_30 : decode cX8_blocks 30 = .ok (.istore_n 1, 1) := by decide +kernel
theorem dX8_blocks_31 : decode cX8_blocks 31 = .ok (.iinc 2 1, 3) := by decide +kernel
theorem dX8_blocks_34 : decode cX8_blocks 34 = .ok (.goto (-30), 3) := by decide +kernel
theorem dX8_blocks_37 : decode cX8_blocks 37 = .ok (.iload_n 1, 1) := by decide +kernel
theorem dX8_blocks_38 : decode cX8_blocks 38 = .ok (.ireturn, 1) := by decide +kernel
theorem dX8_isFree_0 : decode cX8_isFree 0 = .ok (.aload_n 0, 1) := by decide +kernel
theorem dX8_isFree_1 : decode cX8_isFree 1 = .ok (.iload_n 1, 1) := by decide +kernel
theorem dX8_isFree_2 : decode cX8_isFree 2 = .ok (.iconst 0, 1) := by decide +kernel
theorem dX8_isFree_3 : decode cX8_isFree 3 = .ok (.aload_n 0, 1) := by decide +kernel
theorem dX8_isFree_4 : decode cX8_isFree 4 = .ok (.getfield 15, 3) := by decide +kernel
theorem dX8_isFree_7 : decode cX8_isFree 7 = .ok (.invokevirtual 56, 3) := by decide +kernel
theorem dX8_isFree_10 : decode cX8_isFree 10 = .ok (.ireturn, 1) := by decide +kernel
theorem dX8_hasRoom_0 : decode cX8_hasRoom 0 = .ok (.iload_n 2, 1) := by decide +kernel
theorem dX8_hasRoom_1 : decode cX8_hasRoom 1 = .ok (.iload_n 3, 1) := by decide +kernel
theorem dX8_hasRoom_2 : decode cX8_hasRoom 2 = .ok (.iadd, 1) := by decide +kernel
theorem dX8_hasRoom_3 : decode cX8_hasRoom 3 = .ok (.aload_n 0, 1) := by decide +kernel
theorem dX8_hasRoom_4 : decode cX8_hasRoom 4 = .ok (.getfield 15, 3) := by decide +kernel
theorem dX8_hasRoom_7 : decode cX8_hasRoom 7 = .ok (.if_icmp .le 5, 3) := by decide +kernel
theorem dX8_hasRoom_10 : decode cX8_hasRoom 10 = .ok (.iconst 0, 1) := by decide +kernel
theorem dX8_hasRoom_11 : decode cX8_hasRoom 11 = .ok (.ireturn, 1) := by decide +kernel
theorem dX8_hasRoom_12 : decode cX8_hasRoom 12 = .ok (.iconst 0, 1) := by decide +kernel
theorem dX8_hasRoom_13 : decode cX8_hasRoom 13 = .ok (.istore 4, 2) := by decide +kernel
theorem dX8_hasRoom_15 : decode cX8_hasRoom 15 = .ok (.iload 4, 2) := by decide +kernel
theorem dX8_hasRoom_17 : decode cX8_hasRoom 17 = .ok (.aload_n 0, 1) := by decide +kernel
theorem dX8_hasRoom_18 : decode cX8_hasRoom 18 = .ok (.getfield 37, 3) := by decide +kernel
theorem dX8_hasRoom_21 : decode cX8_hasRoom 21 = .ok (.getfield 47, 3) := by decide +kernel
theorem dX8_hasRoom_24 : decode cX8_hasRoom 24 = .ok (.if_icmp .ge 69, 3) := by decide +kernel
theorem dX8_hasRoom_27 : decode cX8_hasRoom 27 = .ok (.aload_n 0, 1) := by decide +kernel
theorem dX8_hasRoom_28 : decode cX8_hasRoom 28 = .ok (.getfield 22, 3) := by decide +kernel
theorem dX8_hasRoom_31 : decode cX8_hasRoom 31 = .ok (.iload 4, 2) := by decide +kernel
theorem dX8_hasRoom_33 : decode cX8_hasRoom 33 = .ok (.iaload, 1) := by decide +kernel
theorem dX8_hasRoom_34 : decode cX8_hasRoom 34 = .ok (.iload_n 2, 1) := by decide +kernel
theorem dX8_hasRoom_35 : decode cX8_hasRoom 35 = .ok (.iload_n 3, 1) := by decide +kernel
theorem dX8_hasRoom_36 : decode cX8_hasRoom 36 = .ok (.iadd, 1) := by decide +kernel
theorem dX8_hasRoom_37 : decode cX8_hasRoom 37 = .ok (.if_icmp .ge 25, 3) := by decide +kernel
theorem dX8_hasRoom_40 : decode cX8_hasRoom 40 = .ok (.aload_n 0, 1) := by decide +kernel
theorem dX8_hasRoom_41 : decode cX8_hasRoom 41 = .ok (.getfield 22, 3) := by decide +kernel
theorem dX8_hasRoom_44 : decode cX8_hasRoom 44 = .ok (.iload 4, 2) := by decide +kernel
theorem dX8_hasRoom_46 : decode cX8_hasRoom 46 = .ok (.iaload, 1) := by decide +kernel
theorem dX8_hasRoom_47 : decode cX8_hasRoom 47 = .ok (.aload_n 0, 1) := by decide +kernel
theorem dX8_hasRoom_48 : decode cX8_hasRoom 48 = .ok (.getfield 37, 3) := by decide +kernel
theorem dX8_hasRoom_51 : decode cX8_hasRoom 51 = .ok (.getfield 60, 3) := by decide +kernel
theorem dX8_hasRoom_54 : decode cX8_hasRoom 54 = .ok (.iload 4, 2) := by decide +kernel
theorem dX8_hasRoom_56 : decode cX8_hasRoom 56 = .ok (.iaload, 1) := by decide +kernel
theorem dX8_hasRoom_57 : decode cX8_hasRoom 57 = .ok (.iadd, 1) := by decide +kernel
theorem dX8_hasRoom_58 : decode cX8_hasRoom 58 = .ok (.iload_n 2, 1) := by decide +kernel
theorem dX8_hasRoom_59 : decode cX8_hasRoom 59 = .ok (.if_icmp .gt 7, 3) := by decide +kernel
theorem dX8_hasRoom_62 : decode cX8_hasRoom 62 = .ok (.iconst 1, 1) := by decide +kernel
theorem dX8_hasRoom_63 : decode cX8_hasRoom 63 = .ok (.goto 4, 3) := by decide +kernel
theorem dX8_hasRoom_66 : decode cX8_hasRoom 66 = .ok (.iconst 0, 1) := by decide +kernel
theorem dX8_hasRoom_67 : decode cX8_hasRoom 67 = .ok (.istore 5, 2) := by decide +kernel
theorem dX8_hasRoom_69 : decode cX8_hasRoom 69 = .ok (.aload_n 0, 1) := by decide +kernel
theorem dX8_hasRoom_70 : decode cX8_hasRoom 70 = .ok (.getfield 18, 3) := by decide +kernel
theorem dX8_hasRoom_73 : decode cX8_hasRoom 73 = .ok (.iload 4, 2) := by decide +kernel
theorem dX8_hasRoom_75 : decode cX8_hasRoom 75 = .ok (.iaload, 1) := by decide +kernel
theorem dX8_hasRoom_76 : decode cX8_hasRoom 76 = .ok (.iload_n 1, 1) := by decide +kernel
theorem dX8_hasRoom_77 : decode cX8_hasRoom 77 = .ok (.if_icmp .ne 10, 3) := by decide +kernel
theorem dX8_hasRoom_80 : decode cX8_hasRoom 80 = .ok (.iload 5, 2) := by decide +kernel
theorem dX8_hasRoom_82 : decode cX8_hasRoom 82 = .ok (.ifCond .ne 5, 3) := by decide +kernel
theorem dX8_hasRoom_85 : decode cX8_hasRoom 85 = .ok (.iconst 0, 1) := by decide +kernel
theorem dX8_hasRoom_86 : decode cX8_hasRoom 86 = .ok (.ireturn, 1) := by decide +kernel
theorem dX8_hasRoom_87 : decode cX8_hasRoom 87 = .ok (.iinc 4 1, 3) := by decide +kernel
theorem dX8_hasRoom_90 : decode cX8_hasRoom 90 = .ok (.goto (-75), 3) := by decide +kernel
theorem dX8_hasRoom_93 : decode cX8_hasRoom 93 = .ok (.iconst 1, 1) := by decide +kernel
theorem dX8_hasRoom_94 : decode cX8_hasRoom 94 = .ok (.ireturn, 1) := by decide +kernel
theorem dX8_put_0 : decode cX8_put 0 = .ok (.aload_n 0, 1) := by decide +kernel
theorem dX8_put_1 : decode cX8_put 1 = .ok (.getfield 18, 3) := by decide +kernel
theorem dX8_put_4 : decode cX8_put 4 = .ok (.iload_n 1, 1) := by decide +kernel
theorem dX8_put_5 : decode cX8_put 5 = .ok (.iload_n 2, 1) := by decide +kernel
theorem dX8_put_6 : decode cX8_put 6 = .ok (.iastore, 1) := by decide +kernel
theorem dX8_put_7 : decode cX8_put 7 = .ok (.aload_n 0, 1) := by decide +kernel
theorem dX8_put_8 : decode cX8_put 8 = .ok (.getfield 22, 3) := by decide +kernel
theorem dX8_put_11 : decode cX8_put 11 = .ok (.iload_n 1, 1) := by decide +kernel
theorem dX8_put_12 : decode cX8_put 12 = .ok (.iload_n 3, 1) := by decide +kernel
theorem dX8_put_13 : decode cX8_put 13 = .ok (.iastore, 1) := by decide +kernel
theorem dX8_put_14 : decode cX8_put 14 = .ok (.return_, 1) := by decide +kernel
theorem dX8_isHidden_0 : decode cX8_isHidden 0 = .ok (.iconst 0, 1) := by decide +kernel
theorem dX8_isHidden_1 : decode cX8_isHidden 1 = .ok (.istore_n 2, 1) := by decide +kernel
theorem dX8_isHidden_2 : decode cX8_isHidden 2 = .ok (.iload_n 2, 1) := by decide +kernel
theorem dX8_isHidden_3 : decode cX8_isHidden 3 = .ok (.aload_n 0, 1) := by decide +kernel
theorem dX8_isHidden_4 : decode cX8_isHidden 4 = .ok (.getfield 37, 3) := by decide +kernel
theorem dX8_isHidden_7 : decode cX8_isHidden 7 = .ok (.getfield 47, 3) := by decide +kernel
theorem dX8_isHidden_10 : decode cX8_isHidden 10 = .ok (.if_icmp .ge 65, 3) := by decide +kernel
theorem dX8_isHidden_13 : decode cX8_isHidden 13 = .ok (.aload_n 0, 1) := by decide +kernel
theorem dX8_isHidden_14 : decode cX8_isHidden 14 = .ok (.iload_n 2, 1) := by decide +kernel
theorem dX8_isHidden_15 : decode cX8_isHidden 15 = .ok (.invokevirtual 52, 3) := by decide +kernel
theorem dX8_isHidden_18 : decode cX8_isHidden 18 = .ok (.ifCond .eq 22, 3) := by decide +kernel
theorem dX8_isHidden_21 : decode cX8_isHidden 21 = .ok (.aload_n 0, 1) := by decide +kernel
theorem dX8_isHidden_22 : decode cX8_isHidden 22 = .ok (.getfield 18, 3) := by decide +kernel
theorem dX8_isHidden_25 : decode cX8_isHidden 25 = .ok (.iload_n 2, 1) := by decide +kernel
theorem dX8_isHidden_26 : decode cX8_isHidden 26 = .ok (.iaload, 1) := by decide +kernel
theorem dX8_isHidden_27 : decode cX8_isHidden 27 = .ok (.aload_n 0, 1) := by decide +kernel
theorem dX8_isHidden_28 : decode cX8_isHidden 28 = .ok (.getfield 18, 3) := by decide +kernel
theorem dX8_isHidden_31 : decode cX8_isHidden 31 = .ok (.iload_n 1, 1) := by decide +kernel
theorem dX8_isHidden_32 : decode cX8_isHidden 32 = .ok (.iaload, 1) := by decide +kernel
theorem dX8_isHidden_33 : decode cX8_isHidden 33 = .ok (.if_icmp .ge 7, 3) := by decide +kernel
theorem dX8_isHidden_36 : decode cX8_isHidden 36 = .ok (.iconst 1, 1) := by decide +kernel
theorem dX8_isHidden_37 : decode cX8_isHidden 37 = .ok (.goto 4, 3) := by decide +kernel
theorem dX8_isHidden_40 : decode cX8_isHidden 40 = .ok (.iconst 0, 1) := by decide +kernel
theorem dX8_isHidden_41 : decode cX8_isHidden 41 = .ok (.istore_n 3, 1) := by decide +kernel
theorem dX8_isHidden_42 : decode cX8_isHidden 42 = .ok (.iload_n 3, 1) := by decide +kernel
theorem dX8_isHidden_43 : decode cX8_isHidden 43 = .ok (.ifCond .eq 26, 3) := by decide +kernel
theorem dX8_isHidden_46 : decode cX8_isHidden 46 = .ok (.aload_n 0, 1) := by decide +kernel
theorem dX8_isHidden_47 : decode cX8_isHidden 47 = .ok (.getfield 37, 3) := by decide +kernel
theorem dX8_isHidden_50 : decode cX8_isHidden 50 = .ok (.getfield 63, 3) := by decide +kernel
theorem dX8_isHidden_53 : decode cX8_isHidden 53 = .ok (.iload_n 2, 1) := by decide +kernel
theorem dX8_isHidden_54 : decode cX8_isHidden 54 = .ok (.iaload, 1) := by decide +kernel
theorem dX8_isHidden_55 : decode cX8_isHidden 55 = .ok (.aload_n 0, 1) := by decide +kernel
theorem dX8_isHidden_56 : decode cX8_isHidden 56 = .ok (.getfield 37, 3) := by decide +kernel
theorem dX8_isHidden_59 : decode cX8_isHidden 59 = .ok (.getfield 63, 3) := by decide +kernel
theorem dX8_isHidden_62 : decode cX8_isHidden 62 = .ok (.iload_n 1, 1) := by decide +kernel
theorem dX8_isHidden_63 : decode cX8_isHidden 63 = .ok (.iaload, 1) := by decide +kernel
theorem dX8_isHidden_64 : decode cX8_isHidden 64 = .ok (.if_icmp .le 5, 3) := by decide +kernel
theorem dX8_isHidden_67 : decode cX8_isHidden 67 = .ok (.iconst 1, 1) := by decide +kernel
theorem dX8_isHidden_68 : decode cX8_isHidden 68 = .ok (.ireturn, 1) := by decide +kernel
theorem dX8_isHidden_69 : decode cX8_isHidden 69 = .ok (.iinc 2 1, 3) := by decide +kernel
theorem dX8_isHidden_72 : decode cX8_isHidden 72 = .ok (.goto (-70), 3) := by decide +kernel
theorem dX8_isHidden_75 : decode cX8_isHidden 75 = .ok (.iconst 0, 1) := by decide +kernel
theorem dX8_isHidden_76 : decode cX8_isHidden 76 = .ok (.ireturn, 1) := by decide +kernel
theorem dX8_seconds_0 : decode cX8_seconds 0 = .ok (.iload_n 1, 1) := by decide +kernel
theorem dX8_seconds_1 : decode cX8_seconds 1 = .ok (.aload_n 0, 1) := by decide +kernel
theorem dX8_seconds_2 : decode cX8_seconds 2 = .ok (.iload_n 1, 1) := by decide +kernel
theorem dX8_seconds_3 : decode cX8_seconds 3 = .ok (.iload_n 2, 1) := by decide +kernel
theorem dX8_seconds_4 : decode cX8_seconds 4 = .ok (.invokevirtual 66, 3) := by decide +kernel
theorem dX8_seconds_7 : decode cX8_seconds 7 = .ok (.invokestatic 70, 3) := by decide +kernel
theorem dX8_seconds_10 : decode cX8_seconds 10 = .ok (.iload_n 2, 1) := by decide +kernel
theorem dX8_seconds_11 : decode cX8_seconds 11 = .ok (.iadd, 1) := by decide +kernel
theorem dX8_seconds_12 : decode cX8_seconds 12 = .ok (.ireturn, 1) := by decide +kernel
theorem dX8_placesRight_0 : decode cX8_placesRight 0 = .ok (.aload_n 0, 1) := by decide +kernel
theorem dX8_placesRight_1 : decode cX8_placesRight 1 = .ok (.getfield 15, 3) := by decide +kernel
theorem dX8_placesRight_4 : decode cX8_placesRight 4 = .ok (.iload_n 1, 1) := by decide +kernel
theorem dX8_placesRight_5 : decode cX8_placesRight 5 = .ok (.isub, 1) := by decide +kernel
theorem dX8_placesRight_6 : decode cX8_placesRight 6 = .ok (.iload_n 2, 1) := by decide +kernel
theorem dX8_placesRight_7 : decode cX8_placesRight 7 = .ok (.isub, 1) := by decide +kernel
theorem dX8_placesRight_8 : decode cX8_placesRight 8 = .ok (.ireturn, 1) := by decide +kernel
theorem dX8_resetDoors_0 : decode cX8_resetDoors 0 = .ok (.aload_n 0, 1) := by decide +kernel
theorem dX8_resetDoors_1 : decode cX8_resetDoors 1 = .ok (.iconst 0, 1) := by decide +kernel
theorem dX8_resetDoors_2 : decode cX8_resetDoors 2 = .ok (.putfield 31, 3) := by decide +kernel
theorem dX8_resetDoors_5 : decode cX8_resetDoors 5 = .ok (.aload_n 0, 1) := by decide +kernel
theorem dX8_resetDoors_6 : decode cX8_resetDoors 6 = .ok (.iconst 0, 1) := by decide +kernel
theorem dX8_resetDoors_7 : decode cX8_resetDoors 7 = .ok (.putfield 34, 3) := by decide +kernel
theorem dX8_resetDoors_10 : decode cX8_resetDoors 10 = .ok (.return_, 1) := by decide +kernel
theorem dX8_sendOff_0 : decode cX8_sendOff 0 = .ok (.iload_n 1, 1) := by decide +kernel
theorem dX8_sendOff_1 : decode cX8_sendOff 1 = .ok (.aload_n 0, 1) := by decide +kernel
theorem dX8_sendOff_2 : decode cX8_sendOff 2 = .ok (.iload_n 1, 1) := by decide +kernel
theorem dX8_sendOff_3 : decode cX8_sendOff 3 = .ok (.iload_n 2, 1) := by decide +kernel
theorem dX8_sendOff_4 : decode cX8_sendOff 4 = .ok (.invokevirtual 66, 3) := by decide +kernel
theorem dX8_sendOff_7 : decode cX8_sendOff 7 = .ok (.if_icmp .gt 21, 3) := by decide +kernel
theorem dX8_sendOff_10 : decode cX8_sendOff 10 = .ok (.aload_n 0, 1) := by decide +kernel
theorem dX8_sendOff_11 : decode cX8_sendOff 11 = .ok (.dup, 1) := by decide +kernel
theorem dX8_sendOff_12 : decode cX8_sendOff 12 = .ok (.getfield 31, 3) := by decide +kernel
theorem dX8_sendOff_15 : decode cX8_sendOff 15 = .ok (.aload_n 0, 1) := by decide +kernel
theorem dX8_sendOff_16 : decode cX8_sendOff 16 = .ok (.iload_n 1, 1) := by decide +kernel
theorem dX8_sendOff_17 : decode cX8_sendOff 17 = .ok (.iload_n 2, 1) := by decide +kernel
theorem dX8_sendOff_18 : decode cX8_sendOff 18 = .ok (.invokevirtual 75, 3) := by decide +kernel
theorem dX8_sendOff_21 : decode cX8_sendOff 21 = .ok (.iadd, 1) := by decide +kernel
theorem dX8_sendOff_22 : decode cX8_sendOff 22 = .ok (.putfield 31, 3) := by decide +kernel
theorem dX8_sendOff_25 : decode cX8_sendOff 25 = .ok (.goto 18, 3) := by decide +kernel
theorem dX8_sendOff_28 : decode cX8_sendOff 28 = .ok (.aload_n 0, 1) := by decide +kernel
theorem dX8_sendOff_29 : decode cX8_sendOff 29 = .ok (.dup, 1) := by decide +kernel
theorem dX8_sendOff_30 : decode cX8_sendOff 30 = .ok (.getfield 34, 3) := by decide +kernel
theorem dX8_sendOff_33 : decode cX8_sendOff 33 = .ok (.aload_n 0, 1) := by decide +kernel
theorem dX8_sendOff_34 : decode cX8_sendOff 34 = .ok (.iload_n 1, 1) := by decide +kernel
theorem dX8_sendOff_35 : decode cX8_sendOff 35 = .ok (.iload_n 2, 1) := by decide +kernel
theorem dX8_sendOff_36 : decode cX8_sendOff 36 = .ok (.invokevirtual 75, 3) := by decide +kernel
theorem dX8_sendOff_39 : decode cX8_sendOff 39 = .ok (.iadd, 1) := by decide +kernel
theorem dX8_sendOff_40 : decode cX8_sendOff 40 = .ok (.putfield 34, 3) := by decide +kernel
theorem dX8_sendOff_43 : decode cX8_sendOff 43 = .ok (.return_, 1) := by decide +kernel
theorem dX8_clearOfAll_0 : decode cX8_clearOfAll 0 = .ok (.aload_n 0, 1) := by decide +kernel
theorem dX8_clearOfAll_1 : decode cX8_clearOfAll 1 = .ok (.invokevirtual 78, 3) := by decide +kernel
theorem dX8_clearOfAll_4 : decode cX8_clearOfAll 4 = .ok (.iconst 0, 1) := by decide +kernel
theorem dX8_clearOfAll_5 : decode cX8_clearOfAll 5 = .ok (.istore_n 1, 1) := by decide +kernel
theorem dX8_clearOfAll_6 : decode cX8_clearOfAll 6 = .ok (.iload_n 1, 1) := by decide +kernel
theorem dX8_clearOfAll_7 : decode cX8_clearOfAll 7 = .ok (.aload_n 0, 1) := by decide +kernel
theorem dX8_clearOfAll_8 : decode cX8_clearOfAll 8 = .ok (.getfield 37, 3) := by decide +kernel
theorem dX8_clearOfAll_11 : decode cX8_clearOfAll 11 = .ok (.getfield 47, 3) := by decide +kernel
theorem dX8_clearOfAll_14 : decode cX8_clearOfAll 14 = .ok (.if_icmp .ge 36, 3) := by decide +kernel
theorem dX8_clearOfAll_17 : decode cX8_clearOfAll 17 = .ok (.aload_n 0, 1) := by decide +kernel
theorem dX8_clearOfAll_18 : decode cX8_clearOfAll 18 = .ok (.iload_n 1, 1) := by decide +kernel
theorem dX8_clearOfAll_19 : decode cX8_clearOfAll 19 = .ok (.invokevirtual 52, 3) := by decide +kernel
theorem dX8_clearOfAll_22 : decode cX8_clearOfAll 22 = .ok (.ifCond .eq 22, 3) := by decide +kernel
theorem dX8_clearOfAll_25 : decode cX8_clearOfAll 25 = .ok (.aload_n 0, 1) := by decide +kernel
theorem dX8_clearOfAll_26 : decode cX8_clearOfAll 26 = .ok (.aload_n 0, 1) := by decide +kernel
theorem dX8_clearOfAll_27 : decode cX8_clearOfAll 27 = .ok (.getfield 22, 3) := by decide +kernel
theorem dX8_clearOfAll_30 : decode cX8_clearOfAll 30 = .ok (.iload_n 1, 1) := by decide +kernel
theorem dX8_clearOfAll_31 : decode cX8_clearOfAll 31 = .ok (.iaload, 1) := by decide +kernel
theorem dX8_clearOfAll_32 : decode cX8_clearOfAll 32 = .ok (.aload_n 0, 1) := by decide +kernel
theorem dX8_clearOfAll_33 : decode cX8_clearOfAll 33 = .ok (.getfield 37, 3) := by decide +kernel
theorem dX8_clearOfAll_36 : decode cX8_clearOfAll 36 = .ok (.getfield 60, 3) := by decide +kernel
theorem dX8_clearOfAll_39 : decode cX8_clearOfAll 39 = .ok (.iload_n 1, 1) := by decide +kernel
theorem dX8_clearOfAll_40 : decode cX8_clearOfAll 40 = .ok (.iaload, 1) := by decide +kernel
theorem dX8_clearOfAll_41 : decode cX8_clearOfAll 41 = .ok (.invokevirtual 81, 3) := by decide +kernel
theorem dX8_clearOfAll_44 : decode cX8_clearOfAll 44 = .ok (.iinc 1 1, 3) := by decide +kernel
theorem dX8_clearOfAll_47 : decode cX8_clearOfAll 47 = .ok (.goto (-41), 3) := by decide +kernel
theorem dX8_clearOfAll_50 : decode cX8_clearOfAll 50 = .ok (.aload_n 0, 1) := by decide +kernel
theorem dX8_clearOfAll_51 : decode cX8_clearOfAll 51 = .ok (.getfield 31, 3) := by decide +kernel
theorem dX8_clearOfAll_54 : decode cX8_clearOfAll 54 = .ok (.aload_n 0, 1) := by decide +kernel
theorem dX8_clearOfAll_55 : decode cX8_clearOfAll 55 = .ok (.getfield 34, 3) := by decide +kernel
theorem dX8_clearOfAll_58 : decode cX8_clearOfAll 58 = .ok (.invokestatic 85, 3) := by decide +kernel
theorem dX8_clearOfAll_61 : decode cX8_clearOfAll 61 = .ok (.ireturn, 1) := by decide +kernel
theorem dX8_clearOfLine_0 : decode cX8_clearOfLine 0 = .ok (.aload_n 0, 1) := by decide +kernel
theorem dX8_clearOfLine_1 : decode cX8_clearOfLine 1 = .ok (.invokevirtual 78, 3) := by decide +kernel
theorem dX8_clearOfLine_4 : decode cX8_clearOfLine 4 = .ok (.iconst 0, 1) := by decide +kernel
theorem dX8_clearOfLine_5 : decode cX8_clearOfLine 5 = .ok (.istore_n 2, 1) := by decide +kernel
theorem dX8_clearOfLine_6 : decode cX8_clearOfLine 6 = .ok (.iconst 0, 1) := by decide +kernel
theorem dX8_clearOfLine_7 : decode cX8_clearOfLine 7 = .ok (.istore_n 3, 1) := by decide +kernel
theorem dX8_clearOfLine_8 : decode cX8_clearOfLine 8 = .ok (.iload_n 3, 1) := by decide +kernel
theorem dX8_clearOfLine_9 : decode cX8_clearOfLine 9 = .ok (.iload_n 1, 1) := by decide +kernel
theorem dX8_clearOfLine_10 : decode cX8_clearOfLine 10 = .ok (.if_icmp .ge 37, 3) := by decide +kernel
theorem dX8_clearOfLine_13 : decode cX8_clearOfLine 13 = .ok (.aload_n 0, 1) := by decide +kernel
theorem dX8_clearOfLine_14 : decode cX8_clearOfLine 14 = .ok (.getfield 37, 3) := by decide +kernel
theorem dX8_clearOfLine_17 : decode cX8_clearOfLine 17 = .ok (.getfield 60, 3) := by decide +kernel
theorem dX8_clearOfLine_20 : decode cX8_clearOfLine 20 = .ok (.aload_n 0, 1) := by decide +kernel
theorem dX8_clearOfLine_21 : decode cX8_clearOfLine 21 = .ok (.getfield 25, 3) := by decide +kernel
theorem dX8_clearOfLine_24 : decode cX8_clearOfLine 24 = .ok (.iload_n 3, 1) := by decide +kernel
theorem dX8_clearOfLine_25 : decode cX8_clearOfLine 25 = .ok (.iaload, 1) := by decide +kernel
theorem dX8_clearOfLine_26 : decode cX8_clearOfLine 26 = .ok (.iaload, 1) := by decide +kernel
theorem dX8_clearOfLine_27 : decode cX8_clearOfLine 27 = .ok (.istore 4, 2) := by decide +kernel
theorem dX8_clearOfLine_29 : decode cX8_clearOfLine 29 = .ok (.aload_n 0, 1) := by decide +kernel
theorem dX8_clearOfLine_30 : decode cX8_clearOfLine 30 = .ok (.iload_n 2, 1) := by decide +kernel
theorem dX8_clearOfLine_31 : decode cX8_clearOfLine 31 = .ok (.iload 4, 2) := by decide +kernel
theorem dX8_clearOfLine_33 : decode cX8_clearOfLine 33 = .ok (.invokevirtual 81, 3) := by decide +kernel
theorem dX8_clearOfLine_36 : decode cX8_clearOfLine 36 = .ok (.iload_n 2, 1) := by decide +kernel
theorem dX8_clearOfLine_37 : decode cX8_clearOfLine 37 = .ok (.iload 4, 2) := by decide +kernel
theorem dX8_clearOfLine_39 : decode cX8_clearOfLine 39 = .ok (.iadd, 1) := by decide +kernel
theorem dX8_clearOfLine_40 : decode cX8_clearOfLine 40 = .ok (.istore_n 2, 1) := by decide +kernel
theorem dX8_clearOfLine_41 : decode cX8_clearOfLine 41 = .ok (.iinc 3 1, 3) := by decide +kernel
theorem dX8_clearOfLine_44 : decode cX8_clearOfLine 44 = .ok (.goto (-36), 3) := by decide +kernel
theorem dX8_clearOfLine_47 : decode cX8_clearOfLine 47 = .ok (.aload_n 0, 1) := by decide +kernel
theorem dX8_clearOfLine_48 : decode cX8_clearOfLine 48 = .ok (.getfield 31, 3) := by decide +kernel
theorem dX8_clearOfLine_51 : decode cX8_clearOfLine 51 = .ok (.aload_n 0, 1) := by decide +kernel
theorem dX8_clearOfLine_52 : decode cX8_clearOfLine 52 = .ok (.getfield 34, 3) := by decide +kernel
theorem dX8_clearOfLine_55 : decode cX8_clearOfLine 55 = .ok (.invokestatic 85, 3) := by decide +kernel
theorem dX8_clearOfLine_58 : decode cX8_clearOfLine 58 = .ok (.ireturn, 1) := by decide +kernel
theorem dX8_putBestLine_0 : decode cX8_putBestLine 0 = .ok (.aload_n 0, 1) := by decide +kernel
theorem dX8_putBestLine_1 : decode cX8_putBestLine 1 = .ok (.iload_n 2, 1) := by decide +kernel
theorem dX8_putBestLine_2 : decode cX8_putBestLine 2 = .ok (.invokevirtual 88, 3) := by decide +kernel
theorem dX8_putBestLine_5 : decode cX8_putBestLine 5 = .ok (.istore_n 3, 1) := by decide +kernel
theorem dX8_putBestLine_6 : decode cX8_putBestLine 6 = .ok (.ldc 92, 2) := by decide +kernel
theorem dX8_putBestLine_8 : decode cX8_putBestLine 8 = .ok (.istore 4, 2) := by decide +kernel
theorem dX8_putBestLine_10 : decode cX8_putBestLine 10 = .ok (.iconst 1, 1) := by decide +kernel
theorem dX8_putBestLine_11 : decode cX8_putBestLine 11 = .ok (.istore 5, 2) := by decide +kernel
theorem dX8_putBestLine_13 : decode cX8_putBestLine 13 = .ok (.iconst 0, 1) := by decide +kernel
theorem dX8_putBestLine_14 : decode cX8_putBestLine 14 = .ok (.istore 6, 2) := by decide +kernel
theorem dX8_putBestLine_16 : decode cX8_putBestLine 16 = .ok (.iload 6, 2) := by decide +kernel
theorem dX8_putBestLine_18 : decode cX8_putBestLine 18 = .ok (.bipush 24, 2) := by decide +kernel
theorem dX8_putBestLine_20 : decode cX8_putBestLine 20 = .ok (.if_icmp .ge 53, 3) := by decide +kernel
theorem dX8_putBestLine_23 : decode cX8_putBestLine 23 = .ok (.iload 5, 2) := by decide +kernel
theorem dX8_putBestLine_25 : decode cX8_putBestLine 25 = .ok (.ifCond .eq 48, 3) := by decide +kernel
theorem dX8_putBestLine_28 : decode cX8_putBestLine 28 = .ok (.aload_n 0, 1) := by decide +kernel
theorem dX8_putBestLine_29 : decode cX8_putBestLine 29 = .ok (.iload_n 3, 1) := by decide +kernel
theorem dX8_putBestLine_30 : decode cX8_putBestLine 30 = .ok (.invokevirtual 93, 3) := by decide +kernel
theorem dX8_putBestLine_33 : decode cX8_putBestLine 33 = .ok (.istore 7, 2) := by decide +kernel
theorem dX8_putBestLine_35 : decode cX8_putBestLine 35 = .ok (.iload 7, 2) := by decide +kernel
theorem dX8_putBestLine_37 : decode cX8_putBestLine 37 = .ok (.iload 4, 2) := by decide +kernel
theorem dX8_putBestLine_39 : decode cX8_putBestLine 39 = .ok (.if_icmp .ge 21, 3) := by decide +kernel
theorem dX8_putBestLine_42 : decode cX8_putBestLine 42 = .ok (.iload 7, 2) := by decide +kernel
theorem dX8_putBestLine_44 : decode cX8_putBestLine 44 = .ok (.istore 4, 2) := by decide +kernel
theorem dX8_putBestLine_46 : decode cX8_putBestLine 46 = .ok (.aload_n 0, 1) := by decide +kernel
theorem dX8_putBestLine_47 : decode cX8_putBestLine 47 = .ok (.getfield 25, 3) := by decide +kernel
theorem dX8_putBestLine_50 : decode cX8_putBestLine 50 = .ok (.iconst 0, 1) := by decide +kernel
theorem dX8_putBestLine_51 : decode cX8_putBestLine 51 = .ok (.aload_n 0, 1) := by decide +kernel
theorem dX8_putBestLine_52 : decode cX8_putBestLine 52 = .ok (.getfield 28, 3) := by decide +kernel
theorem dX8_putBestLine_55 : decode cX8_putBestLine 55 = .ok (.iconst 0, 1) := by decide +kernel
theorem dX8_putBestLine_56 : decode cX8_putBestLine 56 = .ok (.iload_n 3, 1) := by decide +kernel
theorem dX8_putBestLine_57 : decode cX8_putBestLine 57 = .ok (.invokestatic 96, 3) := by decide +kernel
theorem dX8_putBestLine_60 : decode cX8_putBestLine 60 = .ok (.aload_n 0, 1) := by decide +kernel
theorem dX8_putBestLine_61 : decode cX8_putBestLine 61 = .ok (.iload_n 3, 1) := by decide +kernel
theorem dX8_putBestLine_62 : decode cX8_putBestLine 62 = .ok (.invokevirtual 102, 3) := by decide +kernel
theorem dX8_putBestLine_65 : decode cX8_putBestLine 65 = .ok (.istore 5, 2) := by decide +kernel
theorem dX8_putBestLine_67 : decode cX8_putBestLine 67 = .ok (.iinc 6 1, 3) := by decide +kernel
theorem dX8_putBestLine_70 : decode cX8_putBestLine 70 = .ok (.goto (-54), 3) := by decide +kernel
theorem dX8_putBestLine_73 : decode cX8_putBestLine 73 = .ok (.iconst 0, 1) := by decide +kernel
theorem dX8_putBestLine_74 : decode cX8_putBestLine 74 = .ok (.istore 6, 2) := by decide +kernel
theorem dX8_putBestLine_76 : decode cX8_putBestLine 76 = .ok (.iconst 0, 1) := by decide +kernel
theorem dX8_putBestLine_77 : decode cX8_putBestLine 77 = .ok (.istore 7, 2) := by decide +kernel
theorem dX8_putBestLine_79 : decode cX8_putBestLine 79 = .ok (.iload 7, 2) := by decide +kernel
theorem dX8_putBestLine_81 : decode cX8_putBestLine 81 = .ok (.iload_n 3, 1) := by decide +kernel
theorem dX8_putBestLine_82 : decode cX8_putBestLine 82 = .ok (.if_icmp .ge 43, 3) := by decide +kernel
theorem dX8_putBestLine_85 : decode cX8_putBestLine 85 = .ok (.aload_n 0, 1) := by decide +kernel
theorem dX8_putBestLine_86 : decode cX8_putBestLine 86 = .ok (.aload_n 0, 1) := by decide +kernel
theorem dX8_putBestLine_87 : decode cX8_putBestLine 87 = .ok (.getfield 28, 3) := by decide +kernel
theorem dX8_putBestLine_90 : decode cX8_putBestLine 90 = .ok (.iload 7, 2) := by decide +kernel
theorem dX8_putBestLine_92 : decode cX8_putBestLine 92 = .ok (.iaload, 1) := by decide +kernel
theorem dX8_putBestLine_93 : decode cX8_putBestLine 93 = .ok (.iload_n 1, 1) := by decide +kernel
theorem dX8_putBestLine_94 : decode cX8_putBestLine 94 = .ok (.iload 6, 2) := by decide +kernel
theorem dX8_putBestLine_96 : decode cX8_putBestLine 96 = .ok (.invokevirtual 105, 3) := by decide +kernel
theorem dX8_putBestLine_99 : decode cX8_putBestLine 99 = .ok (.iload 6, 2) := by decide +kernel
theorem dX8_putBestLine_101 : decode cX8_putBestLine 101 = .ok (.aload_n 0, 1) := by decide +kernel
theorem dX8_putBestLine_102 : decode cX8_putBestLine 102 = .ok (.getfield 37, 3) := by decide +kernel
theorem dX8_putBestLine_105 : decode cX8_putBestLine 105 = .ok (.getfield 60, 3) := by decide +kernel
theorem dX8_putBestLine_108 : decode cX8_putBestLine 108 = .ok (.aload_n 0, 1) := by decide +kernel
theorem dX8_putBestLine_109 : decode cX8_putBestLine 109 = .ok (.getfield 28, 3) := by decide +kernel
theorem dX8_putBestLine_112 : decode cX8_putBestLine 112 = .ok (.iload 7, 2) := by decide +kernel
theorem dX8_putBestLine_114 : decode cX8_putBestLine 114 = .ok (.iaload, 1) := by decide +kernel
theorem dX8_putBestLine_115 : decode cX8_putBestLine 115 = .ok (.iaload, 1) := by decide +kernel
theorem dX8_putBestLine_116 : decode cX8_putBestLine 116 = .ok (.iadd, 1) := by decide +kernel
theorem dX8_putBestLine_117 : decode cX8_putBestLine 117 = .ok (.istore 6, 2) := by decide +kernel
theorem dX8_putBestLine_119 : decode cX8_putBestLine 119 = .ok (.iinc 7 1, 3) := by decide +kernel
theorem dX8_putBestLine_122 : decode cX8_putBestLine 122 = .ok (.goto (-43), 3) := by decide +kernel
theorem dX8_putBestLine_125 : decode cX8_putBestLine 125 = .ok (.iload 4, 2) := by decide +kernel
theorem dX8_putBestLine_127 : decode cX8_putBestLine 127 = .ok (.ireturn, 1) := by decide +kernel
theorem dX8_firstLine_0 : decode cX8_firstLine 0 = .ok (.iconst 0, 1) := by decide +kernel
theorem dX8_firstLine_1 : decode cX8_firstLine 1 = .ok (.istore_n 2, 1) := by decide +kernel
theorem dX8_firstLine_2 : decode cX8_firstLine 2 = .ok (.iconst 0, 1) := by decide +kernel
theorem dX8_firstLine_3 : decode cX8_firstLine 3 = .ok (.istore_n 3, 1) := by decide +kernel
theorem dX8_firstLine_4 : decode cX8_firstLine 4 = .ok (.iload_n 3, 1) := by decide +kernel
theorem dX8_firstLine_5 : decode cX8_firstLine 5 = .ok (.aload_n 0, 1) := by decide +kernel
theorem dX8_firstLine_6 : decode cX8_firstLine 6 = .ok (.getfield 37, 3) := by decide +kernel
theorem dX8_firstLine_9 : decode cX8_firstLine 9 = .ok (.getfield 47, 3) := by decide +kernel
theorem dX8_firstLine_12 : decode cX8_firstLine 12 = .ok (.if_icmp .ge 33, 3) := by decide +kernel
theorem dX8_firstLine_15 : decode cX8_firstLine 15 = .ok (.iload_n 2, 1) := by decide +kernel
theorem dX8_firstLine_16 : decode cX8_firstLine 16 = .ok (.iconst 4, 1) := by decide +kernel
theorem dX8_firstLine_17 : decode cX8_firstLine 17 = .ok (.if_icmp .ge 28, 3) := by decide +kernel
theorem dX8_firstLine_20 : decode cX8_firstLine 20 = .ok (.iload_n 1, 1) := by decide +kernel
theorem dX8_firstLine_21 : decode cX8_firstLine 21 = .ok (.iload_n 3, 1) := by decide +kernel
theorem dX8_firstLine_22 : decode cX8_firstLine 22 = .ok (.ishr, 1) := by decide +kernel
theorem dX8_firstLine_23 : decode cX8_firstLine 23 = .ok (.iconst 1, 1) := by decide +kernel
theorem dX8_firstLine_24 : decode cX8_firstLine 24 = .ok (.iand, 1) := by decide +kernel
theorem dX8_firstLine_25 : decode cX8_firstLine 25 = .ok (.iconst 1, 1) := by decide +kernel
theorem dX8_firstLine_26 : decode cX8_firstLine 26 = .ok (.if_icmp .ne 13, 3) := by decide +kernel
theorem dX8_firstLine_29 : decode cX8_firstLine 29 = .ok (.aload_n 0, 1) := by decide +kernel
theorem dX8_firstLine_30 : decode cX8_firstLine 30 = .ok (.getfield 25, 3) := by decide +kernel
theorem dX8_firstLine_33 : decode cX8_firstLine 33 = .ok (.iload_n 2, 1) := by decide +kernel
theorem dX8_firstLine_34 : decode cX8_firstLine 34 = .ok (.iload_n 3, 1) := by decide +kernel
theorem dX8_firstLine_35 : decode cX8_firstLine 35 = .ok (.iastore, 1) := by decide +kernel
theorem dX8_firstLine_36 : decode cX8_firstLine 36 = .ok (.iinc 2 1, 3) := by decide +kernel
theorem dX8_firstLine_39 : decode cX8_firstLine 39 = .ok (.iinc 3 1, 3) := by decide +kernel
theorem dX8_firstLine_42 : decode cX8_firstLine 42 = .ok (.goto (-38), 3) := by decide +kernel
theorem dX8_firstLine_45 : decode cX8_firstLine 45 = .ok (.iload_n 2, 1) := by decide +kernel
theorem dX8_firstLine_46 : decode cX8_firstLine 46 = .ok (.ireturn, 1) := by decide +kernel
theorem dX8_nextLine_0 : decode cX8_nextLine 0 = .ok (.iload_n 1, 1) := by decide +kernel
theorem dX8_nextLine_1 : decode cX8_nextLine 1 = .ok (.iconst 2, 1) := by decide +kernel
theorem dX8_nextLine_2 : decode cX8_nextLine 2 = .ok (.isub, 1) := by decide +kernel
theorem dX8_nextLine_3 : decode cX8_nextLine 3 = .ok (.istore_n 2, 1) := by decide +kernel
theorem dX8_nextLine_4 : decode cX8_nextLine 4 = .ok (.iload_n 2, 1) := by decide +kernel
theorem dX8_nextLine_5 : decode cX8_nextLine 5 = .ok (.ifCond .lt 26, 3) := by decide +kernel
theorem dX8_nextLine_8 : decode cX8_nextLine 8 = .ok (.aload_n 0, 1) := by decide +kernel
theorem dX8_nextLine_9 : decode cX8_nextLine 9 = .ok (.getfield 25, 3) := by decide +kernel
theorem dX8_nextLine_12 : decode cX8_nextLine 12 = .ok (.iload_n 2, 1) := by decide +kernel
theorem dX8_nextLine_13 : decode cX8_nextLine 13 = .ok (.iaload, 1) := by decide +kernel
theorem dX8_nextLine_14 : decode cX8_nextLine 14 = .ok (.aload_n 0, 1) := by decide +kernel
theorem dX8_nextLine_15 : decode cX8_nextLine 15 = .ok (.getfield 25, 3) := by decide +kernel
theorem dX8_nextLine_18 : decode cX8_nextLine 18 = .ok (.iload_n 2, 1) := by decide +kernel
theorem dX8_nextLine_19 : decode cX8_nextLine 19 = .ok (.iconst 1, 1) := by decide +kernel
theorem dX8_nextLine_20 : decode cX8_nextLine 20 = .ok (.iadd, 1) := by decide +kernel
theorem dX8_nextLine_21 : decode cX8_nextLine 21 = .ok (.iaload, 1) := by decide +kernel
theorem dX8_nextLine_22 : decode cX8_nextLine 22 = .ok (.if_icmp .le 9, 3) := by decide +kernel
theorem dX8_nextLine_25 : decode cX8_nextLine 25 = .ok (.iinc 2 (-1), 3) := by decide +kernel
theorem dX8_nextLine_28 : decode cX8_nextLine 28 = .ok (.goto (-24), 3) := by decide +kernel
theorem dX8_nextLine_31 : decode cX8_nextLine 31 = .ok (.iload_n 2, 1) := by decide +kernel
theorem dX8_nextLine_32 : decode cX8_nextLine 32 = .ok (.ifCond .ge 5, 3) := by decide +kernel
theorem dX8_nextLine_35 : decode cX8_nextLine 35 = .ok (.iconst 0, 1) := by decide +kernel
theorem dX8_nextLine_36 : decode cX8_nextLine 36 = .ok (.ireturn, 1) := by decide +kernel
theorem dX8_nextLine_37 : decode cX8_nextLine 37 = .ok (.iload_n 1, 1) := by decide +kernel
theorem dX8_nextLine_38 : decode cX8_nextLine 38 = .ok (.iconst 1, 1) := by decide +kernel
theorem dX8_nextLine_39 : decode cX8_nextLine 39 = .ok (.isub, 1) := by decide +kernel
theorem dX8_nextLine_40 : decode cX8_nextLine 40 = .ok (.istore_n 3, 1) := by decide +kernel
theorem dX8_nextLine_41 : decode cX8_nextLine 41 = .ok (.iload_n 3, 1) := by decide +kernel
theorem dX8_nextLine_42 : decode cX8_nextLine 42 = .ok (.iload_n 2, 1) := by decide +kernel
theorem dX8_nextLine_43 : decode cX8_nextLine 43 = .ok (.iconst 1, 1) := by decide +kernel
theorem dX8_nextLine_44 : decode cX8_nextLine 44 = .ok (.iadd, 1) := by decide +kernel
theorem dX8_nextLine_45 : decode cX8_nextLine 45 = .ok (.if_icmp .le 24, 3) := by decide +kernel
theorem dX8_nextLine_48 : decode cX8_nextLine 48 = .ok (.aload_n 0, 1) := by decide +kernel
theorem dX8_nextLine_49 : decode cX8_nextLine 49 = .ok (.getfield 25, 3) := by decide +kernel
theorem dX8_nextLine_52 : decode cX8_nextLine 52 = .ok (.iload_n 3, 1) := by decide +kernel
theorem dX8_nextLine_53 : decode cX8_nextLine 53 = .ok (.iaload, 1) := by decide +kernel
theorem dX8_nextLine_54 : decode cX8_nextLine 54 = .ok (.aload_n 0, 1) := by decide +kernel
theorem dX8_nextLine_55 : decode cX8_nextLine 55 = .ok (.getfield 25, 3) := by decide +kernel
theorem dX8_nextLine_58 : decode cX8_nextLine 58 = .ok (.iload_n 2, 1) := by decide +kernel
theorem dX8_nextLine_59 : decode cX8_nextLine 59 = .ok (.iaload, 1) := by decide +kernel
theorem dX8_nextLine_60 : decode cX8_nextLine 60 = .ok (.if_icmp .ge 9, 3) := by decide +kernel
theorem dX8_nextLine_63 : decode cX8_nextLine 63 = .ok (.iinc 3 (-1), 3) := by decide +kernel
theorem dX8_nextLine_66 : decode cX8_nextLine 66 = .ok (.goto (-25), 3) := by decide +kernel
theorem dX8_nextLine_69 : decode cX8_nextLine 69 = .ok (.aload_n 0, 1) := by decide +kernel
theorem dX8_nextLine_70 : decode cX8_nextLine 70 = .ok (.iload_n 2, 1) := by decide +kernel
theorem dX8_nextLine_71 : decode cX8_nextLine 71 = .ok (.iload_n 3, 1) := by decide +kernel
theorem dX8_nextLine_72 : decode cX8_nextLine 72 = .ok (.invokevirtual 109, 3) := by decide +kernel
theorem dX8_nextLine_75 : decode cX8_nextLine 75 = .ok (.iload_n 2, 1) := by decide +kernel
theorem dX8_nextLine_76 : decode cX8_nextLine 76 = .ok (.iconst 1, 1) := by decide +kernel
theorem dX8_nextLine_77 : decode cX8_nextLine 77 = .ok (.iadd, 1) := by decide +kernel
theorem dX8_nextLine_78 : decode cX8_nextLine 78 = .ok (.istore 4, 2) := by decide +kernel
theorem dX8_nextLine_80 : decode cX8_nextLine 80 = .ok (.iload_n 1, 1) := by decide +kernel
theorem dX8_nextLine_81 : decode cX8_nextLine 81 = .ok (.iconst 1, 1) := by decide +kernel
theorem dX8_nextLine_82 : decode cX8_nextLine 82 = .ok (.isub, 1) := by decide +kernel
theorem dX8_nextLine_83 : decode cX8_nextLine 83 = .ok (.istore 5, 2) := by decide +kernel
theorem dX8_nextLine_85 : decode cX8_nextLine 85 = .ok (.iload 4, 2) := by decide +kernel
theorem dX8_nextLine_87 : decode cX8_nextLine 87 = .ok (.iload 5, 2) := by decide +kernel
theorem dX8_nextLine_89 : decode cX8_nextLine 89 = .ok (.if_icmp .ge 20, 3) := by decide +kernel
theorem dX8_nextLine_92 : decode cX8_nextLine 92 = .ok (.aload_n 0, 1) := by decide +kernel
theorem dX8_nextLine_93 : decode cX8_nextLine 93 = .ok (.iload 4, 2) := by decide +kernel
theorem dX8_nextLine_95 : decode cX8_nextLine 95 = .ok (.iload 5, 2) := by decide +kernel
theorem dX8_nextLine_97 : decode cX8_nextLine 97 = .ok (.invokevirtual 109, 3) := by decide +kernel
theorem dX8_nextLine_100 : decode cX8_nextLine 100 = .ok (.iinc 4 1, 3) := by decide +kernel
theorem dX8_nextLine_103 : decode cX8_nextLine 103 = .ok (.iinc 5 (-1), 3) := by decide +kernel
theorem dX8_nextLine_106 : decode cX8_nextLine 106 = .ok (.goto (-21), 3) := by decide +kernel
theorem dX8_nextLine_109 : decode cX8_nextLine 109 = .ok (.iconst 1, 1) := by decide +kernel
theorem dX8_nextLine_110 : decode cX8_nextLine 110 = .ok (.ireturn, 1) := by decide +kernel
theorem dX8_swapInLine_0 : decode cX8_swapInLine 0 = .ok (.aload_n 0, 1) := by decide +kernel
theorem dX8_swapInLine_1 : decode cX8_swapInLine 1 = .ok (.getfield 25, 3) := by decide +kernel
theorem dX8_swapInLine_4 : decode cX8_swapInLine 4 = .ok (.iload_n 1, 1) := by decide +kernel
theorem dX8_swapInLine_5 : decode cX8_swapInLine 5 = .ok (.iaload, 1) := by decide +kernel
theorem dX8_swapInLine_6 : decode cX8_swapInLine 6 = .ok (.istore_n 3, 1) := by decide +kernel
theorem dX8_swapInLine_7 : decode cX8_swapInLine 7 = .ok (.aload_n 0, 1) := by decide +kernel
theorem dX8_swapInLine_8 : decode cX8_swapInLine 8 = .ok (.getfield 25, 3) := by decide +kernel
theorem dX8_swapInLine_11 : decode cX8_swapInLine 11 = .ok (.iload_n 1, 1) := by decide +kernel
theorem dX8_swapInLine_12 : decode cX8_swapInLine 12 = .ok (.aload_n 0, 1) := by decide +kernel
theorem dX8_swapInLine_13 : decode cX8_swapInLine 13 = .ok (.getfield 25, 3) := by decide +kernel
theorem dX8_swapInLine_16 : decode cX8_swapInLine 16 = .ok (.iload_n 2, 1) := by decide +kernel
theorem dX8_swapInLine_17 : decode cX8_swapInLine 17 = .ok (.iaload, 1) := by decide +kernel
theorem dX8_swapInLine_18 : decode cX8_swapInLine 18 = .ok (.iastore, 1) := by decide +kernel
theorem dX8_swapInLine_19 : decode cX8_swapInLine 19 = .ok (.aload_n 0, 1) := by decide +kernel
theorem dX8_swapInLine_20 : decode cX8_swapInLine 20 = .ok (.getfield 25, 3) := by decide +kernel
theorem dX8_swapInLine_23 : decode cX8_swapInLine 23 = .ok (.iload_n 2, 1) := by decide +kernel
theorem dX8_swapInLine_24 : decode cX8_swapInLine 24 = .ok (.iload_n 3, 1) := by decide +kernel
theorem dX8_swapInLine_25 : decode cX8_swapInLine 25 = .ok (.iastore, 1) := by decide +kernel
theorem dX8_swapInLine_26 : decode cX8_swapInLine 26 = .ok (.return_, 1) := by decide +kernel
theorem dX9_init_0 : decode cX9_init 0 = .ok (.aload_n 0, 1) := by decide +kernel
theorem dX9_init_1 : decode cX9_init 1 = .ok (.invokespecial 3, 3) := by decide +kernel
theorem dX9_init_4 : decode cX9_init 4 = .ok (.aload_n 0, 1) := by decide +kernel
theorem dX9_init_5 : decode cX9_init 5 = .ok (.iconst 0, 1) := by decide +kernel
theorem dX9_init_6 : decode cX9_init 6 = .ok (.putfield 9, 3) := by decide +kernel
theorem dX9_init_9 : decode cX9_init 9 = .ok (.aload_n 0, 1) := by decide +kernel
theorem dX9_init_10 : decode cX9_init 10 = .ok (.iconst 0, 1) := by decide +kernel
theorem dX9_init_11 : decode cX9_init 11 = .ok (.putfield 15, 3) := by decide +kernel
theorem dX9_init_14 : decode cX9_init 14 = .ok (.aload_n 0, 1) := by decide +kernel
theorem dX9_init_15 : decode cX9_init 15 = .ok (.iconst 0, 1) := by decide +kernel
theorem dX9_init_16 : decode cX9_init 16 = .ok (.putfield 18, 3) := by decide +kernel
theorem dX9_init_19 : decode cX9_init 19 = .ok (.aload_n 0, 1) := by decide +kernel
theorem dX9_init_20 : decode cX9_init 20 = .ok (.iconst (-1), 1) := by decide +kernel
theorem dX9_init_21 : decode cX9_init 21 = .ok (.putfield 22, 3) := by decide +kernel
theorem dX9_init_24 : decode cX9_init 24 = .ok (.aload_n 0, 1) := by decide +kernel
theorem dX9_init_25 : decode cX9_init 25 = .ok (.iconst 0, 1) := by decide +kernel
theorem dX9_init_26 : decode cX9_init 26 = .ok (.putfield 25, 3) := by decide +kernel
theorem dX9_init_29 : decode cX9_init 29 = .ok (.aload_n 0, 1) := by decide +kernel
theorem dX9_init_30 : decode cX9_init 30 = .ok (.bipush 120, 2) := by decide +kernel
theorem dX9_init_32 : decode cX9_init 32 = .ok (.newarray .int, 2) := by decide +kernel
theorem dX9_init_34 : decode cX9_init 34 = .ok (.putfield 28, 3) := by decide +kernel
theorem dX9_init_37 : decode cX9_init 37 = .ok (.aload_n 0, 1) := by decide +kernel
theorem dX9_init_38 : decode cX9_init 38 = .ok (.iconst 2, 1) := by decide +kernel
theorem dX9_init_39 : decode cX9_init 39 = .ok (.newarray .int, 2) := by decide +kernel
theorem dX9_init_41 : decode cX9_init 41 = .ok (.putfield 32, 3) := by decide +kernel
theorem dX9_init_44 : decode cX9_init 44 = .ok (.aload_n 0, 1) := by decide +kernel
theorem dX9_init_45 : decode cX9_init 45 = .ok (.iconst 2, 1) := by decide +kernel
theorem dX9_init_46 : decode cX9_init 46 = .ok (.newarray .int, 2) := by decide +kernel
theorem dX9_init_48 : decode cX9_init 48 = .ok (.putfield 35, 3) := by decide +kernel
theorem dX9_init_51 : decode cX9_init 51 = .ok (.aload_n 0, 1) := by decide +kernel
theorem dX9_init_52 : decode cX9_init 52 = .ok (.iconst 2, 1) := by decide +kernel
theorem dX9_init_53 : decode cX9_init 53 = .ok (.newarray .int, 2) := by decide +kernel
theorem dX9_init_55 : decode cX9_init 55 = .ok (.putfield 38, 3) := by decide +kernel
theorem dX9_init_58 : decode cX9_init 58 = .ok (.return_, 1) := by decide +kernel
theorem dX9_append_0 : decode cX9_append 0 = .ok (.iload_n 3, 1) := by decide +kernel
theorem dX9_append_1 : decode cX9_append 1 = .ok (.iconst 1, 1) := by decide +kernel
theorem dX9_append_2 : decode cX9_append 2 = .ok (.isub, 1) := by decide +kernel
theorem dX9_append_3 : decode cX9_append 3 = .ok (.istore 4, 2) := by decide +kernel
theorem dX9_append_5 : decode cX9_append 5 = .ok (.iload 4, 2) := by decide +kernel
theorem dX9_append_7 : decode cX9_append 7 = .ok (.ifCond .lt 49, 3) := by decide +kernel
theorem dX9_append_10 : decode cX9_append 10 = .ok (.aload_n 0, 1) := by decide +kernel
theorem dX9_append_11 : decode cX9_append 11 = .ok (.getfield 9, 3) := by decide +kernel
theorem dX9_append_14 : decode cX9_append 14 = .ok (.bipush 120, 2) := by decide +kernel
theorem dX9_append_16 : decode cX9_append 16 = .ok (.if_icmp .ge 40, 3) := by decide +kernel
theorem dX9_append_19 : decode cX9_append 19 = .ok (.aload_n 0, 1) := by decide +kernel
theorem dX9_append_20 : decode cX9_append 20 = .ok (.getfield 28, 3) := by decide +kernel
theorem dX9_append_23 : decode cX9_append 23 = .ok (.aload_n 0, 1) := by decide +kernel
theorem dX9_append_24 : decode cX9_append 24 = .ok (.getfield 9, 3) := by decide +kernel
theorem dX9_append_27 : decode cX9_append 27 = .ok (.lload_n 1, 1) := by decide +kernel
theorem dX9_append_28 : decode cX9_append 28 = .ok (.bipush 8, 2) := by decide +kernel
theorem dX9_append_30 : decode cX9_append 30 = .ok (.iload 4, 2) := by decide +kernel
theorem dX9_append_32 : decode cX9_append 32 = .ok (.imul, 1) := by decide +kernel
theorem dX9_append_33 : decode cX9_append 33 = .ok (.lshr, 1) := by decide +kernel
theorem dX9_append_34 : decode cX9_append 34 = .ok (.ldc2_w 41, 3) := by decide +kernel
theorem dX9_append_37 : decode cX9_append 37 = .ok (.land, 1) := by decide +kernel
theorem dX9_append_38 : decode cX9_append 38 = .ok (.l2i, 1) := by decide +kernel
theorem dX9_append_39 : decode cX9_append 39 = .ok (.iastore, 1) := by decide +kernel
theorem dX9_append_40 : decode cX9_append 40 = .ok (.aload_n 0, 1) := by decide +kernel
theorem dX9_append_41 : decode cX9_append 41 = .ok (.dup, 1) := by decide +kernel
theorem dX9_append_42 : decode cX9_append 42 = .ok (.getfield 9, 3) := by decide +kernel
theorem dX9_append_45 : decode cX9_append 45 = .ok (.iconst 1, 1) := by decide +kernel
theorem dX9_append_46 : decode cX9_append 46 = .ok (.iadd, 1) := by decide +kernel
theorem dX9_append_47 : decode cX9_append 47 = .ok (.putfield 9, 3) := by decide +kernel
theorem dX9_append_50 : decode cX9_append 50 = .ok (.iinc 4 (-1), 3) := by decide +kernel
theorem dX9_append_53 : decode cX9_append 53 = .ok (.goto (-48), 3) := by decide +kernel
theorem dX9_append_56 : decode cX9_append 56 = .ok (.aload_n 0, 1) := by decide +kernel
theorem dX9_append_57 : decode cX9_append 57 = .ok (.getfield 9, 3) := by decide +kernel
theorem dX9_append_60 : decode cX9_append 60 = .ok (.ireturn, 1) := by decide +kernel
theorem dX9_readRule_0 : decode cX9_readRule 0 = .ok (.aload_n 0, 1) := by decide +kernel
theorem dX9_readRule_1 : decode cX9_readRule 1 = .ok (.iconst 0, 1) := by decide +kernel
theorem dX9_readRule_2 : decode cX9_readRule 2 = .ok (.putfield 15, 3) := by decide +kernel
theorem dX9_readRule_5 : decode cX9_readRule 5 = .ok (.aload_n 0, 1) := by decide +kernel
theorem dX9_readRule_6 : decode cX9_readRule 6 = .ok (.iconst 0, 1) := by decide +kernel
theorem dX9_readRule_7 : decode cX9_readRule 7 = .ok (.putfield 25, 3) := by decide +kernel
theorem dX9_readRule_10 : decode cX9_readRule 10 = .ok (.aload_n 0, 1) := by decide +kernel
theorem dX9_readRule_11 : decode cX9_readRule 11 = .ok (.invokevirtual 43, 3) := by decide +kernel
theorem dX9_readRule_14 : decode cX9_readRule 14 = .ok (.ifCond .eq 37, 3) := by decide +kernel
theorem dX9_readRule_17 : decode cX9_readRule 17 = .ok (.aload_n 0, 1) := by decide +kernel
theorem dX9_readRule_18 : decode cX9_readRule 18 = .ok (.ldc 47, 2) := by decide +kernel
theorem dX9_readRule_20 : decode cX9_readRule 20 = .ok (.invokevirtual 49, 3) := by decide +kernel
theorem dX9_readRule_23 : decode cX9_readRule 23 = .ok (.ifCond .eq 28, 3) := by decide +kernel
theorem dX9_readRule_26 : decode cX9_readRule 26 = .ok (.aload_n 0, 1) := by decide +kernel
theorem dX9_readRule_27 : decode cX9_readRule 27 = .ok (.invokevirtual 53, 3) := by decide +kernel
theorem dX9_readRule_30 : decode cX9_readRule 30 = .ok (.ifCond .eq 21, 3) := by decide +kernel
theorem dX9_readRule_33 : decode cX9_readRule 33 = .ok (.aload_n 0, 1) := by decide +kernel
theorem dX9_readRule_34 : decode cX9_readRule 34 = .ok (.invokevirtual 56, 3) := by decide +kernel
theorem dX9_readRule_37 : decode cX9_readRule 37 = .ok (.ifCond .eq 14, 3) := by decide +kernel
theorem dX9_readRule_40 : decode cX9_readRule 40 = .ok (.aload_n 0, 1) := by decide +kernel
theorem dX9_readRule_41 : decode cX9_readRule 41 = .ok (.invokevirtual 59, 3) := by decide +kernel
theorem dX9_readRule_44 : decode cX9_readRule 44 = .ok (.ifCond .eq 7, 3) := by decide +kernel
theorem dX9_readRule_47 : decode cX9_readRule 47 = .ok (.iconst 1, 1) := by decide +kernel
theorem dX9_readRule_48 : decode cX9_readRule 48 = .ok (.goto 4, 3) := by decide +kernel
theorem dX9_readRule_51 : decode cX9_readRule 51 = .ok (.iconst 0, 1) := by decide +kernel
theorem dX9_readRule_52 : decode cX9_readRule 52 = .ok (.ireturn, 1) := by decide +kernel
theorem dX9_readVerb_0 : decode cX9_readVerb 0 = .ok (.aload_n 0, 1) := by decide +kernel
theorem dX9_readVerb_1 : decode cX9_readVerb 1 = .ok (.aload_n 0, 1) := by decide +kernel
theorem dX9_readVerb_2 : decode cX9_readVerb 2 = .ok (.invokevirtual 62, 3) := by decide +kernel
theorem dX9_readVerb_5 : decode cX9_readVerb 5 = .ok (.bipush 98, 2) := by decide +kernel
theorem dX9_readVerb_7 : decode cX9_readVerb 7 = .ok (.if_icmp .ne 7, 3) := by decide +kernel
theorem dX9_readVerb_10 : decode cX9_readVerb 10 = .ok (.iconst 1, 1) := by decide +kernel
theorem dX9_readVerb_11 : decode cX9_readVerb 11 = .ok (.goto 4, 3) := by decide +kernel
theorem dX9_readVerb_14 : decode cX9_readVerb 14 = .ok (.iconst 0, 1) := by decide +kernel
theorem dX9_readVerb_15 : decode cX9_readVerb 15 = .ok (.putfield 18, 3) := by decide +kernel
theorem dX9_readVerb_18 : decode cX9_readVerb 18 = .ok (.aload_n 0, 1) := by decide +kernel
theorem dX9_readVerb_19 : decode cX9_readVerb 19 = .ok (.aload_n 0, 1) := by decide +kernel
theorem dX9_readVerb_20 : decode cX9_readVerb 20 = .ok (.getfield 18, 3) := by decide +kernel
theorem dX9_readVerb_23 : decode cX9_readVerb 23 = .ok (.ifCond .eq 8, 3) := by decide +kernel
theorem dX9_readVerb_26 : decode cX9_readVerb 26 = .ok (.ldc 66, 2) := by decide +kernel
theorem dX9_readVerb_28 : decode cX9_readVerb 28 = .ok (.goto 5, 3) := by decide +kernel
theorem dX9_readVerb_31 : decode cX9_readVerb 31 = .ok (.ldc 68, 2) := by decide +kernel
theorem dX9_readVerb_33 : decode cX9_readVerb 33 = .ok (.invokevirtual 49, 3) := by decide +kernel
theorem dX9_readVerb_36 : decode cX9_readVerb 36 = .ok (.ireturn, 1) := by decide +kernel
theorem dX9_readKind_0 : decode cX9_readKind 0 = .ok (.aload_n 0, 1) := by decide +kernel
theorem dX9_readKind_1 : decode cX9_readKind 1 = .ok (.invokevirtual 62, 3) := by decide +kernel
theorem dX9_readKind_4 : decode cX9_readKind 4 = .ok (.istore_n 1, 1) := by decide +kernel
theorem dX9_readKind_5 : decode cX9_readKind 5 = .ok (.iload_n 1, 1) := by decide +kernel
theorem dX9_readKind_6 : decode cX9_readKind 6 = .ok (.bipush 42, 2) := by decide +kernel
theorem dX9_readKind_8 : decode cX9_readKind 8 = .ok (.if_icmp .eq 16, 3) := by decide +kernel
theorem dX9_readKind_11 : decode cX9_readKind 11 = .ok (.iload_n 1, 1) := by decide +kernel
theorem dX9_readKind_12 : decode cX9_readKind 12 = .ok (.bipush 48, 2) := by decide +kernel
theorem dX9_readKind_14 : decode cX9_readKind 14 = .ok (.bipush 53, 2) := by decide +kernel
theorem dX9_readKind_16 : decode cX9_readKind 16 = .ok (.invokestatic 70, 3) := by decide +kernel
theorem dX9_readKind_19 : decode cX9_readKind 19 = .ok (.ifCond .ne 5, 3) := by decide +kernel
theorem dX9_readKind_22 : decode cX9_readKind 22 = .ok (.iconst 0, 1) := by decide +kernel
theorem dX9_readKind_23 : decode cX9_readKind 23 = .ok (.ireturn, 1) := by decide +kernel
theorem dX9_readKind_24 : decode cX9_readKind 24 = .ok (.aload_n 0, 1) := by decide +kernel
theorem dX9_readKind_25 : decode cX9_readKind 25 = .ok (.iload_n 1, 1) := by decide +kernel
theorem dX9_readKind_26 : decode cX9_readKind 26 = .ok (.bipush 42, 2) := by decide +kernel
theorem dX9_readKind_28 : decode cX9_readKind 28 = .ok (.if_icmp .ne 7, 3) := by decide +kernel
theorem dX9_readKind_31 : decode cX9_readKind 31 = .ok (.iconst (-1), 1) := by decide +kernel
theorem dX9_readKind_32 : decode cX9_readKind 32 = .ok (.goto 7, 3) := by decide +kernel
theorem dX9_readKind_35 : decode cX9_readKind 35 = .ok (.iload_n 1, 1) := by decide +kernel
theorem dX9_readKind_36 : decode cX9_readKind 36 = .ok (.bipush 48, 2) := by decide +kernel
theorem dX9_readKind_38 : decode cX9_readKind 38 = .ok (.isub, 1) := by decide +kernel
theorem dX9_readKind_39 : decode cX9_readKind 39 = .ok (.putfield 22, 3) := by decide +kernel
theorem dX9_readKind_42 : decode cX9_readKind 42 = .ok (.aload_n 0, 1) := by decide +kernel
theorem dX9_readKind_43 : decode cX9_readKind 43 = .ok (.dup, 1) := by decide +kernel
theorem dX9_readKind_44 : decode cX9_readKind 44 = .ok (.getfield 15, 3) := by decide +kernel
theorem dX9_readKind_47 : decode cX9_readKind 47 = .ok (.iconst 1, 1) := by decide +kernel
theorem dX9_readKind_48 : decode cX9_readKind 48 = .ok (.iadd, 1) := by decide +kernel
theorem dX9_readKind_49 : decode cX9_readKind 49 = .ok (.putfield 15, 3) := by decide +kernel
theorem dX9_readKind_52 : decode cX9_readKind 52 = .ok (.iconst 1, 1) := by decide +kernel
theorem dX9_readKind_53 : decode cX9_readKind 53 = .ok (.ireturn, 1) := by decide +kernel
theorem dX9_readTests_0 : decode cX9_readTests 0 = .ok (.iconst 0, 1) := by decide +kernel
theorem dX9_readTests_1 : decode cX9_readTests 1 = .ok (.istore_n 1, 1) := by decide +kernel
theorem dX9_readTests_2 : decode cX9_readTests 2 = .ok (.iload_n 1, 1) := by decide +kernel
theorem dX9_readTests_3 : decode cX9_readTests 3 = .ok (.iconst 2, 1) := by decide +kernel
theorem dX9_readTests_4 : decode cX9_readTests 4 = .ok (.if_icmp .ge 54, 3) := by decide +kernel
theorem dX9_readTests_7 : decode cX9_readTests 7 = .ok (.aload_n 0, 1) := by decide +kernel
theorem dX9_readTests_8 : decode cX9_readTests 8 = .ok (.invokevirtual 59, 3) := by decide +kernel
theorem dX9_readTests_11 : decode cX9_readTests 11 = .ok (.ifCond .ne 47, 3) := by decide +kernel
theorem dX9_readTests_14 : decode cX9_readTests 14 = .ok (.aload_n 0, 1) := by decide +kernel
theorem dX9_readTests_15 : decode cX9_readTests 15 = .ok (.iload_n 1, 1) := by decide +kernel
theorem dX9_readTests_16 : decode cX9_readTests 16 = .ok (.ifCond .ne 8, 3) := by decide +kernel
theorem dX9_readTests_19 : decode cX9_readTests 19 = .ok (.ldc 74, 2) := by decide +kernel
theorem dX9_readTests_21 : decode cX9_readTests 21 = .ok (.goto 5, 3) := by decide +kernel
theorem dX9_readTests_24 : decode cX9_readTests 24 = .ok (.ldc 76, 2) := by decide +kernel
theorem dX9_readTests_26 : decode cX9_readTests 26 = .ok (.invokevirtual 49, 3) := by decide +kernel
theorem dX9_readTests_29 : decode cX9_readTests 29 = .ok (.ifCond .eq 11, 3) := by decide +kernel
theorem dX9_readTests_32 : decode cX9_readTests 32 = .ok (.aload_n 0, 1) := by decide +kernel
theorem dX9_readTests_33 : decode cX9_readTests 33 = .ok (.iload_n 1, 1) := by decide +kernel
theorem dX9_readTests_34 : decode cX9_readTests 34 = .ok (.invokevirtual 78, 3) := by decide +kernel
theorem dX9_readTests_37 : decode cX9_readTests 37 = .ok (.ifCond .ne 5, 3) := by decide +kernel
theorem dX9_readTests_40 : decode cX9_readTests 40 = .ok (.iconst 0, 1) := by decide +kernel
theorem dX9_readTests_41 : decode cX9_readTests 41 = .ok (.ireturn, 1) := by decide +kernel
theorem dX9_readTests_42 : decode cX9_readTests 42 = .ok (.aload_n 0, 1) := by decide +kernel
theorem dX9_readTests_43 : decode cX9_readTests 43 = .ok (.dup, 1) := by decide +kernel
theorem dX9_readTests_44 : decode cX9_readTests 44 = .ok (.getfield 25, 3) := by decide +kernel
theorem dX9_readTests_47 : decode cX9_readTests 47 = .ok (.iconst 1, 1) := by decide +kernel
theorem dX9_readTests_48 : decode cX9_readTests 48 = .ok (.iadd, 1) := by decide +kernel
theorem dX9_readTests_49 : decode cX9_readTests 49 = .ok (.putfield 25, 3) := by decide +kernel
theorem dX9_readTests_52 : decode cX9_readTests 52 = .ok (.iinc 1 1, 3) := by decide +kernel
theorem dX9_readTests_55 : decode cX9_readTests 55 = .ok (.goto (-53), 3) := by decide +kernel
theorem dX9_readTests_58 : decode cX9_readTests 58 = .ok (.iconst 1, 1) := by decide +kernel
theorem dX9_readTests_59 : decode cX9_readTests 59 = .ok (.ireturn, 1) := by decide +kernel
theorem dX9_readTest_0 : decode cX9_readTest 0 = .ok (.aload_n 0, 1) := by decide +kernel
theorem dX9_readTest_1 : decode cX9_readTest 1 = .ok (.iload_n 1, 1) := by decide +kernel
theorem dX9_readTest_2 : decode cX9_readTest 2 = .ok (.invokevirtual 82, 3) := by decide +kernel
theorem dX9_readTest_5 : decode cX9_readTest 5 = .ok (.ifCond .eq 23, 3) := by decide +kernel
theorem dX9_readTest_8 : decode cX9_readTest 8 = .ok (.aload_n 0, 1) := by decide +kernel
theorem dX9_readTest_9 : decode cX9_readTest 9 = .ok (.iload_n 1, 1) := by decide +kernel
theorem dX9_readTest_10 : decode cX9_readTest 10 = .ok (.invokevirtual 85, 3) := by decide +kernel
theorem dX9_readTest_13 : decode cX9_readTest 13 = .ok (.ifCond .eq 15, 3) := by decide +kernel
theorem dX9_readTest_16 : decode cX9_readTest 16 = .ok (.aload_n 0, 1) := by decide +kernel
theorem dX9_readTest_17 : decode cX9_readTest 17 = .ok (.iload_n 1, 1) := by decide +kernel
theorem dX9_readTest_18 : decode cX9_readTest 18 = .ok (.invokevirtual 88, 3) := by decide +kernel
theorem dX9_readTest_21 : decode cX9_readTest 21 = .ok (.ifCond .eq 7, 3) := by decide +kernel
theorem dX9_readTest_24 : decode cX9_readTest 24 = .ok (.iconst 1, 1) := by decide +kernel
theorem dX9_readTest_25 : decode cX9_readTest 25 = .ok (.goto 4, 3) := by decide +kernel
theorem dX9_readTest_28 : decode cX9_readTest 28 = .ok (.iconst 0, 1) := by decide +kernel
theorem dX9_readTest_29 : decode cX9_readTest 29 = .ok (.ireturn, 1) := by decide +kernel
theorem dX9_readField_0 : decode cX9_readField 0 = .ok (.aload_n 0, 1) := by decide +kernel
theorem dX9_readField_1 : decode cX9_readField 1 = .ok (.invokevirtual 62, 3) := by decide +kernel
theorem dX9_readField_4 : decode cX9_readField 4 = .ok (.lookupswitch 122 #[(100, 108), (104, 66), (109, 52), (115, 94), (116, 80)], 52) := by decide +kernel
theorem dX9_readField_56 : decode cX9_readField 56 = .ok (.aload_n 0, 1) := by decide +kernel
theorem dX9_readField_57 : decode cX9_readField 57 = .ok (.getfield 32, 3) := by decide +kernel
theorem dX9_readField_60 : decode cX9_readField 60 = .ok (.iload_n 1, 1) := by decide +kernel
theorem dX9_readField_61 : decode cX9_readField 61 = .ok (.iconst 0, 1) := by decide +kernel
theorem dX9_readField_62 : decode cX9_readField 62 = .ok (.iastore, 1) := by decide +kernel
theorem dX9_readField_63 : decode cX9_readField 63 = .ok (.aload_n 0, 1) := by decide +kernel
theorem dX9_readField_64 : decode cX9_readField 64 = .ok (.ldc 91, 2) := by decide +kernel
theorem dX9_readField_66 : decode cX9_readField 66 = .ok (.invokevirtual 49, 3) := by decide +kernel
theorem dX9_readField_69 : decode cX9_readField 69 = .ok (.ireturn, 1) := by decide +kernel
theorem dX9_readField_70 : decode cX9_readField 70 = .ok (.aload_n 0, 1) := by decide +kernel
theorem dX9_readField_71 : decode cX9_readField 71 = .ok (.getfield 32, 3) := by decide +kernel
theorem dX9_readField_74 : decode cX9_readField 74 = .ok (.iload_n 1, 1) := by decide +kernel
theorem dX9_readField_75 : decode cX9_readField 75 = .ok (.iconst 1, 1) := by decide +kernel
theorem dX9_readField_76 : decode cX9_readField 76 = .ok (.iastore, 1) := by decide +kernel
theorem dX9_readField_77 : decode cX9_readField 77 = .ok (.aload_n 0, 1) := by decide +kernel
theorem dX9_readField_78 : decode cX9_readField 78 = .ok (.ldc 93, 2) := by decide +kernel
theorem dX9_readField_80 : decode cX9_readField 80 = .ok (.invokevirtual 49, 3) := by decide +kernel
theorem dX9_readField_83 : decode cX9_readField 83 = .ok (.ireturn, 1) := by decide +kernel
theorem dX9_readField_84 : decode cX9_readField 84 = .ok (.aload_n 0, 1) := by decide +kernel
theorem dX9_readField_85 : decode cX9_readField 85 = .ok (.getfield 32, 3) := by decide +kernel
theorem dX9_readField_88 : decode cX9_readField 88 = .ok (.iload_n 1, 1) := by decide +kernel
theorem dX9_readField_89 : decode cX9_readField 89 = .ok (.iconst 2, 1) := by decide +kernel
theorem dX9_readField_90 : decode cX9_readField 90 = .ok (.iastore, 1) := by decide +kernel
theorem dX9_readField_91 : decode cX9_readField 91 = .ok (.aload_n 0, 1) := by decide +kernel
theorem dX9_readField_92 : decode cX9_readField 92 = .ok (.ldc 95, 2) := by decide +kernel
theorem dX9_readField_94 : decode cX9_readField 94 = .ok (.invokevirtual 49, 3) := by decide +kernel
theorem dX9_readField_97 : decode cX9_readField 97 = .ok (.ireturn, 1) := by decide +kernel
theorem dX9_readField_98 : decode cX9_readField 98 = .ok (.aload_n 0, 1) := by decide +kernel
theorem dX9_readField_99 : decode cX9_readField 99 = .ok (.getfield 32, 3) := by decide +kernel
theorem dX9_readField_102 : decode cX9_readField 102 = .ok (.iload_n 1, 1) := by decide +kernel
theorem dX9_readField_103 : decode cX9_readField 103 = .ok (.iconst 3, 1) := by decide +kernel
theorem dX9_readField_104 : decode cX9_readField 104 = .ok (.iastore, 1) := by decide +kernel
theorem dX9_readField_105 : decode cX9_readField 105 = .ok (.aload_n 0, 1) := by decide +kernel
theorem dX9_readField_106 : decode cX9_readField 106 = .ok (.ldc 97, 2) := by decide +kernel
theorem dX9_readField_108 : decode cX9_readField 108 = .ok (.invokevirtual 49, 3) := by decide +kernel
theorem dX9_readField_111 : decode cX9_readField 111 = .ok (.ireturn, 1) := by decide +kernel
theorem dX9_readField_112 : decode cX9_readField 112 = .ok (.aload_n 0, 1) := by decide +kernel
theorem dX9_readField_113 : decode cX9_readField 113 = .ok (.getfield 32, 3) := by decide +kernel
theorem dX9_readField_116 : decode cX9_readField 116 = .ok (.iload_n 1, 1) := by decide +kernel
theorem dX9_readField_117 : decode cX9_readField 117 = .ok (.iconst 4, 1) := by decide +kernel
theorem dX9_readField_118 : decode cX9_readField 118 = .ok (.iastore, 1) := by decide +kernel
theorem dX9_readField_119 : decode cX9_readField 119 = .ok (.aload_n 0, 1) := by decide +kernel
theorem dX9_readField_120 : decode cX9_readField 120 = .ok (.ldc 99, 2) := by decide +kernel
theorem dX9_readField_122 : decode cX9_readField 122 = .ok (.invokevirtual 49, 3) := by decide +kernel
theorem dX9_readField_125 : decode cX9_readField 125 = .ok (.ireturn, 1) := by decide +kernel
theorem dX9_readField_126 : decode cX9_readField 126 = .ok (.iconst 0, 1) := by decide +kernel
theorem dX9_readField_127 : decode cX9_readField 127 = .ok (.ireturn, 1) := by decide +kernel
theorem dX9_readSign_0 : decode cX9_readSign 0 = .ok (.aload_n 0, 1) := by decide +kernel
theorem dX9_readSign_1 : decode cX9_readSign 1 = .ok (.invokevirtual 62, 3) := by decide +kernel
theorem dX9_readSign_4 : decode cX9_readSign 4 = .ok (.istore_n 2, 1) := by decide +kernel
theorem dX9_readSign_5 : decode cX9_readSign 5 = .ok (.iload_n 2, 1) := by decide +kernel
theorem dX9_readSign_6 : decode cX9_readSign 6 = .ok (.bipush 61, 2) := by decide +kernel
theorem dX9_readSign_8 : decode cX9_readSign 8 = .ok (.if_icmp .eq 17, 3) := by decide +kernel
theorem dX9_readSign_11 : decode cX9_readSign 11 = .ok (.iload_n 2, 1) := by decide +kernel
theorem dX9_readSign_12 : decode cX9_readSign 12 = .ok (.bipush 60, 2) := by decide +kernel
theorem dX9_readSign_14 : decode cX9_readSign 14 = .ok (.if_icmp .eq 11, 3) := by decide +kernel
theorem dX9_readSign_17 : decode cX9_readSign 17 = .ok (.iload_n 2, 1) := by decide +kernel
theorem dX9_readSign_18 : decode cX9_readSign 18 = .ok (.bipush 62, 2) := by decide +kernel
theorem dX9_readSign_20 : decode cX9_readSign 20 = .ok (.if_icmp .eq 5, 3) := by decide +kernel
theorem dX9_readSign_23 : decode cX9_readSign 23 = .ok (.iconst 0, 1) := by decide +kernel
theorem dX9_readSign_24 : decode cX9_readSign 24 = .ok (.ireturn, 1) := by decide +kernel
theorem dX9_readSign_25 : decode cX9_readSign 25 = .ok (.aload_n 0, 1) := by decide +kernel
theorem dX9_readSign_26 : decode cX9_readSign 26 = .ok (.getfield 35, 3) := by decide +kernel
theorem dX9_readSign_29 : decode cX9_readSign 29 = .ok (.iload_n 1, 1) := by decide +kernel
theorem dX9_readSign_30 : decode cX9_readSign 30 = .ok (.iload_n 2, 1) := by decide +kernel
theorem dX9_readSign_31 : decode cX9_readSign 31 = .ok (.iastore, 1) := by decide +kernel
theorem dX9_readSign_32 : decode cX9_readSign 32 = .ok (.aload_n 0, 1) := by decide +kernel
theorem dX9_readSign_33 : decode cX9_readSign 33 = .ok (.dup, 1) := by decide +kernel
theorem dX9_readSign_34 : decode cX9_readSign 34 = .ok (.getfield 15, 3) := by decide +kernel
theorem dX9_readSign_37 : decode cX9_readSign 37 = .ok (.iconst 1, 1) := by decide +kernel
theorem dX9_readSign_38 : decode cX9_readSign 38 = .ok (.iadd, 1) := by decide +kernel
theorem dX9_readSign_39 : decode cX9_readSign 39 = .ok (.putfield 15, 3) := by decide +kernel
theorem dX9_readSign_42 : decode cX9_readSign 42 = .ok (.iconst 1, 1) := by decide +kernel
theorem dX9_readSign_43 : decode cX9_readSign 43 = .ok (.ireturn, 1) := by decide +kernel
theorem dX9_readNumber_0 : decode cX9_readNumber 0 = .ok (.iconst 0, 1) := by decide +kernel
theorem dX9_readNumber_1 : decode cX9_readNumber 1 = .ok (.istore_n 2, 1) := by decide +kernel
theorem dX9_readNumber_2 : decode cX9_readNumber 2 = .ok (.iconst 0, 1) := by decide +kernel
theorem dX9_readNumber_3 : decode cX9_readNumber 3 = .ok (.istore_n 3, 1) := by decide +kernel
theorem dX9_readNumber_4 : decode cX9_readNumber 4 = .ok (.iload_n 2, 1) := by decide +kernel
theorem dX9_readNumber_5 : decode cX9_readNumber 5 = .ok (.iconst 3, 1) := by decide +kernel
theorem dX9_readNumber_6 : decode cX9_readNumber 6 = .ok (.if_icmp .ge 46, 3) := by decide +kernel
theorem dX9_readNumber_9 : decode cX9_readNumber 9 = .ok (.aload_n 0, 1) := by decide +kernel
theorem dX9_readNumber_10 : decode cX9_readNumber 10 = .ok (.invokevirtual 62, 3) := by decide +kernel
theorem dX9_readNumber_13 : decode cX9_readNumber 13 = .ok (.bipush 48, 2) := by decide +kernel
theorem dX9_readNumber_15 : decode cX9_readNumber 15 = .ok (.bipush 57, 2) := by decide +kernel
theorem dX9_readNumber_17 : decode cX9_readNumber 17 = .ok (.invokestatic 70, 3) := by decide +kernel
theorem dX9_readNumber_20 : decode cX9_readNumber 20 = .ok (.ifCond .eq 32, 3) := by decide +kernel
theorem dX9_readNumber_23 : decode cX9_readNumber 23 = .ok (.iload_n 3, 1) := by decide +kernel
theorem dX9_readNumber_24 : decode cX9_readNumber 24 = .ok (.bipush 10, 2) := by decide +kernel
theorem dX9_readNumber_26 : decode cX9_readNumber 26 = .ok (.imul, 1) := by decide +kernel
theorem dX9_readNumber_27 : decode cX9_readNumber 27 = .ok (.aload_n 0, 1) := by decide +kernel
theorem dX9_readNumber_28 : decode cX9_readNumber 28 = .ok (.invokevirtual 62, 3) := by decide +kernel
theorem dX9_readNumber_31 : decode cX9_readNumber 31 = .ok (.iadd, 1) := by decide +kernel
theorem dX9_readNumber_32 : decode cX9_readNumber 32 = .ok (.bipush 48, 2) := by decide +kernel
theorem dX9_readNumber_34 : decode cX9_readNumber 34 = .ok (.isub, 1) := by decide +kernel
theorem dX9_readNumber_35 : decode cX9_readNumber 35 = .ok (.istore_n 3, 1) := by decide +kernel
theorem dX9_readNumber_36 : decode cX9_readNumber 36 = .ok (.iinc 2 1, 3) := by decide +kernel
theorem dX9_readNumber_39 : decode cX9_readNumber 39 = .ok (.aload_n 0, 1) := by decide +kernel
theorem dX9_readNumber_40 : decode cX9_readNumber 40 = .ok (.dup, 1) := by decide +kernel
theorem dX9_readNumber_41 : decode cX9_readNumber 41 = .ok (.getfield 15, 3) := by decide +kernel
theorem dX9_readNumber_44 : decode cX9_readNumber 44 = .ok (.iconst 1, 1) := by decide +kernel
theorem dX9_readNumber_45 : decode cX9_readNumber 45 = .ok (.iadd, 1) := by decide +kernel
theorem dX9_readNumber_46 : decode cX9_readNumber 46 = .ok (.putfield 15, 3) := by decide +kernel
theorem dX9_readNumber_49 : decode cX9_readNumber 49 = .ok (.goto (-45), 3) := by decide +kernel
theorem dX9_readNumber_52 : decode cX9_readNumber 52 = .ok (.aload_n 0, 1) := by decide +kernel
theorem dX9_readNumber_53 : decode cX9_readNumber 53 = .ok (.getfield 38, 3) := by decide +kernel
theorem dX9_readNumber_56 : decode cX9_readNumber 56 = .ok (.iload_n 1, 1) := by decide +kernel
theorem dX9_readNumber_57 : decode cX9_readNumber 57 = .ok (.iload_n 3, 1) := by decide +kernel
theorem dX9_readNumber_58 : decode cX9_readNumber 58 = .ok (.iastore, 1) := by decide +kernel
theorem dX9_readNumber_59 : decode cX9_readNumber 59 = .ok (.iload_n 2, 1) := by decide +kernel
theorem dX9_readNumber_60 : decode cX9_readNumber 60 = .ok (.ifCond .le 7, 3) := by decide +kernel
theorem dX9_readNumber_63 : decode cX9_readNumber 63 = .ok (.iconst 1, 1) := by decide +kernel
theorem dX9_readNumber_64 : decode cX9_readNumber 64 = .ok (.goto 4, 3) := by decide +kernel
theorem dX9_readNumber_67 : decode cX9_readNumber 67 = .ok (.iconst 0, 1) := by decide +kernel
theorem dX9_readNumber_68 : decode cX9_readNumber 68 = .ok (.ireturn, 1) := by decide +kernel
theorem dX9_readWord_0 : decode cX9_readWord 0 = .ok (.iconst 0, 1) := by decide +kernel
theorem dX9_readWord_1 : decode cX9_readWord 1 = .ok (.istore_n 2, 1) := by decide +kernel
theorem dX9_readWord_2 : decode cX9_readWord 2 = .ok (.iload_n 2, 1) := by decide +kernel
theorem dX9_readWord_3 : decode cX9_readWord 3 = .ok (.aload_n 1, 1) := by decide +kernel
theorem dX9_readWord_4 : decode cX9_readWord 4 = .ok (.invokevirtual 101, 3) := by decide +kernel
theorem dX9_readWord_7 : decode cX9_readWord 7 = .ok (.if_icmp .ge 33, 3) := by decide +kernel
theorem dX9_readWord_10 : decode cX9_readWord 10 = .ok (.aload_n 0, 1) := by decide +kernel
theorem dX9_readWord_11 : decode cX9_readWord 11 = .ok (.invokevirtual 62, 3) := by decide +kernel
theorem dX9_readWord_14 : decode cX9_readWord 14 = .ok (.aload_n 1, 1) := by decide +kernel
theorem dX9_readWord_15 : decode cX9_readWord 15 = .ok (.iload_n 2, 1) := by decide +kernel
theorem dX9_readWord_16 : decode cX9_readWord 16 = .ok (.invokevirtual 105, 3) := by decide +kernel
theorem dX9_readWord_19 : decode cX9_readWord 19 = .ok (.if_icmp .eq 5, 3) := by decide +kernel
theorem dX9_readWord_22 : decode cX9_readWord 22 = .ok (.iconst 0, 1) := by decide +kernel
theorem dX9_readWord_23 : decode cX9_readWord 23 = .ok (.ireturn, 1) := by decide +kernel
theorem dX9_readWord_24 : decode cX9_readWord 24 = .ok (.aload_n 0, 1) := by decide +kernel
theorem dX9_readWord_25 : decode cX9_readWord 25 = .ok (.dup, 1) := by decide +kernel
theorem dX9_readWord_26 : decode cX9_readWord 26 = .ok (.getfield 15, 3) := by decide +kernel
theorem dX9_readWord_29 : decode cX9_readWord 29 = .ok (.iconst 1, 1) := by decide +kernel
theorem dX9_readWord_30 : decode cX9_readWord 30 = .ok (.iadd, 1) := by decide +kernel
theorem dX9_readWord_31 : decode cX9_readWord 31 = .ok (.putfield 15, 3) := by decide +kernel
theorem dX9_readWord_34 : decode cX9_readWord 34 = .ok (.iinc 2 1, 3) := by decide +kernel
theorem dX9_readWord_37 : decode cX9_readWord 37 = .ok (.goto (-35), 3) := by decide +kernel
theorem dX9_readWord_40 : decode cX9_readWord 40 = .ok (.iconst 1, 1) := by decide +kernel
theorem dX9_readWord_41 : decode cX9_readWord 41 = .ok (.ireturn, 1) := by decide +kernel
theorem dX9_isAtEnd_0 : decode cX9_isAtEnd 0 = .ok (.aload_n 0, 1) := by decide +kernel
theorem dX9_isAtEnd_1 : decode cX9_isAtEnd 1 = .ok (.getfield 15, 3) := by decide +kernel
theorem dX9_isAtEnd_4 : decode cX9_isAtEnd 4 = .ok (.aload_n 0, 1) := by decide +kernel
theorem dX9_isAtEnd_5 : decode cX9_isAtEnd 5 = .ok (.getfield 9, 3) := by decide +kernel
theorem dX9_isAtEnd_8 : decode cX9_isAtEnd 8 = .ok (.if_icmp .lt 7, 3) := by decide +kernel
theorem dX9_isAtEnd_11 : decode cX9_isAtEnd 11 = .ok (.iconst 1, 1) := by decide +kernel
theorem dX9_isAtEnd_12 : decode cX9_isAtEnd 12 = .ok (.goto 4, 3) := by decide +kernel
theorem dX9_isAtEnd_15 : decode cX9_isAtEnd 15 = .ok (.iconst 0, 1) := by decide +kernel
theorem dX9_isAtEnd_16 : decode cX9_isAtEnd 16 = .ok (.ireturn, 1) := by decide +kernel
theorem dX9_here_0 : decode cX9_here 0 = .ok (.aload_n 0, 1) := by decide +kernel
theorem dX9_here_1 : decode cX9_here 1 = .ok (.getfield 15, 3) := by decide +kernel
theorem dX9_here_4 : decode cX9_here 4 = .ok (.ifCond .lt 35, 3) := by decide +kernel
theorem dX9_here_7 : decode cX9_here 7 = .ok (.aload_n 0, 1) := by decide +kernel
theorem dX9_here_8 : decode cX9_here 8 = .ok (.getfield 15, 3) := by decide +kernel
theorem dX9_here_11 : decode cX9_here 11 = .ok (.aload_n 0, 1) := by decide +kernel
theorem dX9_here_12 : decode cX9_here 12 = .ok (.getfield 9, 3) := by decide +kernel
theorem dX9_here_15 : decode cX9_here 15 = .ok (.if_icmp .ge 24, 3) := by decide +kernel
theorem dX9_here_18 : decode cX9_here 18 = .ok (.aload_n 0, 1) := by decide +kernel
theorem dX9_here_19 : decode cX9_here 19 = .ok (.getfield 15, 3) := by decide +kernel
theorem dX9_here_22 : decode cX9_here 22 = .ok (.bipush 120, 2) := by decide +kernel
theorem dX9_here_24 : decode cX9_here 24 = .ok (.if_icmp .ge 15, 3) := by decide +kernel
theorem dX9_here_27 : decode cX9_here 27 = .ok (.aload_n 0, 1) := by decide +kernel
theorem dX9_here_28 : decode cX9_here 28 = .ok (.getfield 28, 3) := by decide +kernel
theorem dX9_here_31 : decode cX9_here 31 = .ok (.aload_n 0, 1) := by decide +kernel
theorem dX9_here_32 : decode cX9_here 32 = .ok (.getfield 15, 3) := by decide +kernel
theorem dX9_here_35 : decode cX9_here 35 = .ok (.iaload, 1) := by decide +kernel
theorem dX9_here_36 : decode cX9_here 36 = .ok (.goto 4, 3) := by decide +kernel
theorem dX9_here_39 : decode cX9_here 39 = .ok (.iconst (-1), 1) := by decide +kernel
theorem dX9_here_40 : decode cX9_here 40 = .ok (.ireturn, 1) := by decide +kernel
