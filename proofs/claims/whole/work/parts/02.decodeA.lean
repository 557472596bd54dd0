theorem dX0_code_0 : decode cX0_code 0 = .ok (.sipush 1000, 3) := by decide +kernel
theorem dX0_code_3 : decode cX0_code 3 = .ok (.iload_n 0, 1) := by decide +kernel
theorem dX0_code_4 : decode cX0_code 4 = .ok (.imul, 1) := by decide +kernel
theorem dX0_code_5 : decode cX0_code 5 = .ok (.bipush 100, 2) := by decide +kernel
theorem dX0_code_7 : decode cX0_code 7 = .ok (.iload_n 1, 1) := by decide +kernel
theorem dX0_code_8 : decode cX0_code 8 = .ok (.imul, 1) := by decide +kernel
theorem dX0_code_9 : decode cX0_code 9 = .ok (.iadd, 1) := by decide +kernel
theorem dX0_code_10 : decode cX0_code 10 = .ok (.iload_n 2, 1) := by decide +kernel
theorem dX0_code_11 : decode cX0_code 11 = .ok (.iadd, 1) := by decide +kernel
theorem dX0_code_12 : decode cX0_code 12 = .ok (.ireturn, 1) := by decide +kernel
theorem dX0_how_0 : decode cX0_how 0 = .ok (.iload_n 0, 1) := by decide +kernel
theorem dX0_how_1 : decode cX0_how 1 = .ok (.sipush 1000, 3) := by decide +kernel
theorem dX0_how_4 : decode cX0_how 4 = .ok (.idiv, 1) := by decide +kernel
theorem dX0_how_5 : decode cX0_how 5 = .ok (.ireturn, 1) := by decide +kernel
theorem dX0_where_0 : decode cX0_where 0 = .ok (.iload_n 0, 1) := by decide +kernel
theorem dX0_where_1 : decode cX0_where 1 = .ok (.bipush 100, 2) := by decide +kernel
theorem dX0_where_3 : decode cX0_where 3 = .ok (.idiv, 1) := by decide +kernel
theorem dX0_where_4 : decode cX0_where 4 = .ok (.bipush 10, 2) := by decide +kernel
theorem dX0_where_6 : decode cX0_where 6 = .ok (.irem, 1) := by decide +kernel
theorem dX0_where_7 : decode cX0_where 7 = .ok (.ireturn, 1) := by decide +kernel
theorem dX0_other_0 : decode cX0_other 0 = .ok (.iload_n 0, 1) := by decide +kernel
theorem dX0_other_1 : decode cX0_other 1 = .ok (.bipush 100, 2) := by decide +kernel
theorem dX0_other_3 : decode cX0_other 3 = .ok (.irem, 1) := by decide +kernel
theorem dX0_other_4 : decode cX0_other 4 = .ok (.ireturn, 1) := by decide +kernel
theorem dX0_back_0 : decode cX0_back 0 = .ok (.iload_n 0, 1) := by decide +kernel
theorem dX0_back_1 : decode cX0_back 1 = .ok (.invokestatic 7, 3) := by decide +kernel
theorem dX0_back_4 : decode cX0_back 4 = .ok (.istore_n 2, 1) := by decide +kernel
theorem dX0_back_5 : decode cX0_back 5 = .ok (.iload_n 0, 1) := by decide +kernel
theorem dX0_back_6 : decode cX0_back 6 = .ok (.invokestatic 13, 3) := by decide +kernel
theorem dX0_back_9 : decode cX0_back 9 = .ok (.tableswitch 48 0 2 #[27, 34, 41], 27) := by decide +kernel
theorem dX0_back_36 : decode cX0_back 36 = .ok (.iconst 1, 1) := by decide +kernel
theorem dX0_back_37 : decode cX0_back 37 = .ok (.iload_n 2, 1) := by decide +kernel
theorem dX0_back_38 : decode cX0_back 38 = .ok (.iload_n 1, 1) := by decide +kernel
theorem dX0_back_39 : decode cX0_back 39 = .ok (.invokestatic 16, 3) := by decide +kernel
theorem dX0_back_42 : decode cX0_back 42 = .ok (.ireturn, 1) := by decide +kernel
theorem dX0_back_43 : decode cX0_back 43 = .ok (.iconst 0, 1) := by decide +kernel
theorem dX0_back_44 : decode cX0_back 44 = .ok (.iload_n 2, 1) := by decide +kernel
theorem dX0_back_45 : decode cX0_back 45 = .ok (.iconst 0, 1) := by decide +kernel
theorem dX0_back_46 : decode cX0_back 46 = .ok (.invokestatic 16, 3) := by decide +kernel
theorem dX0_back_49 : decode cX0_back 49 = .ok (.ireturn, 1) := by decide +kernel
theorem dX0_back_50 : decode cX0_back 50 = .ok (.iconst 2, 1) := by decide +kernel
theorem dX0_back_51 : decode cX0_back 51 = .ok (.iload_n 2, 1) := by decide +kernel
theorem dX0_back_52 : decode cX0_back 52 = .ok (.iload_n 1, 1) := by decide +kernel
theorem dX0_back_53 : decode cX0_back 53 = .ok (.invokestatic 16, 3) := by decide +kernel
theorem dX0_back_56 : decode cX0_back 56 = .ok (.ireturn, 1) := by decide +kernel
theorem dX0_back_57 : decode cX0_back 57 = .ok (.iconst 3, 1) := by decide +kernel
theorem dX0_back_58 : decode cX0_back 58 = .ok (.iload_n 0, 1) := by decide +kernel
theorem dX0_back_59 : decode cX0_back 59 = .ok (.invokestatic 20, 3) := by decide +kernel
theorem dX0_back_62 : decode cX0_back 62 = .ok (.iload_n 2, 1) := by decide +kernel
theorem dX0_back_63 : decode cX0_back 63 = .ok (.invokestatic 16, 3) := by decide +kernel
theorem dX0_back_66 : decode cX0_back 66 = .ok (.ireturn, 1) := by decide +kernel
theorem dX1_setsBy_0 : decode cX1_setsBy 0 = .ok (.aload_n 0, 1) := by decide +kernel
theorem dX1_setsBy_1 : decode cX1_setsBy 1 = .ok (.iload_n 1, 1) := by decide +kernel
theorem dX1_setsBy_2 : decode cX1_setsBy 2 = .ok (.invokevirtual 7, 3) := by decide +kernel
theorem dX1_setsBy_5 : decode cX1_setsBy 5 = .ok (.istore 4, 2) := by decide +kernel
theorem dX1_setsBy_7 : decode cX1_setsBy 7 = .ok (.iconst 1, 1) := by decide +kernel
theorem dX1_setsBy_8 : decode cX1_setsBy 8 = .ok (.iload 4, 2) := by decide +kernel
theorem dX1_setsBy_10 : decode cX1_setsBy 10 = .ok (.invokestatic 13, 3) := by decide +kernel
theorem dX1_setsBy_13 : decode cX1_setsBy 13 = .ok (.ishl, 1) := by decide +kernel
theorem dX1_setsBy_14 : decode cX1_setsBy 14 = .ok (.istore 5, 2) := by decide +kernel
theorem dX1_setsBy_16 : decode cX1_setsBy 16 = .ok (.iconst 0, 1) := by decide +kernel
theorem dX1_setsBy_17 : decode cX1_setsBy 17 = .ok (.istore 6, 2) := by decide +kernel
theorem dX1_setsBy_19 : decode cX1_setsBy 19 = .ok (.iconst 0, 1) := by decide +kernel
theorem dX1_setsBy_20 : decode cX1_setsBy 20 = .ok (.istore 7, 2) := by decide +kernel
theorem dX1_setsBy_22 : decode cX1_setsBy 22 = .ok (.iconst 0, 1) := by decide +kernel
theorem dX1_setsBy_23 : decode cX1_setsBy 23 = .ok (.istore 8, 2) := by decide +kernel
theorem dX1_setsBy_25 : decode cX1_setsBy 25 = .ok (.iload 8, 2) := by decide +kernel
theorem dX1_setsBy_27 : decode cX1_setsBy 27 = .ok (.iload 5, 2) := by decide +kernel
theorem dX1_setsBy_29 : decode cX1_setsBy 29 = .ok (.if_icmp .ge 33, 3) := by decide +kernel
theorem dX1_setsBy_32 : decode cX1_setsBy 32 = .ok (.aload_n 0, 1) := by decide +kernel
theorem dX1_setsBy_33 : decode cX1_setsBy 33 = .ok (.iload 7, 2) := by decide +kernel
theorem dX1_setsBy_35 : decode cX1_setsBy 35 = .ok (.invokevirtual 18, 3) := by decide +kernel
theorem dX1_setsBy_38 : decode cX1_setsBy 38 = .ok (.i2l, 1) := by decide +kernel
theorem dX1_setsBy_39 : decode cX1_setsBy 39 = .ok (.lload_n 2, 1) := by decide +kernel
theorem dX1_setsBy_40 : decode cX1_setsBy 40 = .ok (.lcmp, 1) := by decide +kernel
theorem dX1_setsBy_41 : decode cX1_setsBy 41 = .ok (.ifCond .ne 6, 3) := by decide +kernel
theorem dX1_setsBy_44 : decode cX1_setsBy 44 = .ok (.iinc 6 1, 3) := by decide +kernel
theorem dX1_setsBy_47 : decode cX1_setsBy 47 = .ok (.iload 7, 2) := by decide +kernel
theorem dX1_setsBy_49 : decode cX1_setsBy 49 = .ok (.iload 4, 2) := by decide +kernel
theorem dX1_setsBy_51 : decode cX1_setsBy 51 = .ok (.invokestatic 21, 3) := by decide +kernel
theorem dX1_setsBy_54 : decode cX1_setsBy 54 = .ok (.istore 7, 2) := by decide +kernel
theorem dX1_setsBy_56 : decode cX1_setsBy 56 = .ok (.iinc 8 1, 3) := by decide +kernel
theorem dX1_setsBy_59 : decode cX1_setsBy 59 = .ok (.goto (-34), 3) := by decide +kernel
theorem dX1_setsBy_62 : decode cX1_setsBy 62 = .ok (.iload 6, 2) := by decide +kernel
theorem dX1_setsBy_64 : decode cX1_setsBy 64 = .ok (.ireturn, 1) := by decide +kernel
theorem dX1_leastBy_0 : decode cX1_leastBy 0 = .ok (.aload_n 0, 1) := by decide +kernel
theorem dX1_leastBy_1 : decode cX1_leastBy 1 = .ok (.iload_n 1, 1) := by decide +kernel
theorem dX1_leastBy_2 : decode cX1_leastBy 2 = .ok (.invokevirtual 7, 3) := by decide +kernel
theorem dX1_leastBy_5 : decode cX1_leastBy 5 = .ok (.istore 4, 2) := by decide +kernel
theorem dX1_leastBy_7 : decode cX1_leastBy 7 = .ok (.iconst 1, 1) := by decide +kernel
theorem dX1_leastBy_8 : decode cX1_leastBy 8 = .ok (.iload 4, 2) := by decide +kernel
theorem dX1_leastBy_10 : decode cX1_leastBy 10 = .ok (.invokestatic 13, 3) := by decide +kernel
theorem dX1_leastBy_13 : decode cX1_leastBy 13 = .ok (.ishl, 1) := by decide +kernel
theorem dX1_leastBy_14 : decode cX1_leastBy 14 = .ok (.istore 5, 2) := by decide +kernel
theorem dX1_leastBy_16 : decode cX1_leastBy 16 = .ok (.iconst 0, 1) := by decide +kernel
theorem dX1_leastBy_17 : decode cX1_leastBy 17 = .ok (.istore 6, 2) := by decide +kernel
theorem dX1_leastBy_19 : decode cX1_leastBy 19 = .ok (.iconst 0, 1) := by decide +kernel
theorem dX1_leastBy_20 : decode cX1_leastBy 20 = .ok (.istore 7, 2) := by decide +kernel
theorem dX1_leastBy_22 : decode cX1_leastBy 22 = .ok (.iload 7, 2) := by decide +kernel
theorem dX1_leastBy_24 : decode cX1_leastBy 24 = .ok (.iload 5, 2) := by decide +kernel
theorem dX1_leastBy_26 : decode cX1_leastBy 26 = .ok (.if_icmp .ge 33, 3) := by decide +kernel
theorem dX1_leastBy_29 : decode cX1_leastBy 29 = .ok (.aload_n 0, 1) := by decide +kernel
theorem dX1_leastBy_30 : decode cX1_leastBy 30 = .ok (.iload 6, 2) := by decide +kernel
theorem dX1_leastBy_32 : decode cX1_leastBy 32 = .ok (.invokevirtual 18, 3) := by decide +kernel
theorem dX1_leastBy_35 : decode cX1_leastBy 35 = .ok (.i2l, 1) := by decide +kernel
theorem dX1_leastBy_36 : decode cX1_leastBy 36 = .ok (.lload_n 2, 1) := by decide +kernel
theorem dX1_leastBy_37 : decode cX1_leastBy 37 = .ok (.lcmp, 1) := by decide +kernel
theorem dX1_leastBy_38 : decode cX1_leastBy 38 = .ok (.ifCond .ne 6, 3) := by decide +kernel
theorem dX1_leastBy_41 : decode cX1_leastBy 41 = .ok (.iload 6, 2) := by decide +kernel
theorem dX1_leastBy_43 : decode cX1_leastBy 43 = .ok (.ireturn, 1) := by decide +kernel
theorem dX1_leastBy_44 : decode cX1_leastBy 44 = .ok (.iload 6, 2) := by decide +kernel
theorem dX1_leastBy_46 : decode cX1_leastBy 46 = .ok (.iload 4, 2) := by decide +kernel
theorem dX1_leastBy_48 : decode cX1_leastBy 48 = .ok (.invokestatic 21, 3) := by decide +kernel
theorem dX1_leastBy_51 : decode cX1_leastBy 51 = .ok (.istore 6, 2) := by decide +kernel
theorem dX1_leastBy_53 : decode cX1_leastBy 53 = .ok (.iinc 7 1, 3) := by decide +kernel
theorem dX1_leastBy_56 : decode cX1_leastBy 56 = .ok (.goto (-34), 3) := by decide +kernel
theorem dX1_leastBy_59 : decode cX1_leastBy 59 = .ok (.iconst 0, 1) := by decide +kernel
theorem dX1_leastBy_60 : decode cX1_leastBy 60 = .ok (.ireturn, 1) := by decide +kernel
theorem dX1_nextSubset_0 : decode cX1_nextSubset 0 = .ok (.iload_n 0, 1) := by decide +kernel
theorem dX1_nextSubset_1 : decode cX1_nextSubset 1 = .ok (.iload_n 1, 1) := by decide +kernel
theorem dX1_nextSubset_2 : decode cX1_nextSubset 2 = .ok (.isub, 1) := by decide +kernel
theorem dX1_nextSubset_3 : decode cX1_nextSubset 3 = .ok (.iload_n 1, 1) := by decide +kernel
theorem dX1_nextSubset_4 : decode cX1_nextSubset 4 = .ok (.iand, 1) := by decide +kernel
theorem dX1_nextSubset_5 : decode cX1_nextSubset 5 = .ok (.ireturn, 1) := by decide +kernel
theorem dX2_init_0 : decode cX2_init 0 = .ok (.aload_n 0, 1) := by decide +kernel
theorem dX2_init_1 : decode cX2_init 1 = .ok (.invokespecial 3, 3) := by decide +kernel
theorem dX2_init_4 : decode cX2_init 4 = .ok (.aload_n 0, 1) := by decide +kernel
theorem dX2_init_5 : decode cX2_init 5 = .ok (.bipush 12, 2) := by decide +kernel
theorem dX2_init_7 : decode cX2_init 7 = .ok (.newarray .int, 2) := by decide +kernel
theorem dX2_init_9 : decode cX2_init 9 = .ok (.putfield 9, 3) := by decide +kernel
theorem dX2_init_12 : decode cX2_init 12 = .ok (.aload_n 0, 1) := by decide +kernel
theorem dX2_init_13 : decode cX2_init 13 = .ok (.bipush 12, 2) := by decide +kernel
theorem dX2_init_15 : decode cX2_init 15 = .ok (.newarray .int, 2) := by decide +kernel
theorem dX2_init_17 : decode cX2_init 17 = .ok (.putfield 15, 3) := by decide +kernel
theorem dX2_init_20 : decode cX2_init 20 = .ok (.aload_n 0, 1) := by decide +kernel
theorem dX2_init_21 : decode cX2_init 21 = .ok (.bipush 12, 2) := by decide +kernel
theorem dX2_init_23 : decode cX2_init 23 = .ok (.newarray .int, 2) := by decide +kernel
theorem dX2_init_25 : decode cX2_init 25 = .ok (.putfield 18, 3) := by decide +kernel
theorem dX2_init_28 : decode cX2_init 28 = .ok (.aload_n 0, 1) := by decide +kernel
theorem dX2_init_29 : decode cX2_init 29 = .ok (.bipush 12, 2) := by decide +kernel
theorem dX2_init_31 : decode cX2_init 31 = .ok (.newarray .int, 2) := by decide +kernel
theorem dX2_init_33 : decode cX2_init 33 = .ok (.putfield 21, 3) := by decide +kernel
theorem dX2_init_36 : decode cX2_init 36 = .ok (.aload_n 0, 1) := by decide +kernel
theorem dX2_init_37 : decode cX2_init 37 = .ok (.bipush 12, 2) := by decide +kernel
theorem dX2_init_39 : decode cX2_init 39 = .ok (.newarray .int, 2) := by decide +kernel
theorem dX2_init_41 : decode cX2_init 41 = .ok (.putfield 24, 3) := by decide +kernel
theorem dX2_init_44 : decode cX2_init 44 = .ok (.aload_n 0, 1) := by decide +kernel
theorem dX2_init_45 : decode cX2_init 45 = .ok (.bipush 6, 2) := by decide +kernel
theorem dX2_init_47 : decode cX2_init 47 = .ok (.newarray .int, 2) := by decide +kernel
theorem dX2_init_49 : decode cX2_init 49 = .ok (.putfield 27, 3) := by decide +kernel
theorem dX2_init_52 : decode cX2_init 52 = .ok (.aload_n 0, 1) := by decide +kernel
theorem dX2_init_53 : decode cX2_init 53 = .ok (.bipush 6, 2) := by decide +kernel
theorem dX2_init_55 : decode cX2_init 55 = .ok (.newarray .int, 2) := by decide +kernel
theorem dX2_init_57 : decode cX2_init 57 = .ok (.putfield 30, 3) := by decide +kernel
theorem dX2_init_60 : decode cX2_init 60 = .ok (.aload_n 0, 1) := by decide +kernel
theorem dX2_init_61 : decode cX2_init 61 = .ok (.getfield 24, 3) := by decide +kernel
theorem dX2_init_64 : decode cX2_init 64 = .ok (.bipush 12, 2) := by decide +kernel
theorem dX2_init_66 : decode cX2_init 66 = .ok (.invokestatic 33, 3) := by decide +kernel
theorem dX2_init_69 : decode cX2_init 69 = .ok (.aload_n 0, 1) := by decide +kernel
theorem dX2_init_70 : decode cX2_init 70 = .ok (.getfield 27, 3) := by decide +kernel
theorem dX2_init_73 : decode cX2_init 73 = .ok (.bipush 12, 2) := by decide +kernel
theorem dX2_init_75 : decode cX2_init 75 = .ok (.invokestatic 33, 3) := by decide +kernel
theorem dX2_init_78 : decode cX2_init 78 = .ok (.aload_n 0, 1) := by decide +kernel
theorem dX2_init_79 : decode cX2_init 79 = .ok (.getfield 30, 3) := by decide +kernel
theorem dX2_init_82 : decode cX2_init 82 = .ok (.iconst 3, 1) := by decide +kernel
theorem dX2_init_83 : decode cX2_init 83 = .ok (.invokestatic 33, 3) := by decide +kernel
theorem dX2_init_86 : decode cX2_init 86 = .ok (.return_, 1) := by decide +kernel
theorem dX2_isPiece_0 : decode cX2_isPiece 0 = .ok (.iload_n 1, 1) := by decide +kernel
theorem dX2_isPiece_1 : decode cX2_isPiece 1 = .ok (.ifCond .lt 15, 3) := by decide +kernel
theorem dX2_isPiece_4 : decode cX2_isPiece 4 = .ok (.iload_n 1, 1) := by decide +kernel
theorem dX2_isPiece_5 : decode cX2_isPiece 5 = .ok (.aload_n 0, 1) := by decide +kernel
theorem dX2_isPiece_6 : decode cX2_isPiece 6 = .ok (.getfield 39, 3) := by decide +kernel
theorem dX2_isPiece_9 : decode cX2_isPiece 9 = .ok (.if_icmp .ge 7, 3) := by decide +kernel
theorem dX2_isPiece_12 : decode cX2_isPiece 12 = .ok (.iconst 1, 1) := by decide +kernel
theorem dX2_isPiece_13 : decode cX2_isPiece 13 = .ok (.goto 4, 3) := by decide +kernel
theorem dX2_isPiece_16 : decode cX2_isPiece 16 = .ok (.iconst 0, 1) := by decide +kernel
theorem dX2_isPiece_17 : decode cX2_isPiece 17 = .ok (.ireturn, 1) := by decide +kernel
theorem dX2_pieces_0 : decode cX2_pieces 0 = .ok (.aload_n 0, 1) := by decide +kernel
theorem dX2_pieces_1 : decode cX2_pieces 1 = .ok (.getfield 39, 3) := by decide +kernel
theorem dX2_pieces_4 : decode cX2_pieces 4 = .ok (.ireturn, 1) := by decide +kernel
theorem dX2_timesAwake_0 : decode cX2_timesAwake 0 = .ok (.aload_n 0, 1) := by decide +kernel
theorem dX2_timesAwake_1 : decode cX2_timesAwake 1 = .ok (.getfield 43, 3) := by decide +kernel
theorem dX2_timesAwake_4 : decode cX2_timesAwake 4 = .ok (.ireturn, 1) := by decide +kernel
theorem dX2_kindOf_0 : decode cX2_kindOf 0 = .ok (.aload_n 0, 1) := by decide +kernel
theorem dX2_kindOf_1 : decode cX2_kindOf 1 = .ok (.iload_n 1, 1) := by decide +kernel
theorem dX2_kindOf_2 : decode cX2_kindOf 2 = .ok (.invokevirtual 46, 3) := by decide +kernel
theorem dX2_kindOf_5 : decode cX2_kindOf 5 = .ok (.ifCond .eq 12, 3) := by decide +kernel
theorem dX2_kindOf_8 : decode cX2_kindOf 8 = .ok (.aload_n 0, 1) := by decide +kernel
theorem dX2_kindOf_9 : decode cX2_kindOf 9 = .ok (.getfield 9, 3) := by decide +kernel
theorem dX2_kindOf_12 : decode cX2_kindOf 12 = .ok (.iload_n 1, 1) := by decide +kernel
theorem dX2_kindOf_13 : decode cX2_kindOf 13 = .ok (.iaload, 1) := by decide +kernel
theorem dX2_kindOf_14 : decode cX2_kindOf 14 = .ok (.goto 4, 3) := by decide +kernel
theorem dX2_kindOf_17 : decode cX2_kindOf 17 = .ok (.iconst 0, 1) := by decide +kernel
theorem dX2_kindOf_18 : decode cX2_kindOf 18 = .ok (.ireturn, 1) := by decide +kernel
theorem dX2_weighs_0 : decode cX2_weighs 0 = .ok (.aload_n 0, 1) := by decide +kernel
theorem dX2_weighs_1 : decode cX2_weighs 1 = .ok (.iload_n 1, 1) := by decide +kernel
theorem dX2_weighs_2 : decode cX2_weighs 2 = .ok (.invokevirtual 46, 3) := by decide +kernel
theorem dX2_weighs_5 : decode cX2_weighs 5 = .ok (.ifCond .ne 5, 3) := by decide +kernel
theorem dX2_weighs_8 : decode cX2_weighs 8 = .ok (.iconst 0, 1) := by decide +kernel
theorem dX2_weighs_9 : decode cX2_weighs 9 = .ok (.ireturn, 1) := by decide +kernel
theorem dX2_weighs_10 : decode cX2_weighs 10 = .ok (.aload_n 0, 1) := by decide +kernel
theorem dX2_weighs_11 : decode cX2_weighs 11 = .ok (.getfield 9, 3) := by decide +kernel
theorem dX2_weighs_14 : decode cX2_weighs 14 = .ok (.iload_n 1, 1) := by decide +kernel
theorem dX2_weighs_15 : decode cX2_weighs 15 = .ok (.iaload, 1) := by decide +kernel
theorem dX2_weighs_16 : decode cX2_weighs 16 = .ok (.iconst 1, 1) := by decide +kernel
theorem dX2_weighs_17 : decode cX2_weighs 17 = .ok (.if_icmp .ne 14, 3) := by decide +kernel
theorem dX2_weighs_20 : decode cX2_weighs 20 = .ok (.aload_n 0, 1) := by decide +kernel
theorem dX2_weighs_21 : decode cX2_weighs 21 = .ok (.getfield 15, 3) := by decide +kernel
theorem dX2_weighs_24 : decode cX2_weighs 24 = .ok (.iload_n 1, 1) := by decide +kernel
theorem dX2_weighs_25 : decode cX2_weighs 25 = .ok (.iaload, 1) := by decide +kernel
theorem dX2_weighs_26 : decode cX2_weighs 26 = .ok (.iconst 2, 1) := by decide +kernel
theorem dX2_weighs_27 : decode cX2_weighs 27 = .ok (.iadd, 1) := by decide +kernel
theorem dX2_weighs_28 : decode cX2_weighs 28 = .ok (.goto 9, 3) := by decide +kernel
theorem dX2_weighs_31 : decode cX2_weighs 31 = .ok (.aload_n 0, 1) := by decide +kernel
theorem dX2_weighs_32 : decode cX2_weighs 32 = .ok (.getfield 15, 3) := by decide +kernel
theorem dX2_weighs_35 : decode cX2_weighs 35 = .ok (.iload_n 1, 1) := by decide +kernel
theorem dX2_weighs_36 : decode cX2_weighs 36 = .ok (.iaload, 1) := by decide +kernel
theorem dX2_weighs_37 : decode cX2_weighs 37 = .ok (.ireturn, 1) := by decide +kernel
theorem dX2_ownerOf_0 : decode cX2_ownerOf 0 = .ok (.aload_n 0, 1) := by decide +kernel
theorem dX2_ownerOf_1 : decode cX2_ownerOf 1 = .ok (.iload_n 1, 1) := by decide +kernel
theorem dX2_ownerOf_2 : decode cX2_ownerOf 2 = .ok (.invokevirtual 46, 3) := by decide +kernel
theorem dX2_ownerOf_5 : decode cX2_ownerOf 5 = .ok (.ifCond .eq 22, 3) := by decide +kernel
theorem dX2_ownerOf_8 : decode cX2_ownerOf 8 = .ok (.aload_n 0, 1) := by decide +kernel
theorem dX2_ownerOf_9 : decode cX2_ownerOf 9 = .ok (.getfield 9, 3) := by decide +kernel
theorem dX2_ownerOf_12 : decode cX2_ownerOf 12 = .ok (.iload_n 1, 1) := by decide +kernel
theorem dX2_ownerOf_13 : decode cX2_ownerOf 13 = .ok (.iaload, 1) := by decide +kernel
theorem dX2_ownerOf_14 : decode cX2_ownerOf 14 = .ok (.iconst 2, 1) := by decide +kernel
theorem dX2_ownerOf_15 : decode cX2_ownerOf 15 = .ok (.if_icmp .eq 12, 3) := by decide +kernel
theorem dX2_ownerOf_18 : decode cX2_ownerOf 18 = .ok (.aload_n 0, 1) := by decide +kernel
theorem dX2_ownerOf_19 : decode cX2_ownerOf 19 = .ok (.getfield 18, 3) := by decide +kernel
theorem dX2_ownerOf_22 : decode cX2_ownerOf 22 = .ok (.iload_n 1, 1) := by decide +kernel
theorem dX2_ownerOf_23 : decode cX2_ownerOf 23 = .ok (.iaload, 1) := by decide +kernel
theorem dX2_ownerOf_24 : decode cX2_ownerOf 24 = .ok (.goto 4, 3) := by decide +kernel
theorem dX2_ownerOf_27 : decode cX2_ownerOf 27 = .ok (.iconst 4, 1) := by decide +kernel
theorem dX2_ownerOf_28 : decode cX2_ownerOf 28 = .ok (.ireturn, 1) := by decide +kernel
theorem dX2_placeOf_0 : decode cX2_placeOf 0 = .ok (.aload_n 0, 1) := by decide +kernel
theorem dX2_placeOf_1 : decode cX2_placeOf 1 = .ok (.iload_n 1, 1) := by decide +kernel
theorem dX2_placeOf_2 : decode cX2_placeOf 2 = .ok (.invokevirtual 46, 3) := by decide +kernel
theorem dX2_placeOf_5 : decode cX2_placeOf 5 = .ok (.ifCond .eq 12, 3) := by decide +kernel
theorem dX2_placeOf_8 : decode cX2_placeOf 8 = .ok (.aload_n 0, 1) := by decide +kernel
theorem dX2_placeOf_9 : decode cX2_placeOf 9 = .ok (.getfield 21, 3) := by decide +kernel
theorem dX2_placeOf_12 : decode cX2_placeOf 12 = .ok (.iload_n 1, 1) := by decide +kernel
theorem dX2_placeOf_13 : decode cX2_placeOf 13 = .ok (.iaload, 1) := by decide +kernel
theorem dX2_placeOf_14 : decode cX2_placeOf 14 = .ok (.goto 5, 3) := by decide +kernel
theorem dX2_placeOf_17 : decode cX2_placeOf 17 = .ok (.bipush 7, 2) := by decide +kernel
theorem dX2_placeOf_19 : decode cX2_placeOf 19 = .ok (.ireturn, 1) := by decide +kernel
theorem dX2_offOf_0 : decode cX2_offOf 0 = .ok (.aload_n 0, 1) := by decide +kernel
theorem dX2_offOf_1 : decode cX2_offOf 1 = .ok (.aload_n 0, 1) := by decide +kernel
theorem dX2_offOf_2 : decode cX2_offOf 2 = .ok (.iload_n 1, 1) := by decide +kernel
theorem dX2_offOf_3 : decode cX2_offOf 3 = .ok (.invokevirtual 50, 3) := by decide +kernel
theorem dX2_offOf_6 : decode cX2_offOf 6 = .ok (.invokevirtual 54, 3) := by decide +kernel
theorem dX2_offOf_9 : decode cX2_offOf 9 = .ok (.istore_n 2, 1) := by decide +kernel
theorem dX2_offOf_10 : decode cX2_offOf 10 = .ok (.iconst 0, 1) := by decide +kernel
theorem dX2_offOf_11 : decode cX2_offOf 11 = .ok (.istore_n 3, 1) := by decide +kernel
theorem dX2_offOf_12 : decode cX2_offOf 12 = .ok (.iload_n 3, 1) := by decide +kernel
theorem dX2_offOf_13 : decode cX2_offOf 13 = .ok (.bipush 12, 2) := by decide +kernel
theorem dX2_offOf_15 : decode cX2_offOf 15 = .ok (.if_icmp .ge 29, 3) := by decide +kernel
theorem dX2_offOf_18 : decode cX2_offOf 18 = .ok (.iload_n 2, 1) := by decide +kernel
theorem dX2_offOf_19 : decode cX2_offOf 19 = .ok (.iload_n 1, 1) := by decide +kernel
theorem dX2_offOf_20 : decode cX2_offOf 20 = .ok (.if_icmp .eq 24, 3) := by decide +kernel
theorem dX2_offOf_23 : decode cX2_offOf 23 = .ok (.aload_n 0, 1) := by decide +kernel
theorem dX2_offOf_24 : decode cX2_offOf 24 = .ok (.iload_n 2, 1) := by decide +kernel
theorem dX2_offOf_25 : decode cX2_offOf 25 = .ok (.invokevirtual 46, 3) := by decide +kernel
theorem dX2_offOf_28 : decode cX2_offOf 28 = .ok (.ifCond .eq 16, 3) := by decide +kernel
theorem dX2_offOf_31 : decode cX2_offOf 31 = .ok (.aload_n 0, 1) := by decide +kernel
theorem dX2_offOf_32 : decode cX2_offOf 32 = .ok (.getfield 24, 3) := by decide +kernel
theorem dX2_offOf_35 : decode cX2_offOf 35 = .ok (.iload_n 2, 1) := by decide +kernel
theorem dX2_offOf_36 : decode cX2_offOf 36 = .ok (.iaload, 1) := by decide +kernel
theorem dX2_offOf_37 : decode cX2_offOf 37 = .ok (.istore_n 2, 1) := by decide +kernel
theorem dX2_offOf_38 : decode cX2_offOf 38 = .ok (.iinc 3 1, 3) := by decide +kernel
theorem dX2_offOf_41 : decode cX2_offOf 41 = .ok (.goto (-29), 3) := by decide +kernel
theorem dX2_offOf_44 : decode cX2_offOf 44 = .ok (.iload_n 3, 1) := by decide +kernel
theorem dX2_offOf_45 : decode cX2_offOf 45 = .ok (.ireturn, 1) := by decide +kernel
theorem dX2_belowOf_0 : decode cX2_belowOf 0 = .ok (.aload_n 0, 1) := by decide +kernel
theorem dX2_belowOf_1 : decode cX2_belowOf 1 = .ok (.iload_n 1, 1) := by decide +kernel
theorem dX2_belowOf_2 : decode cX2_belowOf 2 = .ok (.invokevirtual 46, 3) := by decide +kernel
theorem dX2_belowOf_5 : decode cX2_belowOf 5 = .ok (.ifCond .eq 12, 3) := by decide +kernel
theorem dX2_belowOf_8 : decode cX2_belowOf 8 = .ok (.aload_n 0, 1) := by decide +kernel
theorem dX2_belowOf_9 : decode cX2_belowOf 9 = .ok (.getfield 24, 3) := by decide +kernel
theorem dX2_belowOf_12 : decode cX2_belowOf 12 = .ok (.iload_n 1, 1) := by decide +kernel
theorem dX2_belowOf_13 : decode cX2_belowOf 13 = .ok (.iaload, 1) := by decide +kernel
theorem dX2_belowOf_14 : decode cX2_belowOf 14 = .ok (.goto 5, 3) := by decide +kernel
theorem dX2_belowOf_17 : decode cX2_belowOf 17 = .ok (.bipush 12, 2) := by decide +kernel
theorem dX2_belowOf_19 : decode cX2_belowOf 19 = .ok (.ireturn, 1) := by decide +kernel
theorem dX2_topOf_0 : decode cX2_topOf 0 = .ok (.iload_n 1, 1) := by decide +kernel
theorem dX2_topOf_1 : decode cX2_topOf 1 = .ok (.invokestatic 57, 3) := by decide +kernel
theorem dX2_topOf_4 : decode cX2_topOf 4 = .ok (.ifCond .eq 12, 3) := by decide +kernel
theorem dX2_topOf_7 : decode cX2_topOf 7 = .ok (.aload_n 0, 1) := by decide +kernel
theorem dX2_topOf_8 : decode cX2_topOf 8 = .ok (.getfield 27, 3) := by decide +kernel
theorem dX2_topOf_11 : decode cX2_topOf 11 = .ok (.iload_n 1, 1) := by decide +kernel
theorem dX2_topOf_12 : decode cX2_topOf 12 = .ok (.iaload, 1) := by decide +kernel
theorem dX2_topOf_13 : decode cX2_topOf 13 = .ok (.goto 5, 3) := by decide +kernel
theorem dX2_topOf_16 : decode cX2_topOf 16 = .ok (.bipush 12, 2) := by decide +kernel
theorem dX2_topOf_18 : decode cX2_topOf 18 = .ok (.ireturn, 1) := by decide +kernel
theorem dX2_senseOf_0 : decode cX2_senseOf 0 = .ok (.iload_n 1, 1) := by decide +kernel
theorem dX2_senseOf_1 : decode cX2_senseOf 1 = .ok (.invokestatic 57, 3) := by decide +kernel
theorem dX2_senseOf_4 : decode cX2_senseOf 4 = .ok (.ifCond .eq 12, 3) := by decide +kernel
theorem dX2_senseOf_7 : decode cX2_senseOf 7 = .ok (.aload_n 0, 1) := by decide +kernel
theorem dX2_senseOf_8 : decode cX2_senseOf 8 = .ok (.getfield 30, 3) := by decide +kernel
theorem dX2_senseOf_11 : decode cX2_senseOf 11 = .ok (.iload_n 1, 1) := by decide +kernel
theorem dX2_senseOf_12 : decode cX2_senseOf 12 = .ok (.iaload, 1) := by decide +kernel
theorem dX2_senseOf_13 : decode cX2_senseOf 13 = .ok (.goto 4, 3) := by decide +kernel
theorem dX2_senseOf_16 : decode cX2_senseOf 16 = .ok (.iconst 0, 1) := by decide +kernel
theorem dX2_senseOf_17 : decode cX2_senseOf 17 = .ok (.ireturn, 1) := by decide +kernel
theorem dX2_becomeFine_0 : decode cX2_becomeFine 0 = .ok (.iload_n 1, 1) := by decide +kernel
theorem dX2_becomeFine_1 : decode cX2_becomeFine 1 = .ok (.invokestatic 57, 3) := by decide +kernel
theorem dX2_becomeFine_4 : decode cX2_becomeFine 4 = .ok (.ifCond .eq 10, 3) := by decide +kernel
theorem dX2_becomeFine_7 : decode cX2_becomeFine 7 = .ok (.aload_n 0, 1) := by decide +kernel
theorem dX2_becomeFine_8 : decode cX2_becomeFine 8 = .ok (.getfield 30, 3) := by decide +kernel
theorem dX2_becomeFine_11 : decode cX2_becomeFine 11 = .ok (.iload_n 1, 1) := by decide +kernel
theorem dX2_becomeFine_12 : decode cX2_becomeFine 12 = .ok (.iload_n 2, 1) := by decide +kernel
theorem dX2_becomeFine_13 : decode cX2_becomeFine 13 = .ok (.iastore, 1) := by decide +kernel
theorem dX2_becomeFine_14 : decode cX2_becomeFine 14 = .ok (.return_, 1) := by decide +kernel
theorem dX2_loadIn_0 : decode cX2_loadIn 0 = .ok (.iconst 0, 1) := by decide +kernel
theorem dX2_loadIn_1 : decode cX2_loadIn 1 = .ok (.istore_n 2, 1) := by decide +kernel
theorem dX2_loadIn_2 : decode cX2_loadIn 2 = .ok (.iconst 0, 1) := by decide +kernel
theorem dX2_loadIn_3 : decode cX2_loadIn 3 = .ok (.istore_n 3, 1) := by decide +kernel
theorem dX2_loadIn_4 : decode cX2_loadIn 4 = .ok (.iload_n 3, 1) := by decide +kernel
theorem dX2_loadIn_5 : decode cX2_loadIn 5 = .ok (.aload_n 0, 1) := by decide +kernel
theorem dX2_loadIn_6 : decode cX2_loadIn 6 = .ok (.getfield 39, 3) := by decide +kernel
theorem dX2_loadIn_9 : decode cX2_loadIn 9 = .ok (.if_icmp .ge 26, 3) := by decide +kernel
theorem dX2_loadIn_12 : decode cX2_loadIn 12 = .ok (.aload_n 0, 1) := by decide +kernel
theorem dX2_loadIn_13 : decode cX2_loadIn 13 = .ok (.iload_n 3, 1) := by decide +kernel
theorem dX2_loadIn_14 : decode cX2_loadIn 14 = .ok (.invokevirtual 50, 3) := by decide +kernel
theorem dX2_loadIn_17 : decode cX2_loadIn 17 = .ok (.iload_n 1, 1) := by decide +kernel
theorem dX2_loadIn_18 : decode cX2_loadIn 18 = .ok (.if_icmp .ne 11, 3) := by decide +kernel
theorem dX2_loadIn_21 : decode cX2_loadIn 21 = .ok (.iload_n 2, 1) := by decide +kernel
theorem dX2_loadIn_22 : decode cX2_loadIn 22 = .ok (.aload_n 0, 1) := by decide +kernel
theorem dX2_loadIn_23 : decode cX2_loadIn 23 = .ok (.iload_n 3, 1) := by decide +kernel
theorem dX2_loadIn_24 : decode cX2_loadIn 24 = .ok (.invokevirtual 60, 3) := by decide +kernel
theorem dX2_loadIn_27 : decode cX2_loadIn 27 = .ok (.iadd, 1) := by decide +kernel
theorem dX2_loadIn_28 : decode cX2_loadIn 28 = .ok (.istore_n 2, 1) := by decide +kernel
theorem dX2_loadIn_29 : decode cX2_loadIn 29 = .ok (.iinc 3 1, 3) := by decide +kernel
theorem dX2_loadIn_32 : decode cX2_loadIn 32 = .ok (.goto (-28), 3) := by decide +kernel
theorem dX2_loadIn_35 : decode cX2_loadIn 35 = .ok (.iload_n 2, 1) := by decide +kernel
theorem dX2_loadIn_36 : decode cX2_loadIn 36 = .ok (.ireturn, 1) := by decide +kernel
theorem dX2_loadInPlaces_0 : decode cX2_loadInPlaces 0 = .ok (.iconst 0, 1) := by decide +kernel
theorem dX2_loadInPlaces_1 : decode cX2_loadInPlaces 1 = .ok (.istore_n 1, 1) := by decide +kernel
theorem dX2_loadInPlaces_2 : decode cX2_loadInPlaces 2 = .ok (.iconst 0, 1) := by decide +kernel
theorem dX2_loadInPlaces_3 : decode cX2_loadInPlaces 3 = .ok (.istore_n 2, 1) := by decide +kernel
theorem dX2_loadInPlaces_4 : decode cX2_loadInPlaces 4 = .ok (.iload_n 2, 1) := by decide +kernel
theorem dX2_loadInPlaces_5 : decode cX2_loadInPlaces 5 = .ok (.bipush 6, 2) := by decide +kernel
theorem dX2_loadInPlaces_7 : decode cX2_loadInPlaces 7 = .ok (.if_icmp .ge 17, 3) := by decide +kernel
theorem dX2_loadInPlaces_10 : decode cX2_loadInPlaces 10 = .ok (.iload_n 1, 1) := by decide +kernel
theorem dX2_loadInPlaces_11 : decode cX2_loadInPlaces 11 = .ok (.aload_n 0, 1) := by decide +kernel
theorem dX2_loadInPlaces_12 : decode cX2_loadInPlaces 12 = .ok (.iload_n 2, 1) := by decide +kernel
theorem dX2_loadInPlaces_13 : decode cX2_loadInPlaces 13 = .ok (.invokevirtual 63, 3) := by decide +kernel
theorem dX2_loadInPlaces_16 : decode cX2_loadInPlaces 16 = .ok (.iadd, 1) := by decide +kernel
theorem dX2_loadInPlaces_17 : decode cX2_loadInPlaces 17 = .ok (.istore_n 1, 1) := by decide +kernel
theorem dX2_loadInPlaces_18 : decode cX2_loadInPlaces 18 = .ok (.iinc 2 1, 3) := by decide +kernel
theorem dX2_loadInPlaces_21 : decode cX2_loadInPlaces 21 = .ok (.goto (-17), 3) := by decide +kernel
theorem dX2_loadInPlaces_24 : decode cX2_loadInPlaces 24 = .ok (.iload_n 1, 1) := by decide +kernel
theorem dX2_loadInPlaces_25 : decode cX2_loadInPlaces 25 = .ok (.ireturn, 1) := by decide +kernel
theorem dX2_loadInBagOf_0 : decode cX2_loadInBagOf 0 = .ok (.iconst 0, 1) := by decide +kernel
theorem dX2_loadInBagOf_1 : decode cX2_loadInBagOf 1 = .ok (.istore_n 2, 1) := by decide +kernel
theorem dX2_loadInBagOf_2 : decode cX2_loadInBagOf 2 = .ok (.iconst 0, 1) := by decide +kernel
theorem dX2_loadInBagOf_3 : decode cX2_loadInBagOf 3 = .ok (.istore_n 3, 1) := by decide +kernel
theorem dX2_loadInBagOf_4 : decode cX2_loadInBagOf 4 = .ok (.iload_n 3, 1) := by decide +kernel
theorem dX2_loadInBagOf_5 : decode cX2_loadInBagOf 5 = .ok (.aload_n 0, 1) := by decide +kernel
theorem dX2_loadInBagOf_6 : decode cX2_loadInBagOf 6 = .ok (.getfield 39, 3) := by decide +kernel
theorem dX2_loadInBagOf_9 : decode cX2_loadInBagOf 9 = .ok (.if_icmp .ge 36, 3) := by decide +kernel
theorem dX2_loadInBagOf_12 : decode cX2_loadInBagOf 12 = .ok (.aload_n 0, 1) := by decide +kernel
theorem dX2_loadInBagOf_13 : decode cX2_loadInBagOf 13 = .ok (.iload_n 3, 1) := by decide +kernel
theorem dX2_loadInBagOf_14 : decode cX2_loadInBagOf 14 = .ok (.invokevirtual 50, 3) := by decide +kernel
theorem dX2_loadInBagOf_17 : decode cX2_loadInBagOf 17 = .ok (.bipush 6, 2) := by decide +kernel
theorem dX2_loadInBagOf_19 : decode cX2_loadInBagOf 19 = .ok (.if_icmp .ne 20, 3) := by decide +kernel
theorem dX2_loadInBagOf_22 : decode cX2_loadInBagOf 22 = .ok (.aload_n 0, 1) := by decide +kernel
theorem dX2_loadInBagOf_23 : decode cX2_loadInBagOf 23 = .ok (.iload_n 3, 1) := by decide +kernel
theorem dX2_loadInBagOf_24 : decode cX2_loadInBagOf 24 = .ok (.invokevirtual 66, 3) := by decide +kernel
theorem dX2_loadInBagOf_27 : decode cX2_loadInBagOf 27 = .ok (.iload_n 1, 1) := by decide +kernel
theorem dX2_loadInBagOf_28 : decode cX2_loadInBagOf 28 = .ok (.if_icmp .ne 11, 3) := by decide +kernel
theorem dX2_loadInBagOf_31 : decode cX2_loadInBagOf 31 = .ok (.iload_n 2, 1) := by decide +kernel
theorem dX2_loadInBagOf_32 : decode cX2_loadInBagOf 32 = .ok (.aload_n 0, 1) := by decide +kernel
theorem dX2_loadInBagOf_33 : decode cX2_loadInBagOf 33 = .ok (.iload_n 3, 1) := by decide +kernel
theorem dX2_loadInBagOf_34 : decode cX2_loadInBagOf 34 = .ok (.invokevirtual 60, 3) := by decide +kernel
theorem dX2_loadInBagOf_37 : decode cX2_loadInBagOf 37 = .ok (.iadd, 1) := by decide +kernel
theorem dX2_loadInBagOf_38 : decode cX2_loadInBagOf 38 = .ok (.istore_n 2, 1) := by decide +kernel
theorem dX2_loadInBagOf_39 : decode cX2_loadInBagOf 39 = .ok (.iinc 3 1, 3) := by decide +kernel
theorem dX2_loadInBagOf_42 : decode cX2_loadInBagOf 42 = .ok (.goto (-38), 3) := by decide +kernel
theorem dX2_loadInBagOf_45 : decode cX2_loadInBagOf 45 = .ok (.iload_n 2, 1) := by decide +kernel
theorem dX2_loadInBagOf_46 : decode cX2_loadInBagOf 46 = .ok (.ireturn, 1) := by decide +kernel
theorem dX2_setIn_0 : decode cX2_setIn 0 = .ok (.iconst 0, 1) := by decide +kernel
theorem dX2_setIn_1 : decode cX2_setIn 1 = .ok (.istore_n 2, 1) := by decide +kernel
theorem dX2_setIn_2 : decode cX2_setIn 2 = .ok (.iconst 0, 1) := by decide +kernel
theorem dX2_setIn_3 : decode cX2_setIn 3 = .ok (.istore_n 3, 1) := by decide +kernel
theorem dX2_setIn_4 : decode cX2_setIn 4 = .ok (.iload_n 3, 1) := by decide +kernel
theorem dX2_setIn_5 : decode cX2_setIn 5 = .ok (.aload_n 0, 1) := by decide +kernel
theorem dX2_setIn_6 : decode cX2_setIn 6 = .ok (.getfield 39, 3) := by decide +kernel
theorem dX2_setIn_9 : decode cX2_setIn 9 = .ok (.if_icmp .ge 24, 3) := by decide +kernel
theorem dX2_setIn_12 : decode cX2_setIn 12 = .ok (.aload_n 0, 1) := by decide +kernel
theorem dX2_setIn_13 : decode cX2_setIn 13 = .ok (.iload_n 3, 1) := by decide +kernel
theorem dX2_setIn_14 : decode cX2_setIn 14 = .ok (.invokevirtual 50, 3) := by decide +kernel
theorem dX2_setIn_17 : decode cX2_setIn 17 = .ok (.iload_n 1, 1) := by decide +kernel
theorem dX2_setIn_18 : decode cX2_setIn 18 = .ok (.if_icmp .ne 9, 3) := by decide +kernel
theorem dX2_setIn_21 : decode cX2_setIn 21 = .ok (.iload_n 2, 1) := by decide +kernel
theorem dX2_setIn_22 : decode cX2_setIn 22 = .ok (.iconst 1, 1) := by decide +kernel
theorem dX2_setIn_23 : decode cX2_setIn 23 = .ok (.iload_n 3, 1) := by decide +kernel
theorem dX2_setIn_24 : decode cX2_setIn 24 = .ok (.ishl, 1) := by decide +kernel
theorem dX2_setIn_25 : decode cX2_setIn 25 = .ok (.ior, 1) := by decide +kernel
theorem dX2_setIn_26 : decode cX2_setIn 26 = .ok (.istore_n 2, 1) := by decide +kernel
theorem dX2_setIn_27 : decode cX2_setIn 27 = .ok (.iinc 3 1, 3) := by decide +kernel
theorem dX2_setIn_30 : decode cX2_setIn 30 = .ok (.goto (-26), 3) := by decide +kernel
theorem dX2_setIn_33 : decode cX2_setIn 33 = .ok (.iload_n 2, 1) := by decide +kernel
theorem dX2_setIn_34 : decode cX2_setIn 34 = .ok (.ireturn, 1) := by decide +kernel
theorem dX2_piecesIn_0 : decode cX2_piecesIn 0 = .ok (.aload_n 0, 1) := by decide +kernel
theorem dX2_piecesIn_1 : decode cX2_piecesIn 1 = .ok (.iload_n 1, 1) := by decide +kernel
theorem dX2_piecesIn_2 : decode cX2_piecesIn 2 = .ok (.invokevirtual 69, 3) := by decide +kernel
theorem dX2_piecesIn_5 : decode cX2_piecesIn 5 = .ok (.invokestatic 72, 3) := by decide +kernel
theorem dX2_piecesIn_8 : decode cX2_piecesIn 8 = .ok (.ireturn, 1) := by decide +kernel
theorem dX2_piecesInPlaces_0 : decode cX2_piecesInPlaces 0 = .ok (.aload_n 0, 1) := by decide +kernel
theorem dX2_piecesInPlaces_1 : decode cX2_piecesInPlaces 1 = .ok (.getfield 39, 3) := by decide +kernel
theorem dX2_piecesInPlaces_4 : decode cX2_piecesInPlaces 4 = .ok (.aload_n 0, 1) := by decide +kernel
theorem dX2_piecesInPlaces_5 : decode cX2_piecesInPlaces 5 = .ok (.bipush 6, 2) := by decide +kernel
theorem dX2_piecesInPlaces_7 : decode cX2_piecesInPlaces 7 = .ok (.invokevirtual 77, 3) := by decide +kernel
theorem dX2_piecesInPlaces_10 : decode cX2_piecesInPlaces 10 = .ok (.isub, 1) := by decide +kernel
theorem dX2_piecesInPlaces_11 : decode cX2_piecesInPlaces 11 = .ok (.aload_n 0, 1) := by decide +kernel
theorem dX2_piecesInPlaces_12 : decode cX2_piecesInPlaces 12 = .ok (.bipush 7, 2) := by decide +kernel
theorem dX2_piecesInPlaces_14 : decode cX2_piecesInPlaces 14 = .ok (.invokevirtual 77, 3) := by decide +kernel
theorem dX2_piecesInPlaces_17 : decode cX2_piecesInPlaces 17 = .ok (.isub, 1) := by decide +kernel
theorem dX2_piecesInPlaces_18 : decode cX2_piecesInPlaces 18 = .ok (.ireturn, 1) := by decide +kernel
theorem dX2_weighsSet_0 : decode cX2_weighsSet 0 = .ok (.iconst 0, 1) := by decide +kernel
theorem dX2_weighsSet_1 : decode cX2_weighsSet 1 = .ok (.istore_n 2, 1) := by decide +kernel
theorem dX2_weighsSet_2 : decode cX2_weighsSet 2 = .ok (.iconst 0, 1) := by decide +kernel
theorem dX2_weighsSet_3 : decode cX2_weighsSet 3 = .ok (.istore_n 3, 1) := by decide +kernel
theorem dX2_weighsSet_4 : decode cX2_weighsSet 4 = .ok (.iload_n 3, 1) := by decide +kernel
theorem dX2_weighsSet_5 : decode cX2_weighsSet 5 = .ok (.aload_n 0, 1) := by decide +kernel
theorem dX2_weighsSet_6 : decode cX2_weighsSet 6 = .ok (.getfield 39, 3) := by decide +kernel
theorem dX2_weighsSet_9 : decode cX2_weighsSet 9 = .ok (.if_icmp .ge 25, 3) := by decide +kernel
theorem dX2_weighsSet_12 : decode cX2_weighsSet 12 = .ok (.iload_n 1, 1) := by decide +kernel
theorem dX2_weighsSet_13 : decode cX2_weighsSet 13 = .ok (.iload_n 3, 1) := by decide +kernel
theorem dX2_weighsSet_14 : decode cX2_weighsSet 14 = .ok (.invokestatic 80, 3) := by decide +kernel
theorem dX2_weighsSet_17 : decode cX2_weighsSet 17 = .ok (.ifCond .eq 11, 3) := by decide +kernel
theorem dX2_weighsSet_20 : decode cX2_weighsSet 20 = .ok (.iload_n 2, 1) := by decide +kernel
theorem dX2_weighsSet_21 : decode cX2_weighsSet 21 = .ok (.aload_n 0, 1) := by decide +kernel
theorem dX2_weighsSet_22 : decode cX2_weighsSet 22 = .ok (.iload_n 3, 1) := by decide +kernel
theorem dX2_weighsSet_23 : decode cX2_weighsSet 23 = .ok (.invokevirtual 60, 3) := by decide +kernel
theorem dX2_weighsSet_26 : decode cX2_weighsSet 26 = .ok (.iadd, 1) := by decide +kernel
theorem dX2_weighsSet_27 : decode cX2_weighsSet 27 = .ok (.istore_n 2, 1) := by decide +kernel
theorem dX2_weighsSet_28 : decode cX2_weighsSet 28 = .ok (.iinc 3 1, 3) := by decide +kernel
theorem dX2_weighsSet_31 : decode cX2_weighsSet 31 = .ok (.goto (-27), 3) := by decide +kernel
theorem dX2_weighsSet_34 : decode cX2_weighsSet 34 = .ok (.iload_n 2, 1) := by decide +kernel
theorem dX2_weighsSet_35 : decode cX2_weighsSet 35 = .ok (.ireturn, 1) := by decide +kernel
theorem dX2_add_0 : decode cX2_add 0 = .ok (.aload_n 0, 1) := by decide +kernel
theorem dX2_add_1 : decode cX2_add 1 = .ok (.getfield 39, 3) := by decide +kernel
theorem dX2_add_4 : decode cX2_add 4 = .ok (.istore 5, 2) := by decide +kernel
theorem dX2_add_6 : decode cX2_add 6 = .ok (.iload 5, 2) := by decide +kernel
theorem dX2_add_8 : decode cX2_add 8 = .ok (.ifCond .lt 10, 3) := by decide +kernel
theorem dX2_add_11 : decode cX2_add 11 = .ok (.iload 5, 2) := by decide +kernel
theorem dX2_add_13 : decode cX2_add 13 = .ok (.bipush 12, 2) := by decide +kernel
theorem dX2_add_15 : decode cX2_add 15 = .ok (.if_icmp .lt 6, 3) := by decide +kernel
theorem dX2_add_18 : decode cX2_add 18 = .ok (.bipush (-3), 2) := by decide +kernel
theorem dX2_add_20 : decode cX2_add 20 = .ok (.ireturn, 1) := by decide +kernel
theorem dX2_add_21 : decode cX2_add 21 = .ok (.aload_n 0, 1) := by decide +kernel
theorem dX2_add_22 : decode cX2_add 22 = .ok (.iload 5, 2) := by decide +kernel
theorem dX2_add_24 : decode cX2_add 24 = .ok (.iconst 1, 1) := by decide +kernel
theorem dX2_add_25 : decode cX2_add 25 = .ok (.iadd, 1) := by decide +kernel
theorem dX2_add_26 : decode cX2_add 26 = .ok (.putfield 39, 3) := by decide +kernel
theorem dX2_add_29 : decode cX2_add 29 = .ok (.aload_n 0, 1) := by decide +kernel
theorem dX2_add_30 : decode cX2_add 30 = .ok (.getfield 9, 3) := by decide +kernel
theorem dX2_add_33 : decode cX2_add 33 = .ok (.iload 5, 2) := by decide +kernel
theorem dX2_add_35 : decode cX2_add 35 = .ok (.iload_n 1, 1) := by decide +kernel
theorem dX2_add_36 : decode cX2_add 36 = .ok (.iastore, 1) := by decide +kernel
theorem dX2_add_37 : decode cX2_add 37 = .ok (.aload_n 0, 1) := by decide +kernel
theorem dX2_add_38 : decode cX2_add 38 = .ok (.getfield 15, 3) := by decide +kernel
theorem dX2_add_41 : decode cX2_add 41 = .ok (.iload 5, 2) := by decide +kernel
theorem dX2_add_43 : decode cX2_add 43 = .ok (.iload_n 2, 1) := by decide +kernel
theorem dX2_add_44 : decode cX2_add 44 = .ok (.iastore, 1) := by decide +kernel
theorem dX2_add_45 : decode cX2_add 45 = .ok (.aload_n 0, 1) := by decide +kernel
theorem dX2_add_46 : decode cX2_add 46 = .ok (.getfield 18, 3) := by decide +kernel
theorem dX2_add_49 : decode cX2_add 49 = .ok (.iload 5, 2) := by decide +kernel
theorem dX2_add_51 : decode cX2_add 51 = .ok (.iload_n 3, 1) := by decide +kernel
theorem dX2_add_52 : decode cX2_add 52 = .ok (.iastore, 1) := by decide +kernel
theorem dX2_add_53 : decode cX2_add 53 = .ok (.aload_n 0, 1) := by decide +kernel
theorem dX2_add_54 : decode cX2_add 54 = .ok (.getfield 21, 3) := by decide +kernel
theorem dX2_add_57 : decode cX2_add 57 = .ok (.iload 5, 2) := by decide +kernel
theorem dX2_add_59 : decode cX2_add 59 = .ok (.bipush 6, 2) := by decide +kernel
theorem dX2_add_61 : decode cX2_add 61 = .ok (.iastore, 1) := by decide +kernel
theorem dX2_add_62 : decode cX2_add 62 = .ok (.aload_n 0, 1) := by decide +kernel
theorem dX2_add_63 : decode cX2_add 63 = .ok (.getfield 24, 3) := by decide +kernel
theorem dX2_add_66 : decode cX2_add 66 = .ok (.iload 5, 2) := by decide +kernel
theorem dX2_add_68 : decode cX2_add 68 = .ok (.bipush 12, 2) := by decide +kernel
theorem dX2_add_70 : decode cX2_add 70 = .ok (.iastore, 1) := by decide +kernel
theorem dX2_add_71 : decode cX2_add 71 = .ok (.aload_n 0, 1) := by decide +kernel
theorem dX2_add_72 : decode cX2_add 72 = .ok (.iload 5, 2) := by decide +kernel
theorem dX2_add_74 : decode cX2_add 74 = .ok (.iload 4, 2) := by decide +kernel
theorem dX2_add_76 : decode cX2_add 76 = .ok (.invokevirtual 84, 3) := by decide +kernel
theorem dX2_add_79 : decode cX2_add 79 = .ok (.iload 5, 2) := by decide +kernel
theorem dX2_add_81 : decode cX2_add 81 = .ok (.ireturn, 1) := by decide +kernel
theorem dX2_clearPieces_0 : decode cX2_clearPieces 0 = .ok (.aload_n 0, 1) := by decide +kernel
theorem dX2_clearPieces_1 : decode cX2_clearPieces 1 = .ok (.iconst 0, 1) := by decide +kernel
theorem dX2_clearPieces_2 : decode cX2_clearPieces 2 = .ok (.putfield 39, 3) := by decide +kernel
theorem dX2_clearPieces_5 : decode cX2_clearPieces 5 = .ok (.aload_n 0, 1) := by decide +kernel
theorem dX2_clearPieces_6 : decode cX2_clearPieces 6 = .ok (.getfield 27, 3) := by decide +kernel
theorem dX2_clearPieces_9 : decode cX2_clearPieces 9 = .ok (.bipush 12, 2) := by decide +kernel
theorem dX2_clearPieces_11 : decode cX2_clearPieces 11 = .ok (.invokestatic 33, 3) := by decide +kernel
theorem dX2_clearPieces_14 : decode cX2_clearPieces 14 = .ok (.return_, 1) := by decide +kernel
theorem dX2_becomeLike_0 : decode cX2_becomeLike 0 = .ok (.aload_n 1, 1) := by decide +kernel
theorem dX2_becomeLike_1 : decode cX2_becomeLike 1 = .ok (.getfield 9, 3) := by decide +kernel
theorem dX2_becomeLike_4 : decode cX2_becomeLike 4 = .ok (.iconst 0, 1) := by decide +kernel
theorem dX2_becomeLike_5 : decode cX2_becomeLike 5 = .ok (.aload_n 0, 1) := by decide +kernel
theorem dX2_becomeLike_6 : decode cX2_becomeLike 6 = .ok (.getfield 9, 3) := by decide +kernel
theorem dX2_becomeLike_9 : decode cX2_becomeLike 9 = .ok (.iconst 0, 1) := by decide +kernel
theorem dX2_becomeLike_10 : decode cX2_becomeLike 10 = .ok (.bipush 12, 2) := by decide +kernel
theorem dX2_becomeLike_12 : decode cX2_becomeLike 12 = .ok (.invokestatic 88, 3) := by decide +kernel
theorem dX2_becomeLike_15 : decode cX2_becomeLike 15 = .ok (.aload_n 1, 1) := by decide +kernel
theorem dX2_becomeLike_16 : decode cX2_becomeLike 16 = .ok (.getfield 15, 3) := by decide +kernel
theorem dX2_becomeLike_19 : decode cX2_becomeLike 19 = .ok (.iconst 0, 1) := by decide +kernel
theorem dX2_becomeLike_20 : decode cX2_becomeLike 20 = .ok (.aload_n 0, 1) := by decide +kernel
theorem dX2_becomeLike_21 : decode cX2_becomeLike 21 = .ok (.getfield 15, 3) := by decide +kernel
theorem dX2_becomeLike_24 : decode cX2_becomeLike 24 = .ok (.iconst 0, 1) := by decide +kernel
theorem dX2_becomeLike_25 : decode cX2_becomeLike 25 = .ok (.bipush 12, 2) := by decide +kernel
theorem dX2_becomeLike_27 : decode cX2_becomeLike 27 = .ok (.invokestatic 88, 3) := by decide +kernel
theorem dX2_becomeLike_30 : decode cX2_becomeLike 30 = .ok (.aload_n 1, 1) := by decide +kernel
theorem dX2_becomeLike_31 : decode cX2_becomeLike 31 = .ok (.getfield 18, 3) := by decide +kernel
theorem dX2_becomeLike_34 : decode cX2_becomeLike 34 = .ok (.iconst 0, 1) := by decide +kernel
theorem dX2_becomeLike_35 : decode cX2_becomeLike 35 = .ok (.aload_n 0, 1) := by decide +kernel
theorem dX2_becomeLike_36 : decode cX2_becomeLike 36 = .ok (.getfield 18, 3) := by decide +kernel
theorem dX2_becomeLike_39 : decode cX2_becomeLike 39 = .ok (.iconst 0, 1) := by decide +kernel
theorem dX2_becomeLike_40 : decode cX2_becomeLike 40 = .ok (.bipush 12, 2) := by decide +kernel
theorem dX2_becomeLike_42 : decode cX2_becomeLike 42 = .ok (.invokestatic 88, 3) := by decide +kernel
theorem dX2_becomeLike_45 : decode cX2_becomeLike 45 = .ok (.aload_n 1, 1) := by decide +kernel
theorem dX2_becomeLike_46 : decode cX2_becomeLike 46 = .ok (.getfield 21, 3) := by decide +kernel
theorem dX2_becomeLike_49 : decode cX2_becomeLike 49 = .ok (.iconst 0, 1) := by decide +kernel
theorem dX2_becomeLike_50 : decode cX2_becomeLike 50 = .ok (.aload_n 0, 1) := by decide +kernel
theorem dX2_becomeLike_51 : decode cX2_becomeLike 51 = .ok (.getfield 21, 3) := by decide +kernel
theorem dX2_becomeLike_54 : decode cX2_becomeLike 54 = .ok (.iconst 0, 1) := by decide +kernel
theorem dX2_becomeLike_55 : decode cX2_becomeLike 55 = .ok (.bipush 12, 2) := by decide +kernel
theorem dX2_becomeLike_57 : decode cX2_becomeLike 57 = .ok (.invokestatic 88, 3) := by decide +kernel
theorem dX2_becomeLike_60 : decode cX2_becomeLike 60 = .ok (.aload_n 1, 1) := by decide +kernel
theorem dX2_becomeLike_61 : decode cX2_becomeLike 61 = .ok (.getfield 24, 3) := by decide +kernel
theorem dX2_becomeLike_64 : decode cX2_becomeLike 64 = .ok (.iconst 0, 1) := by decide +kernel
theorem dX2_becomeLike_65 : decode cX2_becomeLike 65 = .ok (.aload_n 0, 1) := by decide +kernel
theorem dX2_becomeLike_66 : decode cX2_becomeLike 66 = .ok (.getfield 24, 3) := by decide +kernel
theorem dX2_becomeLike_69 : decode cX2_becomeLike 69 = .ok (.iconst 0, 1) := by decide +kernel
theorem dX2_becomeLike_70 : decode cX2_becomeLike 70 = .ok (.bipush 12, 2) := by decide +kernel
theorem dX2_becomeLike_72 : decode cX2_becomeLike 72 = .ok (.invokestatic 88, 3) := by decide +kernel
theorem dX2_becomeLike_75 : decode cX2_becomeLike 75 = .ok (.aload_n 1, 1) := by decide +kernel
theorem dX2_becomeLike_76 : decode cX2_becomeLike 76 = .ok (.getfield 27, 3) := by decide +kernel
theorem dX2_becomeLike_79 : decode cX2_becomeLike 79 = .ok (.iconst 0, 1) := by decide +kernel
theorem dX2_becomeLike_80 : decode cX2_becomeLike 80 = .ok (.aload_n 0, 1) := by decide +kernel
theorem dX2_becomeLike_81 : decode cX2_becomeLike 81 = .ok (.getfield 27, 3) := by decide +kernel
theorem dX2_becomeLike_84 : decode cX2_becomeLike 84 = .ok (.iconst 0, 1) := by decide +kernel
theorem dX2_becomeLike_85 : decode cX2_becomeLike 85 = .ok (.bipush 6, 2) := by decide +kernel
theorem dX2_becomeLike_87 : decode cX2_becomeLike 87 = .ok (.invokestatic 88, 3) := by decide +kernel
theorem dX2_becomeLike_90 : decode cX2_becomeLike 90 = .ok (.aload_n 1, 1) := by decide +kernel
theorem dX2_becomeLike_91 : decode cX2_becomeLike 91 = .ok (.getfield 30, 3) := by decide +kernel
theorem dX2_becomeLike_94 : decode cX2_becomeLike 94 = .ok (.iconst 0, 1) := by decide +kernel
theorem dX2_becomeLike_95 : decode cX2_becomeLike 95 = .ok (.aload_n 0, 1) := by decide +kernel
theorem dX2_becomeLike_96 : decode cX2_becomeLike 96 = .ok (.getfield 30, 3) := by decide +kernel
theorem dX2_becomeLike_99 : decode cX2_becomeLike 99 = .ok (.iconst 0, 1) := by decide +kernel
theorem dX2_becomeLike_100 : decode cX2_becomeLike 100 = .ok (.bipush 6, 2) := by decide +kernel
theorem dX2_becomeLike_102 : decode cX2_becomeLike 102 = .ok (.invokestatic 88, 3) := by decide +kernel
theorem dX2_becomeLike_105 : decode cX2_becomeLike 105 = .ok (.aload_n 0, 1) := by decide +kernel
theorem dX2_becomeLike_106 : decode cX2_becomeLike 106 = .ok (.aload_n 1, 1) := by decide +kernel
theorem dX2_becomeLike_107 : decode cX2_becomeLike 107 = .ok (.getfield 39, 3) := by decide +kernel
theorem dX2_becomeLike_110 : decode cX2_becomeLike 110 = .ok (.putfield 39, 3) := by decide +kernel
theorem dX2_becomeLike_113 : decode cX2_becomeLike 113 = .ok (.aload_n 0, 1) := by decide +kernel
theorem dX2_becomeLike_114 : decode cX2_becomeLike 114 = .ok (.aload_n 1, 1) := by decide +kernel
theorem dX2_becomeLike_115 : decode cX2_becomeLike 115 = .ok (.getfield 43, 3) := by decide +kernel
theorem dX2_becomeLike_118 : decode cX2_becomeLike 118 = .ok (.putfield 43, 3) := by decide +kernel
theorem dX2_becomeLike_121 : decode cX2_becomeLike 121 = .ok (.return_, 1) := by decide +kernel
theorem dX2_put_0 : decode cX2_put 0 = .ok (.aload_n 0, 1) := by decide +kernel
theorem dX2_put_1 : decode cX2_put 1 = .ok (.iload_n 1, 1) := by decide +kernel
theorem dX2_put_2 : decode cX2_put 2 = .ok (.invokevirtual 46, 3) := by decide +kernel
theorem dX2_put_5 : decode cX2_put 5 = .ok (.ifCond .eq 36, 3) := by decide +kernel
theorem dX2_put_8 : decode cX2_put 8 = .ok (.iload_n 2, 1) := by decide +kernel
theorem dX2_put_9 : decode cX2_put 9 = .ok (.invokestatic 57, 3) := by decide +kernel
theorem dX2_put_12 : decode cX2_put 12 = .ok (.ifCond .eq 29, 3) := by decide +kernel
theorem dX2_put_15 : decode cX2_put 15 = .ok (.aload_n 0, 1) := by decide +kernel
theorem dX2_put_16 : decode cX2_put 16 = .ok (.getfield 24, 3) := by decide +kernel
theorem dX2_put_19 : decode cX2_put 19 = .ok (.iload_n 1, 1) := by decide +kernel
theorem dX2_put_20 : decode cX2_put 20 = .ok (.aload_n 0, 1) := by decide +kernel
theorem dX2_put_21 : decode cX2_put 21 = .ok (.getfield 27, 3) := by decide +kernel
theorem dX2_put_24 : decode cX2_put 24 = .ok (.iload_n 2, 1) := by decide +kernel
theorem dX2_put_25 : decode cX2_put 25 = .ok (.iaload, 1) := by decide +kernel
theorem dX2_put_26 : decode cX2_put 26 = .ok (.iastore, 1) := by decide +kernel
theorem dX2_put_27 : decode cX2_put 27 = .ok (.aload_n 0, 1) := by decide +kernel
theorem dX2_put_28 : decode cX2_put 28 = .ok (.getfield 27, 3) := by decide +kernel
theorem dX2_put_31 : decode cX2_put 31 = .ok (.iload_n 2, 1) := by decide +kernel
theorem dX2_put_32 : decode cX2_put 32 = .ok (.iload_n 1, 1) := by decide +kernel
theorem dX2_put_33 : decode cX2_put 33 = .ok (.iastore, 1) := by decide +kernel
theorem dX2_put_34 : decode cX2_put 34 = .ok (.aload_n 0, 1) := by decide +kernel
theorem dX2_put_35 : decode cX2_put 35 = .ok (.getfield 21, 3) := by decide +kernel
theorem dX2_put_38 : decode cX2_put 38 = .ok (.iload_n 1, 1) := by decide +kernel
theorem dX2_put_39 : decode cX2_put 39 = .ok (.iload_n 2, 1) := by decide +kernel
theorem dX2_put_40 : decode cX2_put 40 = .ok (.iastore, 1) := by decide +kernel
theorem dX2_put_41 : decode cX2_put 41 = .ok (.return_, 1) := by decide +kernel
theorem dX2_take_0 : decode cX2_take 0 = .ok (.aload_n 0, 1) := by decide +kernel
theorem dX2_take_1 : decode cX2_take 1 = .ok (.iload_n 1, 1) := by decide +kernel
theorem dX2_take_2 : decode cX2_take 2 = .ok (.invokevirtual 54, 3) := by decide +kernel
theorem dX2_take_5 : decode cX2_take 5 = .ok (.istore_n 2, 1) := by decide +kernel
theorem dX2_take_6 : decode cX2_take 6 = .ok (.iload_n 1, 1) := by decide +kernel
theorem dX2_take_7 : decode cX2_take 7 = .ok (.invokestatic 57, 3) := by decide +kernel
theorem dX2_take_10 : decode cX2_take 10 = .ok (.ifCond .eq 39, 3) := by decide +kernel
theorem dX2_take_13 : decode cX2_take 13 = .ok (.aload_n 0, 1) := by decide +kernel
theorem dX2_take_14 : decode cX2_take 14 = .ok (.iload_n 2, 1) := by decide +kernel
theorem dX2_take_15 : decode cX2_take 15 = .ok (.invokevirtual 46, 3) := by decide +kernel
theorem dX2_take_18 : decode cX2_take 18 = .ok (.ifCond .eq 31, 3) := by decide +kernel
theorem dX2_take_21 : decode cX2_take 21 = .ok (.aload_n 0, 1) := by decide +kernel
theorem dX2_take_22 : decode cX2_take 22 = .ok (.getfield 27, 3) := by decide +kernel
theorem dX2_take_25 : decode cX2_take 25 = .ok (.iload_n 1, 1) := by decide +kernel
theorem dX2_take_26 : decode cX2_take 26 = .ok (.aload_n 0, 1) := by decide +kernel
theorem dX2_take_27 : decode cX2_take 27 = .ok (.getfield 24, 3) := by decide +kernel
theorem dX2_take_30 : decode cX2_take 30 = .ok (.iload_n 2, 1) := by decide +kernel
theorem dX2_take_31 : decode cX2_take 31 = .ok (.iaload, 1) := by decide +kernel
theorem dX2_take_32 : decode cX2_take 32 = .ok (.iastore, 1) := by decide +kernel
theorem dX2_take_33 : decode cX2_take 33 = .ok (.aload_n 0, 1) := by decide +kernel
theorem dX2_take_34 : decode cX2_take 34 = .ok (.getfield 24, 3) := by decide +kernel
theorem dX2_take_37 : decode cX2_take 37 = .ok (.iload_n 2, 1) := by decide +kernel
theorem dX2_take_38 : decode cX2_take 38 = .ok (.bipush 12, 2) := by decide +kernel
theorem dX2_take_40 : decode cX2_take 40 = .ok (.iastore, 1) := by decide +kernel
theorem dX2_take_41 : decode cX2_take 41 = .ok (.aload_n 0, 1) := by decide +kernel
theorem dX2_take_42 : decode cX2_take 42 = .ok (.getfield 21, 3) := by decide +kernel
theorem dX2_take_45 : decode cX2_take 45 = .ok (.iload_n 2, 1) := by decide +kernel
theorem dX2_take_46 : decode cX2_take 46 = .ok (.bipush 6, 2) := by decide +kernel
theorem dX2_take_48 : decode cX2_take 48 = .ok (.iastore, 1) := by decide +kernel
theorem dX2_take_49 : decode cX2_take 49 = .ok (.iload_n 2, 1) := by decide +kernel
theorem dX2_take_50 : decode cX2_take 50 = .ok (.ireturn, 1) := by decide +kernel
theorem dX2_turnOver_0 : decode cX2_turnOver 0 = .ok (.iconst 0, 1) := by decide +kernel
theorem dX2_turnOver_1 : decode cX2_turnOver 1 = .ok (.istore_n 1, 1) := by decide +kernel
theorem dX2_turnOver_2 : decode cX2_turnOver 2 = .ok (.iload_n 1, 1) := by decide +kernel
theorem dX2_turnOver_3 : decode cX2_turnOver 3 = .ok (.iconst 3, 1) := by decide +kernel
theorem dX2_turnOver_4 : decode cX2_turnOver 4 = .ok (.if_icmp .ge 37, 3) := by decide +kernel
theorem dX2_turnOver_7 : decode cX2_turnOver 7 = .ok (.iconst 5, 1) := by decide +kernel
theorem dX2_turnOver_8 : decode cX2_turnOver 8 = .ok (.iload_n 1, 1) := by decide +kernel
theorem dX2_turnOver_9 : decode cX2_turnOver 9 = .ok (.isub, 1) := by decide +kernel
theorem dX2_turnOver_10 : decode cX2_turnOver 10 = .ok (.istore_n 2, 1) := by decide +kernel
theorem dX2_turnOver_11 : decode cX2_turnOver 11 = .ok (.aload_n 0, 1) := by decide +kernel
theorem dX2_turnOver_12 : decode cX2_turnOver 12 = .ok (.iload_n 1, 1) := by decide +kernel
theorem dX2_turnOver_13 : decode cX2_turnOver 13 = .ok (.invokevirtual 94, 3) := by decide +kernel
theorem dX2_turnOver_16 : decode cX2_turnOver 16 = .ok (.istore_n 3, 1) := by decide +kernel
theorem dX2_turnOver_17 : decode cX2_turnOver 17 = .ok (.aload_n 0, 1) := by decide +kernel
theorem dX2_turnOver_18 : decode cX2_turnOver 18 = .ok (.getfield 27, 3) := by decide +kernel
theorem dX2_turnOver_21 : decode cX2_turnOver 21 = .ok (.iload_n 1, 1) := by decide +kernel
theorem dX2_turnOver_22 : decode cX2_turnOver 22 = .ok (.aload_n 0, 1) := by decide +kernel
theorem dX2_turnOver_23 : decode cX2_turnOver 23 = .ok (.iload_n 2, 1) := by decide +kernel
theorem dX2_turnOver_24 : decode cX2_turnOver 24 = .ok (.invokevirtual 94, 3) := by decide +kernel
theorem dX2_turnOver_27 : decode cX2_turnOver 27 = .ok (.iastore, 1) := by decide +kernel
theorem dX2_turnOver_28 : decode cX2_turnOver 28 = .ok (.aload_n 0, 1) := by decide +kernel
theorem dX2_turnOver_29 : decode cX2_turnOver 29 = .ok (.getfield 27, 3) := by decide +kernel
theorem dX2_turnOver_32 : decode cX2_turnOver 32 = .ok (.iload_n 2, 1) := by decide +kernel
theorem dX2_turnOver_33 : decode cX2_turnOver 33 = .ok (.iload_n 3, 1) := by decide +kernel
theorem dX2_turnOver_34 : decode cX2_turnOver 34 = .ok (.iastore, 1) := by decide +kernel
theorem dX2_turnOver_35 : decode cX2_turnOver 35 = .ok (.iinc 1 1, 3) := by decide +kernel
theorem dX2_turnOver_38 : decode cX2_turnOver 38 = .ok (.goto (-36), 3) := by decide +kernel
theorem dX2_turnOver_41 : decode cX2_turnOver 41 = .ok (.iconst 0, 1) := by decide +kernel
theorem dX2_turnOver_42 : decode cX2_turnOver 42 = .ok (.istore_n 1, 1) := by decide +kernel
theorem dX2_turnOver_43 : decode cX2_turnOver 43 = .ok (.iload_n 1, 1) := by decide +kernel
theorem dX2_turnOver_44 : decode cX2_turnOver 44 = .ok (.aload_n 0, 1) := by decide +kernel
theorem dX2_turnOver_45 : decode cX2_turnOver 45 = .ok (.getfield 39, 3) := by decide +kernel
theorem dX2_turnOver_48 : decode cX2_turnOver 48 = .ok (.if_icmp .ge 41, 3) := by decide +kernel
theorem dX2_turnOver_51 : decode cX2_turnOver 51 = .ok (.iload_n 1, 1) := by decide +kernel
theorem dX2_turnOver_52 : decode cX2_turnOver 52 = .ok (.bipush 12, 2) := by decide +kernel
theorem dX2_turnOver_54 : decode cX2_turnOver 54 = .ok (.if_icmp .ge 35, 3) := by decide +kernel
theorem dX2_turnOver_57 : decode cX2_turnOver 57 = .ok (.aload_n 0, 1) := by decide +kernel
theorem dX2_turnOver_58 : decode cX2_turnOver 58 = .ok (.getfield 21, 3) := by decide +kernel
theorem dX2_turnOver_61 : decode cX2_turnOver 61 = .ok (.iload_n 1, 1) := by decide +kernel
theorem dX2_turnOver_62 : decode cX2_turnOver 62 = .ok (.iaload, 1) := by decide +kernel
theorem dX2_turnOver_63 : decode cX2_turnOver 63 = .ok (.invokestatic 57, 3) := by decide +kernel
theorem dX2_turnOver_66 : decode cX2_turnOver 66 = .ok (.ifCond .eq 17, 3) := by decide +kernel
theorem dX2_turnOver_69 : decode cX2_turnOver 69 = .ok (.aload_n 0, 1) := by decide +kernel
theorem dX2_turnOver_70 : decode cX2_turnOver 70 = .ok (.getfield 21, 3) := by decide +kernel
theorem dX2_turnOver_73 : decode cX2_turnOver 73 = .ok (.iload_n 1, 1) := by decide +kernel
theorem dX2_turnOver_74 : decode cX2_turnOver 74 = .ok (.iconst 5, 1) := by decide +kernel
theorem dX2_turnOver_75 : decode cX2_turnOver 75 = .ok (.aload_n 0, 1) := by decide +kernel
theorem dX2_turnOver_76 : decode cX2_turnOver 76 = .ok (.getfield 21, 3) := by decide +kernel
theorem dX2_turnOver_79 : decode cX2_turnOver 79 = .ok (.iload_n 1, 1) := by decide +kernel
theorem dX2_turnOver_80 : decode cX2_turnOver 80 = .ok (.iaload, 1) := by decide +kernel
theorem dX2_turnOver_81 : decode cX2_turnOver 81 = .ok (.isub, 1) := by decide +kernel
theorem dX2_turnOver_82 : decode cX2_turnOver 82 = .ok (.iastore, 1) := by decide +kernel
theorem dX2_turnOver_83 : decode cX2_turnOver 83 = .ok (.iinc 1 1, 3) := by decide +kernel
theorem dX2_turnOver_86 : decode cX2_turnOver 86 = .ok (.goto (-43), 3) := by decide +kernel
theorem dX2_turnOver_89 : decode cX2_turnOver 89 = .ok (.return_, 1) := by decide +kernel
theorem dX2_turned_0 : decode cX2_turned 0 = .ok (.bipush 12, 2) := by decide +kernel
theorem dX2_turned_2 : decode cX2_turned 2 = .ok (.istore_n 2, 1) := by decide +kernel
theorem dX2_turned_3 : decode cX2_turned 3 = .ok (.aload_n 0, 1) := by decide +kernel
theorem dX2_turned_4 : decode cX2_turned 4 = .ok (.iload_n 1, 1) := by decide +kernel
theorem dX2_turned_5 : decode cX2_turned 5 = .ok (.invokevirtual 54, 3) := by decide +kernel
theorem dX2_turned_8 : decode cX2_turned 8 = .ok (.istore_n 3, 1) := by decide +kernel
theorem dX2_turned_9 : decode cX2_turned 9 = .ok (.iconst 0, 1) := by decide +kernel
theorem dX2_turned_10 : decode cX2_turned 10 = .ok (.istore 4, 2) := by decide +kernel
theorem dX2_turned_12 : decode cX2_turned 12 = .ok (.iload 4, 2) := by decide +kernel
theorem dX2_turned_14 : decode cX2_turned 14 = .ok (.bipush 12, 2) := by decide +kernel
theorem dX2_turned_16 : decode cX2_turned 16 = .ok (.if_icmp .ge 37, 3) := by decide +kernel
theorem dX2_turned_19 : decode cX2_turned 19 = .ok (.aload_n 0, 1) := by decide +kernel
theorem dX2_turned_20 : decode cX2_turned 20 = .ok (.iload_n 3, 1) := by decide +kernel
theorem dX2_turned_21 : decode cX2_turned 21 = .ok (.invokevirtual 46, 3) := by decide +kernel
theorem dX2_turned_24 : decode cX2_turned 24 = .ok (.ifCond .eq 29, 3) := by decide +kernel
theorem dX2_turned_27 : decode cX2_turned 27 = .ok (.aload_n 0, 1) := by decide +kernel
theorem dX2_turned_28 : decode cX2_turned 28 = .ok (.getfield 24, 3) := by decide +kernel
theorem dX2_turned_31 : decode cX2_turned 31 = .ok (.iload_n 3, 1) := by decide +kernel
theorem dX2_turned_32 : decode cX2_turned 32 = .ok (.iaload, 1) := by decide +kernel
theorem dX2_turned_33 : decode cX2_turned 33 = .ok (.istore 5, 2) := by decide +kernel
theorem dX2_turned_35 : decode cX2_turned 35 = .ok (.aload_n 0, 1) := by decide +kernel
theorem dX2_turned_36 : decode cX2_turned 36 = .ok (.getfield 24, 3) := by decide +kernel
theorem dX2_turned_39 : decode cX2_turned 39 = .ok (.iload_n 3, 1) := by decide +kernel
theorem dX2_turned_40 : decode cX2_turned 40 = .ok (.iload_n 2, 1) := by decide +kernel
theorem dX2_turned_41 : decode cX2_turned 41 = .ok (.iastore, 1) := by decide +kernel
theorem dX2_turned_42 : decode cX2_turned 42 = .ok (.iload_n 3, 1) := by decide +kernel
theorem dX2_turned_43 : decode cX2_turned 43 = .ok (.istore_n 2, 1) := by decide +kernel
theorem dX2_turned_44 : decode cX2_turned 44 = .ok (.iload 5, 2) := by decide +kernel
theorem dX2_turned_46 : decode cX2_turned 46 = .ok (.istore_n 3, 1) := by decide +kernel
theorem dX2_turned_47 : decode cX2_turned 47 = .ok (.iinc 4 1, 3) := by decide +kernel
theorem dX2_turned_50 : decode cX2_turned 50 = .ok (.goto (-38), 3) := by decide +kernel
theorem dX2_turned_53 : decode cX2_turned 53 = .ok (.iload_n 2, 1) := by decide +kernel
theorem dX2_turned_54 : decode cX2_turned 54 = .ok (.ireturn, 1) := by decide +kernel
theorem dX2_tryAct_0 : decode cX2_tryAct 0 = .ok (.aload_n 0, 1) := by decide +kernel
theorem dX2_tryAct_1 : decode cX2_tryAct 1 = .ok (.iload_n 1, 1) := by decide +kernel
theorem dX2_tryAct_2 : decode cX2_tryAct 2 = .ok (.invokevirtual 97, 3) := by decide +kernel
theorem dX2_tryAct_5 : decode cX2_tryAct 5 = .ok (.ifCond .ne 6, 3) := by decide +kernel
theorem dX2_tryAct_8 : decode cX2_tryAct 8 = .ok (.bipush (-2), 2) := by decide +kernel
theorem dX2_tryAct_10 : decode cX2_tryAct 10 = .ok (.ireturn, 1) := by decide +kernel
theorem dX2_tryAct_11 : decode cX2_tryAct 11 = .ok (.aload_n 0, 1) := by decide +kernel
theorem dX2_tryAct_12 : decode cX2_tryAct 12 = .ok (.iload_n 1, 1) := by decide +kernel
theorem dX2_tryAct_13 : decode cX2_tryAct 13 = .ok (.invokevirtual 100, 3) := by decide +kernel
theorem dX2_tryAct_16 : decode cX2_tryAct 16 = .ok (.ifCond .eq 20, 3) := by decide +kernel
theorem dX2_tryAct_19 : decode cX2_tryAct 19 = .ok (.aload_n 0, 1) := by decide +kernel
theorem dX2_tryAct_20 : decode cX2_tryAct 20 = .ok (.dup, 1) := by decide +kernel
theorem dX2_tryAct_21 : decode cX2_tryAct 21 = .ok (.getfield 43, 3) := by decide +kernel
theorem dX2_tryAct_24 : decode cX2_tryAct 24 = .ok (.iconst 1, 1) := by decide +kernel
theorem dX2_tryAct_25 : decode cX2_tryAct 25 = .ok (.iadd, 1) := by decide +kernel
theorem dX2_tryAct_26 : decode cX2_tryAct 26 = .ok (.putfield 43, 3) := by decide +kernel
theorem dX2_tryAct_29 : decode cX2_tryAct 29 = .ok (.aload_n 0, 1) := by decide +kernel
theorem dX2_tryAct_30 : decode cX2_tryAct 30 = .ok (.invokevirtual 103, 3) := by decide +kernel
theorem dX2_tryAct_33 : decode cX2_tryAct 33 = .ok (.bipush (-3), 2) := by decide +kernel
theorem dX2_tryAct_35 : decode cX2_tryAct 35 = .ok (.ireturn, 1) := by decide +kernel
theorem dX2_tryAct_36 : decode cX2_tryAct 36 = .ok (.aload_n 0, 1) := by decide +kernel
theorem dX2_tryAct_37 : decode cX2_tryAct 37 = .ok (.iload_n 1, 1) := by decide +kernel
theorem dX2_tryAct_38 : decode cX2_tryAct 38 = .ok (.invokevirtual 106, 3) := by decide +kernel
theorem dX2_tryAct_41 : decode cX2_tryAct 41 = .ok (.iconst 0, 1) := by decide +kernel
theorem dX2_tryAct_42 : decode cX2_tryAct 42 = .ok (.ireturn, 1) := by decide +kernel
theorem dX2_canBe_0 : decode cX2_canBe 0 = .ok (.iload_n 1, 1) := by decide +kernel
theorem dX2_canBe_1 : decode cX2_canBe 1 = .ok (.invokestatic 110, 3) := by decide +kernel
theorem dX2_canBe_4 : decode cX2_canBe 4 = .ok (.istore_n 2, 1) := by decide +kernel
theorem dX2_canBe_5 : decode cX2_canBe 5 = .ok (.iload_n 2, 1) := by decide +kernel
theorem dX2_canBe_6 : decode cX2_canBe 6 = .ok (.iconst 1, 1) := by decide +kernel
theorem dX2_canBe_7 : decode cX2_canBe 7 = .ok (.if_icmp .eq 18, 3) := by decide +kernel
theorem dX2_canBe_10 : decode cX2_canBe 10 = .ok (.aload_n 0, 1) := by decide +kernel
theorem dX2_canBe_11 : decode cX2_canBe 11 = .ok (.aload_n 0, 1) := by decide +kernel
theorem dX2_canBe_12 : decode cX2_canBe 12 = .ok (.iload_n 1, 1) := by decide +kernel
theorem dX2_canBe_13 : decode cX2_canBe 13 = .ok (.invokestatic 115, 3) := by decide +kernel
theorem dX2_canBe_16 : decode cX2_canBe 16 = .ok (.invokevirtual 54, 3) := by decide +kernel
theorem dX2_canBe_19 : decode cX2_canBe 19 = .ok (.invokevirtual 46, 3) := by decide +kernel
theorem dX2_canBe_22 : decode cX2_canBe 22 = .ok (.ifCond .eq 7, 3) := by decide +kernel
theorem dX2_canBe_25 : decode cX2_canBe 25 = .ok (.iconst 1, 1) := by decide +kernel
theorem dX2_canBe_26 : decode cX2_canBe 26 = .ok (.goto 4, 3) := by decide +kernel
theorem dX2_canBe_29 : decode cX2_canBe 29 = .ok (.iconst 0, 1) := by decide +kernel
theorem dX2_canBe_30 : decode cX2_canBe 30 = .ok (.istore_n 3, 1) := by decide +kernel
theorem dX2_canBe_31 : decode cX2_canBe 31 = .ok (.iload_n 2, 1) := by decide +kernel
theorem dX2_canBe_32 : decode cX2_canBe 32 = .ok (.ifCond .eq 21, 3) := by decide +kernel
theorem dX2_canBe_35 : decode cX2_canBe 35 = .ok (.iload_n 2, 1) := by decide +kernel
theorem dX2_canBe_36 : decode cX2_canBe 36 = .ok (.iconst 3, 1) := by decide +kernel
theorem dX2_canBe_37 : decode cX2_canBe 37 = .ok (.if_icmp .eq 16, 3) := by decide +kernel
theorem dX2_canBe_40 : decode cX2_canBe 40 = .ok (.aload_n 0, 1) := by decide +kernel
theorem dX2_canBe_41 : decode cX2_canBe 41 = .ok (.iload_n 1, 1) := by decide +kernel
theorem dX2_canBe_42 : decode cX2_canBe 42 = .ok (.invokestatic 118, 3) := by decide +kernel
theorem dX2_canBe_45 : decode cX2_canBe 45 = .ok (.invokevirtual 50, 3) := by decide +kernel
theorem dX2_canBe_48 : decode cX2_canBe 48 = .ok (.bipush 6, 2) := by decide +kernel
theorem dX2_canBe_50 : decode cX2_canBe 50 = .ok (.if_icmp .ne 7, 3) := by decide +kernel
theorem dX2_canBe_53 : decode cX2_canBe 53 = .ok (.iconst 1, 1) := by decide +kernel
theorem dX2_canBe_54 : decode cX2_canBe 54 = .ok (.goto 4, 3) := by decide +kernel
theorem dX2_canBe_57 : decode cX2_canBe 57 = .ok (.iconst 0, 1) := by decide +kernel
theorem dX2_canBe_58 : decode cX2_canBe 58 = .ok (.istore 4, 2) := by decide +kernel
theorem dX2_canBe_60 : decode cX2_canBe 60 = .ok (.iload_n 3, 1) := by decide +kernel
theorem dX2_canBe_61 : decode cX2_canBe 61 = .ok (.ifCond .eq 12, 3) := by decide +kernel
theorem dX2_canBe_64 : decode cX2_canBe 64 = .ok (.iload 4, 2) := by decide +kernel
theorem dX2_canBe_66 : decode cX2_canBe 66 = .ok (.ifCond .eq 7, 3) := by decide +kernel
theorem dX2_canBe_69 : decode cX2_canBe 69 = .ok (.iconst 1, 1) := by decide +kernel
theorem dX2_canBe_70 : decode cX2_canBe 70 = .ok (.goto 4, 3) := by decide +kernel
theorem dX2_canBe_73 : decode cX2_canBe 73 = .ok (.iconst 0, 1) := by decide +kernel
theorem dX2_canBe_74 : decode cX2_canBe 74 = .ok (.ireturn, 1) := by decide +kernel
theorem dX2_isFelt_0 : decode cX2_isFelt 0 = .ok (.iload_n 1, 1) := by decide +kernel
theorem dX2_isFelt_1 : decode cX2_isFelt 1 = .ok (.invokestatic 110, 3) := by decide +kernel
theorem dX2_isFelt_4 : decode cX2_isFelt 4 = .ok (.istore_n 2, 1) := by decide +kernel
theorem dX2_isFelt_5 : decode cX2_isFelt 5 = .ok (.iload_n 2, 1) := by decide +kernel
theorem dX2_isFelt_6 : decode cX2_isFelt 6 = .ok (.iconst 1, 1) := by decide +kernel
theorem dX2_isFelt_7 : decode cX2_isFelt 7 = .ok (.if_icmp .ne 7, 3) := by decide +kernel
theorem dX2_isFelt_10 : decode cX2_isFelt 10 = .ok (.iconst 0, 1) := by decide +kernel
theorem dX2_isFelt_11 : decode cX2_isFelt 11 = .ok (.goto 15, 3) := by decide +kernel
theorem dX2_isFelt_14 : decode cX2_isFelt 14 = .ok (.aload_n 0, 1) := by decide +kernel
theorem dX2_isFelt_15 : decode cX2_isFelt 15 = .ok (.aload_n 0, 1) := by decide +kernel
theorem dX2_isFelt_16 : decode cX2_isFelt 16 = .ok (.iload_n 1, 1) := by decide +kernel
theorem dX2_isFelt_17 : decode cX2_isFelt 17 = .ok (.invokestatic 115, 3) := by decide +kernel
theorem dX2_isFelt_20 : decode cX2_isFelt 20 = .ok (.invokevirtual 54, 3) := by decide +kernel
theorem dX2_isFelt_23 : decode cX2_isFelt 23 = .ok (.invokevirtual 60, 3) := by decide +kernel
theorem dX2_isFelt_26 : decode cX2_isFelt 26 = .ok (.istore_n 3, 1) := by decide +kernel
theorem dX2_isFelt_27 : decode cX2_isFelt 27 = .ok (.iload_n 2, 1) := by decide +kernel
theorem dX2_isFelt_28 : decode cX2_isFelt 28 = .ok (.iconst 1, 1) := by decide +kernel
theorem dX2_isFelt_29 : decode cX2_isFelt 29 = .ok (.if_icmp .eq 8, 3) := by decide +kernel
theorem dX2_isFelt_32 : decode cX2_isFelt 32 = .ok (.iload_n 2, 1) := by decide +kernel
theorem dX2_isFelt_33 : decode cX2_isFelt 33 = .ok (.iconst 2, 1) := by decide +kernel
theorem dX2_isFelt_34 : decode cX2_isFelt 34 = .ok (.if_icmp .ne 14, 3) := by decide +kernel
theorem dX2_isFelt_37 : decode cX2_isFelt 37 = .ok (.aload_n 0, 1) := by decide +kernel
theorem dX2_isFelt_38 : decode cX2_isFelt 38 = .ok (.iload_n 1, 1) := by decide +kernel
theorem dX2_isFelt_39 : decode cX2_isFelt 39 = .ok (.invokestatic 118, 3) := by decide +kernel
theorem dX2_isFelt_42 : decode cX2_isFelt 42 = .ok (.invokevirtual 60, 3) := by decide +kernel
theorem dX2_isFelt_45 : decode cX2_isFelt 45 = .ok (.goto 4, 3) := by decide +kernel
theorem dX2_isFelt_48 : decode cX2_isFelt 48 = .ok (.iconst 0, 1) := by decide +kernel
theorem dX2_isFelt_49 : decode cX2_isFelt 49 = .ok (.istore 4, 2) := by decide +kernel
theorem dX2_isFelt_51 : decode cX2_isFelt 51 = .ok (.aload_n 0, 1) := by decide +kernel
theorem dX2_isFelt_52 : decode cX2_isFelt 52 = .ok (.iload_n 1, 1) := by decide +kernel
theorem dX2_isFelt_53 : decode cX2_isFelt 53 = .ok (.invokestatic 115, 3) := by decide +kernel
theorem dX2_isFelt_56 : decode cX2_isFelt 56 = .ok (.iload 4, 2) := by decide +kernel
theorem dX2_isFelt_58 : decode cX2_isFelt 58 = .ok (.iload_n 3, 1) := by decide +kernel
theorem dX2_isFelt_59 : decode cX2_isFelt 59 = .ok (.isub, 1) := by decide +kernel
theorem dX2_isFelt_60 : decode cX2_isFelt 60 = .ok (.invokevirtual 121, 3) := by decide +kernel
theorem dX2_isFelt_63 : decode cX2_isFelt 63 = .ok (.ifCond .ne 20, 3) := by decide +kernel
theorem dX2_isFelt_66 : decode cX2_isFelt 66 = .ok (.iload_n 2, 1) := by decide +kernel
theorem dX2_isFelt_67 : decode cX2_isFelt 67 = .ok (.iconst 3, 1) := by decide +kernel
theorem dX2_isFelt_68 : decode cX2_isFelt 68 = .ok (.if_icmp .ne 19, 3) := by decide +kernel
theorem dX2_isFelt_71 : decode cX2_isFelt 71 = .ok (.aload_n 0, 1) := by decide +kernel
theorem dX2_isFelt_72 : decode cX2_isFelt 72 = .ok (.iload_n 1, 1) := by decide +kernel
theorem dX2_isFelt_73 : decode cX2_isFelt 73 = .ok (.invokestatic 118, 3) := by decide +kernel
theorem dX2_isFelt_76 : decode cX2_isFelt 76 = .ok (.iload_n 3, 1) := by decide +kernel
theorem dX2_isFelt_77 : decode cX2_isFelt 77 = .ok (.invokevirtual 121, 3) := by decide +kernel
theorem dX2_isFelt_80 : decode cX2_isFelt 80 = .ok (.ifCond .eq 7, 3) := by decide +kernel
theorem dX2_isFelt_83 : decode cX2_isFelt 83 = .ok (.iconst 1, 1) := by decide +kernel
theorem dX2_isFelt_84 : decode cX2_isFelt 84 = .ok (.goto 4, 3) := by decide +kernel
theorem dX2_isFelt_87 : decode cX2_isFelt 87 = .ok (.iconst 0, 1) := by decide +kernel
theorem dX2_isFelt_88 : decode cX2_isFelt 88 = .ok (.ireturn, 1) := by decide +kernel
theorem dX2_isAboveSense_0 : decode cX2_isAboveSense 0 = .ok (.iload_n 2, 1) := by decide +kernel
theorem dX2_isAboveSense_1 : decode cX2_isAboveSense 1 = .ok (.invokestatic 124, 3) := by decide +kernel
theorem dX2_isAboveSense_4 : decode cX2_isAboveSense 4 = .ok (.aload_n 0, 1) := by decide +kernel
theorem dX2_isAboveSense_5 : decode cX2_isAboveSense 5 = .ok (.iload_n 1, 1) := by decide +kernel
theorem dX2_isAboveSense_6 : decode cX2_isAboveSense 6 = .ok (.invokevirtual 129, 3) := by decide +kernel
theorem dX2_isAboveSense_9 : decode cX2_isAboveSense 9 = .ok (.if_icmp .le 7, 3) := by decide +kernel
theorem dX2_isAboveSense_12 : decode cX2_isAboveSense 12 = .ok (.iconst 1, 1) := by decide +kernel
theorem dX2_isAboveSense_13 : decode cX2_isAboveSense 13 = .ok (.goto 4, 3) := by decide +kernel
theorem dX2_isAboveSense_16 : decode cX2_isAboveSense 16 = .ok (.iconst 0, 1) := by decide +kernel
theorem dX2_isAboveSense_17 : decode cX2_isAboveSense 17 = .ok (.ireturn, 1) := by decide +kernel
theorem dX2_doAct_0 : decode cX2_doAct 0 = .ok (.iload_n 1, 1) := by decide +kernel
theorem dX2_doAct_1 : decode cX2_doAct 1 = .ok (.invokestatic 115, 3) := by decide +kernel
theorem dX2_doAct_4 : decode cX2_doAct 4 = .ok (.istore_n 2, 1) := by decide +kernel
theorem dX2_doAct_5 : decode cX2_doAct 5 = .ok (.iload_n 1, 1) := by decide +kernel
theorem dX2_doAct_6 : decode cX2_doAct 6 = .ok (.invokestatic 118, 3) := by decide +kernel
theorem dX2_doAct_9 : decode cX2_doAct 9 = .ok (.istore_n 3, 1) := by decide +kernel
theorem dX2_doAct_10 : decode cX2_doAct 10 = .ok (.iload_n 1, 1) := by decide +kernel
theorem dX2_doAct_11 : decode cX2_doAct 11 = .ok (.invokestatic 110, 3) := by decide +kernel
theorem dX2_doAct_14 : decode cX2_doAct 14 = .ok (.tableswitch 59 0 2 #[26, 35, 44], 26) := by decide +kernel
theorem dX2_doAct_40 : decode cX2_doAct 40 = .ok (.aload_n 0, 1) := by decide +kernel
theorem dX2_doAct_41 : decode cX2_doAct 41 = .ok (.iload_n 2, 1) := by decide +kernel
theorem dX2_doAct_42 : decode cX2_doAct 42 = .ok (.invokevirtual 132, 3) := by decide +kernel
theorem dX2_doAct_45 : decode cX2_doAct 45 = .ok (.pop, 1) := by decide +kernel
theorem dX2_doAct_46 : decode cX2_doAct 46 = .ok (.goto 37, 3) := by decide +kernel
theorem dX2_doAct_49 : decode cX2_doAct 49 = .ok (.aload_n 0, 1) := by decide +kernel
theorem dX2_doAct_50 : decode cX2_doAct 50 = .ok (.iload_n 3, 1) := by decide +kernel
theorem dX2_doAct_51 : decode cX2_doAct 51 = .ok (.iload_n 2, 1) := by decide +kernel
theorem dX2_doAct_52 : decode cX2_doAct 52 = .ok (.invokevirtual 84, 3) := by decide +kernel
theorem dX2_doAct_55 : decode cX2_doAct 55 = .ok (.goto 28, 3) := by decide +kernel
theorem dX2_doAct_58 : decode cX2_doAct 58 = .ok (.aload_n 0, 1) := by decide +kernel
theorem dX2_doAct_59 : decode cX2_doAct 59 = .ok (.iload_n 2, 1) := by decide +kernel
theorem dX2_doAct_60 : decode cX2_doAct 60 = .ok (.invokevirtual 132, 3) := by decide +kernel
theorem dX2_doAct_63 : decode cX2_doAct 63 = .ok (.pop, 1) := by decide +kernel
theorem dX2_doAct_64 : decode cX2_doAct 64 = .ok (.aload_n 0, 1) := by decide +kernel
theorem dX2_doAct_65 : decode cX2_doAct 65 = .ok (.iload_n 3, 1) := by decide +kernel
theorem dX2_doAct_66 : decode cX2_doAct 66 = .ok (.iload_n 2, 1) := by decide +kernel
theorem dX2_doAct_67 : decode cX2_doAct 67 = .ok (.invokevirtual 84, 3) := by decide +kernel
theorem dX2_doAct_70 : decode cX2_doAct 70 = .ok (.goto 13, 3) := by decide +kernel
theorem dX2_doAct_73 : decode cX2_doAct 73 = .ok (.aload_n 0, 1) := by decide +kernel
theorem dX2_doAct_74 : decode cX2_doAct 74 = .ok (.aload_n 0, 1) := by decide +kernel
theorem dX2_doAct_75 : decode cX2_doAct 75 = .ok (.iload_n 2, 1) := by decide +kernel
theorem dX2_doAct_76 : decode cX2_doAct 76 = .ok (.invokevirtual 132, 3) := by decide +kernel
theorem dX2_doAct_79 : decode cX2_doAct 79 = .ok (.iload_n 3, 1) := by decide +kernel
theorem dX2_doAct_80 : decode cX2_doAct 80 = .ok (.invokevirtual 84, 3) := by decide +kernel
theorem dX2_doAct_83 : decode cX2_doAct 83 = .ok (.return_, 1) := by decide +kernel
theorem dX2_eat_0 : decode cX2_eat 0 = .ok (.bipush 12, 2) := by decide +kernel
theorem dX2_eat_2 : decode cX2_eat 2 = .ok (.istore_n 1, 1) := by decide +kernel
theorem dX2_eat_3 : decode cX2_eat 3 = .ok (.iconst 0, 1) := by decide +kernel
theorem dX2_eat_4 : decode cX2_eat 4 = .ok (.istore_n 2, 1) := by decide +kernel
theorem dX2_eat_5 : decode cX2_eat 5 = .ok (.iload_n 2, 1) := by decide +kernel
theorem dX2_eat_6 : decode cX2_eat 6 = .ok (.aload_n 0, 1) := by decide +kernel
theorem dX2_eat_7 : decode cX2_eat 7 = .ok (.getfield 39, 3) := by decide +kernel
theorem dX2_eat_10 : decode cX2_eat 10 = .ok (.if_icmp .ge 59, 3) := by decide +kernel
theorem dX2_eat_13 : decode cX2_eat 13 = .ok (.aload_n 0, 1) := by decide +kernel
theorem dX2_eat_14 : decode cX2_eat 14 = .ok (.iload_n 2, 1) := by decide +kernel
theorem dX2_eat_15 : decode cX2_eat 15 = .ok (.invokevirtual 50, 3) := by decide +kernel
theorem dX2_eat_18 : decode cX2_eat 18 = .ok (.bipush 6, 2) := by decide +kernel
theorem dX2_eat_20 : decode cX2_eat 20 = .ok (.if_icmp .ne 16, 3) := by decide +kernel
theorem dX2_eat_23 : decode cX2_eat 23 = .ok (.aload_n 0, 1) := by decide +kernel
theorem dX2_eat_24 : decode cX2_eat 24 = .ok (.iload_n 2, 1) := by decide +kernel
theorem dX2_eat_25 : decode cX2_eat 25 = .ok (.invokevirtual 135, 3) := by decide +kernel
theorem dX2_eat_28 : decode cX2_eat 28 = .ok (.iconst 3, 1) := by decide +kernel
theorem dX2_eat_29 : decode cX2_eat 29 = .ok (.if_icmp .eq 7, 3) := by decide +kernel
theorem dX2_eat_32 : decode cX2_eat 32 = .ok (.iconst 1, 1) := by decide +kernel
theorem dX2_eat_33 : decode cX2_eat 33 = .ok (.goto 4, 3) := by decide +kernel
theorem dX2_eat_36 : decode cX2_eat 36 = .ok (.iconst 0, 1) := by decide +kernel
theorem dX2_eat_37 : decode cX2_eat 37 = .ok (.istore_n 3, 1) := by decide +kernel
theorem dX2_eat_38 : decode cX2_eat 38 = .ok (.iload_n 3, 1) := by decide +kernel
theorem dX2_eat_39 : decode cX2_eat 39 = .ok (.ifCond .eq 24, 3) := by decide +kernel
theorem dX2_eat_42 : decode cX2_eat 42 = .ok (.iload_n 1, 1) := by decide +kernel
theorem dX2_eat_43 : decode cX2_eat 43 = .ok (.bipush 12, 2) := by decide +kernel
theorem dX2_eat_45 : decode cX2_eat 45 = .ok (.if_icmp .eq 16, 3) := by decide +kernel
theorem dX2_eat_48 : decode cX2_eat 48 = .ok (.aload_n 0, 1) := by decide +kernel
theorem dX2_eat_49 : decode cX2_eat 49 = .ok (.iload_n 2, 1) := by decide +kernel
theorem dX2_eat_50 : decode cX2_eat 50 = .ok (.invokevirtual 60, 3) := by decide +kernel
theorem dX2_eat_53 : decode cX2_eat 53 = .ok (.aload_n 0, 1) := by decide +kernel
theorem dX2_eat_54 : decode cX2_eat 54 = .ok (.iload_n 1, 1) := by decide +kernel
theorem dX2_eat_55 : decode cX2_eat 55 = .ok (.invokevirtual 60, 3) := by decide +kernel
theorem dX2_eat_58 : decode cX2_eat 58 = .ok (.if_icmp .ge 5, 3) := by decide +kernel
theorem dX2_eat_61 : decode cX2_eat 61 = .ok (.iload_n 2, 1) := by decide +kernel
theorem dX2_eat_62 : decode cX2_eat 62 = .ok (.istore_n 1, 1) := by decide +kernel
theorem dX2_eat_63 : decode cX2_eat 63 = .ok (.iinc 2 1, 3) := by decide +kernel
theorem dX2_eat_66 : decode cX2_eat 66 = .ok (.goto (-61), 3) := by decide +kernel
theorem dX2_eat_69 : decode cX2_eat 69 = .ok (.aload_n 0, 1) := by decide +kernel
theorem dX2_eat_70 : decode cX2_eat 70 = .ok (.iload_n 1, 1) := by decide +kernel
theorem dX2_eat_71 : decode cX2_eat 71 = .ok (.invokevirtual 46, 3) := by decide +kernel
theorem dX2_eat_74 : decode cX2_eat 74 = .ok (.ifCond .eq 11, 3) := by decide +kernel
theorem dX2_eat_77 : decode cX2_eat 77 = .ok (.aload_n 0, 1) := by decide +kernel
theorem dX2_eat_78 : decode cX2_eat 78 = .ok (.getfield 21, 3) := by decide +kernel
theorem dX2_eat_81 : decode cX2_eat 81 = .ok (.iload_n 1, 1) := by decide +kernel
theorem dX2_eat_82 : decode cX2_eat 82 = .ok (.bipush 7, 2) := by decide +kernel
theorem dX2_eat_84 : decode cX2_eat 84 = .ok (.iastore, 1) := by decide +kernel
theorem dX2_eat_85 : decode cX2_eat 85 = .ok (.return_, 1) := by decide +kernel
theorem dX3_init_0 : decode cX3_init 0 = .ok (.aload_n 0, 1) := by decide +kernel
theorem dX3_init_1 : decode cX3_init 1 = .ok (.invokespecial 3, 3) := by decide +kernel
theorem dX3_init_4 : decode cX3_init 4 = .ok (.aload_n 0, 1) := by decide +kernel
theorem dX3_init_5 : decode cX3_init 5 = .ok (.bipush 12, 2) := by decide +kernel
theorem dX3_init_7 : decode cX3_init 7 = .ok (.newarray .int, 2) := by decide +kernel
theorem dX3_init_9 : decode cX3_init 9 = .ok (.putfield 9, 3) := by decide +kernel
theorem dX3_init_12 : decode cX3_init 12 = .ok (.aload_n 0, 1) := by decide +kernel
theorem dX3_init_13 : decode cX3_init 13 = .ok (.bipush 12, 2) := by decide +kernel
theorem dX3_init_15 : decode cX3_init 15 = .ok (.newarray .int, 2) := by decide +kernel
theorem dX3_init_17 : decode cX3_init 17 = .ok (.putfield 15, 3) := by decide +kernel
theorem dX3_init_20 : decode cX3_init 20 = .ok (.aload_n 0, 1) := by decide +kernel
theorem dX3_init_21 : decode cX3_init 21 = .ok (.bipush 12, 2) := by decide +kernel
theorem dX3_init_23 : decode cX3_init 23 = .ok (.newarray .int, 2) := by decide +kernel
theorem dX3_init_25 : decode cX3_init 25 = .ok (.putfield 18, 3) := by decide +kernel
theorem dX3_init_28 : decode cX3_init 28 = .ok (.aload_n 0, 1) := by decide +kernel
theorem dX3_init_29 : decode cX3_init 29 = .ok (.bipush 12, 2) := by decide +kernel
theorem dX3_init_31 : decode cX3_init 31 = .ok (.newarray .int, 2) := by decide +kernel
theorem dX3_init_33 : decode cX3_init 33 = .ok (.putfield 21, 3) := by decide +kernel
theorem dX3_init_36 : decode cX3_init 36 = .ok (.return_, 1) := by decide +kernel
theorem dX3_read_0 : decode cX3_read 0 = .ok (.iconst 0, 1) := by decide +kernel
theorem dX3_read_1 : decode cX3_read 1 = .ok (.istore_n 2, 1) := by decide +kernel
theorem dX3_read_2 : decode cX3_read 2 = .ok (.iload_n 2, 1) := by decide +kernel
theorem dX3_read_3 : decode cX3_read 3 = .ok (.bipush 12, 2) := by decide +kernel
theorem dX3_read_5 : decode cX3_read 5 = .ok (.if_icmp .ge 36, 3) := by decide +kernel
theorem dX3_read_8 : decode cX3_read 8 = .ok (.iload_n 2, 1) := by decide +kernel
theorem dX3_read_9 : decode cX3_read 9 = .ok (.ifCond .eq 12, 3) := by decide +kernel
theorem dX3_read_12 : decode cX3_read 12 = .ok (.aload_n 1, 1) := by decide +kernel
theorem dX3_read_13 : decode cX3_read 13 = .ok (.ldc 24, 2) := by decide +kernel
theorem dX3_read_15 : decode cX3_read 15 = .ok (.invokevirtual 26, 3) := by decide +kernel
theorem dX3_read_18 : decode cX3_read 18 = .ok (.ifCond .ne 23, 3) := by decide +kernel
theorem dX3_read_21 : decode cX3_read 21 = .ok (.aload_n 0, 1) := by decide +kernel
theorem dX3_read_22 : decode cX3_read 22 = .ok (.aload_n 1, 1) := by decide +kernel
theorem dX3_read_23 : decode cX3_read 23 = .ok (.iload_n 2, 1) := by decide +kernel
theorem dX3_read_24 : decode cX3_read 24 = .ok (.invokevirtual 32, 3) := by decide +kernel
theorem dX3_read_27 : decode cX3_read 27 = .ok (.ifCond .ne 8, 3) := by decide +kernel
theorem dX3_read_30 : decode cX3_read 30 = .ok (.aload_n 1, 1) := by decide +kernel
theorem dX3_read_31 : decode cX3_read 31 = .ok (.invokevirtual 36, 3) := by decide +kernel
theorem dX3_read_34 : decode cX3_read 34 = .ok (.ireturn, 1) := by decide +kernel
theorem dX3_read_35 : decode cX3_read 35 = .ok (.iinc 2 1, 3) := by decide +kernel
theorem dX3_read_38 : decode cX3_read 38 = .ok (.goto (-36), 3) := by decide +kernel
theorem dX3_read_41 : decode cX3_read 41 = .ok (.aload_n 1, 1) := by decide +kernel
theorem dX3_read_42 : decode cX3_read 42 = .ok (.invokevirtual 40, 3) := by decide +kernel
theorem dX3_read_45 : decode cX3_read 45 = .ok (.ifCond .eq 7, 3) := by decide +kernel
theorem dX3_read_48 : decode cX3_read 48 = .ok (.iload_n 2, 1) := by decide +kernel
theorem dX3_read_49 : decode cX3_read 49 = .ok (.goto 7, 3) := by decide +kernel
theorem dX3_read_52 : decode cX3_read 52 = .ok (.aload_n 1, 1) := by decide +kernel
theorem dX3_read_53 : decode cX3_read 53 = .ok (.invokevirtual 36, 3) := by decide +kernel
theorem dX3_read_56 : decode cX3_read 56 = .ok (.ireturn, 1) := by decide +kernel
theorem dX3_readPiece_0 : decode cX3_readPiece 0 = .ok (.iload_n 2, 1) := by decide +kernel
theorem dX3_readPiece_1 : decode cX3_readPiece 1 = .ok (.ifCond .lt 9, 3) := by decide +kernel
theorem dX3_readPiece_4 : decode cX3_readPiece 4 = .ok (.iload_n 2, 1) := by decide +kernel
theorem dX3_readPiece_5 : decode cX3_readPiece 5 = .ok (.bipush 12, 2) := by decide +kernel
theorem dX3_readPiece_7 : decode cX3_readPiece 7 = .ok (.if_icmp .lt 5, 3) := by decide +kernel
theorem dX3_readPiece_10 : decode cX3_readPiece 10 = .ok (.iconst 0, 1) := by decide +kernel
theorem dX3_readPiece_11 : decode cX3_readPiece 11 = .ok (.ireturn, 1) := by decide +kernel
theorem dX3_readPiece_12 : decode cX3_readPiece 12 = .ok (.aload_n 0, 1) := by decide +kernel
theorem dX3_readPiece_13 : decode cX3_readPiece 13 = .ok (.getfield 9, 3) := by decide +kernel
theorem dX3_readPiece_16 : decode cX3_readPiece 16 = .ok (.iload_n 2, 1) := by decide +kernel
theorem dX3_readPiece_17 : decode cX3_readPiece 17 = .ok (.aload_n 1, 1) := by decide +kernel
theorem dX3_readPiece_18 : decode cX3_readPiece 18 = .ok (.ldc 44, 2) := by decide +kernel
theorem dX3_readPiece_20 : decode cX3_readPiece 20 = .ok (.invokevirtual 26, 3) := by decide +kernel
theorem dX3_readPiece_23 : decode cX3_readPiece 23 = .ok (.iastore, 1) := by decide +kernel
theorem dX3_readPiece_24 : decode cX3_readPiece 24 = .ok (.aload_n 0, 1) := by decide +kernel
theorem dX3_readPiece_25 : decode cX3_readPiece 25 = .ok (.getfield 15, 3) := by decide +kernel
theorem dX3_readPiece_28 : decode cX3_readPiece 28 = .ok (.iload_n 2, 1) := by decide +kernel
theorem dX3_readPiece_29 : decode cX3_readPiece 29 = .ok (.aload_n 0, 1) := by decide +kernel
theorem dX3_readPiece_30 : decode cX3_readPiece 30 = .ok (.getfield 9, 3) := by decide +kernel
theorem dX3_readPiece_33 : decode cX3_readPiece 33 = .ok (.iload_n 2, 1) := by decide +kernel
theorem dX3_readPiece_34 : decode cX3_readPiece 34 = .ok (.iaload, 1) := by decide +kernel
theorem dX3_readPiece_35 : decode cX3_readPiece 35 = .ok (.ifCond .ge 7, 3) := by decide +kernel
theorem dX3_readPiece_38 : decode cX3_readPiece 38 = .ok (.iconst (-1), 1) := by decide +kernel
theorem dX3_readPiece_39 : decode cX3_readPiece 39 = .ok (.goto 7, 3) := by decide +kernel
theorem dX3_readPiece_42 : decode cX3_readPiece 42 = .ok (.aload_n 1, 1) := by decide +kernel
theorem dX3_readPiece_43 : decode cX3_readPiece 43 = .ok (.invokevirtual 46, 3) := by decide +kernel
theorem dX3_readPiece_46 : decode cX3_readPiece 46 = .ok (.iastore, 1) := by decide +kernel
theorem dX3_readPiece_47 : decode cX3_readPiece 47 = .ok (.aload_n 0, 1) := by decide +kernel
theorem dX3_readPiece_48 : decode cX3_readPiece 48 = .ok (.getfield 15, 3) := by decide +kernel
theorem dX3_readPiece_51 : decode cX3_readPiece 51 = .ok (.iload_n 2, 1) := by decide +kernel
theorem dX3_readPiece_52 : decode cX3_readPiece 52 = .ok (.iaload, 1) := by decide +kernel
theorem dX3_readPiece_53 : decode cX3_readPiece 53 = .ok (.ifCond .ge 5, 3) := by decide +kernel
theorem dX3_readPiece_56 : decode cX3_readPiece 56 = .ok (.iconst 0, 1) := by decide +kernel
theorem dX3_readPiece_57 : decode cX3_readPiece 57 = .ok (.ireturn, 1) := by decide +kernel
theorem dX3_readPiece_58 : decode cX3_readPiece 58 = .ok (.aload_n 0, 1) := by decide +kernel
theorem dX3_readPiece_59 : decode cX3_readPiece 59 = .ok (.getfield 18, 3) := by decide +kernel
theorem dX3_readPiece_62 : decode cX3_readPiece 62 = .ok (.iload_n 2, 1) := by decide +kernel
theorem dX3_readPiece_63 : decode cX3_readPiece 63 = .ok (.iconst 0, 1) := by decide +kernel
theorem dX3_readPiece_64 : decode cX3_readPiece 64 = .ok (.iastore, 1) := by decide +kernel
theorem dX3_readPiece_65 : decode cX3_readPiece 65 = .ok (.aload_n 1, 1) := by decide +kernel
theorem dX3_readPiece_66 : decode cX3_readPiece 66 = .ok (.ldc 49, 2) := by decide +kernel
theorem dX3_readPiece_68 : decode cX3_readPiece 68 = .ok (.invokevirtual 26, 3) := by decide +kernel
theorem dX3_readPiece_71 : decode cX3_readPiece 71 = .ok (.ifCond .ne 15, 3) := by decide +kernel
theorem dX3_readPiece_74 : decode cX3_readPiece 74 = .ok (.aload_n 0, 1) := by decide +kernel
theorem dX3_readPiece_75 : decode cX3_readPiece 75 = .ok (.getfield 18, 3) := by decide +kernel
theorem dX3_readPiece_78 : decode cX3_readPiece 78 = .ok (.iload_n 2, 1) := by decide +kernel
theorem dX3_readPiece_79 : decode cX3_readPiece 79 = .ok (.aload_n 1, 1) := by decide +kernel
theorem dX3_readPiece_80 : decode cX3_readPiece 80 = .ok (.ldc 51, 2) := by decide +kernel
theorem dX3_readPiece_82 : decode cX3_readPiece 82 = .ok (.invokevirtual 26, 3) := by decide +kernel
theorem dX3_readPiece_85 : decode cX3_readPiece 85 = .ok (.iastore, 1) := by decide +kernel
theorem dX3_readPiece_86 : decode cX3_readPiece 86 = .ok (.aload_n 0, 1) := by decide +kernel
theorem dX3_readPiece_87 : decode cX3_readPiece 87 = .ok (.getfield 21, 3) := by decide +kernel
theorem dX3_readPiece_90 : decode cX3_readPiece 90 = .ok (.iload_n 2, 1) := by decide +kernel
theorem dX3_readPiece_91 : decode cX3_readPiece 91 = .ok (.bipush 6, 2) := by decide +kernel
theorem dX3_readPiece_93 : decode cX3_readPiece 93 = .ok (.iastore, 1) := by decide +kernel
theorem dX3_readPiece_94 : decode cX3_readPiece 94 = .ok (.aload_n 0, 1) := by decide +kernel
theorem dX3_readPiece_95 : decode cX3_readPiece 95 = .ok (.getfield 18, 3) := by decide +kernel
theorem dX3_readPiece_98 : decode cX3_readPiece 98 = .ok (.iload_n 2, 1) := by decide +kernel
theorem dX3_readPiece_99 : decode cX3_readPiece 99 = .ok (.iaload, 1) := by decide +kernel
theorem dX3_readPiece_100 : decode cX3_readPiece 100 = .ok (.ifCond .lt 24, 3) := by decide +kernel
theorem dX3_readPiece_103 : decode cX3_readPiece 103 = .ok (.aload_n 1, 1) := by decide +kernel
theorem dX3_readPiece_104 : decode cX3_readPiece 104 = .ok (.ldc 53, 2) := by decide +kernel
theorem dX3_readPiece_106 : decode cX3_readPiece 106 = .ok (.invokevirtual 26, 3) := by decide +kernel
theorem dX3_readPiece_109 : decode cX3_readPiece 109 = .ok (.ifCond .ne 15, 3) := by decide +kernel
theorem dX3_readPiece_112 : decode cX3_readPiece 112 = .ok (.aload_n 0, 1) := by decide +kernel
theorem dX3_readPiece_113 : decode cX3_readPiece 113 = .ok (.getfield 21, 3) := by decide +kernel
theorem dX3_readPiece_116 : decode cX3_readPiece 116 = .ok (.iload_n 2, 1) := by decide +kernel
theorem dX3_readPiece_117 : decode cX3_readPiece 117 = .ok (.aload_n 1, 1) := by decide +kernel
theorem dX3_readPiece_118 : decode cX3_readPiece 118 = .ok (.ldc 55, 2) := by decide +kernel
theorem dX3_readPiece_120 : decode cX3_readPiece 120 = .ok (.invokevirtual 26, 3) := by decide +kernel
theorem dX3_readPiece_123 : decode cX3_readPiece 123 = .ok (.iastore, 1) := by decide +kernel
theorem dX3_readPiece_124 : decode cX3_readPiece 124 = .ok (.aload_n 0, 1) := by decide +kernel
theorem dX3_readPiece_125 : decode cX3_readPiece 125 = .ok (.getfield 18, 3) := by decide +kernel
theorem dX3_readPiece_128 : decode cX3_readPiece 128 = .ok (.iload_n 2, 1) := by decide +kernel
theorem dX3_readPiece_129 : decode cX3_readPiece 129 = .ok (.iaload, 1) := by decide +kernel
theorem dX3_readPiece_130 : decode cX3_readPiece 130 = .ok (.ifCond .lt 16, 3) := by decide +kernel
theorem dX3_readPiece_133 : decode cX3_readPiece 133 = .ok (.aload_n 0, 1) := by decide +kernel
theorem dX3_readPiece_134 : decode cX3_readPiece 134 = .ok (.getfield 21, 3) := by decide +kernel
theorem dX3_readPiece_137 : decode cX3_readPiece 137 = .ok (.iload_n 2, 1) := by decide +kernel
theorem dX3_readPiece_138 : decode cX3_readPiece 138 = .ok (.iaload, 1) := by decide +kernel
theorem dX3_readPiece_139 : decode cX3_readPiece 139 = .ok (.ifCond .lt 7, 3) := by decide +kernel
theorem dX3_readPiece_142 : decode cX3_readPiece 142 = .ok (.iconst 1, 1) := by decide +kernel
theorem dX3_readPiece_143 : decode cX3_readPiece 143 = .ok (.goto 4, 3) := by decide +kernel
theorem dX3_readPiece_146 : decode cX3_readPiece 146 = .ok (.iconst 0, 1) := by decide +kernel
theorem dX3_readPiece_147 : decode cX3_readPiece 147 = .ok (.ireturn, 1) := by decide +kernel
theorem dX3_layOut_0 : decode cX3_layOut 0 = .ok (.aload_n 1, 1) := by decide +kernel
theorem dX3_layOut_1 : decode cX3_layOut 1 = .ok (.invokevirtual 57, 3) := by decide +kernel
theorem dX3_layOut_4 : decode cX3_layOut 4 = .ok (.iconst 0, 1) := by decide +kernel
theorem dX3_layOut_5 : decode cX3_layOut 5 = .ok (.istore_n 3, 1) := by decide +kernel
theorem dX3_layOut_6 : decode cX3_layOut 6 = .ok (.iload_n 3, 1) := by decide +kernel
theorem dX3_layOut_7 : decode cX3_layOut 7 = .ok (.iload_n 2, 1) := by decide +kernel
theorem dX3_layOut_8 : decode cX3_layOut 8 = .ok (.if_icmp .ge 44, 3) := by decide +kernel
theorem dX3_layOut_11 : decode cX3_layOut 11 = .ok (.iload_n 3, 1) := by decide +kernel
theorem dX3_layOut_12 : decode cX3_layOut 12 = .ok (.bipush 12, 2) := by decide +kernel
theorem dX3_layOut_14 : decode cX3_layOut 14 = .ok (.if_icmp .ge 38, 3) := by decide +kernel
theorem dX3_layOut_17 : decode cX3_layOut 17 = .ok (.aload_n 1, 1) := by decide +kernel
theorem dX3_layOut_18 : decode cX3_layOut 18 = .ok (.aload_n 0, 1) := by decide +kernel
theorem dX3_layOut_19 : decode cX3_layOut 19 = .ok (.getfield 9, 3) := by decide +kernel
theorem dX3_layOut_22 : decode cX3_layOut 22 = .ok (.iload_n 3, 1) := by decide +kernel
theorem dX3_layOut_23 : decode cX3_layOut 23 = .ok (.iaload, 1) := by decide +kernel
theorem dX3_layOut_24 : decode cX3_layOut 24 = .ok (.aload_n 0, 1) := by decide +kernel
theorem dX3_layOut_25 : decode cX3_layOut 25 = .ok (.getfield 15, 3) := by decide +kernel
theorem dX3_layOut_28 : decode cX3_layOut 28 = .ok (.iload_n 3, 1) := by decide +kernel
theorem dX3_layOut_29 : decode cX3_layOut 29 = .ok (.iaload, 1) := by decide +kernel
theorem dX3_layOut_30 : decode cX3_layOut 30 = .ok (.aload_n 0, 1) := by decide +kernel
theorem dX3_layOut_31 : decode cX3_layOut 31 = .ok (.getfield 18, 3) := by decide +kernel
theorem dX3_layOut_34 : decode cX3_layOut 34 = .ok (.iload_n 3, 1) := by decide +kernel
theorem dX3_layOut_35 : decode cX3_layOut 35 = .ok (.iaload, 1) := by decide +kernel
theorem dX3_layOut_36 : decode cX3_layOut 36 = .ok (.aload_n 0, 1) := by decide +kernel
theorem dX3_layOut_37 : decode cX3_layOut 37 = .ok (.getfield 21, 3) := by decide +kernel
theorem dX3_layOut_40 : decode cX3_layOut 40 = .ok (.iload_n 3, 1) := by decide +kernel
theorem dX3_layOut_41 : decode cX3_layOut 41 = .ok (.iaload, 1) := by decide +kernel
theorem dX3_layOut_42 : decode cX3_layOut 42 = .ok (.invokevirtual 62, 3) := by decide +kernel
theorem dX3_layOut_45 : decode cX3_layOut 45 = .ok (.pop, 1) := by decide +kernel
theorem dX3_layOut_46 : decode cX3_layOut 46 = .ok (.iinc 3 1, 3) := by decide +kernel
theorem dX3_layOut_49 : decode cX3_layOut 49 = .ok (.goto (-43), 3) := by decide +kernel
theorem dX3_layOut_52 : decode cX3_layOut 52 = .ok (.return_, 1) := by decide +kernel
theorem dX4_init_0 : decode cX4_init 0 = .ok (.aload_n 0, 1) := by decide +kernel
theorem dX4_init_1 : decode cX4_init 1 = .ok (.invokespecial 3, 3) := by decide +kernel
theorem dX4_init_4 : decode cX4_init 4 = .ok (.aload_n 0, 1) := by decide +kernel
theorem dX4_init_5 : decode cX4_init 5 = .ok (.bipush 60, 2) := by decide +kernel
theorem dX4_init_7 : decode cX4_init 7 = .ok (.newarray .int, 2) := by decide +kernel
theorem dX4_init_9 : decode cX4_init 9 = .ok (.putfield 11, 3) := by decide +kernel
theorem dX4_init_12 : decode cX4_init 12 = .ok (.return_, 1) := by decide +kernel
theorem dX4_read_0 : decode cX4_read 0 = .ok (.iconst 0, 1) := by decide +kernel
theorem dX4_read_1 : decode cX4_read 1 = .ok (.istore_n 3, 1) := by decide +kernel
theorem dX4_read_2 : decode cX4_read 2 = .ok (.iload_n 3, 1) := by decide +kernel
theorem dX4_read_3 : decode cX4_read 3 = .ok (.aload_n 0, 1) := by decide +kernel
theorem dX4_read_4 : decode cX4_read 4 = .ok (.getfield 11, 3) := by decide +kernel
theorem dX4_read_7 : decode cX4_read 7 = .ok (.arraylength, 1) := by decide +kernel
theorem dX4_read_8 : decode cX4_read 8 = .ok (.if_icmp .ge 47, 3) := by decide +kernel
theorem dX4_read_11 : decode cX4_read 11 = .ok (.iload_n 3, 1) := by decide +kernel
theorem dX4_read_12 : decode cX4_read 12 = .ok (.ifCond .eq 12, 3) := by decide +kernel
theorem dX4_read_15 : decode cX4_read 15 = .ok (.aload_n 1, 1) := by decide +kernel
theorem dX4_read_16 : decode cX4_read 16 = .ok (.ldc 17, 2) := by decide +kernel
theorem dX4_read_18 : decode cX4_read 18 = .ok (.invokevirtual 19, 3) := by decide +kernel
theorem dX4_read_21 : decode cX4_read 21 = .ok (.ifCond .ne 34, 3) := by decide +kernel
theorem dX4_read_24 : decode cX4_read 24 = .ok (.aload_n 1, 1) := by decide +kernel
theorem dX4_read_25 : decode cX4_read 25 = .ok (.iload_n 2, 1) := by decide +kernel
theorem dX4_read_26 : decode cX4_read 26 = .ok (.invokestatic 23, 3) := by decide +kernel
theorem dX4_read_29 : decode cX4_read 29 = .ok (.istore 4, 2) := by decide +kernel
theorem dX4_read_31 : decode cX4_read 31 = .ok (.iload 4, 2) := by decide +kernel
theorem dX4_read_33 : decode cX4_read 33 = .ok (.ifCond .ge 8, 3) := by decide +kernel
theorem dX4_read_36 : decode cX4_read 36 = .ok (.aload_n 1, 1) := by decide +kernel
theorem dX4_read_37 : decode cX4_read 37 = .ok (.invokevirtual 27, 3) := by decide +kernel
theorem dX4_read_40 : decode cX4_read 40 = .ok (.ireturn, 1) := by decide +kernel
theorem dX4_read_41 : decode cX4_read 41 = .ok (.aload_n 0, 1) := by decide +kernel
theorem dX4_read_42 : decode cX4_read 42 = .ok (.getfield 11, 3) := by decide +kernel
theorem dX4_read_45 : decode cX4_read 45 = .ok (.iload_n 3, 1) := by decide +kernel
theorem dX4_read_46 : decode cX4_read 46 = .ok (.iload 4, 2) := by decide +kernel
theorem dX4_read_48 : decode cX4_read 48 = .ok (.iastore, 1) := by decide +kernel
theorem dX4_read_49 : decode cX4_read 49 = .ok (.iinc 3 1, 3) := by decide +kernel
theorem dX4_read_52 : decode cX4_read 52 = .ok (.goto (-50), 3) := by decide +kernel
theorem dX4_read_55 : decode cX4_read 55 = .ok (.aload_n 1, 1) := by decide +kernel
theorem dX4_read_56 : decode cX4_read 56 = .ok (.invokevirtual 31, 3) := by decide +kernel
theorem dX4_read_59 : decode cX4_read 59 = .ok (.ifCond .eq 7, 3) := by decide +kernel
theorem dX4_read_62 : decode cX4_read 62 = .ok (.iload_n 3, 1) := by decide +kernel
theorem dX4_read_63 : decode cX4_read 63 = .ok (.goto 7, 3) := by decide +kernel
theorem dX4_read_66 : decode cX4_read 66 = .ok (.aload_n 1, 1) := by decide +kernel
theorem dX4_read_67 : decode cX4_read 67 = .ok (.invokevirtual 27, 3) := by decide +kernel
theorem dX4_read_70 : decode cX4_read 70 = .ok (.ireturn, 1) := by decide +kernel
theorem dX4_readAct_0 : decode cX4_readAct 0 = .ok (.aload_n 0, 1) := by decide +kernel
theorem dX4_readAct_1 : decode cX4_readAct 1 = .ok (.ldc 35, 2) := by decide +kernel
theorem dX4_readAct_3 : decode cX4_readAct 3 = .ok (.invokevirtual 19, 3) := by decide +kernel
theorem dX4_readAct_6 : decode cX4_readAct 6 = .ok (.istore_n 2, 1) := by decide +kernel
theorem dX4_readAct_7 : decode cX4_readAct 7 = .ok (.iload_n 2, 1) := by decide +kernel
theorem dX4_readAct_8 : decode cX4_readAct 8 = .ok (.ifCond .ge 5, 3) := by decide +kernel
theorem dX4_readAct_11 : decode cX4_readAct 11 = .ok (.iconst (-1), 1) := by decide +kernel
theorem dX4_readAct_12 : decode cX4_readAct 12 = .ok (.ireturn, 1) := by decide +kernel
theorem dX4_readAct_13 : decode cX4_readAct 13 = .ok (.iload_n 2, 1) := by decide +kernel
theorem dX4_readAct_14 : decode cX4_readAct 14 = .ok (.iconst 1, 1) := by decide +kernel
theorem dX4_readAct_15 : decode cX4_readAct 15 = .ok (.if_icmp .ne 54, 3) := by decide +kernel
theorem dX4_readAct_18 : decode cX4_readAct 18 = .ok (.aload_n 0, 1) := by decide +kernel
theorem dX4_readAct_19 : decode cX4_readAct 19 = .ok (.ldc 39, 2) := by decide +kernel
theorem dX4_readAct_21 : decode cX4_readAct 21 = .ok (.iload_n 1, 1) := by decide +kernel
theorem dX4_readAct_22 : decode cX4_readAct 22 = .ok (.iconst (-1), 1) := by decide +kernel
theorem dX4_readAct_23 : decode cX4_readAct 23 = .ok (.invokevirtual 41, 3) := by decide +kernel
theorem dX4_readAct_26 : decode cX4_readAct 26 = .ok (.istore_n 3, 1) := by decide +kernel
theorem dX4_readAct_27 : decode cX4_readAct 27 = .ok (.iload_n 3, 1) := by decide +kernel
theorem dX4_readAct_28 : decode cX4_readAct 28 = .ok (.ifCond .lt 21, 3) := by decide +kernel
theorem dX4_readAct_31 : decode cX4_readAct 31 = .ok (.aload_n 0, 1) := by decide +kernel
theorem dX4_readAct_32 : decode cX4_readAct 32 = .ok (.ldc 44, 2) := by decide +kernel
theorem dX4_readAct_34 : decode cX4_readAct 34 = .ok (.invokevirtual 19, 3) := by decide +kernel
theorem dX4_readAct_37 : decode cX4_readAct 37 = .ok (.ifCond .ne 12, 3) := by decide +kernel
theorem dX4_readAct_40 : decode cX4_readAct 40 = .ok (.aload_n 0, 1) := by decide +kernel
theorem dX4_readAct_41 : decode cX4_readAct 41 = .ok (.ldc 46, 2) := by decide +kernel
theorem dX4_readAct_43 : decode cX4_readAct 43 = .ok (.invokevirtual 19, 3) := by decide +kernel
theorem dX4_readAct_46 : decode cX4_readAct 46 = .ok (.goto 4, 3) := by decide +kernel
theorem dX4_readAct_49 : decode cX4_readAct 49 = .ok (.iconst (-1), 1) := by decide +kernel
theorem dX4_readAct_50 : decode cX4_readAct 50 = .ok (.istore 4, 2) := by decide +kernel
theorem dX4_readAct_52 : decode cX4_readAct 52 = .ok (.iload 4, 2) := by decide +kernel
theorem dX4_readAct_54 : decode cX4_readAct 54 = .ok (.ifCond .ge 7, 3) := by decide +kernel
theorem dX4_readAct_57 : decode cX4_readAct 57 = .ok (.iconst (-1), 1) := by decide +kernel
theorem dX4_readAct_58 : decode cX4_readAct 58 = .ok (.goto 10, 3) := by decide +kernel
theorem dX4_readAct_61 : decode cX4_readAct 61 = .ok (.iload_n 2, 1) := by decide +kernel
theorem dX4_readAct_62 : decode cX4_readAct 62 = .ok (.iload 4, 2) := by decide +kernel
theorem dX4_readAct_64 : decode cX4_readAct 64 = .ok (.iload_n 3, 1) := by decide +kernel
theorem dX4_readAct_65 : decode cX4_readAct 65 = .ok (.invokestatic 48, 3) := by decide +kernel
theorem dX4_readAct_68 : decode cX4_readAct 68 = .ok (.ireturn, 1) := by decide +kernel
theorem dX4_readAct_69 : decode cX4_readAct 69 = .ok (.aload_n 0, 1) := by decide +kernel
theorem dX4_readAct_70 : decode cX4_readAct 70 = .ok (.ldc 46, 2) := by decide +kernel
theorem dX4_readAct_72 : decode cX4_readAct 72 = .ok (.invokevirtual 19, 3) := by decide +kernel
theorem dX4_readAct_75 : decode cX4_readAct 75 = .ok (.istore_n 3, 1) := by decide +kernel
theorem dX4_readAct_76 : decode cX4_readAct 76 = .ok (.iload_n 3, 1) := by decide +kernel
theorem dX4_readAct_77 : decode cX4_readAct 77 = .ok (.ifCond .lt 7, 3) := by decide +kernel
theorem dX4_readAct_80 : decode cX4_readAct 80 = .ok (.iload_n 2, 1) := by decide +kernel
theorem dX4_readAct_81 : decode cX4_readAct 81 = .ok (.ifCond .ne 18, 3) := by decide +kernel
theorem dX4_readAct_84 : decode cX4_readAct 84 = .ok (.iload_n 3, 1) := by decide +kernel
theorem dX4_readAct_85 : decode cX4_readAct 85 = .ok (.ifCond .ge 7, 3) := by decide +kernel
theorem dX4_readAct_88 : decode cX4_readAct 88 = .ok (.iconst (-1), 1) := by decide +kernel
theorem dX4_readAct_89 : decode cX4_readAct 89 = .ok (.goto 9, 3) := by decide +kernel
theorem dX4_readAct_92 : decode cX4_readAct 92 = .ok (.iload_n 2, 1) := by decide +kernel
theorem dX4_readAct_93 : decode cX4_readAct 93 = .ok (.iload_n 3, 1) := by decide +kernel
theorem dX4_readAct_94 : decode cX4_readAct 94 = .ok (.iconst 0, 1) := by decide +kernel
theorem dX4_readAct_95 : decode cX4_readAct 95 = .ok (.invokestatic 48, 3) := by decide +kernel
theorem dX4_readAct_98 : decode cX4_readAct 98 = .ok (.ireturn, 1) := by decide +kernel
theorem dX4_readAct_99 : decode cX4_readAct 99 = .ok (.iconst (-1), 1) := by decide +kernel
theorem dX4_readAct_100 : decode cX4_readAct 100 = .ok (.istore 4, 2) := by decide +kernel
theorem dX4_readAct_102 : decode cX4_readAct 102 = .ok (.iload_n 2, 1) := by decide +kernel
theorem dX4_readAct_103 : decode cX4_readAct 103 = .ok (.iconst 2, 1) := by decide +kernel
theorem dX4_readAct_104 : decode cX4_readAct 104 = .ok (.if_icmp .ne 29, 3) := by decide +kernel
theorem dX4_readAct_107 : decode cX4_readAct 107 = .ok (.aload_n 0, 1) := by decide +kernel
theorem dX4_readAct_108 : decode cX4_readAct 108 = .ok (.ldc 52, 2) := by decide +kernel
theorem dX4_readAct_110 : decode cX4_readAct 110 = .ok (.invokevirtual 19, 3) := by decide +kernel
theorem dX4_readAct_113 : decode cX4_readAct 113 = .ok (.ifCond .ne 14, 3) := by decide +kernel
theorem dX4_readAct_116 : decode cX4_readAct 116 = .ok (.aload_n 0, 1) := by decide +kernel
theorem dX4_readAct_117 : decode cX4_readAct 117 = .ok (.ldc 39, 2) := by decide +kernel
theorem dX4_readAct_119 : decode cX4_readAct 119 = .ok (.iload_n 1, 1) := by decide +kernel
theorem dX4_readAct_120 : decode cX4_readAct 120 = .ok (.iconst (-1), 1) := by decide +kernel
theorem dX4_readAct_121 : decode cX4_readAct 121 = .ok (.invokevirtual 41, 3) := by decide +kernel
theorem dX4_readAct_124 : decode cX4_readAct 124 = .ok (.goto 4, 3) := by decide +kernel
theorem dX4_readAct_127 : decode cX4_readAct 127 = .ok (.iconst (-1), 1) := by decide +kernel
theorem dX4_readAct_128 : decode cX4_readAct 128 = .ok (.istore 4, 2) := by decide +kernel
theorem dX4_readAct_130 : decode cX4_readAct 130 = .ok (.goto 27, 3) := by decide +kernel
theorem dX4_readAct_133 : decode cX4_readAct 133 = .ok (.aload_n 0, 1) := by decide +kernel
theorem dX4_readAct_134 : decode cX4_readAct 134 = .ok (.ldc 44, 2) := by decide +kernel
theorem dX4_readAct_136 : decode cX4_readAct 136 = .ok (.invokevirtual 19, 3) := by decide +kernel
theorem dX4_readAct_139 : decode cX4_readAct 139 = .ok (.ifCond .ne 15, 3) := by decide +kernel
theorem dX4_readAct_142 : decode cX4_readAct 142 = .ok (.aload_n 0, 1) := by decide +kernel
theorem dX4_readAct_143 : decode cX4_readAct 143 = .ok (.ldc 46, 2) := by decide +kernel
theorem dX4_readAct_145 : decode cX4_readAct 145 = .ok (.bipush 6, 2) := by decide +kernel
theorem dX4_readAct_147 : decode cX4_readAct 147 = .ok (.iload_n 3, 1) := by decide +kernel
theorem dX4_readAct_148 : decode cX4_readAct 148 = .ok (.invokevirtual 41, 3) := by decide +kernel
theorem dX4_readAct_151 : decode cX4_readAct 151 = .ok (.goto 4, 3) := by decide +kernel
theorem dX4_readAct_154 : decode cX4_readAct 154 = .ok (.iconst (-1), 1) := by decide +kernel
theorem dX4_readAct_155 : decode cX4_readAct 155 = .ok (.istore 4, 2) := by decide +kernel
theorem dX4_readAct_157 : decode cX4_readAct 157 = .ok (.iload 4, 2) := by decide +kernel
theorem dX4_readAct_159 : decode cX4_readAct 159 = .ok (.ifCond .ge 7, 3) := by decide +kernel
theorem dX4_readAct_162 : decode cX4_readAct 162 = .ok (.iconst (-1), 1) := by decide +kernel
theorem dX4_readAct_163 : decode cX4_readAct 163 = .ok (.goto 10, 3) := by decide +kernel
theorem dX4_readAct_166 : decode cX4_readAct 166 = .ok (.iload_n 2, 1) := by decide +kernel
theorem dX4_readAct_167 : decode cX4_readAct 167 = .ok (.iload_n 3, 1) := by decide +kernel
theorem dX4_readAct_168 : decode cX4_readAct 168 = .ok (.iload 4, 2) := by decide +kernel
theorem dX4_readAct_170 : decode cX4_readAct 170 = .ok (.invokestatic 48, 3) := by decide +kernel
theorem dX4_readAct_173 : decode cX4_readAct 173 = .ok (.ireturn, 1) := by decide +kernel
theorem dX4_act_0 : decode cX4_act 0 = .ok (.iconst 0, 1) := by decide +kernel
theorem dX4_act_1 : decode cX4_act 1 = .ok (.istore_n 3, 1) := by decide +kernel
theorem dX4_act_2 : decode cX4_act 2 = .ok (.iload_n 3, 1) := by decide +kernel
theorem dX4_act_3 : decode cX4_act 3 = .ok (.iload_n 2, 1) := by decide +kernel
theorem dX4_act_4 : decode cX4_act 4 = .ok (.if_icmp .ge 31, 3) := by decide +kernel
theorem dX4_act_7 : decode cX4_act 7 = .ok (.iload_n 3, 1) := by decide +kernel
theorem dX4_act_8 : decode cX4_act 8 = .ok (.aload_n 0, 1) := by decide +kernel
theorem dX4_act_9 : decode cX4_act 9 = .ok (.getfield 11, 3) := by decide +kernel
theorem dX4_act_12 : decode cX4_act 12 = .ok (.arraylength, 1) := by decide +kernel
theorem dX4_act_13 : decode cX4_act 13 = .ok (.if_icmp .ge 22, 3) := by decide +kernel
theorem dX4_act_16 : decode cX4_act 16 = .ok (.aload_n 1, 1) := by decide +kernel
theorem dX4_act_17 : decode cX4_act 17 = .ok (.aload_n 0, 1) := by decide +kernel
theorem dX4_act_18 : decode cX4_act 18 = .ok (.getfield 11, 3) := by decide +kernel
theorem dX4_act_21 : decode cX4_act 21 = .ok (.iload_n 3, 1) := by decide +kernel
theorem dX4_act_22 : decode cX4_act 22 = .ok (.iaload, 1) := by decide +kernel
theorem dX4_act_23 : decode cX4_act 23 = .ok (.invokevirtual 54, 3) := by decide +kernel
theorem dX4_act_26 : decode cX4_act 26 = .ok (.ifCond .ne 9, 3) := by decide +kernel
theorem dX4_act_29 : decode cX4_act 29 = .ok (.iinc 3 1, 3) := by decide +kernel
theorem dX4_act_32 : decode cX4_act 32 = .ok (.goto (-30), 3) := by decide +kernel
theorem dX4_act_35 : decode cX4_act 35 = .ok (.iload_n 3, 1) := by decide +kernel
theorem dX4_act_36 : decode cX4_act 36 = .ok (.ireturn, 1) := by decide +kernel
theorem dX5_init_0 : decode cX5_init 0 = .ok (.aload_n 0, 1) := by decide +kernel
theorem dX5_init_1 : decode cX5_init 1 = .ok (.invokespecial 3, 3) := by decide +kernel
theorem dX5_init_4 : decode cX5_init 4 = .ok (.aload_n 0, 1) := by decide +kernel
theorem dX5_init_5 : decode cX5_init 5 = .ok (.bipush 24, 2) := by decide +kernel
theorem dX5_init_7 : decode cX5_init 7 = .ok (.newarray .long, 2) := by decide +kernel
theorem dX5_init_9 : decode cX5_init 9 = .ok (.putfield 9, 3) := by decide +kernel
theorem dX5_init_12 : decode cX5_init 12 = .ok (.aload_n 0, 1) := by decide +kernel
theorem dX5_init_13 : decode cX5_init 13 = .ok (.iconst (-1), 1) := by decide +kernel
theorem dX5_init_14 : decode cX5_init 14 = .ok (.putfield 15, 3) := by decide +kernel
theorem dX5_init_17 : decode cX5_init 17 = .ok (.return_, 1) := by decide +kernel
theorem dX5_holdsRow_0 : decode cX5_holdsRow 0 = .ok (.aload_n 0, 1) := by decide +kernel
theorem dX5_holdsRow_1 : decode cX5_holdsRow 1 = .ok (.getfield 15, 3) := by decide +kernel
theorem dX5_holdsRow_4 : decode cX5_holdsRow 4 = .ok (.ifCond .lt 7, 3) := by decide +kernel
theorem dX5_holdsRow_7 : decode cX5_holdsRow 7 = .ok (.iconst 1, 1) := by decide +kernel
theorem dX5_holdsRow_8 : decode cX5_holdsRow 8 = .ok (.goto 4, 3) := by decide +kernel
theorem dX5_holdsRow_11 : decode cX5_holdsRow 11 = .ok (.iconst 0, 1) := by decide +kernel
theorem dX5_holdsRow_12 : decode cX5_holdsRow 12 = .ok (.ireturn, 1) := by decide +kernel
theorem dX5_isOfLane_0 : decode cX5_isOfLane 0 = .ok (.aload_n 0, 1) := by decide +kernel
theorem dX5_isOfLane_1 : decode cX5_isOfLane 1 = .ok (.getfield 19, 3) := by decide +kernel
theorem dX5_isOfLane_4 : decode cX5_isOfLane 4 = .ok (.aload_n 1, 1) := by decide +kernel
theorem dX5_isOfLane_5 : decode cX5_isOfLane 5 = .ok (.getfield 19, 3) := by decide +kernel
theorem dX5_isOfLane_8 : decode cX5_isOfLane 8 = .ok (.if_icmp .ne 7, 3) := by decide +kernel
theorem dX5_isOfLane_11 : decode cX5_isOfLane 11 = .ok (.iconst 1, 1) := by decide +kernel
theorem dX5_isOfLane_12 : decode cX5_isOfLane 12 = .ok (.goto 4, 3) := by decide +kernel
theorem dX5_isOfLane_15 : decode cX5_isOfLane 15 = .ok (.iconst 0, 1) := by decide +kernel
theorem dX5_isOfLane_16 : decode cX5_isOfLane 16 = .ok (.ireturn, 1) := by decide +kernel
theorem dX5_hasItems_0 : decode cX5_hasItems 0 = .ok (.iload_n 2, 1) := by decide +kernel
theorem dX5_hasItems_1 : decode cX5_hasItems 1 = .ok (.ifCond .lt 21, 3) := by decide +kernel
theorem dX5_hasItems_4 : decode cX5_hasItems 4 = .ok (.iload_n 1, 1) := by decide +kernel
theorem dX5_hasItems_5 : decode cX5_hasItems 5 = .ok (.ifCond .lt 17, 3) := by decide +kernel
theorem dX5_hasItems_8 : decode cX5_hasItems 8 = .ok (.iload_n 1, 1) := by decide +kernel
theorem dX5_hasItems_9 : decode cX5_hasItems 9 = .ok (.aload_n 0, 1) := by decide +kernel
theorem dX5_hasItems_10 : decode cX5_hasItems 10 = .ok (.getfield 15, 3) := by decide +kernel
theorem dX5_hasItems_13 : decode cX5_hasItems 13 = .ok (.iload_n 2, 1) := by decide +kernel
theorem dX5_hasItems_14 : decode cX5_hasItems 14 = .ok (.isub, 1) := by decide +kernel
theorem dX5_hasItems_15 : decode cX5_hasItems 15 = .ok (.if_icmp .gt 7, 3) := by decide +kernel
theorem dX5_hasItems_18 : decode cX5_hasItems 18 = .ok (.iconst 1, 1) := by decide +kernel
theorem dX5_hasItems_19 : decode cX5_hasItems 19 = .ok (.goto 4, 3) := by decide +kernel
theorem dX5_hasItems_22 : decode cX5_hasItems 22 = .ok (.iconst 0, 1) := by decide +kernel
theorem dX5_hasItems_23 : decode cX5_hasItems 23 = .ok (.ireturn, 1) := by decide +kernel
theorem dX5_refusal_0 : decode cX5_refusal 0 = .ok (.aload_n 0, 1) := by decide +kernel
theorem dX5_refusal_1 : decode cX5_refusal 1 = .ok (.invokevirtual 22, 3) := by decide +kernel
theorem dX5_refusal_4 : decode cX5_refusal 4 = .ok (.ifCond .ne 6, 3) := by decide +kernel
theorem dX5_refusal_7 : decode cX5_refusal 7 = .ok (.bipush (-11), 2) := by decide +kernel
theorem dX5_refusal_9 : decode cX5_refusal 9 = .ok (.ireturn, 1) := by decide +kernel
theorem dX5_refusal_10 : decode cX5_refusal 10 = .ok (.aload_n 0, 1) := by decide +kernel
theorem dX5_refusal_11 : decode cX5_refusal 11 = .ok (.getfield 19, 3) := by decide +kernel
theorem dX5_refusal_14 : decode cX5_refusal 14 = .ok (.iload_n 1, 1) := by decide +kernel
theorem dX5_refusal_15 : decode cX5_refusal 15 = .ok (.if_icmp .eq 6, 3) := by decide +kernel
theorem dX5_refusal_18 : decode cX5_refusal 18 = .ok (.bipush (-12), 2) := by decide +kernel
theorem dX5_refusal_20 : decode cX5_refusal 20 = .ok (.ireturn, 1) := by decide +kernel
theorem dX5_refusal_21 : decode cX5_refusal 21 = .ok (.aload_n 0, 1) := by decide +kernel
theorem dX5_refusal_22 : decode cX5_refusal 22 = .ok (.iload_n 2, 1) := by decide +kernel
theorem dX5_refusal_23 : decode cX5_refusal 23 = .ok (.iload_n 3, 1) := by decide +kernel
theorem dX5_refusal_24 : decode cX5_refusal 24 = .ok (.invokevirtual 26, 3) := by decide +kernel
theorem dX5_refusal_27 : decode cX5_refusal 27 = .ok (.ifCond .eq 7, 3) := by decide +kernel
theorem dX5_refusal_30 : decode cX5_refusal 30 = .ok (.iconst 0, 1) := by decide +kernel
theorem dX5_refusal_31 : decode cX5_refusal 31 = .ok (.goto 5, 3) := by decide +kernel
theorem dX5_refusal_34 : decode cX5_refusal 34 = .ok (.bipush (-13), 2) := by decide +kernel
theorem dX5_refusal_36 : decode cX5_refusal 36 = .ok (.ireturn, 1) := by decide +kernel
theorem dX5_renew_0 : decode cX5_renew 0 = .ok (.aload_n 0, 1) := by decide +kernel
theorem dX5_renew_1 : decode cX5_renew 1 = .ok (.iload_n 1, 1) := by decide +kernel
theorem dX5_renew_2 : decode cX5_renew 2 = .ok (.putfield 19, 3) := by decide +kernel
theorem dX5_renew_5 : decode cX5_renew 5 = .ok (.aload_n 0, 1) := by decide +kernel
theorem dX5_renew_6 : decode cX5_renew 6 = .ok (.iload_n 2, 1) := by decide +kernel
theorem dX5_renew_7 : decode cX5_renew 7 = .ok (.bipush 24, 2) := by decide +kernel
theorem dX5_renew_9 : decode cX5_renew 9 = .ok (.invokestatic 30, 3) := by decide +kernel
theorem dX5_renew_12 : decode cX5_renew 12 = .ok (.putfield 15, 3) := by decide +kernel
theorem dX5_renew_15 : decode cX5_renew 15 = .ok (.aload_n 0, 1) := by decide +kernel
theorem dX5_renew_16 : decode cX5_renew 16 = .ok (.getfield 9, 3) := by decide +kernel
theorem dX5_renew_19 : decode cX5_renew 19 = .ok (.lconst 0, 1) := by decide +kernel
theorem dX5_renew_20 : decode cX5_renew 20 = .ok (.invokestatic 36, 3) := by decide +kernel
theorem dX5_renew_23 : decode cX5_renew 23 = .ok (.return_, 1) := by decide +kernel
theorem dX5_clear_0 : decode cX5_clear 0 = .ok (.aload_n 0, 1) := by decide +kernel
theorem dX5_clear_1 : decode cX5_clear 1 = .ok (.getfield 15, 3) := by decide +kernel
theorem dX5_clear_4 : decode cX5_clear 4 = .ok (.istore_n 1, 1) := by decide +kernel
theorem dX5_clear_5 : decode cX5_clear 5 = .ok (.aload_n 0, 1) := by decide +kernel
theorem dX5_clear_6 : decode cX5_clear 6 = .ok (.iconst (-1), 1) := by decide +kernel
theorem dX5_clear_7 : decode cX5_clear 7 = .ok (.putfield 15, 3) := by decide +kernel
theorem dX5_clear_10 : decode cX5_clear 10 = .ok (.iload_n 1, 1) := by decide +kernel
theorem dX5_clear_11 : decode cX5_clear 11 = .ok (.ireturn, 1) := by decide +kernel
theorem dX5_itemAt_0 : decode cX5_itemAt 0 = .ok (.iload_n 1, 1) := by decide +kernel
theorem dX5_itemAt_1 : decode cX5_itemAt 1 = .ok (.ifCond .lt 18, 3) := by decide +kernel
theorem dX5_itemAt_4 : decode cX5_itemAt 4 = .ok (.iload_n 1, 1) := by decide +kernel
theorem dX5_itemAt_5 : decode cX5_itemAt 5 = .ok (.bipush 24, 2) := by decide +kernel
theorem dX5_itemAt_7 : decode cX5_itemAt 7 = .ok (.if_icmp .ge 12, 3) := by decide +kernel
theorem dX5_itemAt_10 : decode cX5_itemAt 10 = .ok (.aload_n 0, 1) := by decide +kernel
theorem dX5_itemAt_11 : decode cX5_itemAt 11 = .ok (.getfield 9, 3) := by decide +kernel
theorem dX5_itemAt_14 : decode cX5_itemAt 14 = .ok (.iload_n 1, 1) := by decide +kernel
theorem dX5_itemAt_15 : decode cX5_itemAt 15 = .ok (.laload, 1) := by decide +kernel
theorem dX5_itemAt_16 : decode cX5_itemAt 16 = .ok (.goto 4, 3) := by decide +kernel
theorem dX5_itemAt_19 : decode cX5_itemAt 19 = .ok (.lconst 0, 1) := by decide +kernel
theorem dX5_itemAt_20 : decode cX5_itemAt 20 = .ok (.lreturn, 1) := by decide +kernel
theorem dX5_becomeAt_0 : decode cX5_becomeAt 0 = .ok (.iload_n 1, 1) := by decide +kernel
theorem dX5_becomeAt_1 : decode cX5_becomeAt 1 = .ok (.ifCond .lt 9, 3) := by decide +kernel
theorem dX5_becomeAt_4 : decode cX5_becomeAt 4 = .ok (.iload_n 1, 1) := by decide +kernel
theorem dX5_becomeAt_5 : decode cX5_becomeAt 5 = .ok (.bipush 24, 2) := by decide +kernel
theorem dX5_becomeAt_7 : decode cX5_becomeAt 7 = .ok (.if_icmp .lt 4, 3) := by decide +kernel
theorem dX5_becomeAt_10 : decode cX5_becomeAt 10 = .ok (.return_, 1) := by decide +kernel
theorem dX5_becomeAt_11 : decode cX5_becomeAt 11 = .ok (.aload_n 0, 1) := by decide +kernel
theorem dX5_becomeAt_12 : decode cX5_becomeAt 12 = .ok (.getfield 19, 3) := by decide +kernel
theorem dX5_becomeAt_15 : decode cX5_becomeAt 15 = .ok (.lookupswitch 50 #[(0, 25), (1, 38)], 25) := by decide +kernel
theorem dX5_becomeAt_40 : decode cX5_becomeAt 40 = .ok (.aload_n 0, 1) := by decide +kernel
theorem dX5_becomeAt_41 : decode cX5_becomeAt 41 = .ok (.getfield 9, 3) := by decide +kernel
theorem dX5_becomeAt_44 : decode cX5_becomeAt 44 = .ok (.iload_n 1, 1) := by decide +kernel
theorem dX5_becomeAt_45 : decode cX5_becomeAt 45 = .ok (.lload_n 2, 1) := by decide +kernel
theorem dX5_becomeAt_46 : decode cX5_becomeAt 46 = .ok (.l2i, 1) := by decide +kernel
theorem dX5_becomeAt_47 : decode cX5_becomeAt 47 = .ok (.i2b, 1) := by decide +kernel
theorem dX5_becomeAt_48 : decode cX5_becomeAt 48 = .ok (.i2l, 1) := by decide +kernel
theorem dX5_becomeAt_49 : decode cX5_becomeAt 49 = .ok (.lastore, 1) := by decide +kernel
theorem dX5_becomeAt_50 : decode cX5_becomeAt 50 = .ok (.goto 22, 3) := by decide +kernel
theorem dX5_becomeAt_53 : decode cX5_becomeAt 53 = .ok (.aload_n 0, 1) := by decide +kernel
theorem dX5_becomeAt_54 : decode cX5_becomeAt 54 = .ok (.getfield 9, 3) := by decide +kernel
theorem dX5_becomeAt_57 : decode cX5_becomeAt 57 = .ok (.iload_n 1, 1) := by decide +kernel
theorem dX5_becomeAt_58 : decode cX5_becomeAt 58 = .ok (.lload_n 2, 1) := by decide +kernel
theorem dX5_becomeAt_59 : decode cX5_becomeAt 59 = .ok (.l2i, 1) := by decide +kernel
theorem dX5_becomeAt_60 : decode cX5_becomeAt 60 = .ok (.i2l, 1) := by decide +kernel
theorem dX5_becomeAt_61 : decode cX5_becomeAt 61 = .ok (.lastore, 1) := by decide +kernel
theorem dX5_becomeAt_62 : decode cX5_becomeAt 62 = .ok (.goto 10, 3) := by decide +kernel
theorem dX5_becomeAt_65 : decode cX5_becomeAt 65 = .ok (.aload_n 0, 1) := by decide +kernel
theorem dX5_becomeAt_66 : decode cX5_becomeAt 66 = .ok (.getfield 9, 3) := by decide +kernel
theorem dX5_becomeAt_69 : decode cX5_becomeAt 69 = .ok (.iload_n 1, 1) := by decide +kernel
theorem dX5_becomeAt_70 : decode cX5_becomeAt 70 = .ok (.lload_n 2, 1) := by decide +kernel
theorem dX5_becomeAt_71 : decode cX5_becomeAt 71 = .ok (.lastore, 1) := by decide +kernel
theorem dX5_becomeAt_72 : decode cX5_becomeAt 72 = .ok (.return_, 1) := by decide +kernel
theorem dX5_takeItems_0 : decode cX5_takeItems 0 = .ok (.aload_n 0, 1) := by decide +kernel
theorem dX5_takeItems_1 : decode cX5_takeItems 1 = .ok (.iload_n 1, 1) := by decide +kernel
theorem dX5_takeItems_2 : decode cX5_takeItems 2 = .ok (.iload 4, 2) := by decide +kernel
theorem dX5_takeItems_4 : decode cX5_takeItems 4 = .ok (.invokevirtual 26, 3) := by decide +kernel
theorem dX5_takeItems_7 : decode cX5_takeItems 7 = .ok (.ifCond .eq 28, 3) := by decide +kernel
theorem dX5_takeItems_10 : decode cX5_takeItems 10 = .ok (.aload_n 2, 1) := by decide +kernel
theorem dX5_takeItems_11 : decode cX5_takeItems 11 = .ok (.iload_n 3, 1) := by decide +kernel
theorem dX5_takeItems_12 : decode cX5_takeItems 12 = .ok (.iload 4, 2) := by decide +kernel
theorem dX5_takeItems_14 : decode cX5_takeItems 14 = .ok (.invokevirtual 26, 3) := by decide +kernel
theorem dX5_takeItems_17 : decode cX5_takeItems 17 = .ok (.ifCond .eq 18, 3) := by decide +kernel
theorem dX5_takeItems_20 : decode cX5_takeItems 20 = .ok (.aload_n 2, 1) := by decide +kernel
theorem dX5_takeItems_21 : decode cX5_takeItems 21 = .ok (.getfield 9, 3) := by decide +kernel
theorem dX5_takeItems_24 : decode cX5_takeItems 24 = .ok (.iload_n 3, 1) := by decide +kernel
theorem dX5_takeItems_25 : decode cX5_takeItems 25 = .ok (.aload_n 0, 1) := by decide +kernel
theorem dX5_takeItems_26 : decode cX5_takeItems 26 = .ok (.getfield 9, 3) := by decide +kernel
theorem dX5_takeItems_29 : decode cX5_takeItems 29 = .ok (.iload_n 1, 1) := by decide +kernel
theorem dX5_takeItems_30 : decode cX5_takeItems 30 = .ok (.iload 4, 2) := by decide +kernel
theorem dX5_takeItems_32 : decode cX5_takeItems 32 = .ok (.invokestatic 42, 3) := by decide +kernel
theorem dX5_takeItems_35 : decode cX5_takeItems 35 = .ok (.return_, 1) := by decide +kernel
theorem dX6_init_0 : decode cX6_init 0 = .ok (.aload_n 0, 1) := by decide +kernel
theorem dX6_init_1 : decode cX6_init 1 = .ok (.invokespecial 3, 3) := by decide +kernel
theorem dX6_init_4 : decode cX6_init 4 = .ok (.aload_n 0, 1) := by decide +kernel
theorem dX6_init_5 : decode cX6_init 5 = .ok (.bipush 120, 2) := by decide +kernel
theorem dX6_init_7 : decode cX6_init 7 = .ok (.newarray .char, 2) := by decide +kernel
theorem dX6_init_9 : decode cX6_init 9 = .ok (.putfield 11, 3) := by decide +kernel
theorem dX6_init_12 : decode cX6_init 12 = .ok (.return_, 1) := by decide +kernel
theorem dX6_append_0 : decode cX6_append 0 = .ok (.iload_n 3, 1) := by decide +kernel
theorem dX6_append_1 : decode cX6_append 1 = .ok (.iconst 1, 1) := by decide +kernel
theorem dX6_append_2 : decode cX6_append 2 = .ok (.bipush 8, 2) := by decide +kernel
theorem dX6_append_4 : decode cX6_append 4 = .ok (.invokestatic 15, 3) := by decide +kernel
theorem dX6_append_7 : decode cX6_append 7 = .ok (.ifCond .ne 5, 3) := by decide +kernel
theorem dX6_append_10 : decode cX6_append 10 = .ok (.iconst (-1), 1) := by decide +kernel
theorem dX6_append_11 : decode cX6_append 11 = .ok (.ireturn, 1) := by decide +kernel
theorem dX6_append_12 : decode cX6_append 12 = .ok (.iconst 0, 1) := by decide +kernel
theorem dX6_append_13 : decode cX6_append 13 = .ok (.istore 4, 2) := by decide +kernel
theorem dX6_append_15 : decode cX6_append 15 = .ok (.iload 4, 2) := by decide +kernel
theorem dX6_append_17 : decode cX6_append 17 = .ok (.iload_n 3, 1) := by decide +kernel
theorem dX6_append_18 : decode cX6_append 18 = .ok (.if_icmp .ge 27, 3) := by decide +kernel
theorem dX6_append_21 : decode cX6_append 21 = .ok (.lload_n 1, 1) := by decide +kernel
theorem dX6_append_22 : decode cX6_append 22 = .ok (.iload 4, 2) := by decide +kernel
theorem dX6_append_24 : decode cX6_append 24 = .ok (.invokestatic 19, 3) := by decide +kernel
theorem dX6_append_27 : decode cX6_append 27 = .ok (.bipush 32, 2) := by decide +kernel
theorem dX6_append_29 : decode cX6_append 29 = .ok (.bipush 126, 2) := by decide +kernel
theorem dX6_append_31 : decode cX6_append 31 = .ok (.invokestatic 15, 3) := by decide +kernel
theorem dX6_append_34 : decode cX6_append 34 = .ok (.ifCond .ne 5, 3) := by decide +kernel
theorem dX6_append_37 : decode cX6_append 37 = .ok (.iconst (-1), 1) := by decide +kernel
theorem dX6_append_38 : decode cX6_append 38 = .ok (.ireturn, 1) := by decide +kernel
theorem dX6_append_39 : decode cX6_append 39 = .ok (.iinc 4 1, 3) := by decide +kernel
theorem dX6_append_42 : decode cX6_append 42 = .ok (.goto (-27), 3) := by decide +kernel
theorem dX6_append_45 : decode cX6_append 45 = .ok (.aload_n 0, 1) := by decide +kernel
theorem dX6_append_46 : decode cX6_append 46 = .ok (.getfield 23, 3) := by decide +kernel
theorem dX6_append_49 : decode cX6_append 49 = .ok (.bipush 120, 2) := by decide +kernel
theorem dX6_append_51 : decode cX6_append 51 = .ok (.iload_n 3, 1) := by decide +kernel
theorem dX6_append_52 : decode cX6_append 52 = .ok (.isub, 1) := by decide +kernel
theorem dX6_append_53 : decode cX6_append 53 = .ok (.if_icmp .le 6, 3) := by decide +kernel
theorem dX6_append_56 : decode cX6_append 56 = .ok (.bipush (-3), 2) := by decide +kernel
theorem dX6_append_58 : decode cX6_append 58 = .ok (.ireturn, 1) := by decide +kernel
theorem dX6_append_59 : decode cX6_append 59 = .ok (.iload_n 3, 1) := by decide +kernel
theorem dX6_append_60 : decode cX6_append 60 = .ok (.iconst 1, 1) := by decide +kernel
theorem dX6_append_61 : decode cX6_append 61 = .ok (.isub, 1) := by decide +kernel
theorem dX6_append_62 : decode cX6_append 62 = .ok (.istore 4, 2) := by decide +kernel
theorem dX6_append_64 : decode cX6_append 64 = .ok (.iload 4, 2) := by decide +kernel
theorem dX6_append_66 : decode cX6_append 66 = .ok (.ifCond .lt 44, 3) := by decide +kernel
theorem dX6_append_69 : decode cX6_append 69 = .ok (.aload_n 0, 1) := by decide +kernel
theorem dX6_append_70 : decode cX6_append 70 = .ok (.getfield 23, 3) := by decide +kernel
theorem dX6_append_73 : decode cX6_append 73 = .ok (.bipush 120, 2) := by decide +kernel
theorem dX6_append_75 : decode cX6_append 75 = .ok (.if_icmp .ge 35, 3) := by decide +kernel
theorem dX6_append_78 : decode cX6_append 78 = .ok (.aload_n 0, 1) := by decide +kernel
theorem dX6_append_79 : decode cX6_append 79 = .ok (.getfield 11, 3) := by decide +kernel
theorem dX6_append_82 : decode cX6_append 82 = .ok (.aload_n 0, 1) := by decide +kernel
theorem dX6_append_83 : decode cX6_append 83 = .ok (.getfield 23, 3) := by decide +kernel
theorem dX6_append_86 : decode cX6_append 86 = .ok (.lload_n 1, 1) := by decide +kernel
theorem dX6_append_87 : decode cX6_append 87 = .ok (.iload 4, 2) := by decide +kernel
theorem dX6_append_89 : decode cX6_append 89 = .ok (.invokestatic 19, 3) := by decide +kernel
theorem dX6_append_92 : decode cX6_append 92 = .ok (.i2c, 1) := by decide +kernel
theorem dX6_append_93 : decode cX6_append 93 = .ok (.castore, 1) := by decide +kernel
theorem dX6_append_94 : decode cX6_append 94 = .ok (.aload_n 0, 1) := by decide +kernel
theorem dX6_append_95 : decode cX6_append 95 = .ok (.dup, 1) := by decide +kernel
theorem dX6_append_96 : decode cX6_append 96 = .ok (.getfield 23, 3) := by decide +kernel
theorem dX6_append_99 : decode cX6_append 99 = .ok (.iconst 1, 1) := by decide +kernel
theorem dX6_append_100 : decode cX6_append 100 = .ok (.iadd, 1) := by decide +kernel
theorem dX6_append_101 : decode cX6_append 101 = .ok (.putfield 23, 3) := by decide +kernel
theorem dX6_append_104 : decode cX6_append 104 = .ok (.iinc 4 (-1), 3) := by decide +kernel
theorem dX6_append_107 : decode cX6_append 107 = .ok (.goto (-43), 3) := by decide +kernel
theorem dX6_append_110 : decode cX6_append 110 = .ok (.aload_n 0, 1) := by decide +kernel
theorem dX6_append_111 : decode cX6_append 111 = .ok (.getfield 23, 3) := by decide +kernel
theorem dX6_append_114 : decode cX6_append 114 = .ok (.ireturn, 1) := by decide +kernel
theorem dX6_byteOf_0 : decode cX6_byteOf 0 = .ok (.lload_n 0, 1) := by decide +kernel
theorem dX6_byteOf_1 : decode cX6_byteOf 1 = .ok (.bipush 8, 2) := by decide +kernel
theorem dX6_byteOf_3 : decode cX6_byteOf 3 = .ok (.iload_n 2, 1) := by decide +kernel
theorem dX6_byteOf_4 : decode cX6_byteOf 4 = .ok (.imul, 1) := by decide +kernel
theorem dX6_byteOf_5 : decode cX6_byteOf 5 = .ok (.lshr, 1) := by decide +kernel
theorem dX6_byteOf_6 : decode cX6_byteOf 6 = .ok (.ldc2_w 27, 3) := by decide +kernel
theorem dX6_byteOf_9 : decode cX6_byteOf 9 = .ok (.land, 1) := by decide +kernel
theorem dX6_byteOf_10 : decode cX6_byteOf 10 = .ok (.l2i, 1) := by decide +kernel
theorem dX6_byteOf_11 : decode cX6_byteOf 11 = .ok (.ireturn, 1) := by decide +kernel
theorem dX6_empty_0 : decode cX6_empty 0 = .ok (.aload_n 0, 1) := by decide +kernel
theorem dX6_empty_1 : decode cX6_empty 1 = .ok (.iconst 0, 1) := by decide +kernel
theorem dX6_empty_2 : decode cX6_empty 2 = .ok (.putfield 23, 3) := by decide +kernel
theorem dX6_empty_5 : decode cX6_empty 5 = .ok (.aload_n 0, 1) := by decide +kernel
theorem dX6_empty_6 : decode cX6_empty 6 = .ok (.iconst 0, 1) := by decide +kernel
theorem dX6_empty_7 : decode cX6_empty 7 = .ok (.putfield 29, 3) := by decide +kernel
theorem dX6_empty_10 : decode cX6_empty 10 = .ok (.return_, 1) := by decide +kernel
theorem dX6_fault_0 : decode cX6_fault 0 = .ok (.bipush (-20), 2) := by decide +kernel
theorem dX6_fault_2 : decode cX6_fault 2 = .ok (.aload_n 0, 1) := by decide +kernel
theorem dX6_fault_3 : decode cX6_fault 3 = .ok (.getfield 29, 3) := by decide +kernel
theorem dX6_fault_6 : decode cX6_fault 6 = .ok (.isub, 1) := by decide +kernel
theorem dX6_fault_7 : decode cX6_fault 7 = .ok (.ireturn, 1) := by decide +kernel
theorem dX6_isAtEnd_0 : decode cX6_isAtEnd 0 = .ok (.aload_n 0, 1) := by decide +kernel
theorem dX6_isAtEnd_1 : decode cX6_isAtEnd 1 = .ok (.invokevirtual 32, 3) := by decide +kernel
theorem dX6_isAtEnd_4 : decode cX6_isAtEnd 4 = .ok (.aload_n 0, 1) := by decide +kernel
theorem dX6_isAtEnd_5 : decode cX6_isAtEnd 5 = .ok (.getfield 29, 3) := by decide +kernel
theorem dX6_isAtEnd_8 : decode cX6_isAtEnd 8 = .ok (.aload_n 0, 1) := by decide +kernel
theorem dX6_isAtEnd_9 : decode cX6_isAtEnd 9 = .ok (.getfield 23, 3) := by decide +kernel
theorem dX6_isAtEnd_12 : decode cX6_isAtEnd 12 = .ok (.if_icmp .lt 7, 3) := by decide +kernel
theorem dX6_isAtEnd_15 : decode cX6_isAtEnd 15 = .ok (.iconst 1, 1) := by decide +kernel
theorem dX6_isAtEnd_16 : decode cX6_isAtEnd 16 = .ok (.goto 4, 3) := by decide +kernel
theorem dX6_isAtEnd_19 : decode cX6_isAtEnd 19 = .ok (.iconst 0, 1) := by decide +kernel
theorem dX6_isAtEnd_20 : decode cX6_isAtEnd 20 = .ok (.ireturn, 1) := by decide +kernel
theorem dX6_skipBlanks_0 : decode cX6_skipBlanks 0 = .ok (.aload_n 0, 1) := by decide +kernel
theorem dX6_skipBlanks_1 : decode cX6_skipBlanks 1 = .ok (.getfield 29, 3) := by decide +kernel
theorem dX6_skipBlanks_4 : decode cX6_skipBlanks 4 = .ok (.aload_n 0, 1) := by decide +kernel
theorem dX6_skipBlanks_5 : decode cX6_skipBlanks 5 = .ok (.getfield 23, 3) := by decide +kernel
theorem dX6_skipBlanks_8 : decode cX6_skipBlanks 8 = .ok (.if_icmp .ge 39, 3) := by decide +kernel
theorem dX6_skipBlanks_11 : decode cX6_skipBlanks 11 = .ok (.aload_n 0, 1) := by decide +kernel
theorem dX6_skipBlanks_12 : decode cX6_skipBlanks 12 = .ok (.getfield 29, 3) := by decide +kernel
theorem dX6_skipBlanks_15 : decode cX6_skipBlanks 15 = .ok (.bipush 120, 2) := by decide +kernel
theorem dX6_skipBlanks_17 : decode cX6_skipBlanks 17 = .ok (.if_icmp .ge 30, 3) := by decide +kernel
theorem dX6_skipBlanks_20 : decode cX6_skipBlanks 20 = .ok (.aload_n 0, 1) := by decide +kernel
theorem dX6_skipBlanks_21 : decode cX6_skipBlanks 21 = .ok (.getfield 11, 3) := by decide +kernel
theorem dX6_skipBlanks_24 : decode cX6_skipBlanks 24 = .ok (.aload_n 0, 1) := by decide +kernel
theorem dX6_skipBlanks_25 : decode cX6_skipBlanks 25 = .ok (.getfield 29, 3) := by decide +kernel
theorem dX6_skipBlanks_28 : decode cX6_skipBlanks 28 = .ok (.caload, 1) := by decide +kernel
theorem dX6_skipBlanks_29 : decode cX6_skipBlanks 29 = .ok (.bipush 32, 2) := by decide +kernel
theorem dX6_skipBlanks_31 : decode cX6_skipBlanks 31 = .ok (.if_icmp .ne 16, 3) := by decide +kernel
theorem dX6_skipBlanks_34 : decode cX6_skipBlanks 34 = .ok (.aload_n 0, 1) := by decide +kernel
theorem dX6_skipBlanks_35 : decode cX6_skipBlanks 35 = .ok (.dup, 1) := by decide +kernel
theorem dX6_skipBlanks_36 : decode cX6_skipBlanks 36 = .ok (.getfield 29, 3) := by decide +kernel
theorem dX6_skipBlanks_39 : decode cX6_skipBlanks 39 = .ok (.iconst 1, 1) := by decide +kernel
theorem dX6_skipBlanks_40 : decode cX6_skipBlanks 40 = .ok (.iadd, 1) := by decide +kernel
theorem dX6_skipBlanks_41 : decode cX6_skipBlanks 41 = .ok (.putfield 29, 3) := by decide +kernel
theorem dX6_skipBlanks_44 : decode cX6_skipBlanks 44 = .ok (.goto (-44), 3) := by decide +kernel
theorem dX6_skipBlanks_47 : decode cX6_skipBlanks 47 = .ok (.return_, 1) := by decide +kernel
theorem dX6_choice_0 : decode cX6_choice 0 = .ok (.aload_n 0, 1) := by decide +kernel
theorem dX6_choice_1 : decode cX6_choice 1 = .ok (.aload_n 1, 1) := by decide +kernel
theorem dX6_choice_2 : decode cX6_choice 2 = .ok (.aload_n 1, 1) := by decide +kernel
theorem dX6_choice_3 : decode cX6_choice 3 = .ok (.invokevirtual 35, 3) := by decide +kernel
theorem dX6_choice_6 : decode cX6_choice 6 = .ok (.iconst (-1), 1) := by decide +kernel
theorem dX6_choice_7 : decode cX6_choice 7 = .ok (.invokevirtual 40, 3) := by decide +kernel
theorem dX6_choice_10 : decode cX6_choice 10 = .ok (.ireturn, 1) := by decide +kernel
theorem dX6_choice__0 : decode cX6_choice_ 0 = .ok (.aload_n 0, 1) := by decide +kernel
theorem dX6_choice__1 : decode cX6_choice_ 1 = .ok (.invokevirtual 32, 3) := by decide +kernel
theorem dX6_choice__4 : decode cX6_choice_ 4 = .ok (.aload_n 0, 1) := by decide +kernel
theorem dX6_choice__5 : decode cX6_choice_ 5 = .ok (.getfield 29, 3) := by decide +kernel
theorem dX6_choice__8 : decode cX6_choice_ 8 = .ok (.aload_n 0, 1) := by decide +kernel
theorem dX6_choice__9 : decode cX6_choice_ 9 = .ok (.getfield 23, 3) := by decide +kernel
theorem dX6_choice__12 : decode cX6_choice_ 12 = .ok (.if_icmp .ge 12, 3) := by decide +kernel
theorem dX6_choice__15 : decode cX6_choice_ 15 = .ok (.aload_n 0, 1) := by decide +kernel
theorem dX6_choice__16 : decode cX6_choice_ 16 = .ok (.getfield 29, 3) := by decide +kernel
theorem dX6_choice__19 : decode cX6_choice_ 19 = .ok (.bipush 120, 2) := by decide +kernel
theorem dX6_choice__21 : decode cX6_choice_ 21 = .ok (.if_icmp .lt 5, 3) := by decide +kernel
theorem dX6_choice__24 : decode cX6_choice_ 24 = .ok (.iconst (-1), 1) := by decide +kernel
theorem dX6_choice__25 : decode cX6_choice_ 25 = .ok (.ireturn, 1) := by decide +kernel
theorem dX6_choice__26 : decode cX6_choice_ 26 = .ok (.aload_n 1, 1) := by decide +kernel
theorem dX6_choice__27 : decode cX6_choice_ 27 = .ok (.aload_n 0, 1) := by decide +kernel
theorem dX6_choice__28 : decode cX6_choice_ 28 = .ok (.getfield 11, 3) := by decide +kernel
theorem dX6_choice__31 : decode cX6_choice_ 31 = .ok (.aload_n 0, 1) := by decide +kernel
theorem dX6_choice__32 : decode cX6_choice_ 32 = .ok (.getfield 29, 3) := by decide +kernel
theorem dX6_choice__35 : decode cX6_choice_ 35 = .ok (.caload, 1) := by decide +kernel
theorem dX6_choice__36 : decode cX6_choice_ 36 = .ok (.invokevirtual 44, 3) := by decide +kernel
theorem dX6_choice__39 : decode cX6_choice_ 39 = .ok (.istore 4, 2) := by decide +kernel
theorem dX6_choice__41 : decode cX6_choice_ 41 = .ok (.iload 4, 2) := by decide +kernel
theorem dX6_choice__43 : decode cX6_choice_ 43 = .ok (.ifCond .lt 15, 3) := by decide +kernel
theorem dX6_choice__46 : decode cX6_choice_ 46 = .ok (.iload 4, 2) := by decide +kernel
theorem dX6_choice__48 : decode cX6_choice_ 48 = .ok (.iload_n 2, 1) := by decide +kernel
theorem dX6_choice__49 : decode cX6_choice_ 49 = .ok (.if_icmp .ge 9, 3) := by decide +kernel
theorem dX6_choice__52 : decode cX6_choice_ 52 = .ok (.iload 4, 2) := by decide +kernel
theorem dX6_choice__54 : decode cX6_choice_ 54 = .ok (.iload_n 3, 1) := by decide +kernel
theorem dX6_choice__55 : decode cX6_choice_ 55 = .ok (.if_icmp .ne 5, 3) := by decide +kernel
theorem dX6_choice__58 : decode cX6_choice_ 58 = .ok (.iconst (-1), 1) := by decide +kernel
theorem dX6_choice__59 : decode cX6_choice_ 59 = .ok (.ireturn, 1) := by decide +kernel
theorem dX6_choice__60 : decode cX6_choice_ 60 = .ok (.aload_n 0, 1) := by decide +kernel
theorem dX6_choice__61 : decode cX6_choice_ 61 = .ok (.dup, 1) := by decide +kernel
theorem dX6_choice__62 : decode cX6_choice_ 62 = .ok (.getfield 29, 3) := by decide +kernel
theorem dX6_choice__65 : decode cX6_choice_ 65 = .ok (.iconst 1, 1) := by decide +kernel
theorem dX6_choice__66 : decode cX6_choice_ 66 = .ok (.iadd, 1) := by decide +kernel
theorem dX6_choice__67 : decode cX6_choice_ 67 = .ok (.putfield 29, 3) := by decide +kernel
theorem dX6_choice__70 : decode cX6_choice_ 70 = .ok (.iload 4, 2) := by decide +kernel
theorem dX6_choice__72 : decode cX6_choice_ 72 = .ok (.ireturn, 1) := by decide +kernel
theorem dX6_number_0 : decode cX6_number 0 = .ok (.aload_n 0, 1) := by decide +kernel
theorem dX6_number_1 : decode cX6_number 1 = .ok (.invokevirtual 32, 3) := by decide +kernel
theorem dX6_number_4 : decode cX6_number 4 = .ok (.aload_n 0, 1) := by decide +kernel
theorem dX6_number_5 : decode cX6_number 5 = .ok (.getfield 29, 3) := by decide +kernel
theorem dX6_number_8 : decode cX6_number 8 = .ok (.istore_n 1, 1) := by decide +kernel
theorem dX6_number_9 : decode cX6_number 9 = .ok (.iconst 0, 1) := by decide +kernel
theorem dX6_number_10 : decode cX6_number 10 = .ok (.istore_n 2, 1) := by decide +kernel
theorem dX6_number_11 : decode cX6_number 11 = .ok (.aload_n 0, 1) := by decide +kernel
theorem dX6_number_12 : decode cX6_number 12 = .ok (.getfield 29, 3) := by decide +kernel
theorem dX6_number_15 : decode cX6_number 15 = .ok (.aload_n 0, 1) := by decide +kernel
theorem dX6_number_16 : decode cX6_number 16 = .ok (.getfield 23, 3) := by decide +kernel
theorem dX6_number_19 : decode cX6_number 19 = .ok (.if_icmp .ge 67, 3) := by decide +kernel
theorem dX6_number_22 : decode cX6_number 22 = .ok (.aload_n 0, 1) := by decide +kernel
theorem dX6_number_23 : decode cX6_number 23 = .ok (.getfield 29, 3) := by decide +kernel
theorem dX6_number_26 : decode cX6_number 26 = .ok (.bipush 120, 2) := by decide +kernel
theorem dX6_number_28 : decode cX6_number 28 = .ok (.if_icmp .ge 58, 3) := by decide +kernel
theorem dX6_number_31 : decode cX6_number 31 = .ok (.aload_n 0, 1) := by decide +kernel
theorem dX6_number_32 : decode cX6_number 32 = .ok (.getfield 11, 3) := by decide +kernel
theorem dX6_number_35 : decode cX6_number 35 = .ok (.aload_n 0, 1) := by decide +kernel
theorem dX6_number_36 : decode cX6_number 36 = .ok (.getfield 29, 3) := by decide +kernel
theorem dX6_number_39 : decode cX6_number 39 = .ok (.caload, 1) := by decide +kernel
theorem dX6_number_40 : decode cX6_number 40 = .ok (.bipush 48, 2) := by decide +kernel
theorem dX6_number_42 : decode cX6_number 42 = .ok (.bipush 57, 2) := by decide +kernel
theorem dX6_number_44 : decode cX6_number 44 = .ok (.invokestatic 15, 3) := by decide +kernel
theorem dX6_number_47 : decode cX6_number 47 = .ok (.ifCond .eq 39, 3) := by decide +kernel
theorem dX6_number_50 : decode cX6_number 50 = .ok (.iload_n 2, 1) := by decide +kernel
theorem dX6_number_51 : decode cX6_number 51 = .ok (.bipush 10, 2) := by decide +kernel
theorem dX6_number_53 : decode cX6_number 53 = .ok (.imul, 1) := by decide +kernel
theorem dX6_number_54 : decode cX6_number 54 = .ok (.aload_n 0, 1) := by decide +kernel
theorem dX6_number_55 : decode cX6_number 55 = .ok (.getfield 11, 3) := by decide +kernel
theorem dX6_number_58 : decode cX6_number 58 = .ok (.aload_n 0, 1) := by decide +kernel
theorem dX6_number_59 : decode cX6_number 59 = .ok (.getfield 29, 3) := by decide +kernel
theorem dX6_number_62 : decode cX6_number 62 = .ok (.caload, 1) := by decide +kernel
theorem dX6_number_63 : decode cX6_number 63 = .ok (.iadd, 1) := by decide +kernel
theorem dX6_number_64 : decode cX6_number 64 = .ok (.bipush 48, 2) := by decide +kernel
theorem dX6_number_66 : decode cX6_number 66 = .ok (.isub, 1) := by decide +kernel
theorem dX6_number_67 : decode cX6_number 67 = .ok (.bipush 100, 2) := by decide +kernel
theorem dX6_number_69 : decode cX6_number 69 = .ok (.invokestatic 48, 3) := by decide +kernel
theorem dX6_number_72 : decode cX6_number 72 = .ok (.istore_n 2, 1) := by decide +kernel
theorem dX6_number_73 : decode cX6_number 73 = .ok (.aload_n 0, 1) := by decide +kernel
theorem dX6_number_74 : decode cX6_number 74 = .ok (.dup, 1) := by decide +kernel
theorem dX6_number_75 : decode cX6_number 75 = .ok (.getfield 29, 3) := by decide +kernel
theorem dX6_number_78 : decode cX6_number 78 = .ok (.iconst 1, 1) := by decide +kernel
theorem dX6_number_79 : decode cX6_number 79 = .ok (.iadd, 1) := by decide +kernel
theorem dX6_number_80 : decode cX6_number 80 = .ok (.putfield 29, 3) := by decide +kernel
theorem dX6_number_83 : decode cX6_number 83 = .ok (.goto (-72), 3) := by decide +kernel
theorem dX6_number_86 : decode cX6_number 86 = .ok (.iload_n 2, 1) := by decide +kernel
theorem dX6_number_87 : decode cX6_number 87 = .ok (.iconst 1, 1) := by decide +kernel
theorem dX6_number_88 : decode cX6_number 88 = .ok (.bipush 99, 2) := by decide +kernel
theorem dX6_number_90 : decode cX6_number 90 = .ok (.invokestatic 15, 3) := by decide +kernel
theorem dX6_number_93 : decode cX6_number 93 = .ok (.ifCond .eq 5, 3) := by decide +kernel
theorem dX6_number_96 : decode cX6_number 96 = .ok (.iload_n 2, 1) := by decide +kernel
theorem dX6_number_97 : decode cX6_number 97 = .ok (.ireturn, 1) := by decide +kernel
theorem dX6_number_98 : decode cX6_number 98 = .ok (.aload_n 0, 1) := by decide +kernel
theorem dX6_number_99 : decode cX6_number 99 = .ok (.iload_n 1, 1) := by decide +kernel
theorem dX6_number_100 : decode cX6_number 100 = .ok (.putfield 29, 3) := by decide +kernel
theorem dX6_number_103 : decode cX6_number 103 = .ok (.iconst (-1), 1) := by decide +kernel
theorem dX6_number_104 : decode cX6_number 104 = .ok (.ireturn, 1) := by decide +kernel
theorem dX7_init_0 : decode cX7_init 0 = .ok (.aload_n 0, 1) := by decide +kernel
theorem dX7_init_1 : decode cX7_init 1 = .ok (.invokespecial 3, 3) := by decide +kernel
theorem dX7_init_4 : decode cX7_init 4 = .ok (.aload_n 0, 1) := by decide +kernel
theorem dX7_init_5 : decode cX7_init 5 = .ok (.iconst 3, 1) := by decide +kernel
theorem dX7_init_6 : decode cX7_init 6 = .ok (.newarray .int, 2) := by decide +kernel
theorem dX7_init_8 : decode cX7_init 8 = .ok (.putfield 11, 3) := by decide +kernel
theorem dX7_init_11 : decode cX7_init 11 = .ok (.return_, 1) := by decide +kernel
theorem dX7_fewestActs_0 : decode cX7_fewestActs 0 = .ok (.aload_n 1, 1) := by decide +kernel
theorem dX7_fewestActs_1 : decode cX7_fewestActs 1 = .ok (.iload_n 2, 1) := by decide +kernel
theorem dX7_fewestActs_2 : decode cX7_fewestActs 2 = .ok (.invokevirtual 15, 3) := by decide +kernel
theorem dX7_fewestActs_5 : decode cX7_fewestActs 5 = .ok (.bipush 6, 2) := by decide +kernel
theorem dX7_fewestActs_7 : decode cX7_fewestActs 7 = .ok (.if_icmp .ne 5, 3) := by decide +kernel
theorem dX7_fewestActs_10 : decode cX7_fewestActs 10 = .ok (.iconst 0, 1) := by decide +kernel
theorem dX7_fewestActs_11 : decode cX7_fewestActs 11 = .ok (.ireturn, 1) := by decide +kernel
theorem dX7_fewestActs_12 : decode cX7_fewestActs 12 = .ok (.iconst 1, 1) := by decide +kernel
theorem dX7_fewestActs_13 : decode cX7_fewestActs 13 = .ok (.istore_n 3, 1) := by decide +kernel
theorem dX7_fewestActs_14 : decode cX7_fewestActs 14 = .ok (.iload_n 3, 1) := by decide +kernel
theorem dX7_fewestActs_15 : decode cX7_fewestActs 15 = .ok (.iconst 3, 1) := by decide +kernel
theorem dX7_fewestActs_16 : decode cX7_fewestActs 16 = .ok (.if_icmp .gt 25, 3) := by decide +kernel
theorem dX7_fewestActs_19 : decode cX7_fewestActs 19 = .ok (.aload_n 1, 1) := by decide +kernel
theorem dX7_fewestActs_20 : decode cX7_fewestActs 20 = .ok (.iload_n 2, 1) := by decide +kernel
theorem dX7_fewestActs_21 : decode cX7_fewestActs 21 = .ok (.aload_n 0, 1) := by decide +kernel
theorem dX7_fewestActs_22 : decode cX7_fewestActs 22 = .ok (.getfield 11, 3) := by decide +kernel
theorem dX7_fewestActs_25 : decode cX7_fewestActs 25 = .ok (.iconst 0, 1) := by decide +kernel
theorem dX7_fewestActs_26 : decode cX7_fewestActs 26 = .ok (.iload_n 3, 1) := by decide +kernel
theorem dX7_fewestActs_27 : decode cX7_fewestActs 27 = .ok (.invokestatic 21, 3) := by decide +kernel
theorem dX7_fewestActs_30 : decode cX7_fewestActs 30 = .ok (.ifCond .eq 5, 3) := by decide +kernel
theorem dX7_fewestActs_33 : decode cX7_fewestActs 33 = .ok (.iload_n 3, 1) := by decide +kernel
theorem dX7_fewestActs_34 : decode cX7_fewestActs 34 = .ok (.ireturn, 1) := by decide +kernel
theorem dX7_fewestActs_35 : decode cX7_fewestActs 35 = .ok (.iinc 3 1, 3) := by decide +kernel
theorem dX7_fewestActs_38 : decode cX7_fewestActs 38 = .ok (.goto (-24), 3) := by decide +kernel
theorem dX7_fewestActs_41 : decode cX7_fewestActs 41 = .ok (.bipush (-4), 2) := by decide +kernel
theorem dX7_fewestActs_43 : decode cX7_fewestActs 43 = .ok (.ireturn, 1) := by decide +kernel
theorem dX7_codeAt_0 : decode cX7_codeAt 0 = .ok (.iload_n 1, 1) := by decide +kernel
theorem dX7_codeAt_1 : decode cX7_codeAt 1 = .ok (.ifCond .lt 21, 3) := by decide +kernel
theorem dX7_codeAt_4 : decode cX7_codeAt 4 = .ok (.iload_n 1, 1) := by decide +kernel
theorem dX7_codeAt_5 : decode cX7_codeAt 5 = .ok (.aload_n 0, 1) := by decide +kernel
theorem dX7_codeAt_6 : decode cX7_codeAt 6 = .ok (.getfield 11, 3) := by decide +kernel
theorem dX7_codeAt_9 : decode cX7_codeAt 9 = .ok (.arraylength, 1) := by decide +kernel
theorem dX7_codeAt_10 : decode cX7_codeAt 10 = .ok (.if_icmp .ge 12, 3) := by decide +kernel
theorem dX7_codeAt_13 : decode cX7_codeAt 13 = .ok (.aload_n 0, 1) := by decide +kernel
theorem dX7_codeAt_14 : decode cX7_codeAt 14 = .ok (.getfield 11, 3) := by decide +kernel
theorem dX7_codeAt_17 : decode cX7_codeAt 17 = .ok (.iload_n 1, 1) := by decide +kernel
theorem dX7_codeAt_18 : decode cX7_codeAt 18 = .ok (.iaload, 1) := by decide +kernel
theorem dX7_codeAt_19 : decode cX7_codeAt 19 = .ok (.goto 5, 3) := by decide +kernel
theorem dX7_codeAt_22 : decode cX7_codeAt 22 = .ok (.bipush (-4), 2) := by decide +kernel
theorem dX7_codeAt_24 : decode cX7_codeAt 24 = .ok (.ireturn, 1) := by decide +kernel
theorem dX7_search_0 : decode cX7_search 0 = .ok (.iload_n 3, 1) := by decide +kernel
theorem dX7_search_1 : decode cX7_search 1 = .ok (.ifCond .lt 21, 3) := by decide +kernel
theorem dX7_search_4 : decode cX7_search 4 = .ok (.iload_n 3, 1) := by decide +kernel
theorem dX7_search_5 : decode cX7_search 5 = .ok (.aload_n 2, 1) := by decide +kernel
theorem dX7_search_6 : decode cX7_search 6 = .ok (.arraylength, 1) := by decide +kernel
theorem dX7_search_7 : decode cX7_search 7 = .ok (.if_icmp .ge 15, 3) := by decide +kernel
theorem dX7_search_10 : decode cX7_search 10 = .ok (.aload_n 0, 1) := by decide +kernel
theorem dX7_search_11 : decode cX7_search 11 = .ok (.iload_n 1, 1) := by decide +kernel
theorem dX7_search_12 : decode cX7_search 12 = .ok (.invokevirtual 25, 3) := by decide +kernel
theorem dX7_search_15 : decode cX7_search 15 = .ok (.iload 4, 2) := by decide +kernel
theorem dX7_search_17 : decode cX7_search 17 = .ok (.iload_n 3, 1) := by decide +kernel
theorem dX7_search_18 : decode cX7_search 18 = .ok (.isub, 1) := by decide +kernel
theorem dX7_search_19 : decode cX7_search 19 = .ok (.if_icmp .lt 5, 3) := by decide +kernel
theorem dX7_search_22 : decode cX7_search 22 = .ok (.iconst 0, 1) := by decide +kernel
theorem dX7_search_23 : decode cX7_search 23 = .ok (.ireturn, 1) := by decide +kernel
theorem dX7_search_24 : decode cX7_search 24 = .ok (.aload_n 0, 1) := by decide +kernel
theorem dX7_search_25 : decode cX7_search 25 = .ok (.iload_n 1, 1) := by decide +kernel
theorem dX7_search_26 : decode cX7_search 26 = .ok (.invokevirtual 15, 3) := by decide +kernel
theorem dX7_search_29 : decode cX7_search 29 = .ok (.istore 5, 2) := by decide +kernel
theorem dX7_search_31 : decode cX7_search 31 = .ok (.iconst 0, 1) := by decide +kernel
theorem dX7_search_32 : decode cX7_search 32 = .ok (.istore 6, 2) := by decide +kernel
theorem dX7_search_34 : decode cX7_search 34 = .ok (.iload 6, 2) := by decide +kernel
theorem dX7_search_36 : decode cX7_search 36 = .ok (.iconst 3, 1) := by decide +kernel
theorem dX7_search_37 : decode cX7_search 37 = .ok (.if_icmp .gt 128, 3) := by decide +kernel
theorem dX7_search_40 : decode cX7_search 40 = .ok (.iconst 0, 1) := by decide +kernel
theorem dX7_search_41 : decode cX7_search 41 = .ok (.istore 7, 2) := by decide +kernel
theorem dX7_search_43 : decode cX7_search 43 = .ok (.iload 7, 2) := by decide +kernel
theorem dX7_search_45 : decode cX7_search 45 = .ok (.bipush 6, 2) := by decide +kernel
theorem dX7_search_47 : decode cX7_search 47 = .ok (.if_icmp .ge 112, 3) := by decide +kernel
theorem dX7_search_50 : decode cX7_search 50 = .ok (.iload 6, 2) := by decide +kernel
theorem dX7_search_52 : decode cX7_search 52 = .ok (.iload 7, 2) := by decide +kernel
theorem dX7_search_54 : decode cX7_search 54 = .ok (.iload 5, 2) := by decide +kernel
theorem dX7_search_56 : decode cX7_search 56 = .ok (.if_icmp .ne 7, 3) := by decide +kernel
theorem dX7_search_59 : decode cX7_search 59 = .ok (.iconst 1, 1) := by decide +kernel
theorem dX7_search_60 : decode cX7_search 60 = .ok (.goto 4, 3) := by decide +kernel
theorem dX7_search_63 : decode cX7_search 63 = .ok (.iconst 0, 1) := by decide +kernel
theorem dX7_search_64 : decode cX7_search 64 = .ok (.iload 4, 2) := by decide +kernel
theorem dX7_search_66 : decode cX7_search 66 = .ok (.iload_n 3, 1) := by decide +kernel
theorem dX7_search_67 : decode cX7_search 67 = .ok (.isub, 1) := by decide +kernel
theorem dX7_search_68 : decode cX7_search 68 = .ok (.invokestatic 30, 3) := by decide +kernel
theorem dX7_search_71 : decode cX7_search 71 = .ok (.ifCond .eq 12, 3) := by decide +kernel
theorem dX7_search_74 : decode cX7_search 74 = .ok (.aload_n 0, 1) := by decide +kernel
theorem dX7_search_75 : decode cX7_search 75 = .ok (.iload 6, 2) := by decide +kernel
theorem dX7_search_77 : decode cX7_search 77 = .ok (.invokestatic 34, 3) := by decide +kernel
theorem dX7_search_80 : decode cX7_search 80 = .ok (.goto 4, 3) := by decide +kernel
theorem dX7_search_83 : decode cX7_search 83 = .ok (.iconst 0, 1) := by decide +kernel
theorem dX7_search_84 : decode cX7_search 84 = .ok (.istore 8, 2) := by decide +kernel
theorem dX7_search_86 : decode cX7_search 86 = .ok (.iconst 0, 1) := by decide +kernel
theorem dX7_search_87 : decode cX7_search 87 = .ok (.istore 9, 2) := by decide +kernel
theorem dX7_search_89 : decode cX7_search 89 = .ok (.iload 9, 2) := by decide +kernel
theorem dX7_search_91 : decode cX7_search 91 = .ok (.iload 8, 2) := by decide +kernel
theorem dX7_search_93 : decode cX7_search 93 = .ok (.if_icmp .ge 60, 3) := by decide +kernel
theorem dX7_search_96 : decode cX7_search 96 = .ok (.iload 6, 2) := by decide +kernel
theorem dX7_search_98 : decode cX7_search 98 = .ok (.iconst 3, 1) := by decide +kernel
theorem dX7_search_99 : decode cX7_search 99 = .ok (.if_icmp .ne 10, 3) := by decide +kernel
theorem dX7_search_102 : decode cX7_search 102 = .ok (.iload 9, 2) := by decide +kernel
theorem dX7_search_104 : decode cX7_search 104 = .ok (.iload 7, 2) := by decide +kernel
theorem dX7_search_106 : decode cX7_search 106 = .ok (.if_icmp .eq 7, 3) := by decide +kernel
theorem dX7_search_109 : decode cX7_search 109 = .ok (.iconst 1, 1) := by decide +kernel
theorem dX7_search_110 : decode cX7_search 110 = .ok (.goto 4, 3) := by decide +kernel
theorem dX7_search_113 : decode cX7_search 113 = .ok (.iconst 0, 1) := by decide +kernel
theorem dX7_search_114 : decode cX7_search 114 = .ok (.istore 10, 2) := by decide +kernel
theorem dX7_search_116 : decode cX7_search 116 = .ok (.aload_n 2, 1) := by decide +kernel
theorem dX7_search_117 : decode cX7_search 117 = .ok (.iload_n 3, 1) := by decide +kernel
theorem dX7_search_118 : decode cX7_search 118 = .ok (.iload 6, 2) := by decide +kernel
theorem dX7_search_120 : decode cX7_search 120 = .ok (.iload 7, 2) := by decide +kernel
theorem dX7_search_122 : decode cX7_search 122 = .ok (.iload 9, 2) := by decide +kernel
theorem dX7_search_124 : decode cX7_search 124 = .ok (.invokestatic 38, 3) := by decide +kernel
theorem dX7_search_127 : decode cX7_search 127 = .ok (.iastore, 1) := by decide +kernel
theorem dX7_search_128 : decode cX7_search 128 = .ok (.iload 10, 2) := by decide +kernel
theorem dX7_search_130 : decode cX7_search 130 = .ok (.ifCond .eq 17, 3) := by decide +kernel
theorem dX7_search_133 : decode cX7_search 133 = .ok (.aload_n 0, 1) := by decide +kernel
theorem dX7_search_134 : decode cX7_search 134 = .ok (.iload_n 1, 1) := by decide +kernel
theorem dX7_search_135 : decode cX7_search 135 = .ok (.aload_n 2, 1) := by decide +kernel
theorem dX7_search_136 : decode cX7_search 136 = .ok (.iload_n 3, 1) := by decide +kernel
theorem dX7_search_137 : decode cX7_search 137 = .ok (.iload 4, 2) := by decide +kernel
theorem dX7_search_139 : decode cX7_search 139 = .ok (.invokestatic 42, 3) := by decide +kernel
theorem dX7_search_142 : decode cX7_search 142 = .ok (.ifCond .eq 5, 3) := by decide +kernel
theorem dX7_search_145 : decode cX7_search 145 = .ok (.iconst 1, 1) := by decide +kernel
theorem dX7_search_146 : decode cX7_search 146 = .ok (.ireturn, 1) := by decide +kernel
theorem dX7_search_147 : decode cX7_search 147 = .ok (.iinc 9 1, 3) := by decide +kernel
theorem dX7_search_150 : decode cX7_search 150 = .ok (.goto (-61), 3) := by decide +kernel
theorem dX7_search_153 : decode cX7_search 153 = .ok (.iinc 7 1, 3) := by decide +kernel
theorem dX7_search_156 : decode cX7_search 156 = .ok (.goto (-113), 3) := by decide +kernel
theorem dX7_search_159 : decode cX7_search 159 = .ok (.iinc 6 1, 3) := by decide +kernel
theorem dX7_search_162 : decode cX7_search 162 = .ok (.goto (-128), 3) := by decide +kernel
theorem dX7_search_165 : decode cX7_search 165 = .ok (.iconst 0, 1) := by decide +kernel
theorem dX7_search_166 : decode cX7_search 166 = .ok (.ireturn, 1) := by decide +kernel
theorem dX7_canHelp_0 : decode cX7_canHelp 0 = .ok (.iload_n 2, 1) := by decide +kernel
theorem dX7_canHelp_1 : decode cX7_canHelp 1 = .ok (.iconst 1, 1) := by decide +kernel
theorem dX7_canHelp_2 : decode cX7_canHelp 2 = .ok (.if_icmp .ne 22, 3) := by decide +kernel
theorem dX7_canHelp_5 : decode cX7_canHelp 5 = .ok (.iload_n 1, 1) := by decide +kernel
theorem dX7_canHelp_6 : decode cX7_canHelp 6 = .ok (.ifCond .eq 16, 3) := by decide +kernel
theorem dX7_canHelp_9 : decode cX7_canHelp 9 = .ok (.iload_n 0, 1) := by decide +kernel
theorem dX7_canHelp_10 : decode cX7_canHelp 10 = .ok (.ifCond .eq 8, 3) := by decide +kernel
theorem dX7_canHelp_13 : decode cX7_canHelp 13 = .ok (.iload_n 0, 1) := by decide +kernel
theorem dX7_canHelp_14 : decode cX7_canHelp 14 = .ok (.iconst 2, 1) := by decide +kernel
theorem dX7_canHelp_15 : decode cX7_canHelp 15 = .ok (.if_icmp .ne 7, 3) := by decide +kernel
theorem dX7_canHelp_18 : decode cX7_canHelp 18 = .ok (.iconst 1, 1) := by decide +kernel
theorem dX7_canHelp_19 : decode cX7_canHelp 19 = .ok (.goto 4, 3) := by decide +kernel
theorem dX7_canHelp_22 : decode cX7_canHelp 22 = .ok (.iconst 0, 1) := by decide +kernel
theorem dX7_canHelp_23 : decode cX7_canHelp 23 = .ok (.ireturn, 1) := by decide +kernel
theorem dX7_canHelp_24 : decode cX7_canHelp 24 = .ok (.iload_n 2, 1) := by decide +kernel
theorem dX7_canHelp_25 : decode cX7_canHelp 25 = .ok (.iconst 2, 1) := by decide +kernel
theorem dX7_canHelp_26 : decode cX7_canHelp 26 = .ok (.if_icmp .gt 21, 3) := by decide +kernel
theorem dX7_canHelp_29 : decode cX7_canHelp 29 = .ok (.iload_n 0, 1) := by decide +kernel
theorem dX7_canHelp_30 : decode cX7_canHelp 30 = .ok (.ifCond .eq 17, 3) := by decide +kernel
theorem dX7_canHelp_33 : decode cX7_canHelp 33 = .ok (.iload_n 0, 1) := by decide +kernel
theorem dX7_canHelp_34 : decode cX7_canHelp 34 = .ok (.iconst 2, 1) := by decide +kernel
theorem dX7_canHelp_35 : decode cX7_canHelp 35 = .ok (.if_icmp .eq 12, 3) := by decide +kernel
theorem dX7_canHelp_38 : decode cX7_canHelp 38 = .ok (.iload_n 0, 1) := by decide +kernel
theorem dX7_canHelp_39 : decode cX7_canHelp 39 = .ok (.iconst 3, 1) := by decide +kernel
theorem dX7_canHelp_40 : decode cX7_canHelp 40 = .ok (.if_icmp .ne 11, 3) := by decide +kernel
theorem dX7_canHelp_43 : decode cX7_canHelp 43 = .ok (.iload_n 1, 1) := by decide +kernel
theorem dX7_canHelp_44 : decode cX7_canHelp 44 = .ok (.ifCond .eq 7, 3) := by decide +kernel
theorem dX7_canHelp_47 : decode cX7_canHelp 47 = .ok (.iconst 1, 1) := by decide +kernel
theorem dX7_canHelp_48 : decode cX7_canHelp 48 = .ok (.goto 4, 3) := by decide +kernel
theorem dX7_canHelp_51 : decode cX7_canHelp 51 = .ok (.iconst 0, 1) := by decide +kernel
theorem dX7_canHelp_52 : decode cX7_canHelp 52 = .ok (.ireturn, 1) := by decide +kernel
theorem dX7_othersOf_0 : decode cX7_othersOf 0 = .ok (.iload_n 1, 1) := by decide +kernel
theorem dX7_othersOf_1 : decode cX7_othersOf 1 = .ok (.ifCond .ne 5, 3) := by decide +kernel
theorem dX7_othersOf_4 : decode cX7_othersOf 4 = .ok (.iconst 1, 1) := by decide +kernel
theorem dX7_othersOf_5 : decode cX7_othersOf 5 = .ok (.ireturn, 1) := by decide +kernel
theorem dX7_othersOf_6 : decode cX7_othersOf 6 = .ok (.iload_n 1, 1) := by decide +kernel
theorem dX7_othersOf_7 : decode cX7_othersOf 7 = .ok (.iconst 3, 1) := by decide +kernel
theorem dX7_othersOf_8 : decode cX7_othersOf 8 = .ok (.if_icmp .ne 8, 3) := by decide +kernel
theorem dX7_othersOf_11 : decode cX7_othersOf 11 = .ok (.bipush 6, 2) := by decide +kernel
theorem dX7_othersOf_13 : decode cX7_othersOf 13 = .ok (.goto 7, 3) := by decide +kernel
theorem dX7_othersOf_16 : decode cX7_othersOf 16 = .ok (.aload_n 0, 1) := by decide +kernel
theorem dX7_othersOf_17 : decode cX7_othersOf 17 = .ok (.invokevirtual 45, 3) := by decide +kernel
theorem dX7_othersOf_20 : decode cX7_othersOf 20 = .ok (.ireturn, 1) := by decide +kernel
theorem dX7_leads_0 : decode cX7_leads 0 = .ok (.iload_n 3, 1) := by decide +kernel
theorem dX7_leads_1 : decode cX7_leads 1 = .ok (.ifCond .lt 9, 3) := by decide +kernel
theorem dX7_leads_4 : decode cX7_leads 4 = .ok (.iload_n 3, 1) := by decide +kernel
theorem dX7_leads_5 : decode cX7_leads 5 = .ok (.aload_n 2, 1) := by decide +kernel
theorem dX7_leads_6 : decode cX7_leads 6 = .ok (.arraylength, 1) := by decide +kernel
theorem dX7_leads_7 : decode cX7_leads 7 = .ok (.if_icmp .lt 5, 3) := by decide +kernel
theorem dX7_leads_10 : decode cX7_leads 10 = .ok (.iconst 0, 1) := by decide +kernel
theorem dX7_leads_11 : decode cX7_leads 11 = .ok (.ireturn, 1) := by decide +kernel
theorem dX7_leads_12 : decode cX7_leads 12 = .ok (.aload_n 2, 1) := by decide +kernel
theorem dX7_leads_13 : decode cX7_leads 13 = .ok (.iload_n 3, 1) := by decide +kernel
theorem dX7_leads_14 : decode cX7_leads 14 = .ok (.iaload, 1) := by decide +kernel
theorem dX7_leads_15 : decode cX7_leads 15 = .ok (.istore 5, 2) := by decide +kernel
theorem dX7_leads_17 : decode cX7_leads 17 = .ok (.aload_n 0, 1) := by decide +kernel
theorem dX7_leads_18 : decode cX7_leads 18 = .ok (.iload 5, 2) := by decide +kernel
theorem dX7_leads_20 : decode cX7_leads 20 = .ok (.invokevirtual 49, 3) := by decide +kernel
theorem dX7_leads_23 : decode cX7_leads 23 = .ok (.ifCond .eq 12, 3) := by decide +kernel
theorem dX7_leads_26 : decode cX7_leads 26 = .ok (.aload_n 0, 1) := by decide +kernel
theorem dX7_leads_27 : decode cX7_leads 27 = .ok (.iload 5, 2) := by decide +kernel
theorem dX7_leads_29 : decode cX7_leads 29 = .ok (.invokevirtual 53, 3) := by decide +kernel
theorem dX7_leads_32 : decode cX7_leads 32 = .ok (.ifCond .eq 5, 3) := by decide +kernel
theorem dX7_leads_35 : decode cX7_leads 35 = .ok (.iconst 0, 1) := by decide +kernel
theorem dX7_leads_36 : decode cX7_leads 36 = .ok (.ireturn, 1) := by decide +kernel
theorem dX7_leads_37 : decode cX7_leads 37 = .ok (.iload_n 3, 1) := by decide +kernel
theorem dX7_leads_38 : decode cX7_leads 38 = .ok (.iconst 1, 1) := by decide +kernel
theorem dX7_leads_39 : decode cX7_leads 39 = .ok (.iadd, 1) := by decide +kernel
theorem dX7_leads_40 : decode cX7_leads 40 = .ok (.iload 4, 2) := by decide +kernel
theorem dX7_leads_42 : decode cX7_leads 42 = .ok (.if_icmp .ne 5, 3) := by decide +kernel
theorem dX7_leads_45 : decode cX7_leads 45 = .ok (.iconst 1, 1) := by decide +kernel
theorem dX7_leads_46 : decode cX7_leads 46 = .ok (.ireturn, 1) := by decide +kernel
theorem dX7_leads_47 : decode cX7_leads 47 = .ok (.aload_n 0, 1) := by decide +kernel
theorem dX7_leads_48 : decode cX7_leads 48 = .ok (.iload 5, 2) := by decide +kernel
theorem dX7_leads_50 : decode cX7_leads 50 = .ok (.invokestatic 56, 3) := by decide +kernel
theorem dX7_leads_53 : decode cX7_leads 53 = .ok (.invokevirtual 59, 3) := by decide +kernel
theorem dX7_leads_56 : decode cX7_leads 56 = .ok (.istore 6, 2) := by decide +kernel
theorem dX7_leads_58 : decode cX7_leads 58 = .ok (.aload_n 0, 1) := by decide +kernel
theorem dX7_leads_59 : decode cX7_leads 59 = .ok (.iload 5, 2) := by decide +kernel
theorem dX7_leads_61 : decode cX7_leads 61 = .ok (.invokevirtual 62, 3) := by decide +kernel
theorem dX7_leads_64 : decode cX7_leads 64 = .ok (.aload_n 0, 1) := by decide +kernel
theorem dX7_leads_65 : decode cX7_leads 65 = .ok (.iload_n 1, 1) := by decide +kernel
theorem dX7_leads_66 : decode cX7_leads 66 = .ok (.aload_n 2, 1) := by decide +kernel
theorem dX7_leads_67 : decode cX7_leads 67 = .ok (.iload_n 3, 1) := by decide +kernel
theorem dX7_leads_68 : decode cX7_leads 68 = .ok (.iconst 1, 1) := by decide +kernel
theorem dX7_leads_69 : decode cX7_leads 69 = .ok (.iadd, 1) := by decide +kernel
theorem dX7_leads_70 : decode cX7_leads 70 = .ok (.iload 4, 2) := by decide +kernel
theorem dX7_leads_72 : decode cX7_leads 72 = .ok (.invokestatic 21, 3) := by decide +kernel
theorem dX7_leads_75 : decode cX7_leads 75 = .ok (.istore 7, 2) := by decide +kernel
theorem dX7_leads_77 : decode cX7_leads 77 = .ok (.aload_n 0, 1) := by decide +kernel
theorem dX7_leads_78 : decode cX7_leads 78 = .ok (.iload 5, 2) := by decide +kernel
theorem dX7_leads_80 : decode cX7_leads 80 = .ok (.iload 6, 2) := by decide +kernel
theorem dX7_leads_82 : decode cX7_leads 82 = .ok (.invokestatic 66, 3) := by decide +kernel
theorem dX7_leads_85 : decode cX7_leads 85 = .ok (.invokevirtual 62, 3) := by decide +kernel
theorem dX7_leads_88 : decode cX7_leads 88 = .ok (.iload 7, 2) := by decide +kernel
theorem dX7_leads_90 : decode cX7_leads 90 = .ok (.ireturn, 1) := by decide +kernel
theorem dX8_init_0 : decode cX8_init 0 = .ok (.aload_n 0, 1) := by decide +kernel
theorem dX8_init_1 : decode cX8_init 1 = .ok (.invokespecial 3, 3) := by decide +kernel
theorem dX8_init_4 : decode cX8_init 4 = .ok (.aload_n 0, 1) := by decide +kernel
theorem dX8_init_5 : decode cX8_init 5 = .ok (.bipush 16, 2) := by decide +kernel
theorem dX8_init_7 : decode cX8_init 7 = .ok (.newarray .int, 2) := by decide +kernel
theorem dX8_init_9 : decode cX8_init 9 = .ok (.putfield 9, 3) := by decide +kernel
theorem dX8_init_12 : decode cX8_init 12 = .ok (.aload_n 0, 1) := by decide +kernel
theorem dX8_init_13 : decode cX8_init 13 = .ok (.bipush 16, 2) := by decide +kernel
theorem dX8_init_15 : decode cX8_init 15 = .ok (.newarray .int, 2) := by decide +kernel
theorem dX8_init_17 : decode cX8_init 17 = .ok (.putfield 15, 3) := by decide +kernel
theorem dX8_init_20 : decode cX8_init 20 = .ok (.return_, 1) := by decide +kernel
theorem dX8_pairsUnder_0 : decode cX8_pairsUnder 0 = .ok (.iconst 0, 1) := by decide +kernel
theorem dX8_pairsUnder_1 : decode cX8_pairsUnder 1 = .ok (.istore_n 2, 1) := by decide +kernel
theorem dX8_pairsUnder_2 : decode cX8_pairsUnder 2 = .ok (.iconst 0, 1) := by decide +kernel
theorem dX8_pairsUnder_3 : decode cX8_pairsUnder 3 = .ok (.istore_n 3, 1) := by decide +kernel
theorem dX8_pairsUnder_4 : decode cX8_pairsUnder 4 = .ok (.iload_n 3, 1) := by decide +kernel
theorem dX8_pairsUnder_5 : decode cX8_pairsUnder 5 = .ok (.bipush 6, 2) := by decide +kernel
theorem dX8_pairsUnder_7 : decode cX8_pairsUnder 7 = .ok (.if_icmp .ge 83, 3) := by decide +kernel
theorem dX8_pairsUnder_10 : decode cX8_pairsUnder 10 = .ok (.iconst 0, 1) := by decide +kernel
theorem dX8_pairsUnder_11 : decode cX8_pairsUnder 11 = .ok (.istore 4, 2) := by decide +kernel
theorem dX8_pairsUnder_13 : decode cX8_pairsUnder 13 = .ok (.aload_n 0, 1) := by decide +kernel
theorem dX8_pairsUnder_14 : decode cX8_pairsUnder 14 = .ok (.iload_n 3, 1) := by decide +kernel
theorem dX8_pairsUnder_15 : decode cX8_pairsUnder 15 = .ok (.invokevirtual 18, 3) := by decide +kernel
theorem dX8_pairsUnder_18 : decode cX8_pairsUnder 18 = .ok (.istore 5, 2) := by decide +kernel
theorem dX8_pairsUnder_20 : decode cX8_pairsUnder 20 = .ok (.iconst 0, 1) := by decide +kernel
theorem dX8_pairsUnder_21 : decode cX8_pairsUnder 21 = .ok (.istore 6, 2) := by decide +kernel
theorem dX8_pairsUnder_23 : decode cX8_pairsUnder 23 = .ok (.iload 6, 2) := by decide +kernel
theorem dX8_pairsUnder_25 : decode cX8_pairsUnder 25 = .ok (.bipush 12, 2) := by decide +kernel
theorem dX8_pairsUnder_27 : decode cX8_pairsUnder 27 = .ok (.if_icmp .ge 57, 3) := by decide +kernel
theorem dX8_pairsUnder_30 : decode cX8_pairsUnder 30 = .ok (.aload_n 0, 1) := by decide +kernel
theorem dX8_pairsUnder_31 : decode cX8_pairsUnder 31 = .ok (.iload 5, 2) := by decide +kernel
theorem dX8_pairsUnder_33 : decode cX8_pairsUnder 33 = .ok (.invokevirtual 24, 3) := by decide +kernel
theorem dX8_pairsUnder_36 : decode cX8_pairsUnder 36 = .ok (.ifCond .eq 48, 3) := by decide +kernel
theorem dX8_pairsUnder_39 : decode cX8_pairsUnder 39 = .ok (.aload_n 0, 1) := by decide +kernel
theorem dX8_pairsUnder_40 : decode cX8_pairsUnder 40 = .ok (.iload 5, 2) := by decide +kernel
theorem dX8_pairsUnder_42 : decode cX8_pairsUnder 42 = .ok (.invokevirtual 28, 3) := by decide +kernel
theorem dX8_pairsUnder_45 : decode cX8_pairsUnder 45 = .ok (.istore 7, 2) := by decide +kernel
theorem dX8_pairsUnder_47 : decode cX8_pairsUnder 47 = .ok (.iload 7, 2) := by decide +kernel
theorem dX8_pairsUnder_49 : decode cX8_pairsUnder 49 = .ok (.iload_n 1, 1) := by decide +kernel
theorem dX8_pairsUnder_50 : decode cX8_pairsUnder 50 = .ok (.if_icmp .ne 11, 3) := by decide +kernel
theorem dX8_pairsUnder_53 : decode cX8_pairsUnder 53 = .ok (.iload_n 2, 1) := by decide +kernel
theorem dX8_pairsUnder_54 : decode cX8_pairsUnder 54 = .ok (.iload 4, 2) := by decide +kernel
theorem dX8_pairsUnder_56 : decode cX8_pairsUnder 56 = .ok (.iadd, 1) := by decide +kernel
theorem dX8_pairsUnder_57 : decode cX8_pairsUnder 57 = .ok (.istore_n 2, 1) := by decide +kernel
theorem dX8_pairsUnder_58 : decode cX8_pairsUnder 58 = .ok (.goto 12, 3) := by decide +kernel
theorem dX8_pairsUnder_61 : decode cX8_pairsUnder 61 = .ok (.iload 7, 2) := by decide +kernel
theorem dX8_pairsUnder_63 : decode cX8_pairsUnder 63 = .ok (.iconst 4, 1) := by decide +kernel
theorem dX8_pairsUnder_64 : decode cX8_pairsUnder 64 = .ok (.if_icmp .eq 6, 3) := by decide +kernel
theorem dX8_pairsUnder_67 : decode cX8_pairsUnder 67 = .ok (.iinc 4 1, 3) := by decide +kernel
theorem dX8_pairsUnder_70 : decode cX8_pairsUnder 70 = .ok (.aload_n 0, 1) := by decide +kernel
theorem dX8_pairsUnder_71 : decode cX8_pairsUnder 71 = .ok (.iload 5, 2) := by decide +kernel
theorem dX8_pairsUnder_73 : decode cX8_pairsUnder 73 = .ok (.invokevirtual 31, 3) := by decide +kernel
theorem dX8_pairsUnder_76 : decode cX8_pairsUnder 76 = .ok (.istore 5, 2) := by decide +kernel
theorem dX8_pairsUnder_78 : decode cX8_pairsUnder 78 = .ok (.iinc 6 1, 3) := by decide +kernel
theorem dX8_pairsUnder_81 : decode cX8_pairsUnder 81 = .ok (.goto (-58), 3) := by decide +kernel
theorem dX8_pairsUnder_84 : decode cX8_pairsUnder 84 = .ok (.iinc 3 1, 3) := by decide +kernel
theorem dX8_pairsUnder_87 : decode cX8_pairsUnder 87 = .ok (.goto (-83), 3) := by decide +kernel
theorem dX8_pairsUnder_90 : decode cX8_pairsUnder 90 = .ok (.iload_n 2, 1) := by decide +kernel
theorem dX8_pairsUnder_91 : decode cX8_pairsUnder 91 = .ok (.ireturn, 1) := by decide +kernel
theorem dX8_fewestAstray_0 : decode cX8_fewestAstray 0 = .ok (.aload_n 0, 1) := by decide +kernel
theorem dX8_fewestAstray_1 : decode cX8_fewestAstray 1 = .ok (.getfield 9, 3) := by decide +kernel
theorem dX8_fewestAstray_4 : decode cX8_fewestAstray 4 = .ok (.sipush 1000, 3) := by decide +kernel
theorem dX8_fewestAstray_7 : decode cX8_fewestAstray 7 = .ok (.invokestatic 34, 3) := by decide +kernel
theorem dX8_fewestAstray_10 : decode cX8_fewestAstray 10 = .ok (.aload_n 0, 1) := by decide +kernel
theorem dX8_fewestAstray_11 : decode cX8_fewestAstray 11 = .ok (.getfield 9, 3) := by decide +kernel
theorem dX8_fewestAstray_14 : decode cX8_fewestAstray 14 = .ok (.iconst 0, 1) := by decide +kernel
theorem dX8_fewestAstray_15 : decode cX8_fewestAstray 15 = .ok (.iconst 0, 1) := by decide +kernel
theorem dX8_fewestAstray_16 : decode cX8_fewestAstray 16 = .ok (.iastore, 1) := by decide +kernel
theorem dX8_fewestAstray_17 : decode cX8_fewestAstray 17 = .ok (.iconst 0, 1) := by decide +kernel
theorem dX8_fewestAstray_18 : decode cX8_fewestAstray 18 = .ok (.istore_n 2, 1) := by decide +kernel
theorem dX8_fewestAstray_19 : decode cX8_fewestAstray 19 = .ok (.iload_n 2, 1) := by decide +kernel
theorem dX8_fewestAstray_20 : decode cX8_fewestAstray 20 = .ok (.bipush 6, 2) := by decide +kernel
theorem dX8_fewestAstray_22 : decode cX8_fewestAstray 22 = .ok (.if_icmp .ge 15, 3) := by decide +kernel
theorem dX8_fewestAstray_25 : decode cX8_fewestAstray 25 = .ok (.aload_n 0, 1) := by decide +kernel
theorem dX8_fewestAstray_26 : decode cX8_fewestAstray 26 = .ok (.aload_n 1, 1) := by decide +kernel
theorem dX8_fewestAstray_27 : decode cX8_fewestAstray 27 = .ok (.iload_n 2, 1) := by decide +kernel
theorem dX8_fewestAstray_28 : decode cX8_fewestAstray 28 = .ok (.invokevirtual 40, 3) := by decide +kernel
theorem dX8_fewestAstray_31 : decode cX8_fewestAstray 31 = .ok (.iinc 2 1, 3) := by decide +kernel
theorem dX8_fewestAstray_34 : decode cX8_fewestAstray 34 = .ok (.goto (-15), 3) := by decide +kernel
theorem dX8_fewestAstray_37 : decode cX8_fewestAstray 37 = .ok (.aload_n 1, 1) := by decide +kernel
theorem dX8_fewestAstray_38 : decode cX8_fewestAstray 38 = .ok (.invokestatic 44, 3) := by decide +kernel
theorem dX8_fewestAstray_41 : decode cX8_fewestAstray 41 = .ok (.istore_n 2, 1) := by decide +kernel
theorem dX8_fewestAstray_42 : decode cX8_fewestAstray 42 = .ok (.sipush 1000, 3) := by decide +kernel
theorem dX8_fewestAstray_45 : decode cX8_fewestAstray 45 = .ok (.istore_n 3, 1) := by decide +kernel
theorem dX8_fewestAstray_46 : decode cX8_fewestAstray 46 = .ok (.iconst 0, 1) := by decide +kernel
theorem dX8_fewestAstray_47 : decode cX8_fewestAstray 47 = .ok (.istore 4, 2) := by decide +kernel
theorem dX8_fewestAstray_49 : decode cX8_fewestAstray 49 = .ok (.iload 4, 2) := by decide +kernel
theorem dX8_fewestAstray_51 : decode cX8_fewestAstray 51 = .ok (.bipush 16, 2) := by decide +kernel
theorem dX8_fewestAstray_53 : decode cX8_fewestAstray 53 = .ok (.if_icmp .ge 29, 3) := by decide +kernel
theorem dX8_fewestAstray_56 : decode cX8_fewestAstray 56 = .ok (.iload 4, 2) := by decide +kernel
theorem dX8_fewestAstray_58 : decode cX8_fewestAstray 58 = .ok (.iload_n 2, 1) := by decide +kernel
theorem dX8_fewestAstray_59 : decode cX8_fewestAstray 59 = .ok (.iand, 1) := by decide +kernel
theorem dX8_fewestAstray_60 : decode cX8_fewestAstray 60 = .ok (.iload_n 2, 1) := by decide +kernel
theorem dX8_fewestAstray_61 : decode cX8_fewestAstray 61 = .ok (.if_icmp .ne 15, 3) := by decide +kernel
theorem dX8_fewestAstray_64 : decode cX8_fewestAstray 64 = .ok (.iload_n 3, 1) := by decide +kernel
theorem dX8_fewestAstray_65 : decode cX8_fewestAstray 65 = .ok (.aload_n 0, 1) := by decide +kernel
theorem dX8_fewestAstray_66 : decode cX8_fewestAstray 66 = .ok (.getfield 9, 3) := by decide +kernel
theorem dX8_fewestAstray_69 : decode cX8_fewestAstray 69 = .ok (.iload 4, 2) := by decide +kernel
theorem dX8_fewestAstray_71 : decode cX8_fewestAstray 71 = .ok (.iaload, 1) := by decide +kernel
theorem dX8_fewestAstray_72 : decode cX8_fewestAstray 72 = .ok (.invokestatic 48, 3) := by decide +kernel
theorem dX8_fewestAstray_75 : decode cX8_fewestAstray 75 = .ok (.istore_n 3, 1) := by decide +kernel
theorem dX8_fewestAstray_76 : decode cX8_fewestAstray 76 = .ok (.iinc 4 1, 3) := by decide +kernel
theorem dX8_fewestAstray_79 : decode cX8_fewestAstray 79 = .ok (.goto (-30), 3) := by decide +kernel
theorem dX8_fewestAstray_82 : decode cX8_fewestAstray 82 = .ok (.iload_n 3, 1) := by decide +kernel
theorem dX8_fewestAstray_83 : decode cX8_fewestAstray 83 = .ok (.ireturn, 1) := by decide +kernel
theorem dX8_give_0 : decode cX8_give 0 = .ok (.aload_n 0, 1) := by decide +kernel
theorem dX8_give_1 : decode cX8_give 1 = .ok (.getfield 15, 3) := by decide +kernel
theorem dX8_give_4 : decode cX8_give 4 = .ok (.sipush 1000, 3) := by decide +kernel
theorem dX8_give_7 : decode cX8_give 7 = .ok (.invokestatic 34, 3) := by decide +kernel
theorem dX8_give_10 : decode cX8_give 10 = .ok (.iconst 0, 1) := by decide +kernel
theorem dX8_give_11 : decode cX8_give 11 = .ok (.istore_n 3, 1) := by decide +kernel
theorem dX8_give_12 : decode cX8_give 12 = .ok (.iload_n 3, 1) := by decide +kernel
theorem dX8_give_13 : decode cX8_give 13 = .ok (.iconst 4, 1) := by decide +kernel
theorem dX8_give_14 : decode cX8_give 14 = .ok (.if_icmp .ge 71, 3) := by decide +kernel
theorem dX8_give_17 : decode cX8_give 17 = .ok (.aload_n 1, 1) := by decide +kernel
theorem dX8_give_18 : decode cX8_give 18 = .ok (.iload_n 2, 1) := by decide +kernel
theorem dX8_give_19 : decode cX8_give 19 = .ok (.iload_n 3, 1) := by decide +kernel
theorem dX8_give_20 : decode cX8_give 20 = .ok (.invokestatic 54, 3) := by decide +kernel
theorem dX8_give_23 : decode cX8_give 23 = .ok (.istore 4, 2) := by decide +kernel
theorem dX8_give_25 : decode cX8_give 25 = .ok (.iconst 0, 1) := by decide +kernel
theorem dX8_give_26 : decode cX8_give 26 = .ok (.istore 5, 2) := by decide +kernel
theorem dX8_give_28 : decode cX8_give 28 = .ok (.iload 5, 2) := by decide +kernel
theorem dX8_give_30 : decode cX8_give 30 = .ok (.bipush 16, 2) := by decide +kernel
theorem dX8_give_32 : decode cX8_give 32 = .ok (.if_icmp .ge 47, 3) := by decide +kernel
theorem dX8_give_35 : decode cX8_give 35 = .ok (.iload 5, 2) := by decide +kernel
theorem dX8_give_37 : decode cX8_give 37 = .ok (.iconst 1, 1) := by decide +kernel
theorem dX8_give_38 : decode cX8_give 38 = .ok (.iload_n 3, 1) := by decide +kernel
theorem dX8_give_39 : decode cX8_give 39 = .ok (.ishl, 1) := by decide +kernel
theorem dX8_give_40 : decode cX8_give 40 = .ok (.ior, 1) := by decide +kernel
theorem dX8_give_41 : decode cX8_give 41 = .ok (.bipush 15, 2) := by decide +kernel
theorem dX8_give_43 : decode cX8_give 43 = .ok (.iand, 1) := by decide +kernel
theorem dX8_give_44 : decode cX8_give 44 = .ok (.istore 6, 2) := by decide +kernel
theorem dX8_give_46 : decode cX8_give 46 = .ok (.aload_n 0, 1) := by decide +kernel
theorem dX8_give_47 : decode cX8_give 47 = .ok (.getfield 15, 3) := by decide +kernel
theorem dX8_give_50 : decode cX8_give 50 = .ok (.iload 6, 2) := by decide +kernel
theorem dX8_give_52 : decode cX8_give 52 = .ok (.aload_n 0, 1) := by decide +kernel
theorem dX8_give_53 : decode cX8_give 53 = .ok (.getfield 15, 3) := by decide +kernel
theorem dX8_give_56 : decode cX8_give 56 = .ok (.iload 6, 2) := by decide +kernel
theorem dX8_give_58 : decode cX8_give 58 = .ok (.iaload, 1) := by decide +kernel
theorem dX8_give_59 : decode cX8_give 59 = .ok (.aload_n 0, 1) := by decide +kernel
theorem dX8_give_60 : decode cX8_give 60 = .ok (.getfield 9, 3) := by decide +kernel
theorem dX8_give_63 : decode cX8_give 63 = .ok (.iload 5, 2) := by decide +kernel
theorem dX8_give_65 : decode cX8_give 65 = .ok (.iaload, 1) := by decide +kernel
theorem dX8_give_66 : decode cX8_give 66 = .ok (.iload 4, 2) := by decide +kernel
theorem dX8_give_68 : decode cX8_give 68 = .ok (.iadd, 1) := by decide +kernel
theorem dX8_give_69 : decode cX8_give 69 = .ok (.invokestatic 48, 3) := by decide +kernel
theorem dX8_give_72 : decode cX8_give 72 = .ok (.iastore, 1) := by decide +kernel
theorem dX8_give_73 : decode cX8_give 73 = .ok (.iinc 5 1, 3) := by decide +kernel
theorem dX8_give_76 : decode cX8_give 76 = .ok (.goto (-48), 3) := by decide +kernel
theorem dX8_give_79 : decode cX8_give 79 = .ok (.iinc 3 1, 3) := by decide +kernel
theorem dX8_give_82 : decode cX8_give 82 = .ok (.goto (-70), 3) := by decide +kernel
theorem dX8_give_85 : decode cX8_give 85 = .ok (.aload_n 0, 1) := by decide +kernel
theorem dX8_give_86 : decode cX8_give 86 = .ok (.getfield 15, 3) := by decide +kernel
theorem dX8_give_89 : decode cX8_give 89 = .ok (.iconst 0, 1) := by decide +kernel
theorem dX8_give_90 : decode cX8_give 90 = .ok (.aload_n 0, 1) := by decide +kernel
theorem dX8_give_91 : decode cX8_give 91 = .ok (.getfield 9, 3) := by decide +kernel
theorem dX8_give_94 : decode cX8_give 94 = .ok (.iconst 0, 1) := by decide +kernel
theorem dX8_give_95 : decode cX8_give 95 = .ok (.bipush 16, 2) := by decide +kernel
theorem dX8_give_97 : decode cX8_give 97 = .ok (.invokestatic 58, 3) := by decide +kernel
theorem dX8_give_100 : decode cX8_give 100 = .ok (.return_, 1) := by decide +kernel
theorem dX8_astrayIn_0 : decode cX8_astrayIn 0 = .ok (.iconst 0, 1) := by decide +kernel
theorem dX8_astrayIn_1 : decode cX8_astrayIn 1 = .ok (.istore_n 3, 1) := by decide +kernel
theorem dX8_astrayIn_2 : decode cX8_astrayIn 2 = .ok (.iconst 0, 1) := by decide +kernel
theorem dX8_astrayIn_3 : decode cX8_astrayIn 3 = .ok (.istore 4, 2) := by decide +kernel
theorem dX8_astrayIn_5 : decode cX8_astrayIn 5 = .ok (.iload 4, 2) := by decide +kernel
theorem dX8_astrayIn_7 : decode cX8_astrayIn 7 = .ok (.aload_n 0, 1) := by decide +kernel
theorem dX8_astrayIn_8 : decode cX8_astrayIn 8 = .ok (.invokevirtual 64, 3) := by decide +kernel
theorem dX8_astrayIn_11 : decode cX8_astrayIn 11 = .ok (.if_icmp .ge 42, 3) := by decide +kernel
theorem dX8_astrayIn_14 : decode cX8_astrayIn 14 = .ok (.aload_n 0, 1) := by decide +kernel
theorem dX8_astrayIn_15 : decode cX8_astrayIn 15 = .ok (.iload 4, 2) := by decide +kernel
theorem dX8_astrayIn_17 : decode cX8_astrayIn 17 = .ok (.invokevirtual 28, 3) := by decide +kernel
theorem dX8_astrayIn_20 : decode cX8_astrayIn 20 = .ok (.istore 5, 2) := by decide +kernel
theorem dX8_astrayIn_22 : decode cX8_astrayIn 22 = .ok (.aload_n 0, 1) := by decide +kernel
theorem dX8_astrayIn_23 : decode cX8_astrayIn 23 = .ok (.iload 4, 2) := by decide +kernel
theorem dX8_astrayIn_25 : decode cX8_astrayIn 25 = .ok (.invokevirtual 68, 3) := by decide +kernel
theorem dX8_astrayIn_28 : decode cX8_astrayIn 28 = .ok (.iload_n 1, 1) := by decide +kernel
theorem dX8_astrayIn_29 : decode cX8_astrayIn 29 = .ok (.if_icmp .ne 18, 3) := by decide +kernel
theorem dX8_astrayIn_32 : decode cX8_astrayIn 32 = .ok (.iload 5, 2) := by decide +kernel
theorem dX8_astrayIn_34 : decode cX8_astrayIn 34 = .ok (.iload_n 2, 1) := by decide +kernel
theorem dX8_astrayIn_35 : decode cX8_astrayIn 35 = .ok (.if_icmp .eq 12, 3) := by decide +kernel
theorem dX8_astrayIn_38 : decode cX8_astrayIn 38 = .ok (.iload 5, 2) := by decide +kernel
theorem dX8_astrayIn_40 : decode cX8_astrayIn 40 = .ok (.iconst 4, 1) := by decide +kernel
theorem dX8_astrayIn_41 : decode cX8_astrayIn 41 = .ok (.if_icmp .eq 6, 3) := by decide +kernel
theorem dX8_astrayIn_44 : decode cX8_astrayIn 44 = .ok (.iinc 3 1, 3) := by decide +kernel
theorem dX8_astrayIn_47 : decode cX8_astrayIn 47 = .ok (.iinc 4 1, 3) := by decide +kernel
theorem dX8_astrayIn_50 : decode cX8_astrayIn 50 = .ok (.goto (-45), 3) := by decide +kernel
theorem dX8_astrayIn_53 : decode cX8_astrayIn 53 = .ok (.iload_n 3, 1) := by decide +kernel
theorem dX8_astrayIn_54 : decode cX8_astrayIn 54 = .ok (.ireturn, 1) := by decide +kernel
theorem dX8_townsInPlaces_0 : decode cX8_townsInPlaces 0 = .ok (.iconst 0, 1) := by decide +kernel
theorem dX8_townsInPlaces_1 : decode cX8_townsInPlaces 1 = .ok (.istore_n 1, 1) := by decide +kernel
theorem dX8_townsInPlaces_2 : decode cX8_townsInPlaces 2 = .ok (.iconst 0, 1) := by decide +kernel
theorem dX8_townsInPlaces_3 : decode cX8_townsInPlaces 3 = .ok (.istore_n 2, 1) := by decide +kernel
theorem dX8_townsInPlaces_4 : decode cX8_townsInPlaces 4 = .ok (.iload_n 2, 1) := by decide +kernel
theorem dX8_townsInPlaces_5 : decode cX8_townsInPlaces 5 = .ok (.aload_n 0, 1) := by decide +kernel
theorem dX8_townsInPlaces_6 : decode cX8_townsInPlaces 6 = .ok (.invokevirtual 64, 3) := by decide +kernel
theorem dX8_townsInPlaces_9 : decode cX8_townsInPlaces 9 = .ok (.if_icmp .ge 37, 3) := by decide +kernel
theorem dX8_townsInPlaces_12 : decode cX8_townsInPlaces 12 = .ok (.aload_n 0, 1) := by decide +kernel
theorem dX8_townsInPlaces_13 : decode cX8_townsInPlaces 13 = .ok (.iload_n 2, 1) := by decide +kernel
theorem dX8_townsInPlaces_14 : decode cX8_townsInPlaces 14 = .ok (.invokevirtual 28, 3) := by decide +kernel
theorem dX8_townsInPlaces_17 : decode cX8_townsInPlaces 17 = .ok (.istore_n 3, 1) := by decide +kernel
theorem dX8_townsInPlaces_18 : decode cX8_townsInPlaces 18 = .ok (.aload_n 0, 1) := by decide +kernel
theorem dX8_townsInPlaces_19 : decode cX8_townsInPlaces 19 = .ok (.iload_n 2, 1) := by decide +kernel
theorem dX8_townsInPlaces_20 : decode cX8_townsInPlaces 20 = .ok (.invokevirtual 68, 3) := by decide +kernel
theorem dX8_townsInPlaces_23 : decode cX8_townsInPlaces 23 = .ok (.invokestatic 71, 3) := by decide +kernel
theorem dX8_townsInPlaces_26 : decode cX8_townsInPlaces 26 = .ok (.ifCond .eq 14, 3) := by decide +kernel
theorem dX8_townsInPlaces_29 : decode cX8_townsInPlaces 29 = .ok (.iload_n 3, 1) := by decide +kernel
theorem dX8_townsInPlaces_30 : decode cX8_townsInPlaces 30 = .ok (.iconst 4, 1) := by decide +kernel
theorem dX8_townsInPlaces_31 : decode cX8_townsInPlaces 31 = .ok (.if_icmp .eq 9, 3) := by decide +kernel
theorem dX8_townsInPlaces_34 : decode cX8_townsInPlaces 34 = .ok (.iload_n 1, 1) := by decide +kernel
theorem dX8_townsInPlaces_35 : decode cX8_townsInPlaces 35 = .ok (.iconst 1, 1) := by decide +kernel
theorem dX8_townsInPlaces_36 : decode cX8_townsInPlaces 36 = .ok (.iload_n 3, 1) := by decide +kernel
theorem dX8_townsInPlaces_37 : decode cX8_townsInPlaces 37 = .ok (.ishl, 1) := by decide +kernel
theorem dX8_townsInPlaces_38 : decode cX8_townsInPlaces 38 = .ok (.ior, 1) := by decide +kernel
theorem dX8_townsInPlaces_39 : decode cX8_townsInPlaces 39 = .ok (.istore_n 1, 1) := by decide +kernel
theorem dX8_townsInPlaces_40 : decode cX8_townsInPlaces 40 = .ok (.iinc 2 1, 3) := by decide +kernel
theorem dX8_townsInPlaces_43 : decode cX8_townsInPlaces 43 = .ok (.goto (-39), 3) := by decide +kernel
theorem dX8_townsInPlaces_46 : decode cX8_townsInPlaces 46 = .ok (.iload_n 1, 1) := by decide +kernel
theorem dX8_townsInPlaces_47 : decode cX8_townsInPlaces 47 = .ok (.ireturn, 1) := by decide +kernel
theorem dX9_init_0 : decode cX9_init 0 = .ok (.aload_n 0, 1) := by decide +kernel
theorem dX9_init_1 : decode cX9_init 1 = .ok (.invokespecial 1, 3) := by decide +kernel
theorem dX9_init_4 : decode cX9_init 4 = .ok (.aload_n 0, 1) := by decide +kernel
theorem dX9_init_5 : decode cX9_init 5 = .ok (.new 7, 3) := by decide +kernel
theorem dX9_init_8 : decode cX9_init 8 = .ok (.dup, 1) := by decide +kernel
theorem dX9_init_9 : decode cX9_init 9 = .ok (.invokespecial 9, 3) := by decide +kernel
theorem dX9_init_12 : decode cX9_init 12 = .ok (.putfield 10, 3) := by decide +kernel
theorem dX9_init_15 : decode cX9_init 15 = .ok (.aload_n 0, 1) := by decide +kernel
theorem dX9_init_16 : decode cX9_init 16 = .ok (.new 7, 3) := by decide +kernel
theorem dX9_init_19 : decode cX9_init 19 = .ok (.dup, 1) := by decide +kernel
theorem dX9_init_20 : decode cX9_init 20 = .ok (.invokespecial 9, 3) := by decide +kernel
theorem dX9_init_23 : decode cX9_init 23 = .ok (.putfield 16, 3) := by decide +kernel
theorem dX9_init_26 : decode cX9_init 26 = .ok (.aload_n 0, 1) := by decide +kernel
theorem dX9_init_27 : decode cX9_init 27 = .ok (.new 19, 3) := by decide +kernel
theorem dX9_init_30 : decode cX9_init 30 = .ok (.dup, 1) := by decide +kernel
theorem dX9_init_31 : decode cX9_init 31 = .ok (.invokespecial 21, 3) := by decide +kernel
theorem dX9_init_34 : decode cX9_init 34 = .ok (.putfield 22, 3) := by decide +kernel
theorem dX9_init_37 : decode cX9_init 37 = .ok (.aload_n 0, 1) := by decide +kernel
theorem dX9_init_38 : decode cX9_init 38 = .ok (.new 26, 3) := by decide +kernel
theorem dX9_init_41 : decode cX9_init 41 = .ok (.dup, 1) := by decide +kernel
theorem dX9_init_42 : decode cX9_init 42 = .ok (.invokespecial 28, 3) := by decide +kernel
theorem dX9_init_45 : decode cX9_init 45 = .ok (.putfield 29, 3) := by decide +kernel
theorem dX9_init_48 : decode cX9_init 48 = .ok (.aload_n 0, 1) := by decide +kernel
theorem dX9_init_49 : decode cX9_init 49 = .ok (.new 33, 3) := by decide +kernel
theorem dX9_init_52 : decode cX9_init 52 = .ok (.dup, 1) := by decide +kernel
theorem dX9_init_53 : decode cX9_init 53 = .ok (.invokespecial 35, 3) := by decide +kernel
theorem dX9_init_56 : decode cX9_init 56 = .ok (.putfield 36, 3) := by decide +kernel
theorem dX9_init_59 : decode cX9_init 59 = .ok (.aload_n 0, 1) := by decide +kernel
theorem dX9_init_60 : decode cX9_init 60 = .ok (.new 40, 3) := by decide +kernel
theorem dX9_init_63 : decode cX9_init 63 = .ok (.dup, 1) := by decide +kernel
theorem dX9_init_64 : decode cX9_init 64 = .ok (.invokespecial 42, 3) := by decide +kernel
theorem dX9_init_67 : decode cX9_init 67 = .ok (.putfield 43, 3) := by decide +kernel
theorem dX9_init_70 : decode cX9_init 70 = .ok (.aload_n 0, 1) := by decide +kernel
theorem dX9_init_71 : decode cX9_init 71 = .ok (.new 47, 3) := by decide +kernel
theorem dX9_init_74 : decode cX9_init 74 = .ok (.dup, 1) := by decide +kernel
theorem dX9_init_75 : decode cX9_init 75 = .ok (.invokespecial 49, 3) := by decide +kernel
theorem dX9_init_78 : decode cX9_init 78 = .ok (.putfield 50, 3) := by decide +kernel
theorem dX9_init_81 : decode cX9_init 81 = .ok (.aload_n 0, 1) := by decide +kernel
theorem dX9_init_82 : decode cX9_init 82 = .ok (.iconst 4, 1) := by decide +kernel
theorem dX9_init_83 : decode cX9_init 83 = .ok (.anewarray 54, 3) := by decide +kernel
theorem dX9_init_86 : decode cX9_init 86 = .ok (.putfield 56, 3) := by decide +kernel
theorem dX9_init_89 : decode cX9_init 89 = .ok (.iconst 0, 1) := by decide +kernel
theorem dX9_init_90 : decode cX9_init 90 = .ok (.istore_n 1, 1) := by decide +kernel
theorem dX9_init_91 : decode cX9_init 91 = .ok (.iload_n 1, 1) := by decide +kernel
theorem dX9_init_92 : decode cX9_init 92 = .ok (.aload_n 0, 1) := by decide +kernel
theorem dX9_init_93 : decode cX9_init 93 = .ok (.getfield 56, 3) := by decide +kernel
theorem dX9_init_96 : decode cX9_init 96 = .ok (.arraylength, 1) := by decide +kernel
theorem dX9_init_97 : decode cX9_init 97 = .ok (.if_icmp .ge 22, 3) := by decide +kernel
theorem dX9_init_100 : decode cX9_init 100 = .ok (.aload_n 0, 1) := by decide +kernel
theorem dX9_init_101 : decode cX9_init 101 = .ok (.getfield 56, 3) := by decide +kernel
theorem dX9_init_104 : decode cX9_init 104 = .ok (.iload_n 1, 1) := by decide +kernel
theorem dX9_init_105 : decode cX9_init 105 = .ok (.new 54, 3) := by decide +kernel
theorem dX9_init_108 : decode cX9_init 108 = .ok (.dup, 1) := by decide +kernel
theorem dX9_init_109 : decode cX9_init 109 = .ok (.invokespecial 60, 3) := by decide +kernel
theorem dX9_init_112 : decode cX9_init 112 = .ok (.aastore, 1) := by decide +kernel
theorem dX9_init_113 : decode cX9_init 113 = .ok (.iinc 1 1, 3) := by decide +kernel
theorem dX9_init_116 : decode cX9_init 116 = .ok (.goto (-25), 3) := by decide +kernel
theorem dX9_init_119 : decode cX9_init 119 = .ok (.return_, 1) := by decide +kernel
theorem dX9_piece_0 : decode cX9_piece 0 = .ok (.iload_n 1, 1) := by decide +kernel
theorem dX9_piece_1 : decode cX9_piece 1 = .ok (.iconst 0, 1) := by decide +kernel
theorem dX9_piece_2 : decode cX9_piece 2 = .ok (.iconst 3, 1) := by decide +kernel
theorem dX9_piece_3 : decode cX9_piece 3 = .ok (.invokestatic 61, 3) := by decide +kernel
theorem dX9_piece_6 : decode cX9_piece 6 = .ok (.ifCond .eq 31, 3) := by decide +kernel
theorem dX9_piece_9 : decode cX9_piece 9 = .ok (.iload_n 2, 1) := by decide +kernel
theorem dX9_piece_10 : decode cX9_piece 10 = .ok (.iconst 1, 1) := by decide +kernel
theorem dX9_piece_11 : decode cX9_piece 11 = .ok (.bipush 99, 2) := by decide +kernel
theorem dX9_piece_13 : decode cX9_piece 13 = .ok (.invokestatic 61, 3) := by decide +kernel
theorem dX9_piece_16 : decode cX9_piece 16 = .ok (.ifCond .eq 21, 3) := by decide +kernel
theorem dX9_piece_19 : decode cX9_piece 19 = .ok (.iload_n 3, 1) := by decide +kernel
theorem dX9_piece_20 : decode cX9_piece 20 = .ok (.invokestatic 65, 3) := by decide +kernel
theorem dX9_piece_23 : decode cX9_piece 23 = .ok (.ifCond .eq 14, 3) := by decide +kernel
theorem dX9_piece_26 : decode cX9_piece 26 = .ok (.iload 4, 2) := by decide +kernel
theorem dX9_piece_28 : decode cX9_piece 28 = .ok (.iconst 0, 1) := by decide +kernel
theorem dX9_piece_29 : decode cX9_piece 29 = .ok (.bipush 6, 2) := by decide +kernel
theorem dX9_piece_31 : decode cX9_piece 31 = .ok (.invokestatic 61, 3) := by decide +kernel
theorem dX9_piece_34 : decode cX9_piece 34 = .ok (.ifCond .ne 5, 3) := by decide +kernel
theorem dX9_piece_37 : decode cX9_piece 37 = .ok (.iconst (-1), 1) := by decide +kernel
theorem dX9_piece_38 : decode cX9_piece 38 = .ok (.ireturn, 1) := by decide +kernel
theorem dX9_piece_39 : decode cX9_piece 39 = .ok (.aload_n 0, 1) := by decide +kernel
theorem dX9_piece_40 : decode cX9_piece 40 = .ok (.getfield 10, 3) := by decide +kernel
theorem dX9_piece_43 : decode cX9_piece 43 = .ok (.iload_n 1, 1) := by decide +kernel
theorem dX9_piece_44 : decode cX9_piece 44 = .ok (.iload_n 2, 1) := by decide +kernel
theorem dX9_piece_45 : decode cX9_piece 45 = .ok (.iload_n 3, 1) := by decide +kernel
theorem dX9_piece_46 : decode cX9_piece 46 = .ok (.iload 4, 2) := by decide +kernel
theorem dX9_piece_48 : decode cX9_piece 48 = .ok (.invokevirtual 69, 3) := by decide +kernel
theorem dX9_piece_51 : decode cX9_piece 51 = .ok (.ireturn, 1) := by decide +kernel
theorem dX9_told_0 : decode cX9_told 0 = .ok (.aload_n 0, 1) := by decide +kernel
theorem dX9_told_1 : decode cX9_told 1 = .ok (.getfield 10, 3) := by decide +kernel
theorem dX9_told_4 : decode cX9_told 4 = .ok (.iload_n 1, 1) := by decide +kernel
theorem dX9_told_5 : decode cX9_told 5 = .ok (.invokevirtual 73, 3) := by decide +kernel
theorem dX9_told_8 : decode cX9_told 8 = .ok (.ifCond .ne 5, 3) := by decide +kernel
theorem dX9_told_11 : decode cX9_told 11 = .ok (.iconst (-1), 1) := by decide +kernel
theorem dX9_told_12 : decode cX9_told 12 = .ok (.ireturn, 1) := by decide +kernel
theorem dX9_told_13 : decode cX9_told 13 = .ok (.iload_n 2, 1) := by decide +kernel
theorem dX9_told_14 : decode cX9_told 14 = .ok (.tableswitch 79 0 4 #[34, 43, 52, 61, 70], 34) := by decide +kernel
theorem dX9_told_48 : decode cX9_told 48 = .ok (.aload_n 0, 1) := by decide +kernel
theorem dX9_told_49 : decode cX9_told 49 = .ok (.getfield 10, 3) := by decide +kernel
theorem dX9_told_52 : decode cX9_told 52 = .ok (.iload_n 1, 1) := by decide +kernel
theorem dX9_told_53 : decode cX9_told 53 = .ok (.invokevirtual 76, 3) := by decide +kernel
theorem dX9_told_56 : decode cX9_told 56 = .ok (.ireturn, 1) := by decide +kernel
theorem dX9_told_57 : decode cX9_told 57 = .ok (.aload_n 0, 1) := by decide +kernel
theorem dX9_told_58 : decode cX9_told 58 = .ok (.getfield 10, 3) := by decide +kernel
theorem dX9_told_61 : decode cX9_told 61 = .ok (.iload_n 1, 1) := by decide +kernel
theorem dX9_told_62 : decode cX9_told 62 = .ok (.invokevirtual 80, 3) := by decide +kernel
theorem dX9_told_65 : decode cX9_told 65 = .ok (.ireturn, 1) := by decide +kernel
theorem dX9_told_66 : decode cX9_told 66 = .ok (.aload_n 0, 1) := by decide +kernel
theorem dX9_told_67 : decode cX9_told 67 = .ok (.getfield 10, 3) := by decide +kernel
theorem dX9_told_70 : decode cX9_told 70 = .ok (.iload_n 1, 1) := by decide +kernel
theorem dX9_told_71 : decode cX9_told 71 = .ok (.invokevirtual 83, 3) := by decide +kernel
theorem dX9_told_74 : decode cX9_told 74 = .ok (.ireturn, 1) := by decide +kernel
theorem dX9_told_75 : decode cX9_told 75 = .ok (.aload_n 0, 1) := by decide +kernel
theorem dX9_told_76 : decode cX9_told 76 = .ok (.getfield 10, 3) := by decide +kernel
theorem dX9_told_79 : decode cX9_told 79 = .ok (.iload_n 1, 1) := by decide +kernel
theorem dX9_told_80 : decode cX9_told 80 = .ok (.invokevirtual 86, 3) := by decide +kernel
theorem dX9_told_83 : decode cX9_told 83 = .ok (.ireturn, 1) := by decide +kernel
theorem dX9_told_84 : decode cX9_told 84 = .ok (.aload_n 0, 1) := by decide +kernel
theorem dX9_told_85 : decode cX9_told 85 = .ok (.getfield 10, 3) := by decide +kernel
theorem dX9_told_88 : decode cX9_told 88 = .ok (.iload_n 1, 1) := by decide +kernel
theorem dX9_told_89 : decode cX9_told 89 = .ok (.invokevirtual 89, 3) := by decide +kernel
theorem dX9_told_92 : decode cX9_told 92 = .ok (.ireturn, 1) := by decide +kernel
theorem dX9_told_93 : decode cX9_told 93 = .ok (.iconst (-1), 1) := by decide +kernel
theorem dX9_told_94 : decode cX9_told 94 = .ok (.ireturn, 1) := by decide +kernel
theorem dX9_of_0 : decode cX9_of 0 = .ok (.iload_n 1, 1) := by decide +kernel
theorem dX9_of_1 : decode cX9_of 1 = .ok (.invokestatic 92, 3) := by decide +kernel
theorem dX9_of_4 : decode cX9_of 4 = .ok (.ifCond .ne 5, 3) := by decide +kernel
theorem dX9_of_7 : decode cX9_of 7 = .ok (.iconst (-1), 1) := by decide +kernel
theorem dX9_of_8 : decode cX9_of 8 = .ok (.ireturn, 1) := by decide +kernel
theorem dX9_of_9 : decode cX9_of 9 = .ok (.iload_n 2, 1) := by decide +kernel
theorem dX9_of_10 : decode cX9_of 10 = .ok (.tableswitch 66 0 3 #[30, 39, 48, 57], 30) := by decide +kernel
theorem dX9_of_40 : decode cX9_of 40 = .ok (.aload_n 0, 1) := by decide +kernel
theorem dX9_of_41 : decode cX9_of 41 = .ok (.getfield 10, 3) := by decide +kernel
theorem dX9_of_44 : decode cX9_of 44 = .ok (.iload_n 1, 1) := by decide +kernel
theorem dX9_of_45 : decode cX9_of 45 = .ok (.invokevirtual 95, 3) := by decide +kernel
theorem dX9_of_48 : decode cX9_of 48 = .ok (.ireturn, 1) := by decide +kernel
theorem dX9_of_49 : decode cX9_of 49 = .ok (.aload_n 0, 1) := by decide +kernel
theorem dX9_of_50 : decode cX9_of 50 = .ok (.getfield 10, 3) := by decide +kernel
theorem dX9_of_53 : decode cX9_of 53 = .ok (.iload_n 1, 1) := by decide +kernel
theorem dX9_of_54 : decode cX9_of 54 = .ok (.invokevirtual 98, 3) := by decide +kernel
theorem dX9_of_57 : decode cX9_of 57 = .ok (.ireturn, 1) := by decide +kernel
theorem dX9_of_58 : decode cX9_of 58 = .ok (.aload_n 0, 1) := by decide +kernel
theorem dX9_of_59 : decode cX9_of 59 = .ok (.getfield 10, 3) := by decide +kernel
theorem dX9_of_62 : decode cX9_of 62 = .ok (.iload_n 1, 1) := by decide +kernel
theorem dX9_of_63 : decode cX9_of 63 = .ok (.invokevirtual 101, 3) := by decide +kernel
theorem dX9_of_66 : decode cX9_of 66 = .ok (.ireturn, 1) := by decide +kernel
theorem dX9_of_67 : decode cX9_of 67 = .ok (.aload_n 0, 1) := by decide +kernel
theorem dX9_of_68 : decode cX9_of 68 = .ok (.getfield 10, 3) := by decide +kernel
theorem dX9_of_71 : decode cX9_of 71 = .ok (.iload_n 1, 1) := by decide +kernel
theorem dX9_of_72 : decode cX9_of 72 = .ok (.invokevirtual 104, 3) := by decide +kernel
theorem dX9_of_75 : decode cX9_of 75 = .ok (.ireturn, 1) := by decide +kernel
theorem dX9_of_76 : decode cX9_of 76 = .ok (.iconst (-1), 1) := by decide +kernel
theorem dX9_of_77 : decode cX9_of 77 = .ok (.ireturn, 1) := by decide +kernel
theorem dX9_sense_0 : decode cX9_sense 0 = .ok (.iload_n 1, 1) := by decide +kernel
theorem dX9_sense_1 : decode cX9_sense 1 = .ok (.invokestatic 92, 3) := by decide +kernel
theorem dX9_sense_4 : decode cX9_sense 4 = .ok (.ifCond .eq 13, 3) := by decide +kernel
theorem dX9_sense_7 : decode cX9_sense 7 = .ok (.iload_n 2, 1) := by decide +kernel
theorem dX9_sense_8 : decode cX9_sense 8 = .ok (.iconst 0, 1) := by decide +kernel
theorem dX9_sense_9 : decode cX9_sense 9 = .ok (.bipush 99, 2) := by decide +kernel
theorem dX9_sense_11 : decode cX9_sense 11 = .ok (.invokestatic 61, 3) := by decide +kernel
theorem dX9_sense_14 : decode cX9_sense 14 = .ok (.ifCond .ne 5, 3) := by decide +kernel
theorem dX9_sense_17 : decode cX9_sense 17 = .ok (.iconst (-1), 1) := by decide +kernel
theorem dX9_sense_18 : decode cX9_sense 18 = .ok (.ireturn, 1) := by decide +kernel
theorem dX9_sense_19 : decode cX9_sense 19 = .ok (.aload_n 0, 1) := by decide +kernel
theorem dX9_sense_20 : decode cX9_sense 20 = .ok (.getfield 10, 3) := by decide +kernel
theorem dX9_sense_23 : decode cX9_sense 23 = .ok (.iload_n 1, 1) := by decide +kernel
theorem dX9_sense_24 : decode cX9_sense 24 = .ok (.invokevirtual 101, 3) := by decide +kernel
theorem dX9_sense_27 : decode cX9_sense 27 = .ok (.istore_n 3, 1) := by decide +kernel
theorem dX9_sense_28 : decode cX9_sense 28 = .ok (.aload_n 0, 1) := by decide +kernel
theorem dX9_sense_29 : decode cX9_sense 29 = .ok (.getfield 10, 3) := by decide +kernel
theorem dX9_sense_32 : decode cX9_sense 32 = .ok (.iload_n 1, 1) := by decide +kernel
theorem dX9_sense_33 : decode cX9_sense 33 = .ok (.iload_n 2, 1) := by decide +kernel
theorem dX9_sense_34 : decode cX9_sense 34 = .ok (.invokevirtual 107, 3) := by decide +kernel
theorem dX9_sense_37 : decode cX9_sense 37 = .ok (.iload_n 3, 1) := by decide +kernel
theorem dX9_sense_38 : decode cX9_sense 38 = .ok (.ireturn, 1) := by decide +kernel
theorem dX9_type_0 : decode cX9_type 0 = .ok (.aload_n 0, 1) := by decide +kernel
theorem dX9_type_1 : decode cX9_type 1 = .ok (.getfield 36, 3) := by decide +kernel
theorem dX9_type_4 : decode cX9_type 4 = .ok (.lload_n 1, 1) := by decide +kernel
theorem dX9_type_5 : decode cX9_type 5 = .ok (.iload_n 3, 1) := by decide +kernel
theorem dX9_type_6 : decode cX9_type 6 = .ok (.invokevirtual 111, 3) := by decide +kernel
theorem dX9_type_9 : decode cX9_type 9 = .ok (.ireturn, 1) := by decide +kernel
theorem dX9_heap_0 : decode cX9_heap 0 = .ok (.aload_n 0, 1) := by decide +kernel
theorem dX9_heap_1 : decode cX9_heap 1 = .ok (.getfield 43, 3) := by decide +kernel
theorem dX9_heap_4 : decode cX9_heap 4 = .ok (.aload_n 0, 1) := by decide +kernel
theorem dX9_heap_5 : decode cX9_heap 5 = .ok (.getfield 36, 3) := by decide +kernel
theorem dX9_heap_8 : decode cX9_heap 8 = .ok (.invokevirtual 115, 3) := by decide +kernel
theorem dX9_heap_11 : decode cX9_heap 11 = .ok (.istore_n 1, 1) := by decide +kernel
theorem dX9_heap_12 : decode cX9_heap 12 = .ok (.aload_n 0, 1) := by decide +kernel
theorem dX9_heap_13 : decode cX9_heap 13 = .ok (.getfield 36, 3) := by decide +kernel
theorem dX9_heap_16 : decode cX9_heap 16 = .ok (.invokevirtual 119, 3) := by decide +kernel
theorem dX9_heap_19 : decode cX9_heap 19 = .ok (.iload_n 1, 1) := by decide +kernel
theorem dX9_heap_20 : decode cX9_heap 20 = .ok (.ifCond .le 15, 3) := by decide +kernel
theorem dX9_heap_23 : decode cX9_heap 23 = .ok (.aload_n 0, 1) := by decide +kernel
theorem dX9_heap_24 : decode cX9_heap 24 = .ok (.getfield 43, 3) := by decide +kernel
theorem dX9_heap_27 : decode cX9_heap 27 = .ok (.aload_n 0, 1) := by decide +kernel
theorem dX9_heap_28 : decode cX9_heap 28 = .ok (.getfield 10, 3) := by decide +kernel
theorem dX9_heap_31 : decode cX9_heap 31 = .ok (.iload_n 1, 1) := by decide +kernel
theorem dX9_heap_32 : decode cX9_heap 32 = .ok (.invokevirtual 122, 3) := by decide +kernel
theorem dX9_heap_35 : decode cX9_heap 35 = .ok (.iload_n 1, 1) := by decide +kernel
theorem dX9_heap_36 : decode cX9_heap 36 = .ok (.ireturn, 1) := by decide +kernel
theorem dX9_night_0 : decode cX9_night 0 = .ok (.aload_n 0, 1) := by decide +kernel
theorem dX9_night_1 : decode cX9_night 1 = .ok (.getfield 50, 3) := by decide +kernel
theorem dX9_night_4 : decode cX9_night 4 = .ok (.aload_n 0, 1) := by decide +kernel
theorem dX9_night_5 : decode cX9_night 5 = .ok (.getfield 36, 3) := by decide +kernel
theorem dX9_night_8 : decode cX9_night 8 = .ok (.aload_n 0, 1) := by decide +kernel
theorem dX9_night_9 : decode cX9_night 9 = .ok (.getfield 10, 3) := by decide +kernel
theorem dX9_night_12 : decode cX9_night 12 = .ok (.invokevirtual 126, 3) := by decide +kernel
theorem dX9_night_15 : decode cX9_night 15 = .ok (.invokevirtual 130, 3) := by decide +kernel
theorem dX9_night_18 : decode cX9_night 18 = .ok (.istore_n 1, 1) := by decide +kernel
theorem dX9_night_19 : decode cX9_night 19 = .ok (.aload_n 0, 1) := by decide +kernel
theorem dX9_night_20 : decode cX9_night 20 = .ok (.getfield 36, 3) := by decide +kernel
theorem dX9_night_23 : decode cX9_night 23 = .ok (.invokevirtual 119, 3) := by decide +kernel
theorem dX9_night_26 : decode cX9_night 26 = .ok (.iload_n 1, 1) := by decide +kernel
theorem dX9_night_27 : decode cX9_night 27 = .ok (.ifCond .le 18, 3) := by decide +kernel
theorem dX9_night_30 : decode cX9_night 30 = .ok (.aload_n 0, 1) := by decide +kernel
theorem dX9_night_31 : decode cX9_night 31 = .ok (.getfield 50, 3) := by decide +kernel
theorem dX9_night_34 : decode cX9_night 34 = .ok (.aload_n 0, 1) := by decide +kernel
theorem dX9_night_35 : decode cX9_night 35 = .ok (.getfield 10, 3) := by decide +kernel
theorem dX9_night_38 : decode cX9_night 38 = .ok (.iload_n 1, 1) := by decide +kernel
theorem dX9_night_39 : decode cX9_night 39 = .ok (.invokevirtual 133, 3) := by decide +kernel
theorem dX9_night_42 : decode cX9_night 42 = .ok (.goto 4, 3) := by decide +kernel
theorem dX9_night_45 : decode cX9_night 45 = .ok (.iload_n 1, 1) := by decide +kernel
theorem dX9_night_46 : decode cX9_night 46 = .ok (.ireturn, 1) := by decide +kernel
theorem dX9_count_0 : decode cX9_count 0 = .ok (.iload_n 1, 1) := by decide +kernel
theorem dX9_count_1 : decode cX9_count 1 = .ok (.tableswitch 93 0 5 #[39, 47, 57, 67, 75, 83], 39) := by decide +kernel
theorem dX9_count_40 : decode cX9_count 40 = .ok (.aload_n 0, 1) := by decide +kernel
theorem dX9_count_41 : decode cX9_count 41 = .ok (.getfield 10, 3) := by decide +kernel
theorem dX9_count_44 : decode cX9_count 44 = .ok (.invokevirtual 126, 3) := by decide +kernel
theorem dX9_count_47 : decode cX9_count 47 = .ok (.ireturn, 1) := by decide +kernel
theorem dX9_count_48 : decode cX9_count 48 = .ok (.aload_n 0, 1) := by decide +kernel
theorem dX9_count_49 : decode cX9_count 49 = .ok (.getfield 10, 3) := by decide +kernel
theorem dX9_count_52 : decode cX9_count 52 = .ok (.bipush 6, 2) := by decide +kernel
theorem dX9_count_54 : decode cX9_count 54 = .ok (.invokevirtual 98, 3) := by decide +kernel
theorem dX9_count_57 : decode cX9_count 57 = .ok (.ireturn, 1) := by decide +kernel
theorem dX9_count_58 : decode cX9_count 58 = .ok (.aload_n 0, 1) := by decide +kernel
theorem dX9_count_59 : decode cX9_count 59 = .ok (.getfield 10, 3) := by decide +kernel
theorem dX9_count_62 : decode cX9_count 62 = .ok (.bipush 7, 2) := by decide +kernel
theorem dX9_count_64 : decode cX9_count 64 = .ok (.invokevirtual 98, 3) := by decide +kernel
theorem dX9_count_67 : decode cX9_count 67 = .ok (.ireturn, 1) := by decide +kernel
theorem dX9_count_68 : decode cX9_count 68 = .ok (.aload_n 0, 1) := by decide +kernel
theorem dX9_count_69 : decode cX9_count 69 = .ok (.getfield 10, 3) := by decide +kernel
theorem dX9_count_72 : decode cX9_count 72 = .ok (.invokevirtual 137, 3) := by decide +kernel
theorem dX9_count_75 : decode cX9_count 75 = .ok (.ireturn, 1) := by decide +kernel
theorem dX9_count_76 : decode cX9_count 76 = .ok (.aload_n 0, 1) := by decide +kernel
theorem dX9_count_77 : decode cX9_count 77 = .ok (.getfield 10, 3) := by decide +kernel
theorem dX9_count_80 : decode cX9_count 80 = .ok (.invokevirtual 140, 3) := by decide +kernel
theorem dX9_count_83 : decode cX9_count 83 = .ok (.ireturn, 1) := by decide +kernel
theorem dX9_count_84 : decode cX9_count 84 = .ok (.aload_n 0, 1) := by decide +kernel
theorem dX9_count_85 : decode cX9_count 85 = .ok (.getfield 10, 3) := by decide +kernel
theorem dX9_count_88 : decode cX9_count 88 = .ok (.bipush 6, 2) := by decide +kernel
theorem dX9_count_90 : decode cX9_count 90 = .ok (.invokevirtual 95, 3) := by decide +kernel
theorem dX9_count_93 : decode cX9_count 93 = .ok (.ireturn, 1) := by decide +kernel
theorem dX9_count_94 : decode cX9_count 94 = .ok (.iconst (-1), 1) := by decide +kernel
theorem dX9_count_95 : decode cX9_count 95 = .ok (.ireturn, 1) := by decide +kernel
theorem dX9_lift_0 : decode cX9_lift 0 = .ok (.iload_n 1, 1) := by decide +kernel
theorem dX9_lift_1 : decode cX9_lift 1 = .ok (.invokestatic 92, 3) := by decide +kernel
theorem dX9_lift_4 : decode cX9_lift 4 = .ok (.ifCond .ne 5, 3) := by decide +kernel
theorem dX9_lift_7 : decode cX9_lift 7 = .ok (.iconst (-1), 1) := by decide +kernel
theorem dX9_lift_8 : decode cX9_lift 8 = .ok (.ireturn, 1) := by decide +kernel
theorem dX9_lift_9 : decode cX9_lift 9 = .ok (.aload_n 0, 1) := by decide +kernel
theorem dX9_lift_10 : decode cX9_lift 10 = .ok (.getfield 10, 3) := by decide +kernel
theorem dX9_lift_13 : decode cX9_lift 13 = .ok (.iload_n 1, 1) := by decide +kernel
theorem dX9_lift_14 : decode cX9_lift 14 = .ok (.invokevirtual 104, 3) := by decide +kernel
theorem dX9_lift_17 : decode cX9_lift 17 = .ok (.istore_n 2, 1) := by decide +kernel
theorem dX9_lift_18 : decode cX9_lift 18 = .ok (.aload_n 0, 1) := by decide +kernel
theorem dX9_lift_19 : decode cX9_lift 19 = .ok (.getfield 10, 3) := by decide +kernel
theorem dX9_lift_22 : decode cX9_lift 22 = .ok (.iconst 0, 1) := by decide +kernel
theorem dX9_lift_23 : decode cX9_lift 23 = .ok (.iload_n 1, 1) := by decide +kernel
theorem dX9_lift_24 : decode cX9_lift 24 = .ok (.iconst 0, 1) := by decide +kernel
theorem dX9_lift_25 : decode cX9_lift 25 = .ok (.invokestatic 145, 3) := by decide +kernel
theorem dX9_lift_28 : decode cX9_lift 28 = .ok (.invokevirtual 149, 3) := by decide +kernel
theorem dX9_lift_31 : decode cX9_lift 31 = .ok (.istore_n 3, 1) := by decide +kernel
theorem dX9_lift_32 : decode cX9_lift 32 = .ok (.iload_n 3, 1) := by decide +kernel
theorem dX9_lift_33 : decode cX9_lift 33 = .ok (.ifCond .ne 7, 3) := by decide +kernel
theorem dX9_lift_36 : decode cX9_lift 36 = .ok (.iload_n 2, 1) := by decide +kernel
theorem dX9_lift_37 : decode cX9_lift 37 = .ok (.goto 4, 3) := by decide +kernel
theorem dX9_lift_40 : decode cX9_lift 40 = .ok (.iload_n 3, 1) := by decide +kernel
theorem dX9_lift_41 : decode cX9_lift 41 = .ok (.ireturn, 1) := by decide +kernel
theorem dX9_lay_0 : decode cX9_lay 0 = .ok (.aload_n 0, 1) := by decide +kernel
theorem dX9_lay_1 : decode cX9_lay 1 = .ok (.getfield 10, 3) := by decide +kernel
theorem dX9_lay_4 : decode cX9_lay 4 = .ok (.iload_n 1, 1) := by decide +kernel
theorem dX9_lay_5 : decode cX9_lay 5 = .ok (.invokevirtual 73, 3) := by decide +kernel
theorem dX9_lay_8 : decode cX9_lay 8 = .ok (.ifCond .eq 10, 3) := by decide +kernel
theorem dX9_lay_11 : decode cX9_lay 11 = .ok (.iload_n 2, 1) := by decide +kernel
theorem dX9_lay_12 : decode cX9_lay 12 = .ok (.invokestatic 92, 3) := by decide +kernel
theorem dX9_lay_15 : decode cX9_lay 15 = .ok (.ifCond .ne 5, 3) := by decide +kernel
theorem dX9_lay_18 : decode cX9_lay 18 = .ok (.iconst (-1), 1) := by decide +kernel
theorem dX9_lay_19 : decode cX9_lay 19 = .ok (.ireturn, 1) := by decide +kernel
theorem dX9_lay_20 : decode cX9_lay 20 = .ok (.aload_n 0, 1) := by decide +kernel
theorem dX9_lay_21 : decode cX9_lay 21 = .ok (.getfield 10, 3) := by decide +kernel
theorem dX9_lay_24 : decode cX9_lay 24 = .ok (.iconst 1, 1) := by decide +kernel
theorem dX9_lay_25 : decode cX9_lay 25 = .ok (.iload_n 2, 1) := by decide +kernel
theorem dX9_lay_26 : decode cX9_lay 26 = .ok (.iload_n 1, 1) := by decide +kernel
theorem dX9_lay_27 : decode cX9_lay 27 = .ok (.invokestatic 145, 3) := by decide +kernel
theorem dX9_lay_30 : decode cX9_lay 30 = .ok (.invokevirtual 149, 3) := by decide +kernel
theorem dX9_lay_33 : decode cX9_lay 33 = .ok (.istore_n 3, 1) := by decide +kernel
theorem dX9_lay_34 : decode cX9_lay 34 = .ok (.iload_n 3, 1) := by decide +kernel
theorem dX9_lay_35 : decode cX9_lay 35 = .ok (.ifCond .ne 14, 3) := by decide +kernel
theorem dX9_lay_38 : decode cX9_lay 38 = .ok (.aload_n 0, 1) := by decide +kernel
theorem dX9_lay_39 : decode cX9_lay 39 = .ok (.getfield 10, 3) := by decide +kernel
theorem dX9_lay_42 : decode cX9_lay 42 = .ok (.iload_n 2, 1) := by decide +kernel
theorem dX9_lay_43 : decode cX9_lay 43 = .ok (.invokevirtual 95, 3) := by decide +kernel
theorem dX9_lay_46 : decode cX9_lay 46 = .ok (.goto 4, 3) := by decide +kernel
theorem dX9_lay_49 : decode cX9_lay 49 = .ok (.iload_n 3, 1) := by decide +kernel
theorem dX9_lay_50 : decode cX9_lay 50 = .ok (.ireturn, 1) := by decide +kernel
theorem dX9_swap_0 : decode cX9_swap 0 = .ok (.iload_n 1, 1) := by decide +kernel
theorem dX9_swap_1 : decode cX9_swap 1 = .ok (.invokestatic 92, 3) := by decide +kernel
theorem dX9_swap_4 : decode cX9_swap 4 = .ok (.ifCond .eq 14, 3) := by decide +kernel
theorem dX9_swap_7 : decode cX9_swap 7 = .ok (.aload_n 0, 1) := by decide +kernel
theorem dX9_swap_8 : decode cX9_swap 8 = .ok (.getfield 10, 3) := by decide +kernel
theorem dX9_swap_11 : decode cX9_swap 11 = .ok (.iload_n 2, 1) := by decide +kernel
theorem dX9_swap_12 : decode cX9_swap 12 = .ok (.invokevirtual 73, 3) := by decide +kernel
theorem dX9_swap_15 : decode cX9_swap 15 = .ok (.ifCond .ne 5, 3) := by decide +kernel
theorem dX9_swap_18 : decode cX9_swap 18 = .ok (.iconst (-1), 1) := by decide +kernel
theorem dX9_swap_19 : decode cX9_swap 19 = .ok (.ireturn, 1) := by decide +kernel
theorem dX9_swap_20 : decode cX9_swap 20 = .ok (.aload_n 0, 1) := by decide +kernel
theorem dX9_swap_21 : decode cX9_swap 21 = .ok (.getfield 10, 3) := by decide +kernel
theorem dX9_swap_24 : decode cX9_swap 24 = .ok (.iload_n 1, 1) := by decide +kernel
theorem dX9_swap_25 : decode cX9_swap 25 = .ok (.invokevirtual 104, 3) := by decide +kernel
theorem dX9_swap_28 : decode cX9_swap 28 = .ok (.istore_n 3, 1) := by decide +kernel
theorem dX9_swap_29 : decode cX9_swap 29 = .ok (.aload_n 0, 1) := by decide +kernel
theorem dX9_swap_30 : decode cX9_swap 30 = .ok (.getfield 10, 3) := by decide +kernel
theorem dX9_swap_33 : decode cX9_swap 33 = .ok (.iconst 2, 1) := by decide +kernel
theorem dX9_swap_34 : decode cX9_swap 34 = .ok (.iload_n 1, 1) := by decide +kernel
theorem dX9_swap_35 : decode cX9_swap 35 = .ok (.iload_n 2, 1) := by decide +kernel
theorem dX9_swap_36 : decode cX9_swap 36 = .ok (.invokestatic 145, 3) := by decide +kernel
theorem dX9_swap_39 : decode cX9_swap 39 = .ok (.invokevirtual 149, 3) := by decide +kernel
theorem dX9_swap_42 : decode cX9_swap 42 = .ok (.istore 4, 2) := by decide +kernel
theorem dX9_swap_44 : decode cX9_swap 44 = .ok (.iload 4, 2) := by decide +kernel
theorem dX9_swap_46 : decode cX9_swap 46 = .ok (.ifCond .ne 7, 3) := by decide +kernel
theorem dX9_swap_49 : decode cX9_swap 49 = .ok (.iload_n 3, 1) := by decide +kernel
theorem dX9_swap_50 : decode cX9_swap 50 = .ok (.goto 5, 3) := by decide +kernel
theorem dX9_swap_53 : decode cX9_swap 53 = .ok (.iload 4, 2) := by decide +kernel
theorem dX9_swap_55 : decode cX9_swap 55 = .ok (.ireturn, 1) := by decide +kernel
theorem dX9_push_0 : decode cX9_push 0 = .ok (.iload_n 1, 1) := by decide +kernel
theorem dX9_push_1 : decode cX9_push 1 = .ok (.invokestatic 92, 3) := by decide +kernel
theorem dX9_push_4 : decode cX9_push 4 = .ok (.ifCond .eq 15, 3) := by decide +kernel
theorem dX9_push_7 : decode cX9_push 7 = .ok (.iload_n 2, 1) := by decide +kernel
theorem dX9_push_8 : decode cX9_push 8 = .ok (.invokestatic 92, 3) := by decide +kernel
theorem dX9_push_11 : decode cX9_push 11 = .ok (.ifCond .eq 8, 3) := by decide +kernel
theorem dX9_push_14 : decode cX9_push 14 = .ok (.iload_n 1, 1) := by decide +kernel
theorem dX9_push_15 : decode cX9_push 15 = .ok (.iload_n 2, 1) := by decide +kernel
theorem dX9_push_16 : decode cX9_push 16 = .ok (.if_icmp .ne 5, 3) := by decide +kernel
theorem dX9_push_19 : decode cX9_push 19 = .ok (.iconst (-1), 1) := by decide +kernel
theorem dX9_push_20 : decode cX9_push 20 = .ok (.ireturn, 1) := by decide +kernel
theorem dX9_push_21 : decode cX9_push 21 = .ok (.aload_n 0, 1) := by decide +kernel
theorem dX9_push_22 : decode cX9_push 22 = .ok (.getfield 10, 3) := by decide +kernel
theorem dX9_push_25 : decode cX9_push 25 = .ok (.iload_n 1, 1) := by decide +kernel
theorem dX9_push_26 : decode cX9_push 26 = .ok (.invokevirtual 104, 3) := by decide +kernel
theorem dX9_push_29 : decode cX9_push 29 = .ok (.istore_n 3, 1) := by decide +kernel
theorem dX9_push_30 : decode cX9_push 30 = .ok (.aload_n 0, 1) := by decide +kernel
theorem dX9_push_31 : decode cX9_push 31 = .ok (.getfield 10, 3) := by decide +kernel
theorem dX9_push_34 : decode cX9_push 34 = .ok (.iconst 3, 1) := by decide +kernel
theorem dX9_push_35 : decode cX9_push 35 = .ok (.iload_n 1, 1) := by decide +kernel
theorem dX9_push_36 : decode cX9_push 36 = .ok (.iload_n 2, 1) := by decide +kernel
theorem dX9_push_37 : decode cX9_push 37 = .ok (.invokestatic 145, 3) := by decide +kernel
theorem dX9_push_40 : decode cX9_push 40 = .ok (.invokevirtual 149, 3) := by decide +kernel
theorem dX9_push_43 : decode cX9_push 43 = .ok (.istore 4, 2) := by decide +kernel
theorem dX9_push_45 : decode cX9_push 45 = .ok (.iload 4, 2) := by decide +kernel
theorem dX9_push_47 : decode cX9_push 47 = .ok (.ifCond .ne 7, 3) := by decide +kernel
theorem dX9_push_50 : decode cX9_push 50 = .ok (.iload_n 3, 1) := by decide +kernel
theorem dX9_push_51 : decode cX9_push 51 = .ok (.goto 5, 3) := by decide +kernel
theorem dX9_push_54 : decode cX9_push 54 = .ok (.iload 4, 2) := by decide +kernel
theorem dX9_push_56 : decode cX9_push 56 = .ok (.ireturn, 1) := by decide +kernel
theorem dX9_turn_0 : decode cX9_turn 0 = .ok (.aload_n 0, 1) := by decide +kernel
theorem dX9_turn_1 : decode cX9_turn 1 = .ok (.getfield 10, 3) := by decide +kernel
theorem dX9_turn_4 : decode cX9_turn 4 = .ok (.invokevirtual 152, 3) := by decide +kernel
theorem dX9_turn_7 : decode cX9_turn 7 = .ok (.aload_n 0, 1) := by decide +kernel
theorem dX9_turn_8 : decode cX9_turn 8 = .ok (.getfield 10, 3) := by decide +kernel
theorem dX9_turn_11 : decode cX9_turn 11 = .ok (.invokevirtual 155, 3) := by decide +kernel
theorem dX9_turn_14 : decode cX9_turn 14 = .ok (.ireturn, 1) := by decide +kernel
theorem dX9_had_0 : decode cX9_had 0 = .ok (.aload_n 0, 1) := by decide +kernel
theorem dX9_had_1 : decode cX9_had 1 = .ok (.getfield 10, 3) := by decide +kernel
theorem dX9_had_4 : decode cX9_had 4 = .ok (.iload_n 1, 1) := by decide +kernel
theorem dX9_had_5 : decode cX9_had 5 = .ok (.invokevirtual 73, 3) := by decide +kernel
theorem dX9_had_8 : decode cX9_had 8 = .ok (.ifCond .eq 12, 3) := by decide +kernel
theorem dX9_had_11 : decode cX9_had 11 = .ok (.iload_n 2, 1) := by decide +kernel
theorem dX9_had_12 : decode cX9_had 12 = .ok (.iconst (-1), 1) := by decide +kernel
theorem dX9_had_13 : decode cX9_had 13 = .ok (.iconst 2, 1) := by decide +kernel
theorem dX9_had_14 : decode cX9_had 14 = .ok (.invokestatic 61, 3) := by decide +kernel
theorem dX9_had_17 : decode cX9_had 17 = .ok (.ifCond .ne 5, 3) := by decide +kernel
theorem dX9_had_20 : decode cX9_had 20 = .ok (.iconst (-1), 1) := by decide +kernel
theorem dX9_had_21 : decode cX9_had 21 = .ok (.ireturn, 1) := by decide +kernel
theorem dX9_had_22 : decode cX9_had 22 = .ok (.aload_n 0, 1) := by decide +kernel
theorem dX9_had_23 : decode cX9_had 23 = .ok (.getfield 10, 3) := by decide +kernel
theorem dX9_had_26 : decode cX9_had 26 = .ok (.iload_n 1, 1) := by decide +kernel
theorem dX9_had_27 : decode cX9_had 27 = .ok (.invokevirtual 86, 3) := by decide +kernel
theorem dX9_had_30 : decode cX9_had 30 = .ok (.bipush 7, 2) := by decide +kernel
theorem dX9_had_32 : decode cX9_had 32 = .ok (.if_icmp .ne 6, 3) := by decide +kernel
theorem dX9_had_35 : decode cX9_had 35 = .ok (.bipush (-2), 2) := by decide +kernel
theorem dX9_had_37 : decode cX9_had 37 = .ok (.ireturn, 1) := by decide +kernel
theorem dX9_had_38 : decode cX9_had 38 = .ok (.aload_n 0, 1) := by decide +kernel
theorem dX9_had_39 : decode cX9_had 39 = .ok (.getfield 22, 3) := by decide +kernel
theorem dX9_had_42 : decode cX9_had 42 = .ok (.aload_n 0, 1) := by decide +kernel
theorem dX9_had_43 : decode cX9_had 43 = .ok (.getfield 10, 3) := by decide +kernel
theorem dX9_had_46 : decode cX9_had 46 = .ok (.iload_n 1, 1) := by decide +kernel
theorem dX9_had_47 : decode cX9_had 47 = .ok (.invokevirtual 158, 3) := by decide +kernel
theorem dX9_had_50 : decode cX9_had 50 = .ok (.istore_n 3, 1) := by decide +kernel
theorem dX9_had_51 : decode cX9_had 51 = .ok (.iload_n 3, 1) := by decide +kernel
theorem dX9_had_52 : decode cX9_had 52 = .ok (.ifCond .lt 8, 3) := by decide +kernel
theorem dX9_had_55 : decode cX9_had 55 = .ok (.iload_n 2, 1) := by decide +kernel
theorem dX9_had_56 : decode cX9_had 56 = .ok (.iload_n 3, 1) := by decide +kernel
theorem dX9_had_57 : decode cX9_had 57 = .ok (.if_icmp .lt 6, 3) := by decide +kernel
theorem dX9_had_60 : decode cX9_had 60 = .ok (.bipush (-4), 2) := by decide +kernel
theorem dX9_had_62 : decode cX9_had 62 = .ok (.ireturn, 1) := by decide +kernel
theorem dX9_had_63 : decode cX9_had 63 = .ok (.iload_n 2, 1) := by decide +kernel
theorem dX9_had_64 : decode cX9_had 64 = .ok (.ifCond .ge 7, 3) := by decide +kernel
theorem dX9_had_67 : decode cX9_had 67 = .ok (.iload_n 3, 1) := by decide +kernel
theorem dX9_had_68 : decode cX9_had 68 = .ok (.goto 11, 3) := by decide +kernel
theorem dX9_had_71 : decode cX9_had 71 = .ok (.aload_n 0, 1) := by decide +kernel
theorem dX9_had_72 : decode cX9_had 72 = .ok (.getfield 22, 3) := by decide +kernel
theorem dX9_had_75 : decode cX9_had 75 = .ok (.iload_n 2, 1) := by decide +kernel
theorem dX9_had_76 : decode cX9_had 76 = .ok (.invokevirtual 161, 3) := by decide +kernel
theorem dX9_had_79 : decode cX9_had 79 = .ok (.ireturn, 1) := by decide +kernel
theorem dX9_under_0 : decode cX9_under 0 = .ok (.iload_n 1, 1) := by decide +kernel
theorem dX9_under_1 : decode cX9_under 1 = .ok (.invokestatic 65, 3) := by decide +kernel
theorem dX9_under_4 : decode cX9_under 4 = .ok (.ifCond .eq 14, 3) := by decide +kernel
theorem dX9_under_7 : decode cX9_under 7 = .ok (.aload_n 0, 1) := by decide +kernel
theorem dX9_under_8 : decode cX9_under 8 = .ok (.getfield 10, 3) := by decide +kernel
theorem dX9_under_11 : decode cX9_under 11 = .ok (.iload_n 1, 1) := by decide +kernel
theorem dX9_under_12 : decode cX9_under 12 = .ok (.invokestatic 164, 3) := by decide +kernel
theorem dX9_under_15 : decode cX9_under 15 = .ok (.goto 4, 3) := by decide +kernel
theorem dX9_under_18 : decode cX9_under 18 = .ok (.iconst (-1), 1) := by decide +kernel
theorem dX9_under_19 : decode cX9_under 19 = .ok (.ireturn, 1) := by decide +kernel
theorem dX9_own_0 : decode cX9_own 0 = .ok (.aload_n 0, 1) := by decide +kernel
theorem dX9_own_1 : decode cX9_own 1 = .ok (.getfield 29, 3) := by decide +kernel
theorem dX9_own_4 : decode cX9_own 4 = .ok (.aload_n 0, 1) := by decide +kernel
theorem dX9_own_5 : decode cX9_own 5 = .ok (.getfield 10, 3) := by decide +kernel
theorem dX9_own_8 : decode cX9_own 8 = .ok (.invokevirtual 167, 3) := by decide +kernel
theorem dX9_own_11 : decode cX9_own 11 = .ok (.ireturn, 1) := by decide +kernel
theorem dX9_odds_0 : decode cX9_odds 0 = .ok (.iload_n 1, 1) := by decide +kernel
theorem dX9_odds_1 : decode cX9_odds 1 = .ok (.invokestatic 92, 3) := by decide +kernel
theorem dX9_odds_4 : decode cX9_odds 4 = .ok (.ifCond .eq 42, 3) := by decide +kernel
theorem dX9_odds_7 : decode cX9_odds 7 = .ok (.iload_n 2, 1) := by decide +kernel
theorem dX9_odds_8 : decode cX9_odds 8 = .ok (.iconst 0, 1) := by decide +kernel
theorem dX9_odds_9 : decode cX9_odds 9 = .ok (.bipush 99, 2) := by decide +kernel
theorem dX9_odds_11 : decode cX9_odds 11 = .ok (.invokestatic 61, 3) := by decide +kernel
theorem dX9_odds_14 : decode cX9_odds 14 = .ok (.ifCond .eq 32, 3) := by decide +kernel
theorem dX9_odds_17 : decode cX9_odds 17 = .ok (.iload_n 3, 1) := by decide +kernel
theorem dX9_odds_18 : decode cX9_odds 18 = .ok (.iconst 1, 1) := by decide +kernel
theorem dX9_odds_19 : decode cX9_odds 19 = .ok (.bipush 6, 2) := by decide +kernel
theorem dX9_odds_21 : decode cX9_odds 21 = .ok (.invokestatic 61, 3) := by decide +kernel
theorem dX9_odds_24 : decode cX9_odds 24 = .ok (.ifCond .eq 22, 3) := by decide +kernel
theorem dX9_odds_27 : decode cX9_odds 27 = .ok (.iload 4, 2) := by decide +kernel
theorem dX9_odds_29 : decode cX9_odds 29 = .ok (.iconst 0, 1) := by decide +kernel
theorem dX9_odds_30 : decode cX9_odds 30 = .ok (.bipush 8, 2) := by decide +kernel
theorem dX9_odds_32 : decode cX9_odds 32 = .ok (.invokestatic 61, 3) := by decide +kernel
theorem dX9_odds_35 : decode cX9_odds 35 = .ok (.ifCond .eq 11, 3) := by decide +kernel
theorem dX9_odds_38 : decode cX9_odds 38 = .ok (.iload 5, 2) := by decide +kernel
theorem dX9_odds_40 : decode cX9_odds 40 = .ok (.invokestatic 171, 3) := by decide +kernel
theorem dX9_odds_43 : decode cX9_odds 43 = .ok (.ifCond .ne 5, 3) := by decide +kernel
theorem dX9_odds_46 : decode cX9_odds 46 = .ok (.iconst (-1), 1) := by decide +kernel
theorem dX9_odds_47 : decode cX9_odds 47 = .ok (.ireturn, 1) := by decide +kernel
theorem dX9_odds_48 : decode cX9_odds 48 = .ok (.aload_n 0, 1) := by decide +kernel
theorem dX9_odds_49 : decode cX9_odds 49 = .ok (.getfield 10, 3) := by decide +kernel
theorem dX9_odds_52 : decode cX9_odds 52 = .ok (.iload_n 1, 1) := by decide +kernel
theorem dX9_odds_53 : decode cX9_odds 53 = .ok (.iload_n 2, 1) := by decide +kernel
theorem dX9_odds_54 : decode cX9_odds 54 = .ok (.invokevirtual 174, 3) := by decide +kernel
theorem dX9_odds_57 : decode cX9_odds 57 = .ok (.ifCond .eq 11, 3) := by decide +kernel
theorem dX9_odds_60 : decode cX9_odds 60 = .ok (.bipush 8, 2) := by decide +kernel
theorem dX9_odds_62 : decode cX9_odds 62 = .ok (.iload 4, 2) := by decide +kernel
theorem dX9_odds_64 : decode cX9_odds 64 = .ok (.isub, 1) := by decide +kernel
theorem dX9_odds_65 : decode cX9_odds 65 = .ok (.goto 5, 3) := by decide +kernel
theorem dX9_odds_68 : decode cX9_odds 68 = .ok (.bipush 8, 2) := by decide +kernel
theorem dX9_odds_70 : decode cX9_odds 70 = .ok (.istore 6, 2) := by decide +kernel
theorem dX9_odds_72 : decode cX9_odds 72 = .ok (.iload 6, 2) := by decide +kernel
theorem dX9_odds_74 : decode cX9_odds 74 = .ok (.iload_n 3, 1) := by decide +kernel
theorem dX9_odds_75 : decode cX9_odds 75 = .ok (.invokestatic 178, 3) := by decide +kernel
theorem dX9_odds_78 : decode cX9_odds 78 = .ok (.bipush 8, 2) := by decide +kernel
theorem dX9_odds_80 : decode cX9_odds 80 = .ok (.iload_n 3, 1) := by decide +kernel
theorem dX9_odds_81 : decode cX9_odds 81 = .ok (.invokestatic 178, 3) := by decide +kernel
theorem dX9_odds_84 : decode cX9_odds 84 = .ok (.iload 5, 2) := by decide +kernel
theorem dX9_odds_86 : decode cX9_odds 86 = .ok (.invokestatic 182, 3) := by decide +kernel
theorem dX9_odds_89 : decode cX9_odds 89 = .ok (.ireturn, 1) := by decide +kernel
theorem dX9_share_0 : decode cX9_share 0 = .ok (.iload_n 1, 1) := by decide +kernel
theorem dX9_share_1 : decode cX9_share 1 = .ok (.invokestatic 65, 3) := by decide +kernel
theorem dX9_share_4 : decode cX9_share 4 = .ok (.ifCond .eq 28, 3) := by decide +kernel
theorem dX9_share_7 : decode cX9_share 7 = .ok (.iload_n 2, 1) := by decide +kernel
theorem dX9_share_8 : decode cX9_share 8 = .ok (.iconst 0, 1) := by decide +kernel
theorem dX9_share_9 : decode cX9_share 9 = .ok (.bipush 15, 2) := by decide +kernel
theorem dX9_share_11 : decode cX9_share 11 = .ok (.invokestatic 61, 3) := by decide +kernel
theorem dX9_share_14 : decode cX9_share 14 = .ok (.ifCond .eq 18, 3) := by decide +kernel
theorem dX9_share_17 : decode cX9_share 17 = .ok (.iload_n 3, 1) := by decide +kernel
theorem dX9_share_18 : decode cX9_share 18 = .ok (.invokestatic 171, 3) := by decide +kernel
theorem dX9_share_21 : decode cX9_share 21 = .ok (.ifCond .eq 11, 3) := by decide +kernel
theorem dX9_share_24 : decode cX9_share 24 = .ok (.iload_n 2, 1) := by decide +kernel
theorem dX9_share_25 : decode cX9_share 25 = .ok (.iload_n 1, 1) := by decide +kernel
theorem dX9_share_26 : decode cX9_share 26 = .ok (.invokestatic 185, 3) := by decide +kernel
theorem dX9_share_29 : decode cX9_share 29 = .ok (.ifCond .ne 5, 3) := by decide +kernel
theorem dX9_share_32 : decode cX9_share 32 = .ok (.iconst (-1), 1) := by decide +kernel
theorem dX9_share_33 : decode cX9_share 33 = .ok (.ireturn, 1) := by decide +kernel
theorem dX9_share_34 : decode cX9_share 34 = .ok (.aload_n 0, 1) := by decide +kernel
theorem dX9_share_35 : decode cX9_share 35 = .ok (.getfield 10, 3) := by decide +kernel
theorem dX9_share_38 : decode cX9_share 38 = .ok (.bipush 6, 2) := by decide +kernel
theorem dX9_share_40 : decode cX9_share 40 = .ok (.invokevirtual 95, 3) := by decide +kernel
theorem dX9_share_43 : decode cX9_share 43 = .ok (.istore 4, 2) := by decide +kernel
theorem dX9_share_45 : decode cX9_share 45 = .ok (.iconst 0, 1) := by decide +kernel
theorem dX9_share_46 : decode cX9_share 46 = .ok (.istore 5, 2) := by decide +kernel
theorem dX9_share_48 : decode cX9_share 48 = .ok (.iload 5, 2) := by decide +kernel
theorem dX9_share_50 : decode cX9_share 50 = .ok (.iconst 4, 1) := by decide +kernel
theorem dX9_share_51 : decode cX9_share 51 = .ok (.if_icmp .ge 32, 3) := by decide +kernel
theorem dX9_share_54 : decode cX9_share 54 = .ok (.iload_n 2, 1) := by decide +kernel
theorem dX9_share_55 : decode cX9_share 55 = .ok (.iload 5, 2) := by decide +kernel
theorem dX9_share_57 : decode cX9_share 57 = .ok (.invokestatic 185, 3) := by decide +kernel
theorem dX9_share_60 : decode cX9_share 60 = .ok (.ifCond .eq 17, 3) := by decide +kernel
theorem dX9_share_63 : decode cX9_share 63 = .ok (.iload 4, 2) := by decide +kernel
theorem dX9_share_65 : decode cX9_share 65 = .ok (.aload_n 0, 1) := by decide +kernel
theorem dX9_share_66 : decode cX9_share 66 = .ok (.getfield 10, 3) := by decide +kernel
theorem dX9_share_69 : decode cX9_share 69 = .ok (.iload 5, 2) := by decide +kernel
theorem dX9_share_71 : decode cX9_share 71 = .ok (.invokevirtual 188, 3) := by decide +kernel
theorem dX9_share_74 : decode cX9_share 74 = .ok (.isub, 1) := by decide +kernel
theorem dX9_share_75 : decode cX9_share 75 = .ok (.istore 4, 2) := by decide +kernel
theorem dX9_share_77 : decode cX9_share 77 = .ok (.iinc 5 1, 3) := by decide +kernel
theorem dX9_share_80 : decode cX9_share 80 = .ok (.goto (-32), 3) := by decide +kernel
theorem dX9_share_83 : decode cX9_share 83 = .ok (.iload_n 2, 1) := by decide +kernel
theorem dX9_share_84 : decode cX9_share 84 = .ok (.invokestatic 191, 3) := by decide +kernel
theorem dX9_share_87 : decode cX9_share 87 = .ok (.istore 5, 2) := by decide +kernel
theorem dX9_share_89 : decode cX9_share 89 = .ok (.aload_n 0, 1) := by decide +kernel
theorem dX9_share_90 : decode cX9_share 90 = .ok (.getfield 10, 3) := by decide +kernel
theorem dX9_share_93 : decode cX9_share 93 = .ok (.iload_n 1, 1) := by decide +kernel
theorem dX9_share_94 : decode cX9_share 94 = .ok (.invokevirtual 188, 3) := by decide +kernel
theorem dX9_share_97 : decode cX9_share 97 = .ok (.iload 5, 2) := by decide +kernel
theorem dX9_share_99 : decode cX9_share 99 = .ok (.imul, 1) := by decide +kernel
theorem dX9_share_100 : decode cX9_share 100 = .ok (.iload 4, 2) := by decide +kernel
theorem dX9_share_102 : decode cX9_share 102 = .ok (.iadd, 1) := by decide +kernel
theorem dX9_share_103 : decode cX9_share 103 = .ok (.iload 5, 2) := by decide +kernel
theorem dX9_share_105 : decode cX9_share 105 = .ok (.iload_n 3, 1) := by decide +kernel
theorem dX9_share_106 : decode cX9_share 106 = .ok (.invokestatic 182, 3) := by decide +kernel
theorem dX9_share_109 : decode cX9_share 109 = .ok (.ireturn, 1) := by decide +kernel
theorem dX9_image_0 : decode cX9_image 0 = .ok (.aload_n 0, 1) := by decide +kernel
theorem dX9_image_1 : decode cX9_image 1 = .ok (.getfield 16, 3) := by decide +kernel
theorem dX9_image_4 : decode cX9_image 4 = .ok (.aload_n 0, 1) := by decide +kernel
theorem dX9_image_5 : decode cX9_image 5 = .ok (.getfield 10, 3) := by decide +kernel
theorem dX9_image_8 : decode cX9_image 8 = .ok (.invokevirtual 196, 3) := by decide +kernel
theorem dX9_image_11 : decode cX9_image 11 = .ok (.aload_n 0, 1) := by decide +kernel
theorem dX9_image_12 : decode cX9_image 12 = .ok (.iconst 1, 1) := by decide +kernel
theorem dX9_image_13 : decode cX9_image 13 = .ok (.putfield 200, 3) := by decide +kernel
theorem dX9_image_16 : decode cX9_image 16 = .ok (.iconst 1, 1) := by decide +kernel
theorem dX9_image_17 : decode cX9_image 17 = .ok (.ireturn, 1) := by decide +kernel
theorem dX9_restore_0 : decode cX9_restore 0 = .ok (.aload_n 0, 1) := by decide +kernel
theorem dX9_restore_1 : decode cX9_restore 1 = .ok (.getfield 200, 3) := by decide +kernel
theorem dX9_restore_4 : decode cX9_restore 4 = .ok (.ifCond .ne 6, 3) := by decide +kernel
theorem dX9_restore_7 : decode cX9_restore 7 = .ok (.bipush (-4), 2) := by decide +kernel
theorem dX9_restore_9 : decode cX9_restore 9 = .ok (.ireturn, 1) := by decide +kernel
theorem dX9_restore_10 : decode cX9_restore 10 = .ok (.aload_n 0, 1) := by decide +kernel
theorem dX9_restore_11 : decode cX9_restore 11 = .ok (.getfield 10, 3) := by decide +kernel
theorem dX9_restore_14 : decode cX9_restore 14 = .ok (.aload_n 0, 1) := by decide +kernel
theorem dX9_restore_15 : decode cX9_restore 15 = .ok (.getfield 16, 3) := by decide +kernel
theorem dX9_restore_18 : decode cX9_restore 18 = .ok (.invokevirtual 196, 3) := by decide +kernel
theorem dX9_restore_21 : decode cX9_restore 21 = .ok (.iconst 1, 1) := by decide +kernel
theorem dX9_restore_22 : decode cX9_restore 22 = .ok (.ireturn, 1) := by decide +kernel
theorem dX9_dents_0 : decode cX9_dents 0 = .ok (.aload_n 0, 1) := by decide +kernel
theorem dX9_dents_1 : decode cX9_dents 1 = .ok (.iload_n 1, 1) := by decide +kernel
theorem dX9_dents_2 : decode cX9_dents 2 = .ok (.invokevirtual 204, 3) := by decide +kernel
theorem dX9_dents_5 : decode cX9_dents 5 = .ok (.astore 5, 2) := by decide +kernel
theorem dX9_dents_7 : decode cX9_dents 7 = .ok (.aload 5, 2) := by decide +kernel
theorem dX9_dents_9 : decode cX9_dents 9 = .ok (.ifnull 20, 3) := by decide +kernel
theorem dX9_dents_12 : decode cX9_dents 12 = .ok (.iload_n 2, 1) := by decide +kernel
theorem dX9_dents_13 : decode cX9_dents 13 = .ok (.invokestatic 208, 3) := by decide +kernel
theorem dX9_dents_16 : decode cX9_dents 16 = .ok (.ifCond .eq 13, 3) := by decide +kernel
theorem dX9_dents_19 : decode cX9_dents 19 = .ok (.iload 4, 2) := by decide +kernel
theorem dX9_dents_21 : decode cX9_dents 21 = .ok (.iconst 0, 1) := by decide +kernel
theorem dX9_dents_22 : decode cX9_dents 22 = .ok (.iconst 1, 1) := by decide +kernel
theorem dX9_dents_23 : decode cX9_dents 23 = .ok (.invokestatic 61, 3) := by decide +kernel
theorem dX9_dents_26 : decode cX9_dents 26 = .ok (.ifCond .ne 5, 3) := by decide +kernel
theorem dX9_dents_29 : decode cX9_dents 29 = .ok (.iconst (-1), 1) := by decide +kernel
theorem dX9_dents_30 : decode cX9_dents 30 = .ok (.ireturn, 1) := by decide +kernel
theorem dX9_dents_31 : decode cX9_dents 31 = .ok (.aload 5, 2) := by decide +kernel
theorem dX9_dents_33 : decode cX9_dents 33 = .ok (.iload_n 2, 1) := by decide +kernel
theorem dX9_dents_34 : decode cX9_dents 34 = .ok (.iload_n 3, 1) := by decide +kernel
theorem dX9_dents_35 : decode cX9_dents 35 = .ok (.bipush 6, 2) := by decide +kernel
theorem dX9_dents_37 : decode cX9_dents 37 = .ok (.invokevirtual 211, 3) := by decide +kernel
theorem dX9_dents_40 : decode cX9_dents 40 = .ok (.istore 6, 2) := by decide +kernel
theorem dX9_dents_42 : decode cX9_dents 42 = .ok (.iload 6, 2) := by decide +kernel
theorem dX9_dents_44 : decode cX9_dents 44 = .ok (.ifCond .eq 6, 3) := by decide +kernel
theorem dX9_dents_47 : decode cX9_dents 47 = .ok (.iload 6, 2) := by decide +kernel
theorem dX9_dents_49 : decode cX9_dents 49 = .ok (.ireturn, 1) := by decide +kernel
theorem dX9_dents_50 : decode cX9_dents 50 = .ok (.iconst 1, 1) := by decide +kernel
theorem dX9_dents_51 : decode cX9_dents 51 = .ok (.istore 7, 2) := by decide +kernel
theorem dX9_dents_53 : decode cX9_dents 53 = .ok (.iconst 0, 1) := by decide +kernel
theorem dX9_dents_54 : decode cX9_dents 54 = .ok (.istore 8, 2) := by decide +kernel
theorem dX9_dents_56 : decode cX9_dents 56 = .ok (.iconst 0, 1) := by decide +kernel
theorem dX9_dents_57 : decode cX9_dents 57 = .ok (.istore 9, 2) := by decide +kernel
theorem dX9_dents_59 : decode cX9_dents 59 = .ok (.iload 9, 2) := by decide +kernel
theorem dX9_dents_61 : decode cX9_dents 61 = .ok (.bipush 6, 2) := by decide +kernel
theorem dX9_dents_63 : decode cX9_dents 63 = .ok (.if_icmp .ge 52, 3) := by decide +kernel
theorem dX9_dents_66 : decode cX9_dents 66 = .ok (.aload 5, 2) := by decide +kernel
theorem dX9_dents_68 : decode cX9_dents 68 = .ok (.iload_n 3, 1) := by decide +kernel
theorem dX9_dents_69 : decode cX9_dents 69 = .ok (.iload 9, 2) := by decide +kernel
theorem dX9_dents_71 : decode cX9_dents 71 = .ok (.iadd, 1) := by decide +kernel
theorem dX9_dents_72 : decode cX9_dents 72 = .ok (.invokevirtual 214, 3) := by decide +kernel
theorem dX9_dents_75 : decode cX9_dents 75 = .ok (.lstore 10, 2) := by decide +kernel
theorem dX9_dents_77 : decode cX9_dents 77 = .ok (.iload 7, 2) := by decide +kernel
theorem dX9_dents_79 : decode cX9_dents 79 = .ok (.aload_n 0, 1) := by decide +kernel
theorem dX9_dents_80 : decode cX9_dents 80 = .ok (.getfield 10, 3) := by decide +kernel
theorem dX9_dents_83 : decode cX9_dents 83 = .ok (.iload 9, 2) := by decide +kernel
theorem dX9_dents_85 : decode cX9_dents 85 = .ok (.lload 10, 2) := by decide +kernel
theorem dX9_dents_87 : decode cX9_dents 87 = .ok (.invokestatic 218, 3) := by decide +kernel
theorem dX9_dents_90 : decode cX9_dents 90 = .ok (.imul, 1) := by decide +kernel
theorem dX9_dents_91 : decode cX9_dents 91 = .ok (.istore 7, 2) := by decide +kernel
theorem dX9_dents_93 : decode cX9_dents 93 = .ok (.iload 8, 2) := by decide +kernel
theorem dX9_dents_95 : decode cX9_dents 95 = .ok (.aload_n 0, 1) := by decide +kernel
theorem dX9_dents_96 : decode cX9_dents 96 = .ok (.getfield 10, 3) := by decide +kernel
theorem dX9_dents_99 : decode cX9_dents 99 = .ok (.iload 9, 2) := by decide +kernel
theorem dX9_dents_101 : decode cX9_dents 101 = .ok (.lload 10, 2) := by decide +kernel
theorem dX9_dents_103 : decode cX9_dents 103 = .ok (.invokestatic 224, 3) := by decide +kernel
theorem dX9_dents_106 : decode cX9_dents 106 = .ok (.ior, 1) := by decide +kernel
theorem dX9_dents_107 : decode cX9_dents 107 = .ok (.istore 8, 2) := by decide +kernel
theorem dX9_dents_109 : decode cX9_dents 109 = .ok (.iinc 9 1, 3) := by decide +kernel
theorem dX9_dents_112 : decode cX9_dents 112 = .ok (.goto (-53), 3) := by decide +kernel
theorem dX9_dents_115 : decode cX9_dents 115 = .ok (.iload 4, 2) := by decide +kernel
theorem dX9_dents_117 : decode cX9_dents 117 = .ok (.ifCond .ne 6, 3) := by decide +kernel
theorem dX9_dents_120 : decode cX9_dents 120 = .ok (.iload 7, 2) := by decide +kernel
theorem dX9_dents_122 : decode cX9_dents 122 = .ok (.ireturn, 1) := by decide +kernel
theorem dX9_dents_123 : decode cX9_dents 123 = .ok (.iload 7, 2) := by decide +kernel
theorem dX9_dents_125 : decode cX9_dents 125 = .ok (.ifCond .le 8, 3) := by decide +kernel
theorem dX9_dents_128 : decode cX9_dents 128 = .ok (.iload 8, 2) := by decide +kernel
theorem dX9_dents_130 : decode cX9_dents 130 = .ok (.goto 5, 3) := by decide +kernel
theorem dX9_dents_133 : decode cX9_dents 133 = .ok (.bipush (-4), 2) := by decide +kernel
theorem dX9_dents_135 : decode cX9_dents 135 = .ok (.ireturn, 1) := by decide +kernel
theorem dX9_tried_0 : decode cX9_tried 0 = .ok (.aload_n 0, 1) := by decide +kernel
theorem dX9_tried_1 : decode cX9_tried 1 = .ok (.iload_n 1, 1) := by decide +kernel
theorem dX9_tried_2 : decode cX9_tried 2 = .ok (.invokevirtual 204, 3) := by decide +kernel
theorem dX9_tried_5 : decode cX9_tried 5 = .ok (.astore 6, 2) := by decide +kernel
theorem dX9_tried_7 : decode cX9_tried 7 = .ok (.aload 6, 2) := by decide +kernel
theorem dX9_tried_9 : decode cX9_tried 9 = .ok (.ifnull 31, 3) := by decide +kernel
theorem dX9_tried_12 : decode cX9_tried 12 = .ok (.iload_n 2, 1) := by decide +kernel
theorem dX9_tried_13 : decode cX9_tried 13 = .ok (.invokestatic 208, 3) := by decide +kernel
theorem dX9_tried_16 : decode cX9_tried 16 = .ok (.ifCond .eq 24, 3) := by decide +kernel
theorem dX9_tried_19 : decode cX9_tried 19 = .ok (.iload 4, 2) := by decide +kernel
theorem dX9_tried_21 : decode cX9_tried 21 = .ok (.iconst 1, 1) := by decide +kernel
theorem dX9_tried_22 : decode cX9_tried 22 = .ok (.bipush 8, 2) := by decide +kernel
theorem dX9_tried_24 : decode cX9_tried 24 = .ok (.invokestatic 61, 3) := by decide +kernel
theorem dX9_tried_27 : decode cX9_tried 27 = .ok (.ifCond .eq 13, 3) := by decide +kernel
theorem dX9_tried_30 : decode cX9_tried 30 = .ok (.iload 5, 2) := by decide +kernel
theorem dX9_tried_32 : decode cX9_tried 32 = .ok (.iconst 0, 1) := by decide +kernel
theorem dX9_tried_33 : decode cX9_tried 33 = .ok (.iconst 2, 1) := by decide +kernel
theorem dX9_tried_34 : decode cX9_tried 34 = .ok (.invokestatic 61, 3) := by decide +kernel
theorem dX9_tried_37 : decode cX9_tried 37 = .ok (.ifCond .ne 5, 3) := by decide +kernel
theorem dX9_tried_40 : decode cX9_tried 40 = .ok (.iconst (-1), 1) := by decide +kernel
theorem dX9_tried_41 : decode cX9_tried 41 = .ok (.ireturn, 1) := by decide +kernel
theorem dX9_tried_42 : decode cX9_tried 42 = .ok (.aload 6, 2) := by decide +kernel
theorem dX9_tried_44 : decode cX9_tried 44 = .ok (.iload_n 2, 1) := by decide +kernel
theorem dX9_tried_45 : decode cX9_tried 45 = .ok (.iload_n 3, 1) := by decide +kernel
theorem dX9_tried_46 : decode cX9_tried 46 = .ok (.iconst 2, 1) := by decide +kernel
theorem dX9_tried_47 : decode cX9_tried 47 = .ok (.iload 4, 2) := by decide +kernel
theorem dX9_tried_49 : decode cX9_tried 49 = .ok (.imul, 1) := by decide +kernel
theorem dX9_tried_50 : decode cX9_tried 50 = .ok (.invokevirtual 211, 3) := by decide +kernel
theorem dX9_tried_53 : decode cX9_tried 53 = .ok (.istore 7, 2) := by decide +kernel
theorem dX9_tried_55 : decode cX9_tried 55 = .ok (.iload 7, 2) := by decide +kernel
theorem dX9_tried_57 : decode cX9_tried 57 = .ok (.ifCond .eq 6, 3) := by decide +kernel
theorem dX9_tried_60 : decode cX9_tried 60 = .ok (.iload 7, 2) := by decide +kernel
theorem dX9_tried_62 : decode cX9_tried 62 = .ok (.ireturn, 1) := by decide +kernel
theorem dX9_tried_63 : decode cX9_tried 63 = .ok (.iconst 0, 1) := by decide +kernel
theorem dX9_tried_64 : decode cX9_tried 64 = .ok (.istore 8, 2) := by decide +kernel
theorem dX9_tried_66 : decode cX9_tried 66 = .ok (.bipush 99, 2) := by decide +kernel
theorem dX9_tried_68 : decode cX9_tried 68 = .ok (.istore 9, 2) := by decide +kernel
theorem dX9_tried_70 : decode cX9_tried 70 = .ok (.iconst 0, 1) := by decide +kernel
theorem dX9_tried_71 : decode cX9_tried 71 = .ok (.istore 10, 2) := by decide +kernel
theorem dX9_tried_73 : decode cX9_tried 73 = .ok (.iload 10, 2) := by decide +kernel
theorem dX9_tried_75 : decode cX9_tried 75 = .ok (.iload 4, 2) := by decide +kernel
theorem dX9_tried_77 : decode cX9_tried 77 = .ok (.if_icmp .ge 102, 3) := by decide +kernel
theorem dX9_tried_80 : decode cX9_tried 80 = .ok (.aload 6, 2) := by decide +kernel
theorem dX9_tried_82 : decode cX9_tried 82 = .ok (.iload_n 3, 1) := by decide +kernel
theorem dX9_tried_83 : decode cX9_tried 83 = .ok (.iconst 2, 1) := by decide +kernel
theorem dX9_tried_84 : decode cX9_tried 84 = .ok (.iload 10, 2) := by decide +kernel
theorem dX9_tried_86 : decode cX9_tried 86 = .ok (.imul, 1) := by decide +kernel
theorem dX9_tried_87 : decode cX9_tried 87 = .ok (.iadd, 1) := by decide +kernel
theorem dX9_tried_88 : decode cX9_tried 88 = .ok (.invokevirtual 214, 3) := by decide +kernel
theorem dX9_tried_91 : decode cX9_tried 91 = .ok (.lstore 11, 2) := by decide +kernel
theorem dX9_tried_93 : decode cX9_tried 93 = .ok (.aload 6, 2) := by decide +kernel
theorem dX9_tried_95 : decode cX9_tried 95 = .ok (.iload_n 3, 1) := by decide +kernel
theorem dX9_tried_96 : decode cX9_tried 96 = .ok (.iconst 2, 1) := by decide +kernel
theorem dX9_tried_97 : decode cX9_tried 97 = .ok (.iload 10, 2) := by decide +kernel
theorem dX9_tried_99 : decode cX9_tried 99 = .ok (.imul, 1) := by decide +kernel
theorem dX9_tried_100 : decode cX9_tried 100 = .ok (.iadd, 1) := by decide +kernel
theorem dX9_tried_101 : decode cX9_tried 101 = .ok (.iconst 1, 1) := by decide +kernel
theorem dX9_tried_102 : decode cX9_tried 102 = .ok (.iadd, 1) := by decide +kernel
theorem dX9_tried_103 : decode cX9_tried 103 = .ok (.invokevirtual 214, 3) := by decide +kernel
theorem dX9_tried_106 : decode cX9_tried 106 = .ok (.lstore 13, 2) := by decide +kernel
theorem dX9_tried_108 : decode cX9_tried 108 = .ok (.lload 11, 2) := by decide +kernel
theorem dX9_tried_110 : decode cX9_tried 110 = .ok (.lconst 0, 1) := by decide +kernel
theorem dX9_tried_111 : decode cX9_tried 111 = .ok (.lcmp, 1) := by decide +kernel
theorem dX9_tried_112 : decode cX9_tried 112 = .ok (.ifCond .lt 26, 3) := by decide +kernel
theorem dX9_tried_115 : decode cX9_tried 115 = .ok (.lload 11, 2) := by decide +kernel
theorem dX9_tried_117 : decode cX9_tried 117 = .ok (.ldc2_w 227, 3) := by decide +kernel
theorem dX9_tried_120 : decode cX9_tried 120 = .ok (.lcmp, 1) := by decide +kernel
theorem dX9_tried_121 : decode cX9_tried 121 = .ok (.ifCond .gt 17, 3) := by decide +kernel
theorem dX9_tried_124 : decode cX9_tried 124 = .ok (.lload 13, 2) := by decide +kernel
theorem dX9_tried_126 : decode cX9_tried 126 = .ok (.lconst 0, 1) := by decide +kernel
theorem dX9_tried_127 : decode cX9_tried 127 = .ok (.lcmp, 1) := by decide +kernel
theorem dX9_tried_128 : decode cX9_tried 128 = .ok (.ifCond .lt 10, 3) := by decide +kernel
theorem dX9_tried_131 : decode cX9_tried 131 = .ok (.lload 13, 2) := by decide +kernel
theorem dX9_tried_133 : decode cX9_tried 133 = .ok (.lconst 1, 1) := by decide +kernel
theorem dX9_tried_134 : decode cX9_tried 134 = .ok (.lcmp, 1) := by decide +kernel
theorem dX9_tried_135 : decode cX9_tried 135 = .ok (.ifCond .le 6, 3) := by decide +kernel
theorem dX9_tried_138 : decode cX9_tried 138 = .ok (.bipush (-2), 2) := by decide +kernel
theorem dX9_tried_140 : decode cX9_tried 140 = .ok (.ireturn, 1) := by decide +kernel
theorem dX9_tried_141 : decode cX9_tried 141 = .ok (.lload 13, 2) := by decide +kernel
theorem dX9_tried_143 : decode cX9_tried 143 = .ok (.lconst 1, 1) := by decide +kernel
theorem dX9_tried_144 : decode cX9_tried 144 = .ok (.lcmp, 1) := by decide +kernel
theorem dX9_tried_145 : decode cX9_tried 145 = .ok (.ifCond .ne 18, 3) := by decide +kernel
theorem dX9_tried_148 : decode cX9_tried 148 = .ok (.iload 9, 2) := by decide +kernel
theorem dX9_tried_150 : decode cX9_tried 150 = .ok (.lload 11, 2) := by decide +kernel
theorem dX9_tried_152 : decode cX9_tried 152 = .ok (.l2i, 1) := by decide +kernel
theorem dX9_tried_153 : decode cX9_tried 153 = .ok (.iconst 1, 1) := by decide +kernel
theorem dX9_tried_154 : decode cX9_tried 154 = .ok (.isub, 1) := by decide +kernel
theorem dX9_tried_155 : decode cX9_tried 155 = .ok (.invokestatic 229, 3) := by decide +kernel
theorem dX9_tried_158 : decode cX9_tried 158 = .ok (.istore 9, 2) := by decide +kernel
theorem dX9_tried_160 : decode cX9_tried 160 = .ok (.goto 13, 3) := by decide +kernel
theorem dX9_tried_163 : decode cX9_tried 163 = .ok (.iload 8, 2) := by decide +kernel
theorem dX9_tried_165 : decode cX9_tried 165 = .ok (.lload 11, 2) := by decide +kernel
theorem dX9_tried_167 : decode cX9_tried 167 = .ok (.l2i, 1) := by decide +kernel
theorem dX9_tried_168 : decode cX9_tried 168 = .ok (.invokestatic 234, 3) := by decide +kernel
theorem dX9_tried_171 : decode cX9_tried 171 = .ok (.istore 8, 2) := by decide +kernel
theorem dX9_tried_173 : decode cX9_tried 173 = .ok (.iinc 10 1, 3) := by decide +kernel
theorem dX9_tried_176 : decode cX9_tried 176 = .ok (.goto (-103), 3) := by decide +kernel
theorem dX9_tried_179 : decode cX9_tried 179 = .ok (.iload 8, 2) := by decide +kernel
theorem dX9_tried_181 : decode cX9_tried 181 = .ok (.iload 9, 2) := by decide +kernel
theorem dX9_tried_183 : decode cX9_tried 183 = .ok (.iload 5, 2) := by decide +kernel
theorem dX9_tried_185 : decode cX9_tried 185 = .ok (.invokestatic 237, 3) := by decide +kernel
theorem dX9_tried_188 : decode cX9_tried 188 = .ok (.ireturn, 1) := by decide +kernel
theorem dX9_film_0 : decode cX9_film 0 = .ok (.aload_n 0, 1) := by decide +kernel
theorem dX9_film_1 : decode cX9_film 1 = .ok (.iload_n 1, 1) := by decide +kernel
theorem dX9_film_2 : decode cX9_film 2 = .ok (.invokevirtual 204, 3) := by decide +kernel
theorem dX9_film_5 : decode cX9_film 5 = .ok (.astore 4, 2) := by decide +kernel
theorem dX9_film_7 : decode cX9_film 7 = .ok (.aload 4, 2) := by decide +kernel
theorem dX9_film_9 : decode cX9_film 9 = .ok (.ifnull 10, 3) := by decide +kernel
theorem dX9_film_12 : decode cX9_film 12 = .ok (.iload_n 2, 1) := by decide +kernel
theorem dX9_film_13 : decode cX9_film 13 = .ok (.invokestatic 208, 3) := by decide +kernel
theorem dX9_film_16 : decode cX9_film 16 = .ok (.ifCond .ne 5, 3) := by decide +kernel
theorem dX9_film_19 : decode cX9_film 19 = .ok (.iconst (-1), 1) := by decide +kernel
theorem dX9_film_20 : decode cX9_film 20 = .ok (.ireturn, 1) := by decide +kernel
theorem dX9_film_21 : decode cX9_film 21 = .ok (.aload 4, 2) := by decide +kernel
theorem dX9_film_23 : decode cX9_film 23 = .ok (.iload_n 2, 1) := by decide +kernel
theorem dX9_film_24 : decode cX9_film 24 = .ok (.iload_n 3, 1) := by decide +kernel
theorem dX9_film_25 : decode cX9_film 25 = .ok (.bipush 6, 2) := by decide +kernel
theorem dX9_film_27 : decode cX9_film 27 = .ok (.invokevirtual 211, 3) := by decide +kernel
theorem dX9_film_30 : decode cX9_film 30 = .ok (.istore 5, 2) := by decide +kernel
theorem dX9_film_32 : decode cX9_film 32 = .ok (.iload 5, 2) := by decide +kernel
theorem dX9_film_34 : decode cX9_film 34 = .ok (.ifCond .eq 6, 3) := by decide +kernel
theorem dX9_film_37 : decode cX9_film 37 = .ok (.iload 5, 2) := by decide +kernel
theorem dX9_film_39 : decode cX9_film 39 = .ok (.ireturn, 1) := by decide +kernel
theorem dX9_film_40 : decode cX9_film 40 = .ok (.iconst 0, 1) := by decide +kernel
theorem dX9_film_41 : decode cX9_film 41 = .ok (.istore 6, 2) := by decide +kernel
theorem dX9_film_43 : decode cX9_film 43 = .ok (.iload 6, 2) := by decide +kernel
theorem dX9_film_45 : decode cX9_film 45 = .ok (.bipush 6, 2) := by decide +kernel
theorem dX9_film_47 : decode cX9_film 47 = .ok (.if_icmp .ge 28, 3) := by decide +kernel
theorem dX9_film_50 : decode cX9_film 50 = .ok (.aload 4, 2) := by decide +kernel
theorem dX9_film_52 : decode cX9_film 52 = .ok (.iload_n 3, 1) := by decide +kernel
theorem dX9_film_53 : decode cX9_film 53 = .ok (.iload 6, 2) := by decide +kernel
theorem dX9_film_55 : decode cX9_film 55 = .ok (.iadd, 1) := by decide +kernel
theorem dX9_film_56 : decode cX9_film 56 = .ok (.aload_n 0, 1) := by decide +kernel
theorem dX9_film_57 : decode cX9_film 57 = .ok (.getfield 10, 3) := by decide +kernel
theorem dX9_film_60 : decode cX9_film 60 = .ok (.iload 6, 2) := by decide +kernel
theorem dX9_film_62 : decode cX9_film 62 = .ok (.invokevirtual 95, 3) := by decide +kernel
theorem dX9_film_65 : decode cX9_film 65 = .ok (.i2l, 1) := by decide +kernel
theorem dX9_film_66 : decode cX9_film 66 = .ok (.invokevirtual 240, 3) := by decide +kernel
theorem dX9_film_69 : decode cX9_film 69 = .ok (.iinc 6 1, 3) := by decide +kernel
theorem dX9_film_72 : decode cX9_film 72 = .ok (.goto (-29), 3) := by decide +kernel
theorem dX9_film_75 : decode cX9_film 75 = .ok (.bipush 6, 2) := by decide +kernel
theorem dX9_film_77 : decode cX9_film 77 = .ok (.ireturn, 1) := by decide +kernel
theorem dX9_sheet_0 : decode cX9_sheet 0 = .ok (.aload_n 0, 1) := by decide +kernel
theorem dX9_sheet_1 : decode cX9_sheet 1 = .ok (.iload_n 1, 1) := by decide +kernel
theorem dX9_sheet_2 : decode cX9_sheet 2 = .ok (.invokevirtual 204, 3) := by decide +kernel
theorem dX9_sheet_5 : decode cX9_sheet 5 = .ok (.astore 4, 2) := by decide +kernel
theorem dX9_sheet_7 : decode cX9_sheet 7 = .ok (.aload 4, 2) := by decide +kernel
theorem dX9_sheet_9 : decode cX9_sheet 9 = .ok (.ifnull 16, 3) := by decide +kernel
theorem dX9_sheet_12 : decode cX9_sheet 12 = .ok (.iload_n 2, 1) := by decide +kernel
theorem dX9_sheet_13 : decode cX9_sheet 13 = .ok (.invokestatic 208, 3) := by decide +kernel
theorem dX9_sheet_16 : decode cX9_sheet 16 = .ok (.ifCond .eq 9, 3) := by decide +kernel
theorem dX9_sheet_19 : decode cX9_sheet 19 = .ok (.iload_n 3, 1) := by decide +kernel
theorem dX9_sheet_20 : decode cX9_sheet 20 = .ok (.bipush 24, 2) := by decide +kernel
theorem dX9_sheet_22 : decode cX9_sheet 22 = .ok (.if_icmp .le 5, 3) := by decide +kernel
theorem dX9_sheet_25 : decode cX9_sheet 25 = .ok (.iconst (-1), 1) := by decide +kernel
theorem dX9_sheet_26 : decode cX9_sheet 26 = .ok (.ireturn, 1) := by decide +kernel
theorem dX9_sheet_27 : decode cX9_sheet 27 = .ok (.iload_n 3, 1) := by decide +kernel
theorem dX9_sheet_28 : decode cX9_sheet 28 = .ok (.ifCond .ge 6, 3) := by decide +kernel
theorem dX9_sheet_31 : decode cX9_sheet 31 = .ok (.bipush (-14), 2) := by decide +kernel
theorem dX9_sheet_33 : decode cX9_sheet 33 = .ok (.ireturn, 1) := by decide +kernel
theorem dX9_sheet_34 : decode cX9_sheet 34 = .ok (.aload 4, 2) := by decide +kernel
theorem dX9_sheet_36 : decode cX9_sheet 36 = .ok (.iload_n 2, 1) := by decide +kernel
theorem dX9_sheet_37 : decode cX9_sheet 37 = .ok (.iload_n 3, 1) := by decide +kernel
theorem dX9_sheet_38 : decode cX9_sheet 38 = .ok (.invokevirtual 244, 3) := by decide +kernel
theorem dX9_sheet_41 : decode cX9_sheet 41 = .ok (.iload_n 3, 1) := by decide +kernel
theorem dX9_sheet_42 : decode cX9_sheet 42 = .ok (.ireturn, 1) := by decide +kernel
theorem dX9_drop_0 : decode cX9_drop 0 = .ok (.aload_n 0, 1) := by decide +kernel
theorem dX9_drop_1 : decode cX9_drop 1 = .ok (.iload_n 1, 1) := by decide +kernel
theorem dX9_drop_2 : decode cX9_drop 2 = .ok (.invokevirtual 204, 3) := by decide +kernel
theorem dX9_drop_5 : decode cX9_drop 5 = .ok (.astore_n 2, 1) := by decide +kernel
theorem dX9_drop_6 : decode cX9_drop 6 = .ok (.aload_n 2, 1) := by decide +kernel
theorem dX9_drop_7 : decode cX9_drop 7 = .ok (.ifnonnull 5, 3) := by decide +kernel
theorem dX9_drop_10 : decode cX9_drop 10 = .ok (.iconst (-1), 1) := by decide +kernel
theorem dX9_drop_11 : decode cX9_drop 11 = .ok (.ireturn, 1) := by decide +kernel
theorem dX9_drop_12 : decode cX9_drop 12 = .ok (.aload_n 2, 1) := by decide +kernel
theorem dX9_drop_13 : decode cX9_drop 13 = .ok (.invokevirtual 247, 3) := by decide +kernel
theorem dX9_drop_16 : decode cX9_drop 16 = .ok (.ifCond .eq 10, 3) := by decide +kernel
theorem dX9_drop_19 : decode cX9_drop 19 = .ok (.aload_n 2, 1) := by decide +kernel
theorem dX9_drop_20 : decode cX9_drop 20 = .ok (.invokevirtual 251, 3) := by decide +kernel
theorem dX9_drop_23 : decode cX9_drop 23 = .ok (.goto 5, 3) := by decide +kernel
theorem dX9_drop_26 : decode cX9_drop 26 = .ok (.bipush (-11), 2) := by decide +kernel
theorem dX9_drop_28 : decode cX9_drop 28 = .ok (.ireturn, 1) := by decide +kernel
theorem dX9_item_0 : decode cX9_item 0 = .ok (.aload_n 0, 1) := by decide +kernel
theorem dX9_item_1 : decode cX9_item 1 = .ok (.iload_n 1, 1) := by decide +kernel
theorem dX9_item_2 : decode cX9_item 2 = .ok (.invokevirtual 204, 3) := by decide +kernel
theorem dX9_item_5 : decode cX9_item 5 = .ok (.astore 6, 2) := by decide +kernel
theorem dX9_item_7 : decode cX9_item 7 = .ok (.aload 6, 2) := by decide +kernel
theorem dX9_item_9 : decode cX9_item 9 = .ok (.ifnull 10, 3) := by decide +kernel
theorem dX9_item_12 : decode cX9_item 12 = .ok (.iload_n 2, 1) := by decide +kernel
theorem dX9_item_13 : decode cX9_item 13 = .ok (.invokestatic 208, 3) := by decide +kernel
theorem dX9_item_16 : decode cX9_item 16 = .ok (.ifCond .ne 5, 3) := by decide +kernel
theorem dX9_item_19 : decode cX9_item 19 = .ok (.iconst (-1), 1) := by decide +kernel
theorem dX9_item_20 : decode cX9_item 20 = .ok (.ireturn, 1) := by decide +kernel
theorem dX9_item_21 : decode cX9_item 21 = .ok (.aload 6, 2) := by decide +kernel
theorem dX9_item_23 : decode cX9_item 23 = .ok (.iload_n 2, 1) := by decide +kernel
theorem dX9_item_24 : decode cX9_item 24 = .ok (.iload_n 3, 1) := by decide +kernel
theorem dX9_item_25 : decode cX9_item 25 = .ok (.iconst 1, 1) := by decide +kernel
theorem dX9_item_26 : decode cX9_item 26 = .ok (.invokevirtual 211, 3) := by decide +kernel
theorem dX9_item_29 : decode cX9_item 29 = .ok (.istore 7, 2) := by decide +kernel
theorem dX9_item_31 : decode cX9_item 31 = .ok (.iload 7, 2) := by decide +kernel
theorem dX9_item_33 : decode cX9_item 33 = .ok (.ifCond .eq 6, 3) := by decide +kernel
theorem dX9_item_36 : decode cX9_item 36 = .ok (.iload 7, 2) := by decide +kernel
theorem dX9_item_38 : decode cX9_item 38 = .ok (.ireturn, 1) := by decide +kernel
theorem dX9_item_39 : decode cX9_item 39 = .ok (.aload 6, 2) := by decide +kernel
theorem dX9_item_41 : decode cX9_item 41 = .ok (.iload_n 3, 1) := by decide +kernel
theorem dX9_item_42 : decode cX9_item 42 = .ok (.lload 4, 2) := by decide +kernel
theorem dX9_item_44 : decode cX9_item 44 = .ok (.invokevirtual 240, 3) := by decide +kernel
theorem dX9_item_47 : decode cX9_item 47 = .ok (.iconst 1, 1) := by decide +kernel
theorem dX9_item_48 : decode cX9_item 48 = .ok (.ireturn, 1) := by decide +kernel
theorem dX9_copy_0 : decode cX9_copy 0 = .ok (.aload_n 0, 1) := by decide +kernel
theorem dX9_copy_1 : decode cX9_copy 1 = .ok (.iload_n 1, 1) := by decide +kernel
theorem dX9_copy_2 : decode cX9_copy 2 = .ok (.invokevirtual 204, 3) := by decide +kernel
theorem dX9_copy_5 : decode cX9_copy 5 = .ok (.astore 6, 2) := by decide +kernel
theorem dX9_copy_7 : decode cX9_copy 7 = .ok (.aload_n 0, 1) := by decide +kernel
theorem dX9_copy_8 : decode cX9_copy 8 = .ok (.iload_n 3, 1) := by decide +kernel
theorem dX9_copy_9 : decode cX9_copy 9 = .ok (.invokevirtual 204, 3) := by decide +kernel
theorem dX9_copy_12 : decode cX9_copy 12 = .ok (.astore 7, 2) := by decide +kernel
theorem dX9_copy_14 : decode cX9_copy 14 = .ok (.aload 6, 2) := by decide +kernel
theorem dX9_copy_16 : decode cX9_copy 16 = .ok (.ifnull 8, 3) := by decide +kernel
theorem dX9_copy_19 : decode cX9_copy 19 = .ok (.aload 7, 2) := by decide +kernel
theorem dX9_copy_21 : decode cX9_copy 21 = .ok (.ifnonnull 5, 3) := by decide +kernel
theorem dX9_copy_24 : decode cX9_copy 24 = .ok (.iconst (-1), 1) := by decide +kernel
theorem dX9_copy_25 : decode cX9_copy 25 = .ok (.ireturn, 1) := by decide +kernel
theorem dX9_copy_26 : decode cX9_copy 26 = .ok (.aload 6, 2) := by decide +kernel
theorem dX9_copy_28 : decode cX9_copy 28 = .ok (.invokevirtual 247, 3) := by decide +kernel
theorem dX9_copy_31 : decode cX9_copy 31 = .ok (.ifCond .eq 11, 3) := by decide +kernel
theorem dX9_copy_34 : decode cX9_copy 34 = .ok (.aload 7, 2) := by decide +kernel
theorem dX9_copy_36 : decode cX9_copy 36 = .ok (.invokevirtual 247, 3) := by decide +kernel
theorem dX9_copy_39 : decode cX9_copy 39 = .ok (.ifCond .ne 6, 3) := by decide +kernel
theorem dX9_copy_42 : decode cX9_copy 42 = .ok (.bipush (-11), 2) := by decide +kernel
theorem dX9_copy_44 : decode cX9_copy 44 = .ok (.ireturn, 1) := by decide +kernel
theorem dX9_copy_45 : decode cX9_copy 45 = .ok (.aload 7, 2) := by decide +kernel
theorem dX9_copy_47 : decode cX9_copy 47 = .ok (.aload 6, 2) := by decide +kernel
theorem dX9_copy_49 : decode cX9_copy 49 = .ok (.invokevirtual 254, 3) := by decide +kernel
theorem dX9_copy_52 : decode cX9_copy 52 = .ok (.ifCond .ne 6, 3) := by decide +kernel
theorem dX9_copy_55 : decode cX9_copy 55 = .ok (.bipush (-12), 2) := by decide +kernel
theorem dX9_copy_57 : decode cX9_copy 57 = .ok (.ireturn, 1) := by decide +kernel
theorem dX9_copy_58 : decode cX9_copy 58 = .ok (.aload 6, 2) := by decide +kernel
theorem dX9_copy_60 : decode cX9_copy 60 = .ok (.iload_n 2, 1) := by decide +kernel
theorem dX9_copy_61 : decode cX9_copy 61 = .ok (.iload 5, 2) := by decide +kernel
theorem dX9_copy_63 : decode cX9_copy 63 = .ok (.invokevirtual 258, 3) := by decide +kernel
theorem dX9_copy_66 : decode cX9_copy 66 = .ok (.ifCond .eq 15, 3) := by decide +kernel
theorem dX9_copy_69 : decode cX9_copy 69 = .ok (.aload 7, 2) := by decide +kernel
theorem dX9_copy_71 : decode cX9_copy 71 = .ok (.iload 4, 2) := by decide +kernel
theorem dX9_copy_73 : decode cX9_copy 73 = .ok (.iload 5, 2) := by decide +kernel
theorem dX9_copy_75 : decode cX9_copy 75 = .ok (.invokevirtual 258, 3) := by decide +kernel
theorem dX9_copy_78 : decode cX9_copy 78 = .ok (.ifCond .ne 6, 3) := by decide +kernel
theorem dX9_copy_81 : decode cX9_copy 81 = .ok (.bipush (-13), 2) := by decide +kernel
theorem dX9_copy_83 : decode cX9_copy 83 = .ok (.ireturn, 1) := by decide +kernel
theorem dX9_copy_84 : decode cX9_copy 84 = .ok (.aload 7, 2) := by decide +kernel
theorem dX9_copy_86 : decode cX9_copy 86 = .ok (.iload 4, 2) := by decide +kernel
theorem dX9_copy_88 : decode cX9_copy 88 = .ok (.aload 6, 2) := by decide +kernel
theorem dX9_copy_90 : decode cX9_copy 90 = .ok (.iload_n 2, 1) := by decide +kernel
theorem dX9_copy_91 : decode cX9_copy 91 = .ok (.iload 5, 2) := by decide +kernel
theorem dX9_copy_93 : decode cX9_copy 93 = .ok (.invokevirtual 261, 3) := by decide +kernel
theorem dX9_copy_96 : decode cX9_copy 96 = .ok (.iload 5, 2) := by decide +kernel
theorem dX9_copy_98 : decode cX9_copy 98 = .ok (.ireturn, 1) := by decide +kernel
theorem dX9_isIn_0 : decode cX9_isIn 0 = .ok (.iload_n 0, 1) := by decide +kernel
theorem dX9_isIn_1 : decode cX9_isIn 1 = .ok (.iload_n 1, 1) := by decide +kernel
theorem dX9_isIn_2 : decode cX9_isIn 2 = .ok (.if_icmp .lt 12, 3) := by decide +kernel
theorem dX9_isIn_5 : decode cX9_isIn 5 = .ok (.iload_n 0, 1) := by decide +kernel
theorem dX9_isIn_6 : decode cX9_isIn 6 = .ok (.iload_n 2, 1) := by decide +kernel
theorem dX9_isIn_7 : decode cX9_isIn 7 = .ok (.if_icmp .gt 7, 3) := by decide +kernel
theorem dX9_isIn_10 : decode cX9_isIn 10 = .ok (.iconst 1, 1) := by decide +kernel
theorem dX9_isIn_11 : decode cX9_isIn 11 = .ok (.goto 4, 3) := by decide +kernel
theorem dX9_isIn_14 : decode cX9_isIn 14 = .ok (.iconst 0, 1) := by decide +kernel
theorem dX9_isIn_15 : decode cX9_isIn 15 = .ok (.ireturn, 1) := by decide +kernel
theorem dX9_isPlace_0 : decode cX9_isPlace 0 = .ok (.iload_n 0, 1) := by decide +kernel
theorem dX9_isPlace_1 : decode cX9_isPlace 1 = .ok (.ifCond .lt 13, 3) := by decide +kernel
theorem dX9_isPlace_4 : decode cX9_isPlace 4 = .ok (.iload_n 0, 1) := by decide +kernel
theorem dX9_isPlace_5 : decode cX9_isPlace 5 = .ok (.bipush 6, 2) := by decide +kernel
theorem dX9_isPlace_7 : decode cX9_isPlace 7 = .ok (.if_icmp .ge 7, 3) := by decide +kernel
theorem dX9_isPlace_10 : decode cX9_isPlace 10 = .ok (.iconst 1, 1) := by decide +kernel
theorem dX9_isPlace_11 : decode cX9_isPlace 11 = .ok (.goto 4, 3) := by decide +kernel
theorem dX9_isPlace_14 : decode cX9_isPlace 14 = .ok (.iconst 0, 1) := by decide +kernel
theorem dX9_isPlace_15 : decode cX9_isPlace 15 = .ok (.ireturn, 1) := by decide +kernel
theorem dX9_isTown_0 : decode cX9_isTown 0 = .ok (.iload_n 0, 1) := by decide +kernel
theorem dX9_isTown_1 : decode cX9_isTown 1 = .ok (.ifCond .lt 12, 3) := by decide +kernel
theorem dX9_isTown_4 : decode cX9_isTown 4 = .ok (.iload_n 0, 1) := by decide +kernel
theorem dX9_isTown_5 : decode cX9_isTown 5 = .ok (.iconst 4, 1) := by decide +kernel
theorem dX9_isTown_6 : decode cX9_isTown 6 = .ok (.if_icmp .ge 7, 3) := by decide +kernel
theorem dX9_isTown_9 : decode cX9_isTown 9 = .ok (.iconst 1, 1) := by decide +kernel
theorem dX9_isTown_10 : decode cX9_isTown 10 = .ok (.goto 4, 3) := by decide +kernel
theorem dX9_isTown_13 : decode cX9_isTown 13 = .ok (.iconst 0, 1) := by decide +kernel
theorem dX9_isTown_14 : decode cX9_isTown 14 = .ok (.ireturn, 1) := by decide +kernel
theorem dX9_isLane_0 : decode cX9_isLane 0 = .ok (.iload_n 0, 1) := by decide +kernel
theorem dX9_isLane_1 : decode cX9_isLane 1 = .ok (.iconst 0, 1) := by decide +kernel
theorem dX9_isLane_2 : decode cX9_isLane 2 = .ok (.iconst 2, 1) := by decide +kernel
theorem dX9_isLane_3 : decode cX9_isLane 3 = .ok (.invokestatic 61, 3) := by decide +kernel
theorem dX9_isLane_6 : decode cX9_isLane 6 = .ok (.ireturn, 1) := by decide +kernel
theorem dX9_isPart_0 : decode cX9_isPart 0 = .ok (.iload_n 0, 1) := by decide +kernel
theorem dX9_isPart_1 : decode cX9_isPart 1 = .ok (.iconst 0, 1) := by decide +kernel
theorem dX9_isPart_2 : decode cX9_isPart 2 = .ok (.iconst 1, 1) := by decide +kernel
theorem dX9_isPart_3 : decode cX9_isPart 3 = .ok (.invokestatic 61, 3) := by decide +kernel
theorem dX9_isPart_6 : decode cX9_isPart 6 = .ok (.ireturn, 1) := by decide +kernel
theorem dX9_holds_0 : decode cX9_holds 0 = .ok (.iload_n 0, 1) := by decide +kernel
theorem dX9_holds_1 : decode cX9_holds 1 = .ok (.iload_n 1, 1) := by decide +kernel
theorem dX9_holds_2 : decode cX9_holds 2 = .ok (.ishr, 1) := by decide +kernel
theorem dX9_holds_3 : decode cX9_holds 3 = .ok (.iconst 1, 1) := by decide +kernel
theorem dX9_holds_4 : decode cX9_holds 4 = .ok (.iand, 1) := by decide +kernel
theorem dX9_holds_5 : decode cX9_holds 5 = .ok (.ifCond .eq 7, 3) := by decide +kernel
theorem dX9_holds_8 : decode cX9_holds 8 = .ok (.iconst 1, 1) := by decide +kernel
theorem dX9_holds_9 : decode cX9_holds 9 = .ok (.goto 4, 3) := by decide +kernel
theorem dX9_holds_12 : decode cX9_holds 12 = .ok (.iconst 0, 1) := by decide +kernel
theorem dX9_holds_13 : decode cX9_holds 13 = .ok (.ireturn, 1) := by decide +kernel
theorem dX9_sheetAt_0 : decode cX9_sheetAt 0 = .ok (.iload_n 1, 1) := by decide +kernel
theorem dX9_sheetAt_1 : decode cX9_sheetAt 1 = .ok (.ifCond .lt 21, 3) := by decide +kernel
theorem dX9_sheetAt_4 : decode cX9_sheetAt 4 = .ok (.iload_n 1, 1) := by decide +kernel
theorem dX9_sheetAt_5 : decode cX9_sheetAt 5 = .ok (.aload_n 0, 1) := by decide +kernel
theorem dX9_sheetAt_6 : decode cX9_sheetAt 6 = .ok (.getfield 56, 3) := by decide +kernel
theorem dX9_sheetAt_9 : decode cX9_sheetAt 9 = .ok (.arraylength, 1) := by decide +kernel
theorem dX9_sheetAt_10 : decode cX9_sheetAt 10 = .ok (.if_icmp .ge 12, 3) := by decide +kernel
theorem dX9_sheetAt_13 : decode cX9_sheetAt 13 = .ok (.aload_n 0, 1) := by decide +kernel
theorem dX9_sheetAt_14 : decode cX9_sheetAt 14 = .ok (.getfield 56, 3) := by decide +kernel
theorem dX9_sheetAt_17 : decode cX9_sheetAt 17 = .ok (.iload_n 1, 1) := by decide +kernel
theorem dX9_sheetAt_18 : decode cX9_sheetAt 18 = .ok (.aaload, 1) := by decide +kernel
theorem dX9_sheetAt_19 : decode cX9_sheetAt 19 = .ok (.goto 4, 3) := by decide +kernel
theorem dX9_sheetAt_22 : decode cX9_sheetAt 22 = .ok (.aconst_null, 1) := by decide +kernel
theorem dX9_sheetAt_23 : decode cX9_sheetAt 23 = .ok (.areturn, 1) := by decide +kernel
theorem dX9_amongSenses_0 : decode cX9_amongSenses 0 = .ok (.iload_n 1, 1) := by decide +kernel
theorem dX9_amongSenses_1 : decode cX9_amongSenses 1 = .ok (.iload_n 0, 1) := by decide +kernel
theorem dX9_amongSenses_2 : decode cX9_amongSenses 2 = .ok (.isub, 1) := by decide +kernel
theorem dX9_amongSenses_3 : decode cX9_amongSenses 3 = .ok (.iconst 1, 1) := by decide +kernel
theorem dX9_amongSenses_4 : decode cX9_amongSenses 4 = .ok (.iadd, 1) := by decide +kernel
theorem dX9_amongSenses_5 : decode cX9_amongSenses 5 = .ok (.istore_n 3, 1) := by decide +kernel
theorem dX9_amongSenses_6 : decode cX9_amongSenses 6 = .ok (.iload_n 3, 1) := by decide +kernel
theorem dX9_amongSenses_7 : decode cX9_amongSenses 7 = .ok (.iconst 1, 1) := by decide +kernel
theorem dX9_amongSenses_8 : decode cX9_amongSenses 8 = .ok (.if_icmp .lt 13, 3) := by decide +kernel
theorem dX9_amongSenses_11 : decode cX9_amongSenses 11 = .ok (.iload_n 2, 1) := by decide +kernel
theorem dX9_amongSenses_12 : decode cX9_amongSenses 12 = .ok (.iconst 2, 1) := by decide +kernel
theorem dX9_amongSenses_13 : decode cX9_amongSenses 13 = .ok (.if_icmp .ne 11, 3) := by decide +kernel
theorem dX9_amongSenses_16 : decode cX9_amongSenses 16 = .ok (.iload_n 3, 1) := by decide +kernel
theorem dX9_amongSenses_17 : decode cX9_amongSenses 17 = .ok (.iconst 2, 1) := by decide +kernel
theorem dX9_amongSenses_18 : decode cX9_amongSenses 18 = .ok (.if_icmp .ge 6, 3) := by decide +kernel
theorem dX9_amongSenses_21 : decode cX9_amongSenses 21 = .ok (.bipush (-4), 2) := by decide +kernel
theorem dX9_amongSenses_23 : decode cX9_amongSenses 23 = .ok (.ireturn, 1) := by decide +kernel
theorem dX9_amongSenses_24 : decode cX9_amongSenses 24 = .ok (.iload_n 2, 1) := by decide +kernel
theorem dX9_amongSenses_25 : decode cX9_amongSenses 25 = .ok (.iconst 2, 1) := by decide +kernel
theorem dX9_amongSenses_26 : decode cX9_amongSenses 26 = .ok (.if_icmp .ne 9, 3) := by decide +kernel
theorem dX9_amongSenses_29 : decode cX9_amongSenses 29 = .ok (.iload_n 0, 1) := by decide +kernel
theorem dX9_amongSenses_30 : decode cX9_amongSenses 30 = .ok (.iload_n 3, 1) := by decide +kernel
theorem dX9_amongSenses_31 : decode cX9_amongSenses 31 = .ok (.iconst 2, 1) := by decide +kernel
theorem dX9_amongSenses_32 : decode cX9_amongSenses 32 = .ok (.idiv, 1) := by decide +kernel
theorem dX9_amongSenses_33 : decode cX9_amongSenses 33 = .ok (.iadd, 1) := by decide +kernel
theorem dX9_amongSenses_34 : decode cX9_amongSenses 34 = .ok (.ireturn, 1) := by decide +kernel
theorem dX9_amongSenses_35 : decode cX9_amongSenses 35 = .ok (.iload_n 2, 1) := by decide +kernel
theorem dX9_amongSenses_36 : decode cX9_amongSenses 36 = .ok (.ifCond .ne 7, 3) := by decide +kernel
theorem dX9_amongSenses_39 : decode cX9_amongSenses 39 = .ok (.iload_n 0, 1) := by decide +kernel
theorem dX9_amongSenses_40 : decode cX9_amongSenses 40 = .ok (.goto 4, 3) := by decide +kernel
theorem dX9_amongSenses_43 : decode cX9_amongSenses 43 = .ok (.iload_n 1, 1) := by decide +kernel
theorem dX9_amongSenses_44 : decode cX9_amongSenses 44 = .ok (.ireturn, 1) := by decide +kernel
theorem dX9_power_0 : decode cX9_power 0 = .ok (.iconst 1, 1) := by decide +kernel
theorem dX9_power_1 : decode cX9_power 1 = .ok (.istore_n 2, 1) := by decide +kernel
theorem dX9_power_2 : decode cX9_power 2 = .ok (.iconst 0, 1) := by decide +kernel
theorem dX9_power_3 : decode cX9_power 3 = .ok (.istore_n 3, 1) := by decide +kernel
theorem dX9_power_4 : decode cX9_power 4 = .ok (.iload_n 3, 1) := by decide +kernel
theorem dX9_power_5 : decode cX9_power 5 = .ok (.iload_n 1, 1) := by decide +kernel
theorem dX9_power_6 : decode cX9_power 6 = .ok (.if_icmp .ge 13, 3) := by decide +kernel
theorem dX9_power_9 : decode cX9_power 9 = .ok (.iload_n 2, 1) := by decide +kernel
theorem dX9_power_10 : decode cX9_power 10 = .ok (.iload_n 0, 1) := by decide +kernel
theorem dX9_power_11 : decode cX9_power 11 = .ok (.imul, 1) := by decide +kernel
theorem dX9_power_12 : decode cX9_power 12 = .ok (.istore_n 2, 1) := by decide +kernel
theorem dX9_power_13 : decode cX9_power 13 = .ok (.iinc 3 1, 3) := by decide +kernel
theorem dX9_power_16 : decode cX9_power 16 = .ok (.goto (-12), 3) := by decide +kernel
theorem dX9_power_19 : decode cX9_power 19 = .ok (.iload_n 2, 1) := by decide +kernel
theorem dX9_power_20 : decode cX9_power 20 = .ok (.ireturn, 1) := by decide +kernel
theorem dX9_partOf_0 : decode cX9_partOf 0 = .ok (.iload_n 0, 1) := by decide +kernel
theorem dX9_partOf_1 : decode cX9_partOf 1 = .ok (.iload_n 1, 1) := by decide +kernel
theorem dX9_partOf_2 : decode cX9_partOf 2 = .ok (.invokestatic 265, 3) := by decide +kernel
theorem dX9_partOf_5 : decode cX9_partOf 5 = .ok (.istore_n 3, 1) := by decide +kernel
theorem dX9_partOf_6 : decode cX9_partOf 6 = .ok (.iload_n 2, 1) := by decide +kernel
theorem dX9_partOf_7 : decode cX9_partOf 7 = .ok (.ifCond .ne 7, 3) := by decide +kernel
theorem dX9_partOf_10 : decode cX9_partOf 10 = .ok (.iload_n 0, 1) := by decide +kernel
theorem dX9_partOf_11 : decode cX9_partOf 11 = .ok (.goto 4, 3) := by decide +kernel
theorem dX9_partOf_14 : decode cX9_partOf 14 = .ok (.iload_n 1, 1) := by decide +kernel
theorem dX9_partOf_15 : decode cX9_partOf 15 = .ok (.istore 4, 2) := by decide +kernel
theorem dX9_partOf_17 : decode cX9_partOf 17 = .ok (.iload_n 3, 1) := by decide +kernel
theorem dX9_partOf_18 : decode cX9_partOf 18 = .ok (.ifCond .le 10, 3) := by decide +kernel
theorem dX9_partOf_21 : decode cX9_partOf 21 = .ok (.iload 4, 2) := by decide +kernel
theorem dX9_partOf_23 : decode cX9_partOf 23 = .ok (.iload_n 3, 1) := by decide +kernel
theorem dX9_partOf_24 : decode cX9_partOf 24 = .ok (.idiv, 1) := by decide +kernel
theorem dX9_partOf_25 : decode cX9_partOf 25 = .ok (.goto 5, 3) := by decide +kernel
theorem dX9_partOf_28 : decode cX9_partOf 28 = .ok (.iload 4, 2) := by decide +kernel
theorem dX9_partOf_30 : decode cX9_partOf 30 = .ok (.ireturn, 1) := by decide +kernel
theorem dX9_commonDivisor_0 : decode cX9_commonDivisor 0 = .ok (.iload_n 0, 1) := by decide +kernel
theorem dX9_commonDivisor_1 : decode cX9_commonDivisor 1 = .ok (.istore_n 2, 1) := by decide +kernel
theorem dX9_commonDivisor_2 : decode cX9_commonDivisor 2 = .ok (.iload_n 1, 1) := by decide +kernel
theorem dX9_commonDivisor_3 : decode cX9_commonDivisor 3 = .ok (.istore_n 3, 1) := by decide +kernel
theorem dX9_commonDivisor_4 : decode cX9_commonDivisor 4 = .ok (.iconst 0, 1) := by decide +kernel
theorem dX9_commonDivisor_5 : decode cX9_commonDivisor 5 = .ok (.istore 4, 2) := by decide +kernel
theorem dX9_commonDivisor_7 : decode cX9_commonDivisor 7 = .ok (.iload 4, 2) := by decide +kernel
theorem dX9_commonDivisor_9 : decode cX9_commonDivisor 9 = .ok (.bipush 64, 2) := by decide +kernel
theorem dX9_commonDivisor_11 : decode cX9_commonDivisor 11 = .ok (.if_icmp .ge 23, 3) := by decide +kernel
theorem dX9_commonDivisor_14 : decode cX9_commonDivisor 14 = .ok (.iload_n 3, 1) := by decide +kernel
theorem dX9_commonDivisor_15 : decode cX9_commonDivisor 15 = .ok (.ifCond .le 19, 3) := by decide +kernel
theorem dX9_commonDivisor_18 : decode cX9_commonDivisor 18 = .ok (.iload_n 2, 1) := by decide +kernel
theorem dX9_commonDivisor_19 : decode cX9_commonDivisor 19 = .ok (.iload_n 3, 1) := by decide +kernel
theorem dX9_commonDivisor_20 : decode cX9_commonDivisor 20 = .ok (.irem, 1) := by decide +kernel
theorem dX9_commonDivisor_21 : decode cX9_commonDivisor 21 = .ok (.istore 5, 2) := by decide +kernel
theorem dX9_commonDivisor_23 : decode cX9_commonDivisor 23 = .ok (.iload_n 3, 1) := by decide +kernel
theorem dX9_commonDivisor_24 : decode cX9_commonDivisor 24 = .ok (.istore_n 2, 1) := by decide +kernel
theorem dX9_commonDivisor_25 : decode cX9_commonDivisor 25 = .ok (.iload 5, 2) := by decide +kernel
theorem dX9_commonDivisor_27 : decode cX9_commonDivisor 27 = .ok (.istore_n 3, 1) := by decide +kernel
theorem dX9_commonDivisor_28 : decode cX9_commonDivisor 28 = .ok (.iinc 4 1, 3) := by decide +kernel
theorem dX9_commonDivisor_31 : decode cX9_commonDivisor 31 = .ok (.goto (-24), 3) := by decide +kernel
theorem dX9_commonDivisor_34 : decode cX9_commonDivisor 34 = .ok (.iload_n 2, 1) := by decide +kernel
theorem dX9_commonDivisor_35 : decode cX9_commonDivisor 35 = .ok (.ireturn, 1) := by decide +kernel
theorem dJ6_bitCount_0f7a4_0 : decode cJ6_bitCount_0f7a4 0 = .ok (.iload_n 0, 1) := by decide +kernel
theorem dJ6_bitCount_0f7a4_1 : decode cJ6_bitCount_0f7a4 1 = .ok (.iload_n 0, 1) := by decide +kernel
theorem dJ6_bitCount_0f7a4_2 : decode cJ6_bitCount_0f7a4 2 = .ok (.iconst 1, 1) := by decide +kernel
theorem dJ6_bitCount_0f7a4_3 : decode cJ6_bitCount_0f7a4 3 = .ok (.iushr, 1) := by decide +kernel
theorem dJ6_bitCount_0f7a4_4 : decode cJ6_bitCount_0f7a4 4 = .ok (.ldc_w 265, 3) := by decide +kernel
theorem dJ6_bitCount_0f7a4_7 : decode cJ6_bitCount_0f7a4 7 = .ok (.iand, 1) := by decide +kernel
theorem dJ6_bitCount_0f7a4_8 : decode cJ6_bitCount_0f7a4 8 = .ok (.isub, 1) := by decide +kernel
theorem dJ6_bitCount_0f7a4_9 : decode cJ6_bitCount_0f7a4 9 = .ok (.istore_n 0, 1) := by decide +kernel
theorem dJ6_bitCount_0f7a4_10 : decode cJ6_bitCount_0f7a4 10 = .ok (.iload_n 0, 1) := by decide +kernel
theorem dJ6_bitCount_0f7a4_11 : decode cJ6_bitCount_0f7a4 11 = .ok (.ldc_w 266, 3) := by decide +kernel
theorem dJ6_bitCount_0f7a4_14 : decode cJ6_bitCount_0f7a4 14 = .ok (.iand, 1) := by decide +kernel
theorem dJ6_bitCount_0f7a4_15 : decode cJ6_bitCount_0f7a4 15 = .ok (.iload_n 0, 1) := by decide +kernel
theorem dJ6_bitCount_0f7a4_16 : decode cJ6_bitCount_0f7a4 16 = .ok (.iconst 2, 1) := by decide +kernel
theorem dJ6_bitCount_0f7a4_17 : decode cJ6_bitCount_0f7a4 17 = .ok (.iushr, 1) := by decide +kernel
theorem dJ6_bitCount_0f7a4_18 : decode cJ6_bitCount_0f7a4 18 = .ok (.ldc_w 266, 3) := by decide +kernel
theorem dJ6_bitCount_0f7a4_21 : decode cJ6_bitCount_0f7a4 21 = .ok (.iand, 1) := by decide +kernel
theorem dJ6_bitCount_0f7a4_22 : decode cJ6_bitCount_0f7a4 22 = .ok (.iadd, 1) := by decide +kernel
theorem dJ6_bitCount_0f7a4_23 : decode cJ6_bitCount_0f7a4 23 = .ok (.istore_n 0, 1) := by decide +kernel
theorem dJ6_bitCount_0f7a4_24 : decode cJ6_bitCount_0f7a4 24 = .ok (.iload_n 0, 1) := by decide +kernel
theorem dJ6_bitCount_0f7a4_25 : decode cJ6_bitCount_0f7a4 25 = .ok (.iload_n 0, 1) := by decide +kernel
theorem dJ6_bitCount_0f7a4_26 : decode cJ6_bitCount_0f7a4 26 = .ok (.iconst 4, 1) := by decide +kernel
theorem dJ6_bitCount_0f7a4_27 : decode cJ6_bitCount_0f7a4 27 = .ok (.iushr, 1) := by decide +kernel
theorem dJ6_bitCount_0f7a4_28 : decode cJ6_bitCount_0f7a4 28 = .ok (.iadd, 1) := by decide +kernel
theorem dJ6_bitCount_0f7a4_29 : decode cJ6_bitCount_0f7a4 29 = .ok (.ldc_w 267, 3) := by decide +kernel
theorem dJ6_bitCount_0f7a4_32 : decode cJ6_bitCount_0f7a4 32 = .ok (.iand, 1) := by decide +kernel
theorem dJ6_bitCount_0f7a4_33 : decode cJ6_bitCount_0f7a4 33 = .ok (.istore_n 0, 1) := by decide +kernel
theorem dJ6_bitCount_0f7a4_34 : decode cJ6_bitCount_0f7a4 34 = .ok (.iload_n 0, 1) := by decide +kernel
theorem dJ6_bitCount_0f7a4_35 : decode cJ6_bitCount_0f7a4 35 = .ok (.iload_n 0, 1) := by decide +kernel
theorem dJ6_bitCount_0f7a4_36 : decode cJ6_bitCount_0f7a4 36 = .ok (.bipush 8, 2) := by decide +kernel
theorem dJ6_bitCount_0f7a4_38 : decode cJ6_bitCount_0f7a4 38 = .ok (.iushr, 1) := by decide +kernel
theorem dJ6_bitCount_0f7a4_39 : decode cJ6_bitCount_0f7a4 39 = .ok (.iadd, 1) := by decide +kernel
theorem dJ6_bitCount_0f7a4_40 : decode cJ6_bitCount_0f7a4 40 = .ok (.istore_n 0, 1) := by decide +kernel
theorem dJ6_bitCount_0f7a4_41 : decode cJ6_bitCount_0f7a4 41 = .ok (.iload_n 0, 1) := by decide +kernel
theorem dJ6_bitCount_0f7a4_42 : decode cJ6_bitCount_0f7a4 42 = .ok (.iload_n 0, 1) := by decide +kernel
theorem dJ6_bitCount_0f7a4_43 : decode cJ6_bitCount_0f7a4 43 = .ok (.bipush 16, 2) := by decide +kernel
theorem dJ6_bitCount_0f7a4_45 : decode cJ6_bitCount_0f7a4 45 = .ok (.iushr, 1) := by decide +kernel
theorem dJ6_bitCount_0f7a4_46 : decode cJ6_bitCount_0f7a4 46 = .ok (.iadd, 1) := by decide +kernel
theorem dJ6_bitCount_0f7a4_47 : decode cJ6_bitCount_0f7a4 47 = .ok (.istore_n 0, 1) := by decide +kernel
theorem dJ6_bitCount_0f7a4_48 : decode cJ6_bitCount_0f7a4 48 = .ok (.iload_n 0, 1) := by decide +kernel
theorem dJ6_bitCount_0f7a4_49 : decode cJ6_bitCount_0f7a4 49 = .ok (.bipush 63, 2) := by decide +kernel
theorem dJ6_bitCount_0f7a4_51 : decode cJ6_bitCount_0f7a4 51 = .ok (.iand, 1) := by decide +kernel
theorem dJ6_bitCount_0f7a4_52 : decode cJ6_bitCount_0f7a4 52 = .ok (.ireturn, 1) := by decide +kernel
theorem dJ0_length_8abf5_0 : decode cJ0_length_8abf5 0 = .ok (.aload_n 0, 1) := by decide +kernel
theorem dJ0_length_8abf5_1 : decode cJ0_length_8abf5 1 = .ok (.getfield 9, 3) := by decide +kernel
theorem dJ0_length_8abf5_4 : decode cJ0_length_8abf5 4 = .ok (.arraylength, 1) := by decide +kernel
theorem dJ0_length_8abf5_5 : decode cJ0_length_8abf5 5 = .ok (.aload_n 0, 1) := by decide +kernel
theorem dJ0_length_8abf5_6 : decode cJ0_length_8abf5 6 = .ok (.invokevirtual 335, 3) := by decide +kernel
theorem dJ0_length_8abf5_9 : decode cJ0_length_8abf5 9 = .ok (.ishr, 1) := by decide +kernel
theorem dJ0_length_8abf5_10 : decode cJ0_length_8abf5 10 = .ok (.ireturn, 1) := by decide +kernel
theorem dJ0_indexOf_0f7a4_0 : decode cJ0_indexOf_0f7a4 0 = .ok (.aload_n 0, 1) := by decide +kernel
theorem dJ0_indexOf_0f7a4_1 : decode cJ0_indexOf_0f7a4 1 = .ok (.iload_n 1, 1) := by decide +kernel
theorem dJ0_indexOf_0f7a4_2 : decode cJ0_indexOf_0f7a4 2 = .ok (.iconst 0, 1) := by decide +kernel
theorem dJ0_indexOf_0f7a4_3 : decode cJ0_indexOf_0f7a4 3 = .ok (.invokevirtual 633, 3) := by decide +kernel
theorem dJ0_indexOf_0f7a4_6 : decode cJ0_indexOf_0f7a4 6 = .ok (.ireturn, 1) := by decide +kernel
theorem dJ0_indexOf_7cf53_0 : decode cJ0_indexOf_7cf53 0 = .ok (.aload_n 0, 1) := by decide +kernel
theorem dJ0_indexOf_7cf53_1 : decode cJ0_indexOf_7cf53 1 = .ok (.invokevirtual 492, 3) := by decide +kernel
theorem dJ0_indexOf_7cf53_4 : decode cJ0_indexOf_7cf53 4 = .ok (.ifCond .eq 19, 3) := by decide +kernel
theorem dJ0_indexOf_7cf53_7 : decode cJ0_indexOf_7cf53 7 = .ok (.aload_n 0, 1) := by decide +kernel
theorem dJ0_indexOf_7cf53_8 : decode cJ0_indexOf_7cf53 8 = .ok (.getfield 9, 3) := by decide +kernel
theorem dJ0_indexOf_7cf53_11 : decode cJ0_indexOf_7cf53 11 = .ok (.iload_n 1, 1) := by decide +kernel
theorem dJ0_indexOf_7cf53_12 : decode cJ0_indexOf_7cf53 12 = .ok (.iload_n 2, 1) := by decide +kernel
theorem dJ0_indexOf_7cf53_13 : decode cJ0_indexOf_7cf53 13 = .ok (.aload_n 0, 1) := by decide +kernel
theorem dJ0_indexOf_7cf53_14 : decode cJ0_indexOf_7cf53 14 = .ok (.invokevirtual 505, 3) := by decide +kernel
theorem dJ0_indexOf_7cf53_17 : decode cJ0_indexOf_7cf53 17 = .ok (.invokestatic 637, 3) := by decide +kernel
theorem dJ0_indexOf_7cf53_20 : decode cJ0_indexOf_7cf53 20 = .ok (.goto 16, 3) := by decide +kernel
theorem dJ0_indexOf_7cf53_23 : decode cJ0_indexOf_7cf53 23 = .ok (.aload_n 0, 1) := by decide +kernel
theorem dJ0_indexOf_7cf53_24 : decode cJ0_indexOf_7cf53 24 = .ok (.getfield 9, 3) := by decide +kernel
theorem dJ0_indexOf_7cf53_27 : decode cJ0_indexOf_7cf53 27 = .ok (.iload_n 1, 1) := by decide +kernel
theorem dJ0_indexOf_7cf53_28 : decode cJ0_indexOf_7cf53 28 = .ok (.iload_n 2, 1) := by decide +kernel
theorem dJ0_indexOf_7cf53_29 : decode cJ0_indexOf_7cf53 29 = .ok (.aload_n 0, 1) := by decide +kernel
theorem dJ0_indexOf_7cf53_30 : decode cJ0_indexOf_7cf53 30 = .ok (.invokevirtual 505, 3) := by decide +kernel
theorem dJ0_indexOf_7cf53_33 : decode cJ0_indexOf_7cf53 33 = .ok (.invokestatic 640, 3) := by decide +kernel
theorem dJ0_indexOf_7cf53_36 : decode cJ0_indexOf_7cf53 36 = .ok (.ireturn, 1) := by decide +kernel
theorem dJ0_coder_7d493_0 : decode cJ0_coder_7d493 0 = .ok (.getstatic 38, 3) := by decide +kernel
theorem dJ0_coder_7d493_3 : decode cJ0_coder_7d493 3 = .ok (.ifCond .eq 10, 3) := by decide +kernel
theorem dJ0_coder_7d493_6 : decode cJ0_coder_7d493 6 = .ok (.aload_n 0, 1) := by decide +kernel
theorem dJ0_coder_7d493_7 : decode cJ0_coder_7d493 7 = .ok (.getfield 15, 3) := by decide +kernel
theorem dJ0_coder_7d493_10 : decode cJ0_coder_7d493 10 = .ok (.goto 4, 3) := by decide +kernel
theorem dJ0_coder_7d493_13 : decode cJ0_coder_7d493 13 = .ok (.iconst 1, 1) := by decide +kernel
theorem dJ0_coder_7d493_14 : decode cJ0_coder_7d493 14 = .ok (.ireturn, 1) := by decide +kernel
theorem dJ0_isLatin1_aae02_0 : decode cJ0_isLatin1_aae02 0 = .ok (.getstatic 38, 3) := by decide +kernel
theorem dJ0_isLatin1_aae02_3 : decode cJ0_isLatin1_aae02 3 = .ok (.ifCond .eq 14, 3) := by decide +kernel
theorem dJ0_isLatin1_aae02_6 : decode cJ0_isLatin1_aae02 6 = .ok (.aload_n 0, 1) := by decide +kernel
theorem dJ0_isLatin1_aae02_7 : decode cJ0_isLatin1_aae02 7 = .ok (.getfield 15, 3) := by decide +kernel
theorem dJ0_isLatin1_aae02_10 : decode cJ0_isLatin1_aae02 10 = .ok (.ifCond .ne 7, 3) := by decide +kernel
theorem dJ0_isLatin1_aae02_13 : decode cJ0_isLatin1_aae02 13 = .ok (.iconst 1, 1) := by decide +kernel
theorem dJ0_isLatin1_aae02_14 : decode cJ0_isLatin1_aae02 14 = .ok (.goto 4, 3) := by decide +kernel
theorem dJ0_isLatin1_aae02_17 : decode cJ0_isLatin1_aae02 17 = .ok (.iconst 0, 1) := by decide +kernel
theorem dJ0_isLatin1_aae02_18 : decode cJ0_isLatin1_aae02 18 = .ok (.ireturn, 1) := by decide +kernel
theorem dJ1_canEncode_9a6ad_0 : decode cJ1_canEncode_9a6ad 0 = .ok (.iload_n 0, 1) := by decide +kernel
theorem dJ1_canEncode_9a6ad_1 : decode cJ1_canEncode_9a6ad 1 = .ok (.ifCond .lt 14, 3) := by decide +kernel
theorem dJ1_canEncode_9a6ad_4 : decode cJ1_canEncode_9a6ad 4 = .ok (.iload_n 0, 1) := by decide +kernel
theorem dJ1_canEncode_9a6ad_5 : decode cJ1_canEncode_9a6ad 5 = .ok (.sipush 255, 3) := by decide +kernel
theorem dJ1_canEncode_9a6ad_8 : decode cJ1_canEncode_9a6ad 8 = .ok (.if_icmp .gt 7, 3) := by decide +kernel
theorem dJ1_canEncode_9a6ad_11 : decode cJ1_canEncode_9a6ad 11 = .ok (.iconst 1, 1) := by decide +kernel
theorem dJ1_canEncode_9a6ad_12 : decode cJ1_canEncode_9a6ad 12 = .ok (.goto 4, 3) := by decide +kernel
theorem dJ1_canEncode_9a6ad_15 : decode cJ1_canEncode_9a6ad 15 = .ok (.iconst 0, 1) := by decide +kernel
theorem dJ1_canEncode_9a6ad_16 : decode cJ1_canEncode_9a6ad 16 = .ok (.ireturn, 1) := by decide +kernel
theorem dJ1_indexOf_4cfef_0 : decode cJ1_indexOf_4cfef 0 = .ok (.iload_n 1, 1) := by decide +kernel
theorem dJ1_indexOf_4cfef_1 : decode cJ1_indexOf_4cfef 1 = .ok (.invokestatic 88, 3) := by decide +kernel
theorem dJ1_indexOf_4cfef_4 : decode cJ1_indexOf_4cfef 4 = .ok (.ifCond .ne 5, 3) := by decide +kernel
theorem dJ1_indexOf_4cfef_7 : decode cJ1_indexOf_4cfef 7 = .ok (.iconst (-1), 1) := by decide +kernel
theorem dJ1_indexOf_4cfef_8 : decode cJ1_indexOf_4cfef 8 = .ok (.ireturn, 1) := by decide +kernel
theorem dJ1_indexOf_4cfef_9 : decode cJ1_indexOf_4cfef 9 = .ok (.iload_n 2, 1) := by decide +kernel
theorem dJ1_indexOf_4cfef_10 : decode cJ1_indexOf_4cfef 10 = .ok (.iconst 0, 1) := by decide +kernel
theorem dJ1_indexOf_4cfef_11 : decode cJ1_indexOf_4cfef 11 = .ok (.invokestatic 92, 3) := by decide +kernel
theorem dJ1_indexOf_4cfef_14 : decode cJ1_indexOf_4cfef 14 = .ok (.istore_n 2, 1) := by decide +kernel
theorem dJ1_indexOf_4cfef_15 : decode cJ1_indexOf_4cfef 15 = .ok (.iload_n 3, 1) := by decide +kernel
theorem dJ1_indexOf_4cfef_16 : decode cJ1_indexOf_4cfef 16 = .ok (.aload_n 0, 1) := by decide +kernel
theorem dJ1_indexOf_4cfef_17 : decode cJ1_indexOf_4cfef 17 = .ok (.arraylength, 1) := by decide +kernel
theorem dJ1_indexOf_4cfef_18 : decode cJ1_indexOf_4cfef 18 = .ok (.invokestatic 38, 3) := by decide +kernel
theorem dJ1_indexOf_4cfef_21 : decode cJ1_indexOf_4cfef 21 = .ok (.istore_n 3, 1) := by decide +kernel
theorem dJ1_indexOf_4cfef_22 : decode cJ1_indexOf_4cfef 22 = .ok (.iload_n 2, 1) := by decide +kernel
theorem dJ1_indexOf_4cfef_23 : decode cJ1_indexOf_4cfef 23 = .ok (.iload_n 3, 1) := by decide +kernel
theorem dJ1_indexOf_4cfef_24 : decode cJ1_indexOf_4cfef 24 = .ok (.if_icmp .lt 5, 3) := by decide +kernel
theorem dJ1_indexOf_4cfef_27 : decode cJ1_indexOf_4cfef 27 = .ok (.iconst (-1), 1) := by decide +kernel
theorem dJ1_indexOf_4cfef_28 : decode cJ1_indexOf_4cfef 28 = .ok (.ireturn, 1) := by decide +kernel
theorem dJ1_indexOf_4cfef_29 : decode cJ1_indexOf_4cfef 29 = .ok (.aload_n 0, 1) := by decide +kernel
theorem dJ1_indexOf_4cfef_30 : decode cJ1_indexOf_4cfef 30 = .ok (.iload_n 1, 1) := by decide +kernel
theorem dJ1_indexOf_4cfef_31 : decode cJ1_indexOf_4cfef 31 = .ok (.iload_n 2, 1) := by decide +kernel
theorem dJ1_indexOf_4cfef_32 : decode cJ1_indexOf_4cfef 32 = .ok (.iload_n 3, 1) := by decide +kernel
theorem dJ1_indexOf_4cfef_33 : decode cJ1_indexOf_4cfef 33 = .ok (.invokestatic 95, 3) := by decide +kernel
theorem dJ1_indexOf_4cfef_36 : decode cJ1_indexOf_4cfef 36 = .ok (.ireturn, 1) := by decide +kernel
theorem dJ1_indexOfChar_4cfef_0 : decode cJ1_indexOfChar_4cfef 0 = .ok (.iload_n 1, 1) := by decide +kernel
theorem dJ1_indexOfChar_4cfef_1 : decode cJ1_indexOfChar_4cfef 1 = .ok (.i2b, 1) := by decide +kernel
theorem dJ1_indexOfChar_4cfef_2 : decode cJ1_indexOfChar_4cfef 2 = .ok (.istore 4, 2) := by decide +kernel
theorem dJ1_indexOfChar_4cfef_4 : decode cJ1_indexOfChar_4cfef 4 = .ok (.iload_n 2, 1) := by decide +kernel
theorem dJ1_indexOfChar_4cfef_5 : decode cJ1_indexOfChar_4cfef 5 = .ok (.istore 5, 2) := by decide +kernel
theorem dJ1_indexOfChar_4cfef_7 : decode cJ1_indexOfChar_4cfef 7 = .ok (.iload 5, 2) := by decide +kernel
theorem dJ1_indexOfChar_4cfef_9 : decode cJ1_indexOfChar_4cfef 9 = .ok (.iload_n 3, 1) := by decide +kernel
theorem dJ1_indexOfChar_4cfef_10 : decode cJ1_indexOfChar_4cfef 10 = .ok (.if_icmp .ge 21, 3) := by decide +kernel
theorem dJ1_indexOfChar_4cfef_13 : decode cJ1_indexOfChar_4cfef 13 = .ok (.aload_n 0, 1) := by decide +kernel
theorem dJ1_indexOfChar_4cfef_14 : decode cJ1_indexOfChar_4cfef 14 = .ok (.iload 5, 2) := by decide +kernel
theorem dJ1_indexOfChar_4cfef_16 : decode cJ1_indexOfChar_4cfef 16 = .ok (.baload, 1) := by decide +kernel
theorem dJ1_indexOfChar_4cfef_17 : decode cJ1_indexOfChar_4cfef 17 = .ok (.iload 4, 2) := by decide +kernel
theorem dJ1_indexOfChar_4cfef_19 : decode cJ1_indexOfChar_4cfef 19 = .ok (.if_icmp .ne 6, 3) := by decide +kernel
theorem dJ1_indexOfChar_4cfef_22 : decode cJ1_indexOfChar_4cfef 22 = .ok (.iload 5, 2) := by decide +kernel
theorem dJ1_indexOfChar_4cfef_24 : decode cJ1_indexOfChar_4cfef 24 = .ok (.ireturn, 1) := by decide +kernel
theorem dJ1_indexOfChar_4cfef_25 : decode cJ1_indexOfChar_4cfef 25 = .ok (.iinc 5 1, 3) := by decide +kernel
theorem dJ1_indexOfChar_4cfef_28 : decode cJ1_indexOfChar_4cfef 28 = .ok (.goto (-21), 3) := by decide +kernel
theorem dJ1_indexOfChar_4cfef_31 : decode cJ1_indexOfChar_4cfef 31 = .ok (.iconst (-1), 1) := by decide +kernel
theorem dJ1_indexOfChar_4cfef_32 : decode cJ1_indexOfChar_4cfef 32 = .ok (.ireturn, 1) := by decide +kernel
theorem dJ7_fill_d0a16_0 : decode cJ7_fill_d0a16 0 = .ok (.iconst 0, 1) := by decide +kernel
theorem dJ7_fill_d0a16_1 : decode cJ7_fill_d0a16 1 = .ok (.istore_n 3, 1) := by decide +kernel
theorem dJ7_fill_d0a16_2 : decode cJ7_fill_d0a16 2 = .ok (.aload_n 0, 1) := by decide +kernel
theorem dJ7_fill_d0a16_3 : decode cJ7_fill_d0a16 3 = .ok (.arraylength, 1) := by decide +kernel
theorem dJ7_fill_d0a16_4 : decode cJ7_fill_d0a16 4 = .ok (.istore 4, 2) := by decide +kernel
theorem dJ7_fill_d0a16_6 : decode cJ7_fill_d0a16 6 = .ok (.iload_n 3, 1) := by decide +kernel
theorem dJ7_fill_d0a16_7 : decode cJ7_fill_d0a16 7 = .ok (.iload 4, 2) := by decide +kernel
theorem dJ7_fill_d0a16_9 : decode cJ7_fill_d0a16 9 = .ok (.if_icmp .ge 13, 3) := by decide +kernel
theorem dJ7_fill_d0a16_12 : decode cJ7_fill_d0a16 12 = .ok (.aload_n 0, 1) := by decide +kernel
theorem dJ7_fill_d0a16_13 : decode cJ7_fill_d0a16 13 = .ok (.iload_n 3, 1) := by decide +kernel
theorem dJ7_fill_d0a16_14 : decode cJ7_fill_d0a16 14 = .ok (.lload_n 1, 1) := by decide +kernel
theorem dJ7_fill_d0a16_15 : decode cJ7_fill_d0a16 15 = .ok (.lastore, 1) := by decide +kernel
theorem dJ7_fill_d0a16_16 : decode cJ7_fill_d0a16 16 = .ok (.iinc 3 1, 3) := by decide +kernel
theorem dJ7_fill_d0a16_19 : decode cJ7_fill_d0a16 19 = .ok (.goto (-13), 3) := by decide +kernel
theorem dJ7_fill_d0a16_22 : decode cJ7_fill_d0a16 22 = .ok (.return_, 1) := by decide +kernel
theorem dJ7_fill_53178_0 : decode cJ7_fill_53178 0 = .ok (.iconst 0, 1) := by decide +kernel
theorem dJ7_fill_53178_1 : decode cJ7_fill_53178 1 = .ok (.istore_n 2, 1) := by decide +kernel
theorem dJ7_fill_53178_2 : decode cJ7_fill_53178 2 = .ok (.aload_n 0, 1) := by decide +kernel
theorem dJ7_fill_53178_3 : decode cJ7_fill_53178 3 = .ok (.arraylength, 1) := by decide +kernel
theorem dJ7_fill_53178_4 : decode cJ7_fill_53178 4 = .ok (.istore_n 3, 1) := by decide +kernel
theorem dJ7_fill_53178_5 : decode cJ7_fill_53178 5 = .ok (.iload_n 2, 1) := by decide +kernel
theorem dJ7_fill_53178_6 : decode cJ7_fill_53178 6 = .ok (.iload_n 3, 1) := by decide +kernel
theorem dJ7_fill_53178_7 : decode cJ7_fill_53178 7 = .ok (.if_icmp .ge 13, 3) := by decide +kernel
theorem dJ7_fill_53178_10 : decode cJ7_fill_53178 10 = .ok (.aload_n 0, 1) := by decide +kernel
theorem dJ7_fill_53178_11 : decode cJ7_fill_53178 11 = .ok (.iload_n 2, 1) := by decide +kernel
theorem dJ7_fill_53178_12 : decode cJ7_fill_53178 12 = .ok (.iload_n 1, 1) := by decide +kernel
theorem dJ7_fill_53178_13 : decode cJ7_fill_53178 13 = .ok (.iastore, 1) := by decide +kernel
theorem dJ7_fill_53178_14 : decode cJ7_fill_53178 14 = .ok (.iinc 2 1, 3) := by decide +kernel
theorem dJ7_fill_53178_17 : decode cJ7_fill_53178 17 = .ok (.goto (-12), 3) := by decide +kernel
theorem dJ7_fill_53178_20 : decode cJ7_fill_53178 20 = .ok (.return_, 1) := by decide +kernel
