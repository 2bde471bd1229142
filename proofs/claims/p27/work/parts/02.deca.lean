theorem dX0_init_0 : decode cX0_init 0 = .ok (.aload_n 0, 1) := by decide +kernel
theorem dX0_init_1 : decode cX0_init 1 = .ok (.invokespecial 3, 3) := by decide +kernel
theorem dX0_init_4 : decode cX0_init 4 = .ok (.aload_n 0, 1) := by decide +kernel
theorem dX0_init_5 : decode cX0_init 5 = .ok (.bipush 16, 2) := by decide +kernel
theorem dX0_init_7 : decode cX0_init 7 = .ok (.newarray .int, 2) := by decide +kernel
theorem dX0_init_9 : decode cX0_init 9 = .ok (.putfield 9, 3) := by decide +kernel
theorem dX0_init_12 : decode cX0_init 12 = .ok (.return_, 1) := by decide +kernel
theorem dX0_askWorth_0 : decode cX0_askWorth 0 = .ok (.aload_n 0, 1) := by decide +kernel
theorem dX0_askWorth_1 : decode cX0_askWorth 1 = .ok (.iconst 0, 1) := by decide +kernel
theorem dX0_askWorth_2 : decode cX0_askWorth 2 = .ok (.putfield 15, 3) := by decide +kernel
theorem dX0_askWorth_5 : decode cX0_askWorth 5 = .ok (.aload_n 1, 1) := by decide +kernel
theorem dX0_askWorth_6 : decode cX0_askWorth 6 = .ok (.iload_n 2, 1) := by decide +kernel
theorem dX0_askWorth_7 : decode cX0_askWorth 7 = .ok (.invokevirtual 19, 3) := by decide +kernel
theorem dX0_askWorth_10 : decode cX0_askWorth 10 = .ok (.lookupswitch 40 #[(2, 33), (3, 26)], 26) := by decide +kernel
theorem dX0_askWorth_36 : decode cX0_askWorth 36 = .ok (.aload_n 0, 1) := by decide +kernel
theorem dX0_askWorth_37 : decode cX0_askWorth 37 = .ok (.aload_n 1, 1) := by decide +kernel
theorem dX0_askWorth_38 : decode cX0_askWorth 38 = .ok (.iload_n 2, 1) := by decide +kernel
theorem dX0_askWorth_39 : decode cX0_askWorth 39 = .ok (.invokevirtual 25, 3) := by decide +kernel
theorem dX0_askWorth_42 : decode cX0_askWorth 42 = .ok (.ireturn, 1) := by decide +kernel
theorem dX0_askWorth_43 : decode cX0_askWorth 43 = .ok (.aload_n 0, 1) := by decide +kernel
theorem dX0_askWorth_44 : decode cX0_askWorth 44 = .ok (.aload_n 1, 1) := by decide +kernel
theorem dX0_askWorth_45 : decode cX0_askWorth 45 = .ok (.iload_n 2, 1) := by decide +kernel
theorem dX0_askWorth_46 : decode cX0_askWorth 46 = .ok (.invokevirtual 29, 3) := by decide +kernel
theorem dX0_askWorth_49 : decode cX0_askWorth 49 = .ok (.ireturn, 1) := by decide +kernel
theorem dX0_askWorth_50 : decode cX0_askWorth 50 = .ok (.aload_n 0, 1) := by decide +kernel
theorem dX0_askWorth_51 : decode cX0_askWorth 51 = .ok (.aload_n 1, 1) := by decide +kernel
theorem dX0_askWorth_52 : decode cX0_askWorth 52 = .ok (.iload_n 2, 1) := by decide +kernel
theorem dX0_askWorth_53 : decode cX0_askWorth 53 = .ok (.invokevirtual 32, 3) := by decide +kernel
theorem dX0_askWorth_56 : decode cX0_askWorth 56 = .ok (.ireturn, 1) := by decide +kernel
theorem dX0_askMark_0 : decode cX0_askMark 0 = .ok (.aload_n 0, 1) := by decide +kernel
theorem dX0_askMark_1 : decode cX0_askMark 1 = .ok (.iconst 0, 1) := by decide +kernel
theorem dX0_askMark_2 : decode cX0_askMark 2 = .ok (.putfield 15, 3) := by decide +kernel
theorem dX0_askMark_5 : decode cX0_askMark 5 = .ok (.aload_n 1, 1) := by decide +kernel
theorem dX0_askMark_6 : decode cX0_askMark 6 = .ok (.iload_n 2, 1) := by decide +kernel
theorem dX0_askMark_7 : decode cX0_askMark 7 = .ok (.invokevirtual 19, 3) := by decide +kernel
theorem dX0_askMark_10 : decode cX0_askMark 10 = .ok (.lookupswitch 40 #[(2, 33), (3, 26)], 26) := by decide +kernel
theorem dX0_askMark_36 : decode cX0_askMark 36 = .ok (.aload_n 0, 1) := by decide +kernel
theorem dX0_askMark_37 : decode cX0_askMark 37 = .ok (.aload_n 1, 1) := by decide +kernel
theorem dX0_askMark_38 : decode cX0_askMark 38 = .ok (.iload_n 2, 1) := by decide +kernel
theorem dX0_askMark_39 : decode cX0_askMark 39 = .ok (.invokevirtual 35, 3) := by decide +kernel
theorem dX0_askMark_42 : decode cX0_askMark 42 = .ok (.ireturn, 1) := by decide +kernel
theorem dX0_askMark_43 : decode cX0_askMark 43 = .ok (.aload_n 0, 1) := by decide +kernel
theorem dX0_askMark_44 : decode cX0_askMark 44 = .ok (.aload_n 1, 1) := by decide +kernel
theorem dX0_askMark_45 : decode cX0_askMark 45 = .ok (.iload_n 2, 1) := by decide +kernel
theorem dX0_askMark_46 : decode cX0_askMark 46 = .ok (.invokevirtual 38, 3) := by decide +kernel
theorem dX0_askMark_49 : decode cX0_askMark 49 = .ok (.ireturn, 1) := by decide +kernel
theorem dX0_askMark_50 : decode cX0_askMark 50 = .ok (.aload_n 0, 1) := by decide +kernel
theorem dX0_askMark_51 : decode cX0_askMark 51 = .ok (.aload_n 1, 1) := by decide +kernel
theorem dX0_askMark_52 : decode cX0_askMark 52 = .ok (.iload_n 2, 1) := by decide +kernel
theorem dX0_askMark_53 : decode cX0_askMark 53 = .ok (.invokevirtual 41, 3) := by decide +kernel
theorem dX0_askMark_56 : decode cX0_askMark 56 = .ok (.ireturn, 1) := by decide +kernel
theorem dX0_begin_0 : decode cX0_begin 0 = .ok (.aload_n 0, 1) := by decide +kernel
theorem dX0_begin_1 : decode cX0_begin 1 = .ok (.getfield 15, 3) := by decide +kernel
theorem dX0_begin_4 : decode cX0_begin 4 = .ok (.bipush 16, 2) := by decide +kernel
theorem dX0_begin_6 : decode cX0_begin 6 = .ok (.if_icmp .ge 23, 3) := by decide +kernel
theorem dX0_begin_9 : decode cX0_begin 9 = .ok (.aload_n 0, 1) := by decide +kernel
theorem dX0_begin_10 : decode cX0_begin 10 = .ok (.getfield 9, 3) := by decide +kernel
theorem dX0_begin_13 : decode cX0_begin 13 = .ok (.aload_n 0, 1) := by decide +kernel
theorem dX0_begin_14 : decode cX0_begin 14 = .ok (.getfield 15, 3) := by decide +kernel
theorem dX0_begin_17 : decode cX0_begin 17 = .ok (.iload_n 1, 1) := by decide +kernel
theorem dX0_begin_18 : decode cX0_begin 18 = .ok (.iastore, 1) := by decide +kernel
theorem dX0_begin_19 : decode cX0_begin 19 = .ok (.aload_n 0, 1) := by decide +kernel
theorem dX0_begin_20 : decode cX0_begin 20 = .ok (.dup, 1) := by decide +kernel
theorem dX0_begin_21 : decode cX0_begin 21 = .ok (.getfield 15, 3) := by decide +kernel
theorem dX0_begin_24 : decode cX0_begin 24 = .ok (.iconst 1, 1) := by decide +kernel
theorem dX0_begin_25 : decode cX0_begin 25 = .ok (.iadd, 1) := by decide +kernel
theorem dX0_begin_26 : decode cX0_begin 26 = .ok (.putfield 15, 3) := by decide +kernel
theorem dX0_begin_29 : decode cX0_begin 29 = .ok (.return_, 1) := by decide +kernel
theorem dX0_worthOfAny_0 : decode cX0_worthOfAny 0 = .ok (.aload_n 0, 1) := by decide +kernel
theorem dX0_worthOfAny_1 : decode cX0_worthOfAny 1 = .ok (.bipush 10, 2) := by decide +kernel
theorem dX0_worthOfAny_3 : decode cX0_worthOfAny 3 = .ok (.invokevirtual 44, 3) := by decide +kernel
theorem dX0_worthOfAny_6 : decode cX0_worthOfAny 6 = .ok (.aload_n 1, 1) := by decide +kernel
theorem dX0_worthOfAny_7 : decode cX0_worthOfAny 7 = .ok (.getfield 48, 3) := by decide +kernel
theorem dX0_worthOfAny_10 : decode cX0_worthOfAny 10 = .ok (.iload_n 2, 1) := by decide +kernel
theorem dX0_worthOfAny_11 : decode cX0_worthOfAny 11 = .ok (.iaload, 1) := by decide +kernel
theorem dX0_worthOfAny_12 : decode cX0_worthOfAny 12 = .ok (.ireturn, 1) := by decide +kernel
theorem dX0_worthOfOpen_0 : decode cX0_worthOfOpen 0 = .ok (.aload_n 0, 1) := by decide +kernel
theorem dX0_worthOfOpen_1 : decode cX0_worthOfOpen 1 = .ok (.bipush 11, 2) := by decide +kernel
theorem dX0_worthOfOpen_3 : decode cX0_worthOfOpen 3 = .ok (.invokevirtual 44, 3) := by decide +kernel
theorem dX0_worthOfOpen_6 : decode cX0_worthOfOpen 6 = .ok (.aload_n 0, 1) := by decide +kernel
theorem dX0_worthOfOpen_7 : decode cX0_worthOfOpen 7 = .ok (.aload_n 1, 1) := by decide +kernel
theorem dX0_worthOfOpen_8 : decode cX0_worthOfOpen 8 = .ok (.iload_n 2, 1) := by decide +kernel
theorem dX0_worthOfOpen_9 : decode cX0_worthOfOpen 9 = .ok (.invokevirtual 51, 3) := by decide +kernel
theorem dX0_worthOfOpen_12 : decode cX0_worthOfOpen 12 = .ok (.aload_n 1, 1) := by decide +kernel
theorem dX0_worthOfOpen_13 : decode cX0_worthOfOpen 13 = .ok (.iload_n 2, 1) := by decide +kernel
theorem dX0_worthOfOpen_14 : decode cX0_worthOfOpen 14 = .ok (.invokevirtual 54, 3) := by decide +kernel
theorem dX0_worthOfOpen_17 : decode cX0_worthOfOpen 17 = .ok (.isub, 1) := by decide +kernel
theorem dX0_worthOfOpen_18 : decode cX0_worthOfOpen 18 = .ok (.ireturn, 1) := by decide +kernel
theorem dX0_worthOfNear_0 : decode cX0_worthOfNear 0 = .ok (.aload_n 0, 1) := by decide +kernel
theorem dX0_worthOfNear_1 : decode cX0_worthOfNear 1 = .ok (.bipush 12, 2) := by decide +kernel
theorem dX0_worthOfNear_3 : decode cX0_worthOfNear 3 = .ok (.invokevirtual 44, 3) := by decide +kernel
theorem dX0_worthOfNear_6 : decode cX0_worthOfNear 6 = .ok (.aload_n 0, 1) := by decide +kernel
theorem dX0_worthOfNear_7 : decode cX0_worthOfNear 7 = .ok (.aload_n 1, 1) := by decide +kernel
theorem dX0_worthOfNear_8 : decode cX0_worthOfNear 8 = .ok (.iload_n 2, 1) := by decide +kernel
theorem dX0_worthOfNear_9 : decode cX0_worthOfNear 9 = .ok (.invokevirtual 32, 3) := by decide +kernel
theorem dX0_worthOfNear_12 : decode cX0_worthOfNear 12 = .ok (.aload_n 0, 1) := by decide +kernel
theorem dX0_worthOfNear_13 : decode cX0_worthOfNear 13 = .ok (.aload_n 1, 1) := by decide +kernel
theorem dX0_worthOfNear_14 : decode cX0_worthOfNear 14 = .ok (.iload_n 2, 1) := by decide +kernel
theorem dX0_worthOfNear_15 : decode cX0_worthOfNear 15 = .ok (.invokevirtual 38, 3) := by decide +kernel
theorem dX0_worthOfNear_18 : decode cX0_worthOfNear 18 = .ok (.iadd, 1) := by decide +kernel
theorem dX0_worthOfNear_19 : decode cX0_worthOfNear 19 = .ok (.ireturn, 1) := by decide +kernel
theorem dX0_worthOfOwn_0 : decode cX0_worthOfOwn 0 = .ok (.aload_n 0, 1) := by decide +kernel
theorem dX0_worthOfOwn_1 : decode cX0_worthOfOwn 1 = .ok (.bipush 13, 2) := by decide +kernel
theorem dX0_worthOfOwn_3 : decode cX0_worthOfOwn 3 = .ok (.invokevirtual 44, 3) := by decide +kernel
theorem dX0_worthOfOwn_6 : decode cX0_worthOfOwn 6 = .ok (.iconst 2, 1) := by decide +kernel
theorem dX0_worthOfOwn_7 : decode cX0_worthOfOwn 7 = .ok (.aload_n 0, 1) := by decide +kernel
theorem dX0_worthOfOwn_8 : decode cX0_worthOfOwn 8 = .ok (.aload_n 1, 1) := by decide +kernel
theorem dX0_worthOfOwn_9 : decode cX0_worthOfOwn 9 = .ok (.iload_n 2, 1) := by decide +kernel
theorem dX0_worthOfOwn_10 : decode cX0_worthOfOwn 10 = .ok (.invokevirtual 51, 3) := by decide +kernel
theorem dX0_worthOfOwn_13 : decode cX0_worthOfOwn 13 = .ok (.imul, 1) := by decide +kernel
theorem dX0_worthOfOwn_14 : decode cX0_worthOfOwn 14 = .ok (.ireturn, 1) := by decide +kernel
theorem dX0_markOfAny_0 : decode cX0_markOfAny 0 = .ok (.aload_n 0, 1) := by decide +kernel
theorem dX0_markOfAny_1 : decode cX0_markOfAny 1 = .ok (.bipush 20, 2) := by decide +kernel
theorem dX0_markOfAny_3 : decode cX0_markOfAny 3 = .ok (.invokevirtual 44, 3) := by decide +kernel
theorem dX0_markOfAny_6 : decode cX0_markOfAny 6 = .ok (.aload_n 1, 1) := by decide +kernel
theorem dX0_markOfAny_7 : decode cX0_markOfAny 7 = .ok (.getfield 57, 3) := by decide +kernel
theorem dX0_markOfAny_10 : decode cX0_markOfAny 10 = .ok (.iload_n 2, 1) := by decide +kernel
theorem dX0_markOfAny_11 : decode cX0_markOfAny 11 = .ok (.iaload, 1) := by decide +kernel
theorem dX0_markOfAny_12 : decode cX0_markOfAny 12 = .ok (.invokestatic 60, 3) := by decide +kernel
theorem dX0_markOfAny_15 : decode cX0_markOfAny 15 = .ok (.ireturn, 1) := by decide +kernel
theorem dX0_markOfNear_0 : decode cX0_markOfNear 0 = .ok (.aload_n 0, 1) := by decide +kernel
theorem dX0_markOfNear_1 : decode cX0_markOfNear 1 = .ok (.bipush 21, 2) := by decide +kernel
theorem dX0_markOfNear_3 : decode cX0_markOfNear 3 = .ok (.invokevirtual 44, 3) := by decide +kernel
theorem dX0_markOfNear_6 : decode cX0_markOfNear 6 = .ok (.aload_n 0, 1) := by decide +kernel
theorem dX0_markOfNear_7 : decode cX0_markOfNear 7 = .ok (.aload_n 1, 1) := by decide +kernel
theorem dX0_markOfNear_8 : decode cX0_markOfNear 8 = .ok (.iload_n 2, 1) := by decide +kernel
theorem dX0_markOfNear_9 : decode cX0_markOfNear 9 = .ok (.invokevirtual 41, 3) := by decide +kernel
theorem dX0_markOfNear_12 : decode cX0_markOfNear 12 = .ok (.bipush 100, 2) := by decide +kernel
theorem dX0_markOfNear_14 : decode cX0_markOfNear 14 = .ok (.iadd, 1) := by decide +kernel
theorem dX0_markOfNear_15 : decode cX0_markOfNear 15 = .ok (.ireturn, 1) := by decide +kernel
theorem dX0_markOfOwn_0 : decode cX0_markOfOwn 0 = .ok (.aload_n 0, 1) := by decide +kernel
theorem dX0_markOfOwn_1 : decode cX0_markOfOwn 1 = .ok (.bipush 22, 2) := by decide +kernel
theorem dX0_markOfOwn_3 : decode cX0_markOfOwn 3 = .ok (.invokevirtual 44, 3) := by decide +kernel
theorem dX0_markOfOwn_6 : decode cX0_markOfOwn 6 = .ok (.aload_n 0, 1) := by decide +kernel
theorem dX0_markOfOwn_7 : decode cX0_markOfOwn 7 = .ok (.aload_n 1, 1) := by decide +kernel
theorem dX0_markOfOwn_8 : decode cX0_markOfOwn 8 = .ok (.iload_n 2, 1) := by decide +kernel
theorem dX0_markOfOwn_9 : decode cX0_markOfOwn 9 = .ok (.invokevirtual 41, 3) := by decide +kernel
theorem dX0_markOfOwn_12 : decode cX0_markOfOwn 12 = .ok (.aload_n 0, 1) := by decide +kernel
theorem dX0_markOfOwn_13 : decode cX0_markOfOwn 13 = .ok (.aload_n 1, 1) := by decide +kernel
theorem dX0_markOfOwn_14 : decode cX0_markOfOwn 14 = .ok (.iload_n 2, 1) := by decide +kernel
theorem dX0_markOfOwn_15 : decode cX0_markOfOwn 15 = .ok (.invokevirtual 25, 3) := by decide +kernel
theorem dX0_markOfOwn_18 : decode cX0_markOfOwn 18 = .ok (.iadd, 1) := by decide +kernel
theorem dX0_markOfOwn_19 : decode cX0_markOfOwn 19 = .ok (.ireturn, 1) := by decide +kernel
theorem dX1_init_0 : decode cX1_init 0 = .ok (.aload_n 0, 1) := by decide +kernel
theorem dX1_init_1 : decode cX1_init 1 = .ok (.invokespecial 3, 3) := by decide +kernel
theorem dX1_init_4 : decode cX1_init 4 = .ok (.aload_n 0, 1) := by decide +kernel
theorem dX1_init_5 : decode cX1_init 5 = .ok (.iconst 4, 1) := by decide +kernel
theorem dX1_init_6 : decode cX1_init 6 = .ok (.newarray .int, 2) := by decide +kernel
theorem dX1_init_8 : decode cX1_init 8 = .ok (.putfield 9, 3) := by decide +kernel
theorem dX1_init_11 : decode cX1_init 11 = .ok (.aload_n 0, 1) := by decide +kernel
theorem dX1_init_12 : decode cX1_init 12 = .ok (.iconst 4, 1) := by decide +kernel
theorem dX1_init_13 : decode cX1_init 13 = .ok (.newarray .int, 2) := by decide +kernel
theorem dX1_init_15 : decode cX1_init 15 = .ok (.putfield 15, 3) := by decide +kernel
theorem dX1_init_18 : decode cX1_init 18 = .ok (.aload_n 0, 1) := by decide +kernel
theorem dX1_init_19 : decode cX1_init 19 = .ok (.sipush 128, 3) := by decide +kernel
theorem dX1_init_22 : decode cX1_init 22 = .ok (.newarray .int, 2) := by decide +kernel
theorem dX1_init_24 : decode cX1_init 24 = .ok (.putfield 18, 3) := by decide +kernel
theorem dX1_init_27 : decode cX1_init 27 = .ok (.aload_n 0, 1) := by decide +kernel
theorem dX1_init_28 : decode cX1_init 28 = .ok (.sipush 128, 3) := by decide +kernel
theorem dX1_init_31 : decode cX1_init 31 = .ok (.newarray .boolean, 2) := by decide +kernel
theorem dX1_init_33 : decode cX1_init 33 = .ok (.putfield 21, 3) := by decide +kernel
theorem dX1_init_36 : decode cX1_init 36 = .ok (.aload_n 0, 1) := by decide +kernel
theorem dX1_init_37 : decode cX1_init 37 = .ok (.sipush 128, 3) := by decide +kernel
theorem dX1_init_40 : decode cX1_init 40 = .ok (.newarray .int, 2) := by decide +kernel
theorem dX1_init_42 : decode cX1_init 42 = .ok (.putfield 25, 3) := by decide +kernel
theorem dX1_init_45 : decode cX1_init 45 = .ok (.aload_n 0, 1) := by decide +kernel
theorem dX1_init_46 : decode cX1_init 46 = .ok (.iconst 5, 1) := by decide +kernel
theorem dX1_init_47 : decode cX1_init 47 = .ok (.newarray .int, 2) := by decide +kernel
theorem dX1_init_49 : decode cX1_init 49 = .ok (.putfield 28, 3) := by decide +kernel
theorem dX1_init_52 : decode cX1_init 52 = .ok (.aload_n 0, 1) := by decide +kernel
theorem dX1_init_53 : decode cX1_init 53 = .ok (.iconst (-1), 1) := by decide +kernel
theorem dX1_init_54 : decode cX1_init 54 = .ok (.putfield 31, 3) := by decide +kernel
theorem dX1_init_57 : decode cX1_init 57 = .ok (.return_, 1) := by decide +kernel
theorem dX2_init_0 : decode cX2_init 0 = .ok (.aload_n 0, 1) := by decide +kernel
theorem dX2_init_1 : decode cX2_init 1 = .ok (.invokespecial 3, 3) := by decide +kernel
theorem dX2_init_4 : decode cX2_init 4 = .ok (.aload_n 0, 1) := by decide +kernel
theorem dX2_init_5 : decode cX2_init 5 = .ok (.bipush 10, 2) := by decide +kernel
theorem dX2_init_7 : decode cX2_init 7 = .ok (.newarray .int, 2) := by decide +kernel
theorem dX2_init_9 : decode cX2_init 9 = .ok (.putfield 9, 3) := by decide +kernel
theorem dX2_init_12 : decode cX2_init 12 = .ok (.aload_n 0, 1) := by decide +kernel
theorem dX2_init_13 : decode cX2_init 13 = .ok (.bipush 10, 2) := by decide +kernel
theorem dX2_init_15 : decode cX2_init 15 = .ok (.newarray .int, 2) := by decide +kernel
theorem dX2_init_17 : decode cX2_init 17 = .ok (.putfield 15, 3) := by decide +kernel
theorem dX2_init_20 : decode cX2_init 20 = .ok (.aload_n 0, 1) := by decide +kernel
theorem dX2_init_21 : decode cX2_init 21 = .ok (.bipush 12, 2) := by decide +kernel
theorem dX2_init_23 : decode cX2_init 23 = .ok (.newarray .int, 2) := by decide +kernel
theorem dX2_init_25 : decode cX2_init 25 = .ok (.putfield 18, 3) := by decide +kernel
theorem dX2_init_28 : decode cX2_init 28 = .ok (.return_, 1) := by decide +kernel
theorem dX2_isSet_0 : decode cX2_isSet 0 = .ok (.iload_n 1, 1) := by decide +kernel
theorem dX2_isSet_1 : decode cX2_isSet 1 = .ok (.aload_n 0, 1) := by decide +kernel
theorem dX2_isSet_2 : decode cX2_isSet 2 = .ok (.getfield 21, 3) := by decide +kernel
theorem dX2_isSet_5 : decode cX2_isSet 5 = .ok (.invokestatic 25, 3) := by decide +kernel
theorem dX2_isSet_8 : decode cX2_isSet 8 = .ok (.ireturn, 1) := by decide +kernel
theorem dX2_isOffered_0 : decode cX2_isOffered 0 = .ok (.aload_n 0, 1) := by decide +kernel
theorem dX2_isOffered_1 : decode cX2_isOffered 1 = .ok (.getfield 29, 3) := by decide +kernel
theorem dX2_isOffered_4 : decode cX2_isOffered 4 = .ok (.iload_n 1, 1) := by decide +kernel
theorem dX2_isOffered_5 : decode cX2_isOffered 5 = .ok (.invokestatic 32, 3) := by decide +kernel
theorem dX2_isOffered_8 : decode cX2_isOffered 8 = .ok (.ireturn, 1) := by decide +kernel
theorem dX2_isBought_0 : decode cX2_isBought 0 = .ok (.aload_n 0, 1) := by decide +kernel
theorem dX2_isBought_1 : decode cX2_isBought 1 = .ok (.getfield 35, 3) := by decide +kernel
theorem dX2_isBought_4 : decode cX2_isBought 4 = .ok (.iload_n 1, 1) := by decide +kernel
theorem dX2_isBought_5 : decode cX2_isBought 5 = .ok (.invokestatic 32, 3) := by decide +kernel
theorem dX2_isBought_8 : decode cX2_isBought 8 = .ok (.ireturn, 1) := by decide +kernel
theorem dX2_add_0 : decode cX2_add 0 = .ok (.aload_n 0, 1) := by decide +kernel
theorem dX2_add_1 : decode cX2_add 1 = .ok (.getfield 9, 3) := by decide +kernel
theorem dX2_add_4 : decode cX2_add 4 = .ok (.aload_n 0, 1) := by decide +kernel
theorem dX2_add_5 : decode cX2_add 5 = .ok (.getfield 21, 3) := by decide +kernel
theorem dX2_add_8 : decode cX2_add 8 = .ok (.iload_n 1, 1) := by decide +kernel
theorem dX2_add_9 : decode cX2_add 9 = .ok (.iastore, 1) := by decide +kernel
theorem dX2_add_10 : decode cX2_add 10 = .ok (.aload_n 0, 1) := by decide +kernel
theorem dX2_add_11 : decode cX2_add 11 = .ok (.getfield 15, 3) := by decide +kernel
theorem dX2_add_14 : decode cX2_add 14 = .ok (.aload_n 0, 1) := by decide +kernel
theorem dX2_add_15 : decode cX2_add 15 = .ok (.getfield 21, 3) := by decide +kernel
theorem dX2_add_18 : decode cX2_add 18 = .ok (.iload_n 2, 1) := by decide +kernel
theorem dX2_add_19 : decode cX2_add 19 = .ok (.iastore, 1) := by decide +kernel
theorem dX2_add_20 : decode cX2_add 20 = .ok (.aload_n 0, 1) := by decide +kernel
theorem dX2_add_21 : decode cX2_add 21 = .ok (.dup, 1) := by decide +kernel
theorem dX2_add_22 : decode cX2_add 22 = .ok (.getfield 29, 3) := by decide +kernel
theorem dX2_add_25 : decode cX2_add 25 = .ok (.iload_n 2, 1) := by decide +kernel
theorem dX2_add_26 : decode cX2_add 26 = .ok (.ior, 1) := by decide +kernel
theorem dX2_add_27 : decode cX2_add 27 = .ok (.putfield 29, 3) := by decide +kernel
theorem dX2_add_30 : decode cX2_add 30 = .ok (.aload_n 0, 1) := by decide +kernel
theorem dX2_add_31 : decode cX2_add 31 = .ok (.dup, 1) := by decide +kernel
theorem dX2_add_32 : decode cX2_add 32 = .ok (.getfield 21, 3) := by decide +kernel
theorem dX2_add_35 : decode cX2_add 35 = .ok (.iconst 1, 1) := by decide +kernel
theorem dX2_add_36 : decode cX2_add 36 = .ok (.iadd, 1) := by decide +kernel
theorem dX2_add_37 : decode cX2_add 37 = .ok (.putfield 21, 3) := by decide +kernel
theorem dX2_add_40 : decode cX2_add 40 = .ok (.aload_n 0, 1) := by decide +kernel
theorem dX2_add_41 : decode cX2_add 41 = .ok (.getfield 21, 3) := by decide +kernel
theorem dX2_add_44 : decode cX2_add 44 = .ok (.iconst 1, 1) := by decide +kernel
theorem dX2_add_45 : decode cX2_add 45 = .ok (.isub, 1) := by decide +kernel
theorem dX2_add_46 : decode cX2_add 46 = .ok (.ireturn, 1) := by decide +kernel
theorem dX2_meet_0 : decode cX2_meet 0 = .ok (.aload_n 0, 1) := by decide +kernel
theorem dX2_meet_1 : decode cX2_meet 1 = .ok (.dup, 1) := by decide +kernel
theorem dX2_meet_2 : decode cX2_meet 2 = .ok (.getfield 38, 3) := by decide +kernel
theorem dX2_meet_5 : decode cX2_meet 5 = .ok (.iconst 1, 1) := by decide +kernel
theorem dX2_meet_6 : decode cX2_meet 6 = .ok (.iload_n 1, 1) := by decide +kernel
theorem dX2_meet_7 : decode cX2_meet 7 = .ok (.ishl, 1) := by decide +kernel
theorem dX2_meet_8 : decode cX2_meet 8 = .ok (.ior, 1) := by decide +kernel
theorem dX2_meet_9 : decode cX2_meet 9 = .ok (.putfield 38, 3) := by decide +kernel
theorem dX2_meet_12 : decode cX2_meet 12 = .ok (.aload_n 0, 1) := by decide +kernel
theorem dX2_meet_13 : decode cX2_meet 13 = .ok (.getfield 41, 3) := by decide +kernel
theorem dX2_meet_16 : decode cX2_meet 16 = .ok (.iload_n 1, 1) := by decide +kernel
theorem dX2_meet_17 : decode cX2_meet 17 = .ok (.invokestatic 32, 3) := by decide +kernel
theorem dX2_meet_20 : decode cX2_meet 20 = .ok (.ifCond .eq 5, 3) := by decide +kernel
theorem dX2_meet_23 : decode cX2_meet 23 = .ok (.iconst 0, 1) := by decide +kernel
theorem dX2_meet_24 : decode cX2_meet 24 = .ok (.ireturn, 1) := by decide +kernel
theorem dX2_meet_25 : decode cX2_meet 25 = .ok (.aload_n 0, 1) := by decide +kernel
theorem dX2_meet_26 : decode cX2_meet 26 = .ok (.getfield 18, 3) := by decide +kernel
theorem dX2_meet_29 : decode cX2_meet 29 = .ok (.iload_n 1, 1) := by decide +kernel
theorem dX2_meet_30 : decode cX2_meet 30 = .ok (.dup2, 1) := by decide +kernel
theorem dX2_meet_31 : decode cX2_meet 31 = .ok (.iaload, 1) := by decide +kernel
theorem dX2_meet_32 : decode cX2_meet 32 = .ok (.aload_n 0, 1) := by decide +kernel
theorem dX2_meet_33 : decode cX2_meet 33 = .ok (.iload_n 1, 1) := by decide +kernel
theorem dX2_meet_34 : decode cX2_meet 34 = .ok (.invokevirtual 44, 3) := by decide +kernel
theorem dX2_meet_37 : decode cX2_meet 37 = .ok (.iadd, 1) := by decide +kernel
theorem dX2_meet_38 : decode cX2_meet 38 = .ok (.iastore, 1) := by decide +kernel
theorem dX2_meet_39 : decode cX2_meet 39 = .ok (.aload_n 0, 1) := by decide +kernel
theorem dX2_meet_40 : decode cX2_meet 40 = .ok (.iload_n 1, 1) := by decide +kernel
theorem dX2_meet_41 : decode cX2_meet 41 = .ok (.invokevirtual 48, 3) := by decide +kernel
theorem dX2_meet_44 : decode cX2_meet 44 = .ok (.istore_n 2, 1) := by decide +kernel
theorem dX2_meet_45 : decode cX2_meet 45 = .ok (.aload_n 0, 1) := by decide +kernel
theorem dX2_meet_46 : decode cX2_meet 46 = .ok (.dup, 1) := by decide +kernel
theorem dX2_meet_47 : decode cX2_meet 47 = .ok (.getfield 51, 3) := by decide +kernel
theorem dX2_meet_50 : decode cX2_meet 50 = .ok (.iload_n 2, 1) := by decide +kernel
theorem dX2_meet_51 : decode cX2_meet 51 = .ok (.iadd, 1) := by decide +kernel
theorem dX2_meet_52 : decode cX2_meet 52 = .ok (.putfield 51, 3) := by decide +kernel
theorem dX2_meet_55 : decode cX2_meet 55 = .ok (.iload_n 2, 1) := by decide +kernel
theorem dX2_meet_56 : decode cX2_meet 56 = .ok (.ireturn, 1) := by decide +kernel
theorem dX2_leastGap_0 : decode cX2_leastGap 0 = .ok (.sipush 1000, 3) := by decide +kernel
theorem dX2_leastGap_3 : decode cX2_leastGap 3 = .ok (.istore_n 2, 1) := by decide +kernel
theorem dX2_leastGap_4 : decode cX2_leastGap 4 = .ok (.iconst 0, 1) := by decide +kernel
theorem dX2_leastGap_5 : decode cX2_leastGap 5 = .ok (.istore_n 3, 1) := by decide +kernel
theorem dX2_leastGap_6 : decode cX2_leastGap 6 = .ok (.iload_n 3, 1) := by decide +kernel
theorem dX2_leastGap_7 : decode cX2_leastGap 7 = .ok (.aload_n 0, 1) := by decide +kernel
theorem dX2_leastGap_8 : decode cX2_leastGap 8 = .ok (.getfield 21, 3) := by decide +kernel
theorem dX2_leastGap_11 : decode cX2_leastGap 11 = .ok (.if_icmp .ge 39, 3) := by decide +kernel
theorem dX2_leastGap_14 : decode cX2_leastGap 14 = .ok (.aload_n 0, 1) := by decide +kernel
theorem dX2_leastGap_15 : decode cX2_leastGap 15 = .ok (.getfield 15, 3) := by decide +kernel
theorem dX2_leastGap_18 : decode cX2_leastGap 18 = .ok (.iload_n 3, 1) := by decide +kernel
theorem dX2_leastGap_19 : decode cX2_leastGap 19 = .ok (.iaload, 1) := by decide +kernel
theorem dX2_leastGap_20 : decode cX2_leastGap 20 = .ok (.iload_n 1, 1) := by decide +kernel
theorem dX2_leastGap_21 : decode cX2_leastGap 21 = .ok (.invokestatic 32, 3) := by decide +kernel
theorem dX2_leastGap_24 : decode cX2_leastGap 24 = .ok (.ifCond .eq 20, 3) := by decide +kernel
theorem dX2_leastGap_27 : decode cX2_leastGap 27 = .ok (.iload_n 2, 1) := by decide +kernel
theorem dX2_leastGap_28 : decode cX2_leastGap 28 = .ok (.aload_n 0, 1) := by decide +kernel
theorem dX2_leastGap_29 : decode cX2_leastGap 29 = .ok (.getfield 9, 3) := by decide +kernel
theorem dX2_leastGap_32 : decode cX2_leastGap 32 = .ok (.iload_n 3, 1) := by decide +kernel
theorem dX2_leastGap_33 : decode cX2_leastGap 33 = .ok (.iaload, 1) := by decide +kernel
theorem dX2_leastGap_34 : decode cX2_leastGap 34 = .ok (.aload_n 0, 1) := by decide +kernel
theorem dX2_leastGap_35 : decode cX2_leastGap 35 = .ok (.iload_n 3, 1) := by decide +kernel
theorem dX2_leastGap_36 : decode cX2_leastGap 36 = .ok (.invokevirtual 54, 3) := by decide +kernel
theorem dX2_leastGap_39 : decode cX2_leastGap 39 = .ok (.isub, 1) := by decide +kernel
theorem dX2_leastGap_40 : decode cX2_leastGap 40 = .ok (.invokestatic 57, 3) := by decide +kernel
theorem dX2_leastGap_43 : decode cX2_leastGap 43 = .ok (.istore_n 2, 1) := by decide +kernel
theorem dX2_leastGap_44 : decode cX2_leastGap 44 = .ok (.iinc 3 1, 3) := by decide +kernel
theorem dX2_leastGap_47 : decode cX2_leastGap 47 = .ok (.goto (-41), 3) := by decide +kernel
theorem dX2_leastGap_50 : decode cX2_leastGap 50 = .ok (.iload_n 2, 1) := by decide +kernel
theorem dX2_leastGap_51 : decode cX2_leastGap 51 = .ok (.ireturn, 1) := by decide +kernel
theorem dX2_buyTight_0 : decode cX2_buyTight 0 = .ok (.iconst 0, 1) := by decide +kernel
theorem dX2_buyTight_1 : decode cX2_buyTight 1 = .ok (.istore_n 2, 1) := by decide +kernel
theorem dX2_buyTight_2 : decode cX2_buyTight 2 = .ok (.iconst 0, 1) := by decide +kernel
theorem dX2_buyTight_3 : decode cX2_buyTight 3 = .ok (.istore_n 3, 1) := by decide +kernel
theorem dX2_buyTight_4 : decode cX2_buyTight 4 = .ok (.iload_n 3, 1) := by decide +kernel
theorem dX2_buyTight_5 : decode cX2_buyTight 5 = .ok (.aload_n 0, 1) := by decide +kernel
theorem dX2_buyTight_6 : decode cX2_buyTight 6 = .ok (.getfield 21, 3) := by decide +kernel
theorem dX2_buyTight_9 : decode cX2_buyTight 9 = .ok (.if_icmp .ge 72, 3) := by decide +kernel
theorem dX2_buyTight_12 : decode cX2_buyTight 12 = .ok (.aload_n 0, 1) := by decide +kernel
theorem dX2_buyTight_13 : decode cX2_buyTight 13 = .ok (.getfield 15, 3) := by decide +kernel
theorem dX2_buyTight_16 : decode cX2_buyTight 16 = .ok (.iload_n 3, 1) := by decide +kernel
theorem dX2_buyTight_17 : decode cX2_buyTight 17 = .ok (.iaload, 1) := by decide +kernel
theorem dX2_buyTight_18 : decode cX2_buyTight 18 = .ok (.iload_n 1, 1) := by decide +kernel
theorem dX2_buyTight_19 : decode cX2_buyTight 19 = .ok (.invokestatic 32, 3) := by decide +kernel
theorem dX2_buyTight_22 : decode cX2_buyTight 22 = .ok (.ifCond .eq 53, 3) := by decide +kernel
theorem dX2_buyTight_25 : decode cX2_buyTight 25 = .ok (.aload_n 0, 1) := by decide +kernel
theorem dX2_buyTight_26 : decode cX2_buyTight 26 = .ok (.iload_n 3, 1) := by decide +kernel
theorem dX2_buyTight_27 : decode cX2_buyTight 27 = .ok (.invokevirtual 54, 3) := by decide +kernel
theorem dX2_buyTight_30 : decode cX2_buyTight 30 = .ok (.aload_n 0, 1) := by decide +kernel
theorem dX2_buyTight_31 : decode cX2_buyTight 31 = .ok (.getfield 9, 3) := by decide +kernel
theorem dX2_buyTight_34 : decode cX2_buyTight 34 = .ok (.iload_n 3, 1) := by decide +kernel
theorem dX2_buyTight_35 : decode cX2_buyTight 35 = .ok (.iaload, 1) := by decide +kernel
theorem dX2_buyTight_36 : decode cX2_buyTight 36 = .ok (.if_icmp .ne 39, 3) := by decide +kernel
theorem dX2_buyTight_39 : decode cX2_buyTight 39 = .ok (.aload_n 0, 1) := by decide +kernel
theorem dX2_buyTight_40 : decode cX2_buyTight 40 = .ok (.dup, 1) := by decide +kernel
theorem dX2_buyTight_41 : decode cX2_buyTight 41 = .ok (.getfield 35, 3) := by decide +kernel
theorem dX2_buyTight_44 : decode cX2_buyTight 44 = .ok (.iconst 1, 1) := by decide +kernel
theorem dX2_buyTight_45 : decode cX2_buyTight 45 = .ok (.iload_n 3, 1) := by decide +kernel
theorem dX2_buyTight_46 : decode cX2_buyTight 46 = .ok (.ishl, 1) := by decide +kernel
theorem dX2_buyTight_47 : decode cX2_buyTight 47 = .ok (.ior, 1) := by decide +kernel
theorem dX2_buyTight_48 : decode cX2_buyTight 48 = .ok (.putfield 35, 3) := by decide +kernel
theorem dX2_buyTight_51 : decode cX2_buyTight 51 = .ok (.aload_n 0, 1) := by decide +kernel
theorem dX2_buyTight_52 : decode cX2_buyTight 52 = .ok (.dup, 1) := by decide +kernel
theorem dX2_buyTight_53 : decode cX2_buyTight 53 = .ok (.getfield 41, 3) := by decide +kernel
theorem dX2_buyTight_56 : decode cX2_buyTight 56 = .ok (.aload_n 0, 1) := by decide +kernel
theorem dX2_buyTight_57 : decode cX2_buyTight 57 = .ok (.getfield 15, 3) := by decide +kernel
theorem dX2_buyTight_60 : decode cX2_buyTight 60 = .ok (.iload_n 3, 1) := by decide +kernel
theorem dX2_buyTight_61 : decode cX2_buyTight 61 = .ok (.iaload, 1) := by decide +kernel
theorem dX2_buyTight_62 : decode cX2_buyTight 62 = .ok (.ior, 1) := by decide +kernel
theorem dX2_buyTight_63 : decode cX2_buyTight 63 = .ok (.putfield 41, 3) := by decide +kernel
theorem dX2_buyTight_66 : decode cX2_buyTight 66 = .ok (.iload_n 2, 1) := by decide +kernel
theorem dX2_buyTight_67 : decode cX2_buyTight 67 = .ok (.aload_n 0, 1) := by decide +kernel
theorem dX2_buyTight_68 : decode cX2_buyTight 68 = .ok (.getfield 9, 3) := by decide +kernel
theorem dX2_buyTight_71 : decode cX2_buyTight 71 = .ok (.iload_n 3, 1) := by decide +kernel
theorem dX2_buyTight_72 : decode cX2_buyTight 72 = .ok (.iaload, 1) := by decide +kernel
theorem dX2_buyTight_73 : decode cX2_buyTight 73 = .ok (.iadd, 1) := by decide +kernel
theorem dX2_buyTight_74 : decode cX2_buyTight 74 = .ok (.istore_n 2, 1) := by decide +kernel
theorem dX2_buyTight_75 : decode cX2_buyTight 75 = .ok (.iinc 3 1, 3) := by decide +kernel
theorem dX2_buyTight_78 : decode cX2_buyTight 78 = .ok (.goto (-74), 3) := by decide +kernel
theorem dX2_buyTight_81 : decode cX2_buyTight 81 = .ok (.iload_n 2, 1) := by decide +kernel
theorem dX2_buyTight_82 : decode cX2_buyTight 82 = .ok (.ireturn, 1) := by decide +kernel
theorem dX2_filled_0 : decode cX2_filled 0 = .ok (.aload_n 0, 1) := by decide +kernel
theorem dX2_filled_1 : decode cX2_filled 1 = .ok (.aload_n 0, 1) := by decide +kernel
theorem dX2_filled_2 : decode cX2_filled 2 = .ok (.getfield 15, 3) := by decide +kernel
theorem dX2_filled_5 : decode cX2_filled 5 = .ok (.iload_n 1, 1) := by decide +kernel
theorem dX2_filled_6 : decode cX2_filled 6 = .ok (.iaload, 1) := by decide +kernel
theorem dX2_filled_7 : decode cX2_filled 7 = .ok (.invokevirtual 63, 3) := by decide +kernel
theorem dX2_filled_10 : decode cX2_filled 10 = .ok (.ireturn, 1) := by decide +kernel
theorem dX2_pricesAdded_0 : decode cX2_pricesAdded 0 = .ok (.aload_n 0, 1) := by decide +kernel
theorem dX2_pricesAdded_1 : decode cX2_pricesAdded 1 = .ok (.sipush 4095, 3) := by decide +kernel
theorem dX2_pricesAdded_4 : decode cX2_pricesAdded 4 = .ok (.invokevirtual 63, 3) := by decide +kernel
theorem dX2_pricesAdded_7 : decode cX2_pricesAdded 7 = .ok (.ireturn, 1) := by decide +kernel
theorem dX2_pricesOf_0 : decode cX2_pricesOf 0 = .ok (.iconst 0, 1) := by decide +kernel
theorem dX2_pricesOf_1 : decode cX2_pricesOf 1 = .ok (.istore_n 2, 1) := by decide +kernel
theorem dX2_pricesOf_2 : decode cX2_pricesOf 2 = .ok (.iconst 0, 1) := by decide +kernel
theorem dX2_pricesOf_3 : decode cX2_pricesOf 3 = .ok (.istore_n 3, 1) := by decide +kernel
theorem dX2_pricesOf_4 : decode cX2_pricesOf 4 = .ok (.iload_n 3, 1) := by decide +kernel
theorem dX2_pricesOf_5 : decode cX2_pricesOf 5 = .ok (.bipush 12, 2) := by decide +kernel
theorem dX2_pricesOf_7 : decode cX2_pricesOf 7 = .ok (.if_icmp .ge 26, 3) := by decide +kernel
theorem dX2_pricesOf_10 : decode cX2_pricesOf 10 = .ok (.iload_n 1, 1) := by decide +kernel
theorem dX2_pricesOf_11 : decode cX2_pricesOf 11 = .ok (.iload_n 3, 1) := by decide +kernel
theorem dX2_pricesOf_12 : decode cX2_pricesOf 12 = .ok (.invokestatic 32, 3) := by decide +kernel
theorem dX2_pricesOf_15 : decode cX2_pricesOf 15 = .ok (.ifCond .eq 12, 3) := by decide +kernel
theorem dX2_pricesOf_18 : decode cX2_pricesOf 18 = .ok (.iload_n 2, 1) := by decide +kernel
theorem dX2_pricesOf_19 : decode cX2_pricesOf 19 = .ok (.aload_n 0, 1) := by decide +kernel
theorem dX2_pricesOf_20 : decode cX2_pricesOf 20 = .ok (.getfield 18, 3) := by decide +kernel
theorem dX2_pricesOf_23 : decode cX2_pricesOf 23 = .ok (.iload_n 3, 1) := by decide +kernel
theorem dX2_pricesOf_24 : decode cX2_pricesOf 24 = .ok (.iaload, 1) := by decide +kernel
theorem dX2_pricesOf_25 : decode cX2_pricesOf 25 = .ok (.iadd, 1) := by decide +kernel
theorem dX2_pricesOf_26 : decode cX2_pricesOf 26 = .ok (.istore_n 2, 1) := by decide +kernel
theorem dX2_pricesOf_27 : decode cX2_pricesOf 27 = .ok (.iinc 3 1, 3) := by decide +kernel
theorem dX2_pricesOf_30 : decode cX2_pricesOf 30 = .ok (.goto (-26), 3) := by decide +kernel
theorem dX2_pricesOf_33 : decode cX2_pricesOf 33 = .ok (.iload_n 2, 1) := by decide +kernel
theorem dX2_pricesOf_34 : decode cX2_pricesOf 34 = .ok (.ireturn, 1) := by decide +kernel
theorem dX2_least_0 : decode cX2_least 0 = .ok (.aload_n 0, 1) := by decide +kernel
theorem dX2_least_1 : decode cX2_least 1 = .ok (.iconst 0, 1) := by decide +kernel
theorem dX2_least_2 : decode cX2_least 2 = .ok (.aload_n 0, 1) := by decide +kernel
theorem dX2_least_3 : decode cX2_least 3 = .ok (.getfield 38, 3) := by decide +kernel
theorem dX2_least_6 : decode cX2_least 6 = .ok (.invokestatic 66, 3) := by decide +kernel
theorem dX2_least_9 : decode cX2_least 9 = .ok (.ireturn, 1) := by decide +kernel
theorem dX2_leastFrom_0 : decode cX2_leastFrom 0 = .ok (.iload_n 2, 1) := by decide +kernel
theorem dX2_leastFrom_1 : decode cX2_leastFrom 1 = .ok (.ifCond .ne 5, 3) := by decide +kernel
theorem dX2_leastFrom_4 : decode cX2_leastFrom 4 = .ok (.iconst 0, 1) := by decide +kernel
theorem dX2_leastFrom_5 : decode cX2_leastFrom 5 = .ok (.ireturn, 1) := by decide +kernel
theorem dX2_leastFrom_6 : decode cX2_leastFrom 6 = .ok (.iload_n 1, 1) := by decide +kernel
theorem dX2_leastFrom_7 : decode cX2_leastFrom 7 = .ok (.aload_n 0, 1) := by decide +kernel
theorem dX2_leastFrom_8 : decode cX2_leastFrom 8 = .ok (.getfield 21, 3) := by decide +kernel
theorem dX2_leastFrom_11 : decode cX2_leastFrom 11 = .ok (.if_icmp .lt 6, 3) := by decide +kernel
theorem dX2_leastFrom_14 : decode cX2_leastFrom 14 = .ok (.ldc 70, 2) := by decide +kernel
theorem dX2_leastFrom_16 : decode cX2_leastFrom 16 = .ok (.ireturn, 1) := by decide +kernel
theorem dX2_leastFrom_17 : decode cX2_leastFrom 17 = .ok (.aload_n 0, 1) := by decide +kernel
theorem dX2_leastFrom_18 : decode cX2_leastFrom 18 = .ok (.iload_n 1, 1) := by decide +kernel
theorem dX2_leastFrom_19 : decode cX2_leastFrom 19 = .ok (.iconst 1, 1) := by decide +kernel
theorem dX2_leastFrom_20 : decode cX2_leastFrom 20 = .ok (.iadd, 1) := by decide +kernel
theorem dX2_leastFrom_21 : decode cX2_leastFrom 21 = .ok (.iload_n 2, 1) := by decide +kernel
theorem dX2_leastFrom_22 : decode cX2_leastFrom 22 = .ok (.invokestatic 66, 3) := by decide +kernel
theorem dX2_leastFrom_25 : decode cX2_leastFrom 25 = .ok (.istore_n 3, 1) := by decide +kernel
theorem dX2_leastFrom_26 : decode cX2_leastFrom 26 = .ok (.aload_n 0, 1) := by decide +kernel
theorem dX2_leastFrom_27 : decode cX2_leastFrom 27 = .ok (.getfield 15, 3) := by decide +kernel
theorem dX2_leastFrom_30 : decode cX2_leastFrom 30 = .ok (.iload_n 1, 1) := by decide +kernel
theorem dX2_leastFrom_31 : decode cX2_leastFrom 31 = .ok (.iaload, 1) := by decide +kernel
theorem dX2_leastFrom_32 : decode cX2_leastFrom 32 = .ok (.iload_n 2, 1) := by decide +kernel
theorem dX2_leastFrom_33 : decode cX2_leastFrom 33 = .ok (.iand, 1) := by decide +kernel
theorem dX2_leastFrom_34 : decode cX2_leastFrom 34 = .ok (.ifCond .ne 5, 3) := by decide +kernel
theorem dX2_leastFrom_37 : decode cX2_leastFrom 37 = .ok (.iload_n 3, 1) := by decide +kernel
theorem dX2_leastFrom_38 : decode cX2_leastFrom 38 = .ok (.ireturn, 1) := by decide +kernel
theorem dX2_leastFrom_39 : decode cX2_leastFrom 39 = .ok (.iload_n 3, 1) := by decide +kernel
theorem dX2_leastFrom_40 : decode cX2_leastFrom 40 = .ok (.aload_n 0, 1) := by decide +kernel
theorem dX2_leastFrom_41 : decode cX2_leastFrom 41 = .ok (.getfield 9, 3) := by decide +kernel
theorem dX2_leastFrom_44 : decode cX2_leastFrom 44 = .ok (.iload_n 1, 1) := by decide +kernel
theorem dX2_leastFrom_45 : decode cX2_leastFrom 45 = .ok (.iaload, 1) := by decide +kernel
theorem dX2_leastFrom_46 : decode cX2_leastFrom 46 = .ok (.aload_n 0, 1) := by decide +kernel
theorem dX2_leastFrom_47 : decode cX2_leastFrom 47 = .ok (.iload_n 1, 1) := by decide +kernel
theorem dX2_leastFrom_48 : decode cX2_leastFrom 48 = .ok (.iconst 1, 1) := by decide +kernel
theorem dX2_leastFrom_49 : decode cX2_leastFrom 49 = .ok (.iadd, 1) := by decide +kernel
theorem dX2_leastFrom_50 : decode cX2_leastFrom 50 = .ok (.iload_n 2, 1) := by decide +kernel
theorem dX2_leastFrom_51 : decode cX2_leastFrom 51 = .ok (.aload_n 0, 1) := by decide +kernel
theorem dX2_leastFrom_52 : decode cX2_leastFrom 52 = .ok (.getfield 15, 3) := by decide +kernel
theorem dX2_leastFrom_55 : decode cX2_leastFrom 55 = .ok (.iload_n 1, 1) := by decide +kernel
theorem dX2_leastFrom_56 : decode cX2_leastFrom 56 = .ok (.iaload, 1) := by decide +kernel
theorem dX2_leastFrom_57 : decode cX2_leastFrom 57 = .ok (.iconst (-1), 1) := by decide +kernel
theorem dX2_leastFrom_58 : decode cX2_leastFrom 58 = .ok (.ixor, 1) := by decide +kernel
theorem dX2_leastFrom_59 : decode cX2_leastFrom 59 = .ok (.iand, 1) := by decide +kernel
theorem dX2_leastFrom_60 : decode cX2_leastFrom 60 = .ok (.invokestatic 66, 3) := by decide +kernel
theorem dX2_leastFrom_63 : decode cX2_leastFrom 63 = .ok (.iadd, 1) := by decide +kernel
theorem dX2_leastFrom_64 : decode cX2_leastFrom 64 = .ok (.invokestatic 57, 3) := by decide +kernel
theorem dX2_leastFrom_67 : decode cX2_leastFrom 67 = .ok (.ireturn, 1) := by decide +kernel
theorem dX2_share_0 : decode cX2_share 0 = .ok (.iconst 0, 1) := by decide +kernel
theorem dX2_share_1 : decode cX2_share 1 = .ok (.istore_n 1, 1) := by decide +kernel
theorem dX2_share_2 : decode cX2_share 2 = .ok (.iconst 0, 1) := by decide +kernel
theorem dX2_share_3 : decode cX2_share 3 = .ok (.istore_n 2, 1) := by decide +kernel
theorem dX2_share_4 : decode cX2_share 4 = .ok (.iload_n 2, 1) := by decide +kernel
theorem dX2_share_5 : decode cX2_share 5 = .ok (.bipush 12, 2) := by decide +kernel
theorem dX2_share_7 : decode cX2_share 7 = .ok (.if_icmp .ge 30, 3) := by decide +kernel
theorem dX2_share_10 : decode cX2_share 10 = .ok (.aload_n 0, 1) := by decide +kernel
theorem dX2_share_11 : decode cX2_share 11 = .ok (.getfield 38, 3) := by decide +kernel
theorem dX2_share_14 : decode cX2_share 14 = .ok (.iload_n 2, 1) := by decide +kernel
theorem dX2_share_15 : decode cX2_share 15 = .ok (.invokestatic 32, 3) := by decide +kernel
theorem dX2_share_18 : decode cX2_share 18 = .ok (.ifCond .eq 13, 3) := by decide +kernel
theorem dX2_share_21 : decode cX2_share 21 = .ok (.iload_n 1, 1) := by decide +kernel
theorem dX2_share_22 : decode cX2_share 22 = .ok (.aload_n 0, 1) := by decide +kernel
theorem dX2_share_23 : decode cX2_share 23 = .ok (.iload_n 2, 1) := by decide +kernel
theorem dX2_share_24 : decode cX2_share 24 = .ok (.invokevirtual 71, 3) := by decide +kernel
theorem dX2_share_27 : decode cX2_share 27 = .ok (.invokestatic 74, 3) := by decide +kernel
theorem dX2_share_30 : decode cX2_share 30 = .ok (.istore_n 1, 1) := by decide +kernel
theorem dX2_share_31 : decode cX2_share 31 = .ok (.iinc 2 1, 3) := by decide +kernel
theorem dX2_share_34 : decode cX2_share 34 = .ok (.goto (-30), 3) := by decide +kernel
theorem dX2_share_37 : decode cX2_share 37 = .ok (.iload_n 1, 1) := by decide +kernel
theorem dX2_share_38 : decode cX2_share 38 = .ok (.ireturn, 1) := by decide +kernel
theorem dX2_havers_0 : decode cX2_havers 0 = .ok (.iconst 0, 1) := by decide +kernel
theorem dX2_havers_1 : decode cX2_havers 1 = .ok (.istore_n 2, 1) := by decide +kernel
theorem dX2_havers_2 : decode cX2_havers 2 = .ok (.iconst 0, 1) := by decide +kernel
theorem dX2_havers_3 : decode cX2_havers 3 = .ok (.istore_n 3, 1) := by decide +kernel
theorem dX2_havers_4 : decode cX2_havers 4 = .ok (.iload_n 3, 1) := by decide +kernel
theorem dX2_havers_5 : decode cX2_havers 5 = .ok (.aload_n 0, 1) := by decide +kernel
theorem dX2_havers_6 : decode cX2_havers 6 = .ok (.getfield 21, 3) := by decide +kernel
theorem dX2_havers_9 : decode cX2_havers 9 = .ok (.if_icmp .ge 25, 3) := by decide +kernel
theorem dX2_havers_12 : decode cX2_havers 12 = .ok (.aload_n 0, 1) := by decide +kernel
theorem dX2_havers_13 : decode cX2_havers 13 = .ok (.getfield 15, 3) := by decide +kernel
theorem dX2_havers_16 : decode cX2_havers 16 = .ok (.iload_n 3, 1) := by decide +kernel
theorem dX2_havers_17 : decode cX2_havers 17 = .ok (.iaload, 1) := by decide +kernel
theorem dX2_havers_18 : decode cX2_havers 18 = .ok (.iload_n 1, 1) := by decide +kernel
theorem dX2_havers_19 : decode cX2_havers 19 = .ok (.invokestatic 32, 3) := by decide +kernel
theorem dX2_havers_22 : decode cX2_havers 22 = .ok (.ifCond .eq 6, 3) := by decide +kernel
theorem dX2_havers_25 : decode cX2_havers 25 = .ok (.iinc 2 1, 3) := by decide +kernel
theorem dX2_havers_28 : decode cX2_havers 28 = .ok (.iinc 3 1, 3) := by decide +kernel
theorem dX2_havers_31 : decode cX2_havers 31 = .ok (.goto (-27), 3) := by decide +kernel
theorem dX2_havers_34 : decode cX2_havers 34 = .ok (.iload_n 2, 1) := by decide +kernel
theorem dX2_havers_35 : decode cX2_havers 35 = .ok (.ireturn, 1) := by decide +kernel
theorem dX2_kindOf_0 : decode cX2_kindOf 0 = .ok (.aload_n 0, 1) := by decide +kernel
theorem dX2_kindOf_1 : decode cX2_kindOf 1 = .ok (.iload_n 1, 1) := by decide +kernel
theorem dX2_kindOf_2 : decode cX2_kindOf 2 = .ok (.invokevirtual 77, 3) := by decide +kernel
theorem dX2_kindOf_5 : decode cX2_kindOf 5 = .ok (.ifCond .eq 5, 3) := by decide +kernel
theorem dX2_kindOf_8 : decode cX2_kindOf 8 = .ok (.iconst 3, 1) := by decide +kernel
theorem dX2_kindOf_9 : decode cX2_kindOf 9 = .ok (.ireturn, 1) := by decide +kernel
theorem dX2_kindOf_10 : decode cX2_kindOf 10 = .ok (.iconst 2, 1) := by decide +kernel
theorem dX2_kindOf_11 : decode cX2_kindOf 11 = .ok (.aload_n 0, 1) := by decide +kernel
theorem dX2_kindOf_12 : decode cX2_kindOf 12 = .ok (.iload_n 1, 1) := by decide +kernel
theorem dX2_kindOf_13 : decode cX2_kindOf 13 = .ok (.invokevirtual 54, 3) := by decide +kernel
theorem dX2_kindOf_16 : decode cX2_kindOf 16 = .ok (.imul, 1) := by decide +kernel
theorem dX2_kindOf_17 : decode cX2_kindOf 17 = .ok (.aload_n 0, 1) := by decide +kernel
theorem dX2_kindOf_18 : decode cX2_kindOf 18 = .ok (.getfield 9, 3) := by decide +kernel
theorem dX2_kindOf_21 : decode cX2_kindOf 21 = .ok (.iload_n 1, 1) := by decide +kernel
theorem dX2_kindOf_22 : decode cX2_kindOf 22 = .ok (.iaload, 1) := by decide +kernel
theorem dX2_kindOf_23 : decode cX2_kindOf 23 = .ok (.if_icmp .lt 7, 3) := by decide +kernel
theorem dX2_kindOf_26 : decode cX2_kindOf 26 = .ok (.iconst 2, 1) := by decide +kernel
theorem dX2_kindOf_27 : decode cX2_kindOf 27 = .ok (.goto 4, 3) := by decide +kernel
theorem dX2_kindOf_30 : decode cX2_kindOf 30 = .ok (.iconst 1, 1) := by decide +kernel
theorem dX2_kindOf_31 : decode cX2_kindOf 31 = .ok (.ireturn, 1) := by decide +kernel
theorem dX2_isOfKind_0 : decode cX2_isOfKind 0 = .ok (.aload_n 0, 1) := by decide +kernel
theorem dX2_isOfKind_1 : decode cX2_isOfKind 1 = .ok (.iload_n 1, 1) := by decide +kernel
theorem dX2_isOfKind_2 : decode cX2_isOfKind 2 = .ok (.invokevirtual 81, 3) := by decide +kernel
theorem dX2_isOfKind_5 : decode cX2_isOfKind 5 = .ok (.istore_n 3, 1) := by decide +kernel
theorem dX2_isOfKind_6 : decode cX2_isOfKind 6 = .ok (.iload_n 2, 1) := by decide +kernel
theorem dX2_isOfKind_7 : decode cX2_isOfKind 7 = .ok (.ifCond .eq 18, 3) := by decide +kernel
theorem dX2_isOfKind_10 : decode cX2_isOfKind 10 = .ok (.iload_n 2, 1) := by decide +kernel
theorem dX2_isOfKind_11 : decode cX2_isOfKind 11 = .ok (.iload_n 3, 1) := by decide +kernel
theorem dX2_isOfKind_12 : decode cX2_isOfKind 12 = .ok (.if_icmp .eq 13, 3) := by decide +kernel
theorem dX2_isOfKind_15 : decode cX2_isOfKind 15 = .ok (.iload_n 2, 1) := by decide +kernel
theorem dX2_isOfKind_16 : decode cX2_isOfKind 16 = .ok (.iconst 1, 1) := by decide +kernel
theorem dX2_isOfKind_17 : decode cX2_isOfKind 17 = .ok (.if_icmp .ne 12, 3) := by decide +kernel
theorem dX2_isOfKind_20 : decode cX2_isOfKind 20 = .ok (.iload_n 3, 1) := by decide +kernel
theorem dX2_isOfKind_21 : decode cX2_isOfKind 21 = .ok (.iconst 2, 1) := by decide +kernel
theorem dX2_isOfKind_22 : decode cX2_isOfKind 22 = .ok (.if_icmp .ne 7, 3) := by decide +kernel
theorem dX2_isOfKind_25 : decode cX2_isOfKind 25 = .ok (.iconst 1, 1) := by decide +kernel
theorem dX2_isOfKind_26 : decode cX2_isOfKind 26 = .ok (.goto 4, 3) := by decide +kernel
theorem dX2_isOfKind_29 : decode cX2_isOfKind 29 = .ok (.iconst 0, 1) := by decide +kernel
theorem dX2_isOfKind_30 : decode cX2_isOfKind 30 = .ok (.ireturn, 1) := by decide +kernel
theorem dX2_nears_0 : decode cX2_nears 0 = .ok (.iconst 0, 1) := by decide +kernel
theorem dX2_nears_1 : decode cX2_nears 1 = .ok (.istore_n 1, 1) := by decide +kernel
theorem dX2_nears_2 : decode cX2_nears 2 = .ok (.iconst 0, 1) := by decide +kernel
theorem dX2_nears_3 : decode cX2_nears 3 = .ok (.istore_n 2, 1) := by decide +kernel
theorem dX2_nears_4 : decode cX2_nears 4 = .ok (.iload_n 2, 1) := by decide +kernel
theorem dX2_nears_5 : decode cX2_nears 5 = .ok (.aload_n 0, 1) := by decide +kernel
theorem dX2_nears_6 : decode cX2_nears 6 = .ok (.getfield 21, 3) := by decide +kernel
theorem dX2_nears_9 : decode cX2_nears 9 = .ok (.if_icmp .ge 21, 3) := by decide +kernel
theorem dX2_nears_12 : decode cX2_nears 12 = .ok (.aload_n 0, 1) := by decide +kernel
theorem dX2_nears_13 : decode cX2_nears 13 = .ok (.iload_n 2, 1) := by decide +kernel
theorem dX2_nears_14 : decode cX2_nears 14 = .ok (.invokevirtual 81, 3) := by decide +kernel
theorem dX2_nears_17 : decode cX2_nears 17 = .ok (.iconst 2, 1) := by decide +kernel
theorem dX2_nears_18 : decode cX2_nears 18 = .ok (.if_icmp .ne 6, 3) := by decide +kernel
theorem dX2_nears_21 : decode cX2_nears 21 = .ok (.iinc 1 1, 3) := by decide +kernel
theorem dX2_nears_24 : decode cX2_nears 24 = .ok (.iinc 2 1, 3) := by decide +kernel
theorem dX2_nears_27 : decode cX2_nears 27 = .ok (.goto (-23), 3) := by decide +kernel
theorem dX2_nears_30 : decode cX2_nears 30 = .ok (.iload_n 1, 1) := by decide +kernel
theorem dX2_nears_31 : decode cX2_nears 31 = .ok (.ireturn, 1) := by decide +kernel
theorem dX3_init_0 : decode cX3_init 0 = .ok (.aload_n 0, 1) := by decide +kernel
theorem dX3_init_1 : decode cX3_init 1 = .ok (.invokespecial 3, 3) := by decide +kernel
theorem dX3_init_4 : decode cX3_init 4 = .ok (.aload_n 0, 1) := by decide +kernel
theorem dX3_init_5 : decode cX3_init 5 = .ok (.bipush 8, 2) := by decide +kernel
theorem dX3_init_7 : decode cX3_init 7 = .ok (.bipush 60, 2) := by decide +kernel
theorem dX3_init_9 : decode cX3_init 9 = .ok (.multianewarray 9 2, 4) := by decide +kernel
theorem dX3_init_13 : decode cX3_init 13 = .ok (.putfield 11, 3) := by decide +kernel
theorem dX3_init_16 : decode cX3_init 16 = .ok (.aload_n 0, 1) := by decide +kernel
theorem dX3_init_17 : decode cX3_init 17 = .ok (.bipush 8, 2) := by decide +kernel
theorem dX3_init_19 : decode cX3_init 19 = .ok (.newarray .int, 2) := by decide +kernel
theorem dX3_init_21 : decode cX3_init 21 = .ok (.putfield 16, 3) := by decide +kernel
theorem dX3_init_24 : decode cX3_init 24 = .ok (.aload_n 0, 1) := by decide +kernel
theorem dX3_init_25 : decode cX3_init 25 = .ok (.bipush 8, 2) := by decide +kernel
theorem dX3_init_27 : decode cX3_init 27 = .ok (.newarray .int, 2) := by decide +kernel
theorem dX3_init_29 : decode cX3_init 29 = .ok (.putfield 20, 3) := by decide +kernel
theorem dX3_init_32 : decode cX3_init 32 = .ok (.iconst 0, 1) := by decide +kernel
theorem dX3_init_33 : decode cX3_init 33 = .ok (.istore_n 1, 1) := by decide +kernel
theorem dX3_init_34 : decode cX3_init 34 = .ok (.iload_n 1, 1) := by decide +kernel
theorem dX3_init_35 : decode cX3_init 35 = .ok (.bipush 8, 2) := by decide +kernel
theorem dX3_init_37 : decode cX3_init 37 = .ok (.if_icmp .ge 16, 3) := by decide +kernel
theorem dX3_init_40 : decode cX3_init 40 = .ok (.aload_n 0, 1) := by decide +kernel
theorem dX3_init_41 : decode cX3_init 41 = .ok (.getfield 20, 3) := by decide +kernel
theorem dX3_init_44 : decode cX3_init 44 = .ok (.iload_n 1, 1) := by decide +kernel
theorem dX3_init_45 : decode cX3_init 45 = .ok (.iconst (-1), 1) := by decide +kernel
theorem dX3_init_46 : decode cX3_init 46 = .ok (.iastore, 1) := by decide +kernel
theorem dX3_init_47 : decode cX3_init 47 = .ok (.iinc 1 1, 3) := by decide +kernel
theorem dX3_init_50 : decode cX3_init 50 = .ok (.goto (-16), 3) := by decide +kernel
theorem dX3_init_53 : decode cX3_init 53 = .ok (.return_, 1) := by decide +kernel
theorem dX3_isMissing_0 : decode cX3_isMissing 0 = .ok (.aload_n 0, 1) := by decide +kernel
theorem dX3_isMissing_1 : decode cX3_isMissing 1 = .ok (.getfield 20, 3) := by decide +kernel
theorem dX3_isMissing_4 : decode cX3_isMissing 4 = .ok (.iload_n 1, 1) := by decide +kernel
theorem dX3_isMissing_5 : decode cX3_isMissing 5 = .ok (.iaload, 1) := by decide +kernel
theorem dX3_isMissing_6 : decode cX3_isMissing 6 = .ok (.iconst (-1), 1) := by decide +kernel
theorem dX3_isMissing_7 : decode cX3_isMissing 7 = .ok (.if_icmp .ne 7, 3) := by decide +kernel
theorem dX3_isMissing_10 : decode cX3_isMissing 10 = .ok (.iconst 1, 1) := by decide +kernel
theorem dX3_isMissing_11 : decode cX3_isMissing 11 = .ok (.goto 4, 3) := by decide +kernel
theorem dX3_isMissing_14 : decode cX3_isMissing 14 = .ok (.iconst 0, 1) := by decide +kernel
theorem dX3_isMissing_15 : decode cX3_isMissing 15 = .ok (.ireturn, 1) := by decide +kernel
theorem dX3_present_0 : decode cX3_present 0 = .ok (.iconst 0, 1) := by decide +kernel
theorem dX3_present_1 : decode cX3_present 1 = .ok (.istore_n 1, 1) := by decide +kernel
theorem dX3_present_2 : decode cX3_present 2 = .ok (.iconst 0, 1) := by decide +kernel
theorem dX3_present_3 : decode cX3_present 3 = .ok (.istore_n 2, 1) := by decide +kernel
theorem dX3_present_4 : decode cX3_present 4 = .ok (.iload_n 2, 1) := by decide +kernel
theorem dX3_present_5 : decode cX3_present 5 = .ok (.bipush 8, 2) := by decide +kernel
theorem dX3_present_7 : decode cX3_present 7 = .ok (.if_icmp .ge 20, 3) := by decide +kernel
theorem dX3_present_10 : decode cX3_present 10 = .ok (.aload_n 0, 1) := by decide +kernel
theorem dX3_present_11 : decode cX3_present 11 = .ok (.iload_n 2, 1) := by decide +kernel
theorem dX3_present_12 : decode cX3_present 12 = .ok (.invokevirtual 23, 3) := by decide +kernel
theorem dX3_present_15 : decode cX3_present 15 = .ok (.ifCond .ne 6, 3) := by decide +kernel
theorem dX3_present_18 : decode cX3_present 18 = .ok (.iinc 1 1, 3) := by decide +kernel
theorem dX3_present_21 : decode cX3_present 21 = .ok (.iinc 2 1, 3) := by decide +kernel
theorem dX3_present_24 : decode cX3_present 24 = .ok (.goto (-20), 3) := by decide +kernel
theorem dX3_present_27 : decode cX3_present 27 = .ok (.iload_n 1, 1) := by decide +kernel
theorem dX3_present_28 : decode cX3_present 28 = .ok (.ireturn, 1) := by decide +kernel
theorem dJ6_bitCount_0f7a4_0 : decode cJ6_bitCount_0f7a4 0 = .ok (.iload_n 0, 1) := by decide +kernel
theorem dJ6_bitCount_0f7a4_1 : decode cJ6_bitCount_0f7a4 1 = .ok (.iload_n 0, 1) := by decide +kernel
theorem dJ6_bitCount_0f7a4_2 : decode cJ6_bitCount_0f7a4 2 = .ok (.iconst 1, 1) := by decide +kernel
theorem dJ6_bitCount_0f7a4_3 : decode cJ6_bitCount_0f7a4 3 = .ok (.iushr, 1) := by decide +kernel
theorem dJ6_bitCount_0f7a4_4 : decode cJ6_bitCount_0f7a4 4 = .ok (.ldc_w 265, 3) := by decide +kernel
theorem dJ6_bitCount_0f7a4_7 : decode cJ6_bitCount_0f7a4 7 = .ok (.iand, 1) := by decide +kernel
theorem dJ6_bitCount_0f7a4_8 : decode cJ6_bitCount_0f7a4 8 = .ok (.isub, 1) := by decide +kernel
theorem dJ6_bitCount_0f7a4_9 : decode cJ6_bitCount_0f7a4 9 = .ok (.istore_n 0, 1) := by decide +kernel
theorem dJ6_bitCount_0f7a4_10 : decode cJ6_bitCount_0f7a4 10 = .ok (.iload_n 0, 1) := by decide +kernel
theorem dJ6_bitCount_0f7a4_11 : decode cJ6_bitCount_0f7a4 11 = .ok (.ldc_w 266, 3) := by decide +kernel
theorem dJ6_bitCount_0f7a4_14 : decode cJ6_bitCount_0f7a4 14 = .ok (.iand, 1) := by decide +kernel
theorem dJ6_bitCount_0f7a4_15 : decode cJ6_bitCount_0f7a4 15 = .ok (.iload_n 0, 1) := by decide +kernel
theorem dJ6_bitCount_0f7a4_16 : decode cJ6_bitCount_0f7a4 16 = .ok (.iconst 2, 1) := by decide +kernel
theorem dJ6_bitCount_0f7a4_17 : decode cJ6_bitCount_0f7a4 17 = .ok (.iushr, 1) := by decide +kernel
theorem dJ6_bitCount_0f7a4_18 : decode cJ6_bitCount_0f7a4 18 = .ok (.ldc_w 266, 3) := by decide +kernel
theorem dJ6_bitCount_0f7a4_21 : decode cJ6_bitCount_0f7a4 21 = .ok (.iand, 1) := by decide +kernel
theorem dJ6_bitCount_0f7a4_22 : decode cJ6_bitCount_0f7a4 22 = .ok (.iadd, 1) := by decide +kernel
theorem dJ6_bitCount_0f7a4_23 : decode cJ6_bitCount_0f7a4 23 = .ok (.istore_n 0, 1) := by decide +kernel
theorem dJ6_bitCount_0f7a4_24 : decode cJ6_bitCount_0f7a4 24 = .ok (.iload_n 0, 1) := by decide +kernel
theorem dJ6_bitCount_0f7a4_25 : decode cJ6_bitCount_0f7a4 25 = .ok (.iload_n 0, 1) := by decide +kernel
theorem dJ6_bitCount_0f7a4_26 : decode cJ6_bitCount_0f7a4 26 = .ok (.iconst 4, 1) := by decide +kernel
theorem dJ6_bitCount_0f7a4_27 : decode cJ6_bitCount_0f7a4 27 = .ok (.iushr, 1) := by decide +kernel
theorem dJ6_bitCount_0f7a4_28 : decode cJ6_bitCount_0f7a4 28 = .ok (.iadd, 1) := by decide +kernel
theorem dJ6_bitCount_0f7a4_29 : decode cJ6_bitCount_0f7a4 29 = .ok (.ldc_w 267, 3) := by decide +kernel
theorem dJ6_bitCount_0f7a4_32 : decode cJ6_bitCount_0f7a4 32 = .ok (.iand, 1) := by decide +kernel
theorem dJ6_bitCount_0f7a4_33 : decode cJ6_bitCount_0f7a4 33 = .ok (.istore_n 0, 1) := by decide +kernel
theorem dJ6_bitCount_0f7a4_34 : decode cJ6_bitCount_0f7a4 34 = .ok (.iload_n 0, 1) := by decide +kernel
theorem dJ6_bitCount_0f7a4_35 : decode cJ6_bitCount_0f7a4 35 = .ok (.iload_n 0, 1) := by decide +kernel
theorem dJ6_bitCount_0f7a4_36 : decode cJ6_bitCount_0f7a4 36 = .ok (.bipush 8, 2) := by decide +kernel
theorem dJ6_bitCount_0f7a4_38 : decode cJ6_bitCount_0f7a4 38 = .ok (.iushr, 1) := by decide +kernel
theorem dJ6_bitCount_0f7a4_39 : decode cJ6_bitCount_0f7a4 39 = .ok (.iadd, 1) := by decide +kernel
theorem dJ6_bitCount_0f7a4_40 : decode cJ6_bitCount_0f7a4 40 = .ok (.istore_n 0, 1) := by decide +kernel
theorem dJ6_bitCount_0f7a4_41 : decode cJ6_bitCount_0f7a4 41 = .ok (.iload_n 0, 1) := by decide +kernel
theorem dJ6_bitCount_0f7a4_42 : decode cJ6_bitCount_0f7a4 42 = .ok (.iload_n 0, 1) := by decide +kernel
theorem dJ6_bitCount_0f7a4_43 : decode cJ6_bitCount_0f7a4 43 = .ok (.bipush 16, 2) := by decide +kernel
theorem dJ6_bitCount_0f7a4_45 : decode cJ6_bitCount_0f7a4 45 = .ok (.iushr, 1) := by decide +kernel
theorem dJ6_bitCount_0f7a4_46 : decode cJ6_bitCount_0f7a4 46 = .ok (.iadd, 1) := by decide +kernel
theorem dJ6_bitCount_0f7a4_47 : decode cJ6_bitCount_0f7a4 47 = .ok (.istore_n 0, 1) := by decide +kernel
theorem dJ6_bitCount_0f7a4_48 : decode cJ6_bitCount_0f7a4 48 = .ok (.iload_n 0, 1) := by decide +kernel
theorem dJ6_bitCount_0f7a4_49 : decode cJ6_bitCount_0f7a4 49 = .ok (.bipush 63, 2) := by decide +kernel
theorem dJ6_bitCount_0f7a4_51 : decode cJ6_bitCount_0f7a4 51 = .ok (.iand, 1) := by decide +kernel
theorem dJ6_bitCount_0f7a4_52 : decode cJ6_bitCount_0f7a4 52 = .ok (.ireturn, 1) := by decide +kernel
theorem dJ9_max_7cf53_0 : decode cJ9_max_7cf53 0 = .ok (.iload_n 0, 1) := by decide +kernel
theorem dJ9_max_7cf53_1 : decode cJ9_max_7cf53 1 = .ok (.iload_n 1, 1) := by decide +kernel
theorem dJ9_max_7cf53_2 : decode cJ9_max_7cf53 2 = .ok (.if_icmp .lt 7, 3) := by decide +kernel
theorem dJ9_max_7cf53_5 : decode cJ9_max_7cf53 5 = .ok (.iload_n 0, 1) := by decide +kernel
theorem dJ9_max_7cf53_6 : decode cJ9_max_7cf53 6 = .ok (.goto 4, 3) := by decide +kernel
theorem dJ9_max_7cf53_9 : decode cJ9_max_7cf53 9 = .ok (.iload_n 1, 1) := by decide +kernel
theorem dJ9_max_7cf53_10 : decode cJ9_max_7cf53 10 = .ok (.ireturn, 1) := by decide +kernel
theorem dJ9_min_7cf53_0 : decode cJ9_min_7cf53 0 = .ok (.iload_n 0, 1) := by decide +kernel
theorem dJ9_min_7cf53_1 : decode cJ9_min_7cf53 1 = .ok (.iload_n 1, 1) := by decide +kernel
theorem dJ9_min_7cf53_2 : decode cJ9_min_7cf53 2 = .ok (.if_icmp .gt 7, 3) := by decide +kernel
theorem dJ9_min_7cf53_5 : decode cJ9_min_7cf53 5 = .ok (.iload_n 0, 1) := by decide +kernel
theorem dJ9_min_7cf53_6 : decode cJ9_min_7cf53 6 = .ok (.goto 4, 3) := by decide +kernel
theorem dJ9_min_7cf53_9 : decode cJ9_min_7cf53 9 = .ok (.iload_n 1, 1) := by decide +kernel
theorem dJ9_min_7cf53_10 : decode cJ9_min_7cf53 10 = .ok (.ireturn, 1) := by decide +kernel
