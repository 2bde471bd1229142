theorem dX4_init_0 : decode cX4_init 0 = .ok (.aload_n 0, 1) := by decide +kernel
theorem dX4_init_1 : decode cX4_init 1 = .ok (.invokespecial 3, 3) := by decide +kernel
theorem dX4_init_4 : decode cX4_init 4 = .ok (.aload_n 0, 1) := by decide +kernel
theorem dX4_init_5 : decode cX4_init 5 = .ok (.bipush 10, 2) := by decide +kernel
theorem dX4_init_7 : decode cX4_init 7 = .ok (.bipush 10, 2) := by decide +kernel
theorem dX4_init_9 : decode cX4_init 9 = .ok (.multianewarray 9 2, 4) := by decide +kernel
theorem dX4_init_13 : decode cX4_init 13 = .ok (.putfield 11, 3) := by decide +kernel
theorem dX4_init_16 : decode cX4_init 16 = .ok (.aload_n 0, 1) := by decide +kernel
theorem dX4_init_17 : decode cX4_init 17 = .ok (.bipush 10, 2) := by decide +kernel
theorem dX4_init_19 : decode cX4_init 19 = .ok (.newarray .int, 2) := by decide +kernel
theorem dX4_init_21 : decode cX4_init 21 = .ok (.putfield 16, 3) := by decide +kernel
theorem dX4_init_24 : decode cX4_init 24 = .ok (.aload_n 0, 1) := by decide +kernel
theorem dX4_init_25 : decode cX4_init 25 = .ok (.bipush 10, 2) := by decide +kernel
theorem dX4_init_27 : decode cX4_init 27 = .ok (.newarray .int, 2) := by decide +kernel
theorem dX4_init_29 : decode cX4_init 29 = .ok (.putfield 20, 3) := by decide +kernel
theorem dX4_init_32 : decode cX4_init 32 = .ok (.aload_n 0, 1) := by decide +kernel
theorem dX4_init_33 : decode cX4_init 33 = .ok (.bipush 10, 2) := by decide +kernel
theorem dX4_init_35 : decode cX4_init 35 = .ok (.bipush 10, 2) := by decide +kernel
theorem dX4_init_37 : decode cX4_init 37 = .ok (.multianewarray 9 2, 4) := by decide +kernel
theorem dX4_init_41 : decode cX4_init 41 = .ok (.putfield 23, 3) := by decide +kernel
theorem dX4_init_44 : decode cX4_init 44 = .ok (.aload_n 0, 1) := by decide +kernel
theorem dX4_init_45 : decode cX4_init 45 = .ok (.bipush 10, 2) := by decide +kernel
theorem dX4_init_47 : decode cX4_init 47 = .ok (.newarray .int, 2) := by decide +kernel
theorem dX4_init_49 : decode cX4_init 49 = .ok (.putfield 26, 3) := by decide +kernel
theorem dX4_init_52 : decode cX4_init 52 = .ok (.return_, 1) := by decide +kernel
theorem dX4_isSite_0 : decode cX4_isSite 0 = .ok (.iload_n 1, 1) := by decide +kernel
theorem dX4_isSite_1 : decode cX4_isSite 1 = .ok (.aload_n 0, 1) := by decide +kernel
theorem dX4_isSite_2 : decode cX4_isSite 2 = .ok (.getfield 29, 3) := by decide +kernel
theorem dX4_isSite_5 : decode cX4_isSite 5 = .ok (.invokestatic 33, 3) := by decide +kernel
theorem dX4_isSite_8 : decode cX4_isSite 8 = .ok (.ireturn, 1) := by decide +kernel
theorem dX4_isWayBought_0 : decode cX4_isWayBought 0 = .ok (.aload_n 0, 1) := by decide +kernel
theorem dX4_isWayBought_1 : decode cX4_isWayBought 1 = .ok (.getfield 16, 3) := by decide +kernel
theorem dX4_isWayBought_4 : decode cX4_isWayBought 4 = .ok (.iload_n 1, 1) := by decide +kernel
theorem dX4_isWayBought_5 : decode cX4_isWayBought 5 = .ok (.iaload, 1) := by decide +kernel
theorem dX4_isWayBought_6 : decode cX4_isWayBought 6 = .ok (.iload_n 2, 1) := by decide +kernel
theorem dX4_isWayBought_7 : decode cX4_isWayBought 7 = .ok (.invokestatic 37, 3) := by decide +kernel
theorem dX4_isWayBought_10 : decode cX4_isWayBought 10 = .ok (.ireturn, 1) := by decide +kernel
theorem dX4_add_0 : decode cX4_add 0 = .ok (.aload_n 0, 1) := by decide +kernel
theorem dX4_add_1 : decode cX4_add 1 = .ok (.dup, 1) := by decide +kernel
theorem dX4_add_2 : decode cX4_add 2 = .ok (.getfield 29, 3) := by decide +kernel
theorem dX4_add_5 : decode cX4_add 5 = .ok (.iconst 1, 1) := by decide +kernel
theorem dX4_add_6 : decode cX4_add 6 = .ok (.iadd, 1) := by decide +kernel
theorem dX4_add_7 : decode cX4_add 7 = .ok (.putfield 29, 3) := by decide +kernel
theorem dX4_add_10 : decode cX4_add 10 = .ok (.aload_n 0, 1) := by decide +kernel
theorem dX4_add_11 : decode cX4_add 11 = .ok (.getfield 29, 3) := by decide +kernel
theorem dX4_add_14 : decode cX4_add 14 = .ok (.iconst 1, 1) := by decide +kernel
theorem dX4_add_15 : decode cX4_add 15 = .ok (.isub, 1) := by decide +kernel
theorem dX4_add_16 : decode cX4_add 16 = .ok (.ireturn, 1) := by decide +kernel
theorem dX4_lay_0 : decode cX4_lay 0 = .ok (.aload_n 0, 1) := by decide +kernel
theorem dX4_lay_1 : decode cX4_lay 1 = .ok (.getfield 11, 3) := by decide +kernel
theorem dX4_lay_4 : decode cX4_lay 4 = .ok (.iload_n 1, 1) := by decide +kernel
theorem dX4_lay_5 : decode cX4_lay 5 = .ok (.aaload, 1) := by decide +kernel
theorem dX4_lay_6 : decode cX4_lay 6 = .ok (.iload_n 2, 1) := by decide +kernel
theorem dX4_lay_7 : decode cX4_lay 7 = .ok (.iaload, 1) := by decide +kernel
theorem dX4_lay_8 : decode cX4_lay 8 = .ok (.istore 4, 2) := by decide +kernel
theorem dX4_lay_10 : decode cX4_lay 10 = .ok (.iload 4, 2) := by decide +kernel
theorem dX4_lay_12 : decode cX4_lay 12 = .ok (.ifCond .ne 13, 3) := by decide +kernel
theorem dX4_lay_15 : decode cX4_lay 15 = .ok (.aload_n 0, 1) := by decide +kernel
theorem dX4_lay_16 : decode cX4_lay 16 = .ok (.dup, 1) := by decide +kernel
theorem dX4_lay_17 : decode cX4_lay 17 = .ok (.getfield 40, 3) := by decide +kernel
theorem dX4_lay_20 : decode cX4_lay 20 = .ok (.iconst 1, 1) := by decide +kernel
theorem dX4_lay_21 : decode cX4_lay 21 = .ok (.iadd, 1) := by decide +kernel
theorem dX4_lay_22 : decode cX4_lay 22 = .ok (.putfield 40, 3) := by decide +kernel
theorem dX4_lay_25 : decode cX4_lay 25 = .ok (.aload_n 0, 1) := by decide +kernel
theorem dX4_lay_26 : decode cX4_lay 26 = .ok (.getfield 11, 3) := by decide +kernel
theorem dX4_lay_29 : decode cX4_lay 29 = .ok (.iload_n 1, 1) := by decide +kernel
theorem dX4_lay_30 : decode cX4_lay 30 = .ok (.aaload, 1) := by decide +kernel
theorem dX4_lay_31 : decode cX4_lay 31 = .ok (.iload_n 2, 1) := by decide +kernel
theorem dX4_lay_32 : decode cX4_lay 32 = .ok (.iload_n 3, 1) := by decide +kernel
theorem dX4_lay_33 : decode cX4_lay 33 = .ok (.iastore, 1) := by decide +kernel
theorem dX4_lay_34 : decode cX4_lay 34 = .ok (.aload_n 0, 1) := by decide +kernel
theorem dX4_lay_35 : decode cX4_lay 35 = .ok (.getfield 11, 3) := by decide +kernel
theorem dX4_lay_38 : decode cX4_lay 38 = .ok (.iload_n 2, 1) := by decide +kernel
theorem dX4_lay_39 : decode cX4_lay 39 = .ok (.aaload, 1) := by decide +kernel
theorem dX4_lay_40 : decode cX4_lay 40 = .ok (.iload_n 1, 1) := by decide +kernel
theorem dX4_lay_41 : decode cX4_lay 41 = .ok (.iload_n 3, 1) := by decide +kernel
theorem dX4_lay_42 : decode cX4_lay 42 = .ok (.iastore, 1) := by decide +kernel
theorem dX4_lay_43 : decode cX4_lay 43 = .ok (.iload 4, 2) := by decide +kernel
theorem dX4_lay_45 : decode cX4_lay 45 = .ok (.ireturn, 1) := by decide +kernel
theorem dX4_join_0 : decode cX4_join 0 = .ok (.aload_n 0, 1) := by decide +kernel
theorem dX4_join_1 : decode cX4_join 1 = .ok (.getfield 43, 3) := by decide +kernel
theorem dX4_join_4 : decode cX4_join 4 = .ok (.ifCond .ne 15, 3) := by decide +kernel
theorem dX4_join_7 : decode cX4_join 7 = .ok (.aload_n 0, 1) := by decide +kernel
theorem dX4_join_8 : decode cX4_join 8 = .ok (.iload_n 1, 1) := by decide +kernel
theorem dX4_join_9 : decode cX4_join 9 = .ok (.putfield 46, 3) := by decide +kernel
theorem dX4_join_12 : decode cX4_join 12 = .ok (.aload_n 0, 1) := by decide +kernel
theorem dX4_join_13 : decode cX4_join 13 = .ok (.iconst 1, 1) := by decide +kernel
theorem dX4_join_14 : decode cX4_join 14 = .ok (.iload_n 1, 1) := by decide +kernel
theorem dX4_join_15 : decode cX4_join 15 = .ok (.ishl, 1) := by decide +kernel
theorem dX4_join_16 : decode cX4_join 16 = .ok (.putfield 49, 3) := by decide +kernel
theorem dX4_join_19 : decode cX4_join 19 = .ok (.aload_n 0, 1) := by decide +kernel
theorem dX4_join_20 : decode cX4_join 20 = .ok (.invokevirtual 52, 3) := by decide +kernel
theorem dX4_join_23 : decode cX4_join 23 = .ok (.aload_n 0, 1) := by decide +kernel
theorem dX4_join_24 : decode cX4_join 24 = .ok (.getfield 20, 3) := by decide +kernel
theorem dX4_join_27 : decode cX4_join 27 = .ok (.iload_n 1, 1) := by decide +kernel
theorem dX4_join_28 : decode cX4_join 28 = .ok (.iaload, 1) := by decide +kernel
theorem dX4_join_29 : decode cX4_join 29 = .ok (.ldc 55, 2) := by decide +kernel
theorem dX4_join_31 : decode cX4_join 31 = .ok (.if_icmp .lt 6, 3) := by decide +kernel
theorem dX4_join_34 : decode cX4_join 34 = .ok (.ldc 56, 2) := by decide +kernel
theorem dX4_join_36 : decode cX4_join 36 = .ok (.ireturn, 1) := by decide +kernel
theorem dX4_join_37 : decode cX4_join 37 = .ok (.aload_n 0, 1) := by decide +kernel
theorem dX4_join_38 : decode cX4_join 38 = .ok (.iload_n 1, 1) := by decide +kernel
theorem dX4_join_39 : decode cX4_join 39 = .ok (.invokevirtual 57, 3) := by decide +kernel
theorem dX4_join_42 : decode cX4_join 42 = .ok (.istore_n 2, 1) := by decide +kernel
theorem dX4_join_43 : decode cX4_join 43 = .ok (.aload_n 0, 1) := by decide +kernel
theorem dX4_join_44 : decode cX4_join 44 = .ok (.dup, 1) := by decide +kernel
theorem dX4_join_45 : decode cX4_join 45 = .ok (.getfield 43, 3) := by decide +kernel
theorem dX4_join_48 : decode cX4_join 48 = .ok (.iconst 1, 1) := by decide +kernel
theorem dX4_join_49 : decode cX4_join 49 = .ok (.iload_n 1, 1) := by decide +kernel
theorem dX4_join_50 : decode cX4_join 50 = .ok (.ishl, 1) := by decide +kernel
theorem dX4_join_51 : decode cX4_join 51 = .ok (.ior, 1) := by decide +kernel
theorem dX4_join_52 : decode cX4_join 52 = .ok (.putfield 43, 3) := by decide +kernel
theorem dX4_join_55 : decode cX4_join 55 = .ok (.aload_n 0, 1) := by decide +kernel
theorem dX4_join_56 : decode cX4_join 56 = .ok (.dup, 1) := by decide +kernel
theorem dX4_join_57 : decode cX4_join 57 = .ok (.getfield 61, 3) := by decide +kernel
theorem dX4_join_60 : decode cX4_join 60 = .ok (.iload_n 2, 1) := by decide +kernel
theorem dX4_join_61 : decode cX4_join 61 = .ok (.iadd, 1) := by decide +kernel
theorem dX4_join_62 : decode cX4_join 62 = .ok (.putfield 61, 3) := by decide +kernel
theorem dX4_join_65 : decode cX4_join 65 = .ok (.iload_n 2, 1) := by decide +kernel
theorem dX4_join_66 : decode cX4_join 66 = .ok (.ireturn, 1) := by decide +kernel
theorem dX4_weighRows_0 : decode cX4_weighRows 0 = .ok (.iconst 0, 1) := by decide +kernel
theorem dX4_weighRows_1 : decode cX4_weighRows 1 = .ok (.istore_n 1, 1) := by decide +kernel
theorem dX4_weighRows_2 : decode cX4_weighRows 2 = .ok (.iload_n 1, 1) := by decide +kernel
theorem dX4_weighRows_3 : decode cX4_weighRows 3 = .ok (.aload_n 0, 1) := by decide +kernel
theorem dX4_weighRows_4 : decode cX4_weighRows 4 = .ok (.getfield 29, 3) := by decide +kernel
theorem dX4_weighRows_7 : decode cX4_weighRows 7 = .ok (.if_icmp .ge 32, 3) := by decide +kernel
theorem dX4_weighRows_10 : decode cX4_weighRows 10 = .ok (.aload_n 0, 1) := by decide +kernel
theorem dX4_weighRows_11 : decode cX4_weighRows 11 = .ok (.getfield 20, 3) := by decide +kernel
theorem dX4_weighRows_14 : decode cX4_weighRows 14 = .ok (.iload_n 1, 1) := by decide +kernel
theorem dX4_weighRows_15 : decode cX4_weighRows 15 = .ok (.aload_n 0, 1) := by decide +kernel
theorem dX4_weighRows_16 : decode cX4_weighRows 16 = .ok (.getfield 49, 3) := by decide +kernel
theorem dX4_weighRows_19 : decode cX4_weighRows 19 = .ok (.iload_n 1, 1) := by decide +kernel
theorem dX4_weighRows_20 : decode cX4_weighRows 20 = .ok (.invokestatic 37, 3) := by decide +kernel
theorem dX4_weighRows_23 : decode cX4_weighRows 23 = .ok (.ifCond .eq 7, 3) := by decide +kernel
theorem dX4_weighRows_26 : decode cX4_weighRows 26 = .ok (.iconst 0, 1) := by decide +kernel
theorem dX4_weighRows_27 : decode cX4_weighRows 27 = .ok (.goto 5, 3) := by decide +kernel
theorem dX4_weighRows_30 : decode cX4_weighRows 30 = .ok (.ldc 55, 2) := by decide +kernel
theorem dX4_weighRows_32 : decode cX4_weighRows 32 = .ok (.iastore, 1) := by decide +kernel
theorem dX4_weighRows_33 : decode cX4_weighRows 33 = .ok (.iinc 1 1, 3) := by decide +kernel
theorem dX4_weighRows_36 : decode cX4_weighRows 36 = .ok (.goto (-34), 3) := by decide +kernel
theorem dX4_weighRows_39 : decode cX4_weighRows 39 = .ok (.iconst 0, 1) := by decide +kernel
theorem dX4_weighRows_40 : decode cX4_weighRows 40 = .ok (.istore_n 1, 1) := by decide +kernel
theorem dX4_weighRows_41 : decode cX4_weighRows 41 = .ok (.iload_n 1, 1) := by decide +kernel
theorem dX4_weighRows_42 : decode cX4_weighRows 42 = .ok (.aload_n 0, 1) := by decide +kernel
theorem dX4_weighRows_43 : decode cX4_weighRows 43 = .ok (.getfield 29, 3) := by decide +kernel
theorem dX4_weighRows_46 : decode cX4_weighRows 46 = .ok (.if_icmp .ge 36, 3) := by decide +kernel
theorem dX4_weighRows_49 : decode cX4_weighRows 49 = .ok (.iconst 0, 1) := by decide +kernel
theorem dX4_weighRows_50 : decode cX4_weighRows 50 = .ok (.istore_n 2, 1) := by decide +kernel
theorem dX4_weighRows_51 : decode cX4_weighRows 51 = .ok (.iload_n 2, 1) := by decide +kernel
theorem dX4_weighRows_52 : decode cX4_weighRows 52 = .ok (.aload_n 0, 1) := by decide +kernel
theorem dX4_weighRows_53 : decode cX4_weighRows 53 = .ok (.getfield 29, 3) := by decide +kernel
theorem dX4_weighRows_56 : decode cX4_weighRows 56 = .ok (.if_icmp .ge 20, 3) := by decide +kernel
theorem dX4_weighRows_59 : decode cX4_weighRows 59 = .ok (.aload_n 0, 1) := by decide +kernel
theorem dX4_weighRows_60 : decode cX4_weighRows 60 = .ok (.getfield 20, 3) := by decide +kernel
theorem dX4_weighRows_63 : decode cX4_weighRows 63 = .ok (.iload_n 2, 1) := by decide +kernel
theorem dX4_weighRows_64 : decode cX4_weighRows 64 = .ok (.aload_n 0, 1) := by decide +kernel
theorem dX4_weighRows_65 : decode cX4_weighRows 65 = .ok (.iload_n 2, 1) := by decide +kernel
theorem dX4_weighRows_66 : decode cX4_weighRows 66 = .ok (.invokevirtual 64, 3) := by decide +kernel
theorem dX4_weighRows_69 : decode cX4_weighRows 69 = .ok (.iastore, 1) := by decide +kernel
theorem dX4_weighRows_70 : decode cX4_weighRows 70 = .ok (.iinc 2 1, 3) := by decide +kernel
theorem dX4_weighRows_73 : decode cX4_weighRows 73 = .ok (.goto (-22), 3) := by decide +kernel
theorem dX4_weighRows_76 : decode cX4_weighRows 76 = .ok (.iinc 1 1, 3) := by decide +kernel
theorem dX4_weighRows_79 : decode cX4_weighRows 79 = .ok (.goto (-38), 3) := by decide +kernel
theorem dX4_weighRows_82 : decode cX4_weighRows 82 = .ok (.return_, 1) := by decide +kernel
theorem dX4_leastWeight_0 : decode cX4_leastWeight 0 = .ok (.aload_n 0, 1) := by decide +kernel
theorem dX4_leastWeight_1 : decode cX4_leastWeight 1 = .ok (.getfield 20, 3) := by decide +kernel
theorem dX4_leastWeight_4 : decode cX4_leastWeight 4 = .ok (.iload_n 1, 1) := by decide +kernel
theorem dX4_leastWeight_5 : decode cX4_leastWeight 5 = .ok (.iaload, 1) := by decide +kernel
theorem dX4_leastWeight_6 : decode cX4_leastWeight 6 = .ok (.istore_n 2, 1) := by decide +kernel
theorem dX4_leastWeight_7 : decode cX4_leastWeight 7 = .ok (.iconst 0, 1) := by decide +kernel
theorem dX4_leastWeight_8 : decode cX4_leastWeight 8 = .ok (.istore_n 3, 1) := by decide +kernel
theorem dX4_leastWeight_9 : decode cX4_leastWeight 9 = .ok (.iload_n 3, 1) := by decide +kernel
theorem dX4_leastWeight_10 : decode cX4_leastWeight 10 = .ok (.aload_n 0, 1) := by decide +kernel
theorem dX4_leastWeight_11 : decode cX4_leastWeight 11 = .ok (.getfield 29, 3) := by decide +kernel
theorem dX4_leastWeight_14 : decode cX4_leastWeight 14 = .ok (.if_icmp .ge 38, 3) := by decide +kernel
theorem dX4_leastWeight_17 : decode cX4_leastWeight 17 = .ok (.aload_n 0, 1) := by decide +kernel
theorem dX4_leastWeight_18 : decode cX4_leastWeight 18 = .ok (.getfield 11, 3) := by decide +kernel
theorem dX4_leastWeight_21 : decode cX4_leastWeight 21 = .ok (.iload_n 1, 1) := by decide +kernel
theorem dX4_leastWeight_22 : decode cX4_leastWeight 22 = .ok (.aaload, 1) := by decide +kernel
theorem dX4_leastWeight_23 : decode cX4_leastWeight 23 = .ok (.iload_n 3, 1) := by decide +kernel
theorem dX4_leastWeight_24 : decode cX4_leastWeight 24 = .ok (.iaload, 1) := by decide +kernel
theorem dX4_leastWeight_25 : decode cX4_leastWeight 25 = .ok (.ifCond .le 21, 3) := by decide +kernel
theorem dX4_leastWeight_28 : decode cX4_leastWeight 28 = .ok (.iload_n 2, 1) := by decide +kernel
theorem dX4_leastWeight_29 : decode cX4_leastWeight 29 = .ok (.aload_n 0, 1) := by decide +kernel
theorem dX4_leastWeight_30 : decode cX4_leastWeight 30 = .ok (.getfield 20, 3) := by decide +kernel
theorem dX4_leastWeight_33 : decode cX4_leastWeight 33 = .ok (.iload_n 3, 1) := by decide +kernel
theorem dX4_leastWeight_34 : decode cX4_leastWeight 34 = .ok (.iaload, 1) := by decide +kernel
theorem dX4_leastWeight_35 : decode cX4_leastWeight 35 = .ok (.aload_n 0, 1) := by decide +kernel
theorem dX4_leastWeight_36 : decode cX4_leastWeight 36 = .ok (.iload_n 1, 1) := by decide +kernel
theorem dX4_leastWeight_37 : decode cX4_leastWeight 37 = .ok (.iload_n 3, 1) := by decide +kernel
theorem dX4_leastWeight_38 : decode cX4_leastWeight 38 = .ok (.invokevirtual 67, 3) := by decide +kernel
theorem dX4_leastWeight_41 : decode cX4_leastWeight 41 = .ok (.iadd, 1) := by decide +kernel
theorem dX4_leastWeight_42 : decode cX4_leastWeight 42 = .ok (.invokestatic 71, 3) := by decide +kernel
theorem dX4_leastWeight_45 : decode cX4_leastWeight 45 = .ok (.istore_n 2, 1) := by decide +kernel
theorem dX4_leastWeight_46 : decode cX4_leastWeight 46 = .ok (.iinc 3 1, 3) := by decide +kernel
theorem dX4_leastWeight_49 : decode cX4_leastWeight 49 = .ok (.goto (-40), 3) := by decide +kernel
theorem dX4_leastWeight_52 : decode cX4_leastWeight 52 = .ok (.iload_n 2, 1) := by decide +kernel
theorem dX4_leastWeight_53 : decode cX4_leastWeight 53 = .ok (.ireturn, 1) := by decide +kernel
theorem dX4_weightOf_0 : decode cX4_weightOf 0 = .ok (.aload_n 0, 1) := by decide +kernel
theorem dX4_weightOf_1 : decode cX4_weightOf 1 = .ok (.getfield 11, 3) := by decide +kernel
theorem dX4_weightOf_4 : decode cX4_weightOf 4 = .ok (.iload_n 1, 1) := by decide +kernel
theorem dX4_weightOf_5 : decode cX4_weightOf 5 = .ok (.aaload, 1) := by decide +kernel
theorem dX4_weightOf_6 : decode cX4_weightOf 6 = .ok (.iload_n 2, 1) := by decide +kernel
theorem dX4_weightOf_7 : decode cX4_weightOf 7 = .ok (.iaload, 1) := by decide +kernel
theorem dX4_weightOf_8 : decode cX4_weightOf 8 = .ok (.bipush 16, 2) := by decide +kernel
theorem dX4_weightOf_10 : decode cX4_weightOf 10 = .ok (.imul, 1) := by decide +kernel
theorem dX4_weightOf_11 : decode cX4_weightOf 11 = .ok (.iconst 1, 1) := by decide +kernel
theorem dX4_weightOf_12 : decode cX4_weightOf 12 = .ok (.iadd, 1) := by decide +kernel
theorem dX4_weightOf_13 : decode cX4_weightOf 13 = .ok (.ireturn, 1) := by decide +kernel
theorem dX4_buyRow_0 : decode cX4_buyRow 0 = .ok (.iconst 0, 1) := by decide +kernel
theorem dX4_buyRow_1 : decode cX4_buyRow 1 = .ok (.istore_n 2, 1) := by decide +kernel
theorem dX4_buyRow_2 : decode cX4_buyRow 2 = .ok (.iload_n 1, 1) := by decide +kernel
theorem dX4_buyRow_3 : decode cX4_buyRow 3 = .ok (.istore_n 3, 1) := by decide +kernel
theorem dX4_buyRow_4 : decode cX4_buyRow 4 = .ok (.iconst 0, 1) := by decide +kernel
theorem dX4_buyRow_5 : decode cX4_buyRow 5 = .ok (.istore 4, 2) := by decide +kernel
theorem dX4_buyRow_7 : decode cX4_buyRow 7 = .ok (.iload 4, 2) := by decide +kernel
theorem dX4_buyRow_9 : decode cX4_buyRow 9 = .ok (.aload_n 0, 1) := by decide +kernel
theorem dX4_buyRow_10 : decode cX4_buyRow 10 = .ok (.getfield 29, 3) := by decide +kernel
theorem dX4_buyRow_13 : decode cX4_buyRow 13 = .ok (.if_icmp .ge 47, 3) := by decide +kernel
theorem dX4_buyRow_16 : decode cX4_buyRow 16 = .ok (.aload_n 0, 1) := by decide +kernel
theorem dX4_buyRow_17 : decode cX4_buyRow 17 = .ok (.getfield 20, 3) := by decide +kernel
theorem dX4_buyRow_20 : decode cX4_buyRow 20 = .ok (.iload_n 3, 1) := by decide +kernel
theorem dX4_buyRow_21 : decode cX4_buyRow 21 = .ok (.iaload, 1) := by decide +kernel
theorem dX4_buyRow_22 : decode cX4_buyRow 22 = .ok (.ifCond .le 38, 3) := by decide +kernel
theorem dX4_buyRow_25 : decode cX4_buyRow 25 = .ok (.aload_n 0, 1) := by decide +kernel
theorem dX4_buyRow_26 : decode cX4_buyRow 26 = .ok (.iload_n 3, 1) := by decide +kernel
theorem dX4_buyRow_27 : decode cX4_buyRow 27 = .ok (.invokevirtual 76, 3) := by decide +kernel
theorem dX4_buyRow_30 : decode cX4_buyRow 30 = .ok (.istore 5, 2) := by decide +kernel
theorem dX4_buyRow_32 : decode cX4_buyRow 32 = .ok (.iload_n 2, 1) := by decide +kernel
theorem dX4_buyRow_33 : decode cX4_buyRow 33 = .ok (.aload_n 0, 1) := by decide +kernel
theorem dX4_buyRow_34 : decode cX4_buyRow 34 = .ok (.getfield 11, 3) := by decide +kernel
theorem dX4_buyRow_37 : decode cX4_buyRow 37 = .ok (.iload_n 3, 1) := by decide +kernel
theorem dX4_buyRow_38 : decode cX4_buyRow 38 = .ok (.aaload, 1) := by decide +kernel
theorem dX4_buyRow_39 : decode cX4_buyRow 39 = .ok (.iload 5, 2) := by decide +kernel
theorem dX4_buyRow_41 : decode cX4_buyRow 41 = .ok (.iaload, 1) := by decide +kernel
theorem dX4_buyRow_42 : decode cX4_buyRow 42 = .ok (.iadd, 1) := by decide +kernel
theorem dX4_buyRow_43 : decode cX4_buyRow 43 = .ok (.istore_n 2, 1) := by decide +kernel
theorem dX4_buyRow_44 : decode cX4_buyRow 44 = .ok (.aload_n 0, 1) := by decide +kernel
theorem dX4_buyRow_45 : decode cX4_buyRow 45 = .ok (.iload_n 3, 1) := by decide +kernel
theorem dX4_buyRow_46 : decode cX4_buyRow 46 = .ok (.iload 5, 2) := by decide +kernel
theorem dX4_buyRow_48 : decode cX4_buyRow 48 = .ok (.invokevirtual 79, 3) := by decide +kernel
theorem dX4_buyRow_51 : decode cX4_buyRow 51 = .ok (.iload 5, 2) := by decide +kernel
theorem dX4_buyRow_53 : decode cX4_buyRow 53 = .ok (.istore_n 3, 1) := by decide +kernel
theorem dX4_buyRow_54 : decode cX4_buyRow 54 = .ok (.iinc 4 1, 3) := by decide +kernel
theorem dX4_buyRow_57 : decode cX4_buyRow 57 = .ok (.goto (-50), 3) := by decide +kernel
theorem dX4_buyRow_60 : decode cX4_buyRow 60 = .ok (.iload_n 2, 1) := by decide +kernel
theorem dX4_buyRow_61 : decode cX4_buyRow 61 = .ok (.ireturn, 1) := by decide +kernel
theorem dX4_nextOnRow_0 : decode cX4_nextOnRow 0 = .ok (.iconst 0, 1) := by decide +kernel
theorem dX4_nextOnRow_1 : decode cX4_nextOnRow 1 = .ok (.istore_n 2, 1) := by decide +kernel
theorem dX4_nextOnRow_2 : decode cX4_nextOnRow 2 = .ok (.iload_n 2, 1) := by decide +kernel
theorem dX4_nextOnRow_3 : decode cX4_nextOnRow 3 = .ok (.aload_n 0, 1) := by decide +kernel
theorem dX4_nextOnRow_4 : decode cX4_nextOnRow 4 = .ok (.getfield 29, 3) := by decide +kernel
theorem dX4_nextOnRow_7 : decode cX4_nextOnRow 7 = .ok (.if_icmp .ge 44, 3) := by decide +kernel
theorem dX4_nextOnRow_10 : decode cX4_nextOnRow 10 = .ok (.aload_n 0, 1) := by decide +kernel
theorem dX4_nextOnRow_11 : decode cX4_nextOnRow 11 = .ok (.getfield 11, 3) := by decide +kernel
theorem dX4_nextOnRow_14 : decode cX4_nextOnRow 14 = .ok (.iload_n 1, 1) := by decide +kernel
theorem dX4_nextOnRow_15 : decode cX4_nextOnRow 15 = .ok (.aaload, 1) := by decide +kernel
theorem dX4_nextOnRow_16 : decode cX4_nextOnRow 16 = .ok (.iload_n 2, 1) := by decide +kernel
theorem dX4_nextOnRow_17 : decode cX4_nextOnRow 17 = .ok (.iaload, 1) := by decide +kernel
theorem dX4_nextOnRow_18 : decode cX4_nextOnRow 18 = .ok (.ifCond .le 27, 3) := by decide +kernel
theorem dX4_nextOnRow_21 : decode cX4_nextOnRow 21 = .ok (.aload_n 0, 1) := by decide +kernel
theorem dX4_nextOnRow_22 : decode cX4_nextOnRow 22 = .ok (.getfield 20, 3) := by decide +kernel
theorem dX4_nextOnRow_25 : decode cX4_nextOnRow 25 = .ok (.iload_n 2, 1) := by decide +kernel
theorem dX4_nextOnRow_26 : decode cX4_nextOnRow 26 = .ok (.iaload, 1) := by decide +kernel
theorem dX4_nextOnRow_27 : decode cX4_nextOnRow 27 = .ok (.aload_n 0, 1) := by decide +kernel
theorem dX4_nextOnRow_28 : decode cX4_nextOnRow 28 = .ok (.iload_n 1, 1) := by decide +kernel
theorem dX4_nextOnRow_29 : decode cX4_nextOnRow 29 = .ok (.iload_n 2, 1) := by decide +kernel
theorem dX4_nextOnRow_30 : decode cX4_nextOnRow 30 = .ok (.invokevirtual 67, 3) := by decide +kernel
theorem dX4_nextOnRow_33 : decode cX4_nextOnRow 33 = .ok (.iadd, 1) := by decide +kernel
theorem dX4_nextOnRow_34 : decode cX4_nextOnRow 34 = .ok (.aload_n 0, 1) := by decide +kernel
theorem dX4_nextOnRow_35 : decode cX4_nextOnRow 35 = .ok (.getfield 20, 3) := by decide +kernel
theorem dX4_nextOnRow_38 : decode cX4_nextOnRow 38 = .ok (.iload_n 1, 1) := by decide +kernel
theorem dX4_nextOnRow_39 : decode cX4_nextOnRow 39 = .ok (.iaload, 1) := by decide +kernel
theorem dX4_nextOnRow_40 : decode cX4_nextOnRow 40 = .ok (.if_icmp .ne 5, 3) := by decide +kernel
theorem dX4_nextOnRow_43 : decode cX4_nextOnRow 43 = .ok (.iload_n 2, 1) := by decide +kernel
theorem dX4_nextOnRow_44 : decode cX4_nextOnRow 44 = .ok (.ireturn, 1) := by decide +kernel
theorem dX4_nextOnRow_45 : decode cX4_nextOnRow 45 = .ok (.iinc 2 1, 3) := by decide +kernel
theorem dX4_nextOnRow_48 : decode cX4_nextOnRow 48 = .ok (.goto (-46), 3) := by decide +kernel
theorem dX4_nextOnRow_51 : decode cX4_nextOnRow 51 = .ok (.iload_n 1, 1) := by decide +kernel
theorem dX4_nextOnRow_52 : decode cX4_nextOnRow 52 = .ok (.ireturn, 1) := by decide +kernel
theorem dX4_buyWay_0 : decode cX4_buyWay 0 = .ok (.aload_n 0, 1) := by decide +kernel
theorem dX4_buyWay_1 : decode cX4_buyWay 1 = .ok (.getfield 16, 3) := by decide +kernel
theorem dX4_buyWay_4 : decode cX4_buyWay 4 = .ok (.iload_n 1, 1) := by decide +kernel
theorem dX4_buyWay_5 : decode cX4_buyWay 5 = .ok (.dup2, 1) := by decide +kernel
theorem dX4_buyWay_6 : decode cX4_buyWay 6 = .ok (.iaload, 1) := by decide +kernel
theorem dX4_buyWay_7 : decode cX4_buyWay 7 = .ok (.iconst 1, 1) := by decide +kernel
theorem dX4_buyWay_8 : decode cX4_buyWay 8 = .ok (.iload_n 2, 1) := by decide +kernel
theorem dX4_buyWay_9 : decode cX4_buyWay 9 = .ok (.ishl, 1) := by decide +kernel
theorem dX4_buyWay_10 : decode cX4_buyWay 10 = .ok (.ior, 1) := by decide +kernel
theorem dX4_buyWay_11 : decode cX4_buyWay 11 = .ok (.iastore, 1) := by decide +kernel
theorem dX4_buyWay_12 : decode cX4_buyWay 12 = .ok (.aload_n 0, 1) := by decide +kernel
theorem dX4_buyWay_13 : decode cX4_buyWay 13 = .ok (.getfield 16, 3) := by decide +kernel
theorem dX4_buyWay_16 : decode cX4_buyWay 16 = .ok (.iload_n 2, 1) := by decide +kernel
theorem dX4_buyWay_17 : decode cX4_buyWay 17 = .ok (.dup2, 1) := by decide +kernel
theorem dX4_buyWay_18 : decode cX4_buyWay 18 = .ok (.iaload, 1) := by decide +kernel
theorem dX4_buyWay_19 : decode cX4_buyWay 19 = .ok (.iconst 1, 1) := by decide +kernel
theorem dX4_buyWay_20 : decode cX4_buyWay 20 = .ok (.iload_n 1, 1) := by decide +kernel
theorem dX4_buyWay_21 : decode cX4_buyWay 21 = .ok (.ishl, 1) := by decide +kernel
theorem dX4_buyWay_22 : decode cX4_buyWay 22 = .ok (.ior, 1) := by decide +kernel
theorem dX4_buyWay_23 : decode cX4_buyWay 23 = .ok (.iastore, 1) := by decide +kernel
theorem dX4_buyWay_24 : decode cX4_buyWay 24 = .ok (.aload_n 0, 1) := by decide +kernel
theorem dX4_buyWay_25 : decode cX4_buyWay 25 = .ok (.dup, 1) := by decide +kernel
theorem dX4_buyWay_26 : decode cX4_buyWay 26 = .ok (.getfield 49, 3) := by decide +kernel
theorem dX4_buyWay_29 : decode cX4_buyWay 29 = .ok (.iconst 1, 1) := by decide +kernel
theorem dX4_buyWay_30 : decode cX4_buyWay 30 = .ok (.iload_n 1, 1) := by decide +kernel
theorem dX4_buyWay_31 : decode cX4_buyWay 31 = .ok (.ishl, 1) := by decide +kernel
theorem dX4_buyWay_32 : decode cX4_buyWay 32 = .ok (.iconst 1, 1) := by decide +kernel
theorem dX4_buyWay_33 : decode cX4_buyWay 33 = .ok (.iload_n 2, 1) := by decide +kernel
theorem dX4_buyWay_34 : decode cX4_buyWay 34 = .ok (.ishl, 1) := by decide +kernel
theorem dX4_buyWay_35 : decode cX4_buyWay 35 = .ok (.ior, 1) := by decide +kernel
theorem dX4_buyWay_36 : decode cX4_buyWay 36 = .ok (.ior, 1) := by decide +kernel
theorem dX4_buyWay_37 : decode cX4_buyWay 37 = .ok (.putfield 49, 3) := by decide +kernel
theorem dX4_buyWay_40 : decode cX4_buyWay 40 = .ok (.aload_n 0, 1) := by decide +kernel
theorem dX4_buyWay_41 : decode cX4_buyWay 41 = .ok (.dup, 1) := by decide +kernel
theorem dX4_buyWay_42 : decode cX4_buyWay 42 = .ok (.getfield 83, 3) := by decide +kernel
theorem dX4_buyWay_45 : decode cX4_buyWay 45 = .ok (.iconst 1, 1) := by decide +kernel
theorem dX4_buyWay_46 : decode cX4_buyWay 46 = .ok (.iadd, 1) := by decide +kernel
theorem dX4_buyWay_47 : decode cX4_buyWay 47 = .ok (.putfield 83, 3) := by decide +kernel
theorem dX4_buyWay_50 : decode cX4_buyWay 50 = .ok (.return_, 1) := by decide +kernel
theorem dX4_least_0 : decode cX4_least 0 = .ok (.aload_n 0, 1) := by decide +kernel
theorem dX4_least_1 : decode cX4_least 1 = .ok (.getfield 43, 3) := by decide +kernel
theorem dX4_least_4 : decode cX4_least 4 = .ok (.invokestatic 86, 3) := by decide +kernel
theorem dX4_least_7 : decode cX4_least 7 = .ok (.iconst 2, 1) := by decide +kernel
theorem dX4_least_8 : decode cX4_least 8 = .ok (.isub, 1) := by decide +kernel
theorem dX4_least_9 : decode cX4_least 9 = .ok (.istore_n 1, 1) := by decide +kernel
theorem dX4_least_10 : decode cX4_least 10 = .ok (.iload_n 1, 1) := by decide +kernel
theorem dX4_least_11 : decode cX4_least 11 = .ok (.ifCond .ge 5, 3) := by decide +kernel
theorem dX4_least_14 : decode cX4_least 14 = .ok (.iconst 0, 1) := by decide +kernel
theorem dX4_least_15 : decode cX4_least 15 = .ok (.ireturn, 1) := by decide +kernel
theorem dX4_least_16 : decode cX4_least 16 = .ok (.aload_n 0, 1) := by decide +kernel
theorem dX4_least_17 : decode cX4_least 17 = .ok (.invokevirtual 91, 3) := by decide +kernel
theorem dX4_least_20 : decode cX4_least 20 = .ok (.ldc 55, 2) := by decide +kernel
theorem dX4_least_22 : decode cX4_least 22 = .ok (.istore_n 2, 1) := by decide +kernel
theorem dX4_least_23 : decode cX4_least 23 = .ok (.iconst 0, 1) := by decide +kernel
theorem dX4_least_24 : decode cX4_least 24 = .ok (.istore_n 3, 1) := by decide +kernel
theorem dX4_least_25 : decode cX4_least 25 = .ok (.iload_n 3, 1) := by decide +kernel
theorem dX4_least_26 : decode cX4_least 26 = .ok (.iconst 1, 1) := by decide +kernel
theorem dX4_least_27 : decode cX4_least 27 = .ok (.aload_n 0, 1) := by decide +kernel
theorem dX4_least_28 : decode cX4_least 28 = .ok (.getfield 29, 3) := by decide +kernel
theorem dX4_least_31 : decode cX4_least 31 = .ok (.ishl, 1) := by decide +kernel
theorem dX4_least_32 : decode cX4_least 32 = .ok (.if_icmp .ge 41, 3) := by decide +kernel
theorem dX4_least_35 : decode cX4_least 35 = .ok (.iload_n 3, 1) := by decide +kernel
theorem dX4_least_36 : decode cX4_least 36 = .ok (.aload_n 0, 1) := by decide +kernel
theorem dX4_least_37 : decode cX4_least 37 = .ok (.getfield 43, 3) := by decide +kernel
theorem dX4_least_40 : decode cX4_least 40 = .ok (.iand, 1) := by decide +kernel
theorem dX4_least_41 : decode cX4_least 41 = .ok (.ifCond .ne 26, 3) := by decide +kernel
theorem dX4_least_44 : decode cX4_least 44 = .ok (.iload_n 3, 1) := by decide +kernel
theorem dX4_least_45 : decode cX4_least 45 = .ok (.invokestatic 86, 3) := by decide +kernel
theorem dX4_least_48 : decode cX4_least 48 = .ok (.iload_n 1, 1) := by decide +kernel
theorem dX4_least_49 : decode cX4_least 49 = .ok (.if_icmp .gt 18, 3) := by decide +kernel
theorem dX4_least_52 : decode cX4_least 52 = .ok (.iload_n 2, 1) := by decide +kernel
theorem dX4_least_53 : decode cX4_least 53 = .ok (.aload_n 0, 1) := by decide +kernel
theorem dX4_least_54 : decode cX4_least 54 = .ok (.aload_n 0, 1) := by decide +kernel
theorem dX4_least_55 : decode cX4_least 55 = .ok (.getfield 43, 3) := by decide +kernel
theorem dX4_least_58 : decode cX4_least 58 = .ok (.iload_n 3, 1) := by decide +kernel
theorem dX4_least_59 : decode cX4_least 59 = .ok (.ior, 1) := by decide +kernel
theorem dX4_least_60 : decode cX4_least 60 = .ok (.invokevirtual 94, 3) := by decide +kernel
theorem dX4_least_63 : decode cX4_least 63 = .ok (.invokestatic 71, 3) := by decide +kernel
theorem dX4_least_66 : decode cX4_least 66 = .ok (.istore_n 2, 1) := by decide +kernel
theorem dX4_least_67 : decode cX4_least 67 = .ok (.iinc 3 1, 3) := by decide +kernel
theorem dX4_least_70 : decode cX4_least 70 = .ok (.goto (-45), 3) := by decide +kernel
theorem dX4_least_73 : decode cX4_least 73 = .ok (.iload_n 2, 1) := by decide +kernel
theorem dX4_least_74 : decode cX4_least 74 = .ok (.ldc 55, 2) := by decide +kernel
theorem dX4_least_76 : decode cX4_least 76 = .ok (.if_icmp .ge 7, 3) := by decide +kernel
theorem dX4_least_79 : decode cX4_least 79 = .ok (.iload_n 2, 1) := by decide +kernel
theorem dX4_least_80 : decode cX4_least 80 = .ok (.goto 5, 3) := by decide +kernel
theorem dX4_least_83 : decode cX4_least 83 = .ok (.ldc 56, 2) := by decide +kernel
theorem dX4_least_85 : decode cX4_least 85 = .ok (.ireturn, 1) := by decide +kernel
theorem dX4_findNearest_0 : decode cX4_findNearest 0 = .ok (.iconst 0, 1) := by decide +kernel
theorem dX4_findNearest_1 : decode cX4_findNearest 1 = .ok (.istore_n 1, 1) := by decide +kernel
theorem dX4_findNearest_2 : decode cX4_findNearest 2 = .ok (.iload_n 1, 1) := by decide +kernel
theorem dX4_findNearest_3 : decode cX4_findNearest 3 = .ok (.aload_n 0, 1) := by decide +kernel
theorem dX4_findNearest_4 : decode cX4_findNearest 4 = .ok (.getfield 29, 3) := by decide +kernel
theorem dX4_findNearest_7 : decode cX4_findNearest 7 = .ok (.if_icmp .ge 66, 3) := by decide +kernel
theorem dX4_findNearest_10 : decode cX4_findNearest 10 = .ok (.iconst 0, 1) := by decide +kernel
theorem dX4_findNearest_11 : decode cX4_findNearest 11 = .ok (.istore_n 2, 1) := by decide +kernel
theorem dX4_findNearest_12 : decode cX4_findNearest 12 = .ok (.iload_n 2, 1) := by decide +kernel
theorem dX4_findNearest_13 : decode cX4_findNearest 13 = .ok (.aload_n 0, 1) := by decide +kernel
theorem dX4_findNearest_14 : decode cX4_findNearest 14 = .ok (.getfield 29, 3) := by decide +kernel
theorem dX4_findNearest_17 : decode cX4_findNearest 17 = .ok (.if_icmp .ge 41, 3) := by decide +kernel
theorem dX4_findNearest_20 : decode cX4_findNearest 20 = .ok (.aload_n 0, 1) := by decide +kernel
theorem dX4_findNearest_21 : decode cX4_findNearest 21 = .ok (.getfield 23, 3) := by decide +kernel
theorem dX4_findNearest_24 : decode cX4_findNearest 24 = .ok (.iload_n 1, 1) := by decide +kernel
theorem dX4_findNearest_25 : decode cX4_findNearest 25 = .ok (.aaload, 1) := by decide +kernel
theorem dX4_findNearest_26 : decode cX4_findNearest 26 = .ok (.iload_n 2, 1) := by decide +kernel
theorem dX4_findNearest_27 : decode cX4_findNearest 27 = .ok (.aload_n 0, 1) := by decide +kernel
theorem dX4_findNearest_28 : decode cX4_findNearest 28 = .ok (.getfield 11, 3) := by decide +kernel
theorem dX4_findNearest_31 : decode cX4_findNearest 31 = .ok (.iload_n 1, 1) := by decide +kernel
theorem dX4_findNearest_32 : decode cX4_findNearest 32 = .ok (.aaload, 1) := by decide +kernel
theorem dX4_findNearest_33 : decode cX4_findNearest 33 = .ok (.iload_n 2, 1) := by decide +kernel
theorem dX4_findNearest_34 : decode cX4_findNearest 34 = .ok (.iaload, 1) := by decide +kernel
theorem dX4_findNearest_35 : decode cX4_findNearest 35 = .ok (.ifCond .le 14, 3) := by decide +kernel
theorem dX4_findNearest_38 : decode cX4_findNearest 38 = .ok (.aload_n 0, 1) := by decide +kernel
theorem dX4_findNearest_39 : decode cX4_findNearest 39 = .ok (.getfield 11, 3) := by decide +kernel
theorem dX4_findNearest_42 : decode cX4_findNearest 42 = .ok (.iload_n 1, 1) := by decide +kernel
theorem dX4_findNearest_43 : decode cX4_findNearest 43 = .ok (.aaload, 1) := by decide +kernel
theorem dX4_findNearest_44 : decode cX4_findNearest 44 = .ok (.iload_n 2, 1) := by decide +kernel
theorem dX4_findNearest_45 : decode cX4_findNearest 45 = .ok (.iaload, 1) := by decide +kernel
theorem dX4_findNearest_46 : decode cX4_findNearest 46 = .ok (.goto 5, 3) := by decide +kernel
theorem dX4_findNearest_49 : decode cX4_findNearest 49 = .ok (.ldc 55, 2) := by decide +kernel
theorem dX4_findNearest_51 : decode cX4_findNearest 51 = .ok (.iastore, 1) := by decide +kernel
theorem dX4_findNearest_52 : decode cX4_findNearest 52 = .ok (.iinc 2 1, 3) := by decide +kernel
theorem dX4_findNearest_55 : decode cX4_findNearest 55 = .ok (.goto (-43), 3) := by decide +kernel
theorem dX4_findNearest_58 : decode cX4_findNearest 58 = .ok (.aload_n 0, 1) := by decide +kernel
theorem dX4_findNearest_59 : decode cX4_findNearest 59 = .ok (.getfield 23, 3) := by decide +kernel
theorem dX4_findNearest_62 : decode cX4_findNearest 62 = .ok (.iload_n 1, 1) := by decide +kernel
theorem dX4_findNearest_63 : decode cX4_findNearest 63 = .ok (.aaload, 1) := by decide +kernel
theorem dX4_findNearest_64 : decode cX4_findNearest 64 = .ok (.iload_n 1, 1) := by decide +kernel
theorem dX4_findNearest_65 : decode cX4_findNearest 65 = .ok (.iconst 0, 1) := by decide +kernel
theorem dX4_findNearest_66 : decode cX4_findNearest 66 = .ok (.iastore, 1) := by decide +kernel
theorem dX4_findNearest_67 : decode cX4_findNearest 67 = .ok (.iinc 1 1, 3) := by decide +kernel
theorem dX4_findNearest_70 : decode cX4_findNearest 70 = .ok (.goto (-68), 3) := by decide +kernel
theorem dX4_findNearest_73 : decode cX4_findNearest 73 = .ok (.iconst 0, 1) := by decide +kernel
theorem dX4_findNearest_74 : decode cX4_findNearest 74 = .ok (.istore_n 1, 1) := by decide +kernel
theorem dX4_findNearest_75 : decode cX4_findNearest 75 = .ok (.iload_n 1, 1) := by decide +kernel
theorem dX4_findNearest_76 : decode cX4_findNearest 76 = .ok (.aload_n 0, 1) := by decide +kernel
theorem dX4_findNearest_77 : decode cX4_findNearest 77 = .ok (.getfield 29, 3) := by decide +kernel
theorem dX4_findNearest_80 : decode cX4_findNearest 80 = .ok (.if_icmp .ge 44, 3) := by decide +kernel
theorem dX4_findNearest_83 : decode cX4_findNearest 83 = .ok (.iconst 0, 1) := by decide +kernel
theorem dX4_findNearest_84 : decode cX4_findNearest 84 = .ok (.istore_n 2, 1) := by decide +kernel
theorem dX4_findNearest_85 : decode cX4_findNearest 85 = .ok (.iload_n 2, 1) := by decide +kernel
theorem dX4_findNearest_86 : decode cX4_findNearest 86 = .ok (.aload_n 0, 1) := by decide +kernel
theorem dX4_findNearest_87 : decode cX4_findNearest 87 = .ok (.getfield 29, 3) := by decide +kernel
theorem dX4_findNearest_90 : decode cX4_findNearest 90 = .ok (.if_icmp .ge 28, 3) := by decide +kernel
theorem dX4_findNearest_93 : decode cX4_findNearest 93 = .ok (.aload_n 0, 1) := by decide +kernel
theorem dX4_findNearest_94 : decode cX4_findNearest 94 = .ok (.aload_n 0, 1) := by decide +kernel
theorem dX4_findNearest_95 : decode cX4_findNearest 95 = .ok (.getfield 23, 3) := by decide +kernel
theorem dX4_findNearest_98 : decode cX4_findNearest 98 = .ok (.iload_n 2, 1) := by decide +kernel
theorem dX4_findNearest_99 : decode cX4_findNearest 99 = .ok (.aaload, 1) := by decide +kernel
theorem dX4_findNearest_100 : decode cX4_findNearest 100 = .ok (.aload_n 0, 1) := by decide +kernel
theorem dX4_findNearest_101 : decode cX4_findNearest 101 = .ok (.getfield 23, 3) := by decide +kernel
theorem dX4_findNearest_104 : decode cX4_findNearest 104 = .ok (.iload_n 2, 1) := by decide +kernel
theorem dX4_findNearest_105 : decode cX4_findNearest 105 = .ok (.aaload, 1) := by decide +kernel
theorem dX4_findNearest_106 : decode cX4_findNearest 106 = .ok (.iload_n 1, 1) := by decide +kernel
theorem dX4_findNearest_107 : decode cX4_findNearest 107 = .ok (.iaload, 1) := by decide +kernel
theorem dX4_findNearest_108 : decode cX4_findNearest 108 = .ok (.iload_n 1, 1) := by decide +kernel
theorem dX4_findNearest_109 : decode cX4_findNearest 109 = .ok (.invokevirtual 97, 3) := by decide +kernel
theorem dX4_findNearest_112 : decode cX4_findNearest 112 = .ok (.iinc 2 1, 3) := by decide +kernel
theorem dX4_findNearest_115 : decode cX4_findNearest 115 = .ok (.goto (-30), 3) := by decide +kernel
theorem dX4_findNearest_118 : decode cX4_findNearest 118 = .ok (.iinc 1 1, 3) := by decide +kernel
theorem dX4_findNearest_121 : decode cX4_findNearest 121 = .ok (.goto (-46), 3) := by decide +kernel
theorem dX4_findNearest_124 : decode cX4_findNearest 124 = .ok (.return_, 1) := by decide +kernel
theorem dX4_shorten_0 : decode cX4_shorten 0 = .ok (.iconst 0, 1) := by decide +kernel
theorem dX4_shorten_1 : decode cX4_shorten 1 = .ok (.istore 4, 2) := by decide +kernel
theorem dX4_shorten_3 : decode cX4_shorten 3 = .ok (.iload 4, 2) := by decide +kernel
theorem dX4_shorten_5 : decode cX4_shorten 5 = .ok (.aload_n 0, 1) := by decide +kernel
theorem dX4_shorten_6 : decode cX4_shorten 6 = .ok (.getfield 29, 3) := by decide +kernel
theorem dX4_shorten_9 : decode cX4_shorten 9 = .ok (.if_icmp .ge 31, 3) := by decide +kernel
theorem dX4_shorten_12 : decode cX4_shorten 12 = .ok (.aload_n 1, 1) := by decide +kernel
theorem dX4_shorten_13 : decode cX4_shorten 13 = .ok (.iload 4, 2) := by decide +kernel
theorem dX4_shorten_15 : decode cX4_shorten 15 = .ok (.aload_n 1, 1) := by decide +kernel
theorem dX4_shorten_16 : decode cX4_shorten 16 = .ok (.iload 4, 2) := by decide +kernel
theorem dX4_shorten_18 : decode cX4_shorten 18 = .ok (.iaload, 1) := by decide +kernel
theorem dX4_shorten_19 : decode cX4_shorten 19 = .ok (.iload_n 2, 1) := by decide +kernel
theorem dX4_shorten_20 : decode cX4_shorten 20 = .ok (.aload_n 0, 1) := by decide +kernel
theorem dX4_shorten_21 : decode cX4_shorten 21 = .ok (.getfield 23, 3) := by decide +kernel
theorem dX4_shorten_24 : decode cX4_shorten 24 = .ok (.iload_n 3, 1) := by decide +kernel
theorem dX4_shorten_25 : decode cX4_shorten 25 = .ok (.aaload, 1) := by decide +kernel
theorem dX4_shorten_26 : decode cX4_shorten 26 = .ok (.iload 4, 2) := by decide +kernel
theorem dX4_shorten_28 : decode cX4_shorten 28 = .ok (.iaload, 1) := by decide +kernel
theorem dX4_shorten_29 : decode cX4_shorten 29 = .ok (.iadd, 1) := by decide +kernel
theorem dX4_shorten_30 : decode cX4_shorten 30 = .ok (.invokestatic 71, 3) := by decide +kernel
theorem dX4_shorten_33 : decode cX4_shorten 33 = .ok (.iastore, 1) := by decide +kernel
theorem dX4_shorten_34 : decode cX4_shorten 34 = .ok (.iinc 4 1, 3) := by decide +kernel
theorem dX4_shorten_37 : decode cX4_shorten 37 = .ok (.goto (-34), 3) := by decide +kernel
theorem dX4_shorten_40 : decode cX4_shorten 40 = .ok (.return_, 1) := by decide +kernel
theorem dX4_treeOf_0 : decode cX4_treeOf 0 = .ok (.iconst 0, 1) := by decide +kernel
theorem dX4_treeOf_1 : decode cX4_treeOf 1 = .ok (.istore_n 2, 1) := by decide +kernel
theorem dX4_treeOf_2 : decode cX4_treeOf 2 = .ok (.iload_n 1, 1) := by decide +kernel
theorem dX4_treeOf_3 : decode cX4_treeOf 3 = .ok (.iconst 1, 1) := by decide +kernel
theorem dX4_treeOf_4 : decode cX4_treeOf 4 = .ok (.aload_n 0, 1) := by decide +kernel
theorem dX4_treeOf_5 : decode cX4_treeOf 5 = .ok (.getfield 46, 3) := by decide +kernel
theorem dX4_treeOf_8 : decode cX4_treeOf 8 = .ok (.ishl, 1) := by decide +kernel
theorem dX4_treeOf_9 : decode cX4_treeOf 9 = .ok (.iconst (-1), 1) := by decide +kernel
theorem dX4_treeOf_10 : decode cX4_treeOf 10 = .ok (.ixor, 1) := by decide +kernel
theorem dX4_treeOf_11 : decode cX4_treeOf 11 = .ok (.iand, 1) := by decide +kernel
theorem dX4_treeOf_12 : decode cX4_treeOf 12 = .ok (.istore_n 3, 1) := by decide +kernel
theorem dX4_treeOf_13 : decode cX4_treeOf 13 = .ok (.iconst 0, 1) := by decide +kernel
theorem dX4_treeOf_14 : decode cX4_treeOf 14 = .ok (.istore 4, 2) := by decide +kernel
theorem dX4_treeOf_16 : decode cX4_treeOf 16 = .ok (.iload 4, 2) := by decide +kernel
theorem dX4_treeOf_18 : decode cX4_treeOf 18 = .ok (.aload_n 0, 1) := by decide +kernel
theorem dX4_treeOf_19 : decode cX4_treeOf 19 = .ok (.getfield 29, 3) := by decide +kernel
theorem dX4_treeOf_22 : decode cX4_treeOf 22 = .ok (.if_icmp .ge 28, 3) := by decide +kernel
theorem dX4_treeOf_25 : decode cX4_treeOf 25 = .ok (.aload_n 0, 1) := by decide +kernel
theorem dX4_treeOf_26 : decode cX4_treeOf 26 = .ok (.getfield 26, 3) := by decide +kernel
theorem dX4_treeOf_29 : decode cX4_treeOf 29 = .ok (.iload 4, 2) := by decide +kernel
theorem dX4_treeOf_31 : decode cX4_treeOf 31 = .ok (.aload_n 0, 1) := by decide +kernel
theorem dX4_treeOf_32 : decode cX4_treeOf 32 = .ok (.getfield 23, 3) := by decide +kernel
theorem dX4_treeOf_35 : decode cX4_treeOf 35 = .ok (.aload_n 0, 1) := by decide +kernel
theorem dX4_treeOf_36 : decode cX4_treeOf 36 = .ok (.getfield 46, 3) := by decide +kernel
theorem dX4_treeOf_39 : decode cX4_treeOf 39 = .ok (.aaload, 1) := by decide +kernel
theorem dX4_treeOf_40 : decode cX4_treeOf 40 = .ok (.iload 4, 2) := by decide +kernel
theorem dX4_treeOf_42 : decode cX4_treeOf 42 = .ok (.iaload, 1) := by decide +kernel
theorem dX4_treeOf_43 : decode cX4_treeOf 43 = .ok (.iastore, 1) := by decide +kernel
theorem dX4_treeOf_44 : decode cX4_treeOf 44 = .ok (.iinc 4 1, 3) := by decide +kernel
theorem dX4_treeOf_47 : decode cX4_treeOf 47 = .ok (.goto (-31), 3) := by decide +kernel
theorem dX4_treeOf_50 : decode cX4_treeOf 50 = .ok (.iconst 0, 1) := by decide +kernel
theorem dX4_treeOf_51 : decode cX4_treeOf 51 = .ok (.istore 4, 2) := by decide +kernel
theorem dX4_treeOf_53 : decode cX4_treeOf 53 = .ok (.iload 4, 2) := by decide +kernel
theorem dX4_treeOf_55 : decode cX4_treeOf 55 = .ok (.aload_n 0, 1) := by decide +kernel
theorem dX4_treeOf_56 : decode cX4_treeOf 56 = .ok (.getfield 29, 3) := by decide +kernel
theorem dX4_treeOf_59 : decode cX4_treeOf 59 = .ok (.if_icmp .ge 50, 3) := by decide +kernel
theorem dX4_treeOf_62 : decode cX4_treeOf 62 = .ok (.iload_n 3, 1) := by decide +kernel
theorem dX4_treeOf_63 : decode cX4_treeOf 63 = .ok (.ifCond .eq 46, 3) := by decide +kernel
theorem dX4_treeOf_66 : decode cX4_treeOf 66 = .ok (.aload_n 0, 1) := by decide +kernel
theorem dX4_treeOf_67 : decode cX4_treeOf 67 = .ok (.iload_n 3, 1) := by decide +kernel
theorem dX4_treeOf_68 : decode cX4_treeOf 68 = .ok (.invokevirtual 101, 3) := by decide +kernel
theorem dX4_treeOf_71 : decode cX4_treeOf 71 = .ok (.istore 5, 2) := by decide +kernel
theorem dX4_treeOf_73 : decode cX4_treeOf 73 = .ok (.iload_n 2, 1) := by decide +kernel
theorem dX4_treeOf_74 : decode cX4_treeOf 74 = .ok (.aload_n 0, 1) := by decide +kernel
theorem dX4_treeOf_75 : decode cX4_treeOf 75 = .ok (.getfield 26, 3) := by decide +kernel
theorem dX4_treeOf_78 : decode cX4_treeOf 78 = .ok (.iload 5, 2) := by decide +kernel
theorem dX4_treeOf_80 : decode cX4_treeOf 80 = .ok (.iaload, 1) := by decide +kernel
theorem dX4_treeOf_81 : decode cX4_treeOf 81 = .ok (.iadd, 1) := by decide +kernel
theorem dX4_treeOf_82 : decode cX4_treeOf 82 = .ok (.istore_n 2, 1) := by decide +kernel
theorem dX4_treeOf_83 : decode cX4_treeOf 83 = .ok (.iload_n 3, 1) := by decide +kernel
theorem dX4_treeOf_84 : decode cX4_treeOf 84 = .ok (.iconst 1, 1) := by decide +kernel
theorem dX4_treeOf_85 : decode cX4_treeOf 85 = .ok (.iload 5, 2) := by decide +kernel
theorem dX4_treeOf_87 : decode cX4_treeOf 87 = .ok (.ishl, 1) := by decide +kernel
theorem dX4_treeOf_88 : decode cX4_treeOf 88 = .ok (.iconst (-1), 1) := by decide +kernel
theorem dX4_treeOf_89 : decode cX4_treeOf 89 = .ok (.ixor, 1) := by decide +kernel
theorem dX4_treeOf_90 : decode cX4_treeOf 90 = .ok (.iand, 1) := by decide +kernel
theorem dX4_treeOf_91 : decode cX4_treeOf 91 = .ok (.istore_n 3, 1) := by decide +kernel
theorem dX4_treeOf_92 : decode cX4_treeOf 92 = .ok (.aload_n 0, 1) := by decide +kernel
theorem dX4_treeOf_93 : decode cX4_treeOf 93 = .ok (.aload_n 0, 1) := by decide +kernel
theorem dX4_treeOf_94 : decode cX4_treeOf 94 = .ok (.getfield 26, 3) := by decide +kernel
theorem dX4_treeOf_97 : decode cX4_treeOf 97 = .ok (.iconst 0, 1) := by decide +kernel
theorem dX4_treeOf_98 : decode cX4_treeOf 98 = .ok (.iload 5, 2) := by decide +kernel
theorem dX4_treeOf_100 : decode cX4_treeOf 100 = .ok (.invokevirtual 97, 3) := by decide +kernel
theorem dX4_treeOf_103 : decode cX4_treeOf 103 = .ok (.iinc 4 1, 3) := by decide +kernel
theorem dX4_treeOf_106 : decode cX4_treeOf 106 = .ok (.goto (-53), 3) := by decide +kernel
theorem dX4_treeOf_109 : decode cX4_treeOf 109 = .ok (.iload_n 2, 1) := by decide +kernel
theorem dX4_treeOf_110 : decode cX4_treeOf 110 = .ok (.ireturn, 1) := by decide +kernel
theorem dX4_nearestOf_0 : decode cX4_nearestOf 0 = .ok (.aload_n 0, 1) := by decide +kernel
theorem dX4_nearestOf_1 : decode cX4_nearestOf 1 = .ok (.getfield 46, 3) := by decide +kernel
theorem dX4_nearestOf_4 : decode cX4_nearestOf 4 = .ok (.istore_n 2, 1) := by decide +kernel
theorem dX4_nearestOf_5 : decode cX4_nearestOf 5 = .ok (.ldc 104, 2) := by decide +kernel
theorem dX4_nearestOf_7 : decode cX4_nearestOf 7 = .ok (.istore_n 3, 1) := by decide +kernel
theorem dX4_nearestOf_8 : decode cX4_nearestOf 8 = .ok (.iconst 0, 1) := by decide +kernel
theorem dX4_nearestOf_9 : decode cX4_nearestOf 9 = .ok (.istore 4, 2) := by decide +kernel
theorem dX4_nearestOf_11 : decode cX4_nearestOf 11 = .ok (.iload 4, 2) := by decide +kernel
theorem dX4_nearestOf_13 : decode cX4_nearestOf 13 = .ok (.aload_n 0, 1) := by decide +kernel
theorem dX4_nearestOf_14 : decode cX4_nearestOf 14 = .ok (.getfield 29, 3) := by decide +kernel
theorem dX4_nearestOf_17 : decode cX4_nearestOf 17 = .ok (.if_icmp .ge 40, 3) := by decide +kernel
theorem dX4_nearestOf_20 : decode cX4_nearestOf 20 = .ok (.iload_n 1, 1) := by decide +kernel
theorem dX4_nearestOf_21 : decode cX4_nearestOf 21 = .ok (.iload 4, 2) := by decide +kernel
theorem dX4_nearestOf_23 : decode cX4_nearestOf 23 = .ok (.invokestatic 37, 3) := by decide +kernel
theorem dX4_nearestOf_26 : decode cX4_nearestOf 26 = .ok (.ifCond .eq 25, 3) := by decide +kernel
theorem dX4_nearestOf_29 : decode cX4_nearestOf 29 = .ok (.aload_n 0, 1) := by decide +kernel
theorem dX4_nearestOf_30 : decode cX4_nearestOf 30 = .ok (.getfield 26, 3) := by decide +kernel
theorem dX4_nearestOf_33 : decode cX4_nearestOf 33 = .ok (.iload 4, 2) := by decide +kernel
theorem dX4_nearestOf_35 : decode cX4_nearestOf 35 = .ok (.iaload, 1) := by decide +kernel
theorem dX4_nearestOf_36 : decode cX4_nearestOf 36 = .ok (.iload_n 3, 1) := by decide +kernel
theorem dX4_nearestOf_37 : decode cX4_nearestOf 37 = .ok (.if_icmp .ge 14, 3) := by decide +kernel
theorem dX4_nearestOf_40 : decode cX4_nearestOf 40 = .ok (.iload 4, 2) := by decide +kernel
theorem dX4_nearestOf_42 : decode cX4_nearestOf 42 = .ok (.istore_n 2, 1) := by decide +kernel
theorem dX4_nearestOf_43 : decode cX4_nearestOf 43 = .ok (.aload_n 0, 1) := by decide +kernel
theorem dX4_nearestOf_44 : decode cX4_nearestOf 44 = .ok (.getfield 26, 3) := by decide +kernel
theorem dX4_nearestOf_47 : decode cX4_nearestOf 47 = .ok (.iload 4, 2) := by decide +kernel
theorem dX4_nearestOf_49 : decode cX4_nearestOf 49 = .ok (.iaload, 1) := by decide +kernel
theorem dX4_nearestOf_50 : decode cX4_nearestOf 50 = .ok (.istore_n 3, 1) := by decide +kernel
theorem dX4_nearestOf_51 : decode cX4_nearestOf 51 = .ok (.iinc 4 1, 3) := by decide +kernel
theorem dX4_nearestOf_54 : decode cX4_nearestOf 54 = .ok (.goto (-43), 3) := by decide +kernel
theorem dX4_nearestOf_57 : decode cX4_nearestOf 57 = .ok (.iload_n 2, 1) := by decide +kernel
theorem dX4_nearestOf_58 : decode cX4_nearestOf 58 = .ok (.ireturn, 1) := by decide +kernel
theorem dX5_init_0 : decode cX5_init 0 = .ok (.aload_n 0, 1) := by decide +kernel
theorem dX5_init_1 : decode cX5_init 1 = .ok (.invokespecial 1, 3) := by decide +kernel
theorem dX5_init_4 : decode cX5_init 4 = .ok (.aload_n 0, 1) := by decide +kernel
theorem dX5_init_5 : decode cX5_init 5 = .ok (.new 7, 3) := by decide +kernel
theorem dX5_init_8 : decode cX5_init 8 = .ok (.dup, 1) := by decide +kernel
theorem dX5_init_9 : decode cX5_init 9 = .ok (.invokespecial 9, 3) := by decide +kernel
theorem dX5_init_12 : decode cX5_init 12 = .ok (.putfield 10, 3) := by decide +kernel
theorem dX5_init_15 : decode cX5_init 15 = .ok (.aload_n 0, 1) := by decide +kernel
theorem dX5_init_16 : decode cX5_init 16 = .ok (.new 16, 3) := by decide +kernel
theorem dX5_init_19 : decode cX5_init 19 = .ok (.dup, 1) := by decide +kernel
theorem dX5_init_20 : decode cX5_init 20 = .ok (.invokespecial 18, 3) := by decide +kernel
theorem dX5_init_23 : decode cX5_init 23 = .ok (.putfield 19, 3) := by decide +kernel
theorem dX5_init_26 : decode cX5_init 26 = .ok (.aload_n 0, 1) := by decide +kernel
theorem dX5_init_27 : decode cX5_init 27 = .ok (.new 23, 3) := by decide +kernel
theorem dX5_init_30 : decode cX5_init 30 = .ok (.dup, 1) := by decide +kernel
theorem dX5_init_31 : decode cX5_init 31 = .ok (.invokespecial 25, 3) := by decide +kernel
theorem dX5_init_34 : decode cX5_init 34 = .ok (.putfield 26, 3) := by decide +kernel
theorem dX5_init_37 : decode cX5_init 37 = .ok (.aload_n 0, 1) := by decide +kernel
theorem dX5_init_38 : decode cX5_init 38 = .ok (.new 30, 3) := by decide +kernel
theorem dX5_init_41 : decode cX5_init 41 = .ok (.dup, 1) := by decide +kernel
theorem dX5_init_42 : decode cX5_init 42 = .ok (.invokespecial 32, 3) := by decide +kernel
theorem dX5_init_45 : decode cX5_init 45 = .ok (.putfield 33, 3) := by decide +kernel
theorem dX5_init_48 : decode cX5_init 48 = .ok (.aload_n 0, 1) := by decide +kernel
theorem dX5_init_49 : decode cX5_init 49 = .ok (.new 37, 3) := by decide +kernel
theorem dX5_init_52 : decode cX5_init 52 = .ok (.dup, 1) := by decide +kernel
theorem dX5_init_53 : decode cX5_init 53 = .ok (.invokespecial 39, 3) := by decide +kernel
theorem dX5_init_56 : decode cX5_init 56 = .ok (.putfield 40, 3) := by decide +kernel
theorem dX5_init_59 : decode cX5_init 59 = .ok (.aload_n 0, 1) := by decide +kernel
theorem dX5_init_60 : decode cX5_init 60 = .ok (.iconst 0, 1) := by decide +kernel
theorem dX5_init_61 : decode cX5_init 61 = .ok (.putfield 44, 3) := by decide +kernel
theorem dX5_init_64 : decode cX5_init 64 = .ok (.return_, 1) := by decide +kernel
theorem dX5_sheet_0 : decode cX5_sheet 0 = .ok (.iload_n 1, 1) := by decide +kernel
theorem dX5_sheet_1 : decode cX5_sheet 1 = .ok (.bipush 8, 2) := by decide +kernel
theorem dX5_sheet_3 : decode cX5_sheet 3 = .ok (.invokestatic 48, 3) := by decide +kernel
theorem dX5_sheet_6 : decode cX5_sheet 6 = .ok (.ifCond .eq 17, 3) := by decide +kernel
theorem dX5_sheet_9 : decode cX5_sheet 9 = .ok (.iload_n 2, 1) := by decide +kernel
theorem dX5_sheet_10 : decode cX5_sheet 10 = .ok (.iconst 3, 1) := by decide +kernel
theorem dX5_sheet_11 : decode cX5_sheet 11 = .ok (.invokestatic 48, 3) := by decide +kernel
theorem dX5_sheet_14 : decode cX5_sheet 14 = .ok (.ifCond .eq 9, 3) := by decide +kernel
theorem dX5_sheet_17 : decode cX5_sheet 17 = .ok (.iload_n 3, 1) := by decide +kernel
theorem dX5_sheet_18 : decode cX5_sheet 18 = .ok (.bipush 60, 2) := by decide +kernel
theorem dX5_sheet_20 : decode cX5_sheet 20 = .ok (.if_icmp .le 6, 3) := by decide +kernel
theorem dX5_sheet_23 : decode cX5_sheet 23 = .ok (.ldc 52, 2) := by decide +kernel
theorem dX5_sheet_25 : decode cX5_sheet 25 = .ok (.ireturn, 1) := by decide +kernel
theorem dX5_sheet_26 : decode cX5_sheet 26 = .ok (.aload_n 0, 1) := by decide +kernel
theorem dX5_sheet_27 : decode cX5_sheet 27 = .ok (.iload_n 3, 1) := by decide +kernel
theorem dX5_sheet_28 : decode cX5_sheet 28 = .ok (.ifCond .ge 7, 3) := by decide +kernel
theorem dX5_sheet_31 : decode cX5_sheet 31 = .ok (.iconst 4, 1) := by decide +kernel
theorem dX5_sheet_32 : decode cX5_sheet 32 = .ok (.goto 4, 3) := by decide +kernel
theorem dX5_sheet_35 : decode cX5_sheet 35 = .ok (.iconst 0, 1) := by decide +kernel
theorem dX5_sheet_36 : decode cX5_sheet 36 = .ok (.putfield 44, 3) := by decide +kernel
theorem dX5_sheet_39 : decode cX5_sheet 39 = .ok (.aload_n 0, 1) := by decide +kernel
theorem dX5_sheet_40 : decode cX5_sheet 40 = .ok (.getfield 44, 3) := by decide +kernel
theorem dX5_sheet_43 : decode cX5_sheet 43 = .ok (.ifCond .ne 16, 3) := by decide +kernel
theorem dX5_sheet_46 : decode cX5_sheet 46 = .ok (.aload_n 0, 1) := by decide +kernel
theorem dX5_sheet_47 : decode cX5_sheet 47 = .ok (.getfield 10, 3) := by decide +kernel
theorem dX5_sheet_50 : decode cX5_sheet 50 = .ok (.iload_n 1, 1) := by decide +kernel
theorem dX5_sheet_51 : decode cX5_sheet 51 = .ok (.iload_n 2, 1) := by decide +kernel
theorem dX5_sheet_52 : decode cX5_sheet 52 = .ok (.iload_n 3, 1) := by decide +kernel
theorem dX5_sheet_53 : decode cX5_sheet 53 = .ok (.invokevirtual 53, 3) := by decide +kernel
theorem dX5_sheet_56 : decode cX5_sheet 56 = .ok (.goto 10, 3) := by decide +kernel
theorem dX5_sheet_59 : decode cX5_sheet 59 = .ok (.ldc 57, 2) := by decide +kernel
theorem dX5_sheet_61 : decode cX5_sheet 61 = .ok (.aload_n 0, 1) := by decide +kernel
theorem dX5_sheet_62 : decode cX5_sheet 62 = .ok (.getfield 44, 3) := by decide +kernel
theorem dX5_sheet_65 : decode cX5_sheet 65 = .ok (.isub, 1) := by decide +kernel
theorem dX5_sheet_66 : decode cX5_sheet 66 = .ok (.ireturn, 1) := by decide +kernel
theorem dX5_set_0 : decode cX5_set 0 = .ok (.iload_n 1, 1) := by decide +kernel
theorem dX5_set_1 : decode cX5_set 1 = .ok (.bipush 8, 2) := by decide +kernel
theorem dX5_set_3 : decode cX5_set 3 = .ok (.invokestatic 48, 3) := by decide +kernel
theorem dX5_set_6 : decode cX5_set 6 = .ok (.ifCond .ne 6, 3) := by decide +kernel
theorem dX5_set_9 : decode cX5_set 9 = .ok (.ldc 52, 2) := by decide +kernel
theorem dX5_set_11 : decode cX5_set 11 = .ok (.ireturn, 1) := by decide +kernel
theorem dX5_set_12 : decode cX5_set 12 = .ok (.aload_n 0, 1) := by decide +kernel
theorem dX5_set_13 : decode cX5_set 13 = .ok (.aload_n 0, 1) := by decide +kernel
theorem dX5_set_14 : decode cX5_set 14 = .ok (.getfield 10, 3) := by decide +kernel
theorem dX5_set_17 : decode cX5_set 17 = .ok (.iload_n 1, 1) := by decide +kernel
theorem dX5_set_18 : decode cX5_set 18 = .ok (.iload_n 2, 1) := by decide +kernel
theorem dX5_set_19 : decode cX5_set 19 = .ok (.iconst 1, 1) := by decide +kernel
theorem dX5_set_20 : decode cX5_set 20 = .ok (.invokevirtual 58, 3) := by decide +kernel
theorem dX5_set_23 : decode cX5_set 23 = .ok (.putfield 44, 3) := by decide +kernel
theorem dX5_set_26 : decode cX5_set 26 = .ok (.aload_n 0, 1) := by decide +kernel
theorem dX5_set_27 : decode cX5_set 27 = .ok (.getfield 44, 3) := by decide +kernel
theorem dX5_set_30 : decode cX5_set 30 = .ok (.ifCond .ne 16, 3) := by decide +kernel
theorem dX5_set_33 : decode cX5_set 33 = .ok (.aload_n 0, 1) := by decide +kernel
theorem dX5_set_34 : decode cX5_set 34 = .ok (.getfield 10, 3) := by decide +kernel
theorem dX5_set_37 : decode cX5_set 37 = .ok (.iload_n 1, 1) := by decide +kernel
theorem dX5_set_38 : decode cX5_set 38 = .ok (.iload_n 2, 1) := by decide +kernel
theorem dX5_set_39 : decode cX5_set 39 = .ok (.iload_n 3, 1) := by decide +kernel
theorem dX5_set_40 : decode cX5_set 40 = .ok (.invokevirtual 61, 3) := by decide +kernel
theorem dX5_set_43 : decode cX5_set 43 = .ok (.goto 10, 3) := by decide +kernel
theorem dX5_set_46 : decode cX5_set 46 = .ok (.ldc 57, 2) := by decide +kernel
theorem dX5_set_48 : decode cX5_set 48 = .ok (.aload_n 0, 1) := by decide +kernel
theorem dX5_set_49 : decode cX5_set 49 = .ok (.getfield 44, 3) := by decide +kernel
theorem dX5_set_52 : decode cX5_set 52 = .ok (.isub, 1) := by decide +kernel
theorem dX5_set_53 : decode cX5_set 53 = .ok (.ireturn, 1) := by decide +kernel
theorem dX5_copy_0 : decode cX5_copy 0 = .ok (.iload_n 1, 1) := by decide +kernel
theorem dX5_copy_1 : decode cX5_copy 1 = .ok (.bipush 8, 2) := by decide +kernel
theorem dX5_copy_3 : decode cX5_copy 3 = .ok (.invokestatic 48, 3) := by decide +kernel
theorem dX5_copy_6 : decode cX5_copy 6 = .ok (.ifCond .eq 12, 3) := by decide +kernel
theorem dX5_copy_9 : decode cX5_copy 9 = .ok (.iload_n 3, 1) := by decide +kernel
theorem dX5_copy_10 : decode cX5_copy 10 = .ok (.bipush 8, 2) := by decide +kernel
theorem dX5_copy_12 : decode cX5_copy 12 = .ok (.invokestatic 48, 3) := by decide +kernel
theorem dX5_copy_15 : decode cX5_copy 15 = .ok (.ifCond .ne 6, 3) := by decide +kernel
theorem dX5_copy_18 : decode cX5_copy 18 = .ok (.ldc 52, 2) := by decide +kernel
theorem dX5_copy_20 : decode cX5_copy 20 = .ok (.ireturn, 1) := by decide +kernel
theorem dX5_copy_21 : decode cX5_copy 21 = .ok (.aload_n 0, 1) := by decide +kernel
theorem dX5_copy_22 : decode cX5_copy 22 = .ok (.aload_n 0, 1) := by decide +kernel
theorem dX5_copy_23 : decode cX5_copy 23 = .ok (.getfield 10, 3) := by decide +kernel
theorem dX5_copy_26 : decode cX5_copy 26 = .ok (.iload_n 1, 1) := by decide +kernel
theorem dX5_copy_27 : decode cX5_copy 27 = .ok (.iload_n 2, 1) := by decide +kernel
theorem dX5_copy_28 : decode cX5_copy 28 = .ok (.iload_n 3, 1) := by decide +kernel
theorem dX5_copy_29 : decode cX5_copy 29 = .ok (.iload 4, 2) := by decide +kernel
theorem dX5_copy_31 : decode cX5_copy 31 = .ok (.iload 5, 2) := by decide +kernel
theorem dX5_copy_33 : decode cX5_copy 33 = .ok (.invokevirtual 64, 3) := by decide +kernel
theorem dX5_copy_36 : decode cX5_copy 36 = .ok (.putfield 44, 3) := by decide +kernel
theorem dX5_copy_39 : decode cX5_copy 39 = .ok (.aload_n 0, 1) := by decide +kernel
theorem dX5_copy_40 : decode cX5_copy 40 = .ok (.getfield 44, 3) := by decide +kernel
theorem dX5_copy_43 : decode cX5_copy 43 = .ok (.ifCond .ne 20, 3) := by decide +kernel
theorem dX5_copy_46 : decode cX5_copy 46 = .ok (.aload_n 0, 1) := by decide +kernel
theorem dX5_copy_47 : decode cX5_copy 47 = .ok (.getfield 10, 3) := by decide +kernel
theorem dX5_copy_50 : decode cX5_copy 50 = .ok (.iload_n 1, 1) := by decide +kernel
theorem dX5_copy_51 : decode cX5_copy 51 = .ok (.iload_n 2, 1) := by decide +kernel
theorem dX5_copy_52 : decode cX5_copy 52 = .ok (.iload_n 3, 1) := by decide +kernel
theorem dX5_copy_53 : decode cX5_copy 53 = .ok (.iload 4, 2) := by decide +kernel
theorem dX5_copy_55 : decode cX5_copy 55 = .ok (.iload 5, 2) := by decide +kernel
theorem dX5_copy_57 : decode cX5_copy 57 = .ok (.invokevirtual 68, 3) := by decide +kernel
theorem dX5_copy_60 : decode cX5_copy 60 = .ok (.goto 10, 3) := by decide +kernel
theorem dX5_copy_63 : decode cX5_copy 63 = .ok (.ldc 57, 2) := by decide +kernel
theorem dX5_copy_65 : decode cX5_copy 65 = .ok (.aload_n 0, 1) := by decide +kernel
theorem dX5_copy_66 : decode cX5_copy 66 = .ok (.getfield 44, 3) := by decide +kernel
theorem dX5_copy_69 : decode cX5_copy 69 = .ok (.isub, 1) := by decide +kernel
theorem dX5_copy_70 : decode cX5_copy 70 = .ok (.ireturn, 1) := by decide +kernel
theorem dX5_drop_0 : decode cX5_drop 0 = .ok (.iload_n 1, 1) := by decide +kernel
theorem dX5_drop_1 : decode cX5_drop 1 = .ok (.bipush 8, 2) := by decide +kernel
theorem dX5_drop_3 : decode cX5_drop 3 = .ok (.invokestatic 48, 3) := by decide +kernel
theorem dX5_drop_6 : decode cX5_drop 6 = .ok (.ifCond .ne 6, 3) := by decide +kernel
theorem dX5_drop_9 : decode cX5_drop 9 = .ok (.ldc 52, 2) := by decide +kernel
theorem dX5_drop_11 : decode cX5_drop 11 = .ok (.ireturn, 1) := by decide +kernel
theorem dX5_drop_12 : decode cX5_drop 12 = .ok (.aload_n 0, 1) := by decide +kernel
theorem dX5_drop_13 : decode cX5_drop 13 = .ok (.aload_n 0, 1) := by decide +kernel
theorem dX5_drop_14 : decode cX5_drop 14 = .ok (.getfield 10, 3) := by decide +kernel
theorem dX5_drop_17 : decode cX5_drop 17 = .ok (.iload_n 1, 1) := by decide +kernel
theorem dX5_drop_18 : decode cX5_drop 18 = .ok (.invokevirtual 71, 3) := by decide +kernel
theorem dX5_drop_21 : decode cX5_drop 21 = .ok (.ifCond .eq 7, 3) := by decide +kernel
theorem dX5_drop_24 : decode cX5_drop 24 = .ok (.iconst 1, 1) := by decide +kernel
theorem dX5_drop_25 : decode cX5_drop 25 = .ok (.goto 4, 3) := by decide +kernel
theorem dX5_drop_28 : decode cX5_drop 28 = .ok (.iconst 0, 1) := by decide +kernel
theorem dX5_drop_29 : decode cX5_drop 29 = .ok (.putfield 44, 3) := by decide +kernel
theorem dX5_drop_32 : decode cX5_drop 32 = .ok (.aload_n 0, 1) := by decide +kernel
theorem dX5_drop_33 : decode cX5_drop 33 = .ok (.getfield 44, 3) := by decide +kernel
theorem dX5_drop_36 : decode cX5_drop 36 = .ok (.ifCond .ne 14, 3) := by decide +kernel
theorem dX5_drop_39 : decode cX5_drop 39 = .ok (.aload_n 0, 1) := by decide +kernel
theorem dX5_drop_40 : decode cX5_drop 40 = .ok (.getfield 10, 3) := by decide +kernel
theorem dX5_drop_43 : decode cX5_drop 43 = .ok (.iload_n 1, 1) := by decide +kernel
theorem dX5_drop_44 : decode cX5_drop 44 = .ok (.invokevirtual 75, 3) := by decide +kernel
theorem dX5_drop_47 : decode cX5_drop 47 = .ok (.goto 10, 3) := by decide +kernel
theorem dX5_drop_50 : decode cX5_drop 50 = .ok (.ldc 57, 2) := by decide +kernel
theorem dX5_drop_52 : decode cX5_drop 52 = .ok (.aload_n 0, 1) := by decide +kernel
theorem dX5_drop_53 : decode cX5_drop 53 = .ok (.getfield 44, 3) := by decide +kernel
theorem dX5_drop_56 : decode cX5_drop 56 = .ok (.isub, 1) := by decide +kernel
theorem dX5_drop_57 : decode cX5_drop 57 = .ok (.ireturn, 1) := by decide +kernel
theorem dX5_offer_0 : decode cX5_offer 0 = .ok (.iload_n 1, 1) := by decide +kernel
theorem dX5_offer_1 : decode cX5_offer 1 = .ok (.iconst 1, 1) := by decide +kernel
theorem dX5_offer_2 : decode cX5_offer 2 = .ok (.sipush 1000, 3) := by decide +kernel
theorem dX5_offer_5 : decode cX5_offer 5 = .ok (.invokestatic 79, 3) := by decide +kernel
theorem dX5_offer_8 : decode cX5_offer 8 = .ok (.ifCond .eq 14, 3) := by decide +kernel
theorem dX5_offer_11 : decode cX5_offer 11 = .ok (.iload_n 2, 1) := by decide +kernel
theorem dX5_offer_12 : decode cX5_offer 12 = .ok (.iconst 1, 1) := by decide +kernel
theorem dX5_offer_13 : decode cX5_offer 13 = .ok (.sipush 4095, 3) := by decide +kernel
theorem dX5_offer_16 : decode cX5_offer 16 = .ok (.invokestatic 79, 3) := by decide +kernel
theorem dX5_offer_19 : decode cX5_offer 19 = .ok (.ifCond .ne 6, 3) := by decide +kernel
theorem dX5_offer_22 : decode cX5_offer 22 = .ok (.ldc 52, 2) := by decide +kernel
theorem dX5_offer_24 : decode cX5_offer 24 = .ok (.ireturn, 1) := by decide +kernel
theorem dX5_offer_25 : decode cX5_offer 25 = .ok (.aload_n 0, 1) := by decide +kernel
theorem dX5_offer_26 : decode cX5_offer 26 = .ok (.getfield 19, 3) := by decide +kernel
theorem dX5_offer_29 : decode cX5_offer 29 = .ok (.getfield 83, 3) := by decide +kernel
theorem dX5_offer_32 : decode cX5_offer 32 = .ok (.ifCond .eq 6, 3) := by decide +kernel
theorem dX5_offer_35 : decode cX5_offer 35 = .ok (.ldc 86, 2) := by decide +kernel
theorem dX5_offer_37 : decode cX5_offer 37 = .ok (.ireturn, 1) := by decide +kernel
theorem dX5_offer_38 : decode cX5_offer 38 = .ok (.aload_n 0, 1) := by decide +kernel
theorem dX5_offer_39 : decode cX5_offer 39 = .ok (.getfield 19, 3) := by decide +kernel
theorem dX5_offer_42 : decode cX5_offer 42 = .ok (.getfield 87, 3) := by decide +kernel
theorem dX5_offer_45 : decode cX5_offer 45 = .ok (.bipush 10, 2) := by decide +kernel
theorem dX5_offer_47 : decode cX5_offer 47 = .ok (.if_icmp .ge 15, 3) := by decide +kernel
theorem dX5_offer_50 : decode cX5_offer 50 = .ok (.aload_n 0, 1) := by decide +kernel
theorem dX5_offer_51 : decode cX5_offer 51 = .ok (.getfield 19, 3) := by decide +kernel
theorem dX5_offer_54 : decode cX5_offer 54 = .ok (.iload_n 1, 1) := by decide +kernel
theorem dX5_offer_55 : decode cX5_offer 55 = .ok (.iload_n 2, 1) := by decide +kernel
theorem dX5_offer_56 : decode cX5_offer 56 = .ok (.invokevirtual 90, 3) := by decide +kernel
theorem dX5_offer_59 : decode cX5_offer 59 = .ok (.goto 5, 3) := by decide +kernel
theorem dX5_offer_62 : decode cX5_offer 62 = .ok (.ldc 94, 2) := by decide +kernel
theorem dX5_offer_64 : decode cX5_offer 64 = .ok (.ireturn, 1) := by decide +kernel
theorem dX5_demand_0 : decode cX5_demand 0 = .ok (.iload_n 1, 1) := by decide +kernel
theorem dX5_demand_1 : decode cX5_demand 1 = .ok (.bipush 12, 2) := by decide +kernel
theorem dX5_demand_3 : decode cX5_demand 3 = .ok (.invokestatic 48, 3) := by decide +kernel
theorem dX5_demand_6 : decode cX5_demand 6 = .ok (.ifCond .ne 6, 3) := by decide +kernel
theorem dX5_demand_9 : decode cX5_demand 9 = .ok (.ldc 52, 2) := by decide +kernel
theorem dX5_demand_11 : decode cX5_demand 11 = .ok (.ireturn, 1) := by decide +kernel
theorem dX5_demand_12 : decode cX5_demand 12 = .ok (.aload_n 0, 1) := by decide +kernel
theorem dX5_demand_13 : decode cX5_demand 13 = .ok (.getfield 19, 3) := by decide +kernel
theorem dX5_demand_16 : decode cX5_demand 16 = .ok (.iload_n 1, 1) := by decide +kernel
theorem dX5_demand_17 : decode cX5_demand 17 = .ok (.invokevirtual 95, 3) := by decide +kernel
theorem dX5_demand_20 : decode cX5_demand 20 = .ok (.ifCond .eq 14, 3) := by decide +kernel
theorem dX5_demand_23 : decode cX5_demand 23 = .ok (.aload_n 0, 1) := by decide +kernel
theorem dX5_demand_24 : decode cX5_demand 24 = .ok (.getfield 19, 3) := by decide +kernel
theorem dX5_demand_27 : decode cX5_demand 27 = .ok (.iload_n 1, 1) := by decide +kernel
theorem dX5_demand_28 : decode cX5_demand 28 = .ok (.invokevirtual 98, 3) := by decide +kernel
theorem dX5_demand_31 : decode cX5_demand 31 = .ok (.goto 5, 3) := by decide +kernel
theorem dX5_demand_34 : decode cX5_demand 34 = .ok (.ldc 86, 2) := by decide +kernel
theorem dX5_demand_36 : decode cX5_demand 36 = .ok (.ireturn, 1) := by decide +kernel
theorem dX5_demands_0 : decode cX5_demands 0 = .ok (.iload_n 1, 1) := by decide +kernel
theorem dX5_demands_1 : decode cX5_demands 1 = .ok (.bipush 8, 2) := by decide +kernel
theorem dX5_demands_3 : decode cX5_demands 3 = .ok (.invokestatic 48, 3) := by decide +kernel
theorem dX5_demands_6 : decode cX5_demands 6 = .ok (.ifCond .eq 13, 3) := by decide +kernel
theorem dX5_demands_9 : decode cX5_demands 9 = .ok (.iload_n 3, 1) := by decide +kernel
theorem dX5_demands_10 : decode cX5_demands 10 = .ok (.iconst 1, 1) := by decide +kernel
theorem dX5_demands_11 : decode cX5_demands 11 = .ok (.bipush 60, 2) := by decide +kernel
theorem dX5_demands_13 : decode cX5_demands 13 = .ok (.invokestatic 79, 3) := by decide +kernel
theorem dX5_demands_16 : decode cX5_demands 16 = .ok (.ifCond .ne 6, 3) := by decide +kernel
theorem dX5_demands_19 : decode cX5_demands 19 = .ok (.ldc 52, 2) := by decide +kernel
theorem dX5_demands_21 : decode cX5_demands 21 = .ok (.ireturn, 1) := by decide +kernel
theorem dX5_demands_22 : decode cX5_demands 22 = .ok (.aload_n 0, 1) := by decide +kernel
theorem dX5_demands_23 : decode cX5_demands 23 = .ok (.aload_n 0, 1) := by decide +kernel
theorem dX5_demands_24 : decode cX5_demands 24 = .ok (.getfield 10, 3) := by decide +kernel
theorem dX5_demands_27 : decode cX5_demands 27 = .ok (.iload_n 1, 1) := by decide +kernel
theorem dX5_demands_28 : decode cX5_demands 28 = .ok (.iload_n 2, 1) := by decide +kernel
theorem dX5_demands_29 : decode cX5_demands 29 = .ok (.iload_n 3, 1) := by decide +kernel
theorem dX5_demands_30 : decode cX5_demands 30 = .ok (.invokevirtual 58, 3) := by decide +kernel
theorem dX5_demands_33 : decode cX5_demands 33 = .ok (.putfield 44, 3) := by decide +kernel
theorem dX5_demands_36 : decode cX5_demands 36 = .ok (.aload_n 0, 1) := by decide +kernel
theorem dX5_demands_37 : decode cX5_demands 37 = .ok (.getfield 44, 3) := by decide +kernel
theorem dX5_demands_40 : decode cX5_demands 40 = .ok (.ifCond .ne 13, 3) := by decide +kernel
theorem dX5_demands_43 : decode cX5_demands 43 = .ok (.aload_n 0, 1) := by decide +kernel
theorem dX5_demands_44 : decode cX5_demands 44 = .ok (.iload_n 1, 1) := by decide +kernel
theorem dX5_demands_45 : decode cX5_demands 45 = .ok (.iload_n 2, 1) := by decide +kernel
theorem dX5_demands_46 : decode cX5_demands 46 = .ok (.iload_n 3, 1) := by decide +kernel
theorem dX5_demands_47 : decode cX5_demands 47 = .ok (.invokevirtual 101, 3) := by decide +kernel
theorem dX5_demands_50 : decode cX5_demands 50 = .ok (.goto 10, 3) := by decide +kernel
theorem dX5_demands_53 : decode cX5_demands 53 = .ok (.ldc 57, 2) := by decide +kernel
theorem dX5_demands_55 : decode cX5_demands 55 = .ok (.aload_n 0, 1) := by decide +kernel
theorem dX5_demands_56 : decode cX5_demands 56 = .ok (.getfield 44, 3) := by decide +kernel
theorem dX5_demands_59 : decode cX5_demands 59 = .ok (.isub, 1) := by decide +kernel
theorem dX5_demands_60 : decode cX5_demands 60 = .ok (.ireturn, 1) := by decide +kernel
theorem dX5_meetItems_0 : decode cX5_meetItems 0 = .ok (.iconst 0, 1) := by decide +kernel
theorem dX5_meetItems_1 : decode cX5_meetItems 1 = .ok (.istore 4, 2) := by decide +kernel
theorem dX5_meetItems_3 : decode cX5_meetItems 3 = .ok (.iload_n 2, 1) := by decide +kernel
theorem dX5_meetItems_4 : decode cX5_meetItems 4 = .ok (.istore 5, 2) := by decide +kernel
theorem dX5_meetItems_6 : decode cX5_meetItems 6 = .ok (.iload 5, 2) := by decide +kernel
theorem dX5_meetItems_8 : decode cX5_meetItems 8 = .ok (.iload_n 2, 1) := by decide +kernel
theorem dX5_meetItems_9 : decode cX5_meetItems 9 = .ok (.iload_n 3, 1) := by decide +kernel
theorem dX5_meetItems_10 : decode cX5_meetItems 10 = .ok (.iadd, 1) := by decide +kernel
theorem dX5_meetItems_11 : decode cX5_meetItems 11 = .ok (.if_icmp .ge 57, 3) := by decide +kernel
theorem dX5_meetItems_14 : decode cX5_meetItems 14 = .ok (.aload_n 0, 1) := by decide +kernel
theorem dX5_meetItems_15 : decode cX5_meetItems 15 = .ok (.getfield 10, 3) := by decide +kernel
theorem dX5_meetItems_18 : decode cX5_meetItems 18 = .ok (.iload_n 1, 1) := by decide +kernel
theorem dX5_meetItems_19 : decode cX5_meetItems 19 = .ok (.iload 5, 2) := by decide +kernel
theorem dX5_meetItems_21 : decode cX5_meetItems 21 = .ok (.invokevirtual 104, 3) := by decide +kernel
theorem dX5_meetItems_24 : decode cX5_meetItems 24 = .ok (.istore 6, 2) := by decide +kernel
theorem dX5_meetItems_26 : decode cX5_meetItems 26 = .ok (.iload 6, 2) := by decide +kernel
theorem dX5_meetItems_28 : decode cX5_meetItems 28 = .ok (.bipush 12, 2) := by decide +kernel
theorem dX5_meetItems_30 : decode cX5_meetItems 30 = .ok (.invokestatic 48, 3) := by decide +kernel
theorem dX5_meetItems_33 : decode cX5_meetItems 33 = .ok (.ifCond .eq 29, 3) := by decide +kernel
theorem dX5_meetItems_36 : decode cX5_meetItems 36 = .ok (.aload_n 0, 1) := by decide +kernel
theorem dX5_meetItems_37 : decode cX5_meetItems 37 = .ok (.getfield 19, 3) := by decide +kernel
theorem dX5_meetItems_40 : decode cX5_meetItems 40 = .ok (.iload 6, 2) := by decide +kernel
theorem dX5_meetItems_42 : decode cX5_meetItems 42 = .ok (.invokevirtual 95, 3) := by decide +kernel
theorem dX5_meetItems_45 : decode cX5_meetItems 45 = .ok (.ifCond .eq 17, 3) := by decide +kernel
theorem dX5_meetItems_48 : decode cX5_meetItems 48 = .ok (.iload 4, 2) := by decide +kernel
theorem dX5_meetItems_50 : decode cX5_meetItems 50 = .ok (.aload_n 0, 1) := by decide +kernel
theorem dX5_meetItems_51 : decode cX5_meetItems 51 = .ok (.getfield 19, 3) := by decide +kernel
theorem dX5_meetItems_54 : decode cX5_meetItems 54 = .ok (.iload 6, 2) := by decide +kernel
theorem dX5_meetItems_56 : decode cX5_meetItems 56 = .ok (.invokevirtual 98, 3) := by decide +kernel
theorem dX5_meetItems_59 : decode cX5_meetItems 59 = .ok (.iadd, 1) := by decide +kernel
theorem dX5_meetItems_60 : decode cX5_meetItems 60 = .ok (.istore 4, 2) := by decide +kernel
theorem dX5_meetItems_62 : decode cX5_meetItems 62 = .ok (.iinc 5 1, 3) := by decide +kernel
theorem dX5_meetItems_65 : decode cX5_meetItems 65 = .ok (.goto (-59), 3) := by decide +kernel
theorem dX5_meetItems_68 : decode cX5_meetItems 68 = .ok (.iload 4, 2) := by decide +kernel
theorem dX5_meetItems_70 : decode cX5_meetItems 70 = .ok (.ireturn, 1) := by decide +kernel
theorem dX5_covers_0 : decode cX5_covers 0 = .ok (.iload_n 1, 1) := by decide +kernel
theorem dX5_covers_1 : decode cX5_covers 1 = .ok (.tableswitch 87 0 5 #[39, 47, 55, 63, 71, 79], 39) := by decide +kernel
theorem dX5_covers_40 : decode cX5_covers 40 = .ok (.aload_n 0, 1) := by decide +kernel
theorem dX5_covers_41 : decode cX5_covers 41 = .ok (.getfield 19, 3) := by decide +kernel
theorem dX5_covers_44 : decode cX5_covers 44 = .ok (.getfield 107, 3) := by decide +kernel
theorem dX5_covers_47 : decode cX5_covers 47 = .ok (.ireturn, 1) := by decide +kernel
theorem dX5_covers_48 : decode cX5_covers 48 = .ok (.aload_n 0, 1) := by decide +kernel
theorem dX5_covers_49 : decode cX5_covers 49 = .ok (.getfield 19, 3) := by decide +kernel
theorem dX5_covers_52 : decode cX5_covers 52 = .ok (.invokevirtual 110, 3) := by decide +kernel
theorem dX5_covers_55 : decode cX5_covers 55 = .ok (.ireturn, 1) := by decide +kernel
theorem dX5_covers_56 : decode cX5_covers 56 = .ok (.aload_n 0, 1) := by decide +kernel
theorem dX5_covers_57 : decode cX5_covers 57 = .ok (.getfield 19, 3) := by decide +kernel
theorem dX5_covers_60 : decode cX5_covers 60 = .ok (.invokevirtual 114, 3) := by decide +kernel
theorem dX5_covers_63 : decode cX5_covers 63 = .ok (.ireturn, 1) := by decide +kernel
theorem dX5_covers_64 : decode cX5_covers 64 = .ok (.aload_n 0, 1) := by decide +kernel
theorem dX5_covers_65 : decode cX5_covers 65 = .ok (.getfield 19, 3) := by decide +kernel
theorem dX5_covers_68 : decode cX5_covers 68 = .ok (.invokevirtual 117, 3) := by decide +kernel
theorem dX5_covers_71 : decode cX5_covers 71 = .ok (.ireturn, 1) := by decide +kernel
theorem dX5_covers_72 : decode cX5_covers 72 = .ok (.aload_n 0, 1) := by decide +kernel
theorem dX5_covers_73 : decode cX5_covers 73 = .ok (.getfield 19, 3) := by decide +kernel
theorem dX5_covers_76 : decode cX5_covers 76 = .ok (.getfield 83, 3) := by decide +kernel
theorem dX5_covers_79 : decode cX5_covers 79 = .ok (.ireturn, 1) := by decide +kernel
theorem dX5_covers_80 : decode cX5_covers 80 = .ok (.aload_n 0, 1) := by decide +kernel
theorem dX5_covers_81 : decode cX5_covers 81 = .ok (.getfield 19, 3) := by decide +kernel
theorem dX5_covers_84 : decode cX5_covers 84 = .ok (.getfield 120, 3) := by decide +kernel
theorem dX5_covers_87 : decode cX5_covers 87 = .ok (.ireturn, 1) := by decide +kernel
theorem dX5_covers_88 : decode cX5_covers 88 = .ok (.ldc 52, 2) := by decide +kernel
theorem dX5_covers_90 : decode cX5_covers 90 = .ok (.ireturn, 1) := by decide +kernel
theorem dX5_told_0 : decode cX5_told 0 = .ok (.aload_n 0, 1) := by decide +kernel
theorem dX5_told_1 : decode cX5_told 1 = .ok (.getfield 19, 3) := by decide +kernel
theorem dX5_told_4 : decode cX5_told 4 = .ok (.iload_n 1, 1) := by decide +kernel
theorem dX5_told_5 : decode cX5_told 5 = .ok (.invokevirtual 123, 3) := by decide +kernel
theorem dX5_told_8 : decode cX5_told 8 = .ok (.ifCond .ne 6, 3) := by decide +kernel
theorem dX5_told_11 : decode cX5_told 11 = .ok (.ldc 52, 2) := by decide +kernel
theorem dX5_told_13 : decode cX5_told 13 = .ok (.ireturn, 1) := by decide +kernel
theorem dX5_told_14 : decode cX5_told 14 = .ok (.iload_n 2, 1) := by decide +kernel
theorem dX5_told_15 : decode cX5_told 15 = .ok (.tableswitch 75 0 3 #[29, 39, 49, 58], 29) := by decide +kernel
theorem dX5_told_44 : decode cX5_told 44 = .ok (.aload_n 0, 1) := by decide +kernel
theorem dX5_told_45 : decode cX5_told 45 = .ok (.getfield 19, 3) := by decide +kernel
theorem dX5_told_48 : decode cX5_told 48 = .ok (.getfield 126, 3) := by decide +kernel
theorem dX5_told_51 : decode cX5_told 51 = .ok (.iload_n 1, 1) := by decide +kernel
theorem dX5_told_52 : decode cX5_told 52 = .ok (.iaload, 1) := by decide +kernel
theorem dX5_told_53 : decode cX5_told 53 = .ok (.ireturn, 1) := by decide +kernel
theorem dX5_told_54 : decode cX5_told 54 = .ok (.aload_n 0, 1) := by decide +kernel
theorem dX5_told_55 : decode cX5_told 55 = .ok (.getfield 19, 3) := by decide +kernel
theorem dX5_told_58 : decode cX5_told 58 = .ok (.getfield 130, 3) := by decide +kernel
theorem dX5_told_61 : decode cX5_told 61 = .ok (.iload_n 1, 1) := by decide +kernel
theorem dX5_told_62 : decode cX5_told 62 = .ok (.iaload, 1) := by decide +kernel
theorem dX5_told_63 : decode cX5_told 63 = .ok (.ireturn, 1) := by decide +kernel
theorem dX5_told_64 : decode cX5_told 64 = .ok (.aload_n 0, 1) := by decide +kernel
theorem dX5_told_65 : decode cX5_told 65 = .ok (.getfield 19, 3) := by decide +kernel
theorem dX5_told_68 : decode cX5_told 68 = .ok (.iload_n 1, 1) := by decide +kernel
theorem dX5_told_69 : decode cX5_told 69 = .ok (.invokevirtual 133, 3) := by decide +kernel
theorem dX5_told_72 : decode cX5_told 72 = .ok (.ireturn, 1) := by decide +kernel
theorem dX5_told_73 : decode cX5_told 73 = .ok (.aload_n 0, 1) := by decide +kernel
theorem dX5_told_74 : decode cX5_told 74 = .ok (.getfield 19, 3) := by decide +kernel
theorem dX5_told_77 : decode cX5_told 77 = .ok (.iload_n 1, 1) := by decide +kernel
theorem dX5_told_78 : decode cX5_told 78 = .ok (.invokevirtual 136, 3) := by decide +kernel
theorem dX5_told_81 : decode cX5_told 81 = .ok (.ifCond .eq 7, 3) := by decide +kernel
theorem dX5_told_84 : decode cX5_told 84 = .ok (.iconst 1, 1) := by decide +kernel
theorem dX5_told_85 : decode cX5_told 85 = .ok (.goto 4, 3) := by decide +kernel
theorem dX5_told_88 : decode cX5_told 88 = .ok (.iconst 0, 1) := by decide +kernel
theorem dX5_told_89 : decode cX5_told 89 = .ok (.ireturn, 1) := by decide +kernel
theorem dX5_told_90 : decode cX5_told 90 = .ok (.ldc 52, 2) := by decide +kernel
theorem dX5_told_92 : decode cX5_told 92 = .ok (.ireturn, 1) := by decide +kernel
theorem dX5_price_0 : decode cX5_price 0 = .ok (.iload_n 1, 1) := by decide +kernel
theorem dX5_price_1 : decode cX5_price 1 = .ok (.bipush 12, 2) := by decide +kernel
theorem dX5_price_3 : decode cX5_price 3 = .ok (.invokestatic 48, 3) := by decide +kernel
theorem dX5_price_6 : decode cX5_price 6 = .ok (.ifCond .eq 15, 3) := by decide +kernel
theorem dX5_price_9 : decode cX5_price 9 = .ok (.aload_n 0, 1) := by decide +kernel
theorem dX5_price_10 : decode cX5_price 10 = .ok (.getfield 19, 3) := by decide +kernel
theorem dX5_price_13 : decode cX5_price 13 = .ok (.getfield 139, 3) := by decide +kernel
theorem dX5_price_16 : decode cX5_price 16 = .ok (.iload_n 1, 1) := by decide +kernel
theorem dX5_price_17 : decode cX5_price 17 = .ok (.iaload, 1) := by decide +kernel
theorem dX5_price_18 : decode cX5_price 18 = .ok (.goto 5, 3) := by decide +kernel
theorem dX5_price_21 : decode cX5_price 21 = .ok (.ldc 52, 2) := by decide +kernel
theorem dX5_price_23 : decode cX5_price 23 = .ok (.ireturn, 1) := by decide +kernel
theorem dX5_lease_0 : decode cX5_lease 0 = .ok (.iload_n 1, 1) := by decide +kernel
theorem dX5_lease_1 : decode cX5_lease 1 = .ok (.iconst 1, 1) := by decide +kernel
theorem dX5_lease_2 : decode cX5_lease 2 = .ok (.bipush 64, 2) := by decide +kernel
theorem dX5_lease_4 : decode cX5_lease 4 = .ok (.invokestatic 79, 3) := by decide +kernel
theorem dX5_lease_7 : decode cX5_lease 7 = .ok (.ifCond .eq 14, 3) := by decide +kernel
theorem dX5_lease_10 : decode cX5_lease 10 = .ok (.iload_n 2, 1) := by decide +kernel
theorem dX5_lease_11 : decode cX5_lease 11 = .ok (.iconst 1, 1) := by decide +kernel
theorem dX5_lease_12 : decode cX5_lease 12 = .ok (.sipush 1000, 3) := by decide +kernel
theorem dX5_lease_15 : decode cX5_lease 15 = .ok (.invokestatic 79, 3) := by decide +kernel
theorem dX5_lease_18 : decode cX5_lease 18 = .ok (.ifCond .ne 6, 3) := by decide +kernel
theorem dX5_lease_21 : decode cX5_lease 21 = .ok (.ldc 52, 2) := by decide +kernel
theorem dX5_lease_23 : decode cX5_lease 23 = .ok (.ireturn, 1) := by decide +kernel
theorem dX5_lease_24 : decode cX5_lease 24 = .ok (.aload_n 0, 1) := by decide +kernel
theorem dX5_lease_25 : decode cX5_lease 25 = .ok (.getfield 26, 3) := by decide +kernel
theorem dX5_lease_28 : decode cX5_lease 28 = .ok (.getfield 142, 3) := by decide +kernel
theorem dX5_lease_31 : decode cX5_lease 31 = .ok (.ifCond .gt 14, 3) := by decide +kernel
theorem dX5_lease_34 : decode cX5_lease 34 = .ok (.aload_n 0, 1) := by decide +kernel
theorem dX5_lease_35 : decode cX5_lease 35 = .ok (.getfield 26, 3) := by decide +kernel
theorem dX5_lease_38 : decode cX5_lease 38 = .ok (.iload_n 1, 1) := by decide +kernel
theorem dX5_lease_39 : decode cX5_lease 39 = .ok (.invokevirtual 145, 3) := by decide +kernel
theorem dX5_lease_42 : decode cX5_lease 42 = .ok (.ifCond .ne 6, 3) := by decide +kernel
theorem dX5_lease_45 : decode cX5_lease 45 = .ok (.ldc 86, 2) := by decide +kernel
theorem dX5_lease_47 : decode cX5_lease 47 = .ok (.ireturn, 1) := by decide +kernel
theorem dX5_lease_48 : decode cX5_lease 48 = .ok (.aload_n 0, 1) := by decide +kernel
theorem dX5_lease_49 : decode cX5_lease 49 = .ok (.getfield 26, 3) := by decide +kernel
theorem dX5_lease_52 : decode cX5_lease 52 = .ok (.getfield 148, 3) := by decide +kernel
theorem dX5_lease_55 : decode cX5_lease 55 = .ok (.iconst 4, 1) := by decide +kernel
theorem dX5_lease_56 : decode cX5_lease 56 = .ok (.if_icmp .ge 15, 3) := by decide +kernel
theorem dX5_lease_59 : decode cX5_lease 59 = .ok (.aload_n 0, 1) := by decide +kernel
theorem dX5_lease_60 : decode cX5_lease 60 = .ok (.getfield 26, 3) := by decide +kernel
theorem dX5_lease_63 : decode cX5_lease 63 = .ok (.iload_n 1, 1) := by decide +kernel
theorem dX5_lease_64 : decode cX5_lease 64 = .ok (.iload_n 2, 1) := by decide +kernel
theorem dX5_lease_65 : decode cX5_lease 65 = .ok (.invokevirtual 149, 3) := by decide +kernel
theorem dX5_lease_68 : decode cX5_lease 68 = .ok (.goto 5, 3) := by decide +kernel
theorem dX5_lease_71 : decode cX5_lease 71 = .ok (.ldc 94, 2) := by decide +kernel
theorem dX5_lease_73 : decode cX5_lease 73 = .ok (.ireturn, 1) := by decide +kernel
theorem dX5_day_0 : decode cX5_day 0 = .ok (.iload_n 1, 1) := by decide +kernel
theorem dX5_day_1 : decode cX5_day 1 = .ok (.sipush 128, 3) := by decide +kernel
theorem dX5_day_4 : decode cX5_day 4 = .ok (.invokestatic 48, 3) := by decide +kernel
theorem dX5_day_7 : decode cX5_day 7 = .ok (.ifCond .ne 6, 3) := by decide +kernel
theorem dX5_day_10 : decode cX5_day 10 = .ok (.ldc 52, 2) := by decide +kernel
theorem dX5_day_12 : decode cX5_day 12 = .ok (.ireturn, 1) := by decide +kernel
theorem dX5_day_13 : decode cX5_day 13 = .ok (.aload_n 0, 1) := by decide +kernel
theorem dX5_day_14 : decode cX5_day 14 = .ok (.getfield 26, 3) := by decide +kernel
theorem dX5_day_17 : decode cX5_day 17 = .ok (.getfield 148, 3) := by decide +kernel
theorem dX5_day_20 : decode cX5_day 20 = .ok (.ifCond .le 25, 3) := by decide +kernel
theorem dX5_day_23 : decode cX5_day 23 = .ok (.iload_n 1, 1) := by decide +kernel
theorem dX5_day_24 : decode cX5_day 24 = .ok (.aload_n 0, 1) := by decide +kernel
theorem dX5_day_25 : decode cX5_day 25 = .ok (.getfield 26, 3) := by decide +kernel
theorem dX5_day_28 : decode cX5_day 28 = .ok (.getfield 150, 3) := by decide +kernel
theorem dX5_day_31 : decode cX5_day 31 = .ok (.if_icmp .le 14, 3) := by decide +kernel
theorem dX5_day_34 : decode cX5_day 34 = .ok (.aload_n 0, 1) := by decide +kernel
theorem dX5_day_35 : decode cX5_day 35 = .ok (.getfield 26, 3) := by decide +kernel
theorem dX5_day_38 : decode cX5_day 38 = .ok (.iload_n 1, 1) := by decide +kernel
theorem dX5_day_39 : decode cX5_day 39 = .ok (.invokevirtual 153, 3) := by decide +kernel
theorem dX5_day_42 : decode cX5_day 42 = .ok (.goto 5, 3) := by decide +kernel
theorem dX5_day_45 : decode cX5_day 45 = .ok (.ldc 86, 2) := by decide +kernel
theorem dX5_day_47 : decode cX5_day 47 = .ok (.ireturn, 1) := by decide +kernel
theorem dX5_leases_0 : decode cX5_leases 0 = .ok (.iload_n 1, 1) := by decide +kernel
theorem dX5_leases_1 : decode cX5_leases 1 = .ok (.tableswitch 79 0 4 #[35, 43, 55, 63, 71], 35) := by decide +kernel
theorem dX5_leases_36 : decode cX5_leases 36 = .ok (.aload_n 0, 1) := by decide +kernel
theorem dX5_leases_37 : decode cX5_leases 37 = .ok (.getfield 26, 3) := by decide +kernel
theorem dX5_leases_40 : decode cX5_leases 40 = .ok (.getfield 154, 3) := by decide +kernel
theorem dX5_leases_43 : decode cX5_leases 43 = .ok (.ireturn, 1) := by decide +kernel
theorem dX5_leases_44 : decode cX5_leases 44 = .ok (.aload_n 0, 1) := by decide +kernel
theorem dX5_leases_45 : decode cX5_leases 45 = .ok (.getfield 26, 3) := by decide +kernel
theorem dX5_leases_48 : decode cX5_leases 48 = .ok (.iconst 0, 1) := by decide +kernel
theorem dX5_leases_49 : decode cX5_leases 49 = .ok (.sipush 128, 3) := by decide +kernel
theorem dX5_leases_52 : decode cX5_leases 52 = .ok (.invokevirtual 155, 3) := by decide +kernel
theorem dX5_leases_55 : decode cX5_leases 55 = .ok (.ireturn, 1) := by decide +kernel
theorem dX5_leases_56 : decode cX5_leases 56 = .ok (.aload_n 0, 1) := by decide +kernel
theorem dX5_leases_57 : decode cX5_leases 57 = .ok (.getfield 26, 3) := by decide +kernel
theorem dX5_leases_60 : decode cX5_leases 60 = .ok (.invokevirtual 158, 3) := by decide +kernel
theorem dX5_leases_63 : decode cX5_leases 63 = .ok (.ireturn, 1) := by decide +kernel
theorem dX5_leases_64 : decode cX5_leases 64 = .ok (.aload_n 0, 1) := by decide +kernel
theorem dX5_leases_65 : decode cX5_leases 65 = .ok (.getfield 26, 3) := by decide +kernel
theorem dX5_leases_68 : decode cX5_leases 68 = .ok (.getfield 142, 3) := by decide +kernel
theorem dX5_leases_71 : decode cX5_leases 71 = .ok (.ireturn, 1) := by decide +kernel
theorem dX5_leases_72 : decode cX5_leases 72 = .ok (.aload_n 0, 1) := by decide +kernel
theorem dX5_leases_73 : decode cX5_leases 73 = .ok (.getfield 26, 3) := by decide +kernel
theorem dX5_leases_76 : decode cX5_leases 76 = .ok (.getfield 159, 3) := by decide +kernel
theorem dX5_leases_79 : decode cX5_leases 79 = .ok (.ireturn, 1) := by decide +kernel
theorem dX5_leases_80 : decode cX5_leases 80 = .ok (.ldc 52, 2) := by decide +kernel
theorem dX5_leases_82 : decode cX5_leases 82 = .ok (.ireturn, 1) := by decide +kernel
theorem dX5_covered_0 : decode cX5_covered 0 = .ok (.iload_n 1, 1) := by decide +kernel
theorem dX5_covered_1 : decode cX5_covered 1 = .ok (.sipush 128, 3) := by decide +kernel
theorem dX5_covered_4 : decode cX5_covered 4 = .ok (.invokestatic 48, 3) := by decide +kernel
theorem dX5_covered_7 : decode cX5_covered 7 = .ok (.ifCond .ne 6, 3) := by decide +kernel
theorem dX5_covered_10 : decode cX5_covered 10 = .ok (.ldc 52, 2) := by decide +kernel
theorem dX5_covered_12 : decode cX5_covered 12 = .ok (.ireturn, 1) := by decide +kernel
theorem dX5_covered_13 : decode cX5_covered 13 = .ok (.aload_n 0, 1) := by decide +kernel
theorem dX5_covered_14 : decode cX5_covered 14 = .ok (.getfield 26, 3) := by decide +kernel
theorem dX5_covered_17 : decode cX5_covered 17 = .ok (.iload_n 1, 1) := by decide +kernel
theorem dX5_covered_18 : decode cX5_covered 18 = .ok (.invokevirtual 162, 3) := by decide +kernel
theorem dX5_covered_21 : decode cX5_covered 21 = .ok (.ifCond .eq 7, 3) := by decide +kernel
theorem dX5_covered_24 : decode cX5_covered 24 = .ok (.iconst 1, 1) := by decide +kernel
theorem dX5_covered_25 : decode cX5_covered 25 = .ok (.goto 4, 3) := by decide +kernel
theorem dX5_covered_28 : decode cX5_covered 28 = .ok (.iconst 0, 1) := by decide +kernel
theorem dX5_covered_29 : decode cX5_covered 29 = .ok (.ireturn, 1) := by decide +kernel
theorem dX5_site_0 : decode cX5_site 0 = .ok (.aload_n 0, 1) := by decide +kernel
theorem dX5_site_1 : decode cX5_site 1 = .ok (.getfield 33, 3) := by decide +kernel
theorem dX5_site_4 : decode cX5_site 4 = .ok (.getfield 165, 3) := by decide +kernel
theorem dX5_site_7 : decode cX5_site 7 = .ok (.bipush 10, 2) := by decide +kernel
theorem dX5_site_9 : decode cX5_site 9 = .ok (.if_icmp .ge 13, 3) := by decide +kernel
theorem dX5_site_12 : decode cX5_site 12 = .ok (.aload_n 0, 1) := by decide +kernel
theorem dX5_site_13 : decode cX5_site 13 = .ok (.getfield 33, 3) := by decide +kernel
theorem dX5_site_16 : decode cX5_site 16 = .ok (.invokevirtual 166, 3) := by decide +kernel
theorem dX5_site_19 : decode cX5_site 19 = .ok (.goto 5, 3) := by decide +kernel
theorem dX5_site_22 : decode cX5_site 22 = .ok (.ldc 94, 2) := by decide +kernel
theorem dX5_site_24 : decode cX5_site 24 = .ok (.ireturn, 1) := by decide +kernel
theorem dX5_way_0 : decode cX5_way 0 = .ok (.aload_n 0, 1) := by decide +kernel
theorem dX5_way_1 : decode cX5_way 1 = .ok (.getfield 33, 3) := by decide +kernel
theorem dX5_way_4 : decode cX5_way 4 = .ok (.iload_n 1, 1) := by decide +kernel
theorem dX5_way_5 : decode cX5_way 5 = .ok (.invokevirtual 168, 3) := by decide +kernel
theorem dX5_way_8 : decode cX5_way 8 = .ok (.ifCond .eq 30, 3) := by decide +kernel
theorem dX5_way_11 : decode cX5_way 11 = .ok (.aload_n 0, 1) := by decide +kernel
theorem dX5_way_12 : decode cX5_way 12 = .ok (.getfield 33, 3) := by decide +kernel
theorem dX5_way_15 : decode cX5_way 15 = .ok (.iload_n 2, 1) := by decide +kernel
theorem dX5_way_16 : decode cX5_way 16 = .ok (.invokevirtual 168, 3) := by decide +kernel
theorem dX5_way_19 : decode cX5_way 19 = .ok (.ifCond .eq 19, 3) := by decide +kernel
theorem dX5_way_22 : decode cX5_way 22 = .ok (.iload_n 1, 1) := by decide +kernel
theorem dX5_way_23 : decode cX5_way 23 = .ok (.iload_n 2, 1) := by decide +kernel
theorem dX5_way_24 : decode cX5_way 24 = .ok (.if_icmp .eq 14, 3) := by decide +kernel
theorem dX5_way_27 : decode cX5_way 27 = .ok (.iload_n 3, 1) := by decide +kernel
theorem dX5_way_28 : decode cX5_way 28 = .ok (.iconst 1, 1) := by decide +kernel
theorem dX5_way_29 : decode cX5_way 29 = .ok (.sipush 1000, 3) := by decide +kernel
theorem dX5_way_32 : decode cX5_way 32 = .ok (.invokestatic 79, 3) := by decide +kernel
theorem dX5_way_35 : decode cX5_way 35 = .ok (.ifCond .ne 6, 3) := by decide +kernel
theorem dX5_way_38 : decode cX5_way 38 = .ok (.ldc 52, 2) := by decide +kernel
theorem dX5_way_40 : decode cX5_way 40 = .ok (.ireturn, 1) := by decide +kernel
theorem dX5_way_41 : decode cX5_way 41 = .ok (.aload_n 0, 1) := by decide +kernel
theorem dX5_way_42 : decode cX5_way 42 = .ok (.getfield 33, 3) := by decide +kernel
theorem dX5_way_45 : decode cX5_way 45 = .ok (.iload_n 1, 1) := by decide +kernel
theorem dX5_way_46 : decode cX5_way 46 = .ok (.iload_n 2, 1) := by decide +kernel
theorem dX5_way_47 : decode cX5_way 47 = .ok (.invokevirtual 171, 3) := by decide +kernel
theorem dX5_way_50 : decode cX5_way 50 = .ok (.ifCond .eq 8, 3) := by decide +kernel
theorem dX5_way_53 : decode cX5_way 53 = .ok (.ldc 86, 2) := by decide +kernel
theorem dX5_way_55 : decode cX5_way 55 = .ok (.goto 13, 3) := by decide +kernel
theorem dX5_way_58 : decode cX5_way 58 = .ok (.aload_n 0, 1) := by decide +kernel
theorem dX5_way_59 : decode cX5_way 59 = .ok (.getfield 33, 3) := by decide +kernel
theorem dX5_way_62 : decode cX5_way 62 = .ok (.iload_n 1, 1) := by decide +kernel
theorem dX5_way_63 : decode cX5_way 63 = .ok (.iload_n 2, 1) := by decide +kernel
theorem dX5_way_64 : decode cX5_way 64 = .ok (.iload_n 3, 1) := by decide +kernel
theorem dX5_way_65 : decode cX5_way 65 = .ok (.invokevirtual 174, 3) := by decide +kernel
theorem dX5_way_68 : decode cX5_way 68 = .ok (.ireturn, 1) := by decide +kernel
theorem dX5_call_0 : decode cX5_call 0 = .ok (.aload_n 0, 1) := by decide +kernel
theorem dX5_call_1 : decode cX5_call 1 = .ok (.getfield 33, 3) := by decide +kernel
theorem dX5_call_4 : decode cX5_call 4 = .ok (.iload_n 1, 1) := by decide +kernel
theorem dX5_call_5 : decode cX5_call 5 = .ok (.invokevirtual 168, 3) := by decide +kernel
theorem dX5_call_8 : decode cX5_call 8 = .ok (.ifCond .ne 6, 3) := by decide +kernel
theorem dX5_call_11 : decode cX5_call 11 = .ok (.ldc 52, 2) := by decide +kernel
theorem dX5_call_13 : decode cX5_call 13 = .ok (.ireturn, 1) := by decide +kernel
theorem dX5_call_14 : decode cX5_call 14 = .ok (.aload_n 0, 1) := by decide +kernel
theorem dX5_call_15 : decode cX5_call 15 = .ok (.getfield 33, 3) := by decide +kernel
theorem dX5_call_18 : decode cX5_call 18 = .ok (.getfield 175, 3) := by decide +kernel
theorem dX5_call_21 : decode cX5_call 21 = .ok (.iload_n 1, 1) := by decide +kernel
theorem dX5_call_22 : decode cX5_call 22 = .ok (.invokestatic 178, 3) := by decide +kernel
theorem dX5_call_25 : decode cX5_call 25 = .ok (.ifCond .eq 8, 3) := by decide +kernel
theorem dX5_call_28 : decode cX5_call 28 = .ok (.ldc 86, 2) := by decide +kernel
theorem dX5_call_30 : decode cX5_call 30 = .ok (.goto 11, 3) := by decide +kernel
theorem dX5_call_33 : decode cX5_call 33 = .ok (.aload_n 0, 1) := by decide +kernel
theorem dX5_call_34 : decode cX5_call 34 = .ok (.getfield 33, 3) := by decide +kernel
theorem dX5_call_37 : decode cX5_call 37 = .ok (.iload_n 1, 1) := by decide +kernel
theorem dX5_call_38 : decode cX5_call 38 = .ok (.invokevirtual 181, 3) := by decide +kernel
theorem dX5_call_41 : decode cX5_call 41 = .ok (.ireturn, 1) := by decide +kernel
theorem dX5_joins_0 : decode cX5_joins 0 = .ok (.iload_n 1, 1) := by decide +kernel
theorem dX5_joins_1 : decode cX5_joins 1 = .ok (.tableswitch 75 0 4 #[35, 43, 51, 59, 67], 35) := by decide +kernel
theorem dX5_joins_36 : decode cX5_joins 36 = .ok (.aload_n 0, 1) := by decide +kernel
theorem dX5_joins_37 : decode cX5_joins 37 = .ok (.getfield 33, 3) := by decide +kernel
theorem dX5_joins_40 : decode cX5_joins 40 = .ok (.getfield 184, 3) := by decide +kernel
theorem dX5_joins_43 : decode cX5_joins 43 = .ok (.ireturn, 1) := by decide +kernel
theorem dX5_joins_44 : decode cX5_joins 44 = .ok (.aload_n 0, 1) := by decide +kernel
theorem dX5_joins_45 : decode cX5_joins 45 = .ok (.getfield 33, 3) := by decide +kernel
theorem dX5_joins_48 : decode cX5_joins 48 = .ok (.invokevirtual 185, 3) := by decide +kernel
theorem dX5_joins_51 : decode cX5_joins 51 = .ok (.ireturn, 1) := by decide +kernel
theorem dX5_joins_52 : decode cX5_joins 52 = .ok (.aload_n 0, 1) := by decide +kernel
theorem dX5_joins_53 : decode cX5_joins 53 = .ok (.getfield 33, 3) := by decide +kernel
theorem dX5_joins_56 : decode cX5_joins 56 = .ok (.getfield 175, 3) := by decide +kernel
theorem dX5_joins_59 : decode cX5_joins 59 = .ok (.ireturn, 1) := by decide +kernel
theorem dX5_joins_60 : decode cX5_joins 60 = .ok (.aload_n 0, 1) := by decide +kernel
theorem dX5_joins_61 : decode cX5_joins 61 = .ok (.getfield 33, 3) := by decide +kernel
theorem dX5_joins_64 : decode cX5_joins 64 = .ok (.getfield 186, 3) := by decide +kernel
theorem dX5_joins_67 : decode cX5_joins 67 = .ok (.ireturn, 1) := by decide +kernel
theorem dX5_joins_68 : decode cX5_joins 68 = .ok (.aload_n 0, 1) := by decide +kernel
theorem dX5_joins_69 : decode cX5_joins 69 = .ok (.getfield 33, 3) := by decide +kernel
theorem dX5_joins_72 : decode cX5_joins 72 = .ok (.getfield 189, 3) := by decide +kernel
theorem dX5_joins_75 : decode cX5_joins 75 = .ok (.ireturn, 1) := by decide +kernel
theorem dX5_joins_76 : decode cX5_joins 76 = .ok (.ldc 52, 2) := by decide +kernel
theorem dX5_joins_78 : decode cX5_joins 78 = .ok (.ireturn, 1) := by decide +kernel
theorem dX5_kind_0 : decode cX5_kind 0 = .ok (.aload_n 0, 1) := by decide +kernel
theorem dX5_kind_1 : decode cX5_kind 1 = .ok (.getfield 19, 3) := by decide +kernel
theorem dX5_kind_4 : decode cX5_kind 4 = .ok (.iload_n 1, 1) := by decide +kernel
theorem dX5_kind_5 : decode cX5_kind 5 = .ok (.invokevirtual 123, 3) := by decide +kernel
theorem dX5_kind_8 : decode cX5_kind 8 = .ok (.ifCond .eq 14, 3) := by decide +kernel
theorem dX5_kind_11 : decode cX5_kind 11 = .ok (.aload_n 0, 1) := by decide +kernel
theorem dX5_kind_12 : decode cX5_kind 12 = .ok (.getfield 19, 3) := by decide +kernel
theorem dX5_kind_15 : decode cX5_kind 15 = .ok (.iload_n 1, 1) := by decide +kernel
theorem dX5_kind_16 : decode cX5_kind 16 = .ok (.invokevirtual 192, 3) := by decide +kernel
theorem dX5_kind_19 : decode cX5_kind 19 = .ok (.goto 5, 3) := by decide +kernel
theorem dX5_kind_22 : decode cX5_kind 22 = .ok (.ldc 52, 2) := by decide +kernel
theorem dX5_kind_24 : decode cX5_kind 24 = .ok (.ireturn, 1) := by decide +kernel
theorem dX5_as_0 : decode cX5_as 0 = .ok (.aload_n 0, 1) := by decide +kernel
theorem dX5_as_1 : decode cX5_as 1 = .ok (.getfield 19, 3) := by decide +kernel
theorem dX5_as_4 : decode cX5_as 4 = .ok (.iload_n 1, 1) := by decide +kernel
theorem dX5_as_5 : decode cX5_as 5 = .ok (.invokevirtual 123, 3) := by decide +kernel
theorem dX5_as_8 : decode cX5_as 8 = .ok (.ifCond .eq 11, 3) := by decide +kernel
theorem dX5_as_11 : decode cX5_as 11 = .ok (.iload_n 2, 1) := by decide +kernel
theorem dX5_as_12 : decode cX5_as 12 = .ok (.iconst 4, 1) := by decide +kernel
theorem dX5_as_13 : decode cX5_as 13 = .ok (.invokestatic 48, 3) := by decide +kernel
theorem dX5_as_16 : decode cX5_as 16 = .ok (.ifCond .ne 6, 3) := by decide +kernel
theorem dX5_as_19 : decode cX5_as 19 = .ok (.ldc 52, 2) := by decide +kernel
theorem dX5_as_21 : decode cX5_as 21 = .ok (.ireturn, 1) := by decide +kernel
theorem dX5_as_22 : decode cX5_as 22 = .ok (.aload_n 0, 1) := by decide +kernel
theorem dX5_as_23 : decode cX5_as 23 = .ok (.aload_n 0, 1) := by decide +kernel
theorem dX5_as_24 : decode cX5_as 24 = .ok (.getfield 19, 3) := by decide +kernel
theorem dX5_as_27 : decode cX5_as 27 = .ok (.iload_n 1, 1) := by decide +kernel
theorem dX5_as_28 : decode cX5_as 28 = .ok (.iload_n 2, 1) := by decide +kernel
theorem dX5_as_29 : decode cX5_as 29 = .ok (.invokevirtual 195, 3) := by decide +kernel
theorem dX5_as_32 : decode cX5_as 32 = .ok (.ifCond .eq 7, 3) := by decide +kernel
theorem dX5_as_35 : decode cX5_as 35 = .ok (.iconst 0, 1) := by decide +kernel
theorem dX5_as_36 : decode cX5_as 36 = .ok (.goto 4, 3) := by decide +kernel
theorem dX5_as_39 : decode cX5_as 39 = .ok (.iconst 3, 1) := by decide +kernel
theorem dX5_as_40 : decode cX5_as 40 = .ok (.putfield 44, 3) := by decide +kernel
theorem dX5_as_43 : decode cX5_as 43 = .ok (.aload_n 0, 1) := by decide +kernel
theorem dX5_as_44 : decode cX5_as 44 = .ok (.getfield 44, 3) := by decide +kernel
theorem dX5_as_47 : decode cX5_as 47 = .ok (.ifCond .ne 15, 3) := by decide +kernel
theorem dX5_as_50 : decode cX5_as 50 = .ok (.aload_n 0, 1) := by decide +kernel
theorem dX5_as_51 : decode cX5_as 51 = .ok (.getfield 19, 3) := by decide +kernel
theorem dX5_as_54 : decode cX5_as 54 = .ok (.getfield 126, 3) := by decide +kernel
theorem dX5_as_57 : decode cX5_as 57 = .ok (.iload_n 1, 1) := by decide +kernel
theorem dX5_as_58 : decode cX5_as 58 = .ok (.iaload, 1) := by decide +kernel
theorem dX5_as_59 : decode cX5_as 59 = .ok (.goto 10, 3) := by decide +kernel
theorem dX5_as_62 : decode cX5_as 62 = .ok (.ldc 57, 2) := by decide +kernel
theorem dX5_as_64 : decode cX5_as 64 = .ok (.aload_n 0, 1) := by decide +kernel
theorem dX5_as_65 : decode cX5_as 65 = .ok (.getfield 44, 3) := by decide +kernel
theorem dX5_as_68 : decode cX5_as 68 = .ok (.isub, 1) := by decide +kernel
theorem dX5_as_69 : decode cX5_as 69 = .ok (.ireturn, 1) := by decide +kernel
theorem dX5_ask_0 : decode cX5_ask 0 = .ok (.aload_n 0, 1) := by decide +kernel
theorem dX5_ask_1 : decode cX5_ask 1 = .ok (.getfield 19, 3) := by decide +kernel
theorem dX5_ask_4 : decode cX5_ask 4 = .ok (.iload_n 1, 1) := by decide +kernel
theorem dX5_ask_5 : decode cX5_ask 5 = .ok (.invokevirtual 123, 3) := by decide +kernel
theorem dX5_ask_8 : decode cX5_ask 8 = .ok (.ifCond .ne 6, 3) := by decide +kernel
theorem dX5_ask_11 : decode cX5_ask 11 = .ok (.ldc 52, 2) := by decide +kernel
theorem dX5_ask_13 : decode cX5_ask 13 = .ok (.ireturn, 1) := by decide +kernel
theorem dX5_ask_14 : decode cX5_ask 14 = .ok (.iload_n 2, 1) := by decide +kernel
theorem dX5_ask_15 : decode cX5_ask 15 = .ok (.lookupswitch 51 #[(0, 25), (1, 38)], 25) := by decide +kernel
theorem dX5_ask_40 : decode cX5_ask 40 = .ok (.aload_n 0, 1) := by decide +kernel
theorem dX5_ask_41 : decode cX5_ask 41 = .ok (.getfield 40, 3) := by decide +kernel
theorem dX5_ask_44 : decode cX5_ask 44 = .ok (.aload_n 0, 1) := by decide +kernel
theorem dX5_ask_45 : decode cX5_ask 45 = .ok (.getfield 19, 3) := by decide +kernel
theorem dX5_ask_48 : decode cX5_ask 48 = .ok (.iload_n 1, 1) := by decide +kernel
theorem dX5_ask_49 : decode cX5_ask 49 = .ok (.invokevirtual 198, 3) := by decide +kernel
theorem dX5_ask_52 : decode cX5_ask 52 = .ok (.ireturn, 1) := by decide +kernel
theorem dX5_ask_53 : decode cX5_ask 53 = .ok (.aload_n 0, 1) := by decide +kernel
theorem dX5_ask_54 : decode cX5_ask 54 = .ok (.getfield 40, 3) := by decide +kernel
theorem dX5_ask_57 : decode cX5_ask 57 = .ok (.aload_n 0, 1) := by decide +kernel
theorem dX5_ask_58 : decode cX5_ask 58 = .ok (.getfield 19, 3) := by decide +kernel
theorem dX5_ask_61 : decode cX5_ask 61 = .ok (.iload_n 1, 1) := by decide +kernel
theorem dX5_ask_62 : decode cX5_ask 62 = .ok (.invokevirtual 202, 3) := by decide +kernel
theorem dX5_ask_65 : decode cX5_ask 65 = .ok (.ireturn, 1) := by decide +kernel
theorem dX5_ask_66 : decode cX5_ask 66 = .ok (.ldc 52, 2) := by decide +kernel
theorem dX5_ask_68 : decode cX5_ask 68 = .ok (.ireturn, 1) := by decide +kernel
theorem dX5_trace_0 : decode cX5_trace 0 = .ok (.iload_n 1, 1) := by decide +kernel
theorem dX5_trace_1 : decode cX5_trace 1 = .ok (.aload_n 0, 1) := by decide +kernel
theorem dX5_trace_2 : decode cX5_trace 2 = .ok (.getfield 40, 3) := by decide +kernel
theorem dX5_trace_5 : decode cX5_trace 5 = .ok (.getfield 205, 3) := by decide +kernel
theorem dX5_trace_8 : decode cX5_trace 8 = .ok (.invokestatic 48, 3) := by decide +kernel
theorem dX5_trace_11 : decode cX5_trace 11 = .ok (.ifCond .eq 15, 3) := by decide +kernel
theorem dX5_trace_14 : decode cX5_trace 14 = .ok (.aload_n 0, 1) := by decide +kernel
theorem dX5_trace_15 : decode cX5_trace 15 = .ok (.getfield 40, 3) := by decide +kernel
theorem dX5_trace_18 : decode cX5_trace 18 = .ok (.getfield 208, 3) := by decide +kernel
theorem dX5_trace_21 : decode cX5_trace 21 = .ok (.iload_n 1, 1) := by decide +kernel
theorem dX5_trace_22 : decode cX5_trace 22 = .ok (.iaload, 1) := by decide +kernel
theorem dX5_trace_23 : decode cX5_trace 23 = .ok (.goto 5, 3) := by decide +kernel
theorem dX5_trace_26 : decode cX5_trace 26 = .ok (.ldc 211, 2) := by decide +kernel
theorem dX5_trace_28 : decode cX5_trace 28 = .ok (.ireturn, 1) := by decide +kernel
theorem dX5_count_0 : decode cX5_count 0 = .ok (.iload_n 1, 1) := by decide +kernel
theorem dX5_count_1 : decode cX5_count 1 = .ok (.tableswitch 102 0 6 #[43, 51, 59, 70, 78, 86, 94], 43) := by decide +kernel
theorem dX5_count_44 : decode cX5_count 44 = .ok (.aload_n 0, 1) := by decide +kernel
theorem dX5_count_45 : decode cX5_count 45 = .ok (.getfield 10, 3) := by decide +kernel
theorem dX5_count_48 : decode cX5_count 48 = .ok (.invokevirtual 212, 3) := by decide +kernel
theorem dX5_count_51 : decode cX5_count 51 = .ok (.ireturn, 1) := by decide +kernel
theorem dX5_count_52 : decode cX5_count 52 = .ok (.aload_n 0, 1) := by decide +kernel
theorem dX5_count_53 : decode cX5_count 53 = .ok (.getfield 19, 3) := by decide +kernel
theorem dX5_count_56 : decode cX5_count 56 = .ok (.getfield 87, 3) := by decide +kernel
theorem dX5_count_59 : decode cX5_count 59 = .ok (.ireturn, 1) := by decide +kernel
theorem dX5_count_60 : decode cX5_count 60 = .ok (.aload_n 0, 1) := by decide +kernel
theorem dX5_count_61 : decode cX5_count 61 = .ok (.getfield 19, 3) := by decide +kernel
theorem dX5_count_64 : decode cX5_count 64 = .ok (.getfield 120, 3) := by decide +kernel
theorem dX5_count_67 : decode cX5_count 67 = .ok (.invokestatic 215, 3) := by decide +kernel
theorem dX5_count_70 : decode cX5_count 70 = .ok (.ireturn, 1) := by decide +kernel
theorem dX5_count_71 : decode cX5_count 71 = .ok (.aload_n 0, 1) := by decide +kernel
theorem dX5_count_72 : decode cX5_count 72 = .ok (.getfield 19, 3) := by decide +kernel
theorem dX5_count_75 : decode cX5_count 75 = .ok (.invokevirtual 220, 3) := by decide +kernel
theorem dX5_count_78 : decode cX5_count 78 = .ok (.ireturn, 1) := by decide +kernel
theorem dX5_count_79 : decode cX5_count 79 = .ok (.aload_n 0, 1) := by decide +kernel
theorem dX5_count_80 : decode cX5_count 80 = .ok (.getfield 26, 3) := by decide +kernel
theorem dX5_count_83 : decode cX5_count 83 = .ok (.getfield 148, 3) := by decide +kernel
theorem dX5_count_86 : decode cX5_count 86 = .ok (.ireturn, 1) := by decide +kernel
theorem dX5_count_87 : decode cX5_count 87 = .ok (.aload_n 0, 1) := by decide +kernel
theorem dX5_count_88 : decode cX5_count 88 = .ok (.getfield 33, 3) := by decide +kernel
theorem dX5_count_91 : decode cX5_count 91 = .ok (.getfield 165, 3) := by decide +kernel
theorem dX5_count_94 : decode cX5_count 94 = .ok (.ireturn, 1) := by decide +kernel
theorem dX5_count_95 : decode cX5_count 95 = .ok (.aload_n 0, 1) := by decide +kernel
theorem dX5_count_96 : decode cX5_count 96 = .ok (.getfield 33, 3) := by decide +kernel
theorem dX5_count_99 : decode cX5_count 99 = .ok (.getfield 223, 3) := by decide +kernel
theorem dX5_count_102 : decode cX5_count 102 = .ok (.ireturn, 1) := by decide +kernel
theorem dX5_count_103 : decode cX5_count 103 = .ok (.ldc 52, 2) := by decide +kernel
theorem dX5_count_105 : decode cX5_count 105 = .ok (.ireturn, 1) := by decide +kernel
theorem dX5_status_0 : decode cX5_status 0 = .ok (.aload_n 0, 1) := by decide +kernel
theorem dX5_status_1 : decode cX5_status 1 = .ok (.getfield 44, 3) := by decide +kernel
theorem dX5_status_4 : decode cX5_status 4 = .ok (.ireturn, 1) := by decide +kernel
theorem dX5_isUnder_0 : decode cX5_isUnder 0 = .ok (.iload_n 0, 1) := by decide +kernel
theorem dX5_isUnder_1 : decode cX5_isUnder 1 = .ok (.ifCond .lt 12, 3) := by decide +kernel
theorem dX5_isUnder_4 : decode cX5_isUnder 4 = .ok (.iload_n 0, 1) := by decide +kernel
theorem dX5_isUnder_5 : decode cX5_isUnder 5 = .ok (.iload_n 1, 1) := by decide +kernel
theorem dX5_isUnder_6 : decode cX5_isUnder 6 = .ok (.if_icmp .ge 7, 3) := by decide +kernel
theorem dX5_isUnder_9 : decode cX5_isUnder 9 = .ok (.iconst 1, 1) := by decide +kernel
theorem dX5_isUnder_10 : decode cX5_isUnder 10 = .ok (.goto 4, 3) := by decide +kernel
theorem dX5_isUnder_13 : decode cX5_isUnder 13 = .ok (.iconst 0, 1) := by decide +kernel
theorem dX5_isUnder_14 : decode cX5_isUnder 14 = .ok (.ireturn, 1) := by decide +kernel
theorem dX5_isWithin_0 : decode cX5_isWithin 0 = .ok (.iload_n 0, 1) := by decide +kernel
theorem dX5_isWithin_1 : decode cX5_isWithin 1 = .ok (.iload_n 1, 1) := by decide +kernel
theorem dX5_isWithin_2 : decode cX5_isWithin 2 = .ok (.if_icmp .lt 12, 3) := by decide +kernel
theorem dX5_isWithin_5 : decode cX5_isWithin 5 = .ok (.iload_n 0, 1) := by decide +kernel
theorem dX5_isWithin_6 : decode cX5_isWithin 6 = .ok (.iload_n 2, 1) := by decide +kernel
theorem dX5_isWithin_7 : decode cX5_isWithin 7 = .ok (.if_icmp .gt 7, 3) := by decide +kernel
theorem dX5_isWithin_10 : decode cX5_isWithin 10 = .ok (.iconst 1, 1) := by decide +kernel
theorem dX5_isWithin_11 : decode cX5_isWithin 11 = .ok (.goto 4, 3) := by decide +kernel
theorem dX5_isWithin_14 : decode cX5_isWithin 14 = .ok (.iconst 0, 1) := by decide +kernel
theorem dX5_isWithin_15 : decode cX5_isWithin 15 = .ok (.ireturn, 1) := by decide +kernel
theorem dX5_holds_0 : decode cX5_holds 0 = .ok (.iload_n 0, 1) := by decide +kernel
theorem dX5_holds_1 : decode cX5_holds 1 = .ok (.iload_n 1, 1) := by decide +kernel
theorem dX5_holds_2 : decode cX5_holds 2 = .ok (.iushr, 1) := by decide +kernel
theorem dX5_holds_3 : decode cX5_holds 3 = .ok (.iconst 1, 1) := by decide +kernel
theorem dX5_holds_4 : decode cX5_holds 4 = .ok (.iand, 1) := by decide +kernel
theorem dX5_holds_5 : decode cX5_holds 5 = .ok (.ifCond .eq 7, 3) := by decide +kernel
theorem dX5_holds_8 : decode cX5_holds 8 = .ok (.iconst 1, 1) := by decide +kernel
theorem dX5_holds_9 : decode cX5_holds 9 = .ok (.goto 4, 3) := by decide +kernel
theorem dX5_holds_12 : decode cX5_holds 12 = .ok (.iconst 0, 1) := by decide +kernel
theorem dX5_holds_13 : decode cX5_holds 13 = .ok (.ireturn, 1) := by decide +kernel
