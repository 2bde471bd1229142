theorem dX4_init_0 : decode cX4_init 0 = .ok (.aload_n 0, 1) := by decide +kernel
theorem dX4_init_1 : decode cX4_init 1 = .ok (.invokespecial 3, 3) := by decide +kernel
theorem dX4_init_4 : decode cX4_init 4 = .ok (.aload_n 0, 1) := by decide +kernel
theorem dX4_init_5 : decode cX4_init 5 = .ok (.bipush 10, 2) := by decide +kernel
theorem dX4_init_7 : decode cX4_init 7 = .ok (.bipush 10, 2) := by decide +kernel
theorem dX4_init_9 : decode cX4_init 9 = .ok (.multianewarray 9 2, 4) := by decide +kernel
theorem dX4_init_13 : decode cX4_init 13 = .ok (.putfield 11, 3) := by decide +kernel
theorem dX4_init_16 : decode cX4_init 16 = .ok (.aload_n 0, 1) := by decide +kernel
theorem dX4_init_17 : decode cX4_init 17 = .ok (.bipush 10, 2) := by decide +kernel
theorem dX4_init_19 : decode cX4_init 19 = .ok (.newarray .int, 2) := by decide +kernel
theorem dX4_init_21 : decode cX4_init 21 = .ok (.putfield 16, 3) := by decide +kernel
theorem dX4_init_24 : decode cX4_init 24 = .ok (.aload_n 0, 1) := by decide +kernel
theorem dX4_init_25 : decode cX4_init 25 = .ok (.bipush 10, 2) := by decide +kernel
theorem dX4_init_27 : decode cX4_init 27 = .ok (.newarray .int, 2) := by decide +kernel
theorem dX4_init_29 : decode cX4_init 29 = .ok (.putfield 20, 3) := by decide +kernel
theorem dX4_init_32 : decode cX4_init 32 = .ok (.aload_n 0, 1) := by decide +kernel
theorem dX4_init_33 : decode cX4_init 33 = .ok (.bipush 10, 2) := by decide +kernel
theorem dX4_init_35 : decode cX4_init 35 = .ok (.bipush 10, 2) := by decide +kernel
theorem dX4_init_37 : decode cX4_init 37 = .ok (.multianewarray 9 2, 4) := by decide +kernel
theorem dX4_init_41 : decode cX4_init 41 = .ok (.putfield 23, 3) := by decide +kernel
theorem dX4_init_44 : decode cX4_init 44 = .ok (.aload_n 0, 1) := by decide +kernel
theorem dX4_init_45 : decode cX4_init 45 = .ok (.bipush 10, 2) := by decide +kernel
theorem dX4_init_47 : decode cX4_init 47 = .ok (.newarray .int, 2) := by decide +kernel
theorem dX4_init_49 : decode cX4_init 49 = .ok (.putfield 26, 3) := by decide +kernel
theorem dX4_init_52 : decode cX4_init 52 = .ok (.return_, 1) := by decide +kernel
theorem dX5_init_0 : decode cX5_init 0 = .ok (.aload_n 0, 1) := by decide +kernel
theorem dX5_init_1 : decode cX5_init 1 = .ok (.invokespecial 1, 3) := by decide +kernel
theorem dX5_init_4 : decode cX5_init 4 = .ok (.aload_n 0, 1) := by decide +kernel
theorem dX5_init_5 : decode cX5_init 5 = .ok (.new 7, 3) := by decide +kernel
theorem dX5_init_8 : decode cX5_init 8 = .ok (.dup, 1) := by decide +kernel
theorem dX5_init_9 : decode cX5_init 9 = .ok (.invokespecial 9, 3) := by decide +kernel
theorem dX5_init_12 : decode cX5_init 12 = .ok (.putfield 10, 3) := by decide +kernel
theorem dX5_init_15 : decode cX5_init 15 = .ok (.aload_n 0, 1) := by decide +kernel
theorem dX5_init_16 : decode cX5_init 16 = .ok (.new 16, 3) := by decide +kernel
theorem dX5_init_19 : decode cX5_init 19 = .ok (.dup, 1) := by decide +kernel
theorem dX5_init_20 : decode cX5_init 20 = .ok (.invokespecial 18, 3) := by decide +kernel
theorem dX5_init_23 : decode cX5_init 23 = .ok (.putfield 19, 3) := by decide +kernel
theorem dX5_init_26 : decode cX5_init 26 = .ok (.aload_n 0, 1) := by decide +kernel
theorem dX5_init_27 : decode cX5_init 27 = .ok (.new 23, 3) := by decide +kernel
theorem dX5_init_30 : decode cX5_init 30 = .ok (.dup, 1) := by decide +kernel
theorem dX5_init_31 : decode cX5_init 31 = .ok (.invokespecial 25, 3) := by decide +kernel
theorem dX5_init_34 : decode cX5_init 34 = .ok (.putfield 26, 3) := by decide +kernel
theorem dX5_init_37 : decode cX5_init 37 = .ok (.aload_n 0, 1) := by decide +kernel
theorem dX5_init_38 : decode cX5_init 38 = .ok (.new 30, 3) := by decide +kernel
theorem dX5_init_41 : decode cX5_init 41 = .ok (.dup, 1) := by decide +kernel
theorem dX5_init_42 : decode cX5_init 42 = .ok (.invokespecial 32, 3) := by decide +kernel
theorem dX5_init_45 : decode cX5_init 45 = .ok (.putfield 33, 3) := by decide +kernel
theorem dX5_init_48 : decode cX5_init 48 = .ok (.aload_n 0, 1) := by decide +kernel
theorem dX5_init_49 : decode cX5_init 49 = .ok (.new 37, 3) := by decide +kernel
theorem dX5_init_52 : decode cX5_init 52 = .ok (.dup, 1) := by decide +kernel
theorem dX5_init_53 : decode cX5_init 53 = .ok (.invokespecial 39, 3) := by decide +kernel
theorem dX5_init_56 : decode cX5_init 56 = .ok (.putfield 40, 3) := by decide +kernel
theorem dX5_init_59 : decode cX5_init 59 = .ok (.aload_n 0, 1) := by decide +kernel
theorem dX5_init_60 : decode cX5_init 60 = .ok (.iconst 0, 1) := by decide +kernel
theorem dX5_init_61 : decode cX5_init 61 = .ok (.putfield 44, 3) := by decide +kernel
theorem dX5_init_64 : decode cX5_init 64 = .ok (.return_, 1) := by decide +kernel
theorem dX5_offer_0 : decode cX5_offer 0 = .ok (.iload_n 1, 1) := by decide +kernel
theorem dX5_offer_1 : decode cX5_offer 1 = .ok (.iconst 1, 1) := by decide +kernel
theorem dX5_offer_2 : decode cX5_offer 2 = .ok (.sipush 1000, 3) := by decide +kernel
theorem dX5_offer_5 : decode cX5_offer 5 = .ok (.invokestatic 79, 3) := by decide +kernel
theorem dX5_offer_8 : decode cX5_offer 8 = .ok (.ifCond .eq 14, 3) := by decide +kernel
theorem dX5_offer_11 : decode cX5_offer 11 = .ok (.iload_n 2, 1) := by decide +kernel
theorem dX5_offer_12 : decode cX5_offer 12 = .ok (.iconst 1, 1) := by decide +kernel
theorem dX5_offer_13 : decode cX5_offer 13 = .ok (.sipush 4095, 3) := by decide +kernel
theorem dX5_offer_16 : decode cX5_offer 16 = .ok (.invokestatic 79, 3) := by decide +kernel
theorem dX5_offer_19 : decode cX5_offer 19 = .ok (.ifCond .ne 6, 3) := by decide +kernel
theorem dX5_offer_22 : decode cX5_offer 22 = .ok (.ldc 52, 2) := by decide +kernel
theorem dX5_offer_24 : decode cX5_offer 24 = .ok (.ireturn, 1) := by decide +kernel
theorem dX5_offer_25 : decode cX5_offer 25 = .ok (.aload_n 0, 1) := by decide +kernel
theorem dX5_offer_26 : decode cX5_offer 26 = .ok (.getfield 19, 3) := by decide +kernel
theorem dX5_offer_29 : decode cX5_offer 29 = .ok (.getfield 83, 3) := by decide +kernel
theorem dX5_offer_32 : decode cX5_offer 32 = .ok (.ifCond .eq 6, 3) := by decide +kernel
theorem dX5_offer_35 : decode cX5_offer 35 = .ok (.ldc 86, 2) := by decide +kernel
theorem dX5_offer_37 : decode cX5_offer 37 = .ok (.ireturn, 1) := by decide +kernel
theorem dX5_offer_38 : decode cX5_offer 38 = .ok (.aload_n 0, 1) := by decide +kernel
theorem dX5_offer_39 : decode cX5_offer 39 = .ok (.getfield 19, 3) := by decide +kernel
theorem dX5_offer_42 : decode cX5_offer 42 = .ok (.getfield 87, 3) := by decide +kernel
theorem dX5_offer_45 : decode cX5_offer 45 = .ok (.bipush 10, 2) := by decide +kernel
theorem dX5_offer_47 : decode cX5_offer 47 = .ok (.if_icmp .ge 15, 3) := by decide +kernel
theorem dX5_offer_50 : decode cX5_offer 50 = .ok (.aload_n 0, 1) := by decide +kernel
theorem dX5_offer_51 : decode cX5_offer 51 = .ok (.getfield 19, 3) := by decide +kernel
theorem dX5_offer_54 : decode cX5_offer 54 = .ok (.iload_n 1, 1) := by decide +kernel
theorem dX5_offer_55 : decode cX5_offer 55 = .ok (.iload_n 2, 1) := by decide +kernel
theorem dX5_offer_56 : decode cX5_offer 56 = .ok (.invokevirtual 90, 3) := by decide +kernel
theorem dX5_offer_59 : decode cX5_offer 59 = .ok (.goto 5, 3) := by decide +kernel
theorem dX5_offer_62 : decode cX5_offer 62 = .ok (.ldc 94, 2) := by decide +kernel
theorem dX5_offer_64 : decode cX5_offer 64 = .ok (.ireturn, 1) := by decide +kernel
theorem dX5_demand_0 : decode cX5_demand 0 = .ok (.iload_n 1, 1) := by decide +kernel
theorem dX5_demand_1 : decode cX5_demand 1 = .ok (.bipush 12, 2) := by decide +kernel
theorem dX5_demand_3 : decode cX5_demand 3 = .ok (.invokestatic 48, 3) := by decide +kernel
theorem dX5_demand_6 : decode cX5_demand 6 = .ok (.ifCond .ne 6, 3) := by decide +kernel
theorem dX5_demand_9 : decode cX5_demand 9 = .ok (.ldc 52, 2) := by decide +kernel
theorem dX5_demand_11 : decode cX5_demand 11 = .ok (.ireturn, 1) := by decide +kernel
theorem dX5_demand_12 : decode cX5_demand 12 = .ok (.aload_n 0, 1) := by decide +kernel
theorem dX5_demand_13 : decode cX5_demand 13 = .ok (.getfield 19, 3) := by decide +kernel
theorem dX5_demand_16 : decode cX5_demand 16 = .ok (.iload_n 1, 1) := by decide +kernel
theorem dX5_demand_17 : decode cX5_demand 17 = .ok (.invokevirtual 95, 3) := by decide +kernel
theorem dX5_demand_20 : decode cX5_demand 20 = .ok (.ifCond .eq 14, 3) := by decide +kernel
theorem dX5_demand_23 : decode cX5_demand 23 = .ok (.aload_n 0, 1) := by decide +kernel
theorem dX5_demand_24 : decode cX5_demand 24 = .ok (.getfield 19, 3) := by decide +kernel
theorem dX5_demand_27 : decode cX5_demand 27 = .ok (.iload_n 1, 1) := by decide +kernel
theorem dX5_demand_28 : decode cX5_demand 28 = .ok (.invokevirtual 98, 3) := by decide +kernel
theorem dX5_demand_31 : decode cX5_demand 31 = .ok (.goto 5, 3) := by decide +kernel
theorem dX5_demand_34 : decode cX5_demand 34 = .ok (.ldc 86, 2) := by decide +kernel
theorem dX5_demand_36 : decode cX5_demand 36 = .ok (.ireturn, 1) := by decide +kernel
theorem dX5_covers_0 : decode cX5_covers 0 = .ok (.iload_n 1, 1) := by decide +kernel
theorem dX5_covers_1 : decode cX5_covers 1 = .ok (.tableswitch 87 0 5 #[39, 47, 55, 63, 71, 79], 39) := by decide +kernel
theorem dX5_covers_40 : decode cX5_covers 40 = .ok (.aload_n 0, 1) := by decide +kernel
theorem dX5_covers_41 : decode cX5_covers 41 = .ok (.getfield 19, 3) := by decide +kernel
theorem dX5_covers_44 : decode cX5_covers 44 = .ok (.getfield 107, 3) := by decide +kernel
theorem dX5_covers_47 : decode cX5_covers 47 = .ok (.ireturn, 1) := by decide +kernel
theorem dX5_covers_48 : decode cX5_covers 48 = .ok (.aload_n 0, 1) := by decide +kernel
theorem dX5_covers_49 : decode cX5_covers 49 = .ok (.getfield 19, 3) := by decide +kernel
theorem dX5_covers_52 : decode cX5_covers 52 = .ok (.invokevirtual 110, 3) := by decide +kernel
theorem dX5_covers_55 : decode cX5_covers 55 = .ok (.ireturn, 1) := by decide +kernel
theorem dX5_covers_56 : decode cX5_covers 56 = .ok (.aload_n 0, 1) := by decide +kernel
theorem dX5_covers_57 : decode cX5_covers 57 = .ok (.getfield 19, 3) := by decide +kernel
theorem dX5_covers_60 : decode cX5_covers 60 = .ok (.invokevirtual 114, 3) := by decide +kernel
theorem dX5_covers_63 : decode cX5_covers 63 = .ok (.ireturn, 1) := by decide +kernel
theorem dX5_covers_64 : decode cX5_covers 64 = .ok (.aload_n 0, 1) := by decide +kernel
theorem dX5_covers_65 : decode cX5_covers 65 = .ok (.getfield 19, 3) := by decide +kernel
theorem dX5_covers_68 : decode cX5_covers 68 = .ok (.invokevirtual 117, 3) := by decide +kernel
theorem dX5_covers_71 : decode cX5_covers 71 = .ok (.ireturn, 1) := by decide +kernel
theorem dX5_covers_72 : decode cX5_covers 72 = .ok (.aload_n 0, 1) := by decide +kernel
theorem dX5_covers_73 : decode cX5_covers 73 = .ok (.getfield 19, 3) := by decide +kernel
theorem dX5_covers_76 : decode cX5_covers 76 = .ok (.getfield 83, 3) := by decide +kernel
theorem dX5_covers_79 : decode cX5_covers 79 = .ok (.ireturn, 1) := by decide +kernel
theorem dX5_covers_80 : decode cX5_covers 80 = .ok (.aload_n 0, 1) := by decide +kernel
theorem dX5_covers_81 : decode cX5_covers 81 = .ok (.getfield 19, 3) := by decide +kernel
theorem dX5_covers_84 : decode cX5_covers 84 = .ok (.getfield 120, 3) := by decide +kernel
theorem dX5_covers_87 : decode cX5_covers 87 = .ok (.ireturn, 1) := by decide +kernel
theorem dX5_covers_88 : decode cX5_covers 88 = .ok (.ldc 52, 2) := by decide +kernel
theorem dX5_covers_90 : decode cX5_covers 90 = .ok (.ireturn, 1) := by decide +kernel
theorem dX5_told_0 : decode cX5_told 0 = .ok (.aload_n 0, 1) := by decide +kernel
theorem dX5_told_1 : decode cX5_told 1 = .ok (.getfield 19, 3) := by decide +kernel
theorem dX5_told_4 : decode cX5_told 4 = .ok (.iload_n 1, 1) := by decide +kernel
theorem dX5_told_5 : decode cX5_told 5 = .ok (.invokevirtual 123, 3) := by decide +kernel
theorem dX5_told_8 : decode cX5_told 8 = .ok (.ifCond .ne 6, 3) := by decide +kernel
theorem dX5_told_11 : decode cX5_told 11 = .ok (.ldc 52, 2) := by decide +kernel
theorem dX5_told_13 : decode cX5_told 13 = .ok (.ireturn, 1) := by decide +kernel
theorem dX5_told_14 : decode cX5_told 14 = .ok (.iload_n 2, 1) := by decide +kernel
theorem dX5_told_15 : decode cX5_told 15 = .ok (.tableswitch 75 0 3 #[29, 39, 49, 58], 29) := by decide +kernel
theorem dX5_told_44 : decode cX5_told 44 = .ok (.aload_n 0, 1) := by decide +kernel
theorem dX5_told_45 : decode cX5_told 45 = .ok (.getfield 19, 3) := by decide +kernel
theorem dX5_told_48 : decode cX5_told 48 = .ok (.getfield 126, 3) := by decide +kernel
theorem dX5_told_51 : decode cX5_told 51 = .ok (.iload_n 1, 1) := by decide +kernel
theorem dX5_told_52 : decode cX5_told 52 = .ok (.iaload, 1) := by decide +kernel
theorem dX5_told_53 : decode cX5_told 53 = .ok (.ireturn, 1) := by decide +kernel
theorem dX5_told_54 : decode cX5_told 54 = .ok (.aload_n 0, 1) := by decide +kernel
theorem dX5_told_55 : decode cX5_told 55 = .ok (.getfield 19, 3) := by decide +kernel
theorem dX5_told_58 : decode cX5_told 58 = .ok (.getfield 130, 3) := by decide +kernel
theorem dX5_told_61 : decode cX5_told 61 = .ok (.iload_n 1, 1) := by decide +kernel
theorem dX5_told_62 : decode cX5_told 62 = .ok (.iaload, 1) := by decide +kernel
theorem dX5_told_63 : decode cX5_told 63 = .ok (.ireturn, 1) := by decide +kernel
theorem dX5_told_64 : decode cX5_told 64 = .ok (.aload_n 0, 1) := by decide +kernel
theorem dX5_told_65 : decode cX5_told 65 = .ok (.getfield 19, 3) := by decide +kernel
theorem dX5_told_68 : decode cX5_told 68 = .ok (.iload_n 1, 1) := by decide +kernel
theorem dX5_told_69 : decode cX5_told 69 = .ok (.invokevirtual 133, 3) := by decide +kernel
theorem dX5_told_72 : decode cX5_told 72 = .ok (.ireturn, 1) := by decide +kernel
theorem dX5_told_73 : decode cX5_told 73 = .ok (.aload_n 0, 1) := by decide +kernel
theorem dX5_told_74 : decode cX5_told 74 = .ok (.getfield 19, 3) := by decide +kernel
theorem dX5_told_77 : decode cX5_told 77 = .ok (.iload_n 1, 1) := by decide +kernel
theorem dX5_told_78 : decode cX5_told 78 = .ok (.invokevirtual 136, 3) := by decide +kernel
theorem dX5_told_81 : decode cX5_told 81 = .ok (.ifCond .eq 7, 3) := by decide +kernel
theorem dX5_told_84 : decode cX5_told 84 = .ok (.iconst 1, 1) := by decide +kernel
theorem dX5_told_85 : decode cX5_told 85 = .ok (.goto 4, 3) := by decide +kernel
theorem dX5_told_88 : decode cX5_told 88 = .ok (.iconst 0, 1) := by decide +kernel
theorem dX5_told_89 : decode cX5_told 89 = .ok (.ireturn, 1) := by decide +kernel
theorem dX5_told_90 : decode cX5_told 90 = .ok (.ldc 52, 2) := by decide +kernel
theorem dX5_told_92 : decode cX5_told 92 = .ok (.ireturn, 1) := by decide +kernel
theorem dX5_price_0 : decode cX5_price 0 = .ok (.iload_n 1, 1) := by decide +kernel
theorem dX5_price_1 : decode cX5_price 1 = .ok (.bipush 12, 2) := by decide +kernel
theorem dX5_price_3 : decode cX5_price 3 = .ok (.invokestatic 48, 3) := by decide +kernel
theorem dX5_price_6 : decode cX5_price 6 = .ok (.ifCond .eq 15, 3) := by decide +kernel
theorem dX5_price_9 : decode cX5_price 9 = .ok (.aload_n 0, 1) := by decide +kernel
theorem dX5_price_10 : decode cX5_price 10 = .ok (.getfield 19, 3) := by decide +kernel
theorem dX5_price_13 : decode cX5_price 13 = .ok (.getfield 139, 3) := by decide +kernel
theorem dX5_price_16 : decode cX5_price 16 = .ok (.iload_n 1, 1) := by decide +kernel
theorem dX5_price_17 : decode cX5_price 17 = .ok (.iaload, 1) := by decide +kernel
theorem dX5_price_18 : decode cX5_price 18 = .ok (.goto 5, 3) := by decide +kernel
theorem dX5_price_21 : decode cX5_price 21 = .ok (.ldc 52, 2) := by decide +kernel
theorem dX5_price_23 : decode cX5_price 23 = .ok (.ireturn, 1) := by decide +kernel
theorem dX5_kind_0 : decode cX5_kind 0 = .ok (.aload_n 0, 1) := by decide +kernel
theorem dX5_kind_1 : decode cX5_kind 1 = .ok (.getfield 19, 3) := by decide +kernel
theorem dX5_kind_4 : decode cX5_kind 4 = .ok (.iload_n 1, 1) := by decide +kernel
theorem dX5_kind_5 : decode cX5_kind 5 = .ok (.invokevirtual 123, 3) := by decide +kernel
theorem dX5_kind_8 : decode cX5_kind 8 = .ok (.ifCond .eq 14, 3) := by decide +kernel
theorem dX5_kind_11 : decode cX5_kind 11 = .ok (.aload_n 0, 1) := by decide +kernel
theorem dX5_kind_12 : decode cX5_kind 12 = .ok (.getfield 19, 3) := by decide +kernel
theorem dX5_kind_15 : decode cX5_kind 15 = .ok (.iload_n 1, 1) := by decide +kernel
theorem dX5_kind_16 : decode cX5_kind 16 = .ok (.invokevirtual 192, 3) := by decide +kernel
theorem dX5_kind_19 : decode cX5_kind 19 = .ok (.goto 5, 3) := by decide +kernel
theorem dX5_kind_22 : decode cX5_kind 22 = .ok (.ldc 52, 2) := by decide +kernel
theorem dX5_kind_24 : decode cX5_kind 24 = .ok (.ireturn, 1) := by decide +kernel
theorem dX5_as_0 : decode cX5_as 0 = .ok (.aload_n 0, 1) := by decide +kernel
theorem dX5_as_1 : decode cX5_as 1 = .ok (.getfield 19, 3) := by decide +kernel
theorem dX5_as_4 : decode cX5_as 4 = .ok (.iload_n 1, 1) := by decide +kernel
theorem dX5_as_5 : decode cX5_as 5 = .ok (.invokevirtual 123, 3) := by decide +kernel
theorem dX5_as_8 : decode cX5_as 8 = .ok (.ifCond .eq 11, 3) := by decide +kernel
theorem dX5_as_11 : decode cX5_as 11 = .ok (.iload_n 2, 1) := by decide +kernel
theorem dX5_as_12 : decode cX5_as 12 = .ok (.iconst 4, 1) := by decide +kernel
theorem dX5_as_13 : decode cX5_as 13 = .ok (.invokestatic 48, 3) := by decide +kernel
theorem dX5_as_16 : decode cX5_as 16 = .ok (.ifCond .ne 6, 3) := by decide +kernel
theorem dX5_as_19 : decode cX5_as 19 = .ok (.ldc 52, 2) := by decide +kernel
theorem dX5_as_21 : decode cX5_as 21 = .ok (.ireturn, 1) := by decide +kernel
theorem dX5_as_22 : decode cX5_as 22 = .ok (.aload_n 0, 1) := by decide +kernel
theorem dX5_as_23 : decode cX5_as 23 = .ok (.aload_n 0, 1) := by decide +kernel
theorem dX5_as_24 : decode cX5_as 24 = .ok (.getfield 19, 3) := by decide +kernel
theorem dX5_as_27 : decode cX5_as 27 = .ok (.iload_n 1, 1) := by decide +kernel
theorem dX5_as_28 : decode cX5_as 28 = .ok (.iload_n 2, 1) := by decide +kernel
theorem dX5_as_29 : decode cX5_as 29 = .ok (.invokevirtual 195, 3) := by decide +kernel
theorem dX5_as_32 : decode cX5_as 32 = .ok (.ifCond .eq 7, 3) := by decide +kernel
theorem dX5_as_35 : decode cX5_as 35 = .ok (.iconst 0, 1) := by decide +kernel
theorem dX5_as_36 : decode cX5_as 36 = .ok (.goto 4, 3) := by decide +kernel
theorem dX5_as_39 : decode cX5_as 39 = .ok (.iconst 3, 1) := by decide +kernel
theorem dX5_as_40 : decode cX5_as 40 = .ok (.putfield 44, 3) := by decide +kernel
theorem dX5_as_43 : decode cX5_as 43 = .ok (.aload_n 0, 1) := by decide +kernel
theorem dX5_as_44 : decode cX5_as 44 = .ok (.getfield 44, 3) := by decide +kernel
theorem dX5_as_47 : decode cX5_as 47 = .ok (.ifCond .ne 15, 3) := by decide +kernel
theorem dX5_as_50 : decode cX5_as 50 = .ok (.aload_n 0, 1) := by decide +kernel
theorem dX5_as_51 : decode cX5_as 51 = .ok (.getfield 19, 3) := by decide +kernel
theorem dX5_as_54 : decode cX5_as 54 = .ok (.getfield 126, 3) := by decide +kernel
theorem dX5_as_57 : decode cX5_as 57 = .ok (.iload_n 1, 1) := by decide +kernel
theorem dX5_as_58 : decode cX5_as 58 = .ok (.iaload, 1) := by decide +kernel
theorem dX5_as_59 : decode cX5_as 59 = .ok (.goto 10, 3) := by decide +kernel
theorem dX5_as_62 : decode cX5_as 62 = .ok (.ldc 57, 2) := by decide +kernel
theorem dX5_as_64 : decode cX5_as 64 = .ok (.aload_n 0, 1) := by decide +kernel
theorem dX5_as_65 : decode cX5_as 65 = .ok (.getfield 44, 3) := by decide +kernel
theorem dX5_as_68 : decode cX5_as 68 = .ok (.isub, 1) := by decide +kernel
theorem dX5_as_69 : decode cX5_as 69 = .ok (.ireturn, 1) := by decide +kernel
theorem dX5_ask_0 : decode cX5_ask 0 = .ok (.aload_n 0, 1) := by decide +kernel
theorem dX5_ask_1 : decode cX5_ask 1 = .ok (.getfield 19, 3) := by decide +kernel
theorem dX5_ask_4 : decode cX5_ask 4 = .ok (.iload_n 1, 1) := by decide +kernel
theorem dX5_ask_5 : decode cX5_ask 5 = .ok (.invokevirtual 123, 3) := by decide +kernel
theorem dX5_ask_8 : decode cX5_ask 8 = .ok (.ifCond .ne 6, 3) := by decide +kernel
theorem dX5_ask_11 : decode cX5_ask 11 = .ok (.ldc 52, 2) := by decide +kernel
theorem dX5_ask_13 : decode cX5_ask 13 = .ok (.ireturn, 1) := by decide +kernel
theorem dX5_ask_14 : decode cX5_ask 14 = .ok (.iload_n 2, 1) := by decide +kernel
theorem dX5_ask_15 : decode cX5_ask 15 = .ok (.lookupswitch 51 #[(0, 25), (1, 38)], 25) := by decide +kernel
theorem dX5_ask_40 : decode cX5_ask 40 = .ok (.aload_n 0, 1) := by decide +kernel
theorem dX5_ask_41 : decode cX5_ask 41 = .ok (.getfield 40, 3) := by decide +kernel
theorem dX5_ask_44 : decode cX5_ask 44 = .ok (.aload_n 0, 1) := by decide +kernel
theorem dX5_ask_45 : decode cX5_ask 45 = .ok (.getfield 19, 3) := by decide +kernel
theorem dX5_ask_48 : decode cX5_ask 48 = .ok (.iload_n 1, 1) := by decide +kernel
theorem dX5_ask_49 : decode cX5_ask 49 = .ok (.invokevirtual 198, 3) := by decide +kernel
theorem dX5_ask_52 : decode cX5_ask 52 = .ok (.ireturn, 1) := by decide +kernel
theorem dX5_ask_53 : decode cX5_ask 53 = .ok (.aload_n 0, 1) := by decide +kernel
theorem dX5_ask_54 : decode cX5_ask 54 = .ok (.getfield 40, 3) := by decide +kernel
theorem dX5_ask_57 : decode cX5_ask 57 = .ok (.aload_n 0, 1) := by decide +kernel
theorem dX5_ask_58 : decode cX5_ask 58 = .ok (.getfield 19, 3) := by decide +kernel
theorem dX5_ask_61 : decode cX5_ask 61 = .ok (.iload_n 1, 1) := by decide +kernel
theorem dX5_ask_62 : decode cX5_ask 62 = .ok (.invokevirtual 202, 3) := by decide +kernel
theorem dX5_ask_65 : decode cX5_ask 65 = .ok (.ireturn, 1) := by decide +kernel
theorem dX5_ask_66 : decode cX5_ask 66 = .ok (.ldc 52, 2) := by decide +kernel
theorem dX5_ask_68 : decode cX5_ask 68 = .ok (.ireturn, 1) := by decide +kernel
theorem dX5_trace_0 : decode cX5_trace 0 = .ok (.iload_n 1, 1) := by decide +kernel
theorem dX5_trace_1 : decode cX5_trace 1 = .ok (.aload_n 0, 1) := by decide +kernel
theorem dX5_trace_2 : decode cX5_trace 2 = .ok (.getfield 40, 3) := by decide +kernel
theorem dX5_trace_5 : decode cX5_trace 5 = .ok (.getfield 205, 3) := by decide +kernel
theorem dX5_trace_8 : decode cX5_trace 8 = .ok (.invokestatic 48, 3) := by decide +kernel
theorem dX5_trace_11 : decode cX5_trace 11 = .ok (.ifCond .eq 15, 3) := by decide +kernel
theorem dX5_trace_14 : decode cX5_trace 14 = .ok (.aload_n 0, 1) := by decide +kernel
theorem dX5_trace_15 : decode cX5_trace 15 = .ok (.getfield 40, 3) := by decide +kernel
theorem dX5_trace_18 : decode cX5_trace 18 = .ok (.getfield 208, 3) := by decide +kernel
theorem dX5_trace_21 : decode cX5_trace 21 = .ok (.iload_n 1, 1) := by decide +kernel
theorem dX5_trace_22 : decode cX5_trace 22 = .ok (.iaload, 1) := by decide +kernel
theorem dX5_trace_23 : decode cX5_trace 23 = .ok (.goto 5, 3) := by decide +kernel
theorem dX5_trace_26 : decode cX5_trace 26 = .ok (.ldc 211, 2) := by decide +kernel
theorem dX5_trace_28 : decode cX5_trace 28 = .ok (.ireturn, 1) := by decide +kernel
theorem dX5_count_0 : decode cX5_count 0 = .ok (.iload_n 1, 1) := by decide +kernel
theorem dX5_count_1 : decode cX5_count 1 = .ok (.tableswitch 102 0 6 #[43, 51, 59, 70, 78, 86, 94], 43) := by decide +kernel
theorem dX5_count_44 : decode cX5_count 44 = .ok (.aload_n 0, 1) := by decide +kernel
theorem dX5_count_45 : decode cX5_count 45 = .ok (.getfield 10, 3) := by decide +kernel
theorem dX5_count_48 : decode cX5_count 48 = .ok (.invokevirtual 212, 3) := by decide +kernel
theorem dX5_count_51 : decode cX5_count 51 = .ok (.ireturn, 1) := by decide +kernel
theorem dX5_count_52 : decode cX5_count 52 = .ok (.aload_n 0, 1) := by decide +kernel
theorem dX5_count_53 : decode cX5_count 53 = .ok (.getfield 19, 3) := by decide +kernel
theorem dX5_count_56 : decode cX5_count 56 = .ok (.getfield 87, 3) := by decide +kernel
theorem dX5_count_59 : decode cX5_count 59 = .ok (.ireturn, 1) := by decide +kernel
theorem dX5_count_60 : decode cX5_count 60 = .ok (.aload_n 0, 1) := by decide +kernel
theorem dX5_count_61 : decode cX5_count 61 = .ok (.getfield 19, 3) := by decide +kernel
theorem dX5_count_64 : decode cX5_count 64 = .ok (.getfield 120, 3) := by decide +kernel
theorem dX5_count_67 : decode cX5_count 67 = .ok (.invokestatic 215, 3) := by decide +kernel
theorem dX5_count_70 : decode cX5_count 70 = .ok (.ireturn, 1) := by decide +kernel
theorem dX5_count_71 : decode cX5_count 71 = .ok (.aload_n 0, 1) := by decide +kernel
theorem dX5_count_72 : decode cX5_count 72 = .ok (.getfield 19, 3) := by decide +kernel
theorem dX5_count_75 : decode cX5_count 75 = .ok (.invokevirtual 220, 3) := by decide +kernel
theorem dX5_count_78 : decode cX5_count 78 = .ok (.ireturn, 1) := by decide +kernel
theorem dX5_count_79 : decode cX5_count 79 = .ok (.aload_n 0, 1) := by decide +kernel
theorem dX5_count_80 : decode cX5_count 80 = .ok (.getfield 26, 3) := by decide +kernel
theorem dX5_count_83 : decode cX5_count 83 = .ok (.getfield 148, 3) := by decide +kernel
theorem dX5_count_86 : decode cX5_count 86 = .ok (.ireturn, 1) := by decide +kernel
theorem dX5_count_87 : decode cX5_count 87 = .ok (.aload_n 0, 1) := by decide +kernel
theorem dX5_count_88 : decode cX5_count 88 = .ok (.getfield 33, 3) := by decide +kernel
theorem dX5_count_91 : decode cX5_count 91 = .ok (.getfield 165, 3) := by decide +kernel
theorem dX5_count_94 : decode cX5_count 94 = .ok (.ireturn, 1) := by decide +kernel
theorem dX5_count_95 : decode cX5_count 95 = .ok (.aload_n 0, 1) := by decide +kernel
theorem dX5_count_96 : decode cX5_count 96 = .ok (.getfield 33, 3) := by decide +kernel
theorem dX5_count_99 : decode cX5_count 99 = .ok (.getfield 223, 3) := by decide +kernel
theorem dX5_count_102 : decode cX5_count 102 = .ok (.ireturn, 1) := by decide +kernel
theorem dX5_count_103 : decode cX5_count 103 = .ok (.ldc 52, 2) := by decide +kernel
theorem dX5_count_105 : decode cX5_count 105 = .ok (.ireturn, 1) := by decide +kernel
theorem dX5_isUnder_0 : decode cX5_isUnder 0 = .ok (.iload_n 0, 1) := by decide +kernel
theorem dX5_isUnder_1 : decode cX5_isUnder 1 = .ok (.ifCond .lt 12, 3) := by decide +kernel
theorem dX5_isUnder_4 : decode cX5_isUnder 4 = .ok (.iload_n 0, 1) := by decide +kernel
theorem dX5_isUnder_5 : decode cX5_isUnder 5 = .ok (.iload_n 1, 1) := by decide +kernel
theorem dX5_isUnder_6 : decode cX5_isUnder 6 = .ok (.if_icmp .ge 7, 3) := by decide +kernel
theorem dX5_isUnder_9 : decode cX5_isUnder 9 = .ok (.iconst 1, 1) := by decide +kernel
theorem dX5_isUnder_10 : decode cX5_isUnder 10 = .ok (.goto 4, 3) := by decide +kernel
theorem dX5_isUnder_13 : decode cX5_isUnder 13 = .ok (.iconst 0, 1) := by decide +kernel
theorem dX5_isUnder_14 : decode cX5_isUnder 14 = .ok (.ireturn, 1) := by decide +kernel
theorem dX5_isWithin_0 : decode cX5_isWithin 0 = .ok (.iload_n 0, 1) := by decide +kernel
theorem dX5_isWithin_1 : decode cX5_isWithin 1 = .ok (.iload_n 1, 1) := by decide +kernel
theorem dX5_isWithin_2 : decode cX5_isWithin 2 = .ok (.if_icmp .lt 12, 3) := by decide +kernel
theorem dX5_isWithin_5 : decode cX5_isWithin 5 = .ok (.iload_n 0, 1) := by decide +kernel
theorem dX5_isWithin_6 : decode cX5_isWithin 6 = .ok (.iload_n 2, 1) := by decide +kernel
theorem dX5_isWithin_7 : decode cX5_isWithin 7 = .ok (.if_icmp .gt 7, 3) := by decide +kernel
theorem dX5_isWithin_10 : decode cX5_isWithin 10 = .ok (.iconst 1, 1) := by decide +kernel
theorem dX5_isWithin_11 : decode cX5_isWithin 11 = .ok (.goto 4, 3) := by decide +kernel
theorem dX5_isWithin_14 : decode cX5_isWithin 14 = .ok (.iconst 0, 1) := by decide +kernel
theorem dX5_isWithin_15 : decode cX5_isWithin 15 = .ok (.ireturn, 1) := by decide +kernel
theorem dX5_holds_0 : decode cX5_holds 0 = .ok (.iload_n 0, 1) := by decide +kernel
theorem dX5_holds_1 : decode cX5_holds 1 = .ok (.iload_n 1, 1) := by decide +kernel
theorem dX5_holds_2 : decode cX5_holds 2 = .ok (.iushr, 1) := by decide +kernel
theorem dX5_holds_3 : decode cX5_holds 3 = .ok (.iconst 1, 1) := by decide +kernel
theorem dX5_holds_4 : decode cX5_holds 4 = .ok (.iand, 1) := by decide +kernel
theorem dX5_holds_5 : decode cX5_holds 5 = .ok (.ifCond .eq 7, 3) := by decide +kernel
theorem dX5_holds_8 : decode cX5_holds 8 = .ok (.iconst 1, 1) := by decide +kernel
theorem dX5_holds_9 : decode cX5_holds 9 = .ok (.goto 4, 3) := by decide +kernel
theorem dX5_holds_12 : decode cX5_holds 12 = .ok (.iconst 0, 1) := by decide +kernel
theorem dX5_holds_13 : decode cX5_holds 13 = .ok (.ireturn, 1) := by decide +kernel
