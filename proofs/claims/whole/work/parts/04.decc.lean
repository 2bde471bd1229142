theorem dX6_init_0 : decode cX6_init 0 = .ok (.aload_n 0, 1) := by decide +kernel
theorem dX6_init_1 : decode cX6_init 1 = .ok (.invokespecial 1, 3) := by decide +kernel
theorem dX6_init_4 : decode cX6_init 4 = .ok (.aload_n 0, 1) := by decide +kernel
theorem dX6_init_5 : decode cX6_init 5 = .ok (.bipush 8, 2) := by decide +kernel
theorem dX6_init_7 : decode cX6_init 7 = .ok (.newarray .int, 2) := by decide +kernel
theorem dX6_init_9 : decode cX6_init 9 = .ok (.dup, 1) := by decide +kernel
theorem dX6_init_10 : decode cX6_init 10 = .ok (.iconst 0, 1) := by decide +kernel
theorem dX6_init_11 : decode cX6_init 11 = .ok (.iconst (-1), 1) := by decide +kernel
theorem dX6_init_12 : decode cX6_init 12 = .ok (.iastore, 1) := by decide +kernel
theorem dX6_init_13 : decode cX6_init 13 = .ok (.dup, 1) := by decide +kernel
theorem dX6_init_14 : decode cX6_init 14 = .ok (.iconst 1, 1) := by decide +kernel
theorem dX6_init_15 : decode cX6_init 15 = .ok (.iconst (-1), 1) := by decide +kernel
theorem dX6_init_16 : decode cX6_init 16 = .ok (.iastore, 1) := by decide +kernel
theorem dX6_init_17 : decode cX6_init 17 = .ok (.dup, 1) := by decide +kernel
theorem dX6_init_18 : decode cX6_init 18 = .ok (.iconst 2, 1) := by decide +kernel
theorem dX6_init_19 : decode cX6_init 19 = .ok (.iconst (-1), 1) := by decide +kernel
theorem dX6_init_20 : decode cX6_init 20 = .ok (.iastore, 1) := by decide +kernel
theorem dX6_init_21 : decode cX6_init 21 = .ok (.dup, 1) := by decide +kernel
theorem dX6_init_22 : decode cX6_init 22 = .ok (.iconst 3, 1) := by decide +kernel
theorem dX6_init_23 : decode cX6_init 23 = .ok (.iconst (-1), 1) := by decide +kernel
theorem dX6_init_24 : decode cX6_init 24 = .ok (.iastore, 1) := by decide +kernel
theorem dX6_init_25 : decode cX6_init 25 = .ok (.dup, 1) := by decide +kernel
theorem dX6_init_26 : decode cX6_init 26 = .ok (.iconst 4, 1) := by decide +kernel
theorem dX6_init_27 : decode cX6_init 27 = .ok (.iconst (-1), 1) := by decide +kernel
theorem dX6_init_28 : decode cX6_init 28 = .ok (.iastore, 1) := by decide +kernel
theorem dX6_init_29 : decode cX6_init 29 = .ok (.dup, 1) := by decide +kernel
theorem dX6_init_30 : decode cX6_init 30 = .ok (.iconst 5, 1) := by decide +kernel
theorem dX6_init_31 : decode cX6_init 31 = .ok (.iconst (-1), 1) := by decide +kernel
theorem dX6_init_32 : decode cX6_init 32 = .ok (.iastore, 1) := by decide +kernel
theorem dX6_init_33 : decode cX6_init 33 = .ok (.dup, 1) := by decide +kernel
theorem dX6_init_34 : decode cX6_init 34 = .ok (.bipush 6, 2) := by decide +kernel
theorem dX6_init_36 : decode cX6_init 36 = .ok (.iconst (-1), 1) := by decide +kernel
theorem dX6_init_37 : decode cX6_init 37 = .ok (.iastore, 1) := by decide +kernel
theorem dX6_init_38 : decode cX6_init 38 = .ok (.dup, 1) := by decide +kernel
theorem dX6_init_39 : decode cX6_init 39 = .ok (.bipush 7, 2) := by decide +kernel
theorem dX6_init_41 : decode cX6_init 41 = .ok (.iconst (-1), 1) := by decide +kernel
theorem dX6_init_42 : decode cX6_init 42 = .ok (.iastore, 1) := by decide +kernel
theorem dX6_init_43 : decode cX6_init 43 = .ok (.putfield 7, 3) := by decide +kernel
theorem dX6_init_46 : decode cX6_init 46 = .ok (.aload_n 0, 1) := by decide +kernel
theorem dX6_init_47 : decode cX6_init 47 = .ok (.bipush 8, 2) := by decide +kernel
theorem dX6_init_49 : decode cX6_init 49 = .ok (.newarray .int, 2) := by decide +kernel
theorem dX6_init_51 : decode cX6_init 51 = .ok (.putfield 13, 3) := by decide +kernel
theorem dX6_init_54 : decode cX6_init 54 = .ok (.aload_n 0, 1) := by decide +kernel
theorem dX6_init_55 : decode cX6_init 55 = .ok (.sipush 480, 3) := by decide +kernel
theorem dX6_init_58 : decode cX6_init 58 = .ok (.newarray .int, 2) := by decide +kernel
theorem dX6_init_60 : decode cX6_init 60 = .ok (.putfield 16, 3) := by decide +kernel
theorem dX6_init_63 : decode cX6_init 63 = .ok (.aload_n 0, 1) := by decide +kernel
theorem dX6_init_64 : decode cX6_init 64 = .ok (.bipush 10, 2) := by decide +kernel
theorem dX6_init_66 : decode cX6_init 66 = .ok (.newarray .int, 2) := by decide +kernel
theorem dX6_init_68 : decode cX6_init 68 = .ok (.putfield 19, 3) := by decide +kernel
theorem dX6_init_71 : decode cX6_init 71 = .ok (.aload_n 0, 1) := by decide +kernel
theorem dX6_init_72 : decode cX6_init 72 = .ok (.bipush 10, 2) := by decide +kernel
theorem dX6_init_74 : decode cX6_init 74 = .ok (.newarray .int, 2) := by decide +kernel
theorem dX6_init_76 : decode cX6_init 76 = .ok (.putfield 22, 3) := by decide +kernel
theorem dX6_init_79 : decode cX6_init 79 = .ok (.aload_n 0, 1) := by decide +kernel
theorem dX6_init_80 : decode cX6_init 80 = .ok (.bipush 12, 2) := by decide +kernel
theorem dX6_init_82 : decode cX6_init 82 = .ok (.newarray .int, 2) := by decide +kernel
theorem dX6_init_84 : decode cX6_init 84 = .ok (.putfield 25, 3) := by decide +kernel
theorem dX6_init_87 : decode cX6_init 87 = .ok (.aload_n 0, 1) := by decide +kernel
theorem dX6_init_88 : decode cX6_init 88 = .ok (.iconst 4, 1) := by decide +kernel
theorem dX6_init_89 : decode cX6_init 89 = .ok (.newarray .int, 2) := by decide +kernel
theorem dX6_init_91 : decode cX6_init 91 = .ok (.putfield 28, 3) := by decide +kernel
theorem dX6_init_94 : decode cX6_init 94 = .ok (.aload_n 0, 1) := by decide +kernel
theorem dX6_init_95 : decode cX6_init 95 = .ok (.iconst 4, 1) := by decide +kernel
theorem dX6_init_96 : decode cX6_init 96 = .ok (.newarray .int, 2) := by decide +kernel
theorem dX6_init_98 : decode cX6_init 98 = .ok (.putfield 31, 3) := by decide +kernel
theorem dX6_init_101 : decode cX6_init 101 = .ok (.aload_n 0, 1) := by decide +kernel
theorem dX6_init_102 : decode cX6_init 102 = .ok (.sipush 128, 3) := by decide +kernel
theorem dX6_init_105 : decode cX6_init 105 = .ok (.newarray .boolean, 2) := by decide +kernel
theorem dX6_init_107 : decode cX6_init 107 = .ok (.putfield 34, 3) := by decide +kernel
theorem dX6_init_110 : decode cX6_init 110 = .ok (.aload_n 0, 1) := by decide +kernel
theorem dX6_init_111 : decode cX6_init 111 = .ok (.sipush 128, 3) := by decide +kernel
theorem dX6_init_114 : decode cX6_init 114 = .ok (.newarray .int, 2) := by decide +kernel
theorem dX6_init_116 : decode cX6_init 116 = .ok (.putfield 38, 3) := by decide +kernel
theorem dX6_init_119 : decode cX6_init 119 = .ok (.aload_n 0, 1) := by decide +kernel
theorem dX6_init_120 : decode cX6_init 120 = .ok (.sipush 512, 3) := by decide +kernel
theorem dX6_init_123 : decode cX6_init 123 = .ok (.newarray .boolean, 2) := by decide +kernel
theorem dX6_init_125 : decode cX6_init 125 = .ok (.putfield 41, 3) := by decide +kernel
theorem dX6_init_128 : decode cX6_init 128 = .ok (.aload_n 0, 1) := by decide +kernel
theorem dX6_init_129 : decode cX6_init 129 = .ok (.iconst (-1), 1) := by decide +kernel
theorem dX6_init_130 : decode cX6_init 130 = .ok (.putfield 44, 3) := by decide +kernel
theorem dX6_init_133 : decode cX6_init 133 = .ok (.aload_n 0, 1) := by decide +kernel
theorem dX6_init_134 : decode cX6_init 134 = .ok (.sipush 128, 3) := by decide +kernel
theorem dX6_init_137 : decode cX6_init 137 = .ok (.newarray .int, 2) := by decide +kernel
theorem dX6_init_139 : decode cX6_init 139 = .ok (.putfield 48, 3) := by decide +kernel
theorem dX6_init_142 : decode cX6_init 142 = .ok (.aload_n 0, 1) := by decide +kernel
theorem dX6_init_143 : decode cX6_init 143 = .ok (.bipush 100, 2) := by decide +kernel
theorem dX6_init_145 : decode cX6_init 145 = .ok (.newarray .int, 2) := by decide +kernel
theorem dX6_init_147 : decode cX6_init 147 = .ok (.putfield 51, 3) := by decide +kernel
theorem dX6_init_150 : decode cX6_init 150 = .ok (.aload_n 0, 1) := by decide +kernel
theorem dX6_init_151 : decode cX6_init 151 = .ok (.bipush 100, 2) := by decide +kernel
theorem dX6_init_153 : decode cX6_init 153 = .ok (.newarray .boolean, 2) := by decide +kernel
theorem dX6_init_155 : decode cX6_init 155 = .ok (.putfield 54, 3) := by decide +kernel
theorem dX6_init_158 : decode cX6_init 158 = .ok (.aload_n 0, 1) := by decide +kernel
theorem dX6_init_159 : decode cX6_init 159 = .ok (.bipush 10, 2) := by decide +kernel
theorem dX6_init_161 : decode cX6_init 161 = .ok (.newarray .int, 2) := by decide +kernel
theorem dX6_init_163 : decode cX6_init 163 = .ok (.putfield 57, 3) := by decide +kernel
theorem dX6_init_166 : decode cX6_init 166 = .ok (.aload_n 0, 1) := by decide +kernel
theorem dX6_init_167 : decode cX6_init 167 = .ok (.bipush 10, 2) := by decide +kernel
theorem dX6_init_169 : decode cX6_init 169 = .ok (.newarray .int, 2) := by decide +kernel
theorem dX6_init_171 : decode cX6_init 171 = .ok (.putfield 60, 3) := by decide +kernel
theorem dX6_init_174 : decode cX6_init 174 = .ok (.aload_n 0, 1) := by decide +kernel
theorem dX6_init_175 : decode cX6_init 175 = .ok (.bipush 16, 2) := by decide +kernel
theorem dX6_init_177 : decode cX6_init 177 = .ok (.newarray .int, 2) := by decide +kernel
theorem dX6_init_179 : decode cX6_init 179 = .ok (.putfield 63, 3) := by decide +kernel
theorem dX6_init_182 : decode cX6_init 182 = .ok (.return_, 1) := by decide +kernel
theorem dX6_in_0 : decode cX6_in 0 = .ok (.lload_n 0, 1) := by decide +kernel
theorem dX6_in_1 : decode cX6_in 1 = .ok (.lload_n 2, 1) := by decide +kernel
theorem dX6_in_2 : decode cX6_in 2 = .ok (.lcmp, 1) := by decide +kernel
theorem dX6_in_3 : decode cX6_in 3 = .ok (.ifCond .lt 14, 3) := by decide +kernel
theorem dX6_in_6 : decode cX6_in 6 = .ok (.lload_n 0, 1) := by decide +kernel
theorem dX6_in_7 : decode cX6_in 7 = .ok (.lload 4, 2) := by decide +kernel
theorem dX6_in_9 : decode cX6_in 9 = .ok (.lcmp, 1) := by decide +kernel
theorem dX6_in_10 : decode cX6_in 10 = .ok (.ifCond .gt 7, 3) := by decide +kernel
theorem dX6_in_13 : decode cX6_in 13 = .ok (.iconst 1, 1) := by decide +kernel
theorem dX6_in_14 : decode cX6_in 14 = .ok (.goto 4, 3) := by decide +kernel
theorem dX6_in_17 : decode cX6_in 17 = .ok (.iconst 0, 1) := by decide +kernel
theorem dX6_in_18 : decode cX6_in 18 = .ok (.ireturn, 1) := by decide +kernel
theorem dX6_found_0 : decode cX6_found 0 = .ok (.aload_n 0, 1) := by decide +kernel
theorem dX6_found_1 : decode cX6_found 1 = .ok (.iload_n 1, 1) := by decide +kernel
theorem dX6_found_2 : decode cX6_found 2 = .ok (.putfield 69, 3) := by decide +kernel
theorem dX6_found_5 : decode cX6_found 5 = .ok (.ldc 72, 2) := by decide +kernel
theorem dX6_found_7 : decode cX6_found 7 = .ok (.iload_n 1, 1) := by decide +kernel
theorem dX6_found_8 : decode cX6_found 8 = .ok (.isub, 1) := by decide +kernel
theorem dX6_found_9 : decode cX6_found 9 = .ok (.ireturn, 1) := by decide +kernel
theorem dX6_isSheet_0 : decode cX6_isSheet 0 = .ok (.iload_n 0, 1) := by decide +kernel
theorem dX6_isSheet_1 : decode cX6_isSheet 1 = .ok (.i2l, 1) := by decide +kernel
theorem dX6_isSheet_2 : decode cX6_isSheet 2 = .ok (.lconst 0, 1) := by decide +kernel
theorem dX6_isSheet_3 : decode cX6_isSheet 3 = .ok (.ldc2_w 73, 3) := by decide +kernel
theorem dX6_isSheet_6 : decode cX6_isSheet 6 = .ok (.invokestatic 75, 3) := by decide +kernel
theorem dX6_isSheet_9 : decode cX6_isSheet 9 = .ok (.ireturn, 1) := by decide +kernel
theorem dX6_sheet_0 : decode cX6_sheet 0 = .ok (.aload_n 0, 1) := by decide +kernel
theorem dX6_sheet_1 : decode cX6_sheet 1 = .ok (.iconst 0, 1) := by decide +kernel
theorem dX6_sheet_2 : decode cX6_sheet 2 = .ok (.putfield 66, 3) := by decide +kernel
theorem dX6_sheet_5 : decode cX6_sheet 5 = .ok (.iload_n 1, 1) := by decide +kernel
theorem dX6_sheet_6 : decode cX6_sheet 6 = .ok (.invokestatic 79, 3) := by decide +kernel
theorem dX6_sheet_9 : decode cX6_sheet 9 = .ok (.ifCond .eq 21, 3) := by decide +kernel
theorem dX6_sheet_12 : decode cX6_sheet 12 = .ok (.iload_n 2, 1) := by decide +kernel
theorem dX6_sheet_13 : decode cX6_sheet 13 = .ok (.i2l, 1) := by decide +kernel
theorem dX6_sheet_14 : decode cX6_sheet 14 = .ok (.lconst 0, 1) := by decide +kernel
theorem dX6_sheet_15 : decode cX6_sheet 15 = .ok (.ldc2_w 83, 3) := by decide +kernel
theorem dX6_sheet_18 : decode cX6_sheet 18 = .ok (.invokestatic 75, 3) := by decide +kernel
theorem dX6_sheet_21 : decode cX6_sheet 21 = .ok (.ifCond .eq 9, 3) := by decide +kernel
theorem dX6_sheet_24 : decode cX6_sheet 24 = .ok (.iload_n 3, 1) := by decide +kernel
theorem dX6_sheet_25 : decode cX6_sheet 25 = .ok (.bipush 60, 2) := by decide +kernel
theorem dX6_sheet_27 : decode cX6_sheet 27 = .ok (.if_icmp .le 6, 3) := by decide +kernel
theorem dX6_sheet_30 : decode cX6_sheet 30 = .ok (.ldc 85, 2) := by decide +kernel
theorem dX6_sheet_32 : decode cX6_sheet 32 = .ok (.ireturn, 1) := by decide +kernel
theorem dX6_sheet_33 : decode cX6_sheet 33 = .ok (.aload_n 0, 1) := by decide +kernel
theorem dX6_sheet_34 : decode cX6_sheet 34 = .ok (.iconst 0, 1) := by decide +kernel
theorem dX6_sheet_35 : decode cX6_sheet 35 = .ok (.putfield 69, 3) := by decide +kernel
theorem dX6_sheet_38 : decode cX6_sheet 38 = .ok (.iload_n 3, 1) := by decide +kernel
theorem dX6_sheet_39 : decode cX6_sheet 39 = .ok (.ifCond .ge 9, 3) := by decide +kernel
theorem dX6_sheet_42 : decode cX6_sheet 42 = .ok (.aload_n 0, 1) := by decide +kernel
theorem dX6_sheet_43 : decode cX6_sheet 43 = .ok (.iconst 4, 1) := by decide +kernel
theorem dX6_sheet_44 : decode cX6_sheet 44 = .ok (.invokevirtual 86, 3) := by decide +kernel
theorem dX6_sheet_47 : decode cX6_sheet 47 = .ok (.ireturn, 1) := by decide +kernel
theorem dX6_sheet_48 : decode cX6_sheet 48 = .ok (.aload_n 0, 1) := by decide +kernel
theorem dX6_sheet_49 : decode cX6_sheet 49 = .ok (.getfield 7, 3) := by decide +kernel
theorem dX6_sheet_52 : decode cX6_sheet 52 = .ok (.iload_n 1, 1) := by decide +kernel
theorem dX6_sheet_53 : decode cX6_sheet 53 = .ok (.iload_n 2, 1) := by decide +kernel
theorem dX6_sheet_54 : decode cX6_sheet 54 = .ok (.iastore, 1) := by decide +kernel
theorem dX6_sheet_55 : decode cX6_sheet 55 = .ok (.aload_n 0, 1) := by decide +kernel
theorem dX6_sheet_56 : decode cX6_sheet 56 = .ok (.getfield 13, 3) := by decide +kernel
theorem dX6_sheet_59 : decode cX6_sheet 59 = .ok (.iload_n 1, 1) := by decide +kernel
theorem dX6_sheet_60 : decode cX6_sheet 60 = .ok (.iload_n 3, 1) := by decide +kernel
theorem dX6_sheet_61 : decode cX6_sheet 61 = .ok (.iastore, 1) := by decide +kernel
theorem dX6_sheet_62 : decode cX6_sheet 62 = .ok (.iconst 0, 1) := by decide +kernel
theorem dX6_sheet_63 : decode cX6_sheet 63 = .ok (.istore 4, 2) := by decide +kernel
theorem dX6_sheet_65 : decode cX6_sheet 65 = .ok (.iload 4, 2) := by decide +kernel
theorem dX6_sheet_67 : decode cX6_sheet 67 = .ok (.bipush 60, 2) := by decide +kernel
theorem dX6_sheet_69 : decode cX6_sheet 69 = .ok (.if_icmp .ge 22, 3) := by decide +kernel
theorem dX6_sheet_72 : decode cX6_sheet 72 = .ok (.aload_n 0, 1) := by decide +kernel
theorem dX6_sheet_73 : decode cX6_sheet 73 = .ok (.getfield 16, 3) := by decide +kernel
theorem dX6_sheet_76 : decode cX6_sheet 76 = .ok (.bipush 60, 2) := by decide +kernel
theorem dX6_sheet_78 : decode cX6_sheet 78 = .ok (.iload_n 1, 1) := by decide +kernel
theorem dX6_sheet_79 : decode cX6_sheet 79 = .ok (.imul, 1) := by decide +kernel
theorem dX6_sheet_80 : decode cX6_sheet 80 = .ok (.iload 4, 2) := by decide +kernel
theorem dX6_sheet_82 : decode cX6_sheet 82 = .ok (.iadd, 1) := by decide +kernel
theorem dX6_sheet_83 : decode cX6_sheet 83 = .ok (.iconst 0, 1) := by decide +kernel
theorem dX6_sheet_84 : decode cX6_sheet 84 = .ok (.iastore, 1) := by decide +kernel
theorem dX6_sheet_85 : decode cX6_sheet 85 = .ok (.iinc 4 1, 3) := by decide +kernel
theorem dX6_sheet_88 : decode cX6_sheet 88 = .ok (.goto (-23), 3) := by decide +kernel
theorem dX6_sheet_91 : decode cX6_sheet 91 = .ok (.iload_n 3, 1) := by decide +kernel
theorem dX6_sheet_92 : decode cX6_sheet 92 = .ok (.ireturn, 1) := by decide +kernel
theorem dX6_set_0 : decode cX6_set 0 = .ok (.aload_n 0, 1) := by decide +kernel
theorem dX6_set_1 : decode cX6_set 1 = .ok (.iconst 0, 1) := by decide +kernel
theorem dX6_set_2 : decode cX6_set 2 = .ok (.putfield 66, 3) := by decide +kernel
theorem dX6_set_5 : decode cX6_set 5 = .ok (.iload_n 1, 1) := by decide +kernel
theorem dX6_set_6 : decode cX6_set 6 = .ok (.invokestatic 79, 3) := by decide +kernel
theorem dX6_set_9 : decode cX6_set 9 = .ok (.ifCond .ne 6, 3) := by decide +kernel
theorem dX6_set_12 : decode cX6_set 12 = .ok (.ldc 85, 2) := by decide +kernel
theorem dX6_set_14 : decode cX6_set 14 = .ok (.ireturn, 1) := by decide +kernel
theorem dX6_set_15 : decode cX6_set 15 = .ok (.aload_n 0, 1) := by decide +kernel
theorem dX6_set_16 : decode cX6_set 16 = .ok (.iconst 0, 1) := by decide +kernel
theorem dX6_set_17 : decode cX6_set 17 = .ok (.putfield 69, 3) := by decide +kernel
theorem dX6_set_20 : decode cX6_set 20 = .ok (.aload_n 0, 1) := by decide +kernel
theorem dX6_set_21 : decode cX6_set 21 = .ok (.getfield 7, 3) := by decide +kernel
theorem dX6_set_24 : decode cX6_set 24 = .ok (.iload_n 1, 1) := by decide +kernel
theorem dX6_set_25 : decode cX6_set 25 = .ok (.iaload, 1) := by decide +kernel
theorem dX6_set_26 : decode cX6_set 26 = .ok (.ifCond .ge 9, 3) := by decide +kernel
theorem dX6_set_29 : decode cX6_set 29 = .ok (.aload_n 0, 1) := by decide +kernel
theorem dX6_set_30 : decode cX6_set 30 = .ok (.iconst 1, 1) := by decide +kernel
theorem dX6_set_31 : decode cX6_set 31 = .ok (.invokevirtual 86, 3) := by decide +kernel
theorem dX6_set_34 : decode cX6_set 34 = .ok (.ireturn, 1) := by decide +kernel
theorem dX6_set_35 : decode cX6_set 35 = .ok (.iload_n 2, 1) := by decide +kernel
theorem dX6_set_36 : decode cX6_set 36 = .ok (.i2l, 1) := by decide +kernel
theorem dX6_set_37 : decode cX6_set 37 = .ok (.lconst 0, 1) := by decide +kernel
theorem dX6_set_38 : decode cX6_set 38 = .ok (.aload_n 0, 1) := by decide +kernel
theorem dX6_set_39 : decode cX6_set 39 = .ok (.getfield 13, 3) := by decide +kernel
theorem dX6_set_42 : decode cX6_set 42 = .ok (.iload_n 1, 1) := by decide +kernel
theorem dX6_set_43 : decode cX6_set 43 = .ok (.iaload, 1) := by decide +kernel
theorem dX6_set_44 : decode cX6_set 44 = .ok (.iconst 1, 1) := by decide +kernel
theorem dX6_set_45 : decode cX6_set 45 = .ok (.isub, 1) := by decide +kernel
theorem dX6_set_46 : decode cX6_set 46 = .ok (.i2l, 1) := by decide +kernel
theorem dX6_set_47 : decode cX6_set 47 = .ok (.invokestatic 75, 3) := by decide +kernel
theorem dX6_set_50 : decode cX6_set 50 = .ok (.ifCond .ne 9, 3) := by decide +kernel
theorem dX6_set_53 : decode cX6_set 53 = .ok (.aload_n 0, 1) := by decide +kernel
theorem dX6_set_54 : decode cX6_set 54 = .ok (.iconst 2, 1) := by decide +kernel
theorem dX6_set_55 : decode cX6_set 55 = .ok (.invokevirtual 86, 3) := by decide +kernel
theorem dX6_set_58 : decode cX6_set 58 = .ok (.ireturn, 1) := by decide +kernel
theorem dX6_set_59 : decode cX6_set 59 = .ok (.aload_n 0, 1) := by decide +kernel
theorem dX6_set_60 : decode cX6_set 60 = .ok (.getfield 16, 3) := by decide +kernel
theorem dX6_set_63 : decode cX6_set 63 = .ok (.bipush 60, 2) := by decide +kernel
theorem dX6_set_65 : decode cX6_set 65 = .ok (.iload_n 1, 1) := by decide +kernel
theorem dX6_set_66 : decode cX6_set 66 = .ok (.imul, 1) := by decide +kernel
theorem dX6_set_67 : decode cX6_set 67 = .ok (.iload_n 2, 1) := by decide +kernel
theorem dX6_set_68 : decode cX6_set 68 = .ok (.iadd, 1) := by decide +kernel
theorem dX6_set_69 : decode cX6_set 69 = .ok (.aload_n 0, 1) := by decide +kernel
theorem dX6_set_70 : decode cX6_set 70 = .ok (.getfield 7, 3) := by decide +kernel
theorem dX6_set_73 : decode cX6_set 73 = .ok (.iload_n 1, 1) := by decide +kernel
theorem dX6_set_74 : decode cX6_set 74 = .ok (.iaload, 1) := by decide +kernel
theorem dX6_set_75 : decode cX6_set 75 = .ok (.ifCond .ne 8, 3) := by decide +kernel
theorem dX6_set_78 : decode cX6_set 78 = .ok (.iload_n 3, 1) := by decide +kernel
theorem dX6_set_79 : decode cX6_set 79 = .ok (.i2b, 1) := by decide +kernel
theorem dX6_set_80 : decode cX6_set 80 = .ok (.goto 19, 3) := by decide +kernel
theorem dX6_set_83 : decode cX6_set 83 = .ok (.aload_n 0, 1) := by decide +kernel
theorem dX6_set_84 : decode cX6_set 84 = .ok (.getfield 7, 3) := by decide +kernel
theorem dX6_set_87 : decode cX6_set 87 = .ok (.iload_n 1, 1) := by decide +kernel
theorem dX6_set_88 : decode cX6_set 88 = .ok (.iaload, 1) := by decide +kernel
theorem dX6_set_89 : decode cX6_set 89 = .ok (.iconst 1, 1) := by decide +kernel
theorem dX6_set_90 : decode cX6_set 90 = .ok (.if_icmp .ne 8, 3) := by decide +kernel
theorem dX6_set_93 : decode cX6_set 93 = .ok (.iload_n 3, 1) := by decide +kernel
theorem dX6_set_94 : decode cX6_set 94 = .ok (.i2s, 1) := by decide +kernel
theorem dX6_set_95 : decode cX6_set 95 = .ok (.goto 4, 3) := by decide +kernel
theorem dX6_set_98 : decode cX6_set 98 = .ok (.iload_n 3, 1) := by decide +kernel
theorem dX6_set_99 : decode cX6_set 99 = .ok (.iastore, 1) := by decide +kernel
theorem dX6_set_100 : decode cX6_set 100 = .ok (.aload_n 0, 1) := by decide +kernel
theorem dX6_set_101 : decode cX6_set 101 = .ok (.getfield 16, 3) := by decide +kernel
theorem dX6_set_104 : decode cX6_set 104 = .ok (.bipush 60, 2) := by decide +kernel
theorem dX6_set_106 : decode cX6_set 106 = .ok (.iload_n 1, 1) := by decide +kernel
theorem dX6_set_107 : decode cX6_set 107 = .ok (.imul, 1) := by decide +kernel
theorem dX6_set_108 : decode cX6_set 108 = .ok (.iload_n 2, 1) := by decide +kernel
theorem dX6_set_109 : decode cX6_set 109 = .ok (.iadd, 1) := by decide +kernel
theorem dX6_set_110 : decode cX6_set 110 = .ok (.iaload, 1) := by decide +kernel
theorem dX6_set_111 : decode cX6_set 111 = .ok (.ireturn, 1) := by decide +kernel
theorem dX6_copy_0 : decode cX6_copy 0 = .ok (.aload_n 0, 1) := by decide +kernel
theorem dX6_copy_1 : decode cX6_copy 1 = .ok (.iconst 0, 1) := by decide +kernel
theorem dX6_copy_2 : decode cX6_copy 2 = .ok (.putfield 66, 3) := by decide +kernel
theorem dX6_copy_5 : decode cX6_copy 5 = .ok (.iload_n 1, 1) := by decide +kernel
theorem dX6_copy_6 : decode cX6_copy 6 = .ok (.invokestatic 79, 3) := by decide +kernel
theorem dX6_copy_9 : decode cX6_copy 9 = .ok (.ifCond .eq 10, 3) := by decide +kernel
theorem dX6_copy_12 : decode cX6_copy 12 = .ok (.iload_n 3, 1) := by decide +kernel
theorem dX6_copy_13 : decode cX6_copy 13 = .ok (.invokestatic 79, 3) := by decide +kernel
theorem dX6_copy_16 : decode cX6_copy 16 = .ok (.ifCond .ne 6, 3) := by decide +kernel
theorem dX6_copy_19 : decode cX6_copy 19 = .ok (.ldc 85, 2) := by decide +kernel
theorem dX6_copy_21 : decode cX6_copy 21 = .ok (.ireturn, 1) := by decide +kernel
theorem dX6_copy_22 : decode cX6_copy 22 = .ok (.aload_n 0, 1) := by decide +kernel
theorem dX6_copy_23 : decode cX6_copy 23 = .ok (.iconst 0, 1) := by decide +kernel
theorem dX6_copy_24 : decode cX6_copy 24 = .ok (.putfield 69, 3) := by decide +kernel
theorem dX6_copy_27 : decode cX6_copy 27 = .ok (.aload_n 0, 1) := by decide +kernel
theorem dX6_copy_28 : decode cX6_copy 28 = .ok (.getfield 7, 3) := by decide +kernel
theorem dX6_copy_31 : decode cX6_copy 31 = .ok (.iload_n 1, 1) := by decide +kernel
theorem dX6_copy_32 : decode cX6_copy 32 = .ok (.iaload, 1) := by decide +kernel
theorem dX6_copy_33 : decode cX6_copy 33 = .ok (.ifCond .lt 12, 3) := by decide +kernel
theorem dX6_copy_36 : decode cX6_copy 36 = .ok (.aload_n 0, 1) := by decide +kernel
theorem dX6_copy_37 : decode cX6_copy 37 = .ok (.getfield 7, 3) := by decide +kernel
theorem dX6_copy_40 : decode cX6_copy 40 = .ok (.iload_n 3, 1) := by decide +kernel
theorem dX6_copy_41 : decode cX6_copy 41 = .ok (.iaload, 1) := by decide +kernel
theorem dX6_copy_42 : decode cX6_copy 42 = .ok (.ifCond .ge 9, 3) := by decide +kernel
theorem dX6_copy_45 : decode cX6_copy 45 = .ok (.aload_n 0, 1) := by decide +kernel
theorem dX6_copy_46 : decode cX6_copy 46 = .ok (.iconst 1, 1) := by decide +kernel
theorem dX6_copy_47 : decode cX6_copy 47 = .ok (.invokevirtual 86, 3) := by decide +kernel
theorem dX6_copy_50 : decode cX6_copy 50 = .ok (.ireturn, 1) := by decide +kernel
theorem dX6_copy_51 : decode cX6_copy 51 = .ok (.aload_n 0, 1) := by decide +kernel
theorem dX6_copy_52 : decode cX6_copy 52 = .ok (.getfield 7, 3) := by decide +kernel
theorem dX6_copy_55 : decode cX6_copy 55 = .ok (.iload_n 1, 1) := by decide +kernel
theorem dX6_copy_56 : decode cX6_copy 56 = .ok (.iaload, 1) := by decide +kernel
theorem dX6_copy_57 : decode cX6_copy 57 = .ok (.aload_n 0, 1) := by decide +kernel
theorem dX6_copy_58 : decode cX6_copy 58 = .ok (.getfield 7, 3) := by decide +kernel
theorem dX6_copy_61 : decode cX6_copy 61 = .ok (.iload_n 3, 1) := by decide +kernel
theorem dX6_copy_62 : decode cX6_copy 62 = .ok (.iaload, 1) := by decide +kernel
theorem dX6_copy_63 : decode cX6_copy 63 = .ok (.if_icmp .eq 9, 3) := by decide +kernel
theorem dX6_copy_66 : decode cX6_copy 66 = .ok (.aload_n 0, 1) := by decide +kernel
theorem dX6_copy_67 : decode cX6_copy 67 = .ok (.iconst 5, 1) := by decide +kernel
theorem dX6_copy_68 : decode cX6_copy 68 = .ok (.invokevirtual 86, 3) := by decide +kernel
theorem dX6_copy_71 : decode cX6_copy 71 = .ok (.ireturn, 1) := by decide +kernel
theorem dX6_copy_72 : decode cX6_copy 72 = .ok (.iload_n 2, 1) := by decide +kernel
theorem dX6_copy_73 : decode cX6_copy 73 = .ok (.ifCond .lt 48, 3) := by decide +kernel
theorem dX6_copy_76 : decode cX6_copy 76 = .ok (.iload 4, 2) := by decide +kernel
theorem dX6_copy_78 : decode cX6_copy 78 = .ok (.ifCond .lt 43, 3) := by decide +kernel
theorem dX6_copy_81 : decode cX6_copy 81 = .ok (.iload 5, 2) := by decide +kernel
theorem dX6_copy_83 : decode cX6_copy 83 = .ok (.ifCond .lt 38, 3) := by decide +kernel
theorem dX6_copy_86 : decode cX6_copy 86 = .ok (.iload_n 2, 1) := by decide +kernel
theorem dX6_copy_87 : decode cX6_copy 87 = .ok (.i2l, 1) := by decide +kernel
theorem dX6_copy_88 : decode cX6_copy 88 = .ok (.iload 5, 2) := by decide +kernel
theorem dX6_copy_90 : decode cX6_copy 90 = .ok (.i2l, 1) := by decide +kernel
theorem dX6_copy_91 : decode cX6_copy 91 = .ok (.ladd, 1) := by decide +kernel
theorem dX6_copy_92 : decode cX6_copy 92 = .ok (.aload_n 0, 1) := by decide +kernel
theorem dX6_copy_93 : decode cX6_copy 93 = .ok (.getfield 13, 3) := by decide +kernel
theorem dX6_copy_96 : decode cX6_copy 96 = .ok (.iload_n 1, 1) := by decide +kernel
theorem dX6_copy_97 : decode cX6_copy 97 = .ok (.iaload, 1) := by decide +kernel
theorem dX6_copy_98 : decode cX6_copy 98 = .ok (.i2l, 1) := by decide +kernel
theorem dX6_copy_99 : decode cX6_copy 99 = .ok (.lcmp, 1) := by decide +kernel
theorem dX6_copy_100 : decode cX6_copy 100 = .ok (.ifCond .gt 21, 3) := by decide +kernel
theorem dX6_copy_103 : decode cX6_copy 103 = .ok (.iload 4, 2) := by decide +kernel
theorem dX6_copy_105 : decode cX6_copy 105 = .ok (.i2l, 1) := by decide +kernel
theorem dX6_copy_106 : decode cX6_copy 106 = .ok (.iload 5, 2) := by decide +kernel
theorem dX6_copy_108 : decode cX6_copy 108 = .ok (.i2l, 1) := by decide +kernel
theorem dX6_copy_109 : decode cX6_copy 109 = .ok (.ladd, 1) := by decide +kernel
theorem dX6_copy_110 : decode cX6_copy 110 = .ok (.aload_n 0, 1) := by decide +kernel
theorem dX6_copy_111 : decode cX6_copy 111 = .ok (.getfield 13, 3) := by decide +kernel
theorem dX6_copy_114 : decode cX6_copy 114 = .ok (.iload_n 3, 1) := by decide +kernel
theorem dX6_copy_115 : decode cX6_copy 115 = .ok (.iaload, 1) := by decide +kernel
theorem dX6_copy_116 : decode cX6_copy 116 = .ok (.i2l, 1) := by decide +kernel
theorem dX6_copy_117 : decode cX6_copy 117 = .ok (.lcmp, 1) := by decide +kernel
theorem dX6_copy_118 : decode cX6_copy 118 = .ok (.ifCond .le 9, 3) := by decide +kernel
theorem dX6_copy_121 : decode cX6_copy 121 = .ok (.aload_n 0, 1) := by decide +kernel
theorem dX6_copy_122 : decode cX6_copy 122 = .ok (.iconst 2, 1) := by decide +kernel
theorem dX6_copy_123 : decode cX6_copy 123 = .ok (.invokevirtual 86, 3) := by decide +kernel
theorem dX6_copy_126 : decode cX6_copy 126 = .ok (.ireturn, 1) := by decide +kernel
theorem dX6_copy_127 : decode cX6_copy 127 = .ok (.iload_n 2, 1) := by decide +kernel
theorem dX6_copy_128 : decode cX6_copy 128 = .ok (.iload 4, 2) := by decide +kernel
theorem dX6_copy_130 : decode cX6_copy 130 = .ok (.if_icmp .lt 7, 3) := by decide +kernel
theorem dX6_copy_133 : decode cX6_copy 133 = .ok (.iconst 1, 1) := by decide +kernel
theorem dX6_copy_134 : decode cX6_copy 134 = .ok (.goto 4, 3) := by decide +kernel
theorem dX6_copy_137 : decode cX6_copy 137 = .ok (.iconst 0, 1) := by decide +kernel
theorem dX6_copy_138 : decode cX6_copy 138 = .ok (.istore 6, 2) := by decide +kernel
theorem dX6_copy_140 : decode cX6_copy 140 = .ok (.iconst 0, 1) := by decide +kernel
theorem dX6_copy_141 : decode cX6_copy 141 = .ok (.istore 7, 2) := by decide +kernel
theorem dX6_copy_143 : decode cX6_copy 143 = .ok (.iload 7, 2) := by decide +kernel
theorem dX6_copy_145 : decode cX6_copy 145 = .ok (.iload 5, 2) := by decide +kernel
theorem dX6_copy_147 : decode cX6_copy 147 = .ok (.if_icmp .ge 57, 3) := by decide +kernel
theorem dX6_copy_150 : decode cX6_copy 150 = .ok (.iload 6, 2) := by decide +kernel
theorem dX6_copy_152 : decode cX6_copy 152 = .ok (.ifCond .eq 8, 3) := by decide +kernel
theorem dX6_copy_155 : decode cX6_copy 155 = .ok (.iload 7, 2) := by decide +kernel
theorem dX6_copy_157 : decode cX6_copy 157 = .ok (.goto 10, 3) := by decide +kernel
theorem dX6_copy_160 : decode cX6_copy 160 = .ok (.iload 5, 2) := by decide +kernel
theorem dX6_copy_162 : decode cX6_copy 162 = .ok (.iconst 1, 1) := by decide +kernel
theorem dX6_copy_163 : decode cX6_copy 163 = .ok (.isub, 1) := by decide +kernel
theorem dX6_copy_164 : decode cX6_copy 164 = .ok (.iload 7, 2) := by decide +kernel
theorem dX6_copy_166 : decode cX6_copy 166 = .ok (.isub, 1) := by decide +kernel
theorem dX6_copy_167 : decode cX6_copy 167 = .ok (.istore 8, 2) := by decide +kernel
theorem dX6_copy_169 : decode cX6_copy 169 = .ok (.aload_n 0, 1) := by decide +kernel
theorem dX6_copy_170 : decode cX6_copy 170 = .ok (.getfield 16, 3) := by decide +kernel
theorem dX6_copy_173 : decode cX6_copy 173 = .ok (.bipush 60, 2) := by decide +kernel
theorem dX6_copy_175 : decode cX6_copy 175 = .ok (.iload_n 3, 1) := by decide +kernel
theorem dX6_copy_176 : decode cX6_copy 176 = .ok (.imul, 1) := by decide +kernel
theorem dX6_copy_177 : decode cX6_copy 177 = .ok (.iload 4, 2) := by decide +kernel
theorem dX6_copy_179 : decode cX6_copy 179 = .ok (.iadd, 1) := by decide +kernel
theorem dX6_copy_180 : decode cX6_copy 180 = .ok (.iload 8, 2) := by decide +kernel
theorem dX6_copy_182 : decode cX6_copy 182 = .ok (.iadd, 1) := by decide +kernel
theorem dX6_copy_183 : decode cX6_copy 183 = .ok (.aload_n 0, 1) := by decide +kernel
theorem dX6_copy_184 : decode cX6_copy 184 = .ok (.getfield 16, 3) := by decide +kernel
theorem dX6_copy_187 : decode cX6_copy 187 = .ok (.bipush 60, 2) := by decide +kernel
theorem dX6_copy_189 : decode cX6_copy 189 = .ok (.iload_n 1, 1) := by decide +kernel
theorem dX6_copy_190 : decode cX6_copy 190 = .ok (.imul, 1) := by decide +kernel
theorem dX6_copy_191 : decode cX6_copy 191 = .ok (.iload_n 2, 1) := by decide +kernel
theorem dX6_copy_192 : decode cX6_copy 192 = .ok (.iadd, 1) := by decide +kernel
theorem dX6_copy_193 : decode cX6_copy 193 = .ok (.iload 8, 2) := by decide +kernel
theorem dX6_copy_195 : decode cX6_copy 195 = .ok (.iadd, 1) := by decide +kernel
theorem dX6_copy_196 : decode cX6_copy 196 = .ok (.iaload, 1) := by decide +kernel
theorem dX6_copy_197 : decode cX6_copy 197 = .ok (.iastore, 1) := by decide +kernel
theorem dX6_copy_198 : decode cX6_copy 198 = .ok (.iinc 7 1, 3) := by decide +kernel
theorem dX6_copy_201 : decode cX6_copy 201 = .ok (.goto (-58), 3) := by decide +kernel
theorem dX6_copy_204 : decode cX6_copy 204 = .ok (.iload 5, 2) := by decide +kernel
theorem dX6_copy_206 : decode cX6_copy 206 = .ok (.ireturn, 1) := by decide +kernel
theorem dX6_drop_0 : decode cX6_drop 0 = .ok (.aload_n 0, 1) := by decide +kernel
theorem dX6_drop_1 : decode cX6_drop 1 = .ok (.iconst 0, 1) := by decide +kernel
theorem dX6_drop_2 : decode cX6_drop 2 = .ok (.putfield 66, 3) := by decide +kernel
theorem dX6_drop_5 : decode cX6_drop 5 = .ok (.iload_n 1, 1) := by decide +kernel
theorem dX6_drop_6 : decode cX6_drop 6 = .ok (.invokestatic 79, 3) := by decide +kernel
theorem dX6_drop_9 : decode cX6_drop 9 = .ok (.ifCond .ne 6, 3) := by decide +kernel
theorem dX6_drop_12 : decode cX6_drop 12 = .ok (.ldc 85, 2) := by decide +kernel
theorem dX6_drop_14 : decode cX6_drop 14 = .ok (.ireturn, 1) := by decide +kernel
theorem dX6_drop_15 : decode cX6_drop 15 = .ok (.aload_n 0, 1) := by decide +kernel
theorem dX6_drop_16 : decode cX6_drop 16 = .ok (.iconst 0, 1) := by decide +kernel
theorem dX6_drop_17 : decode cX6_drop 17 = .ok (.putfield 69, 3) := by decide +kernel
theorem dX6_drop_20 : decode cX6_drop 20 = .ok (.aload_n 0, 1) := by decide +kernel
theorem dX6_drop_21 : decode cX6_drop 21 = .ok (.getfield 7, 3) := by decide +kernel
theorem dX6_drop_24 : decode cX6_drop 24 = .ok (.iload_n 1, 1) := by decide +kernel
theorem dX6_drop_25 : decode cX6_drop 25 = .ok (.iaload, 1) := by decide +kernel
theorem dX6_drop_26 : decode cX6_drop 26 = .ok (.ifCond .ge 9, 3) := by decide +kernel
theorem dX6_drop_29 : decode cX6_drop 29 = .ok (.aload_n 0, 1) := by decide +kernel
theorem dX6_drop_30 : decode cX6_drop 30 = .ok (.iconst 1, 1) := by decide +kernel
theorem dX6_drop_31 : decode cX6_drop 31 = .ok (.invokevirtual 86, 3) := by decide +kernel
theorem dX6_drop_34 : decode cX6_drop 34 = .ok (.ireturn, 1) := by decide +kernel
theorem dX6_drop_35 : decode cX6_drop 35 = .ok (.aload_n 0, 1) := by decide +kernel
theorem dX6_drop_36 : decode cX6_drop 36 = .ok (.getfield 7, 3) := by decide +kernel
theorem dX6_drop_39 : decode cX6_drop 39 = .ok (.iload_n 1, 1) := by decide +kernel
theorem dX6_drop_40 : decode cX6_drop 40 = .ok (.iconst (-1), 1) := by decide +kernel
theorem dX6_drop_41 : decode cX6_drop 41 = .ok (.iastore, 1) := by decide +kernel
theorem dX6_drop_42 : decode cX6_drop 42 = .ok (.aload_n 0, 1) := by decide +kernel
theorem dX6_drop_43 : decode cX6_drop 43 = .ok (.getfield 13, 3) := by decide +kernel
theorem dX6_drop_46 : decode cX6_drop 46 = .ok (.iload_n 1, 1) := by decide +kernel
theorem dX6_drop_47 : decode cX6_drop 47 = .ok (.iaload, 1) := by decide +kernel
theorem dX6_drop_48 : decode cX6_drop 48 = .ok (.ireturn, 1) := by decide +kernel
theorem dX6_isSet_0 : decode cX6_isSet 0 = .ok (.iload_n 1, 1) := by decide +kernel
theorem dX6_isSet_1 : decode cX6_isSet 1 = .ok (.i2l, 1) := by decide +kernel
theorem dX6_isSet_2 : decode cX6_isSet 2 = .ok (.lconst 0, 1) := by decide +kernel
theorem dX6_isSet_3 : decode cX6_isSet 3 = .ok (.aload_n 0, 1) := by decide +kernel
theorem dX6_isSet_4 : decode cX6_isSet 4 = .ok (.getfield 90, 3) := by decide +kernel
theorem dX6_isSet_7 : decode cX6_isSet 7 = .ok (.iconst 1, 1) := by decide +kernel
theorem dX6_isSet_8 : decode cX6_isSet 8 = .ok (.isub, 1) := by decide +kernel
theorem dX6_isSet_9 : decode cX6_isSet 9 = .ok (.i2l, 1) := by decide +kernel
theorem dX6_isSet_10 : decode cX6_isSet 10 = .ok (.invokestatic 75, 3) := by decide +kernel
theorem dX6_isSet_13 : decode cX6_isSet 13 = .ok (.ireturn, 1) := by decide +kernel
theorem dX6_isOwn_0 : decode cX6_isOwn 0 = .ok (.aload_n 0, 1) := by decide +kernel
theorem dX6_isOwn_1 : decode cX6_isOwn 1 = .ok (.getfield 93, 3) := by decide +kernel
theorem dX6_isOwn_4 : decode cX6_isOwn 4 = .ok (.iload_n 1, 1) := by decide +kernel
theorem dX6_isOwn_5 : decode cX6_isOwn 5 = .ok (.ishr, 1) := by decide +kernel
theorem dX6_isOwn_6 : decode cX6_isOwn 6 = .ok (.iconst 1, 1) := by decide +kernel
theorem dX6_isOwn_7 : decode cX6_isOwn 7 = .ok (.iand, 1) := by decide +kernel
theorem dX6_isOwn_8 : decode cX6_isOwn 8 = .ok (.iconst 1, 1) := by decide +kernel
theorem dX6_isOwn_9 : decode cX6_isOwn 9 = .ok (.if_icmp .ne 7, 3) := by decide +kernel
theorem dX6_isOwn_12 : decode cX6_isOwn 12 = .ok (.iconst 1, 1) := by decide +kernel
theorem dX6_isOwn_13 : decode cX6_isOwn 13 = .ok (.goto 4, 3) := by decide +kernel
theorem dX6_isOwn_16 : decode cX6_isOwn 16 = .ok (.iconst 0, 1) := by decide +kernel
theorem dX6_isOwn_17 : decode cX6_isOwn 17 = .ok (.ireturn, 1) := by decide +kernel
theorem dX6_filled_0 : decode cX6_filled 0 = .ok (.iconst 0, 1) := by decide +kernel
theorem dX6_filled_1 : decode cX6_filled 1 = .ok (.istore_n 2, 1) := by decide +kernel
theorem dX6_filled_2 : decode cX6_filled 2 = .ok (.iconst 0, 1) := by decide +kernel
theorem dX6_filled_3 : decode cX6_filled 3 = .ok (.istore_n 3, 1) := by decide +kernel
theorem dX6_filled_4 : decode cX6_filled 4 = .ok (.iload_n 3, 1) := by decide +kernel
theorem dX6_filled_5 : decode cX6_filled 5 = .ok (.bipush 12, 2) := by decide +kernel
theorem dX6_filled_7 : decode cX6_filled 7 = .ok (.if_icmp .ge 36, 3) := by decide +kernel
theorem dX6_filled_10 : decode cX6_filled 10 = .ok (.iload_n 2, 1) := by decide +kernel
theorem dX6_filled_11 : decode cX6_filled 11 = .ok (.aload_n 0, 1) := by decide +kernel
theorem dX6_filled_12 : decode cX6_filled 12 = .ok (.getfield 22, 3) := by decide +kernel
theorem dX6_filled_15 : decode cX6_filled 15 = .ok (.iload_n 1, 1) := by decide +kernel
theorem dX6_filled_16 : decode cX6_filled 16 = .ok (.iaload, 1) := by decide +kernel
theorem dX6_filled_17 : decode cX6_filled 17 = .ok (.iload_n 3, 1) := by decide +kernel
theorem dX6_filled_18 : decode cX6_filled 18 = .ok (.ishr, 1) := by decide +kernel
theorem dX6_filled_19 : decode cX6_filled 19 = .ok (.iconst 1, 1) := by decide +kernel
theorem dX6_filled_20 : decode cX6_filled 20 = .ok (.iand, 1) := by decide +kernel
theorem dX6_filled_21 : decode cX6_filled 21 = .ok (.iconst 1, 1) := by decide +kernel
theorem dX6_filled_22 : decode cX6_filled 22 = .ok (.if_icmp .ne 12, 3) := by decide +kernel
theorem dX6_filled_25 : decode cX6_filled 25 = .ok (.aload_n 0, 1) := by decide +kernel
theorem dX6_filled_26 : decode cX6_filled 26 = .ok (.getfield 25, 3) := by decide +kernel
theorem dX6_filled_29 : decode cX6_filled 29 = .ok (.iload_n 3, 1) := by decide +kernel
theorem dX6_filled_30 : decode cX6_filled 30 = .ok (.iaload, 1) := by decide +kernel
theorem dX6_filled_31 : decode cX6_filled 31 = .ok (.goto 4, 3) := by decide +kernel
theorem dX6_filled_34 : decode cX6_filled 34 = .ok (.iconst 0, 1) := by decide +kernel
theorem dX6_filled_35 : decode cX6_filled 35 = .ok (.iadd, 1) := by decide +kernel
theorem dX6_filled_36 : decode cX6_filled 36 = .ok (.istore_n 2, 1) := by decide +kernel
theorem dX6_filled_37 : decode cX6_filled 37 = .ok (.iinc 3 1, 3) := by decide +kernel
theorem dX6_filled_40 : decode cX6_filled 40 = .ok (.goto (-36), 3) := by decide +kernel
theorem dX6_filled_43 : decode cX6_filled 43 = .ok (.iload_n 2, 1) := by decide +kernel
theorem dX6_filled_44 : decode cX6_filled 44 = .ok (.ireturn, 1) := by decide +kernel
theorem dX6_offer_0 : decode cX6_offer 0 = .ok (.aload_n 0, 1) := by decide +kernel
theorem dX6_offer_1 : decode cX6_offer 1 = .ok (.iconst 0, 1) := by decide +kernel
theorem dX6_offer_2 : decode cX6_offer 2 = .ok (.putfield 66, 3) := by decide +kernel
theorem dX6_offer_5 : decode cX6_offer 5 = .ok (.iload_n 1, 1) := by decide +kernel
theorem dX6_offer_6 : decode cX6_offer 6 = .ok (.i2l, 1) := by decide +kernel
theorem dX6_offer_7 : decode cX6_offer 7 = .ok (.lconst 1, 1) := by decide +kernel
theorem dX6_offer_8 : decode cX6_offer 8 = .ok (.ldc2_w 96, 3) := by decide +kernel
theorem dX6_offer_11 : decode cX6_offer 11 = .ok (.invokestatic 75, 3) := by decide +kernel
theorem dX6_offer_14 : decode cX6_offer 14 = .ok (.ifCond .eq 15, 3) := by decide +kernel
theorem dX6_offer_17 : decode cX6_offer 17 = .ok (.iload_n 2, 1) := by decide +kernel
theorem dX6_offer_18 : decode cX6_offer 18 = .ok (.i2l, 1) := by decide +kernel
theorem dX6_offer_19 : decode cX6_offer 19 = .ok (.lconst 1, 1) := by decide +kernel
theorem dX6_offer_20 : decode cX6_offer 20 = .ok (.ldc2_w 98, 3) := by decide +kernel
theorem dX6_offer_23 : decode cX6_offer 23 = .ok (.invokestatic 75, 3) := by decide +kernel
theorem dX6_offer_26 : decode cX6_offer 26 = .ok (.ifCond .ne 6, 3) := by decide +kernel
theorem dX6_offer_29 : decode cX6_offer 29 = .ok (.ldc 85, 2) := by decide +kernel
theorem dX6_offer_31 : decode cX6_offer 31 = .ok (.ireturn, 1) := by decide +kernel
theorem dX6_offer_32 : decode cX6_offer 32 = .ok (.aload_n 0, 1) := by decide +kernel
theorem dX6_offer_33 : decode cX6_offer 33 = .ok (.getfield 100, 3) := by decide +kernel
theorem dX6_offer_36 : decode cX6_offer 36 = .ok (.ifCond .eq 6, 3) := by decide +kernel
theorem dX6_offer_39 : decode cX6_offer 39 = .ok (.ldc 103, 2) := by decide +kernel
theorem dX6_offer_41 : decode cX6_offer 41 = .ok (.ireturn, 1) := by decide +kernel
theorem dX6_offer_42 : decode cX6_offer 42 = .ok (.aload_n 0, 1) := by decide +kernel
theorem dX6_offer_43 : decode cX6_offer 43 = .ok (.getfield 90, 3) := by decide +kernel
theorem dX6_offer_46 : decode cX6_offer 46 = .ok (.bipush 10, 2) := by decide +kernel
theorem dX6_offer_48 : decode cX6_offer 48 = .ok (.if_icmp .ne 6, 3) := by decide +kernel
theorem dX6_offer_51 : decode cX6_offer 51 = .ok (.ldc 104, 2) := by decide +kernel
theorem dX6_offer_53 : decode cX6_offer 53 = .ok (.ireturn, 1) := by decide +kernel
theorem dX6_offer_54 : decode cX6_offer 54 = .ok (.aload_n 0, 1) := by decide +kernel
theorem dX6_offer_55 : decode cX6_offer 55 = .ok (.getfield 19, 3) := by decide +kernel
theorem dX6_offer_58 : decode cX6_offer 58 = .ok (.aload_n 0, 1) := by decide +kernel
theorem dX6_offer_59 : decode cX6_offer 59 = .ok (.getfield 90, 3) := by decide +kernel
theorem dX6_offer_62 : decode cX6_offer 62 = .ok (.iload_n 1, 1) := by decide +kernel
theorem dX6_offer_63 : decode cX6_offer 63 = .ok (.iastore, 1) := by decide +kernel
theorem dX6_offer_64 : decode cX6_offer 64 = .ok (.aload_n 0, 1) := by decide +kernel
theorem dX6_offer_65 : decode cX6_offer 65 = .ok (.getfield 22, 3) := by decide +kernel
theorem dX6_offer_68 : decode cX6_offer 68 = .ok (.aload_n 0, 1) := by decide +kernel
theorem dX6_offer_69 : decode cX6_offer 69 = .ok (.getfield 90, 3) := by decide +kernel
theorem dX6_offer_72 : decode cX6_offer 72 = .ok (.iload_n 2, 1) := by decide +kernel
theorem dX6_offer_73 : decode cX6_offer 73 = .ok (.iastore, 1) := by decide +kernel
theorem dX6_offer_74 : decode cX6_offer 74 = .ok (.aload_n 0, 1) := by decide +kernel
theorem dX6_offer_75 : decode cX6_offer 75 = .ok (.dup, 1) := by decide +kernel
theorem dX6_offer_76 : decode cX6_offer 76 = .ok (.getfield 90, 3) := by decide +kernel
theorem dX6_offer_79 : decode cX6_offer 79 = .ok (.iconst 1, 1) := by decide +kernel
theorem dX6_offer_80 : decode cX6_offer 80 = .ok (.iadd, 1) := by decide +kernel
theorem dX6_offer_81 : decode cX6_offer 81 = .ok (.putfield 90, 3) := by decide +kernel
theorem dX6_offer_84 : decode cX6_offer 84 = .ok (.aload_n 0, 1) := by decide +kernel
theorem dX6_offer_85 : decode cX6_offer 85 = .ok (.getfield 90, 3) := by decide +kernel
theorem dX6_offer_88 : decode cX6_offer 88 = .ok (.iconst 1, 1) := by decide +kernel
theorem dX6_offer_89 : decode cX6_offer 89 = .ok (.isub, 1) := by decide +kernel
theorem dX6_offer_90 : decode cX6_offer 90 = .ok (.ireturn, 1) := by decide +kernel
theorem dX6_has_0 : decode cX6_has 0 = .ok (.aload_n 0, 1) := by decide +kernel
theorem dX6_has_1 : decode cX6_has 1 = .ok (.getfield 22, 3) := by decide +kernel
theorem dX6_has_4 : decode cX6_has 4 = .ok (.iload_n 1, 1) := by decide +kernel
theorem dX6_has_5 : decode cX6_has 5 = .ok (.iaload, 1) := by decide +kernel
theorem dX6_has_6 : decode cX6_has 6 = .ok (.iload_n 2, 1) := by decide +kernel
theorem dX6_has_7 : decode cX6_has 7 = .ok (.ishr, 1) := by decide +kernel
theorem dX6_has_8 : decode cX6_has 8 = .ok (.iconst 1, 1) := by decide +kernel
theorem dX6_has_9 : decode cX6_has 9 = .ok (.iand, 1) := by decide +kernel
theorem dX6_has_10 : decode cX6_has 10 = .ok (.iconst 1, 1) := by decide +kernel
theorem dX6_has_11 : decode cX6_has 11 = .ok (.if_icmp .ne 7, 3) := by decide +kernel
theorem dX6_has_14 : decode cX6_has 14 = .ok (.iconst 1, 1) := by decide +kernel
theorem dX6_has_15 : decode cX6_has 15 = .ok (.goto 4, 3) := by decide +kernel
theorem dX6_has_18 : decode cX6_has 18 = .ok (.iconst 0, 1) := by decide +kernel
theorem dX6_has_19 : decode cX6_has 19 = .ok (.ireturn, 1) := by decide +kernel
theorem dX6_demanding_0 : decode cX6_demanding 0 = .ok (.iload_n 1, 1) := by decide +kernel
theorem dX6_demanding_1 : decode cX6_demanding 1 = .ok (.i2l, 1) := by decide +kernel
theorem dX6_demanding_2 : decode cX6_demanding 2 = .ok (.lconst 0, 1) := by decide +kernel
theorem dX6_demanding_3 : decode cX6_demanding 3 = .ok (.ldc2_w 105, 3) := by decide +kernel
theorem dX6_demanding_6 : decode cX6_demanding 6 = .ok (.invokestatic 75, 3) := by decide +kernel
theorem dX6_demanding_9 : decode cX6_demanding 9 = .ok (.ifCond .ne 6, 3) := by decide +kernel
theorem dX6_demanding_12 : decode cX6_demanding 12 = .ok (.ldc 85, 2) := by decide +kernel
theorem dX6_demanding_14 : decode cX6_demanding 14 = .ok (.ireturn, 1) := by decide +kernel
theorem dX6_demanding_15 : decode cX6_demanding 15 = .ok (.iconst 0, 1) := by decide +kernel
theorem dX6_demanding_16 : decode cX6_demanding 16 = .ok (.istore_n 2, 1) := by decide +kernel
theorem dX6_demanding_17 : decode cX6_demanding 17 = .ok (.iconst 0, 1) := by decide +kernel
theorem dX6_demanding_18 : decode cX6_demanding 18 = .ok (.istore_n 3, 1) := by decide +kernel
theorem dX6_demanding_19 : decode cX6_demanding 19 = .ok (.ldc 107, 2) := by decide +kernel
theorem dX6_demanding_21 : decode cX6_demanding 21 = .ok (.istore 4, 2) := by decide +kernel
theorem dX6_demanding_23 : decode cX6_demanding 23 = .ok (.iconst 0, 1) := by decide +kernel
theorem dX6_demanding_24 : decode cX6_demanding 24 = .ok (.istore 5, 2) := by decide +kernel
theorem dX6_demanding_26 : decode cX6_demanding 26 = .ok (.iload 5, 2) := by decide +kernel
theorem dX6_demanding_28 : decode cX6_demanding 28 = .ok (.aload_n 0, 1) := by decide +kernel
theorem dX6_demanding_29 : decode cX6_demanding 29 = .ok (.getfield 90, 3) := by decide +kernel
theorem dX6_demanding_32 : decode cX6_demanding 32 = .ok (.if_icmp .ge 80, 3) := by decide +kernel
theorem dX6_demanding_35 : decode cX6_demanding 35 = .ok (.aload_n 0, 1) := by decide +kernel
theorem dX6_demanding_36 : decode cX6_demanding 36 = .ok (.iload 5, 2) := by decide +kernel
theorem dX6_demanding_38 : decode cX6_demanding 38 = .ok (.iload_n 1, 1) := by decide +kernel
theorem dX6_demanding_39 : decode cX6_demanding 39 = .ok (.invokevirtual 108, 3) := by decide +kernel
theorem dX6_demanding_42 : decode cX6_demanding 42 = .ok (.ifCond .eq 64, 3) := by decide +kernel
theorem dX6_demanding_45 : decode cX6_demanding 45 = .ok (.iconst 1, 1) := by decide +kernel
theorem dX6_demanding_46 : decode cX6_demanding 46 = .ok (.istore_n 2, 1) := by decide +kernel
theorem dX6_demanding_47 : decode cX6_demanding 47 = .ok (.iload_n 3, 1) := by decide +kernel
theorem dX6_demanding_48 : decode cX6_demanding 48 = .ok (.ifCond .ne 12, 3) := by decide +kernel
theorem dX6_demanding_51 : decode cX6_demanding 51 = .ok (.aload_n 0, 1) := by decide +kernel
theorem dX6_demanding_52 : decode cX6_demanding 52 = .ok (.iload 5, 2) := by decide +kernel
theorem dX6_demanding_54 : decode cX6_demanding 54 = .ok (.invokevirtual 112, 3) := by decide +kernel
theorem dX6_demanding_57 : decode cX6_demanding 57 = .ok (.ifCond .eq 7, 3) := by decide +kernel
theorem dX6_demanding_60 : decode cX6_demanding 60 = .ok (.iconst 1, 1) := by decide +kernel
theorem dX6_demanding_61 : decode cX6_demanding 61 = .ok (.goto 4, 3) := by decide +kernel
theorem dX6_demanding_64 : decode cX6_demanding 64 = .ok (.iconst 0, 1) := by decide +kernel
theorem dX6_demanding_65 : decode cX6_demanding 65 = .ok (.istore_n 3, 1) := by decide +kernel
theorem dX6_demanding_66 : decode cX6_demanding 66 = .ok (.aload_n 0, 1) := by decide +kernel
theorem dX6_demanding_67 : decode cX6_demanding 67 = .ok (.getfield 19, 3) := by decide +kernel
theorem dX6_demanding_70 : decode cX6_demanding 70 = .ok (.iload 5, 2) := by decide +kernel
theorem dX6_demanding_72 : decode cX6_demanding 72 = .ok (.iaload, 1) := by decide +kernel
theorem dX6_demanding_73 : decode cX6_demanding 73 = .ok (.aload_n 0, 1) := by decide +kernel
theorem dX6_demanding_74 : decode cX6_demanding 74 = .ok (.iload 5, 2) := by decide +kernel
theorem dX6_demanding_76 : decode cX6_demanding 76 = .ok (.invokevirtual 115, 3) := by decide +kernel
theorem dX6_demanding_79 : decode cX6_demanding 79 = .ok (.isub, 1) := by decide +kernel
theorem dX6_demanding_80 : decode cX6_demanding 80 = .ok (.iload 4, 2) := by decide +kernel
theorem dX6_demanding_82 : decode cX6_demanding 82 = .ok (.if_icmp .ge 20, 3) := by decide +kernel
theorem dX6_demanding_85 : decode cX6_demanding 85 = .ok (.aload_n 0, 1) := by decide +kernel
theorem dX6_demanding_86 : decode cX6_demanding 86 = .ok (.getfield 19, 3) := by decide +kernel
theorem dX6_demanding_89 : decode cX6_demanding 89 = .ok (.iload 5, 2) := by decide +kernel
theorem dX6_demanding_91 : decode cX6_demanding 91 = .ok (.iaload, 1) := by decide +kernel
theorem dX6_demanding_92 : decode cX6_demanding 92 = .ok (.aload_n 0, 1) := by decide +kernel
theorem dX6_demanding_93 : decode cX6_demanding 93 = .ok (.iload 5, 2) := by decide +kernel
theorem dX6_demanding_95 : decode cX6_demanding 95 = .ok (.invokevirtual 115, 3) := by decide +kernel
theorem dX6_demanding_98 : decode cX6_demanding 98 = .ok (.isub, 1) := by decide +kernel
theorem dX6_demanding_99 : decode cX6_demanding 99 = .ok (.goto 5, 3) := by decide +kernel
theorem dX6_demanding_102 : decode cX6_demanding 102 = .ok (.iload 4, 2) := by decide +kernel
theorem dX6_demanding_104 : decode cX6_demanding 104 = .ok (.istore 4, 2) := by decide +kernel
theorem dX6_demanding_106 : decode cX6_demanding 106 = .ok (.iinc 5 1, 3) := by decide +kernel
theorem dX6_demanding_109 : decode cX6_demanding 109 = .ok (.goto (-83), 3) := by decide +kernel
theorem dX6_demanding_112 : decode cX6_demanding 112 = .ok (.iload_n 2, 1) := by decide +kernel
theorem dX6_demanding_113 : decode cX6_demanding 113 = .ok (.ifCond .ne 6, 3) := by decide +kernel
theorem dX6_demanding_116 : decode cX6_demanding 116 = .ok (.ldc 103, 2) := by decide +kernel
theorem dX6_demanding_118 : decode cX6_demanding 118 = .ok (.ireturn, 1) := by decide +kernel
theorem dX6_demanding_119 : decode cX6_demanding 119 = .ok (.aload_n 0, 1) := by decide +kernel
theorem dX6_demanding_120 : decode cX6_demanding 120 = .ok (.dup, 1) := by decide +kernel
theorem dX6_demanding_121 : decode cX6_demanding 121 = .ok (.getfield 100, 3) := by decide +kernel
theorem dX6_demanding_124 : decode cX6_demanding 124 = .ok (.iconst 1, 1) := by decide +kernel
theorem dX6_demanding_125 : decode cX6_demanding 125 = .ok (.iload_n 1, 1) := by decide +kernel
theorem dX6_demanding_126 : decode cX6_demanding 126 = .ok (.ishl, 1) := by decide +kernel
theorem dX6_demanding_127 : decode cX6_demanding 127 = .ok (.ior, 1) := by decide +kernel
theorem dX6_demanding_128 : decode cX6_demanding 128 = .ok (.putfield 100, 3) := by decide +kernel
theorem dX6_demanding_131 : decode cX6_demanding 131 = .ok (.iload_n 3, 1) := by decide +kernel
theorem dX6_demanding_132 : decode cX6_demanding 132 = .ok (.ifCond .eq 5, 3) := by decide +kernel
theorem dX6_demanding_135 : decode cX6_demanding 135 = .ok (.iconst 0, 1) := by decide +kernel
theorem dX6_demanding_136 : decode cX6_demanding 136 = .ok (.ireturn, 1) := by decide +kernel
theorem dX6_demanding_137 : decode cX6_demanding 137 = .ok (.aload_n 0, 1) := by decide +kernel
theorem dX6_demanding_138 : decode cX6_demanding 138 = .ok (.getfield 25, 3) := by decide +kernel
theorem dX6_demanding_141 : decode cX6_demanding 141 = .ok (.iload_n 1, 1) := by decide +kernel
theorem dX6_demanding_142 : decode cX6_demanding 142 = .ok (.dup2, 1) := by decide +kernel
theorem dX6_demanding_143 : decode cX6_demanding 143 = .ok (.iaload, 1) := by decide +kernel
theorem dX6_demanding_144 : decode cX6_demanding 144 = .ok (.iload 4, 2) := by decide +kernel
theorem dX6_demanding_146 : decode cX6_demanding 146 = .ok (.iadd, 1) := by decide +kernel
theorem dX6_demanding_147 : decode cX6_demanding 147 = .ok (.iastore, 1) := by decide +kernel
theorem dX6_demanding_148 : decode cX6_demanding 148 = .ok (.iconst 0, 1) := by decide +kernel
theorem dX6_demanding_149 : decode cX6_demanding 149 = .ok (.istore 5, 2) := by decide +kernel
theorem dX6_demanding_151 : decode cX6_demanding 151 = .ok (.iconst 0, 1) := by decide +kernel
theorem dX6_demanding_152 : decode cX6_demanding 152 = .ok (.istore 6, 2) := by decide +kernel
theorem dX6_demanding_154 : decode cX6_demanding 154 = .ok (.iload 6, 2) := by decide +kernel
theorem dX6_demanding_156 : decode cX6_demanding 156 = .ok (.aload_n 0, 1) := by decide +kernel
theorem dX6_demanding_157 : decode cX6_demanding 157 = .ok (.getfield 90, 3) := by decide +kernel
theorem dX6_demanding_160 : decode cX6_demanding 160 = .ok (.if_icmp .ge 60, 3) := by decide +kernel
theorem dX6_demanding_163 : decode cX6_demanding 163 = .ok (.aload_n 0, 1) := by decide +kernel
theorem dX6_demanding_164 : decode cX6_demanding 164 = .ok (.iload 6, 2) := by decide +kernel
theorem dX6_demanding_166 : decode cX6_demanding 166 = .ok (.iload_n 1, 1) := by decide +kernel
theorem dX6_demanding_167 : decode cX6_demanding 167 = .ok (.invokevirtual 108, 3) := by decide +kernel
theorem dX6_demanding_170 : decode cX6_demanding 170 = .ok (.ifCond .eq 44, 3) := by decide +kernel
theorem dX6_demanding_173 : decode cX6_demanding 173 = .ok (.aload_n 0, 1) := by decide +kernel
theorem dX6_demanding_174 : decode cX6_demanding 174 = .ok (.iload 6, 2) := by decide +kernel
theorem dX6_demanding_176 : decode cX6_demanding 176 = .ok (.invokevirtual 115, 3) := by decide +kernel
theorem dX6_demanding_179 : decode cX6_demanding 179 = .ok (.aload_n 0, 1) := by decide +kernel
theorem dX6_demanding_180 : decode cX6_demanding 180 = .ok (.getfield 19, 3) := by decide +kernel
theorem dX6_demanding_183 : decode cX6_demanding 183 = .ok (.iload 6, 2) := by decide +kernel
theorem dX6_demanding_185 : decode cX6_demanding 185 = .ok (.iaload, 1) := by decide +kernel
theorem dX6_demanding_186 : decode cX6_demanding 186 = .ok (.if_icmp .ne 28, 3) := by decide +kernel
theorem dX6_demanding_189 : decode cX6_demanding 189 = .ok (.aload_n 0, 1) := by decide +kernel
theorem dX6_demanding_190 : decode cX6_demanding 190 = .ok (.dup, 1) := by decide +kernel
theorem dX6_demanding_191 : decode cX6_demanding 191 = .ok (.getfield 93, 3) := by decide +kernel
theorem dX6_demanding_194 : decode cX6_demanding 194 = .ok (.iconst 1, 1) := by decide +kernel
theorem dX6_demanding_195 : decode cX6_demanding 195 = .ok (.iload 6, 2) := by decide +kernel
theorem dX6_demanding_197 : decode cX6_demanding 197 = .ok (.ishl, 1) := by decide +kernel
theorem dX6_demanding_198 : decode cX6_demanding 198 = .ok (.ior, 1) := by decide +kernel
theorem dX6_demanding_199 : decode cX6_demanding 199 = .ok (.putfield 93, 3) := by decide +kernel
theorem dX6_demanding_202 : decode cX6_demanding 202 = .ok (.iload 5, 2) := by decide +kernel
theorem dX6_demanding_204 : decode cX6_demanding 204 = .ok (.aload_n 0, 1) := by decide +kernel
theorem dX6_demanding_205 : decode cX6_demanding 205 = .ok (.getfield 19, 3) := by decide +kernel
theorem dX6_demanding_208 : decode cX6_demanding 208 = .ok (.iload 6, 2) := by decide +kernel
theorem dX6_demanding_210 : decode cX6_demanding 210 = .ok (.iaload, 1) := by decide +kernel
theorem dX6_demanding_211 : decode cX6_demanding 211 = .ok (.iadd, 1) := by decide +kernel
theorem dX6_demanding_212 : decode cX6_demanding 212 = .ok (.istore 5, 2) := by decide +kernel
theorem dX6_demanding_214 : decode cX6_demanding 214 = .ok (.iinc 6 1, 3) := by decide +kernel
theorem dX6_demanding_217 : decode cX6_demanding 217 = .ok (.goto (-63), 3) := by decide +kernel
theorem dX6_demanding_220 : decode cX6_demanding 220 = .ok (.aload_n 0, 1) := by decide +kernel
theorem dX6_demanding_221 : decode cX6_demanding 221 = .ok (.dup, 1) := by decide +kernel
theorem dX6_demanding_222 : decode cX6_demanding 222 = .ok (.getfield 118, 3) := by decide +kernel
theorem dX6_demanding_225 : decode cX6_demanding 225 = .ok (.iload 5, 2) := by decide +kernel
theorem dX6_demanding_227 : decode cX6_demanding 227 = .ok (.iadd, 1) := by decide +kernel
theorem dX6_demanding_228 : decode cX6_demanding 228 = .ok (.putfield 118, 3) := by decide +kernel
theorem dX6_demanding_231 : decode cX6_demanding 231 = .ok (.iload 5, 2) := by decide +kernel
theorem dX6_demanding_233 : decode cX6_demanding 233 = .ok (.ireturn, 1) := by decide +kernel
theorem dX6_demand_0 : decode cX6_demand 0 = .ok (.aload_n 0, 1) := by decide +kernel
theorem dX6_demand_1 : decode cX6_demand 1 = .ok (.iconst 0, 1) := by decide +kernel
theorem dX6_demand_2 : decode cX6_demand 2 = .ok (.putfield 66, 3) := by decide +kernel
theorem dX6_demand_5 : decode cX6_demand 5 = .ok (.aload_n 0, 1) := by decide +kernel
theorem dX6_demand_6 : decode cX6_demand 6 = .ok (.iload_n 1, 1) := by decide +kernel
theorem dX6_demand_7 : decode cX6_demand 7 = .ok (.invokevirtual 121, 3) := by decide +kernel
theorem dX6_demand_10 : decode cX6_demand 10 = .ok (.ireturn, 1) := by decide +kernel
theorem dX6_demands_0 : decode cX6_demands 0 = .ok (.aload_n 0, 1) := by decide +kernel
theorem dX6_demands_1 : decode cX6_demands 1 = .ok (.iconst 0, 1) := by decide +kernel
theorem dX6_demands_2 : decode cX6_demands 2 = .ok (.putfield 66, 3) := by decide +kernel
theorem dX6_demands_5 : decode cX6_demands 5 = .ok (.iload_n 1, 1) := by decide +kernel
theorem dX6_demands_6 : decode cX6_demands 6 = .ok (.invokestatic 79, 3) := by decide +kernel
theorem dX6_demands_9 : decode cX6_demands 9 = .ok (.ifCond .eq 15, 3) := by decide +kernel
theorem dX6_demands_12 : decode cX6_demands 12 = .ok (.iload_n 3, 1) := by decide +kernel
theorem dX6_demands_13 : decode cX6_demands 13 = .ok (.i2l, 1) := by decide +kernel
theorem dX6_demands_14 : decode cX6_demands 14 = .ok (.lconst 1, 1) := by decide +kernel
theorem dX6_demands_15 : decode cX6_demands 15 = .ok (.ldc2_w 124, 3) := by decide +kernel
theorem dX6_demands_18 : decode cX6_demands 18 = .ok (.invokestatic 75, 3) := by decide +kernel
theorem dX6_demands_21 : decode cX6_demands 21 = .ok (.ifCond .ne 6, 3) := by decide +kernel
theorem dX6_demands_24 : decode cX6_demands 24 = .ok (.ldc 85, 2) := by decide +kernel
theorem dX6_demands_26 : decode cX6_demands 26 = .ok (.ireturn, 1) := by decide +kernel
theorem dX6_demands_27 : decode cX6_demands 27 = .ok (.aload_n 0, 1) := by decide +kernel
theorem dX6_demands_28 : decode cX6_demands 28 = .ok (.iconst 0, 1) := by decide +kernel
theorem dX6_demands_29 : decode cX6_demands 29 = .ok (.putfield 69, 3) := by decide +kernel
theorem dX6_demands_32 : decode cX6_demands 32 = .ok (.aload_n 0, 1) := by decide +kernel
theorem dX6_demands_33 : decode cX6_demands 33 = .ok (.getfield 7, 3) := by decide +kernel
theorem dX6_demands_36 : decode cX6_demands 36 = .ok (.iload_n 1, 1) := by decide +kernel
theorem dX6_demands_37 : decode cX6_demands 37 = .ok (.iaload, 1) := by decide +kernel
theorem dX6_demands_38 : decode cX6_demands 38 = .ok (.ifCond .ge 9, 3) := by decide +kernel
theorem dX6_demands_41 : decode cX6_demands 41 = .ok (.aload_n 0, 1) := by decide +kernel
theorem dX6_demands_42 : decode cX6_demands 42 = .ok (.iconst 1, 1) := by decide +kernel
theorem dX6_demands_43 : decode cX6_demands 43 = .ok (.invokevirtual 86, 3) := by decide +kernel
theorem dX6_demands_46 : decode cX6_demands 46 = .ok (.ireturn, 1) := by decide +kernel
theorem dX6_demands_47 : decode cX6_demands 47 = .ok (.iload_n 2, 1) := by decide +kernel
theorem dX6_demands_48 : decode cX6_demands 48 = .ok (.ifCond .lt 19, 3) := by decide +kernel
theorem dX6_demands_51 : decode cX6_demands 51 = .ok (.iload_n 2, 1) := by decide +kernel
theorem dX6_demands_52 : decode cX6_demands 52 = .ok (.i2l, 1) := by decide +kernel
theorem dX6_demands_53 : decode cX6_demands 53 = .ok (.iload_n 3, 1) := by decide +kernel
theorem dX6_demands_54 : decode cX6_demands 54 = .ok (.i2l, 1) := by decide +kernel
theorem dX6_demands_55 : decode cX6_demands 55 = .ok (.ladd, 1) := by decide +kernel
theorem dX6_demands_56 : decode cX6_demands 56 = .ok (.aload_n 0, 1) := by decide +kernel
theorem dX6_demands_57 : decode cX6_demands 57 = .ok (.getfield 13, 3) := by decide +kernel
theorem dX6_demands_60 : decode cX6_demands 60 = .ok (.iload_n 1, 1) := by decide +kernel
theorem dX6_demands_61 : decode cX6_demands 61 = .ok (.iaload, 1) := by decide +kernel
theorem dX6_demands_62 : decode cX6_demands 62 = .ok (.i2l, 1) := by decide +kernel
theorem dX6_demands_63 : decode cX6_demands 63 = .ok (.lcmp, 1) := by decide +kernel
theorem dX6_demands_64 : decode cX6_demands 64 = .ok (.ifCond .le 9, 3) := by decide +kernel
theorem dX6_demands_67 : decode cX6_demands 67 = .ok (.aload_n 0, 1) := by decide +kernel
theorem dX6_demands_68 : decode cX6_demands 68 = .ok (.iconst 2, 1) := by decide +kernel
theorem dX6_demands_69 : decode cX6_demands 69 = .ok (.invokevirtual 86, 3) := by decide +kernel
theorem dX6_demands_72 : decode cX6_demands 72 = .ok (.ireturn, 1) := by decide +kernel
theorem dX6_demands_73 : decode cX6_demands 73 = .ok (.iconst 0, 1) := by decide +kernel
theorem dX6_demands_74 : decode cX6_demands 74 = .ok (.istore 4, 2) := by decide +kernel
theorem dX6_demands_76 : decode cX6_demands 76 = .ok (.iconst 0, 1) := by decide +kernel
theorem dX6_demands_77 : decode cX6_demands 77 = .ok (.istore 5, 2) := by decide +kernel
theorem dX6_demands_79 : decode cX6_demands 79 = .ok (.iload 5, 2) := by decide +kernel
theorem dX6_demands_81 : decode cX6_demands 81 = .ok (.iload_n 3, 1) := by decide +kernel
theorem dX6_demands_82 : decode cX6_demands 82 = .ok (.if_icmp .ge 45, 3) := by decide +kernel
theorem dX6_demands_85 : decode cX6_demands 85 = .ok (.aload_n 0, 1) := by decide +kernel
theorem dX6_demands_86 : decode cX6_demands 86 = .ok (.aload_n 0, 1) := by decide +kernel
theorem dX6_demands_87 : decode cX6_demands 87 = .ok (.getfield 16, 3) := by decide +kernel
theorem dX6_demands_90 : decode cX6_demands 90 = .ok (.bipush 60, 2) := by decide +kernel
theorem dX6_demands_92 : decode cX6_demands 92 = .ok (.iload_n 1, 1) := by decide +kernel
theorem dX6_demands_93 : decode cX6_demands 93 = .ok (.imul, 1) := by decide +kernel
theorem dX6_demands_94 : decode cX6_demands 94 = .ok (.iload_n 2, 1) := by decide +kernel
theorem dX6_demands_95 : decode cX6_demands 95 = .ok (.iadd, 1) := by decide +kernel
theorem dX6_demands_96 : decode cX6_demands 96 = .ok (.iload 5, 2) := by decide +kernel
theorem dX6_demands_98 : decode cX6_demands 98 = .ok (.iadd, 1) := by decide +kernel
theorem dX6_demands_99 : decode cX6_demands 99 = .ok (.iaload, 1) := by decide +kernel
theorem dX6_demands_100 : decode cX6_demands 100 = .ok (.invokevirtual 121, 3) := by decide +kernel
theorem dX6_demands_103 : decode cX6_demands 103 = .ok (.istore 6, 2) := by decide +kernel
theorem dX6_demands_105 : decode cX6_demands 105 = .ok (.iload 4, 2) := by decide +kernel
theorem dX6_demands_107 : decode cX6_demands 107 = .ok (.iload 6, 2) := by decide +kernel
theorem dX6_demands_109 : decode cX6_demands 109 = .ok (.ifCond .le 8, 3) := by decide +kernel
theorem dX6_demands_112 : decode cX6_demands 112 = .ok (.iload 6, 2) := by decide +kernel
theorem dX6_demands_114 : decode cX6_demands 114 = .ok (.goto 4, 3) := by decide +kernel
theorem dX6_demands_117 : decode cX6_demands 117 = .ok (.iconst 0, 1) := by decide +kernel
theorem dX6_demands_118 : decode cX6_demands 118 = .ok (.iadd, 1) := by decide +kernel
theorem dX6_demands_119 : decode cX6_demands 119 = .ok (.istore 4, 2) := by decide +kernel
theorem dX6_demands_121 : decode cX6_demands 121 = .ok (.iinc 5 1, 3) := by decide +kernel
theorem dX6_demands_124 : decode cX6_demands 124 = .ok (.goto (-45), 3) := by decide +kernel
theorem dX6_demands_127 : decode cX6_demands 127 = .ok (.iload 4, 2) := by decide +kernel
theorem dX6_demands_129 : decode cX6_demands 129 = .ok (.ireturn, 1) := by decide +kernel
theorem dX6_bestOfSets_0 : decode cX6_bestOfSets 0 = .ok (.ldc 126, 2) := by decide +kernel
theorem dX6_bestOfSets_2 : decode cX6_bestOfSets 2 = .ok (.istore_n 1, 1) := by decide +kernel
theorem dX6_bestOfSets_3 : decode cX6_bestOfSets 3 = .ok (.iconst 0, 1) := by decide +kernel
theorem dX6_bestOfSets_4 : decode cX6_bestOfSets 4 = .ok (.istore_n 2, 1) := by decide +kernel
theorem dX6_bestOfSets_5 : decode cX6_bestOfSets 5 = .ok (.iload_n 2, 1) := by decide +kernel
theorem dX6_bestOfSets_6 : decode cX6_bestOfSets 6 = .ok (.iconst 1, 1) := by decide +kernel
theorem dX6_bestOfSets_7 : decode cX6_bestOfSets 7 = .ok (.aload_n 0, 1) := by decide +kernel
theorem dX6_bestOfSets_8 : decode cX6_bestOfSets 8 = .ok (.getfield 90, 3) := by decide +kernel
theorem dX6_bestOfSets_11 : decode cX6_bestOfSets 11 = .ok (.ishl, 1) := by decide +kernel
theorem dX6_bestOfSets_12 : decode cX6_bestOfSets 12 = .ok (.if_icmp .ge 94, 3) := by decide +kernel
theorem dX6_bestOfSets_15 : decode cX6_bestOfSets 15 = .ok (.iconst 0, 1) := by decide +kernel
theorem dX6_bestOfSets_16 : decode cX6_bestOfSets 16 = .ok (.istore_n 3, 1) := by decide +kernel
theorem dX6_bestOfSets_17 : decode cX6_bestOfSets 17 = .ok (.iconst 0, 1) := by decide +kernel
theorem dX6_bestOfSets_18 : decode cX6_bestOfSets 18 = .ok (.istore 4, 2) := by decide +kernel
theorem dX6_bestOfSets_20 : decode cX6_bestOfSets 20 = .ok (.iconst 0, 1) := by decide +kernel
theorem dX6_bestOfSets_21 : decode cX6_bestOfSets 21 = .ok (.istore 5, 2) := by decide +kernel
theorem dX6_bestOfSets_23 : decode cX6_bestOfSets 23 = .ok (.iload 5, 2) := by decide +kernel
theorem dX6_bestOfSets_25 : decode cX6_bestOfSets 25 = .ok (.aload_n 0, 1) := by decide +kernel
theorem dX6_bestOfSets_26 : decode cX6_bestOfSets 26 = .ok (.getfield 90, 3) := by decide +kernel
theorem dX6_bestOfSets_29 : decode cX6_bestOfSets 29 = .ok (.if_icmp .ge 41, 3) := by decide +kernel
theorem dX6_bestOfSets_32 : decode cX6_bestOfSets 32 = .ok (.iload_n 2, 1) := by decide +kernel
theorem dX6_bestOfSets_33 : decode cX6_bestOfSets 33 = .ok (.iload 5, 2) := by decide +kernel
theorem dX6_bestOfSets_35 : decode cX6_bestOfSets 35 = .ok (.ishr, 1) := by decide +kernel
theorem dX6_bestOfSets_36 : decode cX6_bestOfSets 36 = .ok (.iconst 1, 1) := by decide +kernel
theorem dX6_bestOfSets_37 : decode cX6_bestOfSets 37 = .ok (.iand, 1) := by decide +kernel
theorem dX6_bestOfSets_38 : decode cX6_bestOfSets 38 = .ok (.iconst 1, 1) := by decide +kernel
theorem dX6_bestOfSets_39 : decode cX6_bestOfSets 39 = .ok (.if_icmp .ne 25, 3) := by decide +kernel
theorem dX6_bestOfSets_42 : decode cX6_bestOfSets 42 = .ok (.iload_n 3, 1) := by decide +kernel
theorem dX6_bestOfSets_43 : decode cX6_bestOfSets 43 = .ok (.aload_n 0, 1) := by decide +kernel
theorem dX6_bestOfSets_44 : decode cX6_bestOfSets 44 = .ok (.getfield 22, 3) := by decide +kernel
theorem dX6_bestOfSets_47 : decode cX6_bestOfSets 47 = .ok (.iload 5, 2) := by decide +kernel
theorem dX6_bestOfSets_49 : decode cX6_bestOfSets 49 = .ok (.iaload, 1) := by decide +kernel
theorem dX6_bestOfSets_50 : decode cX6_bestOfSets 50 = .ok (.ior, 1) := by decide +kernel
theorem dX6_bestOfSets_51 : decode cX6_bestOfSets 51 = .ok (.istore_n 3, 1) := by decide +kernel
theorem dX6_bestOfSets_52 : decode cX6_bestOfSets 52 = .ok (.iload 4, 2) := by decide +kernel
theorem dX6_bestOfSets_54 : decode cX6_bestOfSets 54 = .ok (.aload_n 0, 1) := by decide +kernel
theorem dX6_bestOfSets_55 : decode cX6_bestOfSets 55 = .ok (.getfield 19, 3) := by decide +kernel
theorem dX6_bestOfSets_58 : decode cX6_bestOfSets 58 = .ok (.iload 5, 2) := by decide +kernel
theorem dX6_bestOfSets_60 : decode cX6_bestOfSets 60 = .ok (.iaload, 1) := by decide +kernel
theorem dX6_bestOfSets_61 : decode cX6_bestOfSets 61 = .ok (.iadd, 1) := by decide +kernel
theorem dX6_bestOfSets_62 : decode cX6_bestOfSets 62 = .ok (.istore 4, 2) := by decide +kernel
theorem dX6_bestOfSets_64 : decode cX6_bestOfSets 64 = .ok (.iinc 5 1, 3) := by decide +kernel
theorem dX6_bestOfSets_67 : decode cX6_bestOfSets 67 = .ok (.goto (-44), 3) := by decide +kernel
theorem dX6_bestOfSets_70 : decode cX6_bestOfSets 70 = .ok (.aload_n 0, 1) := by decide +kernel
theorem dX6_bestOfSets_71 : decode cX6_bestOfSets 71 = .ok (.getfield 100, 3) := by decide +kernel
theorem dX6_bestOfSets_74 : decode cX6_bestOfSets 74 = .ok (.iload_n 3, 1) := by decide +kernel
theorem dX6_bestOfSets_75 : decode cX6_bestOfSets 75 = .ok (.iconst (-1), 1) := by decide +kernel
theorem dX6_bestOfSets_76 : decode cX6_bestOfSets 76 = .ok (.ixor, 1) := by decide +kernel
theorem dX6_bestOfSets_77 : decode cX6_bestOfSets 77 = .ok (.iand, 1) := by decide +kernel
theorem dX6_bestOfSets_78 : decode cX6_bestOfSets 78 = .ok (.ifCond .ne 20, 3) := by decide +kernel
theorem dX6_bestOfSets_81 : decode cX6_bestOfSets 81 = .ok (.iload_n 1, 1) := by decide +kernel
theorem dX6_bestOfSets_82 : decode cX6_bestOfSets 82 = .ok (.ldc 126, 2) := by decide +kernel
theorem dX6_bestOfSets_84 : decode cX6_bestOfSets 84 = .ok (.if_icmp .eq 9, 3) := by decide +kernel
theorem dX6_bestOfSets_87 : decode cX6_bestOfSets 87 = .ok (.iload 4, 2) := by decide +kernel
theorem dX6_bestOfSets_89 : decode cX6_bestOfSets 89 = .ok (.iload_n 1, 1) := by decide +kernel
theorem dX6_bestOfSets_90 : decode cX6_bestOfSets 90 = .ok (.if_icmp .ge 8, 3) := by decide +kernel
theorem dX6_bestOfSets_93 : decode cX6_bestOfSets 93 = .ok (.iload 4, 2) := by decide +kernel
theorem dX6_bestOfSets_95 : decode cX6_bestOfSets 95 = .ok (.goto 4, 3) := by decide +kernel
theorem dX6_bestOfSets_98 : decode cX6_bestOfSets 98 = .ok (.iload_n 1, 1) := by decide +kernel
theorem dX6_bestOfSets_99 : decode cX6_bestOfSets 99 = .ok (.istore_n 1, 1) := by decide +kernel
theorem dX6_bestOfSets_100 : decode cX6_bestOfSets 100 = .ok (.iinc 2 1, 3) := by decide +kernel
theorem dX6_bestOfSets_103 : decode cX6_bestOfSets 103 = .ok (.goto (-98), 3) := by decide +kernel
theorem dX6_bestOfSets_106 : decode cX6_bestOfSets 106 = .ok (.iload_n 1, 1) := by decide +kernel
theorem dX6_bestOfSets_107 : decode cX6_bestOfSets 107 = .ok (.ireturn, 1) := by decide +kernel
theorem dX6_covers_0 : decode cX6_covers 0 = .ok (.aload_n 0, 1) := by decide +kernel
theorem dX6_covers_1 : decode cX6_covers 1 = .ok (.iconst 0, 1) := by decide +kernel
theorem dX6_covers_2 : decode cX6_covers 2 = .ok (.putfield 66, 3) := by decide +kernel
theorem dX6_covers_5 : decode cX6_covers 5 = .ok (.iload_n 1, 1) := by decide +kernel
theorem dX6_covers_6 : decode cX6_covers 6 = .ok (.i2l, 1) := by decide +kernel
theorem dX6_covers_7 : decode cX6_covers 7 = .ok (.lconst 0, 1) := by decide +kernel
theorem dX6_covers_8 : decode cX6_covers 8 = .ok (.ldc2_w 127, 3) := by decide +kernel
theorem dX6_covers_11 : decode cX6_covers 11 = .ok (.invokestatic 75, 3) := by decide +kernel
theorem dX6_covers_14 : decode cX6_covers 14 = .ok (.ifCond .ne 6, 3) := by decide +kernel
theorem dX6_covers_17 : decode cX6_covers 17 = .ok (.ldc 85, 2) := by decide +kernel
theorem dX6_covers_19 : decode cX6_covers 19 = .ok (.ireturn, 1) := by decide +kernel
theorem dX6_covers_20 : decode cX6_covers 20 = .ok (.iconst 0, 1) := by decide +kernel
theorem dX6_covers_21 : decode cX6_covers 21 = .ok (.istore_n 2, 1) := by decide +kernel
theorem dX6_covers_22 : decode cX6_covers 22 = .ok (.iconst 0, 1) := by decide +kernel
theorem dX6_covers_23 : decode cX6_covers 23 = .ok (.istore_n 3, 1) := by decide +kernel
theorem dX6_covers_24 : decode cX6_covers 24 = .ok (.iload_n 3, 1) := by decide +kernel
theorem dX6_covers_25 : decode cX6_covers 25 = .ok (.bipush 12, 2) := by decide +kernel
theorem dX6_covers_27 : decode cX6_covers 27 = .ok (.if_icmp .ge 91, 3) := by decide +kernel
theorem dX6_covers_30 : decode cX6_covers 30 = .ok (.iconst 0, 1) := by decide +kernel
theorem dX6_covers_31 : decode cX6_covers 31 = .ok (.istore 4, 2) := by decide +kernel
theorem dX6_covers_33 : decode cX6_covers 33 = .ok (.iconst 0, 1) := by decide +kernel
theorem dX6_covers_34 : decode cX6_covers 34 = .ok (.istore 5, 2) := by decide +kernel
theorem dX6_covers_36 : decode cX6_covers 36 = .ok (.iload 5, 2) := by decide +kernel
theorem dX6_covers_38 : decode cX6_covers 38 = .ok (.aload_n 0, 1) := by decide +kernel
theorem dX6_covers_39 : decode cX6_covers 39 = .ok (.getfield 90, 3) := by decide +kernel
theorem dX6_covers_42 : decode cX6_covers 42 = .ok (.if_icmp .ge 41, 3) := by decide +kernel
theorem dX6_covers_45 : decode cX6_covers 45 = .ok (.iload 4, 2) := by decide +kernel
theorem dX6_covers_47 : decode cX6_covers 47 = .ok (.aload_n 0, 1) := by decide +kernel
theorem dX6_covers_48 : decode cX6_covers 48 = .ok (.iload 5, 2) := by decide +kernel
theorem dX6_covers_50 : decode cX6_covers 50 = .ok (.iload_n 3, 1) := by decide +kernel
theorem dX6_covers_51 : decode cX6_covers 51 = .ok (.invokevirtual 108, 3) := by decide +kernel
theorem dX6_covers_54 : decode cX6_covers 54 = .ok (.ifCond .eq 19, 3) := by decide +kernel
theorem dX6_covers_57 : decode cX6_covers 57 = .ok (.aload_n 0, 1) := by decide +kernel
theorem dX6_covers_58 : decode cX6_covers 58 = .ok (.getfield 100, 3) := by decide +kernel
theorem dX6_covers_61 : decode cX6_covers 61 = .ok (.iload_n 3, 1) := by decide +kernel
theorem dX6_covers_62 : decode cX6_covers 62 = .ok (.ishr, 1) := by decide +kernel
theorem dX6_covers_63 : decode cX6_covers 63 = .ok (.iconst 1, 1) := by decide +kernel
theorem dX6_covers_64 : decode cX6_covers 64 = .ok (.iand, 1) := by decide +kernel
theorem dX6_covers_65 : decode cX6_covers 65 = .ok (.iconst 1, 1) := by decide +kernel
theorem dX6_covers_66 : decode cX6_covers 66 = .ok (.if_icmp .ne 7, 3) := by decide +kernel
theorem dX6_covers_69 : decode cX6_covers 69 = .ok (.iconst 1, 1) := by decide +kernel
theorem dX6_covers_70 : decode cX6_covers 70 = .ok (.goto 4, 3) := by decide +kernel
theorem dX6_covers_73 : decode cX6_covers 73 = .ok (.iconst 0, 1) := by decide +kernel
theorem dX6_covers_74 : decode cX6_covers 74 = .ok (.iadd, 1) := by decide +kernel
theorem dX6_covers_75 : decode cX6_covers 75 = .ok (.istore 4, 2) := by decide +kernel
theorem dX6_covers_77 : decode cX6_covers 77 = .ok (.iinc 5 1, 3) := by decide +kernel
theorem dX6_covers_80 : decode cX6_covers 80 = .ok (.goto (-44), 3) := by decide +kernel
theorem dX6_covers_83 : decode cX6_covers 83 = .ok (.iload_n 1, 1) := by decide +kernel
theorem dX6_covers_84 : decode cX6_covers 84 = .ok (.iconst 1, 1) := by decide +kernel
theorem dX6_covers_85 : decode cX6_covers 85 = .ok (.if_icmp .ne 14, 3) := by decide +kernel
theorem dX6_covers_88 : decode cX6_covers 88 = .ok (.iload_n 2, 1) := by decide +kernel
theorem dX6_covers_89 : decode cX6_covers 89 = .ok (.aload_n 0, 1) := by decide +kernel
theorem dX6_covers_90 : decode cX6_covers 90 = .ok (.getfield 25, 3) := by decide +kernel
theorem dX6_covers_93 : decode cX6_covers 93 = .ok (.iload_n 3, 1) := by decide +kernel
theorem dX6_covers_94 : decode cX6_covers 94 = .ok (.iaload, 1) := by decide +kernel
theorem dX6_covers_95 : decode cX6_covers 95 = .ok (.iadd, 1) := by decide +kernel
theorem dX6_covers_96 : decode cX6_covers 96 = .ok (.goto 15, 3) := by decide +kernel
theorem dX6_covers_99 : decode cX6_covers 99 = .ok (.iload 4, 2) := by decide +kernel
theorem dX6_covers_101 : decode cX6_covers 101 = .ok (.iload_n 2, 1) := by decide +kernel
theorem dX6_covers_102 : decode cX6_covers 102 = .ok (.if_icmp .le 8, 3) := by decide +kernel
theorem dX6_covers_105 : decode cX6_covers 105 = .ok (.iload 4, 2) := by decide +kernel
theorem dX6_covers_107 : decode cX6_covers 107 = .ok (.goto 4, 3) := by decide +kernel
theorem dX6_covers_110 : decode cX6_covers 110 = .ok (.iload_n 2, 1) := by decide +kernel
theorem dX6_covers_111 : decode cX6_covers 111 = .ok (.istore_n 2, 1) := by decide +kernel
theorem dX6_covers_112 : decode cX6_covers 112 = .ok (.iinc 3 1, 3) := by decide +kernel
theorem dX6_covers_115 : decode cX6_covers 115 = .ok (.goto (-91), 3) := by decide +kernel
theorem dX6_covers_118 : decode cX6_covers 118 = .ok (.iload_n 1, 1) := by decide +kernel
theorem dX6_covers_119 : decode cX6_covers 119 = .ok (.ifCond .ne 10, 3) := by decide +kernel
theorem dX6_covers_122 : decode cX6_covers 122 = .ok (.aload_n 0, 1) := by decide +kernel
theorem dX6_covers_123 : decode cX6_covers 123 = .ok (.getfield 118, 3) := by decide +kernel
theorem dX6_covers_126 : decode cX6_covers 126 = .ok (.goto 40, 3) := by decide +kernel
theorem dX6_covers_129 : decode cX6_covers 129 = .ok (.iload_n 1, 1) := by decide +kernel
theorem dX6_covers_130 : decode cX6_covers 130 = .ok (.iconst 2, 1) := by decide +kernel
theorem dX6_covers_131 : decode cX6_covers 131 = .ok (.if_icmp .ne 10, 3) := by decide +kernel
theorem dX6_covers_134 : decode cX6_covers 134 = .ok (.aload_n 0, 1) := by decide +kernel
theorem dX6_covers_135 : decode cX6_covers 135 = .ok (.invokevirtual 129, 3) := by decide +kernel
theorem dX6_covers_138 : decode cX6_covers 138 = .ok (.goto 28, 3) := by decide +kernel
theorem dX6_covers_141 : decode cX6_covers 141 = .ok (.iload_n 1, 1) := by decide +kernel
theorem dX6_covers_142 : decode cX6_covers 142 = .ok (.iconst 4, 1) := by decide +kernel
theorem dX6_covers_143 : decode cX6_covers 143 = .ok (.if_icmp .ne 10, 3) := by decide +kernel
theorem dX6_covers_146 : decode cX6_covers 146 = .ok (.aload_n 0, 1) := by decide +kernel
theorem dX6_covers_147 : decode cX6_covers 147 = .ok (.getfield 100, 3) := by decide +kernel
theorem dX6_covers_150 : decode cX6_covers 150 = .ok (.goto 16, 3) := by decide +kernel
theorem dX6_covers_153 : decode cX6_covers 153 = .ok (.iload_n 1, 1) := by decide +kernel
theorem dX6_covers_154 : decode cX6_covers 154 = .ok (.iconst 5, 1) := by decide +kernel
theorem dX6_covers_155 : decode cX6_covers 155 = .ok (.if_icmp .ne 10, 3) := by decide +kernel
theorem dX6_covers_158 : decode cX6_covers 158 = .ok (.aload_n 0, 1) := by decide +kernel
theorem dX6_covers_159 : decode cX6_covers 159 = .ok (.getfield 93, 3) := by decide +kernel
theorem dX6_covers_162 : decode cX6_covers 162 = .ok (.goto 4, 3) := by decide +kernel
theorem dX6_covers_165 : decode cX6_covers 165 = .ok (.iload_n 2, 1) := by decide +kernel
theorem dX6_covers_166 : decode cX6_covers 166 = .ok (.ireturn, 1) := by decide +kernel
theorem dX6_size_0 : decode cX6_size 0 = .ok (.iconst 0, 1) := by decide +kernel
theorem dX6_size_1 : decode cX6_size 1 = .ok (.istore_n 1, 1) := by decide +kernel
theorem dX6_size_2 : decode cX6_size 2 = .ok (.iconst 0, 1) := by decide +kernel
theorem dX6_size_3 : decode cX6_size 3 = .ok (.istore_n 2, 1) := by decide +kernel
theorem dX6_size_4 : decode cX6_size 4 = .ok (.iload_n 2, 1) := by decide +kernel
theorem dX6_size_5 : decode cX6_size 5 = .ok (.bipush 12, 2) := by decide +kernel
theorem dX6_size_7 : decode cX6_size 7 = .ok (.if_icmp .ge 17, 3) := by decide +kernel
theorem dX6_size_10 : decode cX6_size 10 = .ok (.iload_n 1, 1) := by decide +kernel
theorem dX6_size_11 : decode cX6_size 11 = .ok (.iload_n 0, 1) := by decide +kernel
theorem dX6_size_12 : decode cX6_size 12 = .ok (.iload_n 2, 1) := by decide +kernel
theorem dX6_size_13 : decode cX6_size 13 = .ok (.ishr, 1) := by decide +kernel
theorem dX6_size_14 : decode cX6_size 14 = .ok (.iconst 1, 1) := by decide +kernel
theorem dX6_size_15 : decode cX6_size 15 = .ok (.iand, 1) := by decide +kernel
theorem dX6_size_16 : decode cX6_size 16 = .ok (.iadd, 1) := by decide +kernel
theorem dX6_size_17 : decode cX6_size 17 = .ok (.istore_n 1, 1) := by decide +kernel
theorem dX6_size_18 : decode cX6_size 18 = .ok (.iinc 2 1, 3) := by decide +kernel
theorem dX6_size_21 : decode cX6_size 21 = .ok (.goto (-17), 3) := by decide +kernel
theorem dX6_size_24 : decode cX6_size 24 = .ok (.iload_n 1, 1) := by decide +kernel
theorem dX6_size_25 : decode cX6_size 25 = .ok (.ireturn, 1) := by decide +kernel
theorem dX6_told_0 : decode cX6_told 0 = .ok (.aload_n 0, 1) := by decide +kernel
theorem dX6_told_1 : decode cX6_told 1 = .ok (.iconst 0, 1) := by decide +kernel
theorem dX6_told_2 : decode cX6_told 2 = .ok (.putfield 66, 3) := by decide +kernel
theorem dX6_told_5 : decode cX6_told 5 = .ok (.aload_n 0, 1) := by decide +kernel
theorem dX6_told_6 : decode cX6_told 6 = .ok (.iload_n 1, 1) := by decide +kernel
theorem dX6_told_7 : decode cX6_told 7 = .ok (.invokevirtual 133, 3) := by decide +kernel
theorem dX6_told_10 : decode cX6_told 10 = .ok (.ifCond .eq 15, 3) := by decide +kernel
theorem dX6_told_13 : decode cX6_told 13 = .ok (.iload_n 2, 1) := by decide +kernel
theorem dX6_told_14 : decode cX6_told 14 = .ok (.i2l, 1) := by decide +kernel
theorem dX6_told_15 : decode cX6_told 15 = .ok (.lconst 0, 1) := by decide +kernel
theorem dX6_told_16 : decode cX6_told 16 = .ok (.ldc2_w 136, 3) := by decide +kernel
theorem dX6_told_19 : decode cX6_told 19 = .ok (.invokestatic 75, 3) := by decide +kernel
theorem dX6_told_22 : decode cX6_told 22 = .ok (.ifCond .ne 6, 3) := by decide +kernel
theorem dX6_told_25 : decode cX6_told 25 = .ok (.ldc 85, 2) := by decide +kernel
theorem dX6_told_27 : decode cX6_told 27 = .ok (.ireturn, 1) := by decide +kernel
theorem dX6_told_28 : decode cX6_told 28 = .ok (.iload_n 2, 1) := by decide +kernel
theorem dX6_told_29 : decode cX6_told 29 = .ok (.ifCond .ne 12, 3) := by decide +kernel
theorem dX6_told_32 : decode cX6_told 32 = .ok (.aload_n 0, 1) := by decide +kernel
theorem dX6_told_33 : decode cX6_told 33 = .ok (.getfield 19, 3) := by decide +kernel
theorem dX6_told_36 : decode cX6_told 36 = .ok (.iload_n 1, 1) := by decide +kernel
theorem dX6_told_37 : decode cX6_told 37 = .ok (.iaload, 1) := by decide +kernel
theorem dX6_told_38 : decode cX6_told 38 = .ok (.goto 43, 3) := by decide +kernel
theorem dX6_told_41 : decode cX6_told 41 = .ok (.iload_n 2, 1) := by decide +kernel
theorem dX6_told_42 : decode cX6_told 42 = .ok (.iconst 1, 1) := by decide +kernel
theorem dX6_told_43 : decode cX6_told 43 = .ok (.if_icmp .ne 12, 3) := by decide +kernel
theorem dX6_told_46 : decode cX6_told 46 = .ok (.aload_n 0, 1) := by decide +kernel
theorem dX6_told_47 : decode cX6_told 47 = .ok (.getfield 22, 3) := by decide +kernel
theorem dX6_told_50 : decode cX6_told 50 = .ok (.iload_n 1, 1) := by decide +kernel
theorem dX6_told_51 : decode cX6_told 51 = .ok (.iaload, 1) := by decide +kernel
theorem dX6_told_52 : decode cX6_told 52 = .ok (.goto 29, 3) := by decide +kernel
theorem dX6_told_55 : decode cX6_told 55 = .ok (.iload_n 2, 1) := by decide +kernel
theorem dX6_told_56 : decode cX6_told 56 = .ok (.iconst 2, 1) := by decide +kernel
theorem dX6_told_57 : decode cX6_told 57 = .ok (.if_icmp .ne 11, 3) := by decide +kernel
theorem dX6_told_60 : decode cX6_told 60 = .ok (.aload_n 0, 1) := by decide +kernel
theorem dX6_told_61 : decode cX6_told 61 = .ok (.iload_n 1, 1) := by decide +kernel
theorem dX6_told_62 : decode cX6_told 62 = .ok (.invokevirtual 115, 3) := by decide +kernel
theorem dX6_told_65 : decode cX6_told 65 = .ok (.goto 16, 3) := by decide +kernel
theorem dX6_told_68 : decode cX6_told 68 = .ok (.aload_n 0, 1) := by decide +kernel
theorem dX6_told_69 : decode cX6_told 69 = .ok (.iload_n 1, 1) := by decide +kernel
theorem dX6_told_70 : decode cX6_told 70 = .ok (.invokevirtual 112, 3) := by decide +kernel
theorem dX6_told_73 : decode cX6_told 73 = .ok (.ifCond .eq 7, 3) := by decide +kernel
theorem dX6_told_76 : decode cX6_told 76 = .ok (.iconst 1, 1) := by decide +kernel
theorem dX6_told_77 : decode cX6_told 77 = .ok (.goto 4, 3) := by decide +kernel
theorem dX6_told_80 : decode cX6_told 80 = .ok (.iconst 0, 1) := by decide +kernel
theorem dX6_told_81 : decode cX6_told 81 = .ok (.ireturn, 1) := by decide +kernel
theorem dX6_price_0 : decode cX6_price 0 = .ok (.aload_n 0, 1) := by decide +kernel
theorem dX6_price_1 : decode cX6_price 1 = .ok (.iconst 0, 1) := by decide +kernel
theorem dX6_price_2 : decode cX6_price 2 = .ok (.putfield 66, 3) := by decide +kernel
theorem dX6_price_5 : decode cX6_price 5 = .ok (.iload_n 1, 1) := by decide +kernel
theorem dX6_price_6 : decode cX6_price 6 = .ok (.i2l, 1) := by decide +kernel
theorem dX6_price_7 : decode cX6_price 7 = .ok (.lconst 0, 1) := by decide +kernel
theorem dX6_price_8 : decode cX6_price 8 = .ok (.ldc2_w 105, 3) := by decide +kernel
theorem dX6_price_11 : decode cX6_price 11 = .ok (.invokestatic 75, 3) := by decide +kernel
theorem dX6_price_14 : decode cX6_price 14 = .ok (.ifCond .eq 12, 3) := by decide +kernel
theorem dX6_price_17 : decode cX6_price 17 = .ok (.aload_n 0, 1) := by decide +kernel
theorem dX6_price_18 : decode cX6_price 18 = .ok (.getfield 25, 3) := by decide +kernel
theorem dX6_price_21 : decode cX6_price 21 = .ok (.iload_n 1, 1) := by decide +kernel
theorem dX6_price_22 : decode cX6_price 22 = .ok (.iaload, 1) := by decide +kernel
theorem dX6_price_23 : decode cX6_price 23 = .ok (.goto 5, 3) := by decide +kernel
theorem dX6_price_26 : decode cX6_price 26 = .ok (.ldc 85, 2) := by decide +kernel
theorem dX6_price_28 : decode cX6_price 28 = .ok (.ireturn, 1) := by decide +kernel
theorem dX6_lease_0 : decode cX6_lease 0 = .ok (.aload_n 0, 1) := by decide +kernel
theorem dX6_lease_1 : decode cX6_lease 1 = .ok (.iconst 0, 1) := by decide +kernel
theorem dX6_lease_2 : decode cX6_lease 2 = .ok (.putfield 66, 3) := by decide +kernel
theorem dX6_lease_5 : decode cX6_lease 5 = .ok (.iload_n 1, 1) := by decide +kernel
theorem dX6_lease_6 : decode cX6_lease 6 = .ok (.i2l, 1) := by decide +kernel
theorem dX6_lease_7 : decode cX6_lease 7 = .ok (.lconst 1, 1) := by decide +kernel
theorem dX6_lease_8 : decode cX6_lease 8 = .ok (.ldc2_w 138, 3) := by decide +kernel
theorem dX6_lease_11 : decode cX6_lease 11 = .ok (.invokestatic 75, 3) := by decide +kernel
theorem dX6_lease_14 : decode cX6_lease 14 = .ok (.ifCond .eq 15, 3) := by decide +kernel
theorem dX6_lease_17 : decode cX6_lease 17 = .ok (.iload_n 2, 1) := by decide +kernel
theorem dX6_lease_18 : decode cX6_lease 18 = .ok (.i2l, 1) := by decide +kernel
theorem dX6_lease_19 : decode cX6_lease 19 = .ok (.lconst 1, 1) := by decide +kernel
theorem dX6_lease_20 : decode cX6_lease 20 = .ok (.ldc2_w 96, 3) := by decide +kernel
theorem dX6_lease_23 : decode cX6_lease 23 = .ok (.invokestatic 75, 3) := by decide +kernel
theorem dX6_lease_26 : decode cX6_lease 26 = .ok (.ifCond .ne 6, 3) := by decide +kernel
theorem dX6_lease_29 : decode cX6_lease 29 = .ok (.ldc 85, 2) := by decide +kernel
theorem dX6_lease_31 : decode cX6_lease 31 = .ok (.ireturn, 1) := by decide +kernel
theorem dX6_lease_32 : decode cX6_lease 32 = .ok (.aload_n 0, 1) := by decide +kernel
theorem dX6_lease_33 : decode cX6_lease 33 = .ok (.getfield 44, 3) := by decide +kernel
theorem dX6_lease_36 : decode cX6_lease 36 = .ok (.ifCond .ge 41, 3) := by decide +kernel
theorem dX6_lease_39 : decode cX6_lease 39 = .ok (.aload_n 0, 1) := by decide +kernel
theorem dX6_lease_40 : decode cX6_lease 40 = .ok (.getfield 140, 3) := by decide +kernel
theorem dX6_lease_43 : decode cX6_lease 43 = .ok (.ifCond .le 37, 3) := by decide +kernel
theorem dX6_lease_46 : decode cX6_lease 46 = .ok (.iload_n 1, 1) := by decide +kernel
theorem dX6_lease_47 : decode cX6_lease 47 = .ok (.aload_n 0, 1) := by decide +kernel
theorem dX6_lease_48 : decode cX6_lease 48 = .ok (.getfield 28, 3) := by decide +kernel
theorem dX6_lease_51 : decode cX6_lease 51 = .ok (.aload_n 0, 1) := by decide +kernel
theorem dX6_lease_52 : decode cX6_lease 52 = .ok (.getfield 140, 3) := by decide +kernel
theorem dX6_lease_55 : decode cX6_lease 55 = .ok (.iconst 1, 1) := by decide +kernel
theorem dX6_lease_56 : decode cX6_lease 56 = .ok (.isub, 1) := by decide +kernel
theorem dX6_lease_57 : decode cX6_lease 57 = .ok (.iaload, 1) := by decide +kernel
theorem dX6_lease_58 : decode cX6_lease 58 = .ok (.irem, 1) := by decide +kernel
theorem dX6_lease_59 : decode cX6_lease 59 = .ok (.ifCond .ne 18, 3) := by decide +kernel
theorem dX6_lease_62 : decode cX6_lease 62 = .ok (.iload_n 1, 1) := by decide +kernel
theorem dX6_lease_63 : decode cX6_lease 63 = .ok (.aload_n 0, 1) := by decide +kernel
theorem dX6_lease_64 : decode cX6_lease 64 = .ok (.getfield 28, 3) := by decide +kernel
theorem dX6_lease_67 : decode cX6_lease 67 = .ok (.aload_n 0, 1) := by decide +kernel
theorem dX6_lease_68 : decode cX6_lease 68 = .ok (.getfield 140, 3) := by decide +kernel
theorem dX6_lease_71 : decode cX6_lease 71 = .ok (.iconst 1, 1) := by decide +kernel
theorem dX6_lease_72 : decode cX6_lease 72 = .ok (.isub, 1) := by decide +kernel
theorem dX6_lease_73 : decode cX6_lease 73 = .ok (.iaload, 1) := by decide +kernel
theorem dX6_lease_74 : decode cX6_lease 74 = .ok (.if_icmp .ne 6, 3) := by decide +kernel
theorem dX6_lease_77 : decode cX6_lease 77 = .ok (.ldc 103, 2) := by decide +kernel
theorem dX6_lease_79 : decode cX6_lease 79 = .ok (.ireturn, 1) := by decide +kernel
theorem dX6_lease_80 : decode cX6_lease 80 = .ok (.aload_n 0, 1) := by decide +kernel
theorem dX6_lease_81 : decode cX6_lease 81 = .ok (.getfield 140, 3) := by decide +kernel
theorem dX6_lease_84 : decode cX6_lease 84 = .ok (.iconst 4, 1) := by decide +kernel
theorem dX6_lease_85 : decode cX6_lease 85 = .ok (.if_icmp .ne 6, 3) := by decide +kernel
theorem dX6_lease_88 : decode cX6_lease 88 = .ok (.ldc 104, 2) := by decide +kernel
theorem dX6_lease_90 : decode cX6_lease 90 = .ok (.ireturn, 1) := by decide +kernel
theorem dX6_lease_91 : decode cX6_lease 91 = .ok (.aload_n 0, 1) := by decide +kernel
theorem dX6_lease_92 : decode cX6_lease 92 = .ok (.getfield 28, 3) := by decide +kernel
theorem dX6_lease_95 : decode cX6_lease 95 = .ok (.aload_n 0, 1) := by decide +kernel
theorem dX6_lease_96 : decode cX6_lease 96 = .ok (.getfield 140, 3) := by decide +kernel
theorem dX6_lease_99 : decode cX6_lease 99 = .ok (.iload_n 1, 1) := by decide +kernel
theorem dX6_lease_100 : decode cX6_lease 100 = .ok (.iastore, 1) := by decide +kernel
theorem dX6_lease_101 : decode cX6_lease 101 = .ok (.aload_n 0, 1) := by decide +kernel
theorem dX6_lease_102 : decode cX6_lease 102 = .ok (.getfield 31, 3) := by decide +kernel
theorem dX6_lease_105 : decode cX6_lease 105 = .ok (.aload_n 0, 1) := by decide +kernel
theorem dX6_lease_106 : decode cX6_lease 106 = .ok (.getfield 140, 3) := by decide +kernel
theorem dX6_lease_109 : decode cX6_lease 109 = .ok (.iload_n 2, 1) := by decide +kernel
theorem dX6_lease_110 : decode cX6_lease 110 = .ok (.iastore, 1) := by decide +kernel
theorem dX6_lease_111 : decode cX6_lease 111 = .ok (.aload_n 0, 1) := by decide +kernel
theorem dX6_lease_112 : decode cX6_lease 112 = .ok (.dup, 1) := by decide +kernel
theorem dX6_lease_113 : decode cX6_lease 113 = .ok (.getfield 140, 3) := by decide +kernel
theorem dX6_lease_116 : decode cX6_lease 116 = .ok (.iconst 1, 1) := by decide +kernel
theorem dX6_lease_117 : decode cX6_lease 117 = .ok (.iadd, 1) := by decide +kernel
theorem dX6_lease_118 : decode cX6_lease 118 = .ok (.putfield 140, 3) := by decide +kernel
theorem dX6_lease_121 : decode cX6_lease 121 = .ok (.aload_n 0, 1) := by decide +kernel
theorem dX6_lease_122 : decode cX6_lease 122 = .ok (.getfield 140, 3) := by decide +kernel
theorem dX6_lease_125 : decode cX6_lease 125 = .ok (.iconst 1, 1) := by decide +kernel
theorem dX6_lease_126 : decode cX6_lease 126 = .ok (.isub, 1) := by decide +kernel
theorem dX6_lease_127 : decode cX6_lease 127 = .ok (.ireturn, 1) := by decide +kernel
theorem dX6_isDay_0 : decode cX6_isDay 0 = .ok (.iload_n 0, 1) := by decide +kernel
theorem dX6_isDay_1 : decode cX6_isDay 1 = .ok (.i2l, 1) := by decide +kernel
theorem dX6_isDay_2 : decode cX6_isDay 2 = .ok (.lconst 0, 1) := by decide +kernel
theorem dX6_isDay_3 : decode cX6_isDay 3 = .ok (.ldc2_w 143, 3) := by decide +kernel
theorem dX6_isDay_6 : decode cX6_isDay 6 = .ok (.invokestatic 75, 3) := by decide +kernel
theorem dX6_isDay_9 : decode cX6_isDay 9 = .ok (.ireturn, 1) := by decide +kernel
theorem dX6_firstOf_0 : decode cX6_firstOf 0 = .ok (.iload_n 2, 1) := by decide +kernel
theorem dX6_firstOf_1 : decode cX6_firstOf 1 = .ok (.iload_n 2, 1) := by decide +kernel
theorem dX6_firstOf_2 : decode cX6_firstOf 2 = .ok (.aload_n 0, 1) := by decide +kernel
theorem dX6_firstOf_3 : decode cX6_firstOf 3 = .ok (.getfield 28, 3) := by decide +kernel
theorem dX6_firstOf_6 : decode cX6_firstOf 6 = .ok (.iload_n 1, 1) := by decide +kernel
theorem dX6_firstOf_7 : decode cX6_firstOf 7 = .ok (.iaload, 1) := by decide +kernel
theorem dX6_firstOf_8 : decode cX6_firstOf 8 = .ok (.irem, 1) := by decide +kernel
theorem dX6_firstOf_9 : decode cX6_firstOf 9 = .ok (.isub, 1) := by decide +kernel
theorem dX6_firstOf_10 : decode cX6_firstOf 10 = .ok (.ireturn, 1) := by decide +kernel
theorem dX6_isCovered_0 : decode cX6_isCovered 0 = .ok (.iconst 0, 1) := by decide +kernel
theorem dX6_isCovered_1 : decode cX6_isCovered 1 = .ok (.istore_n 2, 1) := by decide +kernel
theorem dX6_isCovered_2 : decode cX6_isCovered 2 = .ok (.iconst 0, 1) := by decide +kernel
theorem dX6_isCovered_3 : decode cX6_isCovered 3 = .ok (.istore_n 3, 1) := by decide +kernel
theorem dX6_isCovered_4 : decode cX6_isCovered 4 = .ok (.iload_n 3, 1) := by decide +kernel
theorem dX6_isCovered_5 : decode cX6_isCovered 5 = .ok (.aload_n 0, 1) := by decide +kernel
theorem dX6_isCovered_6 : decode cX6_isCovered 6 = .ok (.getfield 140, 3) := by decide +kernel
theorem dX6_isCovered_9 : decode cX6_isCovered 9 = .ok (.if_icmp .ge 39, 3) := by decide +kernel
theorem dX6_isCovered_12 : decode cX6_isCovered 12 = .ok (.iload_n 2, 1) := by decide +kernel
theorem dX6_isCovered_13 : decode cX6_isCovered 13 = .ok (.ifCond .ne 23, 3) := by decide +kernel
theorem dX6_isCovered_16 : decode cX6_isCovered 16 = .ok (.aload_n 0, 1) := by decide +kernel
theorem dX6_isCovered_17 : decode cX6_isCovered 17 = .ok (.getfield 41, 3) := by decide +kernel
theorem dX6_isCovered_20 : decode cX6_isCovered 20 = .ok (.sipush 128, 3) := by decide +kernel
theorem dX6_isCovered_23 : decode cX6_isCovered 23 = .ok (.iload_n 3, 1) := by decide +kernel
theorem dX6_isCovered_24 : decode cX6_isCovered 24 = .ok (.imul, 1) := by decide +kernel
theorem dX6_isCovered_25 : decode cX6_isCovered 25 = .ok (.aload_n 0, 1) := by decide +kernel
theorem dX6_isCovered_26 : decode cX6_isCovered 26 = .ok (.iload_n 3, 1) := by decide +kernel
theorem dX6_isCovered_27 : decode cX6_isCovered 27 = .ok (.iload_n 1, 1) := by decide +kernel
theorem dX6_isCovered_28 : decode cX6_isCovered 28 = .ok (.invokevirtual 145, 3) := by decide +kernel
theorem dX6_isCovered_31 : decode cX6_isCovered 31 = .ok (.iadd, 1) := by decide +kernel
theorem dX6_isCovered_32 : decode cX6_isCovered 32 = .ok (.baload, 1) := by decide +kernel
theorem dX6_isCovered_33 : decode cX6_isCovered 33 = .ok (.ifCond .eq 7, 3) := by decide +kernel
theorem dX6_isCovered_36 : decode cX6_isCovered 36 = .ok (.iconst 1, 1) := by decide +kernel
theorem dX6_isCovered_37 : decode cX6_isCovered 37 = .ok (.goto 4, 3) := by decide +kernel
theorem dX6_isCovered_40 : decode cX6_isCovered 40 = .ok (.iconst 0, 1) := by decide +kernel
theorem dX6_isCovered_41 : decode cX6_isCovered 41 = .ok (.istore_n 2, 1) := by decide +kernel
theorem dX6_isCovered_42 : decode cX6_isCovered 42 = .ok (.iinc 3 1, 3) := by decide +kernel
theorem dX6_isCovered_45 : decode cX6_isCovered 45 = .ok (.goto (-41), 3) := by decide +kernel
theorem dX6_isCovered_48 : decode cX6_isCovered 48 = .ok (.iload_n 2, 1) := by decide +kernel
theorem dX6_isCovered_49 : decode cX6_isCovered 49 = .ok (.ireturn, 1) := by decide +kernel
theorem dX6_tollOf_0 : decode cX6_tollOf 0 = .ok (.iconst 0, 1) := by decide +kernel
theorem dX6_tollOf_1 : decode cX6_tollOf 1 = .ok (.istore_n 3, 1) := by decide +kernel
theorem dX6_tollOf_2 : decode cX6_tollOf 2 = .ok (.iload_n 2, 1) := by decide +kernel
theorem dX6_tollOf_3 : decode cX6_tollOf 3 = .ok (.istore 4, 2) := by decide +kernel
theorem dX6_tollOf_5 : decode cX6_tollOf 5 = .ok (.iload 4, 2) := by decide +kernel
theorem dX6_tollOf_7 : decode cX6_tollOf 7 = .ok (.iload_n 2, 1) := by decide +kernel
theorem dX6_tollOf_8 : decode cX6_tollOf 8 = .ok (.aload_n 0, 1) := by decide +kernel
theorem dX6_tollOf_9 : decode cX6_tollOf 9 = .ok (.getfield 28, 3) := by decide +kernel
theorem dX6_tollOf_12 : decode cX6_tollOf 12 = .ok (.iload_n 1, 1) := by decide +kernel
theorem dX6_tollOf_13 : decode cX6_tollOf 13 = .ok (.iaload, 1) := by decide +kernel
theorem dX6_tollOf_14 : decode cX6_tollOf 14 = .ok (.iadd, 1) := by decide +kernel
theorem dX6_tollOf_15 : decode cX6_tollOf 15 = .ok (.if_icmp .ge 27, 3) := by decide +kernel
theorem dX6_tollOf_18 : decode cX6_tollOf 18 = .ok (.iload 4, 2) := by decide +kernel
theorem dX6_tollOf_20 : decode cX6_tollOf 20 = .ok (.sipush 128, 3) := by decide +kernel
theorem dX6_tollOf_23 : decode cX6_tollOf 23 = .ok (.if_icmp .ge 19, 3) := by decide +kernel
theorem dX6_tollOf_26 : decode cX6_tollOf 26 = .ok (.iload_n 3, 1) := by decide +kernel
theorem dX6_tollOf_27 : decode cX6_tollOf 27 = .ok (.aload_n 0, 1) := by decide +kernel
theorem dX6_tollOf_28 : decode cX6_tollOf 28 = .ok (.getfield 38, 3) := by decide +kernel
theorem dX6_tollOf_31 : decode cX6_tollOf 31 = .ok (.iload 4, 2) := by decide +kernel
theorem dX6_tollOf_33 : decode cX6_tollOf 33 = .ok (.iaload, 1) := by decide +kernel
theorem dX6_tollOf_34 : decode cX6_tollOf 34 = .ok (.iadd, 1) := by decide +kernel
theorem dX6_tollOf_35 : decode cX6_tollOf 35 = .ok (.istore_n 3, 1) := by decide +kernel
theorem dX6_tollOf_36 : decode cX6_tollOf 36 = .ok (.iinc 4 1, 3) := by decide +kernel
theorem dX6_tollOf_39 : decode cX6_tollOf 39 = .ok (.goto (-34), 3) := by decide +kernel
theorem dX6_tollOf_42 : decode cX6_tollOf 42 = .ok (.iload_n 3, 1) := by decide +kernel
theorem dX6_tollOf_43 : decode cX6_tollOf 43 = .ok (.ireturn, 1) := by decide +kernel
theorem dX6_day_0 : decode cX6_day 0 = .ok (.aload_n 0, 1) := by decide +kernel
theorem dX6_day_1 : decode cX6_day 1 = .ok (.iconst 0, 1) := by decide +kernel
theorem dX6_day_2 : decode cX6_day 2 = .ok (.putfield 66, 3) := by decide +kernel
theorem dX6_day_5 : decode cX6_day 5 = .ok (.iload_n 1, 1) := by decide +kernel
theorem dX6_day_6 : decode cX6_day 6 = .ok (.invokestatic 149, 3) := by decide +kernel
theorem dX6_day_9 : decode cX6_day 9 = .ok (.ifCond .ne 6, 3) := by decide +kernel
theorem dX6_day_12 : decode cX6_day 12 = .ok (.ldc 85, 2) := by decide +kernel
theorem dX6_day_14 : decode cX6_day 14 = .ok (.ireturn, 1) := by decide +kernel
theorem dX6_day_15 : decode cX6_day 15 = .ok (.aload_n 0, 1) := by decide +kernel
theorem dX6_day_16 : decode cX6_day 16 = .ok (.getfield 140, 3) := by decide +kernel
theorem dX6_day_19 : decode cX6_day 19 = .ok (.ifCond .eq 11, 3) := by decide +kernel
theorem dX6_day_22 : decode cX6_day 22 = .ok (.iload_n 1, 1) := by decide +kernel
theorem dX6_day_23 : decode cX6_day 23 = .ok (.aload_n 0, 1) := by decide +kernel
theorem dX6_day_24 : decode cX6_day 24 = .ok (.getfield 44, 3) := by decide +kernel
theorem dX6_day_27 : decode cX6_day 27 = .ok (.if_icmp .gt 6, 3) := by decide +kernel
theorem dX6_day_30 : decode cX6_day 30 = .ok (.ldc 103, 2) := by decide +kernel
theorem dX6_day_32 : decode cX6_day 32 = .ok (.ireturn, 1) := by decide +kernel
theorem dX6_day_33 : decode cX6_day 33 = .ok (.aload_n 0, 1) := by decide +kernel
theorem dX6_day_34 : decode cX6_day 34 = .ok (.iload_n 1, 1) := by decide +kernel
theorem dX6_day_35 : decode cX6_day 35 = .ok (.putfield 44, 3) := by decide +kernel
theorem dX6_day_38 : decode cX6_day 38 = .ok (.aload_n 0, 1) := by decide +kernel
theorem dX6_day_39 : decode cX6_day 39 = .ok (.getfield 34, 3) := by decide +kernel
theorem dX6_day_42 : decode cX6_day 42 = .ok (.iload_n 1, 1) := by decide +kernel
theorem dX6_day_43 : decode cX6_day 43 = .ok (.iconst 1, 1) := by decide +kernel
theorem dX6_day_44 : decode cX6_day 44 = .ok (.bastore, 1) := by decide +kernel
theorem dX6_day_45 : decode cX6_day 45 = .ok (.aload_n 0, 1) := by decide +kernel
theorem dX6_day_46 : decode cX6_day 46 = .ok (.iload_n 1, 1) := by decide +kernel
theorem dX6_day_47 : decode cX6_day 47 = .ok (.invokevirtual 152, 3) := by decide +kernel
theorem dX6_day_50 : decode cX6_day 50 = .ok (.ifCond .eq 5, 3) := by decide +kernel
theorem dX6_day_53 : decode cX6_day 53 = .ok (.iconst 0, 1) := by decide +kernel
theorem dX6_day_54 : decode cX6_day 54 = .ok (.ireturn, 1) := by decide +kernel
theorem dX6_day_55 : decode cX6_day 55 = .ok (.ldc 107, 2) := by decide +kernel
theorem dX6_day_57 : decode cX6_day 57 = .ok (.istore_n 2, 1) := by decide +kernel
theorem dX6_day_58 : decode cX6_day 58 = .ok (.iconst 0, 1) := by decide +kernel
theorem dX6_day_59 : decode cX6_day 59 = .ok (.istore_n 3, 1) := by decide +kernel
theorem dX6_day_60 : decode cX6_day 60 = .ok (.iload_n 3, 1) := by decide +kernel
theorem dX6_day_61 : decode cX6_day 61 = .ok (.aload_n 0, 1) := by decide +kernel
theorem dX6_day_62 : decode cX6_day 62 = .ok (.getfield 140, 3) := by decide +kernel
theorem dX6_day_65 : decode cX6_day 65 = .ok (.if_icmp .ge 42, 3) := by decide +kernel
theorem dX6_day_68 : decode cX6_day 68 = .ok (.aload_n 0, 1) := by decide +kernel
theorem dX6_day_69 : decode cX6_day 69 = .ok (.getfield 31, 3) := by decide +kernel
theorem dX6_day_72 : decode cX6_day 72 = .ok (.iload_n 3, 1) := by decide +kernel
theorem dX6_day_73 : decode cX6_day 73 = .ok (.iaload, 1) := by decide +kernel
theorem dX6_day_74 : decode cX6_day 74 = .ok (.aload_n 0, 1) := by decide +kernel
theorem dX6_day_75 : decode cX6_day 75 = .ok (.iload_n 3, 1) := by decide +kernel
theorem dX6_day_76 : decode cX6_day 76 = .ok (.aload_n 0, 1) := by decide +kernel
theorem dX6_day_77 : decode cX6_day 77 = .ok (.iload_n 3, 1) := by decide +kernel
theorem dX6_day_78 : decode cX6_day 78 = .ok (.iload_n 1, 1) := by decide +kernel
theorem dX6_day_79 : decode cX6_day 79 = .ok (.invokevirtual 145, 3) := by decide +kernel
theorem dX6_day_82 : decode cX6_day 82 = .ok (.invokevirtual 155, 3) := by decide +kernel
theorem dX6_day_85 : decode cX6_day 85 = .ok (.isub, 1) := by decide +kernel
theorem dX6_day_86 : decode cX6_day 86 = .ok (.istore 4, 2) := by decide +kernel
theorem dX6_day_88 : decode cX6_day 88 = .ok (.iload 4, 2) := by decide +kernel
theorem dX6_day_90 : decode cX6_day 90 = .ok (.iload_n 2, 1) := by decide +kernel
theorem dX6_day_91 : decode cX6_day 91 = .ok (.if_icmp .ge 8, 3) := by decide +kernel
theorem dX6_day_94 : decode cX6_day 94 = .ok (.iload 4, 2) := by decide +kernel
theorem dX6_day_96 : decode cX6_day 96 = .ok (.goto 4, 3) := by decide +kernel
theorem dX6_day_99 : decode cX6_day 99 = .ok (.iload_n 2, 1) := by decide +kernel
theorem dX6_day_100 : decode cX6_day 100 = .ok (.istore_n 2, 1) := by decide +kernel
theorem dX6_day_101 : decode cX6_day 101 = .ok (.iinc 3 1, 3) := by decide +kernel
theorem dX6_day_104 : decode cX6_day 104 = .ok (.goto (-44), 3) := by decide +kernel
theorem dX6_day_107 : decode cX6_day 107 = .ok (.aload_n 0, 1) := by decide +kernel
theorem dX6_day_108 : decode cX6_day 108 = .ok (.getfield 38, 3) := by decide +kernel
theorem dX6_day_111 : decode cX6_day 111 = .ok (.iload_n 1, 1) := by decide +kernel
theorem dX6_day_112 : decode cX6_day 112 = .ok (.iload_n 2, 1) := by decide +kernel
theorem dX6_day_113 : decode cX6_day 113 = .ok (.iastore, 1) := by decide +kernel
theorem dX6_day_114 : decode cX6_day 114 = .ok (.iconst 0, 1) := by decide +kernel
theorem dX6_day_115 : decode cX6_day 115 = .ok (.istore_n 3, 1) := by decide +kernel
theorem dX6_day_116 : decode cX6_day 116 = .ok (.iconst 0, 1) := by decide +kernel
theorem dX6_day_117 : decode cX6_day 117 = .ok (.istore 4, 2) := by decide +kernel
theorem dX6_day_119 : decode cX6_day 119 = .ok (.iload 4, 2) := by decide +kernel
theorem dX6_day_121 : decode cX6_day 121 = .ok (.aload_n 0, 1) := by decide +kernel
theorem dX6_day_122 : decode cX6_day 122 = .ok (.getfield 140, 3) := by decide +kernel
theorem dX6_day_125 : decode cX6_day 125 = .ok (.if_icmp .ge 62, 3) := by decide +kernel
theorem dX6_day_128 : decode cX6_day 128 = .ok (.aload_n 0, 1) := by decide +kernel
theorem dX6_day_129 : decode cX6_day 129 = .ok (.iload 4, 2) := by decide +kernel
theorem dX6_day_131 : decode cX6_day 131 = .ok (.aload_n 0, 1) := by decide +kernel
theorem dX6_day_132 : decode cX6_day 132 = .ok (.iload 4, 2) := by decide +kernel
theorem dX6_day_134 : decode cX6_day 134 = .ok (.iload_n 1, 1) := by decide +kernel
theorem dX6_day_135 : decode cX6_day 135 = .ok (.invokevirtual 145, 3) := by decide +kernel
theorem dX6_day_138 : decode cX6_day 138 = .ok (.invokevirtual 155, 3) := by decide +kernel
theorem dX6_day_141 : decode cX6_day 141 = .ok (.aload_n 0, 1) := by decide +kernel
theorem dX6_day_142 : decode cX6_day 142 = .ok (.getfield 31, 3) := by decide +kernel
theorem dX6_day_145 : decode cX6_day 145 = .ok (.iload 4, 2) := by decide +kernel
theorem dX6_day_147 : decode cX6_day 147 = .ok (.iaload, 1) := by decide +kernel
theorem dX6_day_148 : decode cX6_day 148 = .ok (.if_icmp .ne 33, 3) := by decide +kernel
theorem dX6_day_151 : decode cX6_day 151 = .ok (.aload_n 0, 1) := by decide +kernel
theorem dX6_day_152 : decode cX6_day 152 = .ok (.getfield 41, 3) := by decide +kernel
theorem dX6_day_155 : decode cX6_day 155 = .ok (.sipush 128, 3) := by decide +kernel
theorem dX6_day_158 : decode cX6_day 158 = .ok (.iload 4, 2) := by decide +kernel
theorem dX6_day_160 : decode cX6_day 160 = .ok (.imul, 1) := by decide +kernel
theorem dX6_day_161 : decode cX6_day 161 = .ok (.aload_n 0, 1) := by decide +kernel
theorem dX6_day_162 : decode cX6_day 162 = .ok (.iload 4, 2) := by decide +kernel
theorem dX6_day_164 : decode cX6_day 164 = .ok (.iload_n 1, 1) := by decide +kernel
theorem dX6_day_165 : decode cX6_day 165 = .ok (.invokevirtual 145, 3) := by decide +kernel
theorem dX6_day_168 : decode cX6_day 168 = .ok (.iadd, 1) := by decide +kernel
theorem dX6_day_169 : decode cX6_day 169 = .ok (.iconst 1, 1) := by decide +kernel
theorem dX6_day_170 : decode cX6_day 170 = .ok (.bastore, 1) := by decide +kernel
theorem dX6_day_171 : decode cX6_day 171 = .ok (.iload_n 3, 1) := by decide +kernel
theorem dX6_day_172 : decode cX6_day 172 = .ok (.aload_n 0, 1) := by decide +kernel
theorem dX6_day_173 : decode cX6_day 173 = .ok (.getfield 31, 3) := by decide +kernel
theorem dX6_day_176 : decode cX6_day 176 = .ok (.iload 4, 2) := by decide +kernel
theorem dX6_day_178 : decode cX6_day 178 = .ok (.iaload, 1) := by decide +kernel
theorem dX6_day_179 : decode cX6_day 179 = .ok (.iadd, 1) := by decide +kernel
theorem dX6_day_180 : decode cX6_day 180 = .ok (.istore_n 3, 1) := by decide +kernel
theorem dX6_day_181 : decode cX6_day 181 = .ok (.iinc 4 1, 3) := by decide +kernel
theorem dX6_day_184 : decode cX6_day 184 = .ok (.goto (-65), 3) := by decide +kernel
theorem dX6_day_187 : decode cX6_day 187 = .ok (.aload_n 0, 1) := by decide +kernel
theorem dX6_day_188 : decode cX6_day 188 = .ok (.dup, 1) := by decide +kernel
theorem dX6_day_189 : decode cX6_day 189 = .ok (.getfield 158, 3) := by decide +kernel
theorem dX6_day_192 : decode cX6_day 192 = .ok (.iload_n 3, 1) := by decide +kernel
theorem dX6_day_193 : decode cX6_day 193 = .ok (.iadd, 1) := by decide +kernel
theorem dX6_day_194 : decode cX6_day 194 = .ok (.putfield 158, 3) := by decide +kernel
theorem dX6_day_197 : decode cX6_day 197 = .ok (.iload_n 3, 1) := by decide +kernel
theorem dX6_day_198 : decode cX6_day 198 = .ok (.ireturn, 1) := by decide +kernel
theorem dX6_bestOfLeases_0 : decode cX6_bestOfLeases 0 = .ok (.iconst 0, 1) := by decide +kernel
theorem dX6_bestOfLeases_1 : decode cX6_bestOfLeases 1 = .ok (.istore_n 1, 1) := by decide +kernel
theorem dX6_bestOfLeases_2 : decode cX6_bestOfLeases 2 = .ok (.iload_n 1, 1) := by decide +kernel
theorem dX6_bestOfLeases_3 : decode cX6_bestOfLeases 3 = .ok (.sipush 128, 3) := by decide +kernel
theorem dX6_bestOfLeases_6 : decode cX6_bestOfLeases 6 = .ok (.if_icmp .ge 16, 3) := by decide +kernel
theorem dX6_bestOfLeases_9 : decode cX6_bestOfLeases 9 = .ok (.aload_n 0, 1) := by decide +kernel
theorem dX6_bestOfLeases_10 : decode cX6_bestOfLeases 10 = .ok (.getfield 48, 3) := by decide +kernel
theorem dX6_bestOfLeases_13 : decode cX6_bestOfLeases 13 = .ok (.iload_n 1, 1) := by decide +kernel
theorem dX6_bestOfLeases_14 : decode cX6_bestOfLeases 14 = .ok (.iconst 0, 1) := by decide +kernel
theorem dX6_bestOfLeases_15 : decode cX6_bestOfLeases 15 = .ok (.iastore, 1) := by decide +kernel
theorem dX6_bestOfLeases_16 : decode cX6_bestOfLeases 16 = .ok (.iinc 1 1, 3) := by decide +kernel
theorem dX6_bestOfLeases_19 : decode cX6_bestOfLeases 19 = .ok (.goto (-17), 3) := by decide +kernel
theorem dX6_bestOfLeases_22 : decode cX6_bestOfLeases 22 = .ok (.iconst 0, 1) := by decide +kernel
theorem dX6_bestOfLeases_23 : decode cX6_bestOfLeases 23 = .ok (.istore_n 1, 1) := by decide +kernel
theorem dX6_bestOfLeases_24 : decode cX6_bestOfLeases 24 = .ok (.iload_n 1, 1) := by decide +kernel
theorem dX6_bestOfLeases_25 : decode cX6_bestOfLeases 25 = .ok (.sipush 128, 3) := by decide +kernel
theorem dX6_bestOfLeases_28 : decode cX6_bestOfLeases 28 = .ok (.if_icmp .ge 42, 3) := by decide +kernel
theorem dX6_bestOfLeases_31 : decode cX6_bestOfLeases 31 = .ok (.aload_n 0, 1) := by decide +kernel
theorem dX6_bestOfLeases_32 : decode cX6_bestOfLeases 32 = .ok (.getfield 140, 3) := by decide +kernel
theorem dX6_bestOfLeases_35 : decode cX6_bestOfLeases 35 = .ok (.ifCond .le 35, 3) := by decide +kernel
theorem dX6_bestOfLeases_38 : decode cX6_bestOfLeases 38 = .ok (.aload_n 0, 1) := by decide +kernel
theorem dX6_bestOfLeases_39 : decode cX6_bestOfLeases 39 = .ok (.getfield 34, 3) := by decide +kernel
theorem dX6_bestOfLeases_42 : decode cX6_bestOfLeases 42 = .ok (.iload_n 1, 1) := by decide +kernel
theorem dX6_bestOfLeases_43 : decode cX6_bestOfLeases 43 = .ok (.baload, 1) := by decide +kernel
theorem dX6_bestOfLeases_44 : decode cX6_bestOfLeases 44 = .ok (.ifCond .eq 20, 3) := by decide +kernel
theorem dX6_bestOfLeases_47 : decode cX6_bestOfLeases 47 = .ok (.aload_n 0, 1) := by decide +kernel
theorem dX6_bestOfLeases_48 : decode cX6_bestOfLeases 48 = .ok (.getfield 48, 3) := by decide +kernel
theorem dX6_bestOfLeases_51 : decode cX6_bestOfLeases 51 = .ok (.aload_n 0, 1) := by decide +kernel
theorem dX6_bestOfLeases_52 : decode cX6_bestOfLeases 52 = .ok (.iconst 0, 1) := by decide +kernel
theorem dX6_bestOfLeases_53 : decode cX6_bestOfLeases 53 = .ok (.iload_n 1, 1) := by decide +kernel
theorem dX6_bestOfLeases_54 : decode cX6_bestOfLeases 54 = .ok (.invokevirtual 145, 3) := by decide +kernel
theorem dX6_bestOfLeases_57 : decode cX6_bestOfLeases 57 = .ok (.aload_n 0, 1) := by decide +kernel
theorem dX6_bestOfLeases_58 : decode cX6_bestOfLeases 58 = .ok (.getfield 31, 3) := by decide +kernel
theorem dX6_bestOfLeases_61 : decode cX6_bestOfLeases 61 = .ok (.iconst 0, 1) := by decide +kernel
theorem dX6_bestOfLeases_62 : decode cX6_bestOfLeases 62 = .ok (.iaload, 1) := by decide +kernel
theorem dX6_bestOfLeases_63 : decode cX6_bestOfLeases 63 = .ok (.iastore, 1) := by decide +kernel
theorem dX6_bestOfLeases_64 : decode cX6_bestOfLeases 64 = .ok (.iinc 1 1, 3) := by decide +kernel
theorem dX6_bestOfLeases_67 : decode cX6_bestOfLeases 67 = .ok (.goto (-43), 3) := by decide +kernel
theorem dX6_bestOfLeases_70 : decode cX6_bestOfLeases 70 = .ok (.aload_n 0, 1) := by decide +kernel
theorem dX6_bestOfLeases_71 : decode cX6_bestOfLeases 71 = .ok (.getfield 140, 3) := by decide +kernel
theorem dX6_bestOfLeases_74 : decode cX6_bestOfLeases 74 = .ok (.ifCond .le 12, 3) := by decide +kernel
theorem dX6_bestOfLeases_77 : decode cX6_bestOfLeases 77 = .ok (.aload_n 0, 1) := by decide +kernel
theorem dX6_bestOfLeases_78 : decode cX6_bestOfLeases 78 = .ok (.getfield 28, 3) := by decide +kernel
theorem dX6_bestOfLeases_81 : decode cX6_bestOfLeases 81 = .ok (.iconst 0, 1) := by decide +kernel
theorem dX6_bestOfLeases_82 : decode cX6_bestOfLeases 82 = .ok (.iaload, 1) := by decide +kernel
theorem dX6_bestOfLeases_83 : decode cX6_bestOfLeases 83 = .ok (.goto 4, 3) := by decide +kernel
theorem dX6_bestOfLeases_86 : decode cX6_bestOfLeases 86 = .ok (.iconst 1, 1) := by decide +kernel
theorem dX6_bestOfLeases_87 : decode cX6_bestOfLeases 87 = .ok (.istore_n 1, 1) := by decide +kernel
theorem dX6_bestOfLeases_88 : decode cX6_bestOfLeases 88 = .ok (.iconst 1, 1) := by decide +kernel
theorem dX6_bestOfLeases_89 : decode cX6_bestOfLeases 89 = .ok (.istore_n 2, 1) := by decide +kernel
theorem dX6_bestOfLeases_90 : decode cX6_bestOfLeases 90 = .ok (.iload_n 2, 1) := by decide +kernel
theorem dX6_bestOfLeases_91 : decode cX6_bestOfLeases 91 = .ok (.aload_n 0, 1) := by decide +kernel
theorem dX6_bestOfLeases_92 : decode cX6_bestOfLeases 92 = .ok (.getfield 140, 3) := by decide +kernel
theorem dX6_bestOfLeases_95 : decode cX6_bestOfLeases 95 = .ok (.if_icmp .ge 121, 3) := by decide +kernel
theorem dX6_bestOfLeases_98 : decode cX6_bestOfLeases 98 = .ok (.iconst 0, 1) := by decide +kernel
theorem dX6_bestOfLeases_99 : decode cX6_bestOfLeases 99 = .ok (.istore_n 3, 1) := by decide +kernel
theorem dX6_bestOfLeases_100 : decode cX6_bestOfLeases 100 = .ok (.iload_n 3, 1) := by decide +kernel
theorem dX6_bestOfLeases_101 : decode cX6_bestOfLeases 101 = .ok (.sipush 128, 3) := by decide +kernel
theorem dX6_bestOfLeases_104 : decode cX6_bestOfLeases 104 = .ok (.if_icmp .ge 99, 3) := by decide +kernel
theorem dX6_bestOfLeases_107 : decode cX6_bestOfLeases 107 = .ok (.iconst 0, 1) := by decide +kernel
theorem dX6_bestOfLeases_108 : decode cX6_bestOfLeases 108 = .ok (.istore 4, 2) := by decide +kernel
theorem dX6_bestOfLeases_110 : decode cX6_bestOfLeases 110 = .ok (.iload_n 3, 1) := by decide +kernel
theorem dX6_bestOfLeases_111 : decode cX6_bestOfLeases 111 = .ok (.istore 5, 2) := by decide +kernel
theorem dX6_bestOfLeases_113 : decode cX6_bestOfLeases 113 = .ok (.iload 5, 2) := by decide +kernel
theorem dX6_bestOfLeases_115 : decode cX6_bestOfLeases 115 = .ok (.iload_n 3, 1) := by decide +kernel
theorem dX6_bestOfLeases_116 : decode cX6_bestOfLeases 116 = .ok (.aload_n 0, 1) := by decide +kernel
theorem dX6_bestOfLeases_117 : decode cX6_bestOfLeases 117 = .ok (.getfield 28, 3) := by decide +kernel
theorem dX6_bestOfLeases_120 : decode cX6_bestOfLeases 120 = .ok (.iload_n 2, 1) := by decide +kernel
theorem dX6_bestOfLeases_121 : decode cX6_bestOfLeases 121 = .ok (.iaload, 1) := by decide +kernel
theorem dX6_bestOfLeases_122 : decode cX6_bestOfLeases 122 = .ok (.iadd, 1) := by decide +kernel
theorem dX6_bestOfLeases_123 : decode cX6_bestOfLeases 123 = .ok (.if_icmp .ge 40, 3) := by decide +kernel
theorem dX6_bestOfLeases_126 : decode cX6_bestOfLeases 126 = .ok (.iload 5, 2) := by decide +kernel
theorem dX6_bestOfLeases_128 : decode cX6_bestOfLeases 128 = .ok (.sipush 128, 3) := by decide +kernel
theorem dX6_bestOfLeases_131 : decode cX6_bestOfLeases 131 = .ok (.if_icmp .ge 32, 3) := by decide +kernel
theorem dX6_bestOfLeases_134 : decode cX6_bestOfLeases 134 = .ok (.iload 4, 2) := by decide +kernel
theorem dX6_bestOfLeases_136 : decode cX6_bestOfLeases 136 = .ok (.aload_n 0, 1) := by decide +kernel
theorem dX6_bestOfLeases_137 : decode cX6_bestOfLeases 137 = .ok (.getfield 48, 3) := by decide +kernel
theorem dX6_bestOfLeases_140 : decode cX6_bestOfLeases 140 = .ok (.iload 5, 2) := by decide +kernel
theorem dX6_bestOfLeases_142 : decode cX6_bestOfLeases 142 = .ok (.iaload, 1) := by decide +kernel
theorem dX6_bestOfLeases_143 : decode cX6_bestOfLeases 143 = .ok (.iadd, 1) := by decide +kernel
theorem dX6_bestOfLeases_144 : decode cX6_bestOfLeases 144 = .ok (.istore 4, 2) := by decide +kernel
theorem dX6_bestOfLeases_146 : decode cX6_bestOfLeases 146 = .ok (.aload_n 0, 1) := by decide +kernel
theorem dX6_bestOfLeases_147 : decode cX6_bestOfLeases 147 = .ok (.getfield 48, 3) := by decide +kernel
theorem dX6_bestOfLeases_150 : decode cX6_bestOfLeases 150 = .ok (.iload 5, 2) := by decide +kernel
theorem dX6_bestOfLeases_152 : decode cX6_bestOfLeases 152 = .ok (.iconst 0, 1) := by decide +kernel
theorem dX6_bestOfLeases_153 : decode cX6_bestOfLeases 153 = .ok (.iastore, 1) := by decide +kernel
theorem dX6_bestOfLeases_154 : decode cX6_bestOfLeases 154 = .ok (.iload 5, 2) := by decide +kernel
theorem dX6_bestOfLeases_156 : decode cX6_bestOfLeases 156 = .ok (.iload_n 1, 1) := by decide +kernel
theorem dX6_bestOfLeases_157 : decode cX6_bestOfLeases 157 = .ok (.iadd, 1) := by decide +kernel
theorem dX6_bestOfLeases_158 : decode cX6_bestOfLeases 158 = .ok (.istore 5, 2) := by decide +kernel
theorem dX6_bestOfLeases_160 : decode cX6_bestOfLeases 160 = .ok (.goto (-47), 3) := by decide +kernel
theorem dX6_bestOfLeases_163 : decode cX6_bestOfLeases 163 = .ok (.aload_n 0, 1) := by decide +kernel
theorem dX6_bestOfLeases_164 : decode cX6_bestOfLeases 164 = .ok (.getfield 48, 3) := by decide +kernel
theorem dX6_bestOfLeases_167 : decode cX6_bestOfLeases 167 = .ok (.iload_n 3, 1) := by decide +kernel
theorem dX6_bestOfLeases_168 : decode cX6_bestOfLeases 168 = .ok (.iload 4, 2) := by decide +kernel
theorem dX6_bestOfLeases_170 : decode cX6_bestOfLeases 170 = .ok (.aload_n 0, 1) := by decide +kernel
theorem dX6_bestOfLeases_171 : decode cX6_bestOfLeases 171 = .ok (.getfield 31, 3) := by decide +kernel
theorem dX6_bestOfLeases_174 : decode cX6_bestOfLeases 174 = .ok (.iload_n 2, 1) := by decide +kernel
theorem dX6_bestOfLeases_175 : decode cX6_bestOfLeases 175 = .ok (.iaload, 1) := by decide +kernel
theorem dX6_bestOfLeases_176 : decode cX6_bestOfLeases 176 = .ok (.if_icmp .ge 8, 3) := by decide +kernel
theorem dX6_bestOfLeases_179 : decode cX6_bestOfLeases 179 = .ok (.iload 4, 2) := by decide +kernel
theorem dX6_bestOfLeases_181 : decode cX6_bestOfLeases 181 = .ok (.goto 9, 3) := by decide +kernel
theorem dX6_bestOfLeases_184 : decode cX6_bestOfLeases 184 = .ok (.aload_n 0, 1) := by decide +kernel
theorem dX6_bestOfLeases_185 : decode cX6_bestOfLeases 185 = .ok (.getfield 31, 3) := by decide +kernel
theorem dX6_bestOfLeases_188 : decode cX6_bestOfLeases 188 = .ok (.iload_n 2, 1) := by decide +kernel
theorem dX6_bestOfLeases_189 : decode cX6_bestOfLeases 189 = .ok (.iaload, 1) := by decide +kernel
theorem dX6_bestOfLeases_190 : decode cX6_bestOfLeases 190 = .ok (.iastore, 1) := by decide +kernel
theorem dX6_bestOfLeases_191 : decode cX6_bestOfLeases 191 = .ok (.iload_n 3, 1) := by decide +kernel
theorem dX6_bestOfLeases_192 : decode cX6_bestOfLeases 192 = .ok (.aload_n 0, 1) := by decide +kernel
theorem dX6_bestOfLeases_193 : decode cX6_bestOfLeases 193 = .ok (.getfield 28, 3) := by decide +kernel
theorem dX6_bestOfLeases_196 : decode cX6_bestOfLeases 196 = .ok (.iload_n 2, 1) := by decide +kernel
theorem dX6_bestOfLeases_197 : decode cX6_bestOfLeases 197 = .ok (.iaload, 1) := by decide +kernel
theorem dX6_bestOfLeases_198 : decode cX6_bestOfLeases 198 = .ok (.iadd, 1) := by decide +kernel
theorem dX6_bestOfLeases_199 : decode cX6_bestOfLeases 199 = .ok (.istore_n 3, 1) := by decide +kernel
theorem dX6_bestOfLeases_200 : decode cX6_bestOfLeases 200 = .ok (.goto (-100), 3) := by decide +kernel
theorem dX6_bestOfLeases_203 : decode cX6_bestOfLeases 203 = .ok (.aload_n 0, 1) := by decide +kernel
theorem dX6_bestOfLeases_204 : decode cX6_bestOfLeases 204 = .ok (.getfield 28, 3) := by decide +kernel
theorem dX6_bestOfLeases_207 : decode cX6_bestOfLeases 207 = .ok (.iload_n 2, 1) := by decide +kernel
theorem dX6_bestOfLeases_208 : decode cX6_bestOfLeases 208 = .ok (.iaload, 1) := by decide +kernel
theorem dX6_bestOfLeases_209 : decode cX6_bestOfLeases 209 = .ok (.istore_n 1, 1) := by decide +kernel
theorem dX6_bestOfLeases_210 : decode cX6_bestOfLeases 210 = .ok (.iinc 2 1, 3) := by decide +kernel
theorem dX6_bestOfLeases_213 : decode cX6_bestOfLeases 213 = .ok (.goto (-123), 3) := by decide +kernel
theorem dX6_bestOfLeases_216 : decode cX6_bestOfLeases 216 = .ok (.iconst 0, 1) := by decide +kernel
theorem dX6_bestOfLeases_217 : decode cX6_bestOfLeases 217 = .ok (.istore_n 2, 1) := by decide +kernel
theorem dX6_bestOfLeases_218 : decode cX6_bestOfLeases 218 = .ok (.iconst 0, 1) := by decide +kernel
theorem dX6_bestOfLeases_219 : decode cX6_bestOfLeases 219 = .ok (.istore_n 3, 1) := by decide +kernel
theorem dX6_bestOfLeases_220 : decode cX6_bestOfLeases 220 = .ok (.iload_n 3, 1) := by decide +kernel
theorem dX6_bestOfLeases_221 : decode cX6_bestOfLeases 221 = .ok (.sipush 128, 3) := by decide +kernel
theorem dX6_bestOfLeases_224 : decode cX6_bestOfLeases 224 = .ok (.if_icmp .ge 18, 3) := by decide +kernel
theorem dX6_bestOfLeases_227 : decode cX6_bestOfLeases 227 = .ok (.iload_n 2, 1) := by decide +kernel
theorem dX6_bestOfLeases_228 : decode cX6_bestOfLeases 228 = .ok (.aload_n 0, 1) := by decide +kernel
theorem dX6_bestOfLeases_229 : decode cX6_bestOfLeases 229 = .ok (.getfield 48, 3) := by decide +kernel
theorem dX6_bestOfLeases_232 : decode cX6_bestOfLeases 232 = .ok (.iload_n 3, 1) := by decide +kernel
theorem dX6_bestOfLeases_233 : decode cX6_bestOfLeases 233 = .ok (.iaload, 1) := by decide +kernel
theorem dX6_bestOfLeases_234 : decode cX6_bestOfLeases 234 = .ok (.iadd, 1) := by decide +kernel
theorem dX6_bestOfLeases_235 : decode cX6_bestOfLeases 235 = .ok (.istore_n 2, 1) := by decide +kernel
theorem dX6_bestOfLeases_236 : decode cX6_bestOfLeases 236 = .ok (.iinc 3 1, 3) := by decide +kernel
theorem dX6_bestOfLeases_239 : decode cX6_bestOfLeases 239 = .ok (.goto (-19), 3) := by decide +kernel
theorem dX6_bestOfLeases_242 : decode cX6_bestOfLeases 242 = .ok (.iload_n 2, 1) := by decide +kernel
theorem dX6_bestOfLeases_243 : decode cX6_bestOfLeases 243 = .ok (.ireturn, 1) := by decide +kernel
theorem dX6_leases_0 : decode cX6_leases 0 = .ok (.aload_n 0, 1) := by decide +kernel
theorem dX6_leases_1 : decode cX6_leases 1 = .ok (.iconst 0, 1) := by decide +kernel
theorem dX6_leases_2 : decode cX6_leases 2 = .ok (.putfield 66, 3) := by decide +kernel
theorem dX6_leases_5 : decode cX6_leases 5 = .ok (.iload_n 1, 1) := by decide +kernel
theorem dX6_leases_6 : decode cX6_leases 6 = .ok (.i2l, 1) := by decide +kernel
theorem dX6_leases_7 : decode cX6_leases 7 = .ok (.lconst 0, 1) := by decide +kernel
theorem dX6_leases_8 : decode cX6_leases 8 = .ok (.ldc2_w 161, 3) := by decide +kernel
theorem dX6_leases_11 : decode cX6_leases 11 = .ok (.invokestatic 75, 3) := by decide +kernel
theorem dX6_leases_14 : decode cX6_leases 14 = .ok (.ifCond .ne 6, 3) := by decide +kernel
theorem dX6_leases_17 : decode cX6_leases 17 = .ok (.ldc 85, 2) := by decide +kernel
theorem dX6_leases_19 : decode cX6_leases 19 = .ok (.ireturn, 1) := by decide +kernel
theorem dX6_leases_20 : decode cX6_leases 20 = .ok (.iconst 0, 1) := by decide +kernel
theorem dX6_leases_21 : decode cX6_leases 21 = .ok (.istore_n 2, 1) := by decide +kernel
theorem dX6_leases_22 : decode cX6_leases 22 = .ok (.iconst 0, 1) := by decide +kernel
theorem dX6_leases_23 : decode cX6_leases 23 = .ok (.istore_n 3, 1) := by decide +kernel
theorem dX6_leases_24 : decode cX6_leases 24 = .ok (.iload_n 3, 1) := by decide +kernel
theorem dX6_leases_25 : decode cX6_leases 25 = .ok (.sipush 128, 3) := by decide +kernel
theorem dX6_leases_28 : decode cX6_leases 28 = .ok (.if_icmp .ge 45, 3) := by decide +kernel
theorem dX6_leases_31 : decode cX6_leases 31 = .ok (.iload_n 2, 1) := by decide +kernel
theorem dX6_leases_32 : decode cX6_leases 32 = .ok (.iload_n 1, 1) := by decide +kernel
theorem dX6_leases_33 : decode cX6_leases 33 = .ok (.iconst 1, 1) := by decide +kernel
theorem dX6_leases_34 : decode cX6_leases 34 = .ok (.if_icmp .ne 12, 3) := by decide +kernel
theorem dX6_leases_37 : decode cX6_leases 37 = .ok (.aload_n 0, 1) := by decide +kernel
theorem dX6_leases_38 : decode cX6_leases 38 = .ok (.getfield 38, 3) := by decide +kernel
theorem dX6_leases_41 : decode cX6_leases 41 = .ok (.iload_n 3, 1) := by decide +kernel
theorem dX6_leases_42 : decode cX6_leases 42 = .ok (.iaload, 1) := by decide +kernel
theorem dX6_leases_43 : decode cX6_leases 43 = .ok (.goto 22, 3) := by decide +kernel
theorem dX6_leases_46 : decode cX6_leases 46 = .ok (.iload_n 1, 1) := by decide +kernel
theorem dX6_leases_47 : decode cX6_leases 47 = .ok (.iconst 3, 1) := by decide +kernel
theorem dX6_leases_48 : decode cX6_leases 48 = .ok (.if_icmp .ne 16, 3) := by decide +kernel
theorem dX6_leases_51 : decode cX6_leases 51 = .ok (.aload_n 0, 1) := by decide +kernel
theorem dX6_leases_52 : decode cX6_leases 52 = .ok (.getfield 34, 3) := by decide +kernel
theorem dX6_leases_55 : decode cX6_leases 55 = .ok (.iload_n 3, 1) := by decide +kernel
theorem dX6_leases_56 : decode cX6_leases 56 = .ok (.baload, 1) := by decide +kernel
theorem dX6_leases_57 : decode cX6_leases 57 = .ok (.ifCond .eq 7, 3) := by decide +kernel
theorem dX6_leases_60 : decode cX6_leases 60 = .ok (.iconst 1, 1) := by decide +kernel
theorem dX6_leases_61 : decode cX6_leases 61 = .ok (.goto 4, 3) := by decide +kernel
theorem dX6_leases_64 : decode cX6_leases 64 = .ok (.iconst 0, 1) := by decide +kernel
theorem dX6_leases_65 : decode cX6_leases 65 = .ok (.iadd, 1) := by decide +kernel
theorem dX6_leases_66 : decode cX6_leases 66 = .ok (.istore_n 2, 1) := by decide +kernel
theorem dX6_leases_67 : decode cX6_leases 67 = .ok (.iinc 3 1, 3) := by decide +kernel
theorem dX6_leases_70 : decode cX6_leases 70 = .ok (.goto (-46), 3) := by decide +kernel
theorem dX6_leases_73 : decode cX6_leases 73 = .ok (.iconst 0, 1) := by decide +kernel
theorem dX6_leases_74 : decode cX6_leases 74 = .ok (.istore_n 3, 1) := by decide +kernel
theorem dX6_leases_75 : decode cX6_leases 75 = .ok (.iload_n 3, 1) := by decide +kernel
theorem dX6_leases_76 : decode cX6_leases 76 = .ok (.sipush 512, 3) := by decide +kernel
theorem dX6_leases_79 : decode cX6_leases 79 = .ok (.if_icmp .ge 31, 3) := by decide +kernel
theorem dX6_leases_82 : decode cX6_leases 82 = .ok (.iload_n 1, 1) := by decide +kernel
theorem dX6_leases_83 : decode cX6_leases 83 = .ok (.iconst 4, 1) := by decide +kernel
theorem dX6_leases_84 : decode cX6_leases 84 = .ok (.if_icmp .ne 26, 3) := by decide +kernel
theorem dX6_leases_87 : decode cX6_leases 87 = .ok (.iload_n 2, 1) := by decide +kernel
theorem dX6_leases_88 : decode cX6_leases 88 = .ok (.aload_n 0, 1) := by decide +kernel
theorem dX6_leases_89 : decode cX6_leases 89 = .ok (.getfield 41, 3) := by decide +kernel
theorem dX6_leases_92 : decode cX6_leases 92 = .ok (.iload_n 3, 1) := by decide +kernel
theorem dX6_leases_93 : decode cX6_leases 93 = .ok (.baload, 1) := by decide +kernel
theorem dX6_leases_94 : decode cX6_leases 94 = .ok (.ifCond .eq 7, 3) := by decide +kernel
theorem dX6_leases_97 : decode cX6_leases 97 = .ok (.iconst 1, 1) := by decide +kernel
theorem dX6_leases_98 : decode cX6_leases 98 = .ok (.goto 4, 3) := by decide +kernel
theorem dX6_leases_101 : decode cX6_leases 101 = .ok (.iconst 0, 1) := by decide +kernel
theorem dX6_leases_102 : decode cX6_leases 102 = .ok (.iadd, 1) := by decide +kernel
theorem dX6_leases_103 : decode cX6_leases 103 = .ok (.istore_n 2, 1) := by decide +kernel
theorem dX6_leases_104 : decode cX6_leases 104 = .ok (.iinc 3 1, 3) := by decide +kernel
theorem dX6_leases_107 : decode cX6_leases 107 = .ok (.goto (-32), 3) := by decide +kernel
theorem dX6_leases_110 : decode cX6_leases 110 = .ok (.iload_n 1, 1) := by decide +kernel
theorem dX6_leases_111 : decode cX6_leases 111 = .ok (.ifCond .ne 10, 3) := by decide +kernel
theorem dX6_leases_114 : decode cX6_leases 114 = .ok (.aload_n 0, 1) := by decide +kernel
theorem dX6_leases_115 : decode cX6_leases 115 = .ok (.getfield 158, 3) := by decide +kernel
theorem dX6_leases_118 : decode cX6_leases 118 = .ok (.goto 16, 3) := by decide +kernel
theorem dX6_leases_121 : decode cX6_leases 121 = .ok (.iload_n 1, 1) := by decide +kernel
theorem dX6_leases_122 : decode cX6_leases 122 = .ok (.iconst 2, 1) := by decide +kernel
theorem dX6_leases_123 : decode cX6_leases 123 = .ok (.if_icmp .ne 10, 3) := by decide +kernel
theorem dX6_leases_126 : decode cX6_leases 126 = .ok (.aload_n 0, 1) := by decide +kernel
theorem dX6_leases_127 : decode cX6_leases 127 = .ok (.invokevirtual 163, 3) := by decide +kernel
theorem dX6_leases_130 : decode cX6_leases 130 = .ok (.goto 4, 3) := by decide +kernel
theorem dX6_leases_133 : decode cX6_leases 133 = .ok (.iload_n 2, 1) := by decide +kernel
theorem dX6_leases_134 : decode cX6_leases 134 = .ok (.ireturn, 1) := by decide +kernel
theorem dX6_covered_0 : decode cX6_covered 0 = .ok (.aload_n 0, 1) := by decide +kernel
theorem dX6_covered_1 : decode cX6_covered 1 = .ok (.iconst 0, 1) := by decide +kernel
theorem dX6_covered_2 : decode cX6_covered 2 = .ok (.putfield 66, 3) := by decide +kernel
theorem dX6_covered_5 : decode cX6_covered 5 = .ok (.iload_n 1, 1) := by decide +kernel
theorem dX6_covered_6 : decode cX6_covered 6 = .ok (.invokestatic 149, 3) := by decide +kernel
theorem dX6_covered_9 : decode cX6_covered 9 = .ok (.ifCond .ne 8, 3) := by decide +kernel
theorem dX6_covered_12 : decode cX6_covered 12 = .ok (.ldc 85, 2) := by decide +kernel
theorem dX6_covered_14 : decode cX6_covered 14 = .ok (.goto 16, 3) := by decide +kernel
theorem dX6_covered_17 : decode cX6_covered 17 = .ok (.aload_n 0, 1) := by decide +kernel
theorem dX6_covered_18 : decode cX6_covered 18 = .ok (.iload_n 1, 1) := by decide +kernel
theorem dX6_covered_19 : decode cX6_covered 19 = .ok (.invokevirtual 152, 3) := by decide +kernel
theorem dX6_covered_22 : decode cX6_covered 22 = .ok (.ifCond .eq 7, 3) := by decide +kernel
theorem dX6_covered_25 : decode cX6_covered 25 = .ok (.iconst 1, 1) := by decide +kernel
theorem dX6_covered_26 : decode cX6_covered 26 = .ok (.goto 4, 3) := by decide +kernel
theorem dX6_covered_29 : decode cX6_covered 29 = .ok (.iconst 0, 1) := by decide +kernel
theorem dX6_covered_30 : decode cX6_covered 30 = .ok (.ireturn, 1) := by decide +kernel
theorem dX6_isSite_0 : decode cX6_isSite 0 = .ok (.iload_n 1, 1) := by decide +kernel
theorem dX6_isSite_1 : decode cX6_isSite 1 = .ok (.i2l, 1) := by decide +kernel
theorem dX6_isSite_2 : decode cX6_isSite 2 = .ok (.lconst 0, 1) := by decide +kernel
theorem dX6_isSite_3 : decode cX6_isSite 3 = .ok (.aload_n 0, 1) := by decide +kernel
theorem dX6_isSite_4 : decode cX6_isSite 4 = .ok (.getfield 166, 3) := by decide +kernel
theorem dX6_isSite_7 : decode cX6_isSite 7 = .ok (.iconst 1, 1) := by decide +kernel
theorem dX6_isSite_8 : decode cX6_isSite 8 = .ok (.isub, 1) := by decide +kernel
theorem dX6_isSite_9 : decode cX6_isSite 9 = .ok (.i2l, 1) := by decide +kernel
theorem dX6_isSite_10 : decode cX6_isSite 10 = .ok (.invokestatic 75, 3) := by decide +kernel
theorem dX6_isSite_13 : decode cX6_isSite 13 = .ok (.ireturn, 1) := by decide +kernel
theorem dX6_site_0 : decode cX6_site 0 = .ok (.aload_n 0, 1) := by decide +kernel
theorem dX6_site_1 : decode cX6_site 1 = .ok (.iconst 0, 1) := by decide +kernel
theorem dX6_site_2 : decode cX6_site 2 = .ok (.putfield 66, 3) := by decide +kernel
theorem dX6_site_5 : decode cX6_site 5 = .ok (.aload_n 0, 1) := by decide +kernel
theorem dX6_site_6 : decode cX6_site 6 = .ok (.getfield 166, 3) := by decide +kernel
theorem dX6_site_9 : decode cX6_site 9 = .ok (.bipush 10, 2) := by decide +kernel
theorem dX6_site_11 : decode cX6_site 11 = .ok (.if_icmp .ne 6, 3) := by decide +kernel
theorem dX6_site_14 : decode cX6_site 14 = .ok (.ldc 104, 2) := by decide +kernel
theorem dX6_site_16 : decode cX6_site 16 = .ok (.ireturn, 1) := by decide +kernel
theorem dX6_site_17 : decode cX6_site 17 = .ok (.aload_n 0, 1) := by decide +kernel
theorem dX6_site_18 : decode cX6_site 18 = .ok (.dup, 1) := by decide +kernel
theorem dX6_site_19 : decode cX6_site 19 = .ok (.getfield 166, 3) := by decide +kernel
theorem dX6_site_22 : decode cX6_site 22 = .ok (.iconst 1, 1) := by decide +kernel
theorem dX6_site_23 : decode cX6_site 23 = .ok (.iadd, 1) := by decide +kernel
theorem dX6_site_24 : decode cX6_site 24 = .ok (.putfield 166, 3) := by decide +kernel
theorem dX6_site_27 : decode cX6_site 27 = .ok (.aload_n 0, 1) := by decide +kernel
theorem dX6_site_28 : decode cX6_site 28 = .ok (.getfield 166, 3) := by decide +kernel
theorem dX6_site_31 : decode cX6_site 31 = .ok (.iconst 1, 1) := by decide +kernel
theorem dX6_site_32 : decode cX6_site 32 = .ok (.isub, 1) := by decide +kernel
theorem dX6_site_33 : decode cX6_site 33 = .ok (.ireturn, 1) := by decide +kernel
theorem dX6_way_0 : decode cX6_way 0 = .ok (.aload_n 0, 1) := by decide +kernel
theorem dX6_way_1 : decode cX6_way 1 = .ok (.iconst 0, 1) := by decide +kernel
theorem dX6_way_2 : decode cX6_way 2 = .ok (.putfield 66, 3) := by decide +kernel
theorem dX6_way_5 : decode cX6_way 5 = .ok (.aload_n 0, 1) := by decide +kernel
theorem dX6_way_6 : decode cX6_way 6 = .ok (.iload_n 1, 1) := by decide +kernel
theorem dX6_way_7 : decode cX6_way 7 = .ok (.invokevirtual 169, 3) := by decide +kernel
theorem dX6_way_10 : decode cX6_way 10 = .ok (.ifCond .eq 28, 3) := by decide +kernel
theorem dX6_way_13 : decode cX6_way 13 = .ok (.aload_n 0, 1) := by decide +kernel
theorem dX6_way_14 : decode cX6_way 14 = .ok (.iload_n 2, 1) := by decide +kernel
theorem dX6_way_15 : decode cX6_way 15 = .ok (.invokevirtual 169, 3) := by decide +kernel
theorem dX6_way_18 : decode cX6_way 18 = .ok (.ifCond .eq 20, 3) := by decide +kernel
theorem dX6_way_21 : decode cX6_way 21 = .ok (.iload_n 1, 1) := by decide +kernel
theorem dX6_way_22 : decode cX6_way 22 = .ok (.iload_n 2, 1) := by decide +kernel
theorem dX6_way_23 : decode cX6_way 23 = .ok (.if_icmp .eq 15, 3) := by decide +kernel
theorem dX6_way_26 : decode cX6_way 26 = .ok (.iload_n 3, 1) := by decide +kernel
theorem dX6_way_27 : decode cX6_way 27 = .ok (.i2l, 1) := by decide +kernel
theorem dX6_way_28 : decode cX6_way 28 = .ok (.lconst 1, 1) := by decide +kernel
theorem dX6_way_29 : decode cX6_way 29 = .ok (.ldc2_w 96, 3) := by decide +kernel
theorem dX6_way_32 : decode cX6_way 32 = .ok (.invokestatic 75, 3) := by decide +kernel
theorem dX6_way_35 : decode cX6_way 35 = .ok (.ifCond .ne 6, 3) := by decide +kernel
theorem dX6_way_38 : decode cX6_way 38 = .ok (.ldc 85, 2) := by decide +kernel
theorem dX6_way_40 : decode cX6_way 40 = .ok (.ireturn, 1) := by decide +kernel
theorem dX6_way_41 : decode cX6_way 41 = .ok (.aload_n 0, 1) := by decide +kernel
theorem dX6_way_42 : decode cX6_way 42 = .ok (.getfield 54, 3) := by decide +kernel
theorem dX6_way_45 : decode cX6_way 45 = .ok (.bipush 10, 2) := by decide +kernel
theorem dX6_way_47 : decode cX6_way 47 = .ok (.iload_n 1, 1) := by decide +kernel
theorem dX6_way_48 : decode cX6_way 48 = .ok (.imul, 1) := by decide +kernel
theorem dX6_way_49 : decode cX6_way 49 = .ok (.iload_n 2, 1) := by decide +kernel
theorem dX6_way_50 : decode cX6_way 50 = .ok (.iadd, 1) := by decide +kernel
theorem dX6_way_51 : decode cX6_way 51 = .ok (.baload, 1) := by decide +kernel
theorem dX6_way_52 : decode cX6_way 52 = .ok (.ifCond .eq 6, 3) := by decide +kernel
theorem dX6_way_55 : decode cX6_way 55 = .ok (.ldc 103, 2) := by decide +kernel
theorem dX6_way_57 : decode cX6_way 57 = .ok (.ireturn, 1) := by decide +kernel
theorem dX6_way_58 : decode cX6_way 58 = .ok (.aload_n 0, 1) := by decide +kernel
theorem dX6_way_59 : decode cX6_way 59 = .ok (.getfield 51, 3) := by decide +kernel
theorem dX6_way_62 : decode cX6_way 62 = .ok (.bipush 10, 2) := by decide +kernel
theorem dX6_way_64 : decode cX6_way 64 = .ok (.iload_n 1, 1) := by decide +kernel
theorem dX6_way_65 : decode cX6_way 65 = .ok (.imul, 1) := by decide +kernel
theorem dX6_way_66 : decode cX6_way 66 = .ok (.iload_n 2, 1) := by decide +kernel
theorem dX6_way_67 : decode cX6_way 67 = .ok (.iadd, 1) := by decide +kernel
theorem dX6_way_68 : decode cX6_way 68 = .ok (.iaload, 1) := by decide +kernel
theorem dX6_way_69 : decode cX6_way 69 = .ok (.istore 4, 2) := by decide +kernel
theorem dX6_way_71 : decode cX6_way 71 = .ok (.aload_n 0, 1) := by decide +kernel
theorem dX6_way_72 : decode cX6_way 72 = .ok (.getfield 51, 3) := by decide +kernel
theorem dX6_way_75 : decode cX6_way 75 = .ok (.bipush 10, 2) := by decide +kernel
theorem dX6_way_77 : decode cX6_way 77 = .ok (.iload_n 1, 1) := by decide +kernel
theorem dX6_way_78 : decode cX6_way 78 = .ok (.imul, 1) := by decide +kernel
theorem dX6_way_79 : decode cX6_way 79 = .ok (.iload_n 2, 1) := by decide +kernel
theorem dX6_way_80 : decode cX6_way 80 = .ok (.iadd, 1) := by decide +kernel
theorem dX6_way_81 : decode cX6_way 81 = .ok (.iload_n 3, 1) := by decide +kernel
theorem dX6_way_82 : decode cX6_way 82 = .ok (.iastore, 1) := by decide +kernel
theorem dX6_way_83 : decode cX6_way 83 = .ok (.aload_n 0, 1) := by decide +kernel
theorem dX6_way_84 : decode cX6_way 84 = .ok (.getfield 51, 3) := by decide +kernel
theorem dX6_way_87 : decode cX6_way 87 = .ok (.bipush 10, 2) := by decide +kernel
theorem dX6_way_89 : decode cX6_way 89 = .ok (.iload_n 2, 1) := by decide +kernel
theorem dX6_way_90 : decode cX6_way 90 = .ok (.imul, 1) := by decide +kernel
theorem dX6_way_91 : decode cX6_way 91 = .ok (.iload_n 1, 1) := by decide +kernel
theorem dX6_way_92 : decode cX6_way 92 = .ok (.iadd, 1) := by decide +kernel
theorem dX6_way_93 : decode cX6_way 93 = .ok (.iload_n 3, 1) := by decide +kernel
theorem dX6_way_94 : decode cX6_way 94 = .ok (.iastore, 1) := by decide +kernel
theorem dX6_way_95 : decode cX6_way 95 = .ok (.iload 4, 2) := by decide +kernel
theorem dX6_way_97 : decode cX6_way 97 = .ok (.ireturn, 1) := by decide +kernel
theorem dX6_call_0 : decode cX6_call 0 = .ok (.aload_n 0, 1) := by decide +kernel
theorem dX6_call_1 : decode cX6_call 1 = .ok (.iconst 0, 1) := by decide +kernel
theorem dX6_call_2 : decode cX6_call 2 = .ok (.putfield 66, 3) := by decide +kernel
theorem dX6_call_5 : decode cX6_call 5 = .ok (.aload_n 0, 1) := by decide +kernel
theorem dX6_call_6 : decode cX6_call 6 = .ok (.iload_n 1, 1) := by decide +kernel
theorem dX6_call_7 : decode cX6_call 7 = .ok (.invokevirtual 169, 3) := by decide +kernel
theorem dX6_call_10 : decode cX6_call 10 = .ok (.ifCond .ne 6, 3) := by decide +kernel
theorem dX6_call_13 : decode cX6_call 13 = .ok (.ldc 85, 2) := by decide +kernel
theorem dX6_call_15 : decode cX6_call 15 = .ok (.ireturn, 1) := by decide +kernel
theorem dX6_call_16 : decode cX6_call 16 = .ok (.aload_n 0, 1) := by decide +kernel
theorem dX6_call_17 : decode cX6_call 17 = .ok (.getfield 172, 3) := by decide +kernel
theorem dX6_call_20 : decode cX6_call 20 = .ok (.iload_n 1, 1) := by decide +kernel
theorem dX6_call_21 : decode cX6_call 21 = .ok (.ishr, 1) := by decide +kernel
theorem dX6_call_22 : decode cX6_call 22 = .ok (.iconst 1, 1) := by decide +kernel
theorem dX6_call_23 : decode cX6_call 23 = .ok (.iand, 1) := by decide +kernel
theorem dX6_call_24 : decode cX6_call 24 = .ok (.iconst 1, 1) := by decide +kernel
theorem dX6_call_25 : decode cX6_call 25 = .ok (.if_icmp .ne 6, 3) := by decide +kernel
theorem dX6_call_28 : decode cX6_call 28 = .ok (.ldc 103, 2) := by decide +kernel
theorem dX6_call_30 : decode cX6_call 30 = .ok (.ireturn, 1) := by decide +kernel
theorem dX6_call_31 : decode cX6_call 31 = .ok (.aload_n 0, 1) := by decide +kernel
theorem dX6_call_32 : decode cX6_call 32 = .ok (.getfield 172, 3) := by decide +kernel
theorem dX6_call_35 : decode cX6_call 35 = .ok (.ifCond .ne 24, 3) := by decide +kernel
theorem dX6_call_38 : decode cX6_call 38 = .ok (.aload_n 0, 1) := by decide +kernel
theorem dX6_call_39 : decode cX6_call 39 = .ok (.iconst 1, 1) := by decide +kernel
theorem dX6_call_40 : decode cX6_call 40 = .ok (.iload_n 1, 1) := by decide +kernel
theorem dX6_call_41 : decode cX6_call 41 = .ok (.ishl, 1) := by decide +kernel
theorem dX6_call_42 : decode cX6_call 42 = .ok (.putfield 172, 3) := by decide +kernel
theorem dX6_call_45 : decode cX6_call 45 = .ok (.aload_n 0, 1) := by decide +kernel
theorem dX6_call_46 : decode cX6_call 46 = .ok (.dup, 1) := by decide +kernel
theorem dX6_call_47 : decode cX6_call 47 = .ok (.getfield 175, 3) := by decide +kernel
theorem dX6_call_50 : decode cX6_call 50 = .ok (.iconst 1, 1) := by decide +kernel
theorem dX6_call_51 : decode cX6_call 51 = .ok (.iload_n 1, 1) := by decide +kernel
theorem dX6_call_52 : decode cX6_call 52 = .ok (.ishl, 1) := by decide +kernel
theorem dX6_call_53 : decode cX6_call 53 = .ok (.ior, 1) := by decide +kernel
theorem dX6_call_54 : decode cX6_call 54 = .ok (.putfield 175, 3) := by decide +kernel
theorem dX6_call_57 : decode cX6_call 57 = .ok (.iconst 0, 1) := by decide +kernel
theorem dX6_call_58 : decode cX6_call 58 = .ok (.ireturn, 1) := by decide +kernel
theorem dX6_call_59 : decode cX6_call 59 = .ok (.iconst 0, 1) := by decide +kernel
theorem dX6_call_60 : decode cX6_call 60 = .ok (.istore_n 2, 1) := by decide +kernel
theorem dX6_call_61 : decode cX6_call 61 = .ok (.iload_n 2, 1) := by decide +kernel
theorem dX6_call_62 : decode cX6_call 62 = .ok (.aload_n 0, 1) := by decide +kernel
theorem dX6_call_63 : decode cX6_call 63 = .ok (.getfield 166, 3) := by decide +kernel
theorem dX6_call_66 : decode cX6_call 66 = .ok (.if_icmp .ge 40, 3) := by decide +kernel
theorem dX6_call_69 : decode cX6_call 69 = .ok (.aload_n 0, 1) := by decide +kernel
theorem dX6_call_70 : decode cX6_call 70 = .ok (.getfield 57, 3) := by decide +kernel
theorem dX6_call_73 : decode cX6_call 73 = .ok (.iload_n 2, 1) := by decide +kernel
theorem dX6_call_74 : decode cX6_call 74 = .ok (.aload_n 0, 1) := by decide +kernel
theorem dX6_call_75 : decode cX6_call 75 = .ok (.getfield 175, 3) := by decide +kernel
theorem dX6_call_78 : decode cX6_call 78 = .ok (.iload_n 2, 1) := by decide +kernel
theorem dX6_call_79 : decode cX6_call 79 = .ok (.ishr, 1) := by decide +kernel
theorem dX6_call_80 : decode cX6_call 80 = .ok (.iconst 1, 1) := by decide +kernel
theorem dX6_call_81 : decode cX6_call 81 = .ok (.iand, 1) := by decide +kernel
theorem dX6_call_82 : decode cX6_call 82 = .ok (.iconst 1, 1) := by decide +kernel
theorem dX6_call_83 : decode cX6_call 83 = .ok (.if_icmp .ne 7, 3) := by decide +kernel
theorem dX6_call_86 : decode cX6_call 86 = .ok (.iconst 0, 1) := by decide +kernel
theorem dX6_call_87 : decode cX6_call 87 = .ok (.goto 5, 3) := by decide +kernel
theorem dX6_call_90 : decode cX6_call 90 = .ok (.ldc 126, 2) := by decide +kernel
theorem dX6_call_92 : decode cX6_call 92 = .ok (.iastore, 1) := by decide +kernel
theorem dX6_call_93 : decode cX6_call 93 = .ok (.aload_n 0, 1) := by decide +kernel
theorem dX6_call_94 : decode cX6_call 94 = .ok (.getfield 60, 3) := by decide +kernel
theorem dX6_call_97 : decode cX6_call 97 = .ok (.iload_n 2, 1) := by decide +kernel
theorem dX6_call_98 : decode cX6_call 98 = .ok (.iconst 0, 1) := by decide +kernel
theorem dX6_call_99 : decode cX6_call 99 = .ok (.iastore, 1) := by decide +kernel
theorem dX6_call_100 : decode cX6_call 100 = .ok (.iinc 2 1, 3) := by decide +kernel
theorem dX6_call_103 : decode cX6_call 103 = .ok (.goto (-42), 3) := by decide +kernel
theorem dX6_call_106 : decode cX6_call 106 = .ok (.iconst 1, 1) := by decide +kernel
theorem dX6_call_107 : decode cX6_call 107 = .ok (.istore_n 2, 1) := by decide +kernel
theorem dX6_call_108 : decode cX6_call 108 = .ok (.iload_n 2, 1) := by decide +kernel
theorem dX6_call_109 : decode cX6_call 109 = .ok (.ifCond .eq 178, 3) := by decide +kernel
theorem dX6_call_112 : decode cX6_call 112 = .ok (.iconst 0, 1) := by decide +kernel
theorem dX6_call_113 : decode cX6_call 113 = .ok (.istore_n 2, 1) := by decide +kernel
theorem dX6_call_114 : decode cX6_call 114 = .ok (.iconst 0, 1) := by decide +kernel
theorem dX6_call_115 : decode cX6_call 115 = .ok (.istore_n 3, 1) := by decide +kernel
theorem dX6_call_116 : decode cX6_call 116 = .ok (.iload_n 3, 1) := by decide +kernel
theorem dX6_call_117 : decode cX6_call 117 = .ok (.aload_n 0, 1) := by decide +kernel
theorem dX6_call_118 : decode cX6_call 118 = .ok (.getfield 166, 3) := by decide +kernel
theorem dX6_call_121 : decode cX6_call 121 = .ok (.if_icmp .ge 163, 3) := by decide +kernel
theorem dX6_call_124 : decode cX6_call 124 = .ok (.iconst 0, 1) := by decide +kernel
theorem dX6_call_125 : decode cX6_call 125 = .ok (.istore 4, 2) := by decide +kernel
theorem dX6_call_127 : decode cX6_call 127 = .ok (.iload 4, 2) := by decide +kernel
theorem dX6_call_129 : decode cX6_call 129 = .ok (.aload_n 0, 1) := by decide +kernel
theorem dX6_call_130 : decode cX6_call 130 = .ok (.getfield 166, 3) := by decide +kernel
theorem dX6_call_133 : decode cX6_call 133 = .ok (.if_icmp .ge 145, 3) := by decide +kernel
theorem dX6_call_136 : decode cX6_call 136 = .ok (.aload_n 0, 1) := by decide +kernel
theorem dX6_call_137 : decode cX6_call 137 = .ok (.getfield 175, 3) := by decide +kernel
theorem dX6_call_140 : decode cX6_call 140 = .ok (.iload_n 3, 1) := by decide +kernel
theorem dX6_call_141 : decode cX6_call 141 = .ok (.ishr, 1) := by decide +kernel
theorem dX6_call_142 : decode cX6_call 142 = .ok (.iconst 1, 1) := by decide +kernel
theorem dX6_call_143 : decode cX6_call 143 = .ok (.iand, 1) := by decide +kernel
theorem dX6_call_144 : decode cX6_call 144 = .ok (.ifCond .ne 134, 3) := by decide +kernel
theorem dX6_call_147 : decode cX6_call 147 = .ok (.aload_n 0, 1) := by decide +kernel
theorem dX6_call_148 : decode cX6_call 148 = .ok (.getfield 51, 3) := by decide +kernel
theorem dX6_call_151 : decode cX6_call 151 = .ok (.bipush 10, 2) := by decide +kernel
theorem dX6_call_153 : decode cX6_call 153 = .ok (.iload_n 3, 1) := by decide +kernel
theorem dX6_call_154 : decode cX6_call 154 = .ok (.imul, 1) := by decide +kernel
theorem dX6_call_155 : decode cX6_call 155 = .ok (.iload 4, 2) := by decide +kernel
theorem dX6_call_157 : decode cX6_call 157 = .ok (.iadd, 1) := by decide +kernel
theorem dX6_call_158 : decode cX6_call 158 = .ok (.iaload, 1) := by decide +kernel
theorem dX6_call_159 : decode cX6_call 159 = .ok (.ifCond .le 113, 3) := by decide +kernel
theorem dX6_call_162 : decode cX6_call 162 = .ok (.aload_n 0, 1) := by decide +kernel
theorem dX6_call_163 : decode cX6_call 163 = .ok (.getfield 57, 3) := by decide +kernel
theorem dX6_call_166 : decode cX6_call 166 = .ok (.iload 4, 2) := by decide +kernel
theorem dX6_call_168 : decode cX6_call 168 = .ok (.iaload, 1) := by decide +kernel
theorem dX6_call_169 : decode cX6_call 169 = .ok (.ldc 126, 2) := by decide +kernel
theorem dX6_call_171 : decode cX6_call 171 = .ok (.if_icmp .eq 101, 3) := by decide +kernel
theorem dX6_call_174 : decode cX6_call 174 = .ok (.aload_n 0, 1) := by decide +kernel
theorem dX6_call_175 : decode cX6_call 175 = .ok (.getfield 57, 3) := by decide +kernel
theorem dX6_call_178 : decode cX6_call 178 = .ok (.iload 4, 2) := by decide +kernel
theorem dX6_call_180 : decode cX6_call 180 = .ok (.iaload, 1) := by decide +kernel
theorem dX6_call_181 : decode cX6_call 181 = .ok (.aload_n 0, 1) := by decide +kernel
theorem dX6_call_182 : decode cX6_call 182 = .ok (.getfield 51, 3) := by decide +kernel
theorem dX6_call_185 : decode cX6_call 185 = .ok (.bipush 10, 2) := by decide +kernel
theorem dX6_call_187 : decode cX6_call 187 = .ok (.iload_n 3, 1) := by decide +kernel
theorem dX6_call_188 : decode cX6_call 188 = .ok (.imul, 1) := by decide +kernel
theorem dX6_call_189 : decode cX6_call 189 = .ok (.iload 4, 2) := by decide +kernel
theorem dX6_call_191 : decode cX6_call 191 = .ok (.iadd, 1) := by decide +kernel
theorem dX6_call_192 : decode cX6_call 192 = .ok (.iaload, 1) := by decide +kernel
theorem dX6_call_193 : decode cX6_call 193 = .ok (.iadd, 1) := by decide +kernel
theorem dX6_call_194 : decode cX6_call 194 = .ok (.istore 5, 2) := by decide +kernel
theorem dX6_call_196 : decode cX6_call 196 = .ok (.aload_n 0, 1) := by decide +kernel
theorem dX6_call_197 : decode cX6_call 197 = .ok (.getfield 57, 3) := by decide +kernel
theorem dX6_call_200 : decode cX6_call 200 = .ok (.iload_n 3, 1) := by decide +kernel
theorem dX6_call_201 : decode cX6_call 201 = .ok (.iaload, 1) := by decide +kernel
theorem dX6_call_202 : decode cX6_call 202 = .ok (.ldc 126, 2) := by decide +kernel
theorem dX6_call_204 : decode cX6_call 204 = .ok (.if_icmp .eq 43, 3) := by decide +kernel
theorem dX6_call_207 : decode cX6_call 207 = .ok (.iload 5, 2) := by decide +kernel
theorem dX6_call_209 : decode cX6_call 209 = .ok (.aload_n 0, 1) := by decide +kernel
theorem dX6_call_210 : decode cX6_call 210 = .ok (.getfield 57, 3) := by decide +kernel
theorem dX6_call_213 : decode cX6_call 213 = .ok (.iload_n 3, 1) := by decide +kernel
theorem dX6_call_214 : decode cX6_call 214 = .ok (.iaload, 1) := by decide +kernel
theorem dX6_call_215 : decode cX6_call 215 = .ok (.if_icmp .lt 32, 3) := by decide +kernel
theorem dX6_call_218 : decode cX6_call 218 = .ok (.iload 5, 2) := by decide +kernel
theorem dX6_call_220 : decode cX6_call 220 = .ok (.aload_n 0, 1) := by decide +kernel
theorem dX6_call_221 : decode cX6_call 221 = .ok (.getfield 57, 3) := by decide +kernel
theorem dX6_call_224 : decode cX6_call 224 = .ok (.iload_n 3, 1) := by decide +kernel
theorem dX6_call_225 : decode cX6_call 225 = .ok (.iaload, 1) := by decide +kernel
theorem dX6_call_226 : decode cX6_call 226 = .ok (.if_icmp .ne 46, 3) := by decide +kernel
theorem dX6_call_229 : decode cX6_call 229 = .ok (.aload_n 0, 1) := by decide +kernel
theorem dX6_call_230 : decode cX6_call 230 = .ok (.getfield 60, 3) := by decide +kernel
theorem dX6_call_233 : decode cX6_call 233 = .ok (.iload 4, 2) := by decide +kernel
theorem dX6_call_235 : decode cX6_call 235 = .ok (.iaload, 1) := by decide +kernel
theorem dX6_call_236 : decode cX6_call 236 = .ok (.iconst 1, 1) := by decide +kernel
theorem dX6_call_237 : decode cX6_call 237 = .ok (.iadd, 1) := by decide +kernel
theorem dX6_call_238 : decode cX6_call 238 = .ok (.aload_n 0, 1) := by decide +kernel
theorem dX6_call_239 : decode cX6_call 239 = .ok (.getfield 60, 3) := by decide +kernel
theorem dX6_call_242 : decode cX6_call 242 = .ok (.iload_n 3, 1) := by decide +kernel
theorem dX6_call_243 : decode cX6_call 243 = .ok (.iaload, 1) := by decide +kernel
theorem dX6_call_244 : decode cX6_call 244 = .ok (.if_icmp .ge 28, 3) := by decide +kernel
theorem dX6_call_247 : decode cX6_call 247 = .ok (.aload_n 0, 1) := by decide +kernel
theorem dX6_call_248 : decode cX6_call 248 = .ok (.getfield 57, 3) := by decide +kernel
theorem dX6_call_251 : decode cX6_call 251 = .ok (.iload_n 3, 1) := by decide +kernel
theorem dX6_call_252 : decode cX6_call 252 = .ok (.iload 5, 2) := by decide +kernel
theorem dX6_call_254 : decode cX6_call 254 = .ok (.iastore, 1) := by decide +kernel
theorem dX6_call_255 : decode cX6_call 255 = .ok (.aload_n 0, 1) := by decide +kernel
theorem dX6_call_256 : decode cX6_call 256 = .ok (.getfield 60, 3) := by decide +kernel
theorem dX6_call_259 : decode cX6_call 259 = .ok (.iload_n 3, 1) := by decide +kernel
theorem dX6_call_260 : decode cX6_call 260 = .ok (.aload_n 0, 1) := by decide +kernel
theorem dX6_call_261 : decode cX6_call 261 = .ok (.getfield 60, 3) := by decide +kernel
theorem dX6_call_264 : decode cX6_call 264 = .ok (.iload 4, 2) := by decide +kernel
theorem dX6_call_266 : decode cX6_call 266 = .ok (.iaload, 1) := by decide +kernel
theorem dX6_call_267 : decode cX6_call 267 = .ok (.iconst 1, 1) := by decide +kernel
theorem dX6_call_268 : decode cX6_call 268 = .ok (.iadd, 1) := by decide +kernel
theorem dX6_call_269 : decode cX6_call 269 = .ok (.iastore, 1) := by decide +kernel
theorem dX6_call_270 : decode cX6_call 270 = .ok (.iconst 1, 1) := by decide +kernel
theorem dX6_call_271 : decode cX6_call 271 = .ok (.istore_n 2, 1) := by decide +kernel
theorem dX6_call_272 : decode cX6_call 272 = .ok (.iinc 4 1, 3) := by decide +kernel
theorem dX6_call_275 : decode cX6_call 275 = .ok (.goto (-148), 3) := by decide +kernel
theorem dX6_call_278 : decode cX6_call 278 = .ok (.iinc 3 1, 3) := by decide +kernel
theorem dX6_call_281 : decode cX6_call 281 = .ok (.goto (-165), 3) := by decide +kernel
theorem dX6_call_284 : decode cX6_call 284 = .ok (.goto (-176), 3) := by decide +kernel
theorem dX6_call_287 : decode cX6_call 287 = .ok (.aload_n 0, 1) := by decide +kernel
theorem dX6_call_288 : decode cX6_call 288 = .ok (.getfield 57, 3) := by decide +kernel
theorem dX6_call_291 : decode cX6_call 291 = .ok (.iload_n 1, 1) := by decide +kernel
theorem dX6_call_292 : decode cX6_call 292 = .ok (.iaload, 1) := by decide +kernel
theorem dX6_call_293 : decode cX6_call 293 = .ok (.ldc 126, 2) := by decide +kernel
theorem dX6_call_295 : decode cX6_call 295 = .ok (.if_icmp .ne 6, 3) := by decide +kernel
theorem dX6_call_298 : decode cX6_call 298 = .ok (.ldc 126, 2) := by decide +kernel
theorem dX6_call_300 : decode cX6_call 300 = .ok (.ireturn, 1) := by decide +kernel
theorem dX6_call_301 : decode cX6_call 301 = .ok (.aload_n 0, 1) := by decide +kernel
theorem dX6_call_302 : decode cX6_call 302 = .ok (.getfield 57, 3) := by decide +kernel
theorem dX6_call_305 : decode cX6_call 305 = .ok (.iload_n 1, 1) := by decide +kernel
theorem dX6_call_306 : decode cX6_call 306 = .ok (.iaload, 1) := by decide +kernel
theorem dX6_call_307 : decode cX6_call 307 = .ok (.istore_n 3, 1) := by decide +kernel
theorem dX6_call_308 : decode cX6_call 308 = .ok (.iload_n 1, 1) := by decide +kernel
theorem dX6_call_309 : decode cX6_call 309 = .ok (.istore 4, 2) := by decide +kernel
theorem dX6_call_311 : decode cX6_call 311 = .ok (.aload_n 0, 1) := by decide +kernel
theorem dX6_call_312 : decode cX6_call 312 = .ok (.dup, 1) := by decide +kernel
theorem dX6_call_313 : decode cX6_call 313 = .ok (.getfield 172, 3) := by decide +kernel
theorem dX6_call_316 : decode cX6_call 316 = .ok (.iconst 1, 1) := by decide +kernel
theorem dX6_call_317 : decode cX6_call 317 = .ok (.iload_n 1, 1) := by decide +kernel
theorem dX6_call_318 : decode cX6_call 318 = .ok (.ishl, 1) := by decide +kernel
theorem dX6_call_319 : decode cX6_call 319 = .ok (.ior, 1) := by decide +kernel
theorem dX6_call_320 : decode cX6_call 320 = .ok (.putfield 172, 3) := by decide +kernel
theorem dX6_call_323 : decode cX6_call 323 = .ok (.aload_n 0, 1) := by decide +kernel
theorem dX6_call_324 : decode cX6_call 324 = .ok (.getfield 175, 3) := by decide +kernel
theorem dX6_call_327 : decode cX6_call 327 = .ok (.iload 4, 2) := by decide +kernel
theorem dX6_call_329 : decode cX6_call 329 = .ok (.ishr, 1) := by decide +kernel
theorem dX6_call_330 : decode cX6_call 330 = .ok (.iconst 1, 1) := by decide +kernel
theorem dX6_call_331 : decode cX6_call 331 = .ok (.iand, 1) := by decide +kernel
theorem dX6_call_332 : decode cX6_call 332 = .ok (.ifCond .ne 161, 3) := by decide +kernel
theorem dX6_call_335 : decode cX6_call 335 = .ok (.ldc 126, 2) := by decide +kernel
theorem dX6_call_337 : decode cX6_call 337 = .ok (.istore 5, 2) := by decide +kernel
theorem dX6_call_339 : decode cX6_call 339 = .ok (.aload_n 0, 1) := by decide +kernel
theorem dX6_call_340 : decode cX6_call 340 = .ok (.getfield 166, 3) := by decide +kernel
theorem dX6_call_343 : decode cX6_call 343 = .ok (.iconst 1, 1) := by decide +kernel
theorem dX6_call_344 : decode cX6_call 344 = .ok (.isub, 1) := by decide +kernel
theorem dX6_call_345 : decode cX6_call 345 = .ok (.istore 6, 2) := by decide +kernel
theorem dX6_call_347 : decode cX6_call 347 = .ok (.iload 6, 2) := by decide +kernel
theorem dX6_call_349 : decode cX6_call 349 = .ok (.ifCond .lt 96, 3) := by decide +kernel
theorem dX6_call_352 : decode cX6_call 352 = .ok (.aload_n 0, 1) := by decide +kernel
theorem dX6_call_353 : decode cX6_call 353 = .ok (.getfield 51, 3) := by decide +kernel
theorem dX6_call_356 : decode cX6_call 356 = .ok (.bipush 10, 2) := by decide +kernel
theorem dX6_call_358 : decode cX6_call 358 = .ok (.iload 4, 2) := by decide +kernel
theorem dX6_call_360 : decode cX6_call 360 = .ok (.imul, 1) := by decide +kernel
theorem dX6_call_361 : decode cX6_call 361 = .ok (.iload 6, 2) := by decide +kernel
theorem dX6_call_363 : decode cX6_call 363 = .ok (.iadd, 1) := by decide +kernel
theorem dX6_call_364 : decode cX6_call 364 = .ok (.iaload, 1) := by decide +kernel
theorem dX6_call_365 : decode cX6_call 365 = .ok (.ifCond .le 70, 3) := by decide +kernel
theorem dX6_call_368 : decode cX6_call 368 = .ok (.aload_n 0, 1) := by decide +kernel
theorem dX6_call_369 : decode cX6_call 369 = .ok (.getfield 57, 3) := by decide +kernel
theorem dX6_call_372 : decode cX6_call 372 = .ok (.iload 6, 2) := by decide +kernel
theorem dX6_call_374 : decode cX6_call 374 = .ok (.iaload, 1) := by decide +kernel
theorem dX6_call_375 : decode cX6_call 375 = .ok (.ldc 126, 2) := by decide +kernel
theorem dX6_call_377 : decode cX6_call 377 = .ok (.if_icmp .eq 58, 3) := by decide +kernel
theorem dX6_call_380 : decode cX6_call 380 = .ok (.aload_n 0, 1) := by decide +kernel
theorem dX6_call_381 : decode cX6_call 381 = .ok (.getfield 57, 3) := by decide +kernel
theorem dX6_call_384 : decode cX6_call 384 = .ok (.iload 6, 2) := by decide +kernel
theorem dX6_call_386 : decode cX6_call 386 = .ok (.iaload, 1) := by decide +kernel
theorem dX6_call_387 : decode cX6_call 387 = .ok (.aload_n 0, 1) := by decide +kernel
theorem dX6_call_388 : decode cX6_call 388 = .ok (.getfield 51, 3) := by decide +kernel
theorem dX6_call_391 : decode cX6_call 391 = .ok (.bipush 10, 2) := by decide +kernel
theorem dX6_call_393 : decode cX6_call 393 = .ok (.iload 4, 2) := by decide +kernel
theorem dX6_call_395 : decode cX6_call 395 = .ok (.imul, 1) := by decide +kernel
theorem dX6_call_396 : decode cX6_call 396 = .ok (.iload 6, 2) := by decide +kernel
theorem dX6_call_398 : decode cX6_call 398 = .ok (.iadd, 1) := by decide +kernel
theorem dX6_call_399 : decode cX6_call 399 = .ok (.iaload, 1) := by decide +kernel
theorem dX6_call_400 : decode cX6_call 400 = .ok (.iadd, 1) := by decide +kernel
theorem dX6_call_401 : decode cX6_call 401 = .ok (.aload_n 0, 1) := by decide +kernel
theorem dX6_call_402 : decode cX6_call 402 = .ok (.getfield 57, 3) := by decide +kernel
theorem dX6_call_405 : decode cX6_call 405 = .ok (.iload 4, 2) := by decide +kernel
theorem dX6_call_407 : decode cX6_call 407 = .ok (.iaload, 1) := by decide +kernel
theorem dX6_call_408 : decode cX6_call 408 = .ok (.if_icmp .ne 27, 3) := by decide +kernel
theorem dX6_call_411 : decode cX6_call 411 = .ok (.aload_n 0, 1) := by decide +kernel
theorem dX6_call_412 : decode cX6_call 412 = .ok (.getfield 60, 3) := by decide +kernel
theorem dX6_call_415 : decode cX6_call 415 = .ok (.iload 6, 2) := by decide +kernel
theorem dX6_call_417 : decode cX6_call 417 = .ok (.iaload, 1) := by decide +kernel
theorem dX6_call_418 : decode cX6_call 418 = .ok (.iconst 1, 1) := by decide +kernel
theorem dX6_call_419 : decode cX6_call 419 = .ok (.iadd, 1) := by decide +kernel
theorem dX6_call_420 : decode cX6_call 420 = .ok (.aload_n 0, 1) := by decide +kernel
theorem dX6_call_421 : decode cX6_call 421 = .ok (.getfield 60, 3) := by decide +kernel
theorem dX6_call_424 : decode cX6_call 424 = .ok (.iload 4, 2) := by decide +kernel
theorem dX6_call_426 : decode cX6_call 426 = .ok (.iaload, 1) := by decide +kernel
theorem dX6_call_427 : decode cX6_call 427 = .ok (.if_icmp .ne 8, 3) := by decide +kernel
theorem dX6_call_430 : decode cX6_call 430 = .ok (.iload 6, 2) := by decide +kernel
theorem dX6_call_432 : decode cX6_call 432 = .ok (.goto 5, 3) := by decide +kernel
theorem dX6_call_435 : decode cX6_call 435 = .ok (.iload 5, 2) := by decide +kernel
theorem dX6_call_437 : decode cX6_call 437 = .ok (.istore 5, 2) := by decide +kernel
theorem dX6_call_439 : decode cX6_call 439 = .ok (.iinc 6 (-1), 3) := by decide +kernel
theorem dX6_call_442 : decode cX6_call 442 = .ok (.goto (-95), 3) := by decide +kernel
theorem dX6_call_445 : decode cX6_call 445 = .ok (.aload_n 0, 1) := by decide +kernel
theorem dX6_call_446 : decode cX6_call 446 = .ok (.getfield 54, 3) := by decide +kernel
theorem dX6_call_449 : decode cX6_call 449 = .ok (.bipush 10, 2) := by decide +kernel
theorem dX6_call_451 : decode cX6_call 451 = .ok (.iload 4, 2) := by decide +kernel
theorem dX6_call_453 : decode cX6_call 453 = .ok (.imul, 1) := by decide +kernel
theorem dX6_call_454 : decode cX6_call 454 = .ok (.iload 5, 2) := by decide +kernel
theorem dX6_call_456 : decode cX6_call 456 = .ok (.iadd, 1) := by decide +kernel
theorem dX6_call_457 : decode cX6_call 457 = .ok (.iconst 1, 1) := by decide +kernel
theorem dX6_call_458 : decode cX6_call 458 = .ok (.bastore, 1) := by decide +kernel
theorem dX6_call_459 : decode cX6_call 459 = .ok (.aload_n 0, 1) := by decide +kernel
theorem dX6_call_460 : decode cX6_call 460 = .ok (.getfield 54, 3) := by decide +kernel
theorem dX6_call_463 : decode cX6_call 463 = .ok (.bipush 10, 2) := by decide +kernel
theorem dX6_call_465 : decode cX6_call 465 = .ok (.iload 5, 2) := by decide +kernel
theorem dX6_call_467 : decode cX6_call 467 = .ok (.imul, 1) := by decide +kernel
theorem dX6_call_468 : decode cX6_call 468 = .ok (.iload 4, 2) := by decide +kernel
theorem dX6_call_470 : decode cX6_call 470 = .ok (.iadd, 1) := by decide +kernel
theorem dX6_call_471 : decode cX6_call 471 = .ok (.iconst 1, 1) := by decide +kernel
theorem dX6_call_472 : decode cX6_call 472 = .ok (.bastore, 1) := by decide +kernel
theorem dX6_call_473 : decode cX6_call 473 = .ok (.aload_n 0, 1) := by decide +kernel
theorem dX6_call_474 : decode cX6_call 474 = .ok (.dup, 1) := by decide +kernel
theorem dX6_call_475 : decode cX6_call 475 = .ok (.getfield 175, 3) := by decide +kernel
theorem dX6_call_478 : decode cX6_call 478 = .ok (.iconst 1, 1) := by decide +kernel
theorem dX6_call_479 : decode cX6_call 479 = .ok (.iload 4, 2) := by decide +kernel
theorem dX6_call_481 : decode cX6_call 481 = .ok (.ishl, 1) := by decide +kernel
theorem dX6_call_482 : decode cX6_call 482 = .ok (.ior, 1) := by decide +kernel
theorem dX6_call_483 : decode cX6_call 483 = .ok (.putfield 175, 3) := by decide +kernel
theorem dX6_call_486 : decode cX6_call 486 = .ok (.iload 5, 2) := by decide +kernel
theorem dX6_call_488 : decode cX6_call 488 = .ok (.istore 4, 2) := by decide +kernel
theorem dX6_call_490 : decode cX6_call 490 = .ok (.goto (-167), 3) := by decide +kernel
theorem dX6_call_493 : decode cX6_call 493 = .ok (.aload_n 0, 1) := by decide +kernel
theorem dX6_call_494 : decode cX6_call 494 = .ok (.dup, 1) := by decide +kernel
theorem dX6_call_495 : decode cX6_call 495 = .ok (.getfield 178, 3) := by decide +kernel
theorem dX6_call_498 : decode cX6_call 498 = .ok (.iload_n 3, 1) := by decide +kernel
theorem dX6_call_499 : decode cX6_call 499 = .ok (.iadd, 1) := by decide +kernel
theorem dX6_call_500 : decode cX6_call 500 = .ok (.putfield 178, 3) := by decide +kernel
theorem dX6_call_503 : decode cX6_call 503 = .ok (.iload_n 3, 1) := by decide +kernel
theorem dX6_call_504 : decode cX6_call 504 = .ok (.ireturn, 1) := by decide +kernel
theorem dX6_treeOf_0 : decode cX6_treeOf 0 = .ok (.iconst 0, 1) := by decide +kernel
theorem dX6_treeOf_1 : decode cX6_treeOf 1 = .ok (.istore_n 2, 1) := by decide +kernel
theorem dX6_treeOf_2 : decode cX6_treeOf 2 = .ok (.iload_n 1, 1) := by decide +kernel
theorem dX6_treeOf_3 : decode cX6_treeOf 3 = .ok (.iload_n 2, 1) := by decide +kernel
theorem dX6_treeOf_4 : decode cX6_treeOf 4 = .ok (.ishr, 1) := by decide +kernel
theorem dX6_treeOf_5 : decode cX6_treeOf 5 = .ok (.iconst 1, 1) := by decide +kernel
theorem dX6_treeOf_6 : decode cX6_treeOf 6 = .ok (.iand, 1) := by decide +kernel
theorem dX6_treeOf_7 : decode cX6_treeOf 7 = .ok (.ifCond .ne 9, 3) := by decide +kernel
theorem dX6_treeOf_10 : decode cX6_treeOf 10 = .ok (.iinc 2 1, 3) := by decide +kernel
theorem dX6_treeOf_13 : decode cX6_treeOf 13 = .ok (.goto (-11), 3) := by decide +kernel
theorem dX6_treeOf_16 : decode cX6_treeOf 16 = .ok (.aload_n 0, 1) := by decide +kernel
theorem dX6_treeOf_17 : decode cX6_treeOf 17 = .ok (.iconst 1, 1) := by decide +kernel
theorem dX6_treeOf_18 : decode cX6_treeOf 18 = .ok (.iload_n 2, 1) := by decide +kernel
theorem dX6_treeOf_19 : decode cX6_treeOf 19 = .ok (.ishl, 1) := by decide +kernel
theorem dX6_treeOf_20 : decode cX6_treeOf 20 = .ok (.putfield 181, 3) := by decide +kernel
theorem dX6_treeOf_23 : decode cX6_treeOf 23 = .ok (.iconst 0, 1) := by decide +kernel
theorem dX6_treeOf_24 : decode cX6_treeOf 24 = .ok (.istore_n 3, 1) := by decide +kernel
theorem dX6_treeOf_25 : decode cX6_treeOf 25 = .ok (.aload_n 0, 1) := by decide +kernel
theorem dX6_treeOf_26 : decode cX6_treeOf 26 = .ok (.getfield 181, 3) := by decide +kernel
theorem dX6_treeOf_29 : decode cX6_treeOf 29 = .ok (.iload_n 1, 1) := by decide +kernel
theorem dX6_treeOf_30 : decode cX6_treeOf 30 = .ok (.if_icmp .eq 155, 3) := by decide +kernel
theorem dX6_treeOf_33 : decode cX6_treeOf 33 = .ok (.ldc 126, 2) := by decide +kernel
theorem dX6_treeOf_35 : decode cX6_treeOf 35 = .ok (.istore 4, 2) := by decide +kernel
theorem dX6_treeOf_37 : decode cX6_treeOf 37 = .ok (.ldc 126, 2) := by decide +kernel
theorem dX6_treeOf_39 : decode cX6_treeOf 39 = .ok (.istore 5, 2) := by decide +kernel
theorem dX6_treeOf_41 : decode cX6_treeOf 41 = .ok (.iconst 0, 1) := by decide +kernel
theorem dX6_treeOf_42 : decode cX6_treeOf 42 = .ok (.istore 6, 2) := by decide +kernel
theorem dX6_treeOf_44 : decode cX6_treeOf 44 = .ok (.iload 6, 2) := by decide +kernel
theorem dX6_treeOf_46 : decode cX6_treeOf 46 = .ok (.aload_n 0, 1) := by decide +kernel
theorem dX6_treeOf_47 : decode cX6_treeOf 47 = .ok (.getfield 166, 3) := by decide +kernel
theorem dX6_treeOf_50 : decode cX6_treeOf 50 = .ok (.if_icmp .ge 104, 3) := by decide +kernel
theorem dX6_treeOf_53 : decode cX6_treeOf 53 = .ok (.iconst 0, 1) := by decide +kernel
theorem dX6_treeOf_54 : decode cX6_treeOf 54 = .ok (.istore 7, 2) := by decide +kernel
theorem dX6_treeOf_56 : decode cX6_treeOf 56 = .ok (.iload 7, 2) := by decide +kernel
theorem dX6_treeOf_58 : decode cX6_treeOf 58 = .ok (.aload_n 0, 1) := by decide +kernel
theorem dX6_treeOf_59 : decode cX6_treeOf 59 = .ok (.getfield 166, 3) := by decide +kernel
theorem dX6_treeOf_62 : decode cX6_treeOf 62 = .ok (.if_icmp .ge 86, 3) := by decide +kernel
theorem dX6_treeOf_65 : decode cX6_treeOf 65 = .ok (.aload_n 0, 1) := by decide +kernel
theorem dX6_treeOf_66 : decode cX6_treeOf 66 = .ok (.getfield 181, 3) := by decide +kernel
theorem dX6_treeOf_69 : decode cX6_treeOf 69 = .ok (.iload 6, 2) := by decide +kernel
theorem dX6_treeOf_71 : decode cX6_treeOf 71 = .ok (.ishr, 1) := by decide +kernel
theorem dX6_treeOf_72 : decode cX6_treeOf 72 = .ok (.iconst 1, 1) := by decide +kernel
theorem dX6_treeOf_73 : decode cX6_treeOf 73 = .ok (.iand, 1) := by decide +kernel
theorem dX6_treeOf_74 : decode cX6_treeOf 74 = .ok (.iconst 1, 1) := by decide +kernel
theorem dX6_treeOf_75 : decode cX6_treeOf 75 = .ok (.if_icmp .ne 73, 3) := by decide +kernel
theorem dX6_treeOf_78 : decode cX6_treeOf 78 = .ok (.aload_n 0, 1) := by decide +kernel
theorem dX6_treeOf_79 : decode cX6_treeOf 79 = .ok (.getfield 51, 3) := by decide +kernel
theorem dX6_treeOf_82 : decode cX6_treeOf 82 = .ok (.bipush 10, 2) := by decide +kernel
theorem dX6_treeOf_84 : decode cX6_treeOf 84 = .ok (.iload 6, 2) := by decide +kernel
theorem dX6_treeOf_86 : decode cX6_treeOf 86 = .ok (.imul, 1) := by decide +kernel
theorem dX6_treeOf_87 : decode cX6_treeOf 87 = .ok (.iload 7, 2) := by decide +kernel
theorem dX6_treeOf_89 : decode cX6_treeOf 89 = .ok (.iadd, 1) := by decide +kernel
theorem dX6_treeOf_90 : decode cX6_treeOf 90 = .ok (.iaload, 1) := by decide +kernel
theorem dX6_treeOf_91 : decode cX6_treeOf 91 = .ok (.istore 8, 2) := by decide +kernel
theorem dX6_treeOf_93 : decode cX6_treeOf 93 = .ok (.iload_n 1, 1) := by decide +kernel
theorem dX6_treeOf_94 : decode cX6_treeOf 94 = .ok (.iload 7, 2) := by decide +kernel
theorem dX6_treeOf_96 : decode cX6_treeOf 96 = .ok (.ishr, 1) := by decide +kernel
theorem dX6_treeOf_97 : decode cX6_treeOf 97 = .ok (.iconst 1, 1) := by decide +kernel
theorem dX6_treeOf_98 : decode cX6_treeOf 98 = .ok (.iand, 1) := by decide +kernel
theorem dX6_treeOf_99 : decode cX6_treeOf 99 = .ok (.iconst 1, 1) := by decide +kernel
theorem dX6_treeOf_100 : decode cX6_treeOf 100 = .ok (.if_icmp .ne 42, 3) := by decide +kernel
theorem dX6_treeOf_103 : decode cX6_treeOf 103 = .ok (.aload_n 0, 1) := by decide +kernel
theorem dX6_treeOf_104 : decode cX6_treeOf 104 = .ok (.getfield 181, 3) := by decide +kernel
theorem dX6_treeOf_107 : decode cX6_treeOf 107 = .ok (.iload 7, 2) := by decide +kernel
theorem dX6_treeOf_109 : decode cX6_treeOf 109 = .ok (.ishr, 1) := by decide +kernel
theorem dX6_treeOf_110 : decode cX6_treeOf 110 = .ok (.iconst 1, 1) := by decide +kernel
theorem dX6_treeOf_111 : decode cX6_treeOf 111 = .ok (.iand, 1) := by decide +kernel
theorem dX6_treeOf_112 : decode cX6_treeOf 112 = .ok (.ifCond .ne 30, 3) := by decide +kernel
theorem dX6_treeOf_115 : decode cX6_treeOf 115 = .ok (.iload 8, 2) := by decide +kernel
theorem dX6_treeOf_117 : decode cX6_treeOf 117 = .ok (.ifCond .le 25, 3) := by decide +kernel
theorem dX6_treeOf_120 : decode cX6_treeOf 120 = .ok (.iload 4, 2) := by decide +kernel
theorem dX6_treeOf_122 : decode cX6_treeOf 122 = .ok (.ldc 126, 2) := by decide +kernel
theorem dX6_treeOf_124 : decode cX6_treeOf 124 = .ok (.if_icmp .eq 10, 3) := by decide +kernel
theorem dX6_treeOf_127 : decode cX6_treeOf 127 = .ok (.iload 8, 2) := by decide +kernel
theorem dX6_treeOf_129 : decode cX6_treeOf 129 = .ok (.iload 4, 2) := by decide +kernel
theorem dX6_treeOf_131 : decode cX6_treeOf 131 = .ok (.if_icmp .ge 11, 3) := by decide +kernel
theorem dX6_treeOf_134 : decode cX6_treeOf 134 = .ok (.iload 8, 2) := by decide +kernel
theorem dX6_treeOf_136 : decode cX6_treeOf 136 = .ok (.istore 4, 2) := by decide +kernel
theorem dX6_treeOf_138 : decode cX6_treeOf 138 = .ok (.iload 7, 2) := by decide +kernel
theorem dX6_treeOf_140 : decode cX6_treeOf 140 = .ok (.istore 5, 2) := by decide +kernel
theorem dX6_treeOf_142 : decode cX6_treeOf 142 = .ok (.iinc 7 1, 3) := by decide +kernel
theorem dX6_treeOf_145 : decode cX6_treeOf 145 = .ok (.goto (-89), 3) := by decide +kernel
theorem dX6_treeOf_148 : decode cX6_treeOf 148 = .ok (.iinc 6 1, 3) := by decide +kernel
theorem dX6_treeOf_151 : decode cX6_treeOf 151 = .ok (.goto (-107), 3) := by decide +kernel
theorem dX6_treeOf_154 : decode cX6_treeOf 154 = .ok (.iload 5, 2) := by decide +kernel
theorem dX6_treeOf_156 : decode cX6_treeOf 156 = .ok (.ldc 126, 2) := by decide +kernel
theorem dX6_treeOf_158 : decode cX6_treeOf 158 = .ok (.if_icmp .ne 6, 3) := by decide +kernel
theorem dX6_treeOf_161 : decode cX6_treeOf 161 = .ok (.ldc 126, 2) := by decide +kernel
theorem dX6_treeOf_163 : decode cX6_treeOf 163 = .ok (.ireturn, 1) := by decide +kernel
theorem dX6_treeOf_164 : decode cX6_treeOf 164 = .ok (.aload_n 0, 1) := by decide +kernel
theorem dX6_treeOf_165 : decode cX6_treeOf 165 = .ok (.dup, 1) := by decide +kernel
theorem dX6_treeOf_166 : decode cX6_treeOf 166 = .ok (.getfield 181, 3) := by decide +kernel
theorem dX6_treeOf_169 : decode cX6_treeOf 169 = .ok (.iconst 1, 1) := by decide +kernel
theorem dX6_treeOf_170 : decode cX6_treeOf 170 = .ok (.iload 5, 2) := by decide +kernel
theorem dX6_treeOf_172 : decode cX6_treeOf 172 = .ok (.ishl, 1) := by decide +kernel
theorem dX6_treeOf_173 : decode cX6_treeOf 173 = .ok (.ior, 1) := by decide +kernel
theorem dX6_treeOf_174 : decode cX6_treeOf 174 = .ok (.putfield 181, 3) := by decide +kernel
theorem dX6_treeOf_177 : decode cX6_treeOf 177 = .ok (.iload_n 3, 1) := by decide +kernel
theorem dX6_treeOf_178 : decode cX6_treeOf 178 = .ok (.iload 4, 2) := by decide +kernel
theorem dX6_treeOf_180 : decode cX6_treeOf 180 = .ok (.iadd, 1) := by decide +kernel
theorem dX6_treeOf_181 : decode cX6_treeOf 181 = .ok (.istore_n 3, 1) := by decide +kernel
theorem dX6_treeOf_182 : decode cX6_treeOf 182 = .ok (.goto (-157), 3) := by decide +kernel
theorem dX6_treeOf_185 : decode cX6_treeOf 185 = .ok (.iload_n 3, 1) := by decide +kernel
theorem dX6_treeOf_186 : decode cX6_treeOf 186 = .ok (.ireturn, 1) := by decide +kernel
theorem dX6_bestOfSites_0 : decode cX6_bestOfSites 0 = .ok (.aload_n 0, 1) := by decide +kernel
theorem dX6_bestOfSites_1 : decode cX6_bestOfSites 1 = .ok (.getfield 172, 3) := by decide +kernel
theorem dX6_bestOfSites_4 : decode cX6_bestOfSites 4 = .ok (.ifCond .ne 5, 3) := by decide +kernel
theorem dX6_bestOfSites_7 : decode cX6_bestOfSites 7 = .ok (.iconst 0, 1) := by decide +kernel
theorem dX6_bestOfSites_8 : decode cX6_bestOfSites 8 = .ok (.ireturn, 1) := by decide +kernel
theorem dX6_bestOfSites_9 : decode cX6_bestOfSites 9 = .ok (.ldc 126, 2) := by decide +kernel
theorem dX6_bestOfSites_11 : decode cX6_bestOfSites 11 = .ok (.istore_n 1, 1) := by decide +kernel
theorem dX6_bestOfSites_12 : decode cX6_bestOfSites 12 = .ok (.iconst 1, 1) := by decide +kernel
theorem dX6_bestOfSites_13 : decode cX6_bestOfSites 13 = .ok (.istore_n 2, 1) := by decide +kernel
theorem dX6_bestOfSites_14 : decode cX6_bestOfSites 14 = .ok (.iload_n 2, 1) := by decide +kernel
theorem dX6_bestOfSites_15 : decode cX6_bestOfSites 15 = .ok (.iconst 1, 1) := by decide +kernel
theorem dX6_bestOfSites_16 : decode cX6_bestOfSites 16 = .ok (.aload_n 0, 1) := by decide +kernel
theorem dX6_bestOfSites_17 : decode cX6_bestOfSites 17 = .ok (.getfield 166, 3) := by decide +kernel
theorem dX6_bestOfSites_20 : decode cX6_bestOfSites 20 = .ok (.ishl, 1) := by decide +kernel
theorem dX6_bestOfSites_21 : decode cX6_bestOfSites 21 = .ok (.if_icmp .ge 49, 3) := by decide +kernel
theorem dX6_bestOfSites_24 : decode cX6_bestOfSites 24 = .ok (.aload_n 0, 1) := by decide +kernel
theorem dX6_bestOfSites_25 : decode cX6_bestOfSites 25 = .ok (.getfield 172, 3) := by decide +kernel
theorem dX6_bestOfSites_28 : decode cX6_bestOfSites 28 = .ok (.iload_n 2, 1) := by decide +kernel
theorem dX6_bestOfSites_29 : decode cX6_bestOfSites 29 = .ok (.iconst (-1), 1) := by decide +kernel
theorem dX6_bestOfSites_30 : decode cX6_bestOfSites 30 = .ok (.ixor, 1) := by decide +kernel
theorem dX6_bestOfSites_31 : decode cX6_bestOfSites 31 = .ok (.iand, 1) := by decide +kernel
theorem dX6_bestOfSites_32 : decode cX6_bestOfSites 32 = .ok (.ifCond .ne 32, 3) := by decide +kernel
theorem dX6_bestOfSites_35 : decode cX6_bestOfSites 35 = .ok (.aload_n 0, 1) := by decide +kernel
theorem dX6_bestOfSites_36 : decode cX6_bestOfSites 36 = .ok (.iload_n 2, 1) := by decide +kernel
theorem dX6_bestOfSites_37 : decode cX6_bestOfSites 37 = .ok (.invokevirtual 184, 3) := by decide +kernel
theorem dX6_bestOfSites_40 : decode cX6_bestOfSites 40 = .ok (.istore_n 3, 1) := by decide +kernel
theorem dX6_bestOfSites_41 : decode cX6_bestOfSites 41 = .ok (.iload_n 3, 1) := by decide +kernel
theorem dX6_bestOfSites_42 : decode cX6_bestOfSites 42 = .ok (.ldc 126, 2) := by decide +kernel
theorem dX6_bestOfSites_44 : decode cX6_bestOfSites 44 = .ok (.if_icmp .eq 18, 3) := by decide +kernel
theorem dX6_bestOfSites_47 : decode cX6_bestOfSites 47 = .ok (.iload_n 1, 1) := by decide +kernel
theorem dX6_bestOfSites_48 : decode cX6_bestOfSites 48 = .ok (.ldc 126, 2) := by decide +kernel
theorem dX6_bestOfSites_50 : decode cX6_bestOfSites 50 = .ok (.if_icmp .eq 8, 3) := by decide +kernel
theorem dX6_bestOfSites_53 : decode cX6_bestOfSites 53 = .ok (.iload_n 3, 1) := by decide +kernel
theorem dX6_bestOfSites_54 : decode cX6_bestOfSites 54 = .ok (.iload_n 1, 1) := by decide +kernel
theorem dX6_bestOfSites_55 : decode cX6_bestOfSites 55 = .ok (.if_icmp .ge 7, 3) := by decide +kernel
theorem dX6_bestOfSites_58 : decode cX6_bestOfSites 58 = .ok (.iload_n 3, 1) := by decide +kernel
theorem dX6_bestOfSites_59 : decode cX6_bestOfSites 59 = .ok (.goto 4, 3) := by decide +kernel
theorem dX6_bestOfSites_62 : decode cX6_bestOfSites 62 = .ok (.iload_n 1, 1) := by decide +kernel
theorem dX6_bestOfSites_63 : decode cX6_bestOfSites 63 = .ok (.istore_n 1, 1) := by decide +kernel
theorem dX6_bestOfSites_64 : decode cX6_bestOfSites 64 = .ok (.iinc 2 1, 3) := by decide +kernel
theorem dX6_bestOfSites_67 : decode cX6_bestOfSites 67 = .ok (.goto (-53), 3) := by decide +kernel
theorem dX6_bestOfSites_70 : decode cX6_bestOfSites 70 = .ok (.iload_n 1, 1) := by decide +kernel
theorem dX6_bestOfSites_71 : decode cX6_bestOfSites 71 = .ok (.ireturn, 1) := by decide +kernel
theorem dX6_joins_0 : decode cX6_joins 0 = .ok (.aload_n 0, 1) := by decide +kernel
theorem dX6_joins_1 : decode cX6_joins 1 = .ok (.iconst 0, 1) := by decide +kernel
theorem dX6_joins_2 : decode cX6_joins 2 = .ok (.putfield 66, 3) := by decide +kernel
theorem dX6_joins_5 : decode cX6_joins 5 = .ok (.iload_n 1, 1) := by decide +kernel
theorem dX6_joins_6 : decode cX6_joins 6 = .ok (.i2l, 1) := by decide +kernel
theorem dX6_joins_7 : decode cX6_joins 7 = .ok (.lconst 0, 1) := by decide +kernel
theorem dX6_joins_8 : decode cX6_joins 8 = .ok (.ldc2_w 161, 3) := by decide +kernel
theorem dX6_joins_11 : decode cX6_joins 11 = .ok (.invokestatic 75, 3) := by decide +kernel
theorem dX6_joins_14 : decode cX6_joins 14 = .ok (.ifCond .ne 6, 3) := by decide +kernel
theorem dX6_joins_17 : decode cX6_joins 17 = .ok (.ldc 85, 2) := by decide +kernel
theorem dX6_joins_19 : decode cX6_joins 19 = .ok (.ireturn, 1) := by decide +kernel
theorem dX6_joins_20 : decode cX6_joins 20 = .ok (.iconst 0, 1) := by decide +kernel
theorem dX6_joins_21 : decode cX6_joins 21 = .ok (.istore_n 2, 1) := by decide +kernel
theorem dX6_joins_22 : decode cX6_joins 22 = .ok (.iconst 0, 1) := by decide +kernel
theorem dX6_joins_23 : decode cX6_joins 23 = .ok (.istore_n 3, 1) := by decide +kernel
theorem dX6_joins_24 : decode cX6_joins 24 = .ok (.iload_n 3, 1) := by decide +kernel
theorem dX6_joins_25 : decode cX6_joins 25 = .ok (.bipush 100, 2) := by decide +kernel
theorem dX6_joins_27 : decode cX6_joins 27 = .ok (.if_icmp .ge 26, 3) := by decide +kernel
theorem dX6_joins_30 : decode cX6_joins 30 = .ok (.iload_n 2, 1) := by decide +kernel
theorem dX6_joins_31 : decode cX6_joins 31 = .ok (.aload_n 0, 1) := by decide +kernel
theorem dX6_joins_32 : decode cX6_joins 32 = .ok (.getfield 54, 3) := by decide +kernel
theorem dX6_joins_35 : decode cX6_joins 35 = .ok (.iload_n 3, 1) := by decide +kernel
theorem dX6_joins_36 : decode cX6_joins 36 = .ok (.baload, 1) := by decide +kernel
theorem dX6_joins_37 : decode cX6_joins 37 = .ok (.ifCond .eq 7, 3) := by decide +kernel
theorem dX6_joins_40 : decode cX6_joins 40 = .ok (.iconst 1, 1) := by decide +kernel
theorem dX6_joins_41 : decode cX6_joins 41 = .ok (.goto 4, 3) := by decide +kernel
theorem dX6_joins_44 : decode cX6_joins 44 = .ok (.iconst 0, 1) := by decide +kernel
theorem dX6_joins_45 : decode cX6_joins 45 = .ok (.iadd, 1) := by decide +kernel
theorem dX6_joins_46 : decode cX6_joins 46 = .ok (.istore_n 2, 1) := by decide +kernel
theorem dX6_joins_47 : decode cX6_joins 47 = .ok (.iinc 3 1, 3) := by decide +kernel
theorem dX6_joins_50 : decode cX6_joins 50 = .ok (.goto (-26), 3) := by decide +kernel
theorem dX6_joins_53 : decode cX6_joins 53 = .ok (.iload_n 1, 1) := by decide +kernel
theorem dX6_joins_54 : decode cX6_joins 54 = .ok (.ifCond .ne 10, 3) := by decide +kernel
theorem dX6_joins_57 : decode cX6_joins 57 = .ok (.aload_n 0, 1) := by decide +kernel
theorem dX6_joins_58 : decode cX6_joins 58 = .ok (.getfield 178, 3) := by decide +kernel
theorem dX6_joins_61 : decode cX6_joins 61 = .ok (.goto 42, 3) := by decide +kernel
theorem dX6_joins_64 : decode cX6_joins 64 = .ok (.iload_n 1, 1) := by decide +kernel
theorem dX6_joins_65 : decode cX6_joins 65 = .ok (.iconst 1, 1) := by decide +kernel
theorem dX6_joins_66 : decode cX6_joins 66 = .ok (.if_icmp .ne 10, 3) := by decide +kernel
theorem dX6_joins_69 : decode cX6_joins 69 = .ok (.aload_n 0, 1) := by decide +kernel
theorem dX6_joins_70 : decode cX6_joins 70 = .ok (.invokevirtual 187, 3) := by decide +kernel
theorem dX6_joins_73 : decode cX6_joins 73 = .ok (.goto 30, 3) := by decide +kernel
theorem dX6_joins_76 : decode cX6_joins 76 = .ok (.iload_n 1, 1) := by decide +kernel
theorem dX6_joins_77 : decode cX6_joins 77 = .ok (.iconst 2, 1) := by decide +kernel
theorem dX6_joins_78 : decode cX6_joins 78 = .ok (.if_icmp .ne 10, 3) := by decide +kernel
theorem dX6_joins_81 : decode cX6_joins 81 = .ok (.aload_n 0, 1) := by decide +kernel
theorem dX6_joins_82 : decode cX6_joins 82 = .ok (.getfield 172, 3) := by decide +kernel
theorem dX6_joins_85 : decode cX6_joins 85 = .ok (.goto 18, 3) := by decide +kernel
theorem dX6_joins_88 : decode cX6_joins 88 = .ok (.iload_n 1, 1) := by decide +kernel
theorem dX6_joins_89 : decode cX6_joins 89 = .ok (.iconst 3, 1) := by decide +kernel
theorem dX6_joins_90 : decode cX6_joins 90 = .ok (.if_icmp .ne 10, 3) := by decide +kernel
theorem dX6_joins_93 : decode cX6_joins 93 = .ok (.aload_n 0, 1) := by decide +kernel
theorem dX6_joins_94 : decode cX6_joins 94 = .ok (.getfield 175, 3) := by decide +kernel
theorem dX6_joins_97 : decode cX6_joins 97 = .ok (.goto 6, 3) := by decide +kernel
theorem dX6_joins_100 : decode cX6_joins 100 = .ok (.iload_n 2, 1) := by decide +kernel
theorem dX6_joins_101 : decode cX6_joins 101 = .ok (.iconst 2, 1) := by decide +kernel
theorem dX6_joins_102 : decode cX6_joins 102 = .ok (.idiv, 1) := by decide +kernel
theorem dX6_joins_103 : decode cX6_joins 103 = .ok (.ireturn, 1) := by decide +kernel
theorem dX6_kindOf_0 : decode cX6_kindOf 0 = .ok (.aload_n 0, 1) := by decide +kernel
theorem dX6_kindOf_1 : decode cX6_kindOf 1 = .ok (.iload_n 1, 1) := by decide +kernel
theorem dX6_kindOf_2 : decode cX6_kindOf 2 = .ok (.invokevirtual 112, 3) := by decide +kernel
theorem dX6_kindOf_5 : decode cX6_kindOf 5 = .ok (.ifCond .eq 7, 3) := by decide +kernel
theorem dX6_kindOf_8 : decode cX6_kindOf 8 = .ok (.iconst 3, 1) := by decide +kernel
theorem dX6_kindOf_9 : decode cX6_kindOf 9 = .ok (.goto 24, 3) := by decide +kernel
theorem dX6_kindOf_12 : decode cX6_kindOf 12 = .ok (.iconst 2, 1) := by decide +kernel
theorem dX6_kindOf_13 : decode cX6_kindOf 13 = .ok (.aload_n 0, 1) := by decide +kernel
theorem dX6_kindOf_14 : decode cX6_kindOf 14 = .ok (.iload_n 1, 1) := by decide +kernel
theorem dX6_kindOf_15 : decode cX6_kindOf 15 = .ok (.invokevirtual 115, 3) := by decide +kernel
theorem dX6_kindOf_18 : decode cX6_kindOf 18 = .ok (.imul, 1) := by decide +kernel
theorem dX6_kindOf_19 : decode cX6_kindOf 19 = .ok (.aload_n 0, 1) := by decide +kernel
theorem dX6_kindOf_20 : decode cX6_kindOf 20 = .ok (.getfield 19, 3) := by decide +kernel
theorem dX6_kindOf_23 : decode cX6_kindOf 23 = .ok (.iload_n 1, 1) := by decide +kernel
theorem dX6_kindOf_24 : decode cX6_kindOf 24 = .ok (.iaload, 1) := by decide +kernel
theorem dX6_kindOf_25 : decode cX6_kindOf 25 = .ok (.if_icmp .lt 7, 3) := by decide +kernel
theorem dX6_kindOf_28 : decode cX6_kindOf 28 = .ok (.iconst 2, 1) := by decide +kernel
theorem dX6_kindOf_29 : decode cX6_kindOf 29 = .ok (.goto 4, 3) := by decide +kernel
theorem dX6_kindOf_32 : decode cX6_kindOf 32 = .ok (.iconst 1, 1) := by decide +kernel
theorem dX6_kindOf_33 : decode cX6_kindOf 33 = .ok (.ireturn, 1) := by decide +kernel
theorem dX6_kind_0 : decode cX6_kind 0 = .ok (.aload_n 0, 1) := by decide +kernel
theorem dX6_kind_1 : decode cX6_kind 1 = .ok (.iconst 0, 1) := by decide +kernel
theorem dX6_kind_2 : decode cX6_kind 2 = .ok (.putfield 66, 3) := by decide +kernel
theorem dX6_kind_5 : decode cX6_kind 5 = .ok (.aload_n 0, 1) := by decide +kernel
theorem dX6_kind_6 : decode cX6_kind 6 = .ok (.iload_n 1, 1) := by decide +kernel
theorem dX6_kind_7 : decode cX6_kind 7 = .ok (.invokevirtual 133, 3) := by decide +kernel
theorem dX6_kind_10 : decode cX6_kind 10 = .ok (.ifCond .eq 11, 3) := by decide +kernel
theorem dX6_kind_13 : decode cX6_kind 13 = .ok (.aload_n 0, 1) := by decide +kernel
theorem dX6_kind_14 : decode cX6_kind 14 = .ok (.iload_n 1, 1) := by decide +kernel
theorem dX6_kind_15 : decode cX6_kind 15 = .ok (.invokevirtual 190, 3) := by decide +kernel
theorem dX6_kind_18 : decode cX6_kind 18 = .ok (.goto 5, 3) := by decide +kernel
theorem dX6_kind_21 : decode cX6_kind 21 = .ok (.ldc 85, 2) := by decide +kernel
theorem dX6_kind_23 : decode cX6_kind 23 = .ok (.ireturn, 1) := by decide +kernel
theorem dX6_as_0 : decode cX6_as 0 = .ok (.aload_n 0, 1) := by decide +kernel
theorem dX6_as_1 : decode cX6_as 1 = .ok (.iconst 0, 1) := by decide +kernel
theorem dX6_as_2 : decode cX6_as 2 = .ok (.putfield 66, 3) := by decide +kernel
theorem dX6_as_5 : decode cX6_as 5 = .ok (.aload_n 0, 1) := by decide +kernel
theorem dX6_as_6 : decode cX6_as 6 = .ok (.iload_n 1, 1) := by decide +kernel
theorem dX6_as_7 : decode cX6_as 7 = .ok (.invokevirtual 133, 3) := by decide +kernel
theorem dX6_as_10 : decode cX6_as 10 = .ok (.ifCond .eq 15, 3) := by decide +kernel
theorem dX6_as_13 : decode cX6_as 13 = .ok (.iload_n 2, 1) := by decide +kernel
theorem dX6_as_14 : decode cX6_as 14 = .ok (.i2l, 1) := by decide +kernel
theorem dX6_as_15 : decode cX6_as 15 = .ok (.lconst 0, 1) := by decide +kernel
theorem dX6_as_16 : decode cX6_as 16 = .ok (.ldc2_w 136, 3) := by decide +kernel
theorem dX6_as_19 : decode cX6_as 19 = .ok (.invokestatic 75, 3) := by decide +kernel
theorem dX6_as_22 : decode cX6_as 22 = .ok (.ifCond .ne 6, 3) := by decide +kernel
theorem dX6_as_25 : decode cX6_as 25 = .ok (.ldc 85, 2) := by decide +kernel
theorem dX6_as_27 : decode cX6_as 27 = .ok (.ireturn, 1) := by decide +kernel
theorem dX6_as_28 : decode cX6_as 28 = .ok (.aload_n 0, 1) := by decide +kernel
theorem dX6_as_29 : decode cX6_as 29 = .ok (.iconst 0, 1) := by decide +kernel
theorem dX6_as_30 : decode cX6_as 30 = .ok (.putfield 69, 3) := by decide +kernel
theorem dX6_as_33 : decode cX6_as 33 = .ok (.aload_n 0, 1) := by decide +kernel
theorem dX6_as_34 : decode cX6_as 34 = .ok (.iload_n 1, 1) := by decide +kernel
theorem dX6_as_35 : decode cX6_as 35 = .ok (.invokevirtual 190, 3) := by decide +kernel
theorem dX6_as_38 : decode cX6_as 38 = .ok (.istore_n 3, 1) := by decide +kernel
theorem dX6_as_39 : decode cX6_as 39 = .ok (.iload_n 2, 1) := by decide +kernel
theorem dX6_as_40 : decode cX6_as 40 = .ok (.ifCond .eq 18, 3) := by decide +kernel
theorem dX6_as_43 : decode cX6_as 43 = .ok (.iload_n 3, 1) := by decide +kernel
theorem dX6_as_44 : decode cX6_as 44 = .ok (.iload_n 2, 1) := by decide +kernel
theorem dX6_as_45 : decode cX6_as 45 = .ok (.if_icmp .eq 13, 3) := by decide +kernel
theorem dX6_as_48 : decode cX6_as 48 = .ok (.iload_n 2, 1) := by decide +kernel
theorem dX6_as_49 : decode cX6_as 49 = .ok (.iconst 1, 1) := by decide +kernel
theorem dX6_as_50 : decode cX6_as 50 = .ok (.if_icmp .ne 17, 3) := by decide +kernel
theorem dX6_as_53 : decode cX6_as 53 = .ok (.iload_n 3, 1) := by decide +kernel
theorem dX6_as_54 : decode cX6_as 54 = .ok (.iconst 2, 1) := by decide +kernel
theorem dX6_as_55 : decode cX6_as 55 = .ok (.if_icmp .ne 12, 3) := by decide +kernel
theorem dX6_as_58 : decode cX6_as 58 = .ok (.aload_n 0, 1) := by decide +kernel
theorem dX6_as_59 : decode cX6_as 59 = .ok (.getfield 19, 3) := by decide +kernel
theorem dX6_as_62 : decode cX6_as 62 = .ok (.iload_n 1, 1) := by decide +kernel
theorem dX6_as_63 : decode cX6_as 63 = .ok (.iaload, 1) := by decide +kernel
theorem dX6_as_64 : decode cX6_as 64 = .ok (.goto 8, 3) := by decide +kernel
theorem dX6_as_67 : decode cX6_as 67 = .ok (.aload_n 0, 1) := by decide +kernel
theorem dX6_as_68 : decode cX6_as 68 = .ok (.iconst 3, 1) := by decide +kernel
theorem dX6_as_69 : decode cX6_as 69 = .ok (.invokevirtual 86, 3) := by decide +kernel
theorem dX6_as_72 : decode cX6_as 72 = .ok (.ireturn, 1) := by decide +kernel
theorem dX6_began_0 : decode cX6_began 0 = .ok (.aload_n 0, 1) := by decide +kernel
theorem dX6_began_1 : decode cX6_began 1 = .ok (.getfield 193, 3) := by decide +kernel
theorem dX6_began_4 : decode cX6_began 4 = .ok (.bipush 16, 2) := by decide +kernel
theorem dX6_began_6 : decode cX6_began 6 = .ok (.if_icmp .ge 23, 3) := by decide +kernel
theorem dX6_began_9 : decode cX6_began 9 = .ok (.aload_n 0, 1) := by decide +kernel
theorem dX6_began_10 : decode cX6_began 10 = .ok (.getfield 63, 3) := by decide +kernel
theorem dX6_began_13 : decode cX6_began 13 = .ok (.aload_n 0, 1) := by decide +kernel
theorem dX6_began_14 : decode cX6_began 14 = .ok (.getfield 193, 3) := by decide +kernel
theorem dX6_began_17 : decode cX6_began 17 = .ok (.iload_n 1, 1) := by decide +kernel
theorem dX6_began_18 : decode cX6_began 18 = .ok (.iastore, 1) := by decide +kernel
theorem dX6_began_19 : decode cX6_began 19 = .ok (.aload_n 0, 1) := by decide +kernel
theorem dX6_began_20 : decode cX6_began 20 = .ok (.dup, 1) := by decide +kernel
theorem dX6_began_21 : decode cX6_began 21 = .ok (.getfield 193, 3) := by decide +kernel
theorem dX6_began_24 : decode cX6_began 24 = .ok (.iconst 1, 1) := by decide +kernel
theorem dX6_began_25 : decode cX6_began 25 = .ok (.iadd, 1) := by decide +kernel
theorem dX6_began_26 : decode cX6_began 26 = .ok (.putfield 193, 3) := by decide +kernel
theorem dX6_began_29 : decode cX6_began 29 = .ok (.return_, 1) := by decide +kernel
theorem dX6_ownWorth_0 : decode cX6_ownWorth 0 = .ok (.aload_n 0, 1) := by decide +kernel
theorem dX6_ownWorth_1 : decode cX6_ownWorth 1 = .ok (.bipush 13, 2) := by decide +kernel
theorem dX6_ownWorth_3 : decode cX6_ownWorth 3 = .ok (.invokevirtual 196, 3) := by decide +kernel
theorem dX6_ownWorth_6 : decode cX6_ownWorth 6 = .ok (.aload_n 0, 1) := by decide +kernel
theorem dX6_ownWorth_7 : decode cX6_ownWorth 7 = .ok (.bipush 10, 2) := by decide +kernel
theorem dX6_ownWorth_9 : decode cX6_ownWorth 9 = .ok (.invokevirtual 196, 3) := by decide +kernel
theorem dX6_ownWorth_12 : decode cX6_ownWorth 12 = .ok (.iconst 2, 1) := by decide +kernel
theorem dX6_ownWorth_13 : decode cX6_ownWorth 13 = .ok (.aload_n 0, 1) := by decide +kernel
theorem dX6_ownWorth_14 : decode cX6_ownWorth 14 = .ok (.getfield 19, 3) := by decide +kernel
theorem dX6_ownWorth_17 : decode cX6_ownWorth 17 = .ok (.iload_n 1, 1) := by decide +kernel
theorem dX6_ownWorth_18 : decode cX6_ownWorth 18 = .ok (.iaload, 1) := by decide +kernel
theorem dX6_ownWorth_19 : decode cX6_ownWorth 19 = .ok (.imul, 1) := by decide +kernel
theorem dX6_ownWorth_20 : decode cX6_ownWorth 20 = .ok (.ireturn, 1) := by decide +kernel
theorem dX6_marked_0 : decode cX6_marked 0 = .ok (.aload_n 0, 1) := by decide +kernel
theorem dX6_marked_1 : decode cX6_marked 1 = .ok (.iload_n 1, 1) := by decide +kernel
theorem dX6_marked_2 : decode cX6_marked 2 = .ok (.invokevirtual 190, 3) := by decide +kernel
theorem dX6_marked_5 : decode cX6_marked 5 = .ok (.istore_n 2, 1) := by decide +kernel
theorem dX6_marked_6 : decode cX6_marked 6 = .ok (.iload_n 2, 1) := by decide +kernel
theorem dX6_marked_7 : decode cX6_marked 7 = .ok (.iconst 2, 1) := by decide +kernel
theorem dX6_marked_8 : decode cX6_marked 8 = .ok (.if_icmp .ne 9, 3) := by decide +kernel
theorem dX6_marked_11 : decode cX6_marked 11 = .ok (.aload_n 0, 1) := by decide +kernel
theorem dX6_marked_12 : decode cX6_marked 12 = .ok (.bipush 21, 2) := by decide +kernel
theorem dX6_marked_14 : decode cX6_marked 14 = .ok (.invokevirtual 196, 3) := by decide +kernel
theorem dX6_marked_17 : decode cX6_marked 17 = .ok (.iload_n 2, 1) := by decide +kernel
theorem dX6_marked_18 : decode cX6_marked 18 = .ok (.iconst 3, 1) := by decide +kernel
theorem dX6_marked_19 : decode cX6_marked 19 = .ok (.if_icmp .ne 9, 3) := by decide +kernel
theorem dX6_marked_22 : decode cX6_marked 22 = .ok (.aload_n 0, 1) := by decide +kernel
theorem dX6_marked_23 : decode cX6_marked 23 = .ok (.bipush 22, 2) := by decide +kernel
theorem dX6_marked_25 : decode cX6_marked 25 = .ok (.invokevirtual 196, 3) := by decide +kernel
theorem dX6_marked_28 : decode cX6_marked 28 = .ok (.aload_n 0, 1) := by decide +kernel
theorem dX6_marked_29 : decode cX6_marked 29 = .ok (.bipush 20, 2) := by decide +kernel
theorem dX6_marked_31 : decode cX6_marked 31 = .ok (.invokevirtual 196, 3) := by decide +kernel
theorem dX6_marked_34 : decode cX6_marked 34 = .ok (.aload_n 0, 1) := by decide +kernel
theorem dX6_marked_35 : decode cX6_marked 35 = .ok (.getfield 22, 3) := by decide +kernel
theorem dX6_marked_38 : decode cX6_marked 38 = .ok (.iload_n 1, 1) := by decide +kernel
theorem dX6_marked_39 : decode cX6_marked 39 = .ok (.iaload, 1) := by decide +kernel
theorem dX6_marked_40 : decode cX6_marked 40 = .ok (.invokestatic 200, 3) := by decide +kernel
theorem dX6_marked_43 : decode cX6_marked 43 = .ok (.iload_n 2, 1) := by decide +kernel
theorem dX6_marked_44 : decode cX6_marked 44 = .ok (.iconst 2, 1) := by decide +kernel
theorem dX6_marked_45 : decode cX6_marked 45 = .ok (.if_icmp .ne 8, 3) := by decide +kernel
theorem dX6_marked_48 : decode cX6_marked 48 = .ok (.bipush 100, 2) := by decide +kernel
theorem dX6_marked_50 : decode cX6_marked 50 = .ok (.goto 17, 3) := by decide +kernel
theorem dX6_marked_53 : decode cX6_marked 53 = .ok (.iload_n 2, 1) := by decide +kernel
theorem dX6_marked_54 : decode cX6_marked 54 = .ok (.iconst 3, 1) := by decide +kernel
theorem dX6_marked_55 : decode cX6_marked 55 = .ok (.if_icmp .ne 11, 3) := by decide +kernel
theorem dX6_marked_58 : decode cX6_marked 58 = .ok (.aload_n 0, 1) := by decide +kernel
theorem dX6_marked_59 : decode cX6_marked 59 = .ok (.iload_n 1, 1) := by decide +kernel
theorem dX6_marked_60 : decode cX6_marked 60 = .ok (.invokevirtual 203, 3) := by decide +kernel
theorem dX6_marked_63 : decode cX6_marked 63 = .ok (.goto 4, 3) := by decide +kernel
theorem dX6_marked_66 : decode cX6_marked 66 = .ok (.iconst 0, 1) := by decide +kernel
theorem dX6_marked_67 : decode cX6_marked 67 = .ok (.iadd, 1) := by decide +kernel
theorem dX6_marked_68 : decode cX6_marked 68 = .ok (.ireturn, 1) := by decide +kernel
theorem dX6_worth_0 : decode cX6_worth 0 = .ok (.aload_n 0, 1) := by decide +kernel
theorem dX6_worth_1 : decode cX6_worth 1 = .ok (.iload_n 1, 1) := by decide +kernel
theorem dX6_worth_2 : decode cX6_worth 2 = .ok (.invokevirtual 190, 3) := by decide +kernel
theorem dX6_worth_5 : decode cX6_worth 5 = .ok (.istore_n 2, 1) := by decide +kernel
theorem dX6_worth_6 : decode cX6_worth 6 = .ok (.iload_n 2, 1) := by decide +kernel
theorem dX6_worth_7 : decode cX6_worth 7 = .ok (.iconst 3, 1) := by decide +kernel
theorem dX6_worth_8 : decode cX6_worth 8 = .ok (.if_icmp .ne 9, 3) := by decide +kernel
theorem dX6_worth_11 : decode cX6_worth 11 = .ok (.aload_n 0, 1) := by decide +kernel
theorem dX6_worth_12 : decode cX6_worth 12 = .ok (.iload_n 1, 1) := by decide +kernel
theorem dX6_worth_13 : decode cX6_worth 13 = .ok (.invokevirtual 203, 3) := by decide +kernel
theorem dX6_worth_16 : decode cX6_worth 16 = .ok (.ireturn, 1) := by decide +kernel
theorem dX6_worth_17 : decode cX6_worth 17 = .ok (.iload_n 2, 1) := by decide +kernel
theorem dX6_worth_18 : decode cX6_worth 18 = .ok (.iconst 2, 1) := by decide +kernel
theorem dX6_worth_19 : decode cX6_worth 19 = .ok (.if_icmp .ne 9, 3) := by decide +kernel
theorem dX6_worth_22 : decode cX6_worth 22 = .ok (.aload_n 0, 1) := by decide +kernel
theorem dX6_worth_23 : decode cX6_worth 23 = .ok (.bipush 12, 2) := by decide +kernel
theorem dX6_worth_25 : decode cX6_worth 25 = .ok (.invokevirtual 196, 3) := by decide +kernel
theorem dX6_worth_28 : decode cX6_worth 28 = .ok (.aload_n 0, 1) := by decide +kernel
theorem dX6_worth_29 : decode cX6_worth 29 = .ok (.bipush 11, 2) := by decide +kernel
theorem dX6_worth_31 : decode cX6_worth 31 = .ok (.invokevirtual 196, 3) := by decide +kernel
theorem dX6_worth_34 : decode cX6_worth 34 = .ok (.aload_n 0, 1) := by decide +kernel
theorem dX6_worth_35 : decode cX6_worth 35 = .ok (.bipush 10, 2) := by decide +kernel
theorem dX6_worth_37 : decode cX6_worth 37 = .ok (.invokevirtual 196, 3) := by decide +kernel
theorem dX6_worth_40 : decode cX6_worth 40 = .ok (.aload_n 0, 1) := by decide +kernel
theorem dX6_worth_41 : decode cX6_worth 41 = .ok (.getfield 19, 3) := by decide +kernel
theorem dX6_worth_44 : decode cX6_worth 44 = .ok (.iload_n 1, 1) := by decide +kernel
theorem dX6_worth_45 : decode cX6_worth 45 = .ok (.iaload, 1) := by decide +kernel
theorem dX6_worth_46 : decode cX6_worth 46 = .ok (.aload_n 0, 1) := by decide +kernel
theorem dX6_worth_47 : decode cX6_worth 47 = .ok (.iload_n 1, 1) := by decide +kernel
theorem dX6_worth_48 : decode cX6_worth 48 = .ok (.invokevirtual 115, 3) := by decide +kernel
theorem dX6_worth_51 : decode cX6_worth 51 = .ok (.isub, 1) := by decide +kernel
theorem dX6_worth_52 : decode cX6_worth 52 = .ok (.istore_n 3, 1) := by decide +kernel
theorem dX6_worth_53 : decode cX6_worth 53 = .ok (.iload_n 2, 1) := by decide +kernel
theorem dX6_worth_54 : decode cX6_worth 54 = .ok (.iconst 2, 1) := by decide +kernel
theorem dX6_worth_55 : decode cX6_worth 55 = .ok (.if_icmp .ne 13, 3) := by decide +kernel
theorem dX6_worth_58 : decode cX6_worth 58 = .ok (.iload_n 3, 1) := by decide +kernel
theorem dX6_worth_59 : decode cX6_worth 59 = .ok (.aload_n 0, 1) := by decide +kernel
theorem dX6_worth_60 : decode cX6_worth 60 = .ok (.iload_n 1, 1) := by decide +kernel
theorem dX6_worth_61 : decode cX6_worth 61 = .ok (.invokevirtual 206, 3) := by decide +kernel
theorem dX6_worth_64 : decode cX6_worth 64 = .ok (.iadd, 1) := by decide +kernel
theorem dX6_worth_65 : decode cX6_worth 65 = .ok (.goto 4, 3) := by decide +kernel
theorem dX6_worth_68 : decode cX6_worth 68 = .ok (.iload_n 3, 1) := by decide +kernel
theorem dX6_worth_69 : decode cX6_worth 69 = .ok (.ireturn, 1) := by decide +kernel
theorem dX6_ask_0 : decode cX6_ask 0 = .ok (.aload_n 0, 1) := by decide +kernel
theorem dX6_ask_1 : decode cX6_ask 1 = .ok (.iconst 0, 1) := by decide +kernel
theorem dX6_ask_2 : decode cX6_ask 2 = .ok (.putfield 66, 3) := by decide +kernel
theorem dX6_ask_5 : decode cX6_ask 5 = .ok (.aload_n 0, 1) := by decide +kernel
theorem dX6_ask_6 : decode cX6_ask 6 = .ok (.iload_n 1, 1) := by decide +kernel
theorem dX6_ask_7 : decode cX6_ask 7 = .ok (.invokevirtual 133, 3) := by decide +kernel
theorem dX6_ask_10 : decode cX6_ask 10 = .ok (.ifCond .eq 13, 3) := by decide +kernel
theorem dX6_ask_13 : decode cX6_ask 13 = .ok (.iload_n 2, 1) := by decide +kernel
theorem dX6_ask_14 : decode cX6_ask 14 = .ok (.i2l, 1) := by decide +kernel
theorem dX6_ask_15 : decode cX6_ask 15 = .ok (.lconst 0, 1) := by decide +kernel
theorem dX6_ask_16 : decode cX6_ask 16 = .ok (.lconst 1, 1) := by decide +kernel
theorem dX6_ask_17 : decode cX6_ask 17 = .ok (.invokestatic 75, 3) := by decide +kernel
theorem dX6_ask_20 : decode cX6_ask 20 = .ok (.ifCond .ne 6, 3) := by decide +kernel
theorem dX6_ask_23 : decode cX6_ask 23 = .ok (.ldc 85, 2) := by decide +kernel
theorem dX6_ask_25 : decode cX6_ask 25 = .ok (.ireturn, 1) := by decide +kernel
theorem dX6_ask_26 : decode cX6_ask 26 = .ok (.aload_n 0, 1) := by decide +kernel
theorem dX6_ask_27 : decode cX6_ask 27 = .ok (.iconst 0, 1) := by decide +kernel
theorem dX6_ask_28 : decode cX6_ask 28 = .ok (.putfield 193, 3) := by decide +kernel
theorem dX6_ask_31 : decode cX6_ask 31 = .ok (.iload_n 2, 1) := by decide +kernel
theorem dX6_ask_32 : decode cX6_ask 32 = .ok (.ifCond .ne 11, 3) := by decide +kernel
theorem dX6_ask_35 : decode cX6_ask 35 = .ok (.aload_n 0, 1) := by decide +kernel
theorem dX6_ask_36 : decode cX6_ask 36 = .ok (.iload_n 1, 1) := by decide +kernel
theorem dX6_ask_37 : decode cX6_ask 37 = .ok (.invokevirtual 209, 3) := by decide +kernel
theorem dX6_ask_40 : decode cX6_ask 40 = .ok (.goto 8, 3) := by decide +kernel
theorem dX6_ask_43 : decode cX6_ask 43 = .ok (.aload_n 0, 1) := by decide +kernel
theorem dX6_ask_44 : decode cX6_ask 44 = .ok (.iload_n 1, 1) := by decide +kernel
theorem dX6_ask_45 : decode cX6_ask 45 = .ok (.invokevirtual 206, 3) := by decide +kernel
theorem dX6_ask_48 : decode cX6_ask 48 = .ok (.ireturn, 1) := by decide +kernel
theorem dX6_trace_0 : decode cX6_trace 0 = .ok (.aload_n 0, 1) := by decide +kernel
theorem dX6_trace_1 : decode cX6_trace 1 = .ok (.iconst 0, 1) := by decide +kernel
theorem dX6_trace_2 : decode cX6_trace 2 = .ok (.putfield 66, 3) := by decide +kernel
theorem dX6_trace_5 : decode cX6_trace 5 = .ok (.iload_n 1, 1) := by decide +kernel
theorem dX6_trace_6 : decode cX6_trace 6 = .ok (.i2l, 1) := by decide +kernel
theorem dX6_trace_7 : decode cX6_trace 7 = .ok (.lconst 0, 1) := by decide +kernel
theorem dX6_trace_8 : decode cX6_trace 8 = .ok (.aload_n 0, 1) := by decide +kernel
theorem dX6_trace_9 : decode cX6_trace 9 = .ok (.getfield 193, 3) := by decide +kernel
theorem dX6_trace_12 : decode cX6_trace 12 = .ok (.iconst 1, 1) := by decide +kernel
theorem dX6_trace_13 : decode cX6_trace 13 = .ok (.isub, 1) := by decide +kernel
theorem dX6_trace_14 : decode cX6_trace 14 = .ok (.i2l, 1) := by decide +kernel
theorem dX6_trace_15 : decode cX6_trace 15 = .ok (.invokestatic 75, 3) := by decide +kernel
theorem dX6_trace_18 : decode cX6_trace 18 = .ok (.ifCond .eq 12, 3) := by decide +kernel
theorem dX6_trace_21 : decode cX6_trace 21 = .ok (.aload_n 0, 1) := by decide +kernel
theorem dX6_trace_22 : decode cX6_trace 22 = .ok (.getfield 63, 3) := by decide +kernel
theorem dX6_trace_25 : decode cX6_trace 25 = .ok (.iload_n 1, 1) := by decide +kernel
theorem dX6_trace_26 : decode cX6_trace 26 = .ok (.iaload, 1) := by decide +kernel
theorem dX6_trace_27 : decode cX6_trace 27 = .ok (.goto 5, 3) := by decide +kernel
theorem dX6_trace_30 : decode cX6_trace 30 = .ok (.ldc 126, 2) := by decide +kernel
theorem dX6_trace_32 : decode cX6_trace 32 = .ok (.ireturn, 1) := by decide +kernel
theorem dX6_count_0 : decode cX6_count 0 = .ok (.aload_n 0, 1) := by decide +kernel
theorem dX6_count_1 : decode cX6_count 1 = .ok (.iconst 0, 1) := by decide +kernel
theorem dX6_count_2 : decode cX6_count 2 = .ok (.putfield 66, 3) := by decide +kernel
theorem dX6_count_5 : decode cX6_count 5 = .ok (.iconst 0, 1) := by decide +kernel
theorem dX6_count_6 : decode cX6_count 6 = .ok (.istore_n 2, 1) := by decide +kernel
theorem dX6_count_7 : decode cX6_count 7 = .ok (.iload_n 1, 1) := by decide +kernel
theorem dX6_count_8 : decode cX6_count 8 = .ok (.tableswitch 170 0 6 #[44, 77, 82, 90, 125, 130, 135], 44) := by decide +kernel
theorem dX6_count_52 : decode cX6_count 52 = .ok (.iconst 0, 1) := by decide +kernel
theorem dX6_count_53 : decode cX6_count 53 = .ok (.istore_n 3, 1) := by decide +kernel
theorem dX6_count_54 : decode cX6_count 54 = .ok (.iload_n 3, 1) := by decide +kernel
theorem dX6_count_55 : decode cX6_count 55 = .ok (.bipush 8, 2) := by decide +kernel
theorem dX6_count_57 : decode cX6_count 57 = .ok (.if_icmp .ge 26, 3) := by decide +kernel
theorem dX6_count_60 : decode cX6_count 60 = .ok (.iload_n 2, 1) := by decide +kernel
theorem dX6_count_61 : decode cX6_count 61 = .ok (.aload_n 0, 1) := by decide +kernel
theorem dX6_count_62 : decode cX6_count 62 = .ok (.getfield 7, 3) := by decide +kernel
theorem dX6_count_65 : decode cX6_count 65 = .ok (.iload_n 3, 1) := by decide +kernel
theorem dX6_count_66 : decode cX6_count 66 = .ok (.iaload, 1) := by decide +kernel
theorem dX6_count_67 : decode cX6_count 67 = .ok (.ifCond .lt 7, 3) := by decide +kernel
theorem dX6_count_70 : decode cX6_count 70 = .ok (.iconst 1, 1) := by decide +kernel
theorem dX6_count_71 : decode cX6_count 71 = .ok (.goto 4, 3) := by decide +kernel
theorem dX6_count_74 : decode cX6_count 74 = .ok (.iconst 0, 1) := by decide +kernel
theorem dX6_count_75 : decode cX6_count 75 = .ok (.iadd, 1) := by decide +kernel
theorem dX6_count_76 : decode cX6_count 76 = .ok (.istore_n 2, 1) := by decide +kernel
theorem dX6_count_77 : decode cX6_count 77 = .ok (.iinc 3 1, 3) := by decide +kernel
theorem dX6_count_80 : decode cX6_count 80 = .ok (.goto (-26), 3) := by decide +kernel
theorem dX6_count_83 : decode cX6_count 83 = .ok (.iload_n 2, 1) := by decide +kernel
theorem dX6_count_84 : decode cX6_count 84 = .ok (.ireturn, 1) := by decide +kernel
theorem dX6_count_85 : decode cX6_count 85 = .ok (.aload_n 0, 1) := by decide +kernel
theorem dX6_count_86 : decode cX6_count 86 = .ok (.getfield 90, 3) := by decide +kernel
theorem dX6_count_89 : decode cX6_count 89 = .ok (.ireturn, 1) := by decide +kernel
theorem dX6_count_90 : decode cX6_count 90 = .ok (.aload_n 0, 1) := by decide +kernel
theorem dX6_count_91 : decode cX6_count 91 = .ok (.getfield 93, 3) := by decide +kernel
theorem dX6_count_94 : decode cX6_count 94 = .ok (.invokestatic 200, 3) := by decide +kernel
theorem dX6_count_97 : decode cX6_count 97 = .ok (.ireturn, 1) := by decide +kernel
theorem dX6_count_98 : decode cX6_count 98 = .ok (.iconst 0, 1) := by decide +kernel
theorem dX6_count_99 : decode cX6_count 99 = .ok (.istore_n 3, 1) := by decide +kernel
theorem dX6_count_100 : decode cX6_count 100 = .ok (.iload_n 3, 1) := by decide +kernel
theorem dX6_count_101 : decode cX6_count 101 = .ok (.aload_n 0, 1) := by decide +kernel
theorem dX6_count_102 : decode cX6_count 102 = .ok (.getfield 90, 3) := by decide +kernel
theorem dX6_count_105 : decode cX6_count 105 = .ok (.if_icmp .ge 26, 3) := by decide +kernel
theorem dX6_count_108 : decode cX6_count 108 = .ok (.iload_n 2, 1) := by decide +kernel
theorem dX6_count_109 : decode cX6_count 109 = .ok (.aload_n 0, 1) := by decide +kernel
theorem dX6_count_110 : decode cX6_count 110 = .ok (.iload_n 3, 1) := by decide +kernel
theorem dX6_count_111 : decode cX6_count 111 = .ok (.invokevirtual 190, 3) := by decide +kernel
theorem dX6_count_114 : decode cX6_count 114 = .ok (.iconst 2, 1) := by decide +kernel
theorem dX6_count_115 : decode cX6_count 115 = .ok (.if_icmp .ne 7, 3) := by decide +kernel
theorem dX6_count_118 : decode cX6_count 118 = .ok (.iconst 1, 1) := by decide +kernel
theorem dX6_count_119 : decode cX6_count 119 = .ok (.goto 4, 3) := by decide +kernel
theorem dX6_count_122 : decode cX6_count 122 = .ok (.iconst 0, 1) := by decide +kernel
theorem dX6_count_123 : decode cX6_count 123 = .ok (.iadd, 1) := by decide +kernel
theorem dX6_count_124 : decode cX6_count 124 = .ok (.istore_n 2, 1) := by decide +kernel
theorem dX6_count_125 : decode cX6_count 125 = .ok (.iinc 3 1, 3) := by decide +kernel
theorem dX6_count_128 : decode cX6_count 128 = .ok (.goto (-28), 3) := by decide +kernel
theorem dX6_count_131 : decode cX6_count 131 = .ok (.iload_n 2, 1) := by decide +kernel
theorem dX6_count_132 : decode cX6_count 132 = .ok (.ireturn, 1) := by decide +kernel
theorem dX6_count_133 : decode cX6_count 133 = .ok (.aload_n 0, 1) := by decide +kernel
theorem dX6_count_134 : decode cX6_count 134 = .ok (.getfield 140, 3) := by decide +kernel
theorem dX6_count_137 : decode cX6_count 137 = .ok (.ireturn, 1) := by decide +kernel
theorem dX6_count_138 : decode cX6_count 138 = .ok (.aload_n 0, 1) := by decide +kernel
theorem dX6_count_139 : decode cX6_count 139 = .ok (.getfield 166, 3) := by decide +kernel
theorem dX6_count_142 : decode cX6_count 142 = .ok (.ireturn, 1) := by decide +kernel
theorem dX6_count_143 : decode cX6_count 143 = .ok (.iconst 0, 1) := by decide +kernel
theorem dX6_count_144 : decode cX6_count 144 = .ok (.istore_n 3, 1) := by decide +kernel
theorem dX6_count_145 : decode cX6_count 145 = .ok (.iload_n 3, 1) := by decide +kernel
theorem dX6_count_146 : decode cX6_count 146 = .ok (.bipush 100, 2) := by decide +kernel
theorem dX6_count_148 : decode cX6_count 148 = .ok (.if_icmp .ge 26, 3) := by decide +kernel
theorem dX6_count_151 : decode cX6_count 151 = .ok (.iload_n 2, 1) := by decide +kernel
theorem dX6_count_152 : decode cX6_count 152 = .ok (.aload_n 0, 1) := by decide +kernel
theorem dX6_count_153 : decode cX6_count 153 = .ok (.getfield 51, 3) := by decide +kernel
theorem dX6_count_156 : decode cX6_count 156 = .ok (.iload_n 3, 1) := by decide +kernel
theorem dX6_count_157 : decode cX6_count 157 = .ok (.iaload, 1) := by decide +kernel
theorem dX6_count_158 : decode cX6_count 158 = .ok (.ifCond .le 7, 3) := by decide +kernel
theorem dX6_count_161 : decode cX6_count 161 = .ok (.iconst 1, 1) := by decide +kernel
theorem dX6_count_162 : decode cX6_count 162 = .ok (.goto 4, 3) := by decide +kernel
theorem dX6_count_165 : decode cX6_count 165 = .ok (.iconst 0, 1) := by decide +kernel
theorem dX6_count_166 : decode cX6_count 166 = .ok (.iadd, 1) := by decide +kernel
theorem dX6_count_167 : decode cX6_count 167 = .ok (.istore_n 2, 1) := by decide +kernel
theorem dX6_count_168 : decode cX6_count 168 = .ok (.iinc 3 1, 3) := by decide +kernel
theorem dX6_count_171 : decode cX6_count 171 = .ok (.goto (-26), 3) := by decide +kernel
theorem dX6_count_174 : decode cX6_count 174 = .ok (.iload_n 2, 1) := by decide +kernel
theorem dX6_count_175 : decode cX6_count 175 = .ok (.iconst 2, 1) := by decide +kernel
theorem dX6_count_176 : decode cX6_count 176 = .ok (.idiv, 1) := by decide +kernel
theorem dX6_count_177 : decode cX6_count 177 = .ok (.ireturn, 1) := by decide +kernel
theorem dX6_count_178 : decode cX6_count 178 = .ok (.ldc 85, 2) := by decide +kernel
theorem dX6_count_180 : decode cX6_count 180 = .ok (.ireturn, 1) := by decide +kernel
theorem dX6_status_0 : decode cX6_status 0 = .ok (.aload_n 0, 1) := by decide +kernel
theorem dX6_status_1 : decode cX6_status 1 = .ok (.iconst 0, 1) := by decide +kernel
theorem dX6_status_2 : decode cX6_status 2 = .ok (.putfield 66, 3) := by decide +kernel
theorem dX6_status_5 : decode cX6_status 5 = .ok (.aload_n 0, 1) := by decide +kernel
theorem dX6_status_6 : decode cX6_status 6 = .ok (.getfield 69, 3) := by decide +kernel
theorem dX6_status_9 : decode cX6_status 9 = .ok (.ireturn, 1) := by decide +kernel
