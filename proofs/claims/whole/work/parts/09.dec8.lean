theorem dX8_init_0 : decode cX8_init 0 = .ok (.aload_n 0, 1) := by decide +kernel
theorem dX8_init_1 : decode cX8_init 1 = .ok (.invokespecial 1, 3) := by decide +kernel
theorem dX8_init_4 : decode cX8_init 4 = .ok (.aload_n 0, 1) := by decide +kernel
theorem dX8_init_5 : decode cX8_init 5 = .ok (.bipush 8, 2) := by decide +kernel
theorem dX8_init_7 : decode cX8_init 7 = .ok (.newarray .int, 2) := by decide +kernel
theorem dX8_init_9 : decode cX8_init 9 = .ok (.dup, 1) := by decide +kernel
theorem dX8_init_10 : decode cX8_init 10 = .ok (.iconst 0, 1) := by decide +kernel
theorem dX8_init_11 : decode cX8_init 11 = .ok (.iconst (-1), 1) := by decide +kernel
theorem dX8_init_12 : decode cX8_init 12 = .ok (.iastore, 1) := by decide +kernel
theorem dX8_init_13 : decode cX8_init 13 = .ok (.dup, 1) := by decide +kernel
theorem dX8_init_14 : decode cX8_init 14 = .ok (.iconst 1, 1) := by decide +kernel
theorem dX8_init_15 : decode cX8_init 15 = .ok (.iconst (-1), 1) := by decide +kernel
theorem dX8_init_16 : decode cX8_init 16 = .ok (.iastore, 1) := by decide +kernel
theorem dX8_init_17 : decode cX8_init 17 = .ok (.dup, 1) := by decide +kernel
theorem dX8_init_18 : decode cX8_init 18 = .ok (.iconst 2, 1) := by decide +kernel
theorem dX8_init_19 : decode cX8_init 19 = .ok (.iconst (-1), 1) := by decide +kernel
theorem dX8_init_20 : decode cX8_init 20 = .ok (.iastore, 1) := by decide +kernel
theorem dX8_init_21 : decode cX8_init 21 = .ok (.dup, 1) := by decide +kernel
theorem dX8_init_22 : decode cX8_init 22 = .ok (.iconst 3, 1) := by decide +kernel
theorem dX8_init_23 : decode cX8_init 23 = .ok (.iconst (-1), 1) := by decide +kernel
theorem dX8_init_24 : decode cX8_init 24 = .ok (.iastore, 1) := by decide +kernel
theorem dX8_init_25 : decode cX8_init 25 = .ok (.dup, 1) := by decide +kernel
theorem dX8_init_26 : decode cX8_init 26 = .ok (.iconst 4, 1) := by decide +kernel
theorem dX8_init_27 : decode cX8_init 27 = .ok (.iconst (-1), 1) := by decide +kernel
theorem dX8_init_28 : decode cX8_init 28 = .ok (.iastore, 1) := by decide +kernel
theorem dX8_init_29 : decode cX8_init 29 = .ok (.dup, 1) := by decide +kernel
theorem dX8_init_30 : decode cX8_init 30 = .ok (.iconst 5, 1) := by decide +kernel
theorem dX8_init_31 : decode cX8_init 31 = .ok (.iconst (-1), 1) := by decide +kernel
theorem dX8_init_32 : decode cX8_init 32 = .ok (.iastore, 1) := by decide +kernel
theorem dX8_init_33 : decode cX8_init 33 = .ok (.dup, 1) := by decide +kernel
theorem dX8_init_34 : decode cX8_init 34 = .ok (.bipush 6, 2) := by decide +kernel
theorem dX8_init_36 : decode cX8_init 36 = .ok (.iconst (-1), 1) := by decide +kernel
theorem dX8_init_37 : decode cX8_init 37 = .ok (.iastore, 1) := by decide +kernel
theorem dX8_init_38 : decode cX8_init 38 = .ok (.dup, 1) := by decide +kernel
theorem dX8_init_39 : decode cX8_init 39 = .ok (.bipush 7, 2) := by decide +kernel
theorem dX8_init_41 : decode cX8_init 41 = .ok (.iconst (-1), 1) := by decide +kernel
theorem dX8_init_42 : decode cX8_init 42 = .ok (.iastore, 1) := by decide +kernel
theorem dX8_init_43 : decode cX8_init 43 = .ok (.putfield 7, 3) := by decide +kernel
theorem dX8_init_46 : decode cX8_init 46 = .ok (.aload_n 0, 1) := by decide +kernel
theorem dX8_init_47 : decode cX8_init 47 = .ok (.bipush 8, 2) := by decide +kernel
theorem dX8_init_49 : decode cX8_init 49 = .ok (.newarray .int, 2) := by decide +kernel
theorem dX8_init_51 : decode cX8_init 51 = .ok (.putfield 13, 3) := by decide +kernel
theorem dX8_init_54 : decode cX8_init 54 = .ok (.aload_n 0, 1) := by decide +kernel
theorem dX8_init_55 : decode cX8_init 55 = .ok (.sipush 320, 3) := by decide +kernel
theorem dX8_init_58 : decode cX8_init 58 = .ok (.newarray .int, 2) := by decide +kernel
theorem dX8_init_60 : decode cX8_init 60 = .ok (.putfield 16, 3) := by decide +kernel
theorem dX8_init_63 : decode cX8_init 63 = .ok (.aload_n 0, 1) := by decide +kernel
theorem dX8_init_64 : decode cX8_init 64 = .ok (.bipush 34, 2) := by decide +kernel
theorem dX8_init_66 : decode cX8_init 66 = .ok (.newarray .int, 2) := by decide +kernel
theorem dX8_init_68 : decode cX8_init 68 = .ok (.putfield 19, 3) := by decide +kernel
theorem dX8_init_71 : decode cX8_init 71 = .ok (.aload_n 0, 1) := by decide +kernel
theorem dX8_init_72 : decode cX8_init 72 = .ok (.bipush 34, 2) := by decide +kernel
theorem dX8_init_74 : decode cX8_init 74 = .ok (.newarray .int, 2) := by decide +kernel
theorem dX8_init_76 : decode cX8_init 76 = .ok (.putfield 22, 3) := by decide +kernel
theorem dX8_init_79 : decode cX8_init 79 = .ok (.aload_n 0, 1) := by decide +kernel
theorem dX8_init_80 : decode cX8_init 80 = .ok (.bipush 34, 2) := by decide +kernel
theorem dX8_init_82 : decode cX8_init 82 = .ok (.newarray .int, 2) := by decide +kernel
theorem dX8_init_84 : decode cX8_init 84 = .ok (.putfield 25, 3) := by decide +kernel
theorem dX8_init_87 : decode cX8_init 87 = .ok (.aload_n 0, 1) := by decide +kernel
theorem dX8_init_88 : decode cX8_init 88 = .ok (.sipush 816, 3) := by decide +kernel
theorem dX8_init_91 : decode cX8_init 91 = .ok (.newarray .int, 2) := by decide +kernel
theorem dX8_init_93 : decode cX8_init 93 = .ok (.putfield 28, 3) := by decide +kernel
theorem dX8_init_96 : decode cX8_init 96 = .ok (.aload_n 0, 1) := by decide +kernel
theorem dX8_init_97 : decode cX8_init 97 = .ok (.bipush 120, 2) := by decide +kernel
theorem dX8_init_99 : decode cX8_init 99 = .ok (.newarray .int, 2) := by decide +kernel
theorem dX8_init_101 : decode cX8_init 101 = .ok (.putfield 31, 3) := by decide +kernel
theorem dX8_init_104 : decode cX8_init 104 = .ok (.aload_n 0, 1) := by decide +kernel
theorem dX8_init_105 : decode cX8_init 105 = .ok (.sipush 272, 3) := by decide +kernel
theorem dX8_init_108 : decode cX8_init 108 = .ok (.newarray .int, 2) := by decide +kernel
theorem dX8_init_110 : decode cX8_init 110 = .ok (.putfield 34, 3) := by decide +kernel
theorem dX8_init_113 : decode cX8_init 113 = .ok (.aload_n 0, 1) := by decide +kernel
theorem dX8_init_114 : decode cX8_init 114 = .ok (.bipush 8, 2) := by decide +kernel
theorem dX8_init_116 : decode cX8_init 116 = .ok (.newarray .int, 2) := by decide +kernel
theorem dX8_init_118 : decode cX8_init 118 = .ok (.putfield 37, 3) := by decide +kernel
theorem dX8_init_121 : decode cX8_init 121 = .ok (.aload_n 0, 1) := by decide +kernel
theorem dX8_init_122 : decode cX8_init 122 = .ok (.iconst 2, 1) := by decide +kernel
theorem dX8_init_123 : decode cX8_init 123 = .ok (.newarray .boolean, 2) := by decide +kernel
theorem dX8_init_125 : decode cX8_init 125 = .ok (.putfield 40, 3) := by decide +kernel
theorem dX8_init_128 : decode cX8_init 128 = .ok (.aload_n 0, 1) := by decide +kernel
theorem dX8_init_129 : decode cX8_init 129 = .ok (.bipush 68, 2) := by decide +kernel
theorem dX8_init_131 : decode cX8_init 131 = .ok (.newarray .int, 2) := by decide +kernel
theorem dX8_init_133 : decode cX8_init 133 = .ok (.putfield 44, 3) := by decide +kernel
theorem dX8_init_136 : decode cX8_init 136 = .ok (.aload_n 0, 1) := by decide +kernel
theorem dX8_init_137 : decode cX8_init 137 = .ok (.bipush 16, 2) := by decide +kernel
theorem dX8_init_139 : decode cX8_init 139 = .ok (.newarray .int, 2) := by decide +kernel
theorem dX8_init_141 : decode cX8_init 141 = .ok (.putfield 47, 3) := by decide +kernel
theorem dX8_init_144 : decode cX8_init 144 = .ok (.return_, 1) := by decide +kernel
theorem dX8_in_0 : decode cX8_in 0 = .ok (.lload_n 0, 1) := by decide +kernel
theorem dX8_in_1 : decode cX8_in 1 = .ok (.lload_n 2, 1) := by decide +kernel
theorem dX8_in_2 : decode cX8_in 2 = .ok (.lcmp, 1) := by decide +kernel
theorem dX8_in_3 : decode cX8_in 3 = .ok (.ifCond .lt 14, 3) := by decide +kernel
theorem dX8_in_6 : decode cX8_in 6 = .ok (.lload_n 0, 1) := by decide +kernel
theorem dX8_in_7 : decode cX8_in 7 = .ok (.lload 4, 2) := by decide +kernel
theorem dX8_in_9 : decode cX8_in 9 = .ok (.lcmp, 1) := by decide +kernel
theorem dX8_in_10 : decode cX8_in 10 = .ok (.ifCond .gt 7, 3) := by decide +kernel
theorem dX8_in_13 : decode cX8_in 13 = .ok (.iconst 1, 1) := by decide +kernel
theorem dX8_in_14 : decode cX8_in 14 = .ok (.goto 4, 3) := by decide +kernel
theorem dX8_in_17 : decode cX8_in 17 = .ok (.iconst 0, 1) := by decide +kernel
theorem dX8_in_18 : decode cX8_in 18 = .ok (.ireturn, 1) := by decide +kernel
theorem dX8_finding_0 : decode cX8_finding 0 = .ok (.aload_n 0, 1) := by decide +kernel
theorem dX8_finding_1 : decode cX8_finding 1 = .ok (.iload_n 1, 1) := by decide +kernel
theorem dX8_finding_2 : decode cX8_finding 2 = .ok (.putfield 54, 3) := by decide +kernel
theorem dX8_finding_5 : decode cX8_finding 5 = .ok (.ldc 57, 2) := by decide +kernel
theorem dX8_finding_7 : decode cX8_finding 7 = .ok (.iload_n 1, 1) := by decide +kernel
theorem dX8_finding_8 : decode cX8_finding 8 = .ok (.isub, 1) := by decide +kernel
theorem dX8_finding_9 : decode cX8_finding 9 = .ok (.ireturn, 1) := by decide +kernel
theorem dX8_isRow_0 : decode cX8_isRow 0 = .ok (.iload_n 0, 1) := by decide +kernel
theorem dX8_isRow_1 : decode cX8_isRow 1 = .ok (.i2l, 1) := by decide +kernel
theorem dX8_isRow_2 : decode cX8_isRow 2 = .ok (.lconst 0, 1) := by decide +kernel
theorem dX8_isRow_3 : decode cX8_isRow 3 = .ok (.ldc2_w 58, 3) := by decide +kernel
theorem dX8_isRow_6 : decode cX8_isRow 6 = .ok (.invokestatic 60, 3) := by decide +kernel
theorem dX8_isRow_9 : decode cX8_isRow 9 = .ok (.ireturn, 1) := by decide +kernel
theorem dX8_row_0 : decode cX8_row 0 = .ok (.aload_n 0, 1) := by decide +kernel
theorem dX8_row_1 : decode cX8_row 1 = .ok (.iconst 0, 1) := by decide +kernel
theorem dX8_row_2 : decode cX8_row 2 = .ok (.putfield 50, 3) := by decide +kernel
theorem dX8_row_5 : decode cX8_row 5 = .ok (.iload_n 1, 1) := by decide +kernel
theorem dX8_row_6 : decode cX8_row 6 = .ok (.invokestatic 64, 3) := by decide +kernel
theorem dX8_row_9 : decode cX8_row 9 = .ok (.ifCond .eq 21, 3) := by decide +kernel
theorem dX8_row_12 : decode cX8_row 12 = .ok (.iload_n 2, 1) := by decide +kernel
theorem dX8_row_13 : decode cX8_row 13 = .ok (.i2l, 1) := by decide +kernel
theorem dX8_row_14 : decode cX8_row 14 = .ok (.lconst 0, 1) := by decide +kernel
theorem dX8_row_15 : decode cX8_row 15 = .ok (.ldc2_w 68, 3) := by decide +kernel
theorem dX8_row_18 : decode cX8_row 18 = .ok (.invokestatic 60, 3) := by decide +kernel
theorem dX8_row_21 : decode cX8_row 21 = .ok (.ifCond .eq 9, 3) := by decide +kernel
theorem dX8_row_24 : decode cX8_row 24 = .ok (.iload_n 3, 1) := by decide +kernel
theorem dX8_row_25 : decode cX8_row 25 = .ok (.bipush 40, 2) := by decide +kernel
theorem dX8_row_27 : decode cX8_row 27 = .ok (.if_icmp .le 6, 3) := by decide +kernel
theorem dX8_row_30 : decode cX8_row 30 = .ok (.ldc 70, 2) := by decide +kernel
theorem dX8_row_32 : decode cX8_row 32 = .ok (.ireturn, 1) := by decide +kernel
theorem dX8_row_33 : decode cX8_row 33 = .ok (.aload_n 0, 1) := by decide +kernel
theorem dX8_row_34 : decode cX8_row 34 = .ok (.iconst 0, 1) := by decide +kernel
theorem dX8_row_35 : decode cX8_row 35 = .ok (.putfield 54, 3) := by decide +kernel
theorem dX8_row_38 : decode cX8_row 38 = .ok (.iload_n 3, 1) := by decide +kernel
theorem dX8_row_39 : decode cX8_row 39 = .ok (.ifCond .ge 9, 3) := by decide +kernel
theorem dX8_row_42 : decode cX8_row 42 = .ok (.aload_n 0, 1) := by decide +kernel
theorem dX8_row_43 : decode cX8_row 43 = .ok (.iconst 4, 1) := by decide +kernel
theorem dX8_row_44 : decode cX8_row 44 = .ok (.invokevirtual 71, 3) := by decide +kernel
theorem dX8_row_47 : decode cX8_row 47 = .ok (.ireturn, 1) := by decide +kernel
theorem dX8_row_48 : decode cX8_row 48 = .ok (.aload_n 0, 1) := by decide +kernel
theorem dX8_row_49 : decode cX8_row 49 = .ok (.getfield 7, 3) := by decide +kernel
theorem dX8_row_52 : decode cX8_row 52 = .ok (.iload_n 1, 1) := by decide +kernel
theorem dX8_row_53 : decode cX8_row 53 = .ok (.iload_n 2, 1) := by decide +kernel
theorem dX8_row_54 : decode cX8_row 54 = .ok (.iastore, 1) := by decide +kernel
theorem dX8_row_55 : decode cX8_row 55 = .ok (.aload_n 0, 1) := by decide +kernel
theorem dX8_row_56 : decode cX8_row 56 = .ok (.getfield 13, 3) := by decide +kernel
theorem dX8_row_59 : decode cX8_row 59 = .ok (.iload_n 1, 1) := by decide +kernel
theorem dX8_row_60 : decode cX8_row 60 = .ok (.iload_n 3, 1) := by decide +kernel
theorem dX8_row_61 : decode cX8_row 61 = .ok (.iastore, 1) := by decide +kernel
theorem dX8_row_62 : decode cX8_row 62 = .ok (.iconst 0, 1) := by decide +kernel
theorem dX8_row_63 : decode cX8_row 63 = .ok (.istore 4, 2) := by decide +kernel
theorem dX8_row_65 : decode cX8_row 65 = .ok (.iload 4, 2) := by decide +kernel
theorem dX8_row_67 : decode cX8_row 67 = .ok (.bipush 40, 2) := by decide +kernel
theorem dX8_row_69 : decode cX8_row 69 = .ok (.if_icmp .ge 22, 3) := by decide +kernel
theorem dX8_row_72 : decode cX8_row 72 = .ok (.aload_n 0, 1) := by decide +kernel
theorem dX8_row_73 : decode cX8_row 73 = .ok (.getfield 16, 3) := by decide +kernel
theorem dX8_row_76 : decode cX8_row 76 = .ok (.bipush 40, 2) := by decide +kernel
theorem dX8_row_78 : decode cX8_row 78 = .ok (.iload_n 1, 1) := by decide +kernel
theorem dX8_row_79 : decode cX8_row 79 = .ok (.imul, 1) := by decide +kernel
theorem dX8_row_80 : decode cX8_row 80 = .ok (.iload 4, 2) := by decide +kernel
theorem dX8_row_82 : decode cX8_row 82 = .ok (.iadd, 1) := by decide +kernel
theorem dX8_row_83 : decode cX8_row 83 = .ok (.iconst 0, 1) := by decide +kernel
theorem dX8_row_84 : decode cX8_row 84 = .ok (.iastore, 1) := by decide +kernel
theorem dX8_row_85 : decode cX8_row 85 = .ok (.iinc 4 1, 3) := by decide +kernel
theorem dX8_row_88 : decode cX8_row 88 = .ok (.goto (-23), 3) := by decide +kernel
theorem dX8_row_91 : decode cX8_row 91 = .ok (.iload_n 3, 1) := by decide +kernel
theorem dX8_row_92 : decode cX8_row 92 = .ok (.ireturn, 1) := by decide +kernel
theorem dX8_set_0 : decode cX8_set 0 = .ok (.aload_n 0, 1) := by decide +kernel
theorem dX8_set_1 : decode cX8_set 1 = .ok (.iconst 0, 1) := by decide +kernel
theorem dX8_set_2 : decode cX8_set 2 = .ok (.putfield 50, 3) := by decide +kernel
theorem dX8_set_5 : decode cX8_set 5 = .ok (.iload_n 1, 1) := by decide +kernel
theorem dX8_set_6 : decode cX8_set 6 = .ok (.invokestatic 64, 3) := by decide +kernel
theorem dX8_set_9 : decode cX8_set 9 = .ok (.ifCond .ne 6, 3) := by decide +kernel
theorem dX8_set_12 : decode cX8_set 12 = .ok (.ldc 70, 2) := by decide +kernel
theorem dX8_set_14 : decode cX8_set 14 = .ok (.ireturn, 1) := by decide +kernel
theorem dX8_set_15 : decode cX8_set 15 = .ok (.aload_n 0, 1) := by decide +kernel
theorem dX8_set_16 : decode cX8_set 16 = .ok (.iconst 0, 1) := by decide +kernel
theorem dX8_set_17 : decode cX8_set 17 = .ok (.putfield 54, 3) := by decide +kernel
theorem dX8_set_20 : decode cX8_set 20 = .ok (.aload_n 0, 1) := by decide +kernel
theorem dX8_set_21 : decode cX8_set 21 = .ok (.getfield 7, 3) := by decide +kernel
theorem dX8_set_24 : decode cX8_set 24 = .ok (.iload_n 1, 1) := by decide +kernel
theorem dX8_set_25 : decode cX8_set 25 = .ok (.iaload, 1) := by decide +kernel
theorem dX8_set_26 : decode cX8_set 26 = .ok (.ifCond .ge 9, 3) := by decide +kernel
theorem dX8_set_29 : decode cX8_set 29 = .ok (.aload_n 0, 1) := by decide +kernel
theorem dX8_set_30 : decode cX8_set 30 = .ok (.iconst 1, 1) := by decide +kernel
theorem dX8_set_31 : decode cX8_set 31 = .ok (.invokevirtual 71, 3) := by decide +kernel
theorem dX8_set_34 : decode cX8_set 34 = .ok (.ireturn, 1) := by decide +kernel
theorem dX8_set_35 : decode cX8_set 35 = .ok (.iload_n 2, 1) := by decide +kernel
theorem dX8_set_36 : decode cX8_set 36 = .ok (.i2l, 1) := by decide +kernel
theorem dX8_set_37 : decode cX8_set 37 = .ok (.lconst 0, 1) := by decide +kernel
theorem dX8_set_38 : decode cX8_set 38 = .ok (.aload_n 0, 1) := by decide +kernel
theorem dX8_set_39 : decode cX8_set 39 = .ok (.getfield 13, 3) := by decide +kernel
theorem dX8_set_42 : decode cX8_set 42 = .ok (.iload_n 1, 1) := by decide +kernel
theorem dX8_set_43 : decode cX8_set 43 = .ok (.iaload, 1) := by decide +kernel
theorem dX8_set_44 : decode cX8_set 44 = .ok (.iconst 1, 1) := by decide +kernel
theorem dX8_set_45 : decode cX8_set 45 = .ok (.isub, 1) := by decide +kernel
theorem dX8_set_46 : decode cX8_set 46 = .ok (.i2l, 1) := by decide +kernel
theorem dX8_set_47 : decode cX8_set 47 = .ok (.invokestatic 60, 3) := by decide +kernel
theorem dX8_set_50 : decode cX8_set 50 = .ok (.ifCond .ne 9, 3) := by decide +kernel
theorem dX8_set_53 : decode cX8_set 53 = .ok (.aload_n 0, 1) := by decide +kernel
theorem dX8_set_54 : decode cX8_set 54 = .ok (.iconst 2, 1) := by decide +kernel
theorem dX8_set_55 : decode cX8_set 55 = .ok (.invokevirtual 71, 3) := by decide +kernel
theorem dX8_set_58 : decode cX8_set 58 = .ok (.ireturn, 1) := by decide +kernel
theorem dX8_set_59 : decode cX8_set 59 = .ok (.aload_n 0, 1) := by decide +kernel
theorem dX8_set_60 : decode cX8_set 60 = .ok (.getfield 16, 3) := by decide +kernel
theorem dX8_set_63 : decode cX8_set 63 = .ok (.bipush 40, 2) := by decide +kernel
theorem dX8_set_65 : decode cX8_set 65 = .ok (.iload_n 1, 1) := by decide +kernel
theorem dX8_set_66 : decode cX8_set 66 = .ok (.imul, 1) := by decide +kernel
theorem dX8_set_67 : decode cX8_set 67 = .ok (.iload_n 2, 1) := by decide +kernel
theorem dX8_set_68 : decode cX8_set 68 = .ok (.iadd, 1) := by decide +kernel
theorem dX8_set_69 : decode cX8_set 69 = .ok (.aload_n 0, 1) := by decide +kernel
theorem dX8_set_70 : decode cX8_set 70 = .ok (.getfield 7, 3) := by decide +kernel
theorem dX8_set_73 : decode cX8_set 73 = .ok (.iload_n 1, 1) := by decide +kernel
theorem dX8_set_74 : decode cX8_set 74 = .ok (.iaload, 1) := by decide +kernel
theorem dX8_set_75 : decode cX8_set 75 = .ok (.ifCond .ne 8, 3) := by decide +kernel
theorem dX8_set_78 : decode cX8_set 78 = .ok (.iload_n 3, 1) := by decide +kernel
theorem dX8_set_79 : decode cX8_set 79 = .ok (.i2b, 1) := by decide +kernel
theorem dX8_set_80 : decode cX8_set 80 = .ok (.goto 19, 3) := by decide +kernel
theorem dX8_set_83 : decode cX8_set 83 = .ok (.aload_n 0, 1) := by decide +kernel
theorem dX8_set_84 : decode cX8_set 84 = .ok (.getfield 7, 3) := by decide +kernel
theorem dX8_set_87 : decode cX8_set 87 = .ok (.iload_n 1, 1) := by decide +kernel
theorem dX8_set_88 : decode cX8_set 88 = .ok (.iaload, 1) := by decide +kernel
theorem dX8_set_89 : decode cX8_set 89 = .ok (.iconst 1, 1) := by decide +kernel
theorem dX8_set_90 : decode cX8_set 90 = .ok (.if_icmp .ne 8, 3) := by decide +kernel
theorem dX8_set_93 : decode cX8_set 93 = .ok (.iload_n 3, 1) := by decide +kernel
theorem dX8_set_94 : decode cX8_set 94 = .ok (.i2s, 1) := by decide +kernel
theorem dX8_set_95 : decode cX8_set 95 = .ok (.goto 4, 3) := by decide +kernel
theorem dX8_set_98 : decode cX8_set 98 = .ok (.iload_n 3, 1) := by decide +kernel
theorem dX8_set_99 : decode cX8_set 99 = .ok (.iastore, 1) := by decide +kernel
theorem dX8_set_100 : decode cX8_set 100 = .ok (.aload_n 0, 1) := by decide +kernel
theorem dX8_set_101 : decode cX8_set 101 = .ok (.getfield 16, 3) := by decide +kernel
theorem dX8_set_104 : decode cX8_set 104 = .ok (.bipush 40, 2) := by decide +kernel
theorem dX8_set_106 : decode cX8_set 106 = .ok (.iload_n 1, 1) := by decide +kernel
theorem dX8_set_107 : decode cX8_set 107 = .ok (.imul, 1) := by decide +kernel
theorem dX8_set_108 : decode cX8_set 108 = .ok (.iload_n 2, 1) := by decide +kernel
theorem dX8_set_109 : decode cX8_set 109 = .ok (.iadd, 1) := by decide +kernel
theorem dX8_set_110 : decode cX8_set 110 = .ok (.iaload, 1) := by decide +kernel
theorem dX8_set_111 : decode cX8_set 111 = .ok (.ireturn, 1) := by decide +kernel
theorem dX8_copy_0 : decode cX8_copy 0 = .ok (.aload_n 0, 1) := by decide +kernel
theorem dX8_copy_1 : decode cX8_copy 1 = .ok (.iconst 0, 1) := by decide +kernel
theorem dX8_copy_2 : decode cX8_copy 2 = .ok (.putfield 50, 3) := by decide +kernel
theorem dX8_copy_5 : decode cX8_copy 5 = .ok (.iload_n 1, 1) := by decide +kernel
theorem dX8_copy_6 : decode cX8_copy 6 = .ok (.invokestatic 64, 3) := by decide +kernel
theorem dX8_copy_9 : decode cX8_copy 9 = .ok (.ifCond .eq 10, 3) := by decide +kernel
theorem dX8_copy_12 : decode cX8_copy 12 = .ok (.iload_n 3, 1) := by decide +kernel
theorem dX8_copy_13 : decode cX8_copy 13 = .ok (.invokestatic 64, 3) := by decide +kernel
theorem dX8_copy_16 : decode cX8_copy 16 = .ok (.ifCond .ne 6, 3) := by decide +kernel
theorem dX8_copy_19 : decode cX8_copy 19 = .ok (.ldc 70, 2) := by decide +kernel
theorem dX8_copy_21 : decode cX8_copy 21 = .ok (.ireturn, 1) := by decide +kernel
theorem dX8_copy_22 : decode cX8_copy 22 = .ok (.aload_n 0, 1) := by decide +kernel
theorem dX8_copy_23 : decode cX8_copy 23 = .ok (.iconst 0, 1) := by decide +kernel
theorem dX8_copy_24 : decode cX8_copy 24 = .ok (.putfield 54, 3) := by decide +kernel
theorem dX8_copy_27 : decode cX8_copy 27 = .ok (.aload_n 0, 1) := by decide +kernel
theorem dX8_copy_28 : decode cX8_copy 28 = .ok (.getfield 7, 3) := by decide +kernel
theorem dX8_copy_31 : decode cX8_copy 31 = .ok (.iload_n 1, 1) := by decide +kernel
theorem dX8_copy_32 : decode cX8_copy 32 = .ok (.iaload, 1) := by decide +kernel
theorem dX8_copy_33 : decode cX8_copy 33 = .ok (.ifCond .lt 12, 3) := by decide +kernel
theorem dX8_copy_36 : decode cX8_copy 36 = .ok (.aload_n 0, 1) := by decide +kernel
theorem dX8_copy_37 : decode cX8_copy 37 = .ok (.getfield 7, 3) := by decide +kernel
theorem dX8_copy_40 : decode cX8_copy 40 = .ok (.iload_n 3, 1) := by decide +kernel
theorem dX8_copy_41 : decode cX8_copy 41 = .ok (.iaload, 1) := by decide +kernel
theorem dX8_copy_42 : decode cX8_copy 42 = .ok (.ifCond .ge 9, 3) := by decide +kernel
theorem dX8_copy_45 : decode cX8_copy 45 = .ok (.aload_n 0, 1) := by decide +kernel
theorem dX8_copy_46 : decode cX8_copy 46 = .ok (.iconst 1, 1) := by decide +kernel
theorem dX8_copy_47 : decode cX8_copy 47 = .ok (.invokevirtual 71, 3) := by decide +kernel
theorem dX8_copy_50 : decode cX8_copy 50 = .ok (.ireturn, 1) := by decide +kernel
theorem dX8_copy_51 : decode cX8_copy 51 = .ok (.aload_n 0, 1) := by decide +kernel
theorem dX8_copy_52 : decode cX8_copy 52 = .ok (.getfield 7, 3) := by decide +kernel
theorem dX8_copy_55 : decode cX8_copy 55 = .ok (.iload_n 1, 1) := by decide +kernel
theorem dX8_copy_56 : decode cX8_copy 56 = .ok (.iaload, 1) := by decide +kernel
theorem dX8_copy_57 : decode cX8_copy 57 = .ok (.aload_n 0, 1) := by decide +kernel
theorem dX8_copy_58 : decode cX8_copy 58 = .ok (.getfield 7, 3) := by decide +kernel
theorem dX8_copy_61 : decode cX8_copy 61 = .ok (.iload_n 3, 1) := by decide +kernel
theorem dX8_copy_62 : decode cX8_copy 62 = .ok (.iaload, 1) := by decide +kernel
theorem dX8_copy_63 : decode cX8_copy 63 = .ok (.if_icmp .eq 9, 3) := by decide +kernel
theorem dX8_copy_66 : decode cX8_copy 66 = .ok (.aload_n 0, 1) := by decide +kernel
theorem dX8_copy_67 : decode cX8_copy 67 = .ok (.iconst 5, 1) := by decide +kernel
theorem dX8_copy_68 : decode cX8_copy 68 = .ok (.invokevirtual 71, 3) := by decide +kernel
theorem dX8_copy_71 : decode cX8_copy 71 = .ok (.ireturn, 1) := by decide +kernel
theorem dX8_copy_72 : decode cX8_copy 72 = .ok (.iload_n 2, 1) := by decide +kernel
theorem dX8_copy_73 : decode cX8_copy 73 = .ok (.ifCond .lt 48, 3) := by decide +kernel
theorem dX8_copy_76 : decode cX8_copy 76 = .ok (.iload 4, 2) := by decide +kernel
theorem dX8_copy_78 : decode cX8_copy 78 = .ok (.ifCond .lt 43, 3) := by decide +kernel
theorem dX8_copy_81 : decode cX8_copy 81 = .ok (.iload 5, 2) := by decide +kernel
theorem dX8_copy_83 : decode cX8_copy 83 = .ok (.ifCond .lt 38, 3) := by decide +kernel
theorem dX8_copy_86 : decode cX8_copy 86 = .ok (.iload_n 2, 1) := by decide +kernel
theorem dX8_copy_87 : decode cX8_copy 87 = .ok (.i2l, 1) := by decide +kernel
theorem dX8_copy_88 : decode cX8_copy 88 = .ok (.iload 5, 2) := by decide +kernel
theorem dX8_copy_90 : decode cX8_copy 90 = .ok (.i2l, 1) := by decide +kernel
theorem dX8_copy_91 : decode cX8_copy 91 = .ok (.ladd, 1) := by decide +kernel
theorem dX8_copy_92 : decode cX8_copy 92 = .ok (.aload_n 0, 1) := by decide +kernel
theorem dX8_copy_93 : decode cX8_copy 93 = .ok (.getfield 13, 3) := by decide +kernel
theorem dX8_copy_96 : decode cX8_copy 96 = .ok (.iload_n 1, 1) := by decide +kernel
theorem dX8_copy_97 : decode cX8_copy 97 = .ok (.iaload, 1) := by decide +kernel
theorem dX8_copy_98 : decode cX8_copy 98 = .ok (.i2l, 1) := by decide +kernel
theorem dX8_copy_99 : decode cX8_copy 99 = .ok (.lcmp, 1) := by decide +kernel
theorem dX8_copy_100 : decode cX8_copy 100 = .ok (.ifCond .gt 21, 3) := by decide +kernel
theorem dX8_copy_103 : decode cX8_copy 103 = .ok (.iload 4, 2) := by decide +kernel
theorem dX8_copy_105 : decode cX8_copy 105 = .ok (.i2l, 1) := by decide +kernel
theorem dX8_copy_106 : decode cX8_copy 106 = .ok (.iload 5, 2) := by decide +kernel
theorem dX8_copy_108 : decode cX8_copy 108 = .ok (.i2l, 1) := by decide +kernel
theorem dX8_copy_109 : decode cX8_copy 109 = .ok (.ladd, 1) := by decide +kernel
theorem dX8_copy_110 : decode cX8_copy 110 = .ok (.aload_n 0, 1) := by decide +kernel
theorem dX8_copy_111 : decode cX8_copy 111 = .ok (.getfield 13, 3) := by decide +kernel
theorem dX8_copy_114 : decode cX8_copy 114 = .ok (.iload_n 3, 1) := by decide +kernel
theorem dX8_copy_115 : decode cX8_copy 115 = .ok (.iaload, 1) := by decide +kernel
theorem dX8_copy_116 : decode cX8_copy 116 = .ok (.i2l, 1) := by decide +kernel
theorem dX8_copy_117 : decode cX8_copy 117 = .ok (.lcmp, 1) := by decide +kernel
theorem dX8_copy_118 : decode cX8_copy 118 = .ok (.ifCond .le 9, 3) := by decide +kernel
theorem dX8_copy_121 : decode cX8_copy 121 = .ok (.aload_n 0, 1) := by decide +kernel
theorem dX8_copy_122 : decode cX8_copy 122 = .ok (.iconst 2, 1) := by decide +kernel
theorem dX8_copy_123 : decode cX8_copy 123 = .ok (.invokevirtual 71, 3) := by decide +kernel
theorem dX8_copy_126 : decode cX8_copy 126 = .ok (.ireturn, 1) := by decide +kernel
theorem dX8_copy_127 : decode cX8_copy 127 = .ok (.iload_n 2, 1) := by decide +kernel
theorem dX8_copy_128 : decode cX8_copy 128 = .ok (.iload 4, 2) := by decide +kernel
theorem dX8_copy_130 : decode cX8_copy 130 = .ok (.if_icmp .lt 7, 3) := by decide +kernel
theorem dX8_copy_133 : decode cX8_copy 133 = .ok (.iconst 1, 1) := by decide +kernel
theorem dX8_copy_134 : decode cX8_copy 134 = .ok (.goto 4, 3) := by decide +kernel
theorem dX8_copy_137 : decode cX8_copy 137 = .ok (.iconst 0, 1) := by decide +kernel
theorem dX8_copy_138 : decode cX8_copy 138 = .ok (.istore 6, 2) := by decide +kernel
theorem dX8_copy_140 : decode cX8_copy 140 = .ok (.iconst 0, 1) := by decide +kernel
theorem dX8_copy_141 : decode cX8_copy 141 = .ok (.istore 7, 2) := by decide +kernel
theorem dX8_copy_143 : decode cX8_copy 143 = .ok (.iload 7, 2) := by decide +kernel
theorem dX8_copy_145 : decode cX8_copy 145 = .ok (.iload 5, 2) := by decide +kernel
theorem dX8_copy_147 : decode cX8_copy 147 = .ok (.if_icmp .ge 57, 3) := by decide +kernel
theorem dX8_copy_150 : decode cX8_copy 150 = .ok (.iload 6, 2) := by decide +kernel
theorem dX8_copy_152 : decode cX8_copy 152 = .ok (.ifCond .eq 8, 3) := by decide +kernel
theorem dX8_copy_155 : decode cX8_copy 155 = .ok (.iload 7, 2) := by decide +kernel
theorem dX8_copy_157 : decode cX8_copy 157 = .ok (.goto 10, 3) := by decide +kernel
theorem dX8_copy_160 : decode cX8_copy 160 = .ok (.iload 5, 2) := by decide +kernel
theorem dX8_copy_162 : decode cX8_copy 162 = .ok (.iconst 1, 1) := by decide +kernel
theorem dX8_copy_163 : decode cX8_copy 163 = .ok (.isub, 1) := by decide +kernel
theorem dX8_copy_164 : decode cX8_copy 164 = .ok (.iload 7, 2) := by decide +kernel
theorem dX8_copy_166 : decode cX8_copy 166 = .ok (.isub, 1) := by decide +kernel
theorem dX8_copy_167 : decode cX8_copy 167 = .ok (.istore 8, 2) := by decide +kernel
theorem dX8_copy_169 : decode cX8_copy 169 = .ok (.aload_n 0, 1) := by decide +kernel
theorem dX8_copy_170 : decode cX8_copy 170 = .ok (.getfield 16, 3) := by decide +kernel
theorem dX8_copy_173 : decode cX8_copy 173 = .ok (.bipush 40, 2) := by decide +kernel
theorem dX8_copy_175 : decode cX8_copy 175 = .ok (.iload_n 3, 1) := by decide +kernel
theorem dX8_copy_176 : decode cX8_copy 176 = .ok (.imul, 1) := by decide +kernel
theorem dX8_copy_177 : decode cX8_copy 177 = .ok (.iload 4, 2) := by decide +kernel
theorem dX8_copy_179 : decode cX8_copy 179 = .ok (.iadd, 1) := by decide +kernel
theorem dX8_copy_180 : decode cX8_copy 180 = .ok (.iload 8, 2) := by decide +kernel
theorem dX8_copy_182 : decode cX8_copy 182 = .ok (.iadd, 1) := by decide +kernel
theorem dX8_copy_183 : decode cX8_copy 183 = .ok (.aload_n 0, 1) := by decide +kernel
theorem dX8_copy_184 : decode cX8_copy 184 = .ok (.getfield 16, 3) := by decide +kernel
theorem dX8_copy_187 : decode cX8_copy 187 = .ok (.bipush 40, 2) := by decide +kernel
theorem dX8_copy_189 : decode cX8_copy 189 = .ok (.iload_n 1, 1) := by decide +kernel
theorem dX8_copy_190 : decode cX8_copy 190 = .ok (.imul, 1) := by decide +kernel
theorem dX8_copy_191 : decode cX8_copy 191 = .ok (.iload_n 2, 1) := by decide +kernel
theorem dX8_copy_192 : decode cX8_copy 192 = .ok (.iadd, 1) := by decide +kernel
theorem dX8_copy_193 : decode cX8_copy 193 = .ok (.iload 8, 2) := by decide +kernel
theorem dX8_copy_195 : decode cX8_copy 195 = .ok (.iadd, 1) := by decide +kernel
theorem dX8_copy_196 : decode cX8_copy 196 = .ok (.iaload, 1) := by decide +kernel
theorem dX8_copy_197 : decode cX8_copy 197 = .ok (.iastore, 1) := by decide +kernel
theorem dX8_copy_198 : decode cX8_copy 198 = .ok (.iinc 7 1, 3) := by decide +kernel
theorem dX8_copy_201 : decode cX8_copy 201 = .ok (.goto (-58), 3) := by decide +kernel
theorem dX8_copy_204 : decode cX8_copy 204 = .ok (.iload 5, 2) := by decide +kernel
theorem dX8_copy_206 : decode cX8_copy 206 = .ok (.ireturn, 1) := by decide +kernel
theorem dX8_drop_0 : decode cX8_drop 0 = .ok (.aload_n 0, 1) := by decide +kernel
theorem dX8_drop_1 : decode cX8_drop 1 = .ok (.iconst 0, 1) := by decide +kernel
theorem dX8_drop_2 : decode cX8_drop 2 = .ok (.putfield 50, 3) := by decide +kernel
theorem dX8_drop_5 : decode cX8_drop 5 = .ok (.iload_n 1, 1) := by decide +kernel
theorem dX8_drop_6 : decode cX8_drop 6 = .ok (.invokestatic 64, 3) := by decide +kernel
theorem dX8_drop_9 : decode cX8_drop 9 = .ok (.ifCond .ne 6, 3) := by decide +kernel
theorem dX8_drop_12 : decode cX8_drop 12 = .ok (.ldc 70, 2) := by decide +kernel
theorem dX8_drop_14 : decode cX8_drop 14 = .ok (.ireturn, 1) := by decide +kernel
theorem dX8_drop_15 : decode cX8_drop 15 = .ok (.aload_n 0, 1) := by decide +kernel
theorem dX8_drop_16 : decode cX8_drop 16 = .ok (.iconst 0, 1) := by decide +kernel
theorem dX8_drop_17 : decode cX8_drop 17 = .ok (.putfield 54, 3) := by decide +kernel
theorem dX8_drop_20 : decode cX8_drop 20 = .ok (.aload_n 0, 1) := by decide +kernel
theorem dX8_drop_21 : decode cX8_drop 21 = .ok (.getfield 7, 3) := by decide +kernel
theorem dX8_drop_24 : decode cX8_drop 24 = .ok (.iload_n 1, 1) := by decide +kernel
theorem dX8_drop_25 : decode cX8_drop 25 = .ok (.iaload, 1) := by decide +kernel
theorem dX8_drop_26 : decode cX8_drop 26 = .ok (.ifCond .ge 9, 3) := by decide +kernel
theorem dX8_drop_29 : decode cX8_drop 29 = .ok (.aload_n 0, 1) := by decide +kernel
theorem dX8_drop_30 : decode cX8_drop 30 = .ok (.iconst 1, 1) := by decide +kernel
theorem dX8_drop_31 : decode cX8_drop 31 = .ok (.invokevirtual 71, 3) := by decide +kernel
theorem dX8_drop_34 : decode cX8_drop 34 = .ok (.ireturn, 1) := by decide +kernel
theorem dX8_drop_35 : decode cX8_drop 35 = .ok (.aload_n 0, 1) := by decide +kernel
theorem dX8_drop_36 : decode cX8_drop 36 = .ok (.getfield 7, 3) := by decide +kernel
theorem dX8_drop_39 : decode cX8_drop 39 = .ok (.iload_n 1, 1) := by decide +kernel
theorem dX8_drop_40 : decode cX8_drop 40 = .ok (.iconst (-1), 1) := by decide +kernel
theorem dX8_drop_41 : decode cX8_drop 41 = .ok (.iastore, 1) := by decide +kernel
theorem dX8_drop_42 : decode cX8_drop 42 = .ok (.aload_n 0, 1) := by decide +kernel
theorem dX8_drop_43 : decode cX8_drop 43 = .ok (.getfield 13, 3) := by decide +kernel
theorem dX8_drop_46 : decode cX8_drop 46 = .ok (.iload_n 1, 1) := by decide +kernel
theorem dX8_drop_47 : decode cX8_drop 47 = .ok (.iaload, 1) := by decide +kernel
theorem dX8_drop_48 : decode cX8_drop 48 = .ok (.ireturn, 1) := by decide +kernel
theorem dX8_feed_0 : decode cX8_feed 0 = .ok (.aload_n 0, 1) := by decide +kernel
theorem dX8_feed_1 : decode cX8_feed 1 = .ok (.iconst 0, 1) := by decide +kernel
theorem dX8_feed_2 : decode cX8_feed 2 = .ok (.putfield 50, 3) := by decide +kernel
theorem dX8_feed_5 : decode cX8_feed 5 = .ok (.iload_n 1, 1) := by decide +kernel
theorem dX8_feed_6 : decode cX8_feed 6 = .ok (.i2l, 1) := by decide +kernel
theorem dX8_feed_7 : decode cX8_feed 7 = .ok (.lconst 0, 1) := by decide +kernel
theorem dX8_feed_8 : decode cX8_feed 8 = .ok (.ldc2_w 75, 3) := by decide +kernel
theorem dX8_feed_11 : decode cX8_feed 11 = .ok (.invokestatic 60, 3) := by decide +kernel
theorem dX8_feed_14 : decode cX8_feed 14 = .ok (.ifCond .ne 6, 3) := by decide +kernel
theorem dX8_feed_17 : decode cX8_feed 17 = .ok (.ldc 70, 2) := by decide +kernel
theorem dX8_feed_19 : decode cX8_feed 19 = .ok (.ireturn, 1) := by decide +kernel
theorem dX8_feed_20 : decode cX8_feed 20 = .ok (.aload_n 0, 1) := by decide +kernel
theorem dX8_feed_21 : decode cX8_feed 21 = .ok (.getfield 77, 3) := by decide +kernel
theorem dX8_feed_24 : decode cX8_feed 24 = .ok (.bipush 120, 2) := by decide +kernel
theorem dX8_feed_26 : decode cX8_feed 26 = .ok (.if_icmp .ne 6, 3) := by decide +kernel
theorem dX8_feed_29 : decode cX8_feed 29 = .ok (.ldc 80, 2) := by decide +kernel
theorem dX8_feed_31 : decode cX8_feed 31 = .ok (.ireturn, 1) := by decide +kernel
theorem dX8_feed_32 : decode cX8_feed 32 = .ok (.aload_n 0, 1) := by decide +kernel
theorem dX8_feed_33 : decode cX8_feed 33 = .ok (.getfield 31, 3) := by decide +kernel
theorem dX8_feed_36 : decode cX8_feed 36 = .ok (.aload_n 0, 1) := by decide +kernel
theorem dX8_feed_37 : decode cX8_feed 37 = .ok (.getfield 77, 3) := by decide +kernel
theorem dX8_feed_40 : decode cX8_feed 40 = .ok (.iload_n 1, 1) := by decide +kernel
theorem dX8_feed_41 : decode cX8_feed 41 = .ok (.iastore, 1) := by decide +kernel
theorem dX8_feed_42 : decode cX8_feed 42 = .ok (.aload_n 0, 1) := by decide +kernel
theorem dX8_feed_43 : decode cX8_feed 43 = .ok (.dup, 1) := by decide +kernel
theorem dX8_feed_44 : decode cX8_feed 44 = .ok (.getfield 77, 3) := by decide +kernel
theorem dX8_feed_47 : decode cX8_feed 47 = .ok (.iconst 1, 1) := by decide +kernel
theorem dX8_feed_48 : decode cX8_feed 48 = .ok (.iadd, 1) := by decide +kernel
theorem dX8_feed_49 : decode cX8_feed 49 = .ok (.putfield 77, 3) := by decide +kernel
theorem dX8_feed_52 : decode cX8_feed 52 = .ok (.aload_n 0, 1) := by decide +kernel
theorem dX8_feed_53 : decode cX8_feed 53 = .ok (.getfield 77, 3) := by decide +kernel
theorem dX8_feed_56 : decode cX8_feed 56 = .ok (.ireturn, 1) := by decide +kernel
theorem dX8_bad_0 : decode cX8_bad 0 = .ok (.aload_n 0, 1) := by decide +kernel
theorem dX8_bad_1 : decode cX8_bad 1 = .ok (.getfield 81, 3) := by decide +kernel
theorem dX8_bad_4 : decode cX8_bad 4 = .ok (.ifCond .ne 16, 3) := by decide +kernel
theorem dX8_bad_7 : decode cX8_bad 7 = .ok (.aload_n 0, 1) := by decide +kernel
theorem dX8_bad_8 : decode cX8_bad 8 = .ok (.iload_n 1, 1) := by decide +kernel
theorem dX8_bad_9 : decode cX8_bad 9 = .ok (.putfield 81, 3) := by decide +kernel
theorem dX8_bad_12 : decode cX8_bad 12 = .ok (.aload_n 0, 1) := by decide +kernel
theorem dX8_bad_13 : decode cX8_bad 13 = .ok (.aload_n 0, 1) := by decide +kernel
theorem dX8_bad_14 : decode cX8_bad 14 = .ok (.getfield 84, 3) := by decide +kernel
theorem dX8_bad_17 : decode cX8_bad 17 = .ok (.putfield 87, 3) := by decide +kernel
theorem dX8_bad_20 : decode cX8_bad 20 = .ok (.return_, 1) := by decide +kernel
theorem dX8_nextToken_0 : decode cX8_nextToken 0 = .ok (.aload_n 0, 1) := by decide +kernel
theorem dX8_nextToken_1 : decode cX8_nextToken 1 = .ok (.aload_n 0, 1) := by decide +kernel
theorem dX8_nextToken_2 : decode cX8_nextToken 2 = .ok (.getfield 90, 3) := by decide +kernel
theorem dX8_nextToken_5 : decode cX8_nextToken 5 = .ok (.putfield 84, 3) := by decide +kernel
theorem dX8_nextToken_8 : decode cX8_nextToken 8 = .ok (.aload_n 0, 1) := by decide +kernel
theorem dX8_nextToken_9 : decode cX8_nextToken 9 = .ok (.aload_n 0, 1) := by decide +kernel
theorem dX8_nextToken_10 : decode cX8_nextToken 10 = .ok (.getfield 90, 3) := by decide +kernel
theorem dX8_nextToken_13 : decode cX8_nextToken 13 = .ok (.aload_n 0, 1) := by decide +kernel
theorem dX8_nextToken_14 : decode cX8_nextToken 14 = .ok (.getfield 77, 3) := by decide +kernel
theorem dX8_nextToken_17 : decode cX8_nextToken 17 = .ok (.if_icmp .ge 15, 3) := by decide +kernel
theorem dX8_nextToken_20 : decode cX8_nextToken 20 = .ok (.aload_n 0, 1) := by decide +kernel
theorem dX8_nextToken_21 : decode cX8_nextToken 21 = .ok (.getfield 31, 3) := by decide +kernel
theorem dX8_nextToken_24 : decode cX8_nextToken 24 = .ok (.aload_n 0, 1) := by decide +kernel
theorem dX8_nextToken_25 : decode cX8_nextToken 25 = .ok (.getfield 90, 3) := by decide +kernel
theorem dX8_nextToken_28 : decode cX8_nextToken 28 = .ok (.iaload, 1) := by decide +kernel
theorem dX8_nextToken_29 : decode cX8_nextToken 29 = .ok (.goto 5, 3) := by decide +kernel
theorem dX8_nextToken_32 : decode cX8_nextToken 32 = .ok (.ldc 93, 2) := by decide +kernel
theorem dX8_nextToken_34 : decode cX8_nextToken 34 = .ok (.putfield 94, 3) := by decide +kernel
theorem dX8_nextToken_37 : decode cX8_nextToken 37 = .ok (.aload_n 0, 1) := by decide +kernel
theorem dX8_nextToken_38 : decode cX8_nextToken 38 = .ok (.aload_n 0, 1) := by decide +kernel
theorem dX8_nextToken_39 : decode cX8_nextToken 39 = .ok (.getfield 90, 3) := by decide +kernel
theorem dX8_nextToken_42 : decode cX8_nextToken 42 = .ok (.aload_n 0, 1) := by decide +kernel
theorem dX8_nextToken_43 : decode cX8_nextToken 43 = .ok (.getfield 77, 3) := by decide +kernel
theorem dX8_nextToken_46 : decode cX8_nextToken 46 = .ok (.if_icmp .ne 7, 3) := by decide +kernel
theorem dX8_nextToken_49 : decode cX8_nextToken 49 = .ok (.iconst 1, 1) := by decide +kernel
theorem dX8_nextToken_50 : decode cX8_nextToken 50 = .ok (.goto 68, 3) := by decide +kernel
theorem dX8_nextToken_53 : decode cX8_nextToken 53 = .ok (.aload_n 0, 1) := by decide +kernel
theorem dX8_nextToken_54 : decode cX8_nextToken 54 = .ok (.getfield 94, 3) := by decide +kernel
theorem dX8_nextToken_57 : decode cX8_nextToken 57 = .ok (.i2l, 1) := by decide +kernel
theorem dX8_nextToken_58 : decode cX8_nextToken 58 = .ok (.ldc2_w 97, 3) := by decide +kernel
theorem dX8_nextToken_61 : decode cX8_nextToken 61 = .ok (.ldc2_w 99, 3) := by decide +kernel
theorem dX8_nextToken_64 : decode cX8_nextToken 64 = .ok (.invokestatic 60, 3) := by decide +kernel
theorem dX8_nextToken_67 : decode cX8_nextToken 67 = .ok (.ifCond .eq 7, 3) := by decide +kernel
theorem dX8_nextToken_70 : decode cX8_nextToken 70 = .ok (.iconst 2, 1) := by decide +kernel
theorem dX8_nextToken_71 : decode cX8_nextToken 71 = .ok (.goto 47, 3) := by decide +kernel
theorem dX8_nextToken_74 : decode cX8_nextToken 74 = .ok (.aload_n 0, 1) := by decide +kernel
theorem dX8_nextToken_75 : decode cX8_nextToken 75 = .ok (.getfield 94, 3) := by decide +kernel
theorem dX8_nextToken_78 : decode cX8_nextToken 78 = .ok (.i2l, 1) := by decide +kernel
theorem dX8_nextToken_79 : decode cX8_nextToken 79 = .ok (.ldc2_w 101, 3) := by decide +kernel
theorem dX8_nextToken_82 : decode cX8_nextToken 82 = .ok (.ldc2_w 103, 3) := by decide +kernel
theorem dX8_nextToken_85 : decode cX8_nextToken 85 = .ok (.invokestatic 60, 3) := by decide +kernel
theorem dX8_nextToken_88 : decode cX8_nextToken 88 = .ok (.ifCond .eq 7, 3) := by decide +kernel
theorem dX8_nextToken_91 : decode cX8_nextToken 91 = .ok (.iconst 3, 1) := by decide +kernel
theorem dX8_nextToken_92 : decode cX8_nextToken 92 = .ok (.goto 26, 3) := by decide +kernel
theorem dX8_nextToken_95 : decode cX8_nextToken 95 = .ok (.aload_n 0, 1) := by decide +kernel
theorem dX8_nextToken_96 : decode cX8_nextToken 96 = .ok (.getfield 94, 3) := by decide +kernel
theorem dX8_nextToken_99 : decode cX8_nextToken 99 = .ok (.bipush 44, 2) := by decide +kernel
theorem dX8_nextToken_101 : decode cX8_nextToken 101 = .ok (.if_icmp .eq 12, 3) := by decide +kernel
theorem dX8_nextToken_104 : decode cX8_nextToken 104 = .ok (.aload_n 0, 1) := by decide +kernel
theorem dX8_nextToken_105 : decode cX8_nextToken 105 = .ok (.getfield 94, 3) := by decide +kernel
theorem dX8_nextToken_108 : decode cX8_nextToken 108 = .ok (.bipush 59, 2) := by decide +kernel
theorem dX8_nextToken_110 : decode cX8_nextToken 110 = .ok (.if_icmp .ne 7, 3) := by decide +kernel
theorem dX8_nextToken_113 : decode cX8_nextToken 113 = .ok (.iconst 4, 1) := by decide +kernel
theorem dX8_nextToken_114 : decode cX8_nextToken 114 = .ok (.goto 4, 3) := by decide +kernel
theorem dX8_nextToken_117 : decode cX8_nextToken 117 = .ok (.iconst 0, 1) := by decide +kernel
theorem dX8_nextToken_118 : decode cX8_nextToken 118 = .ok (.putfield 105, 3) := by decide +kernel
theorem dX8_nextToken_121 : decode cX8_nextToken 121 = .ok (.aload_n 0, 1) := by decide +kernel
theorem dX8_nextToken_122 : decode cX8_nextToken 122 = .ok (.dup, 1) := by decide +kernel
theorem dX8_nextToken_123 : decode cX8_nextToken 123 = .ok (.getfield 90, 3) := by decide +kernel
theorem dX8_nextToken_126 : decode cX8_nextToken 126 = .ok (.aload_n 0, 1) := by decide +kernel
theorem dX8_nextToken_127 : decode cX8_nextToken 127 = .ok (.getfield 90, 3) := by decide +kernel
theorem dX8_nextToken_130 : decode cX8_nextToken 130 = .ok (.aload_n 0, 1) := by decide +kernel
theorem dX8_nextToken_131 : decode cX8_nextToken 131 = .ok (.getfield 77, 3) := by decide +kernel
theorem dX8_nextToken_134 : decode cX8_nextToken 134 = .ok (.if_icmp .ge 7, 3) := by decide +kernel
theorem dX8_nextToken_137 : decode cX8_nextToken 137 = .ok (.iconst 1, 1) := by decide +kernel
theorem dX8_nextToken_138 : decode cX8_nextToken 138 = .ok (.goto 4, 3) := by decide +kernel
theorem dX8_nextToken_141 : decode cX8_nextToken 141 = .ok (.iconst 0, 1) := by decide +kernel
theorem dX8_nextToken_142 : decode cX8_nextToken 142 = .ok (.iadd, 1) := by decide +kernel
theorem dX8_nextToken_143 : decode cX8_nextToken 143 = .ok (.putfield 90, 3) := by decide +kernel
theorem dX8_nextToken_146 : decode cX8_nextToken 146 = .ok (.aload_n 0, 1) := by decide +kernel
theorem dX8_nextToken_147 : decode cX8_nextToken 147 = .ok (.getfield 105, 3) := by decide +kernel
theorem dX8_nextToken_150 : decode cX8_nextToken 150 = .ok (.iconst 3, 1) := by decide +kernel
theorem dX8_nextToken_151 : decode cX8_nextToken 151 = .ok (.if_icmp .ne 126, 3) := by decide +kernel
theorem dX8_nextToken_154 : decode cX8_nextToken 154 = .ok (.aload_n 0, 1) := by decide +kernel
theorem dX8_nextToken_155 : decode cX8_nextToken 155 = .ok (.dup, 1) := by decide +kernel
theorem dX8_nextToken_156 : decode cX8_nextToken 156 = .ok (.getfield 94, 3) := by decide +kernel
theorem dX8_nextToken_159 : decode cX8_nextToken 159 = .ok (.bipush 48, 2) := by decide +kernel
theorem dX8_nextToken_161 : decode cX8_nextToken 161 = .ok (.isub, 1) := by decide +kernel
theorem dX8_nextToken_162 : decode cX8_nextToken 162 = .ok (.putfield 94, 3) := by decide +kernel
theorem dX8_nextToken_165 : decode cX8_nextToken 165 = .ok (.aload_n 0, 1) := by decide +kernel
theorem dX8_nextToken_166 : decode cX8_nextToken 166 = .ok (.getfield 90, 3) := by decide +kernel
theorem dX8_nextToken_169 : decode cX8_nextToken 169 = .ok (.aload_n 0, 1) := by decide +kernel
theorem dX8_nextToken_170 : decode cX8_nextToken 170 = .ok (.getfield 77, 3) := by decide +kernel
theorem dX8_nextToken_173 : decode cX8_nextToken 173 = .ok (.if_icmp .ge 82, 3) := by decide +kernel
theorem dX8_nextToken_176 : decode cX8_nextToken 176 = .ok (.aload_n 0, 1) := by decide +kernel
theorem dX8_nextToken_177 : decode cX8_nextToken 177 = .ok (.getfield 31, 3) := by decide +kernel
theorem dX8_nextToken_180 : decode cX8_nextToken 180 = .ok (.aload_n 0, 1) := by decide +kernel
theorem dX8_nextToken_181 : decode cX8_nextToken 181 = .ok (.getfield 90, 3) := by decide +kernel
theorem dX8_nextToken_184 : decode cX8_nextToken 184 = .ok (.iaload, 1) := by decide +kernel
theorem dX8_nextToken_185 : decode cX8_nextToken 185 = .ok (.i2l, 1) := by decide +kernel
theorem dX8_nextToken_186 : decode cX8_nextToken 186 = .ok (.ldc2_w 101, 3) := by decide +kernel
theorem dX8_nextToken_189 : decode cX8_nextToken 189 = .ok (.ldc2_w 103, 3) := by decide +kernel
theorem dX8_nextToken_192 : decode cX8_nextToken 192 = .ok (.invokestatic 60, 3) := by decide +kernel
theorem dX8_nextToken_195 : decode cX8_nextToken 195 = .ok (.ifCond .eq 60, 3) := by decide +kernel
theorem dX8_nextToken_198 : decode cX8_nextToken 198 = .ok (.aload_n 0, 1) := by decide +kernel
theorem dX8_nextToken_199 : decode cX8_nextToken 199 = .ok (.aload_n 0, 1) := by decide +kernel
theorem dX8_nextToken_200 : decode cX8_nextToken 200 = .ok (.getfield 90, 3) := by decide +kernel
theorem dX8_nextToken_203 : decode cX8_nextToken 203 = .ok (.aload_n 0, 1) := by decide +kernel
theorem dX8_nextToken_204 : decode cX8_nextToken 204 = .ok (.getfield 84, 3) := by decide +kernel
theorem dX8_nextToken_207 : decode cX8_nextToken 207 = .ok (.isub, 1) := by decide +kernel
theorem dX8_nextToken_208 : decode cX8_nextToken 208 = .ok (.iconst 2, 1) := by decide +kernel
theorem dX8_nextToken_209 : decode cX8_nextToken 209 = .ok (.if_icmp .ge 26, 3) := by decide +kernel
theorem dX8_nextToken_212 : decode cX8_nextToken 212 = .ok (.bipush 10, 2) := by decide +kernel
theorem dX8_nextToken_214 : decode cX8_nextToken 214 = .ok (.aload_n 0, 1) := by decide +kernel
theorem dX8_nextToken_215 : decode cX8_nextToken 215 = .ok (.getfield 94, 3) := by decide +kernel
theorem dX8_nextToken_218 : decode cX8_nextToken 218 = .ok (.imul, 1) := by decide +kernel
theorem dX8_nextToken_219 : decode cX8_nextToken 219 = .ok (.aload_n 0, 1) := by decide +kernel
theorem dX8_nextToken_220 : decode cX8_nextToken 220 = .ok (.getfield 31, 3) := by decide +kernel
theorem dX8_nextToken_223 : decode cX8_nextToken 223 = .ok (.aload_n 0, 1) := by decide +kernel
theorem dX8_nextToken_224 : decode cX8_nextToken 224 = .ok (.getfield 90, 3) := by decide +kernel
theorem dX8_nextToken_227 : decode cX8_nextToken 227 = .ok (.iaload, 1) := by decide +kernel
theorem dX8_nextToken_228 : decode cX8_nextToken 228 = .ok (.iadd, 1) := by decide +kernel
theorem dX8_nextToken_229 : decode cX8_nextToken 229 = .ok (.bipush 48, 2) := by decide +kernel
theorem dX8_nextToken_231 : decode cX8_nextToken 231 = .ok (.isub, 1) := by decide +kernel
theorem dX8_nextToken_232 : decode cX8_nextToken 232 = .ok (.goto 7, 3) := by decide +kernel
theorem dX8_nextToken_235 : decode cX8_nextToken 235 = .ok (.aload_n 0, 1) := by decide +kernel
theorem dX8_nextToken_236 : decode cX8_nextToken 236 = .ok (.getfield 94, 3) := by decide +kernel
theorem dX8_nextToken_239 : decode cX8_nextToken 239 = .ok (.putfield 94, 3) := by decide +kernel
theorem dX8_nextToken_242 : decode cX8_nextToken 242 = .ok (.aload_n 0, 1) := by decide +kernel
theorem dX8_nextToken_243 : decode cX8_nextToken 243 = .ok (.dup, 1) := by decide +kernel
theorem dX8_nextToken_244 : decode cX8_nextToken 244 = .ok (.getfield 90, 3) := by decide +kernel
theorem dX8_nextToken_247 : decode cX8_nextToken 247 = .ok (.iconst 1, 1) := by decide +kernel
theorem dX8_nextToken_248 : decode cX8_nextToken 248 = .ok (.iadd, 1) := by decide +kernel
theorem dX8_nextToken_249 : decode cX8_nextToken 249 = .ok (.putfield 90, 3) := by decide +kernel
theorem dX8_nextToken_252 : decode cX8_nextToken 252 = .ok (.goto (-87), 3) := by decide +kernel
theorem dX8_nextToken_255 : decode cX8_nextToken 255 = .ok (.aload_n 0, 1) := by decide +kernel
theorem dX8_nextToken_256 : decode cX8_nextToken 256 = .ok (.aload_n 0, 1) := by decide +kernel
theorem dX8_nextToken_257 : decode cX8_nextToken 257 = .ok (.getfield 90, 3) := by decide +kernel
theorem dX8_nextToken_260 : decode cX8_nextToken 260 = .ok (.aload_n 0, 1) := by decide +kernel
theorem dX8_nextToken_261 : decode cX8_nextToken 261 = .ok (.getfield 84, 3) := by decide +kernel
theorem dX8_nextToken_264 : decode cX8_nextToken 264 = .ok (.isub, 1) := by decide +kernel
theorem dX8_nextToken_265 : decode cX8_nextToken 265 = .ok (.iconst 2, 1) := by decide +kernel
theorem dX8_nextToken_266 : decode cX8_nextToken 266 = .ok (.if_icmp .le 7, 3) := by decide +kernel
theorem dX8_nextToken_269 : decode cX8_nextToken 269 = .ok (.iconst 0, 1) := by decide +kernel
theorem dX8_nextToken_270 : decode cX8_nextToken 270 = .ok (.goto 4, 3) := by decide +kernel
theorem dX8_nextToken_273 : decode cX8_nextToken 273 = .ok (.iconst 3, 1) := by decide +kernel
theorem dX8_nextToken_274 : decode cX8_nextToken 274 = .ok (.putfield 105, 3) := by decide +kernel
theorem dX8_nextToken_277 : decode cX8_nextToken 277 = .ok (.return_, 1) := by decide +kernel
theorem dX8_must_0 : decode cX8_must 0 = .ok (.iload_n 1, 1) := by decide +kernel
theorem dX8_must_1 : decode cX8_must 1 = .ok (.ifCond .ne 8, 3) := by decide +kernel
theorem dX8_must_4 : decode cX8_must 4 = .ok (.aload_n 0, 1) := by decide +kernel
theorem dX8_must_5 : decode cX8_must 5 = .ok (.iconst 1, 1) := by decide +kernel
theorem dX8_must_6 : decode cX8_must 6 = .ok (.invokevirtual 108, 3) := by decide +kernel
theorem dX8_must_9 : decode cX8_must 9 = .ok (.aload_n 0, 1) := by decide +kernel
theorem dX8_must_10 : decode cX8_must 10 = .ok (.getfield 81, 3) := by decide +kernel
theorem dX8_must_13 : decode cX8_must 13 = .ok (.ifCond .ne 7, 3) := by decide +kernel
theorem dX8_must_16 : decode cX8_must 16 = .ok (.aload_n 0, 1) := by decide +kernel
theorem dX8_must_17 : decode cX8_must 17 = .ok (.invokevirtual 112, 3) := by decide +kernel
theorem dX8_must_20 : decode cX8_must 20 = .ok (.return_, 1) := by decide +kernel
theorem dX8_isLetter_0 : decode cX8_isLetter 0 = .ok (.aload_n 0, 1) := by decide +kernel
theorem dX8_isLetter_1 : decode cX8_isLetter 1 = .ok (.getfield 81, 3) := by decide +kernel
theorem dX8_isLetter_4 : decode cX8_isLetter 4 = .ok (.ifCond .ne 23, 3) := by decide +kernel
theorem dX8_isLetter_7 : decode cX8_isLetter 7 = .ok (.aload_n 0, 1) := by decide +kernel
theorem dX8_isLetter_8 : decode cX8_isLetter 8 = .ok (.getfield 105, 3) := by decide +kernel
theorem dX8_isLetter_11 : decode cX8_isLetter 11 = .ok (.iconst 2, 1) := by decide +kernel
theorem dX8_isLetter_12 : decode cX8_isLetter 12 = .ok (.if_icmp .ne 15, 3) := by decide +kernel
theorem dX8_isLetter_15 : decode cX8_isLetter 15 = .ok (.aload_n 0, 1) := by decide +kernel
theorem dX8_isLetter_16 : decode cX8_isLetter 16 = .ok (.getfield 94, 3) := by decide +kernel
theorem dX8_isLetter_19 : decode cX8_isLetter 19 = .ok (.iload_n 1, 1) := by decide +kernel
theorem dX8_isLetter_20 : decode cX8_isLetter 20 = .ok (.if_icmp .ne 7, 3) := by decide +kernel
theorem dX8_isLetter_23 : decode cX8_isLetter 23 = .ok (.iconst 1, 1) := by decide +kernel
theorem dX8_isLetter_24 : decode cX8_isLetter 24 = .ok (.goto 4, 3) := by decide +kernel
theorem dX8_isLetter_27 : decode cX8_isLetter 27 = .ok (.iconst 0, 1) := by decide +kernel
theorem dX8_isLetter_28 : decode cX8_isLetter 28 = .ok (.ireturn, 1) := by decide +kernel
theorem dX8_number_0 : decode cX8_number 0 = .ok (.aload_n 0, 1) := by decide +kernel
theorem dX8_number_1 : decode cX8_number 1 = .ok (.getfield 81, 3) := by decide +kernel
theorem dX8_number_4 : decode cX8_number 4 = .ok (.ifCond .ne 16, 3) := by decide +kernel
theorem dX8_number_7 : decode cX8_number 7 = .ok (.aload_n 0, 1) := by decide +kernel
theorem dX8_number_8 : decode cX8_number 8 = .ok (.getfield 105, 3) := by decide +kernel
theorem dX8_number_11 : decode cX8_number 11 = .ok (.iconst 3, 1) := by decide +kernel
theorem dX8_number_12 : decode cX8_number 12 = .ok (.if_icmp .eq 8, 3) := by decide +kernel
theorem dX8_number_15 : decode cX8_number 15 = .ok (.aload_n 0, 1) := by decide +kernel
theorem dX8_number_16 : decode cX8_number 16 = .ok (.iconst 1, 1) := by decide +kernel
theorem dX8_number_17 : decode cX8_number 17 = .ok (.invokevirtual 108, 3) := by decide +kernel
theorem dX8_number_20 : decode cX8_number 20 = .ok (.aload_n 0, 1) := by decide +kernel
theorem dX8_number_21 : decode cX8_number 21 = .ok (.getfield 81, 3) := by decide +kernel
theorem dX8_number_24 : decode cX8_number 24 = .ok (.ifCond .ne 23, 3) := by decide +kernel
theorem dX8_number_27 : decode cX8_number 27 = .ok (.aload_n 0, 1) := by decide +kernel
theorem dX8_number_28 : decode cX8_number 28 = .ok (.getfield 94, 3) := by decide +kernel
theorem dX8_number_31 : decode cX8_number 31 = .ok (.i2l, 1) := by decide +kernel
theorem dX8_number_32 : decode cX8_number 32 = .ok (.iload_n 1, 1) := by decide +kernel
theorem dX8_number_33 : decode cX8_number 33 = .ok (.i2l, 1) := by decide +kernel
theorem dX8_number_34 : decode cX8_number 34 = .ok (.iload_n 2, 1) := by decide +kernel
theorem dX8_number_35 : decode cX8_number 35 = .ok (.i2l, 1) := by decide +kernel
theorem dX8_number_36 : decode cX8_number 36 = .ok (.invokestatic 60, 3) := by decide +kernel
theorem dX8_number_39 : decode cX8_number 39 = .ok (.ifCond .ne 8, 3) := by decide +kernel
theorem dX8_number_42 : decode cX8_number 42 = .ok (.aload_n 0, 1) := by decide +kernel
theorem dX8_number_43 : decode cX8_number 43 = .ok (.iconst 2, 1) := by decide +kernel
theorem dX8_number_44 : decode cX8_number 44 = .ok (.invokevirtual 108, 3) := by decide +kernel
theorem dX8_number_47 : decode cX8_number 47 = .ok (.aload_n 0, 1) := by decide +kernel
theorem dX8_number_48 : decode cX8_number 48 = .ok (.getfield 81, 3) := by decide +kernel
theorem dX8_number_51 : decode cX8_number 51 = .ok (.ifCond .ne 10, 3) := by decide +kernel
theorem dX8_number_54 : decode cX8_number 54 = .ok (.aload_n 0, 1) := by decide +kernel
theorem dX8_number_55 : decode cX8_number 55 = .ok (.getfield 94, 3) := by decide +kernel
theorem dX8_number_58 : decode cX8_number 58 = .ok (.goto 4, 3) := by decide +kernel
theorem dX8_number_61 : decode cX8_number 61 = .ok (.iload_n 1, 1) := by decide +kernel
theorem dX8_number_62 : decode cX8_number 62 = .ok (.istore_n 3, 1) := by decide +kernel
theorem dX8_number_63 : decode cX8_number 63 = .ok (.aload_n 0, 1) := by decide +kernel
theorem dX8_number_64 : decode cX8_number 64 = .ok (.iconst 1, 1) := by decide +kernel
theorem dX8_number_65 : decode cX8_number 65 = .ok (.invokevirtual 115, 3) := by decide +kernel
theorem dX8_number_68 : decode cX8_number 68 = .ok (.iload_n 3, 1) := by decide +kernel
theorem dX8_number_69 : decode cX8_number 69 = .ok (.ireturn, 1) := by decide +kernel
theorem dX8_mustSign_0 : decode cX8_mustSign 0 = .ok (.aload_n 0, 1) := by decide +kernel
theorem dX8_mustSign_1 : decode cX8_mustSign 1 = .ok (.aload_n 0, 1) := by decide +kernel
theorem dX8_mustSign_2 : decode cX8_mustSign 2 = .ok (.getfield 105, 3) := by decide +kernel
theorem dX8_mustSign_5 : decode cX8_mustSign 5 = .ok (.iconst 4, 1) := by decide +kernel
theorem dX8_mustSign_6 : decode cX8_mustSign 6 = .ok (.if_icmp .ne 15, 3) := by decide +kernel
theorem dX8_mustSign_9 : decode cX8_mustSign 9 = .ok (.aload_n 0, 1) := by decide +kernel
theorem dX8_mustSign_10 : decode cX8_mustSign 10 = .ok (.getfield 94, 3) := by decide +kernel
theorem dX8_mustSign_13 : decode cX8_mustSign 13 = .ok (.iload_n 1, 1) := by decide +kernel
theorem dX8_mustSign_14 : decode cX8_mustSign 14 = .ok (.if_icmp .ne 7, 3) := by decide +kernel
theorem dX8_mustSign_17 : decode cX8_mustSign 17 = .ok (.iconst 1, 1) := by decide +kernel
theorem dX8_mustSign_18 : decode cX8_mustSign 18 = .ok (.goto 4, 3) := by decide +kernel
theorem dX8_mustSign_21 : decode cX8_mustSign 21 = .ok (.iconst 0, 1) := by decide +kernel
theorem dX8_mustSign_22 : decode cX8_mustSign 22 = .ok (.invokevirtual 115, 3) := by decide +kernel
theorem dX8_mustSign_25 : decode cX8_mustSign 25 = .ok (.return_, 1) := by decide +kernel
theorem dX8_begin_0 : decode cX8_begin 0 = .ok (.aload_n 0, 1) := by decide +kernel
theorem dX8_begin_1 : decode cX8_begin 1 = .ok (.iconst 0, 1) := by decide +kernel
theorem dX8_begin_2 : decode cX8_begin 2 = .ok (.putfield 90, 3) := by decide +kernel
theorem dX8_begin_5 : decode cX8_begin 5 = .ok (.aload_n 0, 1) := by decide +kernel
theorem dX8_begin_6 : decode cX8_begin 6 = .ok (.iconst 0, 1) := by decide +kernel
theorem dX8_begin_7 : decode cX8_begin 7 = .ok (.putfield 81, 3) := by decide +kernel
theorem dX8_begin_10 : decode cX8_begin 10 = .ok (.aload_n 0, 1) := by decide +kernel
theorem dX8_begin_11 : decode cX8_begin 11 = .ok (.invokevirtual 112, 3) := by decide +kernel
theorem dX8_begin_14 : decode cX8_begin 14 = .ok (.return_, 1) := by decide +kernel
theorem dX8_failed_0 : decode cX8_failed 0 = .ok (.aload_n 0, 1) := by decide +kernel
theorem dX8_failed_1 : decode cX8_failed 1 = .ok (.getfield 81, 3) := by decide +kernel
theorem dX8_failed_4 : decode cX8_failed 4 = .ok (.ifCond .ne 16, 3) := by decide +kernel
theorem dX8_failed_7 : decode cX8_failed 7 = .ok (.aload_n 0, 1) := by decide +kernel
theorem dX8_failed_8 : decode cX8_failed 8 = .ok (.getfield 105, 3) := by decide +kernel
theorem dX8_failed_11 : decode cX8_failed 11 = .ok (.iconst 1, 1) := by decide +kernel
theorem dX8_failed_12 : decode cX8_failed 12 = .ok (.if_icmp .eq 8, 3) := by decide +kernel
theorem dX8_failed_15 : decode cX8_failed 15 = .ok (.aload_n 0, 1) := by decide +kernel
theorem dX8_failed_16 : decode cX8_failed 16 = .ok (.iconst 1, 1) := by decide +kernel
theorem dX8_failed_17 : decode cX8_failed 17 = .ok (.invokevirtual 108, 3) := by decide +kernel
theorem dX8_failed_20 : decode cX8_failed 20 = .ok (.aload_n 0, 1) := by decide +kernel
theorem dX8_failed_21 : decode cX8_failed 21 = .ok (.iconst 0, 1) := by decide +kernel
theorem dX8_failed_22 : decode cX8_failed 22 = .ok (.putfield 77, 3) := by decide +kernel
theorem dX8_failed_25 : decode cX8_failed 25 = .ok (.aload_n 0, 1) := by decide +kernel
theorem dX8_failed_26 : decode cX8_failed 26 = .ok (.aload_n 0, 1) := by decide +kernel
theorem dX8_failed_27 : decode cX8_failed 27 = .ok (.getfield 81, 3) := by decide +kernel
theorem dX8_failed_30 : decode cX8_failed 30 = .ok (.ifCond .le 10, 3) := by decide +kernel
theorem dX8_failed_33 : decode cX8_failed 33 = .ok (.aload_n 0, 1) := by decide +kernel
theorem dX8_failed_34 : decode cX8_failed 34 = .ok (.getfield 81, 3) := by decide +kernel
theorem dX8_failed_37 : decode cX8_failed 37 = .ok (.goto 7, 3) := by decide +kernel
theorem dX8_failed_40 : decode cX8_failed 40 = .ok (.aload_n 0, 1) := by decide +kernel
theorem dX8_failed_41 : decode cX8_failed 41 = .ok (.getfield 119, 3) := by decide +kernel
theorem dX8_failed_44 : decode cX8_failed 44 = .ok (.putfield 119, 3) := by decide +kernel
theorem dX8_failed_47 : decode cX8_failed 47 = .ok (.aload_n 0, 1) := by decide +kernel
theorem dX8_failed_48 : decode cX8_failed 48 = .ok (.getfield 81, 3) := by decide +kernel
theorem dX8_failed_51 : decode cX8_failed 51 = .ok (.ifCond .le 7, 3) := by decide +kernel
theorem dX8_failed_54 : decode cX8_failed 54 = .ok (.iconst 1, 1) := by decide +kernel
theorem dX8_failed_55 : decode cX8_failed 55 = .ok (.goto 4, 3) := by decide +kernel
theorem dX8_failed_58 : decode cX8_failed 58 = .ok (.iconst 0, 1) := by decide +kernel
theorem dX8_failed_59 : decode cX8_failed 59 = .ok (.ireturn, 1) := by decide +kernel
theorem dX8_fault_0 : decode cX8_fault 0 = .ok (.aload_n 0, 1) := by decide +kernel
theorem dX8_fault_1 : decode cX8_fault 1 = .ok (.iconst 0, 1) := by decide +kernel
theorem dX8_fault_2 : decode cX8_fault 2 = .ok (.putfield 50, 3) := by decide +kernel
theorem dX8_fault_5 : decode cX8_fault 5 = .ok (.aload_n 0, 1) := by decide +kernel
theorem dX8_fault_6 : decode cX8_fault 6 = .ok (.getfield 119, 3) := by decide +kernel
theorem dX8_fault_9 : decode cX8_fault 9 = .ok (.ireturn, 1) := by decide +kernel
theorem dX8_kindBy_0 : decode cX8_kindBy 0 = .ok (.iload_n 0, 1) := by decide +kernel
theorem dX8_kindBy_1 : decode cX8_kindBy 1 = .ok (.bipush 100, 2) := by decide +kernel
theorem dX8_kindBy_3 : decode cX8_kindBy 3 = .ok (.if_icmp .ne 7, 3) := by decide +kernel
theorem dX8_kindBy_6 : decode cX8_kindBy 6 = .ok (.iconst 1, 1) := by decide +kernel
theorem dX8_kindBy_7 : decode cX8_kindBy 7 = .ok (.goto 45, 3) := by decide +kernel
theorem dX8_kindBy_10 : decode cX8_kindBy 10 = .ok (.iload_n 0, 1) := by decide +kernel
theorem dX8_kindBy_11 : decode cX8_kindBy 11 = .ok (.bipush 111, 2) := by decide +kernel
theorem dX8_kindBy_13 : decode cX8_kindBy 13 = .ok (.if_icmp .ne 7, 3) := by decide +kernel
theorem dX8_kindBy_16 : decode cX8_kindBy 16 = .ok (.iconst 2, 1) := by decide +kernel
theorem dX8_kindBy_17 : decode cX8_kindBy 17 = .ok (.goto 35, 3) := by decide +kernel
theorem dX8_kindBy_20 : decode cX8_kindBy 20 = .ok (.iload_n 0, 1) := by decide +kernel
theorem dX8_kindBy_21 : decode cX8_kindBy 21 = .ok (.bipush 115, 2) := by decide +kernel
theorem dX8_kindBy_23 : decode cX8_kindBy 23 = .ok (.if_icmp .ne 7, 3) := by decide +kernel
theorem dX8_kindBy_26 : decode cX8_kindBy 26 = .ok (.iconst 3, 1) := by decide +kernel
theorem dX8_kindBy_27 : decode cX8_kindBy 27 = .ok (.goto 25, 3) := by decide +kernel
theorem dX8_kindBy_30 : decode cX8_kindBy 30 = .ok (.iload_n 0, 1) := by decide +kernel
theorem dX8_kindBy_31 : decode cX8_kindBy 31 = .ok (.bipush 117, 2) := by decide +kernel
theorem dX8_kindBy_33 : decode cX8_kindBy 33 = .ok (.if_icmp .ne 7, 3) := by decide +kernel
theorem dX8_kindBy_36 : decode cX8_kindBy 36 = .ok (.iconst 4, 1) := by decide +kernel
theorem dX8_kindBy_37 : decode cX8_kindBy 37 = .ok (.goto 15, 3) := by decide +kernel
theorem dX8_kindBy_40 : decode cX8_kindBy 40 = .ok (.iload_n 0, 1) := by decide +kernel
theorem dX8_kindBy_41 : decode cX8_kindBy 41 = .ok (.bipush 116, 2) := by decide +kernel
theorem dX8_kindBy_43 : decode cX8_kindBy 43 = .ok (.if_icmp .ne 7, 3) := by decide +kernel
theorem dX8_kindBy_46 : decode cX8_kindBy 46 = .ok (.iconst 5, 1) := by decide +kernel
theorem dX8_kindBy_47 : decode cX8_kindBy 47 = .ok (.goto 5, 3) := by decide +kernel
theorem dX8_kindBy_50 : decode cX8_kindBy 50 = .ok (.ldc 93, 2) := by decide +kernel
theorem dX8_kindBy_52 : decode cX8_kindBy 52 = .ok (.ireturn, 1) := by decide +kernel
theorem dX8_isSort_0 : decode cX8_isSort 0 = .ok (.aload_n 0, 1) := by decide +kernel
theorem dX8_isSort_1 : decode cX8_isSort 1 = .ok (.getfield 81, 3) := by decide +kernel
theorem dX8_isSort_4 : decode cX8_isSort 4 = .ok (.ifCond .ne 27, 3) := by decide +kernel
theorem dX8_isSort_7 : decode cX8_isSort 7 = .ok (.aload_n 0, 1) := by decide +kernel
theorem dX8_isSort_8 : decode cX8_isSort 8 = .ok (.getfield 105, 3) := by decide +kernel
theorem dX8_isSort_11 : decode cX8_isSort 11 = .ok (.iconst 2, 1) := by decide +kernel
theorem dX8_isSort_12 : decode cX8_isSort 12 = .ok (.if_icmp .ne 19, 3) := by decide +kernel
theorem dX8_isSort_15 : decode cX8_isSort 15 = .ok (.aload_n 0, 1) := by decide +kernel
theorem dX8_isSort_16 : decode cX8_isSort 16 = .ok (.getfield 94, 3) := by decide +kernel
theorem dX8_isSort_19 : decode cX8_isSort 19 = .ok (.invokestatic 122, 3) := by decide +kernel
theorem dX8_isSort_22 : decode cX8_isSort 22 = .ok (.ldc 93, 2) := by decide +kernel
theorem dX8_isSort_24 : decode cX8_isSort 24 = .ok (.if_icmp .eq 7, 3) := by decide +kernel
theorem dX8_isSort_27 : decode cX8_isSort 27 = .ok (.iconst 1, 1) := by decide +kernel
theorem dX8_isSort_28 : decode cX8_isSort 28 = .ok (.goto 4, 3) := by decide +kernel
theorem dX8_isSort_31 : decode cX8_isSort 31 = .ok (.iconst 0, 1) := by decide +kernel
theorem dX8_isSort_32 : decode cX8_isSort 32 = .ok (.ireturn, 1) := by decide +kernel
theorem dX8_readFoot_0 : decode cX8_readFoot 0 = .ok (.aload_n 0, 1) := by decide +kernel
theorem dX8_readFoot_1 : decode cX8_readFoot 1 = .ok (.aload_n 0, 1) := by decide +kernel
theorem dX8_readFoot_2 : decode cX8_readFoot 2 = .ok (.bipush 119, 2) := by decide +kernel
theorem dX8_readFoot_4 : decode cX8_readFoot 4 = .ok (.invokevirtual 125, 3) := by decide +kernel
theorem dX8_readFoot_7 : decode cX8_readFoot 7 = .ok (.invokevirtual 115, 3) := by decide +kernel
theorem dX8_readFoot_10 : decode cX8_readFoot 10 = .ok (.aload_n 0, 1) := by decide +kernel
theorem dX8_readFoot_11 : decode cX8_readFoot 11 = .ok (.getfield 22, 3) := by decide +kernel
theorem dX8_readFoot_14 : decode cX8_readFoot 14 = .ok (.bipush 7, 2) := by decide +kernel
theorem dX8_readFoot_16 : decode cX8_readFoot 16 = .ok (.iload_n 1, 1) := by decide +kernel
theorem dX8_readFoot_17 : decode cX8_readFoot 17 = .ok (.iadd, 1) := by decide +kernel
theorem dX8_readFoot_18 : decode cX8_readFoot 18 = .ok (.aload_n 0, 1) := by decide +kernel
theorem dX8_readFoot_19 : decode cX8_readFoot 19 = .ok (.iconst 0, 1) := by decide +kernel
theorem dX8_readFoot_20 : decode cX8_readFoot 20 = .ok (.bipush 60, 2) := by decide +kernel
theorem dX8_readFoot_22 : decode cX8_readFoot 22 = .ok (.invokevirtual 128, 3) := by decide +kernel
theorem dX8_readFoot_25 : decode cX8_readFoot 25 = .ok (.iastore, 1) := by decide +kernel
theorem dX8_readFoot_26 : decode cX8_readFoot 26 = .ok (.aload_n 0, 1) := by decide +kernel
theorem dX8_readFoot_27 : decode cX8_readFoot 27 = .ok (.bipush 44, 2) := by decide +kernel
theorem dX8_readFoot_29 : decode cX8_readFoot 29 = .ok (.invokevirtual 132, 3) := by decide +kernel
theorem dX8_readFoot_32 : decode cX8_readFoot 32 = .ok (.aload_n 0, 1) := by decide +kernel
theorem dX8_readFoot_33 : decode cX8_readFoot 33 = .ok (.getfield 22, 3) := by decide +kernel
theorem dX8_readFoot_36 : decode cX8_readFoot 36 = .ok (.bipush 10, 2) := by decide +kernel
theorem dX8_readFoot_38 : decode cX8_readFoot 38 = .ok (.iload_n 1, 1) := by decide +kernel
theorem dX8_readFoot_39 : decode cX8_readFoot 39 = .ok (.iadd, 1) := by decide +kernel
theorem dX8_readFoot_40 : decode cX8_readFoot 40 = .ok (.aload_n 0, 1) := by decide +kernel
theorem dX8_readFoot_41 : decode cX8_readFoot 41 = .ok (.iconst 0, 1) := by decide +kernel
theorem dX8_readFoot_42 : decode cX8_readFoot 42 = .ok (.bipush 9, 2) := by decide +kernel
theorem dX8_readFoot_44 : decode cX8_readFoot 44 = .ok (.invokevirtual 128, 3) := by decide +kernel
theorem dX8_readFoot_47 : decode cX8_readFoot 47 = .ok (.iastore, 1) := by decide +kernel
theorem dX8_readFoot_48 : decode cX8_readFoot 48 = .ok (.aload_n 0, 1) := by decide +kernel
theorem dX8_readFoot_49 : decode cX8_readFoot 49 = .ok (.bipush 59, 2) := by decide +kernel
theorem dX8_readFoot_51 : decode cX8_readFoot 51 = .ok (.invokevirtual 132, 3) := by decide +kernel
theorem dX8_readFoot_54 : decode cX8_readFoot 54 = .ok (.return_, 1) := by decide +kernel
theorem dX8_readDeed_0 : decode cX8_readDeed 0 = .ok (.aload_n 0, 1) := by decide +kernel
theorem dX8_readDeed_1 : decode cX8_readDeed 1 = .ok (.getfield 94, 3) := by decide +kernel
theorem dX8_readDeed_4 : decode cX8_readDeed 4 = .ok (.invokestatic 122, 3) := by decide +kernel
theorem dX8_readDeed_7 : decode cX8_readDeed 7 = .ok (.istore_n 1, 1) := by decide +kernel
theorem dX8_readDeed_8 : decode cX8_readDeed 8 = .ok (.aload_n 0, 1) := by decide +kernel
theorem dX8_readDeed_9 : decode cX8_readDeed 9 = .ok (.getfield 22, 3) := by decide +kernel
theorem dX8_readDeed_12 : decode cX8_readDeed 12 = .ok (.iconst 5, 1) := by decide +kernel
theorem dX8_readDeed_13 : decode cX8_readDeed 13 = .ok (.iaload, 1) := by decide +kernel
theorem dX8_readDeed_14 : decode cX8_readDeed 14 = .ok (.bipush 7, 2) := by decide +kernel
theorem dX8_readDeed_16 : decode cX8_readDeed 16 = .ok (.if_icmp .ne 8, 3) := by decide +kernel
theorem dX8_readDeed_19 : decode cX8_readDeed 19 = .ok (.aload_n 0, 1) := by decide +kernel
theorem dX8_readDeed_20 : decode cX8_readDeed 20 = .ok (.iconst 3, 1) := by decide +kernel
theorem dX8_readDeed_21 : decode cX8_readDeed 21 = .ok (.invokevirtual 108, 3) := by decide +kernel
theorem dX8_readDeed_24 : decode cX8_readDeed 24 = .ok (.aload_n 0, 1) := by decide +kernel
theorem dX8_readDeed_25 : decode cX8_readDeed 25 = .ok (.iconst 1, 1) := by decide +kernel
theorem dX8_readDeed_26 : decode cX8_readDeed 26 = .ok (.invokevirtual 115, 3) := by decide +kernel
theorem dX8_readDeed_29 : decode cX8_readDeed 29 = .ok (.aload_n 0, 1) := by decide +kernel
theorem dX8_readDeed_30 : decode cX8_readDeed 30 = .ok (.iconst 0, 1) := by decide +kernel
theorem dX8_readDeed_31 : decode cX8_readDeed 31 = .ok (.iconst 2, 1) := by decide +kernel
theorem dX8_readDeed_32 : decode cX8_readDeed 32 = .ok (.invokevirtual 128, 3) := by decide +kernel
theorem dX8_readDeed_35 : decode cX8_readDeed 35 = .ok (.istore_n 2, 1) := by decide +kernel
theorem dX8_readDeed_36 : decode cX8_readDeed 36 = .ok (.aload_n 0, 1) := by decide +kernel
theorem dX8_readDeed_37 : decode cX8_readDeed 37 = .ok (.bipush 44, 2) := by decide +kernel
theorem dX8_readDeed_39 : decode cX8_readDeed 39 = .ok (.invokevirtual 132, 3) := by decide +kernel
theorem dX8_readDeed_42 : decode cX8_readDeed 42 = .ok (.aload_n 0, 1) := by decide +kernel
theorem dX8_readDeed_43 : decode cX8_readDeed 43 = .ok (.iconst 1, 1) := by decide +kernel
theorem dX8_readDeed_44 : decode cX8_readDeed 44 = .ok (.bipush 20, 2) := by decide +kernel
theorem dX8_readDeed_46 : decode cX8_readDeed 46 = .ok (.invokevirtual 128, 3) := by decide +kernel
theorem dX8_readDeed_49 : decode cX8_readDeed 49 = .ok (.istore_n 3, 1) := by decide +kernel
theorem dX8_readDeed_50 : decode cX8_readDeed 50 = .ok (.aload_n 0, 1) := by decide +kernel
theorem dX8_readDeed_51 : decode cX8_readDeed 51 = .ok (.bipush 59, 2) := by decide +kernel
theorem dX8_readDeed_53 : decode cX8_readDeed 53 = .ok (.invokevirtual 132, 3) := by decide +kernel
theorem dX8_readDeed_56 : decode cX8_readDeed 56 = .ok (.aload_n 0, 1) := by decide +kernel
theorem dX8_readDeed_57 : decode cX8_readDeed 57 = .ok (.getfield 81, 3) := by decide +kernel
theorem dX8_readDeed_60 : decode cX8_readDeed 60 = .ok (.ifCond .ne 54, 3) := by decide +kernel
theorem dX8_readDeed_63 : decode cX8_readDeed 63 = .ok (.bipush 13, 2) := by decide +kernel
theorem dX8_readDeed_65 : decode cX8_readDeed 65 = .ok (.iconst 3, 1) := by decide +kernel
theorem dX8_readDeed_66 : decode cX8_readDeed 66 = .ok (.aload_n 0, 1) := by decide +kernel
theorem dX8_readDeed_67 : decode cX8_readDeed 67 = .ok (.getfield 22, 3) := by decide +kernel
theorem dX8_readDeed_70 : decode cX8_readDeed 70 = .ok (.iconst 5, 1) := by decide +kernel
theorem dX8_readDeed_71 : decode cX8_readDeed 71 = .ok (.iaload, 1) := by decide +kernel
theorem dX8_readDeed_72 : decode cX8_readDeed 72 = .ok (.imul, 1) := by decide +kernel
theorem dX8_readDeed_73 : decode cX8_readDeed 73 = .ok (.iadd, 1) := by decide +kernel
theorem dX8_readDeed_74 : decode cX8_readDeed 74 = .ok (.istore 4, 2) := by decide +kernel
theorem dX8_readDeed_76 : decode cX8_readDeed 76 = .ok (.aload_n 0, 1) := by decide +kernel
theorem dX8_readDeed_77 : decode cX8_readDeed 77 = .ok (.getfield 22, 3) := by decide +kernel
theorem dX8_readDeed_80 : decode cX8_readDeed 80 = .ok (.iload 4, 2) := by decide +kernel
theorem dX8_readDeed_82 : decode cX8_readDeed 82 = .ok (.iload_n 1, 1) := by decide +kernel
theorem dX8_readDeed_83 : decode cX8_readDeed 83 = .ok (.iastore, 1) := by decide +kernel
theorem dX8_readDeed_84 : decode cX8_readDeed 84 = .ok (.aload_n 0, 1) := by decide +kernel
theorem dX8_readDeed_85 : decode cX8_readDeed 85 = .ok (.getfield 22, 3) := by decide +kernel
theorem dX8_readDeed_88 : decode cX8_readDeed 88 = .ok (.iload 4, 2) := by decide +kernel
theorem dX8_readDeed_90 : decode cX8_readDeed 90 = .ok (.iconst 1, 1) := by decide +kernel
theorem dX8_readDeed_91 : decode cX8_readDeed 91 = .ok (.iadd, 1) := by decide +kernel
theorem dX8_readDeed_92 : decode cX8_readDeed 92 = .ok (.iload_n 2, 1) := by decide +kernel
theorem dX8_readDeed_93 : decode cX8_readDeed 93 = .ok (.iastore, 1) := by decide +kernel
theorem dX8_readDeed_94 : decode cX8_readDeed 94 = .ok (.aload_n 0, 1) := by decide +kernel
theorem dX8_readDeed_95 : decode cX8_readDeed 95 = .ok (.getfield 22, 3) := by decide +kernel
theorem dX8_readDeed_98 : decode cX8_readDeed 98 = .ok (.iload 4, 2) := by decide +kernel
theorem dX8_readDeed_100 : decode cX8_readDeed 100 = .ok (.iconst 2, 1) := by decide +kernel
theorem dX8_readDeed_101 : decode cX8_readDeed 101 = .ok (.iadd, 1) := by decide +kernel
theorem dX8_readDeed_102 : decode cX8_readDeed 102 = .ok (.iload_n 3, 1) := by decide +kernel
theorem dX8_readDeed_103 : decode cX8_readDeed 103 = .ok (.iastore, 1) := by decide +kernel
theorem dX8_readDeed_104 : decode cX8_readDeed 104 = .ok (.aload_n 0, 1) := by decide +kernel
theorem dX8_readDeed_105 : decode cX8_readDeed 105 = .ok (.getfield 22, 3) := by decide +kernel
theorem dX8_readDeed_108 : decode cX8_readDeed 108 = .ok (.iconst 5, 1) := by decide +kernel
theorem dX8_readDeed_109 : decode cX8_readDeed 109 = .ok (.dup2, 1) := by decide +kernel
theorem dX8_readDeed_110 : decode cX8_readDeed 110 = .ok (.iaload, 1) := by decide +kernel
theorem dX8_readDeed_111 : decode cX8_readDeed 111 = .ok (.iconst 1, 1) := by decide +kernel
theorem dX8_readDeed_112 : decode cX8_readDeed 112 = .ok (.iadd, 1) := by decide +kernel
theorem dX8_readDeed_113 : decode cX8_readDeed 113 = .ok (.iastore, 1) := by decide +kernel
theorem dX8_readDeed_114 : decode cX8_readDeed 114 = .ok (.return_, 1) := by decide +kernel
theorem dX8_site_0 : decode cX8_site 0 = .ok (.aload_n 0, 1) := by decide +kernel
theorem dX8_site_1 : decode cX8_site 1 = .ok (.iconst 0, 1) := by decide +kernel
theorem dX8_site_2 : decode cX8_site 2 = .ok (.putfield 50, 3) := by decide +kernel
theorem dX8_site_5 : decode cX8_site 5 = .ok (.aload_n 0, 1) := by decide +kernel
theorem dX8_site_6 : decode cX8_site 6 = .ok (.invokevirtual 135, 3) := by decide +kernel
theorem dX8_site_9 : decode cX8_site 9 = .ok (.iconst 0, 1) := by decide +kernel
theorem dX8_site_10 : decode cX8_site 10 = .ok (.istore_n 1, 1) := by decide +kernel
theorem dX8_site_11 : decode cX8_site 11 = .ok (.iload_n 1, 1) := by decide +kernel
theorem dX8_site_12 : decode cX8_site 12 = .ok (.bipush 34, 2) := by decide +kernel
theorem dX8_site_14 : decode cX8_site 14 = .ok (.if_icmp .ge 16, 3) := by decide +kernel
theorem dX8_site_17 : decode cX8_site 17 = .ok (.aload_n 0, 1) := by decide +kernel
theorem dX8_site_18 : decode cX8_site 18 = .ok (.getfield 22, 3) := by decide +kernel
theorem dX8_site_21 : decode cX8_site 21 = .ok (.iload_n 1, 1) := by decide +kernel
theorem dX8_site_22 : decode cX8_site 22 = .ok (.iconst 0, 1) := by decide +kernel
theorem dX8_site_23 : decode cX8_site 23 = .ok (.iastore, 1) := by decide +kernel
theorem dX8_site_24 : decode cX8_site 24 = .ok (.iinc 1 1, 3) := by decide +kernel
theorem dX8_site_27 : decode cX8_site 27 = .ok (.goto (-16), 3) := by decide +kernel
theorem dX8_site_30 : decode cX8_site 30 = .ok (.aload_n 0, 1) := by decide +kernel
theorem dX8_site_31 : decode cX8_site 31 = .ok (.getfield 22, 3) := by decide +kernel
theorem dX8_site_34 : decode cX8_site 34 = .ok (.iconst 0, 1) := by decide +kernel
theorem dX8_site_35 : decode cX8_site 35 = .ok (.iconst 1, 1) := by decide +kernel
theorem dX8_site_36 : decode cX8_site 36 = .ok (.iastore, 1) := by decide +kernel
theorem dX8_site_37 : decode cX8_site 37 = .ok (.aload_n 0, 1) := by decide +kernel
theorem dX8_site_38 : decode cX8_site 38 = .ok (.aload_n 0, 1) := by decide +kernel
theorem dX8_site_39 : decode cX8_site 39 = .ok (.bipush 110, 2) := by decide +kernel
theorem dX8_site_41 : decode cX8_site 41 = .ok (.invokevirtual 125, 3) := by decide +kernel
theorem dX8_site_44 : decode cX8_site 44 = .ok (.invokevirtual 115, 3) := by decide +kernel
theorem dX8_site_47 : decode cX8_site 47 = .ok (.aload_n 0, 1) := by decide +kernel
theorem dX8_site_48 : decode cX8_site 48 = .ok (.getfield 22, 3) := by decide +kernel
theorem dX8_site_51 : decode cX8_site 51 = .ok (.iconst 1, 1) := by decide +kernel
theorem dX8_site_52 : decode cX8_site 52 = .ok (.aload_n 0, 1) := by decide +kernel
theorem dX8_site_53 : decode cX8_site 53 = .ok (.iconst 0, 1) := by decide +kernel
theorem dX8_site_54 : decode cX8_site 54 = .ok (.bipush 9, 2) := by decide +kernel
theorem dX8_site_56 : decode cX8_site 56 = .ok (.invokevirtual 128, 3) := by decide +kernel
theorem dX8_site_59 : decode cX8_site 59 = .ok (.iastore, 1) := by decide +kernel
theorem dX8_site_60 : decode cX8_site 60 = .ok (.aload_n 0, 1) := by decide +kernel
theorem dX8_site_61 : decode cX8_site 61 = .ok (.bipush 44, 2) := by decide +kernel
theorem dX8_site_63 : decode cX8_site 63 = .ok (.invokevirtual 132, 3) := by decide +kernel
theorem dX8_site_66 : decode cX8_site 66 = .ok (.aload_n 0, 1) := by decide +kernel
theorem dX8_site_67 : decode cX8_site 67 = .ok (.getfield 22, 3) := by decide +kernel
theorem dX8_site_70 : decode cX8_site 70 = .ok (.iconst 2, 1) := by decide +kernel
theorem dX8_site_71 : decode cX8_site 71 = .ok (.aload_n 0, 1) := by decide +kernel
theorem dX8_site_72 : decode cX8_site 72 = .ok (.iconst 0, 1) := by decide +kernel
theorem dX8_site_73 : decode cX8_site 73 = .ok (.bipush 9, 2) := by decide +kernel
theorem dX8_site_75 : decode cX8_site 75 = .ok (.invokevirtual 128, 3) := by decide +kernel
theorem dX8_site_78 : decode cX8_site 78 = .ok (.iastore, 1) := by decide +kernel
theorem dX8_site_79 : decode cX8_site 79 = .ok (.aload_n 0, 1) := by decide +kernel
theorem dX8_site_80 : decode cX8_site 80 = .ok (.bipush 44, 2) := by decide +kernel
theorem dX8_site_82 : decode cX8_site 82 = .ok (.invokevirtual 132, 3) := by decide +kernel
theorem dX8_site_85 : decode cX8_site 85 = .ok (.aload_n 0, 1) := by decide +kernel
theorem dX8_site_86 : decode cX8_site 86 = .ok (.getfield 22, 3) := by decide +kernel
theorem dX8_site_89 : decode cX8_site 89 = .ok (.iconst 3, 1) := by decide +kernel
theorem dX8_site_90 : decode cX8_site 90 = .ok (.aload_n 0, 1) := by decide +kernel
theorem dX8_site_91 : decode cX8_site 91 = .ok (.iconst 1, 1) := by decide +kernel
theorem dX8_site_92 : decode cX8_site 92 = .ok (.bipush 9, 2) := by decide +kernel
theorem dX8_site_94 : decode cX8_site 94 = .ok (.invokevirtual 128, 3) := by decide +kernel
theorem dX8_site_97 : decode cX8_site 97 = .ok (.iastore, 1) := by decide +kernel
theorem dX8_site_98 : decode cX8_site 98 = .ok (.aload_n 0, 1) := by decide +kernel
theorem dX8_site_99 : decode cX8_site 99 = .ok (.bipush 59, 2) := by decide +kernel
theorem dX8_site_101 : decode cX8_site 101 = .ok (.invokevirtual 132, 3) := by decide +kernel
theorem dX8_site_104 : decode cX8_site 104 = .ok (.iconst 0, 1) := by decide +kernel
theorem dX8_site_105 : decode cX8_site 105 = .ok (.istore_n 1, 1) := by decide +kernel
theorem dX8_site_106 : decode cX8_site 106 = .ok (.iload_n 1, 1) := by decide +kernel
theorem dX8_site_107 : decode cX8_site 107 = .ok (.iconst 3, 1) := by decide +kernel
theorem dX8_site_108 : decode cX8_site 108 = .ok (.if_icmp .ge 14, 3) := by decide +kernel
theorem dX8_site_111 : decode cX8_site 111 = .ok (.aload_n 0, 1) := by decide +kernel
theorem dX8_site_112 : decode cX8_site 112 = .ok (.iload_n 1, 1) := by decide +kernel
theorem dX8_site_113 : decode cX8_site 113 = .ok (.invokevirtual 138, 3) := by decide +kernel
theorem dX8_site_116 : decode cX8_site 116 = .ok (.iinc 1 1, 3) := by decide +kernel
theorem dX8_site_119 : decode cX8_site 119 = .ok (.goto (-13), 3) := by decide +kernel
theorem dX8_site_122 : decode cX8_site 122 = .ok (.aload_n 0, 1) := by decide +kernel
theorem dX8_site_123 : decode cX8_site 123 = .ok (.bipush 119, 2) := by decide +kernel
theorem dX8_site_125 : decode cX8_site 125 = .ok (.invokevirtual 125, 3) := by decide +kernel
theorem dX8_site_128 : decode cX8_site 128 = .ok (.ifCond .eq 8, 3) := by decide +kernel
theorem dX8_site_131 : decode cX8_site 131 = .ok (.aload_n 0, 1) := by decide +kernel
theorem dX8_site_132 : decode cX8_site 132 = .ok (.iconst 3, 1) := by decide +kernel
theorem dX8_site_133 : decode cX8_site 133 = .ok (.invokevirtual 108, 3) := by decide +kernel
theorem dX8_site_136 : decode cX8_site 136 = .ok (.aload_n 0, 1) := by decide +kernel
theorem dX8_site_137 : decode cX8_site 137 = .ok (.invokevirtual 141, 3) := by decide +kernel
theorem dX8_site_140 : decode cX8_site 140 = .ok (.ifCond .ne 8, 3) := by decide +kernel
theorem dX8_site_143 : decode cX8_site 143 = .ok (.aload_n 0, 1) := by decide +kernel
theorem dX8_site_144 : decode cX8_site 144 = .ok (.iconst 1, 1) := by decide +kernel
theorem dX8_site_145 : decode cX8_site 145 = .ok (.invokevirtual 108, 3) := by decide +kernel
theorem dX8_site_148 : decode cX8_site 148 = .ok (.aload_n 0, 1) := by decide +kernel
theorem dX8_site_149 : decode cX8_site 149 = .ok (.invokevirtual 141, 3) := by decide +kernel
theorem dX8_site_152 : decode cX8_site 152 = .ok (.ifCond .eq 10, 3) := by decide +kernel
theorem dX8_site_155 : decode cX8_site 155 = .ok (.aload_n 0, 1) := by decide +kernel
theorem dX8_site_156 : decode cX8_site 156 = .ok (.invokevirtual 145, 3) := by decide +kernel
theorem dX8_site_159 : decode cX8_site 159 = .ok (.goto (-11), 3) := by decide +kernel
theorem dX8_site_162 : decode cX8_site 162 = .ok (.aload_n 0, 1) := by decide +kernel
theorem dX8_site_163 : decode cX8_site 163 = .ok (.invokevirtual 148, 3) := by decide +kernel
theorem dX8_site_166 : decode cX8_site 166 = .ok (.ifCond .eq 11, 3) := by decide +kernel
theorem dX8_site_169 : decode cX8_site 169 = .ok (.ldc 151, 2) := by decide +kernel
theorem dX8_site_171 : decode cX8_site 171 = .ok (.aload_n 0, 1) := by decide +kernel
theorem dX8_site_172 : decode cX8_site 172 = .ok (.getfield 87, 3) := by decide +kernel
theorem dX8_site_175 : decode cX8_site 175 = .ok (.isub, 1) := by decide +kernel
theorem dX8_site_176 : decode cX8_site 176 = .ok (.ireturn, 1) := by decide +kernel
theorem dX8_site_177 : decode cX8_site 177 = .ok (.aload_n 0, 1) := by decide +kernel
theorem dX8_site_178 : decode cX8_site 178 = .ok (.iconst 0, 1) := by decide +kernel
theorem dX8_site_179 : decode cX8_site 179 = .ok (.putfield 152, 3) := by decide +kernel
theorem dX8_site_182 : decode cX8_site 182 = .ok (.iconst 0, 1) := by decide +kernel
theorem dX8_site_183 : decode cX8_site 183 = .ok (.istore_n 1, 1) := by decide +kernel
theorem dX8_site_184 : decode cX8_site 184 = .ok (.iload_n 1, 1) := by decide +kernel
theorem dX8_site_185 : decode cX8_site 185 = .ok (.bipush 34, 2) := by decide +kernel
theorem dX8_site_187 : decode cX8_site 187 = .ok (.if_icmp .ge 21, 3) := by decide +kernel
theorem dX8_site_190 : decode cX8_site 190 = .ok (.aload_n 0, 1) := by decide +kernel
theorem dX8_site_191 : decode cX8_site 191 = .ok (.getfield 19, 3) := by decide +kernel
theorem dX8_site_194 : decode cX8_site 194 = .ok (.iload_n 1, 1) := by decide +kernel
theorem dX8_site_195 : decode cX8_site 195 = .ok (.aload_n 0, 1) := by decide +kernel
theorem dX8_site_196 : decode cX8_site 196 = .ok (.getfield 22, 3) := by decide +kernel
theorem dX8_site_199 : decode cX8_site 199 = .ok (.iload_n 1, 1) := by decide +kernel
theorem dX8_site_200 : decode cX8_site 200 = .ok (.iaload, 1) := by decide +kernel
theorem dX8_site_201 : decode cX8_site 201 = .ok (.iastore, 1) := by decide +kernel
theorem dX8_site_202 : decode cX8_site 202 = .ok (.iinc 1 1, 3) := by decide +kernel
theorem dX8_site_205 : decode cX8_site 205 = .ok (.goto (-21), 3) := by decide +kernel
theorem dX8_site_208 : decode cX8_site 208 = .ok (.aload_n 0, 1) := by decide +kernel
theorem dX8_site_209 : decode cX8_site 209 = .ok (.getfield 19, 3) := by decide +kernel
theorem dX8_site_212 : decode cX8_site 212 = .ok (.iconst 5, 1) := by decide +kernel
theorem dX8_site_213 : decode cX8_site 213 = .ok (.iaload, 1) := by decide +kernel
theorem dX8_site_214 : decode cX8_site 214 = .ok (.ireturn, 1) := by decide +kernel
theorem dX8_isThere_0 : decode cX8_isThere 0 = .ok (.aload_n 0, 1) := by decide +kernel
theorem dX8_isThere_1 : decode cX8_isThere 1 = .ok (.getfield 19, 3) := by decide +kernel
theorem dX8_isThere_4 : decode cX8_isThere 4 = .ok (.iconst 0, 1) := by decide +kernel
theorem dX8_isThere_5 : decode cX8_isThere 5 = .ok (.iaload, 1) := by decide +kernel
theorem dX8_isThere_6 : decode cX8_isThere 6 = .ok (.iconst 1, 1) := by decide +kernel
theorem dX8_isThere_7 : decode cX8_isThere 7 = .ok (.if_icmp .ne 7, 3) := by decide +kernel
theorem dX8_isThere_10 : decode cX8_isThere 10 = .ok (.iconst 1, 1) := by decide +kernel
theorem dX8_isThere_11 : decode cX8_isThere 11 = .ok (.goto 4, 3) := by decide +kernel
theorem dX8_isThere_14 : decode cX8_isThere 14 = .ok (.iconst 0, 1) := by decide +kernel
theorem dX8_isThere_15 : decode cX8_isThere 15 = .ok (.ireturn, 1) := by decide +kernel
theorem dX8_isDeed_0 : decode cX8_isDeed 0 = .ok (.iload_n 1, 1) := by decide +kernel
theorem dX8_isDeed_1 : decode cX8_isDeed 1 = .ok (.i2l, 1) := by decide +kernel
theorem dX8_isDeed_2 : decode cX8_isDeed 2 = .ok (.lconst 0, 1) := by decide +kernel
theorem dX8_isDeed_3 : decode cX8_isDeed 3 = .ok (.aload_n 0, 1) := by decide +kernel
theorem dX8_isDeed_4 : decode cX8_isDeed 4 = .ok (.getfield 19, 3) := by decide +kernel
theorem dX8_isDeed_7 : decode cX8_isDeed 7 = .ok (.iconst 5, 1) := by decide +kernel
theorem dX8_isDeed_8 : decode cX8_isDeed 8 = .ok (.iaload, 1) := by decide +kernel
theorem dX8_isDeed_9 : decode cX8_isDeed 9 = .ok (.iconst 1, 1) := by decide +kernel
theorem dX8_isDeed_10 : decode cX8_isDeed 10 = .ok (.isub, 1) := by decide +kernel
theorem dX8_isDeed_11 : decode cX8_isDeed 11 = .ok (.i2l, 1) := by decide +kernel
theorem dX8_isDeed_12 : decode cX8_isDeed 12 = .ok (.invokestatic 60, 3) := by decide +kernel
theorem dX8_isDeed_15 : decode cX8_isDeed 15 = .ok (.ireturn, 1) := by decide +kernel
theorem dX8_isFoot_0 : decode cX8_isFoot 0 = .ok (.iload_n 0, 1) := by decide +kernel
theorem dX8_isFoot_1 : decode cX8_isFoot 1 = .ok (.i2l, 1) := by decide +kernel
theorem dX8_isFoot_2 : decode cX8_isFoot 2 = .ok (.lconst 0, 1) := by decide +kernel
theorem dX8_isFoot_3 : decode cX8_isFoot 3 = .ok (.ldc2_w 68, 3) := by decide +kernel
theorem dX8_isFoot_6 : decode cX8_isFoot 6 = .ok (.invokestatic 60, 3) := by decide +kernel
theorem dX8_isFoot_9 : decode cX8_isFoot 9 = .ok (.ireturn, 1) := by decide +kernel
theorem dX8_of_0 : decode cX8_of 0 = .ok (.aload_n 0, 1) := by decide +kernel
theorem dX8_of_1 : decode cX8_of 1 = .ok (.bipush 13, 2) := by decide +kernel
theorem dX8_of_3 : decode cX8_of 3 = .ok (.iconst 3, 1) := by decide +kernel
theorem dX8_of_4 : decode cX8_of 4 = .ok (.iload_n 1, 1) := by decide +kernel
theorem dX8_of_5 : decode cX8_of 5 = .ok (.imul, 1) := by decide +kernel
theorem dX8_of_6 : decode cX8_of 6 = .ok (.iadd, 1) := by decide +kernel
theorem dX8_of_7 : decode cX8_of 7 = .ok (.iload_n 2, 1) := by decide +kernel
theorem dX8_of_8 : decode cX8_of 8 = .ok (.iadd, 1) := by decide +kernel
theorem dX8_of_9 : decode cX8_of 9 = .ok (.iaload, 1) := by decide +kernel
theorem dX8_of_10 : decode cX8_of 10 = .ok (.ireturn, 1) := by decide +kernel
theorem dX8_sideOf_0 : decode cX8_sideOf 0 = .ok (.aload_n 0, 1) := by decide +kernel
theorem dX8_sideOf_1 : decode cX8_sideOf 1 = .ok (.bipush 7, 2) := by decide +kernel
theorem dX8_sideOf_3 : decode cX8_sideOf 3 = .ok (.iaload, 1) := by decide +kernel
theorem dX8_sideOf_4 : decode cX8_sideOf 4 = .ok (.aload_n 0, 1) := by decide +kernel
theorem dX8_sideOf_5 : decode cX8_sideOf 5 = .ok (.bipush 8, 2) := by decide +kernel
theorem dX8_sideOf_7 : decode cX8_sideOf 7 = .ok (.iaload, 1) := by decide +kernel
theorem dX8_sideOf_8 : decode cX8_sideOf 8 = .ok (.isub, 1) := by decide +kernel
theorem dX8_sideOf_9 : decode cX8_sideOf 9 = .ok (.ireturn, 1) := by decide +kernel
theorem dX8_middleOf_0 : decode cX8_middleOf 0 = .ok (.aload_n 0, 1) := by decide +kernel
theorem dX8_middleOf_1 : decode cX8_middleOf 1 = .ok (.bipush 7, 2) := by decide +kernel
theorem dX8_middleOf_3 : decode cX8_middleOf 3 = .ok (.iaload, 1) := by decide +kernel
theorem dX8_middleOf_4 : decode cX8_middleOf 4 = .ok (.aload_n 0, 1) := by decide +kernel
theorem dX8_middleOf_5 : decode cX8_middleOf 5 = .ok (.bipush 8, 2) := by decide +kernel
theorem dX8_middleOf_7 : decode cX8_middleOf 7 = .ok (.iaload, 1) := by decide +kernel
theorem dX8_middleOf_8 : decode cX8_middleOf 8 = .ok (.iadd, 1) := by decide +kernel
theorem dX8_middleOf_9 : decode cX8_middleOf 9 = .ok (.iconst 2, 1) := by decide +kernel
theorem dX8_middleOf_10 : decode cX8_middleOf 10 = .ok (.idiv, 1) := by decide +kernel
theorem dX8_middleOf_11 : decode cX8_middleOf 11 = .ok (.ireturn, 1) := by decide +kernel
theorem dX8_alongOf_0 : decode cX8_alongOf 0 = .ok (.aload_n 0, 1) := by decide +kernel
theorem dX8_alongOf_1 : decode cX8_alongOf 1 = .ok (.bipush 9, 2) := by decide +kernel
theorem dX8_alongOf_3 : decode cX8_alongOf 3 = .ok (.iaload, 1) := by decide +kernel
theorem dX8_alongOf_4 : decode cX8_alongOf 4 = .ok (.aload_n 0, 1) := by decide +kernel
theorem dX8_alongOf_5 : decode cX8_alongOf 5 = .ok (.invokestatic 155, 3) := by decide +kernel
theorem dX8_alongOf_8 : decode cX8_alongOf 8 = .ok (.isub, 1) := by decide +kernel
theorem dX8_alongOf_9 : decode cX8_alongOf 9 = .ok (.ireturn, 1) := by decide +kernel
theorem dX8_off_0 : decode cX8_off 0 = .ok (.iload_n 0, 1) := by decide +kernel
theorem dX8_off_1 : decode cX8_off 1 = .ok (.ifCond .ge 8, 3) := by decide +kernel
theorem dX8_off_4 : decode cX8_off 4 = .ok (.iload_n 0, 1) := by decide +kernel
theorem dX8_off_5 : decode cX8_off 5 = .ok (.ineg, 1) := by decide +kernel
theorem dX8_off_6 : decode cX8_off 6 = .ok (.goto 4, 3) := by decide +kernel
theorem dX8_off_9 : decode cX8_off 9 = .ok (.iload_n 0, 1) := by decide +kernel
theorem dX8_off_10 : decode cX8_off 10 = .ok (.ireturn, 1) := by decide +kernel
theorem dX8_awryOf_0 : decode cX8_awryOf 0 = .ok (.aload_n 0, 1) := by decide +kernel
theorem dX8_awryOf_1 : decode cX8_awryOf 1 = .ok (.invokestatic 159, 3) := by decide +kernel
theorem dX8_awryOf_4 : decode cX8_awryOf 4 = .ok (.invokestatic 162, 3) := by decide +kernel
theorem dX8_awryOf_7 : decode cX8_awryOf 7 = .ok (.aload_n 0, 1) := by decide +kernel
theorem dX8_awryOf_8 : decode cX8_awryOf 8 = .ok (.invokestatic 165, 3) := by decide +kernel
theorem dX8_awryOf_11 : decode cX8_awryOf 11 = .ok (.invokestatic 162, 3) := by decide +kernel
theorem dX8_awryOf_14 : decode cX8_awryOf 14 = .ok (.iadd, 1) := by decide +kernel
theorem dX8_awryOf_15 : decode cX8_awryOf 15 = .ok (.ireturn, 1) := by decide +kernel
theorem dX8_isLevel_0 : decode cX8_isLevel 0 = .ok (.aload_n 0, 1) := by decide +kernel
theorem dX8_isLevel_1 : decode cX8_isLevel 1 = .ok (.invokestatic 159, 3) := by decide +kernel
theorem dX8_isLevel_4 : decode cX8_isLevel 4 = .ok (.invokestatic 162, 3) := by decide +kernel
theorem dX8_isLevel_7 : decode cX8_isLevel 7 = .ok (.aload_n 0, 1) := by decide +kernel
theorem dX8_isLevel_8 : decode cX8_isLevel 8 = .ok (.iconst 1, 1) := by decide +kernel
theorem dX8_isLevel_9 : decode cX8_isLevel 9 = .ok (.iaload, 1) := by decide +kernel
theorem dX8_isLevel_10 : decode cX8_isLevel 10 = .ok (.if_icmp .gt 20, 3) := by decide +kernel
theorem dX8_isLevel_13 : decode cX8_isLevel 13 = .ok (.aload_n 0, 1) := by decide +kernel
theorem dX8_isLevel_14 : decode cX8_isLevel 14 = .ok (.invokestatic 165, 3) := by decide +kernel
theorem dX8_isLevel_17 : decode cX8_isLevel 17 = .ok (.invokestatic 162, 3) := by decide +kernel
theorem dX8_isLevel_20 : decode cX8_isLevel 20 = .ok (.aload_n 0, 1) := by decide +kernel
theorem dX8_isLevel_21 : decode cX8_isLevel 21 = .ok (.iconst 2, 1) := by decide +kernel
theorem dX8_isLevel_22 : decode cX8_isLevel 22 = .ok (.iaload, 1) := by decide +kernel
theorem dX8_isLevel_23 : decode cX8_isLevel 23 = .ok (.if_icmp .gt 7, 3) := by decide +kernel
theorem dX8_isLevel_26 : decode cX8_isLevel 26 = .ok (.iconst 1, 1) := by decide +kernel
theorem dX8_isLevel_27 : decode cX8_isLevel 27 = .ok (.goto 4, 3) := by decide +kernel
theorem dX8_isLevel_30 : decode cX8_isLevel 30 = .ok (.iconst 0, 1) := by decide +kernel
theorem dX8_isLevel_31 : decode cX8_isLevel 31 = .ok (.ireturn, 1) := by decide +kernel
theorem dX8_lifts_0 : decode cX8_lifts 0 = .ok (.aload_n 0, 1) := by decide +kernel
theorem dX8_lifts_1 : decode cX8_lifts 1 = .ok (.bipush 7, 2) := by decide +kernel
theorem dX8_lifts_3 : decode cX8_lifts 3 = .ok (.iload_n 1, 1) := by decide +kernel
theorem dX8_lifts_4 : decode cX8_lifts 4 = .ok (.iadd, 1) := by decide +kernel
theorem dX8_lifts_5 : decode cX8_lifts 5 = .ok (.iaload, 1) := by decide +kernel
theorem dX8_lifts_6 : decode cX8_lifts 6 = .ok (.iload_n 2, 1) := by decide +kernel
theorem dX8_lifts_7 : decode cX8_lifts 7 = .ok (.iadd, 1) := by decide +kernel
theorem dX8_lifts_8 : decode cX8_lifts 8 = .ok (.istore_n 3, 1) := by decide +kernel
theorem dX8_lifts_9 : decode cX8_lifts 9 = .ok (.aload_n 0, 1) := by decide +kernel
theorem dX8_lifts_10 : decode cX8_lifts 10 = .ok (.bipush 7, 2) := by decide +kernel
theorem dX8_lifts_12 : decode cX8_lifts 12 = .ok (.iload_n 1, 1) := by decide +kernel
theorem dX8_lifts_13 : decode cX8_lifts 13 = .ok (.iadd, 1) := by decide +kernel
theorem dX8_lifts_14 : decode cX8_lifts 14 = .ok (.iload_n 3, 1) := by decide +kernel
theorem dX8_lifts_15 : decode cX8_lifts 15 = .ok (.ifCond .ge 7, 3) := by decide +kernel
theorem dX8_lifts_18 : decode cX8_lifts 18 = .ok (.iconst 0, 1) := by decide +kernel
theorem dX8_lifts_19 : decode cX8_lifts 19 = .ok (.goto 15, 3) := by decide +kernel
theorem dX8_lifts_22 : decode cX8_lifts 22 = .ok (.iload_n 3, 1) := by decide +kernel
theorem dX8_lifts_23 : decode cX8_lifts 23 = .ok (.bipush 99, 2) := by decide +kernel
theorem dX8_lifts_25 : decode cX8_lifts 25 = .ok (.if_icmp .le 8, 3) := by decide +kernel
theorem dX8_lifts_28 : decode cX8_lifts 28 = .ok (.bipush 99, 2) := by decide +kernel
theorem dX8_lifts_30 : decode cX8_lifts 30 = .ok (.goto 4, 3) := by decide +kernel
theorem dX8_lifts_33 : decode cX8_lifts 33 = .ok (.iload_n 3, 1) := by decide +kernel
theorem dX8_lifts_34 : decode cX8_lifts 34 = .ok (.iastore, 1) := by decide +kernel
theorem dX8_lifts_35 : decode cX8_lifts 35 = .ok (.return_, 1) := by decide +kernel
theorem dX8_winds_0 : decode cX8_winds 0 = .ok (.aload_n 0, 1) := by decide +kernel
theorem dX8_winds_1 : decode cX8_winds 1 = .ok (.iconst 2, 1) := by decide +kernel
theorem dX8_winds_2 : decode cX8_winds 2 = .ok (.aload_n 0, 1) := by decide +kernel
theorem dX8_winds_3 : decode cX8_winds 3 = .ok (.invokestatic 165, 3) := by decide +kernel
theorem dX8_winds_6 : decode cX8_winds 6 = .ok (.ifCond .ge 7, 3) := by decide +kernel
theorem dX8_winds_9 : decode cX8_winds 9 = .ok (.iload_n 1, 1) := by decide +kernel
theorem dX8_winds_10 : decode cX8_winds 10 = .ok (.goto 5, 3) := by decide +kernel
theorem dX8_winds_13 : decode cX8_winds 13 = .ok (.iload_n 1, 1) := by decide +kernel
theorem dX8_winds_14 : decode cX8_winds 14 = .ok (.ineg, 1) := by decide +kernel
theorem dX8_winds_15 : decode cX8_winds 15 = .ok (.invokestatic 168, 3) := by decide +kernel
theorem dX8_winds_18 : decode cX8_winds 18 = .ok (.return_, 1) := by decide +kernel
theorem dX8_does_0 : decode cX8_does 0 = .ok (.aload_n 0, 1) := by decide +kernel
theorem dX8_does_1 : decode cX8_does 1 = .ok (.iload_n 1, 1) := by decide +kernel
theorem dX8_does_2 : decode cX8_does 2 = .ok (.iconst 1, 1) := by decide +kernel
theorem dX8_does_3 : decode cX8_does 3 = .ok (.invokestatic 172, 3) := by decide +kernel
theorem dX8_does_6 : decode cX8_does 6 = .ok (.istore_n 2, 1) := by decide +kernel
theorem dX8_does_7 : decode cX8_does 7 = .ok (.aload_n 0, 1) := by decide +kernel
theorem dX8_does_8 : decode cX8_does 8 = .ok (.iload_n 1, 1) := by decide +kernel
theorem dX8_does_9 : decode cX8_does 9 = .ok (.iconst 2, 1) := by decide +kernel
theorem dX8_does_10 : decode cX8_does 10 = .ok (.invokestatic 172, 3) := by decide +kernel
theorem dX8_does_13 : decode cX8_does 13 = .ok (.istore_n 3, 1) := by decide +kernel
theorem dX8_does_14 : decode cX8_does 14 = .ok (.aload_n 0, 1) := by decide +kernel
theorem dX8_does_15 : decode cX8_does 15 = .ok (.iload_n 1, 1) := by decide +kernel
theorem dX8_does_16 : decode cX8_does 16 = .ok (.iconst 0, 1) := by decide +kernel
theorem dX8_does_17 : decode cX8_does 17 = .ok (.invokestatic 172, 3) := by decide +kernel
theorem dX8_does_20 : decode cX8_does 20 = .ok (.tableswitch 96 1 4 #[32, 41, 54, 88], 32) := by decide +kernel
theorem dX8_does_52 : decode cX8_does 52 = .ok (.aload_n 0, 1) := by decide +kernel
theorem dX8_does_53 : decode cX8_does 53 = .ok (.iload_n 2, 1) := by decide +kernel
theorem dX8_does_54 : decode cX8_does 54 = .ok (.iload_n 3, 1) := by decide +kernel
theorem dX8_does_55 : decode cX8_does 55 = .ok (.invokestatic 168, 3) := by decide +kernel
theorem dX8_does_58 : decode cX8_does 58 = .ok (.goto 106, 3) := by decide +kernel
theorem dX8_does_61 : decode cX8_does 61 = .ok (.aload_n 0, 1) := by decide +kernel
theorem dX8_does_62 : decode cX8_does 62 = .ok (.iload_n 2, 1) := by decide +kernel
theorem dX8_does_63 : decode cX8_does 63 = .ok (.iload_n 3, 1) := by decide +kernel
theorem dX8_does_64 : decode cX8_does 64 = .ok (.iconst 2, 1) := by decide +kernel
theorem dX8_does_65 : decode cX8_does 65 = .ok (.idiv, 1) := by decide +kernel
theorem dX8_does_66 : decode cX8_does 66 = .ok (.iconst 1, 1) := by decide +kernel
theorem dX8_does_67 : decode cX8_does 67 = .ok (.iadd, 1) := by decide +kernel
theorem dX8_does_68 : decode cX8_does 68 = .ok (.invokestatic 168, 3) := by decide +kernel
theorem dX8_does_71 : decode cX8_does 71 = .ok (.goto 93, 3) := by decide +kernel
theorem dX8_does_74 : decode cX8_does 74 = .ok (.aload_n 0, 1) := by decide +kernel
theorem dX8_does_75 : decode cX8_does 75 = .ok (.iload_n 2, 1) := by decide +kernel
theorem dX8_does_76 : decode cX8_does 76 = .ok (.iload_n 3, 1) := by decide +kernel
theorem dX8_does_77 : decode cX8_does 77 = .ok (.invokestatic 168, 3) := by decide +kernel
theorem dX8_does_80 : decode cX8_does 80 = .ok (.aload_n 0, 1) := by decide +kernel
theorem dX8_does_81 : decode cX8_does 81 = .ok (.bipush 10, 2) := by decide +kernel
theorem dX8_does_83 : decode cX8_does 83 = .ok (.iload_n 2, 1) := by decide +kernel
theorem dX8_does_84 : decode cX8_does 84 = .ok (.iadd, 1) := by decide +kernel
theorem dX8_does_85 : decode cX8_does 85 = .ok (.dup2, 1) := by decide +kernel
theorem dX8_does_86 : decode cX8_does 86 = .ok (.iaload, 1) := by decide +kernel
theorem dX8_does_87 : decode cX8_does 87 = .ok (.aload_n 0, 1) := by decide +kernel
theorem dX8_does_88 : decode cX8_does 88 = .ok (.bipush 10, 2) := by decide +kernel
theorem dX8_does_90 : decode cX8_does 90 = .ok (.iload_n 2, 1) := by decide +kernel
theorem dX8_does_91 : decode cX8_does 91 = .ok (.iadd, 1) := by decide +kernel
theorem dX8_does_92 : decode cX8_does 92 = .ok (.iaload, 1) := by decide +kernel
theorem dX8_does_93 : decode cX8_does 93 = .ok (.bipush 9, 2) := by decide +kernel
theorem dX8_does_95 : decode cX8_does 95 = .ok (.if_icmp .ge 7, 3) := by decide +kernel
theorem dX8_does_98 : decode cX8_does 98 = .ok (.iconst 1, 1) := by decide +kernel
theorem dX8_does_99 : decode cX8_does 99 = .ok (.goto 4, 3) := by decide +kernel
theorem dX8_does_102 : decode cX8_does 102 = .ok (.iconst 0, 1) := by decide +kernel
theorem dX8_does_103 : decode cX8_does 103 = .ok (.iadd, 1) := by decide +kernel
theorem dX8_does_104 : decode cX8_does 104 = .ok (.iastore, 1) := by decide +kernel
theorem dX8_does_105 : decode cX8_does 105 = .ok (.goto 59, 3) := by decide +kernel
theorem dX8_does_108 : decode cX8_does 108 = .ok (.aload_n 0, 1) := by decide +kernel
theorem dX8_does_109 : decode cX8_does 109 = .ok (.iload_n 3, 1) := by decide +kernel
theorem dX8_does_110 : decode cX8_does 110 = .ok (.invokestatic 176, 3) := by decide +kernel
theorem dX8_does_113 : decode cX8_does 113 = .ok (.goto 51, 3) := by decide +kernel
theorem dX8_does_116 : decode cX8_does 116 = .ok (.bipush 7, 2) := by decide +kernel
theorem dX8_does_118 : decode cX8_does 118 = .ok (.istore 4, 2) := by decide +kernel
theorem dX8_does_120 : decode cX8_does 120 = .ok (.iload 4, 2) := by decide +kernel
theorem dX8_does_122 : decode cX8_does 122 = .ok (.bipush 10, 2) := by decide +kernel
theorem dX8_does_124 : decode cX8_does 124 = .ok (.if_icmp .gt 33, 3) := by decide +kernel
theorem dX8_does_127 : decode cX8_does 127 = .ok (.aload_n 0, 1) := by decide +kernel
theorem dX8_does_128 : decode cX8_does 128 = .ok (.iload 4, 2) := by decide +kernel
theorem dX8_does_130 : decode cX8_does 130 = .ok (.iaload, 1) := by decide +kernel
theorem dX8_does_131 : decode cX8_does 131 = .ok (.istore 5, 2) := by decide +kernel
theorem dX8_does_133 : decode cX8_does 133 = .ok (.aload_n 0, 1) := by decide +kernel
theorem dX8_does_134 : decode cX8_does 134 = .ok (.iload 4, 2) := by decide +kernel
theorem dX8_does_136 : decode cX8_does 136 = .ok (.aload_n 0, 1) := by decide +kernel
theorem dX8_does_137 : decode cX8_does 137 = .ok (.iload 4, 2) := by decide +kernel
theorem dX8_does_139 : decode cX8_does 139 = .ok (.iconst 1, 1) := by decide +kernel
theorem dX8_does_140 : decode cX8_does 140 = .ok (.iadd, 1) := by decide +kernel
theorem dX8_does_141 : decode cX8_does 141 = .ok (.iaload, 1) := by decide +kernel
theorem dX8_does_142 : decode cX8_does 142 = .ok (.iastore, 1) := by decide +kernel
theorem dX8_does_143 : decode cX8_does 143 = .ok (.aload_n 0, 1) := by decide +kernel
theorem dX8_does_144 : decode cX8_does 144 = .ok (.iload 4, 2) := by decide +kernel
theorem dX8_does_146 : decode cX8_does 146 = .ok (.iconst 1, 1) := by decide +kernel
theorem dX8_does_147 : decode cX8_does 147 = .ok (.iadd, 1) := by decide +kernel
theorem dX8_does_148 : decode cX8_does 148 = .ok (.iload 5, 2) := by decide +kernel
theorem dX8_does_150 : decode cX8_does 150 = .ok (.iastore, 1) := by decide +kernel
theorem dX8_does_151 : decode cX8_does 151 = .ok (.iinc 4 3, 3) := by decide +kernel
theorem dX8_does_154 : decode cX8_does 154 = .ok (.goto (-34), 3) := by decide +kernel
theorem dX8_does_157 : decode cX8_does 157 = .ok (.aload_n 0, 1) := by decide +kernel
theorem dX8_does_158 : decode cX8_does 158 = .ok (.iload_n 3, 1) := by decide +kernel
theorem dX8_does_159 : decode cX8_does 159 = .ok (.iconst 2, 1) := by decide +kernel
theorem dX8_does_160 : decode cX8_does 160 = .ok (.idiv, 1) := by decide +kernel
theorem dX8_does_161 : decode cX8_does 161 = .ok (.invokestatic 176, 3) := by decide +kernel
theorem dX8_does_164 : decode cX8_does 164 = .ok (.aload_n 0, 1) := by decide +kernel
theorem dX8_does_165 : decode cX8_does 165 = .ok (.bipush 6, 2) := by decide +kernel
theorem dX8_does_167 : decode cX8_does 167 = .ok (.dup2, 1) := by decide +kernel
theorem dX8_does_168 : decode cX8_does 168 = .ok (.iaload, 1) := by decide +kernel
theorem dX8_does_169 : decode cX8_does 169 = .ok (.iconst 1, 1) := by decide +kernel
theorem dX8_does_170 : decode cX8_does 170 = .ok (.iload_n 1, 1) := by decide +kernel
theorem dX8_does_171 : decode cX8_does 171 = .ok (.ishl, 1) := by decide +kernel
theorem dX8_does_172 : decode cX8_does 172 = .ok (.ior, 1) := by decide +kernel
theorem dX8_does_173 : decode cX8_does 173 = .ok (.iastore, 1) := by decide +kernel
theorem dX8_does_174 : decode cX8_does 174 = .ok (.return_, 1) := by decide +kernel
theorem dX8_hour_0 : decode cX8_hour 0 = .ok (.aload_n 0, 1) := by decide +kernel
theorem dX8_hour_1 : decode cX8_hour 1 = .ok (.iconst 4, 1) := by decide +kernel
theorem dX8_hour_2 : decode cX8_hour 2 = .ok (.iaload, 1) := by decide +kernel
theorem dX8_hour_3 : decode cX8_hour 3 = .ok (.aload_n 0, 1) := by decide +kernel
theorem dX8_hour_4 : decode cX8_hour 4 = .ok (.iconst 3, 1) := by decide +kernel
theorem dX8_hour_5 : decode cX8_hour 5 = .ok (.iaload, 1) := by decide +kernel
theorem dX8_hour_6 : decode cX8_hour 6 = .ok (.irem, 1) := by decide +kernel
theorem dX8_hour_7 : decode cX8_hour 7 = .ok (.ifCond .ne 28, 3) := by decide +kernel
theorem dX8_hour_10 : decode cX8_hour 10 = .ok (.iconst 0, 1) := by decide +kernel
theorem dX8_hour_11 : decode cX8_hour 11 = .ok (.istore_n 1, 1) := by decide +kernel
theorem dX8_hour_12 : decode cX8_hour 12 = .ok (.iload_n 1, 1) := by decide +kernel
theorem dX8_hour_13 : decode cX8_hour 13 = .ok (.iconst 3, 1) := by decide +kernel
theorem dX8_hour_14 : decode cX8_hour 14 = .ok (.if_icmp .ge 21, 3) := by decide +kernel
theorem dX8_hour_17 : decode cX8_hour 17 = .ok (.aload_n 0, 1) := by decide +kernel
theorem dX8_hour_18 : decode cX8_hour 18 = .ok (.iload_n 1, 1) := by decide +kernel
theorem dX8_hour_19 : decode cX8_hour 19 = .ok (.aload_n 0, 1) := by decide +kernel
theorem dX8_hour_20 : decode cX8_hour 20 = .ok (.bipush 10, 2) := by decide +kernel
theorem dX8_hour_22 : decode cX8_hour 22 = .ok (.iload_n 1, 1) := by decide +kernel
theorem dX8_hour_23 : decode cX8_hour 23 = .ok (.iadd, 1) := by decide +kernel
theorem dX8_hour_24 : decode cX8_hour 24 = .ok (.iaload, 1) := by decide +kernel
theorem dX8_hour_25 : decode cX8_hour 25 = .ok (.ineg, 1) := by decide +kernel
theorem dX8_hour_26 : decode cX8_hour 26 = .ok (.invokestatic 168, 3) := by decide +kernel
theorem dX8_hour_29 : decode cX8_hour 29 = .ok (.iinc 1 1, 3) := by decide +kernel
theorem dX8_hour_32 : decode cX8_hour 32 = .ok (.goto (-20), 3) := by decide +kernel
theorem dX8_hour_35 : decode cX8_hour 35 = .ok (.aload_n 0, 1) := by decide +kernel
theorem dX8_hour_36 : decode cX8_hour 36 = .ok (.iconst 4, 1) := by decide +kernel
theorem dX8_hour_37 : decode cX8_hour 37 = .ok (.dup2, 1) := by decide +kernel
theorem dX8_hour_38 : decode cX8_hour 38 = .ok (.iaload, 1) := by decide +kernel
theorem dX8_hour_39 : decode cX8_hour 39 = .ok (.iconst 1, 1) := by decide +kernel
theorem dX8_hour_40 : decode cX8_hour 40 = .ok (.iadd, 1) := by decide +kernel
theorem dX8_hour_41 : decode cX8_hour 41 = .ok (.iastore, 1) := by decide +kernel
theorem dX8_hour_42 : decode cX8_hour 42 = .ok (.return_, 1) := by decide +kernel
theorem dX8_hoursOf_0 : decode cX8_hoursOf 0 = .ok (.iconst 0, 1) := by decide +kernel
theorem dX8_hoursOf_1 : decode cX8_hoursOf 1 = .ok (.istore_n 2, 1) := by decide +kernel
theorem dX8_hoursOf_2 : decode cX8_hoursOf 2 = .ok (.iload_n 2, 1) := by decide +kernel
theorem dX8_hoursOf_3 : decode cX8_hoursOf 3 = .ok (.iload_n 1, 1) := by decide +kernel
theorem dX8_hoursOf_4 : decode cX8_hoursOf 4 = .ok (.if_icmp .ge 13, 3) := by decide +kernel
theorem dX8_hoursOf_7 : decode cX8_hoursOf 7 = .ok (.aload_n 0, 1) := by decide +kernel
theorem dX8_hoursOf_8 : decode cX8_hoursOf 8 = .ok (.invokestatic 180, 3) := by decide +kernel
theorem dX8_hoursOf_11 : decode cX8_hoursOf 11 = .ok (.iinc 2 1, 3) := by decide +kernel
theorem dX8_hoursOf_14 : decode cX8_hoursOf 14 = .ok (.goto (-12), 3) := by decide +kernel
theorem dX8_hoursOf_17 : decode cX8_hoursOf 17 = .ok (.return_, 1) := by decide +kernel
theorem dX8_isDone_0 : decode cX8_isDone 0 = .ok (.aload_n 0, 1) := by decide +kernel
theorem dX8_isDone_1 : decode cX8_isDone 1 = .ok (.getfield 19, 3) := by decide +kernel
theorem dX8_isDone_4 : decode cX8_isDone 4 = .ok (.bipush 6, 2) := by decide +kernel
theorem dX8_isDone_6 : decode cX8_isDone 6 = .ok (.iaload, 1) := by decide +kernel
theorem dX8_isDone_7 : decode cX8_isDone 7 = .ok (.iload_n 1, 1) := by decide +kernel
theorem dX8_isDone_8 : decode cX8_isDone 8 = .ok (.ishr, 1) := by decide +kernel
theorem dX8_isDone_9 : decode cX8_isDone 9 = .ok (.iconst 1, 1) := by decide +kernel
theorem dX8_isDone_10 : decode cX8_isDone 10 = .ok (.iand, 1) := by decide +kernel
theorem dX8_isDone_11 : decode cX8_isDone 11 = .ok (.iconst 1, 1) := by decide +kernel
theorem dX8_isDone_12 : decode cX8_isDone 12 = .ok (.if_icmp .ne 7, 3) := by decide +kernel
theorem dX8_isDone_15 : decode cX8_isDone 15 = .ok (.iconst 1, 1) := by decide +kernel
theorem dX8_isDone_16 : decode cX8_isDone 16 = .ok (.goto 4, 3) := by decide +kernel
theorem dX8_isDone_19 : decode cX8_isDone 19 = .ok (.iconst 0, 1) := by decide +kernel
theorem dX8_isDone_20 : decode cX8_isDone 20 = .ok (.ireturn, 1) := by decide +kernel
theorem dX8_layThen_0 : decode cX8_layThen 0 = .ok (.iconst 0, 1) := by decide +kernel
theorem dX8_layThen_1 : decode cX8_layThen 1 = .ok (.istore_n 1, 1) := by decide +kernel
theorem dX8_layThen_2 : decode cX8_layThen 2 = .ok (.iload_n 1, 1) := by decide +kernel
theorem dX8_layThen_3 : decode cX8_layThen 3 = .ok (.bipush 34, 2) := by decide +kernel
theorem dX8_layThen_5 : decode cX8_layThen 5 = .ok (.if_icmp .ge 21, 3) := by decide +kernel
theorem dX8_layThen_8 : decode cX8_layThen 8 = .ok (.aload_n 0, 1) := by decide +kernel
theorem dX8_layThen_9 : decode cX8_layThen 9 = .ok (.getfield 25, 3) := by decide +kernel
theorem dX8_layThen_12 : decode cX8_layThen 12 = .ok (.iload_n 1, 1) := by decide +kernel
theorem dX8_layThen_13 : decode cX8_layThen 13 = .ok (.aload_n 0, 1) := by decide +kernel
theorem dX8_layThen_14 : decode cX8_layThen 14 = .ok (.getfield 19, 3) := by decide +kernel
theorem dX8_layThen_17 : decode cX8_layThen 17 = .ok (.iload_n 1, 1) := by decide +kernel
theorem dX8_layThen_18 : decode cX8_layThen 18 = .ok (.iaload, 1) := by decide +kernel
theorem dX8_layThen_19 : decode cX8_layThen 19 = .ok (.iastore, 1) := by decide +kernel
theorem dX8_layThen_20 : decode cX8_layThen 20 = .ok (.iinc 1 1, 3) := by decide +kernel
theorem dX8_layThen_23 : decode cX8_layThen 23 = .ok (.goto (-21), 3) := by decide +kernel
theorem dX8_layThen_26 : decode cX8_layThen 26 = .ok (.return_, 1) := by decide +kernel
theorem dX8_keep_0 : decode cX8_keep 0 = .ok (.aload_n 0, 1) := by decide +kernel
theorem dX8_keep_1 : decode cX8_keep 1 = .ok (.getfield 152, 3) := by decide +kernel
theorem dX8_keep_4 : decode cX8_keep 4 = .ok (.bipush 24, 2) := by decide +kernel
theorem dX8_keep_6 : decode cX8_keep 6 = .ok (.if_icmp .ne 43, 3) := by decide +kernel
theorem dX8_keep_9 : decode cX8_keep 9 = .ok (.iconst 0, 1) := by decide +kernel
theorem dX8_keep_10 : decode cX8_keep 10 = .ok (.istore_n 1, 1) := by decide +kernel
theorem dX8_keep_11 : decode cX8_keep 11 = .ok (.iload_n 1, 1) := by decide +kernel
theorem dX8_keep_12 : decode cX8_keep 12 = .ok (.sipush 782, 3) := by decide +kernel
theorem dX8_keep_15 : decode cX8_keep 15 = .ok (.if_icmp .ge 24, 3) := by decide +kernel
theorem dX8_keep_18 : decode cX8_keep 18 = .ok (.aload_n 0, 1) := by decide +kernel
theorem dX8_keep_19 : decode cX8_keep 19 = .ok (.getfield 28, 3) := by decide +kernel
theorem dX8_keep_22 : decode cX8_keep 22 = .ok (.iload_n 1, 1) := by decide +kernel
theorem dX8_keep_23 : decode cX8_keep 23 = .ok (.aload_n 0, 1) := by decide +kernel
theorem dX8_keep_24 : decode cX8_keep 24 = .ok (.getfield 28, 3) := by decide +kernel
theorem dX8_keep_27 : decode cX8_keep 27 = .ok (.iload_n 1, 1) := by decide +kernel
theorem dX8_keep_28 : decode cX8_keep 28 = .ok (.bipush 34, 2) := by decide +kernel
theorem dX8_keep_30 : decode cX8_keep 30 = .ok (.iadd, 1) := by decide +kernel
theorem dX8_keep_31 : decode cX8_keep 31 = .ok (.iaload, 1) := by decide +kernel
theorem dX8_keep_32 : decode cX8_keep 32 = .ok (.iastore, 1) := by decide +kernel
theorem dX8_keep_33 : decode cX8_keep 33 = .ok (.iinc 1 1, 3) := by decide +kernel
theorem dX8_keep_36 : decode cX8_keep 36 = .ok (.goto (-25), 3) := by decide +kernel
theorem dX8_keep_39 : decode cX8_keep 39 = .ok (.aload_n 0, 1) := by decide +kernel
theorem dX8_keep_40 : decode cX8_keep 40 = .ok (.dup, 1) := by decide +kernel
theorem dX8_keep_41 : decode cX8_keep 41 = .ok (.getfield 152, 3) := by decide +kernel
theorem dX8_keep_44 : decode cX8_keep 44 = .ok (.iconst 1, 1) := by decide +kernel
theorem dX8_keep_45 : decode cX8_keep 45 = .ok (.isub, 1) := by decide +kernel
theorem dX8_keep_46 : decode cX8_keep 46 = .ok (.putfield 152, 3) := by decide +kernel
theorem dX8_keep_49 : decode cX8_keep 49 = .ok (.iconst 0, 1) := by decide +kernel
theorem dX8_keep_50 : decode cX8_keep 50 = .ok (.istore_n 1, 1) := by decide +kernel
theorem dX8_keep_51 : decode cX8_keep 51 = .ok (.iload_n 1, 1) := by decide +kernel
theorem dX8_keep_52 : decode cX8_keep 52 = .ok (.bipush 34, 2) := by decide +kernel
theorem dX8_keep_54 : decode cX8_keep 54 = .ok (.if_icmp .ge 29, 3) := by decide +kernel
theorem dX8_keep_57 : decode cX8_keep 57 = .ok (.aload_n 0, 1) := by decide +kernel
theorem dX8_keep_58 : decode cX8_keep 58 = .ok (.getfield 28, 3) := by decide +kernel
theorem dX8_keep_61 : decode cX8_keep 61 = .ok (.bipush 34, 2) := by decide +kernel
theorem dX8_keep_63 : decode cX8_keep 63 = .ok (.aload_n 0, 1) := by decide +kernel
theorem dX8_keep_64 : decode cX8_keep 64 = .ok (.getfield 152, 3) := by decide +kernel
theorem dX8_keep_67 : decode cX8_keep 67 = .ok (.imul, 1) := by decide +kernel
theorem dX8_keep_68 : decode cX8_keep 68 = .ok (.iload_n 1, 1) := by decide +kernel
theorem dX8_keep_69 : decode cX8_keep 69 = .ok (.iadd, 1) := by decide +kernel
theorem dX8_keep_70 : decode cX8_keep 70 = .ok (.aload_n 0, 1) := by decide +kernel
theorem dX8_keep_71 : decode cX8_keep 71 = .ok (.getfield 19, 3) := by decide +kernel
theorem dX8_keep_74 : decode cX8_keep 74 = .ok (.iload_n 1, 1) := by decide +kernel
theorem dX8_keep_75 : decode cX8_keep 75 = .ok (.iaload, 1) := by decide +kernel
theorem dX8_keep_76 : decode cX8_keep 76 = .ok (.iastore, 1) := by decide +kernel
theorem dX8_keep_77 : decode cX8_keep 77 = .ok (.iinc 1 1, 3) := by decide +kernel
theorem dX8_keep_80 : decode cX8_keep 80 = .ok (.goto (-29), 3) := by decide +kernel
theorem dX8_keep_83 : decode cX8_keep 83 = .ok (.aload_n 0, 1) := by decide +kernel
theorem dX8_keep_84 : decode cX8_keep 84 = .ok (.dup, 1) := by decide +kernel
theorem dX8_keep_85 : decode cX8_keep 85 = .ok (.getfield 152, 3) := by decide +kernel
theorem dX8_keep_88 : decode cX8_keep 88 = .ok (.iconst 1, 1) := by decide +kernel
theorem dX8_keep_89 : decode cX8_keep 89 = .ok (.iadd, 1) := by decide +kernel
theorem dX8_keep_90 : decode cX8_keep 90 = .ok (.putfield 152, 3) := by decide +kernel
theorem dX8_keep_93 : decode cX8_keep 93 = .ok (.return_, 1) := by decide +kernel
theorem dX8_hours_0 : decode cX8_hours 0 = .ok (.aload_n 0, 1) := by decide +kernel
theorem dX8_hours_1 : decode cX8_hours 1 = .ok (.iconst 0, 1) := by decide +kernel
theorem dX8_hours_2 : decode cX8_hours 2 = .ok (.putfield 50, 3) := by decide +kernel
theorem dX8_hours_5 : decode cX8_hours 5 = .ok (.aload_n 0, 1) := by decide +kernel
theorem dX8_hours_6 : decode cX8_hours 6 = .ok (.invokevirtual 184, 3) := by decide +kernel
theorem dX8_hours_9 : decode cX8_hours 9 = .ok (.ifCond .ne 6, 3) := by decide +kernel
theorem dX8_hours_12 : decode cX8_hours 12 = .ok (.ldc 187, 2) := by decide +kernel
theorem dX8_hours_14 : decode cX8_hours 14 = .ok (.ireturn, 1) := by decide +kernel
theorem dX8_hours_15 : decode cX8_hours 15 = .ok (.iload_n 1, 1) := by decide +kernel
theorem dX8_hours_16 : decode cX8_hours 16 = .ok (.i2l, 1) := by decide +kernel
theorem dX8_hours_17 : decode cX8_hours 17 = .ok (.lconst 1, 1) := by decide +kernel
theorem dX8_hours_18 : decode cX8_hours 18 = .ok (.ldc2_w 188, 3) := by decide +kernel
theorem dX8_hours_21 : decode cX8_hours 21 = .ok (.invokestatic 60, 3) := by decide +kernel
theorem dX8_hours_24 : decode cX8_hours 24 = .ok (.ifCond .ne 6, 3) := by decide +kernel
theorem dX8_hours_27 : decode cX8_hours 27 = .ok (.ldc 70, 2) := by decide +kernel
theorem dX8_hours_29 : decode cX8_hours 29 = .ok (.ireturn, 1) := by decide +kernel
theorem dX8_hours_30 : decode cX8_hours 30 = .ok (.aload_n 0, 1) := by decide +kernel
theorem dX8_hours_31 : decode cX8_hours 31 = .ok (.getfield 19, 3) := by decide +kernel
theorem dX8_hours_34 : decode cX8_hours 34 = .ok (.iconst 4, 1) := by decide +kernel
theorem dX8_hours_35 : decode cX8_hours 35 = .ok (.iaload, 1) := by decide +kernel
theorem dX8_hours_36 : decode cX8_hours 36 = .ok (.iload_n 1, 1) := by decide +kernel
theorem dX8_hours_37 : decode cX8_hours 37 = .ok (.iadd, 1) := by decide +kernel
theorem dX8_hours_38 : decode cX8_hours 38 = .ok (.sipush 999, 3) := by decide +kernel
theorem dX8_hours_41 : decode cX8_hours 41 = .ok (.if_icmp .le 6, 3) := by decide +kernel
theorem dX8_hours_44 : decode cX8_hours 44 = .ok (.ldc 80, 2) := by decide +kernel
theorem dX8_hours_46 : decode cX8_hours 46 = .ok (.ireturn, 1) := by decide +kernel
theorem dX8_hours_47 : decode cX8_hours 47 = .ok (.iconst 0, 1) := by decide +kernel
theorem dX8_hours_48 : decode cX8_hours 48 = .ok (.istore_n 2, 1) := by decide +kernel
theorem dX8_hours_49 : decode cX8_hours 49 = .ok (.iload_n 2, 1) := by decide +kernel
theorem dX8_hours_50 : decode cX8_hours 50 = .ok (.iload_n 1, 1) := by decide +kernel
theorem dX8_hours_51 : decode cX8_hours 51 = .ok (.if_icmp .ge 20, 3) := by decide +kernel
theorem dX8_hours_54 : decode cX8_hours 54 = .ok (.aload_n 0, 1) := by decide +kernel
theorem dX8_hours_55 : decode cX8_hours 55 = .ok (.invokevirtual 190, 3) := by decide +kernel
theorem dX8_hours_58 : decode cX8_hours 58 = .ok (.aload_n 0, 1) := by decide +kernel
theorem dX8_hours_59 : decode cX8_hours 59 = .ok (.getfield 19, 3) := by decide +kernel
theorem dX8_hours_62 : decode cX8_hours 62 = .ok (.invokestatic 180, 3) := by decide +kernel
theorem dX8_hours_65 : decode cX8_hours 65 = .ok (.iinc 2 1, 3) := by decide +kernel
theorem dX8_hours_68 : decode cX8_hours 68 = .ok (.goto (-19), 3) := by decide +kernel
theorem dX8_hours_71 : decode cX8_hours 71 = .ok (.aload_n 0, 1) := by decide +kernel
theorem dX8_hours_72 : decode cX8_hours 72 = .ok (.getfield 19, 3) := by decide +kernel
theorem dX8_hours_75 : decode cX8_hours 75 = .ok (.invokestatic 193, 3) := by decide +kernel
theorem dX8_hours_78 : decode cX8_hours 78 = .ok (.ireturn, 1) := by decide +kernel
theorem dX8_perform_0 : decode cX8_perform 0 = .ok (.aload_n 0, 1) := by decide +kernel
theorem dX8_perform_1 : decode cX8_perform 1 = .ok (.iconst 0, 1) := by decide +kernel
theorem dX8_perform_2 : decode cX8_perform 2 = .ok (.putfield 50, 3) := by decide +kernel
theorem dX8_perform_5 : decode cX8_perform 5 = .ok (.aload_n 0, 1) := by decide +kernel
theorem dX8_perform_6 : decode cX8_perform 6 = .ok (.iload_n 1, 1) := by decide +kernel
theorem dX8_perform_7 : decode cX8_perform 7 = .ok (.invokevirtual 196, 3) := by decide +kernel
theorem dX8_perform_10 : decode cX8_perform 10 = .ok (.ifCond .ne 6, 3) := by decide +kernel
theorem dX8_perform_13 : decode cX8_perform 13 = .ok (.ldc 70, 2) := by decide +kernel
theorem dX8_perform_15 : decode cX8_perform 15 = .ok (.ireturn, 1) := by decide +kernel
theorem dX8_perform_16 : decode cX8_perform 16 = .ok (.aload_n 0, 1) := by decide +kernel
theorem dX8_perform_17 : decode cX8_perform 17 = .ok (.iload_n 1, 1) := by decide +kernel
theorem dX8_perform_18 : decode cX8_perform 18 = .ok (.invokevirtual 199, 3) := by decide +kernel
theorem dX8_perform_21 : decode cX8_perform 21 = .ok (.ifCond .eq 6, 3) := by decide +kernel
theorem dX8_perform_24 : decode cX8_perform 24 = .ok (.ldc 187, 2) := by decide +kernel
theorem dX8_perform_26 : decode cX8_perform 26 = .ok (.ireturn, 1) := by decide +kernel
theorem dX8_perform_27 : decode cX8_perform 27 = .ok (.aload_n 0, 1) := by decide +kernel
theorem dX8_perform_28 : decode cX8_perform 28 = .ok (.invokevirtual 190, 3) := by decide +kernel
theorem dX8_perform_31 : decode cX8_perform 31 = .ok (.aload_n 0, 1) := by decide +kernel
theorem dX8_perform_32 : decode cX8_perform 32 = .ok (.getfield 19, 3) := by decide +kernel
theorem dX8_perform_35 : decode cX8_perform 35 = .ok (.iload_n 1, 1) := by decide +kernel
theorem dX8_perform_36 : decode cX8_perform 36 = .ok (.invokestatic 202, 3) := by decide +kernel
theorem dX8_perform_39 : decode cX8_perform 39 = .ok (.aload_n 0, 1) := by decide +kernel
theorem dX8_perform_40 : decode cX8_perform 40 = .ok (.getfield 19, 3) := by decide +kernel
theorem dX8_perform_43 : decode cX8_perform 43 = .ok (.invokestatic 193, 3) := by decide +kernel
theorem dX8_perform_46 : decode cX8_perform 46 = .ok (.ireturn, 1) := by decide +kernel
theorem dX8_board_0 : decode cX8_board 0 = .ok (.aload_n 0, 1) := by decide +kernel
theorem dX8_board_1 : decode cX8_board 1 = .ok (.iconst 0, 1) := by decide +kernel
theorem dX8_board_2 : decode cX8_board 2 = .ok (.putfield 50, 3) := by decide +kernel
theorem dX8_board_5 : decode cX8_board 5 = .ok (.aload_n 0, 1) := by decide +kernel
theorem dX8_board_6 : decode cX8_board 6 = .ok (.invokevirtual 184, 3) := by decide +kernel
theorem dX8_board_9 : decode cX8_board 9 = .ok (.ifCond .ne 6, 3) := by decide +kernel
theorem dX8_board_12 : decode cX8_board 12 = .ok (.ldc 187, 2) := by decide +kernel
theorem dX8_board_14 : decode cX8_board 14 = .ok (.ireturn, 1) := by decide +kernel
theorem dX8_board_15 : decode cX8_board 15 = .ok (.iload_n 1, 1) := by decide +kernel
theorem dX8_board_16 : decode cX8_board 16 = .ok (.invokestatic 205, 3) := by decide +kernel
theorem dX8_board_19 : decode cX8_board 19 = .ok (.ifCond .ne 6, 3) := by decide +kernel
theorem dX8_board_22 : decode cX8_board 22 = .ok (.ldc 70, 2) := by decide +kernel
theorem dX8_board_24 : decode cX8_board 24 = .ok (.ireturn, 1) := by decide +kernel
theorem dX8_board_25 : decode cX8_board 25 = .ok (.aload_n 0, 1) := by decide +kernel
theorem dX8_board_26 : decode cX8_board 26 = .ok (.getfield 19, 3) := by decide +kernel
theorem dX8_board_29 : decode cX8_board 29 = .ok (.bipush 10, 2) := by decide +kernel
theorem dX8_board_31 : decode cX8_board 31 = .ok (.iload_n 1, 1) := by decide +kernel
theorem dX8_board_32 : decode cX8_board 32 = .ok (.iadd, 1) := by decide +kernel
theorem dX8_board_33 : decode cX8_board 33 = .ok (.iaload, 1) := by decide +kernel
theorem dX8_board_34 : decode cX8_board 34 = .ok (.ifCond .ne 6, 3) := by decide +kernel
theorem dX8_board_37 : decode cX8_board 37 = .ok (.ldc 187, 2) := by decide +kernel
theorem dX8_board_39 : decode cX8_board 39 = .ok (.ireturn, 1) := by decide +kernel
theorem dX8_board_40 : decode cX8_board 40 = .ok (.aload_n 0, 1) := by decide +kernel
theorem dX8_board_41 : decode cX8_board 41 = .ok (.invokevirtual 190, 3) := by decide +kernel
theorem dX8_board_44 : decode cX8_board 44 = .ok (.aload_n 0, 1) := by decide +kernel
theorem dX8_board_45 : decode cX8_board 45 = .ok (.getfield 19, 3) := by decide +kernel
theorem dX8_board_48 : decode cX8_board 48 = .ok (.bipush 10, 2) := by decide +kernel
theorem dX8_board_50 : decode cX8_board 50 = .ok (.iload_n 1, 1) := by decide +kernel
theorem dX8_board_51 : decode cX8_board 51 = .ok (.iadd, 1) := by decide +kernel
theorem dX8_board_52 : decode cX8_board 52 = .ok (.dup2, 1) := by decide +kernel
theorem dX8_board_53 : decode cX8_board 53 = .ok (.iaload, 1) := by decide +kernel
theorem dX8_board_54 : decode cX8_board 54 = .ok (.iconst 1, 1) := by decide +kernel
theorem dX8_board_55 : decode cX8_board 55 = .ok (.isub, 1) := by decide +kernel
theorem dX8_board_56 : decode cX8_board 56 = .ok (.iastore, 1) := by decide +kernel
theorem dX8_board_57 : decode cX8_board 57 = .ok (.aload_n 0, 1) := by decide +kernel
theorem dX8_board_58 : decode cX8_board 58 = .ok (.getfield 19, 3) := by decide +kernel
theorem dX8_board_61 : decode cX8_board 61 = .ok (.bipush 10, 2) := by decide +kernel
theorem dX8_board_63 : decode cX8_board 63 = .ok (.iload_n 1, 1) := by decide +kernel
theorem dX8_board_64 : decode cX8_board 64 = .ok (.iadd, 1) := by decide +kernel
theorem dX8_board_65 : decode cX8_board 65 = .ok (.iaload, 1) := by decide +kernel
theorem dX8_board_66 : decode cX8_board 66 = .ok (.ireturn, 1) := by decide +kernel
theorem dX8_amount_0 : decode cX8_amount 0 = .ok (.aload_n 0, 1) := by decide +kernel
theorem dX8_amount_1 : decode cX8_amount 1 = .ok (.iconst 0, 1) := by decide +kernel
theorem dX8_amount_2 : decode cX8_amount 2 = .ok (.putfield 50, 3) := by decide +kernel
theorem dX8_amount_5 : decode cX8_amount 5 = .ok (.aload_n 0, 1) := by decide +kernel
theorem dX8_amount_6 : decode cX8_amount 6 = .ok (.iload_n 1, 1) := by decide +kernel
theorem dX8_amount_7 : decode cX8_amount 7 = .ok (.invokevirtual 196, 3) := by decide +kernel
theorem dX8_amount_10 : decode cX8_amount 10 = .ok (.ifCond .eq 15, 3) := by decide +kernel
theorem dX8_amount_13 : decode cX8_amount 13 = .ok (.iload_n 2, 1) := by decide +kernel
theorem dX8_amount_14 : decode cX8_amount 14 = .ok (.i2l, 1) := by decide +kernel
theorem dX8_amount_15 : decode cX8_amount 15 = .ok (.lconst 1, 1) := by decide +kernel
theorem dX8_amount_16 : decode cX8_amount 16 = .ok (.ldc2_w 208, 3) := by decide +kernel
theorem dX8_amount_19 : decode cX8_amount 19 = .ok (.invokestatic 60, 3) := by decide +kernel
theorem dX8_amount_22 : decode cX8_amount 22 = .ok (.ifCond .ne 6, 3) := by decide +kernel
theorem dX8_amount_25 : decode cX8_amount 25 = .ok (.ldc 70, 2) := by decide +kernel
theorem dX8_amount_27 : decode cX8_amount 27 = .ok (.ireturn, 1) := by decide +kernel
theorem dX8_amount_28 : decode cX8_amount 28 = .ok (.aload_n 0, 1) := by decide +kernel
theorem dX8_amount_29 : decode cX8_amount 29 = .ok (.iload_n 1, 1) := by decide +kernel
theorem dX8_amount_30 : decode cX8_amount 30 = .ok (.invokevirtual 199, 3) := by decide +kernel
theorem dX8_amount_33 : decode cX8_amount 33 = .ok (.ifCond .eq 6, 3) := by decide +kernel
theorem dX8_amount_36 : decode cX8_amount 36 = .ok (.ldc 187, 2) := by decide +kernel
theorem dX8_amount_38 : decode cX8_amount 38 = .ok (.ireturn, 1) := by decide +kernel
theorem dX8_amount_39 : decode cX8_amount 39 = .ok (.aload_n 0, 1) := by decide +kernel
theorem dX8_amount_40 : decode cX8_amount 40 = .ok (.invokevirtual 190, 3) := by decide +kernel
theorem dX8_amount_43 : decode cX8_amount 43 = .ok (.aload_n 0, 1) := by decide +kernel
theorem dX8_amount_44 : decode cX8_amount 44 = .ok (.getfield 19, 3) := by decide +kernel
theorem dX8_amount_47 : decode cX8_amount 47 = .ok (.iload_n 1, 1) := by decide +kernel
theorem dX8_amount_48 : decode cX8_amount 48 = .ok (.iconst 2, 1) := by decide +kernel
theorem dX8_amount_49 : decode cX8_amount 49 = .ok (.invokestatic 172, 3) := by decide +kernel
theorem dX8_amount_52 : decode cX8_amount 52 = .ok (.istore_n 3, 1) := by decide +kernel
theorem dX8_amount_53 : decode cX8_amount 53 = .ok (.aload_n 0, 1) := by decide +kernel
theorem dX8_amount_54 : decode cX8_amount 54 = .ok (.getfield 19, 3) := by decide +kernel
theorem dX8_amount_57 : decode cX8_amount 57 = .ok (.bipush 13, 2) := by decide +kernel
theorem dX8_amount_59 : decode cX8_amount 59 = .ok (.iconst 3, 1) := by decide +kernel
theorem dX8_amount_60 : decode cX8_amount 60 = .ok (.iload_n 1, 1) := by decide +kernel
theorem dX8_amount_61 : decode cX8_amount 61 = .ok (.imul, 1) := by decide +kernel
theorem dX8_amount_62 : decode cX8_amount 62 = .ok (.iadd, 1) := by decide +kernel
theorem dX8_amount_63 : decode cX8_amount 63 = .ok (.iconst 2, 1) := by decide +kernel
theorem dX8_amount_64 : decode cX8_amount 64 = .ok (.iadd, 1) := by decide +kernel
theorem dX8_amount_65 : decode cX8_amount 65 = .ok (.iload_n 2, 1) := by decide +kernel
theorem dX8_amount_66 : decode cX8_amount 66 = .ok (.iastore, 1) := by decide +kernel
theorem dX8_amount_67 : decode cX8_amount 67 = .ok (.iload_n 3, 1) := by decide +kernel
theorem dX8_amount_68 : decode cX8_amount 68 = .ok (.ireturn, 1) := by decide +kernel
theorem dX8_jack_0 : decode cX8_jack 0 = .ok (.aload_n 0, 1) := by decide +kernel
theorem dX8_jack_1 : decode cX8_jack 1 = .ok (.iconst 0, 1) := by decide +kernel
theorem dX8_jack_2 : decode cX8_jack 2 = .ok (.putfield 50, 3) := by decide +kernel
theorem dX8_jack_5 : decode cX8_jack 5 = .ok (.aload_n 0, 1) := by decide +kernel
theorem dX8_jack_6 : decode cX8_jack 6 = .ok (.invokevirtual 184, 3) := by decide +kernel
theorem dX8_jack_9 : decode cX8_jack 9 = .ok (.ifCond .ne 6, 3) := by decide +kernel
theorem dX8_jack_12 : decode cX8_jack 12 = .ok (.ldc 187, 2) := by decide +kernel
theorem dX8_jack_14 : decode cX8_jack 14 = .ok (.ireturn, 1) := by decide +kernel
theorem dX8_jack_15 : decode cX8_jack 15 = .ok (.iload_n 1, 1) := by decide +kernel
theorem dX8_jack_16 : decode cX8_jack 16 = .ok (.invokestatic 205, 3) := by decide +kernel
theorem dX8_jack_19 : decode cX8_jack 19 = .ok (.ifCond .eq 15, 3) := by decide +kernel
theorem dX8_jack_22 : decode cX8_jack 22 = .ok (.iload_n 2, 1) := by decide +kernel
theorem dX8_jack_23 : decode cX8_jack 23 = .ok (.i2l, 1) := by decide +kernel
theorem dX8_jack_24 : decode cX8_jack 24 = .ok (.lconst 1, 1) := by decide +kernel
theorem dX8_jack_25 : decode cX8_jack 25 = .ok (.ldc2_w 208, 3) := by decide +kernel
theorem dX8_jack_28 : decode cX8_jack 28 = .ok (.invokestatic 60, 3) := by decide +kernel
theorem dX8_jack_31 : decode cX8_jack 31 = .ok (.ifCond .ne 6, 3) := by decide +kernel
theorem dX8_jack_34 : decode cX8_jack 34 = .ok (.ldc 70, 2) := by decide +kernel
theorem dX8_jack_36 : decode cX8_jack 36 = .ok (.ireturn, 1) := by decide +kernel
theorem dX8_jack_37 : decode cX8_jack 37 = .ok (.aload_n 0, 1) := by decide +kernel
theorem dX8_jack_38 : decode cX8_jack 38 = .ok (.invokevirtual 190, 3) := by decide +kernel
theorem dX8_jack_41 : decode cX8_jack 41 = .ok (.aload_n 0, 1) := by decide +kernel
theorem dX8_jack_42 : decode cX8_jack 42 = .ok (.getfield 19, 3) := by decide +kernel
theorem dX8_jack_45 : decode cX8_jack 45 = .ok (.iload_n 1, 1) := by decide +kernel
theorem dX8_jack_46 : decode cX8_jack 46 = .ok (.iload_n 2, 1) := by decide +kernel
theorem dX8_jack_47 : decode cX8_jack 47 = .ok (.invokestatic 168, 3) := by decide +kernel
theorem dX8_jack_50 : decode cX8_jack 50 = .ok (.aload_n 0, 1) := by decide +kernel
theorem dX8_jack_51 : decode cX8_jack 51 = .ok (.getfield 19, 3) := by decide +kernel
theorem dX8_jack_54 : decode cX8_jack 54 = .ok (.bipush 7, 2) := by decide +kernel
theorem dX8_jack_56 : decode cX8_jack 56 = .ok (.iload_n 1, 1) := by decide +kernel
theorem dX8_jack_57 : decode cX8_jack 57 = .ok (.iadd, 1) := by decide +kernel
theorem dX8_jack_58 : decode cX8_jack 58 = .ok (.iaload, 1) := by decide +kernel
theorem dX8_jack_59 : decode cX8_jack 59 = .ok (.ireturn, 1) := by decide +kernel
theorem dX8_undo_0 : decode cX8_undo 0 = .ok (.aload_n 0, 1) := by decide +kernel
theorem dX8_undo_1 : decode cX8_undo 1 = .ok (.iconst 0, 1) := by decide +kernel
theorem dX8_undo_2 : decode cX8_undo 2 = .ok (.putfield 50, 3) := by decide +kernel
theorem dX8_undo_5 : decode cX8_undo 5 = .ok (.aload_n 0, 1) := by decide +kernel
theorem dX8_undo_6 : decode cX8_undo 6 = .ok (.getfield 152, 3) := by decide +kernel
theorem dX8_undo_9 : decode cX8_undo 9 = .ok (.ifCond .ne 6, 3) := by decide +kernel
theorem dX8_undo_12 : decode cX8_undo 12 = .ok (.ldc 187, 2) := by decide +kernel
theorem dX8_undo_14 : decode cX8_undo 14 = .ok (.ireturn, 1) := by decide +kernel
theorem dX8_undo_15 : decode cX8_undo 15 = .ok (.aload_n 0, 1) := by decide +kernel
theorem dX8_undo_16 : decode cX8_undo 16 = .ok (.dup, 1) := by decide +kernel
theorem dX8_undo_17 : decode cX8_undo 17 = .ok (.getfield 152, 3) := by decide +kernel
theorem dX8_undo_20 : decode cX8_undo 20 = .ok (.iconst 1, 1) := by decide +kernel
theorem dX8_undo_21 : decode cX8_undo 21 = .ok (.isub, 1) := by decide +kernel
theorem dX8_undo_22 : decode cX8_undo 22 = .ok (.putfield 152, 3) := by decide +kernel
theorem dX8_undo_25 : decode cX8_undo 25 = .ok (.iconst 0, 1) := by decide +kernel
theorem dX8_undo_26 : decode cX8_undo 26 = .ok (.istore_n 1, 1) := by decide +kernel
theorem dX8_undo_27 : decode cX8_undo 27 = .ok (.iload_n 1, 1) := by decide +kernel
theorem dX8_undo_28 : decode cX8_undo 28 = .ok (.bipush 34, 2) := by decide +kernel
theorem dX8_undo_30 : decode cX8_undo 30 = .ok (.if_icmp .ge 29, 3) := by decide +kernel
theorem dX8_undo_33 : decode cX8_undo 33 = .ok (.aload_n 0, 1) := by decide +kernel
theorem dX8_undo_34 : decode cX8_undo 34 = .ok (.getfield 19, 3) := by decide +kernel
theorem dX8_undo_37 : decode cX8_undo 37 = .ok (.iload_n 1, 1) := by decide +kernel
theorem dX8_undo_38 : decode cX8_undo 38 = .ok (.aload_n 0, 1) := by decide +kernel
theorem dX8_undo_39 : decode cX8_undo 39 = .ok (.getfield 28, 3) := by decide +kernel
theorem dX8_undo_42 : decode cX8_undo 42 = .ok (.bipush 34, 2) := by decide +kernel
theorem dX8_undo_44 : decode cX8_undo 44 = .ok (.aload_n 0, 1) := by decide +kernel
theorem dX8_undo_45 : decode cX8_undo 45 = .ok (.getfield 152, 3) := by decide +kernel
theorem dX8_undo_48 : decode cX8_undo 48 = .ok (.imul, 1) := by decide +kernel
theorem dX8_undo_49 : decode cX8_undo 49 = .ok (.iload_n 1, 1) := by decide +kernel
theorem dX8_undo_50 : decode cX8_undo 50 = .ok (.iadd, 1) := by decide +kernel
theorem dX8_undo_51 : decode cX8_undo 51 = .ok (.iaload, 1) := by decide +kernel
theorem dX8_undo_52 : decode cX8_undo 52 = .ok (.iastore, 1) := by decide +kernel
theorem dX8_undo_53 : decode cX8_undo 53 = .ok (.iinc 1 1, 3) := by decide +kernel
theorem dX8_undo_56 : decode cX8_undo 56 = .ok (.goto (-29), 3) := by decide +kernel
theorem dX8_undo_59 : decode cX8_undo 59 = .ok (.aload_n 0, 1) := by decide +kernel
theorem dX8_undo_60 : decode cX8_undo 60 = .ok (.getfield 152, 3) := by decide +kernel
theorem dX8_undo_63 : decode cX8_undo 63 = .ok (.ireturn, 1) := by decide +kernel
theorem dX8_foot_0 : decode cX8_foot 0 = .ok (.aload_n 0, 1) := by decide +kernel
theorem dX8_foot_1 : decode cX8_foot 1 = .ok (.iconst 0, 1) := by decide +kernel
theorem dX8_foot_2 : decode cX8_foot 2 = .ok (.putfield 50, 3) := by decide +kernel
theorem dX8_foot_5 : decode cX8_foot 5 = .ok (.aload_n 0, 1) := by decide +kernel
theorem dX8_foot_6 : decode cX8_foot 6 = .ok (.invokevirtual 184, 3) := by decide +kernel
theorem dX8_foot_9 : decode cX8_foot 9 = .ok (.ifCond .ne 6, 3) := by decide +kernel
theorem dX8_foot_12 : decode cX8_foot 12 = .ok (.ldc 187, 2) := by decide +kernel
theorem dX8_foot_14 : decode cX8_foot 14 = .ok (.ireturn, 1) := by decide +kernel
theorem dX8_foot_15 : decode cX8_foot 15 = .ok (.iload_n 1, 1) := by decide +kernel
theorem dX8_foot_16 : decode cX8_foot 16 = .ok (.invokestatic 205, 3) := by decide +kernel
theorem dX8_foot_19 : decode cX8_foot 19 = .ok (.ifCond .eq 13, 3) := by decide +kernel
theorem dX8_foot_22 : decode cX8_foot 22 = .ok (.iload_n 2, 1) := by decide +kernel
theorem dX8_foot_23 : decode cX8_foot 23 = .ok (.i2l, 1) := by decide +kernel
theorem dX8_foot_24 : decode cX8_foot 24 = .ok (.lconst 0, 1) := by decide +kernel
theorem dX8_foot_25 : decode cX8_foot 25 = .ok (.lconst 1, 1) := by decide +kernel
theorem dX8_foot_26 : decode cX8_foot 26 = .ok (.invokestatic 60, 3) := by decide +kernel
theorem dX8_foot_29 : decode cX8_foot 29 = .ok (.ifCond .ne 6, 3) := by decide +kernel
theorem dX8_foot_32 : decode cX8_foot 32 = .ok (.ldc 70, 2) := by decide +kernel
theorem dX8_foot_34 : decode cX8_foot 34 = .ok (.ireturn, 1) := by decide +kernel
theorem dX8_foot_35 : decode cX8_foot 35 = .ok (.aload_n 0, 1) := by decide +kernel
theorem dX8_foot_36 : decode cX8_foot 36 = .ok (.getfield 19, 3) := by decide +kernel
theorem dX8_foot_39 : decode cX8_foot 39 = .ok (.iload_n 2, 1) := by decide +kernel
theorem dX8_foot_40 : decode cX8_foot 40 = .ok (.ifCond .ne 8, 3) := by decide +kernel
theorem dX8_foot_43 : decode cX8_foot 43 = .ok (.bipush 7, 2) := by decide +kernel
theorem dX8_foot_45 : decode cX8_foot 45 = .ok (.goto 5, 3) := by decide +kernel
theorem dX8_foot_48 : decode cX8_foot 48 = .ok (.bipush 10, 2) := by decide +kernel
theorem dX8_foot_50 : decode cX8_foot 50 = .ok (.iload_n 1, 1) := by decide +kernel
theorem dX8_foot_51 : decode cX8_foot 51 = .ok (.iadd, 1) := by decide +kernel
theorem dX8_foot_52 : decode cX8_foot 52 = .ok (.iaload, 1) := by decide +kernel
theorem dX8_foot_53 : decode cX8_foot 53 = .ok (.ireturn, 1) := by decide +kernel
theorem dX8_deed_0 : decode cX8_deed 0 = .ok (.aload_n 0, 1) := by decide +kernel
theorem dX8_deed_1 : decode cX8_deed 1 = .ok (.iconst 0, 1) := by decide +kernel
theorem dX8_deed_2 : decode cX8_deed 2 = .ok (.putfield 50, 3) := by decide +kernel
theorem dX8_deed_5 : decode cX8_deed 5 = .ok (.aload_n 0, 1) := by decide +kernel
theorem dX8_deed_6 : decode cX8_deed 6 = .ok (.iload_n 1, 1) := by decide +kernel
theorem dX8_deed_7 : decode cX8_deed 7 = .ok (.invokevirtual 196, 3) := by decide +kernel
theorem dX8_deed_10 : decode cX8_deed 10 = .ok (.ifCond .eq 15, 3) := by decide +kernel
theorem dX8_deed_13 : decode cX8_deed 13 = .ok (.iload_n 2, 1) := by decide +kernel
theorem dX8_deed_14 : decode cX8_deed 14 = .ok (.i2l, 1) := by decide +kernel
theorem dX8_deed_15 : decode cX8_deed 15 = .ok (.lconst 0, 1) := by decide +kernel
theorem dX8_deed_16 : decode cX8_deed 16 = .ok (.ldc2_w 68, 3) := by decide +kernel
theorem dX8_deed_19 : decode cX8_deed 19 = .ok (.invokestatic 60, 3) := by decide +kernel
theorem dX8_deed_22 : decode cX8_deed 22 = .ok (.ifCond .ne 6, 3) := by decide +kernel
theorem dX8_deed_25 : decode cX8_deed 25 = .ok (.ldc 70, 2) := by decide +kernel
theorem dX8_deed_27 : decode cX8_deed 27 = .ok (.ireturn, 1) := by decide +kernel
theorem dX8_deed_28 : decode cX8_deed 28 = .ok (.iload_n 2, 1) := by decide +kernel
theorem dX8_deed_29 : decode cX8_deed 29 = .ok (.iconst 2, 1) := by decide +kernel
theorem dX8_deed_30 : decode cX8_deed 30 = .ok (.if_icmp .ge 17, 3) := by decide +kernel
theorem dX8_deed_33 : decode cX8_deed 33 = .ok (.aload_n 0, 1) := by decide +kernel
theorem dX8_deed_34 : decode cX8_deed 34 = .ok (.getfield 19, 3) := by decide +kernel
theorem dX8_deed_37 : decode cX8_deed 37 = .ok (.iload_n 1, 1) := by decide +kernel
theorem dX8_deed_38 : decode cX8_deed 38 = .ok (.iconst 1, 1) := by decide +kernel
theorem dX8_deed_39 : decode cX8_deed 39 = .ok (.iload_n 2, 1) := by decide +kernel
theorem dX8_deed_40 : decode cX8_deed 40 = .ok (.iadd, 1) := by decide +kernel
theorem dX8_deed_41 : decode cX8_deed 41 = .ok (.invokestatic 172, 3) := by decide +kernel
theorem dX8_deed_44 : decode cX8_deed 44 = .ok (.goto 16, 3) := by decide +kernel
theorem dX8_deed_47 : decode cX8_deed 47 = .ok (.aload_n 0, 1) := by decide +kernel
theorem dX8_deed_48 : decode cX8_deed 48 = .ok (.iload_n 1, 1) := by decide +kernel
theorem dX8_deed_49 : decode cX8_deed 49 = .ok (.invokevirtual 199, 3) := by decide +kernel
theorem dX8_deed_52 : decode cX8_deed 52 = .ok (.ifCond .eq 7, 3) := by decide +kernel
theorem dX8_deed_55 : decode cX8_deed 55 = .ok (.iconst 1, 1) := by decide +kernel
theorem dX8_deed_56 : decode cX8_deed 56 = .ok (.goto 4, 3) := by decide +kernel
theorem dX8_deed_59 : decode cX8_deed 59 = .ok (.iconst 0, 1) := by decide +kernel
theorem dX8_deed_60 : decode cX8_deed 60 = .ok (.ireturn, 1) := by decide +kernel
theorem dX8_lean_0 : decode cX8_lean 0 = .ok (.aload_n 0, 1) := by decide +kernel
theorem dX8_lean_1 : decode cX8_lean 1 = .ok (.iconst 0, 1) := by decide +kernel
theorem dX8_lean_2 : decode cX8_lean 2 = .ok (.putfield 50, 3) := by decide +kernel
theorem dX8_lean_5 : decode cX8_lean 5 = .ok (.aload_n 0, 1) := by decide +kernel
theorem dX8_lean_6 : decode cX8_lean 6 = .ok (.invokevirtual 184, 3) := by decide +kernel
theorem dX8_lean_9 : decode cX8_lean 9 = .ok (.ifCond .ne 6, 3) := by decide +kernel
theorem dX8_lean_12 : decode cX8_lean 12 = .ok (.ldc 187, 2) := by decide +kernel
theorem dX8_lean_14 : decode cX8_lean 14 = .ok (.ireturn, 1) := by decide +kernel
theorem dX8_lean_15 : decode cX8_lean 15 = .ok (.iload_n 1, 1) := by decide +kernel
theorem dX8_lean_16 : decode cX8_lean 16 = .ok (.tableswitch 104 0 5 #[40, 52, 64, 72, 80, 96], 40) := by decide +kernel
theorem dX8_lean_56 : decode cX8_lean 56 = .ok (.sipush 1000, 3) := by decide +kernel
theorem dX8_lean_59 : decode cX8_lean 59 = .ok (.aload_n 0, 1) := by decide +kernel
theorem dX8_lean_60 : decode cX8_lean 60 = .ok (.getfield 19, 3) := by decide +kernel
theorem dX8_lean_63 : decode cX8_lean 63 = .ok (.invokestatic 159, 3) := by decide +kernel
theorem dX8_lean_66 : decode cX8_lean 66 = .ok (.iadd, 1) := by decide +kernel
theorem dX8_lean_67 : decode cX8_lean 67 = .ok (.ireturn, 1) := by decide +kernel
theorem dX8_lean_68 : decode cX8_lean 68 = .ok (.sipush 1000, 3) := by decide +kernel
theorem dX8_lean_71 : decode cX8_lean 71 = .ok (.aload_n 0, 1) := by decide +kernel
theorem dX8_lean_72 : decode cX8_lean 72 = .ok (.getfield 19, 3) := by decide +kernel
theorem dX8_lean_75 : decode cX8_lean 75 = .ok (.invokestatic 165, 3) := by decide +kernel
theorem dX8_lean_78 : decode cX8_lean 78 = .ok (.iadd, 1) := by decide +kernel
theorem dX8_lean_79 : decode cX8_lean 79 = .ok (.ireturn, 1) := by decide +kernel
theorem dX8_lean_80 : decode cX8_lean 80 = .ok (.aload_n 0, 1) := by decide +kernel
theorem dX8_lean_81 : decode cX8_lean 81 = .ok (.getfield 19, 3) := by decide +kernel
theorem dX8_lean_84 : decode cX8_lean 84 = .ok (.invokestatic 155, 3) := by decide +kernel
theorem dX8_lean_87 : decode cX8_lean 87 = .ok (.ireturn, 1) := by decide +kernel
theorem dX8_lean_88 : decode cX8_lean 88 = .ok (.aload_n 0, 1) := by decide +kernel
theorem dX8_lean_89 : decode cX8_lean 89 = .ok (.getfield 19, 3) := by decide +kernel
theorem dX8_lean_92 : decode cX8_lean 92 = .ok (.invokestatic 193, 3) := by decide +kernel
theorem dX8_lean_95 : decode cX8_lean 95 = .ok (.ireturn, 1) := by decide +kernel
theorem dX8_lean_96 : decode cX8_lean 96 = .ok (.aload_n 0, 1) := by decide +kernel
theorem dX8_lean_97 : decode cX8_lean 97 = .ok (.getfield 19, 3) := by decide +kernel
theorem dX8_lean_100 : decode cX8_lean 100 = .ok (.invokestatic 210, 3) := by decide +kernel
theorem dX8_lean_103 : decode cX8_lean 103 = .ok (.ifCond .eq 7, 3) := by decide +kernel
theorem dX8_lean_106 : decode cX8_lean 106 = .ok (.iconst 1, 1) := by decide +kernel
theorem dX8_lean_107 : decode cX8_lean 107 = .ok (.goto 4, 3) := by decide +kernel
theorem dX8_lean_110 : decode cX8_lean 110 = .ok (.iconst 0, 1) := by decide +kernel
theorem dX8_lean_111 : decode cX8_lean 111 = .ok (.ireturn, 1) := by decide +kernel
theorem dX8_lean_112 : decode cX8_lean 112 = .ok (.aload_n 0, 1) := by decide +kernel
theorem dX8_lean_113 : decode cX8_lean 113 = .ok (.getfield 19, 3) := by decide +kernel
theorem dX8_lean_116 : decode cX8_lean 116 = .ok (.bipush 6, 2) := by decide +kernel
theorem dX8_lean_118 : decode cX8_lean 118 = .ok (.iaload, 1) := by decide +kernel
theorem dX8_lean_119 : decode cX8_lean 119 = .ok (.ireturn, 1) := by decide +kernel
theorem dX8_lean_120 : decode cX8_lean 120 = .ok (.ldc 70, 2) := by decide +kernel
theorem dX8_lean_122 : decode cX8_lean 122 = .ok (.ireturn, 1) := by decide +kernel
theorem dX8_ahead_0 : decode cX8_ahead 0 = .ok (.aload_n 0, 1) := by decide +kernel
theorem dX8_ahead_1 : decode cX8_ahead 1 = .ok (.iconst 0, 1) := by decide +kernel
theorem dX8_ahead_2 : decode cX8_ahead 2 = .ok (.putfield 50, 3) := by decide +kernel
theorem dX8_ahead_5 : decode cX8_ahead 5 = .ok (.aload_n 0, 1) := by decide +kernel
theorem dX8_ahead_6 : decode cX8_ahead 6 = .ok (.invokevirtual 184, 3) := by decide +kernel
theorem dX8_ahead_9 : decode cX8_ahead 9 = .ok (.ifCond .ne 6, 3) := by decide +kernel
theorem dX8_ahead_12 : decode cX8_ahead 12 = .ok (.ldc 187, 2) := by decide +kernel
theorem dX8_ahead_14 : decode cX8_ahead 14 = .ok (.ireturn, 1) := by decide +kernel
theorem dX8_ahead_15 : decode cX8_ahead 15 = .ok (.iload_n 1, 1) := by decide +kernel
theorem dX8_ahead_16 : decode cX8_ahead 16 = .ok (.invokestatic 205, 3) := by decide +kernel
theorem dX8_ahead_19 : decode cX8_ahead 19 = .ok (.ifCond .eq 15, 3) := by decide +kernel
theorem dX8_ahead_22 : decode cX8_ahead 22 = .ok (.iload_n 2, 1) := by decide +kernel
theorem dX8_ahead_23 : decode cX8_ahead 23 = .ok (.i2l, 1) := by decide +kernel
theorem dX8_ahead_24 : decode cX8_ahead 24 = .ok (.lconst 0, 1) := by decide +kernel
theorem dX8_ahead_25 : decode cX8_ahead 25 = .ok (.ldc2_w 214, 3) := by decide +kernel
theorem dX8_ahead_28 : decode cX8_ahead 28 = .ok (.invokestatic 60, 3) := by decide +kernel
theorem dX8_ahead_31 : decode cX8_ahead 31 = .ok (.ifCond .ne 6, 3) := by decide +kernel
theorem dX8_ahead_34 : decode cX8_ahead 34 = .ok (.ldc 70, 2) := by decide +kernel
theorem dX8_ahead_36 : decode cX8_ahead 36 = .ok (.ireturn, 1) := by decide +kernel
theorem dX8_ahead_37 : decode cX8_ahead 37 = .ok (.aload_n 0, 1) := by decide +kernel
theorem dX8_ahead_38 : decode cX8_ahead 38 = .ok (.invokevirtual 216, 3) := by decide +kernel
theorem dX8_ahead_41 : decode cX8_ahead 41 = .ok (.aload_n 0, 1) := by decide +kernel
theorem dX8_ahead_42 : decode cX8_ahead 42 = .ok (.getfield 25, 3) := by decide +kernel
theorem dX8_ahead_45 : decode cX8_ahead 45 = .ok (.iload_n 2, 1) := by decide +kernel
theorem dX8_ahead_46 : decode cX8_ahead 46 = .ok (.invokestatic 219, 3) := by decide +kernel
theorem dX8_ahead_49 : decode cX8_ahead 49 = .ok (.aload_n 0, 1) := by decide +kernel
theorem dX8_ahead_50 : decode cX8_ahead 50 = .ok (.getfield 25, 3) := by decide +kernel
theorem dX8_ahead_53 : decode cX8_ahead 53 = .ok (.bipush 7, 2) := by decide +kernel
theorem dX8_ahead_55 : decode cX8_ahead 55 = .ok (.iload_n 1, 1) := by decide +kernel
theorem dX8_ahead_56 : decode cX8_ahead 56 = .ok (.iadd, 1) := by decide +kernel
theorem dX8_ahead_57 : decode cX8_ahead 57 = .ok (.iaload, 1) := by decide +kernel
theorem dX8_ahead_58 : decode cX8_ahead 58 = .ok (.ireturn, 1) := by decide +kernel
theorem dX8_leanAhead_0 : decode cX8_leanAhead 0 = .ok (.aload_n 0, 1) := by decide +kernel
theorem dX8_leanAhead_1 : decode cX8_leanAhead 1 = .ok (.iconst 0, 1) := by decide +kernel
theorem dX8_leanAhead_2 : decode cX8_leanAhead 2 = .ok (.putfield 50, 3) := by decide +kernel
theorem dX8_leanAhead_5 : decode cX8_leanAhead 5 = .ok (.aload_n 0, 1) := by decide +kernel
theorem dX8_leanAhead_6 : decode cX8_leanAhead 6 = .ok (.invokevirtual 184, 3) := by decide +kernel
theorem dX8_leanAhead_9 : decode cX8_leanAhead 9 = .ok (.ifCond .ne 6, 3) := by decide +kernel
theorem dX8_leanAhead_12 : decode cX8_leanAhead 12 = .ok (.ldc 187, 2) := by decide +kernel
theorem dX8_leanAhead_14 : decode cX8_leanAhead 14 = .ok (.ireturn, 1) := by decide +kernel
theorem dX8_leanAhead_15 : decode cX8_leanAhead 15 = .ok (.iload_n 1, 1) := by decide +kernel
theorem dX8_leanAhead_16 : decode cX8_leanAhead 16 = .ok (.i2l, 1) := by decide +kernel
theorem dX8_leanAhead_17 : decode cX8_leanAhead 17 = .ok (.lconst 0, 1) := by decide +kernel
theorem dX8_leanAhead_18 : decode cX8_leanAhead 18 = .ok (.ldc2_w 214, 3) := by decide +kernel
theorem dX8_leanAhead_21 : decode cX8_leanAhead 21 = .ok (.invokestatic 60, 3) := by decide +kernel
theorem dX8_leanAhead_24 : decode cX8_leanAhead 24 = .ok (.ifCond .eq 13, 3) := by decide +kernel
theorem dX8_leanAhead_27 : decode cX8_leanAhead 27 = .ok (.iload_n 2, 1) := by decide +kernel
theorem dX8_leanAhead_28 : decode cX8_leanAhead 28 = .ok (.i2l, 1) := by decide +kernel
theorem dX8_leanAhead_29 : decode cX8_leanAhead 29 = .ok (.lconst 0, 1) := by decide +kernel
theorem dX8_leanAhead_30 : decode cX8_leanAhead 30 = .ok (.lconst 1, 1) := by decide +kernel
theorem dX8_leanAhead_31 : decode cX8_leanAhead 31 = .ok (.invokestatic 60, 3) := by decide +kernel
theorem dX8_leanAhead_34 : decode cX8_leanAhead 34 = .ok (.ifCond .ne 6, 3) := by decide +kernel
theorem dX8_leanAhead_37 : decode cX8_leanAhead 37 = .ok (.ldc 70, 2) := by decide +kernel
theorem dX8_leanAhead_39 : decode cX8_leanAhead 39 = .ok (.ireturn, 1) := by decide +kernel
theorem dX8_leanAhead_40 : decode cX8_leanAhead 40 = .ok (.aload_n 0, 1) := by decide +kernel
theorem dX8_leanAhead_41 : decode cX8_leanAhead 41 = .ok (.invokevirtual 216, 3) := by decide +kernel
theorem dX8_leanAhead_44 : decode cX8_leanAhead 44 = .ok (.aload_n 0, 1) := by decide +kernel
theorem dX8_leanAhead_45 : decode cX8_leanAhead 45 = .ok (.getfield 25, 3) := by decide +kernel
theorem dX8_leanAhead_48 : decode cX8_leanAhead 48 = .ok (.iload_n 1, 1) := by decide +kernel
theorem dX8_leanAhead_49 : decode cX8_leanAhead 49 = .ok (.invokestatic 219, 3) := by decide +kernel
theorem dX8_leanAhead_52 : decode cX8_leanAhead 52 = .ok (.sipush 1000, 3) := by decide +kernel
theorem dX8_leanAhead_55 : decode cX8_leanAhead 55 = .ok (.iload_n 2, 1) := by decide +kernel
theorem dX8_leanAhead_56 : decode cX8_leanAhead 56 = .ok (.ifCond .ne 13, 3) := by decide +kernel
theorem dX8_leanAhead_59 : decode cX8_leanAhead 59 = .ok (.aload_n 0, 1) := by decide +kernel
theorem dX8_leanAhead_60 : decode cX8_leanAhead 60 = .ok (.getfield 25, 3) := by decide +kernel
theorem dX8_leanAhead_63 : decode cX8_leanAhead 63 = .ok (.invokestatic 159, 3) := by decide +kernel
theorem dX8_leanAhead_66 : decode cX8_leanAhead 66 = .ok (.goto 10, 3) := by decide +kernel
theorem dX8_leanAhead_69 : decode cX8_leanAhead 69 = .ok (.aload_n 0, 1) := by decide +kernel
theorem dX8_leanAhead_70 : decode cX8_leanAhead 70 = .ok (.getfield 25, 3) := by decide +kernel
theorem dX8_leanAhead_73 : decode cX8_leanAhead 73 = .ok (.invokestatic 165, 3) := by decide +kernel
theorem dX8_leanAhead_76 : decode cX8_leanAhead 76 = .ok (.iadd, 1) := by decide +kernel
theorem dX8_leanAhead_77 : decode cX8_leanAhead 77 = .ok (.ireturn, 1) := by decide +kernel
theorem dX8_firstBy_0 : decode cX8_firstBy 0 = .ok (.aload_n 0, 1) := by decide +kernel
theorem dX8_firstBy_1 : decode cX8_firstBy 1 = .ok (.invokevirtual 216, 3) := by decide +kernel
theorem dX8_firstBy_4 : decode cX8_firstBy 4 = .ok (.iconst 0, 1) := by decide +kernel
theorem dX8_firstBy_5 : decode cX8_firstBy 5 = .ok (.istore_n 2, 1) := by decide +kernel
theorem dX8_firstBy_6 : decode cX8_firstBy 6 = .ok (.iload_n 2, 1) := by decide +kernel
theorem dX8_firstBy_7 : decode cX8_firstBy 7 = .ok (.bipush 60, 2) := by decide +kernel
theorem dX8_firstBy_9 : decode cX8_firstBy 9 = .ok (.if_icmp .gt 29, 3) := by decide +kernel
theorem dX8_firstBy_12 : decode cX8_firstBy 12 = .ok (.aload_n 0, 1) := by decide +kernel
theorem dX8_firstBy_13 : decode cX8_firstBy 13 = .ok (.getfield 25, 3) := by decide +kernel
theorem dX8_firstBy_16 : decode cX8_firstBy 16 = .ok (.invokestatic 210, 3) := by decide +kernel
theorem dX8_firstBy_19 : decode cX8_firstBy 19 = .ok (.iload_n 1, 1) := by decide +kernel
theorem dX8_firstBy_20 : decode cX8_firstBy 20 = .ok (.if_icmp .ne 5, 3) := by decide +kernel
theorem dX8_firstBy_23 : decode cX8_firstBy 23 = .ok (.iload_n 2, 1) := by decide +kernel
theorem dX8_firstBy_24 : decode cX8_firstBy 24 = .ok (.ireturn, 1) := by decide +kernel
theorem dX8_firstBy_25 : decode cX8_firstBy 25 = .ok (.aload_n 0, 1) := by decide +kernel
theorem dX8_firstBy_26 : decode cX8_firstBy 26 = .ok (.getfield 25, 3) := by decide +kernel
theorem dX8_firstBy_29 : decode cX8_firstBy 29 = .ok (.invokestatic 180, 3) := by decide +kernel
theorem dX8_firstBy_32 : decode cX8_firstBy 32 = .ok (.iinc 2 1, 3) := by decide +kernel
theorem dX8_firstBy_35 : decode cX8_firstBy 35 = .ok (.goto (-29), 3) := by decide +kernel
theorem dX8_firstBy_38 : decode cX8_firstBy 38 = .ok (.bipush 61, 2) := by decide +kernel
theorem dX8_firstBy_40 : decode cX8_firstBy 40 = .ok (.ireturn, 1) := by decide +kernel
theorem dX8_lasts_0 : decode cX8_lasts 0 = .ok (.aload_n 0, 1) := by decide +kernel
theorem dX8_lasts_1 : decode cX8_lasts 1 = .ok (.iconst 0, 1) := by decide +kernel
theorem dX8_lasts_2 : decode cX8_lasts 2 = .ok (.putfield 50, 3) := by decide +kernel
theorem dX8_lasts_5 : decode cX8_lasts 5 = .ok (.aload_n 0, 1) := by decide +kernel
theorem dX8_lasts_6 : decode cX8_lasts 6 = .ok (.invokevirtual 184, 3) := by decide +kernel
theorem dX8_lasts_9 : decode cX8_lasts 9 = .ok (.ifCond .eq 11, 3) := by decide +kernel
theorem dX8_lasts_12 : decode cX8_lasts 12 = .ok (.aload_n 0, 1) := by decide +kernel
theorem dX8_lasts_13 : decode cX8_lasts 13 = .ok (.iconst 0, 1) := by decide +kernel
theorem dX8_lasts_14 : decode cX8_lasts 14 = .ok (.invokevirtual 222, 3) := by decide +kernel
theorem dX8_lasts_17 : decode cX8_lasts 17 = .ok (.goto 5, 3) := by decide +kernel
theorem dX8_lasts_20 : decode cX8_lasts 20 = .ok (.ldc 187, 2) := by decide +kernel
theorem dX8_lasts_22 : decode cX8_lasts 22 = .ok (.ireturn, 1) := by decide +kernel
theorem dX8_first_0 : decode cX8_first 0 = .ok (.aload_n 0, 1) := by decide +kernel
theorem dX8_first_1 : decode cX8_first 1 = .ok (.iconst 0, 1) := by decide +kernel
theorem dX8_first_2 : decode cX8_first 2 = .ok (.putfield 50, 3) := by decide +kernel
theorem dX8_first_5 : decode cX8_first 5 = .ok (.aload_n 0, 1) := by decide +kernel
theorem dX8_first_6 : decode cX8_first 6 = .ok (.invokevirtual 184, 3) := by decide +kernel
theorem dX8_first_9 : decode cX8_first 9 = .ok (.ifCond .ne 6, 3) := by decide +kernel
theorem dX8_first_12 : decode cX8_first 12 = .ok (.ldc 187, 2) := by decide +kernel
theorem dX8_first_14 : decode cX8_first 14 = .ok (.ireturn, 1) := by decide +kernel
theorem dX8_first_15 : decode cX8_first 15 = .ok (.aload_n 0, 1) := by decide +kernel
theorem dX8_first_16 : decode cX8_first 16 = .ok (.iconst 1, 1) := by decide +kernel
theorem dX8_first_17 : decode cX8_first 17 = .ok (.invokevirtual 222, 3) := by decide +kernel
theorem dX8_first_20 : decode cX8_first 20 = .ok (.istore_n 1, 1) := by decide +kernel
theorem dX8_first_21 : decode cX8_first 21 = .ok (.iload_n 1, 1) := by decide +kernel
theorem dX8_first_22 : decode cX8_first 22 = .ok (.bipush 60, 2) := by decide +kernel
theorem dX8_first_24 : decode cX8_first 24 = .ok (.if_icmp .le 8, 3) := by decide +kernel
theorem dX8_first_27 : decode cX8_first 27 = .ok (.ldc 93, 2) := by decide +kernel
theorem dX8_first_29 : decode cX8_first 29 = .ok (.goto 4, 3) := by decide +kernel
theorem dX8_first_32 : decode cX8_first 32 = .ok (.iload_n 1, 1) := by decide +kernel
theorem dX8_first_33 : decode cX8_first 33 = .ok (.ireturn, 1) := by decide +kernel
theorem dX8_awryBy_0 : decode cX8_awryBy 0 = .ok (.aload_n 0, 1) := by decide +kernel
theorem dX8_awryBy_1 : decode cX8_awryBy 1 = .ok (.invokevirtual 216, 3) := by decide +kernel
theorem dX8_awryBy_4 : decode cX8_awryBy 4 = .ok (.aload_n 0, 1) := by decide +kernel
theorem dX8_awryBy_5 : decode cX8_awryBy 5 = .ok (.getfield 25, 3) := by decide +kernel
theorem dX8_awryBy_8 : decode cX8_awryBy 8 = .ok (.iload_n 1, 1) := by decide +kernel
theorem dX8_awryBy_9 : decode cX8_awryBy 9 = .ok (.invokestatic 202, 3) := by decide +kernel
theorem dX8_awryBy_12 : decode cX8_awryBy 12 = .ok (.aload_n 0, 1) := by decide +kernel
theorem dX8_awryBy_13 : decode cX8_awryBy 13 = .ok (.getfield 25, 3) := by decide +kernel
theorem dX8_awryBy_16 : decode cX8_awryBy 16 = .ok (.invokestatic 193, 3) := by decide +kernel
theorem dX8_awryBy_19 : decode cX8_awryBy 19 = .ok (.ireturn, 1) := by decide +kernel
theorem dX8_attempt_0 : decode cX8_attempt 0 = .ok (.aload_n 0, 1) := by decide +kernel
theorem dX8_attempt_1 : decode cX8_attempt 1 = .ok (.iconst 0, 1) := by decide +kernel
theorem dX8_attempt_2 : decode cX8_attempt 2 = .ok (.putfield 50, 3) := by decide +kernel
theorem dX8_attempt_5 : decode cX8_attempt 5 = .ok (.aload_n 0, 1) := by decide +kernel
theorem dX8_attempt_6 : decode cX8_attempt 6 = .ok (.iload_n 1, 1) := by decide +kernel
theorem dX8_attempt_7 : decode cX8_attempt 7 = .ok (.invokevirtual 196, 3) := by decide +kernel
theorem dX8_attempt_10 : decode cX8_attempt 10 = .ok (.ifCond .ne 6, 3) := by decide +kernel
theorem dX8_attempt_13 : decode cX8_attempt 13 = .ok (.ldc 70, 2) := by decide +kernel
theorem dX8_attempt_15 : decode cX8_attempt 15 = .ok (.ireturn, 1) := by decide +kernel
theorem dX8_attempt_16 : decode cX8_attempt 16 = .ok (.aload_n 0, 1) := by decide +kernel
theorem dX8_attempt_17 : decode cX8_attempt 17 = .ok (.iload_n 1, 1) := by decide +kernel
theorem dX8_attempt_18 : decode cX8_attempt 18 = .ok (.invokevirtual 199, 3) := by decide +kernel
theorem dX8_attempt_21 : decode cX8_attempt 21 = .ok (.ifCond .eq 8, 3) := by decide +kernel
theorem dX8_attempt_24 : decode cX8_attempt 24 = .ok (.ldc 187, 2) := by decide +kernel
theorem dX8_attempt_26 : decode cX8_attempt 26 = .ok (.goto 8, 3) := by decide +kernel
theorem dX8_attempt_29 : decode cX8_attempt 29 = .ok (.aload_n 0, 1) := by decide +kernel
theorem dX8_attempt_30 : decode cX8_attempt 30 = .ok (.iload_n 1, 1) := by decide +kernel
theorem dX8_attempt_31 : decode cX8_attempt 31 = .ok (.invokevirtual 226, 3) := by decide +kernel
theorem dX8_attempt_34 : decode cX8_attempt 34 = .ok (.ireturn, 1) := by decide +kernel
theorem dX8_best_0 : decode cX8_best 0 = .ok (.aload_n 0, 1) := by decide +kernel
theorem dX8_best_1 : decode cX8_best 1 = .ok (.iconst 0, 1) := by decide +kernel
theorem dX8_best_2 : decode cX8_best 2 = .ok (.putfield 50, 3) := by decide +kernel
theorem dX8_best_5 : decode cX8_best 5 = .ok (.aload_n 0, 1) := by decide +kernel
theorem dX8_best_6 : decode cX8_best 6 = .ok (.invokevirtual 184, 3) := by decide +kernel
theorem dX8_best_9 : decode cX8_best 9 = .ok (.ifCond .ne 6, 3) := by decide +kernel
theorem dX8_best_12 : decode cX8_best 12 = .ok (.ldc 187, 2) := by decide +kernel
theorem dX8_best_14 : decode cX8_best 14 = .ok (.ireturn, 1) := by decide +kernel
theorem dX8_best_15 : decode cX8_best 15 = .ok (.iload_n 1, 1) := by decide +kernel
theorem dX8_best_16 : decode cX8_best 16 = .ok (.i2l, 1) := by decide +kernel
theorem dX8_best_17 : decode cX8_best 17 = .ok (.lconst 0, 1) := by decide +kernel
theorem dX8_best_18 : decode cX8_best 18 = .ok (.lconst 1, 1) := by decide +kernel
theorem dX8_best_19 : decode cX8_best 19 = .ok (.invokestatic 60, 3) := by decide +kernel
theorem dX8_best_22 : decode cX8_best 22 = .ok (.ifCond .ne 6, 3) := by decide +kernel
theorem dX8_best_25 : decode cX8_best 25 = .ok (.ldc 70, 2) := by decide +kernel
theorem dX8_best_27 : decode cX8_best 27 = .ok (.ireturn, 1) := by decide +kernel
theorem dX8_best_28 : decode cX8_best 28 = .ok (.ldc 93, 2) := by decide +kernel
theorem dX8_best_30 : decode cX8_best 30 = .ok (.istore_n 2, 1) := by decide +kernel
theorem dX8_best_31 : decode cX8_best 31 = .ok (.ldc 93, 2) := by decide +kernel
theorem dX8_best_33 : decode cX8_best 33 = .ok (.istore_n 3, 1) := by decide +kernel
theorem dX8_best_34 : decode cX8_best 34 = .ok (.iconst 0, 1) := by decide +kernel
theorem dX8_best_35 : decode cX8_best 35 = .ok (.istore 4, 2) := by decide +kernel
theorem dX8_best_37 : decode cX8_best 37 = .ok (.iload 4, 2) := by decide +kernel
theorem dX8_best_39 : decode cX8_best 39 = .ok (.aload_n 0, 1) := by decide +kernel
theorem dX8_best_40 : decode cX8_best 40 = .ok (.getfield 19, 3) := by decide +kernel
theorem dX8_best_43 : decode cX8_best 43 = .ok (.iconst 5, 1) := by decide +kernel
theorem dX8_best_44 : decode cX8_best 44 = .ok (.iaload, 1) := by decide +kernel
theorem dX8_best_45 : decode cX8_best 45 = .ok (.if_icmp .ge 81, 3) := by decide +kernel
theorem dX8_best_48 : decode cX8_best 48 = .ok (.aload_n 0, 1) := by decide +kernel
theorem dX8_best_49 : decode cX8_best 49 = .ok (.iload 4, 2) := by decide +kernel
theorem dX8_best_51 : decode cX8_best 51 = .ok (.invokevirtual 199, 3) := by decide +kernel
theorem dX8_best_54 : decode cX8_best 54 = .ok (.ifCond .eq 8, 3) := by decide +kernel
theorem dX8_best_57 : decode cX8_best 57 = .ok (.ldc 93, 2) := by decide +kernel
theorem dX8_best_59 : decode cX8_best 59 = .ok (.goto 9, 3) := by decide +kernel
theorem dX8_best_62 : decode cX8_best 62 = .ok (.aload_n 0, 1) := by decide +kernel
theorem dX8_best_63 : decode cX8_best 63 = .ok (.iload 4, 2) := by decide +kernel
theorem dX8_best_65 : decode cX8_best 65 = .ok (.invokevirtual 226, 3) := by decide +kernel
theorem dX8_best_68 : decode cX8_best 68 = .ok (.istore 5, 2) := by decide +kernel
theorem dX8_best_70 : decode cX8_best 70 = .ok (.iload 5, 2) := by decide +kernel
theorem dX8_best_72 : decode cX8_best 72 = .ok (.ldc 93, 2) := by decide +kernel
theorem dX8_best_74 : decode cX8_best 74 = .ok (.if_icmp .eq 19, 3) := by decide +kernel
theorem dX8_best_77 : decode cX8_best 77 = .ok (.iload_n 2, 1) := by decide +kernel
theorem dX8_best_78 : decode cX8_best 78 = .ok (.ldc 93, 2) := by decide +kernel
theorem dX8_best_80 : decode cX8_best 80 = .ok (.if_icmp .eq 9, 3) := by decide +kernel
theorem dX8_best_83 : decode cX8_best 83 = .ok (.iload 5, 2) := by decide +kernel
theorem dX8_best_85 : decode cX8_best 85 = .ok (.iload_n 3, 1) := by decide +kernel
theorem dX8_best_86 : decode cX8_best 86 = .ok (.if_icmp .ge 7, 3) := by decide +kernel
theorem dX8_best_89 : decode cX8_best 89 = .ok (.iconst 1, 1) := by decide +kernel
theorem dX8_best_90 : decode cX8_best 90 = .ok (.goto 4, 3) := by decide +kernel
theorem dX8_best_93 : decode cX8_best 93 = .ok (.iconst 0, 1) := by decide +kernel
theorem dX8_best_94 : decode cX8_best 94 = .ok (.istore 6, 2) := by decide +kernel
theorem dX8_best_96 : decode cX8_best 96 = .ok (.iload 6, 2) := by decide +kernel
theorem dX8_best_98 : decode cX8_best 98 = .ok (.ifCond .eq 8, 3) := by decide +kernel
theorem dX8_best_101 : decode cX8_best 101 = .ok (.iload 4, 2) := by decide +kernel
theorem dX8_best_103 : decode cX8_best 103 = .ok (.goto 4, 3) := by decide +kernel
theorem dX8_best_106 : decode cX8_best 106 = .ok (.iload_n 2, 1) := by decide +kernel
theorem dX8_best_107 : decode cX8_best 107 = .ok (.istore_n 2, 1) := by decide +kernel
theorem dX8_best_108 : decode cX8_best 108 = .ok (.iload 6, 2) := by decide +kernel
theorem dX8_best_110 : decode cX8_best 110 = .ok (.ifCond .eq 8, 3) := by decide +kernel
theorem dX8_best_113 : decode cX8_best 113 = .ok (.iload 5, 2) := by decide +kernel
theorem dX8_best_115 : decode cX8_best 115 = .ok (.goto 4, 3) := by decide +kernel
theorem dX8_best_118 : decode cX8_best 118 = .ok (.iload_n 3, 1) := by decide +kernel
theorem dX8_best_119 : decode cX8_best 119 = .ok (.istore_n 3, 1) := by decide +kernel
theorem dX8_best_120 : decode cX8_best 120 = .ok (.iinc 4 1, 3) := by decide +kernel
theorem dX8_best_123 : decode cX8_best 123 = .ok (.goto (-86), 3) := by decide +kernel
theorem dX8_best_126 : decode cX8_best 126 = .ok (.iload_n 1, 1) := by decide +kernel
theorem dX8_best_127 : decode cX8_best 127 = .ok (.ifCond .ne 7, 3) := by decide +kernel
theorem dX8_best_130 : decode cX8_best 130 = .ok (.iload_n 2, 1) := by decide +kernel
theorem dX8_best_131 : decode cX8_best 131 = .ok (.goto 4, 3) := by decide +kernel
theorem dX8_best_134 : decode cX8_best 134 = .ok (.iload_n 3, 1) := by decide +kernel
theorem dX8_best_135 : decode cX8_best 135 = .ok (.ireturn, 1) := by decide +kernel
theorem dX8_layStep_0 : decode cX8_layStep 0 = .ok (.iconst 0, 1) := by decide +kernel
theorem dX8_layStep_1 : decode cX8_layStep 1 = .ok (.istore_n 2, 1) := by decide +kernel
theorem dX8_layStep_2 : decode cX8_layStep 2 = .ok (.iload_n 2, 1) := by decide +kernel
theorem dX8_layStep_3 : decode cX8_layStep 3 = .ok (.bipush 34, 2) := by decide +kernel
theorem dX8_layStep_5 : decode cX8_layStep 5 = .ok (.if_icmp .ge 26, 3) := by decide +kernel
theorem dX8_layStep_8 : decode cX8_layStep 8 = .ok (.aload_n 0, 1) := by decide +kernel
theorem dX8_layStep_9 : decode cX8_layStep 9 = .ok (.getfield 25, 3) := by decide +kernel
theorem dX8_layStep_12 : decode cX8_layStep 12 = .ok (.iload_n 2, 1) := by decide +kernel
theorem dX8_layStep_13 : decode cX8_layStep 13 = .ok (.aload_n 0, 1) := by decide +kernel
theorem dX8_layStep_14 : decode cX8_layStep 14 = .ok (.getfield 34, 3) := by decide +kernel
theorem dX8_layStep_17 : decode cX8_layStep 17 = .ok (.bipush 34, 2) := by decide +kernel
theorem dX8_layStep_19 : decode cX8_layStep 19 = .ok (.iload_n 1, 1) := by decide +kernel
theorem dX8_layStep_20 : decode cX8_layStep 20 = .ok (.imul, 1) := by decide +kernel
theorem dX8_layStep_21 : decode cX8_layStep 21 = .ok (.iload_n 2, 1) := by decide +kernel
theorem dX8_layStep_22 : decode cX8_layStep 22 = .ok (.iadd, 1) := by decide +kernel
theorem dX8_layStep_23 : decode cX8_layStep 23 = .ok (.iaload, 1) := by decide +kernel
theorem dX8_layStep_24 : decode cX8_layStep 24 = .ok (.iastore, 1) := by decide +kernel
theorem dX8_layStep_25 : decode cX8_layStep 25 = .ok (.iinc 2 1, 3) := by decide +kernel
theorem dX8_layStep_28 : decode cX8_layStep 28 = .ok (.goto (-26), 3) := by decide +kernel
theorem dX8_layStep_31 : decode cX8_layStep 31 = .ok (.return_, 1) := by decide +kernel
theorem dX8_isStepDone_0 : decode cX8_isStepDone 0 = .ok (.aload_n 0, 1) := by decide +kernel
theorem dX8_isStepDone_1 : decode cX8_isStepDone 1 = .ok (.getfield 34, 3) := by decide +kernel
theorem dX8_isStepDone_4 : decode cX8_isStepDone 4 = .ok (.bipush 34, 2) := by decide +kernel
theorem dX8_isStepDone_6 : decode cX8_isStepDone 6 = .ok (.iload_n 1, 1) := by decide +kernel
theorem dX8_isStepDone_7 : decode cX8_isStepDone 7 = .ok (.imul, 1) := by decide +kernel
theorem dX8_isStepDone_8 : decode cX8_isStepDone 8 = .ok (.bipush 6, 2) := by decide +kernel
theorem dX8_isStepDone_10 : decode cX8_isStepDone 10 = .ok (.iadd, 1) := by decide +kernel
theorem dX8_isStepDone_11 : decode cX8_isStepDone 11 = .ok (.iaload, 1) := by decide +kernel
theorem dX8_isStepDone_12 : decode cX8_isStepDone 12 = .ok (.iload_n 2, 1) := by decide +kernel
theorem dX8_isStepDone_13 : decode cX8_isStepDone 13 = .ok (.ishr, 1) := by decide +kernel
theorem dX8_isStepDone_14 : decode cX8_isStepDone 14 = .ok (.iconst 1, 1) := by decide +kernel
theorem dX8_isStepDone_15 : decode cX8_isStepDone 15 = .ok (.iand, 1) := by decide +kernel
theorem dX8_isStepDone_16 : decode cX8_isStepDone 16 = .ok (.iconst 1, 1) := by decide +kernel
theorem dX8_isStepDone_17 : decode cX8_isStepDone 17 = .ok (.if_icmp .ne 7, 3) := by decide +kernel
theorem dX8_isStepDone_20 : decode cX8_isStepDone 20 = .ok (.iconst 1, 1) := by decide +kernel
theorem dX8_isStepDone_21 : decode cX8_isStepDone 21 = .ok (.goto 4, 3) := by decide +kernel
theorem dX8_isStepDone_24 : decode cX8_isStepDone 24 = .ok (.iconst 0, 1) := by decide +kernel
theorem dX8_isStepDone_25 : decode cX8_isStepDone 25 = .ok (.ireturn, 1) := by decide +kernel
theorem dX8_planned_0 : decode cX8_planned 0 = .ok (.iconst 0, 1) := by decide +kernel
theorem dX8_planned_1 : decode cX8_planned 1 = .ok (.istore_n 3, 1) := by decide +kernel
theorem dX8_planned_2 : decode cX8_planned 2 = .ok (.iload_n 3, 1) := by decide +kernel
theorem dX8_planned_3 : decode cX8_planned 3 = .ok (.bipush 34, 2) := by decide +kernel
theorem dX8_planned_5 : decode cX8_planned 5 = .ok (.if_icmp .ge 21, 3) := by decide +kernel
theorem dX8_planned_8 : decode cX8_planned 8 = .ok (.aload_n 0, 1) := by decide +kernel
theorem dX8_planned_9 : decode cX8_planned 9 = .ok (.getfield 34, 3) := by decide +kernel
theorem dX8_planned_12 : decode cX8_planned 12 = .ok (.iload_n 3, 1) := by decide +kernel
theorem dX8_planned_13 : decode cX8_planned 13 = .ok (.aload_n 0, 1) := by decide +kernel
theorem dX8_planned_14 : decode cX8_planned 14 = .ok (.getfield 19, 3) := by decide +kernel
theorem dX8_planned_17 : decode cX8_planned 17 = .ok (.iload_n 3, 1) := by decide +kernel
theorem dX8_planned_18 : decode cX8_planned 18 = .ok (.iaload, 1) := by decide +kernel
theorem dX8_planned_19 : decode cX8_planned 19 = .ok (.iastore, 1) := by decide +kernel
theorem dX8_planned_20 : decode cX8_planned 20 = .ok (.iinc 3 1, 3) := by decide +kernel
theorem dX8_planned_23 : decode cX8_planned 23 = .ok (.goto (-21), 3) := by decide +kernel
theorem dX8_planned_26 : decode cX8_planned 26 = .ok (.iconst 0, 1) := by decide +kernel
theorem dX8_planned_27 : decode cX8_planned 27 = .ok (.istore_n 3, 1) := by decide +kernel
theorem dX8_planned_28 : decode cX8_planned 28 = .ok (.aload_n 0, 1) := by decide +kernel
theorem dX8_planned_29 : decode cX8_planned 29 = .ok (.getfield 37, 3) := by decide +kernel
theorem dX8_planned_32 : decode cX8_planned 32 = .ok (.iconst 0, 1) := by decide +kernel
theorem dX8_planned_33 : decode cX8_planned 33 = .ok (.iconst (-1), 1) := by decide +kernel
theorem dX8_planned_34 : decode cX8_planned 34 = .ok (.iastore, 1) := by decide +kernel
theorem dX8_planned_35 : decode cX8_planned 35 = .ok (.iload_n 1, 1) := by decide +kernel
theorem dX8_planned_36 : decode cX8_planned 36 = .ok (.ifCond .ne 24, 3) := by decide +kernel
theorem dX8_planned_39 : decode cX8_planned 39 = .ok (.aload_n 0, 1) := by decide +kernel
theorem dX8_planned_40 : decode cX8_planned 40 = .ok (.iconst 0, 1) := by decide +kernel
theorem dX8_planned_41 : decode cX8_planned 41 = .ok (.invokevirtual 229, 3) := by decide +kernel
theorem dX8_planned_44 : decode cX8_planned 44 = .ok (.aload_n 0, 1) := by decide +kernel
theorem dX8_planned_45 : decode cX8_planned 45 = .ok (.getfield 25, 3) := by decide +kernel
theorem dX8_planned_48 : decode cX8_planned 48 = .ok (.iload_n 2, 1) := by decide +kernel
theorem dX8_planned_49 : decode cX8_planned 49 = .ok (.invokestatic 219, 3) := by decide +kernel
theorem dX8_planned_52 : decode cX8_planned 52 = .ok (.aload_n 0, 1) := by decide +kernel
theorem dX8_planned_53 : decode cX8_planned 53 = .ok (.getfield 25, 3) := by decide +kernel
theorem dX8_planned_56 : decode cX8_planned 56 = .ok (.invokestatic 210, 3) := by decide +kernel
theorem dX8_planned_59 : decode cX8_planned 59 = .ok (.ireturn, 1) := by decide +kernel
theorem dX8_planned_60 : decode cX8_planned 60 = .ok (.iload_n 3, 1) := by decide +kernel
theorem dX8_planned_61 : decode cX8_planned 61 = .ok (.ifCond .lt 140, 3) := by decide +kernel
theorem dX8_planned_64 : decode cX8_planned 64 = .ok (.aload_n 0, 1) := by decide +kernel
theorem dX8_planned_65 : decode cX8_planned 65 = .ok (.getfield 37, 3) := by decide +kernel
theorem dX8_planned_68 : decode cX8_planned 68 = .ok (.iload_n 3, 1) := by decide +kernel
theorem dX8_planned_69 : decode cX8_planned 69 = .ok (.dup2, 1) := by decide +kernel
theorem dX8_planned_70 : decode cX8_planned 70 = .ok (.iaload, 1) := by decide +kernel
theorem dX8_planned_71 : decode cX8_planned 71 = .ok (.iconst 1, 1) := by decide +kernel
theorem dX8_planned_72 : decode cX8_planned 72 = .ok (.iadd, 1) := by decide +kernel
theorem dX8_planned_73 : decode cX8_planned 73 = .ok (.iastore, 1) := by decide +kernel
theorem dX8_planned_74 : decode cX8_planned 74 = .ok (.aload_n 0, 1) := by decide +kernel
theorem dX8_planned_75 : decode cX8_planned 75 = .ok (.getfield 37, 3) := by decide +kernel
theorem dX8_planned_78 : decode cX8_planned 78 = .ok (.iload_n 3, 1) := by decide +kernel
theorem dX8_planned_79 : decode cX8_planned 79 = .ok (.iaload, 1) := by decide +kernel
theorem dX8_planned_80 : decode cX8_planned 80 = .ok (.istore 4, 2) := by decide +kernel
theorem dX8_planned_82 : decode cX8_planned 82 = .ok (.iload 4, 2) := by decide +kernel
theorem dX8_planned_84 : decode cX8_planned 84 = .ok (.aload_n 0, 1) := by decide +kernel
theorem dX8_planned_85 : decode cX8_planned 85 = .ok (.getfield 19, 3) := by decide +kernel
theorem dX8_planned_88 : decode cX8_planned 88 = .ok (.iconst 5, 1) := by decide +kernel
theorem dX8_planned_89 : decode cX8_planned 89 = .ok (.iaload, 1) := by decide +kernel
theorem dX8_planned_90 : decode cX8_planned 90 = .ok (.if_icmp .lt 9, 3) := by decide +kernel
theorem dX8_planned_93 : decode cX8_planned 93 = .ok (.iinc 3 (-1), 3) := by decide +kernel
theorem dX8_planned_96 : decode cX8_planned 96 = .ok (.goto 102, 3) := by decide +kernel
theorem dX8_planned_99 : decode cX8_planned 99 = .ok (.aload_n 0, 1) := by decide +kernel
theorem dX8_planned_100 : decode cX8_planned 100 = .ok (.iload_n 3, 1) := by decide +kernel
theorem dX8_planned_101 : decode cX8_planned 101 = .ok (.iload 4, 2) := by decide +kernel
theorem dX8_planned_103 : decode cX8_planned 103 = .ok (.invokevirtual 232, 3) := by decide +kernel
theorem dX8_planned_106 : decode cX8_planned 106 = .ok (.ifCond .ne 92, 3) := by decide +kernel
theorem dX8_planned_109 : decode cX8_planned 109 = .ok (.aload_n 0, 1) := by decide +kernel
theorem dX8_planned_110 : decode cX8_planned 110 = .ok (.iload_n 3, 1) := by decide +kernel
theorem dX8_planned_111 : decode cX8_planned 111 = .ok (.invokevirtual 229, 3) := by decide +kernel
theorem dX8_planned_114 : decode cX8_planned 114 = .ok (.aload_n 0, 1) := by decide +kernel
theorem dX8_planned_115 : decode cX8_planned 115 = .ok (.getfield 25, 3) := by decide +kernel
theorem dX8_planned_118 : decode cX8_planned 118 = .ok (.iload 4, 2) := by decide +kernel
theorem dX8_planned_120 : decode cX8_planned 120 = .ok (.invokestatic 202, 3) := by decide +kernel
theorem dX8_planned_123 : decode cX8_planned 123 = .ok (.iload_n 3, 1) := by decide +kernel
theorem dX8_planned_124 : decode cX8_planned 124 = .ok (.iconst 1, 1) := by decide +kernel
theorem dX8_planned_125 : decode cX8_planned 125 = .ok (.iadd, 1) := by decide +kernel
theorem dX8_planned_126 : decode cX8_planned 126 = .ok (.iload_n 1, 1) := by decide +kernel
theorem dX8_planned_127 : decode cX8_planned 127 = .ok (.if_icmp .ge 51, 3) := by decide +kernel
theorem dX8_planned_130 : decode cX8_planned 130 = .ok (.iinc 3 1, 3) := by decide +kernel
theorem dX8_planned_133 : decode cX8_planned 133 = .ok (.iconst 0, 1) := by decide +kernel
theorem dX8_planned_134 : decode cX8_planned 134 = .ok (.istore 5, 2) := by decide +kernel
theorem dX8_planned_136 : decode cX8_planned 136 = .ok (.iload 5, 2) := by decide +kernel
theorem dX8_planned_138 : decode cX8_planned 138 = .ok (.bipush 34, 2) := by decide +kernel
theorem dX8_planned_140 : decode cX8_planned 140 = .ok (.if_icmp .ge 28, 3) := by decide +kernel
theorem dX8_planned_143 : decode cX8_planned 143 = .ok (.aload_n 0, 1) := by decide +kernel
theorem dX8_planned_144 : decode cX8_planned 144 = .ok (.getfield 34, 3) := by decide +kernel
theorem dX8_planned_147 : decode cX8_planned 147 = .ok (.bipush 34, 2) := by decide +kernel
theorem dX8_planned_149 : decode cX8_planned 149 = .ok (.iload_n 3, 1) := by decide +kernel
theorem dX8_planned_150 : decode cX8_planned 150 = .ok (.imul, 1) := by decide +kernel
theorem dX8_planned_151 : decode cX8_planned 151 = .ok (.iload 5, 2) := by decide +kernel
theorem dX8_planned_153 : decode cX8_planned 153 = .ok (.iadd, 1) := by decide +kernel
theorem dX8_planned_154 : decode cX8_planned 154 = .ok (.aload_n 0, 1) := by decide +kernel
theorem dX8_planned_155 : decode cX8_planned 155 = .ok (.getfield 25, 3) := by decide +kernel
theorem dX8_planned_158 : decode cX8_planned 158 = .ok (.iload 5, 2) := by decide +kernel
theorem dX8_planned_160 : decode cX8_planned 160 = .ok (.iaload, 1) := by decide +kernel
theorem dX8_planned_161 : decode cX8_planned 161 = .ok (.iastore, 1) := by decide +kernel
theorem dX8_planned_162 : decode cX8_planned 162 = .ok (.iinc 5 1, 3) := by decide +kernel
theorem dX8_planned_165 : decode cX8_planned 165 = .ok (.goto (-29), 3) := by decide +kernel
theorem dX8_planned_168 : decode cX8_planned 168 = .ok (.aload_n 0, 1) := by decide +kernel
theorem dX8_planned_169 : decode cX8_planned 169 = .ok (.getfield 37, 3) := by decide +kernel
theorem dX8_planned_172 : decode cX8_planned 172 = .ok (.iload_n 3, 1) := by decide +kernel
theorem dX8_planned_173 : decode cX8_planned 173 = .ok (.iconst (-1), 1) := by decide +kernel
theorem dX8_planned_174 : decode cX8_planned 174 = .ok (.iastore, 1) := by decide +kernel
theorem dX8_planned_175 : decode cX8_planned 175 = .ok (.goto 23, 3) := by decide +kernel
theorem dX8_planned_178 : decode cX8_planned 178 = .ok (.aload_n 0, 1) := by decide +kernel
theorem dX8_planned_179 : decode cX8_planned 179 = .ok (.getfield 25, 3) := by decide +kernel
theorem dX8_planned_182 : decode cX8_planned 182 = .ok (.iload_n 2, 1) := by decide +kernel
theorem dX8_planned_183 : decode cX8_planned 183 = .ok (.invokestatic 219, 3) := by decide +kernel
theorem dX8_planned_186 : decode cX8_planned 186 = .ok (.aload_n 0, 1) := by decide +kernel
theorem dX8_planned_187 : decode cX8_planned 187 = .ok (.getfield 25, 3) := by decide +kernel
theorem dX8_planned_190 : decode cX8_planned 190 = .ok (.invokestatic 210, 3) := by decide +kernel
theorem dX8_planned_193 : decode cX8_planned 193 = .ok (.ifCond .eq 5, 3) := by decide +kernel
theorem dX8_planned_196 : decode cX8_planned 196 = .ok (.iconst 1, 1) := by decide +kernel
theorem dX8_planned_197 : decode cX8_planned 197 = .ok (.ireturn, 1) := by decide +kernel
theorem dX8_planned_198 : decode cX8_planned 198 = .ok (.goto (-138), 3) := by decide +kernel
theorem dX8_planned_201 : decode cX8_planned 201 = .ok (.iconst 0, 1) := by decide +kernel
theorem dX8_planned_202 : decode cX8_planned 202 = .ok (.ireturn, 1) := by decide +kernel
theorem dX8_plan_0 : decode cX8_plan 0 = .ok (.aload_n 0, 1) := by decide +kernel
theorem dX8_plan_1 : decode cX8_plan 1 = .ok (.iconst 0, 1) := by decide +kernel
theorem dX8_plan_2 : decode cX8_plan 2 = .ok (.putfield 50, 3) := by decide +kernel
theorem dX8_plan_5 : decode cX8_plan 5 = .ok (.aload_n 0, 1) := by decide +kernel
theorem dX8_plan_6 : decode cX8_plan 6 = .ok (.invokevirtual 184, 3) := by decide +kernel
theorem dX8_plan_9 : decode cX8_plan 9 = .ok (.ifCond .ne 6, 3) := by decide +kernel
theorem dX8_plan_12 : decode cX8_plan 12 = .ok (.ldc 187, 2) := by decide +kernel
theorem dX8_plan_14 : decode cX8_plan 14 = .ok (.ireturn, 1) := by decide +kernel
theorem dX8_plan_15 : decode cX8_plan 15 = .ok (.iload_n 1, 1) := by decide +kernel
theorem dX8_plan_16 : decode cX8_plan 16 = .ok (.i2l, 1) := by decide +kernel
theorem dX8_plan_17 : decode cX8_plan 17 = .ok (.lconst 0, 1) := by decide +kernel
theorem dX8_plan_18 : decode cX8_plan 18 = .ok (.ldc2_w 188, 3) := by decide +kernel
theorem dX8_plan_21 : decode cX8_plan 21 = .ok (.invokestatic 60, 3) := by decide +kernel
theorem dX8_plan_24 : decode cX8_plan 24 = .ok (.ifCond .eq 8, 3) := by decide +kernel
theorem dX8_plan_27 : decode cX8_plan 27 = .ok (.iload_n 2, 1) := by decide +kernel
theorem dX8_plan_28 : decode cX8_plan 28 = .ok (.iconst (-1), 1) := by decide +kernel
theorem dX8_plan_29 : decode cX8_plan 29 = .ok (.if_icmp .ge 6, 3) := by decide +kernel
theorem dX8_plan_32 : decode cX8_plan 32 = .ok (.ldc 70, 2) := by decide +kernel
theorem dX8_plan_34 : decode cX8_plan 34 = .ok (.ireturn, 1) := by decide +kernel
theorem dX8_plan_35 : decode cX8_plan 35 = .ok (.iconst 0, 1) := by decide +kernel
theorem dX8_plan_36 : decode cX8_plan 36 = .ok (.istore_n 3, 1) := by decide +kernel
theorem dX8_plan_37 : decode cX8_plan 37 = .ok (.iload_n 3, 1) := by decide +kernel
theorem dX8_plan_38 : decode cX8_plan 38 = .ok (.aload_n 0, 1) := by decide +kernel
theorem dX8_plan_39 : decode cX8_plan 39 = .ok (.getfield 19, 3) := by decide +kernel
theorem dX8_plan_42 : decode cX8_plan 42 = .ok (.iconst 5, 1) := by decide +kernel
theorem dX8_plan_43 : decode cX8_plan 43 = .ok (.iaload, 1) := by decide +kernel
theorem dX8_plan_44 : decode cX8_plan 44 = .ok (.if_icmp .gt 44, 3) := by decide +kernel
theorem dX8_plan_47 : decode cX8_plan 47 = .ok (.aload_n 0, 1) := by decide +kernel
theorem dX8_plan_48 : decode cX8_plan 48 = .ok (.iload_n 3, 1) := by decide +kernel
theorem dX8_plan_49 : decode cX8_plan 49 = .ok (.iload_n 1, 1) := by decide +kernel
theorem dX8_plan_50 : decode cX8_plan 50 = .ok (.invokevirtual 236, 3) := by decide +kernel
theorem dX8_plan_53 : decode cX8_plan 53 = .ok (.ifCond .eq 29, 3) := by decide +kernel
theorem dX8_plan_56 : decode cX8_plan 56 = .ok (.iload_n 2, 1) := by decide +kernel
theorem dX8_plan_57 : decode cX8_plan 57 = .ok (.iconst (-1), 1) := by decide +kernel
theorem dX8_plan_58 : decode cX8_plan 58 = .ok (.if_icmp .ne 7, 3) := by decide +kernel
theorem dX8_plan_61 : decode cX8_plan 61 = .ok (.iload_n 3, 1) := by decide +kernel
theorem dX8_plan_62 : decode cX8_plan 62 = .ok (.goto 19, 3) := by decide +kernel
theorem dX8_plan_65 : decode cX8_plan 65 = .ok (.iload_n 2, 1) := by decide +kernel
theorem dX8_plan_66 : decode cX8_plan 66 = .ok (.iload_n 3, 1) := by decide +kernel
theorem dX8_plan_67 : decode cX8_plan 67 = .ok (.if_icmp .ge 12, 3) := by decide +kernel
theorem dX8_plan_70 : decode cX8_plan 70 = .ok (.aload_n 0, 1) := by decide +kernel
theorem dX8_plan_71 : decode cX8_plan 71 = .ok (.getfield 37, 3) := by decide +kernel
theorem dX8_plan_74 : decode cX8_plan 74 = .ok (.iload_n 2, 1) := by decide +kernel
theorem dX8_plan_75 : decode cX8_plan 75 = .ok (.iaload, 1) := by decide +kernel
theorem dX8_plan_76 : decode cX8_plan 76 = .ok (.goto 5, 3) := by decide +kernel
theorem dX8_plan_79 : decode cX8_plan 79 = .ok (.ldc 93, 2) := by decide +kernel
theorem dX8_plan_81 : decode cX8_plan 81 = .ok (.ireturn, 1) := by decide +kernel
theorem dX8_plan_82 : decode cX8_plan 82 = .ok (.iinc 3 1, 3) := by decide +kernel
theorem dX8_plan_85 : decode cX8_plan 85 = .ok (.goto (-48), 3) := by decide +kernel
theorem dX8_plan_88 : decode cX8_plan 88 = .ok (.ldc 93, 2) := by decide +kernel
theorem dX8_plan_90 : decode cX8_plan 90 = .ok (.ireturn, 1) := by decide +kernel
theorem dX8_boards_0 : decode cX8_boards 0 = .ok (.aload_n 0, 1) := by decide +kernel
theorem dX8_boards_1 : decode cX8_boards 1 = .ok (.iconst 0, 1) := by decide +kernel
theorem dX8_boards_2 : decode cX8_boards 2 = .ok (.putfield 50, 3) := by decide +kernel
theorem dX8_boards_5 : decode cX8_boards 5 = .ok (.aload_n 0, 1) := by decide +kernel
theorem dX8_boards_6 : decode cX8_boards 6 = .ok (.invokevirtual 184, 3) := by decide +kernel
theorem dX8_boards_9 : decode cX8_boards 9 = .ok (.ifCond .ne 6, 3) := by decide +kernel
theorem dX8_boards_12 : decode cX8_boards 12 = .ok (.ldc 187, 2) := by decide +kernel
theorem dX8_boards_14 : decode cX8_boards 14 = .ok (.ireturn, 1) := by decide +kernel
theorem dX8_boards_15 : decode cX8_boards 15 = .ok (.iload_n 1, 1) := by decide +kernel
theorem dX8_boards_16 : decode cX8_boards 16 = .ok (.i2l, 1) := by decide +kernel
theorem dX8_boards_17 : decode cX8_boards 17 = .ok (.lconst 1, 1) := by decide +kernel
theorem dX8_boards_18 : decode cX8_boards 18 = .ok (.ldc2_w 188, 3) := by decide +kernel
theorem dX8_boards_21 : decode cX8_boards 21 = .ok (.invokestatic 60, 3) := by decide +kernel
theorem dX8_boards_24 : decode cX8_boards 24 = .ok (.ifCond .eq 17, 3) := by decide +kernel
theorem dX8_boards_27 : decode cX8_boards 27 = .ok (.iload_n 2, 1) := by decide +kernel
theorem dX8_boards_28 : decode cX8_boards 28 = .ok (.i2l, 1) := by decide +kernel
theorem dX8_boards_29 : decode cX8_boards 29 = .ok (.ldc2_w 239, 3) := by decide +kernel
theorem dX8_boards_32 : decode cX8_boards 32 = .ok (.ldc2_w 68, 3) := by decide +kernel
theorem dX8_boards_35 : decode cX8_boards 35 = .ok (.invokestatic 60, 3) := by decide +kernel
theorem dX8_boards_38 : decode cX8_boards 38 = .ok (.ifCond .ne 6, 3) := by decide +kernel
theorem dX8_boards_41 : decode cX8_boards 41 = .ok (.ldc 70, 2) := by decide +kernel
theorem dX8_boards_43 : decode cX8_boards 43 = .ok (.ireturn, 1) := by decide +kernel
theorem dX8_boards_44 : decode cX8_boards 44 = .ok (.ldc 93, 2) := by decide +kernel
theorem dX8_boards_46 : decode cX8_boards 46 = .ok (.istore_n 3, 1) := by decide +kernel
theorem dX8_boards_47 : decode cX8_boards 47 = .ok (.ldc 93, 2) := by decide +kernel
theorem dX8_boards_49 : decode cX8_boards 49 = .ok (.istore 4, 2) := by decide +kernel
theorem dX8_boards_51 : decode cX8_boards 51 = .ok (.iconst 0, 1) := by decide +kernel
theorem dX8_boards_52 : decode cX8_boards 52 = .ok (.istore 5, 2) := by decide +kernel
theorem dX8_boards_54 : decode cX8_boards 54 = .ok (.iload 5, 2) := by decide +kernel
theorem dX8_boards_56 : decode cX8_boards 56 = .ok (.bipush 64, 2) := by decide +kernel
theorem dX8_boards_58 : decode cX8_boards 58 = .ok (.if_icmp .ge 163, 3) := by decide +kernel
theorem dX8_boards_61 : decode cX8_boards 61 = .ok (.iload 5, 2) := by decide +kernel
theorem dX8_boards_63 : decode cX8_boards 63 = .ok (.iconst 4, 1) := by decide +kernel
theorem dX8_boards_64 : decode cX8_boards 64 = .ok (.ishr, 1) := by decide +kernel
theorem dX8_boards_65 : decode cX8_boards 65 = .ok (.iload 5, 2) := by decide +kernel
theorem dX8_boards_67 : decode cX8_boards 67 = .ok (.iconst 2, 1) := by decide +kernel
theorem dX8_boards_68 : decode cX8_boards 68 = .ok (.ishr, 1) := by decide +kernel
theorem dX8_boards_69 : decode cX8_boards 69 = .ok (.iconst 3, 1) := by decide +kernel
theorem dX8_boards_70 : decode cX8_boards 70 = .ok (.iand, 1) := by decide +kernel
theorem dX8_boards_71 : decode cX8_boards 71 = .ok (.iadd, 1) := by decide +kernel
theorem dX8_boards_72 : decode cX8_boards 72 = .ok (.iload 5, 2) := by decide +kernel
theorem dX8_boards_74 : decode cX8_boards 74 = .ok (.iconst 3, 1) := by decide +kernel
theorem dX8_boards_75 : decode cX8_boards 75 = .ok (.iand, 1) := by decide +kernel
theorem dX8_boards_76 : decode cX8_boards 76 = .ok (.iadd, 1) := by decide +kernel
theorem dX8_boards_77 : decode cX8_boards 77 = .ok (.istore 6, 2) := by decide +kernel
theorem dX8_boards_79 : decode cX8_boards 79 = .ok (.iload_n 3, 1) := by decide +kernel
theorem dX8_boards_80 : decode cX8_boards 80 = .ok (.ldc 93, 2) := by decide +kernel
theorem dX8_boards_82 : decode cX8_boards 82 = .ok (.if_icmp .eq 10, 3) := by decide +kernel
theorem dX8_boards_85 : decode cX8_boards 85 = .ok (.iload 6, 2) := by decide +kernel
theorem dX8_boards_87 : decode cX8_boards 87 = .ok (.iload 4, 2) := by decide +kernel
theorem dX8_boards_89 : decode cX8_boards 89 = .ok (.if_icmp .ge 7, 3) := by decide +kernel
theorem dX8_boards_92 : decode cX8_boards 92 = .ok (.iconst 1, 1) := by decide +kernel
theorem dX8_boards_93 : decode cX8_boards 93 = .ok (.goto 4, 3) := by decide +kernel
theorem dX8_boards_96 : decode cX8_boards 96 = .ok (.iconst 0, 1) := by decide +kernel
theorem dX8_boards_97 : decode cX8_boards 97 = .ok (.istore 7, 2) := by decide +kernel
theorem dX8_boards_99 : decode cX8_boards 99 = .ok (.aload_n 0, 1) := by decide +kernel
theorem dX8_boards_100 : decode cX8_boards 100 = .ok (.invokevirtual 216, 3) := by decide +kernel
theorem dX8_boards_103 : decode cX8_boards 103 = .ok (.iconst 0, 1) := by decide +kernel
theorem dX8_boards_104 : decode cX8_boards 104 = .ok (.istore 8, 2) := by decide +kernel
theorem dX8_boards_106 : decode cX8_boards 106 = .ok (.iload 8, 2) := by decide +kernel
theorem dX8_boards_108 : decode cX8_boards 108 = .ok (.iconst 3, 1) := by decide +kernel
theorem dX8_boards_109 : decode cX8_boards 109 = .ok (.if_icmp .ge 58, 3) := by decide +kernel
theorem dX8_boards_112 : decode cX8_boards 112 = .ok (.aload_n 0, 1) := by decide +kernel
theorem dX8_boards_113 : decode cX8_boards 113 = .ok (.getfield 25, 3) := by decide +kernel
theorem dX8_boards_116 : decode cX8_boards 116 = .ok (.bipush 10, 2) := by decide +kernel
theorem dX8_boards_118 : decode cX8_boards 118 = .ok (.iload 8, 2) := by decide +kernel
theorem dX8_boards_120 : decode cX8_boards 120 = .ok (.iadd, 1) := by decide +kernel
theorem dX8_boards_121 : decode cX8_boards 121 = .ok (.dup2, 1) := by decide +kernel
theorem dX8_boards_122 : decode cX8_boards 122 = .ok (.iaload, 1) := by decide +kernel
theorem dX8_boards_123 : decode cX8_boards 123 = .ok (.iload 5, 2) := by decide +kernel
theorem dX8_boards_125 : decode cX8_boards 125 = .ok (.iconst 4, 1) := by decide +kernel
theorem dX8_boards_126 : decode cX8_boards 126 = .ok (.iconst 2, 1) := by decide +kernel
theorem dX8_boards_127 : decode cX8_boards 127 = .ok (.iload 8, 2) := by decide +kernel
theorem dX8_boards_129 : decode cX8_boards 129 = .ok (.imul, 1) := by decide +kernel
theorem dX8_boards_130 : decode cX8_boards 130 = .ok (.isub, 1) := by decide +kernel
theorem dX8_boards_131 : decode cX8_boards 131 = .ok (.ishr, 1) := by decide +kernel
theorem dX8_boards_132 : decode cX8_boards 132 = .ok (.iconst 3, 1) := by decide +kernel
theorem dX8_boards_133 : decode cX8_boards 133 = .ok (.iand, 1) := by decide +kernel
theorem dX8_boards_134 : decode cX8_boards 134 = .ok (.isub, 1) := by decide +kernel
theorem dX8_boards_135 : decode cX8_boards 135 = .ok (.iastore, 1) := by decide +kernel
theorem dX8_boards_136 : decode cX8_boards 136 = .ok (.iload 7, 2) := by decide +kernel
theorem dX8_boards_138 : decode cX8_boards 138 = .ok (.ifCond .eq 20, 3) := by decide +kernel
theorem dX8_boards_141 : decode cX8_boards 141 = .ok (.aload_n 0, 1) := by decide +kernel
theorem dX8_boards_142 : decode cX8_boards 142 = .ok (.getfield 25, 3) := by decide +kernel
theorem dX8_boards_145 : decode cX8_boards 145 = .ok (.bipush 10, 2) := by decide +kernel
theorem dX8_boards_147 : decode cX8_boards 147 = .ok (.iload 8, 2) := by decide +kernel
theorem dX8_boards_149 : decode cX8_boards 149 = .ok (.iadd, 1) := by decide +kernel
theorem dX8_boards_150 : decode cX8_boards 150 = .ok (.iaload, 1) := by decide +kernel
theorem dX8_boards_151 : decode cX8_boards 151 = .ok (.ifCond .lt 7, 3) := by decide +kernel
theorem dX8_boards_154 : decode cX8_boards 154 = .ok (.iconst 1, 1) := by decide +kernel
theorem dX8_boards_155 : decode cX8_boards 155 = .ok (.goto 4, 3) := by decide +kernel
theorem dX8_boards_158 : decode cX8_boards 158 = .ok (.iconst 0, 1) := by decide +kernel
theorem dX8_boards_159 : decode cX8_boards 159 = .ok (.istore 7, 2) := by decide +kernel
theorem dX8_boards_161 : decode cX8_boards 161 = .ok (.iinc 8 1, 3) := by decide +kernel
theorem dX8_boards_164 : decode cX8_boards 164 = .ok (.goto (-58), 3) := by decide +kernel
theorem dX8_boards_167 : decode cX8_boards 167 = .ok (.iload 7, 2) := by decide +kernel
theorem dX8_boards_169 : decode cX8_boards 169 = .ok (.ifCond .eq 46, 3) := by decide +kernel
theorem dX8_boards_172 : decode cX8_boards 172 = .ok (.aload_n 0, 1) := by decide +kernel
theorem dX8_boards_173 : decode cX8_boards 173 = .ok (.getfield 25, 3) := by decide +kernel
theorem dX8_boards_176 : decode cX8_boards 176 = .ok (.iload_n 1, 1) := by decide +kernel
theorem dX8_boards_177 : decode cX8_boards 177 = .ok (.invokestatic 219, 3) := by decide +kernel
theorem dX8_boards_180 : decode cX8_boards 180 = .ok (.aload_n 0, 1) := by decide +kernel
theorem dX8_boards_181 : decode cX8_boards 181 = .ok (.getfield 25, 3) := by decide +kernel
theorem dX8_boards_184 : decode cX8_boards 184 = .ok (.invokestatic 210, 3) := by decide +kernel
theorem dX8_boards_187 : decode cX8_boards 187 = .ok (.istore 8, 2) := by decide +kernel
theorem dX8_boards_189 : decode cX8_boards 189 = .ok (.iload 8, 2) := by decide +kernel
theorem dX8_boards_191 : decode cX8_boards 191 = .ok (.ifCond .eq 8, 3) := by decide +kernel
theorem dX8_boards_194 : decode cX8_boards 194 = .ok (.iload 5, 2) := by decide +kernel
theorem dX8_boards_196 : decode cX8_boards 196 = .ok (.goto 4, 3) := by decide +kernel
theorem dX8_boards_199 : decode cX8_boards 199 = .ok (.iload_n 3, 1) := by decide +kernel
theorem dX8_boards_200 : decode cX8_boards 200 = .ok (.istore_n 3, 1) := by decide +kernel
theorem dX8_boards_201 : decode cX8_boards 201 = .ok (.iload 8, 2) := by decide +kernel
theorem dX8_boards_203 : decode cX8_boards 203 = .ok (.ifCond .eq 8, 3) := by decide +kernel
theorem dX8_boards_206 : decode cX8_boards 206 = .ok (.iload 6, 2) := by decide +kernel
theorem dX8_boards_208 : decode cX8_boards 208 = .ok (.goto 5, 3) := by decide +kernel
theorem dX8_boards_211 : decode cX8_boards 211 = .ok (.iload 4, 2) := by decide +kernel
theorem dX8_boards_213 : decode cX8_boards 213 = .ok (.istore 4, 2) := by decide +kernel
theorem dX8_boards_215 : decode cX8_boards 215 = .ok (.iinc 5 1, 3) := by decide +kernel
theorem dX8_boards_218 : decode cX8_boards 218 = .ok (.goto (-164), 3) := by decide +kernel
theorem dX8_boards_221 : decode cX8_boards 221 = .ok (.iload_n 3, 1) := by decide +kernel
theorem dX8_boards_222 : decode cX8_boards 222 = .ok (.ldc 93, 2) := by decide +kernel
theorem dX8_boards_224 : decode cX8_boards 224 = .ok (.if_icmp .ne 8, 3) := by decide +kernel
theorem dX8_boards_227 : decode cX8_boards 227 = .ok (.ldc 93, 2) := by decide +kernel
theorem dX8_boards_229 : decode cX8_boards 229 = .ok (.goto 22, 3) := by decide +kernel
theorem dX8_boards_232 : decode cX8_boards 232 = .ok (.iload_n 2, 1) := by decide +kernel
theorem dX8_boards_233 : decode cX8_boards 233 = .ok (.iconst (-1), 1) := by decide +kernel
theorem dX8_boards_234 : decode cX8_boards 234 = .ok (.if_icmp .ne 8, 3) := by decide +kernel
theorem dX8_boards_237 : decode cX8_boards 237 = .ok (.iload 4, 2) := by decide +kernel
theorem dX8_boards_239 : decode cX8_boards 239 = .ok (.goto 12, 3) := by decide +kernel
theorem dX8_boards_242 : decode cX8_boards 242 = .ok (.iload_n 3, 1) := by decide +kernel
theorem dX8_boards_243 : decode cX8_boards 243 = .ok (.iconst 4, 1) := by decide +kernel
theorem dX8_boards_244 : decode cX8_boards 244 = .ok (.iconst 2, 1) := by decide +kernel
theorem dX8_boards_245 : decode cX8_boards 245 = .ok (.iload_n 2, 1) := by decide +kernel
theorem dX8_boards_246 : decode cX8_boards 246 = .ok (.imul, 1) := by decide +kernel
theorem dX8_boards_247 : decode cX8_boards 247 = .ok (.isub, 1) := by decide +kernel
theorem dX8_boards_248 : decode cX8_boards 248 = .ok (.ishr, 1) := by decide +kernel
theorem dX8_boards_249 : decode cX8_boards 249 = .ok (.iconst 3, 1) := by decide +kernel
theorem dX8_boards_250 : decode cX8_boards 250 = .ok (.iand, 1) := by decide +kernel
theorem dX8_boards_251 : decode cX8_boards 251 = .ok (.ireturn, 1) := by decide +kernel
theorem dX8_lift_0 : decode cX8_lift 0 = .ok (.aload_n 0, 1) := by decide +kernel
theorem dX8_lift_1 : decode cX8_lift 1 = .ok (.iconst 0, 1) := by decide +kernel
theorem dX8_lift_2 : decode cX8_lift 2 = .ok (.putfield 50, 3) := by decide +kernel
theorem dX8_lift_5 : decode cX8_lift 5 = .ok (.aload_n 0, 1) := by decide +kernel
theorem dX8_lift_6 : decode cX8_lift 6 = .ok (.invokevirtual 184, 3) := by decide +kernel
theorem dX8_lift_9 : decode cX8_lift 9 = .ok (.ifCond .ne 6, 3) := by decide +kernel
theorem dX8_lift_12 : decode cX8_lift 12 = .ok (.ldc 187, 2) := by decide +kernel
theorem dX8_lift_14 : decode cX8_lift 14 = .ok (.ireturn, 1) := by decide +kernel
theorem dX8_lift_15 : decode cX8_lift 15 = .ok (.iload_n 1, 1) := by decide +kernel
theorem dX8_lift_16 : decode cX8_lift 16 = .ok (.i2l, 1) := by decide +kernel
theorem dX8_lift_17 : decode cX8_lift 17 = .ok (.ldc2_w 239, 3) := by decide +kernel
theorem dX8_lift_20 : decode cX8_lift 20 = .ok (.ldc2_w 68, 3) := by decide +kernel
theorem dX8_lift_23 : decode cX8_lift 23 = .ok (.invokestatic 60, 3) := by decide +kernel
theorem dX8_lift_26 : decode cX8_lift 26 = .ok (.ifCond .ne 6, 3) := by decide +kernel
theorem dX8_lift_29 : decode cX8_lift 29 = .ok (.ldc 70, 2) := by decide +kernel
theorem dX8_lift_31 : decode cX8_lift 31 = .ok (.ireturn, 1) := by decide +kernel
theorem dX8_lift_32 : decode cX8_lift 32 = .ok (.ldc 93, 2) := by decide +kernel
theorem dX8_lift_34 : decode cX8_lift 34 = .ok (.istore_n 2, 1) := by decide +kernel
theorem dX8_lift_35 : decode cX8_lift 35 = .ok (.ldc 93, 2) := by decide +kernel
theorem dX8_lift_37 : decode cX8_lift 37 = .ok (.istore_n 3, 1) := by decide +kernel
theorem dX8_lift_38 : decode cX8_lift 38 = .ok (.iconst 0, 1) := by decide +kernel
theorem dX8_lift_39 : decode cX8_lift 39 = .ok (.istore 4, 2) := by decide +kernel
theorem dX8_lift_41 : decode cX8_lift 41 = .ok (.iload 4, 2) := by decide +kernel
theorem dX8_lift_43 : decode cX8_lift 43 = .ok (.sipush 9261, 3) := by decide +kernel
theorem dX8_lift_46 : decode cX8_lift 46 = .ok (.if_icmp .ge 124, 3) := by decide +kernel
theorem dX8_lift_49 : decode cX8_lift 49 = .ok (.iload 4, 2) := by decide +kernel
theorem dX8_lift_51 : decode cX8_lift 51 = .ok (.sipush 441, 3) := by decide +kernel
theorem dX8_lift_54 : decode cX8_lift 54 = .ok (.idiv, 1) := by decide +kernel
theorem dX8_lift_55 : decode cX8_lift 55 = .ok (.iload 4, 2) := by decide +kernel
theorem dX8_lift_57 : decode cX8_lift 57 = .ok (.bipush 21, 2) := by decide +kernel
theorem dX8_lift_59 : decode cX8_lift 59 = .ok (.idiv, 1) := by decide +kernel
theorem dX8_lift_60 : decode cX8_lift 60 = .ok (.bipush 21, 2) := by decide +kernel
theorem dX8_lift_62 : decode cX8_lift 62 = .ok (.irem, 1) := by decide +kernel
theorem dX8_lift_63 : decode cX8_lift 63 = .ok (.iadd, 1) := by decide +kernel
theorem dX8_lift_64 : decode cX8_lift 64 = .ok (.iload 4, 2) := by decide +kernel
theorem dX8_lift_66 : decode cX8_lift 66 = .ok (.bipush 21, 2) := by decide +kernel
theorem dX8_lift_68 : decode cX8_lift 68 = .ok (.irem, 1) := by decide +kernel
theorem dX8_lift_69 : decode cX8_lift 69 = .ok (.iadd, 1) := by decide +kernel
theorem dX8_lift_70 : decode cX8_lift 70 = .ok (.istore 5, 2) := by decide +kernel
theorem dX8_lift_72 : decode cX8_lift 72 = .ok (.iload_n 2, 1) := by decide +kernel
theorem dX8_lift_73 : decode cX8_lift 73 = .ok (.ldc 93, 2) := by decide +kernel
theorem dX8_lift_75 : decode cX8_lift 75 = .ok (.if_icmp .eq 9, 3) := by decide +kernel
theorem dX8_lift_78 : decode cX8_lift 78 = .ok (.iload 5, 2) := by decide +kernel
theorem dX8_lift_80 : decode cX8_lift 80 = .ok (.iload_n 3, 1) := by decide +kernel
theorem dX8_lift_81 : decode cX8_lift 81 = .ok (.if_icmp .ge 83, 3) := by decide +kernel
theorem dX8_lift_84 : decode cX8_lift 84 = .ok (.aload_n 0, 1) := by decide +kernel
theorem dX8_lift_85 : decode cX8_lift 85 = .ok (.invokevirtual 216, 3) := by decide +kernel
theorem dX8_lift_88 : decode cX8_lift 88 = .ok (.aload_n 0, 1) := by decide +kernel
theorem dX8_lift_89 : decode cX8_lift 89 = .ok (.getfield 25, 3) := by decide +kernel
theorem dX8_lift_92 : decode cX8_lift 92 = .ok (.iconst 0, 1) := by decide +kernel
theorem dX8_lift_93 : decode cX8_lift 93 = .ok (.iload 4, 2) := by decide +kernel
theorem dX8_lift_95 : decode cX8_lift 95 = .ok (.sipush 441, 3) := by decide +kernel
theorem dX8_lift_98 : decode cX8_lift 98 = .ok (.idiv, 1) := by decide +kernel
theorem dX8_lift_99 : decode cX8_lift 99 = .ok (.invokestatic 168, 3) := by decide +kernel
theorem dX8_lift_102 : decode cX8_lift 102 = .ok (.aload_n 0, 1) := by decide +kernel
theorem dX8_lift_103 : decode cX8_lift 103 = .ok (.getfield 25, 3) := by decide +kernel
theorem dX8_lift_106 : decode cX8_lift 106 = .ok (.iconst 1, 1) := by decide +kernel
theorem dX8_lift_107 : decode cX8_lift 107 = .ok (.iload 4, 2) := by decide +kernel
theorem dX8_lift_109 : decode cX8_lift 109 = .ok (.bipush 21, 2) := by decide +kernel
theorem dX8_lift_111 : decode cX8_lift 111 = .ok (.idiv, 1) := by decide +kernel
theorem dX8_lift_112 : decode cX8_lift 112 = .ok (.bipush 21, 2) := by decide +kernel
theorem dX8_lift_114 : decode cX8_lift 114 = .ok (.irem, 1) := by decide +kernel
theorem dX8_lift_115 : decode cX8_lift 115 = .ok (.invokestatic 168, 3) := by decide +kernel
theorem dX8_lift_118 : decode cX8_lift 118 = .ok (.aload_n 0, 1) := by decide +kernel
theorem dX8_lift_119 : decode cX8_lift 119 = .ok (.getfield 25, 3) := by decide +kernel
theorem dX8_lift_122 : decode cX8_lift 122 = .ok (.iconst 2, 1) := by decide +kernel
theorem dX8_lift_123 : decode cX8_lift 123 = .ok (.iload 4, 2) := by decide +kernel
theorem dX8_lift_125 : decode cX8_lift 125 = .ok (.bipush 21, 2) := by decide +kernel
theorem dX8_lift_127 : decode cX8_lift 127 = .ok (.irem, 1) := by decide +kernel
theorem dX8_lift_128 : decode cX8_lift 128 = .ok (.invokestatic 168, 3) := by decide +kernel
theorem dX8_lift_131 : decode cX8_lift 131 = .ok (.aload_n 0, 1) := by decide +kernel
theorem dX8_lift_132 : decode cX8_lift 132 = .ok (.getfield 25, 3) := by decide +kernel
theorem dX8_lift_135 : decode cX8_lift 135 = .ok (.invokestatic 210, 3) := by decide +kernel
theorem dX8_lift_138 : decode cX8_lift 138 = .ok (.istore 6, 2) := by decide +kernel
theorem dX8_lift_140 : decode cX8_lift 140 = .ok (.iload 6, 2) := by decide +kernel
theorem dX8_lift_142 : decode cX8_lift 142 = .ok (.ifCond .eq 8, 3) := by decide +kernel
theorem dX8_lift_145 : decode cX8_lift 145 = .ok (.iload 4, 2) := by decide +kernel
theorem dX8_lift_147 : decode cX8_lift 147 = .ok (.goto 4, 3) := by decide +kernel
theorem dX8_lift_150 : decode cX8_lift 150 = .ok (.iload_n 2, 1) := by decide +kernel
theorem dX8_lift_151 : decode cX8_lift 151 = .ok (.istore_n 2, 1) := by decide +kernel
theorem dX8_lift_152 : decode cX8_lift 152 = .ok (.iload 6, 2) := by decide +kernel
theorem dX8_lift_154 : decode cX8_lift 154 = .ok (.ifCond .eq 8, 3) := by decide +kernel
theorem dX8_lift_157 : decode cX8_lift 157 = .ok (.iload 5, 2) := by decide +kernel
theorem dX8_lift_159 : decode cX8_lift 159 = .ok (.goto 4, 3) := by decide +kernel
theorem dX8_lift_162 : decode cX8_lift 162 = .ok (.iload_n 3, 1) := by decide +kernel
theorem dX8_lift_163 : decode cX8_lift 163 = .ok (.istore_n 3, 1) := by decide +kernel
theorem dX8_lift_164 : decode cX8_lift 164 = .ok (.iinc 4 1, 3) := by decide +kernel
theorem dX8_lift_167 : decode cX8_lift 167 = .ok (.goto (-126), 3) := by decide +kernel
theorem dX8_lift_170 : decode cX8_lift 170 = .ok (.iload_n 2, 1) := by decide +kernel
theorem dX8_lift_171 : decode cX8_lift 171 = .ok (.ldc 93, 2) := by decide +kernel
theorem dX8_lift_173 : decode cX8_lift 173 = .ok (.if_icmp .ne 8, 3) := by decide +kernel
theorem dX8_lift_176 : decode cX8_lift 176 = .ok (.ldc 93, 2) := by decide +kernel
theorem dX8_lift_178 : decode cX8_lift 178 = .ok (.goto 43, 3) := by decide +kernel
theorem dX8_lift_181 : decode cX8_lift 181 = .ok (.iload_n 1, 1) := by decide +kernel
theorem dX8_lift_182 : decode cX8_lift 182 = .ok (.iconst (-1), 1) := by decide +kernel
theorem dX8_lift_183 : decode cX8_lift 183 = .ok (.if_icmp .ne 7, 3) := by decide +kernel
theorem dX8_lift_186 : decode cX8_lift 186 = .ok (.iload_n 3, 1) := by decide +kernel
theorem dX8_lift_187 : decode cX8_lift 187 = .ok (.goto 34, 3) := by decide +kernel
theorem dX8_lift_190 : decode cX8_lift 190 = .ok (.iload_n 1, 1) := by decide +kernel
theorem dX8_lift_191 : decode cX8_lift 191 = .ok (.ifCond .ne 11, 3) := by decide +kernel
theorem dX8_lift_194 : decode cX8_lift 194 = .ok (.iload_n 2, 1) := by decide +kernel
theorem dX8_lift_195 : decode cX8_lift 195 = .ok (.sipush 441, 3) := by decide +kernel
theorem dX8_lift_198 : decode cX8_lift 198 = .ok (.idiv, 1) := by decide +kernel
theorem dX8_lift_199 : decode cX8_lift 199 = .ok (.goto 22, 3) := by decide +kernel
theorem dX8_lift_202 : decode cX8_lift 202 = .ok (.iload_n 1, 1) := by decide +kernel
theorem dX8_lift_203 : decode cX8_lift 203 = .ok (.iconst 1, 1) := by decide +kernel
theorem dX8_lift_204 : decode cX8_lift 204 = .ok (.if_icmp .ne 13, 3) := by decide +kernel
theorem dX8_lift_207 : decode cX8_lift 207 = .ok (.iload_n 2, 1) := by decide +kernel
theorem dX8_lift_208 : decode cX8_lift 208 = .ok (.bipush 21, 2) := by decide +kernel
theorem dX8_lift_210 : decode cX8_lift 210 = .ok (.idiv, 1) := by decide +kernel
theorem dX8_lift_211 : decode cX8_lift 211 = .ok (.bipush 21, 2) := by decide +kernel
theorem dX8_lift_213 : decode cX8_lift 213 = .ok (.irem, 1) := by decide +kernel
theorem dX8_lift_214 : decode cX8_lift 214 = .ok (.goto 7, 3) := by decide +kernel
theorem dX8_lift_217 : decode cX8_lift 217 = .ok (.iload_n 2, 1) := by decide +kernel
theorem dX8_lift_218 : decode cX8_lift 218 = .ok (.bipush 21, 2) := by decide +kernel
theorem dX8_lift_220 : decode cX8_lift 220 = .ok (.irem, 1) := by decide +kernel
theorem dX8_lift_221 : decode cX8_lift 221 = .ok (.ireturn, 1) := by decide +kernel
theorem dX8_worst_0 : decode cX8_worst 0 = .ok (.aload_n 0, 1) := by decide +kernel
theorem dX8_worst_1 : decode cX8_worst 1 = .ok (.iconst 0, 1) := by decide +kernel
theorem dX8_worst_2 : decode cX8_worst 2 = .ok (.putfield 50, 3) := by decide +kernel
theorem dX8_worst_5 : decode cX8_worst 5 = .ok (.aload_n 0, 1) := by decide +kernel
theorem dX8_worst_6 : decode cX8_worst 6 = .ok (.invokevirtual 184, 3) := by decide +kernel
theorem dX8_worst_9 : decode cX8_worst 9 = .ok (.ifCond .ne 6, 3) := by decide +kernel
theorem dX8_worst_12 : decode cX8_worst 12 = .ok (.ldc 187, 2) := by decide +kernel
theorem dX8_worst_14 : decode cX8_worst 14 = .ok (.ireturn, 1) := by decide +kernel
theorem dX8_worst_15 : decode cX8_worst 15 = .ok (.iload_n 1, 1) := by decide +kernel
theorem dX8_worst_16 : decode cX8_worst 16 = .ok (.i2l, 1) := by decide +kernel
theorem dX8_worst_17 : decode cX8_worst 17 = .ok (.lconst 0, 1) := by decide +kernel
theorem dX8_worst_18 : decode cX8_worst 18 = .ok (.ldc2_w 214, 3) := by decide +kernel
theorem dX8_worst_21 : decode cX8_worst 21 = .ok (.invokestatic 60, 3) := by decide +kernel
theorem dX8_worst_24 : decode cX8_worst 24 = .ok (.ifCond .eq 13, 3) := by decide +kernel
theorem dX8_worst_27 : decode cX8_worst 27 = .ok (.iload_n 2, 1) := by decide +kernel
theorem dX8_worst_28 : decode cX8_worst 28 = .ok (.i2l, 1) := by decide +kernel
theorem dX8_worst_29 : decode cX8_worst 29 = .ok (.lconst 0, 1) := by decide +kernel
theorem dX8_worst_30 : decode cX8_worst 30 = .ok (.lconst 1, 1) := by decide +kernel
theorem dX8_worst_31 : decode cX8_worst 31 = .ok (.invokestatic 60, 3) := by decide +kernel
theorem dX8_worst_34 : decode cX8_worst 34 = .ok (.ifCond .ne 6, 3) := by decide +kernel
theorem dX8_worst_37 : decode cX8_worst 37 = .ok (.ldc 70, 2) := by decide +kernel
theorem dX8_worst_39 : decode cX8_worst 39 = .ok (.ireturn, 1) := by decide +kernel
theorem dX8_worst_40 : decode cX8_worst 40 = .ok (.aload_n 0, 1) := by decide +kernel
theorem dX8_worst_41 : decode cX8_worst 41 = .ok (.invokevirtual 216, 3) := by decide +kernel
theorem dX8_worst_44 : decode cX8_worst 44 = .ok (.iconst (-1), 1) := by decide +kernel
theorem dX8_worst_45 : decode cX8_worst 45 = .ok (.istore_n 3, 1) := by decide +kernel
theorem dX8_worst_46 : decode cX8_worst 46 = .ok (.iconst 0, 1) := by decide +kernel
theorem dX8_worst_47 : decode cX8_worst 47 = .ok (.istore 4, 2) := by decide +kernel
theorem dX8_worst_49 : decode cX8_worst 49 = .ok (.iconst 0, 1) := by decide +kernel
theorem dX8_worst_50 : decode cX8_worst 50 = .ok (.istore 5, 2) := by decide +kernel
theorem dX8_worst_52 : decode cX8_worst 52 = .ok (.iload 5, 2) := by decide +kernel
theorem dX8_worst_54 : decode cX8_worst 54 = .ok (.iload_n 1, 1) := by decide +kernel
theorem dX8_worst_55 : decode cX8_worst 55 = .ok (.if_icmp .gt 53, 3) := by decide +kernel
theorem dX8_worst_58 : decode cX8_worst 58 = .ok (.aload_n 0, 1) := by decide +kernel
theorem dX8_worst_59 : decode cX8_worst 59 = .ok (.getfield 25, 3) := by decide +kernel
theorem dX8_worst_62 : decode cX8_worst 62 = .ok (.invokestatic 193, 3) := by decide +kernel
theorem dX8_worst_65 : decode cX8_worst 65 = .ok (.istore 6, 2) := by decide +kernel
theorem dX8_worst_67 : decode cX8_worst 67 = .ok (.iload 6, 2) := by decide +kernel
theorem dX8_worst_69 : decode cX8_worst 69 = .ok (.iload_n 3, 1) := by decide +kernel
theorem dX8_worst_70 : decode cX8_worst 70 = .ok (.if_icmp .le 8, 3) := by decide +kernel
theorem dX8_worst_73 : decode cX8_worst 73 = .ok (.iload 5, 2) := by decide +kernel
theorem dX8_worst_75 : decode cX8_worst 75 = .ok (.goto 5, 3) := by decide +kernel
theorem dX8_worst_78 : decode cX8_worst 78 = .ok (.iload 4, 2) := by decide +kernel
theorem dX8_worst_80 : decode cX8_worst 80 = .ok (.istore 4, 2) := by decide +kernel
theorem dX8_worst_82 : decode cX8_worst 82 = .ok (.iload 6, 2) := by decide +kernel
theorem dX8_worst_84 : decode cX8_worst 84 = .ok (.iload_n 3, 1) := by decide +kernel
theorem dX8_worst_85 : decode cX8_worst 85 = .ok (.if_icmp .le 8, 3) := by decide +kernel
theorem dX8_worst_88 : decode cX8_worst 88 = .ok (.iload 6, 2) := by decide +kernel
theorem dX8_worst_90 : decode cX8_worst 90 = .ok (.goto 4, 3) := by decide +kernel
theorem dX8_worst_93 : decode cX8_worst 93 = .ok (.iload_n 3, 1) := by decide +kernel
theorem dX8_worst_94 : decode cX8_worst 94 = .ok (.istore_n 3, 1) := by decide +kernel
theorem dX8_worst_95 : decode cX8_worst 95 = .ok (.aload_n 0, 1) := by decide +kernel
theorem dX8_worst_96 : decode cX8_worst 96 = .ok (.getfield 25, 3) := by decide +kernel
theorem dX8_worst_99 : decode cX8_worst 99 = .ok (.invokestatic 180, 3) := by decide +kernel
theorem dX8_worst_102 : decode cX8_worst 102 = .ok (.iinc 5 1, 3) := by decide +kernel
theorem dX8_worst_105 : decode cX8_worst 105 = .ok (.goto (-53), 3) := by decide +kernel
theorem dX8_worst_108 : decode cX8_worst 108 = .ok (.iload_n 2, 1) := by decide +kernel
theorem dX8_worst_109 : decode cX8_worst 109 = .ok (.ifCond .ne 7, 3) := by decide +kernel
theorem dX8_worst_112 : decode cX8_worst 112 = .ok (.iload_n 3, 1) := by decide +kernel
theorem dX8_worst_113 : decode cX8_worst 113 = .ok (.goto 5, 3) := by decide +kernel
theorem dX8_worst_116 : decode cX8_worst 116 = .ok (.iload 4, 2) := by decide +kernel
theorem dX8_worst_118 : decode cX8_worst 118 = .ok (.ireturn, 1) := by decide +kernel
theorem dX8_leansSo_0 : decode cX8_leansSo 0 = .ok (.iconst 1, 1) := by decide +kernel
theorem dX8_leansSo_1 : decode cX8_leansSo 1 = .ok (.istore 4, 2) := by decide +kernel
theorem dX8_leansSo_3 : decode cX8_leansSo 3 = .ok (.iconst 0, 1) := by decide +kernel
theorem dX8_leansSo_4 : decode cX8_leansSo 4 = .ok (.istore 5, 2) := by decide +kernel
theorem dX8_leansSo_6 : decode cX8_leansSo 6 = .ok (.iload 5, 2) := by decide +kernel
theorem dX8_leansSo_8 : decode cX8_leansSo 8 = .ok (.iload_n 3, 1) := by decide +kernel
theorem dX8_leansSo_9 : decode cX8_leansSo 9 = .ok (.if_icmp .ge 61, 3) := by decide +kernel
theorem dX8_leansSo_12 : decode cX8_leansSo 12 = .ok (.aload_n 0, 1) := by decide +kernel
theorem dX8_leansSo_13 : decode cX8_leansSo 13 = .ok (.getfield 25, 3) := by decide +kernel
theorem dX8_leansSo_16 : decode cX8_leansSo 16 = .ok (.invokestatic 180, 3) := by decide +kernel
theorem dX8_leansSo_19 : decode cX8_leansSo 19 = .ok (.iload 4, 2) := by decide +kernel
theorem dX8_leansSo_21 : decode cX8_leansSo 21 = .ok (.ifCond .eq 40, 3) := by decide +kernel
theorem dX8_leansSo_24 : decode cX8_leansSo 24 = .ok (.iload_n 1, 1) := by decide +kernel
theorem dX8_leansSo_25 : decode cX8_leansSo 25 = .ok (.ifCond .ne 13, 3) := by decide +kernel
theorem dX8_leansSo_28 : decode cX8_leansSo 28 = .ok (.aload_n 0, 1) := by decide +kernel
theorem dX8_leansSo_29 : decode cX8_leansSo 29 = .ok (.getfield 25, 3) := by decide +kernel
theorem dX8_leansSo_32 : decode cX8_leansSo 32 = .ok (.invokestatic 159, 3) := by decide +kernel
theorem dX8_leansSo_35 : decode cX8_leansSo 35 = .ok (.goto 10, 3) := by decide +kernel
theorem dX8_leansSo_38 : decode cX8_leansSo 38 = .ok (.aload_n 0, 1) := by decide +kernel
theorem dX8_leansSo_39 : decode cX8_leansSo 39 = .ok (.getfield 25, 3) := by decide +kernel
theorem dX8_leansSo_42 : decode cX8_leansSo 42 = .ok (.invokestatic 165, 3) := by decide +kernel
theorem dX8_leansSo_45 : decode cX8_leansSo 45 = .ok (.aload_n 0, 1) := by decide +kernel
theorem dX8_leansSo_46 : decode cX8_leansSo 46 = .ok (.getfield 16, 3) := by decide +kernel
theorem dX8_leansSo_49 : decode cX8_leansSo 49 = .ok (.iload_n 2, 1) := by decide +kernel
theorem dX8_leansSo_50 : decode cX8_leansSo 50 = .ok (.iload 5, 2) := by decide +kernel
theorem dX8_leansSo_52 : decode cX8_leansSo 52 = .ok (.iadd, 1) := by decide +kernel
theorem dX8_leansSo_53 : decode cX8_leansSo 53 = .ok (.iaload, 1) := by decide +kernel
theorem dX8_leansSo_54 : decode cX8_leansSo 54 = .ok (.if_icmp .ne 7, 3) := by decide +kernel
theorem dX8_leansSo_57 : decode cX8_leansSo 57 = .ok (.iconst 1, 1) := by decide +kernel
theorem dX8_leansSo_58 : decode cX8_leansSo 58 = .ok (.goto 4, 3) := by decide +kernel
theorem dX8_leansSo_61 : decode cX8_leansSo 61 = .ok (.iconst 0, 1) := by decide +kernel
theorem dX8_leansSo_62 : decode cX8_leansSo 62 = .ok (.istore 4, 2) := by decide +kernel
theorem dX8_leansSo_64 : decode cX8_leansSo 64 = .ok (.iinc 5 1, 3) := by decide +kernel
theorem dX8_leansSo_67 : decode cX8_leansSo 67 = .ok (.goto (-61), 3) := by decide +kernel
theorem dX8_leansSo_70 : decode cX8_leansSo 70 = .ok (.iload 4, 2) := by decide +kernel
theorem dX8_leansSo_72 : decode cX8_leansSo 72 = .ok (.ireturn, 1) := by decide +kernel
theorem dX8_fits_0 : decode cX8_fits 0 = .ok (.aload_n 0, 1) := by decide +kernel
theorem dX8_fits_1 : decode cX8_fits 1 = .ok (.iload_n 1, 1) := by decide +kernel
theorem dX8_fits_2 : decode cX8_fits 2 = .ok (.invokevirtual 196, 3) := by decide +kernel
theorem dX8_fits_5 : decode cX8_fits 5 = .ok (.ifCond .eq 33, 3) := by decide +kernel
theorem dX8_fits_8 : decode cX8_fits 8 = .ok (.iload_n 2, 1) := by decide +kernel
theorem dX8_fits_9 : decode cX8_fits 9 = .ok (.i2l, 1) := by decide +kernel
theorem dX8_fits_10 : decode cX8_fits 10 = .ok (.lconst 0, 1) := by decide +kernel
theorem dX8_fits_11 : decode cX8_fits 11 = .ok (.lconst 1, 1) := by decide +kernel
theorem dX8_fits_12 : decode cX8_fits 12 = .ok (.invokestatic 60, 3) := by decide +kernel
theorem dX8_fits_15 : decode cX8_fits 15 = .ok (.ifCond .eq 23, 3) := by decide +kernel
theorem dX8_fits_18 : decode cX8_fits 18 = .ok (.iload_n 3, 1) := by decide +kernel
theorem dX8_fits_19 : decode cX8_fits 19 = .ok (.invokestatic 64, 3) := by decide +kernel
theorem dX8_fits_22 : decode cX8_fits 22 = .ok (.ifCond .eq 16, 3) := by decide +kernel
theorem dX8_fits_25 : decode cX8_fits 25 = .ok (.iload 5, 2) := by decide +kernel
theorem dX8_fits_27 : decode cX8_fits 27 = .ok (.i2l, 1) := by decide +kernel
theorem dX8_fits_28 : decode cX8_fits 28 = .ok (.lconst 1, 1) := by decide +kernel
theorem dX8_fits_29 : decode cX8_fits 29 = .ok (.ldc2_w 241, 3) := by decide +kernel
theorem dX8_fits_32 : decode cX8_fits 32 = .ok (.invokestatic 60, 3) := by decide +kernel
theorem dX8_fits_35 : decode cX8_fits 35 = .ok (.ifCond .ne 6, 3) := by decide +kernel
theorem dX8_fits_38 : decode cX8_fits 38 = .ok (.ldc 70, 2) := by decide +kernel
theorem dX8_fits_40 : decode cX8_fits 40 = .ok (.ireturn, 1) := by decide +kernel
theorem dX8_fits_41 : decode cX8_fits 41 = .ok (.aload_n 0, 1) := by decide +kernel
theorem dX8_fits_42 : decode cX8_fits 42 = .ok (.getfield 7, 3) := by decide +kernel
theorem dX8_fits_45 : decode cX8_fits 45 = .ok (.iload_n 3, 1) := by decide +kernel
theorem dX8_fits_46 : decode cX8_fits 46 = .ok (.iaload, 1) := by decide +kernel
theorem dX8_fits_47 : decode cX8_fits 47 = .ok (.ifCond .ge 9, 3) := by decide +kernel
theorem dX8_fits_50 : decode cX8_fits 50 = .ok (.aload_n 0, 1) := by decide +kernel
theorem dX8_fits_51 : decode cX8_fits 51 = .ok (.iconst 1, 1) := by decide +kernel
theorem dX8_fits_52 : decode cX8_fits 52 = .ok (.invokevirtual 71, 3) := by decide +kernel
theorem dX8_fits_55 : decode cX8_fits 55 = .ok (.ireturn, 1) := by decide +kernel
theorem dX8_fits_56 : decode cX8_fits 56 = .ok (.iload 4, 2) := by decide +kernel
theorem dX8_fits_58 : decode cX8_fits 58 = .ok (.ifCond .lt 21, 3) := by decide +kernel
theorem dX8_fits_61 : decode cX8_fits 61 = .ok (.iload 4, 2) := by decide +kernel
theorem dX8_fits_63 : decode cX8_fits 63 = .ok (.i2l, 1) := by decide +kernel
theorem dX8_fits_64 : decode cX8_fits 64 = .ok (.iload 5, 2) := by decide +kernel
theorem dX8_fits_66 : decode cX8_fits 66 = .ok (.i2l, 1) := by decide +kernel
theorem dX8_fits_67 : decode cX8_fits 67 = .ok (.ladd, 1) := by decide +kernel
theorem dX8_fits_68 : decode cX8_fits 68 = .ok (.aload_n 0, 1) := by decide +kernel
theorem dX8_fits_69 : decode cX8_fits 69 = .ok (.getfield 13, 3) := by decide +kernel
theorem dX8_fits_72 : decode cX8_fits 72 = .ok (.iload_n 3, 1) := by decide +kernel
theorem dX8_fits_73 : decode cX8_fits 73 = .ok (.iaload, 1) := by decide +kernel
theorem dX8_fits_74 : decode cX8_fits 74 = .ok (.i2l, 1) := by decide +kernel
theorem dX8_fits_75 : decode cX8_fits 75 = .ok (.lcmp, 1) := by decide +kernel
theorem dX8_fits_76 : decode cX8_fits 76 = .ok (.ifCond .le 9, 3) := by decide +kernel
theorem dX8_fits_79 : decode cX8_fits 79 = .ok (.aload_n 0, 1) := by decide +kernel
theorem dX8_fits_80 : decode cX8_fits 80 = .ok (.iconst 2, 1) := by decide +kernel
theorem dX8_fits_81 : decode cX8_fits 81 = .ok (.invokevirtual 71, 3) := by decide +kernel
theorem dX8_fits_84 : decode cX8_fits 84 = .ok (.ireturn, 1) := by decide +kernel
theorem dX8_fits_85 : decode cX8_fits 85 = .ok (.aload_n 0, 1) := by decide +kernel
theorem dX8_fits_86 : decode cX8_fits 86 = .ok (.iload_n 1, 1) := by decide +kernel
theorem dX8_fits_87 : decode cX8_fits 87 = .ok (.invokevirtual 199, 3) := by decide +kernel
theorem dX8_fits_90 : decode cX8_fits 90 = .ok (.ifCond .eq 6, 3) := by decide +kernel
theorem dX8_fits_93 : decode cX8_fits 93 = .ok (.ldc 187, 2) := by decide +kernel
theorem dX8_fits_95 : decode cX8_fits 95 = .ok (.ireturn, 1) := by decide +kernel
theorem dX8_fits_96 : decode cX8_fits 96 = .ok (.aload_n 0, 1) := by decide +kernel
theorem dX8_fits_97 : decode cX8_fits 97 = .ok (.iconst 0, 1) := by decide +kernel
theorem dX8_fits_98 : decode cX8_fits 98 = .ok (.putfield 54, 3) := by decide +kernel
theorem dX8_fits_101 : decode cX8_fits 101 = .ok (.iconst 0, 1) := by decide +kernel
theorem dX8_fits_102 : decode cX8_fits 102 = .ok (.istore 9, 2) := by decide +kernel
theorem dX8_fits_104 : decode cX8_fits 104 = .ok (.iload 7, 2) := by decide +kernel
theorem dX8_fits_106 : decode cX8_fits 106 = .ok (.istore 10, 2) := by decide +kernel
theorem dX8_fits_108 : decode cX8_fits 108 = .ok (.iload 10, 2) := by decide +kernel
theorem dX8_fits_110 : decode cX8_fits 110 = .ok (.iload 8, 2) := by decide +kernel
theorem dX8_fits_112 : decode cX8_fits 112 = .ok (.if_icmp .gt 67, 3) := by decide +kernel
theorem dX8_fits_115 : decode cX8_fits 115 = .ok (.aload_n 0, 1) := by decide +kernel
theorem dX8_fits_116 : decode cX8_fits 116 = .ok (.invokevirtual 216, 3) := by decide +kernel
theorem dX8_fits_119 : decode cX8_fits 119 = .ok (.aload_n 0, 1) := by decide +kernel
theorem dX8_fits_120 : decode cX8_fits 120 = .ok (.getfield 25, 3) := by decide +kernel
theorem dX8_fits_123 : decode cX8_fits 123 = .ok (.bipush 13, 2) := by decide +kernel
theorem dX8_fits_125 : decode cX8_fits 125 = .ok (.iconst 3, 1) := by decide +kernel
theorem dX8_fits_126 : decode cX8_fits 126 = .ok (.iload_n 1, 1) := by decide +kernel
theorem dX8_fits_127 : decode cX8_fits 127 = .ok (.imul, 1) := by decide +kernel
theorem dX8_fits_128 : decode cX8_fits 128 = .ok (.iadd, 1) := by decide +kernel
theorem dX8_fits_129 : decode cX8_fits 129 = .ok (.iload 6, 2) := by decide +kernel
theorem dX8_fits_131 : decode cX8_fits 131 = .ok (.iadd, 1) := by decide +kernel
theorem dX8_fits_132 : decode cX8_fits 132 = .ok (.iload 10, 2) := by decide +kernel
theorem dX8_fits_134 : decode cX8_fits 134 = .ok (.iastore, 1) := by decide +kernel
theorem dX8_fits_135 : decode cX8_fits 135 = .ok (.aload_n 0, 1) := by decide +kernel
theorem dX8_fits_136 : decode cX8_fits 136 = .ok (.getfield 25, 3) := by decide +kernel
theorem dX8_fits_139 : decode cX8_fits 139 = .ok (.iload_n 1, 1) := by decide +kernel
theorem dX8_fits_140 : decode cX8_fits 140 = .ok (.invokestatic 202, 3) := by decide +kernel
theorem dX8_fits_143 : decode cX8_fits 143 = .ok (.iload 9, 2) := by decide +kernel
theorem dX8_fits_145 : decode cX8_fits 145 = .ok (.aload_n 0, 1) := by decide +kernel
theorem dX8_fits_146 : decode cX8_fits 146 = .ok (.iload_n 2, 1) := by decide +kernel
theorem dX8_fits_147 : decode cX8_fits 147 = .ok (.bipush 40, 2) := by decide +kernel
theorem dX8_fits_149 : decode cX8_fits 149 = .ok (.iload_n 3, 1) := by decide +kernel
theorem dX8_fits_150 : decode cX8_fits 150 = .ok (.imul, 1) := by decide +kernel
theorem dX8_fits_151 : decode cX8_fits 151 = .ok (.iload 4, 2) := by decide +kernel
theorem dX8_fits_153 : decode cX8_fits 153 = .ok (.iadd, 1) := by decide +kernel
theorem dX8_fits_154 : decode cX8_fits 154 = .ok (.iload 5, 2) := by decide +kernel
theorem dX8_fits_156 : decode cX8_fits 156 = .ok (.invokevirtual 243, 3) := by decide +kernel
theorem dX8_fits_159 : decode cX8_fits 159 = .ok (.ifCond .eq 10, 3) := by decide +kernel
theorem dX8_fits_162 : decode cX8_fits 162 = .ok (.iconst 1, 1) := by decide +kernel
theorem dX8_fits_163 : decode cX8_fits 163 = .ok (.iload 10, 2) := by decide +kernel
theorem dX8_fits_165 : decode cX8_fits 165 = .ok (.ishl, 1) := by decide +kernel
theorem dX8_fits_166 : decode cX8_fits 166 = .ok (.goto 4, 3) := by decide +kernel
theorem dX8_fits_169 : decode cX8_fits 169 = .ok (.iconst 0, 1) := by decide +kernel
theorem dX8_fits_170 : decode cX8_fits 170 = .ok (.ior, 1) := by decide +kernel
theorem dX8_fits_171 : decode cX8_fits 171 = .ok (.istore 9, 2) := by decide +kernel
theorem dX8_fits_173 : decode cX8_fits 173 = .ok (.iinc 10 1, 3) := by decide +kernel
theorem dX8_fits_176 : decode cX8_fits 176 = .ok (.goto (-68), 3) := by decide +kernel
theorem dX8_fits_179 : decode cX8_fits 179 = .ok (.iload 9, 2) := by decide +kernel
theorem dX8_fits_181 : decode cX8_fits 181 = .ok (.ireturn, 1) := by decide +kernel
theorem dX8_who_0 : decode cX8_who 0 = .ok (.aload_n 0, 1) := by decide +kernel
theorem dX8_who_1 : decode cX8_who 1 = .ok (.iconst 0, 1) := by decide +kernel
theorem dX8_who_2 : decode cX8_who 2 = .ok (.putfield 50, 3) := by decide +kernel
theorem dX8_who_5 : decode cX8_who 5 = .ok (.aload_n 0, 1) := by decide +kernel
theorem dX8_who_6 : decode cX8_who 6 = .ok (.iload_n 1, 1) := by decide +kernel
theorem dX8_who_7 : decode cX8_who 7 = .ok (.iload_n 2, 1) := by decide +kernel
theorem dX8_who_8 : decode cX8_who 8 = .ok (.iload_n 3, 1) := by decide +kernel
theorem dX8_who_9 : decode cX8_who 9 = .ok (.iload 4, 2) := by decide +kernel
theorem dX8_who_11 : decode cX8_who 11 = .ok (.iload 5, 2) := by decide +kernel
theorem dX8_who_13 : decode cX8_who 13 = .ok (.iconst 0, 1) := by decide +kernel
theorem dX8_who_14 : decode cX8_who 14 = .ok (.iconst 1, 1) := by decide +kernel
theorem dX8_who_15 : decode cX8_who 15 = .ok (.iconst 5, 1) := by decide +kernel
theorem dX8_who_16 : decode cX8_who 16 = .ok (.invokevirtual 247, 3) := by decide +kernel
theorem dX8_who_19 : decode cX8_who 19 = .ok (.ireturn, 1) := by decide +kernel
theorem dX8_feet_0 : decode cX8_feet 0 = .ok (.aload_n 0, 1) := by decide +kernel
theorem dX8_feet_1 : decode cX8_feet 1 = .ok (.iconst 0, 1) := by decide +kernel
theorem dX8_feet_2 : decode cX8_feet 2 = .ok (.putfield 50, 3) := by decide +kernel
theorem dX8_feet_5 : decode cX8_feet 5 = .ok (.aload_n 0, 1) := by decide +kernel
theorem dX8_feet_6 : decode cX8_feet 6 = .ok (.iload_n 1, 1) := by decide +kernel
theorem dX8_feet_7 : decode cX8_feet 7 = .ok (.iload_n 2, 1) := by decide +kernel
theorem dX8_feet_8 : decode cX8_feet 8 = .ok (.iload_n 3, 1) := by decide +kernel
theorem dX8_feet_9 : decode cX8_feet 9 = .ok (.iload 4, 2) := by decide +kernel
theorem dX8_feet_11 : decode cX8_feet 11 = .ok (.iload 5, 2) := by decide +kernel
theorem dX8_feet_13 : decode cX8_feet 13 = .ok (.iconst 1, 1) := by decide +kernel
theorem dX8_feet_14 : decode cX8_feet 14 = .ok (.iconst 0, 1) := by decide +kernel
theorem dX8_feet_15 : decode cX8_feet 15 = .ok (.iconst 2, 1) := by decide +kernel
theorem dX8_feet_16 : decode cX8_feet 16 = .ok (.invokevirtual 247, 3) := by decide +kernel
theorem dX8_feet_19 : decode cX8_feet 19 = .ok (.ireturn, 1) := by decide +kernel
theorem dX8_amounts_0 : decode cX8_amounts 0 = .ok (.aload_n 0, 1) := by decide +kernel
theorem dX8_amounts_1 : decode cX8_amounts 1 = .ok (.iconst 0, 1) := by decide +kernel
theorem dX8_amounts_2 : decode cX8_amounts 2 = .ok (.putfield 50, 3) := by decide +kernel
theorem dX8_amounts_5 : decode cX8_amounts 5 = .ok (.aload_n 0, 1) := by decide +kernel
theorem dX8_amounts_6 : decode cX8_amounts 6 = .ok (.iload_n 1, 1) := by decide +kernel
theorem dX8_amounts_7 : decode cX8_amounts 7 = .ok (.iload_n 2, 1) := by decide +kernel
theorem dX8_amounts_8 : decode cX8_amounts 8 = .ok (.iload_n 3, 1) := by decide +kernel
theorem dX8_amounts_9 : decode cX8_amounts 9 = .ok (.iload 4, 2) := by decide +kernel
theorem dX8_amounts_11 : decode cX8_amounts 11 = .ok (.iload 5, 2) := by decide +kernel
theorem dX8_amounts_13 : decode cX8_amounts 13 = .ok (.iconst 2, 1) := by decide +kernel
theorem dX8_amounts_14 : decode cX8_amounts 14 = .ok (.iconst 1, 1) := by decide +kernel
theorem dX8_amounts_15 : decode cX8_amounts 15 = .ok (.bipush 20, 2) := by decide +kernel
theorem dX8_amounts_17 : decode cX8_amounts 17 = .ok (.invokevirtual 247, 3) := by decide +kernel
theorem dX8_amounts_20 : decode cX8_amounts 20 = .ok (.ireturn, 1) := by decide +kernel
theorem dX8_wrong_0 : decode cX8_wrong 0 = .ok (.aload_n 0, 1) := by decide +kernel
theorem dX8_wrong_1 : decode cX8_wrong 1 = .ok (.iconst 0, 1) := by decide +kernel
theorem dX8_wrong_2 : decode cX8_wrong 2 = .ok (.putfield 50, 3) := by decide +kernel
theorem dX8_wrong_5 : decode cX8_wrong 5 = .ok (.aload_n 0, 1) := by decide +kernel
theorem dX8_wrong_6 : decode cX8_wrong 6 = .ok (.invokevirtual 184, 3) := by decide +kernel
theorem dX8_wrong_9 : decode cX8_wrong 9 = .ok (.ifCond .ne 7, 3) := by decide +kernel
theorem dX8_wrong_12 : decode cX8_wrong 12 = .ok (.ldc2_w 251, 3) := by decide +kernel
theorem dX8_wrong_15 : decode cX8_wrong 15 = .ok (.lreturn, 1) := by decide +kernel
theorem dX8_wrong_16 : decode cX8_wrong 16 = .ok (.iload_n 1, 1) := by decide +kernel
theorem dX8_wrong_17 : decode cX8_wrong 17 = .ok (.i2l, 1) := by decide +kernel
theorem dX8_wrong_18 : decode cX8_wrong 18 = .ok (.lconst 0, 1) := by decide +kernel
theorem dX8_wrong_19 : decode cX8_wrong 19 = .ok (.ldc2_w 253, 3) := by decide +kernel
theorem dX8_wrong_22 : decode cX8_wrong 22 = .ok (.invokestatic 60, 3) := by decide +kernel
theorem dX8_wrong_25 : decode cX8_wrong 25 = .ok (.ifCond .eq 13, 3) := by decide +kernel
theorem dX8_wrong_28 : decode cX8_wrong 28 = .ok (.iload_n 2, 1) := by decide +kernel
theorem dX8_wrong_29 : decode cX8_wrong 29 = .ok (.i2l, 1) := by decide +kernel
theorem dX8_wrong_30 : decode cX8_wrong 30 = .ok (.lconst 0, 1) := by decide +kernel
theorem dX8_wrong_31 : decode cX8_wrong 31 = .ok (.lconst 1, 1) := by decide +kernel
theorem dX8_wrong_32 : decode cX8_wrong 32 = .ok (.invokestatic 60, 3) := by decide +kernel
theorem dX8_wrong_35 : decode cX8_wrong 35 = .ok (.ifCond .ne 7, 3) := by decide +kernel
theorem dX8_wrong_38 : decode cX8_wrong 38 = .ok (.ldc2_w 255, 3) := by decide +kernel
theorem dX8_wrong_41 : decode cX8_wrong 41 = .ok (.lreturn, 1) := by decide +kernel
theorem dX8_wrong_42 : decode cX8_wrong 42 = .ok (.iconst 1, 1) := by decide +kernel
theorem dX8_wrong_43 : decode cX8_wrong 43 = .ok (.aload_n 0, 1) := by decide +kernel
theorem dX8_wrong_44 : decode cX8_wrong 44 = .ok (.getfield 19, 3) := by decide +kernel
theorem dX8_wrong_47 : decode cX8_wrong 47 = .ok (.iconst 5, 1) := by decide +kernel
theorem dX8_wrong_48 : decode cX8_wrong 48 = .ok (.iaload, 1) := by decide +kernel
theorem dX8_wrong_49 : decode cX8_wrong 49 = .ok (.ishl, 1) := by decide +kernel
theorem dX8_wrong_50 : decode cX8_wrong 50 = .ok (.iconst 1, 1) := by decide +kernel
theorem dX8_wrong_51 : decode cX8_wrong 51 = .ok (.isub, 1) := by decide +kernel
theorem dX8_wrong_52 : decode cX8_wrong 52 = .ok (.aload_n 0, 1) := by decide +kernel
theorem dX8_wrong_53 : decode cX8_wrong 53 = .ok (.getfield 19, 3) := by decide +kernel
theorem dX8_wrong_56 : decode cX8_wrong 56 = .ok (.bipush 6, 2) := by decide +kernel
theorem dX8_wrong_58 : decode cX8_wrong 58 = .ok (.iaload, 1) := by decide +kernel
theorem dX8_wrong_59 : decode cX8_wrong 59 = .ok (.iconst (-1), 1) := by decide +kernel
theorem dX8_wrong_60 : decode cX8_wrong 60 = .ok (.ixor, 1) := by decide +kernel
theorem dX8_wrong_61 : decode cX8_wrong 61 = .ok (.iand, 1) := by decide +kernel
theorem dX8_wrong_62 : decode cX8_wrong 62 = .ok (.istore_n 3, 1) := by decide +kernel
theorem dX8_wrong_63 : decode cX8_wrong 63 = .ok (.lconst 0, 1) := by decide +kernel
theorem dX8_wrong_64 : decode cX8_wrong 64 = .ok (.lstore 4, 2) := by decide +kernel
theorem dX8_wrong_66 : decode cX8_wrong 66 = .ok (.lconst 0, 1) := by decide +kernel
theorem dX8_wrong_67 : decode cX8_wrong 67 = .ok (.lstore 6, 2) := by decide +kernel
theorem dX8_wrong_69 : decode cX8_wrong 69 = .ok (.iconst 0, 1) := by decide +kernel
theorem dX8_wrong_70 : decode cX8_wrong 70 = .ok (.istore 8, 2) := by decide +kernel
theorem dX8_wrong_72 : decode cX8_wrong 72 = .ok (.iload 8, 2) := by decide +kernel
theorem dX8_wrong_74 : decode cX8_wrong 74 = .ok (.iload_n 3, 1) := by decide +kernel
theorem dX8_wrong_75 : decode cX8_wrong 75 = .ok (.if_icmp .gt 139, 3) := by decide +kernel
theorem dX8_wrong_78 : decode cX8_wrong 78 = .ok (.iload 8, 2) := by decide +kernel
theorem dX8_wrong_80 : decode cX8_wrong 80 = .ok (.iload_n 3, 1) := by decide +kernel
theorem dX8_wrong_81 : decode cX8_wrong 81 = .ok (.iconst (-1), 1) := by decide +kernel
theorem dX8_wrong_82 : decode cX8_wrong 82 = .ok (.ixor, 1) := by decide +kernel
theorem dX8_wrong_83 : decode cX8_wrong 83 = .ok (.iand, 1) := by decide +kernel
theorem dX8_wrong_84 : decode cX8_wrong 84 = .ok (.ifCond .ne 124, 3) := by decide +kernel
theorem dX8_wrong_87 : decode cX8_wrong 87 = .ok (.lconst 1, 1) := by decide +kernel
theorem dX8_wrong_88 : decode cX8_wrong 88 = .ok (.lstore 9, 2) := by decide +kernel
theorem dX8_wrong_90 : decode cX8_wrong 90 = .ok (.aload_n 0, 1) := by decide +kernel
theorem dX8_wrong_91 : decode cX8_wrong 91 = .ok (.invokevirtual 216, 3) := by decide +kernel
theorem dX8_wrong_94 : decode cX8_wrong 94 = .ok (.iconst 0, 1) := by decide +kernel
theorem dX8_wrong_95 : decode cX8_wrong 95 = .ok (.istore 11, 2) := by decide +kernel
theorem dX8_wrong_97 : decode cX8_wrong 97 = .ok (.iload 11, 2) := by decide +kernel
theorem dX8_wrong_99 : decode cX8_wrong 99 = .ok (.aload_n 0, 1) := by decide +kernel
theorem dX8_wrong_100 : decode cX8_wrong 100 = .ok (.getfield 19, 3) := by decide +kernel
theorem dX8_wrong_103 : decode cX8_wrong 103 = .ok (.iconst 5, 1) := by decide +kernel
theorem dX8_wrong_104 : decode cX8_wrong 104 = .ok (.iaload, 1) := by decide +kernel
theorem dX8_wrong_105 : decode cX8_wrong 105 = .ok (.if_icmp .ge 75, 3) := by decide +kernel
theorem dX8_wrong_108 : decode cX8_wrong 108 = .ok (.iload 8, 2) := by decide +kernel
theorem dX8_wrong_110 : decode cX8_wrong 110 = .ok (.iload 11, 2) := by decide +kernel
theorem dX8_wrong_112 : decode cX8_wrong 112 = .ok (.ishr, 1) := by decide +kernel
theorem dX8_wrong_113 : decode cX8_wrong 113 = .ok (.iconst 1, 1) := by decide +kernel
theorem dX8_wrong_114 : decode cX8_wrong 114 = .ok (.iand, 1) := by decide +kernel
theorem dX8_wrong_115 : decode cX8_wrong 115 = .ok (.iconst 1, 1) := by decide +kernel
theorem dX8_wrong_116 : decode cX8_wrong 116 = .ok (.if_icmp .ne 7, 3) := by decide +kernel
theorem dX8_wrong_119 : decode cX8_wrong 119 = .ok (.iconst 1, 1) := by decide +kernel
theorem dX8_wrong_120 : decode cX8_wrong 120 = .ok (.goto 4, 3) := by decide +kernel
theorem dX8_wrong_123 : decode cX8_wrong 123 = .ok (.iconst 0, 1) := by decide +kernel
theorem dX8_wrong_124 : decode cX8_wrong 124 = .ok (.istore 12, 2) := by decide +kernel
theorem dX8_wrong_126 : decode cX8_wrong 126 = .ok (.lload 9, 2) := by decide +kernel
theorem dX8_wrong_128 : decode cX8_wrong 128 = .ok (.iload_n 3, 1) := by decide +kernel
theorem dX8_wrong_129 : decode cX8_wrong 129 = .ok (.iload 11, 2) := by decide +kernel
theorem dX8_wrong_131 : decode cX8_wrong 131 = .ok (.ishr, 1) := by decide +kernel
theorem dX8_wrong_132 : decode cX8_wrong 132 = .ok (.iconst 1, 1) := by decide +kernel
theorem dX8_wrong_133 : decode cX8_wrong 133 = .ok (.iand, 1) := by decide +kernel
theorem dX8_wrong_134 : decode cX8_wrong 134 = .ok (.ifCond .ne 7, 3) := by decide +kernel
theorem dX8_wrong_137 : decode cX8_wrong 137 = .ok (.lconst 1, 1) := by decide +kernel
theorem dX8_wrong_138 : decode cX8_wrong 138 = .ok (.goto 19, 3) := by decide +kernel
theorem dX8_wrong_141 : decode cX8_wrong 141 = .ok (.iload 12, 2) := by decide +kernel
theorem dX8_wrong_143 : decode cX8_wrong 143 = .ok (.ifCond .eq 12, 3) := by decide +kernel
theorem dX8_wrong_146 : decode cX8_wrong 146 = .ok (.ldc2_w 253, 3) := by decide +kernel
theorem dX8_wrong_149 : decode cX8_wrong 149 = .ok (.iload_n 1, 1) := by decide +kernel
theorem dX8_wrong_150 : decode cX8_wrong 150 = .ok (.i2l, 1) := by decide +kernel
theorem dX8_wrong_151 : decode cX8_wrong 151 = .ok (.lsub, 1) := by decide +kernel
theorem dX8_wrong_152 : decode cX8_wrong 152 = .ok (.goto 5, 3) := by decide +kernel
theorem dX8_wrong_155 : decode cX8_wrong 155 = .ok (.iload_n 1, 1) := by decide +kernel
theorem dX8_wrong_156 : decode cX8_wrong 156 = .ok (.i2l, 1) := by decide +kernel
theorem dX8_wrong_157 : decode cX8_wrong 157 = .ok (.lmul, 1) := by decide +kernel
theorem dX8_wrong_158 : decode cX8_wrong 158 = .ok (.lstore 9, 2) := by decide +kernel
theorem dX8_wrong_160 : decode cX8_wrong 160 = .ok (.iload 12, 2) := by decide +kernel
theorem dX8_wrong_162 : decode cX8_wrong 162 = .ok (.ifCond .eq 12, 3) := by decide +kernel
theorem dX8_wrong_165 : decode cX8_wrong 165 = .ok (.aload_n 0, 1) := by decide +kernel
theorem dX8_wrong_166 : decode cX8_wrong 166 = .ok (.getfield 25, 3) := by decide +kernel
theorem dX8_wrong_169 : decode cX8_wrong 169 = .ok (.iload 11, 2) := by decide +kernel
theorem dX8_wrong_171 : decode cX8_wrong 171 = .ok (.invokestatic 202, 3) := by decide +kernel
theorem dX8_wrong_174 : decode cX8_wrong 174 = .ok (.iinc 11 1, 3) := by decide +kernel
theorem dX8_wrong_177 : decode cX8_wrong 177 = .ok (.goto (-80), 3) := by decide +kernel
theorem dX8_wrong_180 : decode cX8_wrong 180 = .ok (.lload 6, 2) := by decide +kernel
theorem dX8_wrong_182 : decode cX8_wrong 182 = .ok (.lload 9, 2) := by decide +kernel
theorem dX8_wrong_184 : decode cX8_wrong 184 = .ok (.ladd, 1) := by decide +kernel
theorem dX8_wrong_185 : decode cX8_wrong 185 = .ok (.lstore 6, 2) := by decide +kernel
theorem dX8_wrong_187 : decode cX8_wrong 187 = .ok (.lload 4, 2) := by decide +kernel
theorem dX8_wrong_189 : decode cX8_wrong 189 = .ok (.aload_n 0, 1) := by decide +kernel
theorem dX8_wrong_190 : decode cX8_wrong 190 = .ok (.getfield 25, 3) := by decide +kernel
theorem dX8_wrong_193 : decode cX8_wrong 193 = .ok (.invokestatic 210, 3) := by decide +kernel
theorem dX8_wrong_196 : decode cX8_wrong 196 = .ok (.ifCond .eq 8, 3) := by decide +kernel
theorem dX8_wrong_199 : decode cX8_wrong 199 = .ok (.lload 9, 2) := by decide +kernel
theorem dX8_wrong_201 : decode cX8_wrong 201 = .ok (.goto 4, 3) := by decide +kernel
theorem dX8_wrong_204 : decode cX8_wrong 204 = .ok (.lconst 0, 1) := by decide +kernel
theorem dX8_wrong_205 : decode cX8_wrong 205 = .ok (.ladd, 1) := by decide +kernel
theorem dX8_wrong_206 : decode cX8_wrong 206 = .ok (.lstore 4, 2) := by decide +kernel
theorem dX8_wrong_208 : decode cX8_wrong 208 = .ok (.iinc 8 1, 3) := by decide +kernel
theorem dX8_wrong_211 : decode cX8_wrong 211 = .ok (.goto (-139), 3) := by decide +kernel
theorem dX8_wrong_214 : decode cX8_wrong 214 = .ok (.lload 4, 2) := by decide +kernel
theorem dX8_wrong_216 : decode cX8_wrong 216 = .ok (.lstore 8, 2) := by decide +kernel
theorem dX8_wrong_218 : decode cX8_wrong 218 = .ok (.lload 6, 2) := by decide +kernel
theorem dX8_wrong_220 : decode cX8_wrong 220 = .ok (.lstore 10, 2) := by decide +kernel
theorem dX8_wrong_222 : decode cX8_wrong 222 = .ok (.lload 10, 2) := by decide +kernel
theorem dX8_wrong_224 : decode cX8_wrong 224 = .ok (.lconst 0, 1) := by decide +kernel
theorem dX8_wrong_225 : decode cX8_wrong 225 = .ok (.lcmp, 1) := by decide +kernel
theorem dX8_wrong_226 : decode cX8_wrong 226 = .ok (.ifCond .eq 21, 3) := by decide +kernel
theorem dX8_wrong_229 : decode cX8_wrong 229 = .ok (.lload 8, 2) := by decide +kernel
theorem dX8_wrong_231 : decode cX8_wrong 231 = .ok (.lload 10, 2) := by decide +kernel
theorem dX8_wrong_233 : decode cX8_wrong 233 = .ok (.lrem, 1) := by decide +kernel
theorem dX8_wrong_234 : decode cX8_wrong 234 = .ok (.lstore 12, 2) := by decide +kernel
theorem dX8_wrong_236 : decode cX8_wrong 236 = .ok (.lload 10, 2) := by decide +kernel
theorem dX8_wrong_238 : decode cX8_wrong 238 = .ok (.lstore 8, 2) := by decide +kernel
theorem dX8_wrong_240 : decode cX8_wrong 240 = .ok (.lload 12, 2) := by decide +kernel
theorem dX8_wrong_242 : decode cX8_wrong 242 = .ok (.lstore 10, 2) := by decide +kernel
theorem dX8_wrong_244 : decode cX8_wrong 244 = .ok (.goto (-22), 3) := by decide +kernel
theorem dX8_wrong_247 : decode cX8_wrong 247 = .ok (.iload_n 2, 1) := by decide +kernel
theorem dX8_wrong_248 : decode cX8_wrong 248 = .ok (.ifCond .ne 8, 3) := by decide +kernel
theorem dX8_wrong_251 : decode cX8_wrong 251 = .ok (.lload 4, 2) := by decide +kernel
theorem dX8_wrong_253 : decode cX8_wrong 253 = .ok (.goto 5, 3) := by decide +kernel
theorem dX8_wrong_256 : decode cX8_wrong 256 = .ok (.lload 6, 2) := by decide +kernel
theorem dX8_wrong_258 : decode cX8_wrong 258 = .ok (.lload 8, 2) := by decide +kernel
theorem dX8_wrong_260 : decode cX8_wrong 260 = .ok (.ldiv, 1) := by decide +kernel
theorem dX8_wrong_261 : decode cX8_wrong 261 = .ok (.lreturn, 1) := by decide +kernel
theorem dX8_drawn_0 : decode cX8_drawn 0 = .ok (.aload_n 0, 1) := by decide +kernel
theorem dX8_drawn_1 : decode cX8_drawn 1 = .ok (.iconst 0, 1) := by decide +kernel
theorem dX8_drawn_2 : decode cX8_drawn 2 = .ok (.putfield 50, 3) := by decide +kernel
theorem dX8_drawn_5 : decode cX8_drawn 5 = .ok (.aload_n 0, 1) := by decide +kernel
theorem dX8_drawn_6 : decode cX8_drawn 6 = .ok (.invokevirtual 184, 3) := by decide +kernel
theorem dX8_drawn_9 : decode cX8_drawn 9 = .ok (.ifCond .ne 6, 3) := by decide +kernel
theorem dX8_drawn_12 : decode cX8_drawn 12 = .ok (.ldc 187, 2) := by decide +kernel
theorem dX8_drawn_14 : decode cX8_drawn 14 = .ok (.ireturn, 1) := by decide +kernel
theorem dX8_drawn_15 : decode cX8_drawn 15 = .ok (.iload_n 1, 1) := by decide +kernel
theorem dX8_drawn_16 : decode cX8_drawn 16 = .ok (.i2l, 1) := by decide +kernel
theorem dX8_drawn_17 : decode cX8_drawn 17 = .ok (.lconst 0, 1) := by decide +kernel
theorem dX8_drawn_18 : decode cX8_drawn 18 = .ok (.ldc2_w 214, 3) := by decide +kernel
theorem dX8_drawn_21 : decode cX8_drawn 21 = .ok (.invokestatic 60, 3) := by decide +kernel
theorem dX8_drawn_24 : decode cX8_drawn 24 = .ok (.ifCond .eq 25, 3) := by decide +kernel
theorem dX8_drawn_27 : decode cX8_drawn 27 = .ok (.iload_n 2, 1) := by decide +kernel
theorem dX8_drawn_28 : decode cX8_drawn 28 = .ok (.i2l, 1) := by decide +kernel
theorem dX8_drawn_29 : decode cX8_drawn 29 = .ok (.lconst 1, 1) := by decide +kernel
theorem dX8_drawn_30 : decode cX8_drawn 30 = .ok (.ldc2_w 257, 3) := by decide +kernel
theorem dX8_drawn_33 : decode cX8_drawn 33 = .ok (.invokestatic 60, 3) := by decide +kernel
theorem dX8_drawn_36 : decode cX8_drawn 36 = .ok (.ifCond .eq 13, 3) := by decide +kernel
theorem dX8_drawn_39 : decode cX8_drawn 39 = .ok (.iload_n 3, 1) := by decide +kernel
theorem dX8_drawn_40 : decode cX8_drawn 40 = .ok (.i2l, 1) := by decide +kernel
theorem dX8_drawn_41 : decode cX8_drawn 41 = .ok (.lconst 0, 1) := by decide +kernel
theorem dX8_drawn_42 : decode cX8_drawn 42 = .ok (.lconst 1, 1) := by decide +kernel
theorem dX8_drawn_43 : decode cX8_drawn 43 = .ok (.invokestatic 60, 3) := by decide +kernel
theorem dX8_drawn_46 : decode cX8_drawn 46 = .ok (.ifCond .ne 6, 3) := by decide +kernel
theorem dX8_drawn_49 : decode cX8_drawn 49 = .ok (.ldc 70, 2) := by decide +kernel
theorem dX8_drawn_51 : decode cX8_drawn 51 = .ok (.ireturn, 1) := by decide +kernel
theorem dX8_drawn_52 : decode cX8_drawn 52 = .ok (.aload_n 0, 1) := by decide +kernel
theorem dX8_drawn_53 : decode cX8_drawn 53 = .ok (.invokevirtual 216, 3) := by decide +kernel
theorem dX8_drawn_56 : decode cX8_drawn 56 = .ok (.iload_n 2, 1) := by decide +kernel
theorem dX8_drawn_57 : decode cX8_drawn 57 = .ok (.i2l, 1) := by decide +kernel
theorem dX8_drawn_58 : decode cX8_drawn 58 = .ok (.lstore 4, 2) := by decide +kernel
theorem dX8_drawn_60 : decode cX8_drawn 60 = .ok (.iconst 0, 1) := by decide +kernel
theorem dX8_drawn_61 : decode cX8_drawn 61 = .ok (.istore 6, 2) := by decide +kernel
theorem dX8_drawn_63 : decode cX8_drawn 63 = .ok (.iconst 0, 1) := by decide +kernel
theorem dX8_drawn_64 : decode cX8_drawn 64 = .ok (.istore 7, 2) := by decide +kernel
theorem dX8_drawn_66 : decode cX8_drawn 66 = .ok (.iload 7, 2) := by decide +kernel
theorem dX8_drawn_68 : decode cX8_drawn 68 = .ok (.iload_n 1, 1) := by decide +kernel
theorem dX8_drawn_69 : decode cX8_drawn 69 = .ok (.if_icmp .ge 85, 3) := by decide +kernel
theorem dX8_drawn_72 : decode cX8_drawn 72 = .ok (.lload 4, 2) := by decide +kernel
theorem dX8_drawn_74 : decode cX8_drawn 74 = .ok (.ldc2_w 259, 3) := by decide +kernel
theorem dX8_drawn_77 : decode cX8_drawn 77 = .ok (.lmul, 1) := by decide +kernel
theorem dX8_drawn_78 : decode cX8_drawn 78 = .ok (.ldc2_w 261, 3) := by decide +kernel
theorem dX8_drawn_81 : decode cX8_drawn 81 = .ok (.lrem, 1) := by decide +kernel
theorem dX8_drawn_82 : decode cX8_drawn 82 = .ok (.lstore 4, 2) := by decide +kernel
theorem dX8_drawn_84 : decode cX8_drawn 84 = .ok (.lload 4, 2) := by decide +kernel
theorem dX8_drawn_86 : decode cX8_drawn 86 = .ok (.aload_n 0, 1) := by decide +kernel
theorem dX8_drawn_87 : decode cX8_drawn 87 = .ok (.getfield 25, 3) := by decide +kernel
theorem dX8_drawn_90 : decode cX8_drawn 90 = .ok (.iconst 5, 1) := by decide +kernel
theorem dX8_drawn_91 : decode cX8_drawn 91 = .ok (.iaload, 1) := by decide +kernel
theorem dX8_drawn_92 : decode cX8_drawn 92 = .ok (.i2l, 1) := by decide +kernel
theorem dX8_drawn_93 : decode cX8_drawn 93 = .ok (.lrem, 1) := by decide +kernel
theorem dX8_drawn_94 : decode cX8_drawn 94 = .ok (.l2i, 1) := by decide +kernel
theorem dX8_drawn_95 : decode cX8_drawn 95 = .ok (.istore 8, 2) := by decide +kernel
theorem dX8_drawn_97 : decode cX8_drawn 97 = .ok (.aload_n 0, 1) := by decide +kernel
theorem dX8_drawn_98 : decode cX8_drawn 98 = .ok (.getfield 25, 3) := by decide +kernel
theorem dX8_drawn_101 : decode cX8_drawn 101 = .ok (.bipush 6, 2) := by decide +kernel
theorem dX8_drawn_103 : decode cX8_drawn 103 = .ok (.iaload, 1) := by decide +kernel
theorem dX8_drawn_104 : decode cX8_drawn 104 = .ok (.iload 8, 2) := by decide +kernel
theorem dX8_drawn_106 : decode cX8_drawn 106 = .ok (.ishr, 1) := by decide +kernel
theorem dX8_drawn_107 : decode cX8_drawn 107 = .ok (.iconst 1, 1) := by decide +kernel
theorem dX8_drawn_108 : decode cX8_drawn 108 = .ok (.iand, 1) := by decide +kernel
theorem dX8_drawn_109 : decode cX8_drawn 109 = .ok (.ifCond .ne 12, 3) := by decide +kernel
theorem dX8_drawn_112 : decode cX8_drawn 112 = .ok (.aload_n 0, 1) := by decide +kernel
theorem dX8_drawn_113 : decode cX8_drawn 113 = .ok (.getfield 25, 3) := by decide +kernel
theorem dX8_drawn_116 : decode cX8_drawn 116 = .ok (.iload 8, 2) := by decide +kernel
theorem dX8_drawn_118 : decode cX8_drawn 118 = .ok (.invokestatic 202, 3) := by decide +kernel
theorem dX8_drawn_121 : decode cX8_drawn 121 = .ok (.aload_n 0, 1) := by decide +kernel
theorem dX8_drawn_122 : decode cX8_drawn 122 = .ok (.getfield 25, 3) := by decide +kernel
theorem dX8_drawn_125 : decode cX8_drawn 125 = .ok (.invokestatic 180, 3) := by decide +kernel
theorem dX8_drawn_128 : decode cX8_drawn 128 = .ok (.iload 6, 2) := by decide +kernel
theorem dX8_drawn_130 : decode cX8_drawn 130 = .ok (.aload_n 0, 1) := by decide +kernel
theorem dX8_drawn_131 : decode cX8_drawn 131 = .ok (.getfield 25, 3) := by decide +kernel
theorem dX8_drawn_134 : decode cX8_drawn 134 = .ok (.invokestatic 210, 3) := by decide +kernel
theorem dX8_drawn_137 : decode cX8_drawn 137 = .ok (.ifCond .eq 7, 3) := by decide +kernel
theorem dX8_drawn_140 : decode cX8_drawn 140 = .ok (.iconst 1, 1) := by decide +kernel
theorem dX8_drawn_141 : decode cX8_drawn 141 = .ok (.goto 4, 3) := by decide +kernel
theorem dX8_drawn_144 : decode cX8_drawn 144 = .ok (.iconst 0, 1) := by decide +kernel
theorem dX8_drawn_145 : decode cX8_drawn 145 = .ok (.iadd, 1) := by decide +kernel
theorem dX8_drawn_146 : decode cX8_drawn 146 = .ok (.istore 6, 2) := by decide +kernel
theorem dX8_drawn_148 : decode cX8_drawn 148 = .ok (.iinc 7 1, 3) := by decide +kernel
theorem dX8_drawn_151 : decode cX8_drawn 151 = .ok (.goto (-85), 3) := by decide +kernel
theorem dX8_drawn_154 : decode cX8_drawn 154 = .ok (.iload_n 3, 1) := by decide +kernel
theorem dX8_drawn_155 : decode cX8_drawn 155 = .ok (.ifCond .ne 13, 3) := by decide +kernel
theorem dX8_drawn_158 : decode cX8_drawn 158 = .ok (.aload_n 0, 1) := by decide +kernel
theorem dX8_drawn_159 : decode cX8_drawn 159 = .ok (.getfield 25, 3) := by decide +kernel
theorem dX8_drawn_162 : decode cX8_drawn 162 = .ok (.invokestatic 193, 3) := by decide +kernel
theorem dX8_drawn_165 : decode cX8_drawn 165 = .ok (.goto 5, 3) := by decide +kernel
theorem dX8_drawn_168 : decode cX8_drawn 168 = .ok (.iload 6, 2) := by decide +kernel
theorem dX8_drawn_170 : decode cX8_drawn 170 = .ok (.ireturn, 1) := by decide +kernel
theorem dX8_image_0 : decode cX8_image 0 = .ok (.aload_n 0, 1) := by decide +kernel
theorem dX8_image_1 : decode cX8_image 1 = .ok (.iconst 0, 1) := by decide +kernel
theorem dX8_image_2 : decode cX8_image 2 = .ok (.putfield 50, 3) := by decide +kernel
theorem dX8_image_5 : decode cX8_image 5 = .ok (.iload_n 1, 1) := by decide +kernel
theorem dX8_image_6 : decode cX8_image 6 = .ok (.i2l, 1) := by decide +kernel
theorem dX8_image_7 : decode cX8_image 7 = .ok (.lconst 0, 1) := by decide +kernel
theorem dX8_image_8 : decode cX8_image 8 = .ok (.lconst 1, 1) := by decide +kernel
theorem dX8_image_9 : decode cX8_image 9 = .ok (.invokestatic 60, 3) := by decide +kernel
theorem dX8_image_12 : decode cX8_image 12 = .ok (.ifCond .ne 6, 3) := by decide +kernel
theorem dX8_image_15 : decode cX8_image 15 = .ok (.ldc 70, 2) := by decide +kernel
theorem dX8_image_17 : decode cX8_image 17 = .ok (.ireturn, 1) := by decide +kernel
theorem dX8_image_18 : decode cX8_image 18 = .ok (.aload_n 0, 1) := by decide +kernel
theorem dX8_image_19 : decode cX8_image 19 = .ok (.invokevirtual 184, 3) := by decide +kernel
theorem dX8_image_22 : decode cX8_image 22 = .ok (.ifCond .ne 6, 3) := by decide +kernel
theorem dX8_image_25 : decode cX8_image 25 = .ok (.ldc 187, 2) := by decide +kernel
theorem dX8_image_27 : decode cX8_image 27 = .ok (.ireturn, 1) := by decide +kernel
theorem dX8_image_28 : decode cX8_image 28 = .ok (.iconst 0, 1) := by decide +kernel
theorem dX8_image_29 : decode cX8_image 29 = .ok (.istore_n 2, 1) := by decide +kernel
theorem dX8_image_30 : decode cX8_image 30 = .ok (.iload_n 2, 1) := by decide +kernel
theorem dX8_image_31 : decode cX8_image 31 = .ok (.bipush 34, 2) := by decide +kernel
theorem dX8_image_33 : decode cX8_image 33 = .ok (.if_icmp .ge 26, 3) := by decide +kernel
theorem dX8_image_36 : decode cX8_image 36 = .ok (.aload_n 0, 1) := by decide +kernel
theorem dX8_image_37 : decode cX8_image 37 = .ok (.getfield 44, 3) := by decide +kernel
theorem dX8_image_40 : decode cX8_image 40 = .ok (.bipush 34, 2) := by decide +kernel
theorem dX8_image_42 : decode cX8_image 42 = .ok (.iload_n 1, 1) := by decide +kernel
theorem dX8_image_43 : decode cX8_image 43 = .ok (.imul, 1) := by decide +kernel
theorem dX8_image_44 : decode cX8_image 44 = .ok (.iload_n 2, 1) := by decide +kernel
theorem dX8_image_45 : decode cX8_image 45 = .ok (.iadd, 1) := by decide +kernel
theorem dX8_image_46 : decode cX8_image 46 = .ok (.aload_n 0, 1) := by decide +kernel
theorem dX8_image_47 : decode cX8_image 47 = .ok (.getfield 19, 3) := by decide +kernel
theorem dX8_image_50 : decode cX8_image 50 = .ok (.iload_n 2, 1) := by decide +kernel
theorem dX8_image_51 : decode cX8_image 51 = .ok (.iaload, 1) := by decide +kernel
theorem dX8_image_52 : decode cX8_image 52 = .ok (.iastore, 1) := by decide +kernel
theorem dX8_image_53 : decode cX8_image 53 = .ok (.iinc 2 1, 3) := by decide +kernel
theorem dX8_image_56 : decode cX8_image 56 = .ok (.goto (-26), 3) := by decide +kernel
theorem dX8_image_59 : decode cX8_image 59 = .ok (.aload_n 0, 1) := by decide +kernel
theorem dX8_image_60 : decode cX8_image 60 = .ok (.getfield 40, 3) := by decide +kernel
theorem dX8_image_63 : decode cX8_image 63 = .ok (.iload_n 1, 1) := by decide +kernel
theorem dX8_image_64 : decode cX8_image 64 = .ok (.iconst 1, 1) := by decide +kernel
theorem dX8_image_65 : decode cX8_image 65 = .ok (.bastore, 1) := by decide +kernel
theorem dX8_image_66 : decode cX8_image 66 = .ok (.iconst 1, 1) := by decide +kernel
theorem dX8_image_67 : decode cX8_image 67 = .ok (.ireturn, 1) := by decide +kernel
theorem dX8_restore_0 : decode cX8_restore 0 = .ok (.aload_n 0, 1) := by decide +kernel
theorem dX8_restore_1 : decode cX8_restore 1 = .ok (.iconst 0, 1) := by decide +kernel
theorem dX8_restore_2 : decode cX8_restore 2 = .ok (.putfield 50, 3) := by decide +kernel
theorem dX8_restore_5 : decode cX8_restore 5 = .ok (.iload_n 1, 1) := by decide +kernel
theorem dX8_restore_6 : decode cX8_restore 6 = .ok (.i2l, 1) := by decide +kernel
theorem dX8_restore_7 : decode cX8_restore 7 = .ok (.lconst 0, 1) := by decide +kernel
theorem dX8_restore_8 : decode cX8_restore 8 = .ok (.lconst 1, 1) := by decide +kernel
theorem dX8_restore_9 : decode cX8_restore 9 = .ok (.invokestatic 60, 3) := by decide +kernel
theorem dX8_restore_12 : decode cX8_restore 12 = .ok (.ifCond .ne 6, 3) := by decide +kernel
theorem dX8_restore_15 : decode cX8_restore 15 = .ok (.ldc 70, 2) := by decide +kernel
theorem dX8_restore_17 : decode cX8_restore 17 = .ok (.ireturn, 1) := by decide +kernel
theorem dX8_restore_18 : decode cX8_restore 18 = .ok (.aload_n 0, 1) := by decide +kernel
theorem dX8_restore_19 : decode cX8_restore 19 = .ok (.getfield 40, 3) := by decide +kernel
theorem dX8_restore_22 : decode cX8_restore 22 = .ok (.iload_n 1, 1) := by decide +kernel
theorem dX8_restore_23 : decode cX8_restore 23 = .ok (.baload, 1) := by decide +kernel
theorem dX8_restore_24 : decode cX8_restore 24 = .ok (.ifCond .ne 6, 3) := by decide +kernel
theorem dX8_restore_27 : decode cX8_restore 27 = .ok (.ldc 187, 2) := by decide +kernel
theorem dX8_restore_29 : decode cX8_restore 29 = .ok (.ireturn, 1) := by decide +kernel
theorem dX8_restore_30 : decode cX8_restore 30 = .ok (.iconst 0, 1) := by decide +kernel
theorem dX8_restore_31 : decode cX8_restore 31 = .ok (.istore_n 2, 1) := by decide +kernel
theorem dX8_restore_32 : decode cX8_restore 32 = .ok (.iload_n 2, 1) := by decide +kernel
theorem dX8_restore_33 : decode cX8_restore 33 = .ok (.bipush 34, 2) := by decide +kernel
theorem dX8_restore_35 : decode cX8_restore 35 = .ok (.if_icmp .ge 26, 3) := by decide +kernel
theorem dX8_restore_38 : decode cX8_restore 38 = .ok (.aload_n 0, 1) := by decide +kernel
theorem dX8_restore_39 : decode cX8_restore 39 = .ok (.getfield 19, 3) := by decide +kernel
theorem dX8_restore_42 : decode cX8_restore 42 = .ok (.iload_n 2, 1) := by decide +kernel
theorem dX8_restore_43 : decode cX8_restore 43 = .ok (.aload_n 0, 1) := by decide +kernel
theorem dX8_restore_44 : decode cX8_restore 44 = .ok (.getfield 44, 3) := by decide +kernel
theorem dX8_restore_47 : decode cX8_restore 47 = .ok (.bipush 34, 2) := by decide +kernel
theorem dX8_restore_49 : decode cX8_restore 49 = .ok (.iload_n 1, 1) := by decide +kernel
theorem dX8_restore_50 : decode cX8_restore 50 = .ok (.imul, 1) := by decide +kernel
theorem dX8_restore_51 : decode cX8_restore 51 = .ok (.iload_n 2, 1) := by decide +kernel
theorem dX8_restore_52 : decode cX8_restore 52 = .ok (.iadd, 1) := by decide +kernel
theorem dX8_restore_53 : decode cX8_restore 53 = .ok (.iaload, 1) := by decide +kernel
theorem dX8_restore_54 : decode cX8_restore 54 = .ok (.iastore, 1) := by decide +kernel
theorem dX8_restore_55 : decode cX8_restore 55 = .ok (.iinc 2 1, 3) := by decide +kernel
theorem dX8_restore_58 : decode cX8_restore 58 = .ok (.goto (-26), 3) := by decide +kernel
theorem dX8_restore_61 : decode cX8_restore 61 = .ok (.aload_n 0, 1) := by decide +kernel
theorem dX8_restore_62 : decode cX8_restore 62 = .ok (.iconst 0, 1) := by decide +kernel
theorem dX8_restore_63 : decode cX8_restore 63 = .ok (.putfield 152, 3) := by decide +kernel
theorem dX8_restore_66 : decode cX8_restore 66 = .ok (.iconst 1, 1) := by decide +kernel
theorem dX8_restore_67 : decode cX8_restore 67 = .ok (.ireturn, 1) := by decide +kernel
theorem dX8_isOf_0 : decode cX8_isOf 0 = .ok (.iload_n 1, 1) := by decide +kernel
theorem dX8_isOf_1 : decode cX8_isOf 1 = .ok (.ifCond .eq 28, 3) := by decide +kernel
theorem dX8_isOf_4 : decode cX8_isOf 4 = .ok (.iload_n 0, 1) := by decide +kernel
theorem dX8_isOf_5 : decode cX8_isOf 5 = .ok (.iload_n 1, 1) := by decide +kernel
theorem dX8_isOf_6 : decode cX8_isOf 6 = .ok (.if_icmp .eq 23, 3) := by decide +kernel
theorem dX8_isOf_9 : decode cX8_isOf 9 = .ok (.iload_n 1, 1) := by decide +kernel
theorem dX8_isOf_10 : decode cX8_isOf 10 = .ok (.iconst 1, 1) := by decide +kernel
theorem dX8_isOf_11 : decode cX8_isOf 11 = .ok (.if_icmp .ne 8, 3) := by decide +kernel
theorem dX8_isOf_14 : decode cX8_isOf 14 = .ok (.iload_n 0, 1) := by decide +kernel
theorem dX8_isOf_15 : decode cX8_isOf 15 = .ok (.iconst 4, 1) := by decide +kernel
theorem dX8_isOf_16 : decode cX8_isOf 16 = .ok (.if_icmp .lt 13, 3) := by decide +kernel
theorem dX8_isOf_19 : decode cX8_isOf 19 = .ok (.iload_n 1, 1) := by decide +kernel
theorem dX8_isOf_20 : decode cX8_isOf 20 = .ok (.iconst 4, 1) := by decide +kernel
theorem dX8_isOf_21 : decode cX8_isOf 21 = .ok (.if_icmp .ne 12, 3) := by decide +kernel
theorem dX8_isOf_24 : decode cX8_isOf 24 = .ok (.iload_n 0, 1) := by decide +kernel
theorem dX8_isOf_25 : decode cX8_isOf 25 = .ok (.iconst 5, 1) := by decide +kernel
theorem dX8_isOf_26 : decode cX8_isOf 26 = .ok (.if_icmp .ne 7, 3) := by decide +kernel
theorem dX8_isOf_29 : decode cX8_isOf 29 = .ok (.iconst 1, 1) := by decide +kernel
theorem dX8_isOf_30 : decode cX8_isOf 30 = .ok (.goto 4, 3) := by decide +kernel
theorem dX8_isOf_33 : decode cX8_isOf 33 = .ok (.iconst 0, 1) := by decide +kernel
theorem dX8_isOf_34 : decode cX8_isOf 34 = .ok (.ireturn, 1) := by decide +kernel
theorem dX8_kind_0 : decode cX8_kind 0 = .ok (.aload_n 0, 1) := by decide +kernel
theorem dX8_kind_1 : decode cX8_kind 1 = .ok (.iconst 0, 1) := by decide +kernel
theorem dX8_kind_2 : decode cX8_kind 2 = .ok (.putfield 50, 3) := by decide +kernel
theorem dX8_kind_5 : decode cX8_kind 5 = .ok (.aload_n 0, 1) := by decide +kernel
theorem dX8_kind_6 : decode cX8_kind 6 = .ok (.iload_n 1, 1) := by decide +kernel
theorem dX8_kind_7 : decode cX8_kind 7 = .ok (.invokevirtual 196, 3) := by decide +kernel
theorem dX8_kind_10 : decode cX8_kind 10 = .ok (.ifCond .eq 15, 3) := by decide +kernel
theorem dX8_kind_13 : decode cX8_kind 13 = .ok (.aload_n 0, 1) := by decide +kernel
theorem dX8_kind_14 : decode cX8_kind 14 = .ok (.getfield 19, 3) := by decide +kernel
theorem dX8_kind_17 : decode cX8_kind 17 = .ok (.iload_n 1, 1) := by decide +kernel
theorem dX8_kind_18 : decode cX8_kind 18 = .ok (.iconst 0, 1) := by decide +kernel
theorem dX8_kind_19 : decode cX8_kind 19 = .ok (.invokestatic 172, 3) := by decide +kernel
theorem dX8_kind_22 : decode cX8_kind 22 = .ok (.goto 5, 3) := by decide +kernel
theorem dX8_kind_25 : decode cX8_kind 25 = .ok (.ldc 70, 2) := by decide +kernel
theorem dX8_kind_27 : decode cX8_kind 27 = .ok (.ireturn, 1) := by decide +kernel
theorem dX8_as_0 : decode cX8_as 0 = .ok (.aload_n 0, 1) := by decide +kernel
theorem dX8_as_1 : decode cX8_as 1 = .ok (.iconst 0, 1) := by decide +kernel
theorem dX8_as_2 : decode cX8_as 2 = .ok (.putfield 50, 3) := by decide +kernel
theorem dX8_as_5 : decode cX8_as 5 = .ok (.aload_n 0, 1) := by decide +kernel
theorem dX8_as_6 : decode cX8_as 6 = .ok (.iload_n 1, 1) := by decide +kernel
theorem dX8_as_7 : decode cX8_as 7 = .ok (.invokevirtual 196, 3) := by decide +kernel
theorem dX8_as_10 : decode cX8_as 10 = .ok (.ifCond .eq 15, 3) := by decide +kernel
theorem dX8_as_13 : decode cX8_as 13 = .ok (.iload_n 2, 1) := by decide +kernel
theorem dX8_as_14 : decode cX8_as 14 = .ok (.i2l, 1) := by decide +kernel
theorem dX8_as_15 : decode cX8_as 15 = .ok (.lconst 0, 1) := by decide +kernel
theorem dX8_as_16 : decode cX8_as 16 = .ok (.ldc2_w 263, 3) := by decide +kernel
theorem dX8_as_19 : decode cX8_as 19 = .ok (.invokestatic 60, 3) := by decide +kernel
theorem dX8_as_22 : decode cX8_as 22 = .ok (.ifCond .ne 6, 3) := by decide +kernel
theorem dX8_as_25 : decode cX8_as 25 = .ok (.ldc 70, 2) := by decide +kernel
theorem dX8_as_27 : decode cX8_as 27 = .ok (.ireturn, 1) := by decide +kernel
theorem dX8_as_28 : decode cX8_as 28 = .ok (.aload_n 0, 1) := by decide +kernel
theorem dX8_as_29 : decode cX8_as 29 = .ok (.iconst 0, 1) := by decide +kernel
theorem dX8_as_30 : decode cX8_as 30 = .ok (.putfield 54, 3) := by decide +kernel
theorem dX8_as_33 : decode cX8_as 33 = .ok (.aload_n 0, 1) := by decide +kernel
theorem dX8_as_34 : decode cX8_as 34 = .ok (.getfield 19, 3) := by decide +kernel
theorem dX8_as_37 : decode cX8_as 37 = .ok (.iload_n 1, 1) := by decide +kernel
theorem dX8_as_38 : decode cX8_as 38 = .ok (.iconst 0, 1) := by decide +kernel
theorem dX8_as_39 : decode cX8_as 39 = .ok (.invokestatic 172, 3) := by decide +kernel
theorem dX8_as_42 : decode cX8_as 42 = .ok (.iload_n 2, 1) := by decide +kernel
theorem dX8_as_43 : decode cX8_as 43 = .ok (.invokestatic 265, 3) := by decide +kernel
theorem dX8_as_46 : decode cX8_as 46 = .ok (.ifCond .eq 7, 3) := by decide +kernel
theorem dX8_as_49 : decode cX8_as 49 = .ok (.iload_n 1, 1) := by decide +kernel
theorem dX8_as_50 : decode cX8_as 50 = .ok (.goto 8, 3) := by decide +kernel
theorem dX8_as_53 : decode cX8_as 53 = .ok (.aload_n 0, 1) := by decide +kernel
theorem dX8_as_54 : decode cX8_as 54 = .ok (.iconst 3, 1) := by decide +kernel
theorem dX8_as_55 : decode cX8_as 55 = .ok (.invokevirtual 71, 3) := by decide +kernel
theorem dX8_as_58 : decode cX8_as 58 = .ok (.ireturn, 1) := by decide +kernel
theorem dX8_began_0 : decode cX8_began 0 = .ok (.aload_n 0, 1) := by decide +kernel
theorem dX8_began_1 : decode cX8_began 1 = .ok (.getfield 268, 3) := by decide +kernel
theorem dX8_began_4 : decode cX8_began 4 = .ok (.bipush 16, 2) := by decide +kernel
theorem dX8_began_6 : decode cX8_began 6 = .ok (.if_icmp .ge 23, 3) := by decide +kernel
theorem dX8_began_9 : decode cX8_began 9 = .ok (.aload_n 0, 1) := by decide +kernel
theorem dX8_began_10 : decode cX8_began 10 = .ok (.getfield 47, 3) := by decide +kernel
theorem dX8_began_13 : decode cX8_began 13 = .ok (.aload_n 0, 1) := by decide +kernel
theorem dX8_began_14 : decode cX8_began 14 = .ok (.getfield 268, 3) := by decide +kernel
theorem dX8_began_17 : decode cX8_began 17 = .ok (.iload_n 1, 1) := by decide +kernel
theorem dX8_began_18 : decode cX8_began 18 = .ok (.iastore, 1) := by decide +kernel
theorem dX8_began_19 : decode cX8_began 19 = .ok (.aload_n 0, 1) := by decide +kernel
theorem dX8_began_20 : decode cX8_began 20 = .ok (.dup, 1) := by decide +kernel
theorem dX8_began_21 : decode cX8_began 21 = .ok (.getfield 268, 3) := by decide +kernel
theorem dX8_began_24 : decode cX8_began 24 = .ok (.iconst 1, 1) := by decide +kernel
theorem dX8_began_25 : decode cX8_began 25 = .ok (.iadd, 1) := by decide +kernel
theorem dX8_began_26 : decode cX8_began 26 = .ok (.putfield 268, 3) := by decide +kernel
theorem dX8_began_29 : decode cX8_began 29 = .ok (.return_, 1) := by decide +kernel
theorem dX8_plainSize_0 : decode cX8_plainSize 0 = .ok (.aload_n 0, 1) := by decide +kernel
theorem dX8_plainSize_1 : decode cX8_plainSize 1 = .ok (.bipush 10, 2) := by decide +kernel
theorem dX8_plainSize_3 : decode cX8_plainSize 3 = .ok (.invokevirtual 271, 3) := by decide +kernel
theorem dX8_plainSize_6 : decode cX8_plainSize 6 = .ok (.aload_n 0, 1) := by decide +kernel
theorem dX8_plainSize_7 : decode cX8_plainSize 7 = .ok (.getfield 19, 3) := by decide +kernel
theorem dX8_plainSize_10 : decode cX8_plainSize 10 = .ok (.iload_n 1, 1) := by decide +kernel
theorem dX8_plainSize_11 : decode cX8_plainSize 11 = .ok (.iconst 2, 1) := by decide +kernel
theorem dX8_plainSize_12 : decode cX8_plainSize 12 = .ok (.invokestatic 172, 3) := by decide +kernel
theorem dX8_plainSize_15 : decode cX8_plainSize 15 = .ok (.ireturn, 1) := by decide +kernel
theorem dX8_woundSize_0 : decode cX8_woundSize 0 = .ok (.aload_n 0, 1) := by decide +kernel
theorem dX8_woundSize_1 : decode cX8_woundSize 1 = .ok (.getfield 19, 3) := by decide +kernel
theorem dX8_woundSize_4 : decode cX8_woundSize 4 = .ok (.iload_n 1, 1) := by decide +kernel
theorem dX8_woundSize_5 : decode cX8_woundSize 5 = .ok (.iconst 0, 1) := by decide +kernel
theorem dX8_woundSize_6 : decode cX8_woundSize 6 = .ok (.invokestatic 172, 3) := by decide +kernel
theorem dX8_woundSize_9 : decode cX8_woundSize 9 = .ok (.iconst 5, 1) := by decide +kernel
theorem dX8_woundSize_10 : decode cX8_woundSize 10 = .ok (.if_icmp .ne 7, 3) := by decide +kernel
theorem dX8_woundSize_13 : decode cX8_woundSize 13 = .ok (.iconst 1, 1) := by decide +kernel
theorem dX8_woundSize_14 : decode cX8_woundSize 14 = .ok (.goto 4, 3) := by decide +kernel
theorem dX8_woundSize_17 : decode cX8_woundSize 17 = .ok (.iconst 0, 1) := by decide +kernel
theorem dX8_woundSize_18 : decode cX8_woundSize 18 = .ok (.istore_n 2, 1) := by decide +kernel
theorem dX8_woundSize_19 : decode cX8_woundSize 19 = .ok (.iload_n 2, 1) := by decide +kernel
theorem dX8_woundSize_20 : decode cX8_woundSize 20 = .ok (.ifCond .eq 9, 3) := by decide +kernel
theorem dX8_woundSize_23 : decode cX8_woundSize 23 = .ok (.aload_n 0, 1) := by decide +kernel
theorem dX8_woundSize_24 : decode cX8_woundSize 24 = .ok (.bipush 14, 2) := by decide +kernel
theorem dX8_woundSize_26 : decode cX8_woundSize 26 = .ok (.invokevirtual 271, 3) := by decide +kernel
theorem dX8_woundSize_29 : decode cX8_woundSize 29 = .ok (.aload_n 0, 1) := by decide +kernel
theorem dX8_woundSize_30 : decode cX8_woundSize 30 = .ok (.bipush 13, 2) := by decide +kernel
theorem dX8_woundSize_32 : decode cX8_woundSize 32 = .ok (.invokevirtual 271, 3) := by decide +kernel
theorem dX8_woundSize_35 : decode cX8_woundSize 35 = .ok (.aload_n 0, 1) := by decide +kernel
theorem dX8_woundSize_36 : decode cX8_woundSize 36 = .ok (.iload_n 1, 1) := by decide +kernel
theorem dX8_woundSize_37 : decode cX8_woundSize 37 = .ok (.invokevirtual 274, 3) := by decide +kernel
theorem dX8_woundSize_40 : decode cX8_woundSize 40 = .ok (.bipush 100, 2) := by decide +kernel
theorem dX8_woundSize_42 : decode cX8_woundSize 42 = .ok (.isub, 1) := by decide +kernel
theorem dX8_woundSize_43 : decode cX8_woundSize 43 = .ok (.istore_n 3, 1) := by decide +kernel
theorem dX8_woundSize_44 : decode cX8_woundSize 44 = .ok (.iload_n 2, 1) := by decide +kernel
theorem dX8_woundSize_45 : decode cX8_woundSize 45 = .ok (.ifCond .eq 9, 3) := by decide +kernel
theorem dX8_woundSize_48 : decode cX8_woundSize 48 = .ok (.iconst 2, 1) := by decide +kernel
theorem dX8_woundSize_49 : decode cX8_woundSize 49 = .ok (.iload_n 3, 1) := by decide +kernel
theorem dX8_woundSize_50 : decode cX8_woundSize 50 = .ok (.imul, 1) := by decide +kernel
theorem dX8_woundSize_51 : decode cX8_woundSize 51 = .ok (.goto 4, 3) := by decide +kernel
theorem dX8_woundSize_54 : decode cX8_woundSize 54 = .ok (.iload_n 3, 1) := by decide +kernel
theorem dX8_woundSize_55 : decode cX8_woundSize 55 = .ok (.ireturn, 1) := by decide +kernel
theorem dX8_markOf_0 : decode cX8_markOf 0 = .ok (.aload_n 0, 1) := by decide +kernel
theorem dX8_markOf_1 : decode cX8_markOf 1 = .ok (.getfield 19, 3) := by decide +kernel
theorem dX8_markOf_4 : decode cX8_markOf 4 = .ok (.iload_n 1, 1) := by decide +kernel
theorem dX8_markOf_5 : decode cX8_markOf 5 = .ok (.iconst 0, 1) := by decide +kernel
theorem dX8_markOf_6 : decode cX8_markOf 6 = .ok (.invokestatic 172, 3) := by decide +kernel
theorem dX8_markOf_9 : decode cX8_markOf 9 = .ok (.istore_n 2, 1) := by decide +kernel
theorem dX8_markOf_10 : decode cX8_markOf 10 = .ok (.iload_n 2, 1) := by decide +kernel
theorem dX8_markOf_11 : decode cX8_markOf 11 = .ok (.iconst 4, 1) := by decide +kernel
theorem dX8_markOf_12 : decode cX8_markOf 12 = .ok (.if_icmp .lt 23, 3) := by decide +kernel
theorem dX8_markOf_15 : decode cX8_markOf 15 = .ok (.aload_n 0, 1) := by decide +kernel
theorem dX8_markOf_16 : decode cX8_markOf 16 = .ok (.bipush 23, 2) := by decide +kernel
theorem dX8_markOf_18 : decode cX8_markOf 18 = .ok (.invokevirtual 271, 3) := by decide +kernel
theorem dX8_markOf_21 : decode cX8_markOf 21 = .ok (.aload_n 0, 1) := by decide +kernel
theorem dX8_markOf_22 : decode cX8_markOf 22 = .ok (.bipush 20, 2) := by decide +kernel
theorem dX8_markOf_24 : decode cX8_markOf 24 = .ok (.invokevirtual 271, 3) := by decide +kernel
theorem dX8_markOf_27 : decode cX8_markOf 27 = .ok (.iload_n 1, 1) := by decide +kernel
theorem dX8_markOf_28 : decode cX8_markOf 28 = .ok (.aload_n 0, 1) := by decide +kernel
theorem dX8_markOf_29 : decode cX8_markOf 29 = .ok (.iload_n 1, 1) := by decide +kernel
theorem dX8_markOf_30 : decode cX8_markOf 30 = .ok (.invokevirtual 277, 3) := by decide +kernel
theorem dX8_markOf_33 : decode cX8_markOf 33 = .ok (.isub, 1) := by decide +kernel
theorem dX8_markOf_34 : decode cX8_markOf 34 = .ok (.ireturn, 1) := by decide +kernel
theorem dX8_markOf_35 : decode cX8_markOf 35 = .ok (.iload_n 2, 1) := by decide +kernel
theorem dX8_markOf_36 : decode cX8_markOf 36 = .ok (.iconst 1, 1) := by decide +kernel
theorem dX8_markOf_37 : decode cX8_markOf 37 = .ok (.if_icmp .eq 19, 3) := by decide +kernel
theorem dX8_markOf_40 : decode cX8_markOf 40 = .ok (.aload_n 0, 1) := by decide +kernel
theorem dX8_markOf_41 : decode cX8_markOf 41 = .ok (.iload_n 2, 1) := by decide +kernel
theorem dX8_markOf_42 : decode cX8_markOf 42 = .ok (.iconst 3, 1) := by decide +kernel
theorem dX8_markOf_43 : decode cX8_markOf 43 = .ok (.if_icmp .ne 8, 3) := by decide +kernel
theorem dX8_markOf_46 : decode cX8_markOf 46 = .ok (.bipush 22, 2) := by decide +kernel
theorem dX8_markOf_48 : decode cX8_markOf 48 = .ok (.goto 5, 3) := by decide +kernel
theorem dX8_markOf_51 : decode cX8_markOf 51 = .ok (.bipush 24, 2) := by decide +kernel
theorem dX8_markOf_53 : decode cX8_markOf 53 = .ok (.invokevirtual 271, 3) := by decide +kernel
theorem dX8_markOf_56 : decode cX8_markOf 56 = .ok (.aload_n 0, 1) := by decide +kernel
theorem dX8_markOf_57 : decode cX8_markOf 57 = .ok (.bipush 21, 2) := by decide +kernel
theorem dX8_markOf_59 : decode cX8_markOf 59 = .ok (.invokevirtual 271, 3) := by decide +kernel
theorem dX8_markOf_62 : decode cX8_markOf 62 = .ok (.aload_n 0, 1) := by decide +kernel
theorem dX8_markOf_63 : decode cX8_markOf 63 = .ok (.bipush 20, 2) := by decide +kernel
theorem dX8_markOf_65 : decode cX8_markOf 65 = .ok (.invokevirtual 271, 3) := by decide +kernel
theorem dX8_markOf_68 : decode cX8_markOf 68 = .ok (.iload_n 1, 1) := by decide +kernel
theorem dX8_markOf_69 : decode cX8_markOf 69 = .ok (.aload_n 0, 1) := by decide +kernel
theorem dX8_markOf_70 : decode cX8_markOf 70 = .ok (.getfield 19, 3) := by decide +kernel
theorem dX8_markOf_73 : decode cX8_markOf 73 = .ok (.bipush 7, 2) := by decide +kernel
theorem dX8_markOf_75 : decode cX8_markOf 75 = .ok (.aload_n 0, 1) := by decide +kernel
theorem dX8_markOf_76 : decode cX8_markOf 76 = .ok (.getfield 19, 3) := by decide +kernel
theorem dX8_markOf_79 : decode cX8_markOf 79 = .ok (.iload_n 1, 1) := by decide +kernel
theorem dX8_markOf_80 : decode cX8_markOf 80 = .ok (.iconst 1, 1) := by decide +kernel
theorem dX8_markOf_81 : decode cX8_markOf 81 = .ok (.invokestatic 172, 3) := by decide +kernel
theorem dX8_markOf_84 : decode cX8_markOf 84 = .ok (.iadd, 1) := by decide +kernel
theorem dX8_markOf_85 : decode cX8_markOf 85 = .ok (.iaload, 1) := by decide +kernel
theorem dX8_markOf_86 : decode cX8_markOf 86 = .ok (.iadd, 1) := by decide +kernel
theorem dX8_markOf_87 : decode cX8_markOf 87 = .ok (.istore_n 3, 1) := by decide +kernel
theorem dX8_markOf_88 : decode cX8_markOf 88 = .ok (.iload_n 2, 1) := by decide +kernel
theorem dX8_markOf_89 : decode cX8_markOf 89 = .ok (.iconst 1, 1) := by decide +kernel
theorem dX8_markOf_90 : decode cX8_markOf 90 = .ok (.if_icmp .ne 7, 3) := by decide +kernel
theorem dX8_markOf_93 : decode cX8_markOf 93 = .ok (.iload_n 3, 1) := by decide +kernel
theorem dX8_markOf_94 : decode cX8_markOf 94 = .ok (.goto 19, 3) := by decide +kernel
theorem dX8_markOf_97 : decode cX8_markOf 97 = .ok (.iload_n 2, 1) := by decide +kernel
theorem dX8_markOf_98 : decode cX8_markOf 98 = .ok (.iconst 3, 1) := by decide +kernel
theorem dX8_markOf_99 : decode cX8_markOf 99 = .ok (.if_icmp .ne 11, 3) := by decide +kernel
theorem dX8_markOf_102 : decode cX8_markOf 102 = .ok (.iload_n 3, 1) := by decide +kernel
theorem dX8_markOf_103 : decode cX8_markOf 103 = .ok (.sipush 1000, 3) := by decide +kernel
theorem dX8_markOf_106 : decode cX8_markOf 106 = .ok (.isub, 1) := by decide +kernel
theorem dX8_markOf_107 : decode cX8_markOf 107 = .ok (.goto 6, 3) := by decide +kernel
theorem dX8_markOf_110 : decode cX8_markOf 110 = .ok (.iconst 2, 1) := by decide +kernel
theorem dX8_markOf_111 : decode cX8_markOf 111 = .ok (.iload_n 3, 1) := by decide +kernel
theorem dX8_markOf_112 : decode cX8_markOf 112 = .ok (.imul, 1) := by decide +kernel
theorem dX8_markOf_113 : decode cX8_markOf 113 = .ok (.ireturn, 1) := by decide +kernel
theorem dX8_sizeOf_0 : decode cX8_sizeOf 0 = .ok (.aload_n 0, 1) := by decide +kernel
theorem dX8_sizeOf_1 : decode cX8_sizeOf 1 = .ok (.getfield 19, 3) := by decide +kernel
theorem dX8_sizeOf_4 : decode cX8_sizeOf 4 = .ok (.iload_n 1, 1) := by decide +kernel
theorem dX8_sizeOf_5 : decode cX8_sizeOf 5 = .ok (.iconst 0, 1) := by decide +kernel
theorem dX8_sizeOf_6 : decode cX8_sizeOf 6 = .ok (.invokestatic 172, 3) := by decide +kernel
theorem dX8_sizeOf_9 : decode cX8_sizeOf 9 = .ok (.istore_n 2, 1) := by decide +kernel
theorem dX8_sizeOf_10 : decode cX8_sizeOf 10 = .ok (.iload_n 2, 1) := by decide +kernel
theorem dX8_sizeOf_11 : decode cX8_sizeOf 11 = .ok (.iconst 4, 1) := by decide +kernel
theorem dX8_sizeOf_12 : decode cX8_sizeOf 12 = .ok (.if_icmp .lt 9, 3) := by decide +kernel
theorem dX8_sizeOf_15 : decode cX8_sizeOf 15 = .ok (.aload_n 0, 1) := by decide +kernel
theorem dX8_sizeOf_16 : decode cX8_sizeOf 16 = .ok (.iload_n 1, 1) := by decide +kernel
theorem dX8_sizeOf_17 : decode cX8_sizeOf 17 = .ok (.invokevirtual 277, 3) := by decide +kernel
theorem dX8_sizeOf_20 : decode cX8_sizeOf 20 = .ok (.ireturn, 1) := by decide +kernel
theorem dX8_sizeOf_21 : decode cX8_sizeOf 21 = .ok (.iload_n 2, 1) := by decide +kernel
theorem dX8_sizeOf_22 : decode cX8_sizeOf 22 = .ok (.iconst 2, 1) := by decide +kernel
theorem dX8_sizeOf_23 : decode cX8_sizeOf 23 = .ok (.if_icmp .ne 9, 3) := by decide +kernel
theorem dX8_sizeOf_26 : decode cX8_sizeOf 26 = .ok (.aload_n 0, 1) := by decide +kernel
theorem dX8_sizeOf_27 : decode cX8_sizeOf 27 = .ok (.bipush 12, 2) := by decide +kernel
theorem dX8_sizeOf_29 : decode cX8_sizeOf 29 = .ok (.invokevirtual 271, 3) := by decide +kernel
theorem dX8_sizeOf_32 : decode cX8_sizeOf 32 = .ok (.aload_n 0, 1) := by decide +kernel
theorem dX8_sizeOf_33 : decode cX8_sizeOf 33 = .ok (.bipush 11, 2) := by decide +kernel
theorem dX8_sizeOf_35 : decode cX8_sizeOf 35 = .ok (.invokevirtual 271, 3) := by decide +kernel
theorem dX8_sizeOf_38 : decode cX8_sizeOf 38 = .ok (.aload_n 0, 1) := by decide +kernel
theorem dX8_sizeOf_39 : decode cX8_sizeOf 39 = .ok (.iload_n 1, 1) := by decide +kernel
theorem dX8_sizeOf_40 : decode cX8_sizeOf 40 = .ok (.invokevirtual 274, 3) := by decide +kernel
theorem dX8_sizeOf_43 : decode cX8_sizeOf 43 = .ok (.istore_n 3, 1) := by decide +kernel
theorem dX8_sizeOf_44 : decode cX8_sizeOf 44 = .ok (.iload_n 3, 1) := by decide +kernel
theorem dX8_sizeOf_45 : decode cX8_sizeOf 45 = .ok (.aload_n 0, 1) := by decide +kernel
theorem dX8_sizeOf_46 : decode cX8_sizeOf 46 = .ok (.iload_n 1, 1) := by decide +kernel
theorem dX8_sizeOf_47 : decode cX8_sizeOf 47 = .ok (.invokevirtual 280, 3) := by decide +kernel
theorem dX8_sizeOf_50 : decode cX8_sizeOf 50 = .ok (.iadd, 1) := by decide +kernel
theorem dX8_sizeOf_51 : decode cX8_sizeOf 51 = .ok (.istore_n 3, 1) := by decide +kernel
theorem dX8_sizeOf_52 : decode cX8_sizeOf 52 = .ok (.iload_n 2, 1) := by decide +kernel
theorem dX8_sizeOf_53 : decode cX8_sizeOf 53 = .ok (.iconst 2, 1) := by decide +kernel
theorem dX8_sizeOf_54 : decode cX8_sizeOf 54 = .ok (.if_icmp .ne 8, 3) := by decide +kernel
theorem dX8_sizeOf_57 : decode cX8_sizeOf 57 = .ok (.iload_n 3, 1) := by decide +kernel
theorem dX8_sizeOf_58 : decode cX8_sizeOf 58 = .ok (.ineg, 1) := by decide +kernel
theorem dX8_sizeOf_59 : decode cX8_sizeOf 59 = .ok (.goto 4, 3) := by decide +kernel
theorem dX8_sizeOf_62 : decode cX8_sizeOf 62 = .ok (.iload_n 3, 1) := by decide +kernel
theorem dX8_sizeOf_63 : decode cX8_sizeOf 63 = .ok (.ireturn, 1) := by decide +kernel
theorem dX8_ask_0 : decode cX8_ask 0 = .ok (.aload_n 0, 1) := by decide +kernel
theorem dX8_ask_1 : decode cX8_ask 1 = .ok (.iconst 0, 1) := by decide +kernel
theorem dX8_ask_2 : decode cX8_ask 2 = .ok (.putfield 50, 3) := by decide +kernel
theorem dX8_ask_5 : decode cX8_ask 5 = .ok (.aload_n 0, 1) := by decide +kernel
theorem dX8_ask_6 : decode cX8_ask 6 = .ok (.iload_n 1, 1) := by decide +kernel
theorem dX8_ask_7 : decode cX8_ask 7 = .ok (.invokevirtual 196, 3) := by decide +kernel
theorem dX8_ask_10 : decode cX8_ask 10 = .ok (.ifCond .eq 13, 3) := by decide +kernel
theorem dX8_ask_13 : decode cX8_ask 13 = .ok (.iload_n 2, 1) := by decide +kernel
theorem dX8_ask_14 : decode cX8_ask 14 = .ok (.i2l, 1) := by decide +kernel
theorem dX8_ask_15 : decode cX8_ask 15 = .ok (.lconst 0, 1) := by decide +kernel
theorem dX8_ask_16 : decode cX8_ask 16 = .ok (.lconst 1, 1) := by decide +kernel
theorem dX8_ask_17 : decode cX8_ask 17 = .ok (.invokestatic 60, 3) := by decide +kernel
theorem dX8_ask_20 : decode cX8_ask 20 = .ok (.ifCond .ne 6, 3) := by decide +kernel
theorem dX8_ask_23 : decode cX8_ask 23 = .ok (.ldc 70, 2) := by decide +kernel
theorem dX8_ask_25 : decode cX8_ask 25 = .ok (.ireturn, 1) := by decide +kernel
theorem dX8_ask_26 : decode cX8_ask 26 = .ok (.aload_n 0, 1) := by decide +kernel
theorem dX8_ask_27 : decode cX8_ask 27 = .ok (.iconst 0, 1) := by decide +kernel
theorem dX8_ask_28 : decode cX8_ask 28 = .ok (.putfield 268, 3) := by decide +kernel
theorem dX8_ask_31 : decode cX8_ask 31 = .ok (.iload_n 2, 1) := by decide +kernel
theorem dX8_ask_32 : decode cX8_ask 32 = .ok (.ifCond .ne 11, 3) := by decide +kernel
theorem dX8_ask_35 : decode cX8_ask 35 = .ok (.aload_n 0, 1) := by decide +kernel
theorem dX8_ask_36 : decode cX8_ask 36 = .ok (.iload_n 1, 1) := by decide +kernel
theorem dX8_ask_37 : decode cX8_ask 37 = .ok (.invokevirtual 283, 3) := by decide +kernel
theorem dX8_ask_40 : decode cX8_ask 40 = .ok (.goto 8, 3) := by decide +kernel
theorem dX8_ask_43 : decode cX8_ask 43 = .ok (.aload_n 0, 1) := by decide +kernel
theorem dX8_ask_44 : decode cX8_ask 44 = .ok (.iload_n 1, 1) := by decide +kernel
theorem dX8_ask_45 : decode cX8_ask 45 = .ok (.invokevirtual 280, 3) := by decide +kernel
theorem dX8_ask_48 : decode cX8_ask 48 = .ok (.ireturn, 1) := by decide +kernel
theorem dX8_trace_0 : decode cX8_trace 0 = .ok (.aload_n 0, 1) := by decide +kernel
theorem dX8_trace_1 : decode cX8_trace 1 = .ok (.iconst 0, 1) := by decide +kernel
theorem dX8_trace_2 : decode cX8_trace 2 = .ok (.putfield 50, 3) := by decide +kernel
theorem dX8_trace_5 : decode cX8_trace 5 = .ok (.iload_n 1, 1) := by decide +kernel
theorem dX8_trace_6 : decode cX8_trace 6 = .ok (.i2l, 1) := by decide +kernel
theorem dX8_trace_7 : decode cX8_trace 7 = .ok (.lconst 0, 1) := by decide +kernel
theorem dX8_trace_8 : decode cX8_trace 8 = .ok (.aload_n 0, 1) := by decide +kernel
theorem dX8_trace_9 : decode cX8_trace 9 = .ok (.getfield 268, 3) := by decide +kernel
theorem dX8_trace_12 : decode cX8_trace 12 = .ok (.iconst 1, 1) := by decide +kernel
theorem dX8_trace_13 : decode cX8_trace 13 = .ok (.isub, 1) := by decide +kernel
theorem dX8_trace_14 : decode cX8_trace 14 = .ok (.i2l, 1) := by decide +kernel
theorem dX8_trace_15 : decode cX8_trace 15 = .ok (.invokestatic 60, 3) := by decide +kernel
theorem dX8_trace_18 : decode cX8_trace 18 = .ok (.ifCond .eq 12, 3) := by decide +kernel
theorem dX8_trace_21 : decode cX8_trace 21 = .ok (.aload_n 0, 1) := by decide +kernel
theorem dX8_trace_22 : decode cX8_trace 22 = .ok (.getfield 47, 3) := by decide +kernel
theorem dX8_trace_25 : decode cX8_trace 25 = .ok (.iload_n 1, 1) := by decide +kernel
theorem dX8_trace_26 : decode cX8_trace 26 = .ok (.iaload, 1) := by decide +kernel
theorem dX8_trace_27 : decode cX8_trace 27 = .ok (.goto 5, 3) := by decide +kernel
theorem dX8_trace_30 : decode cX8_trace 30 = .ok (.ldc 93, 2) := by decide +kernel
theorem dX8_trace_32 : decode cX8_trace 32 = .ok (.ireturn, 1) := by decide +kernel
theorem dX8_count_0 : decode cX8_count 0 = .ok (.aload_n 0, 1) := by decide +kernel
theorem dX8_count_1 : decode cX8_count 1 = .ok (.iconst 0, 1) := by decide +kernel
theorem dX8_count_2 : decode cX8_count 2 = .ok (.putfield 50, 3) := by decide +kernel
theorem dX8_count_5 : decode cX8_count 5 = .ok (.iconst 0, 1) := by decide +kernel
theorem dX8_count_6 : decode cX8_count 6 = .ok (.istore_n 2, 1) := by decide +kernel
theorem dX8_count_7 : decode cX8_count 7 = .ok (.iload_n 1, 1) := by decide +kernel
theorem dX8_count_8 : decode cX8_count 8 = .ok (.tableswitch 145 0 7 #[48, 81, 88, 96, 103, 111, 135, 140], 48) := by decide +kernel
theorem dX8_count_56 : decode cX8_count 56 = .ok (.iconst 0, 1) := by decide +kernel
theorem dX8_count_57 : decode cX8_count 57 = .ok (.istore_n 3, 1) := by decide +kernel
theorem dX8_count_58 : decode cX8_count 58 = .ok (.iload_n 3, 1) := by decide +kernel
theorem dX8_count_59 : decode cX8_count 59 = .ok (.bipush 8, 2) := by decide +kernel
theorem dX8_count_61 : decode cX8_count 61 = .ok (.if_icmp .ge 26, 3) := by decide +kernel
theorem dX8_count_64 : decode cX8_count 64 = .ok (.iload_n 2, 1) := by decide +kernel
theorem dX8_count_65 : decode cX8_count 65 = .ok (.aload_n 0, 1) := by decide +kernel
theorem dX8_count_66 : decode cX8_count 66 = .ok (.getfield 7, 3) := by decide +kernel
theorem dX8_count_69 : decode cX8_count 69 = .ok (.iload_n 3, 1) := by decide +kernel
theorem dX8_count_70 : decode cX8_count 70 = .ok (.iaload, 1) := by decide +kernel
theorem dX8_count_71 : decode cX8_count 71 = .ok (.ifCond .lt 7, 3) := by decide +kernel
theorem dX8_count_74 : decode cX8_count 74 = .ok (.iconst 1, 1) := by decide +kernel
theorem dX8_count_75 : decode cX8_count 75 = .ok (.goto 4, 3) := by decide +kernel
theorem dX8_count_78 : decode cX8_count 78 = .ok (.iconst 0, 1) := by decide +kernel
theorem dX8_count_79 : decode cX8_count 79 = .ok (.iadd, 1) := by decide +kernel
theorem dX8_count_80 : decode cX8_count 80 = .ok (.istore_n 2, 1) := by decide +kernel
theorem dX8_count_81 : decode cX8_count 81 = .ok (.iinc 3 1, 3) := by decide +kernel
theorem dX8_count_84 : decode cX8_count 84 = .ok (.goto (-26), 3) := by decide +kernel
theorem dX8_count_87 : decode cX8_count 87 = .ok (.iload_n 2, 1) := by decide +kernel
theorem dX8_count_88 : decode cX8_count 88 = .ok (.ireturn, 1) := by decide +kernel
theorem dX8_count_89 : decode cX8_count 89 = .ok (.aload_n 0, 1) := by decide +kernel
theorem dX8_count_90 : decode cX8_count 90 = .ok (.getfield 19, 3) := by decide +kernel
theorem dX8_count_93 : decode cX8_count 93 = .ok (.iconst 5, 1) := by decide +kernel
theorem dX8_count_94 : decode cX8_count 94 = .ok (.iaload, 1) := by decide +kernel
theorem dX8_count_95 : decode cX8_count 95 = .ok (.ireturn, 1) := by decide +kernel
theorem dX8_count_96 : decode cX8_count 96 = .ok (.aload_n 0, 1) := by decide +kernel
theorem dX8_count_97 : decode cX8_count 97 = .ok (.getfield 19, 3) := by decide +kernel
theorem dX8_count_100 : decode cX8_count 100 = .ok (.bipush 6, 2) := by decide +kernel
theorem dX8_count_102 : decode cX8_count 102 = .ok (.iaload, 1) := by decide +kernel
theorem dX8_count_103 : decode cX8_count 103 = .ok (.ireturn, 1) := by decide +kernel
theorem dX8_count_104 : decode cX8_count 104 = .ok (.aload_n 0, 1) := by decide +kernel
theorem dX8_count_105 : decode cX8_count 105 = .ok (.getfield 19, 3) := by decide +kernel
theorem dX8_count_108 : decode cX8_count 108 = .ok (.iconst 4, 1) := by decide +kernel
theorem dX8_count_109 : decode cX8_count 109 = .ok (.iaload, 1) := by decide +kernel
theorem dX8_count_110 : decode cX8_count 110 = .ok (.ireturn, 1) := by decide +kernel
theorem dX8_count_111 : decode cX8_count 111 = .ok (.aload_n 0, 1) := by decide +kernel
theorem dX8_count_112 : decode cX8_count 112 = .ok (.getfield 19, 3) := by decide +kernel
theorem dX8_count_115 : decode cX8_count 115 = .ok (.invokestatic 193, 3) := by decide +kernel
theorem dX8_count_118 : decode cX8_count 118 = .ok (.ireturn, 1) := by decide +kernel
theorem dX8_count_119 : decode cX8_count 119 = .ok (.aload_n 0, 1) := by decide +kernel
theorem dX8_count_120 : decode cX8_count 120 = .ok (.getfield 19, 3) := by decide +kernel
theorem dX8_count_123 : decode cX8_count 123 = .ok (.bipush 7, 2) := by decide +kernel
theorem dX8_count_125 : decode cX8_count 125 = .ok (.iaload, 1) := by decide +kernel
theorem dX8_count_126 : decode cX8_count 126 = .ok (.aload_n 0, 1) := by decide +kernel
theorem dX8_count_127 : decode cX8_count 127 = .ok (.getfield 19, 3) := by decide +kernel
theorem dX8_count_130 : decode cX8_count 130 = .ok (.bipush 8, 2) := by decide +kernel
theorem dX8_count_132 : decode cX8_count 132 = .ok (.iaload, 1) := by decide +kernel
theorem dX8_count_133 : decode cX8_count 133 = .ok (.iadd, 1) := by decide +kernel
theorem dX8_count_134 : decode cX8_count 134 = .ok (.aload_n 0, 1) := by decide +kernel
theorem dX8_count_135 : decode cX8_count 135 = .ok (.getfield 19, 3) := by decide +kernel
theorem dX8_count_138 : decode cX8_count 138 = .ok (.bipush 9, 2) := by decide +kernel
theorem dX8_count_140 : decode cX8_count 140 = .ok (.iaload, 1) := by decide +kernel
theorem dX8_count_141 : decode cX8_count 141 = .ok (.iadd, 1) := by decide +kernel
theorem dX8_count_142 : decode cX8_count 142 = .ok (.ireturn, 1) := by decide +kernel
theorem dX8_count_143 : decode cX8_count 143 = .ok (.aload_n 0, 1) := by decide +kernel
theorem dX8_count_144 : decode cX8_count 144 = .ok (.getfield 152, 3) := by decide +kernel
theorem dX8_count_147 : decode cX8_count 147 = .ok (.ireturn, 1) := by decide +kernel
theorem dX8_count_148 : decode cX8_count 148 = .ok (.aload_n 0, 1) := by decide +kernel
theorem dX8_count_149 : decode cX8_count 149 = .ok (.getfield 77, 3) := by decide +kernel
theorem dX8_count_152 : decode cX8_count 152 = .ok (.ireturn, 1) := by decide +kernel
theorem dX8_count_153 : decode cX8_count 153 = .ok (.ldc 70, 2) := by decide +kernel
theorem dX8_count_155 : decode cX8_count 155 = .ok (.ireturn, 1) := by decide +kernel
theorem dX8_status_0 : decode cX8_status 0 = .ok (.aload_n 0, 1) := by decide +kernel
theorem dX8_status_1 : decode cX8_status 1 = .ok (.iconst 0, 1) := by decide +kernel
theorem dX8_status_2 : decode cX8_status 2 = .ok (.putfield 50, 3) := by decide +kernel
theorem dX8_status_5 : decode cX8_status 5 = .ok (.aload_n 0, 1) := by decide +kernel
theorem dX8_status_6 : decode cX8_status 6 = .ok (.getfield 54, 3) := by decide +kernel
theorem dX8_status_9 : decode cX8_status 9 = .ok (.ireturn, 1) := by decide +kernel
