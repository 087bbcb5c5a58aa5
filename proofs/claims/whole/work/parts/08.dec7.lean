theorem dX7_init_0 : decode cX7_init 0 = .ok (.aload_n 0, 1) := by decide +kernel
theorem dX7_init_1 : decode cX7_init 1 = .ok (.invokespecial 1, 3) := by decide +kernel
theorem dX7_init_4 : decode cX7_init 4 = .ok (.aload_n 0, 1) := by decide +kernel
theorem dX7_init_5 : decode cX7_init 5 = .ok (.new 7, 3) := by decide +kernel
theorem dX7_init_8 : decode cX7_init 8 = .ok (.dup, 1) := by decide +kernel
theorem dX7_init_9 : decode cX7_init 9 = .ok (.invokespecial 9, 3) := by decide +kernel
theorem dX7_init_12 : decode cX7_init 12 = .ok (.putfield 10, 3) := by decide +kernel
theorem dX7_init_15 : decode cX7_init 15 = .ok (.aload_n 0, 1) := by decide +kernel
theorem dX7_init_16 : decode cX7_init 16 = .ok (.new 16, 3) := by decide +kernel
theorem dX7_init_19 : decode cX7_init 19 = .ok (.dup, 1) := by decide +kernel
theorem dX7_init_20 : decode cX7_init 20 = .ok (.invokespecial 18, 3) := by decide +kernel
theorem dX7_init_23 : decode cX7_init 23 = .ok (.putfield 19, 3) := by decide +kernel
theorem dX7_init_26 : decode cX7_init 26 = .ok (.aload_n 0, 1) := by decide +kernel
theorem dX7_init_27 : decode cX7_init 27 = .ok (.new 23, 3) := by decide +kernel
theorem dX7_init_30 : decode cX7_init 30 = .ok (.dup, 1) := by decide +kernel
theorem dX7_init_31 : decode cX7_init 31 = .ok (.invokespecial 25, 3) := by decide +kernel
theorem dX7_init_34 : decode cX7_init 34 = .ok (.putfield 26, 3) := by decide +kernel
theorem dX7_init_37 : decode cX7_init 37 = .ok (.aload_n 0, 1) := by decide +kernel
theorem dX7_init_38 : decode cX7_init 38 = .ok (.new 23, 3) := by decide +kernel
theorem dX7_init_41 : decode cX7_init 41 = .ok (.dup, 1) := by decide +kernel
theorem dX7_init_42 : decode cX7_init 42 = .ok (.invokespecial 25, 3) := by decide +kernel
theorem dX7_init_45 : decode cX7_init 45 = .ok (.putfield 30, 3) := by decide +kernel
theorem dX7_init_48 : decode cX7_init 48 = .ok (.aload_n 0, 1) := by decide +kernel
theorem dX7_init_49 : decode cX7_init 49 = .ok (.iconst 2, 1) := by decide +kernel
theorem dX7_init_50 : decode cX7_init 50 = .ok (.anewarray 23, 3) := by decide +kernel
theorem dX7_init_53 : decode cX7_init 53 = .ok (.dup, 1) := by decide +kernel
theorem dX7_init_54 : decode cX7_init 54 = .ok (.iconst 0, 1) := by decide +kernel
theorem dX7_init_55 : decode cX7_init 55 = .ok (.new 23, 3) := by decide +kernel
theorem dX7_init_58 : decode cX7_init 58 = .ok (.dup, 1) := by decide +kernel
theorem dX7_init_59 : decode cX7_init 59 = .ok (.invokespecial 25, 3) := by decide +kernel
theorem dX7_init_62 : decode cX7_init 62 = .ok (.aastore, 1) := by decide +kernel
theorem dX7_init_63 : decode cX7_init 63 = .ok (.dup, 1) := by decide +kernel
theorem dX7_init_64 : decode cX7_init 64 = .ok (.iconst 1, 1) := by decide +kernel
theorem dX7_init_65 : decode cX7_init 65 = .ok (.new 23, 3) := by decide +kernel
theorem dX7_init_68 : decode cX7_init 68 = .ok (.dup, 1) := by decide +kernel
theorem dX7_init_69 : decode cX7_init 69 = .ok (.invokespecial 25, 3) := by decide +kernel
theorem dX7_init_72 : decode cX7_init 72 = .ok (.aastore, 1) := by decide +kernel
theorem dX7_init_73 : decode cX7_init 73 = .ok (.putfield 33, 3) := by decide +kernel
theorem dX7_init_76 : decode cX7_init 76 = .ok (.aload_n 0, 1) := by decide +kernel
theorem dX7_init_77 : decode cX7_init 77 = .ok (.new 37, 3) := by decide +kernel
theorem dX7_init_80 : decode cX7_init 80 = .ok (.dup, 1) := by decide +kernel
theorem dX7_init_81 : decode cX7_init 81 = .ok (.invokespecial 39, 3) := by decide +kernel
theorem dX7_init_84 : decode cX7_init 84 = .ok (.putfield 40, 3) := by decide +kernel
theorem dX7_init_87 : decode cX7_init 87 = .ok (.aload_n 0, 1) := by decide +kernel
theorem dX7_init_88 : decode cX7_init 88 = .ok (.new 44, 3) := by decide +kernel
theorem dX7_init_91 : decode cX7_init 91 = .ok (.dup, 1) := by decide +kernel
theorem dX7_init_92 : decode cX7_init 92 = .ok (.invokespecial 46, 3) := by decide +kernel
theorem dX7_init_95 : decode cX7_init 95 = .ok (.putfield 47, 3) := by decide +kernel
theorem dX7_init_98 : decode cX7_init 98 = .ok (.aload_n 0, 1) := by decide +kernel
theorem dX7_init_99 : decode cX7_init 99 = .ok (.new 51, 3) := by decide +kernel
theorem dX7_init_102 : decode cX7_init 102 = .ok (.dup, 1) := by decide +kernel
theorem dX7_init_103 : decode cX7_init 103 = .ok (.invokespecial 53, 3) := by decide +kernel
theorem dX7_init_106 : decode cX7_init 106 = .ok (.putfield 54, 3) := by decide +kernel
theorem dX7_init_109 : decode cX7_init 109 = .ok (.return_, 1) := by decide +kernel
theorem dX7_row_0 : decode cX7_row 0 = .ok (.aload_n 0, 1) := by decide +kernel
theorem dX7_row_1 : decode cX7_row 1 = .ok (.getfield 10, 3) := by decide +kernel
theorem dX7_row_4 : decode cX7_row 4 = .ok (.iload_n 1, 1) := by decide +kernel
theorem dX7_row_5 : decode cX7_row 5 = .ok (.invokevirtual 58, 3) := by decide +kernel
theorem dX7_row_8 : decode cX7_row 8 = .ok (.ifCond .eq 18, 3) := by decide +kernel
theorem dX7_row_11 : decode cX7_row 11 = .ok (.iload_n 2, 1) := by decide +kernel
theorem dX7_row_12 : decode cX7_row 12 = .ok (.iconst 0, 1) := by decide +kernel
theorem dX7_row_13 : decode cX7_row 13 = .ok (.iconst 2, 1) := by decide +kernel
theorem dX7_row_14 : decode cX7_row 14 = .ok (.invokestatic 62, 3) := by decide +kernel
theorem dX7_row_17 : decode cX7_row 17 = .ok (.ifCond .eq 9, 3) := by decide +kernel
theorem dX7_row_20 : decode cX7_row 20 = .ok (.iload_n 3, 1) := by decide +kernel
theorem dX7_row_21 : decode cX7_row 21 = .ok (.bipush 40, 2) := by decide +kernel
theorem dX7_row_23 : decode cX7_row 23 = .ok (.if_icmp .le 6, 3) := by decide +kernel
theorem dX7_row_26 : decode cX7_row 26 = .ok (.ldc 66, 2) := by decide +kernel
theorem dX7_row_28 : decode cX7_row 28 = .ok (.ireturn, 1) := by decide +kernel
theorem dX7_row_29 : decode cX7_row 29 = .ok (.iload_n 3, 1) := by decide +kernel
theorem dX7_row_30 : decode cX7_row 30 = .ok (.ifCond .ge 9, 3) := by decide +kernel
theorem dX7_row_33 : decode cX7_row 33 = .ok (.aload_n 0, 1) := by decide +kernel
theorem dX7_row_34 : decode cX7_row 34 = .ok (.iconst 4, 1) := by decide +kernel
theorem dX7_row_35 : decode cX7_row 35 = .ok (.invokevirtual 67, 3) := by decide +kernel
theorem dX7_row_38 : decode cX7_row 38 = .ok (.ireturn, 1) := by decide +kernel
theorem dX7_row_39 : decode cX7_row 39 = .ok (.aload_n 0, 1) := by decide +kernel
theorem dX7_row_40 : decode cX7_row 40 = .ok (.aload_n 0, 1) := by decide +kernel
theorem dX7_row_41 : decode cX7_row 41 = .ok (.getfield 10, 3) := by decide +kernel
theorem dX7_row_44 : decode cX7_row 44 = .ok (.iload_n 1, 1) := by decide +kernel
theorem dX7_row_45 : decode cX7_row 45 = .ok (.iload_n 2, 1) := by decide +kernel
theorem dX7_row_46 : decode cX7_row 46 = .ok (.iload_n 3, 1) := by decide +kernel
theorem dX7_row_47 : decode cX7_row 47 = .ok (.invokevirtual 71, 3) := by decide +kernel
theorem dX7_row_50 : decode cX7_row 50 = .ok (.invokevirtual 75, 3) := by decide +kernel
theorem dX7_row_53 : decode cX7_row 53 = .ok (.ireturn, 1) := by decide +kernel
theorem dX7_set_0 : decode cX7_set 0 = .ok (.aload_n 0, 1) := by decide +kernel
theorem dX7_set_1 : decode cX7_set 1 = .ok (.getfield 10, 3) := by decide +kernel
theorem dX7_set_4 : decode cX7_set 4 = .ok (.iload_n 1, 1) := by decide +kernel
theorem dX7_set_5 : decode cX7_set 5 = .ok (.invokevirtual 58, 3) := by decide +kernel
theorem dX7_set_8 : decode cX7_set 8 = .ok (.ifCond .ne 6, 3) := by decide +kernel
theorem dX7_set_11 : decode cX7_set 11 = .ok (.ldc 66, 2) := by decide +kernel
theorem dX7_set_13 : decode cX7_set 13 = .ok (.ireturn, 1) := by decide +kernel
theorem dX7_set_14 : decode cX7_set 14 = .ok (.aload_n 0, 1) := by decide +kernel
theorem dX7_set_15 : decode cX7_set 15 = .ok (.getfield 10, 3) := by decide +kernel
theorem dX7_set_18 : decode cX7_set 18 = .ok (.iload_n 1, 1) := by decide +kernel
theorem dX7_set_19 : decode cX7_set 19 = .ok (.invokevirtual 78, 3) := by decide +kernel
theorem dX7_set_22 : decode cX7_set 22 = .ok (.ifCond .eq 9, 3) := by decide +kernel
theorem dX7_set_25 : decode cX7_set 25 = .ok (.aload_n 0, 1) := by decide +kernel
theorem dX7_set_26 : decode cX7_set 26 = .ok (.iconst 1, 1) := by decide +kernel
theorem dX7_set_27 : decode cX7_set 27 = .ok (.invokevirtual 67, 3) := by decide +kernel
theorem dX7_set_30 : decode cX7_set 30 = .ok (.ireturn, 1) := by decide +kernel
theorem dX7_set_31 : decode cX7_set 31 = .ok (.aload_n 0, 1) := by decide +kernel
theorem dX7_set_32 : decode cX7_set 32 = .ok (.getfield 10, 3) := by decide +kernel
theorem dX7_set_35 : decode cX7_set 35 = .ok (.iload_n 1, 1) := by decide +kernel
theorem dX7_set_36 : decode cX7_set 36 = .ok (.iload_n 2, 1) := by decide +kernel
theorem dX7_set_37 : decode cX7_set 37 = .ok (.iconst 1, 1) := by decide +kernel
theorem dX7_set_38 : decode cX7_set 38 = .ok (.invokevirtual 81, 3) := by decide +kernel
theorem dX7_set_41 : decode cX7_set 41 = .ok (.ifCond .ne 9, 3) := by decide +kernel
theorem dX7_set_44 : decode cX7_set 44 = .ok (.aload_n 0, 1) := by decide +kernel
theorem dX7_set_45 : decode cX7_set 45 = .ok (.iconst 2, 1) := by decide +kernel
theorem dX7_set_46 : decode cX7_set 46 = .ok (.invokevirtual 67, 3) := by decide +kernel
theorem dX7_set_49 : decode cX7_set 49 = .ok (.ireturn, 1) := by decide +kernel
theorem dX7_set_50 : decode cX7_set 50 = .ok (.aload_n 0, 1) := by decide +kernel
theorem dX7_set_51 : decode cX7_set 51 = .ok (.aload_n 0, 1) := by decide +kernel
theorem dX7_set_52 : decode cX7_set 52 = .ok (.getfield 10, 3) := by decide +kernel
theorem dX7_set_55 : decode cX7_set 55 = .ok (.iload_n 1, 1) := by decide +kernel
theorem dX7_set_56 : decode cX7_set 56 = .ok (.iload_n 2, 1) := by decide +kernel
theorem dX7_set_57 : decode cX7_set 57 = .ok (.iload_n 3, 1) := by decide +kernel
theorem dX7_set_58 : decode cX7_set 58 = .ok (.invokevirtual 84, 3) := by decide +kernel
theorem dX7_set_61 : decode cX7_set 61 = .ok (.invokevirtual 75, 3) := by decide +kernel
theorem dX7_set_64 : decode cX7_set 64 = .ok (.ireturn, 1) := by decide +kernel
theorem dX7_copy_0 : decode cX7_copy 0 = .ok (.aload_n 0, 1) := by decide +kernel
theorem dX7_copy_1 : decode cX7_copy 1 = .ok (.getfield 10, 3) := by decide +kernel
theorem dX7_copy_4 : decode cX7_copy 4 = .ok (.iload_n 1, 1) := by decide +kernel
theorem dX7_copy_5 : decode cX7_copy 5 = .ok (.invokevirtual 58, 3) := by decide +kernel
theorem dX7_copy_8 : decode cX7_copy 8 = .ok (.ifCond .eq 14, 3) := by decide +kernel
theorem dX7_copy_11 : decode cX7_copy 11 = .ok (.aload_n 0, 1) := by decide +kernel
theorem dX7_copy_12 : decode cX7_copy 12 = .ok (.getfield 10, 3) := by decide +kernel
theorem dX7_copy_15 : decode cX7_copy 15 = .ok (.iload_n 3, 1) := by decide +kernel
theorem dX7_copy_16 : decode cX7_copy 16 = .ok (.invokevirtual 58, 3) := by decide +kernel
theorem dX7_copy_19 : decode cX7_copy 19 = .ok (.ifCond .ne 6, 3) := by decide +kernel
theorem dX7_copy_22 : decode cX7_copy 22 = .ok (.ldc 66, 2) := by decide +kernel
theorem dX7_copy_24 : decode cX7_copy 24 = .ok (.ireturn, 1) := by decide +kernel
theorem dX7_copy_25 : decode cX7_copy 25 = .ok (.aload_n 0, 1) := by decide +kernel
theorem dX7_copy_26 : decode cX7_copy 26 = .ok (.getfield 10, 3) := by decide +kernel
theorem dX7_copy_29 : decode cX7_copy 29 = .ok (.iload_n 1, 1) := by decide +kernel
theorem dX7_copy_30 : decode cX7_copy 30 = .ok (.invokevirtual 78, 3) := by decide +kernel
theorem dX7_copy_33 : decode cX7_copy 33 = .ok (.ifCond .ne 14, 3) := by decide +kernel
theorem dX7_copy_36 : decode cX7_copy 36 = .ok (.aload_n 0, 1) := by decide +kernel
theorem dX7_copy_37 : decode cX7_copy 37 = .ok (.getfield 10, 3) := by decide +kernel
theorem dX7_copy_40 : decode cX7_copy 40 = .ok (.iload_n 3, 1) := by decide +kernel
theorem dX7_copy_41 : decode cX7_copy 41 = .ok (.invokevirtual 78, 3) := by decide +kernel
theorem dX7_copy_44 : decode cX7_copy 44 = .ok (.ifCond .eq 9, 3) := by decide +kernel
theorem dX7_copy_47 : decode cX7_copy 47 = .ok (.aload_n 0, 1) := by decide +kernel
theorem dX7_copy_48 : decode cX7_copy 48 = .ok (.iconst 1, 1) := by decide +kernel
theorem dX7_copy_49 : decode cX7_copy 49 = .ok (.invokevirtual 67, 3) := by decide +kernel
theorem dX7_copy_52 : decode cX7_copy 52 = .ok (.ireturn, 1) := by decide +kernel
theorem dX7_copy_53 : decode cX7_copy 53 = .ok (.aload_n 0, 1) := by decide +kernel
theorem dX7_copy_54 : decode cX7_copy 54 = .ok (.getfield 10, 3) := by decide +kernel
theorem dX7_copy_57 : decode cX7_copy 57 = .ok (.iload_n 1, 1) := by decide +kernel
theorem dX7_copy_58 : decode cX7_copy 58 = .ok (.iload_n 3, 1) := by decide +kernel
theorem dX7_copy_59 : decode cX7_copy 59 = .ok (.invokevirtual 87, 3) := by decide +kernel
theorem dX7_copy_62 : decode cX7_copy 62 = .ok (.ifCond .ne 9, 3) := by decide +kernel
theorem dX7_copy_65 : decode cX7_copy 65 = .ok (.aload_n 0, 1) := by decide +kernel
theorem dX7_copy_66 : decode cX7_copy 66 = .ok (.iconst 5, 1) := by decide +kernel
theorem dX7_copy_67 : decode cX7_copy 67 = .ok (.invokevirtual 67, 3) := by decide +kernel
theorem dX7_copy_70 : decode cX7_copy 70 = .ok (.ireturn, 1) := by decide +kernel
theorem dX7_copy_71 : decode cX7_copy 71 = .ok (.aload_n 0, 1) := by decide +kernel
theorem dX7_copy_72 : decode cX7_copy 72 = .ok (.getfield 10, 3) := by decide +kernel
theorem dX7_copy_75 : decode cX7_copy 75 = .ok (.iload_n 1, 1) := by decide +kernel
theorem dX7_copy_76 : decode cX7_copy 76 = .ok (.iload_n 2, 1) := by decide +kernel
theorem dX7_copy_77 : decode cX7_copy 77 = .ok (.iload 5, 2) := by decide +kernel
theorem dX7_copy_79 : decode cX7_copy 79 = .ok (.invokevirtual 81, 3) := by decide +kernel
theorem dX7_copy_82 : decode cX7_copy 82 = .ok (.ifCond .eq 18, 3) := by decide +kernel
theorem dX7_copy_85 : decode cX7_copy 85 = .ok (.aload_n 0, 1) := by decide +kernel
theorem dX7_copy_86 : decode cX7_copy 86 = .ok (.getfield 10, 3) := by decide +kernel
theorem dX7_copy_89 : decode cX7_copy 89 = .ok (.iload_n 3, 1) := by decide +kernel
theorem dX7_copy_90 : decode cX7_copy 90 = .ok (.iload 4, 2) := by decide +kernel
theorem dX7_copy_92 : decode cX7_copy 92 = .ok (.iload 5, 2) := by decide +kernel
theorem dX7_copy_94 : decode cX7_copy 94 = .ok (.invokevirtual 81, 3) := by decide +kernel
theorem dX7_copy_97 : decode cX7_copy 97 = .ok (.ifCond .ne 9, 3) := by decide +kernel
theorem dX7_copy_100 : decode cX7_copy 100 = .ok (.aload_n 0, 1) := by decide +kernel
theorem dX7_copy_101 : decode cX7_copy 101 = .ok (.iconst 2, 1) := by decide +kernel
theorem dX7_copy_102 : decode cX7_copy 102 = .ok (.invokevirtual 67, 3) := by decide +kernel
theorem dX7_copy_105 : decode cX7_copy 105 = .ok (.ireturn, 1) := by decide +kernel
theorem dX7_copy_106 : decode cX7_copy 106 = .ok (.aload_n 0, 1) := by decide +kernel
theorem dX7_copy_107 : decode cX7_copy 107 = .ok (.aload_n 0, 1) := by decide +kernel
theorem dX7_copy_108 : decode cX7_copy 108 = .ok (.getfield 10, 3) := by decide +kernel
theorem dX7_copy_111 : decode cX7_copy 111 = .ok (.iload_n 1, 1) := by decide +kernel
theorem dX7_copy_112 : decode cX7_copy 112 = .ok (.iload_n 2, 1) := by decide +kernel
theorem dX7_copy_113 : decode cX7_copy 113 = .ok (.iload_n 3, 1) := by decide +kernel
theorem dX7_copy_114 : decode cX7_copy 114 = .ok (.iload 4, 2) := by decide +kernel
theorem dX7_copy_116 : decode cX7_copy 116 = .ok (.iload 5, 2) := by decide +kernel
theorem dX7_copy_118 : decode cX7_copy 118 = .ok (.invokevirtual 91, 3) := by decide +kernel
theorem dX7_copy_121 : decode cX7_copy 121 = .ok (.invokevirtual 75, 3) := by decide +kernel
theorem dX7_copy_124 : decode cX7_copy 124 = .ok (.ireturn, 1) := by decide +kernel
theorem dX7_drop_0 : decode cX7_drop 0 = .ok (.aload_n 0, 1) := by decide +kernel
theorem dX7_drop_1 : decode cX7_drop 1 = .ok (.getfield 10, 3) := by decide +kernel
theorem dX7_drop_4 : decode cX7_drop 4 = .ok (.iload_n 1, 1) := by decide +kernel
theorem dX7_drop_5 : decode cX7_drop 5 = .ok (.invokevirtual 58, 3) := by decide +kernel
theorem dX7_drop_8 : decode cX7_drop 8 = .ok (.ifCond .ne 6, 3) := by decide +kernel
theorem dX7_drop_11 : decode cX7_drop 11 = .ok (.ldc 66, 2) := by decide +kernel
theorem dX7_drop_13 : decode cX7_drop 13 = .ok (.ireturn, 1) := by decide +kernel
theorem dX7_drop_14 : decode cX7_drop 14 = .ok (.aload_n 0, 1) := by decide +kernel
theorem dX7_drop_15 : decode cX7_drop 15 = .ok (.getfield 10, 3) := by decide +kernel
theorem dX7_drop_18 : decode cX7_drop 18 = .ok (.iload_n 1, 1) := by decide +kernel
theorem dX7_drop_19 : decode cX7_drop 19 = .ok (.invokevirtual 78, 3) := by decide +kernel
theorem dX7_drop_22 : decode cX7_drop 22 = .ok (.ifCond .eq 9, 3) := by decide +kernel
theorem dX7_drop_25 : decode cX7_drop 25 = .ok (.aload_n 0, 1) := by decide +kernel
theorem dX7_drop_26 : decode cX7_drop 26 = .ok (.iconst 1, 1) := by decide +kernel
theorem dX7_drop_27 : decode cX7_drop 27 = .ok (.invokevirtual 67, 3) := by decide +kernel
theorem dX7_drop_30 : decode cX7_drop 30 = .ok (.ireturn, 1) := by decide +kernel
theorem dX7_drop_31 : decode cX7_drop 31 = .ok (.aload_n 0, 1) := by decide +kernel
theorem dX7_drop_32 : decode cX7_drop 32 = .ok (.aload_n 0, 1) := by decide +kernel
theorem dX7_drop_33 : decode cX7_drop 33 = .ok (.getfield 10, 3) := by decide +kernel
theorem dX7_drop_36 : decode cX7_drop 36 = .ok (.iload_n 1, 1) := by decide +kernel
theorem dX7_drop_37 : decode cX7_drop 37 = .ok (.invokevirtual 95, 3) := by decide +kernel
theorem dX7_drop_40 : decode cX7_drop 40 = .ok (.invokevirtual 75, 3) := by decide +kernel
theorem dX7_drop_43 : decode cX7_drop 43 = .ok (.ireturn, 1) := by decide +kernel
theorem dX7_feed_0 : decode cX7_feed 0 = .ok (.iload_n 1, 1) := by decide +kernel
theorem dX7_feed_1 : decode cX7_feed 1 = .ok (.iconst 0, 1) := by decide +kernel
theorem dX7_feed_2 : decode cX7_feed 2 = .ok (.sipush 255, 3) := by decide +kernel
theorem dX7_feed_5 : decode cX7_feed 5 = .ok (.invokestatic 62, 3) := by decide +kernel
theorem dX7_feed_8 : decode cX7_feed 8 = .ok (.ifCond .ne 6, 3) := by decide +kernel
theorem dX7_feed_11 : decode cX7_feed 11 = .ok (.ldc 66, 2) := by decide +kernel
theorem dX7_feed_13 : decode cX7_feed 13 = .ok (.ireturn, 1) := by decide +kernel
theorem dX7_feed_14 : decode cX7_feed 14 = .ok (.aload_n 0, 1) := by decide +kernel
theorem dX7_feed_15 : decode cX7_feed 15 = .ok (.getfield 19, 3) := by decide +kernel
theorem dX7_feed_18 : decode cX7_feed 18 = .ok (.invokevirtual 98, 3) := by decide +kernel
theorem dX7_feed_21 : decode cX7_feed 21 = .ok (.ifCond .eq 6, 3) := by decide +kernel
theorem dX7_feed_24 : decode cX7_feed 24 = .ok (.ldc 102, 2) := by decide +kernel
theorem dX7_feed_26 : decode cX7_feed 26 = .ok (.ireturn, 1) := by decide +kernel
theorem dX7_feed_27 : decode cX7_feed 27 = .ok (.aload_n 0, 1) := by decide +kernel
theorem dX7_feed_28 : decode cX7_feed 28 = .ok (.getfield 19, 3) := by decide +kernel
theorem dX7_feed_31 : decode cX7_feed 31 = .ok (.iload_n 1, 1) := by decide +kernel
theorem dX7_feed_32 : decode cX7_feed 32 = .ok (.invokevirtual 103, 3) := by decide +kernel
theorem dX7_feed_35 : decode cX7_feed 35 = .ok (.ireturn, 1) := by decide +kernel
theorem dX7_site_0 : decode cX7_site 0 = .ok (.aload_n 0, 1) := by decide +kernel
theorem dX7_site_1 : decode cX7_site 1 = .ok (.getfield 19, 3) := by decide +kernel
theorem dX7_site_4 : decode cX7_site 4 = .ok (.aload_n 0, 1) := by decide +kernel
theorem dX7_site_5 : decode cX7_site 5 = .ok (.getfield 30, 3) := by decide +kernel
theorem dX7_site_8 : decode cX7_site 8 = .ok (.invokevirtual 106, 3) := by decide +kernel
theorem dX7_site_11 : decode cX7_site 11 = .ok (.istore_n 1, 1) := by decide +kernel
theorem dX7_site_12 : decode cX7_site 12 = .ok (.aload_n 0, 1) := by decide +kernel
theorem dX7_site_13 : decode cX7_site 13 = .ok (.getfield 19, 3) := by decide +kernel
theorem dX7_site_16 : decode cX7_site 16 = .ok (.invokevirtual 110, 3) := by decide +kernel
theorem dX7_site_19 : decode cX7_site 19 = .ok (.iload_n 1, 1) := by decide +kernel
theorem dX7_site_20 : decode cX7_site 20 = .ok (.ifCond .ne 25, 3) := by decide +kernel
theorem dX7_site_23 : decode cX7_site 23 = .ok (.aload_n 0, 1) := by decide +kernel
theorem dX7_site_24 : decode cX7_site 24 = .ok (.aload_n 0, 1) := by decide +kernel
theorem dX7_site_25 : decode cX7_site 25 = .ok (.getfield 19, 3) := by decide +kernel
theorem dX7_site_28 : decode cX7_site 28 = .ok (.getfield 113, 3) := by decide +kernel
theorem dX7_site_31 : decode cX7_site 31 = .ok (.putfield 117, 3) := by decide +kernel
theorem dX7_site_34 : decode cX7_site 34 = .ok (.ldc 120, 2) := by decide +kernel
theorem dX7_site_36 : decode cX7_site 36 = .ok (.aload_n 0, 1) := by decide +kernel
theorem dX7_site_37 : decode cX7_site 37 = .ok (.getfield 19, 3) := by decide +kernel
theorem dX7_site_40 : decode cX7_site 40 = .ok (.getfield 121, 3) := by decide +kernel
theorem dX7_site_43 : decode cX7_site 43 = .ok (.isub, 1) := by decide +kernel
theorem dX7_site_44 : decode cX7_site 44 = .ok (.ireturn, 1) := by decide +kernel
theorem dX7_site_45 : decode cX7_site 45 = .ok (.aload_n 0, 1) := by decide +kernel
theorem dX7_site_46 : decode cX7_site 46 = .ok (.getfield 26, 3) := by decide +kernel
theorem dX7_site_49 : decode cX7_site 49 = .ok (.aload_n 0, 1) := by decide +kernel
theorem dX7_site_50 : decode cX7_site 50 = .ok (.getfield 30, 3) := by decide +kernel
theorem dX7_site_53 : decode cX7_site 53 = .ok (.invokevirtual 124, 3) := by decide +kernel
theorem dX7_site_56 : decode cX7_site 56 = .ok (.aload_n 0, 1) := by decide +kernel
theorem dX7_site_57 : decode cX7_site 57 = .ok (.getfield 40, 3) := by decide +kernel
theorem dX7_site_60 : decode cX7_site 60 = .ok (.invokevirtual 128, 3) := by decide +kernel
theorem dX7_site_63 : decode cX7_site 63 = .ok (.aload_n 0, 1) := by decide +kernel
theorem dX7_site_64 : decode cX7_site 64 = .ok (.getfield 26, 3) := by decide +kernel
theorem dX7_site_67 : decode cX7_site 67 = .ok (.getfield 131, 3) := by decide +kernel
theorem dX7_site_70 : decode cX7_site 70 = .ok (.ireturn, 1) := by decide +kernel
theorem dX7_fault_0 : decode cX7_fault 0 = .ok (.aload_n 0, 1) := by decide +kernel
theorem dX7_fault_1 : decode cX7_fault 1 = .ok (.getfield 117, 3) := by decide +kernel
theorem dX7_fault_4 : decode cX7_fault 4 = .ok (.ireturn, 1) := by decide +kernel
theorem dX7_undo_0 : decode cX7_undo 0 = .ok (.aload_n 0, 1) := by decide +kernel
theorem dX7_undo_1 : decode cX7_undo 1 = .ok (.getfield 40, 3) := by decide +kernel
theorem dX7_undo_4 : decode cX7_undo 4 = .ok (.getfield 134, 3) := by decide +kernel
theorem dX7_undo_7 : decode cX7_undo 7 = .ok (.ifCond .ne 6, 3) := by decide +kernel
theorem dX7_undo_10 : decode cX7_undo 10 = .ok (.ldc 137, 2) := by decide +kernel
theorem dX7_undo_12 : decode cX7_undo 12 = .ok (.ireturn, 1) := by decide +kernel
theorem dX7_undo_13 : decode cX7_undo 13 = .ok (.aload_n 0, 1) := by decide +kernel
theorem dX7_undo_14 : decode cX7_undo 14 = .ok (.getfield 40, 3) := by decide +kernel
theorem dX7_undo_17 : decode cX7_undo 17 = .ok (.aload_n 0, 1) := by decide +kernel
theorem dX7_undo_18 : decode cX7_undo 18 = .ok (.getfield 26, 3) := by decide +kernel
theorem dX7_undo_21 : decode cX7_undo 21 = .ok (.invokevirtual 138, 3) := by decide +kernel
theorem dX7_undo_24 : decode cX7_undo 24 = .ok (.aload_n 0, 1) := by decide +kernel
theorem dX7_undo_25 : decode cX7_undo 25 = .ok (.getfield 40, 3) := by decide +kernel
theorem dX7_undo_28 : decode cX7_undo 28 = .ok (.getfield 134, 3) := by decide +kernel
theorem dX7_undo_31 : decode cX7_undo 31 = .ok (.ireturn, 1) := by decide +kernel
theorem dX7_hours_0 : decode cX7_hours 0 = .ok (.aload_n 0, 1) := by decide +kernel
theorem dX7_hours_1 : decode cX7_hours 1 = .ok (.getfield 26, 3) := by decide +kernel
theorem dX7_hours_4 : decode cX7_hours 4 = .ok (.getfield 141, 3) := by decide +kernel
theorem dX7_hours_7 : decode cX7_hours 7 = .ok (.ifCond .ne 6, 3) := by decide +kernel
theorem dX7_hours_10 : decode cX7_hours 10 = .ok (.ldc 137, 2) := by decide +kernel
theorem dX7_hours_12 : decode cX7_hours 12 = .ok (.ireturn, 1) := by decide +kernel
theorem dX7_hours_13 : decode cX7_hours 13 = .ok (.iload_n 1, 1) := by decide +kernel
theorem dX7_hours_14 : decode cX7_hours 14 = .ok (.iconst 1, 1) := by decide +kernel
theorem dX7_hours_15 : decode cX7_hours 15 = .ok (.bipush 24, 2) := by decide +kernel
theorem dX7_hours_17 : decode cX7_hours 17 = .ok (.invokestatic 62, 3) := by decide +kernel
theorem dX7_hours_20 : decode cX7_hours 20 = .ok (.ifCond .ne 6, 3) := by decide +kernel
theorem dX7_hours_23 : decode cX7_hours 23 = .ok (.ldc 66, 2) := by decide +kernel
theorem dX7_hours_25 : decode cX7_hours 25 = .ok (.ireturn, 1) := by decide +kernel
theorem dX7_hours_26 : decode cX7_hours 26 = .ok (.aload_n 0, 1) := by decide +kernel
theorem dX7_hours_27 : decode cX7_hours 27 = .ok (.getfield 26, 3) := by decide +kernel
theorem dX7_hours_30 : decode cX7_hours 30 = .ok (.getfield 145, 3) := by decide +kernel
theorem dX7_hours_33 : decode cX7_hours 33 = .ok (.iload_n 1, 1) := by decide +kernel
theorem dX7_hours_34 : decode cX7_hours 34 = .ok (.iadd, 1) := by decide +kernel
theorem dX7_hours_35 : decode cX7_hours 35 = .ok (.sipush 999, 3) := by decide +kernel
theorem dX7_hours_38 : decode cX7_hours 38 = .ok (.if_icmp .le 6, 3) := by decide +kernel
theorem dX7_hours_41 : decode cX7_hours 41 = .ok (.ldc 102, 2) := by decide +kernel
theorem dX7_hours_43 : decode cX7_hours 43 = .ok (.ireturn, 1) := by decide +kernel
theorem dX7_hours_44 : decode cX7_hours 44 = .ok (.iconst 0, 1) := by decide +kernel
theorem dX7_hours_45 : decode cX7_hours 45 = .ok (.istore_n 2, 1) := by decide +kernel
theorem dX7_hours_46 : decode cX7_hours 46 = .ok (.iload_n 2, 1) := by decide +kernel
theorem dX7_hours_47 : decode cX7_hours 47 = .ok (.iload_n 1, 1) := by decide +kernel
theorem dX7_hours_48 : decode cX7_hours 48 = .ok (.if_icmp .ge 27, 3) := by decide +kernel
theorem dX7_hours_51 : decode cX7_hours 51 = .ok (.aload_n 0, 1) := by decide +kernel
theorem dX7_hours_52 : decode cX7_hours 52 = .ok (.getfield 40, 3) := by decide +kernel
theorem dX7_hours_55 : decode cX7_hours 55 = .ok (.aload_n 0, 1) := by decide +kernel
theorem dX7_hours_56 : decode cX7_hours 56 = .ok (.getfield 26, 3) := by decide +kernel
theorem dX7_hours_59 : decode cX7_hours 59 = .ok (.invokevirtual 148, 3) := by decide +kernel
theorem dX7_hours_62 : decode cX7_hours 62 = .ok (.aload_n 0, 1) := by decide +kernel
theorem dX7_hours_63 : decode cX7_hours 63 = .ok (.getfield 26, 3) := by decide +kernel
theorem dX7_hours_66 : decode cX7_hours 66 = .ok (.invokevirtual 151, 3) := by decide +kernel
theorem dX7_hours_69 : decode cX7_hours 69 = .ok (.iinc 2 1, 3) := by decide +kernel
theorem dX7_hours_72 : decode cX7_hours 72 = .ok (.goto (-26), 3) := by decide +kernel
theorem dX7_hours_75 : decode cX7_hours 75 = .ok (.aload_n 0, 1) := by decide +kernel
theorem dX7_hours_76 : decode cX7_hours 76 = .ok (.getfield 26, 3) := by decide +kernel
theorem dX7_hours_79 : decode cX7_hours 79 = .ok (.getfield 154, 3) := by decide +kernel
theorem dX7_hours_82 : decode cX7_hours 82 = .ok (.invokevirtual 158, 3) := by decide +kernel
theorem dX7_hours_85 : decode cX7_hours 85 = .ok (.ireturn, 1) := by decide +kernel
theorem dX7_perform_0 : decode cX7_perform 0 = .ok (.aload_n 0, 1) := by decide +kernel
theorem dX7_perform_1 : decode cX7_perform 1 = .ok (.getfield 26, 3) := by decide +kernel
theorem dX7_perform_4 : decode cX7_perform 4 = .ok (.iload_n 1, 1) := by decide +kernel
theorem dX7_perform_5 : decode cX7_perform 5 = .ok (.invokevirtual 164, 3) := by decide +kernel
theorem dX7_perform_8 : decode cX7_perform 8 = .ok (.ifCond .ne 6, 3) := by decide +kernel
theorem dX7_perform_11 : decode cX7_perform 11 = .ok (.ldc 66, 2) := by decide +kernel
theorem dX7_perform_13 : decode cX7_perform 13 = .ok (.ireturn, 1) := by decide +kernel
theorem dX7_perform_14 : decode cX7_perform 14 = .ok (.aload_n 0, 1) := by decide +kernel
theorem dX7_perform_15 : decode cX7_perform 15 = .ok (.getfield 26, 3) := by decide +kernel
theorem dX7_perform_18 : decode cX7_perform 18 = .ok (.iload_n 1, 1) := by decide +kernel
theorem dX7_perform_19 : decode cX7_perform 19 = .ok (.invokevirtual 167, 3) := by decide +kernel
theorem dX7_perform_22 : decode cX7_perform 22 = .ok (.ifCond .eq 6, 3) := by decide +kernel
theorem dX7_perform_25 : decode cX7_perform 25 = .ok (.ldc 137, 2) := by decide +kernel
theorem dX7_perform_27 : decode cX7_perform 27 = .ok (.ireturn, 1) := by decide +kernel
theorem dX7_perform_28 : decode cX7_perform 28 = .ok (.aload_n 0, 1) := by decide +kernel
theorem dX7_perform_29 : decode cX7_perform 29 = .ok (.getfield 40, 3) := by decide +kernel
theorem dX7_perform_32 : decode cX7_perform 32 = .ok (.aload_n 0, 1) := by decide +kernel
theorem dX7_perform_33 : decode cX7_perform 33 = .ok (.getfield 26, 3) := by decide +kernel
theorem dX7_perform_36 : decode cX7_perform 36 = .ok (.invokevirtual 148, 3) := by decide +kernel
theorem dX7_perform_39 : decode cX7_perform 39 = .ok (.aload_n 0, 1) := by decide +kernel
theorem dX7_perform_40 : decode cX7_perform 40 = .ok (.getfield 26, 3) := by decide +kernel
theorem dX7_perform_43 : decode cX7_perform 43 = .ok (.iload_n 1, 1) := by decide +kernel
theorem dX7_perform_44 : decode cX7_perform 44 = .ok (.aload_n 0, 1) := by decide +kernel
theorem dX7_perform_45 : decode cX7_perform 45 = .ok (.getfield 26, 3) := by decide +kernel
theorem dX7_perform_48 : decode cX7_perform 48 = .ok (.getfield 154, 3) := by decide +kernel
theorem dX7_perform_51 : decode cX7_perform 51 = .ok (.invokevirtual 170, 3) := by decide +kernel
theorem dX7_perform_54 : decode cX7_perform 54 = .ok (.aload_n 0, 1) := by decide +kernel
theorem dX7_perform_55 : decode cX7_perform 55 = .ok (.getfield 26, 3) := by decide +kernel
theorem dX7_perform_58 : decode cX7_perform 58 = .ok (.dup, 1) := by decide +kernel
theorem dX7_perform_59 : decode cX7_perform 59 = .ok (.getfield 174, 3) := by decide +kernel
theorem dX7_perform_62 : decode cX7_perform 62 = .ok (.iconst 1, 1) := by decide +kernel
theorem dX7_perform_63 : decode cX7_perform 63 = .ok (.iload_n 1, 1) := by decide +kernel
theorem dX7_perform_64 : decode cX7_perform 64 = .ok (.ishl, 1) := by decide +kernel
theorem dX7_perform_65 : decode cX7_perform 65 = .ok (.ior, 1) := by decide +kernel
theorem dX7_perform_66 : decode cX7_perform 66 = .ok (.putfield 174, 3) := by decide +kernel
theorem dX7_perform_69 : decode cX7_perform 69 = .ok (.aload_n 0, 1) := by decide +kernel
theorem dX7_perform_70 : decode cX7_perform 70 = .ok (.getfield 26, 3) := by decide +kernel
theorem dX7_perform_73 : decode cX7_perform 73 = .ok (.getfield 154, 3) := by decide +kernel
theorem dX7_perform_76 : decode cX7_perform 76 = .ok (.invokevirtual 158, 3) := by decide +kernel
theorem dX7_perform_79 : decode cX7_perform 79 = .ok (.ireturn, 1) := by decide +kernel
theorem dX7_board_0 : decode cX7_board 0 = .ok (.aload_n 0, 1) := by decide +kernel
theorem dX7_board_1 : decode cX7_board 1 = .ok (.getfield 26, 3) := by decide +kernel
theorem dX7_board_4 : decode cX7_board 4 = .ok (.getfield 141, 3) := by decide +kernel
theorem dX7_board_7 : decode cX7_board 7 = .ok (.ifCond .ne 6, 3) := by decide +kernel
theorem dX7_board_10 : decode cX7_board 10 = .ok (.ldc 137, 2) := by decide +kernel
theorem dX7_board_12 : decode cX7_board 12 = .ok (.ireturn, 1) := by decide +kernel
theorem dX7_board_13 : decode cX7_board 13 = .ok (.iload_n 1, 1) := by decide +kernel
theorem dX7_board_14 : decode cX7_board 14 = .ok (.invokestatic 177, 3) := by decide +kernel
theorem dX7_board_17 : decode cX7_board 17 = .ok (.ifCond .ne 6, 3) := by decide +kernel
theorem dX7_board_20 : decode cX7_board 20 = .ok (.ldc 66, 2) := by decide +kernel
theorem dX7_board_22 : decode cX7_board 22 = .ok (.ireturn, 1) := by decide +kernel
theorem dX7_board_23 : decode cX7_board 23 = .ok (.aload_n 0, 1) := by decide +kernel
theorem dX7_board_24 : decode cX7_board 24 = .ok (.getfield 26, 3) := by decide +kernel
theorem dX7_board_27 : decode cX7_board 27 = .ok (.getfield 154, 3) := by decide +kernel
theorem dX7_board_30 : decode cX7_board 30 = .ok (.getfield 180, 3) := by decide +kernel
theorem dX7_board_33 : decode cX7_board 33 = .ok (.iload_n 1, 1) := by decide +kernel
theorem dX7_board_34 : decode cX7_board 34 = .ok (.iaload, 1) := by decide +kernel
theorem dX7_board_35 : decode cX7_board 35 = .ok (.ifCond .ne 6, 3) := by decide +kernel
theorem dX7_board_38 : decode cX7_board 38 = .ok (.ldc 137, 2) := by decide +kernel
theorem dX7_board_40 : decode cX7_board 40 = .ok (.ireturn, 1) := by decide +kernel
theorem dX7_board_41 : decode cX7_board 41 = .ok (.aload_n 0, 1) := by decide +kernel
theorem dX7_board_42 : decode cX7_board 42 = .ok (.getfield 40, 3) := by decide +kernel
theorem dX7_board_45 : decode cX7_board 45 = .ok (.aload_n 0, 1) := by decide +kernel
theorem dX7_board_46 : decode cX7_board 46 = .ok (.getfield 26, 3) := by decide +kernel
theorem dX7_board_49 : decode cX7_board 49 = .ok (.invokevirtual 148, 3) := by decide +kernel
theorem dX7_board_52 : decode cX7_board 52 = .ok (.aload_n 0, 1) := by decide +kernel
theorem dX7_board_53 : decode cX7_board 53 = .ok (.getfield 26, 3) := by decide +kernel
theorem dX7_board_56 : decode cX7_board 56 = .ok (.getfield 154, 3) := by decide +kernel
theorem dX7_board_59 : decode cX7_board 59 = .ok (.iload_n 1, 1) := by decide +kernel
theorem dX7_board_60 : decode cX7_board 60 = .ok (.iconst (-1), 1) := by decide +kernel
theorem dX7_board_61 : decode cX7_board 61 = .ok (.invokevirtual 184, 3) := by decide +kernel
theorem dX7_board_64 : decode cX7_board 64 = .ok (.aload_n 0, 1) := by decide +kernel
theorem dX7_board_65 : decode cX7_board 65 = .ok (.getfield 26, 3) := by decide +kernel
theorem dX7_board_68 : decode cX7_board 68 = .ok (.getfield 154, 3) := by decide +kernel
theorem dX7_board_71 : decode cX7_board 71 = .ok (.getfield 180, 3) := by decide +kernel
theorem dX7_board_74 : decode cX7_board 74 = .ok (.iload_n 1, 1) := by decide +kernel
theorem dX7_board_75 : decode cX7_board 75 = .ok (.iaload, 1) := by decide +kernel
theorem dX7_board_76 : decode cX7_board 76 = .ok (.ireturn, 1) := by decide +kernel
theorem dX7_amount_0 : decode cX7_amount 0 = .ok (.aload_n 0, 1) := by decide +kernel
theorem dX7_amount_1 : decode cX7_amount 1 = .ok (.getfield 26, 3) := by decide +kernel
theorem dX7_amount_4 : decode cX7_amount 4 = .ok (.iload_n 1, 1) := by decide +kernel
theorem dX7_amount_5 : decode cX7_amount 5 = .ok (.invokevirtual 164, 3) := by decide +kernel
theorem dX7_amount_8 : decode cX7_amount 8 = .ok (.ifCond .eq 10, 3) := by decide +kernel
theorem dX7_amount_11 : decode cX7_amount 11 = .ok (.iload_n 2, 1) := by decide +kernel
theorem dX7_amount_12 : decode cX7_amount 12 = .ok (.invokestatic 188, 3) := by decide +kernel
theorem dX7_amount_15 : decode cX7_amount 15 = .ok (.ifCond .ne 6, 3) := by decide +kernel
theorem dX7_amount_18 : decode cX7_amount 18 = .ok (.ldc 66, 2) := by decide +kernel
theorem dX7_amount_20 : decode cX7_amount 20 = .ok (.ireturn, 1) := by decide +kernel
theorem dX7_amount_21 : decode cX7_amount 21 = .ok (.aload_n 0, 1) := by decide +kernel
theorem dX7_amount_22 : decode cX7_amount 22 = .ok (.getfield 26, 3) := by decide +kernel
theorem dX7_amount_25 : decode cX7_amount 25 = .ok (.iload_n 1, 1) := by decide +kernel
theorem dX7_amount_26 : decode cX7_amount 26 = .ok (.invokevirtual 167, 3) := by decide +kernel
theorem dX7_amount_29 : decode cX7_amount 29 = .ok (.ifCond .eq 6, 3) := by decide +kernel
theorem dX7_amount_32 : decode cX7_amount 32 = .ok (.ldc 137, 2) := by decide +kernel
theorem dX7_amount_34 : decode cX7_amount 34 = .ok (.ireturn, 1) := by decide +kernel
theorem dX7_amount_35 : decode cX7_amount 35 = .ok (.aload_n 0, 1) := by decide +kernel
theorem dX7_amount_36 : decode cX7_amount 36 = .ok (.getfield 40, 3) := by decide +kernel
theorem dX7_amount_39 : decode cX7_amount 39 = .ok (.aload_n 0, 1) := by decide +kernel
theorem dX7_amount_40 : decode cX7_amount 40 = .ok (.getfield 26, 3) := by decide +kernel
theorem dX7_amount_43 : decode cX7_amount 43 = .ok (.invokevirtual 148, 3) := by decide +kernel
theorem dX7_amount_46 : decode cX7_amount 46 = .ok (.aload_n 0, 1) := by decide +kernel
theorem dX7_amount_47 : decode cX7_amount 47 = .ok (.getfield 26, 3) := by decide +kernel
theorem dX7_amount_50 : decode cX7_amount 50 = .ok (.getfield 191, 3) := by decide +kernel
theorem dX7_amount_53 : decode cX7_amount 53 = .ok (.iload_n 1, 1) := by decide +kernel
theorem dX7_amount_54 : decode cX7_amount 54 = .ok (.iaload, 1) := by decide +kernel
theorem dX7_amount_55 : decode cX7_amount 55 = .ok (.istore_n 3, 1) := by decide +kernel
theorem dX7_amount_56 : decode cX7_amount 56 = .ok (.aload_n 0, 1) := by decide +kernel
theorem dX7_amount_57 : decode cX7_amount 57 = .ok (.getfield 26, 3) := by decide +kernel
theorem dX7_amount_60 : decode cX7_amount 60 = .ok (.getfield 191, 3) := by decide +kernel
theorem dX7_amount_63 : decode cX7_amount 63 = .ok (.iload_n 1, 1) := by decide +kernel
theorem dX7_amount_64 : decode cX7_amount 64 = .ok (.iload_n 2, 1) := by decide +kernel
theorem dX7_amount_65 : decode cX7_amount 65 = .ok (.iastore, 1) := by decide +kernel
theorem dX7_amount_66 : decode cX7_amount 66 = .ok (.iload_n 3, 1) := by decide +kernel
theorem dX7_amount_67 : decode cX7_amount 67 = .ok (.ireturn, 1) := by decide +kernel
theorem dX7_jack_0 : decode cX7_jack 0 = .ok (.aload_n 0, 1) := by decide +kernel
theorem dX7_jack_1 : decode cX7_jack 1 = .ok (.getfield 26, 3) := by decide +kernel
theorem dX7_jack_4 : decode cX7_jack 4 = .ok (.getfield 141, 3) := by decide +kernel
theorem dX7_jack_7 : decode cX7_jack 7 = .ok (.ifCond .ne 6, 3) := by decide +kernel
theorem dX7_jack_10 : decode cX7_jack 10 = .ok (.ldc 137, 2) := by decide +kernel
theorem dX7_jack_12 : decode cX7_jack 12 = .ok (.ireturn, 1) := by decide +kernel
theorem dX7_jack_13 : decode cX7_jack 13 = .ok (.iload_n 1, 1) := by decide +kernel
theorem dX7_jack_14 : decode cX7_jack 14 = .ok (.invokestatic 177, 3) := by decide +kernel
theorem dX7_jack_17 : decode cX7_jack 17 = .ok (.ifCond .eq 10, 3) := by decide +kernel
theorem dX7_jack_20 : decode cX7_jack 20 = .ok (.iload_n 2, 1) := by decide +kernel
theorem dX7_jack_21 : decode cX7_jack 21 = .ok (.invokestatic 188, 3) := by decide +kernel
theorem dX7_jack_24 : decode cX7_jack 24 = .ok (.ifCond .ne 6, 3) := by decide +kernel
theorem dX7_jack_27 : decode cX7_jack 27 = .ok (.ldc 66, 2) := by decide +kernel
theorem dX7_jack_29 : decode cX7_jack 29 = .ok (.ireturn, 1) := by decide +kernel
theorem dX7_jack_30 : decode cX7_jack 30 = .ok (.aload_n 0, 1) := by decide +kernel
theorem dX7_jack_31 : decode cX7_jack 31 = .ok (.getfield 40, 3) := by decide +kernel
theorem dX7_jack_34 : decode cX7_jack 34 = .ok (.aload_n 0, 1) := by decide +kernel
theorem dX7_jack_35 : decode cX7_jack 35 = .ok (.getfield 26, 3) := by decide +kernel
theorem dX7_jack_38 : decode cX7_jack 38 = .ok (.invokevirtual 148, 3) := by decide +kernel
theorem dX7_jack_41 : decode cX7_jack 41 = .ok (.aload_n 0, 1) := by decide +kernel
theorem dX7_jack_42 : decode cX7_jack 42 = .ok (.getfield 26, 3) := by decide +kernel
theorem dX7_jack_45 : decode cX7_jack 45 = .ok (.getfield 154, 3) := by decide +kernel
theorem dX7_jack_48 : decode cX7_jack 48 = .ok (.iload_n 1, 1) := by decide +kernel
theorem dX7_jack_49 : decode cX7_jack 49 = .ok (.iload_n 2, 1) := by decide +kernel
theorem dX7_jack_50 : decode cX7_jack 50 = .ok (.invokevirtual 194, 3) := by decide +kernel
theorem dX7_jack_53 : decode cX7_jack 53 = .ok (.aload_n 0, 1) := by decide +kernel
theorem dX7_jack_54 : decode cX7_jack 54 = .ok (.getfield 26, 3) := by decide +kernel
theorem dX7_jack_57 : decode cX7_jack 57 = .ok (.getfield 154, 3) := by decide +kernel
theorem dX7_jack_60 : decode cX7_jack 60 = .ok (.getfield 197, 3) := by decide +kernel
theorem dX7_jack_63 : decode cX7_jack 63 = .ok (.iload_n 1, 1) := by decide +kernel
theorem dX7_jack_64 : decode cX7_jack 64 = .ok (.iaload, 1) := by decide +kernel
theorem dX7_jack_65 : decode cX7_jack 65 = .ok (.ireturn, 1) := by decide +kernel
theorem dX7_foot_0 : decode cX7_foot 0 = .ok (.aload_n 0, 1) := by decide +kernel
theorem dX7_foot_1 : decode cX7_foot 1 = .ok (.getfield 26, 3) := by decide +kernel
theorem dX7_foot_4 : decode cX7_foot 4 = .ok (.getfield 141, 3) := by decide +kernel
theorem dX7_foot_7 : decode cX7_foot 7 = .ok (.ifCond .ne 6, 3) := by decide +kernel
theorem dX7_foot_10 : decode cX7_foot 10 = .ok (.ldc 137, 2) := by decide +kernel
theorem dX7_foot_12 : decode cX7_foot 12 = .ok (.ireturn, 1) := by decide +kernel
theorem dX7_foot_13 : decode cX7_foot 13 = .ok (.iload_n 1, 1) := by decide +kernel
theorem dX7_foot_14 : decode cX7_foot 14 = .ok (.invokestatic 177, 3) := by decide +kernel
theorem dX7_foot_17 : decode cX7_foot 17 = .ok (.ifCond .ne 6, 3) := by decide +kernel
theorem dX7_foot_20 : decode cX7_foot 20 = .ok (.ldc 66, 2) := by decide +kernel
theorem dX7_foot_22 : decode cX7_foot 22 = .ok (.ireturn, 1) := by decide +kernel
theorem dX7_foot_23 : decode cX7_foot 23 = .ok (.iload_n 2, 1) := by decide +kernel
theorem dX7_foot_24 : decode cX7_foot 24 = .ok (.lookupswitch 54 #[(0, 28), (1, 41)], 28) := by decide +kernel
theorem dX7_foot_52 : decode cX7_foot 52 = .ok (.aload_n 0, 1) := by decide +kernel
theorem dX7_foot_53 : decode cX7_foot 53 = .ok (.getfield 26, 3) := by decide +kernel
theorem dX7_foot_56 : decode cX7_foot 56 = .ok (.getfield 154, 3) := by decide +kernel
theorem dX7_foot_59 : decode cX7_foot 59 = .ok (.getfield 197, 3) := by decide +kernel
theorem dX7_foot_62 : decode cX7_foot 62 = .ok (.iload_n 1, 1) := by decide +kernel
theorem dX7_foot_63 : decode cX7_foot 63 = .ok (.iaload, 1) := by decide +kernel
theorem dX7_foot_64 : decode cX7_foot 64 = .ok (.ireturn, 1) := by decide +kernel
theorem dX7_foot_65 : decode cX7_foot 65 = .ok (.aload_n 0, 1) := by decide +kernel
theorem dX7_foot_66 : decode cX7_foot 66 = .ok (.getfield 26, 3) := by decide +kernel
theorem dX7_foot_69 : decode cX7_foot 69 = .ok (.getfield 154, 3) := by decide +kernel
theorem dX7_foot_72 : decode cX7_foot 72 = .ok (.getfield 180, 3) := by decide +kernel
theorem dX7_foot_75 : decode cX7_foot 75 = .ok (.iload_n 1, 1) := by decide +kernel
theorem dX7_foot_76 : decode cX7_foot 76 = .ok (.iaload, 1) := by decide +kernel
theorem dX7_foot_77 : decode cX7_foot 77 = .ok (.ireturn, 1) := by decide +kernel
theorem dX7_foot_78 : decode cX7_foot 78 = .ok (.ldc 66, 2) := by decide +kernel
theorem dX7_foot_80 : decode cX7_foot 80 = .ok (.ireturn, 1) := by decide +kernel
theorem dX7_deed_0 : decode cX7_deed 0 = .ok (.aload_n 0, 1) := by decide +kernel
theorem dX7_deed_1 : decode cX7_deed 1 = .ok (.getfield 26, 3) := by decide +kernel
theorem dX7_deed_4 : decode cX7_deed 4 = .ok (.iload_n 1, 1) := by decide +kernel
theorem dX7_deed_5 : decode cX7_deed 5 = .ok (.invokevirtual 164, 3) := by decide +kernel
theorem dX7_deed_8 : decode cX7_deed 8 = .ok (.ifCond .ne 6, 3) := by decide +kernel
theorem dX7_deed_11 : decode cX7_deed 11 = .ok (.ldc 66, 2) := by decide +kernel
theorem dX7_deed_13 : decode cX7_deed 13 = .ok (.ireturn, 1) := by decide +kernel
theorem dX7_deed_14 : decode cX7_deed 14 = .ok (.iload_n 2, 1) := by decide +kernel
theorem dX7_deed_15 : decode cX7_deed 15 = .ok (.tableswitch 62 0 2 #[25, 35, 45], 25) := by decide +kernel
theorem dX7_deed_40 : decode cX7_deed 40 = .ok (.aload_n 0, 1) := by decide +kernel
theorem dX7_deed_41 : decode cX7_deed 41 = .ok (.getfield 26, 3) := by decide +kernel
theorem dX7_deed_44 : decode cX7_deed 44 = .ok (.getfield 200, 3) := by decide +kernel
theorem dX7_deed_47 : decode cX7_deed 47 = .ok (.iload_n 1, 1) := by decide +kernel
theorem dX7_deed_48 : decode cX7_deed 48 = .ok (.iaload, 1) := by decide +kernel
theorem dX7_deed_49 : decode cX7_deed 49 = .ok (.ireturn, 1) := by decide +kernel
theorem dX7_deed_50 : decode cX7_deed 50 = .ok (.aload_n 0, 1) := by decide +kernel
theorem dX7_deed_51 : decode cX7_deed 51 = .ok (.getfield 26, 3) := by decide +kernel
theorem dX7_deed_54 : decode cX7_deed 54 = .ok (.getfield 191, 3) := by decide +kernel
theorem dX7_deed_57 : decode cX7_deed 57 = .ok (.iload_n 1, 1) := by decide +kernel
theorem dX7_deed_58 : decode cX7_deed 58 = .ok (.iaload, 1) := by decide +kernel
theorem dX7_deed_59 : decode cX7_deed 59 = .ok (.ireturn, 1) := by decide +kernel
theorem dX7_deed_60 : decode cX7_deed 60 = .ok (.aload_n 0, 1) := by decide +kernel
theorem dX7_deed_61 : decode cX7_deed 61 = .ok (.getfield 26, 3) := by decide +kernel
theorem dX7_deed_64 : decode cX7_deed 64 = .ok (.iload_n 1, 1) := by decide +kernel
theorem dX7_deed_65 : decode cX7_deed 65 = .ok (.invokevirtual 167, 3) := by decide +kernel
theorem dX7_deed_68 : decode cX7_deed 68 = .ok (.ifCond .eq 7, 3) := by decide +kernel
theorem dX7_deed_71 : decode cX7_deed 71 = .ok (.iconst 1, 1) := by decide +kernel
theorem dX7_deed_72 : decode cX7_deed 72 = .ok (.goto 4, 3) := by decide +kernel
theorem dX7_deed_75 : decode cX7_deed 75 = .ok (.iconst 0, 1) := by decide +kernel
theorem dX7_deed_76 : decode cX7_deed 76 = .ok (.ireturn, 1) := by decide +kernel
theorem dX7_deed_77 : decode cX7_deed 77 = .ok (.ldc 66, 2) := by decide +kernel
theorem dX7_deed_79 : decode cX7_deed 79 = .ok (.ireturn, 1) := by decide +kernel
theorem dX7_lean_0 : decode cX7_lean 0 = .ok (.aload_n 0, 1) := by decide +kernel
theorem dX7_lean_1 : decode cX7_lean 1 = .ok (.getfield 26, 3) := by decide +kernel
theorem dX7_lean_4 : decode cX7_lean 4 = .ok (.getfield 141, 3) := by decide +kernel
theorem dX7_lean_7 : decode cX7_lean 7 = .ok (.ifCond .ne 6, 3) := by decide +kernel
theorem dX7_lean_10 : decode cX7_lean 10 = .ok (.ldc 137, 2) := by decide +kernel
theorem dX7_lean_12 : decode cX7_lean 12 = .ok (.ireturn, 1) := by decide +kernel
theorem dX7_lean_13 : decode cX7_lean 13 = .ok (.iload_n 1, 1) := by decide +kernel
theorem dX7_lean_14 : decode cX7_lean 14 = .ok (.tableswitch 121 0 5 #[38, 53, 68, 79, 90, 113], 38) := by decide +kernel
theorem dX7_lean_52 : decode cX7_lean 52 = .ok (.aload_n 0, 1) := by decide +kernel
theorem dX7_lean_53 : decode cX7_lean 53 = .ok (.getfield 26, 3) := by decide +kernel
theorem dX7_lean_56 : decode cX7_lean 56 = .ok (.getfield 154, 3) := by decide +kernel
theorem dX7_lean_59 : decode cX7_lean 59 = .ok (.invokevirtual 203, 3) := by decide +kernel
theorem dX7_lean_62 : decode cX7_lean 62 = .ok (.sipush 1000, 3) := by decide +kernel
theorem dX7_lean_65 : decode cX7_lean 65 = .ok (.iadd, 1) := by decide +kernel
theorem dX7_lean_66 : decode cX7_lean 66 = .ok (.ireturn, 1) := by decide +kernel
theorem dX7_lean_67 : decode cX7_lean 67 = .ok (.aload_n 0, 1) := by decide +kernel
theorem dX7_lean_68 : decode cX7_lean 68 = .ok (.getfield 26, 3) := by decide +kernel
theorem dX7_lean_71 : decode cX7_lean 71 = .ok (.getfield 154, 3) := by decide +kernel
theorem dX7_lean_74 : decode cX7_lean 74 = .ok (.invokevirtual 206, 3) := by decide +kernel
theorem dX7_lean_77 : decode cX7_lean 77 = .ok (.sipush 1000, 3) := by decide +kernel
theorem dX7_lean_80 : decode cX7_lean 80 = .ok (.iadd, 1) := by decide +kernel
theorem dX7_lean_81 : decode cX7_lean 81 = .ok (.ireturn, 1) := by decide +kernel
theorem dX7_lean_82 : decode cX7_lean 82 = .ok (.aload_n 0, 1) := by decide +kernel
theorem dX7_lean_83 : decode cX7_lean 83 = .ok (.getfield 26, 3) := by decide +kernel
theorem dX7_lean_86 : decode cX7_lean 86 = .ok (.getfield 154, 3) := by decide +kernel
theorem dX7_lean_89 : decode cX7_lean 89 = .ok (.invokevirtual 209, 3) := by decide +kernel
theorem dX7_lean_92 : decode cX7_lean 92 = .ok (.ireturn, 1) := by decide +kernel
theorem dX7_lean_93 : decode cX7_lean 93 = .ok (.aload_n 0, 1) := by decide +kernel
theorem dX7_lean_94 : decode cX7_lean 94 = .ok (.getfield 26, 3) := by decide +kernel
theorem dX7_lean_97 : decode cX7_lean 97 = .ok (.getfield 154, 3) := by decide +kernel
theorem dX7_lean_100 : decode cX7_lean 100 = .ok (.invokevirtual 158, 3) := by decide +kernel
theorem dX7_lean_103 : decode cX7_lean 103 = .ok (.ireturn, 1) := by decide +kernel
theorem dX7_lean_104 : decode cX7_lean 104 = .ok (.aload_n 0, 1) := by decide +kernel
theorem dX7_lean_105 : decode cX7_lean 105 = .ok (.getfield 26, 3) := by decide +kernel
theorem dX7_lean_108 : decode cX7_lean 108 = .ok (.aload_n 0, 1) := by decide +kernel
theorem dX7_lean_109 : decode cX7_lean 109 = .ok (.getfield 26, 3) := by decide +kernel
theorem dX7_lean_112 : decode cX7_lean 112 = .ok (.getfield 154, 3) := by decide +kernel
theorem dX7_lean_115 : decode cX7_lean 115 = .ok (.invokevirtual 212, 3) := by decide +kernel
theorem dX7_lean_118 : decode cX7_lean 118 = .ok (.ifCond .eq 7, 3) := by decide +kernel
theorem dX7_lean_121 : decode cX7_lean 121 = .ok (.iconst 1, 1) := by decide +kernel
theorem dX7_lean_122 : decode cX7_lean 122 = .ok (.goto 4, 3) := by decide +kernel
theorem dX7_lean_125 : decode cX7_lean 125 = .ok (.iconst 0, 1) := by decide +kernel
theorem dX7_lean_126 : decode cX7_lean 126 = .ok (.ireturn, 1) := by decide +kernel
theorem dX7_lean_127 : decode cX7_lean 127 = .ok (.aload_n 0, 1) := by decide +kernel
theorem dX7_lean_128 : decode cX7_lean 128 = .ok (.getfield 26, 3) := by decide +kernel
theorem dX7_lean_131 : decode cX7_lean 131 = .ok (.getfield 174, 3) := by decide +kernel
theorem dX7_lean_134 : decode cX7_lean 134 = .ok (.ireturn, 1) := by decide +kernel
theorem dX7_lean_135 : decode cX7_lean 135 = .ok (.ldc 66, 2) := by decide +kernel
theorem dX7_lean_137 : decode cX7_lean 137 = .ok (.ireturn, 1) := by decide +kernel
theorem dX7_ahead_0 : decode cX7_ahead 0 = .ok (.aload_n 0, 1) := by decide +kernel
theorem dX7_ahead_1 : decode cX7_ahead 1 = .ok (.getfield 26, 3) := by decide +kernel
theorem dX7_ahead_4 : decode cX7_ahead 4 = .ok (.getfield 141, 3) := by decide +kernel
theorem dX7_ahead_7 : decode cX7_ahead 7 = .ok (.ifCond .ne 6, 3) := by decide +kernel
theorem dX7_ahead_10 : decode cX7_ahead 10 = .ok (.ldc 137, 2) := by decide +kernel
theorem dX7_ahead_12 : decode cX7_ahead 12 = .ok (.ireturn, 1) := by decide +kernel
theorem dX7_ahead_13 : decode cX7_ahead 13 = .ok (.iload_n 1, 1) := by decide +kernel
theorem dX7_ahead_14 : decode cX7_ahead 14 = .ok (.invokestatic 177, 3) := by decide +kernel
theorem dX7_ahead_17 : decode cX7_ahead 17 = .ok (.ifCond .eq 13, 3) := by decide +kernel
theorem dX7_ahead_20 : decode cX7_ahead 20 = .ok (.iload_n 2, 1) := by decide +kernel
theorem dX7_ahead_21 : decode cX7_ahead 21 = .ok (.iconst 0, 1) := by decide +kernel
theorem dX7_ahead_22 : decode cX7_ahead 22 = .ok (.bipush 60, 2) := by decide +kernel
theorem dX7_ahead_24 : decode cX7_ahead 24 = .ok (.invokestatic 62, 3) := by decide +kernel
theorem dX7_ahead_27 : decode cX7_ahead 27 = .ok (.ifCond .ne 6, 3) := by decide +kernel
theorem dX7_ahead_30 : decode cX7_ahead 30 = .ok (.ldc 66, 2) := by decide +kernel
theorem dX7_ahead_32 : decode cX7_ahead 32 = .ok (.ireturn, 1) := by decide +kernel
theorem dX7_ahead_33 : decode cX7_ahead 33 = .ok (.aload_n 0, 1) := by decide +kernel
theorem dX7_ahead_34 : decode cX7_ahead 34 = .ok (.getfield 47, 3) := by decide +kernel
theorem dX7_ahead_37 : decode cX7_ahead 37 = .ok (.aload_n 0, 1) := by decide +kernel
theorem dX7_ahead_38 : decode cX7_ahead 38 = .ok (.getfield 26, 3) := by decide +kernel
theorem dX7_ahead_41 : decode cX7_ahead 41 = .ok (.aload_n 0, 1) := by decide +kernel
theorem dX7_ahead_42 : decode cX7_ahead 42 = .ok (.getfield 26, 3) := by decide +kernel
theorem dX7_ahead_45 : decode cX7_ahead 45 = .ok (.getfield 154, 3) := by decide +kernel
theorem dX7_ahead_48 : decode cX7_ahead 48 = .ok (.iload_n 2, 1) := by decide +kernel
theorem dX7_ahead_49 : decode cX7_ahead 49 = .ok (.invokevirtual 216, 3) := by decide +kernel
theorem dX7_ahead_52 : decode cX7_ahead 52 = .ok (.getfield 197, 3) := by decide +kernel
theorem dX7_ahead_55 : decode cX7_ahead 55 = .ok (.iload_n 1, 1) := by decide +kernel
theorem dX7_ahead_56 : decode cX7_ahead 56 = .ok (.iaload, 1) := by decide +kernel
theorem dX7_ahead_57 : decode cX7_ahead 57 = .ok (.ireturn, 1) := by decide +kernel
theorem dX7_leanAhead_0 : decode cX7_leanAhead 0 = .ok (.aload_n 0, 1) := by decide +kernel
theorem dX7_leanAhead_1 : decode cX7_leanAhead 1 = .ok (.getfield 26, 3) := by decide +kernel
theorem dX7_leanAhead_4 : decode cX7_leanAhead 4 = .ok (.getfield 141, 3) := by decide +kernel
theorem dX7_leanAhead_7 : decode cX7_leanAhead 7 = .ok (.ifCond .ne 6, 3) := by decide +kernel
theorem dX7_leanAhead_10 : decode cX7_leanAhead 10 = .ok (.ldc 137, 2) := by decide +kernel
theorem dX7_leanAhead_12 : decode cX7_leanAhead 12 = .ok (.ireturn, 1) := by decide +kernel
theorem dX7_leanAhead_13 : decode cX7_leanAhead 13 = .ok (.iload_n 1, 1) := by decide +kernel
theorem dX7_leanAhead_14 : decode cX7_leanAhead 14 = .ok (.iconst 0, 1) := by decide +kernel
theorem dX7_leanAhead_15 : decode cX7_leanAhead 15 = .ok (.bipush 60, 2) := by decide +kernel
theorem dX7_leanAhead_17 : decode cX7_leanAhead 17 = .ok (.invokestatic 62, 3) := by decide +kernel
theorem dX7_leanAhead_20 : decode cX7_leanAhead 20 = .ok (.ifCond .eq 12, 3) := by decide +kernel
theorem dX7_leanAhead_23 : decode cX7_leanAhead 23 = .ok (.iload_n 2, 1) := by decide +kernel
theorem dX7_leanAhead_24 : decode cX7_leanAhead 24 = .ok (.iconst 0, 1) := by decide +kernel
theorem dX7_leanAhead_25 : decode cX7_leanAhead 25 = .ok (.iconst 1, 1) := by decide +kernel
theorem dX7_leanAhead_26 : decode cX7_leanAhead 26 = .ok (.invokestatic 62, 3) := by decide +kernel
theorem dX7_leanAhead_29 : decode cX7_leanAhead 29 = .ok (.ifCond .ne 6, 3) := by decide +kernel
theorem dX7_leanAhead_32 : decode cX7_leanAhead 32 = .ok (.ldc 66, 2) := by decide +kernel
theorem dX7_leanAhead_34 : decode cX7_leanAhead 34 = .ok (.ireturn, 1) := by decide +kernel
theorem dX7_leanAhead_35 : decode cX7_leanAhead 35 = .ok (.aload_n 0, 1) := by decide +kernel
theorem dX7_leanAhead_36 : decode cX7_leanAhead 36 = .ok (.getfield 47, 3) := by decide +kernel
theorem dX7_leanAhead_39 : decode cX7_leanAhead 39 = .ok (.aload_n 0, 1) := by decide +kernel
theorem dX7_leanAhead_40 : decode cX7_leanAhead 40 = .ok (.getfield 26, 3) := by decide +kernel
theorem dX7_leanAhead_43 : decode cX7_leanAhead 43 = .ok (.aload_n 0, 1) := by decide +kernel
theorem dX7_leanAhead_44 : decode cX7_leanAhead 44 = .ok (.getfield 26, 3) := by decide +kernel
theorem dX7_leanAhead_47 : decode cX7_leanAhead 47 = .ok (.getfield 154, 3) := by decide +kernel
theorem dX7_leanAhead_50 : decode cX7_leanAhead 50 = .ok (.iload_n 1, 1) := by decide +kernel
theorem dX7_leanAhead_51 : decode cX7_leanAhead 51 = .ok (.invokevirtual 216, 3) := by decide +kernel
theorem dX7_leanAhead_54 : decode cX7_leanAhead 54 = .ok (.iload_n 2, 1) := by decide +kernel
theorem dX7_leanAhead_55 : decode cX7_leanAhead 55 = .ok (.invokevirtual 220, 3) := by decide +kernel
theorem dX7_leanAhead_58 : decode cX7_leanAhead 58 = .ok (.sipush 1000, 3) := by decide +kernel
theorem dX7_leanAhead_61 : decode cX7_leanAhead 61 = .ok (.iadd, 1) := by decide +kernel
theorem dX7_leanAhead_62 : decode cX7_leanAhead 62 = .ok (.ireturn, 1) := by decide +kernel
theorem dX7_lasts_0 : decode cX7_lasts 0 = .ok (.aload_n 0, 1) := by decide +kernel
theorem dX7_lasts_1 : decode cX7_lasts 1 = .ok (.getfield 26, 3) := by decide +kernel
theorem dX7_lasts_4 : decode cX7_lasts 4 = .ok (.getfield 141, 3) := by decide +kernel
theorem dX7_lasts_7 : decode cX7_lasts 7 = .ok (.ifCond .ne 6, 3) := by decide +kernel
theorem dX7_lasts_10 : decode cX7_lasts 10 = .ok (.ldc 137, 2) := by decide +kernel
theorem dX7_lasts_12 : decode cX7_lasts 12 = .ok (.ireturn, 1) := by decide +kernel
theorem dX7_lasts_13 : decode cX7_lasts 13 = .ok (.aload_n 0, 1) := by decide +kernel
theorem dX7_lasts_14 : decode cX7_lasts 14 = .ok (.getfield 47, 3) := by decide +kernel
theorem dX7_lasts_17 : decode cX7_lasts 17 = .ok (.aload_n 0, 1) := by decide +kernel
theorem dX7_lasts_18 : decode cX7_lasts 18 = .ok (.getfield 26, 3) := by decide +kernel
theorem dX7_lasts_21 : decode cX7_lasts 21 = .ok (.iconst 0, 1) := by decide +kernel
theorem dX7_lasts_22 : decode cX7_lasts 22 = .ok (.invokevirtual 223, 3) := by decide +kernel
theorem dX7_lasts_25 : decode cX7_lasts 25 = .ok (.ireturn, 1) := by decide +kernel
theorem dX7_first_0 : decode cX7_first 0 = .ok (.aload_n 0, 1) := by decide +kernel
theorem dX7_first_1 : decode cX7_first 1 = .ok (.getfield 26, 3) := by decide +kernel
theorem dX7_first_4 : decode cX7_first 4 = .ok (.getfield 141, 3) := by decide +kernel
theorem dX7_first_7 : decode cX7_first 7 = .ok (.ifCond .ne 6, 3) := by decide +kernel
theorem dX7_first_10 : decode cX7_first 10 = .ok (.ldc 137, 2) := by decide +kernel
theorem dX7_first_12 : decode cX7_first 12 = .ok (.ireturn, 1) := by decide +kernel
theorem dX7_first_13 : decode cX7_first 13 = .ok (.aload_n 0, 1) := by decide +kernel
theorem dX7_first_14 : decode cX7_first 14 = .ok (.getfield 47, 3) := by decide +kernel
theorem dX7_first_17 : decode cX7_first 17 = .ok (.aload_n 0, 1) := by decide +kernel
theorem dX7_first_18 : decode cX7_first 18 = .ok (.getfield 26, 3) := by decide +kernel
theorem dX7_first_21 : decode cX7_first 21 = .ok (.iconst 1, 1) := by decide +kernel
theorem dX7_first_22 : decode cX7_first 22 = .ok (.invokevirtual 223, 3) := by decide +kernel
theorem dX7_first_25 : decode cX7_first 25 = .ok (.istore_n 1, 1) := by decide +kernel
theorem dX7_first_26 : decode cX7_first 26 = .ok (.iload_n 1, 1) := by decide +kernel
theorem dX7_first_27 : decode cX7_first 27 = .ok (.bipush 60, 2) := by decide +kernel
theorem dX7_first_29 : decode cX7_first 29 = .ok (.if_icmp .le 8, 3) := by decide +kernel
theorem dX7_first_32 : decode cX7_first 32 = .ok (.ldc 227, 2) := by decide +kernel
theorem dX7_first_34 : decode cX7_first 34 = .ok (.goto 4, 3) := by decide +kernel
theorem dX7_first_37 : decode cX7_first 37 = .ok (.iload_n 1, 1) := by decide +kernel
theorem dX7_first_38 : decode cX7_first 38 = .ok (.ireturn, 1) := by decide +kernel
theorem dX7_attempt_0 : decode cX7_attempt 0 = .ok (.aload_n 0, 1) := by decide +kernel
theorem dX7_attempt_1 : decode cX7_attempt 1 = .ok (.getfield 26, 3) := by decide +kernel
theorem dX7_attempt_4 : decode cX7_attempt 4 = .ok (.iload_n 1, 1) := by decide +kernel
theorem dX7_attempt_5 : decode cX7_attempt 5 = .ok (.invokevirtual 164, 3) := by decide +kernel
theorem dX7_attempt_8 : decode cX7_attempt 8 = .ok (.ifCond .ne 6, 3) := by decide +kernel
theorem dX7_attempt_11 : decode cX7_attempt 11 = .ok (.ldc 66, 2) := by decide +kernel
theorem dX7_attempt_13 : decode cX7_attempt 13 = .ok (.ireturn, 1) := by decide +kernel
theorem dX7_attempt_14 : decode cX7_attempt 14 = .ok (.aload_n 0, 1) := by decide +kernel
theorem dX7_attempt_15 : decode cX7_attempt 15 = .ok (.getfield 26, 3) := by decide +kernel
theorem dX7_attempt_18 : decode cX7_attempt 18 = .ok (.iload_n 1, 1) := by decide +kernel
theorem dX7_attempt_19 : decode cX7_attempt 19 = .ok (.invokevirtual 167, 3) := by decide +kernel
theorem dX7_attempt_22 : decode cX7_attempt 22 = .ok (.ifCond .eq 6, 3) := by decide +kernel
theorem dX7_attempt_25 : decode cX7_attempt 25 = .ok (.ldc 137, 2) := by decide +kernel
theorem dX7_attempt_27 : decode cX7_attempt 27 = .ok (.ireturn, 1) := by decide +kernel
theorem dX7_attempt_28 : decode cX7_attempt 28 = .ok (.aload_n 0, 1) := by decide +kernel
theorem dX7_attempt_29 : decode cX7_attempt 29 = .ok (.getfield 47, 3) := by decide +kernel
theorem dX7_attempt_32 : decode cX7_attempt 32 = .ok (.aload_n 0, 1) := by decide +kernel
theorem dX7_attempt_33 : decode cX7_attempt 33 = .ok (.getfield 26, 3) := by decide +kernel
theorem dX7_attempt_36 : decode cX7_attempt 36 = .ok (.iload_n 1, 1) := by decide +kernel
theorem dX7_attempt_37 : decode cX7_attempt 37 = .ok (.invokevirtual 228, 3) := by decide +kernel
theorem dX7_attempt_40 : decode cX7_attempt 40 = .ok (.ireturn, 1) := by decide +kernel
theorem dX7_best_0 : decode cX7_best 0 = .ok (.aload_n 0, 1) := by decide +kernel
theorem dX7_best_1 : decode cX7_best 1 = .ok (.getfield 26, 3) := by decide +kernel
theorem dX7_best_4 : decode cX7_best 4 = .ok (.getfield 141, 3) := by decide +kernel
theorem dX7_best_7 : decode cX7_best 7 = .ok (.ifCond .ne 6, 3) := by decide +kernel
theorem dX7_best_10 : decode cX7_best 10 = .ok (.ldc 137, 2) := by decide +kernel
theorem dX7_best_12 : decode cX7_best 12 = .ok (.ireturn, 1) := by decide +kernel
theorem dX7_best_13 : decode cX7_best 13 = .ok (.iload_n 1, 1) := by decide +kernel
theorem dX7_best_14 : decode cX7_best 14 = .ok (.iconst 0, 1) := by decide +kernel
theorem dX7_best_15 : decode cX7_best 15 = .ok (.iconst 1, 1) := by decide +kernel
theorem dX7_best_16 : decode cX7_best 16 = .ok (.invokestatic 62, 3) := by decide +kernel
theorem dX7_best_19 : decode cX7_best 19 = .ok (.ifCond .ne 6, 3) := by decide +kernel
theorem dX7_best_22 : decode cX7_best 22 = .ok (.ldc 66, 2) := by decide +kernel
theorem dX7_best_24 : decode cX7_best 24 = .ok (.ireturn, 1) := by decide +kernel
theorem dX7_best_25 : decode cX7_best 25 = .ok (.aload_n 0, 1) := by decide +kernel
theorem dX7_best_26 : decode cX7_best 26 = .ok (.getfield 47, 3) := by decide +kernel
theorem dX7_best_29 : decode cX7_best 29 = .ok (.aload_n 0, 1) := by decide +kernel
theorem dX7_best_30 : decode cX7_best 30 = .ok (.getfield 26, 3) := by decide +kernel
theorem dX7_best_33 : decode cX7_best 33 = .ok (.invokevirtual 232, 3) := by decide +kernel
theorem dX7_best_36 : decode cX7_best 36 = .ok (.istore_n 2, 1) := by decide +kernel
theorem dX7_best_37 : decode cX7_best 37 = .ok (.iload_n 2, 1) := by decide +kernel
theorem dX7_best_38 : decode cX7_best 38 = .ok (.ldc 227, 2) := by decide +kernel
theorem dX7_best_40 : decode cX7_best 40 = .ok (.if_icmp .eq 7, 3) := by decide +kernel
theorem dX7_best_43 : decode cX7_best 43 = .ok (.iload_n 1, 1) := by decide +kernel
theorem dX7_best_44 : decode cX7_best 44 = .ok (.ifCond .ne 7, 3) := by decide +kernel
theorem dX7_best_47 : decode cX7_best 47 = .ok (.iload_n 2, 1) := by decide +kernel
theorem dX7_best_48 : decode cX7_best 48 = .ok (.goto 15, 3) := by decide +kernel
theorem dX7_best_51 : decode cX7_best 51 = .ok (.aload_n 0, 1) := by decide +kernel
theorem dX7_best_52 : decode cX7_best 52 = .ok (.getfield 47, 3) := by decide +kernel
theorem dX7_best_55 : decode cX7_best 55 = .ok (.aload_n 0, 1) := by decide +kernel
theorem dX7_best_56 : decode cX7_best 56 = .ok (.getfield 26, 3) := by decide +kernel
theorem dX7_best_59 : decode cX7_best 59 = .ok (.iload_n 2, 1) := by decide +kernel
theorem dX7_best_60 : decode cX7_best 60 = .ok (.invokevirtual 228, 3) := by decide +kernel
theorem dX7_best_63 : decode cX7_best 63 = .ok (.ireturn, 1) := by decide +kernel
theorem dX7_plan_0 : decode cX7_plan 0 = .ok (.aload_n 0, 1) := by decide +kernel
theorem dX7_plan_1 : decode cX7_plan 1 = .ok (.getfield 26, 3) := by decide +kernel
theorem dX7_plan_4 : decode cX7_plan 4 = .ok (.getfield 141, 3) := by decide +kernel
theorem dX7_plan_7 : decode cX7_plan 7 = .ok (.ifCond .ne 6, 3) := by decide +kernel
theorem dX7_plan_10 : decode cX7_plan 10 = .ok (.ldc 137, 2) := by decide +kernel
theorem dX7_plan_12 : decode cX7_plan 12 = .ok (.ireturn, 1) := by decide +kernel
theorem dX7_plan_13 : decode cX7_plan 13 = .ok (.iload_n 1, 1) := by decide +kernel
theorem dX7_plan_14 : decode cX7_plan 14 = .ok (.iconst 0, 1) := by decide +kernel
theorem dX7_plan_15 : decode cX7_plan 15 = .ok (.bipush 24, 2) := by decide +kernel
theorem dX7_plan_17 : decode cX7_plan 17 = .ok (.invokestatic 62, 3) := by decide +kernel
theorem dX7_plan_20 : decode cX7_plan 20 = .ok (.ifCond .eq 8, 3) := by decide +kernel
theorem dX7_plan_23 : decode cX7_plan 23 = .ok (.iload_n 2, 1) := by decide +kernel
theorem dX7_plan_24 : decode cX7_plan 24 = .ok (.iconst (-1), 1) := by decide +kernel
theorem dX7_plan_25 : decode cX7_plan 25 = .ok (.if_icmp .ge 6, 3) := by decide +kernel
theorem dX7_plan_28 : decode cX7_plan 28 = .ok (.ldc 66, 2) := by decide +kernel
theorem dX7_plan_30 : decode cX7_plan 30 = .ok (.ireturn, 1) := by decide +kernel
theorem dX7_plan_31 : decode cX7_plan 31 = .ok (.aload_n 0, 1) := by decide +kernel
theorem dX7_plan_32 : decode cX7_plan 32 = .ok (.getfield 47, 3) := by decide +kernel
theorem dX7_plan_35 : decode cX7_plan 35 = .ok (.aload_n 0, 1) := by decide +kernel
theorem dX7_plan_36 : decode cX7_plan 36 = .ok (.getfield 26, 3) := by decide +kernel
theorem dX7_plan_39 : decode cX7_plan 39 = .ok (.iload_n 1, 1) := by decide +kernel
theorem dX7_plan_40 : decode cX7_plan 40 = .ok (.invokevirtual 236, 3) := by decide +kernel
theorem dX7_plan_43 : decode cX7_plan 43 = .ok (.istore_n 3, 1) := by decide +kernel
theorem dX7_plan_44 : decode cX7_plan 44 = .ok (.iload_n 3, 1) := by decide +kernel
theorem dX7_plan_45 : decode cX7_plan 45 = .ok (.ldc 227, 2) := by decide +kernel
theorem dX7_plan_47 : decode cX7_plan 47 = .ok (.if_icmp .eq 8, 3) := by decide +kernel
theorem dX7_plan_50 : decode cX7_plan 50 = .ok (.iload_n 2, 1) := by decide +kernel
theorem dX7_plan_51 : decode cX7_plan 51 = .ok (.iconst (-1), 1) := by decide +kernel
theorem dX7_plan_52 : decode cX7_plan 52 = .ok (.if_icmp .ne 5, 3) := by decide +kernel
theorem dX7_plan_55 : decode cX7_plan 55 = .ok (.iload_n 3, 1) := by decide +kernel
theorem dX7_plan_56 : decode cX7_plan 56 = .ok (.ireturn, 1) := by decide +kernel
theorem dX7_plan_57 : decode cX7_plan 57 = .ok (.iload_n 2, 1) := by decide +kernel
theorem dX7_plan_58 : decode cX7_plan 58 = .ok (.iload_n 3, 1) := by decide +kernel
theorem dX7_plan_59 : decode cX7_plan 59 = .ok (.if_icmp .ge 15, 3) := by decide +kernel
theorem dX7_plan_62 : decode cX7_plan 62 = .ok (.aload_n 0, 1) := by decide +kernel
theorem dX7_plan_63 : decode cX7_plan 63 = .ok (.getfield 47, 3) := by decide +kernel
theorem dX7_plan_66 : decode cX7_plan 66 = .ok (.getfield 239, 3) := by decide +kernel
theorem dX7_plan_69 : decode cX7_plan 69 = .ok (.iload_n 2, 1) := by decide +kernel
theorem dX7_plan_70 : decode cX7_plan 70 = .ok (.iaload, 1) := by decide +kernel
theorem dX7_plan_71 : decode cX7_plan 71 = .ok (.goto 5, 3) := by decide +kernel
theorem dX7_plan_74 : decode cX7_plan 74 = .ok (.ldc 227, 2) := by decide +kernel
theorem dX7_plan_76 : decode cX7_plan 76 = .ok (.ireturn, 1) := by decide +kernel
theorem dX7_boards_0 : decode cX7_boards 0 = .ok (.aload_n 0, 1) := by decide +kernel
theorem dX7_boards_1 : decode cX7_boards 1 = .ok (.getfield 26, 3) := by decide +kernel
theorem dX7_boards_4 : decode cX7_boards 4 = .ok (.getfield 141, 3) := by decide +kernel
theorem dX7_boards_7 : decode cX7_boards 7 = .ok (.ifCond .ne 6, 3) := by decide +kernel
theorem dX7_boards_10 : decode cX7_boards 10 = .ok (.ldc 137, 2) := by decide +kernel
theorem dX7_boards_12 : decode cX7_boards 12 = .ok (.ireturn, 1) := by decide +kernel
theorem dX7_boards_13 : decode cX7_boards 13 = .ok (.iload_n 1, 1) := by decide +kernel
theorem dX7_boards_14 : decode cX7_boards 14 = .ok (.iconst 1, 1) := by decide +kernel
theorem dX7_boards_15 : decode cX7_boards 15 = .ok (.bipush 24, 2) := by decide +kernel
theorem dX7_boards_17 : decode cX7_boards 17 = .ok (.invokestatic 62, 3) := by decide +kernel
theorem dX7_boards_20 : decode cX7_boards 20 = .ok (.ifCond .eq 13, 3) := by decide +kernel
theorem dX7_boards_23 : decode cX7_boards 23 = .ok (.iload_n 2, 1) := by decide +kernel
theorem dX7_boards_24 : decode cX7_boards 24 = .ok (.iconst (-1), 1) := by decide +kernel
theorem dX7_boards_25 : decode cX7_boards 25 = .ok (.if_icmp .lt 8, 3) := by decide +kernel
theorem dX7_boards_28 : decode cX7_boards 28 = .ok (.iload_n 2, 1) := by decide +kernel
theorem dX7_boards_29 : decode cX7_boards 29 = .ok (.iconst 3, 1) := by decide +kernel
theorem dX7_boards_30 : decode cX7_boards 30 = .ok (.if_icmp .lt 6, 3) := by decide +kernel
theorem dX7_boards_33 : decode cX7_boards 33 = .ok (.ldc 66, 2) := by decide +kernel
theorem dX7_boards_35 : decode cX7_boards 35 = .ok (.ireturn, 1) := by decide +kernel
theorem dX7_boards_36 : decode cX7_boards 36 = .ok (.aload_n 0, 1) := by decide +kernel
theorem dX7_boards_37 : decode cX7_boards 37 = .ok (.getfield 47, 3) := by decide +kernel
theorem dX7_boards_40 : decode cX7_boards 40 = .ok (.aload_n 0, 1) := by decide +kernel
theorem dX7_boards_41 : decode cX7_boards 41 = .ok (.getfield 26, 3) := by decide +kernel
theorem dX7_boards_44 : decode cX7_boards 44 = .ok (.iload_n 1, 1) := by decide +kernel
theorem dX7_boards_45 : decode cX7_boards 45 = .ok (.invokevirtual 242, 3) := by decide +kernel
theorem dX7_boards_48 : decode cX7_boards 48 = .ok (.istore_n 3, 1) := by decide +kernel
theorem dX7_boards_49 : decode cX7_boards 49 = .ok (.iload_n 3, 1) := by decide +kernel
theorem dX7_boards_50 : decode cX7_boards 50 = .ok (.ldc 227, 2) := by decide +kernel
theorem dX7_boards_52 : decode cX7_boards 52 = .ok (.if_icmp .eq 8, 3) := by decide +kernel
theorem dX7_boards_55 : decode cX7_boards 55 = .ok (.iload_n 2, 1) := by decide +kernel
theorem dX7_boards_56 : decode cX7_boards 56 = .ok (.iconst (-1), 1) := by decide +kernel
theorem dX7_boards_57 : decode cX7_boards 57 = .ok (.if_icmp .ne 7, 3) := by decide +kernel
theorem dX7_boards_60 : decode cX7_boards 60 = .ok (.iload_n 3, 1) := by decide +kernel
theorem dX7_boards_61 : decode cX7_boards 61 = .ok (.goto 12, 3) := by decide +kernel
theorem dX7_boards_64 : decode cX7_boards 64 = .ok (.aload_n 0, 1) := by decide +kernel
theorem dX7_boards_65 : decode cX7_boards 65 = .ok (.getfield 47, 3) := by decide +kernel
theorem dX7_boards_68 : decode cX7_boards 68 = .ok (.getfield 245, 3) := by decide +kernel
theorem dX7_boards_71 : decode cX7_boards 71 = .ok (.iload_n 2, 1) := by decide +kernel
theorem dX7_boards_72 : decode cX7_boards 72 = .ok (.iaload, 1) := by decide +kernel
theorem dX7_boards_73 : decode cX7_boards 73 = .ok (.ireturn, 1) := by decide +kernel
theorem dX7_lift_0 : decode cX7_lift 0 = .ok (.aload_n 0, 1) := by decide +kernel
theorem dX7_lift_1 : decode cX7_lift 1 = .ok (.getfield 26, 3) := by decide +kernel
theorem dX7_lift_4 : decode cX7_lift 4 = .ok (.getfield 141, 3) := by decide +kernel
theorem dX7_lift_7 : decode cX7_lift 7 = .ok (.ifCond .ne 6, 3) := by decide +kernel
theorem dX7_lift_10 : decode cX7_lift 10 = .ok (.ldc 137, 2) := by decide +kernel
theorem dX7_lift_12 : decode cX7_lift 12 = .ok (.ireturn, 1) := by decide +kernel
theorem dX7_lift_13 : decode cX7_lift 13 = .ok (.iload_n 1, 1) := by decide +kernel
theorem dX7_lift_14 : decode cX7_lift 14 = .ok (.iconst (-1), 1) := by decide +kernel
theorem dX7_lift_15 : decode cX7_lift 15 = .ok (.if_icmp .lt 8, 3) := by decide +kernel
theorem dX7_lift_18 : decode cX7_lift 18 = .ok (.iload_n 1, 1) := by decide +kernel
theorem dX7_lift_19 : decode cX7_lift 19 = .ok (.iconst 3, 1) := by decide +kernel
theorem dX7_lift_20 : decode cX7_lift 20 = .ok (.if_icmp .lt 6, 3) := by decide +kernel
theorem dX7_lift_23 : decode cX7_lift 23 = .ok (.ldc 66, 2) := by decide +kernel
theorem dX7_lift_25 : decode cX7_lift 25 = .ok (.ireturn, 1) := by decide +kernel
theorem dX7_lift_26 : decode cX7_lift 26 = .ok (.aload_n 0, 1) := by decide +kernel
theorem dX7_lift_27 : decode cX7_lift 27 = .ok (.getfield 47, 3) := by decide +kernel
theorem dX7_lift_30 : decode cX7_lift 30 = .ok (.aload_n 0, 1) := by decide +kernel
theorem dX7_lift_31 : decode cX7_lift 31 = .ok (.getfield 26, 3) := by decide +kernel
theorem dX7_lift_34 : decode cX7_lift 34 = .ok (.invokevirtual 248, 3) := by decide +kernel
theorem dX7_lift_37 : decode cX7_lift 37 = .ok (.istore_n 2, 1) := by decide +kernel
theorem dX7_lift_38 : decode cX7_lift 38 = .ok (.iload_n 2, 1) := by decide +kernel
theorem dX7_lift_39 : decode cX7_lift 39 = .ok (.ldc 227, 2) := by decide +kernel
theorem dX7_lift_41 : decode cX7_lift 41 = .ok (.if_icmp .eq 8, 3) := by decide +kernel
theorem dX7_lift_44 : decode cX7_lift 44 = .ok (.iload_n 1, 1) := by decide +kernel
theorem dX7_lift_45 : decode cX7_lift 45 = .ok (.iconst (-1), 1) := by decide +kernel
theorem dX7_lift_46 : decode cX7_lift 46 = .ok (.if_icmp .ne 7, 3) := by decide +kernel
theorem dX7_lift_49 : decode cX7_lift 49 = .ok (.iload_n 2, 1) := by decide +kernel
theorem dX7_lift_50 : decode cX7_lift 50 = .ok (.goto 12, 3) := by decide +kernel
theorem dX7_lift_53 : decode cX7_lift 53 = .ok (.aload_n 0, 1) := by decide +kernel
theorem dX7_lift_54 : decode cX7_lift 54 = .ok (.getfield 47, 3) := by decide +kernel
theorem dX7_lift_57 : decode cX7_lift 57 = .ok (.getfield 245, 3) := by decide +kernel
theorem dX7_lift_60 : decode cX7_lift 60 = .ok (.iload_n 1, 1) := by decide +kernel
theorem dX7_lift_61 : decode cX7_lift 61 = .ok (.iaload, 1) := by decide +kernel
theorem dX7_lift_62 : decode cX7_lift 62 = .ok (.ireturn, 1) := by decide +kernel
theorem dX7_worst_0 : decode cX7_worst 0 = .ok (.aload_n 0, 1) := by decide +kernel
theorem dX7_worst_1 : decode cX7_worst 1 = .ok (.getfield 26, 3) := by decide +kernel
theorem dX7_worst_4 : decode cX7_worst 4 = .ok (.getfield 141, 3) := by decide +kernel
theorem dX7_worst_7 : decode cX7_worst 7 = .ok (.ifCond .ne 6, 3) := by decide +kernel
theorem dX7_worst_10 : decode cX7_worst 10 = .ok (.ldc 137, 2) := by decide +kernel
theorem dX7_worst_12 : decode cX7_worst 12 = .ok (.ireturn, 1) := by decide +kernel
theorem dX7_worst_13 : decode cX7_worst 13 = .ok (.iload_n 1, 1) := by decide +kernel
theorem dX7_worst_14 : decode cX7_worst 14 = .ok (.iconst 0, 1) := by decide +kernel
theorem dX7_worst_15 : decode cX7_worst 15 = .ok (.bipush 60, 2) := by decide +kernel
theorem dX7_worst_17 : decode cX7_worst 17 = .ok (.invokestatic 62, 3) := by decide +kernel
theorem dX7_worst_20 : decode cX7_worst 20 = .ok (.ifCond .eq 12, 3) := by decide +kernel
theorem dX7_worst_23 : decode cX7_worst 23 = .ok (.iload_n 2, 1) := by decide +kernel
theorem dX7_worst_24 : decode cX7_worst 24 = .ok (.iconst 0, 1) := by decide +kernel
theorem dX7_worst_25 : decode cX7_worst 25 = .ok (.iconst 1, 1) := by decide +kernel
theorem dX7_worst_26 : decode cX7_worst 26 = .ok (.invokestatic 62, 3) := by decide +kernel
theorem dX7_worst_29 : decode cX7_worst 29 = .ok (.ifCond .ne 6, 3) := by decide +kernel
theorem dX7_worst_32 : decode cX7_worst 32 = .ok (.ldc 66, 2) := by decide +kernel
theorem dX7_worst_34 : decode cX7_worst 34 = .ok (.ireturn, 1) := by decide +kernel
theorem dX7_worst_35 : decode cX7_worst 35 = .ok (.aload_n 0, 1) := by decide +kernel
theorem dX7_worst_36 : decode cX7_worst 36 = .ok (.getfield 47, 3) := by decide +kernel
theorem dX7_worst_39 : decode cX7_worst 39 = .ok (.aload_n 0, 1) := by decide +kernel
theorem dX7_worst_40 : decode cX7_worst 40 = .ok (.getfield 26, 3) := by decide +kernel
theorem dX7_worst_43 : decode cX7_worst 43 = .ok (.iload_n 1, 1) := by decide +kernel
theorem dX7_worst_44 : decode cX7_worst 44 = .ok (.invokevirtual 251, 3) := by decide +kernel
theorem dX7_worst_47 : decode cX7_worst 47 = .ok (.istore_n 3, 1) := by decide +kernel
theorem dX7_worst_48 : decode cX7_worst 48 = .ok (.iload_n 2, 1) := by decide +kernel
theorem dX7_worst_49 : decode cX7_worst 49 = .ok (.iconst 1, 1) := by decide +kernel
theorem dX7_worst_50 : decode cX7_worst 50 = .ok (.if_icmp .ne 7, 3) := by decide +kernel
theorem dX7_worst_53 : decode cX7_worst 53 = .ok (.iload_n 3, 1) := by decide +kernel
theorem dX7_worst_54 : decode cX7_worst 54 = .ok (.goto 25, 3) := by decide +kernel
theorem dX7_worst_57 : decode cX7_worst 57 = .ok (.aload_n 0, 1) := by decide +kernel
theorem dX7_worst_58 : decode cX7_worst 58 = .ok (.getfield 47, 3) := by decide +kernel
theorem dX7_worst_61 : decode cX7_worst 61 = .ok (.aload_n 0, 1) := by decide +kernel
theorem dX7_worst_62 : decode cX7_worst 62 = .ok (.getfield 26, 3) := by decide +kernel
theorem dX7_worst_65 : decode cX7_worst 65 = .ok (.aload_n 0, 1) := by decide +kernel
theorem dX7_worst_66 : decode cX7_worst 66 = .ok (.getfield 26, 3) := by decide +kernel
theorem dX7_worst_69 : decode cX7_worst 69 = .ok (.getfield 154, 3) := by decide +kernel
theorem dX7_worst_72 : decode cX7_worst 72 = .ok (.iload_n 3, 1) := by decide +kernel
theorem dX7_worst_73 : decode cX7_worst 73 = .ok (.invokevirtual 216, 3) := by decide +kernel
theorem dX7_worst_76 : decode cX7_worst 76 = .ok (.invokevirtual 158, 3) := by decide +kernel
theorem dX7_worst_79 : decode cX7_worst 79 = .ok (.ireturn, 1) := by decide +kernel
theorem dX7_who_0 : decode cX7_who 0 = .ok (.aload_n 0, 1) := by decide +kernel
theorem dX7_who_1 : decode cX7_who 1 = .ok (.iconst 0, 1) := by decide +kernel
theorem dX7_who_2 : decode cX7_who 2 = .ok (.iload_n 1, 1) := by decide +kernel
theorem dX7_who_3 : decode cX7_who 3 = .ok (.iload_n 2, 1) := by decide +kernel
theorem dX7_who_4 : decode cX7_who 4 = .ok (.iload_n 3, 1) := by decide +kernel
theorem dX7_who_5 : decode cX7_who 5 = .ok (.iload 4, 2) := by decide +kernel
theorem dX7_who_7 : decode cX7_who 7 = .ok (.iload 5, 2) := by decide +kernel
theorem dX7_who_9 : decode cX7_who 9 = .ok (.invokevirtual 254, 3) := by decide +kernel
theorem dX7_who_12 : decode cX7_who 12 = .ok (.ireturn, 1) := by decide +kernel
theorem dX7_feet_0 : decode cX7_feet 0 = .ok (.aload_n 0, 1) := by decide +kernel
theorem dX7_feet_1 : decode cX7_feet 1 = .ok (.iconst 1, 1) := by decide +kernel
theorem dX7_feet_2 : decode cX7_feet 2 = .ok (.iload_n 1, 1) := by decide +kernel
theorem dX7_feet_3 : decode cX7_feet 3 = .ok (.iload_n 2, 1) := by decide +kernel
theorem dX7_feet_4 : decode cX7_feet 4 = .ok (.iload_n 3, 1) := by decide +kernel
theorem dX7_feet_5 : decode cX7_feet 5 = .ok (.iload 4, 2) := by decide +kernel
theorem dX7_feet_7 : decode cX7_feet 7 = .ok (.iload 5, 2) := by decide +kernel
theorem dX7_feet_9 : decode cX7_feet 9 = .ok (.invokevirtual 254, 3) := by decide +kernel
theorem dX7_feet_12 : decode cX7_feet 12 = .ok (.ireturn, 1) := by decide +kernel
theorem dX7_amounts_0 : decode cX7_amounts 0 = .ok (.aload_n 0, 1) := by decide +kernel
theorem dX7_amounts_1 : decode cX7_amounts 1 = .ok (.iconst 2, 1) := by decide +kernel
theorem dX7_amounts_2 : decode cX7_amounts 2 = .ok (.iload_n 1, 1) := by decide +kernel
theorem dX7_amounts_3 : decode cX7_amounts 3 = .ok (.iload_n 2, 1) := by decide +kernel
theorem dX7_amounts_4 : decode cX7_amounts 4 = .ok (.iload_n 3, 1) := by decide +kernel
theorem dX7_amounts_5 : decode cX7_amounts 5 = .ok (.iload 4, 2) := by decide +kernel
theorem dX7_amounts_7 : decode cX7_amounts 7 = .ok (.iload 5, 2) := by decide +kernel
theorem dX7_amounts_9 : decode cX7_amounts 9 = .ok (.invokevirtual 254, 3) := by decide +kernel
theorem dX7_amounts_12 : decode cX7_amounts 12 = .ok (.ireturn, 1) := by decide +kernel
theorem dX7_wrong_0 : decode cX7_wrong 0 = .ok (.aload_n 0, 1) := by decide +kernel
theorem dX7_wrong_1 : decode cX7_wrong 1 = .ok (.getfield 26, 3) := by decide +kernel
theorem dX7_wrong_4 : decode cX7_wrong 4 = .ok (.getfield 141, 3) := by decide +kernel
theorem dX7_wrong_7 : decode cX7_wrong 7 = .ok (.ifCond .ne 7, 3) := by decide +kernel
theorem dX7_wrong_10 : decode cX7_wrong 10 = .ok (.ldc2_w 258, 3) := by decide +kernel
theorem dX7_wrong_13 : decode cX7_wrong 13 = .ok (.lreturn, 1) := by decide +kernel
theorem dX7_wrong_14 : decode cX7_wrong 14 = .ok (.iload_n 1, 1) := by decide +kernel
theorem dX7_wrong_15 : decode cX7_wrong 15 = .ok (.iconst 0, 1) := by decide +kernel
theorem dX7_wrong_16 : decode cX7_wrong 16 = .ok (.bipush 10, 2) := by decide +kernel
theorem dX7_wrong_18 : decode cX7_wrong 18 = .ok (.invokestatic 62, 3) := by decide +kernel
theorem dX7_wrong_21 : decode cX7_wrong 21 = .ok (.ifCond .eq 12, 3) := by decide +kernel
theorem dX7_wrong_24 : decode cX7_wrong 24 = .ok (.iload_n 2, 1) := by decide +kernel
theorem dX7_wrong_25 : decode cX7_wrong 25 = .ok (.iconst 0, 1) := by decide +kernel
theorem dX7_wrong_26 : decode cX7_wrong 26 = .ok (.iconst 1, 1) := by decide +kernel
theorem dX7_wrong_27 : decode cX7_wrong 27 = .ok (.invokestatic 62, 3) := by decide +kernel
theorem dX7_wrong_30 : decode cX7_wrong 30 = .ok (.ifCond .ne 7, 3) := by decide +kernel
theorem dX7_wrong_33 : decode cX7_wrong 33 = .ok (.ldc2_w 260, 3) := by decide +kernel
theorem dX7_wrong_36 : decode cX7_wrong 36 = .ok (.lreturn, 1) := by decide +kernel
theorem dX7_wrong_37 : decode cX7_wrong 37 = .ok (.aload_n 0, 1) := by decide +kernel
theorem dX7_wrong_38 : decode cX7_wrong 38 = .ok (.getfield 47, 3) := by decide +kernel
theorem dX7_wrong_41 : decode cX7_wrong 41 = .ok (.aload_n 0, 1) := by decide +kernel
theorem dX7_wrong_42 : decode cX7_wrong 42 = .ok (.getfield 26, 3) := by decide +kernel
theorem dX7_wrong_45 : decode cX7_wrong 45 = .ok (.iload_n 1, 1) := by decide +kernel
theorem dX7_wrong_46 : decode cX7_wrong 46 = .ok (.invokevirtual 262, 3) := by decide +kernel
theorem dX7_wrong_49 : decode cX7_wrong 49 = .ok (.lstore_n 3, 1) := by decide +kernel
theorem dX7_wrong_50 : decode cX7_wrong 50 = .ok (.aload_n 0, 1) := by decide +kernel
theorem dX7_wrong_51 : decode cX7_wrong 51 = .ok (.getfield 47, 3) := by decide +kernel
theorem dX7_wrong_54 : decode cX7_wrong 54 = .ok (.aload_n 0, 1) := by decide +kernel
theorem dX7_wrong_55 : decode cX7_wrong 55 = .ok (.getfield 26, 3) := by decide +kernel
theorem dX7_wrong_58 : decode cX7_wrong 58 = .ok (.invokevirtual 266, 3) := by decide +kernel
theorem dX7_wrong_61 : decode cX7_wrong 61 = .ok (.lstore 5, 2) := by decide +kernel
theorem dX7_wrong_63 : decode cX7_wrong 63 = .ok (.lload 5, 2) := by decide +kernel
theorem dX7_wrong_65 : decode cX7_wrong 65 = .ok (.lload_n 3, 1) := by decide +kernel
theorem dX7_wrong_66 : decode cX7_wrong 66 = .ok (.invokestatic 270, 3) := by decide +kernel
theorem dX7_wrong_69 : decode cX7_wrong 69 = .ok (.lstore 7, 2) := by decide +kernel
theorem dX7_wrong_71 : decode cX7_wrong 71 = .ok (.lload 7, 2) := by decide +kernel
theorem dX7_wrong_73 : decode cX7_wrong 73 = .ok (.lconst 1, 1) := by decide +kernel
theorem dX7_wrong_74 : decode cX7_wrong 74 = .ok (.lcmp, 1) := by decide +kernel
theorem dX7_wrong_75 : decode cX7_wrong 75 = .ok (.ifCond .ge 9, 3) := by decide +kernel
theorem dX7_wrong_78 : decode cX7_wrong 78 = .ok (.ldc2_w 260, 3) := by decide +kernel
theorem dX7_wrong_81 : decode cX7_wrong 81 = .ok (.goto 16, 3) := by decide +kernel
theorem dX7_wrong_84 : decode cX7_wrong 84 = .ok (.iload_n 2, 1) := by decide +kernel
theorem dX7_wrong_85 : decode cX7_wrong 85 = .ok (.ifCond .ne 7, 3) := by decide +kernel
theorem dX7_wrong_88 : decode cX7_wrong 88 = .ok (.lload_n 3, 1) := by decide +kernel
theorem dX7_wrong_89 : decode cX7_wrong 89 = .ok (.goto 5, 3) := by decide +kernel
theorem dX7_wrong_92 : decode cX7_wrong 92 = .ok (.lload 5, 2) := by decide +kernel
theorem dX7_wrong_94 : decode cX7_wrong 94 = .ok (.lload 7, 2) := by decide +kernel
theorem dX7_wrong_96 : decode cX7_wrong 96 = .ok (.ldiv, 1) := by decide +kernel
theorem dX7_wrong_97 : decode cX7_wrong 97 = .ok (.lreturn, 1) := by decide +kernel
theorem dX7_drawn_0 : decode cX7_drawn 0 = .ok (.aload_n 0, 1) := by decide +kernel
theorem dX7_drawn_1 : decode cX7_drawn 1 = .ok (.getfield 26, 3) := by decide +kernel
theorem dX7_drawn_4 : decode cX7_drawn 4 = .ok (.getfield 141, 3) := by decide +kernel
theorem dX7_drawn_7 : decode cX7_drawn 7 = .ok (.ifCond .ne 6, 3) := by decide +kernel
theorem dX7_drawn_10 : decode cX7_drawn 10 = .ok (.ldc 137, 2) := by decide +kernel
theorem dX7_drawn_12 : decode cX7_drawn 12 = .ok (.ireturn, 1) := by decide +kernel
theorem dX7_drawn_13 : decode cX7_drawn 13 = .ok (.iload_n 1, 1) := by decide +kernel
theorem dX7_drawn_14 : decode cX7_drawn 14 = .ok (.iconst 0, 1) := by decide +kernel
theorem dX7_drawn_15 : decode cX7_drawn 15 = .ok (.bipush 60, 2) := by decide +kernel
theorem dX7_drawn_17 : decode cX7_drawn 17 = .ok (.invokestatic 62, 3) := by decide +kernel
theorem dX7_drawn_20 : decode cX7_drawn 20 = .ok (.ifCond .eq 23, 3) := by decide +kernel
theorem dX7_drawn_23 : decode cX7_drawn 23 = .ok (.iload_n 2, 1) := by decide +kernel
theorem dX7_drawn_24 : decode cX7_drawn 24 = .ok (.iconst 1, 1) := by decide +kernel
theorem dX7_drawn_25 : decode cX7_drawn 25 = .ok (.ldc_w 274, 3) := by decide +kernel
theorem dX7_drawn_28 : decode cX7_drawn 28 = .ok (.invokestatic 62, 3) := by decide +kernel
theorem dX7_drawn_31 : decode cX7_drawn 31 = .ok (.ifCond .eq 12, 3) := by decide +kernel
theorem dX7_drawn_34 : decode cX7_drawn 34 = .ok (.iload_n 3, 1) := by decide +kernel
theorem dX7_drawn_35 : decode cX7_drawn 35 = .ok (.iconst 0, 1) := by decide +kernel
theorem dX7_drawn_36 : decode cX7_drawn 36 = .ok (.iconst 1, 1) := by decide +kernel
theorem dX7_drawn_37 : decode cX7_drawn 37 = .ok (.invokestatic 62, 3) := by decide +kernel
theorem dX7_drawn_40 : decode cX7_drawn 40 = .ok (.ifCond .ne 6, 3) := by decide +kernel
theorem dX7_drawn_43 : decode cX7_drawn 43 = .ok (.ldc 66, 2) := by decide +kernel
theorem dX7_drawn_45 : decode cX7_drawn 45 = .ok (.ireturn, 1) := by decide +kernel
theorem dX7_drawn_46 : decode cX7_drawn 46 = .ok (.aload_n 0, 1) := by decide +kernel
theorem dX7_drawn_47 : decode cX7_drawn 47 = .ok (.getfield 47, 3) := by decide +kernel
theorem dX7_drawn_50 : decode cX7_drawn 50 = .ok (.aload_n 0, 1) := by decide +kernel
theorem dX7_drawn_51 : decode cX7_drawn 51 = .ok (.getfield 26, 3) := by decide +kernel
theorem dX7_drawn_54 : decode cX7_drawn 54 = .ok (.iload_n 1, 1) := by decide +kernel
theorem dX7_drawn_55 : decode cX7_drawn 55 = .ok (.iload_n 2, 1) := by decide +kernel
theorem dX7_drawn_56 : decode cX7_drawn 56 = .ok (.invokevirtual 275, 3) := by decide +kernel
theorem dX7_drawn_59 : decode cX7_drawn 59 = .ok (.istore 4, 2) := by decide +kernel
theorem dX7_drawn_61 : decode cX7_drawn 61 = .ok (.iload_n 3, 1) := by decide +kernel
theorem dX7_drawn_62 : decode cX7_drawn 62 = .ok (.iconst 1, 1) := by decide +kernel
theorem dX7_drawn_63 : decode cX7_drawn 63 = .ok (.if_icmp .ne 8, 3) := by decide +kernel
theorem dX7_drawn_66 : decode cX7_drawn 66 = .ok (.iload 4, 2) := by decide +kernel
theorem dX7_drawn_68 : decode cX7_drawn 68 = .ok (.goto 13, 3) := by decide +kernel
theorem dX7_drawn_71 : decode cX7_drawn 71 = .ok (.aload_n 0, 1) := by decide +kernel
theorem dX7_drawn_72 : decode cX7_drawn 72 = .ok (.getfield 47, 3) := by decide +kernel
theorem dX7_drawn_75 : decode cX7_drawn 75 = .ok (.getfield 279, 3) := by decide +kernel
theorem dX7_drawn_78 : decode cX7_drawn 78 = .ok (.invokevirtual 158, 3) := by decide +kernel
theorem dX7_drawn_81 : decode cX7_drawn 81 = .ok (.ireturn, 1) := by decide +kernel
theorem dX7_image_0 : decode cX7_image 0 = .ok (.iload_n 1, 1) := by decide +kernel
theorem dX7_image_1 : decode cX7_image 1 = .ok (.iconst 0, 1) := by decide +kernel
theorem dX7_image_2 : decode cX7_image 2 = .ok (.iconst 1, 1) := by decide +kernel
theorem dX7_image_3 : decode cX7_image 3 = .ok (.invokestatic 62, 3) := by decide +kernel
theorem dX7_image_6 : decode cX7_image 6 = .ok (.ifCond .ne 6, 3) := by decide +kernel
theorem dX7_image_9 : decode cX7_image 9 = .ok (.ldc 66, 2) := by decide +kernel
theorem dX7_image_11 : decode cX7_image 11 = .ok (.ireturn, 1) := by decide +kernel
theorem dX7_image_12 : decode cX7_image 12 = .ok (.aload_n 0, 1) := by decide +kernel
theorem dX7_image_13 : decode cX7_image 13 = .ok (.getfield 26, 3) := by decide +kernel
theorem dX7_image_16 : decode cX7_image 16 = .ok (.getfield 141, 3) := by decide +kernel
theorem dX7_image_19 : decode cX7_image 19 = .ok (.ifCond .ne 6, 3) := by decide +kernel
theorem dX7_image_22 : decode cX7_image 22 = .ok (.ldc 137, 2) := by decide +kernel
theorem dX7_image_24 : decode cX7_image 24 = .ok (.ireturn, 1) := by decide +kernel
theorem dX7_image_25 : decode cX7_image 25 = .ok (.aload_n 0, 1) := by decide +kernel
theorem dX7_image_26 : decode cX7_image 26 = .ok (.getfield 33, 3) := by decide +kernel
theorem dX7_image_29 : decode cX7_image 29 = .ok (.iload_n 1, 1) := by decide +kernel
theorem dX7_image_30 : decode cX7_image 30 = .ok (.aaload, 1) := by decide +kernel
theorem dX7_image_31 : decode cX7_image 31 = .ok (.aload_n 0, 1) := by decide +kernel
theorem dX7_image_32 : decode cX7_image 32 = .ok (.getfield 26, 3) := by decide +kernel
theorem dX7_image_35 : decode cX7_image 35 = .ok (.invokevirtual 124, 3) := by decide +kernel
theorem dX7_image_38 : decode cX7_image 38 = .ok (.iconst 1, 1) := by decide +kernel
theorem dX7_image_39 : decode cX7_image 39 = .ok (.ireturn, 1) := by decide +kernel
theorem dX7_restore_0 : decode cX7_restore 0 = .ok (.iload_n 1, 1) := by decide +kernel
theorem dX7_restore_1 : decode cX7_restore 1 = .ok (.iconst 0, 1) := by decide +kernel
theorem dX7_restore_2 : decode cX7_restore 2 = .ok (.iconst 1, 1) := by decide +kernel
theorem dX7_restore_3 : decode cX7_restore 3 = .ok (.invokestatic 62, 3) := by decide +kernel
theorem dX7_restore_6 : decode cX7_restore 6 = .ok (.ifCond .ne 6, 3) := by decide +kernel
theorem dX7_restore_9 : decode cX7_restore 9 = .ok (.ldc 66, 2) := by decide +kernel
theorem dX7_restore_11 : decode cX7_restore 11 = .ok (.ireturn, 1) := by decide +kernel
theorem dX7_restore_12 : decode cX7_restore 12 = .ok (.aload_n 0, 1) := by decide +kernel
theorem dX7_restore_13 : decode cX7_restore 13 = .ok (.getfield 33, 3) := by decide +kernel
theorem dX7_restore_16 : decode cX7_restore 16 = .ok (.iload_n 1, 1) := by decide +kernel
theorem dX7_restore_17 : decode cX7_restore 17 = .ok (.aaload, 1) := by decide +kernel
theorem dX7_restore_18 : decode cX7_restore 18 = .ok (.getfield 141, 3) := by decide +kernel
theorem dX7_restore_21 : decode cX7_restore 21 = .ok (.ifCond .ne 6, 3) := by decide +kernel
theorem dX7_restore_24 : decode cX7_restore 24 = .ok (.ldc 137, 2) := by decide +kernel
theorem dX7_restore_26 : decode cX7_restore 26 = .ok (.ireturn, 1) := by decide +kernel
theorem dX7_restore_27 : decode cX7_restore 27 = .ok (.aload_n 0, 1) := by decide +kernel
theorem dX7_restore_28 : decode cX7_restore 28 = .ok (.getfield 26, 3) := by decide +kernel
theorem dX7_restore_31 : decode cX7_restore 31 = .ok (.aload_n 0, 1) := by decide +kernel
theorem dX7_restore_32 : decode cX7_restore 32 = .ok (.getfield 33, 3) := by decide +kernel
theorem dX7_restore_35 : decode cX7_restore 35 = .ok (.iload_n 1, 1) := by decide +kernel
theorem dX7_restore_36 : decode cX7_restore 36 = .ok (.aaload, 1) := by decide +kernel
theorem dX7_restore_37 : decode cX7_restore 37 = .ok (.invokevirtual 124, 3) := by decide +kernel
theorem dX7_restore_40 : decode cX7_restore 40 = .ok (.aload_n 0, 1) := by decide +kernel
theorem dX7_restore_41 : decode cX7_restore 41 = .ok (.getfield 40, 3) := by decide +kernel
theorem dX7_restore_44 : decode cX7_restore 44 = .ok (.invokevirtual 128, 3) := by decide +kernel
theorem dX7_restore_47 : decode cX7_restore 47 = .ok (.iconst 1, 1) := by decide +kernel
theorem dX7_restore_48 : decode cX7_restore 48 = .ok (.ireturn, 1) := by decide +kernel
theorem dX7_kind_0 : decode cX7_kind 0 = .ok (.aload_n 0, 1) := by decide +kernel
theorem dX7_kind_1 : decode cX7_kind 1 = .ok (.getfield 26, 3) := by decide +kernel
theorem dX7_kind_4 : decode cX7_kind 4 = .ok (.iload_n 1, 1) := by decide +kernel
theorem dX7_kind_5 : decode cX7_kind 5 = .ok (.invokevirtual 164, 3) := by decide +kernel
theorem dX7_kind_8 : decode cX7_kind 8 = .ok (.ifCond .eq 15, 3) := by decide +kernel
theorem dX7_kind_11 : decode cX7_kind 11 = .ok (.aload_n 0, 1) := by decide +kernel
theorem dX7_kind_12 : decode cX7_kind 12 = .ok (.getfield 26, 3) := by decide +kernel
theorem dX7_kind_15 : decode cX7_kind 15 = .ok (.getfield 282, 3) := by decide +kernel
theorem dX7_kind_18 : decode cX7_kind 18 = .ok (.iload_n 1, 1) := by decide +kernel
theorem dX7_kind_19 : decode cX7_kind 19 = .ok (.iaload, 1) := by decide +kernel
theorem dX7_kind_20 : decode cX7_kind 20 = .ok (.goto 5, 3) := by decide +kernel
theorem dX7_kind_23 : decode cX7_kind 23 = .ok (.ldc 66, 2) := by decide +kernel
theorem dX7_kind_25 : decode cX7_kind 25 = .ok (.ireturn, 1) := by decide +kernel
theorem dX7_as_0 : decode cX7_as 0 = .ok (.aload_n 0, 1) := by decide +kernel
theorem dX7_as_1 : decode cX7_as 1 = .ok (.getfield 26, 3) := by decide +kernel
theorem dX7_as_4 : decode cX7_as 4 = .ok (.iload_n 1, 1) := by decide +kernel
theorem dX7_as_5 : decode cX7_as 5 = .ok (.invokevirtual 164, 3) := by decide +kernel
theorem dX7_as_8 : decode cX7_as 8 = .ok (.ifCond .eq 12, 3) := by decide +kernel
theorem dX7_as_11 : decode cX7_as 11 = .ok (.iload_n 2, 1) := by decide +kernel
theorem dX7_as_12 : decode cX7_as 12 = .ok (.iconst 0, 1) := by decide +kernel
theorem dX7_as_13 : decode cX7_as 13 = .ok (.iconst 5, 1) := by decide +kernel
theorem dX7_as_14 : decode cX7_as 14 = .ok (.invokestatic 62, 3) := by decide +kernel
theorem dX7_as_17 : decode cX7_as 17 = .ok (.ifCond .ne 6, 3) := by decide +kernel
theorem dX7_as_20 : decode cX7_as 20 = .ok (.ldc 66, 2) := by decide +kernel
theorem dX7_as_22 : decode cX7_as 22 = .ok (.ireturn, 1) := by decide +kernel
theorem dX7_as_23 : decode cX7_as 23 = .ok (.aload_n 0, 1) := by decide +kernel
theorem dX7_as_24 : decode cX7_as 24 = .ok (.getfield 54, 3) := by decide +kernel
theorem dX7_as_27 : decode cX7_as 27 = .ok (.aload_n 0, 1) := by decide +kernel
theorem dX7_as_28 : decode cX7_as 28 = .ok (.getfield 26, 3) := by decide +kernel
theorem dX7_as_31 : decode cX7_as 31 = .ok (.getfield 282, 3) := by decide +kernel
theorem dX7_as_34 : decode cX7_as 34 = .ok (.iload_n 1, 1) := by decide +kernel
theorem dX7_as_35 : decode cX7_as 35 = .ok (.iaload, 1) := by decide +kernel
theorem dX7_as_36 : decode cX7_as 36 = .ok (.iload_n 2, 1) := by decide +kernel
theorem dX7_as_37 : decode cX7_as 37 = .ok (.invokevirtual 285, 3) := by decide +kernel
theorem dX7_as_40 : decode cX7_as 40 = .ok (.ifCond .ne 9, 3) := by decide +kernel
theorem dX7_as_43 : decode cX7_as 43 = .ok (.aload_n 0, 1) := by decide +kernel
theorem dX7_as_44 : decode cX7_as 44 = .ok (.iconst 3, 1) := by decide +kernel
theorem dX7_as_45 : decode cX7_as 45 = .ok (.invokevirtual 67, 3) := by decide +kernel
theorem dX7_as_48 : decode cX7_as 48 = .ok (.ireturn, 1) := by decide +kernel
theorem dX7_as_49 : decode cX7_as 49 = .ok (.aload_n 0, 1) := by decide +kernel
theorem dX7_as_50 : decode cX7_as 50 = .ok (.iload_n 1, 1) := by decide +kernel
theorem dX7_as_51 : decode cX7_as 51 = .ok (.invokevirtual 75, 3) := by decide +kernel
theorem dX7_as_54 : decode cX7_as 54 = .ok (.ireturn, 1) := by decide +kernel
theorem dX7_ask_0 : decode cX7_ask 0 = .ok (.aload_n 0, 1) := by decide +kernel
theorem dX7_ask_1 : decode cX7_ask 1 = .ok (.getfield 26, 3) := by decide +kernel
theorem dX7_ask_4 : decode cX7_ask 4 = .ok (.iload_n 1, 1) := by decide +kernel
theorem dX7_ask_5 : decode cX7_ask 5 = .ok (.invokevirtual 164, 3) := by decide +kernel
theorem dX7_ask_8 : decode cX7_ask 8 = .ok (.ifCond .eq 12, 3) := by decide +kernel
theorem dX7_ask_11 : decode cX7_ask 11 = .ok (.iload_n 2, 1) := by decide +kernel
theorem dX7_ask_12 : decode cX7_ask 12 = .ok (.iconst 0, 1) := by decide +kernel
theorem dX7_ask_13 : decode cX7_ask 13 = .ok (.iconst 1, 1) := by decide +kernel
theorem dX7_ask_14 : decode cX7_ask 14 = .ok (.invokestatic 62, 3) := by decide +kernel
theorem dX7_ask_17 : decode cX7_ask 17 = .ok (.ifCond .ne 6, 3) := by decide +kernel
theorem dX7_ask_20 : decode cX7_ask 20 = .ok (.ldc 66, 2) := by decide +kernel
theorem dX7_ask_22 : decode cX7_ask 22 = .ok (.ireturn, 1) := by decide +kernel
theorem dX7_ask_23 : decode cX7_ask 23 = .ok (.aload_n 0, 1) := by decide +kernel
theorem dX7_ask_24 : decode cX7_ask 24 = .ok (.getfield 54, 3) := by decide +kernel
theorem dX7_ask_27 : decode cX7_ask 27 = .ok (.aload_n 0, 1) := by decide +kernel
theorem dX7_ask_28 : decode cX7_ask 28 = .ok (.getfield 26, 3) := by decide +kernel
theorem dX7_ask_31 : decode cX7_ask 31 = .ok (.iload_n 1, 1) := by decide +kernel
theorem dX7_ask_32 : decode cX7_ask 32 = .ok (.iload_n 2, 1) := by decide +kernel
theorem dX7_ask_33 : decode cX7_ask 33 = .ok (.invokevirtual 288, 3) := by decide +kernel
theorem dX7_ask_36 : decode cX7_ask 36 = .ok (.ireturn, 1) := by decide +kernel
theorem dX7_trace_0 : decode cX7_trace 0 = .ok (.iload_n 1, 1) := by decide +kernel
theorem dX7_trace_1 : decode cX7_trace 1 = .ok (.ifCond .lt 26, 3) := by decide +kernel
theorem dX7_trace_4 : decode cX7_trace 4 = .ok (.iload_n 1, 1) := by decide +kernel
theorem dX7_trace_5 : decode cX7_trace 5 = .ok (.aload_n 0, 1) := by decide +kernel
theorem dX7_trace_6 : decode cX7_trace 6 = .ok (.getfield 54, 3) := by decide +kernel
theorem dX7_trace_9 : decode cX7_trace 9 = .ok (.getfield 291, 3) := by decide +kernel
theorem dX7_trace_12 : decode cX7_trace 12 = .ok (.if_icmp .ge 15, 3) := by decide +kernel
theorem dX7_trace_15 : decode cX7_trace 15 = .ok (.aload_n 0, 1) := by decide +kernel
theorem dX7_trace_16 : decode cX7_trace 16 = .ok (.getfield 54, 3) := by decide +kernel
theorem dX7_trace_19 : decode cX7_trace 19 = .ok (.getfield 294, 3) := by decide +kernel
theorem dX7_trace_22 : decode cX7_trace 22 = .ok (.iload_n 1, 1) := by decide +kernel
theorem dX7_trace_23 : decode cX7_trace 23 = .ok (.iaload, 1) := by decide +kernel
theorem dX7_trace_24 : decode cX7_trace 24 = .ok (.goto 5, 3) := by decide +kernel
theorem dX7_trace_27 : decode cX7_trace 27 = .ok (.ldc 227, 2) := by decide +kernel
theorem dX7_trace_29 : decode cX7_trace 29 = .ok (.ireturn, 1) := by decide +kernel
theorem dX7_count_0 : decode cX7_count 0 = .ok (.iload_n 1, 1) := by decide +kernel
theorem dX7_count_1 : decode cX7_count 1 = .ok (.tableswitch 117 0 7 #[47, 55, 63, 71, 79, 90, 101, 109], 47) := by decide +kernel
theorem dX7_count_48 : decode cX7_count 48 = .ok (.aload_n 0, 1) := by decide +kernel
theorem dX7_count_49 : decode cX7_count 49 = .ok (.getfield 10, 3) := by decide +kernel
theorem dX7_count_52 : decode cX7_count 52 = .ok (.invokevirtual 297, 3) := by decide +kernel
theorem dX7_count_55 : decode cX7_count 55 = .ok (.ireturn, 1) := by decide +kernel
theorem dX7_count_56 : decode cX7_count 56 = .ok (.aload_n 0, 1) := by decide +kernel
theorem dX7_count_57 : decode cX7_count 57 = .ok (.getfield 26, 3) := by decide +kernel
theorem dX7_count_60 : decode cX7_count 60 = .ok (.getfield 131, 3) := by decide +kernel
theorem dX7_count_63 : decode cX7_count 63 = .ok (.ireturn, 1) := by decide +kernel
theorem dX7_count_64 : decode cX7_count 64 = .ok (.aload_n 0, 1) := by decide +kernel
theorem dX7_count_65 : decode cX7_count 65 = .ok (.getfield 26, 3) := by decide +kernel
theorem dX7_count_68 : decode cX7_count 68 = .ok (.getfield 174, 3) := by decide +kernel
theorem dX7_count_71 : decode cX7_count 71 = .ok (.ireturn, 1) := by decide +kernel
theorem dX7_count_72 : decode cX7_count 72 = .ok (.aload_n 0, 1) := by decide +kernel
theorem dX7_count_73 : decode cX7_count 73 = .ok (.getfield 26, 3) := by decide +kernel
theorem dX7_count_76 : decode cX7_count 76 = .ok (.getfield 145, 3) := by decide +kernel
theorem dX7_count_79 : decode cX7_count 79 = .ok (.ireturn, 1) := by decide +kernel
theorem dX7_count_80 : decode cX7_count 80 = .ok (.aload_n 0, 1) := by decide +kernel
theorem dX7_count_81 : decode cX7_count 81 = .ok (.getfield 26, 3) := by decide +kernel
theorem dX7_count_84 : decode cX7_count 84 = .ok (.getfield 154, 3) := by decide +kernel
theorem dX7_count_87 : decode cX7_count 87 = .ok (.invokevirtual 158, 3) := by decide +kernel
theorem dX7_count_90 : decode cX7_count 90 = .ok (.ireturn, 1) := by decide +kernel
theorem dX7_count_91 : decode cX7_count 91 = .ok (.aload_n 0, 1) := by decide +kernel
theorem dX7_count_92 : decode cX7_count 92 = .ok (.getfield 26, 3) := by decide +kernel
theorem dX7_count_95 : decode cX7_count 95 = .ok (.getfield 154, 3) := by decide +kernel
theorem dX7_count_98 : decode cX7_count 98 = .ok (.invokevirtual 300, 3) := by decide +kernel
theorem dX7_count_101 : decode cX7_count 101 = .ok (.ireturn, 1) := by decide +kernel
theorem dX7_count_102 : decode cX7_count 102 = .ok (.aload_n 0, 1) := by decide +kernel
theorem dX7_count_103 : decode cX7_count 103 = .ok (.getfield 40, 3) := by decide +kernel
theorem dX7_count_106 : decode cX7_count 106 = .ok (.getfield 134, 3) := by decide +kernel
theorem dX7_count_109 : decode cX7_count 109 = .ok (.ireturn, 1) := by decide +kernel
theorem dX7_count_110 : decode cX7_count 110 = .ok (.aload_n 0, 1) := by decide +kernel
theorem dX7_count_111 : decode cX7_count 111 = .ok (.getfield 19, 3) := by decide +kernel
theorem dX7_count_114 : decode cX7_count 114 = .ok (.getfield 303, 3) := by decide +kernel
theorem dX7_count_117 : decode cX7_count 117 = .ok (.ireturn, 1) := by decide +kernel
theorem dX7_count_118 : decode cX7_count 118 = .ok (.ldc 66, 2) := by decide +kernel
theorem dX7_count_120 : decode cX7_count 120 = .ok (.ireturn, 1) := by decide +kernel
theorem dX7_status_0 : decode cX7_status 0 = .ok (.aload_n 0, 1) := by decide +kernel
theorem dX7_status_1 : decode cX7_status 1 = .ok (.getfield 306, 3) := by decide +kernel
theorem dX7_status_4 : decode cX7_status 4 = .ok (.ireturn, 1) := by decide +kernel
theorem dX7_isWithin_0 : decode cX7_isWithin 0 = .ok (.iload_n 0, 1) := by decide +kernel
theorem dX7_isWithin_1 : decode cX7_isWithin 1 = .ok (.iload_n 1, 1) := by decide +kernel
theorem dX7_isWithin_2 : decode cX7_isWithin 2 = .ok (.if_icmp .lt 12, 3) := by decide +kernel
theorem dX7_isWithin_5 : decode cX7_isWithin 5 = .ok (.iload_n 0, 1) := by decide +kernel
theorem dX7_isWithin_6 : decode cX7_isWithin 6 = .ok (.iload_n 2, 1) := by decide +kernel
theorem dX7_isWithin_7 : decode cX7_isWithin 7 = .ok (.if_icmp .gt 7, 3) := by decide +kernel
theorem dX7_isWithin_10 : decode cX7_isWithin 10 = .ok (.iconst 1, 1) := by decide +kernel
theorem dX7_isWithin_11 : decode cX7_isWithin 11 = .ok (.goto 4, 3) := by decide +kernel
theorem dX7_isWithin_14 : decode cX7_isWithin 14 = .ok (.iconst 0, 1) := by decide +kernel
theorem dX7_isWithin_15 : decode cX7_isWithin 15 = .ok (.ireturn, 1) := by decide +kernel
theorem dX7_isFoot_0 : decode cX7_isFoot 0 = .ok (.iload_n 0, 1) := by decide +kernel
theorem dX7_isFoot_1 : decode cX7_isFoot 1 = .ok (.iconst 0, 1) := by decide +kernel
theorem dX7_isFoot_2 : decode cX7_isFoot 2 = .ok (.iconst 2, 1) := by decide +kernel
theorem dX7_isFoot_3 : decode cX7_isFoot 3 = .ok (.invokestatic 62, 3) := by decide +kernel
theorem dX7_isFoot_6 : decode cX7_isFoot 6 = .ok (.ireturn, 1) := by decide +kernel
theorem dX7_isAmount_0 : decode cX7_isAmount 0 = .ok (.iload_n 0, 1) := by decide +kernel
theorem dX7_isAmount_1 : decode cX7_isAmount 1 = .ok (.iconst 1, 1) := by decide +kernel
theorem dX7_isAmount_2 : decode cX7_isAmount 2 = .ok (.bipush 20, 2) := by decide +kernel
theorem dX7_isAmount_4 : decode cX7_isAmount 4 = .ok (.invokestatic 62, 3) := by decide +kernel
theorem dX7_isAmount_7 : decode cX7_isAmount 7 = .ok (.ireturn, 1) := by decide +kernel
theorem dX7_found_0 : decode cX7_found 0 = .ok (.aload_n 0, 1) := by decide +kernel
theorem dX7_found_1 : decode cX7_found 1 = .ok (.iload_n 1, 1) := by decide +kernel
theorem dX7_found_2 : decode cX7_found 2 = .ok (.putfield 306, 3) := by decide +kernel
theorem dX7_found_5 : decode cX7_found 5 = .ok (.ldc_w 309, 3) := by decide +kernel
theorem dX7_found_8 : decode cX7_found 8 = .ok (.iload_n 1, 1) := by decide +kernel
theorem dX7_found_9 : decode cX7_found 9 = .ok (.isub, 1) := by decide +kernel
theorem dX7_found_10 : decode cX7_found 10 = .ok (.ireturn, 1) := by decide +kernel
theorem dX7_unfound_0 : decode cX7_unfound 0 = .ok (.aload_n 0, 1) := by decide +kernel
theorem dX7_unfound_1 : decode cX7_unfound 1 = .ok (.iconst 0, 1) := by decide +kernel
theorem dX7_unfound_2 : decode cX7_unfound 2 = .ok (.putfield 306, 3) := by decide +kernel
theorem dX7_unfound_5 : decode cX7_unfound 5 = .ok (.iload_n 1, 1) := by decide +kernel
theorem dX7_unfound_6 : decode cX7_unfound 6 = .ok (.ireturn, 1) := by decide +kernel
theorem dX7_allThatFits_0 : decode cX7_allThatFits 0 = .ok (.aload_n 0, 1) := by decide +kernel
theorem dX7_allThatFits_1 : decode cX7_allThatFits 1 = .ok (.getfield 26, 3) := by decide +kernel
theorem dX7_allThatFits_4 : decode cX7_allThatFits 4 = .ok (.iload_n 2, 1) := by decide +kernel
theorem dX7_allThatFits_5 : decode cX7_allThatFits 5 = .ok (.invokevirtual 164, 3) := by decide +kernel
theorem dX7_allThatFits_8 : decode cX7_allThatFits 8 = .ok (.ifCond .eq 35, 3) := by decide +kernel
theorem dX7_allThatFits_11 : decode cX7_allThatFits 11 = .ok (.iload_n 3, 1) := by decide +kernel
theorem dX7_allThatFits_12 : decode cX7_allThatFits 12 = .ok (.iconst 0, 1) := by decide +kernel
theorem dX7_allThatFits_13 : decode cX7_allThatFits 13 = .ok (.iconst 1, 1) := by decide +kernel
theorem dX7_allThatFits_14 : decode cX7_allThatFits 14 = .ok (.invokestatic 62, 3) := by decide +kernel
theorem dX7_allThatFits_17 : decode cX7_allThatFits 17 = .ok (.ifCond .eq 26, 3) := by decide +kernel
theorem dX7_allThatFits_20 : decode cX7_allThatFits 20 = .ok (.aload_n 0, 1) := by decide +kernel
theorem dX7_allThatFits_21 : decode cX7_allThatFits 21 = .ok (.getfield 10, 3) := by decide +kernel
theorem dX7_allThatFits_24 : decode cX7_allThatFits 24 = .ok (.iload 4, 2) := by decide +kernel
theorem dX7_allThatFits_26 : decode cX7_allThatFits 26 = .ok (.invokevirtual 58, 3) := by decide +kernel
theorem dX7_allThatFits_29 : decode cX7_allThatFits 29 = .ok (.ifCond .eq 14, 3) := by decide +kernel
theorem dX7_allThatFits_32 : decode cX7_allThatFits 32 = .ok (.iload 6, 2) := by decide +kernel
theorem dX7_allThatFits_34 : decode cX7_allThatFits 34 = .ok (.iconst 1, 1) := by decide +kernel
theorem dX7_allThatFits_35 : decode cX7_allThatFits 35 = .ok (.bipush 12, 2) := by decide +kernel
theorem dX7_allThatFits_37 : decode cX7_allThatFits 37 = .ok (.invokestatic 62, 3) := by decide +kernel
theorem dX7_allThatFits_40 : decode cX7_allThatFits 40 = .ok (.ifCond .ne 6, 3) := by decide +kernel
theorem dX7_allThatFits_43 : decode cX7_allThatFits 43 = .ok (.ldc 66, 2) := by decide +kernel
theorem dX7_allThatFits_45 : decode cX7_allThatFits 45 = .ok (.ireturn, 1) := by decide +kernel
theorem dX7_allThatFits_46 : decode cX7_allThatFits 46 = .ok (.aload_n 0, 1) := by decide +kernel
theorem dX7_allThatFits_47 : decode cX7_allThatFits 47 = .ok (.getfield 10, 3) := by decide +kernel
theorem dX7_allThatFits_50 : decode cX7_allThatFits 50 = .ok (.iload 4, 2) := by decide +kernel
theorem dX7_allThatFits_52 : decode cX7_allThatFits 52 = .ok (.invokevirtual 78, 3) := by decide +kernel
theorem dX7_allThatFits_55 : decode cX7_allThatFits 55 = .ok (.ifCond .eq 9, 3) := by decide +kernel
theorem dX7_allThatFits_58 : decode cX7_allThatFits 58 = .ok (.aload_n 0, 1) := by decide +kernel
theorem dX7_allThatFits_59 : decode cX7_allThatFits 59 = .ok (.iconst 1, 1) := by decide +kernel
theorem dX7_allThatFits_60 : decode cX7_allThatFits 60 = .ok (.invokevirtual 67, 3) := by decide +kernel
theorem dX7_allThatFits_63 : decode cX7_allThatFits 63 = .ok (.ireturn, 1) := by decide +kernel
theorem dX7_allThatFits_64 : decode cX7_allThatFits 64 = .ok (.aload_n 0, 1) := by decide +kernel
theorem dX7_allThatFits_65 : decode cX7_allThatFits 65 = .ok (.getfield 10, 3) := by decide +kernel
theorem dX7_allThatFits_68 : decode cX7_allThatFits 68 = .ok (.iload 4, 2) := by decide +kernel
theorem dX7_allThatFits_70 : decode cX7_allThatFits 70 = .ok (.iload 5, 2) := by decide +kernel
theorem dX7_allThatFits_72 : decode cX7_allThatFits 72 = .ok (.iload 6, 2) := by decide +kernel
theorem dX7_allThatFits_74 : decode cX7_allThatFits 74 = .ok (.invokevirtual 81, 3) := by decide +kernel
theorem dX7_allThatFits_77 : decode cX7_allThatFits 77 = .ok (.ifCond .ne 9, 3) := by decide +kernel
theorem dX7_allThatFits_80 : decode cX7_allThatFits 80 = .ok (.aload_n 0, 1) := by decide +kernel
theorem dX7_allThatFits_81 : decode cX7_allThatFits 81 = .ok (.iconst 2, 1) := by decide +kernel
theorem dX7_allThatFits_82 : decode cX7_allThatFits 82 = .ok (.invokevirtual 67, 3) := by decide +kernel
theorem dX7_allThatFits_85 : decode cX7_allThatFits 85 = .ok (.ireturn, 1) := by decide +kernel
theorem dX7_allThatFits_86 : decode cX7_allThatFits 86 = .ok (.aload_n 0, 1) := by decide +kernel
theorem dX7_allThatFits_87 : decode cX7_allThatFits 87 = .ok (.getfield 26, 3) := by decide +kernel
theorem dX7_allThatFits_90 : decode cX7_allThatFits 90 = .ok (.iload_n 2, 1) := by decide +kernel
theorem dX7_allThatFits_91 : decode cX7_allThatFits 91 = .ok (.invokevirtual 167, 3) := by decide +kernel
theorem dX7_allThatFits_94 : decode cX7_allThatFits 94 = .ok (.ifCond .eq 6, 3) := by decide +kernel
theorem dX7_allThatFits_97 : decode cX7_allThatFits 97 = .ok (.ldc 137, 2) := by decide +kernel
theorem dX7_allThatFits_99 : decode cX7_allThatFits 99 = .ok (.ireturn, 1) := by decide +kernel
theorem dX7_allThatFits_100 : decode cX7_allThatFits 100 = .ok (.iload_n 1, 1) := by decide +kernel
theorem dX7_allThatFits_101 : decode cX7_allThatFits 101 = .ok (.iconst 1, 1) := by decide +kernel
theorem dX7_allThatFits_102 : decode cX7_allThatFits 102 = .ok (.if_icmp .ne 7, 3) := by decide +kernel
theorem dX7_allThatFits_105 : decode cX7_allThatFits 105 = .ok (.iconst 0, 1) := by decide +kernel
theorem dX7_allThatFits_106 : decode cX7_allThatFits 106 = .ok (.goto 4, 3) := by decide +kernel
theorem dX7_allThatFits_109 : decode cX7_allThatFits 109 = .ok (.iconst 1, 1) := by decide +kernel
theorem dX7_allThatFits_110 : decode cX7_allThatFits 110 = .ok (.istore 7, 2) := by decide +kernel
theorem dX7_allThatFits_112 : decode cX7_allThatFits 112 = .ok (.iload_n 1, 1) := by decide +kernel
theorem dX7_allThatFits_113 : decode cX7_allThatFits 113 = .ok (.ifCond .ne 7, 3) := by decide +kernel
theorem dX7_allThatFits_116 : decode cX7_allThatFits 116 = .ok (.iconst 5, 1) := by decide +kernel
theorem dX7_allThatFits_117 : decode cX7_allThatFits 117 = .ok (.goto 14, 3) := by decide +kernel
theorem dX7_allThatFits_120 : decode cX7_allThatFits 120 = .ok (.iload_n 1, 1) := by decide +kernel
theorem dX7_allThatFits_121 : decode cX7_allThatFits 121 = .ok (.iconst 1, 1) := by decide +kernel
theorem dX7_allThatFits_122 : decode cX7_allThatFits 122 = .ok (.if_icmp .ne 7, 3) := by decide +kernel
theorem dX7_allThatFits_125 : decode cX7_allThatFits 125 = .ok (.iconst 2, 1) := by decide +kernel
theorem dX7_allThatFits_126 : decode cX7_allThatFits 126 = .ok (.goto 5, 3) := by decide +kernel
theorem dX7_allThatFits_129 : decode cX7_allThatFits 129 = .ok (.bipush 20, 2) := by decide +kernel
theorem dX7_allThatFits_131 : decode cX7_allThatFits 131 = .ok (.istore 8, 2) := by decide +kernel
theorem dX7_allThatFits_133 : decode cX7_allThatFits 133 = .ok (.iconst 0, 1) := by decide +kernel
theorem dX7_allThatFits_134 : decode cX7_allThatFits 134 = .ok (.istore 9, 2) := by decide +kernel
theorem dX7_allThatFits_136 : decode cX7_allThatFits 136 = .ok (.iload 7, 2) := by decide +kernel
theorem dX7_allThatFits_138 : decode cX7_allThatFits 138 = .ok (.istore 10, 2) := by decide +kernel
theorem dX7_allThatFits_140 : decode cX7_allThatFits 140 = .ok (.iload 10, 2) := by decide +kernel
theorem dX7_allThatFits_142 : decode cX7_allThatFits 142 = .ok (.iload 8, 2) := by decide +kernel
theorem dX7_allThatFits_144 : decode cX7_allThatFits 144 = .ok (.if_icmp .gt 62, 3) := by decide +kernel
theorem dX7_allThatFits_147 : decode cX7_allThatFits 147 = .ok (.aload_n 0, 1) := by decide +kernel
theorem dX7_allThatFits_148 : decode cX7_allThatFits 148 = .ok (.getfield 47, 3) := by decide +kernel
theorem dX7_allThatFits_151 : decode cX7_allThatFits 151 = .ok (.aload_n 0, 1) := by decide +kernel
theorem dX7_allThatFits_152 : decode cX7_allThatFits 152 = .ok (.getfield 26, 3) := by decide +kernel
theorem dX7_allThatFits_155 : decode cX7_allThatFits 155 = .ok (.iload_n 2, 1) := by decide +kernel
theorem dX7_allThatFits_156 : decode cX7_allThatFits 156 = .ok (.iload_n 1, 1) := by decide +kernel
theorem dX7_allThatFits_157 : decode cX7_allThatFits 157 = .ok (.iload 10, 2) := by decide +kernel
theorem dX7_allThatFits_159 : decode cX7_allThatFits 159 = .ok (.invokevirtual 310, 3) := by decide +kernel
theorem dX7_allThatFits_162 : decode cX7_allThatFits 162 = .ok (.aload_n 0, 1) := by decide +kernel
theorem dX7_allThatFits_163 : decode cX7_allThatFits 163 = .ok (.getfield 47, 3) := by decide +kernel
theorem dX7_allThatFits_166 : decode cX7_allThatFits 166 = .ok (.aload_n 0, 1) := by decide +kernel
theorem dX7_allThatFits_167 : decode cX7_allThatFits 167 = .ok (.getfield 26, 3) := by decide +kernel
theorem dX7_allThatFits_170 : decode cX7_allThatFits 170 = .ok (.iload_n 3, 1) := by decide +kernel
theorem dX7_allThatFits_171 : decode cX7_allThatFits 171 = .ok (.aload_n 0, 1) := by decide +kernel
theorem dX7_allThatFits_172 : decode cX7_allThatFits 172 = .ok (.getfield 10, 3) := by decide +kernel
theorem dX7_allThatFits_175 : decode cX7_allThatFits 175 = .ok (.getfield 314, 3) := by decide +kernel
theorem dX7_allThatFits_178 : decode cX7_allThatFits 178 = .ok (.iload 4, 2) := by decide +kernel
theorem dX7_allThatFits_180 : decode cX7_allThatFits 180 = .ok (.aaload, 1) := by decide +kernel
theorem dX7_allThatFits_181 : decode cX7_allThatFits 181 = .ok (.iload 5, 2) := by decide +kernel
theorem dX7_allThatFits_183 : decode cX7_allThatFits 183 = .ok (.iload 6, 2) := by decide +kernel
theorem dX7_allThatFits_185 : decode cX7_allThatFits 185 = .ok (.invokevirtual 318, 3) := by decide +kernel
theorem dX7_allThatFits_188 : decode cX7_allThatFits 188 = .ok (.ifCond .eq 12, 3) := by decide +kernel
theorem dX7_allThatFits_191 : decode cX7_allThatFits 191 = .ok (.iload 9, 2) := by decide +kernel
theorem dX7_allThatFits_193 : decode cX7_allThatFits 193 = .ok (.iconst 1, 1) := by decide +kernel
theorem dX7_allThatFits_194 : decode cX7_allThatFits 194 = .ok (.iload 10, 2) := by decide +kernel
theorem dX7_allThatFits_196 : decode cX7_allThatFits 196 = .ok (.ishl, 1) := by decide +kernel
theorem dX7_allThatFits_197 : decode cX7_allThatFits 197 = .ok (.ior, 1) := by decide +kernel
theorem dX7_allThatFits_198 : decode cX7_allThatFits 198 = .ok (.istore 9, 2) := by decide +kernel
theorem dX7_allThatFits_200 : decode cX7_allThatFits 200 = .ok (.iinc 10 1, 3) := by decide +kernel
theorem dX7_allThatFits_203 : decode cX7_allThatFits 203 = .ok (.goto (-63), 3) := by decide +kernel
theorem dX7_allThatFits_206 : decode cX7_allThatFits 206 = .ok (.aload_n 0, 1) := by decide +kernel
theorem dX7_allThatFits_207 : decode cX7_allThatFits 207 = .ok (.iload 9, 2) := by decide +kernel
theorem dX7_allThatFits_209 : decode cX7_allThatFits 209 = .ok (.invokevirtual 75, 3) := by decide +kernel
theorem dX7_allThatFits_212 : decode cX7_allThatFits 212 = .ok (.ireturn, 1) := by decide +kernel
theorem dX7_greatestDivisor_0 : decode cX7_greatestDivisor 0 = .ok (.iconst 0, 1) := by decide +kernel
theorem dX7_greatestDivisor_1 : decode cX7_greatestDivisor 1 = .ok (.istore 4, 2) := by decide +kernel
theorem dX7_greatestDivisor_3 : decode cX7_greatestDivisor 3 = .ok (.iload 4, 2) := by decide +kernel
theorem dX7_greatestDivisor_5 : decode cX7_greatestDivisor 5 = .ok (.bipush 100, 2) := by decide +kernel
theorem dX7_greatestDivisor_7 : decode cX7_greatestDivisor 7 = .ok (.if_icmp .ge 25, 3) := by decide +kernel
theorem dX7_greatestDivisor_10 : decode cX7_greatestDivisor 10 = .ok (.lload_n 2, 1) := by decide +kernel
theorem dX7_greatestDivisor_11 : decode cX7_greatestDivisor 11 = .ok (.lconst 0, 1) := by decide +kernel
theorem dX7_greatestDivisor_12 : decode cX7_greatestDivisor 12 = .ok (.lcmp, 1) := by decide +kernel
theorem dX7_greatestDivisor_13 : decode cX7_greatestDivisor 13 = .ok (.ifCond .eq 19, 3) := by decide +kernel
theorem dX7_greatestDivisor_16 : decode cX7_greatestDivisor 16 = .ok (.lload_n 0, 1) := by decide +kernel
theorem dX7_greatestDivisor_17 : decode cX7_greatestDivisor 17 = .ok (.lload_n 2, 1) := by decide +kernel
theorem dX7_greatestDivisor_18 : decode cX7_greatestDivisor 18 = .ok (.lrem, 1) := by decide +kernel
theorem dX7_greatestDivisor_19 : decode cX7_greatestDivisor 19 = .ok (.lstore 5, 2) := by decide +kernel
theorem dX7_greatestDivisor_21 : decode cX7_greatestDivisor 21 = .ok (.lload_n 2, 1) := by decide +kernel
theorem dX7_greatestDivisor_22 : decode cX7_greatestDivisor 22 = .ok (.lstore_n 0, 1) := by decide +kernel
theorem dX7_greatestDivisor_23 : decode cX7_greatestDivisor 23 = .ok (.lload 5, 2) := by decide +kernel
theorem dX7_greatestDivisor_25 : decode cX7_greatestDivisor 25 = .ok (.lstore_n 2, 1) := by decide +kernel
theorem dX7_greatestDivisor_26 : decode cX7_greatestDivisor 26 = .ok (.iinc 4 1, 3) := by decide +kernel
theorem dX7_greatestDivisor_29 : decode cX7_greatestDivisor 29 = .ok (.goto (-26), 3) := by decide +kernel
theorem dX7_greatestDivisor_32 : decode cX7_greatestDivisor 32 = .ok (.lload_n 0, 1) := by decide +kernel
theorem dX7_greatestDivisor_33 : decode cX7_greatestDivisor 33 = .ok (.lreturn, 1) := by decide +kernel
