theorem dX7_dot_38 : decode cX7_dot 38 = .ok (.iadd, 1) := by decide +kernel
theorem dX7_dot_39 : decode cX7_dot 39 = .ok (.baload, 1) := by decide +kernel
theorem dX7_dot_40 : decode cX7_dot 40 = .ok (.ifCond .eq 7, 3) := by decide +kernel
theorem dX7_dot_43 : decode cX7_dot 43 = .ok (.iconst 1, 1) := by decide +kernel
theorem dX7_dot_44 : decode cX7_dot 44 = .ok (.goto 4, 3) := by decide +kernel
theorem dX7_dot_47 : decode cX7_dot 47 = .ok (.iconst 0, 1) := by decide +kernel
theorem dX7_dot_48 : decode cX7_dot 48 = .ok (.istore 4, 2) := by decide +kernel
theorem dX7_dot_50 : decode cX7_dot 50 = .ok (.aload_n 0, 1) := by decide +kernel
theorem dX7_dot_51 : decode cX7_dot 51 = .ok (.getfield 13, 3) := by decide +kernel
theorem dX7_dot_54 : decode cX7_dot 54 = .ok (.bipush 32, 2) := by decide +kernel
theorem dX7_dot_56 : decode cX7_dot 56 = .ok (.iload_n 1, 1) := by decide +kernel
theorem dX7_dot_57 : decode cX7_dot 57 = .ok (.imul, 1) := by decide +kernel
theorem dX7_dot_58 : decode cX7_dot 58 = .ok (.iload_n 2, 1) := by decide +kernel
theorem dX7_dot_59 : decode cX7_dot 59 = .ok (.iadd, 1) := by decide +kernel
theorem dX7_dot_60 : decode cX7_dot 60 = .ok (.iload_n 3, 1) := by decide +kernel
theorem dX7_dot_61 : decode cX7_dot 61 = .ok (.iconst 1, 1) := by decide +kernel
theorem dX7_dot_62 : decode cX7_dot 62 = .ok (.if_icmp .ne 7, 3) := by decide +kernel
theorem dX7_dot_65 : decode cX7_dot 65 = .ok (.iconst 1, 1) := by decide +kernel
theorem dX7_dot_66 : decode cX7_dot 66 = .ok (.goto 4, 3) := by decide +kernel
theorem dX7_dot_69 : decode cX7_dot 69 = .ok (.iconst 0, 1) := by decide +kernel
theorem dX7_dot_70 : decode cX7_dot 70 = .ok (.bastore, 1) := by decide +kernel
theorem dX7_dot_71 : decode cX7_dot 71 = .ok (.aload_n 0, 1) := by decide +kernel
theorem dX7_dot_72 : decode cX7_dot 72 = .ok (.iconst 0, 1) := by decide +kernel
theorem dX7_dot_73 : decode cX7_dot 73 = .ok (.putfield 81, 3) := by decide +kernel
theorem dX7_dot_76 : decode cX7_dot 76 = .ok (.iload 4, 2) := by decide +kernel
theorem dX7_dot_78 : decode cX7_dot 78 = .ok (.ireturn, 1) := by decide +kernel
theorem dX7_column_0 : decode cX7_column 0 = .ok (.aload_n 0, 1) := by decide +kernel
theorem dX7_column_1 : decode cX7_column 1 = .ok (.iload_n 1, 1) := by decide +kernel
theorem dX7_column_2 : decode cX7_column 2 = .ok (.invokevirtual 70, 3) := by decide +kernel
theorem dX7_column_5 : decode cX7_column 5 = .ok (.ifCond .ne 7, 3) := by decide +kernel
theorem dX7_column_8 : decode cX7_column 8 = .ok (.ldc2_w 84, 3) := by decide +kernel
theorem dX7_column_11 : decode cX7_column 11 = .ok (.lreturn, 1) := by decide +kernel
theorem dX7_column_12 : decode cX7_column 12 = .ok (.lconst 0, 1) := by decide +kernel
theorem dX7_column_13 : decode cX7_column 13 = .ok (.lstore_n 2, 1) := by decide +kernel
theorem dX7_column_14 : decode cX7_column 14 = .ok (.bipush 31, 2) := by decide +kernel
theorem dX7_column_16 : decode cX7_column 16 = .ok (.istore 4, 2) := by decide +kernel
theorem dX7_column_18 : decode cX7_column 18 = .ok (.iload 4, 2) := by decide +kernel
theorem dX7_column_20 : decode cX7_column 20 = .ok (.ifCond .lt 31, 3) := by decide +kernel
theorem dX7_column_23 : decode cX7_column 23 = .ok (.ldc2_w 86, 3) := by decide +kernel
theorem dX7_column_26 : decode cX7_column 26 = .ok (.lload_n 2, 1) := by decide +kernel
theorem dX7_column_27 : decode cX7_column 27 = .ok (.lmul, 1) := by decide +kernel
theorem dX7_column_28 : decode cX7_column 28 = .ok (.aload_n 0, 1) := by decide +kernel
theorem dX7_column_29 : decode cX7_column 29 = .ok (.iload_n 1, 1) := by decide +kernel
theorem dX7_column_30 : decode cX7_column 30 = .ok (.iload 4, 2) := by decide +kernel
theorem dX7_column_32 : decode cX7_column 32 = .ok (.invokevirtual 88, 3) := by decide +kernel
theorem dX7_column_35 : decode cX7_column 35 = .ok (.ifCond .eq 7, 3) := by decide +kernel
theorem dX7_column_38 : decode cX7_column 38 = .ok (.lconst 1, 1) := by decide +kernel
theorem dX7_column_39 : decode cX7_column 39 = .ok (.goto 4, 3) := by decide +kernel
theorem dX7_column_42 : decode cX7_column 42 = .ok (.lconst 0, 1) := by decide +kernel
theorem dX7_column_43 : decode cX7_column 43 = .ok (.ladd, 1) := by decide +kernel
theorem dX7_column_44 : decode cX7_column 44 = .ok (.lstore_n 2, 1) := by decide +kernel
theorem dX7_column_45 : decode cX7_column 45 = .ok (.iinc 4 (-1), 3) := by decide +kernel
theorem dX7_column_48 : decode cX7_column 48 = .ok (.goto (-30), 3) := by decide +kernel
theorem dX7_column_51 : decode cX7_column 51 = .ok (.lload_n 2, 1) := by decide +kernel
theorem dX7_column_52 : decode cX7_column 52 = .ok (.lreturn, 1) := by decide +kernel
theorem dX7_isCard_0 : decode cX7_isCard 0 = .ok (.iload_n 0, 1) := by decide +kernel
theorem dX7_isCard_1 : decode cX7_isCard 1 = .ok (.iconst 0, 1) := by decide +kernel
theorem dX7_isCard_2 : decode cX7_isCard 2 = .ok (.iconst 3, 1) := by decide +kernel
theorem dX7_isCard_3 : decode cX7_isCard 3 = .ok (.invokestatic 66, 3) := by decide +kernel
theorem dX7_isCard_6 : decode cX7_isCard 6 = .ok (.ireturn, 1) := by decide +kernel
theorem dX7_cut_0 : decode cX7_cut 0 = .ok (.iload_n 0, 1) := by decide +kernel
theorem dX7_cut_1 : decode cX7_cut 1 = .ok (.tableswitch 38 0 2 #[27, 30, 35], 27) := by decide +kernel
theorem dX7_cut_28 : decode cX7_cut 28 = .ok (.iload_n 1, 1) := by decide +kernel
theorem dX7_cut_29 : decode cX7_cut 29 = .ok (.i2b, 1) := by decide +kernel
theorem dX7_cut_30 : decode cX7_cut 30 = .ok (.ireturn, 1) := by decide +kernel
theorem dX7_cut_31 : decode cX7_cut 31 = .ok (.iload_n 1, 1) := by decide +kernel
theorem dX7_cut_32 : decode cX7_cut 32 = .ok (.ldc 92, 2) := by decide +kernel
theorem dX7_cut_34 : decode cX7_cut 34 = .ok (.iand, 1) := by decide +kernel
theorem dX7_cut_35 : decode cX7_cut 35 = .ok (.ireturn, 1) := by decide +kernel
theorem dX7_cut_36 : decode cX7_cut 36 = .ok (.iload_n 1, 1) := by decide +kernel
theorem dX7_cut_37 : decode cX7_cut 37 = .ok (.i2s, 1) := by decide +kernel
theorem dX7_cut_38 : decode cX7_cut 38 = .ok (.ireturn, 1) := by decide +kernel
theorem dX7_cut_39 : decode cX7_cut 39 = .ok (.iload_n 1, 1) := by decide +kernel
theorem dX7_cut_40 : decode cX7_cut 40 = .ok (.ifCond .ne 7, 3) := by decide +kernel
theorem dX7_cut_43 : decode cX7_cut 43 = .ok (.iconst 0, 1) := by decide +kernel
theorem dX7_cut_44 : decode cX7_cut 44 = .ok (.goto 4, 3) := by decide +kernel
theorem dX7_cut_47 : decode cX7_cut 47 = .ok (.iconst 1, 1) := by decide +kernel
theorem dX7_cut_48 : decode cX7_cut 48 = .ok (.ireturn, 1) := by decide +kernel
theorem dX7_row_0 : decode cX7_row 0 = .ok (.iload_n 1, 1) := by decide +kernel
theorem dX7_row_1 : decode cX7_row 1 = .ok (.invokestatic 74, 3) := by decide +kernel
theorem dX7_row_4 : decode cX7_row 4 = .ok (.ifCond .eq 10, 3) := by decide +kernel
theorem dX7_row_7 : decode cX7_row 7 = .ok (.iload_n 2, 1) := by decide +kernel
theorem dX7_row_8 : decode cX7_row 8 = .ok (.invokestatic 93, 3) := by decide +kernel
theorem dX7_row_11 : decode cX7_row 11 = .ok (.ifCond .ne 9, 3) := by decide +kernel
theorem dX7_row_14 : decode cX7_row 14 = .ok (.aload_n 0, 1) := by decide +kernel
theorem dX7_row_15 : decode cX7_row 15 = .ok (.iconst (-1), 1) := by decide +kernel
theorem dX7_row_16 : decode cX7_row 16 = .ok (.invokevirtual 96, 3) := by decide +kernel
theorem dX7_row_19 : decode cX7_row 19 = .ok (.ireturn, 1) := by decide +kernel
theorem dX7_row_20 : decode cX7_row 20 = .ok (.aload_n 0, 1) := by decide +kernel
theorem dX7_row_21 : decode cX7_row 21 = .ok (.getfield 17, 3) := by decide +kernel
theorem dX7_row_24 : decode cX7_row 24 = .ok (.iload_n 2, 1) := by decide +kernel
theorem dX7_row_25 : decode cX7_row 25 = .ok (.iaload, 1) := by decide +kernel
theorem dX7_row_26 : decode cX7_row 26 = .ok (.bipush (-9), 2) := by decide +kernel
theorem dX7_row_28 : decode cX7_row 28 = .ok (.if_icmp .ne 9, 3) := by decide +kernel
theorem dX7_row_31 : decode cX7_row 31 = .ok (.aload_n 0, 1) := by decide +kernel
theorem dX7_row_32 : decode cX7_row 32 = .ok (.iconst 1, 1) := by decide +kernel
theorem dX7_row_33 : decode cX7_row 33 = .ok (.invokevirtual 100, 3) := by decide +kernel
theorem dX7_row_36 : decode cX7_row 36 = .ok (.ireturn, 1) := by decide +kernel
theorem dX7_row_37 : decode cX7_row 37 = .ok (.iconst 0, 1) := by decide +kernel
theorem dX7_row_38 : decode cX7_row 38 = .ok (.istore_n 3, 1) := by decide +kernel
theorem dX7_row_39 : decode cX7_row 39 = .ok (.iconst 0, 1) := by decide +kernel
theorem dX7_row_40 : decode cX7_row 40 = .ok (.istore 4, 2) := by decide +kernel
theorem dX7_row_42 : decode cX7_row 42 = .ok (.iload 4, 2) := by decide +kernel
theorem dX7_row_44 : decode cX7_row 44 = .ok (.aload_n 0, 1) := by decide +kernel
theorem dX7_row_45 : decode cX7_row 45 = .ok (.getfield 7, 3) := by decide +kernel
theorem dX7_row_48 : decode cX7_row 48 = .ok (.if_icmp .ge 69, 3) := by decide +kernel
theorem dX7_row_51 : decode cX7_row 51 = .ok (.iload 4, 2) := by decide +kernel
theorem dX7_row_53 : decode cX7_row 53 = .ok (.aload_n 0, 1) := by decide +kernel
theorem dX7_row_54 : decode cX7_row 54 = .ok (.getfield 21, 3) := by decide +kernel
theorem dX7_row_57 : decode cX7_row 57 = .ok (.iload_n 2, 1) := by decide +kernel
theorem dX7_row_58 : decode cX7_row 58 = .ok (.iaload, 1) := by decide +kernel
theorem dX7_row_59 : decode cX7_row 59 = .ok (.if_icmp .ge 22, 3) := by decide +kernel
theorem dX7_row_62 : decode cX7_row 62 = .ok (.aload_n 0, 1) := by decide +kernel
theorem dX7_row_63 : decode cX7_row 63 = .ok (.getfield 24, 3) := by decide +kernel
theorem dX7_row_66 : decode cX7_row 66 = .ok (.bipush 32, 2) := by decide +kernel
theorem dX7_row_68 : decode cX7_row 68 = .ok (.iload_n 2, 1) := by decide +kernel
theorem dX7_row_69 : decode cX7_row 69 = .ok (.imul, 1) := by decide +kernel
theorem dX7_row_70 : decode cX7_row 70 = .ok (.iload 4, 2) := by decide +kernel
theorem dX7_row_72 : decode cX7_row 72 = .ok (.iadd, 1) := by decide +kernel
theorem dX7_row_73 : decode cX7_row 73 = .ok (.iaload, 1) := by decide +kernel
theorem dX7_row_74 : decode cX7_row 74 = .ok (.ifCond .eq 7, 3) := by decide +kernel
theorem dX7_row_77 : decode cX7_row 77 = .ok (.iconst 1, 1) := by decide +kernel
theorem dX7_row_78 : decode cX7_row 78 = .ok (.goto 4, 3) := by decide +kernel
theorem dX7_row_81 : decode cX7_row 81 = .ok (.iconst 0, 1) := by decide +kernel
theorem dX7_row_82 : decode cX7_row 82 = .ok (.istore 5, 2) := by decide +kernel
theorem dX7_row_84 : decode cX7_row 84 = .ok (.aload_n 0, 1) := by decide +kernel
theorem dX7_row_85 : decode cX7_row 85 = .ok (.getfield 13, 3) := by decide +kernel
theorem dX7_row_88 : decode cX7_row 88 = .ok (.bipush 32, 2) := by decide +kernel
theorem dX7_row_90 : decode cX7_row 90 = .ok (.iload 4, 2) := by decide +kernel
theorem dX7_row_92 : decode cX7_row 92 = .ok (.imul, 1) := by decide +kernel
theorem dX7_row_93 : decode cX7_row 93 = .ok (.iload_n 1, 1) := by decide +kernel
theorem dX7_row_94 : decode cX7_row 94 = .ok (.iadd, 1) := by decide +kernel
theorem dX7_row_95 : decode cX7_row 95 = .ok (.iload 5, 2) := by decide +kernel
theorem dX7_row_97 : decode cX7_row 97 = .ok (.bastore, 1) := by decide +kernel
theorem dX7_row_98 : decode cX7_row 98 = .ok (.iload_n 3, 1) := by decide +kernel
theorem dX7_row_99 : decode cX7_row 99 = .ok (.iload 5, 2) := by decide +kernel
theorem dX7_row_101 : decode cX7_row 101 = .ok (.ifCond .eq 7, 3) := by decide +kernel
theorem dX7_row_104 : decode cX7_row 104 = .ok (.iconst 1, 1) := by decide +kernel
theorem dX7_row_105 : decode cX7_row 105 = .ok (.goto 4, 3) := by decide +kernel
theorem dX7_row_108 : decode cX7_row 108 = .ok (.iconst 0, 1) := by decide +kernel
theorem dX7_row_109 : decode cX7_row 109 = .ok (.iadd, 1) := by decide +kernel
theorem dX7_row_110 : decode cX7_row 110 = .ok (.istore_n 3, 1) := by decide +kernel
theorem dX7_row_111 : decode cX7_row 111 = .ok (.iinc 4 1, 3) := by decide +kernel
theorem dX7_row_114 : decode cX7_row 114 = .ok (.goto (-72), 3) := by decide +kernel
theorem dX7_row_117 : decode cX7_row 117 = .ok (.aload_n 0, 1) := by decide +kernel
theorem dX7_row_118 : decode cX7_row 118 = .ok (.iconst 0, 1) := by decide +kernel
theorem dX7_row_119 : decode cX7_row 119 = .ok (.putfield 81, 3) := by decide +kernel
theorem dX7_row_122 : decode cX7_row 122 = .ok (.aload_n 0, 1) := by decide +kernel
theorem dX7_row_123 : decode cX7_row 123 = .ok (.iload_n 3, 1) := by decide +kernel
theorem dX7_row_124 : decode cX7_row 124 = .ok (.invokevirtual 96, 3) := by decide +kernel
theorem dX7_row_127 : decode cX7_row 127 = .ok (.ireturn, 1) := by decide +kernel
theorem dX7_clears_0 : decode cX7_clears 0 = .ok (.aload_n 0, 1) := by decide +kernel
theorem dX7_clears_1 : decode cX7_clears 1 = .ok (.getfield 17, 3) := by decide +kernel
theorem dX7_clears_4 : decode cX7_clears 4 = .ok (.iload_n 1, 1) := by decide +kernel
theorem dX7_clears_5 : decode cX7_clears 5 = .ok (.iload_n 2, 1) := by decide +kernel
theorem dX7_clears_6 : decode cX7_clears 6 = .ok (.iastore, 1) := by decide +kernel
theorem dX7_clears_7 : decode cX7_clears 7 = .ok (.aload_n 0, 1) := by decide +kernel
theorem dX7_clears_8 : decode cX7_clears 8 = .ok (.getfield 21, 3) := by decide +kernel
theorem dX7_clears_11 : decode cX7_clears 11 = .ok (.iload_n 1, 1) := by decide +kernel
theorem dX7_clears_12 : decode cX7_clears 12 = .ok (.iload_n 3, 1) := by decide +kernel
theorem dX7_clears_13 : decode cX7_clears 13 = .ok (.iastore, 1) := by decide +kernel
theorem dX7_clears_14 : decode cX7_clears 14 = .ok (.iconst 0, 1) := by decide +kernel
theorem dX7_clears_15 : decode cX7_clears 15 = .ok (.istore 4, 2) := by decide +kernel
theorem dX7_clears_17 : decode cX7_clears 17 = .ok (.iload 4, 2) := by decide +kernel
theorem dX7_clears_19 : decode cX7_clears 19 = .ok (.bipush 32, 2) := by decide +kernel
theorem dX7_clears_21 : decode cX7_clears 21 = .ok (.if_icmp .ge 22, 3) := by decide +kernel
theorem dX7_clears_24 : decode cX7_clears 24 = .ok (.aload_n 0, 1) := by decide +kernel
theorem dX7_clears_25 : decode cX7_clears 25 = .ok (.getfield 24, 3) := by decide +kernel
theorem dX7_clears_28 : decode cX7_clears 28 = .ok (.bipush 32, 2) := by decide +kernel
theorem dX7_clears_30 : decode cX7_clears 30 = .ok (.iload_n 1, 1) := by decide +kernel
theorem dX7_clears_31 : decode cX7_clears 31 = .ok (.imul, 1) := by decide +kernel
theorem dX7_clears_32 : decode cX7_clears 32 = .ok (.iload 4, 2) := by decide +kernel
theorem dX7_clears_34 : decode cX7_clears 34 = .ok (.iadd, 1) := by decide +kernel
theorem dX7_clears_35 : decode cX7_clears 35 = .ok (.iconst 0, 1) := by decide +kernel
theorem dX7_clears_36 : decode cX7_clears 36 = .ok (.iastore, 1) := by decide +kernel
theorem dX7_clears_37 : decode cX7_clears 37 = .ok (.iinc 4 1, 3) := by decide +kernel
theorem dX7_clears_40 : decode cX7_clears 40 = .ok (.goto (-23), 3) := by decide +kernel
theorem dX7_clears_43 : decode cX7_clears 43 = .ok (.return_, 1) := by decide +kernel
theorem dX7_take_0 : decode cX7_take 0 = .ok (.iload_n 1, 1) := by decide +kernel
theorem dX7_take_1 : decode cX7_take 1 = .ok (.invokestatic 93, 3) := by decide +kernel
theorem dX7_take_4 : decode cX7_take 4 = .ok (.ifCond .eq 10, 3) := by decide +kernel
theorem dX7_take_7 : decode cX7_take 7 = .ok (.iload_n 2, 1) := by decide +kernel
theorem dX7_take_8 : decode cX7_take 8 = .ok (.invokestatic 74, 3) := by decide +kernel
theorem dX7_take_11 : decode cX7_take 11 = .ok (.ifCond .ne 5, 3) := by decide +kernel
theorem dX7_take_14 : decode cX7_take 14 = .ok (.iconst (-1), 1) := by decide +kernel
theorem dX7_take_15 : decode cX7_take 15 = .ok (.ireturn, 1) := by decide +kernel
theorem dX7_take_16 : decode cX7_take 16 = .ok (.aload_n 0, 1) := by decide +kernel
theorem dX7_take_17 : decode cX7_take 17 = .ok (.iload_n 1, 1) := by decide +kernel
theorem dX7_take_18 : decode cX7_take 18 = .ok (.iconst 3, 1) := by decide +kernel
theorem dX7_take_19 : decode cX7_take 19 = .ok (.aload_n 0, 1) := by decide +kernel
theorem dX7_take_20 : decode cX7_take 20 = .ok (.getfield 7, 3) := by decide +kernel
theorem dX7_take_23 : decode cX7_take 23 = .ok (.invokevirtual 103, 3) := by decide +kernel
theorem dX7_take_26 : decode cX7_take 26 = .ok (.iconst 0, 1) := by decide +kernel
theorem dX7_take_27 : decode cX7_take 27 = .ok (.istore_n 3, 1) := by decide +kernel
theorem dX7_take_28 : decode cX7_take 28 = .ok (.iconst 0, 1) := by decide +kernel
theorem dX7_take_29 : decode cX7_take 29 = .ok (.istore 4, 2) := by decide +kernel
theorem dX7_take_31 : decode cX7_take 31 = .ok (.iload 4, 2) := by decide +kernel
theorem dX7_take_33 : decode cX7_take 33 = .ok (.aload_n 0, 1) := by decide +kernel
theorem dX7_take_34 : decode cX7_take 34 = .ok (.getfield 7, 3) := by decide +kernel
theorem dX7_take_37 : decode cX7_take 37 = .ok (.if_icmp .ge 54, 3) := by decide +kernel
theorem dX7_take_40 : decode cX7_take 40 = .ok (.aload_n 0, 1) := by decide +kernel
theorem dX7_take_41 : decode cX7_take 41 = .ok (.getfield 24, 3) := by decide +kernel
theorem dX7_take_44 : decode cX7_take 44 = .ok (.bipush 32, 2) := by decide +kernel
theorem dX7_take_46 : decode cX7_take 46 = .ok (.iload_n 1, 1) := by decide +kernel
theorem dX7_take_47 : decode cX7_take 47 = .ok (.imul, 1) := by decide +kernel
theorem dX7_take_48 : decode cX7_take 48 = .ok (.iload 4, 2) := by decide +kernel
theorem dX7_take_50 : decode cX7_take 50 = .ok (.iadd, 1) := by decide +kernel
theorem dX7_take_51 : decode cX7_take 51 = .ok (.aload_n 0, 1) := by decide +kernel
theorem dX7_take_52 : decode cX7_take 52 = .ok (.iload 4, 2) := by decide +kernel
theorem dX7_take_54 : decode cX7_take 54 = .ok (.iload_n 2, 1) := by decide +kernel
theorem dX7_take_55 : decode cX7_take 55 = .ok (.invokevirtual 88, 3) := by decide +kernel
theorem dX7_take_58 : decode cX7_take 58 = .ok (.ifCond .eq 7, 3) := by decide +kernel
theorem dX7_take_61 : decode cX7_take 61 = .ok (.iconst 1, 1) := by decide +kernel
theorem dX7_take_62 : decode cX7_take 62 = .ok (.goto 4, 3) := by decide +kernel
theorem dX7_take_65 : decode cX7_take 65 = .ok (.iconst 0, 1) := by decide +kernel
theorem dX7_take_66 : decode cX7_take 66 = .ok (.iastore, 1) := by decide +kernel
theorem dX7_take_67 : decode cX7_take 67 = .ok (.iload_n 3, 1) := by decide +kernel
theorem dX7_take_68 : decode cX7_take 68 = .ok (.aload_n 0, 1) := by decide +kernel
theorem dX7_take_69 : decode cX7_take 69 = .ok (.iload 4, 2) := by decide +kernel
theorem dX7_take_71 : decode cX7_take 71 = .ok (.iload_n 2, 1) := by decide +kernel
theorem dX7_take_72 : decode cX7_take 72 = .ok (.invokevirtual 88, 3) := by decide +kernel
theorem dX7_take_75 : decode cX7_take 75 = .ok (.ifCond .eq 7, 3) := by decide +kernel
theorem dX7_take_78 : decode cX7_take 78 = .ok (.iconst 1, 1) := by decide +kernel
theorem dX7_take_79 : decode cX7_take 79 = .ok (.goto 4, 3) := by decide +kernel
theorem dX7_take_82 : decode cX7_take 82 = .ok (.iconst 0, 1) := by decide +kernel
theorem dX7_take_83 : decode cX7_take 83 = .ok (.iadd, 1) := by decide +kernel
theorem dX7_take_84 : decode cX7_take 84 = .ok (.istore_n 3, 1) := by decide +kernel
theorem dX7_take_85 : decode cX7_take 85 = .ok (.iinc 4 1, 3) := by decide +kernel
theorem dX7_take_88 : decode cX7_take 88 = .ok (.goto (-57), 3) := by decide +kernel
theorem dX7_take_91 : decode cX7_take 91 = .ok (.iload_n 3, 1) := by decide +kernel
theorem dX7_take_92 : decode cX7_take 92 = .ok (.ireturn, 1) := by decide +kernel
theorem dX7_blank_0 : decode cX7_blank 0 = .ok (.iload_n 1, 1) := by decide +kernel
theorem dX7_blank_1 : decode cX7_blank 1 = .ok (.invokestatic 93, 3) := by decide +kernel
theorem dX7_blank_4 : decode cX7_blank 4 = .ok (.ifCond .ne 9, 3) := by decide +kernel
theorem dX7_blank_7 : decode cX7_blank 7 = .ok (.aload_n 0, 1) := by decide +kernel
theorem dX7_blank_8 : decode cX7_blank 8 = .ok (.iconst (-1), 1) := by decide +kernel
theorem dX7_blank_9 : decode cX7_blank 9 = .ok (.invokevirtual 96, 3) := by decide +kernel
theorem dX7_blank_12 : decode cX7_blank 12 = .ok (.ireturn, 1) := by decide +kernel
theorem dX7_blank_13 : decode cX7_blank 13 = .ok (.iload_n 2, 1) := by decide +kernel
theorem dX7_blank_14 : decode cX7_blank 14 = .ok (.iconst 0, 1) := by decide +kernel
theorem dX7_blank_15 : decode cX7_blank 15 = .ok (.iconst 3, 1) := by decide +kernel
theorem dX7_blank_16 : decode cX7_blank 16 = .ok (.invokestatic 66, 3) := by decide +kernel
theorem dX7_blank_19 : decode cX7_blank 19 = .ok (.ifCond .eq 9, 3) := by decide +kernel
theorem dX7_blank_22 : decode cX7_blank 22 = .ok (.iload_n 3, 1) := by decide +kernel
theorem dX7_blank_23 : decode cX7_blank 23 = .ok (.bipush 32, 2) := by decide +kernel
theorem dX7_blank_25 : decode cX7_blank 25 = .ok (.if_icmp .le 10, 3) := by decide +kernel
theorem dX7_blank_28 : decode cX7_blank 28 = .ok (.aload_n 0, 1) := by decide +kernel
theorem dX7_blank_29 : decode cX7_blank 29 = .ok (.bipush (-2), 2) := by decide +kernel
theorem dX7_blank_31 : decode cX7_blank 31 = .ok (.invokevirtual 96, 3) := by decide +kernel
theorem dX7_blank_34 : decode cX7_blank 34 = .ok (.ireturn, 1) := by decide +kernel
theorem dX7_blank_35 : decode cX7_blank 35 = .ok (.iload_n 3, 1) := by decide +kernel
theorem dX7_blank_36 : decode cX7_blank 36 = .ok (.ifCond .ge 9, 3) := by decide +kernel
theorem dX7_blank_39 : decode cX7_blank 39 = .ok (.aload_n 0, 1) := by decide +kernel
theorem dX7_blank_40 : decode cX7_blank 40 = .ok (.iconst 4, 1) := by decide +kernel
theorem dX7_blank_41 : decode cX7_blank 41 = .ok (.invokevirtual 100, 3) := by decide +kernel
theorem dX7_blank_44 : decode cX7_blank 44 = .ok (.ireturn, 1) := by decide +kernel
theorem dX7_blank_45 : decode cX7_blank 45 = .ok (.aload_n 0, 1) := by decide +kernel
theorem dX7_blank_46 : decode cX7_blank 46 = .ok (.iload_n 1, 1) := by decide +kernel
theorem dX7_blank_47 : decode cX7_blank 47 = .ok (.iload_n 2, 1) := by decide +kernel
theorem dX7_blank_48 : decode cX7_blank 48 = .ok (.iload_n 3, 1) := by decide +kernel
theorem dX7_blank_49 : decode cX7_blank 49 = .ok (.invokevirtual 103, 3) := by decide +kernel
theorem dX7_blank_52 : decode cX7_blank 52 = .ok (.aload_n 0, 1) := by decide +kernel
theorem dX7_blank_53 : decode cX7_blank 53 = .ok (.iconst 1, 1) := by decide +kernel
theorem dX7_blank_54 : decode cX7_blank 54 = .ok (.invokevirtual 96, 3) := by decide +kernel
theorem dX7_blank_57 : decode cX7_blank 57 = .ok (.ireturn, 1) := by decide +kernel
theorem dX7_against_0 : decode cX7_against 0 = .ok (.aload_n 0, 1) := by decide +kernel
theorem dX7_against_1 : decode cX7_against 1 = .ok (.getfield 17, 3) := by decide +kernel
theorem dX7_against_4 : decode cX7_against 4 = .ok (.iload_n 1, 1) := by decide +kernel
theorem dX7_against_5 : decode cX7_against 5 = .ok (.iaload, 1) := by decide +kernel
theorem dX7_against_6 : decode cX7_against 6 = .ok (.bipush (-9), 2) := by decide +kernel
theorem dX7_against_8 : decode cX7_against 8 = .ok (.if_icmp .ne 7, 3) := by decide +kernel
theorem dX7_against_11 : decode cX7_against 11 = .ok (.iconst 1, 1) := by decide +kernel
theorem dX7_against_12 : decode cX7_against 12 = .ok (.goto 24, 3) := by decide +kernel
theorem dX7_against_15 : decode cX7_against 15 = .ok (.iload_n 2, 1) := by decide +kernel
theorem dX7_against_16 : decode cX7_against 16 = .ok (.iconst 0, 1) := by decide +kernel
theorem dX7_against_17 : decode cX7_against 17 = .ok (.aload_n 0, 1) := by decide +kernel
theorem dX7_against_18 : decode cX7_against 18 = .ok (.getfield 21, 3) := by decide +kernel
theorem dX7_against_21 : decode cX7_against 21 = .ok (.iload_n 1, 1) := by decide +kernel
theorem dX7_against_22 : decode cX7_against 22 = .ok (.iaload, 1) := by decide +kernel
theorem dX7_against_23 : decode cX7_against 23 = .ok (.iconst 1, 1) := by decide +kernel
theorem dX7_against_24 : decode cX7_against 24 = .ok (.isub, 1) := by decide +kernel
theorem dX7_against_25 : decode cX7_against 25 = .ok (.invokestatic 66, 3) := by decide +kernel
theorem dX7_against_28 : decode cX7_against 28 = .ok (.ifCond .eq 7, 3) := by decide +kernel
theorem dX7_against_31 : decode cX7_against 31 = .ok (.iconst 0, 1) := by decide +kernel
theorem dX7_against_32 : decode cX7_against 32 = .ok (.goto 4, 3) := by decide +kernel
theorem dX7_against_35 : decode cX7_against 35 = .ok (.iconst 3, 1) := by decide +kernel
theorem dX7_against_36 : decode cX7_against 36 = .ok (.ireturn, 1) := by decide +kernel
theorem dX7_put_0 : decode cX7_put 0 = .ok (.iload_n 1, 1) := by decide +kernel
theorem dX7_put_1 : decode cX7_put 1 = .ok (.invokestatic 93, 3) := by decide +kernel
theorem dX7_put_4 : decode cX7_put 4 = .ok (.ifCond .ne 9, 3) := by decide +kernel
theorem dX7_put_7 : decode cX7_put 7 = .ok (.aload_n 0, 1) := by decide +kernel
theorem dX7_put_8 : decode cX7_put 8 = .ok (.iconst (-1), 1) := by decide +kernel
theorem dX7_put_9 : decode cX7_put 9 = .ok (.invokevirtual 96, 3) := by decide +kernel
theorem dX7_put_12 : decode cX7_put 12 = .ok (.ireturn, 1) := by decide +kernel
theorem dX7_put_13 : decode cX7_put 13 = .ok (.aload_n 0, 1) := by decide +kernel
theorem dX7_put_14 : decode cX7_put 14 = .ok (.iload_n 1, 1) := by decide +kernel
theorem dX7_put_15 : decode cX7_put 15 = .ok (.iload_n 2, 1) := by decide +kernel
theorem dX7_put_16 : decode cX7_put 16 = .ok (.invokevirtual 107, 3) := by decide +kernel
theorem dX7_put_19 : decode cX7_put 19 = .ok (.istore 4, 2) := by decide +kernel
theorem dX7_put_21 : decode cX7_put 21 = .ok (.iload 4, 2) := by decide +kernel
theorem dX7_put_23 : decode cX7_put 23 = .ok (.ifCond .eq 10, 3) := by decide +kernel
theorem dX7_put_26 : decode cX7_put 26 = .ok (.aload_n 0, 1) := by decide +kernel
theorem dX7_put_27 : decode cX7_put 27 = .ok (.iload 4, 2) := by decide +kernel
theorem dX7_put_29 : decode cX7_put 29 = .ok (.invokevirtual 100, 3) := by decide +kernel
theorem dX7_put_32 : decode cX7_put 32 = .ok (.ireturn, 1) := by decide +kernel
theorem dX7_put_33 : decode cX7_put 33 = .ok (.aload_n 0, 1) := by decide +kernel
theorem dX7_put_34 : decode cX7_put 34 = .ok (.getfield 24, 3) := by decide +kernel
theorem dX7_put_37 : decode cX7_put 37 = .ok (.bipush 32, 2) := by decide +kernel
theorem dX7_put_39 : decode cX7_put 39 = .ok (.iload_n 1, 1) := by decide +kernel
theorem dX7_put_40 : decode cX7_put 40 = .ok (.imul, 1) := by decide +kernel
theorem dX7_put_41 : decode cX7_put 41 = .ok (.iload_n 2, 1) := by decide +kernel
theorem dX7_put_42 : decode cX7_put 42 = .ok (.iadd, 1) := by decide +kernel
theorem dX7_put_43 : decode cX7_put 43 = .ok (.aload_n 0, 1) := by decide +kernel
theorem dX7_put_44 : decode cX7_put 44 = .ok (.getfield 17, 3) := by decide +kernel
theorem dX7_put_47 : decode cX7_put 47 = .ok (.iload_n 1, 1) := by decide +kernel
theorem dX7_put_48 : decode cX7_put 48 = .ok (.iaload, 1) := by decide +kernel
theorem dX7_put_49 : decode cX7_put 49 = .ok (.iload_n 3, 1) := by decide +kernel
theorem dX7_put_50 : decode cX7_put 50 = .ok (.invokestatic 111, 3) := by decide +kernel
theorem dX7_put_53 : decode cX7_put 53 = .ok (.iastore, 1) := by decide +kernel
theorem dX7_put_54 : decode cX7_put 54 = .ok (.aload_n 0, 1) := by decide +kernel
theorem dX7_put_55 : decode cX7_put 55 = .ok (.iconst 1, 1) := by decide +kernel
theorem dX7_put_56 : decode cX7_put 56 = .ok (.invokevirtual 96, 3) := by decide +kernel
theorem dX7_put_59 : decode cX7_put 59 = .ok (.ireturn, 1) := by decide +kernel
theorem dX7_get_0 : decode cX7_get 0 = .ok (.aload_n 0, 1) := by decide +kernel
theorem dX7_get_1 : decode cX7_get 1 = .ok (.iconst 0, 1) := by decide +kernel
theorem dX7_get_2 : decode cX7_get 2 = .ok (.putfield 63, 3) := by decide +kernel
theorem dX7_get_5 : decode cX7_get 5 = .ok (.iload_n 1, 1) := by decide +kernel
theorem dX7_get_6 : decode cX7_get 6 = .ok (.invokestatic 93, 3) := by decide +kernel
theorem dX7_get_9 : decode cX7_get 9 = .ok (.ifCond .ne 7, 3) := by decide +kernel
theorem dX7_get_12 : decode cX7_get 12 = .ok (.ldc2_w 84, 3) := by decide +kernel
theorem dX7_get_15 : decode cX7_get 15 = .ok (.lreturn, 1) := by decide +kernel
theorem dX7_get_16 : decode cX7_get 16 = .ok (.aload_n 0, 1) := by decide +kernel
theorem dX7_get_17 : decode cX7_get 17 = .ok (.aload_n 0, 1) := by decide +kernel
theorem dX7_get_18 : decode cX7_get 18 = .ok (.iload_n 1, 1) := by decide +kernel
theorem dX7_get_19 : decode cX7_get 19 = .ok (.iload_n 2, 1) := by decide +kernel
theorem dX7_get_20 : decode cX7_get 20 = .ok (.invokevirtual 107, 3) := by decide +kernel
theorem dX7_get_23 : decode cX7_get 23 = .ok (.putfield 63, 3) := by decide +kernel
theorem dX7_get_26 : decode cX7_get 26 = .ok (.aload_n 0, 1) := by decide +kernel
theorem dX7_get_27 : decode cX7_get 27 = .ok (.getfield 63, 3) := by decide +kernel
theorem dX7_get_30 : decode cX7_get 30 = .ok (.ifCond .ne 18, 3) := by decide +kernel
theorem dX7_get_33 : decode cX7_get 33 = .ok (.aload_n 0, 1) := by decide +kernel
theorem dX7_get_34 : decode cX7_get 34 = .ok (.getfield 24, 3) := by decide +kernel
theorem dX7_get_37 : decode cX7_get 37 = .ok (.bipush 32, 2) := by decide +kernel
theorem dX7_get_39 : decode cX7_get 39 = .ok (.iload_n 1, 1) := by decide +kernel
theorem dX7_get_40 : decode cX7_get 40 = .ok (.imul, 1) := by decide +kernel
theorem dX7_get_41 : decode cX7_get 41 = .ok (.iload_n 2, 1) := by decide +kernel
theorem dX7_get_42 : decode cX7_get 42 = .ok (.iadd, 1) := by decide +kernel
theorem dX7_get_43 : decode cX7_get 43 = .ok (.iaload, 1) := by decide +kernel
theorem dX7_get_44 : decode cX7_get 44 = .ok (.i2l, 1) := by decide +kernel
theorem dX7_get_45 : decode cX7_get 45 = .ok (.goto 6, 3) := by decide +kernel
theorem dX7_get_48 : decode cX7_get 48 = .ok (.ldc2_w 84, 3) := by decide +kernel
theorem dX7_get_51 : decode cX7_get 51 = .ok (.lreturn, 1) := by decide +kernel
theorem dX7_copy_0 : decode cX7_copy 0 = .ok (.iload_n 1, 1) := by decide +kernel
theorem dX7_copy_1 : decode cX7_copy 1 = .ok (.invokestatic 93, 3) := by decide +kernel
theorem dX7_copy_4 : decode cX7_copy 4 = .ok (.ifCond .eq 10, 3) := by decide +kernel
theorem dX7_copy_7 : decode cX7_copy 7 = .ok (.iload_n 3, 1) := by decide +kernel
theorem dX7_copy_8 : decode cX7_copy 8 = .ok (.invokestatic 93, 3) := by decide +kernel
theorem dX7_copy_11 : decode cX7_copy 11 = .ok (.ifCond .ne 9, 3) := by decide +kernel
theorem dX7_copy_14 : decode cX7_copy 14 = .ok (.aload_n 0, 1) := by decide +kernel
theorem dX7_copy_15 : decode cX7_copy 15 = .ok (.iconst (-1), 1) := by decide +kernel
theorem dX7_copy_16 : decode cX7_copy 16 = .ok (.invokevirtual 96, 3) := by decide +kernel
theorem dX7_copy_19 : decode cX7_copy 19 = .ok (.ireturn, 1) := by decide +kernel
theorem dX7_copy_20 : decode cX7_copy 20 = .ok (.aload_n 0, 1) := by decide +kernel
theorem dX7_copy_21 : decode cX7_copy 21 = .ok (.getfield 17, 3) := by decide +kernel
theorem dX7_copy_24 : decode cX7_copy 24 = .ok (.iload_n 1, 1) := by decide +kernel
theorem dX7_copy_25 : decode cX7_copy 25 = .ok (.iaload, 1) := by decide +kernel
theorem dX7_copy_26 : decode cX7_copy 26 = .ok (.bipush (-9), 2) := by decide +kernel
theorem dX7_copy_28 : decode cX7_copy 28 = .ok (.if_icmp .eq 14, 3) := by decide +kernel
theorem dX7_copy_31 : decode cX7_copy 31 = .ok (.aload_n 0, 1) := by decide +kernel
theorem dX7_copy_32 : decode cX7_copy 32 = .ok (.getfield 17, 3) := by decide +kernel
theorem dX7_copy_35 : decode cX7_copy 35 = .ok (.iload_n 3, 1) := by decide +kernel
theorem dX7_copy_36 : decode cX7_copy 36 = .ok (.iaload, 1) := by decide +kernel
theorem dX7_copy_37 : decode cX7_copy 37 = .ok (.bipush (-9), 2) := by decide +kernel
theorem dX7_copy_39 : decode cX7_copy 39 = .ok (.if_icmp .ne 9, 3) := by decide +kernel
theorem dX7_copy_42 : decode cX7_copy 42 = .ok (.aload_n 0, 1) := by decide +kernel
theorem dX7_copy_43 : decode cX7_copy 43 = .ok (.iconst 1, 1) := by decide +kernel
theorem dX7_copy_44 : decode cX7_copy 44 = .ok (.invokevirtual 100, 3) := by decide +kernel
theorem dX7_copy_47 : decode cX7_copy 47 = .ok (.ireturn, 1) := by decide +kernel
theorem dX7_copy_48 : decode cX7_copy 48 = .ok (.aload_n 0, 1) := by decide +kernel
theorem dX7_copy_49 : decode cX7_copy 49 = .ok (.getfield 17, 3) := by decide +kernel
theorem dX7_copy_52 : decode cX7_copy 52 = .ok (.iload_n 1, 1) := by decide +kernel
theorem dX7_copy_53 : decode cX7_copy 53 = .ok (.iaload, 1) := by decide +kernel
theorem dX7_copy_54 : decode cX7_copy 54 = .ok (.aload_n 0, 1) := by decide +kernel
theorem dX7_copy_55 : decode cX7_copy 55 = .ok (.getfield 17, 3) := by decide +kernel
theorem dX7_copy_58 : decode cX7_copy 58 = .ok (.iload_n 3, 1) := by decide +kernel
theorem dX7_copy_59 : decode cX7_copy 59 = .ok (.iaload, 1) := by decide +kernel
theorem dX7_copy_60 : decode cX7_copy 60 = .ok (.if_icmp .eq 9, 3) := by decide +kernel
theorem dX7_copy_63 : decode cX7_copy 63 = .ok (.aload_n 0, 1) := by decide +kernel
theorem dX7_copy_64 : decode cX7_copy 64 = .ok (.iconst 2, 1) := by decide +kernel
theorem dX7_copy_65 : decode cX7_copy 65 = .ok (.invokevirtual 100, 3) := by decide +kernel
theorem dX7_copy_68 : decode cX7_copy 68 = .ok (.ireturn, 1) := by decide +kernel
theorem dX7_copy_69 : decode cX7_copy 69 = .ok (.iload_n 2, 1) := by decide +kernel
theorem dX7_copy_70 : decode cX7_copy 70 = .ok (.ifCond .lt 61, 3) := by decide +kernel
theorem dX7_copy_73 : decode cX7_copy 73 = .ok (.iload 4, 2) := by decide +kernel
theorem dX7_copy_75 : decode cX7_copy 75 = .ok (.ifCond .lt 56, 3) := by decide +kernel
theorem dX7_copy_78 : decode cX7_copy 78 = .ok (.iload 5, 2) := by decide +kernel
theorem dX7_copy_80 : decode cX7_copy 80 = .ok (.ifCond .lt 51, 3) := by decide +kernel
theorem dX7_copy_83 : decode cX7_copy 83 = .ok (.iload_n 2, 1) := by decide +kernel
theorem dX7_copy_84 : decode cX7_copy 84 = .ok (.aload_n 0, 1) := by decide +kernel
theorem dX7_copy_85 : decode cX7_copy 85 = .ok (.getfield 21, 3) := by decide +kernel
theorem dX7_copy_88 : decode cX7_copy 88 = .ok (.iload_n 1, 1) := by decide +kernel
theorem dX7_copy_89 : decode cX7_copy 89 = .ok (.iaload, 1) := by decide +kernel
theorem dX7_copy_90 : decode cX7_copy 90 = .ok (.if_icmp .gt 41, 3) := by decide +kernel
theorem dX7_copy_93 : decode cX7_copy 93 = .ok (.iload 4, 2) := by decide +kernel
theorem dX7_copy_95 : decode cX7_copy 95 = .ok (.aload_n 0, 1) := by decide +kernel
theorem dX7_copy_96 : decode cX7_copy 96 = .ok (.getfield 21, 3) := by decide +kernel
theorem dX7_copy_99 : decode cX7_copy 99 = .ok (.iload_n 3, 1) := by decide +kernel
theorem dX7_copy_100 : decode cX7_copy 100 = .ok (.iaload, 1) := by decide +kernel
theorem dX7_copy_101 : decode cX7_copy 101 = .ok (.if_icmp .gt 30, 3) := by decide +kernel
theorem dX7_copy_104 : decode cX7_copy 104 = .ok (.iload 5, 2) := by decide +kernel
theorem dX7_copy_106 : decode cX7_copy 106 = .ok (.aload_n 0, 1) := by decide +kernel
theorem dX7_copy_107 : decode cX7_copy 107 = .ok (.getfield 21, 3) := by decide +kernel
theorem dX7_copy_110 : decode cX7_copy 110 = .ok (.iload_n 1, 1) := by decide +kernel
theorem dX7_copy_111 : decode cX7_copy 111 = .ok (.iaload, 1) := by decide +kernel
theorem dX7_copy_112 : decode cX7_copy 112 = .ok (.iload_n 2, 1) := by decide +kernel
theorem dX7_copy_113 : decode cX7_copy 113 = .ok (.isub, 1) := by decide +kernel
theorem dX7_copy_114 : decode cX7_copy 114 = .ok (.if_icmp .gt 17, 3) := by decide +kernel
theorem dX7_copy_117 : decode cX7_copy 117 = .ok (.iload 5, 2) := by decide +kernel
theorem dX7_copy_119 : decode cX7_copy 119 = .ok (.aload_n 0, 1) := by decide +kernel
theorem dX7_copy_120 : decode cX7_copy 120 = .ok (.getfield 21, 3) := by decide +kernel
theorem dX7_copy_123 : decode cX7_copy 123 = .ok (.iload_n 3, 1) := by decide +kernel
theorem dX7_copy_124 : decode cX7_copy 124 = .ok (.iaload, 1) := by decide +kernel
theorem dX7_copy_125 : decode cX7_copy 125 = .ok (.iload 4, 2) := by decide +kernel
theorem dX7_copy_127 : decode cX7_copy 127 = .ok (.isub, 1) := by decide +kernel
theorem dX7_copy_128 : decode cX7_copy 128 = .ok (.if_icmp .le 9, 3) := by decide +kernel
theorem dX7_copy_131 : decode cX7_copy 131 = .ok (.aload_n 0, 1) := by decide +kernel
theorem dX7_copy_132 : decode cX7_copy 132 = .ok (.iconst 3, 1) := by decide +kernel
theorem dX7_copy_133 : decode cX7_copy 133 = .ok (.invokevirtual 100, 3) := by decide +kernel
theorem dX7_copy_136 : decode cX7_copy 136 = .ok (.ireturn, 1) := by decide +kernel
theorem dX7_copy_137 : decode cX7_copy 137 = .ok (.iconst 0, 1) := by decide +kernel
theorem dX7_copy_138 : decode cX7_copy 138 = .ok (.istore 6, 2) := by decide +kernel
theorem dX7_copy_140 : decode cX7_copy 140 = .ok (.iload 6, 2) := by decide +kernel
theorem dX7_copy_142 : decode cX7_copy 142 = .ok (.iload 5, 2) := by decide +kernel
theorem dX7_copy_144 : decode cX7_copy 144 = .ok (.if_icmp .ge 58, 3) := by decide +kernel
theorem dX7_copy_147 : decode cX7_copy 147 = .ok (.iload_n 2, 1) := by decide +kernel
theorem dX7_copy_148 : decode cX7_copy 148 = .ok (.iload 4, 2) := by decide +kernel
theorem dX7_copy_150 : decode cX7_copy 150 = .ok (.if_icmp .ge 13, 3) := by decide +kernel
theorem dX7_copy_153 : decode cX7_copy 153 = .ok (.iload 5, 2) := by decide +kernel
theorem dX7_copy_155 : decode cX7_copy 155 = .ok (.iconst 1, 1) := by decide +kernel
theorem dX7_copy_156 : decode cX7_copy 156 = .ok (.isub, 1) := by decide +kernel
theorem dX7_copy_157 : decode cX7_copy 157 = .ok (.iload 6, 2) := by decide +kernel
theorem dX7_copy_159 : decode cX7_copy 159 = .ok (.isub, 1) := by decide +kernel
theorem dX7_copy_160 : decode cX7_copy 160 = .ok (.goto 5, 3) := by decide +kernel
theorem dX7_copy_163 : decode cX7_copy 163 = .ok (.iload 6, 2) := by decide +kernel
theorem dX7_copy_165 : decode cX7_copy 165 = .ok (.istore 7, 2) := by decide +kernel
theorem dX7_copy_167 : decode cX7_copy 167 = .ok (.aload_n 0, 1) := by decide +kernel
theorem dX7_copy_168 : decode cX7_copy 168 = .ok (.getfield 24, 3) := by decide +kernel
theorem dX7_copy_171 : decode cX7_copy 171 = .ok (.bipush 32, 2) := by decide +kernel
theorem dX7_copy_173 : decode cX7_copy 173 = .ok (.iload_n 3, 1) := by decide +kernel
theorem dX7_copy_174 : decode cX7_copy 174 = .ok (.imul, 1) := by decide +kernel
theorem dX7_copy_175 : decode cX7_copy 175 = .ok (.iload 4, 2) := by decide +kernel
theorem dX7_copy_177 : decode cX7_copy 177 = .ok (.iadd, 1) := by decide +kernel
theorem dX7_copy_178 : decode cX7_copy 178 = .ok (.iload 7, 2) := by decide +kernel
theorem dX7_copy_180 : decode cX7_copy 180 = .ok (.iadd, 1) := by decide +kernel
theorem dX7_copy_181 : decode cX7_copy 181 = .ok (.aload_n 0, 1) := by decide +kernel
theorem dX7_copy_182 : decode cX7_copy 182 = .ok (.getfield 24, 3) := by decide +kernel
theorem dX7_copy_185 : decode cX7_copy 185 = .ok (.bipush 32, 2) := by decide +kernel
theorem dX7_copy_187 : decode cX7_copy 187 = .ok (.iload_n 1, 1) := by decide +kernel
theorem dX7_copy_188 : decode cX7_copy 188 = .ok (.imul, 1) := by decide +kernel
theorem dX7_copy_189 : decode cX7_copy 189 = .ok (.iload_n 2, 1) := by decide +kernel
theorem dX7_copy_190 : decode cX7_copy 190 = .ok (.iadd, 1) := by decide +kernel
theorem dX7_copy_191 : decode cX7_copy 191 = .ok (.iload 7, 2) := by decide +kernel
theorem dX7_copy_193 : decode cX7_copy 193 = .ok (.iadd, 1) := by decide +kernel
theorem dX7_copy_194 : decode cX7_copy 194 = .ok (.iaload, 1) := by decide +kernel
theorem dX7_copy_195 : decode cX7_copy 195 = .ok (.iastore, 1) := by decide +kernel
theorem dX7_copy_196 : decode cX7_copy 196 = .ok (.iinc 6 1, 3) := by decide +kernel
theorem dX7_copy_199 : decode cX7_copy 199 = .ok (.goto (-59), 3) := by decide +kernel
theorem dX7_copy_202 : decode cX7_copy 202 = .ok (.aload_n 0, 1) := by decide +kernel
theorem dX7_copy_203 : decode cX7_copy 203 = .ok (.iload 5, 2) := by decide +kernel
theorem dX7_copy_205 : decode cX7_copy 205 = .ok (.invokevirtual 96, 3) := by decide +kernel
theorem dX7_copy_208 : decode cX7_copy 208 = .ok (.ireturn, 1) := by decide +kernel
theorem dX7_lose_0 : decode cX7_lose 0 = .ok (.iload_n 1, 1) := by decide +kernel
theorem dX7_lose_1 : decode cX7_lose 1 = .ok (.invokestatic 93, 3) := by decide +kernel
theorem dX7_lose_4 : decode cX7_lose 4 = .ok (.ifCond .ne 5, 3) := by decide +kernel
theorem dX7_lose_7 : decode cX7_lose 7 = .ok (.iconst (-1), 1) := by decide +kernel
theorem dX7_lose_8 : decode cX7_lose 8 = .ok (.ireturn, 1) := by decide +kernel
theorem dX7_lose_9 : decode cX7_lose 9 = .ok (.aload_n 0, 1) := by decide +kernel
theorem dX7_lose_10 : decode cX7_lose 10 = .ok (.getfield 17, 3) := by decide +kernel
theorem dX7_lose_13 : decode cX7_lose 13 = .ok (.iload_n 1, 1) := by decide +kernel
theorem dX7_lose_14 : decode cX7_lose 14 = .ok (.iaload, 1) := by decide +kernel
theorem dX7_lose_15 : decode cX7_lose 15 = .ok (.bipush (-9), 2) := by decide +kernel
theorem dX7_lose_17 : decode cX7_lose 17 = .ok (.if_icmp .ne 7, 3) := by decide +kernel
theorem dX7_lose_20 : decode cX7_lose 20 = .ok (.iconst 0, 1) := by decide +kernel
theorem dX7_lose_21 : decode cX7_lose 21 = .ok (.goto 4, 3) := by decide +kernel
theorem dX7_lose_24 : decode cX7_lose 24 = .ok (.iconst 1, 1) := by decide +kernel
theorem dX7_lose_25 : decode cX7_lose 25 = .ok (.istore_n 2, 1) := by decide +kernel
theorem dX7_lose_26 : decode cX7_lose 26 = .ok (.aload_n 0, 1) := by decide +kernel
theorem dX7_lose_27 : decode cX7_lose 27 = .ok (.getfield 17, 3) := by decide +kernel
theorem dX7_lose_30 : decode cX7_lose 30 = .ok (.iload_n 1, 1) := by decide +kernel
theorem dX7_lose_31 : decode cX7_lose 31 = .ok (.bipush (-9), 2) := by decide +kernel
theorem dX7_lose_33 : decode cX7_lose 33 = .ok (.iastore, 1) := by decide +kernel
theorem dX7_lose_34 : decode cX7_lose 34 = .ok (.iload_n 2, 1) := by decide +kernel
theorem dX7_lose_35 : decode cX7_lose 35 = .ok (.ireturn, 1) := by decide +kernel
theorem dX7_down_0 : decode cX7_down 0 = .ok (.iload_n 0, 1) := by decide +kernel
theorem dX7_down_1 : decode cX7_down 1 = .ok (.ifCond .lt 9, 3) := by decide +kernel
theorem dX7_down_4 : decode cX7_down 4 = .ok (.iload_n 0, 1) := by decide +kernel
theorem dX7_down_5 : decode cX7_down 5 = .ok (.iload_n 1, 1) := by decide +kernel
theorem dX7_down_6 : decode cX7_down 6 = .ok (.idiv, 1) := by decide +kernel
theorem dX7_down_7 : decode cX7_down 7 = .ok (.goto 11, 3) := by decide +kernel
theorem dX7_down_10 : decode cX7_down 10 = .ok (.iload_n 1, 1) := by decide +kernel
theorem dX7_down_11 : decode cX7_down 11 = .ok (.iconst 1, 1) := by decide +kernel
theorem dX7_down_12 : decode cX7_down 12 = .ok (.isub, 1) := by decide +kernel
theorem dX7_down_13 : decode cX7_down 13 = .ok (.iload_n 0, 1) := by decide +kernel
theorem dX7_down_14 : decode cX7_down 14 = .ok (.isub, 1) := by decide +kernel
theorem dX7_down_15 : decode cX7_down 15 = .ok (.iload_n 1, 1) := by decide +kernel
theorem dX7_down_16 : decode cX7_down 16 = .ok (.idiv, 1) := by decide +kernel
theorem dX7_down_17 : decode cX7_down 17 = .ok (.ineg, 1) := by decide +kernel
theorem dX7_down_18 : decode cX7_down 18 = .ok (.ireturn, 1) := by decide +kernel
theorem dX7_rounded_0 : decode cX7_rounded 0 = .ok (.iconst 2, 1) := by decide +kernel
theorem dX7_rounded_1 : decode cX7_rounded 1 = .ok (.iload_n 0, 1) := by decide +kernel
theorem dX7_rounded_2 : decode cX7_rounded 2 = .ok (.imul, 1) := by decide +kernel
theorem dX7_rounded_3 : decode cX7_rounded 3 = .ok (.iload_n 1, 1) := by decide +kernel
theorem dX7_rounded_4 : decode cX7_rounded 4 = .ok (.iadd, 1) := by decide +kernel
theorem dX7_rounded_5 : decode cX7_rounded 5 = .ok (.iconst 2, 1) := by decide +kernel
theorem dX7_rounded_6 : decode cX7_rounded 6 = .ok (.iload_n 1, 1) := by decide +kernel
theorem dX7_rounded_7 : decode cX7_rounded 7 = .ok (.imul, 1) := by decide +kernel
theorem dX7_rounded_8 : decode cX7_rounded 8 = .ok (.invokestatic 114, 3) := by decide +kernel
theorem dX7_rounded_11 : decode cX7_rounded 11 = .ok (.ireturn, 1) := by decide +kernel
theorem dX7_isAxis_0 : decode cX7_isAxis 0 = .ok (.iload_n 0, 1) := by decide +kernel
theorem dX7_isAxis_1 : decode cX7_isAxis 1 = .ok (.iconst 0, 1) := by decide +kernel
theorem dX7_isAxis_2 : decode cX7_isAxis 2 = .ok (.iconst 1, 1) := by decide +kernel
theorem dX7_isAxis_3 : decode cX7_isAxis 3 = .ok (.invokestatic 66, 3) := by decide +kernel
theorem dX7_isAxis_6 : decode cX7_isAxis 6 = .ok (.ireturn, 1) := by decide +kernel
theorem dX7_isShear_0 : decode cX7_isShear 0 = .ok (.iload_n 0, 1) := by decide +kernel
theorem dX7_isShear_1 : decode cX7_isShear 1 = .ok (.bipush (-16), 2) := by decide +kernel
theorem dX7_isShear_3 : decode cX7_isShear 3 = .ok (.bipush 16, 2) := by decide +kernel
theorem dX7_isShear_5 : decode cX7_isShear 5 = .ok (.invokestatic 66, 3) := by decide +kernel
theorem dX7_isShear_8 : decode cX7_isShear 8 = .ok (.ireturn, 1) := by decide +kernel
theorem dX7_shiftOf_0 : decode cX7_shiftOf 0 = .ok (.iload_n 1, 1) := by decide +kernel
theorem dX7_shiftOf_1 : decode cX7_shiftOf 1 = .ok (.iload_n 0, 1) := by decide +kernel
theorem dX7_shiftOf_2 : decode cX7_shiftOf 2 = .ok (.ifCond .ne 7, 3) := by decide +kernel
theorem dX7_shiftOf_5 : decode cX7_shiftOf 5 = .ok (.iload_n 2, 1) := by decide +kernel
theorem dX7_shiftOf_6 : decode cX7_shiftOf 6 = .ok (.goto 7, 3) := by decide +kernel
theorem dX7_shiftOf_9 : decode cX7_shiftOf 9 = .ok (.bipush 31, 2) := by decide +kernel
theorem dX7_shiftOf_11 : decode cX7_shiftOf 11 = .ok (.iload_n 2, 1) := by decide +kernel
theorem dX7_shiftOf_12 : decode cX7_shiftOf 12 = .ok (.isub, 1) := by decide +kernel
theorem dX7_shiftOf_13 : decode cX7_shiftOf 13 = .ok (.imul, 1) := by decide +kernel
theorem dX7_shiftOf_14 : decode cX7_shiftOf 14 = .ok (.bipush 16, 2) := by decide +kernel
theorem dX7_shiftOf_16 : decode cX7_shiftOf 16 = .ok (.invokestatic 117, 3) := by decide +kernel
theorem dX7_shiftOf_19 : decode cX7_shiftOf 19 = .ok (.ireturn, 1) := by decide +kernel
theorem dX7_sheared_0 : decode cX7_sheared 0 = .ok (.iload_n 0, 1) := by decide +kernel
theorem dX7_sheared_1 : decode cX7_sheared 1 = .ok (.ifCond .ne 14, 3) := by decide +kernel
theorem dX7_sheared_4 : decode cX7_sheared 4 = .ok (.iload_n 3, 1) := by decide +kernel
theorem dX7_sheared_5 : decode cX7_sheared 5 = .ok (.iload_n 0, 1) := by decide +kernel
theorem dX7_sheared_6 : decode cX7_sheared 6 = .ok (.iload_n 1, 1) := by decide +kernel
theorem dX7_sheared_7 : decode cX7_sheared 7 = .ok (.iload_n 2, 1) := by decide +kernel
theorem dX7_sheared_8 : decode cX7_sheared 8 = .ok (.invokestatic 120, 3) := by decide +kernel
theorem dX7_sheared_11 : decode cX7_sheared 11 = .ok (.isub, 1) := by decide +kernel
theorem dX7_sheared_12 : decode cX7_sheared 12 = .ok (.goto 11, 3) := by decide +kernel
theorem dX7_sheared_15 : decode cX7_sheared 15 = .ok (.iload_n 2, 1) := by decide +kernel
theorem dX7_sheared_16 : decode cX7_sheared 16 = .ok (.iload_n 0, 1) := by decide +kernel
theorem dX7_sheared_17 : decode cX7_sheared 17 = .ok (.iload_n 1, 1) := by decide +kernel
theorem dX7_sheared_18 : decode cX7_sheared 18 = .ok (.iload_n 3, 1) := by decide +kernel
theorem dX7_sheared_19 : decode cX7_sheared 19 = .ok (.invokestatic 120, 3) := by decide +kernel
theorem dX7_sheared_22 : decode cX7_sheared 22 = .ok (.isub, 1) := by decide +kernel
theorem dX7_sheared_23 : decode cX7_sheared 23 = .ok (.ireturn, 1) := by decide +kernel
theorem dX7_shift_0 : decode cX7_shift 0 = .ok (.iload_n 1, 1) := by decide +kernel
theorem dX7_shift_1 : decode cX7_shift 1 = .ok (.invokestatic 124, 3) := by decide +kernel
theorem dX7_shift_4 : decode cX7_shift 4 = .ok (.ifCond .eq 10, 3) := by decide +kernel
theorem dX7_shift_7 : decode cX7_shift 7 = .ok (.iload_n 2, 1) := by decide +kernel
theorem dX7_shift_8 : decode cX7_shift 8 = .ok (.invokestatic 127, 3) := by decide +kernel
theorem dX7_shift_11 : decode cX7_shift 11 = .ok (.ifCond .ne 6, 3) := by decide +kernel
theorem dX7_shift_14 : decode cX7_shift 14 = .ok (.bipush (-2), 2) := by decide +kernel
theorem dX7_shift_16 : decode cX7_shift 16 = .ok (.ireturn, 1) := by decide +kernel
theorem dX7_shift_17 : decode cX7_shift 17 = .ok (.iload_n 1, 1) := by decide +kernel
theorem dX7_shift_18 : decode cX7_shift 18 = .ok (.ifCond .ne 11, 3) := by decide +kernel
theorem dX7_shift_21 : decode cX7_shift 21 = .ok (.aload_n 0, 1) := by decide +kernel
theorem dX7_shift_22 : decode cX7_shift 22 = .ok (.iload_n 3, 1) := by decide +kernel
theorem dX7_shift_23 : decode cX7_shift 23 = .ok (.invokevirtual 70, 3) := by decide +kernel
theorem dX7_shift_26 : decode cX7_shift 26 = .ok (.goto 7, 3) := by decide +kernel
theorem dX7_shift_29 : decode cX7_shift 29 = .ok (.iload_n 3, 1) := by decide +kernel
theorem dX7_shift_30 : decode cX7_shift 30 = .ok (.invokestatic 74, 3) := by decide +kernel
theorem dX7_shift_33 : decode cX7_shift 33 = .ok (.istore 4, 2) := by decide +kernel
theorem dX7_shift_35 : decode cX7_shift 35 = .ok (.iload 4, 2) := by decide +kernel
theorem dX7_shift_37 : decode cX7_shift 37 = .ok (.ifCond .eq 12, 3) := by decide +kernel
theorem dX7_shift_40 : decode cX7_shift 40 = .ok (.iload_n 1, 1) := by decide +kernel
theorem dX7_shift_41 : decode cX7_shift 41 = .ok (.iload_n 2, 1) := by decide +kernel
theorem dX7_shift_42 : decode cX7_shift 42 = .ok (.iload_n 3, 1) := by decide +kernel
theorem dX7_shift_43 : decode cX7_shift 43 = .ok (.invokestatic 120, 3) := by decide +kernel
theorem dX7_shift_46 : decode cX7_shift 46 = .ok (.goto 4, 3) := by decide +kernel
theorem dX7_shift_49 : decode cX7_shift 49 = .ok (.iconst (-1), 1) := by decide +kernel
theorem dX7_shift_50 : decode cX7_shift 50 = .ok (.ireturn, 1) := by decide +kernel
theorem dX7_findProfile_0 : decode cX7_findProfile 0 = .ok (.iconst 0, 1) := by decide +kernel
theorem dX7_findProfile_1 : decode cX7_findProfile 1 = .ok (.istore_n 3, 1) := by decide +kernel
theorem dX7_findProfile_2 : decode cX7_findProfile 2 = .ok (.iload_n 3, 1) := by decide +kernel
theorem dX7_findProfile_3 : decode cX7_findProfile 3 = .ok (.aload_n 0, 1) := by decide +kernel
theorem dX7_findProfile_4 : decode cX7_findProfile 4 = .ok (.getfield 27, 3) := by decide +kernel
theorem dX7_findProfile_7 : decode cX7_findProfile 7 = .ok (.arraylength, 1) := by decide +kernel
theorem dX7_findProfile_8 : decode cX7_findProfile 8 = .ok (.if_icmp .ge 16, 3) := by decide +kernel
theorem dX7_findProfile_11 : decode cX7_findProfile 11 = .ok (.aload_n 0, 1) := by decide +kernel
theorem dX7_findProfile_12 : decode cX7_findProfile 12 = .ok (.getfield 27, 3) := by decide +kernel
theorem dX7_findProfile_15 : decode cX7_findProfile 15 = .ok (.iload_n 3, 1) := by decide +kernel
theorem dX7_findProfile_16 : decode cX7_findProfile 16 = .ok (.iconst 0, 1) := by decide +kernel
theorem dX7_findProfile_17 : decode cX7_findProfile 17 = .ok (.iastore, 1) := by decide +kernel
theorem dX7_findProfile_18 : decode cX7_findProfile 18 = .ok (.iinc 3 1, 3) := by decide +kernel
theorem dX7_findProfile_21 : decode cX7_findProfile 21 = .ok (.goto (-19), 3) := by decide +kernel
theorem dX7_findProfile_24 : decode cX7_findProfile 24 = .ok (.iconst 0, 1) := by decide +kernel
theorem dX7_findProfile_25 : decode cX7_findProfile 25 = .ok (.istore_n 3, 1) := by decide +kernel
theorem dX7_findProfile_26 : decode cX7_findProfile 26 = .ok (.iload_n 3, 1) := by decide +kernel
theorem dX7_findProfile_27 : decode cX7_findProfile 27 = .ok (.aload_n 0, 1) := by decide +kernel
theorem dX7_findProfile_28 : decode cX7_findProfile 28 = .ok (.getfield 7, 3) := by decide +kernel
theorem dX7_findProfile_31 : decode cX7_findProfile 31 = .ok (.if_icmp .ge 64, 3) := by decide +kernel
theorem dX7_findProfile_34 : decode cX7_findProfile 34 = .ok (.iconst 0, 1) := by decide +kernel
theorem dX7_findProfile_35 : decode cX7_findProfile 35 = .ok (.istore 4, 2) := by decide +kernel
theorem dX7_findProfile_37 : decode cX7_findProfile 37 = .ok (.iload 4, 2) := by decide +kernel
theorem dX7_findProfile_39 : decode cX7_findProfile 39 = .ok (.bipush 32, 2) := by decide +kernel
theorem dX7_findProfile_41 : decode cX7_findProfile 41 = .ok (.if_icmp .ge 48, 3) := by decide +kernel
theorem dX7_findProfile_44 : decode cX7_findProfile 44 = .ok (.aload_n 0, 1) := by decide +kernel
theorem dX7_findProfile_45 : decode cX7_findProfile 45 = .ok (.getfield 27, 3) := by decide +kernel
theorem dX7_findProfile_48 : decode cX7_findProfile 48 = .ok (.bipush 100, 2) := by decide +kernel
theorem dX7_findProfile_50 : decode cX7_findProfile 50 = .ok (.iload_n 1, 1) := by decide +kernel
theorem dX7_findProfile_51 : decode cX7_findProfile 51 = .ok (.iload_n 2, 1) := by decide +kernel
theorem dX7_findProfile_52 : decode cX7_findProfile 52 = .ok (.iload_n 3, 1) := by decide +kernel
theorem dX7_findProfile_53 : decode cX7_findProfile 53 = .ok (.iload 4, 2) := by decide +kernel
theorem dX7_findProfile_55 : decode cX7_findProfile 55 = .ok (.invokestatic 130, 3) := by decide +kernel
theorem dX7_findProfile_58 : decode cX7_findProfile 58 = .ok (.iadd, 1) := by decide +kernel
theorem dX7_findProfile_59 : decode cX7_findProfile 59 = .ok (.dup2, 1) := by decide +kernel
theorem dX7_findProfile_60 : decode cX7_findProfile 60 = .ok (.iaload, 1) := by decide +kernel
theorem dX7_findProfile_61 : decode cX7_findProfile 61 = .ok (.aload_n 0, 1) := by decide +kernel
theorem dX7_findProfile_62 : decode cX7_findProfile 62 = .ok (.getfield 13, 3) := by decide +kernel
theorem dX7_findProfile_65 : decode cX7_findProfile 65 = .ok (.bipush 32, 2) := by decide +kernel
theorem dX7_findProfile_67 : decode cX7_findProfile 67 = .ok (.iload_n 3, 1) := by decide +kernel
theorem dX7_findProfile_68 : decode cX7_findProfile 68 = .ok (.imul, 1) := by decide +kernel
theorem dX7_findProfile_69 : decode cX7_findProfile 69 = .ok (.iload 4, 2) := by decide +kernel
theorem dX7_findProfile_71 : decode cX7_findProfile 71 = .ok (.iadd, 1) := by decide +kernel
theorem dX7_findProfile_72 : decode cX7_findProfile 72 = .ok (.baload, 1) := by decide +kernel
theorem dX7_findProfile_73 : decode cX7_findProfile 73 = .ok (.ifCond .eq 7, 3) := by decide +kernel
theorem dX7_findProfile_76 : decode cX7_findProfile 76 = .ok (.iconst 1, 1) := by decide +kernel
theorem dX7_findProfile_77 : decode cX7_findProfile 77 = .ok (.goto 4, 3) := by decide +kernel
theorem dX7_findProfile_80 : decode cX7_findProfile 80 = .ok (.iconst 0, 1) := by decide +kernel
theorem dX7_findProfile_81 : decode cX7_findProfile 81 = .ok (.iadd, 1) := by decide +kernel
theorem dX7_findProfile_82 : decode cX7_findProfile 82 = .ok (.iastore, 1) := by decide +kernel
theorem dX7_findProfile_83 : decode cX7_findProfile 83 = .ok (.iinc 4 1, 3) := by decide +kernel
theorem dX7_findProfile_86 : decode cX7_findProfile 86 = .ok (.goto (-49), 3) := by decide +kernel
theorem dX7_findProfile_89 : decode cX7_findProfile 89 = .ok (.iinc 3 1, 3) := by decide +kernel
theorem dX7_findProfile_92 : decode cX7_findProfile 92 = .ok (.goto (-66), 3) := by decide +kernel
theorem dX7_findProfile_95 : decode cX7_findProfile 95 = .ok (.return_, 1) := by decide +kernel
theorem dX7_profile_0 : decode cX7_profile 0 = .ok (.iload_n 1, 1) := by decide +kernel
theorem dX7_profile_1 : decode cX7_profile 1 = .ok (.invokestatic 124, 3) := by decide +kernel
theorem dX7_profile_4 : decode cX7_profile 4 = .ok (.ifCond .eq 21, 3) := by decide +kernel
theorem dX7_profile_7 : decode cX7_profile 7 = .ok (.iload_n 2, 1) := by decide +kernel
theorem dX7_profile_8 : decode cX7_profile 8 = .ok (.invokestatic 127, 3) := by decide +kernel
theorem dX7_profile_11 : decode cX7_profile 11 = .ok (.ifCond .eq 14, 3) := by decide +kernel
theorem dX7_profile_14 : decode cX7_profile 14 = .ok (.iload_n 3, 1) := by decide +kernel
theorem dX7_profile_15 : decode cX7_profile 15 = .ok (.bipush (-99), 2) := by decide +kernel
theorem dX7_profile_17 : decode cX7_profile 17 = .ok (.bipush 99, 2) := by decide +kernel
theorem dX7_profile_19 : decode cX7_profile 19 = .ok (.invokestatic 66, 3) := by decide +kernel
theorem dX7_profile_22 : decode cX7_profile 22 = .ok (.ifCond .ne 6, 3) := by decide +kernel
theorem dX7_profile_25 : decode cX7_profile 25 = .ok (.bipush (-2), 2) := by decide +kernel
theorem dX7_profile_27 : decode cX7_profile 27 = .ok (.ireturn, 1) := by decide +kernel
theorem dX7_profile_28 : decode cX7_profile 28 = .ok (.aload_n 0, 1) := by decide +kernel
theorem dX7_profile_29 : decode cX7_profile 29 = .ok (.iload_n 1, 1) := by decide +kernel
theorem dX7_profile_30 : decode cX7_profile 30 = .ok (.iload_n 2, 1) := by decide +kernel
theorem dX7_profile_31 : decode cX7_profile 31 = .ok (.invokevirtual 134, 3) := by decide +kernel
theorem dX7_profile_34 : decode cX7_profile 34 = .ok (.aload_n 0, 1) := by decide +kernel
theorem dX7_profile_35 : decode cX7_profile 35 = .ok (.getfield 27, 3) := by decide +kernel
theorem dX7_profile_38 : decode cX7_profile 38 = .ok (.bipush 100, 2) := by decide +kernel
theorem dX7_profile_40 : decode cX7_profile 40 = .ok (.iload_n 3, 1) := by decide +kernel
theorem dX7_profile_41 : decode cX7_profile 41 = .ok (.iadd, 1) := by decide +kernel
theorem dX7_profile_42 : decode cX7_profile 42 = .ok (.iaload, 1) := by decide +kernel
theorem dX7_profile_43 : decode cX7_profile 43 = .ok (.ireturn, 1) := by decide +kernel
theorem dX7_sharpness_0 : decode cX7_sharpness 0 = .ok (.aload_n 0, 1) := by decide +kernel
theorem dX7_sharpness_1 : decode cX7_sharpness 1 = .ok (.iload_n 1, 1) := by decide +kernel
theorem dX7_sharpness_2 : decode cX7_sharpness 2 = .ok (.iload_n 2, 1) := by decide +kernel
theorem dX7_sharpness_3 : decode cX7_sharpness 3 = .ok (.invokevirtual 134, 3) := by decide +kernel
theorem dX7_sharpness_6 : decode cX7_sharpness 6 = .ok (.iconst 0, 1) := by decide +kernel
theorem dX7_sharpness_7 : decode cX7_sharpness 7 = .ok (.istore_n 3, 1) := by decide +kernel
theorem dX7_sharpness_8 : decode cX7_sharpness 8 = .ok (.iconst 1, 1) := by decide +kernel
theorem dX7_sharpness_9 : decode cX7_sharpness 9 = .ok (.istore 4, 2) := by decide +kernel
theorem dX7_sharpness_11 : decode cX7_sharpness 11 = .ok (.iload 4, 2) := by decide +kernel
theorem dX7_sharpness_13 : decode cX7_sharpness 13 = .ok (.aload_n 0, 1) := by decide +kernel
theorem dX7_sharpness_14 : decode cX7_sharpness 14 = .ok (.getfield 27, 3) := by decide +kernel
theorem dX7_sharpness_17 : decode cX7_sharpness 17 = .ok (.arraylength, 1) := by decide +kernel
theorem dX7_sharpness_18 : decode cX7_sharpness 18 = .ok (.if_icmp .ge 36, 3) := by decide +kernel
theorem dX7_sharpness_21 : decode cX7_sharpness 21 = .ok (.aload_n 0, 1) := by decide +kernel
theorem dX7_sharpness_22 : decode cX7_sharpness 22 = .ok (.getfield 27, 3) := by decide +kernel
theorem dX7_sharpness_25 : decode cX7_sharpness 25 = .ok (.iload 4, 2) := by decide +kernel
theorem dX7_sharpness_27 : decode cX7_sharpness 27 = .ok (.iaload, 1) := by decide +kernel
theorem dX7_sharpness_28 : decode cX7_sharpness 28 = .ok (.aload_n 0, 1) := by decide +kernel
theorem dX7_sharpness_29 : decode cX7_sharpness 29 = .ok (.getfield 27, 3) := by decide +kernel
theorem dX7_sharpness_32 : decode cX7_sharpness 32 = .ok (.iload 4, 2) := by decide +kernel
theorem dX7_sharpness_34 : decode cX7_sharpness 34 = .ok (.iconst 1, 1) := by decide +kernel
theorem dX7_sharpness_35 : decode cX7_sharpness 35 = .ok (.isub, 1) := by decide +kernel
theorem dX7_sharpness_36 : decode cX7_sharpness 36 = .ok (.iaload, 1) := by decide +kernel
theorem dX7_sharpness_37 : decode cX7_sharpness 37 = .ok (.isub, 1) := by decide +kernel
theorem dX7_sharpness_38 : decode cX7_sharpness 38 = .ok (.istore 5, 2) := by decide +kernel
theorem dX7_sharpness_40 : decode cX7_sharpness 40 = .ok (.iload_n 3, 1) := by decide +kernel
theorem dX7_sharpness_41 : decode cX7_sharpness 41 = .ok (.iload 5, 2) := by decide +kernel
theorem dX7_sharpness_43 : decode cX7_sharpness 43 = .ok (.iload 5, 2) := by decide +kernel
theorem dX7_sharpness_45 : decode cX7_sharpness 45 = .ok (.imul, 1) := by decide +kernel
theorem dX7_sharpness_46 : decode cX7_sharpness 46 = .ok (.iadd, 1) := by decide +kernel
theorem dX7_sharpness_47 : decode cX7_sharpness 47 = .ok (.istore_n 3, 1) := by decide +kernel
theorem dX7_sharpness_48 : decode cX7_sharpness 48 = .ok (.iinc 4 1, 3) := by decide +kernel
theorem dX7_sharpness_51 : decode cX7_sharpness 51 = .ok (.goto (-40), 3) := by decide +kernel
theorem dX7_sharpness_54 : decode cX7_sharpness 54 = .ok (.iload_n 3, 1) := by decide +kernel
theorem dX7_sharpness_55 : decode cX7_sharpness 55 = .ok (.ireturn, 1) := by decide +kernel
theorem dX7_sharp_0 : decode cX7_sharp 0 = .ok (.iload_n 1, 1) := by decide +kernel
theorem dX7_sharp_1 : decode cX7_sharp 1 = .ok (.invokestatic 124, 3) := by decide +kernel
theorem dX7_sharp_4 : decode cX7_sharp 4 = .ok (.ifCond .eq 19, 3) := by decide +kernel
theorem dX7_sharp_7 : decode cX7_sharp 7 = .ok (.iload_n 2, 1) := by decide +kernel
theorem dX7_sharp_8 : decode cX7_sharp 8 = .ok (.invokestatic 127, 3) := by decide +kernel
theorem dX7_sharp_11 : decode cX7_sharp 11 = .ok (.ifCond .eq 12, 3) := by decide +kernel
theorem dX7_sharp_14 : decode cX7_sharp 14 = .ok (.aload_n 0, 1) := by decide +kernel
theorem dX7_sharp_15 : decode cX7_sharp 15 = .ok (.iload_n 1, 1) := by decide +kernel
theorem dX7_sharp_16 : decode cX7_sharp 16 = .ok (.iload_n 2, 1) := by decide +kernel
theorem dX7_sharp_17 : decode cX7_sharp 17 = .ok (.invokevirtual 138, 3) := by decide +kernel
theorem dX7_sharp_20 : decode cX7_sharp 20 = .ok (.goto 5, 3) := by decide +kernel
theorem dX7_sharp_23 : decode cX7_sharp 23 = .ok (.bipush (-2), 2) := by decide +kernel
theorem dX7_sharp_25 : decode cX7_sharp 25 = .ok (.ireturn, 1) := by decide +kernel
theorem dX7_far_0 : decode cX7_far 0 = .ok (.iload_n 0, 1) := by decide +kernel
theorem dX7_far_1 : decode cX7_far 1 = .ok (.ifCond .ge 8, 3) := by decide +kernel
theorem dX7_far_4 : decode cX7_far 4 = .ok (.iload_n 0, 1) := by decide +kernel
theorem dX7_far_5 : decode cX7_far 5 = .ok (.ineg, 1) := by decide +kernel
theorem dX7_far_6 : decode cX7_far 6 = .ok (.goto 4, 3) := by decide +kernel
theorem dX7_far_9 : decode cX7_far 9 = .ok (.iload_n 0, 1) := by decide +kernel
theorem dX7_far_10 : decode cX7_far 10 = .ok (.ireturn, 1) := by decide +kernel
theorem dX7_isAhead_0 : decode cX7_isAhead 0 = .ok (.iload_n 1, 1) := by decide +kernel
theorem dX7_isAhead_1 : decode cX7_isAhead 1 = .ok (.iload_n 3, 1) := by decide +kernel
theorem dX7_isAhead_2 : decode cX7_isAhead 2 = .ok (.if_icmp .eq 14, 3) := by decide +kernel
theorem dX7_isAhead_5 : decode cX7_isAhead 5 = .ok (.iload_n 1, 1) := by decide +kernel
theorem dX7_isAhead_6 : decode cX7_isAhead 6 = .ok (.iload_n 3, 1) := by decide +kernel
theorem dX7_isAhead_7 : decode cX7_isAhead 7 = .ok (.if_icmp .le 7, 3) := by decide +kernel
theorem dX7_isAhead_10 : decode cX7_isAhead 10 = .ok (.iconst 1, 1) := by decide +kernel
theorem dX7_isAhead_11 : decode cX7_isAhead 11 = .ok (.goto 4, 3) := by decide +kernel
theorem dX7_isAhead_14 : decode cX7_isAhead 14 = .ok (.iconst 0, 1) := by decide +kernel
theorem dX7_isAhead_15 : decode cX7_isAhead 15 = .ok (.ireturn, 1) := by decide +kernel
theorem dX7_isAhead_16 : decode cX7_isAhead 16 = .ok (.iload_n 0, 1) := by decide +kernel
theorem dX7_isAhead_17 : decode cX7_isAhead 17 = .ok (.invokestatic 141, 3) := by decide +kernel
theorem dX7_isAhead_20 : decode cX7_isAhead 20 = .ok (.iload_n 2, 1) := by decide +kernel
theorem dX7_isAhead_21 : decode cX7_isAhead 21 = .ok (.invokestatic 141, 3) := by decide +kernel
theorem dX7_isAhead_24 : decode cX7_isAhead 24 = .ok (.if_icmp .eq 22, 3) := by decide +kernel
theorem dX7_isAhead_27 : decode cX7_isAhead 27 = .ok (.iload_n 0, 1) := by decide +kernel
theorem dX7_isAhead_28 : decode cX7_isAhead 28 = .ok (.invokestatic 141, 3) := by decide +kernel
theorem dX7_isAhead_31 : decode cX7_isAhead 31 = .ok (.iload_n 2, 1) := by decide +kernel
theorem dX7_isAhead_32 : decode cX7_isAhead 32 = .ok (.invokestatic 141, 3) := by decide +kernel
theorem dX7_isAhead_35 : decode cX7_isAhead 35 = .ok (.if_icmp .ge 7, 3) := by decide +kernel
theorem dX7_isAhead_38 : decode cX7_isAhead 38 = .ok (.iconst 1, 1) := by decide +kernel
theorem dX7_isAhead_39 : decode cX7_isAhead 39 = .ok (.goto 17, 3) := by decide +kernel
theorem dX7_isAhead_42 : decode cX7_isAhead 42 = .ok (.iconst 0, 1) := by decide +kernel
theorem dX7_isAhead_43 : decode cX7_isAhead 43 = .ok (.goto 13, 3) := by decide +kernel
theorem dX7_isAhead_46 : decode cX7_isAhead 46 = .ok (.iload_n 0, 1) := by decide +kernel
theorem dX7_isAhead_47 : decode cX7_isAhead 47 = .ok (.iload_n 2, 1) := by decide +kernel
theorem dX7_isAhead_48 : decode cX7_isAhead 48 = .ok (.if_icmp .ge 7, 3) := by decide +kernel
theorem dX7_isAhead_51 : decode cX7_isAhead 51 = .ok (.iconst 1, 1) := by decide +kernel
theorem dX7_isAhead_52 : decode cX7_isAhead 52 = .ok (.goto 4, 3) := by decide +kernel
theorem dX7_isAhead_55 : decode cX7_isAhead 55 = .ok (.iconst 0, 1) := by decide +kernel
theorem dX7_isAhead_56 : decode cX7_isAhead 56 = .ok (.ireturn, 1) := by decide +kernel
theorem dX7_tryIt_0 : decode cX7_tryIt 0 = .ok (.iload_n 2, 1) := by decide +kernel
theorem dX7_tryIt_1 : decode cX7_tryIt 1 = .ok (.invokestatic 127, 3) := by decide +kernel
theorem dX7_tryIt_4 : decode cX7_tryIt 4 = .ok (.istore_n 3, 1) := by decide +kernel
theorem dX7_tryIt_5 : decode cX7_tryIt 5 = .ok (.iconst 0, 1) := by decide +kernel
theorem dX7_tryIt_6 : decode cX7_tryIt 6 = .ok (.istore 4, 2) := by decide +kernel
theorem dX7_tryIt_8 : decode cX7_tryIt 8 = .ok (.iload 4, 2) := by decide +kernel
theorem dX7_tryIt_10 : decode cX7_tryIt 10 = .ok (.aload_n 0, 1) := by decide +kernel
theorem dX7_tryIt_11 : decode cX7_tryIt 11 = .ok (.getfield 144, 3) := by decide +kernel
theorem dX7_tryIt_14 : decode cX7_tryIt 14 = .ok (.if_icmp .ge 30, 3) := by decide +kernel
theorem dX7_tryIt_17 : decode cX7_tryIt 17 = .ok (.iload_n 3, 1) := by decide +kernel
theorem dX7_tryIt_18 : decode cX7_tryIt 18 = .ok (.ifCond .eq 18, 3) := by decide +kernel
theorem dX7_tryIt_21 : decode cX7_tryIt 21 = .ok (.aload_n 0, 1) := by decide +kernel
theorem dX7_tryIt_22 : decode cX7_tryIt 22 = .ok (.getfield 30, 3) := by decide +kernel
theorem dX7_tryIt_25 : decode cX7_tryIt 25 = .ok (.iload 4, 2) := by decide +kernel
theorem dX7_tryIt_27 : decode cX7_tryIt 27 = .ok (.iaload, 1) := by decide +kernel
theorem dX7_tryIt_28 : decode cX7_tryIt 28 = .ok (.iload_n 2, 1) := by decide +kernel
theorem dX7_tryIt_29 : decode cX7_tryIt 29 = .ok (.if_icmp .eq 7, 3) := by decide +kernel
theorem dX7_tryIt_32 : decode cX7_tryIt 32 = .ok (.iconst 1, 1) := by decide +kernel
theorem dX7_tryIt_33 : decode cX7_tryIt 33 = .ok (.goto 4, 3) := by decide +kernel
theorem dX7_tryIt_36 : decode cX7_tryIt 36 = .ok (.iconst 0, 1) := by decide +kernel
theorem dX7_tryIt_37 : decode cX7_tryIt 37 = .ok (.istore_n 3, 1) := by decide +kernel
theorem dX7_tryIt_38 : decode cX7_tryIt 38 = .ok (.iinc 4 1, 3) := by decide +kernel
theorem dX7_tryIt_41 : decode cX7_tryIt 41 = .ok (.goto (-33), 3) := by decide +kernel
theorem dX7_tryIt_44 : decode cX7_tryIt 44 = .ok (.iload_n 3, 1) := by decide +kernel
theorem dX7_tryIt_45 : decode cX7_tryIt 45 = .ok (.ifCond .eq 38, 3) := by decide +kernel
theorem dX7_tryIt_48 : decode cX7_tryIt 48 = .ok (.aload_n 0, 1) := by decide +kernel
theorem dX7_tryIt_49 : decode cX7_tryIt 49 = .ok (.getfield 30, 3) := by decide +kernel
theorem dX7_tryIt_52 : decode cX7_tryIt 52 = .ok (.aload_n 0, 1) := by decide +kernel
theorem dX7_tryIt_53 : decode cX7_tryIt 53 = .ok (.getfield 144, 3) := by decide +kernel
theorem dX7_tryIt_56 : decode cX7_tryIt 56 = .ok (.iload_n 2, 1) := by decide +kernel
theorem dX7_tryIt_57 : decode cX7_tryIt 57 = .ok (.iastore, 1) := by decide +kernel
theorem dX7_tryIt_58 : decode cX7_tryIt 58 = .ok (.aload_n 0, 1) := by decide +kernel
theorem dX7_tryIt_59 : decode cX7_tryIt 59 = .ok (.getfield 33, 3) := by decide +kernel
theorem dX7_tryIt_62 : decode cX7_tryIt 62 = .ok (.aload_n 0, 1) := by decide +kernel
theorem dX7_tryIt_63 : decode cX7_tryIt 63 = .ok (.getfield 144, 3) := by decide +kernel
theorem dX7_tryIt_66 : decode cX7_tryIt 66 = .ok (.aload_n 0, 1) := by decide +kernel
theorem dX7_tryIt_67 : decode cX7_tryIt 67 = .ok (.iload_n 1, 1) := by decide +kernel
theorem dX7_tryIt_68 : decode cX7_tryIt 68 = .ok (.iload_n 2, 1) := by decide +kernel
theorem dX7_tryIt_69 : decode cX7_tryIt 69 = .ok (.invokevirtual 138, 3) := by decide +kernel
theorem dX7_tryIt_72 : decode cX7_tryIt 72 = .ok (.iastore, 1) := by decide +kernel
theorem dX7_tryIt_73 : decode cX7_tryIt 73 = .ok (.aload_n 0, 1) := by decide +kernel
theorem dX7_tryIt_74 : decode cX7_tryIt 74 = .ok (.dup, 1) := by decide +kernel
theorem dX7_tryIt_75 : decode cX7_tryIt 75 = .ok (.getfield 144, 3) := by decide +kernel
theorem dX7_tryIt_78 : decode cX7_tryIt 78 = .ok (.iconst 1, 1) := by decide +kernel
theorem dX7_tryIt_79 : decode cX7_tryIt 79 = .ok (.iadd, 1) := by decide +kernel
theorem dX7_tryIt_80 : decode cX7_tryIt 80 = .ok (.putfield 144, 3) := by decide +kernel
theorem dX7_tryIt_83 : decode cX7_tryIt 83 = .ok (.return_, 1) := by decide +kernel
theorem dX7_bestTried_0 : decode cX7_bestTried 0 = .ok (.iconst 0, 1) := by decide +kernel
theorem dX7_bestTried_1 : decode cX7_bestTried 1 = .ok (.istore_n 1, 1) := by decide +kernel
theorem dX7_bestTried_2 : decode cX7_bestTried 2 = .ok (.iconst 1, 1) := by decide +kernel
theorem dX7_bestTried_3 : decode cX7_bestTried 3 = .ok (.istore_n 2, 1) := by decide +kernel
theorem dX7_bestTried_4 : decode cX7_bestTried 4 = .ok (.iload_n 2, 1) := by decide +kernel
theorem dX7_bestTried_5 : decode cX7_bestTried 5 = .ok (.aload_n 0, 1) := by decide +kernel
theorem dX7_bestTried_6 : decode cX7_bestTried 6 = .ok (.getfield 144, 3) := by decide +kernel
theorem dX7_bestTried_9 : decode cX7_bestTried 9 = .ok (.if_icmp .ge 45, 3) := by decide +kernel
theorem dX7_bestTried_12 : decode cX7_bestTried 12 = .ok (.aload_n 0, 1) := by decide +kernel
theorem dX7_bestTried_13 : decode cX7_bestTried 13 = .ok (.getfield 30, 3) := by decide +kernel
theorem dX7_bestTried_16 : decode cX7_bestTried 16 = .ok (.iload_n 2, 1) := by decide +kernel
theorem dX7_bestTried_17 : decode cX7_bestTried 17 = .ok (.iaload, 1) := by decide +kernel
theorem dX7_bestTried_18 : decode cX7_bestTried 18 = .ok (.aload_n 0, 1) := by decide +kernel
theorem dX7_bestTried_19 : decode cX7_bestTried 19 = .ok (.getfield 33, 3) := by decide +kernel
theorem dX7_bestTried_22 : decode cX7_bestTried 22 = .ok (.iload_n 2, 1) := by decide +kernel
theorem dX7_bestTried_23 : decode cX7_bestTried 23 = .ok (.iaload, 1) := by decide +kernel
theorem dX7_bestTried_24 : decode cX7_bestTried 24 = .ok (.aload_n 0, 1) := by decide +kernel
theorem dX7_bestTried_25 : decode cX7_bestTried 25 = .ok (.getfield 30, 3) := by decide +kernel
theorem dX7_bestTried_28 : decode cX7_bestTried 28 = .ok (.iload_n 1, 1) := by decide +kernel
theorem dX7_bestTried_29 : decode cX7_bestTried 29 = .ok (.iaload, 1) := by decide +kernel
theorem dX7_bestTried_30 : decode cX7_bestTried 30 = .ok (.aload_n 0, 1) := by decide +kernel
theorem dX7_bestTried_31 : decode cX7_bestTried 31 = .ok (.getfield 33, 3) := by decide +kernel
theorem dX7_bestTried_34 : decode cX7_bestTried 34 = .ok (.iload_n 1, 1) := by decide +kernel
theorem dX7_bestTried_35 : decode cX7_bestTried 35 = .ok (.iaload, 1) := by decide +kernel
theorem dX7_bestTried_36 : decode cX7_bestTried 36 = .ok (.invokestatic 147, 3) := by decide +kernel
theorem dX7_bestTried_39 : decode cX7_bestTried 39 = .ok (.ifCond .eq 7, 3) := by decide +kernel
theorem dX7_bestTried_42 : decode cX7_bestTried 42 = .ok (.iload_n 2, 1) := by decide +kernel
theorem dX7_bestTried_43 : decode cX7_bestTried 43 = .ok (.goto 4, 3) := by decide +kernel
theorem dX7_bestTried_46 : decode cX7_bestTried 46 = .ok (.iload_n 1, 1) := by decide +kernel
theorem dX7_bestTried_47 : decode cX7_bestTried 47 = .ok (.istore_n 1, 1) := by decide +kernel
theorem dX7_bestTried_48 : decode cX7_bestTried 48 = .ok (.iinc 2 1, 3) := by decide +kernel
theorem dX7_bestTried_51 : decode cX7_bestTried 51 = .ok (.goto (-47), 3) := by decide +kernel
theorem dX7_bestTried_54 : decode cX7_bestTried 54 = .ok (.aload_n 0, 1) := by decide +kernel
theorem dX7_bestTried_55 : decode cX7_bestTried 55 = .ok (.getfield 30, 3) := by decide +kernel
theorem dX7_bestTried_58 : decode cX7_bestTried 58 = .ok (.iload_n 1, 1) := by decide +kernel
theorem dX7_bestTried_59 : decode cX7_bestTried 59 = .ok (.iaload, 1) := by decide +kernel
theorem dX7_bestTried_60 : decode cX7_bestTried 60 = .ok (.ireturn, 1) := by decide +kernel
theorem dX7_best_0 : decode cX7_best 0 = .ok (.iload_n 1, 1) := by decide +kernel
theorem dX7_best_1 : decode cX7_best 1 = .ok (.invokestatic 124, 3) := by decide +kernel
theorem dX7_best_4 : decode cX7_best 4 = .ok (.ifCond .ne 6, 3) := by decide +kernel
theorem dX7_best_7 : decode cX7_best 7 = .ok (.bipush (-2), 2) := by decide +kernel
theorem dX7_best_9 : decode cX7_best 9 = .ok (.ireturn, 1) := by decide +kernel
theorem dX7_best_10 : decode cX7_best 10 = .ok (.aload_n 0, 1) := by decide +kernel
theorem dX7_best_11 : decode cX7_best 11 = .ok (.iconst 0, 1) := by decide +kernel
theorem dX7_best_12 : decode cX7_best 12 = .ok (.putfield 144, 3) := by decide +kernel
theorem dX7_best_15 : decode cX7_best 15 = .ok (.bipush (-16), 2) := by decide +kernel
theorem dX7_best_17 : decode cX7_best 17 = .ok (.istore_n 2, 1) := by decide +kernel
theorem dX7_best_18 : decode cX7_best 18 = .ok (.iload_n 2, 1) := by decide +kernel
theorem dX7_best_19 : decode cX7_best 19 = .ok (.bipush 16, 2) := by decide +kernel
theorem dX7_best_21 : decode cX7_best 21 = .ok (.if_icmp .gt 15, 3) := by decide +kernel
theorem dX7_best_24 : decode cX7_best 24 = .ok (.aload_n 0, 1) := by decide +kernel
theorem dX7_best_25 : decode cX7_best 25 = .ok (.iload_n 1, 1) := by decide +kernel
theorem dX7_best_26 : decode cX7_best 26 = .ok (.iload_n 2, 1) := by decide +kernel
theorem dX7_best_27 : decode cX7_best 27 = .ok (.invokevirtual 151, 3) := by decide +kernel
theorem dX7_best_30 : decode cX7_best 30 = .ok (.iinc 2 1, 3) := by decide +kernel
theorem dX7_best_33 : decode cX7_best 33 = .ok (.goto (-15), 3) := by decide +kernel
theorem dX7_best_36 : decode cX7_best 36 = .ok (.aload_n 0, 1) := by decide +kernel
theorem dX7_best_37 : decode cX7_best 37 = .ok (.invokevirtual 154, 3) := by decide +kernel
theorem dX7_best_40 : decode cX7_best 40 = .ok (.bipush 100, 2) := by decide +kernel
theorem dX7_best_42 : decode cX7_best 42 = .ok (.iadd, 1) := by decide +kernel
theorem dX7_best_43 : decode cX7_best 43 = .ok (.ireturn, 1) := by decide +kernel
theorem dX7_search_0 : decode cX7_search 0 = .ok (.aload_n 0, 1) := by decide +kernel
theorem dX7_search_1 : decode cX7_search 1 = .ok (.iconst 0, 1) := by decide +kernel
theorem dX7_search_2 : decode cX7_search 2 = .ok (.putfield 144, 3) := by decide +kernel
theorem dX7_search_5 : decode cX7_search 5 = .ok (.bipush (-16), 2) := by decide +kernel
theorem dX7_search_7 : decode cX7_search 7 = .ok (.istore_n 2, 1) := by decide +kernel
theorem dX7_search_8 : decode cX7_search 8 = .ok (.iload_n 2, 1) := by decide +kernel
theorem dX7_search_9 : decode cX7_search 9 = .ok (.bipush 16, 2) := by decide +kernel
theorem dX7_search_11 : decode cX7_search 11 = .ok (.if_icmp .gt 15, 3) := by decide +kernel
theorem dX7_search_14 : decode cX7_search 14 = .ok (.aload_n 0, 1) := by decide +kernel
theorem dX7_search_15 : decode cX7_search 15 = .ok (.iload_n 1, 1) := by decide +kernel
theorem dX7_search_16 : decode cX7_search 16 = .ok (.iload_n 2, 1) := by decide +kernel
theorem dX7_search_17 : decode cX7_search 17 = .ok (.invokevirtual 151, 3) := by decide +kernel
theorem dX7_search_20 : decode cX7_search 20 = .ok (.iinc 2 8, 3) := by decide +kernel
theorem dX7_search_23 : decode cX7_search 23 = .ok (.goto (-15), 3) := by decide +kernel
theorem dX7_search_26 : decode cX7_search 26 = .ok (.iconst 4, 1) := by decide +kernel
theorem dX7_search_27 : decode cX7_search 27 = .ok (.istore_n 2, 1) := by decide +kernel
theorem dX7_search_28 : decode cX7_search 28 = .ok (.iload_n 2, 1) := by decide +kernel
theorem dX7_search_29 : decode cX7_search 29 = .ok (.ifCond .le 31, 3) := by decide +kernel
theorem dX7_search_32 : decode cX7_search 32 = .ok (.aload_n 0, 1) := by decide +kernel
theorem dX7_search_33 : decode cX7_search 33 = .ok (.invokevirtual 154, 3) := by decide +kernel
theorem dX7_search_36 : decode cX7_search 36 = .ok (.istore_n 3, 1) := by decide +kernel
theorem dX7_search_37 : decode cX7_search 37 = .ok (.aload_n 0, 1) := by decide +kernel
theorem dX7_search_38 : decode cX7_search 38 = .ok (.iload_n 1, 1) := by decide +kernel
theorem dX7_search_39 : decode cX7_search 39 = .ok (.iload_n 3, 1) := by decide +kernel
theorem dX7_search_40 : decode cX7_search 40 = .ok (.iload_n 2, 1) := by decide +kernel
theorem dX7_search_41 : decode cX7_search 41 = .ok (.isub, 1) := by decide +kernel
theorem dX7_search_42 : decode cX7_search 42 = .ok (.invokevirtual 151, 3) := by decide +kernel
theorem dX7_search_45 : decode cX7_search 45 = .ok (.aload_n 0, 1) := by decide +kernel
theorem dX7_search_46 : decode cX7_search 46 = .ok (.iload_n 1, 1) := by decide +kernel
theorem dX7_search_47 : decode cX7_search 47 = .ok (.iload_n 3, 1) := by decide +kernel
theorem dX7_search_48 : decode cX7_search 48 = .ok (.iload_n 2, 1) := by decide +kernel
theorem dX7_search_49 : decode cX7_search 49 = .ok (.iadd, 1) := by decide +kernel
theorem dX7_search_50 : decode cX7_search 50 = .ok (.invokevirtual 151, 3) := by decide +kernel
theorem dX7_search_53 : decode cX7_search 53 = .ok (.iload_n 2, 1) := by decide +kernel
theorem dX7_search_54 : decode cX7_search 54 = .ok (.iconst 2, 1) := by decide +kernel
theorem dX7_search_55 : decode cX7_search 55 = .ok (.idiv, 1) := by decide +kernel
theorem dX7_search_56 : decode cX7_search 56 = .ok (.istore_n 2, 1) := by decide +kernel
theorem dX7_search_57 : decode cX7_search 57 = .ok (.goto (-29), 3) := by decide +kernel
theorem dX7_search_60 : decode cX7_search 60 = .ok (.return_, 1) := by decide +kernel
theorem dX7_found_0 : decode cX7_found 0 = .ok (.iload_n 1, 1) := by decide +kernel
theorem dX7_found_1 : decode cX7_found 1 = .ok (.invokestatic 124, 3) := by decide +kernel
theorem dX7_found_4 : decode cX7_found 4 = .ok (.ifCond .ne 6, 3) := by decide +kernel
theorem dX7_found_7 : decode cX7_found 7 = .ok (.bipush (-2), 2) := by decide +kernel
theorem dX7_found_9 : decode cX7_found 9 = .ok (.ireturn, 1) := by decide +kernel
theorem dX7_found_10 : decode cX7_found 10 = .ok (.aload_n 0, 1) := by decide +kernel
theorem dX7_found_11 : decode cX7_found 11 = .ok (.iload_n 1, 1) := by decide +kernel
theorem dX7_found_12 : decode cX7_found 12 = .ok (.invokevirtual 157, 3) := by decide +kernel
theorem dX7_found_15 : decode cX7_found 15 = .ok (.aload_n 0, 1) := by decide +kernel
theorem dX7_found_16 : decode cX7_found 16 = .ok (.invokevirtual 154, 3) := by decide +kernel
theorem dX7_found_19 : decode cX7_found 19 = .ok (.bipush 100, 2) := by decide +kernel
theorem dX7_found_21 : decode cX7_found 21 = .ok (.iadd, 1) := by decide +kernel
theorem dX7_found_22 : decode cX7_found 22 = .ok (.ireturn, 1) := by decide +kernel
theorem dX7_tried_0 : decode cX7_tried 0 = .ok (.iload_n 1, 1) := by decide +kernel
theorem dX7_tried_1 : decode cX7_tried 1 = .ok (.invokestatic 124, 3) := by decide +kernel
theorem dX7_tried_4 : decode cX7_tried 4 = .ok (.ifCond .eq 13, 3) := by decide +kernel
theorem dX7_tried_7 : decode cX7_tried 7 = .ok (.iload_n 2, 1) := by decide +kernel
theorem dX7_tried_8 : decode cX7_tried 8 = .ok (.iconst 0, 1) := by decide +kernel
theorem dX7_tried_9 : decode cX7_tried 9 = .ok (.bipush 32, 2) := by decide +kernel
theorem dX7_tried_11 : decode cX7_tried 11 = .ok (.invokestatic 66, 3) := by decide +kernel
theorem dX7_tried_14 : decode cX7_tried 14 = .ok (.ifCond .ne 6, 3) := by decide +kernel
theorem dX7_tried_17 : decode cX7_tried 17 = .ok (.bipush (-2), 2) := by decide +kernel
theorem dX7_tried_19 : decode cX7_tried 19 = .ok (.ireturn, 1) := by decide +kernel
theorem dX7_tried_20 : decode cX7_tried 20 = .ok (.aload_n 0, 1) := by decide +kernel
theorem dX7_tried_21 : decode cX7_tried 21 = .ok (.iload_n 1, 1) := by decide +kernel
theorem dX7_tried_22 : decode cX7_tried 22 = .ok (.invokevirtual 157, 3) := by decide +kernel
theorem dX7_tried_25 : decode cX7_tried 25 = .ok (.iload_n 2, 1) := by decide +kernel
theorem dX7_tried_26 : decode cX7_tried 26 = .ok (.aload_n 0, 1) := by decide +kernel
theorem dX7_tried_27 : decode cX7_tried 27 = .ok (.getfield 144, 3) := by decide +kernel
theorem dX7_tried_30 : decode cX7_tried 30 = .ok (.if_icmp .ge 15, 3) := by decide +kernel
theorem dX7_tried_33 : decode cX7_tried 33 = .ok (.aload_n 0, 1) := by decide +kernel
theorem dX7_tried_34 : decode cX7_tried 34 = .ok (.getfield 30, 3) := by decide +kernel
theorem dX7_tried_37 : decode cX7_tried 37 = .ok (.iload_n 2, 1) := by decide +kernel
theorem dX7_tried_38 : decode cX7_tried 38 = .ok (.iaload, 1) := by decide +kernel
theorem dX7_tried_39 : decode cX7_tried 39 = .ok (.bipush 100, 2) := by decide +kernel
theorem dX7_tried_41 : decode cX7_tried 41 = .ok (.iadd, 1) := by decide +kernel
theorem dX7_tried_42 : decode cX7_tried 42 = .ok (.goto 5, 3) := by decide +kernel
theorem dX7_tried_45 : decode cX7_tried 45 = .ok (.bipush (-9), 2) := by decide +kernel
theorem dX7_tried_47 : decode cX7_tried 47 = .ok (.ireturn, 1) := by decide +kernel
theorem dX7_keeps_0 : decode cX7_keeps 0 = .ok (.aload_n 0, 1) := by decide +kernel
theorem dX7_keeps_1 : decode cX7_keeps 1 = .ok (.getfield 81, 3) := by decide +kernel
theorem dX7_keeps_4 : decode cX7_keeps 4 = .ok (.bipush 8, 2) := by decide +kernel
theorem dX7_keeps_6 : decode cX7_keeps 6 = .ok (.if_icmp .ne 44, 3) := by decide +kernel
theorem dX7_keeps_9 : decode cX7_keeps 9 = .ok (.iconst 0, 1) := by decide +kernel
theorem dX7_keeps_10 : decode cX7_keeps 10 = .ok (.istore_n 1, 1) := by decide +kernel
theorem dX7_keeps_11 : decode cX7_keeps 11 = .ok (.iload_n 1, 1) := by decide +kernel
theorem dX7_keeps_12 : decode cX7_keeps 12 = .ok (.sipush 5376, 3) := by decide +kernel
theorem dX7_keeps_15 : decode cX7_keeps 15 = .ok (.if_icmp .ge 25, 3) := by decide +kernel
theorem dX7_keeps_18 : decode cX7_keeps 18 = .ok (.aload_n 0, 1) := by decide +kernel
theorem dX7_keeps_19 : decode cX7_keeps 19 = .ok (.getfield 36, 3) := by decide +kernel
theorem dX7_keeps_22 : decode cX7_keeps 22 = .ok (.iload_n 1, 1) := by decide +kernel
theorem dX7_keeps_23 : decode cX7_keeps 23 = .ok (.aload_n 0, 1) := by decide +kernel
theorem dX7_keeps_24 : decode cX7_keeps 24 = .ok (.getfield 36, 3) := by decide +kernel
theorem dX7_keeps_27 : decode cX7_keeps 27 = .ok (.iload_n 1, 1) := by decide +kernel
theorem dX7_keeps_28 : decode cX7_keeps 28 = .ok (.sipush 768, 3) := by decide +kernel
theorem dX7_keeps_31 : decode cX7_keeps 31 = .ok (.iadd, 1) := by decide +kernel
theorem dX7_keeps_32 : decode cX7_keeps 32 = .ok (.baload, 1) := by decide +kernel
theorem dX7_keeps_33 : decode cX7_keeps 33 = .ok (.bastore, 1) := by decide +kernel
theorem dX7_keeps_34 : decode cX7_keeps 34 = .ok (.iinc 1 1, 3) := by decide +kernel
theorem dX7_keeps_37 : decode cX7_keeps 37 = .ok (.goto (-26), 3) := by decide +kernel
theorem dX7_keeps_40 : decode cX7_keeps 40 = .ok (.aload_n 0, 1) := by decide +kernel
theorem dX7_keeps_41 : decode cX7_keeps 41 = .ok (.dup, 1) := by decide +kernel
theorem dX7_keeps_42 : decode cX7_keeps 42 = .ok (.getfield 81, 3) := by decide +kernel
theorem dX7_keeps_45 : decode cX7_keeps 45 = .ok (.iconst 1, 1) := by decide +kernel
theorem dX7_keeps_46 : decode cX7_keeps 46 = .ok (.isub, 1) := by decide +kernel
theorem dX7_keeps_47 : decode cX7_keeps 47 = .ok (.putfield 81, 3) := by decide +kernel
theorem dX7_keeps_50 : decode cX7_keeps 50 = .ok (.iconst 0, 1) := by decide +kernel
theorem dX7_keeps_51 : decode cX7_keeps 51 = .ok (.istore_n 1, 1) := by decide +kernel
theorem dX7_keeps_52 : decode cX7_keeps 52 = .ok (.iload_n 1, 1) := by decide +kernel
theorem dX7_keeps_53 : decode cX7_keeps 53 = .ok (.sipush 768, 3) := by decide +kernel
theorem dX7_keeps_56 : decode cX7_keeps 56 = .ok (.if_icmp .ge 30, 3) := by decide +kernel
theorem dX7_keeps_59 : decode cX7_keeps 59 = .ok (.aload_n 0, 1) := by decide +kernel
theorem dX7_keeps_60 : decode cX7_keeps 60 = .ok (.getfield 36, 3) := by decide +kernel
theorem dX7_keeps_63 : decode cX7_keeps 63 = .ok (.sipush 768, 3) := by decide +kernel
theorem dX7_keeps_66 : decode cX7_keeps 66 = .ok (.aload_n 0, 1) := by decide +kernel
theorem dX7_keeps_67 : decode cX7_keeps 67 = .ok (.getfield 81, 3) := by decide +kernel
theorem dX7_keeps_70 : decode cX7_keeps 70 = .ok (.imul, 1) := by decide +kernel
theorem dX7_keeps_71 : decode cX7_keeps 71 = .ok (.iload_n 1, 1) := by decide +kernel
theorem dX7_keeps_72 : decode cX7_keeps 72 = .ok (.iadd, 1) := by decide +kernel
theorem dX7_keeps_73 : decode cX7_keeps 73 = .ok (.aload_n 0, 1) := by decide +kernel
theorem dX7_keeps_74 : decode cX7_keeps 74 = .ok (.getfield 13, 3) := by decide +kernel
theorem dX7_keeps_77 : decode cX7_keeps 77 = .ok (.iload_n 1, 1) := by decide +kernel
theorem dX7_keeps_78 : decode cX7_keeps 78 = .ok (.baload, 1) := by decide +kernel
theorem dX7_keeps_79 : decode cX7_keeps 79 = .ok (.bastore, 1) := by decide +kernel
theorem dX7_keeps_80 : decode cX7_keeps 80 = .ok (.iinc 1 1, 3) := by decide +kernel
theorem dX7_keeps_83 : decode cX7_keeps 83 = .ok (.goto (-31), 3) := by decide +kernel
theorem dX7_keeps_86 : decode cX7_keeps 86 = .ok (.aload_n 0, 1) := by decide +kernel
theorem dX7_keeps_87 : decode cX7_keeps 87 = .ok (.dup, 1) := by decide +kernel
theorem dX7_keeps_88 : decode cX7_keeps 88 = .ok (.getfield 81, 3) := by decide +kernel
theorem dX7_keeps_91 : decode cX7_keeps 91 = .ok (.iconst 1, 1) := by decide +kernel
theorem dX7_keeps_92 : decode cX7_keeps 92 = .ok (.iadd, 1) := by decide +kernel
theorem dX7_keeps_93 : decode cX7_keeps 93 = .ok (.putfield 81, 3) := by decide +kernel
theorem dX7_keeps_96 : decode cX7_keeps 96 = .ok (.return_, 1) := by decide +kernel
theorem dX7_goesTo_0 : decode cX7_goesTo 0 = .ok (.iload_n 1, 1) := by decide +kernel
theorem dX7_goesTo_1 : decode cX7_goesTo 1 = .ok (.iconst 1, 1) := by decide +kernel
theorem dX7_goesTo_2 : decode cX7_goesTo 2 = .ok (.if_icmp .ne 14, 3) := by decide +kernel
theorem dX7_goesTo_5 : decode cX7_goesTo 5 = .ok (.iload_n 1, 1) := by decide +kernel
theorem dX7_goesTo_6 : decode cX7_goesTo 6 = .ok (.iload_n 2, 1) := by decide +kernel
theorem dX7_goesTo_7 : decode cX7_goesTo 7 = .ok (.iload_n 3, 1) := by decide +kernel
theorem dX7_goesTo_8 : decode cX7_goesTo 8 = .ok (.iload 4, 2) := by decide +kernel
theorem dX7_goesTo_10 : decode cX7_goesTo 10 = .ok (.invokestatic 130, 3) := by decide +kernel
theorem dX7_goesTo_13 : decode cX7_goesTo 13 = .ok (.goto 4, 3) := by decide +kernel
theorem dX7_goesTo_16 : decode cX7_goesTo 16 = .ok (.iload_n 3, 1) := by decide +kernel
theorem dX7_goesTo_17 : decode cX7_goesTo 17 = .ok (.istore 5, 2) := by decide +kernel
theorem dX7_goesTo_19 : decode cX7_goesTo 19 = .ok (.iload_n 1, 1) := by decide +kernel
theorem dX7_goesTo_20 : decode cX7_goesTo 20 = .ok (.ifCond .ne 14, 3) := by decide +kernel
theorem dX7_goesTo_23 : decode cX7_goesTo 23 = .ok (.iload_n 1, 1) := by decide +kernel
theorem dX7_goesTo_24 : decode cX7_goesTo 24 = .ok (.iload_n 2, 1) := by decide +kernel
theorem dX7_goesTo_25 : decode cX7_goesTo 25 = .ok (.iload_n 3, 1) := by decide +kernel
theorem dX7_goesTo_26 : decode cX7_goesTo 26 = .ok (.iload 4, 2) := by decide +kernel
theorem dX7_goesTo_28 : decode cX7_goesTo 28 = .ok (.invokestatic 130, 3) := by decide +kernel
theorem dX7_goesTo_31 : decode cX7_goesTo 31 = .ok (.goto 21, 3) := by decide +kernel
theorem dX7_goesTo_34 : decode cX7_goesTo 34 = .ok (.iload_n 1, 1) := by decide +kernel
theorem dX7_goesTo_35 : decode cX7_goesTo 35 = .ok (.iconst 1, 1) := by decide +kernel
theorem dX7_goesTo_36 : decode cX7_goesTo 36 = .ok (.if_icmp .ne 8, 3) := by decide +kernel
theorem dX7_goesTo_39 : decode cX7_goesTo 39 = .ok (.iload 4, 2) := by decide +kernel
theorem dX7_goesTo_41 : decode cX7_goesTo 41 = .ok (.goto 11, 3) := by decide +kernel
theorem dX7_goesTo_44 : decode cX7_goesTo 44 = .ok (.iload 4, 2) := by decide +kernel
theorem dX7_goesTo_46 : decode cX7_goesTo 46 = .ok (.aload_n 0, 1) := by decide +kernel
theorem dX7_goesTo_47 : decode cX7_goesTo 47 = .ok (.iload_n 3, 1) := by decide +kernel
theorem dX7_goesTo_48 : decode cX7_goesTo 48 = .ok (.invokevirtual 161, 3) := by decide +kernel
theorem dX7_goesTo_51 : decode cX7_goesTo 51 = .ok (.isub, 1) := by decide +kernel
theorem dX7_goesTo_52 : decode cX7_goesTo 52 = .ok (.istore 6, 2) := by decide +kernel
theorem dX7_goesTo_54 : decode cX7_goesTo 54 = .ok (.aload_n 0, 1) := by decide +kernel
theorem dX7_goesTo_55 : decode cX7_goesTo 55 = .ok (.iload 5, 2) := by decide +kernel
theorem dX7_goesTo_57 : decode cX7_goesTo 57 = .ok (.invokevirtual 70, 3) := by decide +kernel
theorem dX7_goesTo_60 : decode cX7_goesTo 60 = .ok (.ifCond .eq 22, 3) := by decide +kernel
theorem dX7_goesTo_63 : decode cX7_goesTo 63 = .ok (.iload 6, 2) := by decide +kernel
theorem dX7_goesTo_65 : decode cX7_goesTo 65 = .ok (.invokestatic 74, 3) := by decide +kernel
theorem dX7_goesTo_68 : decode cX7_goesTo 68 = .ok (.ifCond .eq 14, 3) := by decide +kernel
theorem dX7_goesTo_71 : decode cX7_goesTo 71 = .ok (.bipush 32, 2) := by decide +kernel
theorem dX7_goesTo_73 : decode cX7_goesTo 73 = .ok (.iload 5, 2) := by decide +kernel
theorem dX7_goesTo_75 : decode cX7_goesTo 75 = .ok (.imul, 1) := by decide +kernel
theorem dX7_goesTo_76 : decode cX7_goesTo 76 = .ok (.iload 6, 2) := by decide +kernel
theorem dX7_goesTo_78 : decode cX7_goesTo 78 = .ok (.iadd, 1) := by decide +kernel
theorem dX7_goesTo_79 : decode cX7_goesTo 79 = .ok (.goto 5, 3) := by decide +kernel
theorem dX7_goesTo_82 : decode cX7_goesTo 82 = .ok (.bipush (-9), 2) := by decide +kernel
theorem dX7_goesTo_84 : decode cX7_goesTo 84 = .ok (.ireturn, 1) := by decide +kernel
theorem dX7_moveAll_0 : decode cX7_moveAll 0 = .ok (.iconst 0, 1) := by decide +kernel
theorem dX7_moveAll_1 : decode cX7_moveAll 1 = .ok (.istore_n 3, 1) := by decide +kernel
theorem dX7_moveAll_2 : decode cX7_moveAll 2 = .ok (.iconst 0, 1) := by decide +kernel
theorem dX7_moveAll_3 : decode cX7_moveAll 3 = .ok (.istore 4, 2) := by decide +kernel
theorem dX7_moveAll_5 : decode cX7_moveAll 5 = .ok (.iload 4, 2) := by decide +kernel
theorem dX7_moveAll_7 : decode cX7_moveAll 7 = .ok (.sipush 768, 3) := by decide +kernel
theorem dX7_moveAll_10 : decode cX7_moveAll 10 = .ok (.if_icmp .ge 17, 3) := by decide +kernel
theorem dX7_moveAll_13 : decode cX7_moveAll 13 = .ok (.aload_n 0, 1) := by decide +kernel
theorem dX7_moveAll_14 : decode cX7_moveAll 14 = .ok (.getfield 39, 3) := by decide +kernel
theorem dX7_moveAll_17 : decode cX7_moveAll 17 = .ok (.iload 4, 2) := by decide +kernel
theorem dX7_moveAll_19 : decode cX7_moveAll 19 = .ok (.iconst 0, 1) := by decide +kernel
theorem dX7_moveAll_20 : decode cX7_moveAll 20 = .ok (.bastore, 1) := by decide +kernel
theorem dX7_moveAll_21 : decode cX7_moveAll 21 = .ok (.iinc 4 1, 3) := by decide +kernel
theorem dX7_moveAll_24 : decode cX7_moveAll 24 = .ok (.goto (-19), 3) := by decide +kernel
theorem dX7_moveAll_27 : decode cX7_moveAll 27 = .ok (.iconst 0, 1) := by decide +kernel
theorem dX7_moveAll_28 : decode cX7_moveAll 28 = .ok (.istore 4, 2) := by decide +kernel
theorem dX7_moveAll_30 : decode cX7_moveAll 30 = .ok (.iload 4, 2) := by decide +kernel
theorem dX7_moveAll_32 : decode cX7_moveAll 32 = .ok (.bipush 32, 2) := by decide +kernel
theorem dX7_moveAll_34 : decode cX7_moveAll 34 = .ok (.aload_n 0, 1) := by decide +kernel
theorem dX7_moveAll_35 : decode cX7_moveAll 35 = .ok (.getfield 7, 3) := by decide +kernel
theorem dX7_moveAll_38 : decode cX7_moveAll 38 = .ok (.imul, 1) := by decide +kernel
theorem dX7_moveAll_39 : decode cX7_moveAll 39 = .ok (.if_icmp .ge 70, 3) := by decide +kernel
theorem dX7_moveAll_42 : decode cX7_moveAll 42 = .ok (.aload_n 0, 1) := by decide +kernel
theorem dX7_moveAll_43 : decode cX7_moveAll 43 = .ok (.getfield 13, 3) := by decide +kernel
theorem dX7_moveAll_46 : decode cX7_moveAll 46 = .ok (.iload 4, 2) := by decide +kernel
theorem dX7_moveAll_48 : decode cX7_moveAll 48 = .ok (.baload, 1) := by decide +kernel
theorem dX7_moveAll_49 : decode cX7_moveAll 49 = .ok (.ifCond .eq 54, 3) := by decide +kernel
theorem dX7_moveAll_52 : decode cX7_moveAll 52 = .ok (.aload_n 0, 1) := by decide +kernel
theorem dX7_moveAll_53 : decode cX7_moveAll 53 = .ok (.iload_n 1, 1) := by decide +kernel
theorem dX7_moveAll_54 : decode cX7_moveAll 54 = .ok (.iload_n 2, 1) := by decide +kernel
theorem dX7_moveAll_55 : decode cX7_moveAll 55 = .ok (.iload 4, 2) := by decide +kernel
theorem dX7_moveAll_57 : decode cX7_moveAll 57 = .ok (.bipush 32, 2) := by decide +kernel
theorem dX7_moveAll_59 : decode cX7_moveAll 59 = .ok (.idiv, 1) := by decide +kernel
theorem dX7_moveAll_60 : decode cX7_moveAll 60 = .ok (.iload 4, 2) := by decide +kernel
theorem dX7_moveAll_62 : decode cX7_moveAll 62 = .ok (.bipush 32, 2) := by decide +kernel
theorem dX7_moveAll_64 : decode cX7_moveAll 64 = .ok (.irem, 1) := by decide +kernel
theorem dX7_moveAll_65 : decode cX7_moveAll 65 = .ok (.invokevirtual 164, 3) := by decide +kernel
theorem dX7_moveAll_68 : decode cX7_moveAll 68 = .ok (.istore 5, 2) := by decide +kernel
theorem dX7_moveAll_70 : decode cX7_moveAll 70 = .ok (.iload 5, 2) := by decide +kernel
theorem dX7_moveAll_72 : decode cX7_moveAll 72 = .ok (.bipush (-9), 2) := by decide +kernel
theorem dX7_moveAll_74 : decode cX7_moveAll 74 = .ok (.if_icmp .ne 6, 3) := by decide +kernel
theorem dX7_moveAll_77 : decode cX7_moveAll 77 = .ok (.bipush (-3), 2) := by decide +kernel
theorem dX7_moveAll_79 : decode cX7_moveAll 79 = .ok (.ireturn, 1) := by decide +kernel
theorem dX7_moveAll_80 : decode cX7_moveAll 80 = .ok (.aload_n 0, 1) := by decide +kernel
theorem dX7_moveAll_81 : decode cX7_moveAll 81 = .ok (.getfield 39, 3) := by decide +kernel
theorem dX7_moveAll_84 : decode cX7_moveAll 84 = .ok (.iload 5, 2) := by decide +kernel
theorem dX7_moveAll_86 : decode cX7_moveAll 86 = .ok (.iconst 1, 1) := by decide +kernel
theorem dX7_moveAll_87 : decode cX7_moveAll 87 = .ok (.bastore, 1) := by decide +kernel
theorem dX7_moveAll_88 : decode cX7_moveAll 88 = .ok (.iload_n 3, 1) := by decide +kernel
theorem dX7_moveAll_89 : decode cX7_moveAll 89 = .ok (.iload 5, 2) := by decide +kernel
theorem dX7_moveAll_91 : decode cX7_moveAll 91 = .ok (.iload 4, 2) := by decide +kernel
theorem dX7_moveAll_93 : decode cX7_moveAll 93 = .ok (.if_icmp .ne 7, 3) := by decide +kernel
theorem dX7_moveAll_96 : decode cX7_moveAll 96 = .ok (.iconst 0, 1) := by decide +kernel
theorem dX7_moveAll_97 : decode cX7_moveAll 97 = .ok (.goto 4, 3) := by decide +kernel
theorem dX7_moveAll_100 : decode cX7_moveAll 100 = .ok (.iconst 1, 1) := by decide +kernel
theorem dX7_moveAll_101 : decode cX7_moveAll 101 = .ok (.iadd, 1) := by decide +kernel
theorem dX7_moveAll_102 : decode cX7_moveAll 102 = .ok (.istore_n 3, 1) := by decide +kernel
theorem dX7_moveAll_103 : decode cX7_moveAll 103 = .ok (.iinc 4 1, 3) := by decide +kernel
theorem dX7_moveAll_106 : decode cX7_moveAll 106 = .ok (.goto (-76), 3) := by decide +kernel
theorem dX7_moveAll_109 : decode cX7_moveAll 109 = .ok (.aload_n 0, 1) := by decide +kernel
theorem dX7_moveAll_110 : decode cX7_moveAll 110 = .ok (.invokevirtual 167, 3) := by decide +kernel
theorem dX7_moveAll_113 : decode cX7_moveAll 113 = .ok (.iconst 0, 1) := by decide +kernel
theorem dX7_moveAll_114 : decode cX7_moveAll 114 = .ok (.istore 4, 2) := by decide +kernel
theorem dX7_moveAll_116 : decode cX7_moveAll 116 = .ok (.iload 4, 2) := by decide +kernel
theorem dX7_moveAll_118 : decode cX7_moveAll 118 = .ok (.sipush 768, 3) := by decide +kernel
theorem dX7_moveAll_121 : decode cX7_moveAll 121 = .ok (.if_icmp .ge 23, 3) := by decide +kernel
theorem dX7_moveAll_124 : decode cX7_moveAll 124 = .ok (.aload_n 0, 1) := by decide +kernel
theorem dX7_moveAll_125 : decode cX7_moveAll 125 = .ok (.getfield 13, 3) := by decide +kernel
theorem dX7_moveAll_128 : decode cX7_moveAll 128 = .ok (.iload 4, 2) := by decide +kernel
theorem dX7_moveAll_130 : decode cX7_moveAll 130 = .ok (.aload_n 0, 1) := by decide +kernel
theorem dX7_moveAll_131 : decode cX7_moveAll 131 = .ok (.getfield 39, 3) := by decide +kernel
theorem dX7_moveAll_134 : decode cX7_moveAll 134 = .ok (.iload 4, 2) := by decide +kernel
theorem dX7_moveAll_136 : decode cX7_moveAll 136 = .ok (.baload, 1) := by decide +kernel
theorem dX7_moveAll_137 : decode cX7_moveAll 137 = .ok (.bastore, 1) := by decide +kernel
theorem dX7_moveAll_138 : decode cX7_moveAll 138 = .ok (.iinc 4 1, 3) := by decide +kernel
theorem dX7_moveAll_141 : decode cX7_moveAll 141 = .ok (.goto (-25), 3) := by decide +kernel
theorem dX7_moveAll_144 : decode cX7_moveAll 144 = .ok (.iload_n 3, 1) := by decide +kernel
theorem dX7_moveAll_145 : decode cX7_moveAll 145 = .ok (.ireturn, 1) := by decide +kernel
theorem dX7_shear_0 : decode cX7_shear 0 = .ok (.iload_n 1, 1) := by decide +kernel
theorem dX7_shear_1 : decode cX7_shear 1 = .ok (.invokestatic 124, 3) := by decide +kernel
theorem dX7_shear_4 : decode cX7_shear 4 = .ok (.ifCond .eq 19, 3) := by decide +kernel
theorem dX7_shear_7 : decode cX7_shear 7 = .ok (.iload_n 2, 1) := by decide +kernel
theorem dX7_shear_8 : decode cX7_shear 8 = .ok (.invokestatic 127, 3) := by decide +kernel
theorem dX7_shear_11 : decode cX7_shear 11 = .ok (.ifCond .eq 12, 3) := by decide +kernel
theorem dX7_shear_14 : decode cX7_shear 14 = .ok (.aload_n 0, 1) := by decide +kernel
theorem dX7_shear_15 : decode cX7_shear 15 = .ok (.iload_n 1, 1) := by decide +kernel
theorem dX7_shear_16 : decode cX7_shear 16 = .ok (.iload_n 2, 1) := by decide +kernel
theorem dX7_shear_17 : decode cX7_shear 17 = .ok (.invokevirtual 170, 3) := by decide +kernel
theorem dX7_shear_20 : decode cX7_shear 20 = .ok (.goto 5, 3) := by decide +kernel
theorem dX7_shear_23 : decode cX7_shear 23 = .ok (.bipush (-2), 2) := by decide +kernel
theorem dX7_shear_25 : decode cX7_shear 25 = .ok (.ireturn, 1) := by decide +kernel
theorem dX7_back_0 : decode cX7_back 0 = .ok (.aload_n 0, 1) := by decide +kernel
theorem dX7_back_1 : decode cX7_back 1 = .ok (.getfield 81, 3) := by decide +kernel
theorem dX7_back_4 : decode cX7_back 4 = .ok (.ifCond .ne 6, 3) := by decide +kernel
theorem dX7_back_7 : decode cX7_back 7 = .ok (.bipush (-3), 2) := by decide +kernel
theorem dX7_back_9 : decode cX7_back 9 = .ok (.ireturn, 1) := by decide +kernel
theorem dX7_back_10 : decode cX7_back 10 = .ok (.aload_n 0, 1) := by decide +kernel
theorem dX7_back_11 : decode cX7_back 11 = .ok (.dup, 1) := by decide +kernel
theorem dX7_back_12 : decode cX7_back 12 = .ok (.getfield 81, 3) := by decide +kernel
theorem dX7_back_15 : decode cX7_back 15 = .ok (.iconst 1, 1) := by decide +kernel
theorem dX7_back_16 : decode cX7_back 16 = .ok (.isub, 1) := by decide +kernel
theorem dX7_back_17 : decode cX7_back 17 = .ok (.putfield 81, 3) := by decide +kernel
theorem dX7_back_20 : decode cX7_back 20 = .ok (.iconst 0, 1) := by decide +kernel
theorem dX7_back_21 : decode cX7_back 21 = .ok (.istore_n 1, 1) := by decide +kernel
theorem dX7_back_22 : decode cX7_back 22 = .ok (.iload_n 1, 1) := by decide +kernel
theorem dX7_back_23 : decode cX7_back 23 = .ok (.sipush 768, 3) := by decide +kernel
theorem dX7_back_26 : decode cX7_back 26 = .ok (.if_icmp .ge 30, 3) := by decide +kernel
theorem dX7_back_29 : decode cX7_back 29 = .ok (.aload_n 0, 1) := by decide +kernel
theorem dX7_back_30 : decode cX7_back 30 = .ok (.getfield 13, 3) := by decide +kernel
theorem dX7_back_33 : decode cX7_back 33 = .ok (.iload_n 1, 1) := by decide +kernel
theorem dX7_back_34 : decode cX7_back 34 = .ok (.aload_n 0, 1) := by decide +kernel
theorem dX7_back_35 : decode cX7_back 35 = .ok (.getfield 36, 3) := by decide +kernel
theorem dX7_back_38 : decode cX7_back 38 = .ok (.sipush 768, 3) := by decide +kernel
theorem dX7_back_41 : decode cX7_back 41 = .ok (.aload_n 0, 1) := by decide +kernel
theorem dX7_back_42 : decode cX7_back 42 = .ok (.getfield 81, 3) := by decide +kernel
theorem dX7_back_45 : decode cX7_back 45 = .ok (.imul, 1) := by decide +kernel
theorem dX7_back_46 : decode cX7_back 46 = .ok (.iload_n 1, 1) := by decide +kernel
theorem dX7_back_47 : decode cX7_back 47 = .ok (.iadd, 1) := by decide +kernel
theorem dX7_back_48 : decode cX7_back 48 = .ok (.baload, 1) := by decide +kernel
theorem dX7_back_49 : decode cX7_back 49 = .ok (.bastore, 1) := by decide +kernel
theorem dX7_back_50 : decode cX7_back 50 = .ok (.iinc 1 1, 3) := by decide +kernel
theorem dX7_back_53 : decode cX7_back 53 = .ok (.goto (-31), 3) := by decide +kernel
theorem dX7_back_56 : decode cX7_back 56 = .ok (.aload_n 0, 1) := by decide +kernel
theorem dX7_back_57 : decode cX7_back 57 = .ok (.getfield 81, 3) := by decide +kernel
theorem dX7_back_60 : decode cX7_back 60 = .ok (.ireturn, 1) := by decide +kernel
theorem dX7_findRuns_0 : decode cX7_findRuns 0 = .ok (.aload_n 0, 1) := by decide +kernel
theorem dX7_findRuns_1 : decode cX7_findRuns 1 = .ok (.iconst 0, 1) := by decide +kernel
theorem dX7_findRuns_2 : decode cX7_findRuns 2 = .ok (.putfield 173, 3) := by decide +kernel
theorem dX7_findRuns_5 : decode cX7_findRuns 5 = .ok (.iconst 0, 1) := by decide +kernel
theorem dX7_findRuns_6 : decode cX7_findRuns 6 = .ok (.istore_n 1, 1) := by decide +kernel
theorem dX7_findRuns_7 : decode cX7_findRuns 7 = .ok (.iload_n 1, 1) := by decide +kernel
theorem dX7_findRuns_8 : decode cX7_findRuns 8 = .ok (.bipush 32, 2) := by decide +kernel
theorem dX7_findRuns_10 : decode cX7_findRuns 10 = .ok (.if_icmp .ge 120, 3) := by decide +kernel
theorem dX7_findRuns_13 : decode cX7_findRuns 13 = .ok (.iconst 0, 1) := by decide +kernel
theorem dX7_findRuns_14 : decode cX7_findRuns 14 = .ok (.istore_n 2, 1) := by decide +kernel
theorem dX7_findRuns_15 : decode cX7_findRuns 15 = .ok (.iload_n 2, 1) := by decide +kernel
theorem dX7_findRuns_16 : decode cX7_findRuns 16 = .ok (.aload_n 0, 1) := by decide +kernel
theorem dX7_findRuns_17 : decode cX7_findRuns 17 = .ok (.getfield 7, 3) := by decide +kernel
theorem dX7_findRuns_20 : decode cX7_findRuns 20 = .ok (.if_icmp .ge 104, 3) := by decide +kernel
theorem dX7_findRuns_23 : decode cX7_findRuns 23 = .ok (.aload_n 0, 1) := by decide +kernel
theorem dX7_findRuns_24 : decode cX7_findRuns 24 = .ok (.iload_n 2, 1) := by decide +kernel
theorem dX7_findRuns_25 : decode cX7_findRuns 25 = .ok (.iload_n 1, 1) := by decide +kernel
theorem dX7_findRuns_26 : decode cX7_findRuns 26 = .ok (.invokevirtual 88, 3) := by decide +kernel
theorem dX7_findRuns_29 : decode cX7_findRuns 29 = .ok (.ifCond .eq 65, 3) := by decide +kernel
theorem dX7_findRuns_32 : decode cX7_findRuns 32 = .ok (.aload_n 0, 1) := by decide +kernel
theorem dX7_findRuns_33 : decode cX7_findRuns 33 = .ok (.iload_n 2, 1) := by decide +kernel
theorem dX7_findRuns_34 : decode cX7_findRuns 34 = .ok (.iconst 1, 1) := by decide +kernel
theorem dX7_findRuns_35 : decode cX7_findRuns 35 = .ok (.isub, 1) := by decide +kernel
theorem dX7_findRuns_36 : decode cX7_findRuns 36 = .ok (.iload_n 1, 1) := by decide +kernel
theorem dX7_findRuns_37 : decode cX7_findRuns 37 = .ok (.invokevirtual 88, 3) := by decide +kernel
theorem dX7_findRuns_40 : decode cX7_findRuns 40 = .ok (.ifCond .ne 54, 3) := by decide +kernel
theorem dX7_findRuns_43 : decode cX7_findRuns 43 = .ok (.aload_n 0, 1) := by decide +kernel
theorem dX7_findRuns_44 : decode cX7_findRuns 44 = .ok (.getfield 42, 3) := by decide +kernel
theorem dX7_findRuns_47 : decode cX7_findRuns 47 = .ok (.aload_n 0, 1) := by decide +kernel
theorem dX7_findRuns_48 : decode cX7_findRuns 48 = .ok (.getfield 173, 3) := by decide +kernel
theorem dX7_findRuns_51 : decode cX7_findRuns 51 = .ok (.iload_n 1, 1) := by decide +kernel
theorem dX7_findRuns_52 : decode cX7_findRuns 52 = .ok (.iastore, 1) := by decide +kernel
theorem dX7_findRuns_53 : decode cX7_findRuns 53 = .ok (.aload_n 0, 1) := by decide +kernel
theorem dX7_findRuns_54 : decode cX7_findRuns 54 = .ok (.getfield 45, 3) := by decide +kernel
theorem dX7_findRuns_57 : decode cX7_findRuns 57 = .ok (.aload_n 0, 1) := by decide +kernel
theorem dX7_findRuns_58 : decode cX7_findRuns 58 = .ok (.getfield 173, 3) := by decide +kernel
theorem dX7_findRuns_61 : decode cX7_findRuns 61 = .ok (.iload_n 2, 1) := by decide +kernel
theorem dX7_findRuns_62 : decode cX7_findRuns 62 = .ok (.iastore, 1) := by decide +kernel
theorem dX7_findRuns_63 : decode cX7_findRuns 63 = .ok (.aload_n 0, 1) := by decide +kernel
theorem dX7_findRuns_64 : decode cX7_findRuns 64 = .ok (.getfield 48, 3) := by decide +kernel
theorem dX7_findRuns_67 : decode cX7_findRuns 67 = .ok (.aload_n 0, 1) := by decide +kernel
theorem dX7_findRuns_68 : decode cX7_findRuns 68 = .ok (.getfield 173, 3) := by decide +kernel
theorem dX7_findRuns_71 : decode cX7_findRuns 71 = .ok (.iconst 0, 1) := by decide +kernel
theorem dX7_findRuns_72 : decode cX7_findRuns 72 = .ok (.iastore, 1) := by decide +kernel
theorem dX7_findRuns_73 : decode cX7_findRuns 73 = .ok (.aload_n 0, 1) := by decide +kernel
theorem dX7_findRuns_74 : decode cX7_findRuns 74 = .ok (.getfield 51, 3) := by decide +kernel
theorem dX7_findRuns_77 : decode cX7_findRuns 77 = .ok (.aload_n 0, 1) := by decide +kernel
theorem dX7_findRuns_78 : decode cX7_findRuns 78 = .ok (.getfield 173, 3) := by decide +kernel
theorem dX7_findRuns_81 : decode cX7_findRuns 81 = .ok (.bipush (-9), 2) := by decide +kernel
theorem dX7_findRuns_83 : decode cX7_findRuns 83 = .ok (.iastore, 1) := by decide +kernel
theorem dX7_findRuns_84 : decode cX7_findRuns 84 = .ok (.aload_n 0, 1) := by decide +kernel
theorem dX7_findRuns_85 : decode cX7_findRuns 85 = .ok (.dup, 1) := by decide +kernel
theorem dX7_findRuns_86 : decode cX7_findRuns 86 = .ok (.getfield 173, 3) := by decide +kernel
theorem dX7_findRuns_89 : decode cX7_findRuns 89 = .ok (.iconst 1, 1) := by decide +kernel
theorem dX7_findRuns_90 : decode cX7_findRuns 90 = .ok (.iadd, 1) := by decide +kernel
theorem dX7_findRuns_91 : decode cX7_findRuns 91 = .ok (.putfield 173, 3) := by decide +kernel
theorem dX7_findRuns_94 : decode cX7_findRuns 94 = .ok (.aload_n 0, 1) := by decide +kernel
theorem dX7_findRuns_95 : decode cX7_findRuns 95 = .ok (.iload_n 2, 1) := by decide +kernel
theorem dX7_findRuns_96 : decode cX7_findRuns 96 = .ok (.iload_n 1, 1) := by decide +kernel
theorem dX7_findRuns_97 : decode cX7_findRuns 97 = .ok (.invokevirtual 88, 3) := by decide +kernel
theorem dX7_findRuns_100 : decode cX7_findRuns 100 = .ok (.ifCond .eq 18, 3) := by decide +kernel
theorem dX7_findRuns_103 : decode cX7_findRuns 103 = .ok (.aload_n 0, 1) := by decide +kernel
theorem dX7_findRuns_104 : decode cX7_findRuns 104 = .ok (.getfield 48, 3) := by decide +kernel
theorem dX7_findRuns_107 : decode cX7_findRuns 107 = .ok (.aload_n 0, 1) := by decide +kernel
theorem dX7_findRuns_108 : decode cX7_findRuns 108 = .ok (.getfield 173, 3) := by decide +kernel
theorem dX7_findRuns_111 : decode cX7_findRuns 111 = .ok (.iconst 1, 1) := by decide +kernel
theorem dX7_findRuns_112 : decode cX7_findRuns 112 = .ok (.isub, 1) := by decide +kernel
theorem dX7_findRuns_113 : decode cX7_findRuns 113 = .ok (.dup2, 1) := by decide +kernel
theorem dX7_findRuns_114 : decode cX7_findRuns 114 = .ok (.iaload, 1) := by decide +kernel
theorem dX7_findRuns_115 : decode cX7_findRuns 115 = .ok (.iconst 1, 1) := by decide +kernel
theorem dX7_findRuns_116 : decode cX7_findRuns 116 = .ok (.iadd, 1) := by decide +kernel
theorem dX7_findRuns_117 : decode cX7_findRuns 117 = .ok (.iastore, 1) := by decide +kernel
theorem dX7_findRuns_118 : decode cX7_findRuns 118 = .ok (.iinc 2 1, 3) := by decide +kernel
theorem dX7_findRuns_121 : decode cX7_findRuns 121 = .ok (.goto (-106), 3) := by decide +kernel
theorem dX7_findRuns_124 : decode cX7_findRuns 124 = .ok (.iinc 1 1, 3) := by decide +kernel
theorem dX7_findRuns_127 : decode cX7_findRuns 127 = .ok (.goto (-120), 3) := by decide +kernel
theorem dX7_findRuns_130 : decode cX7_findRuns 130 = .ok (.return_, 1) := by decide +kernel
theorem dX7_areTouching_0 : decode cX7_areTouching 0 = .ok (.aload_n 0, 1) := by decide +kernel
theorem dX7_areTouching_1 : decode cX7_areTouching 1 = .ok (.getfield 42, 3) := by decide +kernel
theorem dX7_areTouching_4 : decode cX7_areTouching 4 = .ok (.iload_n 1, 1) := by decide +kernel
theorem dX7_areTouching_5 : decode cX7_areTouching 5 = .ok (.iaload, 1) := by decide +kernel
theorem dX7_areTouching_6 : decode cX7_areTouching 6 = .ok (.aload_n 0, 1) := by decide +kernel
theorem dX7_areTouching_7 : decode cX7_areTouching 7 = .ok (.getfield 42, 3) := by decide +kernel
theorem dX7_areTouching_10 : decode cX7_areTouching 10 = .ok (.iload_n 2, 1) := by decide +kernel
theorem dX7_areTouching_11 : decode cX7_areTouching 11 = .ok (.iaload, 1) := by decide +kernel
theorem dX7_areTouching_12 : decode cX7_areTouching 12 = .ok (.isub, 1) := by decide +kernel
theorem dX7_areTouching_13 : decode cX7_areTouching 13 = .ok (.istore_n 3, 1) := by decide +kernel
theorem dX7_areTouching_14 : decode cX7_areTouching 14 = .ok (.iload_n 3, 1) := by decide +kernel
theorem dX7_areTouching_15 : decode cX7_areTouching 15 = .ok (.iconst 1, 1) := by decide +kernel
theorem dX7_areTouching_16 : decode cX7_areTouching 16 = .ok (.if_icmp .eq 8, 3) := by decide +kernel
theorem dX7_areTouching_19 : decode cX7_areTouching 19 = .ok (.iload_n 3, 1) := by decide +kernel
theorem dX7_areTouching_20 : decode cX7_areTouching 20 = .ok (.iconst (-1), 1) := by decide +kernel
theorem dX7_areTouching_21 : decode cX7_areTouching 21 = .ok (.if_icmp .ne 7, 3) := by decide +kernel
theorem dX7_areTouching_24 : decode cX7_areTouching 24 = .ok (.iconst 1, 1) := by decide +kernel
theorem dX7_areTouching_25 : decode cX7_areTouching 25 = .ok (.goto 4, 3) := by decide +kernel
theorem dX7_areTouching_28 : decode cX7_areTouching 28 = .ok (.iconst 0, 1) := by decide +kernel
theorem dX7_areTouching_29 : decode cX7_areTouching 29 = .ok (.istore 4, 2) := by decide +kernel
theorem dX7_areTouching_31 : decode cX7_areTouching 31 = .ok (.iload 4, 2) := by decide +kernel
theorem dX7_areTouching_33 : decode cX7_areTouching 33 = .ok (.ifCond .eq 51, 3) := by decide +kernel
theorem dX7_areTouching_36 : decode cX7_areTouching 36 = .ok (.aload_n 0, 1) := by decide +kernel
theorem dX7_areTouching_37 : decode cX7_areTouching 37 = .ok (.getfield 45, 3) := by decide +kernel
theorem dX7_areTouching_40 : decode cX7_areTouching 40 = .ok (.iload_n 1, 1) := by decide +kernel
theorem dX7_areTouching_41 : decode cX7_areTouching 41 = .ok (.iaload, 1) := by decide +kernel
theorem dX7_areTouching_42 : decode cX7_areTouching 42 = .ok (.aload_n 0, 1) := by decide +kernel
theorem dX7_areTouching_43 : decode cX7_areTouching 43 = .ok (.getfield 45, 3) := by decide +kernel
theorem dX7_areTouching_46 : decode cX7_areTouching 46 = .ok (.iload_n 2, 1) := by decide +kernel
theorem dX7_areTouching_47 : decode cX7_areTouching 47 = .ok (.iaload, 1) := by decide +kernel
theorem dX7_areTouching_48 : decode cX7_areTouching 48 = .ok (.aload_n 0, 1) := by decide +kernel
theorem dX7_areTouching_49 : decode cX7_areTouching 49 = .ok (.getfield 48, 3) := by decide +kernel
theorem dX7_areTouching_52 : decode cX7_areTouching 52 = .ok (.iload_n 2, 1) := by decide +kernel
theorem dX7_areTouching_53 : decode cX7_areTouching 53 = .ok (.iaload, 1) := by decide +kernel
theorem dX7_areTouching_54 : decode cX7_areTouching 54 = .ok (.iadd, 1) := by decide +kernel
theorem dX7_areTouching_55 : decode cX7_areTouching 55 = .ok (.if_icmp .gt 29, 3) := by decide +kernel
theorem dX7_areTouching_58 : decode cX7_areTouching 58 = .ok (.aload_n 0, 1) := by decide +kernel
theorem dX7_areTouching_59 : decode cX7_areTouching 59 = .ok (.getfield 45, 3) := by decide +kernel
theorem dX7_areTouching_62 : decode cX7_areTouching 62 = .ok (.iload_n 2, 1) := by decide +kernel
theorem dX7_areTouching_63 : decode cX7_areTouching 63 = .ok (.iaload, 1) := by decide +kernel
theorem dX7_areTouching_64 : decode cX7_areTouching 64 = .ok (.aload_n 0, 1) := by decide +kernel
theorem dX7_areTouching_65 : decode cX7_areTouching 65 = .ok (.getfield 45, 3) := by decide +kernel
theorem dX7_areTouching_68 : decode cX7_areTouching 68 = .ok (.iload_n 1, 1) := by decide +kernel
theorem dX7_areTouching_69 : decode cX7_areTouching 69 = .ok (.iaload, 1) := by decide +kernel
theorem dX7_areTouching_70 : decode cX7_areTouching 70 = .ok (.aload_n 0, 1) := by decide +kernel
theorem dX7_areTouching_71 : decode cX7_areTouching 71 = .ok (.getfield 48, 3) := by decide +kernel
theorem dX7_areTouching_74 : decode cX7_areTouching 74 = .ok (.iload_n 1, 1) := by decide +kernel
theorem dX7_areTouching_75 : decode cX7_areTouching 75 = .ok (.iaload, 1) := by decide +kernel
theorem dX7_areTouching_76 : decode cX7_areTouching 76 = .ok (.iadd, 1) := by decide +kernel
theorem dX7_areTouching_77 : decode cX7_areTouching 77 = .ok (.if_icmp .gt 7, 3) := by decide +kernel
theorem dX7_areTouching_80 : decode cX7_areTouching 80 = .ok (.iconst 1, 1) := by decide +kernel
theorem dX7_areTouching_81 : decode cX7_areTouching 81 = .ok (.goto 4, 3) := by decide +kernel
theorem dX7_areTouching_84 : decode cX7_areTouching 84 = .ok (.iconst 0, 1) := by decide +kernel
theorem dX7_areTouching_85 : decode cX7_areTouching 85 = .ok (.ireturn, 1) := by decide +kernel
theorem dX7_spreads_0 : decode cX7_spreads 0 = .ok (.iconst 1, 1) := by decide +kernel
theorem dX7_spreads_1 : decode cX7_spreads 1 = .ok (.istore_n 2, 1) := by decide +kernel
theorem dX7_spreads_2 : decode cX7_spreads 2 = .ok (.iload_n 2, 1) := by decide +kernel
theorem dX7_spreads_3 : decode cX7_spreads 3 = .ok (.ifCond .eq 83, 3) := by decide +kernel
theorem dX7_spreads_6 : decode cX7_spreads 6 = .ok (.iconst 0, 1) := by decide +kernel
theorem dX7_spreads_7 : decode cX7_spreads 7 = .ok (.istore_n 2, 1) := by decide +kernel
theorem dX7_spreads_8 : decode cX7_spreads 8 = .ok (.iconst 0, 1) := by decide +kernel
theorem dX7_spreads_9 : decode cX7_spreads 9 = .ok (.istore_n 3, 1) := by decide +kernel
theorem dX7_spreads_10 : decode cX7_spreads 10 = .ok (.iload_n 3, 1) := by decide +kernel
theorem dX7_spreads_11 : decode cX7_spreads 11 = .ok (.aload_n 0, 1) := by decide +kernel
theorem dX7_spreads_12 : decode cX7_spreads 12 = .ok (.getfield 173, 3) := by decide +kernel
theorem dX7_spreads_15 : decode cX7_spreads 15 = .ok (.if_icmp .ge 68, 3) := by decide +kernel
theorem dX7_spreads_18 : decode cX7_spreads 18 = .ok (.iconst 0, 1) := by decide +kernel
theorem dX7_spreads_19 : decode cX7_spreads 19 = .ok (.istore 4, 2) := by decide +kernel
theorem dX7_spreads_21 : decode cX7_spreads 21 = .ok (.iload 4, 2) := by decide +kernel
theorem dX7_spreads_23 : decode cX7_spreads 23 = .ok (.aload_n 0, 1) := by decide +kernel
theorem dX7_spreads_24 : decode cX7_spreads 24 = .ok (.getfield 173, 3) := by decide +kernel
theorem dX7_spreads_27 : decode cX7_spreads 27 = .ok (.if_icmp .ge 50, 3) := by decide +kernel
theorem dX7_spreads_30 : decode cX7_spreads 30 = .ok (.aload_n 0, 1) := by decide +kernel
theorem dX7_spreads_31 : decode cX7_spreads 31 = .ok (.getfield 51, 3) := by decide +kernel
theorem dX7_spreads_34 : decode cX7_spreads 34 = .ok (.iload_n 3, 1) := by decide +kernel
theorem dX7_spreads_35 : decode cX7_spreads 35 = .ok (.iaload, 1) := by decide +kernel
theorem dX7_spreads_36 : decode cX7_spreads 36 = .ok (.bipush (-9), 2) := by decide +kernel
theorem dX7_spreads_38 : decode cX7_spreads 38 = .ok (.if_icmp .ne 39, 3) := by decide +kernel
theorem dX7_spreads_41 : decode cX7_spreads 41 = .ok (.aload_n 0, 1) := by decide +kernel
theorem dX7_spreads_42 : decode cX7_spreads 42 = .ok (.getfield 51, 3) := by decide +kernel
theorem dX7_spreads_45 : decode cX7_spreads 45 = .ok (.iload 4, 2) := by decide +kernel
theorem dX7_spreads_47 : decode cX7_spreads 47 = .ok (.iaload, 1) := by decide +kernel
theorem dX7_spreads_48 : decode cX7_spreads 48 = .ok (.iload_n 1, 1) := by decide +kernel
theorem dX7_spreads_49 : decode cX7_spreads 49 = .ok (.if_icmp .ne 22, 3) := by decide +kernel
theorem dX7_spreads_52 : decode cX7_spreads 52 = .ok (.aload_n 0, 1) := by decide +kernel
theorem dX7_spreads_53 : decode cX7_spreads 53 = .ok (.iload_n 3, 1) := by decide +kernel
theorem dX7_spreads_54 : decode cX7_spreads 54 = .ok (.iload 4, 2) := by decide +kernel
theorem dX7_spreads_56 : decode cX7_spreads 56 = .ok (.invokevirtual 176, 3) := by decide +kernel
theorem dX7_spreads_59 : decode cX7_spreads 59 = .ok (.ifCond .eq 12, 3) := by decide +kernel
theorem dX7_spreads_62 : decode cX7_spreads 62 = .ok (.aload_n 0, 1) := by decide +kernel
theorem dX7_spreads_63 : decode cX7_spreads 63 = .ok (.getfield 51, 3) := by decide +kernel
theorem dX7_spreads_66 : decode cX7_spreads 66 = .ok (.iload_n 3, 1) := by decide +kernel
theorem dX7_spreads_67 : decode cX7_spreads 67 = .ok (.iload_n 1, 1) := by decide +kernel
theorem dX7_spreads_68 : decode cX7_spreads 68 = .ok (.iastore, 1) := by decide +kernel
theorem dX7_spreads_69 : decode cX7_spreads 69 = .ok (.iconst 1, 1) := by decide +kernel
theorem dX7_spreads_70 : decode cX7_spreads 70 = .ok (.istore_n 2, 1) := by decide +kernel
theorem dX7_spreads_71 : decode cX7_spreads 71 = .ok (.iinc 4 1, 3) := by decide +kernel
theorem dX7_spreads_74 : decode cX7_spreads 74 = .ok (.goto (-53), 3) := by decide +kernel
theorem dX7_spreads_77 : decode cX7_spreads 77 = .ok (.iinc 3 1, 3) := by decide +kernel
theorem dX7_spreads_80 : decode cX7_spreads 80 = .ok (.goto (-70), 3) := by decide +kernel
theorem dX7_spreads_83 : decode cX7_spreads 83 = .ok (.goto (-81), 3) := by decide +kernel
theorem dX7_spreads_86 : decode cX7_spreads 86 = .ok (.return_, 1) := by decide +kernel
theorem dX7_findStrokes_0 : decode cX7_findStrokes 0 = .ok (.aload_n 0, 1) := by decide +kernel
theorem dX7_findStrokes_1 : decode cX7_findStrokes 1 = .ok (.invokevirtual 179, 3) := by decide +kernel
theorem dX7_findStrokes_4 : decode cX7_findStrokes 4 = .ok (.aload_n 0, 1) := by decide +kernel
theorem dX7_findStrokes_5 : decode cX7_findStrokes 5 = .ok (.iconst 0, 1) := by decide +kernel
theorem dX7_findStrokes_6 : decode cX7_findStrokes 6 = .ok (.putfield 182, 3) := by decide +kernel
theorem dX7_findStrokes_9 : decode cX7_findStrokes 9 = .ok (.iconst 0, 1) := by decide +kernel
theorem dX7_findStrokes_10 : decode cX7_findStrokes 10 = .ok (.istore_n 1, 1) := by decide +kernel
theorem dX7_findStrokes_11 : decode cX7_findStrokes 11 = .ok (.iload_n 1, 1) := by decide +kernel
theorem dX7_findStrokes_12 : decode cX7_findStrokes 12 = .ok (.aload_n 0, 1) := by decide +kernel
theorem dX7_findStrokes_13 : decode cX7_findStrokes 13 = .ok (.getfield 173, 3) := by decide +kernel
theorem dX7_findStrokes_16 : decode cX7_findStrokes 16 = .ok (.if_icmp .ge 48, 3) := by decide +kernel
theorem dX7_findStrokes_19 : decode cX7_findStrokes 19 = .ok (.aload_n 0, 1) := by decide +kernel
theorem dX7_findStrokes_20 : decode cX7_findStrokes 20 = .ok (.getfield 51, 3) := by decide +kernel
theorem dX7_findStrokes_23 : decode cX7_findStrokes 23 = .ok (.iload_n 1, 1) := by decide +kernel
theorem dX7_findStrokes_24 : decode cX7_findStrokes 24 = .ok (.iaload, 1) := by decide +kernel
theorem dX7_findStrokes_25 : decode cX7_findStrokes 25 = .ok (.bipush (-9), 2) := by decide +kernel
theorem dX7_findStrokes_27 : decode cX7_findStrokes 27 = .ok (.if_icmp .ne 31, 3) := by decide +kernel
theorem dX7_findStrokes_30 : decode cX7_findStrokes 30 = .ok (.aload_n 0, 1) := by decide +kernel
theorem dX7_findStrokes_31 : decode cX7_findStrokes 31 = .ok (.getfield 51, 3) := by decide +kernel
theorem dX7_findStrokes_34 : decode cX7_findStrokes 34 = .ok (.iload_n 1, 1) := by decide +kernel
theorem dX7_findStrokes_35 : decode cX7_findStrokes 35 = .ok (.aload_n 0, 1) := by decide +kernel
theorem dX7_findStrokes_36 : decode cX7_findStrokes 36 = .ok (.getfield 182, 3) := by decide +kernel
theorem dX7_findStrokes_39 : decode cX7_findStrokes 39 = .ok (.iastore, 1) := by decide +kernel
theorem dX7_findStrokes_40 : decode cX7_findStrokes 40 = .ok (.aload_n 0, 1) := by decide +kernel
theorem dX7_findStrokes_41 : decode cX7_findStrokes 41 = .ok (.aload_n 0, 1) := by decide +kernel
theorem dX7_findStrokes_42 : decode cX7_findStrokes 42 = .ok (.getfield 182, 3) := by decide +kernel
theorem dX7_findStrokes_45 : decode cX7_findStrokes 45 = .ok (.invokevirtual 185, 3) := by decide +kernel
theorem dX7_findStrokes_48 : decode cX7_findStrokes 48 = .ok (.aload_n 0, 1) := by decide +kernel
theorem dX7_findStrokes_49 : decode cX7_findStrokes 49 = .ok (.dup, 1) := by decide +kernel
theorem dX7_findStrokes_50 : decode cX7_findStrokes 50 = .ok (.getfield 182, 3) := by decide +kernel
theorem dX7_findStrokes_53 : decode cX7_findStrokes 53 = .ok (.iconst 1, 1) := by decide +kernel
theorem dX7_findStrokes_54 : decode cX7_findStrokes 54 = .ok (.iadd, 1) := by decide +kernel
theorem dX7_findStrokes_55 : decode cX7_findStrokes 55 = .ok (.putfield 182, 3) := by decide +kernel
theorem dX7_findStrokes_58 : decode cX7_findStrokes 58 = .ok (.iinc 1 1, 3) := by decide +kernel
theorem dX7_findStrokes_61 : decode cX7_findStrokes 61 = .ok (.goto (-50), 3) := by decide +kernel
theorem dX7_findStrokes_64 : decode cX7_findStrokes 64 = .ok (.return_, 1) := by decide +kernel
theorem dX7_run_0 : decode cX7_run 0 = .ok (.aload_n 0, 1) := by decide +kernel
theorem dX7_run_1 : decode cX7_run 1 = .ok (.invokevirtual 188, 3) := by decide +kernel
theorem dX7_run_4 : decode cX7_run 4 = .ok (.iload_n 1, 1) := by decide +kernel
theorem dX7_run_5 : decode cX7_run 5 = .ok (.iconst 0, 1) := by decide +kernel
theorem dX7_run_6 : decode cX7_run 6 = .ok (.aload_n 0, 1) := by decide +kernel
theorem dX7_run_7 : decode cX7_run 7 = .ok (.getfield 173, 3) := by decide +kernel
theorem dX7_run_10 : decode cX7_run 10 = .ok (.iconst 1, 1) := by decide +kernel
theorem dX7_run_11 : decode cX7_run 11 = .ok (.isub, 1) := by decide +kernel
theorem dX7_run_12 : decode cX7_run 12 = .ok (.invokestatic 66, 3) := by decide +kernel
theorem dX7_run_15 : decode cX7_run 15 = .ok (.ifCond .ne 5, 3) := by decide +kernel
theorem dX7_run_18 : decode cX7_run 18 = .ok (.iconst (-1), 1) := by decide +kernel
theorem dX7_run_19 : decode cX7_run 19 = .ok (.ireturn, 1) := by decide +kernel
theorem dX7_run_20 : decode cX7_run 20 = .ok (.iload_n 2, 1) := by decide +kernel
theorem dX7_run_21 : decode cX7_run 21 = .ok (.tableswitch 59 0 3 #[31, 38, 45, 52], 31) := by decide +kernel
theorem dX7_run_52 : decode cX7_run 52 = .ok (.aload_n 0, 1) := by decide +kernel
theorem dX7_run_53 : decode cX7_run 53 = .ok (.getfield 42, 3) := by decide +kernel
theorem dX7_run_56 : decode cX7_run 56 = .ok (.iload_n 1, 1) := by decide +kernel
theorem dX7_run_57 : decode cX7_run 57 = .ok (.iaload, 1) := by decide +kernel
theorem dX7_run_58 : decode cX7_run 58 = .ok (.ireturn, 1) := by decide +kernel
theorem dX7_run_59 : decode cX7_run 59 = .ok (.aload_n 0, 1) := by decide +kernel
theorem dX7_run_60 : decode cX7_run 60 = .ok (.getfield 45, 3) := by decide +kernel
theorem dX7_run_63 : decode cX7_run 63 = .ok (.iload_n 1, 1) := by decide +kernel
theorem dX7_run_64 : decode cX7_run 64 = .ok (.iaload, 1) := by decide +kernel
theorem dX7_run_65 : decode cX7_run 65 = .ok (.ireturn, 1) := by decide +kernel
theorem dX7_run_66 : decode cX7_run 66 = .ok (.aload_n 0, 1) := by decide +kernel
theorem dX7_run_67 : decode cX7_run 67 = .ok (.getfield 48, 3) := by decide +kernel
theorem dX7_run_70 : decode cX7_run 70 = .ok (.iload_n 1, 1) := by decide +kernel
theorem dX7_run_71 : decode cX7_run 71 = .ok (.iaload, 1) := by decide +kernel
theorem dX7_run_72 : decode cX7_run 72 = .ok (.ireturn, 1) := by decide +kernel
theorem dX7_run_73 : decode cX7_run 73 = .ok (.aload_n 0, 1) := by decide +kernel
theorem dX7_run_74 : decode cX7_run 74 = .ok (.getfield 51, 3) := by decide +kernel
theorem dX7_run_77 : decode cX7_run 77 = .ok (.iload_n 1, 1) := by decide +kernel
theorem dX7_run_78 : decode cX7_run 78 = .ok (.iaload, 1) := by decide +kernel
theorem dX7_run_79 : decode cX7_run 79 = .ok (.ireturn, 1) := by decide +kernel
theorem dX7_run_80 : decode cX7_run 80 = .ok (.bipush (-2), 2) := by decide +kernel
theorem dX7_run_82 : decode cX7_run 82 = .ok (.ireturn, 1) := by decide +kernel
theorem dX7_stroke_0 : decode cX7_stroke 0 = .ok (.aload_n 0, 1) := by decide +kernel
theorem dX7_stroke_1 : decode cX7_stroke 1 = .ok (.invokevirtual 188, 3) := by decide +kernel
theorem dX7_stroke_4 : decode cX7_stroke 4 = .ok (.iload_n 1, 1) := by decide +kernel
theorem dX7_stroke_5 : decode cX7_stroke 5 = .ok (.iconst 0, 1) := by decide +kernel
theorem dX7_stroke_6 : decode cX7_stroke 6 = .ok (.aload_n 0, 1) := by decide +kernel
theorem dX7_stroke_7 : decode cX7_stroke 7 = .ok (.getfield 182, 3) := by decide +kernel
theorem dX7_stroke_10 : decode cX7_stroke 10 = .ok (.iconst 1, 1) := by decide +kernel
theorem dX7_stroke_11 : decode cX7_stroke 11 = .ok (.isub, 1) := by decide +kernel
theorem dX7_stroke_12 : decode cX7_stroke 12 = .ok (.invokestatic 66, 3) := by decide +kernel
theorem dX7_stroke_15 : decode cX7_stroke 15 = .ok (.ifCond .ne 5, 3) := by decide +kernel
theorem dX7_stroke_18 : decode cX7_stroke 18 = .ok (.iconst (-1), 1) := by decide +kernel
theorem dX7_stroke_19 : decode cX7_stroke 19 = .ok (.ireturn, 1) := by decide +kernel
theorem dX7_stroke_20 : decode cX7_stroke 20 = .ok (.iload_n 2, 1) := by decide +kernel
theorem dX7_stroke_21 : decode cX7_stroke 21 = .ok (.iconst 0, 1) := by decide +kernel
theorem dX7_stroke_22 : decode cX7_stroke 22 = .ok (.iconst 5, 1) := by decide +kernel
theorem dX7_stroke_23 : decode cX7_stroke 23 = .ok (.invokestatic 66, 3) := by decide +kernel
theorem dX7_stroke_26 : decode cX7_stroke 26 = .ok (.ifCond .ne 6, 3) := by decide +kernel
theorem dX7_stroke_29 : decode cX7_stroke 29 = .ok (.bipush (-2), 2) := by decide +kernel
theorem dX7_stroke_31 : decode cX7_stroke 31 = .ok (.ireturn, 1) := by decide +kernel
theorem dX7_stroke_32 : decode cX7_stroke 32 = .ok (.iconst 0, 1) := by decide +kernel
theorem dX7_stroke_33 : decode cX7_stroke 33 = .ok (.istore_n 3, 1) := by decide +kernel
theorem dX7_stroke_34 : decode cX7_stroke 34 = .ok (.iconst 0, 1) := by decide +kernel
theorem dX7_stroke_35 : decode cX7_stroke 35 = .ok (.istore 4, 2) := by decide +kernel
theorem dX7_stroke_37 : decode cX7_stroke 37 = .ok (.bipush 32, 2) := by decide +kernel
theorem dX7_stroke_39 : decode cX7_stroke 39 = .ok (.istore 5, 2) := by decide +kernel
theorem dX7_stroke_41 : decode cX7_stroke 41 = .ok (.iconst (-1), 1) := by decide +kernel
theorem dX7_stroke_42 : decode cX7_stroke 42 = .ok (.istore 6, 2) := by decide +kernel
theorem dX7_stroke_44 : decode cX7_stroke 44 = .ok (.bipush 24, 2) := by decide +kernel
theorem dX7_stroke_46 : decode cX7_stroke 46 = .ok (.istore 7, 2) := by decide +kernel
theorem dX7_stroke_48 : decode cX7_stroke 48 = .ok (.iconst (-1), 1) := by decide +kernel
theorem dX7_stroke_49 : decode cX7_stroke 49 = .ok (.istore 8, 2) := by decide +kernel
theorem dX7_stroke_51 : decode cX7_stroke 51 = .ok (.iconst 0, 1) := by decide +kernel
theorem dX7_stroke_52 : decode cX7_stroke 52 = .ok (.istore 9, 2) := by decide +kernel
theorem dX7_stroke_54 : decode cX7_stroke 54 = .ok (.iload 9, 2) := by decide +kernel
theorem dX7_stroke_56 : decode cX7_stroke 56 = .ok (.aload_n 0, 1) := by decide +kernel
theorem dX7_stroke_57 : decode cX7_stroke 57 = .ok (.getfield 173, 3) := by decide +kernel
theorem dX7_stroke_60 : decode cX7_stroke 60 = .ok (.if_icmp .ge 146, 3) := by decide +kernel
theorem dX7_stroke_63 : decode cX7_stroke 63 = .ok (.aload_n 0, 1) := by decide +kernel
theorem dX7_stroke_64 : decode cX7_stroke 64 = .ok (.getfield 51, 3) := by decide +kernel
theorem dX7_stroke_67 : decode cX7_stroke 67 = .ok (.iload 9, 2) := by decide +kernel
theorem dX7_stroke_69 : decode cX7_stroke 69 = .ok (.iaload, 1) := by decide +kernel
theorem dX7_stroke_70 : decode cX7_stroke 70 = .ok (.iload_n 1, 1) := by decide +kernel
theorem dX7_stroke_71 : decode cX7_stroke 71 = .ok (.if_icmp .ne 129, 3) := by decide +kernel
theorem dX7_stroke_74 : decode cX7_stroke 74 = .ok (.aload_n 0, 1) := by decide +kernel
theorem dX7_stroke_75 : decode cX7_stroke 75 = .ok (.getfield 45, 3) := by decide +kernel
theorem dX7_stroke_78 : decode cX7_stroke 78 = .ok (.iload 9, 2) := by decide +kernel
theorem dX7_stroke_80 : decode cX7_stroke 80 = .ok (.iaload, 1) := by decide +kernel
theorem dX7_stroke_81 : decode cX7_stroke 81 = .ok (.aload_n 0, 1) := by decide +kernel
theorem dX7_stroke_82 : decode cX7_stroke 82 = .ok (.getfield 48, 3) := by decide +kernel
theorem dX7_stroke_85 : decode cX7_stroke 85 = .ok (.iload 9, 2) := by decide +kernel
theorem dX7_stroke_87 : decode cX7_stroke 87 = .ok (.iaload, 1) := by decide +kernel
theorem dX7_stroke_88 : decode cX7_stroke 88 = .ok (.iadd, 1) := by decide +kernel
theorem dX7_stroke_89 : decode cX7_stroke 89 = .ok (.iconst 1, 1) := by decide +kernel
theorem dX7_stroke_90 : decode cX7_stroke 90 = .ok (.isub, 1) := by decide +kernel
theorem dX7_stroke_91 : decode cX7_stroke 91 = .ok (.istore 10, 2) := by decide +kernel
theorem dX7_stroke_93 : decode cX7_stroke 93 = .ok (.iload_n 3, 1) := by decide +kernel
theorem dX7_stroke_94 : decode cX7_stroke 94 = .ok (.aload_n 0, 1) := by decide +kernel
theorem dX7_stroke_95 : decode cX7_stroke 95 = .ok (.getfield 48, 3) := by decide +kernel
theorem dX7_stroke_98 : decode cX7_stroke 98 = .ok (.iload 9, 2) := by decide +kernel
theorem dX7_stroke_100 : decode cX7_stroke 100 = .ok (.iaload, 1) := by decide +kernel
theorem dX7_stroke_101 : decode cX7_stroke 101 = .ok (.iadd, 1) := by decide +kernel
theorem dX7_stroke_102 : decode cX7_stroke 102 = .ok (.istore_n 3, 1) := by decide +kernel
theorem dX7_stroke_103 : decode cX7_stroke 103 = .ok (.iinc 4 1, 3) := by decide +kernel
theorem dX7_stroke_106 : decode cX7_stroke 106 = .ok (.aload_n 0, 1) := by decide +kernel
theorem dX7_stroke_107 : decode cX7_stroke 107 = .ok (.getfield 42, 3) := by decide +kernel
theorem dX7_stroke_110 : decode cX7_stroke 110 = .ok (.iload 9, 2) := by decide +kernel
theorem dX7_stroke_112 : decode cX7_stroke 112 = .ok (.iaload, 1) := by decide +kernel
theorem dX7_stroke_113 : decode cX7_stroke 113 = .ok (.iload 5, 2) := by decide +kernel
theorem dX7_stroke_115 : decode cX7_stroke 115 = .ok (.if_icmp .ge 13, 3) := by decide +kernel
theorem dX7_stroke_118 : decode cX7_stroke 118 = .ok (.aload_n 0, 1) := by decide +kernel
theorem dX7_stroke_119 : decode cX7_stroke 119 = .ok (.getfield 42, 3) := by decide +kernel
theorem dX7_stroke_122 : decode cX7_stroke 122 = .ok (.iload 9, 2) := by decide +kernel
theorem dX7_stroke_124 : decode cX7_stroke 124 = .ok (.iaload, 1) := by decide +kernel
theorem dX7_stroke_125 : decode cX7_stroke 125 = .ok (.goto 5, 3) := by decide +kernel
theorem dX7_stroke_128 : decode cX7_stroke 128 = .ok (.iload 5, 2) := by decide +kernel
theorem dX7_stroke_130 : decode cX7_stroke 130 = .ok (.istore 5, 2) := by decide +kernel
theorem dX7_stroke_132 : decode cX7_stroke 132 = .ok (.aload_n 0, 1) := by decide +kernel
theorem dX7_stroke_133 : decode cX7_stroke 133 = .ok (.getfield 42, 3) := by decide +kernel
theorem dX7_stroke_136 : decode cX7_stroke 136 = .ok (.iload 9, 2) := by decide +kernel
theorem dX7_stroke_138 : decode cX7_stroke 138 = .ok (.iaload, 1) := by decide +kernel
theorem dX7_stroke_139 : decode cX7_stroke 139 = .ok (.iload 6, 2) := by decide +kernel
theorem dX7_stroke_141 : decode cX7_stroke 141 = .ok (.if_icmp .le 13, 3) := by decide +kernel
theorem dX7_stroke_144 : decode cX7_stroke 144 = .ok (.aload_n 0, 1) := by decide +kernel
theorem dX7_stroke_145 : decode cX7_stroke 145 = .ok (.getfield 42, 3) := by decide +kernel
theorem dX7_stroke_148 : decode cX7_stroke 148 = .ok (.iload 9, 2) := by decide +kernel
theorem dX7_stroke_150 : decode cX7_stroke 150 = .ok (.iaload, 1) := by decide +kernel
theorem dX7_stroke_151 : decode cX7_stroke 151 = .ok (.goto 5, 3) := by decide +kernel
theorem dX7_stroke_154 : decode cX7_stroke 154 = .ok (.iload 6, 2) := by decide +kernel
theorem dX7_stroke_156 : decode cX7_stroke 156 = .ok (.istore 6, 2) := by decide +kernel
theorem dX7_stroke_158 : decode cX7_stroke 158 = .ok (.aload_n 0, 1) := by decide +kernel
theorem dX7_stroke_159 : decode cX7_stroke 159 = .ok (.getfield 45, 3) := by decide +kernel
theorem dX7_stroke_162 : decode cX7_stroke 162 = .ok (.iload 9, 2) := by decide +kernel
theorem dX7_stroke_164 : decode cX7_stroke 164 = .ok (.iaload, 1) := by decide +kernel
theorem dX7_stroke_165 : decode cX7_stroke 165 = .ok (.iload 7, 2) := by decide +kernel
theorem dX7_stroke_167 : decode cX7_stroke 167 = .ok (.if_icmp .ge 13, 3) := by decide +kernel
theorem dX7_stroke_170 : decode cX7_stroke 170 = .ok (.aload_n 0, 1) := by decide +kernel
theorem dX7_stroke_171 : decode cX7_stroke 171 = .ok (.getfield 45, 3) := by decide +kernel
theorem dX7_stroke_174 : decode cX7_stroke 174 = .ok (.iload 9, 2) := by decide +kernel
theorem dX7_stroke_176 : decode cX7_stroke 176 = .ok (.iaload, 1) := by decide +kernel
theorem dX7_stroke_177 : decode cX7_stroke 177 = .ok (.goto 5, 3) := by decide +kernel
theorem dX7_stroke_180 : decode cX7_stroke 180 = .ok (.iload 7, 2) := by decide +kernel
theorem dX7_stroke_182 : decode cX7_stroke 182 = .ok (.istore 7, 2) := by decide +kernel
theorem dX7_stroke_184 : decode cX7_stroke 184 = .ok (.iload 10, 2) := by decide +kernel
theorem dX7_stroke_186 : decode cX7_stroke 186 = .ok (.iload 8, 2) := by decide +kernel
theorem dX7_stroke_188 : decode cX7_stroke 188 = .ok (.if_icmp .le 8, 3) := by decide +kernel
theorem dX7_stroke_191 : decode cX7_stroke 191 = .ok (.iload 10, 2) := by decide +kernel
theorem dX7_stroke_193 : decode cX7_stroke 193 = .ok (.goto 5, 3) := by decide +kernel
theorem dX7_stroke_196 : decode cX7_stroke 196 = .ok (.iload 8, 2) := by decide +kernel
theorem dX7_stroke_198 : decode cX7_stroke 198 = .ok (.istore 8, 2) := by decide +kernel
theorem dX7_stroke_200 : decode cX7_stroke 200 = .ok (.iinc 9 1, 3) := by decide +kernel
theorem dX7_stroke_203 : decode cX7_stroke 203 = .ok (.goto (-149), 3) := by decide +kernel
theorem dX7_stroke_206 : decode cX7_stroke 206 = .ok (.iload_n 2, 1) := by decide +kernel
theorem dX7_stroke_207 : decode cX7_stroke 207 = .ok (.tableswitch 47 0 4 #[33, 35, 38, 41, 44], 33) := by decide +kernel
theorem dX7_stroke_240 : decode cX7_stroke 240 = .ok (.iload_n 3, 1) := by decide +kernel
theorem dX7_stroke_241 : decode cX7_stroke 241 = .ok (.ireturn, 1) := by decide +kernel
theorem dX7_stroke_242 : decode cX7_stroke 242 = .ok (.iload 4, 2) := by decide +kernel
theorem dX7_stroke_244 : decode cX7_stroke 244 = .ok (.ireturn, 1) := by decide +kernel
theorem dX7_stroke_245 : decode cX7_stroke 245 = .ok (.iload 5, 2) := by decide +kernel
theorem dX7_stroke_247 : decode cX7_stroke 247 = .ok (.ireturn, 1) := by decide +kernel
theorem dX7_stroke_248 : decode cX7_stroke 248 = .ok (.iload 6, 2) := by decide +kernel
theorem dX7_stroke_250 : decode cX7_stroke 250 = .ok (.ireturn, 1) := by decide +kernel
theorem dX7_stroke_251 : decode cX7_stroke 251 = .ok (.iload 7, 2) := by decide +kernel
theorem dX7_stroke_253 : decode cX7_stroke 253 = .ok (.ireturn, 1) := by decide +kernel
theorem dX7_stroke_254 : decode cX7_stroke 254 = .ok (.iload 8, 2) := by decide +kernel
theorem dX7_stroke_256 : decode cX7_stroke 256 = .ok (.ireturn, 1) := by decide +kernel
theorem dX7_isFoot_0 : decode cX7_isFoot 0 = .ok (.aload_n 0, 1) := by decide +kernel
theorem dX7_isFoot_1 : decode cX7_isFoot 1 = .ok (.iload_n 1, 1) := by decide +kernel
theorem dX7_isFoot_2 : decode cX7_isFoot 2 = .ok (.iload_n 2, 1) := by decide +kernel
theorem dX7_isFoot_3 : decode cX7_isFoot 3 = .ok (.invokevirtual 88, 3) := by decide +kernel
theorem dX7_isFoot_6 : decode cX7_isFoot 6 = .ok (.ifCond .eq 18, 3) := by decide +kernel
theorem dX7_isFoot_9 : decode cX7_isFoot 9 = .ok (.aload_n 0, 1) := by decide +kernel
theorem dX7_isFoot_10 : decode cX7_isFoot 10 = .ok (.iload_n 1, 1) := by decide +kernel
theorem dX7_isFoot_11 : decode cX7_isFoot 11 = .ok (.iload_n 2, 1) := by decide +kernel
theorem dX7_isFoot_12 : decode cX7_isFoot 12 = .ok (.iconst 1, 1) := by decide +kernel
theorem dX7_isFoot_13 : decode cX7_isFoot 13 = .ok (.iadd, 1) := by decide +kernel
theorem dX7_isFoot_14 : decode cX7_isFoot 14 = .ok (.invokevirtual 88, 3) := by decide +kernel
theorem dX7_isFoot_17 : decode cX7_isFoot 17 = .ok (.ifCond .ne 7, 3) := by decide +kernel
theorem dX7_isFoot_20 : decode cX7_isFoot 20 = .ok (.iconst 1, 1) := by decide +kernel
theorem dX7_isFoot_21 : decode cX7_isFoot 21 = .ok (.goto 4, 3) := by decide +kernel
theorem dX7_isFoot_24 : decode cX7_isFoot 24 = .ok (.iconst 0, 1) := by decide +kernel
theorem dX7_isFoot_25 : decode cX7_isFoot 25 = .ok (.ireturn, 1) := by decide +kernel
theorem dX7_leadsAt_0 : decode cX7_leadsAt 0 = .ok (.aload_n 0, 1) := by decide +kernel
theorem dX7_leadsAt_1 : decode cX7_leadsAt 1 = .ok (.iload_n 1, 1) := by decide +kernel
theorem dX7_leadsAt_2 : decode cX7_leadsAt 2 = .ok (.invokevirtual 70, 3) := by decide +kernel
theorem dX7_leadsAt_5 : decode cX7_leadsAt 5 = .ok (.ifCond .eq 24, 3) := by decide +kernel
theorem dX7_leadsAt_8 : decode cX7_leadsAt 8 = .ok (.iload_n 2, 1) := by decide +kernel
theorem dX7_leadsAt_9 : decode cX7_leadsAt 9 = .ok (.invokestatic 74, 3) := by decide +kernel
theorem dX7_leadsAt_12 : decode cX7_leadsAt 12 = .ok (.ifCond .eq 17, 3) := by decide +kernel
theorem dX7_leadsAt_15 : decode cX7_leadsAt 15 = .ok (.aload_n 0, 1) := by decide +kernel
theorem dX7_leadsAt_16 : decode cX7_leadsAt 16 = .ok (.getfield 54, 3) := by decide +kernel
theorem dX7_leadsAt_19 : decode cX7_leadsAt 19 = .ok (.bipush 32, 2) := by decide +kernel
theorem dX7_leadsAt_21 : decode cX7_leadsAt 21 = .ok (.iload_n 1, 1) := by decide +kernel
theorem dX7_leadsAt_22 : decode cX7_leadsAt 22 = .ok (.imul, 1) := by decide +kernel
theorem dX7_leadsAt_23 : decode cX7_leadsAt 23 = .ok (.iload_n 2, 1) := by decide +kernel
theorem dX7_leadsAt_24 : decode cX7_leadsAt 24 = .ok (.iadd, 1) := by decide +kernel
theorem dX7_leadsAt_25 : decode cX7_leadsAt 25 = .ok (.iaload, 1) := by decide +kernel
theorem dX7_leadsAt_26 : decode cX7_leadsAt 26 = .ok (.goto 4, 3) := by decide +kernel
theorem dX7_leadsAt_29 : decode cX7_leadsAt 29 = .ok (.iconst 0, 1) := by decide +kernel
theorem dX7_leadsAt_30 : decode cX7_leadsAt 30 = .ok (.ireturn, 1) := by decide +kernel
theorem dX7_findLeads_0 : decode cX7_findLeads 0 = .ok (.aload_n 0, 1) := by decide +kernel
theorem dX7_findLeads_1 : decode cX7_findLeads 1 = .ok (.getfield 7, 3) := by decide +kernel
theorem dX7_findLeads_4 : decode cX7_findLeads 4 = .ok (.iconst 1, 1) := by decide +kernel
theorem dX7_findLeads_5 : decode cX7_findLeads 5 = .ok (.isub, 1) := by decide +kernel
theorem dX7_findLeads_6 : decode cX7_findLeads 6 = .ok (.istore_n 1, 1) := by decide +kernel
theorem dX7_findLeads_7 : decode cX7_findLeads 7 = .ok (.iload_n 1, 1) := by decide +kernel
theorem dX7_findLeads_8 : decode cX7_findLeads 8 = .ok (.ifCond .lt 95, 3) := by decide +kernel
theorem dX7_findLeads_11 : decode cX7_findLeads 11 = .ok (.iconst 0, 1) := by decide +kernel
theorem dX7_findLeads_12 : decode cX7_findLeads 12 = .ok (.istore_n 2, 1) := by decide +kernel
theorem dX7_findLeads_13 : decode cX7_findLeads 13 = .ok (.iload_n 2, 1) := by decide +kernel
theorem dX7_findLeads_14 : decode cX7_findLeads 14 = .ok (.bipush 32, 2) := by decide +kernel
theorem dX7_findLeads_16 : decode cX7_findLeads 16 = .ok (.if_icmp .ge 81, 3) := by decide +kernel
theorem dX7_findLeads_19 : decode cX7_findLeads 19 = .ok (.iconst 0, 1) := by decide +kernel
theorem dX7_findLeads_20 : decode cX7_findLeads 20 = .ok (.istore_n 3, 1) := by decide +kernel
theorem dX7_findLeads_21 : decode cX7_findLeads 21 = .ok (.iload_n 2, 1) := by decide +kernel
theorem dX7_findLeads_22 : decode cX7_findLeads 22 = .ok (.iconst 1, 1) := by decide +kernel
theorem dX7_findLeads_23 : decode cX7_findLeads 23 = .ok (.isub, 1) := by decide +kernel
theorem dX7_findLeads_24 : decode cX7_findLeads 24 = .ok (.istore 4, 2) := by decide +kernel
theorem dX7_findLeads_26 : decode cX7_findLeads 26 = .ok (.iload 4, 2) := by decide +kernel
theorem dX7_findLeads_28 : decode cX7_findLeads 28 = .ok (.iload_n 2, 1) := by decide +kernel
theorem dX7_findLeads_29 : decode cX7_findLeads 29 = .ok (.iconst 1, 1) := by decide +kernel
theorem dX7_findLeads_30 : decode cX7_findLeads 30 = .ok (.iadd, 1) := by decide +kernel
theorem dX7_findLeads_31 : decode cX7_findLeads 31 = .ok (.if_icmp .gt 33, 3) := by decide +kernel
theorem dX7_findLeads_34 : decode cX7_findLeads 34 = .ok (.aload_n 0, 1) := by decide +kernel
theorem dX7_findLeads_35 : decode cX7_findLeads 35 = .ok (.iload_n 1, 1) := by decide +kernel
theorem dX7_findLeads_36 : decode cX7_findLeads 36 = .ok (.iconst 1, 1) := by decide +kernel
theorem dX7_findLeads_37 : decode cX7_findLeads 37 = .ok (.iadd, 1) := by decide +kernel
theorem dX7_findLeads_38 : decode cX7_findLeads 38 = .ok (.iload 4, 2) := by decide +kernel
theorem dX7_findLeads_40 : decode cX7_findLeads 40 = .ok (.invokevirtual 191, 3) := by decide +kernel
theorem dX7_findLeads_43 : decode cX7_findLeads 43 = .ok (.istore 5, 2) := by decide +kernel
theorem dX7_findLeads_45 : decode cX7_findLeads 45 = .ok (.iload 5, 2) := by decide +kernel
theorem dX7_findLeads_47 : decode cX7_findLeads 47 = .ok (.iload_n 3, 1) := by decide +kernel
theorem dX7_findLeads_48 : decode cX7_findLeads 48 = .ok (.if_icmp .le 8, 3) := by decide +kernel
theorem dX7_findLeads_51 : decode cX7_findLeads 51 = .ok (.iload 5, 2) := by decide +kernel
theorem dX7_findLeads_53 : decode cX7_findLeads 53 = .ok (.goto 4, 3) := by decide +kernel
theorem dX7_findLeads_56 : decode cX7_findLeads 56 = .ok (.iload_n 3, 1) := by decide +kernel
theorem dX7_findLeads_57 : decode cX7_findLeads 57 = .ok (.istore_n 3, 1) := by decide +kernel
theorem dX7_findLeads_58 : decode cX7_findLeads 58 = .ok (.iinc 4 1, 3) := by decide +kernel
theorem dX7_findLeads_61 : decode cX7_findLeads 61 = .ok (.goto (-35), 3) := by decide +kernel
theorem dX7_findLeads_64 : decode cX7_findLeads 64 = .ok (.aload_n 0, 1) := by decide +kernel
theorem dX7_findLeads_65 : decode cX7_findLeads 65 = .ok (.getfield 54, 3) := by decide +kernel
theorem dX7_findLeads_68 : decode cX7_findLeads 68 = .ok (.bipush 32, 2) := by decide +kernel
theorem dX7_findLeads_70 : decode cX7_findLeads 70 = .ok (.iload_n 1, 1) := by decide +kernel
theorem dX7_findLeads_71 : decode cX7_findLeads 71 = .ok (.imul, 1) := by decide +kernel
theorem dX7_findLeads_72 : decode cX7_findLeads 72 = .ok (.iload_n 2, 1) := by decide +kernel
theorem dX7_findLeads_73 : decode cX7_findLeads 73 = .ok (.iadd, 1) := by decide +kernel
theorem dX7_findLeads_74 : decode cX7_findLeads 74 = .ok (.aload_n 0, 1) := by decide +kernel
theorem dX7_findLeads_75 : decode cX7_findLeads 75 = .ok (.iload_n 1, 1) := by decide +kernel
theorem dX7_findLeads_76 : decode cX7_findLeads 76 = .ok (.iload_n 2, 1) := by decide +kernel
theorem dX7_findLeads_77 : decode cX7_findLeads 77 = .ok (.invokevirtual 194, 3) := by decide +kernel
theorem dX7_findLeads_80 : decode cX7_findLeads 80 = .ok (.ifCond .eq 9, 3) := by decide +kernel
theorem dX7_findLeads_83 : decode cX7_findLeads 83 = .ok (.iload_n 3, 1) := by decide +kernel
theorem dX7_findLeads_84 : decode cX7_findLeads 84 = .ok (.iconst 1, 1) := by decide +kernel
theorem dX7_findLeads_85 : decode cX7_findLeads 85 = .ok (.iadd, 1) := by decide +kernel
theorem dX7_findLeads_86 : decode cX7_findLeads 86 = .ok (.goto 4, 3) := by decide +kernel
theorem dX7_findLeads_89 : decode cX7_findLeads 89 = .ok (.iconst 0, 1) := by decide +kernel
theorem dX7_findLeads_90 : decode cX7_findLeads 90 = .ok (.iastore, 1) := by decide +kernel
theorem dX7_findLeads_91 : decode cX7_findLeads 91 = .ok (.iinc 2 1, 3) := by decide +kernel
theorem dX7_findLeads_94 : decode cX7_findLeads 94 = .ok (.goto (-81), 3) := by decide +kernel
theorem dX7_findLeads_97 : decode cX7_findLeads 97 = .ok (.iinc 1 (-1), 3) := by decide +kernel
theorem dX7_findLeads_100 : decode cX7_findLeads 100 = .ok (.goto (-93), 3) := by decide +kernel
theorem dX7_findLeads_103 : decode cX7_findLeads 103 = .ok (.return_, 1) := by decide +kernel
theorem dX7_lowest_0 : decode cX7_lowest 0 = .ok (.iload_n 3, 1) := by decide +kernel
theorem dX7_lowest_1 : decode cX7_lowest 1 = .ok (.istore 5, 2) := by decide +kernel
theorem dX7_lowest_3 : decode cX7_lowest 3 = .ok (.iload 5, 2) := by decide +kernel
theorem dX7_lowest_5 : decode cX7_lowest 5 = .ok (.iload_n 2, 1) := by decide +kernel
theorem dX7_lowest_6 : decode cX7_lowest 6 = .ok (.if_icmp .lt 24, 3) := by decide +kernel
theorem dX7_lowest_9 : decode cX7_lowest 9 = .ok (.aload_n 0, 1) := by decide +kernel
theorem dX7_lowest_10 : decode cX7_lowest 10 = .ok (.iload_n 1, 1) := by decide +kernel
theorem dX7_lowest_11 : decode cX7_lowest 11 = .ok (.iload 5, 2) := by decide +kernel
theorem dX7_lowest_13 : decode cX7_lowest 13 = .ok (.invokevirtual 191, 3) := by decide +kernel
theorem dX7_lowest_16 : decode cX7_lowest 16 = .ok (.iload 4, 2) := by decide +kernel
theorem dX7_lowest_18 : decode cX7_lowest 18 = .ok (.if_icmp .ne 6, 3) := by decide +kernel
theorem dX7_lowest_21 : decode cX7_lowest 21 = .ok (.iload 5, 2) := by decide +kernel
theorem dX7_lowest_23 : decode cX7_lowest 23 = .ok (.ireturn, 1) := by decide +kernel
theorem dX7_lowest_24 : decode cX7_lowest 24 = .ok (.iinc 5 (-1), 3) := by decide +kernel
theorem dX7_lowest_27 : decode cX7_lowest 27 = .ok (.goto (-24), 3) := by decide +kernel
theorem dX7_lowest_30 : decode cX7_lowest 30 = .ok (.bipush (-9), 2) := by decide +kernel
theorem dX7_lowest_32 : decode cX7_lowest 32 = .ok (.ireturn, 1) := by decide +kernel
theorem dX7_findBaseline_0 : decode cX7_findBaseline 0 = .ok (.aload_n 0, 1) := by decide +kernel
theorem dX7_findBaseline_1 : decode cX7_findBaseline 1 = .ok (.invokevirtual 197, 3) := by decide +kernel
theorem dX7_findBaseline_4 : decode cX7_findBaseline 4 = .ok (.aload_n 0, 1) := by decide +kernel
theorem dX7_findBaseline_5 : decode cX7_findBaseline 5 = .ok (.iconst 0, 1) := by decide +kernel
theorem dX7_findBaseline_6 : decode cX7_findBaseline 6 = .ok (.putfield 200, 3) := by decide +kernel
theorem dX7_findBaseline_9 : decode cX7_findBaseline 9 = .ok (.iconst 0, 1) := by decide +kernel
theorem dX7_findBaseline_10 : decode cX7_findBaseline 10 = .ok (.istore_n 1, 1) := by decide +kernel
theorem dX7_findBaseline_11 : decode cX7_findBaseline 11 = .ok (.iload_n 1, 1) := by decide +kernel
theorem dX7_findBaseline_12 : decode cX7_findBaseline 12 = .ok (.bipush 32, 2) := by decide +kernel
theorem dX7_findBaseline_14 : decode cX7_findBaseline 14 = .ok (.aload_n 0, 1) := by decide +kernel
theorem dX7_findBaseline_15 : decode cX7_findBaseline 15 = .ok (.getfield 7, 3) := by decide +kernel
theorem dX7_findBaseline_18 : decode cX7_findBaseline 18 = .ok (.imul, 1) := by decide +kernel
theorem dX7_findBaseline_19 : decode cX7_findBaseline 19 = .ok (.if_icmp .ge 40, 3) := by decide +kernel
theorem dX7_findBaseline_22 : decode cX7_findBaseline 22 = .ok (.aload_n 0, 1) := by decide +kernel
theorem dX7_findBaseline_23 : decode cX7_findBaseline 23 = .ok (.getfield 54, 3) := by decide +kernel
theorem dX7_findBaseline_26 : decode cX7_findBaseline 26 = .ok (.iload_n 1, 1) := by decide +kernel
theorem dX7_findBaseline_27 : decode cX7_findBaseline 27 = .ok (.iaload, 1) := by decide +kernel
theorem dX7_findBaseline_28 : decode cX7_findBaseline 28 = .ok (.aload_n 0, 1) := by decide +kernel
theorem dX7_findBaseline_29 : decode cX7_findBaseline 29 = .ok (.getfield 200, 3) := by decide +kernel
theorem dX7_findBaseline_32 : decode cX7_findBaseline 32 = .ok (.if_icmp .le 21, 3) := by decide +kernel
theorem dX7_findBaseline_35 : decode cX7_findBaseline 35 = .ok (.aload_n 0, 1) := by decide +kernel
theorem dX7_findBaseline_36 : decode cX7_findBaseline 36 = .ok (.aload_n 0, 1) := by decide +kernel
theorem dX7_findBaseline_37 : decode cX7_findBaseline 37 = .ok (.getfield 54, 3) := by decide +kernel
theorem dX7_findBaseline_40 : decode cX7_findBaseline 40 = .ok (.iload_n 1, 1) := by decide +kernel
theorem dX7_findBaseline_41 : decode cX7_findBaseline 41 = .ok (.iaload, 1) := by decide +kernel
theorem dX7_findBaseline_42 : decode cX7_findBaseline 42 = .ok (.putfield 200, 3) := by decide +kernel
theorem dX7_findBaseline_45 : decode cX7_findBaseline 45 = .ok (.aload_n 0, 1) := by decide +kernel
theorem dX7_findBaseline_46 : decode cX7_findBaseline 46 = .ok (.iload_n 1, 1) := by decide +kernel
theorem dX7_findBaseline_47 : decode cX7_findBaseline 47 = .ok (.bipush 32, 2) := by decide +kernel
theorem dX7_findBaseline_49 : decode cX7_findBaseline 49 = .ok (.idiv, 1) := by decide +kernel
theorem dX7_findBaseline_50 : decode cX7_findBaseline 50 = .ok (.putfield 203, 3) := by decide +kernel
theorem dX7_findBaseline_53 : decode cX7_findBaseline 53 = .ok (.iinc 1 1, 3) := by decide +kernel
theorem dX7_findBaseline_56 : decode cX7_findBaseline 56 = .ok (.goto (-45), 3) := by decide +kernel
theorem dX7_findBaseline_59 : decode cX7_findBaseline 59 = .ok (.iconst 0, 1) := by decide +kernel
theorem dX7_findBaseline_60 : decode cX7_findBaseline 60 = .ok (.istore_n 1, 1) := by decide +kernel
theorem dX7_findBaseline_61 : decode cX7_findBaseline 61 = .ok (.bipush 31, 2) := by decide +kernel
theorem dX7_findBaseline_63 : decode cX7_findBaseline 63 = .ok (.istore_n 2, 1) := by decide +kernel
theorem dX7_findBaseline_64 : decode cX7_findBaseline 64 = .ok (.iconst 0, 1) := by decide +kernel
theorem dX7_findBaseline_65 : decode cX7_findBaseline 65 = .ok (.istore_n 3, 1) := by decide +kernel
theorem dX7_findBaseline_66 : decode cX7_findBaseline 66 = .ok (.iload_n 3, 1) := by decide +kernel
theorem dX7_findBaseline_67 : decode cX7_findBaseline 67 = .ok (.aload_n 0, 1) := by decide +kernel
theorem dX7_findBaseline_68 : decode cX7_findBaseline 68 = .ok (.getfield 200, 3) := by decide +kernel
theorem dX7_findBaseline_71 : decode cX7_findBaseline 71 = .ok (.if_icmp .ge 52, 3) := by decide +kernel
theorem dX7_findBaseline_74 : decode cX7_findBaseline 74 = .ok (.aload_n 0, 1) := by decide +kernel
theorem dX7_findBaseline_75 : decode cX7_findBaseline 75 = .ok (.aload_n 0, 1) := by decide +kernel
theorem dX7_findBaseline_76 : decode cX7_findBaseline 76 = .ok (.getfield 203, 3) := by decide +kernel
theorem dX7_findBaseline_79 : decode cX7_findBaseline 79 = .ok (.iload_n 3, 1) := by decide +kernel
theorem dX7_findBaseline_80 : decode cX7_findBaseline 80 = .ok (.iadd, 1) := by decide +kernel
theorem dX7_findBaseline_81 : decode cX7_findBaseline 81 = .ok (.iload_n 1, 1) := by decide +kernel
theorem dX7_findBaseline_82 : decode cX7_findBaseline 82 = .ok (.iload_n 2, 1) := by decide +kernel
theorem dX7_findBaseline_83 : decode cX7_findBaseline 83 = .ok (.aload_n 0, 1) := by decide +kernel
theorem dX7_findBaseline_84 : decode cX7_findBaseline 84 = .ok (.getfield 200, 3) := by decide +kernel
theorem dX7_findBaseline_87 : decode cX7_findBaseline 87 = .ok (.iload_n 3, 1) := by decide +kernel
theorem dX7_findBaseline_88 : decode cX7_findBaseline 88 = .ok (.isub, 1) := by decide +kernel
theorem dX7_findBaseline_89 : decode cX7_findBaseline 89 = .ok (.invokevirtual 206, 3) := by decide +kernel
theorem dX7_findBaseline_92 : decode cX7_findBaseline 92 = .ok (.istore 4, 2) := by decide +kernel
theorem dX7_findBaseline_94 : decode cX7_findBaseline 94 = .ok (.aload_n 0, 1) := by decide +kernel
theorem dX7_findBaseline_95 : decode cX7_findBaseline 95 = .ok (.getfield 57, 3) := by decide +kernel
theorem dX7_findBaseline_98 : decode cX7_findBaseline 98 = .ok (.aload_n 0, 1) := by decide +kernel
theorem dX7_findBaseline_99 : decode cX7_findBaseline 99 = .ok (.getfield 203, 3) := by decide +kernel
theorem dX7_findBaseline_102 : decode cX7_findBaseline 102 = .ok (.iload_n 3, 1) := by decide +kernel
theorem dX7_findBaseline_103 : decode cX7_findBaseline 103 = .ok (.iadd, 1) := by decide +kernel
theorem dX7_findBaseline_104 : decode cX7_findBaseline 104 = .ok (.iload 4, 2) := by decide +kernel
theorem dX7_findBaseline_106 : decode cX7_findBaseline 106 = .ok (.iastore, 1) := by decide +kernel
theorem dX7_findBaseline_107 : decode cX7_findBaseline 107 = .ok (.iload 4, 2) := by decide +kernel
theorem dX7_findBaseline_109 : decode cX7_findBaseline 109 = .ok (.iconst 1, 1) := by decide +kernel
theorem dX7_findBaseline_110 : decode cX7_findBaseline 110 = .ok (.isub, 1) := by decide +kernel
theorem dX7_findBaseline_111 : decode cX7_findBaseline 111 = .ok (.istore_n 1, 1) := by decide +kernel
theorem dX7_findBaseline_112 : decode cX7_findBaseline 112 = .ok (.iload 4, 2) := by decide +kernel
theorem dX7_findBaseline_114 : decode cX7_findBaseline 114 = .ok (.iconst 1, 1) := by decide +kernel
theorem dX7_findBaseline_115 : decode cX7_findBaseline 115 = .ok (.iadd, 1) := by decide +kernel
theorem dX7_findBaseline_116 : decode cX7_findBaseline 116 = .ok (.istore_n 2, 1) := by decide +kernel
theorem dX7_findBaseline_117 : decode cX7_findBaseline 117 = .ok (.iinc 3 1, 3) := by decide +kernel
theorem dX7_findBaseline_120 : decode cX7_findBaseline 120 = .ok (.goto (-54), 3) := by decide +kernel
theorem dX7_findBaseline_123 : decode cX7_findBaseline 123 = .ok (.return_, 1) := by decide +kernel
theorem dX7_rowsTogether_0 : decode cX7_rowsTogether 0 = .ok (.iconst 0, 1) := by decide +kernel
theorem dX7_rowsTogether_1 : decode cX7_rowsTogether 1 = .ok (.istore_n 1, 1) := by decide +kernel
theorem dX7_rowsTogether_2 : decode cX7_rowsTogether 2 = .ok (.iconst 0, 1) := by decide +kernel
theorem dX7_rowsTogether_3 : decode cX7_rowsTogether 3 = .ok (.istore_n 2, 1) := by decide +kernel
theorem dX7_rowsTogether_4 : decode cX7_rowsTogether 4 = .ok (.iload_n 2, 1) := by decide +kernel
theorem dX7_rowsTogether_5 : decode cX7_rowsTogether 5 = .ok (.aload_n 0, 1) := by decide +kernel
theorem dX7_rowsTogether_6 : decode cX7_rowsTogether 6 = .ok (.getfield 200, 3) := by decide +kernel
theorem dX7_rowsTogether_9 : decode cX7_rowsTogether 9 = .ok (.if_icmp .ge 23, 3) := by decide +kernel
theorem dX7_rowsTogether_12 : decode cX7_rowsTogether 12 = .ok (.iload_n 1, 1) := by decide +kernel
theorem dX7_rowsTogether_13 : decode cX7_rowsTogether 13 = .ok (.aload_n 0, 1) := by decide +kernel
theorem dX7_rowsTogether_14 : decode cX7_rowsTogether 14 = .ok (.getfield 57, 3) := by decide +kernel
theorem dX7_rowsTogether_17 : decode cX7_rowsTogether 17 = .ok (.aload_n 0, 1) := by decide +kernel
theorem dX7_rowsTogether_18 : decode cX7_rowsTogether 18 = .ok (.getfield 203, 3) := by decide +kernel
theorem dX7_rowsTogether_21 : decode cX7_rowsTogether 21 = .ok (.iload_n 2, 1) := by decide +kernel
theorem dX7_rowsTogether_22 : decode cX7_rowsTogether 22 = .ok (.iadd, 1) := by decide +kernel
theorem dX7_rowsTogether_23 : decode cX7_rowsTogether 23 = .ok (.iaload, 1) := by decide +kernel
theorem dX7_rowsTogether_24 : decode cX7_rowsTogether 24 = .ok (.iadd, 1) := by decide +kernel
theorem dX7_rowsTogether_25 : decode cX7_rowsTogether 25 = .ok (.istore_n 1, 1) := by decide +kernel
theorem dX7_rowsTogether_26 : decode cX7_rowsTogether 26 = .ok (.iinc 2 1, 3) := by decide +kernel
theorem dX7_rowsTogether_29 : decode cX7_rowsTogether 29 = .ok (.goto (-25), 3) := by decide +kernel
theorem dX7_rowsTogether_32 : decode cX7_rowsTogether 32 = .ok (.iload_n 1, 1) := by decide +kernel
theorem dX7_rowsTogether_33 : decode cX7_rowsTogether 33 = .ok (.ireturn, 1) := by decide +kernel
theorem dX7_levelOf_0 : decode cX7_levelOf 0 = .ok (.aload_n 0, 1) := by decide +kernel
theorem dX7_levelOf_1 : decode cX7_levelOf 1 = .ok (.invokevirtual 209, 3) := by decide +kernel
theorem dX7_levelOf_4 : decode cX7_levelOf 4 = .ok (.aload_n 0, 1) := by decide +kernel
theorem dX7_levelOf_5 : decode cX7_levelOf 5 = .ok (.getfield 200, 3) := by decide +kernel
theorem dX7_levelOf_8 : decode cX7_levelOf 8 = .ok (.invokestatic 117, 3) := by decide +kernel
theorem dX7_levelOf_11 : decode cX7_levelOf 11 = .ok (.ireturn, 1) := by decide +kernel
theorem dX7_curlOf_0 : decode cX7_curlOf 0 = .ok (.aload_n 0, 1) := by decide +kernel
theorem dX7_curlOf_1 : decode cX7_curlOf 1 = .ok (.getfield 60, 3) := by decide +kernel
theorem dX7_curlOf_4 : decode cX7_curlOf 4 = .ok (.iload_n 1, 1) := by decide +kernel
theorem dX7_curlOf_5 : decode cX7_curlOf 5 = .ok (.iaload, 1) := by decide +kernel
theorem dX7_curlOf_6 : decode cX7_curlOf 6 = .ok (.ireturn, 1) := by decide +kernel
theorem dX7_findCurls_0 : decode cX7_findCurls 0 = .ok (.aload_n 0, 1) := by decide +kernel
theorem dX7_findCurls_1 : decode cX7_findCurls 1 = .ok (.getfield 203, 3) := by decide +kernel
theorem dX7_findCurls_4 : decode cX7_findCurls 4 = .ok (.aload_n 0, 1) := by decide +kernel
theorem dX7_findCurls_5 : decode cX7_findCurls 5 = .ok (.getfield 200, 3) := by decide +kernel
theorem dX7_findCurls_8 : decode cX7_findCurls 8 = .ok (.iadd, 1) := by decide +kernel
theorem dX7_findCurls_9 : decode cX7_findCurls 9 = .ok (.iconst 1, 1) := by decide +kernel
theorem dX7_findCurls_10 : decode cX7_findCurls 10 = .ok (.isub, 1) := by decide +kernel
theorem dX7_findCurls_11 : decode cX7_findCurls 11 = .ok (.istore_n 1, 1) := by decide +kernel
theorem dX7_findCurls_12 : decode cX7_findCurls 12 = .ok (.iconst 0, 1) := by decide +kernel
theorem dX7_findCurls_13 : decode cX7_findCurls 13 = .ok (.istore_n 2, 1) := by decide +kernel
theorem dX7_findCurls_14 : decode cX7_findCurls 14 = .ok (.iload_n 2, 1) := by decide +kernel
theorem dX7_findCurls_15 : decode cX7_findCurls 15 = .ok (.aload_n 0, 1) := by decide +kernel
theorem dX7_findCurls_16 : decode cX7_findCurls 16 = .ok (.getfield 7, 3) := by decide +kernel
theorem dX7_findCurls_19 : decode cX7_findCurls 19 = .ok (.if_icmp .ge 52, 3) := by decide +kernel
theorem dX7_findCurls_22 : decode cX7_findCurls 22 = .ok (.iload_n 2, 1) := by decide +kernel
theorem dX7_findCurls_23 : decode cX7_findCurls 23 = .ok (.aload_n 0, 1) := by decide +kernel
theorem dX7_findCurls_24 : decode cX7_findCurls 24 = .ok (.getfield 203, 3) := by decide +kernel
theorem dX7_findCurls_27 : decode cX7_findCurls 27 = .ok (.if_icmp .ge 10, 3) := by decide +kernel
theorem dX7_findCurls_30 : decode cX7_findCurls 30 = .ok (.aload_n 0, 1) := by decide +kernel
theorem dX7_findCurls_31 : decode cX7_findCurls 31 = .ok (.getfield 203, 3) := by decide +kernel
theorem dX7_findCurls_34 : decode cX7_findCurls 34 = .ok (.goto 13, 3) := by decide +kernel
theorem dX7_findCurls_37 : decode cX7_findCurls 37 = .ok (.iload_n 2, 1) := by decide +kernel
theorem dX7_findCurls_38 : decode cX7_findCurls 38 = .ok (.iload_n 1, 1) := by decide +kernel
theorem dX7_findCurls_39 : decode cX7_findCurls 39 = .ok (.if_icmp .le 7, 3) := by decide +kernel
theorem dX7_findCurls_42 : decode cX7_findCurls 42 = .ok (.iload_n 1, 1) := by decide +kernel
theorem dX7_findCurls_43 : decode cX7_findCurls 43 = .ok (.goto 4, 3) := by decide +kernel
theorem dX7_findCurls_46 : decode cX7_findCurls 46 = .ok (.iload_n 2, 1) := by decide +kernel
theorem dX7_findCurls_47 : decode cX7_findCurls 47 = .ok (.istore_n 3, 1) := by decide +kernel
theorem dX7_findCurls_48 : decode cX7_findCurls 48 = .ok (.aload_n 0, 1) := by decide +kernel
theorem dX7_findCurls_49 : decode cX7_findCurls 49 = .ok (.getfield 60, 3) := by decide +kernel
theorem dX7_findCurls_52 : decode cX7_findCurls 52 = .ok (.iload_n 2, 1) := by decide +kernel
theorem dX7_findCurls_53 : decode cX7_findCurls 53 = .ok (.aload_n 0, 1) := by decide +kernel
theorem dX7_findCurls_54 : decode cX7_findCurls 54 = .ok (.getfield 57, 3) := by decide +kernel
theorem dX7_findCurls_57 : decode cX7_findCurls 57 = .ok (.iload_n 3, 1) := by decide +kernel
theorem dX7_findCurls_58 : decode cX7_findCurls 58 = .ok (.iaload, 1) := by decide +kernel
theorem dX7_findCurls_59 : decode cX7_findCurls 59 = .ok (.aload_n 0, 1) := by decide +kernel
theorem dX7_findCurls_60 : decode cX7_findCurls 60 = .ok (.invokevirtual 212, 3) := by decide +kernel
theorem dX7_findCurls_63 : decode cX7_findCurls 63 = .ok (.isub, 1) := by decide +kernel
theorem dX7_findCurls_64 : decode cX7_findCurls 64 = .ok (.iastore, 1) := by decide +kernel
theorem dX7_findCurls_65 : decode cX7_findCurls 65 = .ok (.iinc 2 1, 3) := by decide +kernel
theorem dX7_findCurls_68 : decode cX7_findCurls 68 = .ok (.goto (-54), 3) := by decide +kernel
theorem dX7_findCurls_71 : decode cX7_findCurls 71 = .ok (.return_, 1) := by decide +kernel
theorem dX7_baseline_0 : decode cX7_baseline 0 = .ok (.iload_n 1, 1) := by decide +kernel
theorem dX7_baseline_1 : decode cX7_baseline 1 = .ok (.iconst 0, 1) := by decide +kernel
theorem dX7_baseline_2 : decode cX7_baseline 2 = .ok (.iconst 2, 1) := by decide +kernel
theorem dX7_baseline_3 : decode cX7_baseline 3 = .ok (.invokestatic 66, 3) := by decide +kernel
theorem dX7_baseline_6 : decode cX7_baseline 6 = .ok (.ifCond .ne 6, 3) := by decide +kernel
theorem dX7_baseline_9 : decode cX7_baseline 9 = .ok (.bipush (-2), 2) := by decide +kernel
theorem dX7_baseline_11 : decode cX7_baseline 11 = .ok (.ireturn, 1) := by decide +kernel
theorem dX7_baseline_12 : decode cX7_baseline 12 = .ok (.aload_n 0, 1) := by decide +kernel
theorem dX7_baseline_13 : decode cX7_baseline 13 = .ok (.invokevirtual 215, 3) := by decide +kernel
theorem dX7_baseline_16 : decode cX7_baseline 16 = .ok (.aload_n 0, 1) := by decide +kernel
theorem dX7_baseline_17 : decode cX7_baseline 17 = .ok (.getfield 200, 3) := by decide +kernel
theorem dX7_baseline_20 : decode cX7_baseline 20 = .ok (.ifCond .ne 6, 3) := by decide +kernel
theorem dX7_baseline_23 : decode cX7_baseline 23 = .ok (.bipush (-9), 2) := by decide +kernel
theorem dX7_baseline_25 : decode cX7_baseline 25 = .ok (.ireturn, 1) := by decide +kernel
theorem dX7_baseline_26 : decode cX7_baseline 26 = .ok (.iload_n 1, 1) := by decide +kernel
theorem dX7_baseline_27 : decode cX7_baseline 27 = .ok (.ifCond .ne 10, 3) := by decide +kernel
theorem dX7_baseline_30 : decode cX7_baseline 30 = .ok (.aload_n 0, 1) := by decide +kernel
theorem dX7_baseline_31 : decode cX7_baseline 31 = .ok (.getfield 203, 3) := by decide +kernel
theorem dX7_baseline_34 : decode cX7_baseline 34 = .ok (.goto 19, 3) := by decide +kernel
theorem dX7_baseline_37 : decode cX7_baseline 37 = .ok (.iload_n 1, 1) := by decide +kernel
theorem dX7_baseline_38 : decode cX7_baseline 38 = .ok (.iconst 1, 1) := by decide +kernel
theorem dX7_baseline_39 : decode cX7_baseline 39 = .ok (.if_icmp .ne 10, 3) := by decide +kernel
theorem dX7_baseline_42 : decode cX7_baseline 42 = .ok (.aload_n 0, 1) := by decide +kernel
theorem dX7_baseline_43 : decode cX7_baseline 43 = .ok (.getfield 200, 3) := by decide +kernel
theorem dX7_baseline_46 : decode cX7_baseline 46 = .ok (.goto 7, 3) := by decide +kernel
theorem dX7_baseline_49 : decode cX7_baseline 49 = .ok (.aload_n 0, 1) := by decide +kernel
theorem dX7_baseline_50 : decode cX7_baseline 50 = .ok (.invokevirtual 212, 3) := by decide +kernel
theorem dX7_baseline_53 : decode cX7_baseline 53 = .ok (.ireturn, 1) := by decide +kernel
theorem dX7_foot_0 : decode cX7_foot 0 = .ok (.aload_n 0, 1) := by decide +kernel
theorem dX7_foot_1 : decode cX7_foot 1 = .ok (.iload_n 1, 1) := by decide +kernel
theorem dX7_foot_2 : decode cX7_foot 2 = .ok (.invokevirtual 70, 3) := by decide +kernel
theorem dX7_foot_5 : decode cX7_foot 5 = .ok (.ifCond .ne 5, 3) := by decide +kernel
theorem dX7_foot_8 : decode cX7_foot 8 = .ok (.iconst (-1), 1) := by decide +kernel
theorem dX7_foot_9 : decode cX7_foot 9 = .ok (.ireturn, 1) := by decide +kernel
theorem dX7_foot_10 : decode cX7_foot 10 = .ok (.aload_n 0, 1) := by decide +kernel
theorem dX7_foot_11 : decode cX7_foot 11 = .ok (.invokevirtual 215, 3) := by decide +kernel
theorem dX7_foot_14 : decode cX7_foot 14 = .ok (.aload_n 0, 1) := by decide +kernel
theorem dX7_foot_15 : decode cX7_foot 15 = .ok (.getfield 200, 3) := by decide +kernel
theorem dX7_foot_18 : decode cX7_foot 18 = .ok (.ifCond .le 34, 3) := by decide +kernel
theorem dX7_foot_21 : decode cX7_foot 21 = .ok (.iload_n 1, 1) := by decide +kernel
theorem dX7_foot_22 : decode cX7_foot 22 = .ok (.aload_n 0, 1) := by decide +kernel
theorem dX7_foot_23 : decode cX7_foot 23 = .ok (.getfield 203, 3) := by decide +kernel
theorem dX7_foot_26 : decode cX7_foot 26 = .ok (.aload_n 0, 1) := by decide +kernel
theorem dX7_foot_27 : decode cX7_foot 27 = .ok (.getfield 203, 3) := by decide +kernel
theorem dX7_foot_30 : decode cX7_foot 30 = .ok (.aload_n 0, 1) := by decide +kernel
theorem dX7_foot_31 : decode cX7_foot 31 = .ok (.getfield 200, 3) := by decide +kernel
theorem dX7_foot_34 : decode cX7_foot 34 = .ok (.iadd, 1) := by decide +kernel
theorem dX7_foot_35 : decode cX7_foot 35 = .ok (.iconst 1, 1) := by decide +kernel
theorem dX7_foot_36 : decode cX7_foot 36 = .ok (.isub, 1) := by decide +kernel
theorem dX7_foot_37 : decode cX7_foot 37 = .ok (.invokestatic 66, 3) := by decide +kernel
theorem dX7_foot_40 : decode cX7_foot 40 = .ok (.ifCond .eq 12, 3) := by decide +kernel
theorem dX7_foot_43 : decode cX7_foot 43 = .ok (.aload_n 0, 1) := by decide +kernel
theorem dX7_foot_44 : decode cX7_foot 44 = .ok (.getfield 57, 3) := by decide +kernel
theorem dX7_foot_47 : decode cX7_foot 47 = .ok (.iload_n 1, 1) := by decide +kernel
theorem dX7_foot_48 : decode cX7_foot 48 = .ok (.iaload, 1) := by decide +kernel
theorem dX7_foot_49 : decode cX7_foot 49 = .ok (.goto 5, 3) := by decide +kernel
theorem dX7_foot_52 : decode cX7_foot 52 = .ok (.bipush (-9), 2) := by decide +kernel
theorem dX7_foot_54 : decode cX7_foot 54 = .ok (.ireturn, 1) := by decide +kernel
theorem dX7_curl_0 : decode cX7_curl 0 = .ok (.aload_n 0, 1) := by decide +kernel
theorem dX7_curl_1 : decode cX7_curl 1 = .ok (.iload_n 1, 1) := by decide +kernel
theorem dX7_curl_2 : decode cX7_curl 2 = .ok (.invokevirtual 70, 3) := by decide +kernel
theorem dX7_curl_5 : decode cX7_curl 5 = .ok (.ifCond .ne 5, 3) := by decide +kernel
theorem dX7_curl_8 : decode cX7_curl 8 = .ok (.iconst (-1), 1) := by decide +kernel
theorem dX7_curl_9 : decode cX7_curl 9 = .ok (.ireturn, 1) := by decide +kernel
theorem dX7_curl_10 : decode cX7_curl 10 = .ok (.aload_n 0, 1) := by decide +kernel
theorem dX7_curl_11 : decode cX7_curl 11 = .ok (.invokevirtual 215, 3) := by decide +kernel
theorem dX7_curl_14 : decode cX7_curl 14 = .ok (.aload_n 0, 1) := by decide +kernel
theorem dX7_curl_15 : decode cX7_curl 15 = .ok (.getfield 200, 3) := by decide +kernel
theorem dX7_curl_18 : decode cX7_curl 18 = .ok (.ifCond .ne 6, 3) := by decide +kernel
theorem dX7_curl_21 : decode cX7_curl 21 = .ok (.bipush (-3), 2) := by decide +kernel
theorem dX7_curl_23 : decode cX7_curl 23 = .ok (.ireturn, 1) := by decide +kernel
theorem dX7_curl_24 : decode cX7_curl 24 = .ok (.aload_n 0, 1) := by decide +kernel
theorem dX7_curl_25 : decode cX7_curl 25 = .ok (.invokevirtual 218, 3) := by decide +kernel
theorem dX7_curl_28 : decode cX7_curl 28 = .ok (.aload_n 0, 1) := by decide +kernel
theorem dX7_curl_29 : decode cX7_curl 29 = .ok (.iload_n 1, 1) := by decide +kernel
theorem dX7_curl_30 : decode cX7_curl 30 = .ok (.invokevirtual 161, 3) := by decide +kernel
theorem dX7_curl_33 : decode cX7_curl 33 = .ok (.bipush 100, 2) := by decide +kernel
theorem dX7_curl_35 : decode cX7_curl 35 = .ok (.iadd, 1) := by decide +kernel
theorem dX7_curl_36 : decode cX7_curl 36 = .ok (.ireturn, 1) := by decide +kernel
theorem dX7_level_0 : decode cX7_level 0 = .ok (.aload_n 0, 1) := by decide +kernel
theorem dX7_level_1 : decode cX7_level 1 = .ok (.invokevirtual 215, 3) := by decide +kernel
theorem dX7_level_4 : decode cX7_level 4 = .ok (.aload_n 0, 1) := by decide +kernel
theorem dX7_level_5 : decode cX7_level 5 = .ok (.getfield 200, 3) := by decide +kernel
theorem dX7_level_8 : decode cX7_level 8 = .ok (.ifCond .ne 6, 3) := by decide +kernel
theorem dX7_level_11 : decode cX7_level 11 = .ok (.bipush (-3), 2) := by decide +kernel
theorem dX7_level_13 : decode cX7_level 13 = .ok (.ireturn, 1) := by decide +kernel
theorem dX7_level_14 : decode cX7_level 14 = .ok (.aload_n 0, 1) := by decide +kernel
theorem dX7_level_15 : decode cX7_level 15 = .ok (.invokevirtual 218, 3) := by decide +kernel
theorem dX7_level_18 : decode cX7_level 18 = .ok (.aload_n 0, 1) := by decide +kernel
theorem dX7_level_19 : decode cX7_level 19 = .ok (.iconst 2, 1) := by decide +kernel
theorem dX7_level_20 : decode cX7_level 20 = .ok (.iconst 0, 1) := by decide +kernel
theorem dX7_level_21 : decode cX7_level 21 = .ok (.invokevirtual 170, 3) := by decide +kernel
theorem dX7_level_24 : decode cX7_level 24 = .ok (.ireturn, 1) := by decide +kernel
theorem dX7_nearest_0 : decode cX7_nearest 0 = .ok (.iload_n 1, 1) := by decide +kernel
theorem dX7_nearest_1 : decode cX7_nearest 1 = .ok (.i2l, 1) := by decide +kernel
theorem dX7_nearest_2 : decode cX7_nearest 2 = .ok (.lstore 4, 2) := by decide +kernel
theorem dX7_nearest_4 : decode cX7_nearest 4 = .ok (.lconst 1, 1) := by decide +kernel
theorem dX7_nearest_5 : decode cX7_nearest 5 = .ok (.iload_n 3, 1) := by decide +kernel
theorem dX7_nearest_6 : decode cX7_nearest 6 = .ok (.iconst 1, 1) := by decide +kernel
theorem dX7_nearest_7 : decode cX7_nearest 7 = .ok (.isub, 1) := by decide +kernel
theorem dX7_nearest_8 : decode cX7_nearest 8 = .ok (.lshl, 1) := by decide +kernel
theorem dX7_nearest_9 : decode cX7_nearest 9 = .ok (.lstore 6, 2) := by decide +kernel
theorem dX7_nearest_11 : decode cX7_nearest 11 = .ok (.aload_n 0, 1) := by decide +kernel
theorem dX7_nearest_12 : decode cX7_nearest 12 = .ok (.iconst 0, 1) := by decide +kernel
theorem dX7_nearest_13 : decode cX7_nearest 13 = .ok (.putfield 221, 3) := by decide +kernel
theorem dX7_nearest_16 : decode cX7_nearest 16 = .ok (.lload 4, 2) := by decide +kernel
theorem dX7_nearest_18 : decode cX7_nearest 18 = .ok (.iload_n 2, 1) := by decide +kernel
theorem dX7_nearest_19 : decode cX7_nearest 19 = .ok (.i2l, 1) := by decide +kernel
theorem dX7_nearest_20 : decode cX7_nearest 20 = .ok (.ldiv, 1) := by decide +kernel
theorem dX7_nearest_21 : decode cX7_nearest 21 = .ok (.lload 6, 2) := by decide +kernel
theorem dX7_nearest_23 : decode cX7_nearest 23 = .ok (.lcmp, 1) := by decide +kernel
theorem dX7_nearest_24 : decode cX7_nearest 24 = .ok (.ifCond .ge 24, 3) := by decide +kernel
theorem dX7_nearest_27 : decode cX7_nearest 27 = .ok (.lload 4, 2) := by decide +kernel
theorem dX7_nearest_29 : decode cX7_nearest 29 = .ok (.ldc2_w 86, 3) := by decide +kernel
theorem dX7_nearest_32 : decode cX7_nearest 32 = .ok (.lmul, 1) := by decide +kernel
theorem dX7_nearest_33 : decode cX7_nearest 33 = .ok (.lstore 4, 2) := by decide +kernel
theorem dX7_nearest_35 : decode cX7_nearest 35 = .ok (.aload_n 0, 1) := by decide +kernel
theorem dX7_nearest_36 : decode cX7_nearest 36 = .ok (.dup, 1) := by decide +kernel
theorem dX7_nearest_37 : decode cX7_nearest 37 = .ok (.getfield 221, 3) := by decide +kernel
theorem dX7_nearest_40 : decode cX7_nearest 40 = .ok (.iconst 1, 1) := by decide +kernel
theorem dX7_nearest_41 : decode cX7_nearest 41 = .ok (.isub, 1) := by decide +kernel
theorem dX7_nearest_42 : decode cX7_nearest 42 = .ok (.putfield 221, 3) := by decide +kernel
theorem dX7_nearest_45 : decode cX7_nearest 45 = .ok (.goto (-29), 3) := by decide +kernel
theorem dX7_nearest_48 : decode cX7_nearest 48 = .ok (.aload_n 0, 1) := by decide +kernel
theorem dX7_nearest_49 : decode cX7_nearest 49 = .ok (.lload 4, 2) := by decide +kernel
theorem dX7_nearest_51 : decode cX7_nearest 51 = .ok (.iload_n 2, 1) := by decide +kernel
theorem dX7_nearest_52 : decode cX7_nearest 52 = .ok (.i2l, 1) := by decide +kernel
theorem dX7_nearest_53 : decode cX7_nearest 53 = .ok (.ldiv, 1) := by decide +kernel
theorem dX7_nearest_54 : decode cX7_nearest 54 = .ok (.putfield 224, 3) := by decide +kernel
theorem dX7_nearest_57 : decode cX7_nearest 57 = .ok (.ldc2_w 86, 3) := by decide +kernel
theorem dX7_nearest_60 : decode cX7_nearest 60 = .ok (.lload 4, 2) := by decide +kernel
theorem dX7_nearest_62 : decode cX7_nearest 62 = .ok (.iload_n 2, 1) := by decide +kernel
theorem dX7_nearest_63 : decode cX7_nearest 63 = .ok (.i2l, 1) := by decide +kernel
theorem dX7_nearest_64 : decode cX7_nearest 64 = .ok (.lrem, 1) := by decide +kernel
theorem dX7_nearest_65 : decode cX7_nearest 65 = .ok (.lmul, 1) := by decide +kernel
theorem dX7_nearest_66 : decode cX7_nearest 66 = .ok (.lstore 8, 2) := by decide +kernel
theorem dX7_nearest_68 : decode cX7_nearest 68 = .ok (.aload_n 0, 1) := by decide +kernel
theorem dX7_nearest_69 : decode cX7_nearest 69 = .ok (.dup, 1) := by decide +kernel
theorem dX7_nearest_70 : decode cX7_nearest 70 = .ok (.getfield 224, 3) := by decide +kernel
theorem dX7_nearest_73 : decode cX7_nearest 73 = .ok (.lload 8, 2) := by decide +kernel
theorem dX7_nearest_75 : decode cX7_nearest 75 = .ok (.iload_n 2, 1) := by decide +kernel
theorem dX7_nearest_76 : decode cX7_nearest 76 = .ok (.i2l, 1) := by decide +kernel
theorem dX7_nearest_77 : decode cX7_nearest 77 = .ok (.lcmp, 1) := by decide +kernel
theorem dX7_nearest_78 : decode cX7_nearest 78 = .ok (.ifCond .gt 24, 3) := by decide +kernel
theorem dX7_nearest_81 : decode cX7_nearest 81 = .ok (.lload 8, 2) := by decide +kernel
theorem dX7_nearest_83 : decode cX7_nearest 83 = .ok (.iload_n 2, 1) := by decide +kernel
theorem dX7_nearest_84 : decode cX7_nearest 84 = .ok (.i2l, 1) := by decide +kernel
theorem dX7_nearest_85 : decode cX7_nearest 85 = .ok (.lcmp, 1) := by decide +kernel
theorem dX7_nearest_86 : decode cX7_nearest 86 = .ok (.ifCond .ne 20, 3) := by decide +kernel
theorem dX7_nearest_89 : decode cX7_nearest 89 = .ok (.aload_n 0, 1) := by decide +kernel
theorem dX7_nearest_90 : decode cX7_nearest 90 = .ok (.getfield 224, 3) := by decide +kernel
theorem dX7_nearest_93 : decode cX7_nearest 93 = .ok (.ldc2_w 86, 3) := by decide +kernel
theorem dX7_nearest_96 : decode cX7_nearest 96 = .ok (.lrem, 1) := by decide +kernel
theorem dX7_nearest_97 : decode cX7_nearest 97 = .ok (.lconst 1, 1) := by decide +kernel
theorem dX7_nearest_98 : decode cX7_nearest 98 = .ok (.lcmp, 1) := by decide +kernel
theorem dX7_nearest_99 : decode cX7_nearest 99 = .ok (.ifCond .ne 7, 3) := by decide +kernel
theorem dX7_nearest_102 : decode cX7_nearest 102 = .ok (.lconst 1, 1) := by decide +kernel
theorem dX7_nearest_103 : decode cX7_nearest 103 = .ok (.goto 4, 3) := by decide +kernel
theorem dX7_nearest_106 : decode cX7_nearest 106 = .ok (.lconst 0, 1) := by decide +kernel
theorem dX7_nearest_107 : decode cX7_nearest 107 = .ok (.ladd, 1) := by decide +kernel
theorem dX7_nearest_108 : decode cX7_nearest 108 = .ok (.putfield 224, 3) := by decide +kernel
theorem dX7_nearest_111 : decode cX7_nearest 111 = .ok (.aload_n 0, 1) := by decide +kernel
theorem dX7_nearest_112 : decode cX7_nearest 112 = .ok (.getfield 224, 3) := by decide +kernel
theorem dX7_nearest_115 : decode cX7_nearest 115 = .ok (.ldc2_w 86, 3) := by decide +kernel
theorem dX7_nearest_118 : decode cX7_nearest 118 = .ok (.lload 6, 2) := by decide +kernel
theorem dX7_nearest_120 : decode cX7_nearest 120 = .ok (.lmul, 1) := by decide +kernel
theorem dX7_nearest_121 : decode cX7_nearest 121 = .ok (.lcmp, 1) := by decide +kernel
theorem dX7_nearest_122 : decode cX7_nearest 122 = .ok (.ifCond .ne 19, 3) := by decide +kernel
theorem dX7_nearest_125 : decode cX7_nearest 125 = .ok (.aload_n 0, 1) := by decide +kernel
theorem dX7_nearest_126 : decode cX7_nearest 126 = .ok (.lload 6, 2) := by decide +kernel
theorem dX7_nearest_128 : decode cX7_nearest 128 = .ok (.putfield 224, 3) := by decide +kernel
theorem dX7_nearest_131 : decode cX7_nearest 131 = .ok (.aload_n 0, 1) := by decide +kernel
theorem dX7_nearest_132 : decode cX7_nearest 132 = .ok (.dup, 1) := by decide +kernel
theorem dX7_nearest_133 : decode cX7_nearest 133 = .ok (.getfield 221, 3) := by decide +kernel
theorem dX7_nearest_136 : decode cX7_nearest 136 = .ok (.iconst 1, 1) := by decide +kernel
theorem dX7_nearest_137 : decode cX7_nearest 137 = .ok (.iadd, 1) := by decide +kernel
theorem dX7_nearest_138 : decode cX7_nearest 138 = .ok (.putfield 221, 3) := by decide +kernel
theorem dX7_nearest_141 : decode cX7_nearest 141 = .ok (.return_, 1) := by decide +kernel
theorem dX7_bits_0 : decode cX7_bits 0 = .ok (.lconst 1, 1) := by decide +kernel
theorem dX7_bits_1 : decode cX7_bits 1 = .ok (.iload_n 1, 1) := by decide +kernel
theorem dX7_bits_2 : decode cX7_bits 2 = .ok (.iconst 1, 1) := by decide +kernel
theorem dX7_bits_3 : decode cX7_bits 3 = .ok (.isub, 1) := by decide +kernel
theorem dX7_bits_4 : decode cX7_bits 4 = .ok (.lshl, 1) := by decide +kernel
theorem dX7_bits_5 : decode cX7_bits 5 = .ok (.lstore_n 3, 1) := by decide +kernel
theorem dX7_bits_6 : decode cX7_bits 6 = .ok (.aload_n 0, 1) := by decide +kernel
theorem dX7_bits_7 : decode cX7_bits 7 = .ok (.getfield 221, 3) := by decide +kernel
theorem dX7_bits_10 : decode cX7_bits 10 = .ok (.iload_n 1, 1) := by decide +kernel
theorem dX7_bits_11 : decode cX7_bits 11 = .ok (.iadd, 1) := by decide +kernel
theorem dX7_bits_12 : decode cX7_bits 12 = .ok (.i2l, 1) := by decide +kernel
theorem dX7_bits_13 : decode cX7_bits 13 = .ok (.lconst 1, 1) := by decide +kernel
theorem dX7_bits_14 : decode cX7_bits 14 = .ok (.lsub, 1) := by decide +kernel
theorem dX7_bits_15 : decode cX7_bits 15 = .ok (.iload_n 2, 1) := by decide +kernel
theorem dX7_bits_16 : decode cX7_bits 16 = .ok (.i2l, 1) := by decide +kernel
theorem dX7_bits_17 : decode cX7_bits 17 = .ok (.ladd, 1) := by decide +kernel
theorem dX7_bits_18 : decode cX7_bits 18 = .ok (.lload_n 3, 1) := by decide +kernel
theorem dX7_bits_19 : decode cX7_bits 19 = .ok (.lmul, 1) := by decide +kernel
theorem dX7_bits_20 : decode cX7_bits 20 = .ok (.aload_n 0, 1) := by decide +kernel
theorem dX7_bits_21 : decode cX7_bits 21 = .ok (.getfield 224, 3) := by decide +kernel
theorem dX7_bits_24 : decode cX7_bits 24 = .ok (.ladd, 1) := by decide +kernel
theorem dX7_bits_25 : decode cX7_bits 25 = .ok (.lload_n 3, 1) := by decide +kernel
theorem dX7_bits_26 : decode cX7_bits 26 = .ok (.lsub, 1) := by decide +kernel
theorem dX7_bits_27 : decode cX7_bits 27 = .ok (.lreturn, 1) := by decide +kernel
theorem dX7_mean_0 : decode cX7_mean 0 = .ok (.aload_n 0, 1) := by decide +kernel
theorem dX7_mean_1 : decode cX7_mean 1 = .ok (.invokevirtual 215, 3) := by decide +kernel
theorem dX7_mean_4 : decode cX7_mean 4 = .ok (.aload_n 0, 1) := by decide +kernel
theorem dX7_mean_5 : decode cX7_mean 5 = .ok (.getfield 200, 3) := by decide +kernel
theorem dX7_mean_8 : decode cX7_mean 8 = .ok (.ifCond .ne 7, 3) := by decide +kernel
theorem dX7_mean_11 : decode cX7_mean 11 = .ok (.ldc2_w 84, 3) := by decide +kernel
theorem dX7_mean_14 : decode cX7_mean 14 = .ok (.lreturn, 1) := by decide +kernel
theorem dX7_mean_15 : decode cX7_mean 15 = .ok (.aload_n 0, 1) := by decide +kernel
theorem dX7_mean_16 : decode cX7_mean 16 = .ok (.invokevirtual 209, 3) := by decide +kernel
theorem dX7_mean_19 : decode cX7_mean 19 = .ok (.ifCond .ne 5, 3) := by decide +kernel
theorem dX7_mean_22 : decode cX7_mean 22 = .ok (.lconst 0, 1) := by decide +kernel
theorem dX7_mean_23 : decode cX7_mean 23 = .ok (.lreturn, 1) := by decide +kernel
theorem dX7_mean_24 : decode cX7_mean 24 = .ok (.aload_n 0, 1) := by decide +kernel
theorem dX7_mean_25 : decode cX7_mean 25 = .ok (.aload_n 0, 1) := by decide +kernel
theorem dX7_mean_26 : decode cX7_mean 26 = .ok (.invokevirtual 209, 3) := by decide +kernel
theorem dX7_mean_29 : decode cX7_mean 29 = .ok (.aload_n 0, 1) := by decide +kernel
theorem dX7_mean_30 : decode cX7_mean 30 = .ok (.getfield 200, 3) := by decide +kernel
theorem dX7_mean_33 : decode cX7_mean 33 = .ok (.bipush 53, 2) := by decide +kernel
theorem dX7_mean_35 : decode cX7_mean 35 = .ok (.invokevirtual 228, 3) := by decide +kernel
theorem dX7_mean_38 : decode cX7_mean 38 = .ok (.aload_n 0, 1) := by decide +kernel
theorem dX7_mean_39 : decode cX7_mean 39 = .ok (.bipush 53, 2) := by decide +kernel
theorem dX7_mean_41 : decode cX7_mean 41 = .ok (.sipush 1023, 3) := by decide +kernel
theorem dX7_mean_44 : decode cX7_mean 44 = .ok (.invokevirtual 231, 3) := by decide +kernel
theorem dX7_mean_47 : decode cX7_mean 47 = .ok (.lreturn, 1) := by decide +kernel
theorem dX7_rest_0 : decode cX7_rest 0 = .ok (.aload_n 0, 1) := by decide +kernel
theorem dX7_rest_1 : decode cX7_rest 1 = .ok (.invokevirtual 215, 3) := by decide +kernel
theorem dX7_rest_4 : decode cX7_rest 4 = .ok (.aload_n 0, 1) := by decide +kernel
theorem dX7_rest_5 : decode cX7_rest 5 = .ok (.getfield 200, 3) := by decide +kernel
theorem dX7_rest_8 : decode cX7_rest 8 = .ok (.ifCond .ne 7, 3) := by decide +kernel
theorem dX7_rest_11 : decode cX7_rest 11 = .ok (.ldc2_w 84, 3) := by decide +kernel
theorem dX7_rest_14 : decode cX7_rest 14 = .ok (.lreturn, 1) := by decide +kernel
theorem dX7_rest_15 : decode cX7_rest 15 = .ok (.aload_n 0, 1) := by decide +kernel
theorem dX7_rest_16 : decode cX7_rest 16 = .ok (.invokevirtual 209, 3) := by decide +kernel
theorem dX7_rest_19 : decode cX7_rest 19 = .ok (.ifCond .ne 5, 3) := by decide +kernel
theorem dX7_rest_22 : decode cX7_rest 22 = .ok (.lconst 0, 1) := by decide +kernel
theorem dX7_rest_23 : decode cX7_rest 23 = .ok (.lreturn, 1) := by decide +kernel
theorem dX7_rest_24 : decode cX7_rest 24 = .ok (.aload_n 0, 1) := by decide +kernel
theorem dX7_rest_25 : decode cX7_rest 25 = .ok (.aload_n 0, 1) := by decide +kernel
theorem dX7_rest_26 : decode cX7_rest 26 = .ok (.invokevirtual 209, 3) := by decide +kernel
theorem dX7_rest_29 : decode cX7_rest 29 = .ok (.aload_n 0, 1) := by decide +kernel
theorem dX7_rest_30 : decode cX7_rest 30 = .ok (.getfield 200, 3) := by decide +kernel
theorem dX7_rest_33 : decode cX7_rest 33 = .ok (.bipush 53, 2) := by decide +kernel
theorem dX7_rest_35 : decode cX7_rest 35 = .ok (.invokevirtual 228, 3) := by decide +kernel
theorem dX7_rest_38 : decode cX7_rest 38 = .ok (.aload_n 0, 1) := by decide +kernel
theorem dX7_rest_39 : decode cX7_rest 39 = .ok (.dup, 1) := by decide +kernel
theorem dX7_rest_40 : decode cX7_rest 40 = .ok (.getfield 224, 3) := by decide +kernel
theorem dX7_rest_43 : decode cX7_rest 43 = .ok (.lconst 1, 1) := by decide +kernel
theorem dX7_rest_44 : decode cX7_rest 44 = .ok (.aload_n 0, 1) := by decide +kernel
theorem dX7_rest_45 : decode cX7_rest 45 = .ok (.getfield 221, 3) := by decide +kernel
theorem dX7_rest_48 : decode cX7_rest 48 = .ok (.ineg, 1) := by decide +kernel
theorem dX7_rest_49 : decode cX7_rest 49 = .ok (.lshl, 1) := by decide +kernel
theorem dX7_rest_50 : decode cX7_rest 50 = .ok (.lrem, 1) := by decide +kernel
theorem dX7_rest_51 : decode cX7_rest 51 = .ok (.putfield 224, 3) := by decide +kernel
theorem dX7_rest_54 : decode cX7_rest 54 = .ok (.aload_n 0, 1) := by decide +kernel
theorem dX7_rest_55 : decode cX7_rest 55 = .ok (.getfield 224, 3) := by decide +kernel
theorem dX7_rest_58 : decode cX7_rest 58 = .ok (.lconst 0, 1) := by decide +kernel
theorem dX7_rest_59 : decode cX7_rest 59 = .ok (.lcmp, 1) := by decide +kernel
theorem dX7_rest_60 : decode cX7_rest 60 = .ok (.ifCond .ne 5, 3) := by decide +kernel
theorem dX7_rest_63 : decode cX7_rest 63 = .ok (.lconst 0, 1) := by decide +kernel
theorem dX7_rest_64 : decode cX7_rest 64 = .ok (.lreturn, 1) := by decide +kernel
theorem dX7_rest_65 : decode cX7_rest 65 = .ok (.aload_n 0, 1) := by decide +kernel
theorem dX7_rest_66 : decode cX7_rest 66 = .ok (.getfield 224, 3) := by decide +kernel
theorem dX7_rest_69 : decode cX7_rest 69 = .ok (.ldc2_w 235, 3) := by decide +kernel
theorem dX7_rest_72 : decode cX7_rest 72 = .ok (.lcmp, 1) := by decide +kernel
theorem dX7_rest_73 : decode cX7_rest 73 = .ok (.ifCond .ge 28, 3) := by decide +kernel
theorem dX7_rest_76 : decode cX7_rest 76 = .ok (.aload_n 0, 1) := by decide +kernel
theorem dX7_rest_77 : decode cX7_rest 77 = .ok (.dup, 1) := by decide +kernel
theorem dX7_rest_78 : decode cX7_rest 78 = .ok (.getfield 224, 3) := by decide +kernel
theorem dX7_rest_81 : decode cX7_rest 81 = .ok (.ldc2_w 86, 3) := by decide +kernel
theorem dX7_rest_84 : decode cX7_rest 84 = .ok (.lmul, 1) := by decide +kernel
theorem dX7_rest_85 : decode cX7_rest 85 = .ok (.putfield 224, 3) := by decide +kernel
theorem dX7_rest_88 : decode cX7_rest 88 = .ok (.aload_n 0, 1) := by decide +kernel
theorem dX7_rest_89 : decode cX7_rest 89 = .ok (.dup, 1) := by decide +kernel
theorem dX7_rest_90 : decode cX7_rest 90 = .ok (.getfield 221, 3) := by decide +kernel
theorem dX7_rest_93 : decode cX7_rest 93 = .ok (.iconst 1, 1) := by decide +kernel
theorem dX7_rest_94 : decode cX7_rest 94 = .ok (.isub, 1) := by decide +kernel
theorem dX7_rest_95 : decode cX7_rest 95 = .ok (.putfield 221, 3) := by decide +kernel
theorem dX7_rest_98 : decode cX7_rest 98 = .ok (.goto (-33), 3) := by decide +kernel
theorem dX7_rest_101 : decode cX7_rest 101 = .ok (.aload_n 0, 1) := by decide +kernel
theorem dX7_rest_102 : decode cX7_rest 102 = .ok (.bipush 53, 2) := by decide +kernel
theorem dX7_rest_104 : decode cX7_rest 104 = .ok (.sipush 1023, 3) := by decide +kernel
theorem dX7_rest_107 : decode cX7_rest 107 = .ok (.invokevirtual 231, 3) := by decide +kernel
theorem dX7_rest_110 : decode cX7_rest 110 = .ok (.lreturn, 1) := by decide +kernel
theorem dX7_slope_0 : decode cX7_slope 0 = .ok (.aload_n 0, 1) := by decide +kernel
theorem dX7_slope_1 : decode cX7_slope 1 = .ok (.invokevirtual 215, 3) := by decide +kernel
theorem dX7_slope_4 : decode cX7_slope 4 = .ok (.aload_n 0, 1) := by decide +kernel
theorem dX7_slope_5 : decode cX7_slope 5 = .ok (.getfield 200, 3) := by decide +kernel
theorem dX7_slope_8 : decode cX7_slope 8 = .ok (.iconst 2, 1) := by decide +kernel
theorem dX7_slope_9 : decode cX7_slope 9 = .ok (.if_icmp .ge 6, 3) := by decide +kernel
theorem dX7_slope_12 : decode cX7_slope 12 = .ok (.bipush (-3), 2) := by decide +kernel
theorem dX7_slope_14 : decode cX7_slope 14 = .ok (.ireturn, 1) := by decide +kernel
theorem dX7_slope_15 : decode cX7_slope 15 = .ok (.aload_n 0, 1) := by decide +kernel
theorem dX7_slope_16 : decode cX7_slope 16 = .ok (.getfield 200, 3) := by decide +kernel
theorem dX7_slope_19 : decode cX7_slope 19 = .ok (.istore_n 1, 1) := by decide +kernel
theorem dX7_slope_20 : decode cX7_slope 20 = .ok (.iconst 0, 1) := by decide +kernel
theorem dX7_slope_21 : decode cX7_slope 21 = .ok (.istore_n 2, 1) := by decide +kernel
theorem dX7_slope_22 : decode cX7_slope 22 = .ok (.iconst 0, 1) := by decide +kernel
theorem dX7_slope_23 : decode cX7_slope 23 = .ok (.istore_n 3, 1) := by decide +kernel
theorem dX7_slope_24 : decode cX7_slope 24 = .ok (.iconst 0, 1) := by decide +kernel
theorem dX7_slope_25 : decode cX7_slope 25 = .ok (.istore 4, 2) := by decide +kernel
theorem dX7_slope_27 : decode cX7_slope 27 = .ok (.iconst 0, 1) := by decide +kernel
theorem dX7_slope_28 : decode cX7_slope 28 = .ok (.istore 5, 2) := by decide +kernel
theorem dX7_slope_30 : decode cX7_slope 30 = .ok (.iload 5, 2) := by decide +kernel
theorem dX7_slope_32 : decode cX7_slope 32 = .ok (.iload_n 1, 1) := by decide +kernel
theorem dX7_slope_33 : decode cX7_slope 33 = .ok (.if_icmp .ge 46, 3) := by decide +kernel
theorem dX7_slope_36 : decode cX7_slope 36 = .ok (.aload_n 0, 1) := by decide +kernel
theorem dX7_slope_37 : decode cX7_slope 37 = .ok (.getfield 203, 3) := by decide +kernel
theorem dX7_slope_40 : decode cX7_slope 40 = .ok (.iload 5, 2) := by decide +kernel
theorem dX7_slope_42 : decode cX7_slope 42 = .ok (.iadd, 1) := by decide +kernel
theorem dX7_slope_43 : decode cX7_slope 43 = .ok (.istore 6, 2) := by decide +kernel
theorem dX7_slope_45 : decode cX7_slope 45 = .ok (.iload_n 2, 1) := by decide +kernel
theorem dX7_slope_46 : decode cX7_slope 46 = .ok (.iload 6, 2) := by decide +kernel
theorem dX7_slope_48 : decode cX7_slope 48 = .ok (.iadd, 1) := by decide +kernel
theorem dX7_slope_49 : decode cX7_slope 49 = .ok (.istore_n 2, 1) := by decide +kernel
theorem dX7_slope_50 : decode cX7_slope 50 = .ok (.iload_n 3, 1) := by decide +kernel
theorem dX7_slope_51 : decode cX7_slope 51 = .ok (.iload 6, 2) := by decide +kernel
theorem dX7_slope_53 : decode cX7_slope 53 = .ok (.aload_n 0, 1) := by decide +kernel
theorem dX7_slope_54 : decode cX7_slope 54 = .ok (.getfield 57, 3) := by decide +kernel
theorem dX7_slope_57 : decode cX7_slope 57 = .ok (.iload 6, 2) := by decide +kernel
theorem dX7_slope_59 : decode cX7_slope 59 = .ok (.iaload, 1) := by decide +kernel
theorem dX7_slope_60 : decode cX7_slope 60 = .ok (.imul, 1) := by decide +kernel
theorem dX7_slope_61 : decode cX7_slope 61 = .ok (.iadd, 1) := by decide +kernel
theorem dX7_slope_62 : decode cX7_slope 62 = .ok (.istore_n 3, 1) := by decide +kernel
theorem dX7_slope_63 : decode cX7_slope 63 = .ok (.iload 4, 2) := by decide +kernel
theorem dX7_slope_65 : decode cX7_slope 65 = .ok (.iload 6, 2) := by decide +kernel
theorem dX7_slope_67 : decode cX7_slope 67 = .ok (.iload 6, 2) := by decide +kernel
theorem dX7_slope_69 : decode cX7_slope 69 = .ok (.imul, 1) := by decide +kernel
theorem dX7_slope_70 : decode cX7_slope 70 = .ok (.iadd, 1) := by decide +kernel
theorem dX7_slope_71 : decode cX7_slope 71 = .ok (.istore 4, 2) := by decide +kernel
theorem dX7_slope_73 : decode cX7_slope 73 = .ok (.iinc 5 1, 3) := by decide +kernel
theorem dX7_slope_76 : decode cX7_slope 76 = .ok (.goto (-46), 3) := by decide +kernel
theorem dX7_slope_79 : decode cX7_slope 79 = .ok (.iload_n 1, 1) := by decide +kernel
theorem dX7_slope_80 : decode cX7_slope 80 = .ok (.iload_n 3, 1) := by decide +kernel
theorem dX7_slope_81 : decode cX7_slope 81 = .ok (.imul, 1) := by decide +kernel
theorem dX7_slope_82 : decode cX7_slope 82 = .ok (.iload_n 2, 1) := by decide +kernel
theorem dX7_slope_83 : decode cX7_slope 83 = .ok (.aload_n 0, 1) := by decide +kernel
theorem dX7_slope_84 : decode cX7_slope 84 = .ok (.invokevirtual 209, 3) := by decide +kernel
theorem dX7_slope_87 : decode cX7_slope 87 = .ok (.imul, 1) := by decide +kernel
theorem dX7_slope_88 : decode cX7_slope 88 = .ok (.isub, 1) := by decide +kernel
theorem dX7_slope_89 : decode cX7_slope 89 = .ok (.istore 5, 2) := by decide +kernel
theorem dX7_slope_91 : decode cX7_slope 91 = .ok (.iload_n 1, 1) := by decide +kernel
theorem dX7_slope_92 : decode cX7_slope 92 = .ok (.iload 4, 2) := by decide +kernel
theorem dX7_slope_94 : decode cX7_slope 94 = .ok (.imul, 1) := by decide +kernel
theorem dX7_slope_95 : decode cX7_slope 95 = .ok (.iload_n 2, 1) := by decide +kernel
theorem dX7_slope_96 : decode cX7_slope 96 = .ok (.iload_n 2, 1) := by decide +kernel
theorem dX7_slope_97 : decode cX7_slope 97 = .ok (.imul, 1) := by decide +kernel
theorem dX7_slope_98 : decode cX7_slope 98 = .ok (.isub, 1) := by decide +kernel
theorem dX7_slope_99 : decode cX7_slope 99 = .ok (.istore 6, 2) := by decide +kernel
theorem dX7_slope_101 : decode cX7_slope 101 = .ok (.iload 5, 2) := by decide +kernel
theorem dX7_slope_103 : decode cX7_slope 103 = .ok (.ifCond .ne 5, 3) := by decide +kernel
theorem dX7_slope_106 : decode cX7_slope 106 = .ok (.iconst 0, 1) := by decide +kernel
theorem dX7_slope_107 : decode cX7_slope 107 = .ok (.ireturn, 1) := by decide +kernel
theorem dX7_slope_108 : decode cX7_slope 108 = .ok (.aload_n 0, 1) := by decide +kernel
theorem dX7_slope_109 : decode cX7_slope 109 = .ok (.iload 5, 2) := by decide +kernel
theorem dX7_slope_111 : decode cX7_slope 111 = .ok (.ifCond .ge 9, 3) := by decide +kernel
theorem dX7_slope_114 : decode cX7_slope 114 = .ok (.iload 5, 2) := by decide +kernel
theorem dX7_slope_116 : decode cX7_slope 116 = .ok (.ineg, 1) := by decide +kernel
theorem dX7_slope_117 : decode cX7_slope 117 = .ok (.goto 5, 3) := by decide +kernel
theorem dX7_slope_120 : decode cX7_slope 120 = .ok (.iload 5, 2) := by decide +kernel
theorem dX7_slope_122 : decode cX7_slope 122 = .ok (.iload 6, 2) := by decide +kernel
theorem dX7_slope_124 : decode cX7_slope 124 = .ok (.bipush 24, 2) := by decide +kernel
theorem dX7_slope_126 : decode cX7_slope 126 = .ok (.invokevirtual 228, 3) := by decide +kernel
theorem dX7_slope_129 : decode cX7_slope 129 = .ok (.aload_n 0, 1) := by decide +kernel
theorem dX7_slope_130 : decode cX7_slope 130 = .ok (.bipush 24, 2) := by decide +kernel
theorem dX7_slope_132 : decode cX7_slope 132 = .ok (.bipush 127, 2) := by decide +kernel
theorem dX7_slope_134 : decode cX7_slope 134 = .ok (.invokevirtual 231, 3) := by decide +kernel
theorem dX7_slope_137 : decode cX7_slope 137 = .ok (.l2i, 1) := by decide +kernel
theorem dX7_slope_138 : decode cX7_slope 138 = .ok (.istore 7, 2) := by decide +kernel
theorem dX7_slope_140 : decode cX7_slope 140 = .ok (.iload 5, 2) := by decide +kernel
theorem dX7_slope_142 : decode cX7_slope 142 = .ok (.ifCond .ge 11, 3) := by decide +kernel
theorem dX7_slope_145 : decode cX7_slope 145 = .ok (.iload 7, 2) := by decide +kernel
theorem dX7_slope_147 : decode cX7_slope 147 = .ok (.ldc 237, 2) := by decide +kernel
theorem dX7_slope_149 : decode cX7_slope 149 = .ok (.ior, 1) := by decide +kernel
theorem dX7_slope_150 : decode cX7_slope 150 = .ok (.goto 5, 3) := by decide +kernel
theorem dX7_slope_153 : decode cX7_slope 153 = .ok (.iload 7, 2) := by decide +kernel
theorem dX7_slope_155 : decode cX7_slope 155 = .ok (.ireturn, 1) := by decide +kernel
theorem dX7_fault_0 : decode cX7_fault 0 = .ok (.aload_n 0, 1) := by decide +kernel
theorem dX7_fault_1 : decode cX7_fault 1 = .ok (.getfield 63, 3) := by decide +kernel
theorem dX7_fault_4 : decode cX7_fault 4 = .ok (.ireturn, 1) := by decide +kernel
theorem dX7_feet_0 : decode cX7_feet 0 = .ok (.iconst 0, 1) := by decide +kernel
theorem dX7_feet_1 : decode cX7_feet 1 = .ok (.istore_n 1, 1) := by decide +kernel
theorem dX7_feet_2 : decode cX7_feet 2 = .ok (.iconst 0, 1) := by decide +kernel
theorem dX7_feet_3 : decode cX7_feet 3 = .ok (.istore_n 2, 1) := by decide +kernel
theorem dX7_feet_4 : decode cX7_feet 4 = .ok (.iload_n 2, 1) := by decide +kernel
theorem dX7_feet_5 : decode cX7_feet 5 = .ok (.aload_n 0, 1) := by decide +kernel
theorem dX7_feet_6 : decode cX7_feet 6 = .ok (.getfield 7, 3) := by decide +kernel
theorem dX7_feet_9 : decode cX7_feet 9 = .ok (.if_icmp .ge 40, 3) := by decide +kernel
theorem dX7_feet_12 : decode cX7_feet 12 = .ok (.iconst 0, 1) := by decide +kernel
theorem dX7_feet_13 : decode cX7_feet 13 = .ok (.istore_n 3, 1) := by decide +kernel
theorem dX7_feet_14 : decode cX7_feet 14 = .ok (.iload_n 3, 1) := by decide +kernel
theorem dX7_feet_15 : decode cX7_feet 15 = .ok (.bipush 32, 2) := by decide +kernel
theorem dX7_feet_17 : decode cX7_feet 17 = .ok (.if_icmp .ge 26, 3) := by decide +kernel
theorem dX7_feet_20 : decode cX7_feet 20 = .ok (.iload_n 1, 1) := by decide +kernel
theorem dX7_feet_21 : decode cX7_feet 21 = .ok (.aload_n 0, 1) := by decide +kernel
theorem dX7_feet_22 : decode cX7_feet 22 = .ok (.iload_n 2, 1) := by decide +kernel
theorem dX7_feet_23 : decode cX7_feet 23 = .ok (.iload_n 3, 1) := by decide +kernel
theorem dX7_feet_24 : decode cX7_feet 24 = .ok (.invokevirtual 194, 3) := by decide +kernel
theorem dX7_feet_27 : decode cX7_feet 27 = .ok (.ifCond .eq 7, 3) := by decide +kernel
theorem dX7_feet_30 : decode cX7_feet 30 = .ok (.iconst 1, 1) := by decide +kernel
theorem dX7_feet_31 : decode cX7_feet 31 = .ok (.goto 4, 3) := by decide +kernel
theorem dX7_feet_34 : decode cX7_feet 34 = .ok (.iconst 0, 1) := by decide +kernel
theorem dX7_feet_35 : decode cX7_feet 35 = .ok (.iadd, 1) := by decide +kernel
theorem dX7_feet_36 : decode cX7_feet 36 = .ok (.istore_n 1, 1) := by decide +kernel
theorem dX7_feet_37 : decode cX7_feet 37 = .ok (.iinc 3 1, 3) := by decide +kernel
theorem dX7_feet_40 : decode cX7_feet 40 = .ok (.goto (-26), 3) := by decide +kernel
theorem dX7_feet_43 : decode cX7_feet 43 = .ok (.iinc 2 1, 3) := by decide +kernel
theorem dX7_feet_46 : decode cX7_feet 46 = .ok (.goto (-42), 3) := by decide +kernel
theorem dX7_feet_49 : decode cX7_feet 49 = .ok (.iload_n 1, 1) := by decide +kernel
theorem dX7_feet_50 : decode cX7_feet 50 = .ok (.ireturn, 1) := by decide +kernel
theorem dX7_many_0 : decode cX7_many 0 = .ok (.iconst 0, 1) := by decide +kernel
theorem dX7_many_1 : decode cX7_many 1 = .ok (.istore_n 2, 1) := by decide +kernel
theorem dX7_many_2 : decode cX7_many 2 = .ok (.iload_n 1, 1) := by decide +kernel
theorem dX7_many_3 : decode cX7_many 3 = .ok (.tableswitch 113 0 6 #[41, 46, 51, 60, 69, 74, 79], 41) := by decide +kernel
theorem dX7_many_44 : decode cX7_many 44 = .ok (.aload_n 0, 1) := by decide +kernel
theorem dX7_many_45 : decode cX7_many 45 = .ok (.getfield 7, 3) := by decide +kernel
theorem dX7_many_48 : decode cX7_many 48 = .ok (.ireturn, 1) := by decide +kernel
theorem dX7_many_49 : decode cX7_many 49 = .ok (.aload_n 0, 1) := by decide +kernel
theorem dX7_many_50 : decode cX7_many 50 = .ok (.invokevirtual 77, 3) := by decide +kernel
theorem dX7_many_53 : decode cX7_many 53 = .ok (.ireturn, 1) := by decide +kernel
theorem dX7_many_54 : decode cX7_many 54 = .ok (.aload_n 0, 1) := by decide +kernel
theorem dX7_many_55 : decode cX7_many 55 = .ok (.invokevirtual 179, 3) := by decide +kernel
theorem dX7_many_58 : decode cX7_many 58 = .ok (.aload_n 0, 1) := by decide +kernel
theorem dX7_many_59 : decode cX7_many 59 = .ok (.getfield 173, 3) := by decide +kernel
theorem dX7_many_62 : decode cX7_many 62 = .ok (.ireturn, 1) := by decide +kernel
theorem dX7_many_63 : decode cX7_many 63 = .ok (.aload_n 0, 1) := by decide +kernel
theorem dX7_many_64 : decode cX7_many 64 = .ok (.invokevirtual 188, 3) := by decide +kernel
theorem dX7_many_67 : decode cX7_many 67 = .ok (.aload_n 0, 1) := by decide +kernel
theorem dX7_many_68 : decode cX7_many 68 = .ok (.getfield 182, 3) := by decide +kernel
theorem dX7_many_71 : decode cX7_many 71 = .ok (.ireturn, 1) := by decide +kernel
theorem dX7_many_72 : decode cX7_many 72 = .ok (.aload_n 0, 1) := by decide +kernel
theorem dX7_many_73 : decode cX7_many 73 = .ok (.invokevirtual 238, 3) := by decide +kernel
theorem dX7_many_76 : decode cX7_many 76 = .ok (.ireturn, 1) := by decide +kernel
theorem dX7_many_77 : decode cX7_many 77 = .ok (.aload_n 0, 1) := by decide +kernel
theorem dX7_many_78 : decode cX7_many 78 = .ok (.getfield 81, 3) := by decide +kernel
theorem dX7_many_81 : decode cX7_many 81 = .ok (.ireturn, 1) := by decide +kernel
theorem dX7_many_82 : decode cX7_many 82 = .ok (.iconst 0, 1) := by decide +kernel
theorem dX7_many_83 : decode cX7_many 83 = .ok (.istore_n 3, 1) := by decide +kernel
theorem dX7_many_84 : decode cX7_many 84 = .ok (.iload_n 3, 1) := by decide +kernel
theorem dX7_many_85 : decode cX7_many 85 = .ok (.iconst 4, 1) := by decide +kernel
theorem dX7_many_86 : decode cX7_many 86 = .ok (.if_icmp .ge 28, 3) := by decide +kernel
theorem dX7_many_89 : decode cX7_many 89 = .ok (.iload_n 2, 1) := by decide +kernel
theorem dX7_many_90 : decode cX7_many 90 = .ok (.aload_n 0, 1) := by decide +kernel
theorem dX7_many_91 : decode cX7_many 91 = .ok (.getfield 17, 3) := by decide +kernel
theorem dX7_many_94 : decode cX7_many 94 = .ok (.iload_n 3, 1) := by decide +kernel
theorem dX7_many_95 : decode cX7_many 95 = .ok (.iaload, 1) := by decide +kernel
theorem dX7_many_96 : decode cX7_many 96 = .ok (.bipush (-9), 2) := by decide +kernel
theorem dX7_many_98 : decode cX7_many 98 = .ok (.if_icmp .ne 7, 3) := by decide +kernel
theorem dX7_many_101 : decode cX7_many 101 = .ok (.iconst 0, 1) := by decide +kernel
theorem dX7_many_102 : decode cX7_many 102 = .ok (.goto 4, 3) := by decide +kernel
theorem dX7_many_105 : decode cX7_many 105 = .ok (.iconst 1, 1) := by decide +kernel
theorem dX7_many_106 : decode cX7_many 106 = .ok (.iadd, 1) := by decide +kernel
theorem dX7_many_107 : decode cX7_many 107 = .ok (.istore_n 2, 1) := by decide +kernel
theorem dX7_many_108 : decode cX7_many 108 = .ok (.iinc 3 1, 3) := by decide +kernel
theorem dX7_many_111 : decode cX7_many 111 = .ok (.goto (-27), 3) := by decide +kernel
theorem dX7_many_114 : decode cX7_many 114 = .ok (.iload_n 2, 1) := by decide +kernel
theorem dX7_many_115 : decode cX7_many 115 = .ok (.ireturn, 1) := by decide +kernel
theorem dX7_many_116 : decode cX7_many 116 = .ok (.bipush (-2), 2) := by decide +kernel
theorem dX7_many_118 : decode cX7_many 118 = .ok (.ireturn, 1) := by decide +kernel
theorem dJ6_bitCount_0f7a4_0 : decode cJ6_bitCount_0f7a4 0 = .ok (.iload_n 0, 1) := by decide +kernel
theorem dJ6_bitCount_0f7a4_1 : decode cJ6_bitCount_0f7a4 1 = .ok (.iload_n 0, 1) := by decide +kernel
theorem dJ6_bitCount_0f7a4_2 : decode cJ6_bitCount_0f7a4 2 = .ok (.iconst 1, 1) := by decide +kernel
theorem dJ6_bitCount_0f7a4_3 : decode cJ6_bitCount_0f7a4 3 = .ok (.iushr, 1) := by decide +kernel
theorem dJ6_bitCount_0f7a4_4 : decode cJ6_bitCount_0f7a4 4 = .ok (.ldc_w 265, 3) := by decide +kernel
theorem dJ6_bitCount_0f7a4_7 : decode cJ6_bitCount_0f7a4 7 = .ok (.iand, 1) := by decide +kernel
theorem dJ6_bitCount_0f7a4_8 : decode cJ6_bitCount_0f7a4 8 = .ok (.isub, 1) := by decide +kernel
theorem dJ6_bitCount_0f7a4_9 : decode cJ6_bitCount_0f7a4 9 = .ok (.istore_n 0, 1) := by decide +kernel
theorem dJ6_bitCount_0f7a4_10 : decode cJ6_bitCount_0f7a4 10 = .ok (.iload_n 0, 1) := by decide +kernel
theorem dJ6_bitCount_0f7a4_11 : decode cJ6_bitCount_0f7a4 11 = .ok (.ldc_w 266, 3) := by decide +kernel
theorem dJ6_bitCount_0f7a4_14 : decode cJ6_bitCount_0f7a4 14 = .ok (.iand, 1) := by decide +kernel
theorem dJ6_bitCount_0f7a4_15 : decode cJ6_bitCount_0f7a4 15 = .ok (.iload_n 0, 1) := by decide +kernel
theorem dJ6_bitCount_0f7a4_16 : decode cJ6_bitCount_0f7a4 16 = .ok (.iconst 2, 1) := by decide +kernel
theorem dJ6_bitCount_0f7a4_17 : decode cJ6_bitCount_0f7a4 17 = .ok (.iushr, 1) := by decide +kernel
theorem dJ6_bitCount_0f7a4_18 : decode cJ6_bitCount_0f7a4 18 = .ok (.ldc_w 266, 3) := by decide +kernel
theorem dJ6_bitCount_0f7a4_21 : decode cJ6_bitCount_0f7a4 21 = .ok (.iand, 1) := by decide +kernel
theorem dJ6_bitCount_0f7a4_22 : decode cJ6_bitCount_0f7a4 22 = .ok (.iadd, 1) := by decide +kernel
theorem dJ6_bitCount_0f7a4_23 : decode cJ6_bitCount_0f7a4 23 = .ok (.istore_n 0, 1) := by decide +kernel
theorem dJ6_bitCount_0f7a4_24 : decode cJ6_bitCount_0f7a4 24 = .ok (.iload_n 0, 1) := by decide +kernel
theorem dJ6_bitCount_0f7a4_25 : decode cJ6_bitCount_0f7a4 25 = .ok (.iload_n 0, 1) := by decide +kernel
theorem dJ6_bitCount_0f7a4_26 : decode cJ6_bitCount_0f7a4 26 = .ok (.iconst 4, 1) := by decide +kernel
theorem dJ6_bitCount_0f7a4_27 : decode cJ6_bitCount_0f7a4 27 = .ok (.iushr, 1) := by decide +kernel
theorem dJ6_bitCount_0f7a4_28 : decode cJ6_bitCount_0f7a4 28 = .ok (.iadd, 1) := by decide +kernel
theorem dJ6_bitCount_0f7a4_29 : decode cJ6_bitCount_0f7a4 29 = .ok (.ldc_w 267, 3) := by decide +kernel
theorem dJ6_bitCount_0f7a4_32 : decode cJ6_bitCount_0f7a4 32 = .ok (.iand, 1) := by decide +kernel
theorem dJ6_bitCount_0f7a4_33 : decode cJ6_bitCount_0f7a4 33 = .ok (.istore_n 0, 1) := by decide +kernel
theorem dJ6_bitCount_0f7a4_34 : decode cJ6_bitCount_0f7a4 34 = .ok (.iload_n 0, 1) := by decide +kernel
theorem dJ6_bitCount_0f7a4_35 : decode cJ6_bitCount_0f7a4 35 = .ok (.iload_n 0, 1) := by decide +kernel
theorem dJ6_bitCount_0f7a4_36 : decode cJ6_bitCount_0f7a4 36 = .ok (.bipush 8, 2) := by decide +kernel
theorem dJ6_bitCount_0f7a4_38 : decode cJ6_bitCount_0f7a4 38 = .ok (.iushr, 1) := by decide +kernel
theorem dJ6_bitCount_0f7a4_39 : decode cJ6_bitCount_0f7a4 39 = .ok (.iadd, 1) := by decide +kernel
theorem dJ6_bitCount_0f7a4_40 : decode cJ6_bitCount_0f7a4 40 = .ok (.istore_n 0, 1) := by decide +kernel
theorem dJ6_bitCount_0f7a4_41 : decode cJ6_bitCount_0f7a4 41 = .ok (.iload_n 0, 1) := by decide +kernel
theorem dJ6_bitCount_0f7a4_42 : decode cJ6_bitCount_0f7a4 42 = .ok (.iload_n 0, 1) := by decide +kernel
theorem dJ6_bitCount_0f7a4_43 : decode cJ6_bitCount_0f7a4 43 = .ok (.bipush 16, 2) := by decide +kernel
theorem dJ6_bitCount_0f7a4_45 : decode cJ6_bitCount_0f7a4 45 = .ok (.iushr, 1) := by decide +kernel
theorem dJ6_bitCount_0f7a4_46 : decode cJ6_bitCount_0f7a4 46 = .ok (.iadd, 1) := by decide +kernel
theorem dJ6_bitCount_0f7a4_47 : decode cJ6_bitCount_0f7a4 47 = .ok (.istore_n 0, 1) := by decide +kernel
theorem dJ6_bitCount_0f7a4_48 : decode cJ6_bitCount_0f7a4 48 = .ok (.iload_n 0, 1) := by decide +kernel
theorem dJ6_bitCount_0f7a4_49 : decode cJ6_bitCount_0f7a4 49 = .ok (.bipush 63, 2) := by decide +kernel
theorem dJ6_bitCount_0f7a4_51 : decode cJ6_bitCount_0f7a4 51 = .ok (.iand, 1) := by decide +kernel
theorem dJ6_bitCount_0f7a4_52 : decode cJ6_bitCount_0f7a4 52 = .ok (.ireturn, 1) := by decide +kernel
theorem dJ9_floorDiv_7cf53_0 : decode cJ9_floorDiv_7cf53 0 = .ok (.iload_n 0, 1) := by decide +kernel
theorem dJ9_floorDiv_7cf53_1 : decode cJ9_floorDiv_7cf53 1 = .ok (.iload_n 1, 1) := by decide +kernel
theorem dJ9_floorDiv_7cf53_2 : decode cJ9_floorDiv_7cf53 2 = .ok (.idiv, 1) := by decide +kernel
theorem dJ9_floorDiv_7cf53_3 : decode cJ9_floorDiv_7cf53 3 = .ok (.istore_n 2, 1) := by decide +kernel
theorem dJ9_floorDiv_7cf53_4 : decode cJ9_floorDiv_7cf53 4 = .ok (.iload_n 0, 1) := by decide +kernel
theorem dJ9_floorDiv_7cf53_5 : decode cJ9_floorDiv_7cf53 5 = .ok (.iload_n 1, 1) := by decide +kernel
theorem dJ9_floorDiv_7cf53_6 : decode cJ9_floorDiv_7cf53 6 = .ok (.ixor, 1) := by decide +kernel
theorem dJ9_floorDiv_7cf53_7 : decode cJ9_floorDiv_7cf53 7 = .ok (.ifCond .ge 14, 3) := by decide +kernel
theorem dJ9_floorDiv_7cf53_10 : decode cJ9_floorDiv_7cf53 10 = .ok (.iload_n 2, 1) := by decide +kernel
theorem dJ9_floorDiv_7cf53_11 : decode cJ9_floorDiv_7cf53 11 = .ok (.iload_n 1, 1) := by decide +kernel
theorem dJ9_floorDiv_7cf53_12 : decode cJ9_floorDiv_7cf53 12 = .ok (.imul, 1) := by decide +kernel
theorem dJ9_floorDiv_7cf53_13 : decode cJ9_floorDiv_7cf53 13 = .ok (.iload_n 0, 1) := by decide +kernel
theorem dJ9_floorDiv_7cf53_14 : decode cJ9_floorDiv_7cf53 14 = .ok (.if_icmp .eq 7, 3) := by decide +kernel
theorem dJ9_floorDiv_7cf53_17 : decode cJ9_floorDiv_7cf53 17 = .ok (.iload_n 2, 1) := by decide +kernel
theorem dJ9_floorDiv_7cf53_18 : decode cJ9_floorDiv_7cf53 18 = .ok (.iconst 1, 1) := by decide +kernel
theorem dJ9_floorDiv_7cf53_19 : decode cJ9_floorDiv_7cf53 19 = .ok (.isub, 1) := by decide +kernel
theorem dJ9_floorDiv_7cf53_20 : decode cJ9_floorDiv_7cf53 20 = .ok (.ireturn, 1) := by decide +kernel
theorem dJ9_floorDiv_7cf53_21 : decode cJ9_floorDiv_7cf53 21 = .ok (.iload_n 2, 1) := by decide +kernel
theorem dJ9_floorDiv_7cf53_22 : decode cJ9_floorDiv_7cf53 22 = .ok (.ireturn, 1) := by decide +kernel
theorem dJ9_abs_0f7a4_0 : decode cJ9_abs_0f7a4 0 = .ok (.iload_n 0, 1) := by decide +kernel
theorem dJ9_abs_0f7a4_1 : decode cJ9_abs_0f7a4 1 = .ok (.ifCond .ge 8, 3) := by decide +kernel
theorem dJ9_abs_0f7a4_4 : decode cJ9_abs_0f7a4 4 = .ok (.iload_n 0, 1) := by decide +kernel
theorem dJ9_abs_0f7a4_5 : decode cJ9_abs_0f7a4 5 = .ok (.ineg, 1) := by decide +kernel
theorem dJ9_abs_0f7a4_6 : decode cJ9_abs_0f7a4 6 = .ok (.goto 4, 3) := by decide +kernel
theorem dJ9_abs_0f7a4_9 : decode cJ9_abs_0f7a4 9 = .ok (.iload_n 0, 1) := by decide +kernel
theorem dJ9_abs_0f7a4_10 : decode cJ9_abs_0f7a4 10 = .ok (.ireturn, 1) := by decide +kernel
theorem dJ9_abs_067f4_0 : decode cJ9_abs_067f4 0 = .ok (.lload_n 0, 1) := by decide +kernel
theorem dJ9_abs_067f4_1 : decode cJ9_abs_067f4 1 = .ok (.lconst 0, 1) := by decide +kernel
theorem dJ9_abs_067f4_2 : decode cJ9_abs_067f4 2 = .ok (.lcmp, 1) := by decide +kernel
theorem dJ9_abs_067f4_3 : decode cJ9_abs_067f4 3 = .ok (.ifCond .ge 8, 3) := by decide +kernel
theorem dJ9_abs_067f4_6 : decode cJ9_abs_067f4 6 = .ok (.lload_n 0, 1) := by decide +kernel
theorem dJ9_abs_067f4_7 : decode cJ9_abs_067f4 7 = .ok (.lneg, 1) := by decide +kernel
theorem dJ9_abs_067f4_8 : decode cJ9_abs_067f4 8 = .ok (.goto 4, 3) := by decide +kernel
theorem dJ9_abs_067f4_11 : decode cJ9_abs_067f4 11 = .ok (.lload_n 0, 1) := by decide +kernel
theorem dJ9_abs_067f4_12 : decode cJ9_abs_067f4 12 = .ok (.lreturn, 1) := by decide +kernel
theorem dJ9_max_7cf53_0 : decode cJ9_max_7cf53 0 = .ok (.iload_n 0, 1) := by decide +kernel
theorem dJ9_max_7cf53_1 : decode cJ9_max_7cf53 1 = .ok (.iload_n 1, 1) := by decide +kernel
theorem dJ9_max_7cf53_2 : decode cJ9_max_7cf53 2 = .ok (.if_icmp .lt 7, 3) := by decide +kernel
theorem dJ9_max_7cf53_5 : decode cJ9_max_7cf53 5 = .ok (.iload_n 0, 1) := by decide +kernel
theorem dJ9_max_7cf53_6 : decode cJ9_max_7cf53 6 = .ok (.goto 4, 3) := by decide +kernel
theorem dJ9_max_7cf53_9 : decode cJ9_max_7cf53 9 = .ok (.iload_n 1, 1) := by decide +kernel
theorem dJ9_max_7cf53_10 : decode cJ9_max_7cf53 10 = .ok (.ireturn, 1) := by decide +kernel
theorem dJ9_min_7cf53_0 : decode cJ9_min_7cf53 0 = .ok (.iload_n 0, 1) := by decide +kernel
theorem dJ9_min_7cf53_1 : decode cJ9_min_7cf53 1 = .ok (.iload_n 1, 1) := by decide +kernel
theorem dJ9_min_7cf53_2 : decode cJ9_min_7cf53 2 = .ok (.if_icmp .gt 7, 3) := by decide +kernel
theorem dJ9_min_7cf53_5 : decode cJ9_min_7cf53 5 = .ok (.iload_n 0, 1) := by decide +kernel
theorem dJ9_min_7cf53_6 : decode cJ9_min_7cf53 6 = .ok (.goto 4, 3) := by decide +kernel
theorem dJ9_min_7cf53_9 : decode cJ9_min_7cf53 9 = .ok (.iload_n 1, 1) := by decide +kernel
theorem dJ9_min_7cf53_10 : decode cJ9_min_7cf53 10 = .ok (.ireturn, 1) := by decide +kernel
theorem dJ7_fill_53178_0 : decode cJ7_fill_53178 0 = .ok (.iconst 0, 1) := by decide +kernel
theorem dJ7_fill_53178_1 : decode cJ7_fill_53178 1 = .ok (.istore_n 2, 1) := by decide +kernel
theorem dJ7_fill_53178_2 : decode cJ7_fill_53178 2 = .ok (.aload_n 0, 1) := by decide +kernel
theorem dJ7_fill_53178_3 : decode cJ7_fill_53178 3 = .ok (.arraylength, 1) := by decide +kernel
theorem dJ7_fill_53178_4 : decode cJ7_fill_53178 4 = .ok (.istore_n 3, 1) := by decide +kernel
theorem dJ7_fill_53178_5 : decode cJ7_fill_53178 5 = .ok (.iload_n 2, 1) := by decide +kernel
theorem dJ7_fill_53178_6 : decode cJ7_fill_53178 6 = .ok (.iload_n 3, 1) := by decide +kernel
theorem dJ7_fill_53178_7 : decode cJ7_fill_53178 7 = .ok (.if_icmp .ge 13, 3) := by decide +kernel
theorem dJ7_fill_53178_10 : decode cJ7_fill_53178 10 = .ok (.aload_n 0, 1) := by decide +kernel
theorem dJ7_fill_53178_11 : decode cJ7_fill_53178 11 = .ok (.iload_n 2, 1) := by decide +kernel
theorem dJ7_fill_53178_12 : decode cJ7_fill_53178 12 = .ok (.iload_n 1, 1) := by decide +kernel
theorem dJ7_fill_53178_13 : decode cJ7_fill_53178 13 = .ok (.iastore, 1) := by decide +kernel
theorem dJ7_fill_53178_14 : decode cJ7_fill_53178 14 = .ok (.iinc 2 1, 3) := by decide +kernel
theorem dJ7_fill_53178_17 : decode cJ7_fill_53178 17 = .ok (.goto (-12), 3) := by decide +kernel
theorem dJ7_fill_53178_20 : decode cJ7_fill_53178 20 = .ok (.return_, 1) := by decide +kernel
theorem dL_law_0 : decode cL_law 0 = .ok (.new 7, 3) := by decide +kernel
theorem dL_law_3 : decode cL_law 3 = .ok (.dup, 1) := by decide +kernel
theorem dL_law_4 : decode cL_law 4 = .ok (.invokespecial 9, 3) := by decide +kernel
theorem dL_law_7 : decode cL_law 7 = .ok (.astore_n 1, 1) := by decide +kernel
theorem dL_law_8 : decode cL_law 8 = .ok (.new 10, 3) := by decide +kernel
theorem dL_law_11 : decode cL_law 11 = .ok (.dup, 1) := by decide +kernel
theorem dL_law_12 : decode cL_law 12 = .ok (.invokespecial 12, 3) := by decide +kernel
theorem dL_law_15 : decode cL_law 15 = .ok (.astore_n 2, 1) := by decide +kernel
theorem dL_law_16 : decode cL_law 16 = .ok (.iconst 0, 1) := by decide +kernel
theorem dL_law_17 : decode cL_law 17 = .ok (.istore_n 3, 1) := by decide +kernel
theorem dL_law_18 : decode cL_law 18 = .ok (.iload_n 3, 1) := by decide +kernel
theorem dL_law_19 : decode cL_law 19 = .ok (.aload_n 0, 1) := by decide +kernel
theorem dL_law_20 : decode cL_law 20 = .ok (.arraylength, 1) := by decide +kernel
theorem dL_law_21 : decode cL_law 21 = .ok (.bipush 6, 2) := by decide +kernel
theorem dL_law_23 : decode cL_law 23 = .ok (.isub, 1) := by decide +kernel
theorem dL_law_24 : decode cL_law 24 = .ok (.if_icmp .gt 977, 3) := by decide +kernel
theorem dL_law_27 : decode cL_law 27 = .ok (.aload_n 0, 1) := by decide +kernel
theorem dL_law_28 : decode cL_law 28 = .ok (.iload_n 3, 1) := by decide +kernel
theorem dL_law_29 : decode cL_law 29 = .ok (.iaload, 1) := by decide +kernel
theorem dL_law_30 : decode cL_law 30 = .ok (.bipush 31, 2) := by decide +kernel
theorem dL_law_32 : decode cL_law 32 = .ok (.iand, 1) := by decide +kernel
theorem dL_law_33 : decode cL_law 33 = .ok (.tableswitch 962 0 28 #[131, 154, 197, 221, 254, 287, 330, 373, 407, 470, 493, 536, 579, 612, 635, 658, 691, 724, 757, 790, 813, 836, 859, 873, 887, 900, 913, 926, 939], 131) := by decide +kernel
theorem dL_law_164 : decode cL_law 164 = .ok (.aload_n 1, 1) := by decide +kernel
theorem dL_law_165 : decode cL_law 165 = .ok (.aload_n 0, 1) := by decide +kernel
theorem dL_law_166 : decode cL_law 166 = .ok (.iload_n 3, 1) := by decide +kernel
theorem dL_law_167 : decode cL_law 167 = .ok (.iconst 1, 1) := by decide +kernel
theorem dL_law_168 : decode cL_law 168 = .ok (.iadd, 1) := by decide +kernel
theorem dL_law_169 : decode cL_law 169 = .ok (.iaload, 1) := by decide +kernel
theorem dL_law_170 : decode cL_law 170 = .ok (.invokevirtual 13, 3) := by decide +kernel
theorem dL_law_173 : decode cL_law 173 = .ok (.aload_n 2, 1) := by decide +kernel
theorem dL_law_174 : decode cL_law 174 = .ok (.aload_n 0, 1) := by decide +kernel
theorem dL_law_175 : decode cL_law 175 = .ok (.iload_n 3, 1) := by decide +kernel
theorem dL_law_176 : decode cL_law 176 = .ok (.iconst 1, 1) := by decide +kernel
theorem dL_law_177 : decode cL_law 177 = .ok (.iadd, 1) := by decide +kernel
theorem dL_law_178 : decode cL_law 178 = .ok (.iaload, 1) := by decide +kernel
theorem dL_law_179 : decode cL_law 179 = .ok (.invokevirtual 17, 3) := by decide +kernel
theorem dL_law_182 : decode cL_law 182 = .ok (.if_icmp .eq 813, 3) := by decide +kernel
theorem dL_law_185 : decode cL_law 185 = .ok (.iconst 0, 1) := by decide +kernel
theorem dL_law_186 : decode cL_law 186 = .ok (.ireturn, 1) := by decide +kernel
theorem dL_law_187 : decode cL_law 187 = .ok (.aload_n 1, 1) := by decide +kernel
theorem dL_law_188 : decode cL_law 188 = .ok (.aload_n 0, 1) := by decide +kernel
theorem dL_law_189 : decode cL_law 189 = .ok (.iload_n 3, 1) := by decide +kernel
theorem dL_law_190 : decode cL_law 190 = .ok (.iconst 1, 1) := by decide +kernel
theorem dL_law_191 : decode cL_law 191 = .ok (.iadd, 1) := by decide +kernel
theorem dL_law_192 : decode cL_law 192 = .ok (.iaload, 1) := by decide +kernel
theorem dL_law_193 : decode cL_law 193 = .ok (.aload_n 0, 1) := by decide +kernel
theorem dL_law_194 : decode cL_law 194 = .ok (.iload_n 3, 1) := by decide +kernel
theorem dL_law_195 : decode cL_law 195 = .ok (.iconst 2, 1) := by decide +kernel
theorem dL_law_196 : decode cL_law 196 = .ok (.iadd, 1) := by decide +kernel
theorem dL_law_197 : decode cL_law 197 = .ok (.iaload, 1) := by decide +kernel
theorem dL_law_198 : decode cL_law 198 = .ok (.aload_n 0, 1) := by decide +kernel
theorem dL_law_199 : decode cL_law 199 = .ok (.iload_n 3, 1) := by decide +kernel
theorem dL_law_200 : decode cL_law 200 = .ok (.iconst 3, 1) := by decide +kernel
theorem dL_law_201 : decode cL_law 201 = .ok (.iadd, 1) := by decide +kernel
theorem dL_law_202 : decode cL_law 202 = .ok (.iaload, 1) := by decide +kernel
theorem dL_law_203 : decode cL_law 203 = .ok (.invokevirtual 18, 3) := by decide +kernel
theorem dL_law_206 : decode cL_law 206 = .ok (.aload_n 2, 1) := by decide +kernel
theorem dL_law_207 : decode cL_law 207 = .ok (.aload_n 0, 1) := by decide +kernel
theorem dL_law_208 : decode cL_law 208 = .ok (.iload_n 3, 1) := by decide +kernel
theorem dL_law_209 : decode cL_law 209 = .ok (.iconst 1, 1) := by decide +kernel
theorem dL_law_210 : decode cL_law 210 = .ok (.iadd, 1) := by decide +kernel
theorem dL_law_211 : decode cL_law 211 = .ok (.iaload, 1) := by decide +kernel
theorem dL_law_212 : decode cL_law 212 = .ok (.aload_n 0, 1) := by decide +kernel
theorem dL_law_213 : decode cL_law 213 = .ok (.iload_n 3, 1) := by decide +kernel
theorem dL_law_214 : decode cL_law 214 = .ok (.iconst 2, 1) := by decide +kernel
theorem dL_law_215 : decode cL_law 215 = .ok (.iadd, 1) := by decide +kernel
theorem dL_law_216 : decode cL_law 216 = .ok (.iaload, 1) := by decide +kernel
theorem dL_law_217 : decode cL_law 217 = .ok (.aload_n 0, 1) := by decide +kernel
theorem dL_law_218 : decode cL_law 218 = .ok (.iload_n 3, 1) := by decide +kernel
theorem dL_law_219 : decode cL_law 219 = .ok (.iconst 3, 1) := by decide +kernel
theorem dL_law_220 : decode cL_law 220 = .ok (.iadd, 1) := by decide +kernel
theorem dL_law_221 : decode cL_law 221 = .ok (.iaload, 1) := by decide +kernel
theorem dL_law_222 : decode cL_law 222 = .ok (.invokevirtual 22, 3) := by decide +kernel
theorem dL_law_225 : decode cL_law 225 = .ok (.if_icmp .eq 770, 3) := by decide +kernel
theorem dL_law_228 : decode cL_law 228 = .ok (.iconst 0, 1) := by decide +kernel
theorem dL_law_229 : decode cL_law 229 = .ok (.ireturn, 1) := by decide +kernel
theorem dL_law_230 : decode cL_law 230 = .ok (.aload_n 1, 1) := by decide +kernel
theorem dL_law_231 : decode cL_law 231 = .ok (.aload_n 0, 1) := by decide +kernel
theorem dL_law_232 : decode cL_law 232 = .ok (.iload_n 3, 1) := by decide +kernel
theorem dL_law_233 : decode cL_law 233 = .ok (.iconst 1, 1) := by decide +kernel
theorem dL_law_234 : decode cL_law 234 = .ok (.iadd, 1) := by decide +kernel
theorem dL_law_235 : decode cL_law 235 = .ok (.iaload, 1) := by decide +kernel
theorem dL_law_236 : decode cL_law 236 = .ok (.invokevirtual 23, 3) := by decide +kernel
theorem dL_law_239 : decode cL_law 239 = .ok (.aload_n 2, 1) := by decide +kernel
theorem dL_law_240 : decode cL_law 240 = .ok (.aload_n 0, 1) := by decide +kernel
theorem dL_law_241 : decode cL_law 241 = .ok (.iload_n 3, 1) := by decide +kernel
theorem dL_law_242 : decode cL_law 242 = .ok (.iconst 1, 1) := by decide +kernel
theorem dL_law_243 : decode cL_law 243 = .ok (.iadd, 1) := by decide +kernel
theorem dL_law_244 : decode cL_law 244 = .ok (.iaload, 1) := by decide +kernel
theorem dL_law_245 : decode cL_law 245 = .ok (.invokevirtual 27, 3) := by decide +kernel
theorem dL_law_248 : decode cL_law 248 = .ok (.lcmp, 1) := by decide +kernel
theorem dL_law_249 : decode cL_law 249 = .ok (.ifCond .eq 746, 3) := by decide +kernel
theorem dL_law_252 : decode cL_law 252 = .ok (.iconst 0, 1) := by decide +kernel
theorem dL_law_253 : decode cL_law 253 = .ok (.ireturn, 1) := by decide +kernel
theorem dL_law_254 : decode cL_law 254 = .ok (.aload_n 1, 1) := by decide +kernel
theorem dL_law_255 : decode cL_law 255 = .ok (.aload_n 0, 1) := by decide +kernel
theorem dL_law_256 : decode cL_law 256 = .ok (.iload_n 3, 1) := by decide +kernel
theorem dL_law_257 : decode cL_law 257 = .ok (.iconst 1, 1) := by decide +kernel
theorem dL_law_258 : decode cL_law 258 = .ok (.iadd, 1) := by decide +kernel
theorem dL_law_259 : decode cL_law 259 = .ok (.iaload, 1) := by decide +kernel
theorem dL_law_260 : decode cL_law 260 = .ok (.aload_n 0, 1) := by decide +kernel
theorem dL_law_261 : decode cL_law 261 = .ok (.iload_n 3, 1) := by decide +kernel
theorem dL_law_262 : decode cL_law 262 = .ok (.iconst 2, 1) := by decide +kernel
theorem dL_law_263 : decode cL_law 263 = .ok (.iadd, 1) := by decide +kernel
theorem dL_law_264 : decode cL_law 264 = .ok (.iaload, 1) := by decide +kernel
theorem dL_law_265 : decode cL_law 265 = .ok (.invokevirtual 28, 3) := by decide +kernel
theorem dL_law_268 : decode cL_law 268 = .ok (.aload_n 2, 1) := by decide +kernel
theorem dL_law_269 : decode cL_law 269 = .ok (.aload_n 0, 1) := by decide +kernel
theorem dL_law_270 : decode cL_law 270 = .ok (.iload_n 3, 1) := by decide +kernel
theorem dL_law_271 : decode cL_law 271 = .ok (.iconst 1, 1) := by decide +kernel
theorem dL_law_272 : decode cL_law 272 = .ok (.iadd, 1) := by decide +kernel
theorem dL_law_273 : decode cL_law 273 = .ok (.iaload, 1) := by decide +kernel
theorem dL_law_274 : decode cL_law 274 = .ok (.aload_n 0, 1) := by decide +kernel
theorem dL_law_275 : decode cL_law 275 = .ok (.iload_n 3, 1) := by decide +kernel
theorem dL_law_276 : decode cL_law 276 = .ok (.iconst 2, 1) := by decide +kernel
theorem dL_law_277 : decode cL_law 277 = .ok (.iadd, 1) := by decide +kernel
theorem dL_law_278 : decode cL_law 278 = .ok (.iaload, 1) := by decide +kernel
theorem dL_law_279 : decode cL_law 279 = .ok (.invokevirtual 32, 3) := by decide +kernel
theorem dL_law_282 : decode cL_law 282 = .ok (.if_icmp .eq 713, 3) := by decide +kernel
theorem dL_law_285 : decode cL_law 285 = .ok (.iconst 0, 1) := by decide +kernel
theorem dL_law_286 : decode cL_law 286 = .ok (.ireturn, 1) := by decide +kernel
theorem dL_law_287 : decode cL_law 287 = .ok (.aload_n 1, 1) := by decide +kernel
theorem dL_law_288 : decode cL_law 288 = .ok (.aload_n 0, 1) := by decide +kernel
theorem dL_law_289 : decode cL_law 289 = .ok (.iload_n 3, 1) := by decide +kernel
theorem dL_law_290 : decode cL_law 290 = .ok (.iconst 1, 1) := by decide +kernel
theorem dL_law_291 : decode cL_law 291 = .ok (.iadd, 1) := by decide +kernel
theorem dL_law_292 : decode cL_law 292 = .ok (.iaload, 1) := by decide +kernel
theorem dL_law_293 : decode cL_law 293 = .ok (.aload_n 0, 1) := by decide +kernel
theorem dL_law_294 : decode cL_law 294 = .ok (.iload_n 3, 1) := by decide +kernel
theorem dL_law_295 : decode cL_law 295 = .ok (.iconst 2, 1) := by decide +kernel
theorem dL_law_296 : decode cL_law 296 = .ok (.iadd, 1) := by decide +kernel
theorem dL_law_297 : decode cL_law 297 = .ok (.iaload, 1) := by decide +kernel
theorem dL_law_298 : decode cL_law 298 = .ok (.invokevirtual 33, 3) := by decide +kernel
theorem dL_law_301 : decode cL_law 301 = .ok (.aload_n 2, 1) := by decide +kernel
theorem dL_law_302 : decode cL_law 302 = .ok (.aload_n 0, 1) := by decide +kernel
theorem dL_law_303 : decode cL_law 303 = .ok (.iload_n 3, 1) := by decide +kernel
theorem dL_law_304 : decode cL_law 304 = .ok (.iconst 1, 1) := by decide +kernel
theorem dL_law_305 : decode cL_law 305 = .ok (.iadd, 1) := by decide +kernel
theorem dL_law_306 : decode cL_law 306 = .ok (.iaload, 1) := by decide +kernel
theorem dL_law_307 : decode cL_law 307 = .ok (.aload_n 0, 1) := by decide +kernel
theorem dL_law_308 : decode cL_law 308 = .ok (.iload_n 3, 1) := by decide +kernel
theorem dL_law_309 : decode cL_law 309 = .ok (.iconst 2, 1) := by decide +kernel
theorem dL_law_310 : decode cL_law 310 = .ok (.iadd, 1) := by decide +kernel
theorem dL_law_311 : decode cL_law 311 = .ok (.iaload, 1) := by decide +kernel
theorem dL_law_312 : decode cL_law 312 = .ok (.invokevirtual 36, 3) := by decide +kernel
theorem dL_law_315 : decode cL_law 315 = .ok (.if_icmp .eq 680, 3) := by decide +kernel
theorem dL_law_318 : decode cL_law 318 = .ok (.iconst 0, 1) := by decide +kernel
theorem dL_law_319 : decode cL_law 319 = .ok (.ireturn, 1) := by decide +kernel
theorem dL_law_320 : decode cL_law 320 = .ok (.aload_n 1, 1) := by decide +kernel
theorem dL_law_321 : decode cL_law 321 = .ok (.aload_n 0, 1) := by decide +kernel
theorem dL_law_322 : decode cL_law 322 = .ok (.iload_n 3, 1) := by decide +kernel
theorem dL_law_323 : decode cL_law 323 = .ok (.iconst 1, 1) := by decide +kernel
theorem dL_law_324 : decode cL_law 324 = .ok (.iadd, 1) := by decide +kernel
theorem dL_law_325 : decode cL_law 325 = .ok (.iaload, 1) := by decide +kernel
theorem dL_law_326 : decode cL_law 326 = .ok (.aload_n 0, 1) := by decide +kernel
theorem dL_law_327 : decode cL_law 327 = .ok (.iload_n 3, 1) := by decide +kernel
theorem dL_law_328 : decode cL_law 328 = .ok (.iconst 2, 1) := by decide +kernel
theorem dL_law_329 : decode cL_law 329 = .ok (.iadd, 1) := by decide +kernel
theorem dL_law_330 : decode cL_law 330 = .ok (.iaload, 1) := by decide +kernel
theorem dL_law_331 : decode cL_law 331 = .ok (.aload_n 0, 1) := by decide +kernel
theorem dL_law_332 : decode cL_law 332 = .ok (.iload_n 3, 1) := by decide +kernel
theorem dL_law_333 : decode cL_law 333 = .ok (.iconst 3, 1) := by decide +kernel
theorem dL_law_334 : decode cL_law 334 = .ok (.iadd, 1) := by decide +kernel
theorem dL_law_335 : decode cL_law 335 = .ok (.iaload, 1) := by decide +kernel
theorem dL_law_336 : decode cL_law 336 = .ok (.invokevirtual 37, 3) := by decide +kernel
theorem dL_law_339 : decode cL_law 339 = .ok (.aload_n 2, 1) := by decide +kernel
theorem dL_law_340 : decode cL_law 340 = .ok (.aload_n 0, 1) := by decide +kernel
theorem dL_law_341 : decode cL_law 341 = .ok (.iload_n 3, 1) := by decide +kernel
theorem dL_law_342 : decode cL_law 342 = .ok (.iconst 1, 1) := by decide +kernel
theorem dL_law_343 : decode cL_law 343 = .ok (.iadd, 1) := by decide +kernel
theorem dL_law_344 : decode cL_law 344 = .ok (.iaload, 1) := by decide +kernel
theorem dL_law_345 : decode cL_law 345 = .ok (.aload_n 0, 1) := by decide +kernel
theorem dL_law_346 : decode cL_law 346 = .ok (.iload_n 3, 1) := by decide +kernel
theorem dL_law_347 : decode cL_law 347 = .ok (.iconst 2, 1) := by decide +kernel
theorem dL_law_348 : decode cL_law 348 = .ok (.iadd, 1) := by decide +kernel
theorem dL_law_349 : decode cL_law 349 = .ok (.iaload, 1) := by decide +kernel
theorem dL_law_350 : decode cL_law 350 = .ok (.aload_n 0, 1) := by decide +kernel
theorem dL_law_351 : decode cL_law 351 = .ok (.iload_n 3, 1) := by decide +kernel
theorem dL_law_352 : decode cL_law 352 = .ok (.iconst 3, 1) := by decide +kernel
theorem dL_law_353 : decode cL_law 353 = .ok (.iadd, 1) := by decide +kernel
theorem dL_law_354 : decode cL_law 354 = .ok (.iaload, 1) := by decide +kernel
theorem dL_law_355 : decode cL_law 355 = .ok (.invokevirtual 40, 3) := by decide +kernel
theorem dL_law_358 : decode cL_law 358 = .ok (.if_icmp .eq 637, 3) := by decide +kernel
theorem dL_law_361 : decode cL_law 361 = .ok (.iconst 0, 1) := by decide +kernel
theorem dL_law_362 : decode cL_law 362 = .ok (.ireturn, 1) := by decide +kernel
theorem dL_law_363 : decode cL_law 363 = .ok (.aload_n 1, 1) := by decide +kernel
theorem dL_law_364 : decode cL_law 364 = .ok (.aload_n 0, 1) := by decide +kernel
theorem dL_law_365 : decode cL_law 365 = .ok (.iload_n 3, 1) := by decide +kernel
theorem dL_law_366 : decode cL_law 366 = .ok (.iconst 1, 1) := by decide +kernel
theorem dL_law_367 : decode cL_law 367 = .ok (.iadd, 1) := by decide +kernel
theorem dL_law_368 : decode cL_law 368 = .ok (.iaload, 1) := by decide +kernel
theorem dL_law_369 : decode cL_law 369 = .ok (.aload_n 0, 1) := by decide +kernel
theorem dL_law_370 : decode cL_law 370 = .ok (.iload_n 3, 1) := by decide +kernel
theorem dL_law_371 : decode cL_law 371 = .ok (.iconst 2, 1) := by decide +kernel
theorem dL_law_372 : decode cL_law 372 = .ok (.iadd, 1) := by decide +kernel
theorem dL_law_373 : decode cL_law 373 = .ok (.iaload, 1) := by decide +kernel
theorem dL_law_374 : decode cL_law 374 = .ok (.aload_n 0, 1) := by decide +kernel
theorem dL_law_375 : decode cL_law 375 = .ok (.iload_n 3, 1) := by decide +kernel
theorem dL_law_376 : decode cL_law 376 = .ok (.iconst 3, 1) := by decide +kernel
theorem dL_law_377 : decode cL_law 377 = .ok (.iadd, 1) := by decide +kernel
theorem dL_law_378 : decode cL_law 378 = .ok (.iaload, 1) := by decide +kernel
theorem dL_law_379 : decode cL_law 379 = .ok (.invokevirtual 41, 3) := by decide +kernel
theorem dL_law_382 : decode cL_law 382 = .ok (.aload_n 2, 1) := by decide +kernel
theorem dL_law_383 : decode cL_law 383 = .ok (.aload_n 0, 1) := by decide +kernel
theorem dL_law_384 : decode cL_law 384 = .ok (.iload_n 3, 1) := by decide +kernel
theorem dL_law_385 : decode cL_law 385 = .ok (.iconst 1, 1) := by decide +kernel
theorem dL_law_386 : decode cL_law 386 = .ok (.iadd, 1) := by decide +kernel
theorem dL_law_387 : decode cL_law 387 = .ok (.iaload, 1) := by decide +kernel
theorem dL_law_388 : decode cL_law 388 = .ok (.aload_n 0, 1) := by decide +kernel
theorem dL_law_389 : decode cL_law 389 = .ok (.iload_n 3, 1) := by decide +kernel
theorem dL_law_390 : decode cL_law 390 = .ok (.iconst 2, 1) := by decide +kernel
theorem dL_law_391 : decode cL_law 391 = .ok (.iadd, 1) := by decide +kernel
theorem dL_law_392 : decode cL_law 392 = .ok (.iaload, 1) := by decide +kernel
theorem dL_law_393 : decode cL_law 393 = .ok (.aload_n 0, 1) := by decide +kernel
theorem dL_law_394 : decode cL_law 394 = .ok (.iload_n 3, 1) := by decide +kernel
theorem dL_law_395 : decode cL_law 395 = .ok (.iconst 3, 1) := by decide +kernel
theorem dL_law_396 : decode cL_law 396 = .ok (.iadd, 1) := by decide +kernel
theorem dL_law_397 : decode cL_law 397 = .ok (.iaload, 1) := by decide +kernel
theorem dL_law_398 : decode cL_law 398 = .ok (.invokevirtual 44, 3) := by decide +kernel
theorem dL_law_401 : decode cL_law 401 = .ok (.if_icmp .eq 594, 3) := by decide +kernel
theorem dL_law_404 : decode cL_law 404 = .ok (.iconst 0, 1) := by decide +kernel
theorem dL_law_405 : decode cL_law 405 = .ok (.ireturn, 1) := by decide +kernel
theorem dL_law_406 : decode cL_law 406 = .ok (.aload_n 1, 1) := by decide +kernel
theorem dL_law_407 : decode cL_law 407 = .ok (.aload_n 0, 1) := by decide +kernel
theorem dL_law_408 : decode cL_law 408 = .ok (.iload_n 3, 1) := by decide +kernel
theorem dL_law_409 : decode cL_law 409 = .ok (.iconst 1, 1) := by decide +kernel
theorem dL_law_410 : decode cL_law 410 = .ok (.iadd, 1) := by decide +kernel
theorem dL_law_411 : decode cL_law 411 = .ok (.iaload, 1) := by decide +kernel
theorem dL_law_412 : decode cL_law 412 = .ok (.aload_n 0, 1) := by decide +kernel
theorem dL_law_413 : decode cL_law 413 = .ok (.iload_n 3, 1) := by decide +kernel
theorem dL_law_414 : decode cL_law 414 = .ok (.iconst 2, 1) := by decide +kernel
theorem dL_law_415 : decode cL_law 415 = .ok (.iadd, 1) := by decide +kernel
theorem dL_law_416 : decode cL_law 416 = .ok (.iaload, 1) := by decide +kernel
theorem dL_law_417 : decode cL_law 417 = .ok (.invokevirtual 45, 3) := by decide +kernel
theorem dL_law_420 : decode cL_law 420 = .ok (.aload_n 2, 1) := by decide +kernel
theorem dL_law_421 : decode cL_law 421 = .ok (.aload_n 0, 1) := by decide +kernel
theorem dL_law_422 : decode cL_law 422 = .ok (.iload_n 3, 1) := by decide +kernel
theorem dL_law_423 : decode cL_law 423 = .ok (.iconst 1, 1) := by decide +kernel
theorem dL_law_424 : decode cL_law 424 = .ok (.iadd, 1) := by decide +kernel
theorem dL_law_425 : decode cL_law 425 = .ok (.iaload, 1) := by decide +kernel
theorem dL_law_426 : decode cL_law 426 = .ok (.aload_n 0, 1) := by decide +kernel
theorem dL_law_427 : decode cL_law 427 = .ok (.iload_n 3, 1) := by decide +kernel
theorem dL_law_428 : decode cL_law 428 = .ok (.iconst 2, 1) := by decide +kernel
theorem dL_law_429 : decode cL_law 429 = .ok (.iadd, 1) := by decide +kernel
theorem dL_law_430 : decode cL_law 430 = .ok (.iaload, 1) := by decide +kernel
theorem dL_law_431 : decode cL_law 431 = .ok (.invokevirtual 49, 3) := by decide +kernel
theorem dL_law_434 : decode cL_law 434 = .ok (.lcmp, 1) := by decide +kernel
theorem dL_law_435 : decode cL_law 435 = .ok (.ifCond .eq 560, 3) := by decide +kernel
theorem dL_law_438 : decode cL_law 438 = .ok (.iconst 0, 1) := by decide +kernel
theorem dL_law_439 : decode cL_law 439 = .ok (.ireturn, 1) := by decide +kernel
theorem dL_law_440 : decode cL_law 440 = .ok (.aload_n 1, 1) := by decide +kernel
theorem dL_law_441 : decode cL_law 441 = .ok (.aload_n 0, 1) := by decide +kernel
theorem dL_law_442 : decode cL_law 442 = .ok (.iload_n 3, 1) := by decide +kernel
theorem dL_law_443 : decode cL_law 443 = .ok (.iconst 1, 1) := by decide +kernel
theorem dL_law_444 : decode cL_law 444 = .ok (.iadd, 1) := by decide +kernel
theorem dL_law_445 : decode cL_law 445 = .ok (.iaload, 1) := by decide +kernel
theorem dL_law_446 : decode cL_law 446 = .ok (.aload_n 0, 1) := by decide +kernel
theorem dL_law_447 : decode cL_law 447 = .ok (.iload_n 3, 1) := by decide +kernel
theorem dL_law_448 : decode cL_law 448 = .ok (.iconst 2, 1) := by decide +kernel
theorem dL_law_449 : decode cL_law 449 = .ok (.iadd, 1) := by decide +kernel
theorem dL_law_450 : decode cL_law 450 = .ok (.iaload, 1) := by decide +kernel
theorem dL_law_451 : decode cL_law 451 = .ok (.aload_n 0, 1) := by decide +kernel
theorem dL_law_452 : decode cL_law 452 = .ok (.iload_n 3, 1) := by decide +kernel
theorem dL_law_453 : decode cL_law 453 = .ok (.iconst 3, 1) := by decide +kernel
theorem dL_law_454 : decode cL_law 454 = .ok (.iadd, 1) := by decide +kernel
theorem dL_law_455 : decode cL_law 455 = .ok (.iaload, 1) := by decide +kernel
theorem dL_law_456 : decode cL_law 456 = .ok (.aload_n 0, 1) := by decide +kernel
theorem dL_law_457 : decode cL_law 457 = .ok (.iload_n 3, 1) := by decide +kernel
theorem dL_law_458 : decode cL_law 458 = .ok (.iconst 4, 1) := by decide +kernel
theorem dL_law_459 : decode cL_law 459 = .ok (.iadd, 1) := by decide +kernel
theorem dL_law_460 : decode cL_law 460 = .ok (.iaload, 1) := by decide +kernel
theorem dL_law_461 : decode cL_law 461 = .ok (.aload_n 0, 1) := by decide +kernel
theorem dL_law_462 : decode cL_law 462 = .ok (.iload_n 3, 1) := by decide +kernel
theorem dL_law_463 : decode cL_law 463 = .ok (.iconst 5, 1) := by decide +kernel
theorem dL_law_464 : decode cL_law 464 = .ok (.iadd, 1) := by decide +kernel
theorem dL_law_465 : decode cL_law 465 = .ok (.iaload, 1) := by decide +kernel
theorem dL_law_466 : decode cL_law 466 = .ok (.invokevirtual 50, 3) := by decide +kernel
theorem dL_law_469 : decode cL_law 469 = .ok (.aload_n 2, 1) := by decide +kernel
theorem dL_law_470 : decode cL_law 470 = .ok (.aload_n 0, 1) := by decide +kernel
theorem dL_law_471 : decode cL_law 471 = .ok (.iload_n 3, 1) := by decide +kernel
theorem dL_law_472 : decode cL_law 472 = .ok (.iconst 1, 1) := by decide +kernel
theorem dL_law_473 : decode cL_law 473 = .ok (.iadd, 1) := by decide +kernel
theorem dL_law_474 : decode cL_law 474 = .ok (.iaload, 1) := by decide +kernel
theorem dL_law_475 : decode cL_law 475 = .ok (.aload_n 0, 1) := by decide +kernel
theorem dL_law_476 : decode cL_law 476 = .ok (.iload_n 3, 1) := by decide +kernel
theorem dL_law_477 : decode cL_law 477 = .ok (.iconst 2, 1) := by decide +kernel
theorem dL_law_478 : decode cL_law 478 = .ok (.iadd, 1) := by decide +kernel
theorem dL_law_479 : decode cL_law 479 = .ok (.iaload, 1) := by decide +kernel
theorem dL_law_480 : decode cL_law 480 = .ok (.aload_n 0, 1) := by decide +kernel
theorem dL_law_481 : decode cL_law 481 = .ok (.iload_n 3, 1) := by decide +kernel
theorem dL_law_482 : decode cL_law 482 = .ok (.iconst 3, 1) := by decide +kernel
theorem dL_law_483 : decode cL_law 483 = .ok (.iadd, 1) := by decide +kernel
theorem dL_law_484 : decode cL_law 484 = .ok (.iaload, 1) := by decide +kernel
theorem dL_law_485 : decode cL_law 485 = .ok (.aload_n 0, 1) := by decide +kernel
theorem dL_law_486 : decode cL_law 486 = .ok (.iload_n 3, 1) := by decide +kernel
theorem dL_law_487 : decode cL_law 487 = .ok (.iconst 4, 1) := by decide +kernel
theorem dL_law_488 : decode cL_law 488 = .ok (.iadd, 1) := by decide +kernel
theorem dL_law_489 : decode cL_law 489 = .ok (.iaload, 1) := by decide +kernel
theorem dL_law_490 : decode cL_law 490 = .ok (.aload_n 0, 1) := by decide +kernel
theorem dL_law_491 : decode cL_law 491 = .ok (.iload_n 3, 1) := by decide +kernel
theorem dL_law_492 : decode cL_law 492 = .ok (.iconst 5, 1) := by decide +kernel
theorem dL_law_493 : decode cL_law 493 = .ok (.iadd, 1) := by decide +kernel
theorem dL_law_494 : decode cL_law 494 = .ok (.iaload, 1) := by decide +kernel
theorem dL_law_495 : decode cL_law 495 = .ok (.invokevirtual 54, 3) := by decide +kernel
theorem dL_law_498 : decode cL_law 498 = .ok (.if_icmp .eq 497, 3) := by decide +kernel
theorem dL_law_501 : decode cL_law 501 = .ok (.iconst 0, 1) := by decide +kernel
theorem dL_law_502 : decode cL_law 502 = .ok (.ireturn, 1) := by decide +kernel
theorem dL_law_503 : decode cL_law 503 = .ok (.aload_n 1, 1) := by decide +kernel
theorem dL_law_504 : decode cL_law 504 = .ok (.aload_n 0, 1) := by decide +kernel
theorem dL_law_505 : decode cL_law 505 = .ok (.iload_n 3, 1) := by decide +kernel
theorem dL_law_506 : decode cL_law 506 = .ok (.iconst 1, 1) := by decide +kernel
theorem dL_law_507 : decode cL_law 507 = .ok (.iadd, 1) := by decide +kernel
theorem dL_law_508 : decode cL_law 508 = .ok (.iaload, 1) := by decide +kernel
theorem dL_law_509 : decode cL_law 509 = .ok (.invokevirtual 55, 3) := by decide +kernel
theorem dL_law_512 : decode cL_law 512 = .ok (.aload_n 2, 1) := by decide +kernel
theorem dL_law_513 : decode cL_law 513 = .ok (.aload_n 0, 1) := by decide +kernel
theorem dL_law_514 : decode cL_law 514 = .ok (.iload_n 3, 1) := by decide +kernel
theorem dL_law_515 : decode cL_law 515 = .ok (.iconst 1, 1) := by decide +kernel
theorem dL_law_516 : decode cL_law 516 = .ok (.iadd, 1) := by decide +kernel
theorem dL_law_517 : decode cL_law 517 = .ok (.iaload, 1) := by decide +kernel
theorem dL_law_518 : decode cL_law 518 = .ok (.invokevirtual 58, 3) := by decide +kernel
theorem dL_law_521 : decode cL_law 521 = .ok (.if_icmp .eq 474, 3) := by decide +kernel
theorem dL_law_524 : decode cL_law 524 = .ok (.iconst 0, 1) := by decide +kernel
theorem dL_law_525 : decode cL_law 525 = .ok (.ireturn, 1) := by decide +kernel
theorem dL_law_526 : decode cL_law 526 = .ok (.aload_n 1, 1) := by decide +kernel
theorem dL_law_527 : decode cL_law 527 = .ok (.aload_n 0, 1) := by decide +kernel
theorem dL_law_528 : decode cL_law 528 = .ok (.iload_n 3, 1) := by decide +kernel
theorem dL_law_529 : decode cL_law 529 = .ok (.iconst 1, 1) := by decide +kernel
theorem dL_law_530 : decode cL_law 530 = .ok (.iadd, 1) := by decide +kernel
theorem dL_law_531 : decode cL_law 531 = .ok (.iaload, 1) := by decide +kernel
theorem dL_law_532 : decode cL_law 532 = .ok (.aload_n 0, 1) := by decide +kernel
theorem dL_law_533 : decode cL_law 533 = .ok (.iload_n 3, 1) := by decide +kernel
theorem dL_law_534 : decode cL_law 534 = .ok (.iconst 2, 1) := by decide +kernel
theorem dL_law_535 : decode cL_law 535 = .ok (.iadd, 1) := by decide +kernel
theorem dL_law_536 : decode cL_law 536 = .ok (.iaload, 1) := by decide +kernel
theorem dL_law_537 : decode cL_law 537 = .ok (.aload_n 0, 1) := by decide +kernel
theorem dL_law_538 : decode cL_law 538 = .ok (.iload_n 3, 1) := by decide +kernel
theorem dL_law_539 : decode cL_law 539 = .ok (.iconst 3, 1) := by decide +kernel
theorem dL_law_540 : decode cL_law 540 = .ok (.iadd, 1) := by decide +kernel
theorem dL_law_541 : decode cL_law 541 = .ok (.iaload, 1) := by decide +kernel
theorem dL_law_542 : decode cL_law 542 = .ok (.invokevirtual 59, 3) := by decide +kernel
theorem dL_law_545 : decode cL_law 545 = .ok (.aload_n 2, 1) := by decide +kernel
theorem dL_law_546 : decode cL_law 546 = .ok (.aload_n 0, 1) := by decide +kernel
theorem dL_law_547 : decode cL_law 547 = .ok (.iload_n 3, 1) := by decide +kernel
theorem dL_law_548 : decode cL_law 548 = .ok (.iconst 1, 1) := by decide +kernel
theorem dL_law_549 : decode cL_law 549 = .ok (.iadd, 1) := by decide +kernel
theorem dL_law_550 : decode cL_law 550 = .ok (.iaload, 1) := by decide +kernel
theorem dL_law_551 : decode cL_law 551 = .ok (.aload_n 0, 1) := by decide +kernel
theorem dL_law_552 : decode cL_law 552 = .ok (.iload_n 3, 1) := by decide +kernel
theorem dL_law_553 : decode cL_law 553 = .ok (.iconst 2, 1) := by decide +kernel
theorem dL_law_554 : decode cL_law 554 = .ok (.iadd, 1) := by decide +kernel
theorem dL_law_555 : decode cL_law 555 = .ok (.iaload, 1) := by decide +kernel
theorem dL_law_556 : decode cL_law 556 = .ok (.aload_n 0, 1) := by decide +kernel
theorem dL_law_557 : decode cL_law 557 = .ok (.iload_n 3, 1) := by decide +kernel
theorem dL_law_558 : decode cL_law 558 = .ok (.iconst 3, 1) := by decide +kernel
theorem dL_law_559 : decode cL_law 559 = .ok (.iadd, 1) := by decide +kernel
theorem dL_law_560 : decode cL_law 560 = .ok (.iaload, 1) := by decide +kernel
theorem dL_law_561 : decode cL_law 561 = .ok (.invokevirtual 62, 3) := by decide +kernel
theorem dL_law_564 : decode cL_law 564 = .ok (.if_icmp .eq 431, 3) := by decide +kernel
theorem dL_law_567 : decode cL_law 567 = .ok (.iconst 0, 1) := by decide +kernel
theorem dL_law_568 : decode cL_law 568 = .ok (.ireturn, 1) := by decide +kernel
theorem dL_law_569 : decode cL_law 569 = .ok (.aload_n 1, 1) := by decide +kernel
theorem dL_law_570 : decode cL_law 570 = .ok (.aload_n 0, 1) := by decide +kernel
theorem dL_law_571 : decode cL_law 571 = .ok (.iload_n 3, 1) := by decide +kernel
theorem dL_law_572 : decode cL_law 572 = .ok (.iconst 1, 1) := by decide +kernel
theorem dL_law_573 : decode cL_law 573 = .ok (.iadd, 1) := by decide +kernel
theorem dL_law_574 : decode cL_law 574 = .ok (.iaload, 1) := by decide +kernel
theorem dL_law_575 : decode cL_law 575 = .ok (.aload_n 0, 1) := by decide +kernel
theorem dL_law_576 : decode cL_law 576 = .ok (.iload_n 3, 1) := by decide +kernel
theorem dL_law_577 : decode cL_law 577 = .ok (.iconst 2, 1) := by decide +kernel
theorem dL_law_578 : decode cL_law 578 = .ok (.iadd, 1) := by decide +kernel
theorem dL_law_579 : decode cL_law 579 = .ok (.iaload, 1) := by decide +kernel
theorem dL_law_580 : decode cL_law 580 = .ok (.aload_n 0, 1) := by decide +kernel
theorem dL_law_581 : decode cL_law 581 = .ok (.iload_n 3, 1) := by decide +kernel
theorem dL_law_582 : decode cL_law 582 = .ok (.iconst 3, 1) := by decide +kernel
theorem dL_law_583 : decode cL_law 583 = .ok (.iadd, 1) := by decide +kernel
theorem dL_law_584 : decode cL_law 584 = .ok (.iaload, 1) := by decide +kernel
theorem dL_law_585 : decode cL_law 585 = .ok (.invokevirtual 63, 3) := by decide +kernel
theorem dL_law_588 : decode cL_law 588 = .ok (.aload_n 2, 1) := by decide +kernel
theorem dL_law_589 : decode cL_law 589 = .ok (.aload_n 0, 1) := by decide +kernel
theorem dL_law_590 : decode cL_law 590 = .ok (.iload_n 3, 1) := by decide +kernel
theorem dL_law_591 : decode cL_law 591 = .ok (.iconst 1, 1) := by decide +kernel
theorem dL_law_592 : decode cL_law 592 = .ok (.iadd, 1) := by decide +kernel
theorem dL_law_593 : decode cL_law 593 = .ok (.iaload, 1) := by decide +kernel
theorem dL_law_594 : decode cL_law 594 = .ok (.aload_n 0, 1) := by decide +kernel
theorem dL_law_595 : decode cL_law 595 = .ok (.iload_n 3, 1) := by decide +kernel
theorem dL_law_596 : decode cL_law 596 = .ok (.iconst 2, 1) := by decide +kernel
theorem dL_law_597 : decode cL_law 597 = .ok (.iadd, 1) := by decide +kernel
theorem dL_law_598 : decode cL_law 598 = .ok (.iaload, 1) := by decide +kernel
theorem dL_law_599 : decode cL_law 599 = .ok (.aload_n 0, 1) := by decide +kernel
theorem dL_law_600 : decode cL_law 600 = .ok (.iload_n 3, 1) := by decide +kernel
theorem dL_law_601 : decode cL_law 601 = .ok (.iconst 3, 1) := by decide +kernel
theorem dL_law_602 : decode cL_law 602 = .ok (.iadd, 1) := by decide +kernel
theorem dL_law_603 : decode cL_law 603 = .ok (.iaload, 1) := by decide +kernel
theorem dL_law_604 : decode cL_law 604 = .ok (.invokevirtual 66, 3) := by decide +kernel
theorem dL_law_607 : decode cL_law 607 = .ok (.if_icmp .eq 388, 3) := by decide +kernel
theorem dL_law_610 : decode cL_law 610 = .ok (.iconst 0, 1) := by decide +kernel
theorem dL_law_611 : decode cL_law 611 = .ok (.ireturn, 1) := by decide +kernel
theorem dL_law_612 : decode cL_law 612 = .ok (.aload_n 1, 1) := by decide +kernel
theorem dL_law_613 : decode cL_law 613 = .ok (.aload_n 0, 1) := by decide +kernel
theorem dL_law_614 : decode cL_law 614 = .ok (.iload_n 3, 1) := by decide +kernel
theorem dL_law_615 : decode cL_law 615 = .ok (.iconst 1, 1) := by decide +kernel
theorem dL_law_616 : decode cL_law 616 = .ok (.iadd, 1) := by decide +kernel
theorem dL_law_617 : decode cL_law 617 = .ok (.iaload, 1) := by decide +kernel
theorem dL_law_618 : decode cL_law 618 = .ok (.aload_n 0, 1) := by decide +kernel
theorem dL_law_619 : decode cL_law 619 = .ok (.iload_n 3, 1) := by decide +kernel
theorem dL_law_620 : decode cL_law 620 = .ok (.iconst 2, 1) := by decide +kernel
theorem dL_law_621 : decode cL_law 621 = .ok (.iadd, 1) := by decide +kernel
theorem dL_law_622 : decode cL_law 622 = .ok (.iaload, 1) := by decide +kernel
theorem dL_law_623 : decode cL_law 623 = .ok (.invokevirtual 67, 3) := by decide +kernel
theorem dL_law_626 : decode cL_law 626 = .ok (.aload_n 2, 1) := by decide +kernel
theorem dL_law_627 : decode cL_law 627 = .ok (.aload_n 0, 1) := by decide +kernel
theorem dL_law_628 : decode cL_law 628 = .ok (.iload_n 3, 1) := by decide +kernel
theorem dL_law_629 : decode cL_law 629 = .ok (.iconst 1, 1) := by decide +kernel
theorem dL_law_630 : decode cL_law 630 = .ok (.iadd, 1) := by decide +kernel
theorem dL_law_631 : decode cL_law 631 = .ok (.iaload, 1) := by decide +kernel
theorem dL_law_632 : decode cL_law 632 = .ok (.aload_n 0, 1) := by decide +kernel
theorem dL_law_633 : decode cL_law 633 = .ok (.iload_n 3, 1) := by decide +kernel
theorem dL_law_634 : decode cL_law 634 = .ok (.iconst 2, 1) := by decide +kernel
theorem dL_law_635 : decode cL_law 635 = .ok (.iadd, 1) := by decide +kernel
theorem dL_law_636 : decode cL_law 636 = .ok (.iaload, 1) := by decide +kernel
theorem dL_law_637 : decode cL_law 637 = .ok (.invokevirtual 70, 3) := by decide +kernel
theorem dL_law_640 : decode cL_law 640 = .ok (.if_icmp .eq 355, 3) := by decide +kernel
theorem dL_law_643 : decode cL_law 643 = .ok (.iconst 0, 1) := by decide +kernel
theorem dL_law_644 : decode cL_law 644 = .ok (.ireturn, 1) := by decide +kernel
theorem dL_law_645 : decode cL_law 645 = .ok (.aload_n 1, 1) := by decide +kernel
theorem dL_law_646 : decode cL_law 646 = .ok (.aload_n 0, 1) := by decide +kernel
theorem dL_law_647 : decode cL_law 647 = .ok (.iload_n 3, 1) := by decide +kernel
theorem dL_law_648 : decode cL_law 648 = .ok (.iconst 1, 1) := by decide +kernel
theorem dL_law_649 : decode cL_law 649 = .ok (.iadd, 1) := by decide +kernel
theorem dL_law_650 : decode cL_law 650 = .ok (.iaload, 1) := by decide +kernel
theorem dL_law_651 : decode cL_law 651 = .ok (.invokevirtual 71, 3) := by decide +kernel
theorem dL_law_654 : decode cL_law 654 = .ok (.aload_n 2, 1) := by decide +kernel
theorem dL_law_655 : decode cL_law 655 = .ok (.aload_n 0, 1) := by decide +kernel
theorem dL_law_656 : decode cL_law 656 = .ok (.iload_n 3, 1) := by decide +kernel
theorem dL_law_657 : decode cL_law 657 = .ok (.iconst 1, 1) := by decide +kernel
theorem dL_law_658 : decode cL_law 658 = .ok (.iadd, 1) := by decide +kernel
theorem dL_law_659 : decode cL_law 659 = .ok (.iaload, 1) := by decide +kernel
theorem dL_law_660 : decode cL_law 660 = .ok (.invokevirtual 74, 3) := by decide +kernel
theorem dL_law_663 : decode cL_law 663 = .ok (.if_icmp .eq 332, 3) := by decide +kernel
theorem dL_law_666 : decode cL_law 666 = .ok (.iconst 0, 1) := by decide +kernel
theorem dL_law_667 : decode cL_law 667 = .ok (.ireturn, 1) := by decide +kernel
theorem dL_law_668 : decode cL_law 668 = .ok (.aload_n 1, 1) := by decide +kernel
theorem dL_law_669 : decode cL_law 669 = .ok (.aload_n 0, 1) := by decide +kernel
theorem dL_law_670 : decode cL_law 670 = .ok (.iload_n 3, 1) := by decide +kernel
theorem dL_law_671 : decode cL_law 671 = .ok (.iconst 1, 1) := by decide +kernel
theorem dL_law_672 : decode cL_law 672 = .ok (.iadd, 1) := by decide +kernel
theorem dL_law_673 : decode cL_law 673 = .ok (.iaload, 1) := by decide +kernel
theorem dL_law_674 : decode cL_law 674 = .ok (.invokevirtual 75, 3) := by decide +kernel
theorem dL_law_677 : decode cL_law 677 = .ok (.aload_n 2, 1) := by decide +kernel
theorem dL_law_678 : decode cL_law 678 = .ok (.aload_n 0, 1) := by decide +kernel
theorem dL_law_679 : decode cL_law 679 = .ok (.iload_n 3, 1) := by decide +kernel
theorem dL_law_680 : decode cL_law 680 = .ok (.iconst 1, 1) := by decide +kernel
theorem dL_law_681 : decode cL_law 681 = .ok (.iadd, 1) := by decide +kernel
theorem dL_law_682 : decode cL_law 682 = .ok (.iaload, 1) := by decide +kernel
theorem dL_law_683 : decode cL_law 683 = .ok (.invokevirtual 78, 3) := by decide +kernel
theorem dL_law_686 : decode cL_law 686 = .ok (.if_icmp .eq 309, 3) := by decide +kernel
theorem dL_law_689 : decode cL_law 689 = .ok (.iconst 0, 1) := by decide +kernel
theorem dL_law_690 : decode cL_law 690 = .ok (.ireturn, 1) := by decide +kernel
theorem dL_law_691 : decode cL_law 691 = .ok (.aload_n 1, 1) := by decide +kernel
theorem dL_law_692 : decode cL_law 692 = .ok (.aload_n 0, 1) := by decide +kernel
theorem dL_law_693 : decode cL_law 693 = .ok (.iload_n 3, 1) := by decide +kernel
theorem dL_law_694 : decode cL_law 694 = .ok (.iconst 1, 1) := by decide +kernel
theorem dL_law_695 : decode cL_law 695 = .ok (.iadd, 1) := by decide +kernel
theorem dL_law_696 : decode cL_law 696 = .ok (.iaload, 1) := by decide +kernel
theorem dL_law_697 : decode cL_law 697 = .ok (.aload_n 0, 1) := by decide +kernel
theorem dL_law_698 : decode cL_law 698 = .ok (.iload_n 3, 1) := by decide +kernel
theorem dL_law_699 : decode cL_law 699 = .ok (.iconst 2, 1) := by decide +kernel
theorem dL_law_700 : decode cL_law 700 = .ok (.iadd, 1) := by decide +kernel
theorem dL_law_701 : decode cL_law 701 = .ok (.iaload, 1) := by decide +kernel
theorem dL_law_702 : decode cL_law 702 = .ok (.invokevirtual 79, 3) := by decide +kernel
theorem dL_law_705 : decode cL_law 705 = .ok (.aload_n 2, 1) := by decide +kernel
theorem dL_law_706 : decode cL_law 706 = .ok (.aload_n 0, 1) := by decide +kernel
theorem dL_law_707 : decode cL_law 707 = .ok (.iload_n 3, 1) := by decide +kernel
theorem dL_law_708 : decode cL_law 708 = .ok (.iconst 1, 1) := by decide +kernel
theorem dL_law_709 : decode cL_law 709 = .ok (.iadd, 1) := by decide +kernel
theorem dL_law_710 : decode cL_law 710 = .ok (.iaload, 1) := by decide +kernel
theorem dL_law_711 : decode cL_law 711 = .ok (.aload_n 0, 1) := by decide +kernel
theorem dL_law_712 : decode cL_law 712 = .ok (.iload_n 3, 1) := by decide +kernel
theorem dL_law_713 : decode cL_law 713 = .ok (.iconst 2, 1) := by decide +kernel
theorem dL_law_714 : decode cL_law 714 = .ok (.iadd, 1) := by decide +kernel
theorem dL_law_715 : decode cL_law 715 = .ok (.iaload, 1) := by decide +kernel
theorem dL_law_716 : decode cL_law 716 = .ok (.invokevirtual 82, 3) := by decide +kernel
theorem dL_law_719 : decode cL_law 719 = .ok (.if_icmp .eq 276, 3) := by decide +kernel
theorem dL_law_722 : decode cL_law 722 = .ok (.iconst 0, 1) := by decide +kernel
theorem dL_law_723 : decode cL_law 723 = .ok (.ireturn, 1) := by decide +kernel
theorem dL_law_724 : decode cL_law 724 = .ok (.aload_n 1, 1) := by decide +kernel
theorem dL_law_725 : decode cL_law 725 = .ok (.aload_n 0, 1) := by decide +kernel
theorem dL_law_726 : decode cL_law 726 = .ok (.iload_n 3, 1) := by decide +kernel
theorem dL_law_727 : decode cL_law 727 = .ok (.iconst 1, 1) := by decide +kernel
theorem dL_law_728 : decode cL_law 728 = .ok (.iadd, 1) := by decide +kernel
theorem dL_law_729 : decode cL_law 729 = .ok (.iaload, 1) := by decide +kernel
theorem dL_law_730 : decode cL_law 730 = .ok (.aload_n 0, 1) := by decide +kernel
theorem dL_law_731 : decode cL_law 731 = .ok (.iload_n 3, 1) := by decide +kernel
theorem dL_law_732 : decode cL_law 732 = .ok (.iconst 2, 1) := by decide +kernel
theorem dL_law_733 : decode cL_law 733 = .ok (.iadd, 1) := by decide +kernel
theorem dL_law_734 : decode cL_law 734 = .ok (.iaload, 1) := by decide +kernel
theorem dL_law_735 : decode cL_law 735 = .ok (.invokevirtual 83, 3) := by decide +kernel
theorem dL_law_738 : decode cL_law 738 = .ok (.aload_n 2, 1) := by decide +kernel
theorem dL_law_739 : decode cL_law 739 = .ok (.aload_n 0, 1) := by decide +kernel
theorem dL_law_740 : decode cL_law 740 = .ok (.iload_n 3, 1) := by decide +kernel
theorem dL_law_741 : decode cL_law 741 = .ok (.iconst 1, 1) := by decide +kernel
theorem dL_law_742 : decode cL_law 742 = .ok (.iadd, 1) := by decide +kernel
theorem dL_law_743 : decode cL_law 743 = .ok (.iaload, 1) := by decide +kernel
theorem dL_law_744 : decode cL_law 744 = .ok (.aload_n 0, 1) := by decide +kernel
theorem dL_law_745 : decode cL_law 745 = .ok (.iload_n 3, 1) := by decide +kernel
theorem dL_law_746 : decode cL_law 746 = .ok (.iconst 2, 1) := by decide +kernel
theorem dL_law_747 : decode cL_law 747 = .ok (.iadd, 1) := by decide +kernel
theorem dL_law_748 : decode cL_law 748 = .ok (.iaload, 1) := by decide +kernel
theorem dL_law_749 : decode cL_law 749 = .ok (.invokevirtual 86, 3) := by decide +kernel
theorem dL_law_752 : decode cL_law 752 = .ok (.if_icmp .eq 243, 3) := by decide +kernel
theorem dL_law_755 : decode cL_law 755 = .ok (.iconst 0, 1) := by decide +kernel
theorem dL_law_756 : decode cL_law 756 = .ok (.ireturn, 1) := by decide +kernel
theorem dL_law_757 : decode cL_law 757 = .ok (.aload_n 1, 1) := by decide +kernel
theorem dL_law_758 : decode cL_law 758 = .ok (.aload_n 0, 1) := by decide +kernel
theorem dL_law_759 : decode cL_law 759 = .ok (.iload_n 3, 1) := by decide +kernel
theorem dL_law_760 : decode cL_law 760 = .ok (.iconst 1, 1) := by decide +kernel
theorem dL_law_761 : decode cL_law 761 = .ok (.iadd, 1) := by decide +kernel
theorem dL_law_762 : decode cL_law 762 = .ok (.iaload, 1) := by decide +kernel
theorem dL_law_763 : decode cL_law 763 = .ok (.aload_n 0, 1) := by decide +kernel
theorem dL_law_764 : decode cL_law 764 = .ok (.iload_n 3, 1) := by decide +kernel
theorem dL_law_765 : decode cL_law 765 = .ok (.iconst 2, 1) := by decide +kernel
theorem dL_law_766 : decode cL_law 766 = .ok (.iadd, 1) := by decide +kernel
theorem dL_law_767 : decode cL_law 767 = .ok (.iaload, 1) := by decide +kernel
theorem dL_law_768 : decode cL_law 768 = .ok (.invokevirtual 87, 3) := by decide +kernel
theorem dL_law_771 : decode cL_law 771 = .ok (.aload_n 2, 1) := by decide +kernel
theorem dL_law_772 : decode cL_law 772 = .ok (.aload_n 0, 1) := by decide +kernel
theorem dL_law_773 : decode cL_law 773 = .ok (.iload_n 3, 1) := by decide +kernel
theorem dL_law_774 : decode cL_law 774 = .ok (.iconst 1, 1) := by decide +kernel
theorem dL_law_775 : decode cL_law 775 = .ok (.iadd, 1) := by decide +kernel
theorem dL_law_776 : decode cL_law 776 = .ok (.iaload, 1) := by decide +kernel
theorem dL_law_777 : decode cL_law 777 = .ok (.aload_n 0, 1) := by decide +kernel
theorem dL_law_778 : decode cL_law 778 = .ok (.iload_n 3, 1) := by decide +kernel
theorem dL_law_779 : decode cL_law 779 = .ok (.iconst 2, 1) := by decide +kernel
theorem dL_law_780 : decode cL_law 780 = .ok (.iadd, 1) := by decide +kernel
theorem dL_law_781 : decode cL_law 781 = .ok (.iaload, 1) := by decide +kernel
theorem dL_law_782 : decode cL_law 782 = .ok (.invokevirtual 90, 3) := by decide +kernel
theorem dL_law_785 : decode cL_law 785 = .ok (.if_icmp .eq 210, 3) := by decide +kernel
theorem dL_law_788 : decode cL_law 788 = .ok (.iconst 0, 1) := by decide +kernel
theorem dL_law_789 : decode cL_law 789 = .ok (.ireturn, 1) := by decide +kernel
theorem dL_law_790 : decode cL_law 790 = .ok (.aload_n 1, 1) := by decide +kernel
theorem dL_law_791 : decode cL_law 791 = .ok (.aload_n 0, 1) := by decide +kernel
theorem dL_law_792 : decode cL_law 792 = .ok (.iload_n 3, 1) := by decide +kernel
theorem dL_law_793 : decode cL_law 793 = .ok (.iconst 1, 1) := by decide +kernel
theorem dL_law_794 : decode cL_law 794 = .ok (.iadd, 1) := by decide +kernel
theorem dL_law_795 : decode cL_law 795 = .ok (.iaload, 1) := by decide +kernel
theorem dL_law_796 : decode cL_law 796 = .ok (.aload_n 0, 1) := by decide +kernel
theorem dL_law_797 : decode cL_law 797 = .ok (.iload_n 3, 1) := by decide +kernel
theorem dL_law_798 : decode cL_law 798 = .ok (.iconst 2, 1) := by decide +kernel
theorem dL_law_799 : decode cL_law 799 = .ok (.iadd, 1) := by decide +kernel
theorem dL_law_800 : decode cL_law 800 = .ok (.iaload, 1) := by decide +kernel
theorem dL_law_801 : decode cL_law 801 = .ok (.invokevirtual 91, 3) := by decide +kernel
theorem dL_law_804 : decode cL_law 804 = .ok (.aload_n 2, 1) := by decide +kernel
theorem dL_law_805 : decode cL_law 805 = .ok (.aload_n 0, 1) := by decide +kernel
theorem dL_law_806 : decode cL_law 806 = .ok (.iload_n 3, 1) := by decide +kernel
theorem dL_law_807 : decode cL_law 807 = .ok (.iconst 1, 1) := by decide +kernel
theorem dL_law_808 : decode cL_law 808 = .ok (.iadd, 1) := by decide +kernel
theorem dL_law_809 : decode cL_law 809 = .ok (.iaload, 1) := by decide +kernel
theorem dL_law_810 : decode cL_law 810 = .ok (.aload_n 0, 1) := by decide +kernel
theorem dL_law_811 : decode cL_law 811 = .ok (.iload_n 3, 1) := by decide +kernel
theorem dL_law_812 : decode cL_law 812 = .ok (.iconst 2, 1) := by decide +kernel
theorem dL_law_813 : decode cL_law 813 = .ok (.iadd, 1) := by decide +kernel
theorem dL_law_814 : decode cL_law 814 = .ok (.iaload, 1) := by decide +kernel
theorem dL_law_815 : decode cL_law 815 = .ok (.invokevirtual 94, 3) := by decide +kernel
theorem dL_law_818 : decode cL_law 818 = .ok (.if_icmp .eq 177, 3) := by decide +kernel
theorem dL_law_821 : decode cL_law 821 = .ok (.iconst 0, 1) := by decide +kernel
theorem dL_law_822 : decode cL_law 822 = .ok (.ireturn, 1) := by decide +kernel
theorem dL_law_823 : decode cL_law 823 = .ok (.aload_n 1, 1) := by decide +kernel
theorem dL_law_824 : decode cL_law 824 = .ok (.aload_n 0, 1) := by decide +kernel
theorem dL_law_825 : decode cL_law 825 = .ok (.iload_n 3, 1) := by decide +kernel
theorem dL_law_826 : decode cL_law 826 = .ok (.iconst 1, 1) := by decide +kernel
theorem dL_law_827 : decode cL_law 827 = .ok (.iadd, 1) := by decide +kernel
theorem dL_law_828 : decode cL_law 828 = .ok (.iaload, 1) := by decide +kernel
theorem dL_law_829 : decode cL_law 829 = .ok (.invokevirtual 95, 3) := by decide +kernel
theorem dL_law_832 : decode cL_law 832 = .ok (.aload_n 2, 1) := by decide +kernel
theorem dL_law_833 : decode cL_law 833 = .ok (.aload_n 0, 1) := by decide +kernel
theorem dL_law_834 : decode cL_law 834 = .ok (.iload_n 3, 1) := by decide +kernel
theorem dL_law_835 : decode cL_law 835 = .ok (.iconst 1, 1) := by decide +kernel
theorem dL_law_836 : decode cL_law 836 = .ok (.iadd, 1) := by decide +kernel
theorem dL_law_837 : decode cL_law 837 = .ok (.iaload, 1) := by decide +kernel
theorem dL_law_838 : decode cL_law 838 = .ok (.invokevirtual 98, 3) := by decide +kernel
theorem dL_law_841 : decode cL_law 841 = .ok (.if_icmp .eq 154, 3) := by decide +kernel
theorem dL_law_844 : decode cL_law 844 = .ok (.iconst 0, 1) := by decide +kernel
theorem dL_law_845 : decode cL_law 845 = .ok (.ireturn, 1) := by decide +kernel
theorem dL_law_846 : decode cL_law 846 = .ok (.aload_n 1, 1) := by decide +kernel
theorem dL_law_847 : decode cL_law 847 = .ok (.aload_n 0, 1) := by decide +kernel
theorem dL_law_848 : decode cL_law 848 = .ok (.iload_n 3, 1) := by decide +kernel
theorem dL_law_849 : decode cL_law 849 = .ok (.iconst 1, 1) := by decide +kernel
theorem dL_law_850 : decode cL_law 850 = .ok (.iadd, 1) := by decide +kernel
theorem dL_law_851 : decode cL_law 851 = .ok (.iaload, 1) := by decide +kernel
theorem dL_law_852 : decode cL_law 852 = .ok (.invokevirtual 99, 3) := by decide +kernel
theorem dL_law_855 : decode cL_law 855 = .ok (.aload_n 2, 1) := by decide +kernel
theorem dL_law_856 : decode cL_law 856 = .ok (.aload_n 0, 1) := by decide +kernel
theorem dL_law_857 : decode cL_law 857 = .ok (.iload_n 3, 1) := by decide +kernel
theorem dL_law_858 : decode cL_law 858 = .ok (.iconst 1, 1) := by decide +kernel
theorem dL_law_859 : decode cL_law 859 = .ok (.iadd, 1) := by decide +kernel
theorem dL_law_860 : decode cL_law 860 = .ok (.iaload, 1) := by decide +kernel
theorem dL_law_861 : decode cL_law 861 = .ok (.invokevirtual 102, 3) := by decide +kernel
theorem dL_law_864 : decode cL_law 864 = .ok (.if_icmp .eq 131, 3) := by decide +kernel
theorem dL_law_867 : decode cL_law 867 = .ok (.iconst 0, 1) := by decide +kernel
theorem dL_law_868 : decode cL_law 868 = .ok (.ireturn, 1) := by decide +kernel
theorem dL_law_869 : decode cL_law 869 = .ok (.aload_n 1, 1) := by decide +kernel
theorem dL_law_870 : decode cL_law 870 = .ok (.aload_n 0, 1) := by decide +kernel
theorem dL_law_871 : decode cL_law 871 = .ok (.iload_n 3, 1) := by decide +kernel
theorem dL_law_872 : decode cL_law 872 = .ok (.iconst 1, 1) := by decide +kernel
theorem dL_law_873 : decode cL_law 873 = .ok (.iadd, 1) := by decide +kernel
theorem dL_law_874 : decode cL_law 874 = .ok (.iaload, 1) := by decide +kernel
theorem dL_law_875 : decode cL_law 875 = .ok (.invokevirtual 103, 3) := by decide +kernel
theorem dL_law_878 : decode cL_law 878 = .ok (.aload_n 2, 1) := by decide +kernel
theorem dL_law_879 : decode cL_law 879 = .ok (.aload_n 0, 1) := by decide +kernel
theorem dL_law_880 : decode cL_law 880 = .ok (.iload_n 3, 1) := by decide +kernel
theorem dL_law_881 : decode cL_law 881 = .ok (.iconst 1, 1) := by decide +kernel
theorem dL_law_882 : decode cL_law 882 = .ok (.iadd, 1) := by decide +kernel
theorem dL_law_883 : decode cL_law 883 = .ok (.iaload, 1) := by decide +kernel
theorem dL_law_884 : decode cL_law 884 = .ok (.invokevirtual 106, 3) := by decide +kernel
theorem dL_law_887 : decode cL_law 887 = .ok (.if_icmp .eq 108, 3) := by decide +kernel
theorem dL_law_890 : decode cL_law 890 = .ok (.iconst 0, 1) := by decide +kernel
theorem dL_law_891 : decode cL_law 891 = .ok (.ireturn, 1) := by decide +kernel
theorem dL_law_892 : decode cL_law 892 = .ok (.aload_n 1, 1) := by decide +kernel
theorem dL_law_893 : decode cL_law 893 = .ok (.invokevirtual 107, 3) := by decide +kernel
theorem dL_law_896 : decode cL_law 896 = .ok (.aload_n 2, 1) := by decide +kernel
theorem dL_law_897 : decode cL_law 897 = .ok (.invokevirtual 111, 3) := by decide +kernel
theorem dL_law_900 : decode cL_law 900 = .ok (.lcmp, 1) := by decide +kernel
theorem dL_law_901 : decode cL_law 901 = .ok (.ifCond .eq 94, 3) := by decide +kernel
theorem dL_law_904 : decode cL_law 904 = .ok (.iconst 0, 1) := by decide +kernel
theorem dL_law_905 : decode cL_law 905 = .ok (.ireturn, 1) := by decide +kernel
theorem dL_law_906 : decode cL_law 906 = .ok (.aload_n 1, 1) := by decide +kernel
theorem dL_law_907 : decode cL_law 907 = .ok (.invokevirtual 112, 3) := by decide +kernel
theorem dL_law_910 : decode cL_law 910 = .ok (.aload_n 2, 1) := by decide +kernel
theorem dL_law_911 : decode cL_law 911 = .ok (.invokevirtual 115, 3) := by decide +kernel
theorem dL_law_914 : decode cL_law 914 = .ok (.lcmp, 1) := by decide +kernel
theorem dL_law_915 : decode cL_law 915 = .ok (.ifCond .eq 80, 3) := by decide +kernel
theorem dL_law_918 : decode cL_law 918 = .ok (.iconst 0, 1) := by decide +kernel
theorem dL_law_919 : decode cL_law 919 = .ok (.ireturn, 1) := by decide +kernel
theorem dL_law_920 : decode cL_law 920 = .ok (.aload_n 1, 1) := by decide +kernel
theorem dL_law_921 : decode cL_law 921 = .ok (.invokevirtual 116, 3) := by decide +kernel
theorem dL_law_924 : decode cL_law 924 = .ok (.aload_n 2, 1) := by decide +kernel
theorem dL_law_925 : decode cL_law 925 = .ok (.invokevirtual 120, 3) := by decide +kernel
theorem dL_law_928 : decode cL_law 928 = .ok (.if_icmp .eq 67, 3) := by decide +kernel
theorem dL_law_931 : decode cL_law 931 = .ok (.iconst 0, 1) := by decide +kernel
theorem dL_law_932 : decode cL_law 932 = .ok (.ireturn, 1) := by decide +kernel
theorem dL_law_933 : decode cL_law 933 = .ok (.aload_n 1, 1) := by decide +kernel
theorem dL_law_934 : decode cL_law 934 = .ok (.invokevirtual 121, 3) := by decide +kernel
theorem dL_law_937 : decode cL_law 937 = .ok (.aload_n 2, 1) := by decide +kernel
theorem dL_law_938 : decode cL_law 938 = .ok (.invokevirtual 124, 3) := by decide +kernel
theorem dL_law_941 : decode cL_law 941 = .ok (.if_icmp .eq 54, 3) := by decide +kernel
theorem dL_law_944 : decode cL_law 944 = .ok (.iconst 0, 1) := by decide +kernel
theorem dL_law_945 : decode cL_law 945 = .ok (.ireturn, 1) := by decide +kernel
theorem dL_law_946 : decode cL_law 946 = .ok (.aload_n 1, 1) := by decide +kernel
theorem dL_law_947 : decode cL_law 947 = .ok (.invokevirtual 125, 3) := by decide +kernel
theorem dL_law_950 : decode cL_law 950 = .ok (.aload_n 2, 1) := by decide +kernel
theorem dL_law_951 : decode cL_law 951 = .ok (.invokevirtual 128, 3) := by decide +kernel
theorem dL_law_954 : decode cL_law 954 = .ok (.if_icmp .eq 41, 3) := by decide +kernel
theorem dL_law_957 : decode cL_law 957 = .ok (.iconst 0, 1) := by decide +kernel
theorem dL_law_958 : decode cL_law 958 = .ok (.ireturn, 1) := by decide +kernel
theorem dL_law_959 : decode cL_law 959 = .ok (.aload_n 1, 1) := by decide +kernel
theorem dL_law_960 : decode cL_law 960 = .ok (.invokevirtual 129, 3) := by decide +kernel
theorem dL_law_963 : decode cL_law 963 = .ok (.aload_n 2, 1) := by decide +kernel
theorem dL_law_964 : decode cL_law 964 = .ok (.invokevirtual 132, 3) := by decide +kernel
theorem dL_law_967 : decode cL_law 967 = .ok (.if_icmp .eq 28, 3) := by decide +kernel
theorem dL_law_970 : decode cL_law 970 = .ok (.iconst 0, 1) := by decide +kernel
theorem dL_law_971 : decode cL_law 971 = .ok (.ireturn, 1) := by decide +kernel
theorem dL_law_972 : decode cL_law 972 = .ok (.aload_n 1, 1) := by decide +kernel
theorem dL_law_973 : decode cL_law 973 = .ok (.aload_n 0, 1) := by decide +kernel
theorem dL_law_974 : decode cL_law 974 = .ok (.iload_n 3, 1) := by decide +kernel
theorem dL_law_975 : decode cL_law 975 = .ok (.iconst 1, 1) := by decide +kernel
theorem dL_law_976 : decode cL_law 976 = .ok (.iadd, 1) := by decide +kernel
theorem dL_law_977 : decode cL_law 977 = .ok (.iaload, 1) := by decide +kernel
theorem dL_law_978 : decode cL_law 978 = .ok (.invokevirtual 133, 3) := by decide +kernel
theorem dL_law_981 : decode cL_law 981 = .ok (.aload_n 2, 1) := by decide +kernel
theorem dL_law_982 : decode cL_law 982 = .ok (.aload_n 0, 1) := by decide +kernel
theorem dL_law_983 : decode cL_law 983 = .ok (.iload_n 3, 1) := by decide +kernel
theorem dL_law_984 : decode cL_law 984 = .ok (.iconst 1, 1) := by decide +kernel
theorem dL_law_985 : decode cL_law 985 = .ok (.iadd, 1) := by decide +kernel
theorem dL_law_986 : decode cL_law 986 = .ok (.iaload, 1) := by decide +kernel
theorem dL_law_987 : decode cL_law 987 = .ok (.invokevirtual 136, 3) := by decide +kernel
theorem dL_law_990 : decode cL_law 990 = .ok (.if_icmp .eq 5, 3) := by decide +kernel
theorem dL_law_993 : decode cL_law 993 = .ok (.iconst 0, 1) := by decide +kernel
theorem dL_law_994 : decode cL_law 994 = .ok (.ireturn, 1) := by decide +kernel
theorem dL_law_995 : decode cL_law 995 = .ok (.iinc 3 6, 3) := by decide +kernel
theorem dL_law_998 : decode cL_law 998 = .ok (.goto (-980), 3) := by decide +kernel
theorem dL_law_1001 : decode cL_law 1001 = .ok (.iconst 1, 1) := by decide +kernel
theorem dL_law_1002 : decode cL_law 1002 = .ok (.ireturn, 1) := by decide +kernel
