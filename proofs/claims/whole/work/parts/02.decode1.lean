theorem dX0_init_0 : decode cX0_init 0 = .ok (.aload_n 0, 1) := by decide +kernel
theorem dX0_init_1 : decode cX0_init 1 = .ok (.invokespecial 3, 3) := by decide +kernel
theorem dX0_init_4 : decode cX0_init 4 = .ok (.aload_n 0, 1) := by decide +kernel
theorem dX0_init_5 : decode cX0_init 5 = .ok (.bipush 24, 2) := by decide +kernel
theorem dX0_init_7 : decode cX0_init 7 = .ok (.bipush 32, 2) := by decide +kernel
theorem dX0_init_9 : decode cX0_init 9 = .ok (.multianewarray 9 2, 4) := by decide +kernel
theorem dX0_init_13 : decode cX0_init 13 = .ok (.putfield 11, 3) := by decide +kernel
theorem dX0_init_16 : decode cX0_init 16 = .ok (.aload_n 0, 1) := by decide +kernel
theorem dX0_init_17 : decode cX0_init 17 = .ok (.bipush 24, 2) := by decide +kernel
theorem dX0_init_19 : decode cX0_init 19 = .ok (.newarray .int, 2) := by decide +kernel
theorem dX0_init_21 : decode cX0_init 21 = .ok (.putfield 16, 3) := by decide +kernel
theorem dX0_init_24 : decode cX0_init 24 = .ok (.aload_n 0, 1) := by decide +kernel
theorem dX0_init_25 : decode cX0_init 25 = .ok (.iconst 0, 1) := by decide +kernel
theorem dX0_init_26 : decode cX0_init 26 = .ok (.putfield 20, 3) := by decide +kernel
theorem dX0_init_29 : decode cX0_init 29 = .ok (.aload_n 0, 1) := by decide +kernel
theorem dX0_init_30 : decode cX0_init 30 = .ok (.iconst 0, 1) := by decide +kernel
theorem dX0_init_31 : decode cX0_init 31 = .ok (.putfield 24, 3) := by decide +kernel
theorem dX0_init_34 : decode cX0_init 34 = .ok (.aload_n 0, 1) := by decide +kernel
theorem dX0_init_35 : decode cX0_init 35 = .ok (.iconst 0, 1) := by decide +kernel
theorem dX0_init_36 : decode cX0_init 36 = .ok (.putfield 27, 3) := by decide +kernel
theorem dX0_init_39 : decode cX0_init 39 = .ok (.aload_n 0, 1) := by decide +kernel
theorem dX0_init_40 : decode cX0_init 40 = .ok (.iconst 0, 1) := by decide +kernel
theorem dX0_init_41 : decode cX0_init 41 = .ok (.putfield 30, 3) := by decide +kernel
theorem dX0_init_44 : decode cX0_init 44 = .ok (.aload_n 0, 1) := by decide +kernel
theorem dX0_init_45 : decode cX0_init 45 = .ok (.iconst 0, 1) := by decide +kernel
theorem dX0_init_46 : decode cX0_init 46 = .ok (.putfield 33, 3) := by decide +kernel
theorem dX0_init_49 : decode cX0_init 49 = .ok (.return_, 1) := by decide +kernel
theorem dX0_find_0 : decode cX0_find 0 = .ok (.aload_n 0, 1) := by decide +kernel
theorem dX0_find_1 : decode cX0_find 1 = .ok (.aload_n 1, 1) := by decide +kernel
theorem dX0_find_2 : decode cX0_find 2 = .ok (.invokevirtual 36, 3) := by decide +kernel
theorem dX0_find_5 : decode cX0_find 5 = .ok (.bipush 24, 2) := by decide +kernel
theorem dX0_find_7 : decode cX0_find 7 = .ok (.invokestatic 41, 3) := by decide +kernel
theorem dX0_find_10 : decode cX0_find 10 = .ok (.putfield 20, 3) := by decide +kernel
theorem dX0_find_13 : decode cX0_find 13 = .ok (.aload_n 0, 1) := by decide +kernel
theorem dX0_find_14 : decode cX0_find 14 = .ok (.iconst 0, 1) := by decide +kernel
theorem dX0_find_15 : decode cX0_find 15 = .ok (.putfield 27, 3) := by decide +kernel
theorem dX0_find_18 : decode cX0_find 18 = .ok (.aload_n 0, 1) := by decide +kernel
theorem dX0_find_19 : decode cX0_find 19 = .ok (.getfield 20, 3) := by decide +kernel
theorem dX0_find_22 : decode cX0_find 22 = .ok (.iconst 1, 1) := by decide +kernel
theorem dX0_find_23 : decode cX0_find 23 = .ok (.isub, 1) := by decide +kernel
theorem dX0_find_24 : decode cX0_find 24 = .ok (.istore_n 2, 1) := by decide +kernel
theorem dX0_find_25 : decode cX0_find 25 = .ok (.iload_n 2, 1) := by decide +kernel
theorem dX0_find_26 : decode cX0_find 26 = .ok (.ifCond .lt 19, 3) := by decide +kernel
theorem dX0_find_29 : decode cX0_find 29 = .ok (.aload_n 0, 1) := by decide +kernel
theorem dX0_find_30 : decode cX0_find 30 = .ok (.iload_n 2, 1) := by decide +kernel
theorem dX0_find_31 : decode cX0_find 31 = .ok (.aload_n 1, 1) := by decide +kernel
theorem dX0_find_32 : decode cX0_find 32 = .ok (.iload_n 2, 1) := by decide +kernel
theorem dX0_find_33 : decode cX0_find 33 = .ok (.invokevirtual 47, 3) := by decide +kernel
theorem dX0_find_36 : decode cX0_find 36 = .ok (.invokevirtual 51, 3) := by decide +kernel
theorem dX0_find_39 : decode cX0_find 39 = .ok (.iinc 2 (-1), 3) := by decide +kernel
theorem dX0_find_42 : decode cX0_find 42 = .ok (.goto (-17), 3) := by decide +kernel
theorem dX0_find_45 : decode cX0_find 45 = .ok (.aload_n 0, 1) := by decide +kernel
theorem dX0_find_46 : decode cX0_find 46 = .ok (.invokevirtual 55, 3) := by decide +kernel
theorem dX0_find_49 : decode cX0_find 49 = .ok (.return_, 1) := by decide +kernel
theorem dX0_first_0 : decode cX0_first 0 = .ok (.aload_n 0, 1) := by decide +kernel
theorem dX0_first_1 : decode cX0_first 1 = .ok (.getfield 24, 3) := by decide +kernel
theorem dX0_first_4 : decode cX0_first 4 = .ok (.ireturn, 1) := by decide +kernel
theorem dX0_length_0 : decode cX0_length 0 = .ok (.aload_n 0, 1) := by decide +kernel
theorem dX0_length_1 : decode cX0_length 1 = .ok (.getfield 27, 3) := by decide +kernel
theorem dX0_length_4 : decode cX0_length 4 = .ok (.ireturn, 1) := by decide +kernel
theorem dX0_height_0 : decode cX0_height 0 = .ok (.aload_n 0, 1) := by decide +kernel
theorem dX0_height_1 : decode cX0_height 1 = .ok (.getfield 27, 3) := by decide +kernel
theorem dX0_height_4 : decode cX0_height 4 = .ok (.ifCond .le 24, 3) := by decide +kernel
theorem dX0_height_7 : decode cX0_height 7 = .ok (.iconst 2, 1) := by decide +kernel
theorem dX0_height_8 : decode cX0_height 8 = .ok (.aload_n 0, 1) := by decide +kernel
theorem dX0_height_9 : decode cX0_height 9 = .ok (.getfield 33, 3) := by decide +kernel
theorem dX0_height_12 : decode cX0_height 12 = .ok (.imul, 1) := by decide +kernel
theorem dX0_height_13 : decode cX0_height 13 = .ok (.aload_n 0, 1) := by decide +kernel
theorem dX0_height_14 : decode cX0_height 14 = .ok (.getfield 27, 3) := by decide +kernel
theorem dX0_height_17 : decode cX0_height 17 = .ok (.iadd, 1) := by decide +kernel
theorem dX0_height_18 : decode cX0_height 18 = .ok (.iconst 2, 1) := by decide +kernel
theorem dX0_height_19 : decode cX0_height 19 = .ok (.aload_n 0, 1) := by decide +kernel
theorem dX0_height_20 : decode cX0_height 20 = .ok (.getfield 27, 3) := by decide +kernel
theorem dX0_height_23 : decode cX0_height 23 = .ok (.imul, 1) := by decide +kernel
theorem dX0_height_24 : decode cX0_height 24 = .ok (.idiv, 1) := by decide +kernel
theorem dX0_height_25 : decode cX0_height 25 = .ok (.goto 4, 3) := by decide +kernel
theorem dX0_height_28 : decode cX0_height 28 = .ok (.iconst 0, 1) := by decide +kernel
theorem dX0_height_29 : decode cX0_height 29 = .ok (.ireturn, 1) := by decide +kernel
theorem dX0_covers_0 : decode cX0_covers 0 = .ok (.iload_n 1, 1) := by decide +kernel
theorem dX0_covers_1 : decode cX0_covers 1 = .ok (.aload_n 0, 1) := by decide +kernel
theorem dX0_covers_2 : decode cX0_covers 2 = .ok (.getfield 24, 3) := by decide +kernel
theorem dX0_covers_5 : decode cX0_covers 5 = .ok (.if_icmp .lt 20, 3) := by decide +kernel
theorem dX0_covers_8 : decode cX0_covers 8 = .ok (.iload_n 1, 1) := by decide +kernel
theorem dX0_covers_9 : decode cX0_covers 9 = .ok (.aload_n 0, 1) := by decide +kernel
theorem dX0_covers_10 : decode cX0_covers 10 = .ok (.getfield 24, 3) := by decide +kernel
theorem dX0_covers_13 : decode cX0_covers 13 = .ok (.aload_n 0, 1) := by decide +kernel
theorem dX0_covers_14 : decode cX0_covers 14 = .ok (.getfield 27, 3) := by decide +kernel
theorem dX0_covers_17 : decode cX0_covers 17 = .ok (.iadd, 1) := by decide +kernel
theorem dX0_covers_18 : decode cX0_covers 18 = .ok (.if_icmp .ge 7, 3) := by decide +kernel
theorem dX0_covers_21 : decode cX0_covers 21 = .ok (.iconst 1, 1) := by decide +kernel
theorem dX0_covers_22 : decode cX0_covers 22 = .ok (.goto 4, 3) := by decide +kernel
theorem dX0_covers_25 : decode cX0_covers 25 = .ok (.iconst 0, 1) := by decide +kernel
theorem dX0_covers_26 : decode cX0_covers 26 = .ok (.ireturn, 1) := by decide +kernel
theorem dX0_footRow_0 : decode cX0_footRow 0 = .ok (.aload_n 0, 1) := by decide +kernel
theorem dX0_footRow_1 : decode cX0_footRow 1 = .ok (.iload_n 1, 1) := by decide +kernel
theorem dX0_footRow_2 : decode cX0_footRow 2 = .ok (.invokevirtual 58, 3) := by decide +kernel
theorem dX0_footRow_5 : decode cX0_footRow 5 = .ok (.ifCond .eq 12, 3) := by decide +kernel
theorem dX0_footRow_8 : decode cX0_footRow 8 = .ok (.aload_n 0, 1) := by decide +kernel
theorem dX0_footRow_9 : decode cX0_footRow 9 = .ok (.getfield 16, 3) := by decide +kernel
theorem dX0_footRow_12 : decode cX0_footRow 12 = .ok (.iload_n 1, 1) := by decide +kernel
theorem dX0_footRow_13 : decode cX0_footRow 13 = .ok (.iaload, 1) := by decide +kernel
theorem dX0_footRow_14 : decode cX0_footRow 14 = .ok (.goto 5, 3) := by decide +kernel
theorem dX0_footRow_17 : decode cX0_footRow 17 = .ok (.bipush (-9), 2) := by decide +kernel
theorem dX0_footRow_19 : decode cX0_footRow 19 = .ok (.ireturn, 1) := by decide +kernel
theorem dX0_bend_0 : decode cX0_bend 0 = .ok (.aload_n 0, 1) := by decide +kernel
theorem dX0_bend_1 : decode cX0_bend 1 = .ok (.getfield 24, 3) := by decide +kernel
theorem dX0_bend_4 : decode cX0_bend 4 = .ok (.iload_n 1, 1) := by decide +kernel
theorem dX0_bend_5 : decode cX0_bend 5 = .ok (.aload_n 0, 1) := by decide +kernel
theorem dX0_bend_6 : decode cX0_bend 6 = .ok (.getfield 24, 3) := by decide +kernel
theorem dX0_bend_9 : decode cX0_bend 9 = .ok (.aload_n 0, 1) := by decide +kernel
theorem dX0_bend_10 : decode cX0_bend 10 = .ok (.getfield 27, 3) := by decide +kernel
theorem dX0_bend_13 : decode cX0_bend 13 = .ok (.iadd, 1) := by decide +kernel
theorem dX0_bend_14 : decode cX0_bend 14 = .ok (.iconst 1, 1) := by decide +kernel
theorem dX0_bend_15 : decode cX0_bend 15 = .ok (.isub, 1) := by decide +kernel
theorem dX0_bend_16 : decode cX0_bend 16 = .ok (.invokestatic 41, 3) := by decide +kernel
theorem dX0_bend_19 : decode cX0_bend 19 = .ok (.invokestatic 62, 3) := by decide +kernel
theorem dX0_bend_22 : decode cX0_bend 22 = .ok (.istore_n 2, 1) := by decide +kernel
theorem dX0_bend_23 : decode cX0_bend 23 = .ok (.aload_n 0, 1) := by decide +kernel
theorem dX0_bend_24 : decode cX0_bend 24 = .ok (.iload_n 2, 1) := by decide +kernel
theorem dX0_bend_25 : decode cX0_bend 25 = .ok (.invokevirtual 65, 3) := by decide +kernel
theorem dX0_bend_28 : decode cX0_bend 28 = .ok (.aload_n 0, 1) := by decide +kernel
theorem dX0_bend_29 : decode cX0_bend 29 = .ok (.invokevirtual 68, 3) := by decide +kernel
theorem dX0_bend_32 : decode cX0_bend 32 = .ok (.isub, 1) := by decide +kernel
theorem dX0_bend_33 : decode cX0_bend 33 = .ok (.ireturn, 1) := by decide +kernel
theorem dX0_meanBits_0 : decode cX0_meanBits 0 = .ok (.aload_n 0, 1) := by decide +kernel
theorem dX0_meanBits_1 : decode cX0_meanBits 1 = .ok (.getfield 33, 3) := by decide +kernel
theorem dX0_meanBits_4 : decode cX0_meanBits 4 = .ok (.aload_n 0, 1) := by decide +kernel
theorem dX0_meanBits_5 : decode cX0_meanBits 5 = .ok (.getfield 27, 3) := by decide +kernel
theorem dX0_meanBits_8 : decode cX0_meanBits 8 = .ok (.invokestatic 71, 3) := by decide +kernel
theorem dX0_meanBits_11 : decode cX0_meanBits 11 = .ok (.lreturn, 1) := by decide +kernel
theorem dX0_slopeBits_0 : decode cX0_slopeBits 0 = .ok (.iconst 0, 1) := by decide +kernel
theorem dX0_slopeBits_1 : decode cX0_slopeBits 1 = .ok (.istore_n 1, 1) := by decide +kernel
theorem dX0_slopeBits_2 : decode cX0_slopeBits 2 = .ok (.iconst 0, 1) := by decide +kernel
theorem dX0_slopeBits_3 : decode cX0_slopeBits 3 = .ok (.istore_n 2, 1) := by decide +kernel
theorem dX0_slopeBits_4 : decode cX0_slopeBits 4 = .ok (.iconst 0, 1) := by decide +kernel
theorem dX0_slopeBits_5 : decode cX0_slopeBits 5 = .ok (.istore_n 3, 1) := by decide +kernel
theorem dX0_slopeBits_6 : decode cX0_slopeBits 6 = .ok (.aload_n 0, 1) := by decide +kernel
theorem dX0_slopeBits_7 : decode cX0_slopeBits 7 = .ok (.getfield 24, 3) := by decide +kernel
theorem dX0_slopeBits_10 : decode cX0_slopeBits 10 = .ok (.istore 4, 2) := by decide +kernel
theorem dX0_slopeBits_12 : decode cX0_slopeBits 12 = .ok (.iload 4, 2) := by decide +kernel
theorem dX0_slopeBits_14 : decode cX0_slopeBits 14 = .ok (.aload_n 0, 1) := by decide +kernel
theorem dX0_slopeBits_15 : decode cX0_slopeBits 15 = .ok (.getfield 24, 3) := by decide +kernel
theorem dX0_slopeBits_18 : decode cX0_slopeBits 18 = .ok (.aload_n 0, 1) := by decide +kernel
theorem dX0_slopeBits_19 : decode cX0_slopeBits 19 = .ok (.getfield 27, 3) := by decide +kernel
theorem dX0_slopeBits_22 : decode cX0_slopeBits 22 = .ok (.iadd, 1) := by decide +kernel
theorem dX0_slopeBits_23 : decode cX0_slopeBits 23 = .ok (.if_icmp .ge 34, 3) := by decide +kernel
theorem dX0_slopeBits_26 : decode cX0_slopeBits 26 = .ok (.iload_n 1, 1) := by decide +kernel
theorem dX0_slopeBits_27 : decode cX0_slopeBits 27 = .ok (.iload 4, 2) := by decide +kernel
theorem dX0_slopeBits_29 : decode cX0_slopeBits 29 = .ok (.iadd, 1) := by decide +kernel
theorem dX0_slopeBits_30 : decode cX0_slopeBits 30 = .ok (.istore_n 1, 1) := by decide +kernel
theorem dX0_slopeBits_31 : decode cX0_slopeBits 31 = .ok (.iload_n 2, 1) := by decide +kernel
theorem dX0_slopeBits_32 : decode cX0_slopeBits 32 = .ok (.iload 4, 2) := by decide +kernel
theorem dX0_slopeBits_34 : decode cX0_slopeBits 34 = .ok (.iload 4, 2) := by decide +kernel
theorem dX0_slopeBits_36 : decode cX0_slopeBits 36 = .ok (.imul, 1) := by decide +kernel
theorem dX0_slopeBits_37 : decode cX0_slopeBits 37 = .ok (.iadd, 1) := by decide +kernel
theorem dX0_slopeBits_38 : decode cX0_slopeBits 38 = .ok (.istore_n 2, 1) := by decide +kernel
theorem dX0_slopeBits_39 : decode cX0_slopeBits 39 = .ok (.iload_n 3, 1) := by decide +kernel
theorem dX0_slopeBits_40 : decode cX0_slopeBits 40 = .ok (.iload 4, 2) := by decide +kernel
theorem dX0_slopeBits_42 : decode cX0_slopeBits 42 = .ok (.aload_n 0, 1) := by decide +kernel
theorem dX0_slopeBits_43 : decode cX0_slopeBits 43 = .ok (.iload 4, 2) := by decide +kernel
theorem dX0_slopeBits_45 : decode cX0_slopeBits 45 = .ok (.invokevirtual 65, 3) := by decide +kernel
theorem dX0_slopeBits_48 : decode cX0_slopeBits 48 = .ok (.imul, 1) := by decide +kernel
theorem dX0_slopeBits_49 : decode cX0_slopeBits 49 = .ok (.iadd, 1) := by decide +kernel
theorem dX0_slopeBits_50 : decode cX0_slopeBits 50 = .ok (.istore_n 3, 1) := by decide +kernel
theorem dX0_slopeBits_51 : decode cX0_slopeBits 51 = .ok (.iinc 4 1, 3) := by decide +kernel
theorem dX0_slopeBits_54 : decode cX0_slopeBits 54 = .ok (.goto (-42), 3) := by decide +kernel
theorem dX0_slopeBits_57 : decode cX0_slopeBits 57 = .ok (.aload_n 0, 1) := by decide +kernel
theorem dX0_slopeBits_58 : decode cX0_slopeBits 58 = .ok (.getfield 27, 3) := by decide +kernel
theorem dX0_slopeBits_61 : decode cX0_slopeBits 61 = .ok (.iload_n 3, 1) := by decide +kernel
theorem dX0_slopeBits_62 : decode cX0_slopeBits 62 = .ok (.imul, 1) := by decide +kernel
theorem dX0_slopeBits_63 : decode cX0_slopeBits 63 = .ok (.iload_n 1, 1) := by decide +kernel
theorem dX0_slopeBits_64 : decode cX0_slopeBits 64 = .ok (.aload_n 0, 1) := by decide +kernel
theorem dX0_slopeBits_65 : decode cX0_slopeBits 65 = .ok (.getfield 33, 3) := by decide +kernel
theorem dX0_slopeBits_68 : decode cX0_slopeBits 68 = .ok (.imul, 1) := by decide +kernel
theorem dX0_slopeBits_69 : decode cX0_slopeBits 69 = .ok (.isub, 1) := by decide +kernel
theorem dX0_slopeBits_70 : decode cX0_slopeBits 70 = .ok (.istore 4, 2) := by decide +kernel
theorem dX0_slopeBits_72 : decode cX0_slopeBits 72 = .ok (.aload_n 0, 1) := by decide +kernel
theorem dX0_slopeBits_73 : decode cX0_slopeBits 73 = .ok (.getfield 27, 3) := by decide +kernel
theorem dX0_slopeBits_76 : decode cX0_slopeBits 76 = .ok (.iload_n 2, 1) := by decide +kernel
theorem dX0_slopeBits_77 : decode cX0_slopeBits 77 = .ok (.imul, 1) := by decide +kernel
theorem dX0_slopeBits_78 : decode cX0_slopeBits 78 = .ok (.iload_n 1, 1) := by decide +kernel
theorem dX0_slopeBits_79 : decode cX0_slopeBits 79 = .ok (.iload_n 1, 1) := by decide +kernel
theorem dX0_slopeBits_80 : decode cX0_slopeBits 80 = .ok (.imul, 1) := by decide +kernel
theorem dX0_slopeBits_81 : decode cX0_slopeBits 81 = .ok (.isub, 1) := by decide +kernel
theorem dX0_slopeBits_82 : decode cX0_slopeBits 82 = .ok (.istore 5, 2) := by decide +kernel
theorem dX0_slopeBits_84 : decode cX0_slopeBits 84 = .ok (.iload 4, 2) := by decide +kernel
theorem dX0_slopeBits_86 : decode cX0_slopeBits 86 = .ok (.iload 5, 2) := by decide +kernel
theorem dX0_slopeBits_88 : decode cX0_slopeBits 88 = .ok (.invokestatic 77, 3) := by decide +kernel
theorem dX0_slopeBits_91 : decode cX0_slopeBits 91 = .ok (.ireturn, 1) := by decide +kernel
theorem dX0_measure_0 : decode cX0_measure 0 = .ok (.iconst 0, 1) := by decide +kernel
theorem dX0_measure_1 : decode cX0_measure 1 = .ok (.istore_n 3, 1) := by decide +kernel
theorem dX0_measure_2 : decode cX0_measure 2 = .ok (.iload_n 3, 1) := by decide +kernel
theorem dX0_measure_3 : decode cX0_measure 3 = .ok (.bipush 32, 2) := by decide +kernel
theorem dX0_measure_5 : decode cX0_measure 5 = .ok (.if_icmp .ge 101, 3) := by decide +kernel
theorem dX0_measure_8 : decode cX0_measure 8 = .ok (.iload_n 2, 1) := by decide +kernel
theorem dX0_measure_9 : decode cX0_measure 9 = .ok (.iload_n 3, 1) := by decide +kernel
theorem dX0_measure_10 : decode cX0_measure 10 = .ok (.iushr, 1) := by decide +kernel
theorem dX0_measure_11 : decode cX0_measure 11 = .ok (.iconst 1, 1) := by decide +kernel
theorem dX0_measure_12 : decode cX0_measure 12 = .ok (.iand, 1) := by decide +kernel
theorem dX0_measure_13 : decode cX0_measure 13 = .ok (.iconst 1, 1) := by decide +kernel
theorem dX0_measure_14 : decode cX0_measure 14 = .ok (.if_icmp .ne 7, 3) := by decide +kernel
theorem dX0_measure_17 : decode cX0_measure 17 = .ok (.iconst 1, 1) := by decide +kernel
theorem dX0_measure_18 : decode cX0_measure 18 = .ok (.goto 4, 3) := by decide +kernel
theorem dX0_measure_21 : decode cX0_measure 21 = .ok (.iconst 0, 1) := by decide +kernel
theorem dX0_measure_22 : decode cX0_measure 22 = .ok (.istore 4, 2) := by decide +kernel
theorem dX0_measure_24 : decode cX0_measure 24 = .ok (.aload_n 0, 1) := by decide +kernel
theorem dX0_measure_25 : decode cX0_measure 25 = .ok (.getfield 11, 3) := by decide +kernel
theorem dX0_measure_28 : decode cX0_measure 28 = .ok (.iload_n 1, 1) := by decide +kernel
theorem dX0_measure_29 : decode cX0_measure 29 = .ok (.aaload, 1) := by decide +kernel
theorem dX0_measure_30 : decode cX0_measure 30 = .ok (.iload_n 3, 1) := by decide +kernel
theorem dX0_measure_31 : decode cX0_measure 31 = .ok (.iload 4, 2) := by decide +kernel
theorem dX0_measure_33 : decode cX0_measure 33 = .ok (.ifCond .eq 23, 3) := by decide +kernel
theorem dX0_measure_36 : decode cX0_measure 36 = .ok (.iconst 1, 1) := by decide +kernel
theorem dX0_measure_37 : decode cX0_measure 37 = .ok (.aload_n 0, 1) := by decide +kernel
theorem dX0_measure_38 : decode cX0_measure 38 = .ok (.iload_n 1, 1) := by decide +kernel
theorem dX0_measure_39 : decode cX0_measure 39 = .ok (.iconst 1, 1) := by decide +kernel
theorem dX0_measure_40 : decode cX0_measure 40 = .ok (.iadd, 1) := by decide +kernel
theorem dX0_measure_41 : decode cX0_measure 41 = .ok (.aload_n 0, 1) := by decide +kernel
theorem dX0_measure_42 : decode cX0_measure 42 = .ok (.iload_n 1, 1) := by decide +kernel
theorem dX0_measure_43 : decode cX0_measure 43 = .ok (.iconst 1, 1) := by decide +kernel
theorem dX0_measure_44 : decode cX0_measure 44 = .ok (.iadd, 1) := by decide +kernel
theorem dX0_measure_45 : decode cX0_measure 45 = .ok (.iload_n 3, 1) := by decide +kernel
theorem dX0_measure_46 : decode cX0_measure 46 = .ok (.invokevirtual 80, 3) := by decide +kernel
theorem dX0_measure_49 : decode cX0_measure 49 = .ok (.invokevirtual 83, 3) := by decide +kernel
theorem dX0_measure_52 : decode cX0_measure 52 = .ok (.iadd, 1) := by decide +kernel
theorem dX0_measure_53 : decode cX0_measure 53 = .ok (.goto 4, 3) := by decide +kernel
theorem dX0_measure_56 : decode cX0_measure 56 = .ok (.iconst 0, 1) := by decide +kernel
theorem dX0_measure_57 : decode cX0_measure 57 = .ok (.iastore, 1) := by decide +kernel
theorem dX0_measure_58 : decode cX0_measure 58 = .ok (.iload 4, 2) := by decide +kernel
theorem dX0_measure_60 : decode cX0_measure 60 = .ok (.ifCond .eq 40, 3) := by decide +kernel
theorem dX0_measure_63 : decode cX0_measure 63 = .ok (.aload_n 0, 1) := by decide +kernel
theorem dX0_measure_64 : decode cX0_measure 64 = .ok (.getfield 11, 3) := by decide +kernel
theorem dX0_measure_67 : decode cX0_measure 67 = .ok (.iload_n 1, 1) := by decide +kernel
theorem dX0_measure_68 : decode cX0_measure 68 = .ok (.aaload, 1) := by decide +kernel
theorem dX0_measure_69 : decode cX0_measure 69 = .ok (.iload_n 3, 1) := by decide +kernel
theorem dX0_measure_70 : decode cX0_measure 70 = .ok (.iaload, 1) := by decide +kernel
theorem dX0_measure_71 : decode cX0_measure 71 = .ok (.aload_n 0, 1) := by decide +kernel
theorem dX0_measure_72 : decode cX0_measure 72 = .ok (.getfield 27, 3) := by decide +kernel
theorem dX0_measure_75 : decode cX0_measure 75 = .ok (.if_icmp .lt 25, 3) := by decide +kernel
theorem dX0_measure_78 : decode cX0_measure 78 = .ok (.aload_n 0, 1) := by decide +kernel
theorem dX0_measure_79 : decode cX0_measure 79 = .ok (.aload_n 0, 1) := by decide +kernel
theorem dX0_measure_80 : decode cX0_measure 80 = .ok (.getfield 11, 3) := by decide +kernel
theorem dX0_measure_83 : decode cX0_measure 83 = .ok (.iload_n 1, 1) := by decide +kernel
theorem dX0_measure_84 : decode cX0_measure 84 = .ok (.aaload, 1) := by decide +kernel
theorem dX0_measure_85 : decode cX0_measure 85 = .ok (.iload_n 3, 1) := by decide +kernel
theorem dX0_measure_86 : decode cX0_measure 86 = .ok (.iaload, 1) := by decide +kernel
theorem dX0_measure_87 : decode cX0_measure 87 = .ok (.putfield 27, 3) := by decide +kernel
theorem dX0_measure_90 : decode cX0_measure 90 = .ok (.aload_n 0, 1) := by decide +kernel
theorem dX0_measure_91 : decode cX0_measure 91 = .ok (.iload_n 1, 1) := by decide +kernel
theorem dX0_measure_92 : decode cX0_measure 92 = .ok (.putfield 24, 3) := by decide +kernel
theorem dX0_measure_95 : decode cX0_measure 95 = .ok (.aload_n 0, 1) := by decide +kernel
theorem dX0_measure_96 : decode cX0_measure 96 = .ok (.iload_n 3, 1) := by decide +kernel
theorem dX0_measure_97 : decode cX0_measure 97 = .ok (.putfield 30, 3) := by decide +kernel
theorem dX0_measure_100 : decode cX0_measure 100 = .ok (.iinc 3 1, 3) := by decide +kernel
theorem dX0_measure_103 : decode cX0_measure 103 = .ok (.goto (-101), 3) := by decide +kernel
theorem dX0_measure_106 : decode cX0_measure 106 = .ok (.return_, 1) := by decide +kernel
theorem dX0_follow_0 : decode cX0_follow 0 = .ok (.aload_n 0, 1) := by decide +kernel
theorem dX0_follow_1 : decode cX0_follow 1 = .ok (.iconst 0, 1) := by decide +kernel
theorem dX0_follow_2 : decode cX0_follow 2 = .ok (.putfield 33, 3) := by decide +kernel
theorem dX0_follow_5 : decode cX0_follow 5 = .ok (.aload_n 0, 1) := by decide +kernel
theorem dX0_follow_6 : decode cX0_follow 6 = .ok (.getfield 30, 3) := by decide +kernel
theorem dX0_follow_9 : decode cX0_follow 9 = .ok (.istore_n 1, 1) := by decide +kernel
theorem dX0_follow_10 : decode cX0_follow 10 = .ok (.aload_n 0, 1) := by decide +kernel
theorem dX0_follow_11 : decode cX0_follow 11 = .ok (.getfield 24, 3) := by decide +kernel
theorem dX0_follow_14 : decode cX0_follow 14 = .ok (.istore_n 2, 1) := by decide +kernel
theorem dX0_follow_15 : decode cX0_follow 15 = .ok (.iload_n 2, 1) := by decide +kernel
theorem dX0_follow_16 : decode cX0_follow 16 = .ok (.aload_n 0, 1) := by decide +kernel
theorem dX0_follow_17 : decode cX0_follow 17 = .ok (.getfield 24, 3) := by decide +kernel
theorem dX0_follow_20 : decode cX0_follow 20 = .ok (.aload_n 0, 1) := by decide +kernel
theorem dX0_follow_21 : decode cX0_follow 21 = .ok (.getfield 27, 3) := by decide +kernel
theorem dX0_follow_24 : decode cX0_follow 24 = .ok (.iadd, 1) := by decide +kernel
theorem dX0_follow_25 : decode cX0_follow 25 = .ok (.if_icmp .ge 41, 3) := by decide +kernel
theorem dX0_follow_28 : decode cX0_follow 28 = .ok (.iload_n 2, 1) := by decide +kernel
theorem dX0_follow_29 : decode cX0_follow 29 = .ok (.bipush 24, 2) := by decide +kernel
theorem dX0_follow_31 : decode cX0_follow 31 = .ok (.if_icmp .ge 35, 3) := by decide +kernel
theorem dX0_follow_34 : decode cX0_follow 34 = .ok (.aload_n 0, 1) := by decide +kernel
theorem dX0_follow_35 : decode cX0_follow 35 = .ok (.getfield 16, 3) := by decide +kernel
theorem dX0_follow_38 : decode cX0_follow 38 = .ok (.iload_n 2, 1) := by decide +kernel
theorem dX0_follow_39 : decode cX0_follow 39 = .ok (.iload_n 1, 1) := by decide +kernel
theorem dX0_follow_40 : decode cX0_follow 40 = .ok (.iastore, 1) := by decide +kernel
theorem dX0_follow_41 : decode cX0_follow 41 = .ok (.aload_n 0, 1) := by decide +kernel
theorem dX0_follow_42 : decode cX0_follow 42 = .ok (.dup, 1) := by decide +kernel
theorem dX0_follow_43 : decode cX0_follow 43 = .ok (.getfield 33, 3) := by decide +kernel
theorem dX0_follow_46 : decode cX0_follow 46 = .ok (.iload_n 1, 1) := by decide +kernel
theorem dX0_follow_47 : decode cX0_follow 47 = .ok (.iadd, 1) := by decide +kernel
theorem dX0_follow_48 : decode cX0_follow 48 = .ok (.putfield 33, 3) := by decide +kernel
theorem dX0_follow_51 : decode cX0_follow 51 = .ok (.aload_n 0, 1) := by decide +kernel
theorem dX0_follow_52 : decode cX0_follow 52 = .ok (.iload_n 2, 1) := by decide +kernel
theorem dX0_follow_53 : decode cX0_follow 53 = .ok (.iconst 1, 1) := by decide +kernel
theorem dX0_follow_54 : decode cX0_follow 54 = .ok (.iadd, 1) := by decide +kernel
theorem dX0_follow_55 : decode cX0_follow 55 = .ok (.iload_n 1, 1) := by decide +kernel
theorem dX0_follow_56 : decode cX0_follow 56 = .ok (.invokevirtual 80, 3) := by decide +kernel
theorem dX0_follow_59 : decode cX0_follow 59 = .ok (.istore_n 1, 1) := by decide +kernel
theorem dX0_follow_60 : decode cX0_follow 60 = .ok (.iinc 2 1, 3) := by decide +kernel
theorem dX0_follow_63 : decode cX0_follow 63 = .ok (.goto (-48), 3) := by decide +kernel
theorem dX0_follow_66 : decode cX0_follow 66 = .ok (.return_, 1) := by decide +kernel
theorem dX0_lowestOnward_0 : decode cX0_lowestOnward 0 = .ok (.iload_n 2, 1) := by decide +kernel
theorem dX0_lowestOnward_1 : decode cX0_lowestOnward 1 = .ok (.iconst 1, 1) := by decide +kernel
theorem dX0_lowestOnward_2 : decode cX0_lowestOnward 2 = .ok (.iadd, 1) := by decide +kernel
theorem dX0_lowestOnward_3 : decode cX0_lowestOnward 3 = .ok (.istore_n 3, 1) := by decide +kernel
theorem dX0_lowestOnward_4 : decode cX0_lowestOnward 4 = .ok (.iload_n 2, 1) := by decide +kernel
theorem dX0_lowestOnward_5 : decode cX0_lowestOnward 5 = .ok (.istore 4, 2) := by decide +kernel
theorem dX0_lowestOnward_7 : decode cX0_lowestOnward 7 = .ok (.iload 4, 2) := by decide +kernel
theorem dX0_lowestOnward_9 : decode cX0_lowestOnward 9 = .ok (.iload_n 2, 1) := by decide +kernel
theorem dX0_lowestOnward_10 : decode cX0_lowestOnward 10 = .ok (.iconst 1, 1) := by decide +kernel
theorem dX0_lowestOnward_11 : decode cX0_lowestOnward 11 = .ok (.isub, 1) := by decide +kernel
theorem dX0_lowestOnward_12 : decode cX0_lowestOnward 12 = .ok (.if_icmp .lt 28, 3) := by decide +kernel
theorem dX0_lowestOnward_15 : decode cX0_lowestOnward 15 = .ok (.aload_n 0, 1) := by decide +kernel
theorem dX0_lowestOnward_16 : decode cX0_lowestOnward 16 = .ok (.iload_n 1, 1) := by decide +kernel
theorem dX0_lowestOnward_17 : decode cX0_lowestOnward 17 = .ok (.iload 4, 2) := by decide +kernel
theorem dX0_lowestOnward_19 : decode cX0_lowestOnward 19 = .ok (.invokevirtual 83, 3) := by decide +kernel
theorem dX0_lowestOnward_22 : decode cX0_lowestOnward 22 = .ok (.aload_n 0, 1) := by decide +kernel
theorem dX0_lowestOnward_23 : decode cX0_lowestOnward 23 = .ok (.iload_n 1, 1) := by decide +kernel
theorem dX0_lowestOnward_24 : decode cX0_lowestOnward 24 = .ok (.iload_n 3, 1) := by decide +kernel
theorem dX0_lowestOnward_25 : decode cX0_lowestOnward 25 = .ok (.invokevirtual 83, 3) := by decide +kernel
theorem dX0_lowestOnward_28 : decode cX0_lowestOnward 28 = .ok (.if_icmp .le 6, 3) := by decide +kernel
theorem dX0_lowestOnward_31 : decode cX0_lowestOnward 31 = .ok (.iload 4, 2) := by decide +kernel
theorem dX0_lowestOnward_33 : decode cX0_lowestOnward 33 = .ok (.istore_n 3, 1) := by decide +kernel
theorem dX0_lowestOnward_34 : decode cX0_lowestOnward 34 = .ok (.iinc 4 (-1), 3) := by decide +kernel
theorem dX0_lowestOnward_37 : decode cX0_lowestOnward 37 = .ok (.goto (-30), 3) := by decide +kernel
theorem dX0_lowestOnward_40 : decode cX0_lowestOnward 40 = .ok (.iload_n 3, 1) := by decide +kernel
theorem dX0_lowestOnward_41 : decode cX0_lowestOnward 41 = .ok (.ireturn, 1) := by decide +kernel
theorem dX0_reachAt_0 : decode cX0_reachAt 0 = .ok (.iload_n 1, 1) := by decide +kernel
theorem dX0_reachAt_1 : decode cX0_reachAt 1 = .ok (.ifCond .lt 29, 3) := by decide +kernel
theorem dX0_reachAt_4 : decode cX0_reachAt 4 = .ok (.iload_n 1, 1) := by decide +kernel
theorem dX0_reachAt_5 : decode cX0_reachAt 5 = .ok (.aload_n 0, 1) := by decide +kernel
theorem dX0_reachAt_6 : decode cX0_reachAt 6 = .ok (.getfield 20, 3) := by decide +kernel
theorem dX0_reachAt_9 : decode cX0_reachAt 9 = .ok (.if_icmp .ge 21, 3) := by decide +kernel
theorem dX0_reachAt_12 : decode cX0_reachAt 12 = .ok (.iload_n 2, 1) := by decide +kernel
theorem dX0_reachAt_13 : decode cX0_reachAt 13 = .ok (.invokestatic 86, 3) := by decide +kernel
theorem dX0_reachAt_16 : decode cX0_reachAt 16 = .ok (.ifCond .eq 14, 3) := by decide +kernel
theorem dX0_reachAt_19 : decode cX0_reachAt 19 = .ok (.aload_n 0, 1) := by decide +kernel
theorem dX0_reachAt_20 : decode cX0_reachAt 20 = .ok (.getfield 11, 3) := by decide +kernel
theorem dX0_reachAt_23 : decode cX0_reachAt 23 = .ok (.iload_n 1, 1) := by decide +kernel
theorem dX0_reachAt_24 : decode cX0_reachAt 24 = .ok (.aaload, 1) := by decide +kernel
theorem dX0_reachAt_25 : decode cX0_reachAt 25 = .ok (.iload_n 2, 1) := by decide +kernel
theorem dX0_reachAt_26 : decode cX0_reachAt 26 = .ok (.iaload, 1) := by decide +kernel
theorem dX0_reachAt_27 : decode cX0_reachAt 27 = .ok (.goto 4, 3) := by decide +kernel
theorem dX0_reachAt_30 : decode cX0_reachAt 30 = .ok (.iconst 0, 1) := by decide +kernel
theorem dX0_reachAt_31 : decode cX0_reachAt 31 = .ok (.ireturn, 1) := by decide +kernel
theorem dX1_nearestDouble_0 : decode cX1_nearestDouble 0 = .ok (.iload_n 0, 1) := by decide +kernel
theorem dX1_nearestDouble_1 : decode cX1_nearestDouble 1 = .ok (.i2l, 1) := by decide +kernel
theorem dX1_nearestDouble_2 : decode cX1_nearestDouble 2 = .ok (.iload_n 1, 1) := by decide +kernel
theorem dX1_nearestDouble_3 : decode cX1_nearestDouble 3 = .ok (.i2l, 1) := by decide +kernel
theorem dX1_nearestDouble_4 : decode cX1_nearestDouble 4 = .ok (.bipush 52, 2) := by decide +kernel
theorem dX1_nearestDouble_6 : decode cX1_nearestDouble 6 = .ok (.sipush 1023, 3) := by decide +kernel
theorem dX1_nearestDouble_9 : decode cX1_nearestDouble 9 = .ok (.invokestatic 9, 3) := by decide +kernel
theorem dX1_nearestDouble_12 : decode cX1_nearestDouble 12 = .ok (.lreturn, 1) := by decide +kernel
theorem dX1_nearestFloat_0 : decode cX1_nearestFloat 0 = .ok (.iload_n 0, 1) := by decide +kernel
theorem dX1_nearestFloat_1 : decode cX1_nearestFloat 1 = .ok (.i2l, 1) := by decide +kernel
theorem dX1_nearestFloat_2 : decode cX1_nearestFloat 2 = .ok (.invokestatic 13, 3) := by decide +kernel
theorem dX1_nearestFloat_5 : decode cX1_nearestFloat 5 = .ok (.iload_n 1, 1) := by decide +kernel
theorem dX1_nearestFloat_6 : decode cX1_nearestFloat 6 = .ok (.i2l, 1) := by decide +kernel
theorem dX1_nearestFloat_7 : decode cX1_nearestFloat 7 = .ok (.bipush 23, 2) := by decide +kernel
theorem dX1_nearestFloat_9 : decode cX1_nearestFloat 9 = .ok (.bipush 127, 2) := by decide +kernel
theorem dX1_nearestFloat_11 : decode cX1_nearestFloat 11 = .ok (.invokestatic 9, 3) := by decide +kernel
theorem dX1_nearestFloat_14 : decode cX1_nearestFloat 14 = .ok (.l2i, 1) := by decide +kernel
theorem dX1_nearestFloat_15 : decode cX1_nearestFloat 15 = .ok (.istore_n 2, 1) := by decide +kernel
theorem dX1_nearestFloat_16 : decode cX1_nearestFloat 16 = .ok (.iload_n 0, 1) := by decide +kernel
theorem dX1_nearestFloat_17 : decode cX1_nearestFloat 17 = .ok (.ifCond .ge 10, 3) := by decide +kernel
theorem dX1_nearestFloat_20 : decode cX1_nearestFloat 20 = .ok (.iload_n 2, 1) := by decide +kernel
theorem dX1_nearestFloat_21 : decode cX1_nearestFloat 21 = .ok (.ldc 19, 2) := by decide +kernel
theorem dX1_nearestFloat_23 : decode cX1_nearestFloat 23 = .ok (.ior, 1) := by decide +kernel
theorem dX1_nearestFloat_24 : decode cX1_nearestFloat 24 = .ok (.goto 4, 3) := by decide +kernel
theorem dX1_nearestFloat_27 : decode cX1_nearestFloat 27 = .ok (.iload_n 2, 1) := by decide +kernel
theorem dX1_nearestFloat_28 : decode cX1_nearestFloat 28 = .ok (.ireturn, 1) := by decide +kernel
theorem dX1_doubleAboveWhole_0 : decode cX1_doubleAboveWhole 0 = .ok (.lload_n 0, 1) := by decide +kernel
theorem dX1_doubleAboveWhole_1 : decode cX1_doubleAboveWhole 1 = .ok (.bipush 52, 2) := by decide +kernel
theorem dX1_doubleAboveWhole_3 : decode cX1_doubleAboveWhole 3 = .ok (.lushr, 1) := by decide +kernel
theorem dX1_doubleAboveWhole_4 : decode cX1_doubleAboveWhole 4 = .ok (.l2i, 1) := by decide +kernel
theorem dX1_doubleAboveWhole_5 : decode cX1_doubleAboveWhole 5 = .ok (.sipush 1023, 3) := by decide +kernel
theorem dX1_doubleAboveWhole_8 : decode cX1_doubleAboveWhole 8 = .ok (.isub, 1) := by decide +kernel
theorem dX1_doubleAboveWhole_9 : decode cX1_doubleAboveWhole 9 = .ok (.istore_n 2, 1) := by decide +kernel
theorem dX1_doubleAboveWhole_10 : decode cX1_doubleAboveWhole 10 = .ok (.iload_n 2, 1) := by decide +kernel
theorem dX1_doubleAboveWhole_11 : decode cX1_doubleAboveWhole 11 = .ok (.ifCond .ge 5, 3) := by decide +kernel
theorem dX1_doubleAboveWhole_14 : decode cX1_doubleAboveWhole 14 = .ok (.lload_n 0, 1) := by decide +kernel
theorem dX1_doubleAboveWhole_15 : decode cX1_doubleAboveWhole 15 = .ok (.lreturn, 1) := by decide +kernel
theorem dX1_doubleAboveWhole_16 : decode cX1_doubleAboveWhole 16 = .ok (.iload_n 2, 1) := by decide +kernel
theorem dX1_doubleAboveWhole_17 : decode cX1_doubleAboveWhole 17 = .ok (.bipush 52, 2) := by decide +kernel
theorem dX1_doubleAboveWhole_19 : decode cX1_doubleAboveWhole 19 = .ok (.if_icmp .ge 16, 3) := by decide +kernel
theorem dX1_doubleAboveWhole_22 : decode cX1_doubleAboveWhole 22 = .ok (.lload_n 0, 1) := by decide +kernel
theorem dX1_doubleAboveWhole_23 : decode cX1_doubleAboveWhole 23 = .ok (.lconst 1, 1) := by decide +kernel
theorem dX1_doubleAboveWhole_24 : decode cX1_doubleAboveWhole 24 = .ok (.bipush 52, 2) := by decide +kernel
theorem dX1_doubleAboveWhole_26 : decode cX1_doubleAboveWhole 26 = .ok (.iload_n 2, 1) := by decide +kernel
theorem dX1_doubleAboveWhole_27 : decode cX1_doubleAboveWhole 27 = .ok (.isub, 1) := by decide +kernel
theorem dX1_doubleAboveWhole_28 : decode cX1_doubleAboveWhole 28 = .ok (.lshl, 1) := by decide +kernel
theorem dX1_doubleAboveWhole_29 : decode cX1_doubleAboveWhole 29 = .ok (.lconst 1, 1) := by decide +kernel
theorem dX1_doubleAboveWhole_30 : decode cX1_doubleAboveWhole 30 = .ok (.lsub, 1) := by decide +kernel
theorem dX1_doubleAboveWhole_31 : decode cX1_doubleAboveWhole 31 = .ok (.land, 1) := by decide +kernel
theorem dX1_doubleAboveWhole_32 : decode cX1_doubleAboveWhole 32 = .ok (.goto 4, 3) := by decide +kernel
theorem dX1_doubleAboveWhole_35 : decode cX1_doubleAboveWhole 35 = .ok (.lconst 0, 1) := by decide +kernel
theorem dX1_doubleAboveWhole_36 : decode cX1_doubleAboveWhole 36 = .ok (.lstore_n 3, 1) := by decide +kernel
theorem dX1_doubleAboveWhole_37 : decode cX1_doubleAboveWhole 37 = .ok (.lload_n 3, 1) := by decide +kernel
theorem dX1_doubleAboveWhole_38 : decode cX1_doubleAboveWhole 38 = .ok (.lconst 0, 1) := by decide +kernel
theorem dX1_doubleAboveWhole_39 : decode cX1_doubleAboveWhole 39 = .ok (.lcmp, 1) := by decide +kernel
theorem dX1_doubleAboveWhole_40 : decode cX1_doubleAboveWhole 40 = .ok (.ifCond .ne 5, 3) := by decide +kernel
theorem dX1_doubleAboveWhole_43 : decode cX1_doubleAboveWhole 43 = .ok (.lconst 0, 1) := by decide +kernel
theorem dX1_doubleAboveWhole_44 : decode cX1_doubleAboveWhole 44 = .ok (.lreturn, 1) := by decide +kernel
theorem dX1_doubleAboveWhole_45 : decode cX1_doubleAboveWhole 45 = .ok (.ldc2_w 20, 3) := by decide +kernel
theorem dX1_doubleAboveWhole_48 : decode cX1_doubleAboveWhole 48 = .ok (.lstore 5, 2) := by decide +kernel
theorem dX1_doubleAboveWhole_50 : decode cX1_doubleAboveWhole 50 = .ok (.iconst 0, 1) := by decide +kernel
theorem dX1_doubleAboveWhole_51 : decode cX1_doubleAboveWhole 51 = .ok (.istore 7, 2) := by decide +kernel
theorem dX1_doubleAboveWhole_53 : decode cX1_doubleAboveWhole 53 = .ok (.iload 7, 2) := by decide +kernel
theorem dX1_doubleAboveWhole_55 : decode cX1_doubleAboveWhole 55 = .ok (.bipush 52, 2) := by decide +kernel
theorem dX1_doubleAboveWhole_57 : decode cX1_doubleAboveWhole 57 = .ok (.if_icmp .gt 23, 3) := by decide +kernel
theorem dX1_doubleAboveWhole_60 : decode cX1_doubleAboveWhole 60 = .ok (.lload_n 3, 1) := by decide +kernel
theorem dX1_doubleAboveWhole_61 : decode cX1_doubleAboveWhole 61 = .ok (.lload 5, 2) := by decide +kernel
theorem dX1_doubleAboveWhole_63 : decode cX1_doubleAboveWhole 63 = .ok (.lcmp, 1) := by decide +kernel
theorem dX1_doubleAboveWhole_64 : decode cX1_doubleAboveWhole 64 = .ok (.ifCond .ge 16, 3) := by decide +kernel
theorem dX1_doubleAboveWhole_67 : decode cX1_doubleAboveWhole 67 = .ok (.lload_n 3, 1) := by decide +kernel
theorem dX1_doubleAboveWhole_68 : decode cX1_doubleAboveWhole 68 = .ok (.iconst 1, 1) := by decide +kernel
theorem dX1_doubleAboveWhole_69 : decode cX1_doubleAboveWhole 69 = .ok (.lshl, 1) := by decide +kernel
theorem dX1_doubleAboveWhole_70 : decode cX1_doubleAboveWhole 70 = .ok (.lstore_n 3, 1) := by decide +kernel
theorem dX1_doubleAboveWhole_71 : decode cX1_doubleAboveWhole 71 = .ok (.iinc 2 (-1), 3) := by decide +kernel
theorem dX1_doubleAboveWhole_74 : decode cX1_doubleAboveWhole 74 = .ok (.iinc 7 1, 3) := by decide +kernel
theorem dX1_doubleAboveWhole_77 : decode cX1_doubleAboveWhole 77 = .ok (.goto (-24), 3) := by decide +kernel
theorem dX1_doubleAboveWhole_80 : decode cX1_doubleAboveWhole 80 = .ok (.iload_n 2, 1) := by decide +kernel
theorem dX1_doubleAboveWhole_81 : decode cX1_doubleAboveWhole 81 = .ok (.lload_n 3, 1) := by decide +kernel
theorem dX1_doubleAboveWhole_82 : decode cX1_doubleAboveWhole 82 = .ok (.bipush 52, 2) := by decide +kernel
theorem dX1_doubleAboveWhole_84 : decode cX1_doubleAboveWhole 84 = .ok (.sipush 1023, 3) := by decide +kernel
theorem dX1_doubleAboveWhole_87 : decode cX1_doubleAboveWhole 87 = .ok (.invokestatic 22, 3) := by decide +kernel
theorem dX1_doubleAboveWhole_90 : decode cX1_doubleAboveWhole 90 = .ok (.lreturn, 1) := by decide +kernel
theorem dX1_nearest_0 : decode cX1_nearest 0 = .ok (.lload_n 0, 1) := by decide +kernel
theorem dX1_nearest_1 : decode cX1_nearest 1 = .ok (.lconst 0, 1) := by decide +kernel
theorem dX1_nearest_2 : decode cX1_nearest 2 = .ok (.lcmp, 1) := by decide +kernel
theorem dX1_nearest_3 : decode cX1_nearest 3 = .ok (.ifCond .le 9, 3) := by decide +kernel
theorem dX1_nearest_6 : decode cX1_nearest 6 = .ok (.lload_n 2, 1) := by decide +kernel
theorem dX1_nearest_7 : decode cX1_nearest 7 = .ok (.lconst 0, 1) := by decide +kernel
theorem dX1_nearest_8 : decode cX1_nearest 8 = .ok (.lcmp, 1) := by decide +kernel
theorem dX1_nearest_9 : decode cX1_nearest 9 = .ok (.ifCond .gt 5, 3) := by decide +kernel
theorem dX1_nearest_12 : decode cX1_nearest 12 = .ok (.lconst 0, 1) := by decide +kernel
theorem dX1_nearest_13 : decode cX1_nearest 13 = .ok (.lreturn, 1) := by decide +kernel
theorem dX1_nearest_14 : decode cX1_nearest 14 = .ok (.lload_n 0, 1) := by decide +kernel
theorem dX1_nearest_15 : decode cX1_nearest 15 = .ok (.lstore 6, 2) := by decide +kernel
theorem dX1_nearest_17 : decode cX1_nearest 17 = .ok (.lload_n 2, 1) := by decide +kernel
theorem dX1_nearest_18 : decode cX1_nearest 18 = .ok (.lstore 8, 2) := by decide +kernel
theorem dX1_nearest_20 : decode cX1_nearest 20 = .ok (.iconst 0, 1) := by decide +kernel
theorem dX1_nearest_21 : decode cX1_nearest 21 = .ok (.istore 10, 2) := by decide +kernel
theorem dX1_nearest_23 : decode cX1_nearest 23 = .ok (.lload 6, 2) := by decide +kernel
theorem dX1_nearest_25 : decode cX1_nearest 25 = .ok (.ldc2_w 26, 3) := by decide +kernel
theorem dX1_nearest_28 : decode cX1_nearest 28 = .ok (.lload 8, 2) := by decide +kernel
theorem dX1_nearest_30 : decode cX1_nearest 30 = .ok (.lmul, 1) := by decide +kernel
theorem dX1_nearest_31 : decode cX1_nearest 31 = .ok (.lcmp, 1) := by decide +kernel
theorem dX1_nearest_32 : decode cX1_nearest 32 = .ok (.ifCond .lt 24, 3) := by decide +kernel
theorem dX1_nearest_35 : decode cX1_nearest 35 = .ok (.iload 10, 2) := by decide +kernel
theorem dX1_nearest_37 : decode cX1_nearest 37 = .ok (.bipush 32, 2) := by decide +kernel
theorem dX1_nearest_39 : decode cX1_nearest 39 = .ok (.if_icmp .ge 17, 3) := by decide +kernel
theorem dX1_nearest_42 : decode cX1_nearest 42 = .ok (.lload 8, 2) := by decide +kernel
theorem dX1_nearest_44 : decode cX1_nearest 44 = .ok (.ldc2_w 26, 3) := by decide +kernel
theorem dX1_nearest_47 : decode cX1_nearest 47 = .ok (.lmul, 1) := by decide +kernel
theorem dX1_nearest_48 : decode cX1_nearest 48 = .ok (.lstore 8, 2) := by decide +kernel
theorem dX1_nearest_50 : decode cX1_nearest 50 = .ok (.iinc 10 1, 3) := by decide +kernel
theorem dX1_nearest_53 : decode cX1_nearest 53 = .ok (.goto (-30), 3) := by decide +kernel
theorem dX1_nearest_56 : decode cX1_nearest 56 = .ok (.lload 6, 2) := by decide +kernel
theorem dX1_nearest_58 : decode cX1_nearest 58 = .ok (.lload 8, 2) := by decide +kernel
theorem dX1_nearest_60 : decode cX1_nearest 60 = .ok (.lcmp, 1) := by decide +kernel
theorem dX1_nearest_61 : decode cX1_nearest 61 = .ok (.ifCond .ge 24, 3) := by decide +kernel
theorem dX1_nearest_64 : decode cX1_nearest 64 = .ok (.iload 10, 2) := by decide +kernel
theorem dX1_nearest_66 : decode cX1_nearest 66 = .ok (.bipush (-32), 2) := by decide +kernel
theorem dX1_nearest_68 : decode cX1_nearest 68 = .ok (.if_icmp .le 17, 3) := by decide +kernel
theorem dX1_nearest_71 : decode cX1_nearest 71 = .ok (.lload 6, 2) := by decide +kernel
theorem dX1_nearest_73 : decode cX1_nearest 73 = .ok (.ldc2_w 26, 3) := by decide +kernel
theorem dX1_nearest_76 : decode cX1_nearest 76 = .ok (.lmul, 1) := by decide +kernel
theorem dX1_nearest_77 : decode cX1_nearest 77 = .ok (.lstore 6, 2) := by decide +kernel
theorem dX1_nearest_79 : decode cX1_nearest 79 = .ok (.iinc 10 (-1), 3) := by decide +kernel
theorem dX1_nearest_82 : decode cX1_nearest 82 = .ok (.goto (-26), 3) := by decide +kernel
theorem dX1_nearest_85 : decode cX1_nearest 85 = .ok (.lload 6, 2) := by decide +kernel
theorem dX1_nearest_87 : decode cX1_nearest 87 = .ok (.iload 4, 2) := by decide +kernel
theorem dX1_nearest_89 : decode cX1_nearest 89 = .ok (.lshl, 1) := by decide +kernel
theorem dX1_nearest_90 : decode cX1_nearest 90 = .ok (.lload 8, 2) := by decide +kernel
theorem dX1_nearest_92 : decode cX1_nearest 92 = .ok (.ldiv, 1) := by decide +kernel
theorem dX1_nearest_93 : decode cX1_nearest 93 = .ok (.lstore 11, 2) := by decide +kernel
theorem dX1_nearest_95 : decode cX1_nearest 95 = .ok (.ldc2_w 26, 3) := by decide +kernel
theorem dX1_nearest_98 : decode cX1_nearest 98 = .ok (.lload 6, 2) := by decide +kernel
theorem dX1_nearest_100 : decode cX1_nearest 100 = .ok (.iload 4, 2) := by decide +kernel
theorem dX1_nearest_102 : decode cX1_nearest 102 = .ok (.lshl, 1) := by decide +kernel
theorem dX1_nearest_103 : decode cX1_nearest 103 = .ok (.lload 8, 2) := by decide +kernel
theorem dX1_nearest_105 : decode cX1_nearest 105 = .ok (.lrem, 1) := by decide +kernel
theorem dX1_nearest_106 : decode cX1_nearest 106 = .ok (.lmul, 1) := by decide +kernel
theorem dX1_nearest_107 : decode cX1_nearest 107 = .ok (.lstore 13, 2) := by decide +kernel
theorem dX1_nearest_109 : decode cX1_nearest 109 = .ok (.lload 13, 2) := by decide +kernel
theorem dX1_nearest_111 : decode cX1_nearest 111 = .ok (.lload 8, 2) := by decide +kernel
theorem dX1_nearest_113 : decode cX1_nearest 113 = .ok (.lcmp, 1) := by decide +kernel
theorem dX1_nearest_114 : decode cX1_nearest 114 = .ok (.ifCond .gt 20, 3) := by decide +kernel
theorem dX1_nearest_117 : decode cX1_nearest 117 = .ok (.lload 13, 2) := by decide +kernel
theorem dX1_nearest_119 : decode cX1_nearest 119 = .ok (.lload 8, 2) := by decide +kernel
theorem dX1_nearest_121 : decode cX1_nearest 121 = .ok (.lcmp, 1) := by decide +kernel
theorem dX1_nearest_122 : decode cX1_nearest 122 = .ok (.ifCond .ne 18, 3) := by decide +kernel
theorem dX1_nearest_125 : decode cX1_nearest 125 = .ok (.lload 11, 2) := by decide +kernel
theorem dX1_nearest_127 : decode cX1_nearest 127 = .ok (.lconst 1, 1) := by decide +kernel
theorem dX1_nearest_128 : decode cX1_nearest 128 = .ok (.land, 1) := by decide +kernel
theorem dX1_nearest_129 : decode cX1_nearest 129 = .ok (.lconst 1, 1) := by decide +kernel
theorem dX1_nearest_130 : decode cX1_nearest 130 = .ok (.lcmp, 1) := by decide +kernel
theorem dX1_nearest_131 : decode cX1_nearest 131 = .ok (.ifCond .ne 9, 3) := by decide +kernel
theorem dX1_nearest_134 : decode cX1_nearest 134 = .ok (.lload 11, 2) := by decide +kernel
theorem dX1_nearest_136 : decode cX1_nearest 136 = .ok (.lconst 1, 1) := by decide +kernel
theorem dX1_nearest_137 : decode cX1_nearest 137 = .ok (.ladd, 1) := by decide +kernel
theorem dX1_nearest_138 : decode cX1_nearest 138 = .ok (.lstore 11, 2) := by decide +kernel
theorem dX1_nearest_140 : decode cX1_nearest 140 = .ok (.iload 10, 2) := by decide +kernel
theorem dX1_nearest_142 : decode cX1_nearest 142 = .ok (.lload 11, 2) := by decide +kernel
theorem dX1_nearest_144 : decode cX1_nearest 144 = .ok (.iload 4, 2) := by decide +kernel
theorem dX1_nearest_146 : decode cX1_nearest 146 = .ok (.iload 5, 2) := by decide +kernel
theorem dX1_nearest_148 : decode cX1_nearest 148 = .ok (.invokestatic 22, 3) := by decide +kernel
theorem dX1_nearest_151 : decode cX1_nearest 151 = .ok (.lreturn, 1) := by decide +kernel
theorem dX1_packed_0 : decode cX1_packed 0 = .ok (.iload_n 0, 1) := by decide +kernel
theorem dX1_packed_1 : decode cX1_packed 1 = .ok (.iload 4, 2) := by decide +kernel
theorem dX1_packed_3 : decode cX1_packed 3 = .ok (.iadd, 1) := by decide +kernel
theorem dX1_packed_4 : decode cX1_packed 4 = .ok (.i2l, 1) := by decide +kernel
theorem dX1_packed_5 : decode cX1_packed 5 = .ok (.iload_n 3, 1) := by decide +kernel
theorem dX1_packed_6 : decode cX1_packed 6 = .ok (.lshl, 1) := by decide +kernel
theorem dX1_packed_7 : decode cX1_packed 7 = .ok (.lload_n 1, 1) := by decide +kernel
theorem dX1_packed_8 : decode cX1_packed 8 = .ok (.ladd, 1) := by decide +kernel
theorem dX1_packed_9 : decode cX1_packed 9 = .ok (.lconst 1, 1) := by decide +kernel
theorem dX1_packed_10 : decode cX1_packed 10 = .ok (.iload_n 3, 1) := by decide +kernel
theorem dX1_packed_11 : decode cX1_packed 11 = .ok (.lshl, 1) := by decide +kernel
theorem dX1_packed_12 : decode cX1_packed 12 = .ok (.lsub, 1) := by decide +kernel
theorem dX1_packed_13 : decode cX1_packed 13 = .ok (.lreturn, 1) := by decide +kernel
theorem dX2_init_0 : decode cX2_init 0 = .ok (.aload_n 0, 1) := by decide +kernel
theorem dX2_init_1 : decode cX2_init 1 = .ok (.invokespecial 3, 3) := by decide +kernel
theorem dX2_init_4 : decode cX2_init 4 = .ok (.aload_n 0, 1) := by decide +kernel
theorem dX2_init_5 : decode cX2_init 5 = .ok (.bipush 32, 2) := by decide +kernel
theorem dX2_init_7 : decode cX2_init 7 = .ok (.newarray .int, 2) := by decide +kernel
theorem dX2_init_9 : decode cX2_init 9 = .ok (.putfield 9, 3) := by decide +kernel
theorem dX2_init_12 : decode cX2_init 12 = .ok (.aload_n 0, 1) := by decide +kernel
theorem dX2_init_13 : decode cX2_init 13 = .ok (.iconst (-1), 1) := by decide +kernel
theorem dX2_init_14 : decode cX2_init 14 = .ok (.putfield 15, 3) := by decide +kernel
theorem dX2_init_17 : decode cX2_init 17 = .ok (.aload_n 0, 1) := by decide +kernel
theorem dX2_init_18 : decode cX2_init 18 = .ok (.iconst 0, 1) := by decide +kernel
theorem dX2_init_19 : decode cX2_init 19 = .ok (.putfield 19, 3) := by decide +kernel
theorem dX2_init_22 : decode cX2_init 22 = .ok (.return_, 1) := by decide +kernel
theorem dX2_isNothing_0 : decode cX2_isNothing 0 = .ok (.aload_n 0, 1) := by decide +kernel
theorem dX2_isNothing_1 : decode cX2_isNothing 1 = .ok (.getfield 15, 3) := by decide +kernel
theorem dX2_isNothing_4 : decode cX2_isNothing 4 = .ok (.iconst (-1), 1) := by decide +kernel
theorem dX2_isNothing_5 : decode cX2_isNothing 5 = .ok (.if_icmp .ne 7, 3) := by decide +kernel
theorem dX2_isNothing_8 : decode cX2_isNothing 8 = .ok (.iconst 1, 1) := by decide +kernel
theorem dX2_isNothing_9 : decode cX2_isNothing 9 = .ok (.goto 4, 3) := by decide +kernel
theorem dX2_isNothing_12 : decode cX2_isNothing 12 = .ok (.iconst 0, 1) := by decide +kernel
theorem dX2_isNothing_13 : decode cX2_isNothing 13 = .ok (.ireturn, 1) := by decide +kernel
theorem dX2_drop_0 : decode cX2_drop 0 = .ok (.aload_n 0, 1) := by decide +kernel
theorem dX2_drop_1 : decode cX2_drop 1 = .ok (.iconst (-1), 1) := by decide +kernel
theorem dX2_drop_2 : decode cX2_drop 2 = .ok (.putfield 15, 3) := by decide +kernel
theorem dX2_drop_5 : decode cX2_drop 5 = .ok (.aload_n 0, 1) := by decide +kernel
theorem dX2_drop_6 : decode cX2_drop 6 = .ok (.iconst 0, 1) := by decide +kernel
theorem dX2_drop_7 : decode cX2_drop 7 = .ok (.putfield 19, 3) := by decide +kernel
theorem dX2_drop_10 : decode cX2_drop 10 = .ok (.return_, 1) := by decide +kernel
theorem dX2_renew_0 : decode cX2_renew 0 = .ok (.aload_n 0, 1) := by decide +kernel
theorem dX2_renew_1 : decode cX2_renew 1 = .ok (.iload_n 1, 1) := by decide +kernel
theorem dX2_renew_2 : decode cX2_renew 2 = .ok (.putfield 15, 3) := by decide +kernel
theorem dX2_renew_5 : decode cX2_renew 5 = .ok (.aload_n 0, 1) := by decide +kernel
theorem dX2_renew_6 : decode cX2_renew 6 = .ok (.iconst 0, 1) := by decide +kernel
theorem dX2_renew_7 : decode cX2_renew 7 = .ok (.iload_n 2, 1) := by decide +kernel
theorem dX2_renew_8 : decode cX2_renew 8 = .ok (.bipush 32, 2) := by decide +kernel
theorem dX2_renew_10 : decode cX2_renew 10 = .ok (.invokestatic 22, 3) := by decide +kernel
theorem dX2_renew_13 : decode cX2_renew 13 = .ok (.invokestatic 28, 3) := by decide +kernel
theorem dX2_renew_16 : decode cX2_renew 16 = .ok (.putfield 19, 3) := by decide +kernel
theorem dX2_renew_19 : decode cX2_renew 19 = .ok (.aload_n 0, 1) := by decide +kernel
theorem dX2_renew_20 : decode cX2_renew 20 = .ok (.getfield 9, 3) := by decide +kernel
theorem dX2_renew_23 : decode cX2_renew 23 = .ok (.iconst 0, 1) := by decide +kernel
theorem dX2_renew_24 : decode cX2_renew 24 = .ok (.invokestatic 31, 3) := by decide +kernel
theorem dX2_renew_27 : decode cX2_renew 27 = .ok (.return_, 1) := by decide +kernel
theorem dX2_hasPlace_0 : decode cX2_hasPlace 0 = .ok (.iload_n 1, 1) := by decide +kernel
theorem dX2_hasPlace_1 : decode cX2_hasPlace 1 = .ok (.ifCond .lt 15, 3) := by decide +kernel
theorem dX2_hasPlace_4 : decode cX2_hasPlace 4 = .ok (.iload_n 1, 1) := by decide +kernel
theorem dX2_hasPlace_5 : decode cX2_hasPlace 5 = .ok (.aload_n 0, 1) := by decide +kernel
theorem dX2_hasPlace_6 : decode cX2_hasPlace 6 = .ok (.getfield 19, 3) := by decide +kernel
theorem dX2_hasPlace_9 : decode cX2_hasPlace 9 = .ok (.if_icmp .ge 7, 3) := by decide +kernel
theorem dX2_hasPlace_12 : decode cX2_hasPlace 12 = .ok (.iconst 1, 1) := by decide +kernel
theorem dX2_hasPlace_13 : decode cX2_hasPlace 13 = .ok (.goto 4, 3) := by decide +kernel
theorem dX2_hasPlace_16 : decode cX2_hasPlace 16 = .ok (.iconst 0, 1) := by decide +kernel
theorem dX2_hasPlace_17 : decode cX2_hasPlace 17 = .ok (.ireturn, 1) := by decide +kernel
theorem dX2_number_0 : decode cX2_number 0 = .ok (.aload_n 0, 1) := by decide +kernel
theorem dX2_number_1 : decode cX2_number 1 = .ok (.iload_n 1, 1) := by decide +kernel
theorem dX2_number_2 : decode cX2_number 2 = .ok (.invokevirtual 37, 3) := by decide +kernel
theorem dX2_number_5 : decode cX2_number 5 = .ok (.ifCond .eq 12, 3) := by decide +kernel
theorem dX2_number_8 : decode cX2_number 8 = .ok (.aload_n 0, 1) := by decide +kernel
theorem dX2_number_9 : decode cX2_number 9 = .ok (.getfield 9, 3) := by decide +kernel
theorem dX2_number_12 : decode cX2_number 12 = .ok (.iload_n 1, 1) := by decide +kernel
theorem dX2_number_13 : decode cX2_number 13 = .ok (.iaload, 1) := by decide +kernel
theorem dX2_number_14 : decode cX2_number 14 = .ok (.goto 4, 3) := by decide +kernel
theorem dX2_number_17 : decode cX2_number 17 = .ok (.iconst 0, 1) := by decide +kernel
theorem dX2_number_18 : decode cX2_number 18 = .ok (.ireturn, 1) := by decide +kernel
theorem dX2_write_0 : decode cX2_write 0 = .ok (.aload_n 0, 1) := by decide +kernel
theorem dX2_write_1 : decode cX2_write 1 = .ok (.iload_n 1, 1) := by decide +kernel
theorem dX2_write_2 : decode cX2_write 2 = .ok (.invokevirtual 37, 3) := by decide +kernel
theorem dX2_write_5 : decode cX2_write 5 = .ok (.ifCond .eq 14, 3) := by decide +kernel
theorem dX2_write_8 : decode cX2_write 8 = .ok (.aload_n 0, 1) := by decide +kernel
theorem dX2_write_9 : decode cX2_write 9 = .ok (.getfield 9, 3) := by decide +kernel
theorem dX2_write_12 : decode cX2_write 12 = .ok (.iload_n 1, 1) := by decide +kernel
theorem dX2_write_13 : decode cX2_write 13 = .ok (.aload_n 0, 1) := by decide +kernel
theorem dX2_write_14 : decode cX2_write 14 = .ok (.iload_n 2, 1) := by decide +kernel
theorem dX2_write_15 : decode cX2_write 15 = .ok (.invokevirtual 41, 3) := by decide +kernel
theorem dX2_write_18 : decode cX2_write 18 = .ok (.iastore, 1) := by decide +kernel
theorem dX2_write_19 : decode cX2_write 19 = .ok (.return_, 1) := by decide +kernel
theorem dX2_faultAt_0 : decode cX2_faultAt 0 = .ok (.aload_n 0, 1) := by decide +kernel
theorem dX2_faultAt_1 : decode cX2_faultAt 1 = .ok (.invokevirtual 45, 3) := by decide +kernel
theorem dX2_faultAt_4 : decode cX2_faultAt 4 = .ok (.ifCond .eq 5, 3) := by decide +kernel
theorem dX2_faultAt_7 : decode cX2_faultAt 7 = .ok (.iconst 1, 1) := by decide +kernel
theorem dX2_faultAt_8 : decode cX2_faultAt 8 = .ok (.ireturn, 1) := by decide +kernel
theorem dX2_faultAt_9 : decode cX2_faultAt 9 = .ok (.aload_n 0, 1) := by decide +kernel
theorem dX2_faultAt_10 : decode cX2_faultAt 10 = .ok (.iload_n 1, 1) := by decide +kernel
theorem dX2_faultAt_11 : decode cX2_faultAt 11 = .ok (.invokevirtual 37, 3) := by decide +kernel
theorem dX2_faultAt_14 : decode cX2_faultAt 14 = .ok (.ifCond .eq 7, 3) := by decide +kernel
theorem dX2_faultAt_17 : decode cX2_faultAt 17 = .ok (.iconst 0, 1) := by decide +kernel
theorem dX2_faultAt_18 : decode cX2_faultAt 18 = .ok (.goto 4, 3) := by decide +kernel
theorem dX2_faultAt_21 : decode cX2_faultAt 21 = .ok (.iconst 3, 1) := by decide +kernel
theorem dX2_faultAt_22 : decode cX2_faultAt 22 = .ok (.ireturn, 1) := by decide +kernel
theorem dX2_faultOfCopy_0 : decode cX2_faultOfCopy 0 = .ok (.aload_n 0, 1) := by decide +kernel
theorem dX2_faultOfCopy_1 : decode cX2_faultOfCopy 1 = .ok (.invokevirtual 45, 3) := by decide +kernel
theorem dX2_faultOfCopy_4 : decode cX2_faultOfCopy 4 = .ok (.ifCond .ne 10, 3) := by decide +kernel
theorem dX2_faultOfCopy_7 : decode cX2_faultOfCopy 7 = .ok (.aload_n 2, 1) := by decide +kernel
theorem dX2_faultOfCopy_8 : decode cX2_faultOfCopy 8 = .ok (.invokevirtual 45, 3) := by decide +kernel
theorem dX2_faultOfCopy_11 : decode cX2_faultOfCopy 11 = .ok (.ifCond .eq 5, 3) := by decide +kernel
theorem dX2_faultOfCopy_14 : decode cX2_faultOfCopy 14 = .ok (.iconst 1, 1) := by decide +kernel
theorem dX2_faultOfCopy_15 : decode cX2_faultOfCopy 15 = .ok (.ireturn, 1) := by decide +kernel
theorem dX2_faultOfCopy_16 : decode cX2_faultOfCopy 16 = .ok (.aload_n 0, 1) := by decide +kernel
theorem dX2_faultOfCopy_17 : decode cX2_faultOfCopy 17 = .ok (.getfield 15, 3) := by decide +kernel
theorem dX2_faultOfCopy_20 : decode cX2_faultOfCopy 20 = .ok (.aload_n 2, 1) := by decide +kernel
theorem dX2_faultOfCopy_21 : decode cX2_faultOfCopy 21 = .ok (.getfield 15, 3) := by decide +kernel
theorem dX2_faultOfCopy_24 : decode cX2_faultOfCopy 24 = .ok (.if_icmp .eq 5, 3) := by decide +kernel
theorem dX2_faultOfCopy_27 : decode cX2_faultOfCopy 27 = .ok (.iconst 2, 1) := by decide +kernel
theorem dX2_faultOfCopy_28 : decode cX2_faultOfCopy 28 = .ok (.ireturn, 1) := by decide +kernel
theorem dX2_faultOfCopy_29 : decode cX2_faultOfCopy 29 = .ok (.aload_n 0, 1) := by decide +kernel
theorem dX2_faultOfCopy_30 : decode cX2_faultOfCopy 30 = .ok (.iload_n 1, 1) := by decide +kernel
theorem dX2_faultOfCopy_31 : decode cX2_faultOfCopy 31 = .ok (.iload 4, 2) := by decide +kernel
theorem dX2_faultOfCopy_33 : decode cX2_faultOfCopy 33 = .ok (.invokevirtual 49, 3) := by decide +kernel
theorem dX2_faultOfCopy_36 : decode cX2_faultOfCopy 36 = .ok (.ifCond .eq 17, 3) := by decide +kernel
theorem dX2_faultOfCopy_39 : decode cX2_faultOfCopy 39 = .ok (.aload_n 2, 1) := by decide +kernel
theorem dX2_faultOfCopy_40 : decode cX2_faultOfCopy 40 = .ok (.iload_n 3, 1) := by decide +kernel
theorem dX2_faultOfCopy_41 : decode cX2_faultOfCopy 41 = .ok (.iload 4, 2) := by decide +kernel
theorem dX2_faultOfCopy_43 : decode cX2_faultOfCopy 43 = .ok (.invokevirtual 49, 3) := by decide +kernel
theorem dX2_faultOfCopy_46 : decode cX2_faultOfCopy 46 = .ok (.ifCond .eq 7, 3) := by decide +kernel
theorem dX2_faultOfCopy_49 : decode cX2_faultOfCopy 49 = .ok (.iconst 0, 1) := by decide +kernel
theorem dX2_faultOfCopy_50 : decode cX2_faultOfCopy 50 = .ok (.goto 4, 3) := by decide +kernel
theorem dX2_faultOfCopy_53 : decode cX2_faultOfCopy 53 = .ok (.iconst 3, 1) := by decide +kernel
theorem dX2_faultOfCopy_54 : decode cX2_faultOfCopy 54 = .ok (.ireturn, 1) := by decide +kernel
theorem dX2_copyTo_0 : decode cX2_copyTo 0 = .ok (.aload_n 0, 1) := by decide +kernel
theorem dX2_copyTo_1 : decode cX2_copyTo 1 = .ok (.iload_n 1, 1) := by decide +kernel
theorem dX2_copyTo_2 : decode cX2_copyTo 2 = .ok (.iload 4, 2) := by decide +kernel
theorem dX2_copyTo_4 : decode cX2_copyTo 4 = .ok (.invokevirtual 49, 3) := by decide +kernel
theorem dX2_copyTo_7 : decode cX2_copyTo 7 = .ok (.ifCond .eq 28, 3) := by decide +kernel
theorem dX2_copyTo_10 : decode cX2_copyTo 10 = .ok (.aload_n 2, 1) := by decide +kernel
theorem dX2_copyTo_11 : decode cX2_copyTo 11 = .ok (.iload_n 3, 1) := by decide +kernel
theorem dX2_copyTo_12 : decode cX2_copyTo 12 = .ok (.iload 4, 2) := by decide +kernel
theorem dX2_copyTo_14 : decode cX2_copyTo 14 = .ok (.invokevirtual 49, 3) := by decide +kernel
theorem dX2_copyTo_17 : decode cX2_copyTo 17 = .ok (.ifCond .eq 18, 3) := by decide +kernel
theorem dX2_copyTo_20 : decode cX2_copyTo 20 = .ok (.aload_n 0, 1) := by decide +kernel
theorem dX2_copyTo_21 : decode cX2_copyTo 21 = .ok (.getfield 9, 3) := by decide +kernel
theorem dX2_copyTo_24 : decode cX2_copyTo 24 = .ok (.iload_n 1, 1) := by decide +kernel
theorem dX2_copyTo_25 : decode cX2_copyTo 25 = .ok (.aload_n 2, 1) := by decide +kernel
theorem dX2_copyTo_26 : decode cX2_copyTo 26 = .ok (.getfield 9, 3) := by decide +kernel
theorem dX2_copyTo_29 : decode cX2_copyTo 29 = .ok (.iload_n 3, 1) := by decide +kernel
theorem dX2_copyTo_30 : decode cX2_copyTo 30 = .ok (.iload 4, 2) := by decide +kernel
theorem dX2_copyTo_32 : decode cX2_copyTo 32 = .ok (.invokestatic 53, 3) := by decide +kernel
theorem dX2_copyTo_35 : decode cX2_copyTo 35 = .ok (.return_, 1) := by decide +kernel
theorem dX2_hasPart_0 : decode cX2_hasPart 0 = .ok (.iload_n 1, 1) := by decide +kernel
theorem dX2_hasPart_1 : decode cX2_hasPart 1 = .ok (.ifCond .lt 29, 3) := by decide +kernel
theorem dX2_hasPart_4 : decode cX2_hasPart 4 = .ok (.iload_n 2, 1) := by decide +kernel
theorem dX2_hasPart_5 : decode cX2_hasPart 5 = .ok (.ifCond .lt 25, 3) := by decide +kernel
theorem dX2_hasPart_8 : decode cX2_hasPart 8 = .ok (.iload_n 2, 1) := by decide +kernel
theorem dX2_hasPart_9 : decode cX2_hasPart 9 = .ok (.aload_n 0, 1) := by decide +kernel
theorem dX2_hasPart_10 : decode cX2_hasPart 10 = .ok (.getfield 19, 3) := by decide +kernel
theorem dX2_hasPart_13 : decode cX2_hasPart 13 = .ok (.if_icmp .gt 17, 3) := by decide +kernel
theorem dX2_hasPart_16 : decode cX2_hasPart 16 = .ok (.iload_n 1, 1) := by decide +kernel
theorem dX2_hasPart_17 : decode cX2_hasPart 17 = .ok (.aload_n 0, 1) := by decide +kernel
theorem dX2_hasPart_18 : decode cX2_hasPart 18 = .ok (.getfield 19, 3) := by decide +kernel
theorem dX2_hasPart_21 : decode cX2_hasPart 21 = .ok (.iload_n 2, 1) := by decide +kernel
theorem dX2_hasPart_22 : decode cX2_hasPart 22 = .ok (.isub, 1) := by decide +kernel
theorem dX2_hasPart_23 : decode cX2_hasPart 23 = .ok (.if_icmp .gt 7, 3) := by decide +kernel
theorem dX2_hasPart_26 : decode cX2_hasPart 26 = .ok (.iconst 1, 1) := by decide +kernel
theorem dX2_hasPart_27 : decode cX2_hasPart 27 = .ok (.goto 4, 3) := by decide +kernel
theorem dX2_hasPart_30 : decode cX2_hasPart 30 = .ok (.iconst 0, 1) := by decide +kernel
theorem dX2_hasPart_31 : decode cX2_hasPart 31 = .ok (.ireturn, 1) := by decide +kernel
theorem dX2_cut_0 : decode cX2_cut 0 = .ok (.aload_n 0, 1) := by decide +kernel
theorem dX2_cut_1 : decode cX2_cut 1 = .ok (.getfield 15, 3) := by decide +kernel
theorem dX2_cut_4 : decode cX2_cut 4 = .ok (.tableswitch 37 0 2 #[28, 31, 34], 28) := by decide +kernel
theorem dX2_cut_32 : decode cX2_cut 32 = .ok (.iload_n 1, 1) := by decide +kernel
theorem dX2_cut_33 : decode cX2_cut 33 = .ok (.i2b, 1) := by decide +kernel
theorem dX2_cut_34 : decode cX2_cut 34 = .ok (.ireturn, 1) := by decide +kernel
theorem dX2_cut_35 : decode cX2_cut 35 = .ok (.iload_n 1, 1) := by decide +kernel
theorem dX2_cut_36 : decode cX2_cut 36 = .ok (.i2c, 1) := by decide +kernel
theorem dX2_cut_37 : decode cX2_cut 37 = .ok (.ireturn, 1) := by decide +kernel
theorem dX2_cut_38 : decode cX2_cut 38 = .ok (.iload_n 1, 1) := by decide +kernel
theorem dX2_cut_39 : decode cX2_cut 39 = .ok (.i2s, 1) := by decide +kernel
theorem dX2_cut_40 : decode cX2_cut 40 = .ok (.ireturn, 1) := by decide +kernel
theorem dX2_cut_41 : decode cX2_cut 41 = .ok (.iload_n 1, 1) := by decide +kernel
theorem dX2_cut_42 : decode cX2_cut 42 = .ok (.ifCond .eq 7, 3) := by decide +kernel
theorem dX2_cut_45 : decode cX2_cut 45 = .ok (.iconst 1, 1) := by decide +kernel
theorem dX2_cut_46 : decode cX2_cut 46 = .ok (.goto 4, 3) := by decide +kernel
theorem dX2_cut_49 : decode cX2_cut 49 = .ok (.iconst 0, 1) := by decide +kernel
theorem dX2_cut_50 : decode cX2_cut 50 = .ok (.ireturn, 1) := by decide +kernel
theorem dX3_init_0 : decode cX3_init 0 = .ok (.aload_n 0, 1) := by decide +kernel
theorem dX3_init_1 : decode cX3_init 1 = .ok (.invokespecial 3, 3) := by decide +kernel
theorem dX3_init_4 : decode cX3_init 4 = .ok (.aload_n 0, 1) := by decide +kernel
theorem dX3_init_5 : decode cX3_init 5 = .ok (.bipush 86, 2) := by decide +kernel
theorem dX3_init_7 : decode cX3_init 7 = .ok (.newarray .int, 2) := by decide +kernel
theorem dX3_init_9 : decode cX3_init 9 = .ok (.putfield 11, 3) := by decide +kernel
theorem dX3_init_12 : decode cX3_init 12 = .ok (.aload_n 0, 1) := by decide +kernel
theorem dX3_init_13 : decode cX3_init 13 = .ok (.bipush 33, 2) := by decide +kernel
theorem dX3_init_15 : decode cX3_init 15 = .ok (.newarray .int, 2) := by decide +kernel
theorem dX3_init_17 : decode cX3_init 17 = .ok (.putfield 15, 3) := by decide +kernel
theorem dX3_init_20 : decode cX3_init 20 = .ok (.aload_n 0, 1) := by decide +kernel
theorem dX3_init_21 : decode cX3_init 21 = .ok (.bipush 33, 2) := by decide +kernel
theorem dX3_init_23 : decode cX3_init 23 = .ok (.newarray .boolean, 2) := by decide +kernel
theorem dX3_init_25 : decode cX3_init 25 = .ok (.putfield 18, 3) := by decide +kernel
theorem dX3_init_28 : decode cX3_init 28 = .ok (.aload_n 0, 1) := by decide +kernel
theorem dX3_init_29 : decode cX3_init 29 = .ok (.iconst 0, 1) := by decide +kernel
theorem dX3_init_30 : decode cX3_init 30 = .ok (.putfield 22, 3) := by decide +kernel
theorem dX3_init_33 : decode cX3_init 33 = .ok (.aload_n 0, 1) := by decide +kernel
theorem dX3_init_34 : decode cX3_init 34 = .ok (.iconst 0, 1) := by decide +kernel
theorem dX3_init_35 : decode cX3_init 35 = .ok (.putfield 26, 3) := by decide +kernel
theorem dX3_init_38 : decode cX3_init 38 = .ok (.aload_n 0, 1) := by decide +kernel
theorem dX3_init_39 : decode cX3_init 39 = .ok (.iconst 0, 1) := by decide +kernel
theorem dX3_init_40 : decode cX3_init 40 = .ok (.putfield 29, 3) := by decide +kernel
theorem dX3_init_43 : decode cX3_init 43 = .ok (.return_, 1) := by decide +kernel
theorem dX3_attempts_0 : decode cX3_attempts 0 = .ok (.aload_n 0, 1) := by decide +kernel
theorem dX3_attempts_1 : decode cX3_attempts 1 = .ok (.getfield 22, 3) := by decide +kernel
theorem dX3_attempts_4 : decode cX3_attempts 4 = .ok (.ireturn, 1) := by decide +kernel
theorem dX3_attempt_0 : decode cX3_attempt 0 = .ok (.iload_n 1, 1) := by decide +kernel
theorem dX3_attempt_1 : decode cX3_attempt 1 = .ok (.ifCond .lt 20, 3) := by decide +kernel
theorem dX3_attempt_4 : decode cX3_attempt 4 = .ok (.iload_n 1, 1) := by decide +kernel
theorem dX3_attempt_5 : decode cX3_attempt 5 = .ok (.aload_n 0, 1) := by decide +kernel
theorem dX3_attempt_6 : decode cX3_attempt 6 = .ok (.getfield 22, 3) := by decide +kernel
theorem dX3_attempt_9 : decode cX3_attempt 9 = .ok (.if_icmp .ge 12, 3) := by decide +kernel
theorem dX3_attempt_12 : decode cX3_attempt 12 = .ok (.aload_n 0, 1) := by decide +kernel
theorem dX3_attempt_13 : decode cX3_attempt 13 = .ok (.getfield 15, 3) := by decide +kernel
theorem dX3_attempt_16 : decode cX3_attempt 16 = .ok (.iload_n 1, 1) := by decide +kernel
theorem dX3_attempt_17 : decode cX3_attempt 17 = .ok (.iaload, 1) := by decide +kernel
theorem dX3_attempt_18 : decode cX3_attempt 18 = .ok (.goto 4, 3) := by decide +kernel
theorem dX3_attempt_21 : decode cX3_attempt 21 = .ok (.iconst 0, 1) := by decide +kernel
theorem dX3_attempt_22 : decode cX3_attempt 22 = .ok (.ireturn, 1) := by decide +kernel
theorem dX3_sharpest_0 : decode cX3_sharpest 0 = .ok (.aload_n 0, 1) := by decide +kernel
theorem dX3_sharpest_1 : decode cX3_sharpest 1 = .ok (.getfield 26, 3) := by decide +kernel
theorem dX3_sharpest_4 : decode cX3_sharpest 4 = .ok (.ireturn, 1) := by decide +kernel
theorem dX3_countAt_0 : decode cX3_countAt 0 = .ok (.aload_n 0, 1) := by decide +kernel
theorem dX3_countAt_1 : decode cX3_countAt 1 = .ok (.aload_n 1, 1) := by decide +kernel
theorem dX3_countAt_2 : decode cX3_countAt 2 = .ok (.iload_n 2, 1) := by decide +kernel
theorem dX3_countAt_3 : decode cX3_countAt 3 = .ok (.iload_n 3, 1) := by decide +kernel
theorem dX3_countAt_4 : decode cX3_countAt 4 = .ok (.invokevirtual 32, 3) := by decide +kernel
theorem dX3_countAt_7 : decode cX3_countAt 7 = .ok (.iload 4, 2) := by decide +kernel
theorem dX3_countAt_9 : decode cX3_countAt 9 = .ok (.bipush (-31), 2) := by decide +kernel
theorem dX3_countAt_11 : decode cX3_countAt 11 = .ok (.if_icmp .lt 23, 3) := by decide +kernel
theorem dX3_countAt_14 : decode cX3_countAt 14 = .ok (.iload 4, 2) := by decide +kernel
theorem dX3_countAt_16 : decode cX3_countAt 16 = .ok (.bipush 54, 2) := by decide +kernel
theorem dX3_countAt_18 : decode cX3_countAt 18 = .ok (.if_icmp .gt 16, 3) := by decide +kernel
theorem dX3_countAt_21 : decode cX3_countAt 21 = .ok (.aload_n 0, 1) := by decide +kernel
theorem dX3_countAt_22 : decode cX3_countAt 22 = .ok (.getfield 11, 3) := by decide +kernel
theorem dX3_countAt_25 : decode cX3_countAt 25 = .ok (.iload 4, 2) := by decide +kernel
theorem dX3_countAt_27 : decode cX3_countAt 27 = .ok (.bipush (-31), 2) := by decide +kernel
theorem dX3_countAt_29 : decode cX3_countAt 29 = .ok (.isub, 1) := by decide +kernel
theorem dX3_countAt_30 : decode cX3_countAt 30 = .ok (.iaload, 1) := by decide +kernel
theorem dX3_countAt_31 : decode cX3_countAt 31 = .ok (.goto 4, 3) := by decide +kernel
theorem dX3_countAt_34 : decode cX3_countAt 34 = .ok (.iconst 0, 1) := by decide +kernel
theorem dX3_countAt_35 : decode cX3_countAt 35 = .ok (.ireturn, 1) := by decide +kernel
theorem dX3_sharpness_0 : decode cX3_sharpness 0 = .ok (.aload_n 0, 1) := by decide +kernel
theorem dX3_sharpness_1 : decode cX3_sharpness 1 = .ok (.aload_n 1, 1) := by decide +kernel
theorem dX3_sharpness_2 : decode cX3_sharpness 2 = .ok (.iload_n 2, 1) := by decide +kernel
theorem dX3_sharpness_3 : decode cX3_sharpness 3 = .ok (.iload_n 3, 1) := by decide +kernel
theorem dX3_sharpness_4 : decode cX3_sharpness 4 = .ok (.invokevirtual 32, 3) := by decide +kernel
theorem dX3_sharpness_7 : decode cX3_sharpness 7 = .ok (.iconst 0, 1) := by decide +kernel
theorem dX3_sharpness_8 : decode cX3_sharpness 8 = .ok (.istore 4, 2) := by decide +kernel
theorem dX3_sharpness_10 : decode cX3_sharpness 10 = .ok (.iconst 0, 1) := by decide +kernel
theorem dX3_sharpness_11 : decode cX3_sharpness 11 = .ok (.istore 5, 2) := by decide +kernel
theorem dX3_sharpness_13 : decode cX3_sharpness 13 = .ok (.aload_n 0, 1) := by decide +kernel
theorem dX3_sharpness_14 : decode cX3_sharpness 14 = .ok (.getfield 11, 3) := by decide +kernel
theorem dX3_sharpness_17 : decode cX3_sharpness 17 = .ok (.astore 6, 2) := by decide +kernel
theorem dX3_sharpness_19 : decode cX3_sharpness 19 = .ok (.aload 6, 2) := by decide +kernel
theorem dX3_sharpness_21 : decode cX3_sharpness 21 = .ok (.arraylength, 1) := by decide +kernel
theorem dX3_sharpness_22 : decode cX3_sharpness 22 = .ok (.istore 7, 2) := by decide +kernel
theorem dX3_sharpness_24 : decode cX3_sharpness 24 = .ok (.iconst 0, 1) := by decide +kernel
theorem dX3_sharpness_25 : decode cX3_sharpness 25 = .ok (.istore 8, 2) := by decide +kernel
theorem dX3_sharpness_27 : decode cX3_sharpness 27 = .ok (.iload 8, 2) := by decide +kernel
theorem dX3_sharpness_29 : decode cX3_sharpness 29 = .ok (.iload 7, 2) := by decide +kernel
theorem dX3_sharpness_31 : decode cX3_sharpness 31 = .ok (.if_icmp .ge 36, 3) := by decide +kernel
theorem dX3_sharpness_34 : decode cX3_sharpness 34 = .ok (.aload 6, 2) := by decide +kernel
theorem dX3_sharpness_36 : decode cX3_sharpness 36 = .ok (.iload 8, 2) := by decide +kernel
theorem dX3_sharpness_38 : decode cX3_sharpness 38 = .ok (.iaload, 1) := by decide +kernel
theorem dX3_sharpness_39 : decode cX3_sharpness 39 = .ok (.istore 9, 2) := by decide +kernel
theorem dX3_sharpness_41 : decode cX3_sharpness 41 = .ok (.iload 4, 2) := by decide +kernel
theorem dX3_sharpness_43 : decode cX3_sharpness 43 = .ok (.iload 9, 2) := by decide +kernel
theorem dX3_sharpness_45 : decode cX3_sharpness 45 = .ok (.iload 5, 2) := by decide +kernel
theorem dX3_sharpness_47 : decode cX3_sharpness 47 = .ok (.isub, 1) := by decide +kernel
theorem dX3_sharpness_48 : decode cX3_sharpness 48 = .ok (.iload 9, 2) := by decide +kernel
theorem dX3_sharpness_50 : decode cX3_sharpness 50 = .ok (.iload 5, 2) := by decide +kernel
theorem dX3_sharpness_52 : decode cX3_sharpness 52 = .ok (.isub, 1) := by decide +kernel
theorem dX3_sharpness_53 : decode cX3_sharpness 53 = .ok (.imul, 1) := by decide +kernel
theorem dX3_sharpness_54 : decode cX3_sharpness 54 = .ok (.iadd, 1) := by decide +kernel
theorem dX3_sharpness_55 : decode cX3_sharpness 55 = .ok (.istore 4, 2) := by decide +kernel
theorem dX3_sharpness_57 : decode cX3_sharpness 57 = .ok (.iload 9, 2) := by decide +kernel
theorem dX3_sharpness_59 : decode cX3_sharpness 59 = .ok (.istore 5, 2) := by decide +kernel
theorem dX3_sharpness_61 : decode cX3_sharpness 61 = .ok (.iinc 8 1, 3) := by decide +kernel
theorem dX3_sharpness_64 : decode cX3_sharpness 64 = .ok (.goto (-37), 3) := by decide +kernel
theorem dX3_sharpness_67 : decode cX3_sharpness 67 = .ok (.iload 4, 2) := by decide +kernel
theorem dX3_sharpness_69 : decode cX3_sharpness 69 = .ok (.iload 5, 2) := by decide +kernel
theorem dX3_sharpness_71 : decode cX3_sharpness 71 = .ok (.iload 5, 2) := by decide +kernel
theorem dX3_sharpness_73 : decode cX3_sharpness 73 = .ok (.imul, 1) := by decide +kernel
theorem dX3_sharpness_74 : decode cX3_sharpness 74 = .ok (.iadd, 1) := by decide +kernel
theorem dX3_sharpness_75 : decode cX3_sharpness 75 = .ok (.ireturn, 1) := by decide +kernel
theorem dX3_tryAll_0 : decode cX3_tryAll 0 = .ok (.aload_n 0, 1) := by decide +kernel
theorem dX3_tryAll_1 : decode cX3_tryAll 1 = .ok (.invokevirtual 36, 3) := by decide +kernel
theorem dX3_tryAll_4 : decode cX3_tryAll 4 = .ok (.bipush (-16), 2) := by decide +kernel
theorem dX3_tryAll_6 : decode cX3_tryAll 6 = .ok (.istore_n 3, 1) := by decide +kernel
theorem dX3_tryAll_7 : decode cX3_tryAll 7 = .ok (.iload_n 3, 1) := by decide +kernel
theorem dX3_tryAll_8 : decode cX3_tryAll 8 = .ok (.bipush 16, 2) := by decide +kernel
theorem dX3_tryAll_10 : decode cX3_tryAll 10 = .ok (.if_icmp .gt 16, 3) := by decide +kernel
theorem dX3_tryAll_13 : decode cX3_tryAll 13 = .ok (.aload_n 0, 1) := by decide +kernel
theorem dX3_tryAll_14 : decode cX3_tryAll 14 = .ok (.aload_n 1, 1) := by decide +kernel
theorem dX3_tryAll_15 : decode cX3_tryAll 15 = .ok (.iload_n 2, 1) := by decide +kernel
theorem dX3_tryAll_16 : decode cX3_tryAll 16 = .ok (.iload_n 3, 1) := by decide +kernel
theorem dX3_tryAll_17 : decode cX3_tryAll 17 = .ok (.invokevirtual 39, 3) := by decide +kernel
theorem dX3_tryAll_20 : decode cX3_tryAll 20 = .ok (.iinc 3 1, 3) := by decide +kernel
theorem dX3_tryAll_23 : decode cX3_tryAll 23 = .ok (.goto (-16), 3) := by decide +kernel
theorem dX3_tryAll_26 : decode cX3_tryAll 26 = .ok (.return_, 1) := by decide +kernel
theorem dX3_search_0 : decode cX3_search 0 = .ok (.aload_n 0, 1) := by decide +kernel
theorem dX3_search_1 : decode cX3_search 1 = .ok (.invokevirtual 36, 3) := by decide +kernel
theorem dX3_search_4 : decode cX3_search 4 = .ok (.bipush (-16), 2) := by decide +kernel
theorem dX3_search_6 : decode cX3_search 6 = .ok (.istore_n 3, 1) := by decide +kernel
theorem dX3_search_7 : decode cX3_search 7 = .ok (.iload_n 3, 1) := by decide +kernel
theorem dX3_search_8 : decode cX3_search 8 = .ok (.bipush 16, 2) := by decide +kernel
theorem dX3_search_10 : decode cX3_search 10 = .ok (.if_icmp .gt 16, 3) := by decide +kernel
theorem dX3_search_13 : decode cX3_search 13 = .ok (.aload_n 0, 1) := by decide +kernel
theorem dX3_search_14 : decode cX3_search 14 = .ok (.aload_n 1, 1) := by decide +kernel
theorem dX3_search_15 : decode cX3_search 15 = .ok (.iload_n 2, 1) := by decide +kernel
theorem dX3_search_16 : decode cX3_search 16 = .ok (.iload_n 3, 1) := by decide +kernel
theorem dX3_search_17 : decode cX3_search 17 = .ok (.invokevirtual 39, 3) := by decide +kernel
theorem dX3_search_20 : decode cX3_search 20 = .ok (.iinc 3 8, 3) := by decide +kernel
theorem dX3_search_23 : decode cX3_search 23 = .ok (.goto (-16), 3) := by decide +kernel
theorem dX3_search_26 : decode cX3_search 26 = .ok (.iconst 4, 1) := by decide +kernel
theorem dX3_search_27 : decode cX3_search 27 = .ok (.istore_n 3, 1) := by decide +kernel
theorem dX3_search_28 : decode cX3_search 28 = .ok (.iload_n 3, 1) := by decide +kernel
theorem dX3_search_29 : decode cX3_search 29 = .ok (.iconst 1, 1) := by decide +kernel
theorem dX3_search_30 : decode cX3_search 30 = .ok (.if_icmp .lt 36, 3) := by decide +kernel
theorem dX3_search_33 : decode cX3_search 33 = .ok (.aload_n 0, 1) := by decide +kernel
theorem dX3_search_34 : decode cX3_search 34 = .ok (.getfield 26, 3) := by decide +kernel
theorem dX3_search_37 : decode cX3_search 37 = .ok (.istore 4, 2) := by decide +kernel
theorem dX3_search_39 : decode cX3_search 39 = .ok (.aload_n 0, 1) := by decide +kernel
theorem dX3_search_40 : decode cX3_search 40 = .ok (.aload_n 1, 1) := by decide +kernel
theorem dX3_search_41 : decode cX3_search 41 = .ok (.iload_n 2, 1) := by decide +kernel
theorem dX3_search_42 : decode cX3_search 42 = .ok (.iload 4, 2) := by decide +kernel
theorem dX3_search_44 : decode cX3_search 44 = .ok (.iload_n 3, 1) := by decide +kernel
theorem dX3_search_45 : decode cX3_search 45 = .ok (.isub, 1) := by decide +kernel
theorem dX3_search_46 : decode cX3_search 46 = .ok (.invokevirtual 39, 3) := by decide +kernel
theorem dX3_search_49 : decode cX3_search 49 = .ok (.aload_n 0, 1) := by decide +kernel
theorem dX3_search_50 : decode cX3_search 50 = .ok (.aload_n 1, 1) := by decide +kernel
theorem dX3_search_51 : decode cX3_search 51 = .ok (.iload_n 2, 1) := by decide +kernel
theorem dX3_search_52 : decode cX3_search 52 = .ok (.iload 4, 2) := by decide +kernel
theorem dX3_search_54 : decode cX3_search 54 = .ok (.iload_n 3, 1) := by decide +kernel
theorem dX3_search_55 : decode cX3_search 55 = .ok (.iadd, 1) := by decide +kernel
theorem dX3_search_56 : decode cX3_search 56 = .ok (.invokevirtual 39, 3) := by decide +kernel
theorem dX3_search_59 : decode cX3_search 59 = .ok (.iload_n 3, 1) := by decide +kernel
theorem dX3_search_60 : decode cX3_search 60 = .ok (.iconst 2, 1) := by decide +kernel
theorem dX3_search_61 : decode cX3_search 61 = .ok (.idiv, 1) := by decide +kernel
theorem dX3_search_62 : decode cX3_search 62 = .ok (.istore_n 3, 1) := by decide +kernel
theorem dX3_search_63 : decode cX3_search 63 = .ok (.goto (-35), 3) := by decide +kernel
theorem dX3_search_66 : decode cX3_search 66 = .ok (.return_, 1) := by decide +kernel
theorem dX3_begin_0 : decode cX3_begin 0 = .ok (.aload_n 0, 1) := by decide +kernel
theorem dX3_begin_1 : decode cX3_begin 1 = .ok (.iconst 0, 1) := by decide +kernel
theorem dX3_begin_2 : decode cX3_begin 2 = .ok (.putfield 22, 3) := by decide +kernel
theorem dX3_begin_5 : decode cX3_begin 5 = .ok (.iconst 0, 1) := by decide +kernel
theorem dX3_begin_6 : decode cX3_begin 6 = .ok (.istore_n 1, 1) := by decide +kernel
theorem dX3_begin_7 : decode cX3_begin 7 = .ok (.iload_n 1, 1) := by decide +kernel
theorem dX3_begin_8 : decode cX3_begin 8 = .ok (.aload_n 0, 1) := by decide +kernel
theorem dX3_begin_9 : decode cX3_begin 9 = .ok (.getfield 18, 3) := by decide +kernel
theorem dX3_begin_12 : decode cX3_begin 12 = .ok (.arraylength, 1) := by decide +kernel
theorem dX3_begin_13 : decode cX3_begin 13 = .ok (.if_icmp .ge 16, 3) := by decide +kernel
theorem dX3_begin_16 : decode cX3_begin 16 = .ok (.aload_n 0, 1) := by decide +kernel
theorem dX3_begin_17 : decode cX3_begin 17 = .ok (.getfield 18, 3) := by decide +kernel
theorem dX3_begin_20 : decode cX3_begin 20 = .ok (.iload_n 1, 1) := by decide +kernel
theorem dX3_begin_21 : decode cX3_begin 21 = .ok (.iconst 0, 1) := by decide +kernel
theorem dX3_begin_22 : decode cX3_begin 22 = .ok (.bastore, 1) := by decide +kernel
theorem dX3_begin_23 : decode cX3_begin 23 = .ok (.iinc 1 1, 3) := by decide +kernel
theorem dX3_begin_26 : decode cX3_begin 26 = .ok (.goto (-19), 3) := by decide +kernel
theorem dX3_begin_29 : decode cX3_begin 29 = .ok (.return_, 1) := by decide +kernel
theorem dX3_attemptAt_0 : decode cX3_attemptAt 0 = .ok (.iload_n 3, 1) := by decide +kernel
theorem dX3_attemptAt_1 : decode cX3_attemptAt 1 = .ok (.invokestatic 42, 3) := by decide +kernel
theorem dX3_attemptAt_4 : decode cX3_attemptAt 4 = .ok (.ifCond .eq 27, 3) := by decide +kernel
theorem dX3_attemptAt_7 : decode cX3_attemptAt 7 = .ok (.aload_n 0, 1) := by decide +kernel
theorem dX3_attemptAt_8 : decode cX3_attemptAt 8 = .ok (.getfield 18, 3) := by decide +kernel
theorem dX3_attemptAt_11 : decode cX3_attemptAt 11 = .ok (.iload_n 3, 1) := by decide +kernel
theorem dX3_attemptAt_12 : decode cX3_attemptAt 12 = .ok (.bipush 16, 2) := by decide +kernel
theorem dX3_attemptAt_14 : decode cX3_attemptAt 14 = .ok (.iadd, 1) := by decide +kernel
theorem dX3_attemptAt_15 : decode cX3_attemptAt 15 = .ok (.baload, 1) := by decide +kernel
theorem dX3_attemptAt_16 : decode cX3_attemptAt 16 = .ok (.ifCond .ne 15, 3) := by decide +kernel
theorem dX3_attemptAt_19 : decode cX3_attemptAt 19 = .ok (.aload_n 0, 1) := by decide +kernel
theorem dX3_attemptAt_20 : decode cX3_attemptAt 20 = .ok (.getfield 22, 3) := by decide +kernel
theorem dX3_attemptAt_23 : decode cX3_attemptAt 23 = .ok (.aload_n 0, 1) := by decide +kernel
theorem dX3_attemptAt_24 : decode cX3_attemptAt 24 = .ok (.getfield 15, 3) := by decide +kernel
theorem dX3_attemptAt_27 : decode cX3_attemptAt 27 = .ok (.arraylength, 1) := by decide +kernel
theorem dX3_attemptAt_28 : decode cX3_attemptAt 28 = .ok (.if_icmp .lt 4, 3) := by decide +kernel
theorem dX3_attemptAt_31 : decode cX3_attemptAt 31 = .ok (.return_, 1) := by decide +kernel
theorem dX3_attemptAt_32 : decode cX3_attemptAt 32 = .ok (.aload_n 0, 1) := by decide +kernel
theorem dX3_attemptAt_33 : decode cX3_attemptAt 33 = .ok (.aload_n 1, 1) := by decide +kernel
theorem dX3_attemptAt_34 : decode cX3_attemptAt 34 = .ok (.iload_n 2, 1) := by decide +kernel
theorem dX3_attemptAt_35 : decode cX3_attemptAt 35 = .ok (.iload_n 3, 1) := by decide +kernel
theorem dX3_attemptAt_36 : decode cX3_attemptAt 36 = .ok (.invokevirtual 46, 3) := by decide +kernel
theorem dX3_attemptAt_39 : decode cX3_attemptAt 39 = .ok (.istore 4, 2) := by decide +kernel
theorem dX3_attemptAt_41 : decode cX3_attemptAt 41 = .ok (.aload_n 0, 1) := by decide +kernel
theorem dX3_attemptAt_42 : decode cX3_attemptAt 42 = .ok (.getfield 22, 3) := by decide +kernel
theorem dX3_attemptAt_45 : decode cX3_attemptAt 45 = .ok (.ifCond .eq 13, 3) := by decide +kernel
theorem dX3_attemptAt_48 : decode cX3_attemptAt 48 = .ok (.aload_n 0, 1) := by decide +kernel
theorem dX3_attemptAt_49 : decode cX3_attemptAt 49 = .ok (.iload 4, 2) := by decide +kernel
theorem dX3_attemptAt_51 : decode cX3_attemptAt 51 = .ok (.iload_n 3, 1) := by decide +kernel
theorem dX3_attemptAt_52 : decode cX3_attemptAt 52 = .ok (.invokevirtual 50, 3) := by decide +kernel
theorem dX3_attemptAt_55 : decode cX3_attemptAt 55 = .ok (.ifCond .eq 14, 3) := by decide +kernel
theorem dX3_attemptAt_58 : decode cX3_attemptAt 58 = .ok (.aload_n 0, 1) := by decide +kernel
theorem dX3_attemptAt_59 : decode cX3_attemptAt 59 = .ok (.iload 4, 2) := by decide +kernel
theorem dX3_attemptAt_61 : decode cX3_attemptAt 61 = .ok (.putfield 29, 3) := by decide +kernel
theorem dX3_attemptAt_64 : decode cX3_attemptAt 64 = .ok (.aload_n 0, 1) := by decide +kernel
theorem dX3_attemptAt_65 : decode cX3_attemptAt 65 = .ok (.iload_n 3, 1) := by decide +kernel
theorem dX3_attemptAt_66 : decode cX3_attemptAt 66 = .ok (.putfield 26, 3) := by decide +kernel
theorem dX3_attemptAt_69 : decode cX3_attemptAt 69 = .ok (.aload_n 0, 1) := by decide +kernel
theorem dX3_attemptAt_70 : decode cX3_attemptAt 70 = .ok (.getfield 18, 3) := by decide +kernel
theorem dX3_attemptAt_73 : decode cX3_attemptAt 73 = .ok (.iload_n 3, 1) := by decide +kernel
theorem dX3_attemptAt_74 : decode cX3_attemptAt 74 = .ok (.bipush 16, 2) := by decide +kernel
theorem dX3_attemptAt_76 : decode cX3_attemptAt 76 = .ok (.iadd, 1) := by decide +kernel
theorem dX3_attemptAt_77 : decode cX3_attemptAt 77 = .ok (.iconst 1, 1) := by decide +kernel
theorem dX3_attemptAt_78 : decode cX3_attemptAt 78 = .ok (.bastore, 1) := by decide +kernel
theorem dX3_attemptAt_79 : decode cX3_attemptAt 79 = .ok (.aload_n 0, 1) := by decide +kernel
theorem dX3_attemptAt_80 : decode cX3_attemptAt 80 = .ok (.getfield 15, 3) := by decide +kernel
theorem dX3_attemptAt_83 : decode cX3_attemptAt 83 = .ok (.aload_n 0, 1) := by decide +kernel
theorem dX3_attemptAt_84 : decode cX3_attemptAt 84 = .ok (.getfield 22, 3) := by decide +kernel
theorem dX3_attemptAt_87 : decode cX3_attemptAt 87 = .ok (.iload_n 3, 1) := by decide +kernel
theorem dX3_attemptAt_88 : decode cX3_attemptAt 88 = .ok (.iastore, 1) := by decide +kernel
theorem dX3_attemptAt_89 : decode cX3_attemptAt 89 = .ok (.aload_n 0, 1) := by decide +kernel
theorem dX3_attemptAt_90 : decode cX3_attemptAt 90 = .ok (.dup, 1) := by decide +kernel
theorem dX3_attemptAt_91 : decode cX3_attemptAt 91 = .ok (.getfield 22, 3) := by decide +kernel
theorem dX3_attemptAt_94 : decode cX3_attemptAt 94 = .ok (.iconst 1, 1) := by decide +kernel
theorem dX3_attemptAt_95 : decode cX3_attemptAt 95 = .ok (.iadd, 1) := by decide +kernel
theorem dX3_attemptAt_96 : decode cX3_attemptAt 96 = .ok (.putfield 22, 3) := by decide +kernel
theorem dX3_attemptAt_99 : decode cX3_attemptAt 99 = .ok (.return_, 1) := by decide +kernel
theorem dX3_isBetter_0 : decode cX3_isBetter 0 = .ok (.iload_n 1, 1) := by decide +kernel
theorem dX3_isBetter_1 : decode cX3_isBetter 1 = .ok (.aload_n 0, 1) := by decide +kernel
theorem dX3_isBetter_2 : decode cX3_isBetter 2 = .ok (.getfield 29, 3) := by decide +kernel
theorem dX3_isBetter_5 : decode cX3_isBetter 5 = .ok (.if_icmp .eq 17, 3) := by decide +kernel
theorem dX3_isBetter_8 : decode cX3_isBetter 8 = .ok (.iload_n 1, 1) := by decide +kernel
theorem dX3_isBetter_9 : decode cX3_isBetter 9 = .ok (.aload_n 0, 1) := by decide +kernel
theorem dX3_isBetter_10 : decode cX3_isBetter 10 = .ok (.getfield 29, 3) := by decide +kernel
theorem dX3_isBetter_13 : decode cX3_isBetter 13 = .ok (.if_icmp .le 7, 3) := by decide +kernel
theorem dX3_isBetter_16 : decode cX3_isBetter 16 = .ok (.iconst 1, 1) := by decide +kernel
theorem dX3_isBetter_17 : decode cX3_isBetter 17 = .ok (.goto 4, 3) := by decide +kernel
theorem dX3_isBetter_20 : decode cX3_isBetter 20 = .ok (.iconst 0, 1) := by decide +kernel
theorem dX3_isBetter_21 : decode cX3_isBetter 21 = .ok (.ireturn, 1) := by decide +kernel
theorem dX3_isBetter_22 : decode cX3_isBetter 22 = .ok (.iload_n 2, 1) := by decide +kernel
theorem dX3_isBetter_23 : decode cX3_isBetter 23 = .ok (.invokestatic 54, 3) := by decide +kernel
theorem dX3_isBetter_26 : decode cX3_isBetter 26 = .ok (.aload_n 0, 1) := by decide +kernel
theorem dX3_isBetter_27 : decode cX3_isBetter 27 = .ok (.getfield 26, 3) := by decide +kernel
theorem dX3_isBetter_30 : decode cX3_isBetter 30 = .ok (.invokestatic 54, 3) := by decide +kernel
theorem dX3_isBetter_33 : decode cX3_isBetter 33 = .ok (.if_icmp .eq 23, 3) := by decide +kernel
theorem dX3_isBetter_36 : decode cX3_isBetter 36 = .ok (.iload_n 2, 1) := by decide +kernel
theorem dX3_isBetter_37 : decode cX3_isBetter 37 = .ok (.invokestatic 54, 3) := by decide +kernel
theorem dX3_isBetter_40 : decode cX3_isBetter 40 = .ok (.aload_n 0, 1) := by decide +kernel
theorem dX3_isBetter_41 : decode cX3_isBetter 41 = .ok (.getfield 26, 3) := by decide +kernel
theorem dX3_isBetter_44 : decode cX3_isBetter 44 = .ok (.invokestatic 54, 3) := by decide +kernel
theorem dX3_isBetter_47 : decode cX3_isBetter 47 = .ok (.if_icmp .ge 7, 3) := by decide +kernel
theorem dX3_isBetter_50 : decode cX3_isBetter 50 = .ok (.iconst 1, 1) := by decide +kernel
theorem dX3_isBetter_51 : decode cX3_isBetter 51 = .ok (.goto 4, 3) := by decide +kernel
theorem dX3_isBetter_54 : decode cX3_isBetter 54 = .ok (.iconst 0, 1) := by decide +kernel
theorem dX3_isBetter_55 : decode cX3_isBetter 55 = .ok (.ireturn, 1) := by decide +kernel
theorem dX3_isBetter_56 : decode cX3_isBetter 56 = .ok (.iload_n 2, 1) := by decide +kernel
theorem dX3_isBetter_57 : decode cX3_isBetter 57 = .ok (.aload_n 0, 1) := by decide +kernel
theorem dX3_isBetter_58 : decode cX3_isBetter 58 = .ok (.getfield 26, 3) := by decide +kernel
theorem dX3_isBetter_61 : decode cX3_isBetter 61 = .ok (.if_icmp .ge 7, 3) := by decide +kernel
theorem dX3_isBetter_64 : decode cX3_isBetter 64 = .ok (.iconst 1, 1) := by decide +kernel
theorem dX3_isBetter_65 : decode cX3_isBetter 65 = .ok (.goto 4, 3) := by decide +kernel
theorem dX3_isBetter_68 : decode cX3_isBetter 68 = .ok (.iconst 0, 1) := by decide +kernel
theorem dX3_isBetter_69 : decode cX3_isBetter 69 = .ok (.ireturn, 1) := by decide +kernel
theorem dX3_tally_0 : decode cX3_tally 0 = .ok (.aload_n 0, 1) := by decide +kernel
theorem dX3_tally_1 : decode cX3_tally 1 = .ok (.getfield 11, 3) := by decide +kernel
theorem dX3_tally_4 : decode cX3_tally 4 = .ok (.iconst 0, 1) := by decide +kernel
theorem dX3_tally_5 : decode cX3_tally 5 = .ok (.invokestatic 60, 3) := by decide +kernel
theorem dX3_tally_8 : decode cX3_tally 8 = .ok (.iconst 0, 1) := by decide +kernel
theorem dX3_tally_9 : decode cX3_tally 9 = .ok (.istore 4, 2) := by decide +kernel
theorem dX3_tally_11 : decode cX3_tally 11 = .ok (.iload 4, 2) := by decide +kernel
theorem dX3_tally_13 : decode cX3_tally 13 = .ok (.aload_n 1, 1) := by decide +kernel
theorem dX3_tally_14 : decode cX3_tally 14 = .ok (.invokevirtual 66, 3) := by decide +kernel
theorem dX3_tally_17 : decode cX3_tally 17 = .ok (.if_icmp .ge 83, 3) := by decide +kernel
theorem dX3_tally_20 : decode cX3_tally 20 = .ok (.aload_n 1, 1) := by decide +kernel
theorem dX3_tally_21 : decode cX3_tally 21 = .ok (.iload 4, 2) := by decide +kernel
theorem dX3_tally_23 : decode cX3_tally 23 = .ok (.invokevirtual 72, 3) := by decide +kernel
theorem dX3_tally_26 : decode cX3_tally 26 = .ok (.istore 5, 2) := by decide +kernel
theorem dX3_tally_28 : decode cX3_tally 28 = .ok (.iconst 0, 1) := by decide +kernel
theorem dX3_tally_29 : decode cX3_tally 29 = .ok (.istore 6, 2) := by decide +kernel
theorem dX3_tally_31 : decode cX3_tally 31 = .ok (.iload 6, 2) := by decide +kernel
theorem dX3_tally_33 : decode cX3_tally 33 = .ok (.bipush 32, 2) := by decide +kernel
theorem dX3_tally_35 : decode cX3_tally 35 = .ok (.if_icmp .ge 59, 3) := by decide +kernel
theorem dX3_tally_38 : decode cX3_tally 38 = .ok (.iload 5, 2) := by decide +kernel
theorem dX3_tally_40 : decode cX3_tally 40 = .ok (.ifCond .eq 54, 3) := by decide +kernel
theorem dX3_tally_43 : decode cX3_tally 43 = .ok (.iload 5, 2) := by decide +kernel
theorem dX3_tally_45 : decode cX3_tally 45 = .ok (.iconst 1, 1) := by decide +kernel
theorem dX3_tally_46 : decode cX3_tally 46 = .ok (.iand, 1) := by decide +kernel
theorem dX3_tally_47 : decode cX3_tally 47 = .ok (.iconst 1, 1) := by decide +kernel
theorem dX3_tally_48 : decode cX3_tally 48 = .ok (.if_icmp .ne 34, 3) := by decide +kernel
theorem dX3_tally_51 : decode cX3_tally 51 = .ok (.aload_n 0, 1) := by decide +kernel
theorem dX3_tally_52 : decode cX3_tally 52 = .ok (.iload_n 2, 1) := by decide +kernel
theorem dX3_tally_53 : decode cX3_tally 53 = .ok (.ifCond .ne 16, 3) := by decide +kernel
theorem dX3_tally_56 : decode cX3_tally 56 = .ok (.iload 6, 2) := by decide +kernel
theorem dX3_tally_58 : decode cX3_tally 58 = .ok (.iconst 0, 1) := by decide +kernel
theorem dX3_tally_59 : decode cX3_tally 59 = .ok (.iload_n 3, 1) := by decide +kernel
theorem dX3_tally_60 : decode cX3_tally 60 = .ok (.iload 4, 2) := by decide +kernel
theorem dX3_tally_62 : decode cX3_tally 62 = .ok (.invokestatic 75, 3) := by decide +kernel
theorem dX3_tally_65 : decode cX3_tally 65 = .ok (.isub, 1) := by decide +kernel
theorem dX3_tally_66 : decode cX3_tally 66 = .ok (.goto 13, 3) := by decide +kernel
theorem dX3_tally_69 : decode cX3_tally 69 = .ok (.iload 4, 2) := by decide +kernel
theorem dX3_tally_71 : decode cX3_tally 71 = .ok (.iconst 1, 1) := by decide +kernel
theorem dX3_tally_72 : decode cX3_tally 72 = .ok (.iload_n 3, 1) := by decide +kernel
theorem dX3_tally_73 : decode cX3_tally 73 = .ok (.iload 6, 2) := by decide +kernel
theorem dX3_tally_75 : decode cX3_tally 75 = .ok (.invokestatic 75, 3) := by decide +kernel
theorem dX3_tally_78 : decode cX3_tally 78 = .ok (.isub, 1) := by decide +kernel
theorem dX3_tally_79 : decode cX3_tally 79 = .ok (.invokevirtual 79, 3) := by decide +kernel
theorem dX3_tally_82 : decode cX3_tally 82 = .ok (.iload 5, 2) := by decide +kernel
theorem dX3_tally_84 : decode cX3_tally 84 = .ok (.iconst 1, 1) := by decide +kernel
theorem dX3_tally_85 : decode cX3_tally 85 = .ok (.iushr, 1) := by decide +kernel
theorem dX3_tally_86 : decode cX3_tally 86 = .ok (.istore 5, 2) := by decide +kernel
theorem dX3_tally_88 : decode cX3_tally 88 = .ok (.iinc 6 1, 3) := by decide +kernel
theorem dX3_tally_91 : decode cX3_tally 91 = .ok (.goto (-60), 3) := by decide +kernel
theorem dX3_tally_94 : decode cX3_tally 94 = .ok (.iinc 4 1, 3) := by decide +kernel
theorem dX3_tally_97 : decode cX3_tally 97 = .ok (.goto (-86), 3) := by decide +kernel
theorem dX3_tally_100 : decode cX3_tally 100 = .ok (.return_, 1) := by decide +kernel
theorem dX3_countIn_0 : decode cX3_countIn 0 = .ok (.iload_n 1, 1) := by decide +kernel
theorem dX3_countIn_1 : decode cX3_countIn 1 = .ok (.bipush (-31), 2) := by decide +kernel
theorem dX3_countIn_3 : decode cX3_countIn 3 = .ok (.if_icmp .lt 22, 3) := by decide +kernel
theorem dX3_countIn_6 : decode cX3_countIn 6 = .ok (.iload_n 1, 1) := by decide +kernel
theorem dX3_countIn_7 : decode cX3_countIn 7 = .ok (.bipush 54, 2) := by decide +kernel
theorem dX3_countIn_9 : decode cX3_countIn 9 = .ok (.if_icmp .gt 16, 3) := by decide +kernel
theorem dX3_countIn_12 : decode cX3_countIn 12 = .ok (.aload_n 0, 1) := by decide +kernel
theorem dX3_countIn_13 : decode cX3_countIn 13 = .ok (.getfield 11, 3) := by decide +kernel
theorem dX3_countIn_16 : decode cX3_countIn 16 = .ok (.iload_n 1, 1) := by decide +kernel
theorem dX3_countIn_17 : decode cX3_countIn 17 = .ok (.bipush (-31), 2) := by decide +kernel
theorem dX3_countIn_19 : decode cX3_countIn 19 = .ok (.isub, 1) := by decide +kernel
theorem dX3_countIn_20 : decode cX3_countIn 20 = .ok (.dup2, 1) := by decide +kernel
theorem dX3_countIn_21 : decode cX3_countIn 21 = .ok (.iaload, 1) := by decide +kernel
theorem dX3_countIn_22 : decode cX3_countIn 22 = .ok (.iconst 1, 1) := by decide +kernel
theorem dX3_countIn_23 : decode cX3_countIn 23 = .ok (.iadd, 1) := by decide +kernel
theorem dX3_countIn_24 : decode cX3_countIn 24 = .ok (.iastore, 1) := by decide +kernel
theorem dX3_countIn_25 : decode cX3_countIn 25 = .ok (.return_, 1) := by decide +kernel
theorem dX4_init_0 : decode cX4_init 0 = .ok (.aload_n 0, 1) := by decide +kernel
theorem dX4_init_1 : decode cX4_init 1 = .ok (.invokespecial 3, 3) := by decide +kernel
theorem dX4_init_4 : decode cX4_init 4 = .ok (.aload_n 0, 1) := by decide +kernel
theorem dX4_init_5 : decode cX4_init 5 = .ok (.bipush 24, 2) := by decide +kernel
theorem dX4_init_7 : decode cX4_init 7 = .ok (.newarray .int, 2) := by decide +kernel
theorem dX4_init_9 : decode cX4_init 9 = .ok (.putfield 9, 3) := by decide +kernel
theorem dX4_init_12 : decode cX4_init 12 = .ok (.aload_n 0, 1) := by decide +kernel
theorem dX4_init_13 : decode cX4_init 13 = .ok (.bipush 24, 2) := by decide +kernel
theorem dX4_init_15 : decode cX4_init 15 = .ok (.newarray .int, 2) := by decide +kernel
theorem dX4_init_17 : decode cX4_init 17 = .ok (.putfield 15, 3) := by decide +kernel
theorem dX4_init_20 : decode cX4_init 20 = .ok (.aload_n 0, 1) := by decide +kernel
theorem dX4_init_21 : decode cX4_init 21 = .ok (.bipush 8, 2) := by decide +kernel
theorem dX4_init_23 : decode cX4_init 23 = .ok (.bipush 24, 2) := by decide +kernel
theorem dX4_init_25 : decode cX4_init 25 = .ok (.multianewarray 18 2, 4) := by decide +kernel
theorem dX4_init_29 : decode cX4_init 29 = .ok (.putfield 20, 3) := by decide +kernel
theorem dX4_init_32 : decode cX4_init 32 = .ok (.aload_n 0, 1) := by decide +kernel
theorem dX4_init_33 : decode cX4_init 33 = .ok (.bipush 24, 2) := by decide +kernel
theorem dX4_init_35 : decode cX4_init 35 = .ok (.putfield 23, 3) := by decide +kernel
theorem dX4_init_38 : decode cX4_init 38 = .ok (.aload_n 0, 1) := by decide +kernel
theorem dX4_init_39 : decode cX4_init 39 = .ok (.iconst 0, 1) := by decide +kernel
theorem dX4_init_40 : decode cX4_init 40 = .ok (.putfield 27, 3) := by decide +kernel
theorem dX4_init_43 : decode cX4_init 43 = .ok (.aload_n 0, 1) := by decide +kernel
theorem dX4_init_44 : decode cX4_init 44 = .ok (.iconst 0, 1) := by decide +kernel
theorem dX4_init_45 : decode cX4_init 45 = .ok (.putfield 30, 3) := by decide +kernel
theorem dX4_init_48 : decode cX4_init 48 = .ok (.return_, 1) := by decide +kernel
theorem dX4_width_0 : decode cX4_width 0 = .ok (.aload_n 0, 1) := by decide +kernel
theorem dX4_width_1 : decode cX4_width 1 = .ok (.getfield 23, 3) := by decide +kernel
theorem dX4_width_4 : decode cX4_width 4 = .ok (.ireturn, 1) := by decide +kernel
theorem dX4_hasColumn_0 : decode cX4_hasColumn 0 = .ok (.iload_n 1, 1) := by decide +kernel
theorem dX4_hasColumn_1 : decode cX4_hasColumn 1 = .ok (.ifCond .lt 15, 3) := by decide +kernel
theorem dX4_hasColumn_4 : decode cX4_hasColumn 4 = .ok (.iload_n 1, 1) := by decide +kernel
theorem dX4_hasColumn_5 : decode cX4_hasColumn 5 = .ok (.aload_n 0, 1) := by decide +kernel
theorem dX4_hasColumn_6 : decode cX4_hasColumn 6 = .ok (.getfield 23, 3) := by decide +kernel
theorem dX4_hasColumn_9 : decode cX4_hasColumn 9 = .ok (.if_icmp .ge 7, 3) := by decide +kernel
theorem dX4_hasColumn_12 : decode cX4_hasColumn 12 = .ok (.iconst 1, 1) := by decide +kernel
theorem dX4_hasColumn_13 : decode cX4_hasColumn 13 = .ok (.goto 4, 3) := by decide +kernel
theorem dX4_hasColumn_16 : decode cX4_hasColumn 16 = .ok (.iconst 0, 1) := by decide +kernel
theorem dX4_hasColumn_17 : decode cX4_hasColumn 17 = .ok (.ireturn, 1) := by decide +kernel
theorem dX4_dots_0 : decode cX4_dots 0 = .ok (.aload_n 0, 1) := by decide +kernel
theorem dX4_dots_1 : decode cX4_dots 1 = .ok (.iload_n 1, 1) := by decide +kernel
theorem dX4_dots_2 : decode cX4_dots 2 = .ok (.invokevirtual 33, 3) := by decide +kernel
theorem dX4_dots_5 : decode cX4_dots 5 = .ok (.ifCond .eq 12, 3) := by decide +kernel
theorem dX4_dots_8 : decode cX4_dots 8 = .ok (.aload_n 0, 1) := by decide +kernel
theorem dX4_dots_9 : decode cX4_dots 9 = .ok (.getfield 9, 3) := by decide +kernel
theorem dX4_dots_12 : decode cX4_dots 12 = .ok (.iload_n 1, 1) := by decide +kernel
theorem dX4_dots_13 : decode cX4_dots 13 = .ok (.iaload, 1) := by decide +kernel
theorem dX4_dots_14 : decode cX4_dots 14 = .ok (.goto 4, 3) := by decide +kernel
theorem dX4_dots_17 : decode cX4_dots 17 = .ok (.iconst 0, 1) := by decide +kernel
theorem dX4_dots_18 : decode cX4_dots 18 = .ok (.ireturn, 1) := by decide +kernel
theorem dX4_inked_0 : decode cX4_inked 0 = .ok (.iload_n 2, 1) := by decide +kernel
theorem dX4_inked_1 : decode cX4_inked 1 = .ok (.invokestatic 37, 3) := by decide +kernel
theorem dX4_inked_4 : decode cX4_inked 4 = .ok (.ifCond .eq 20, 3) := by decide +kernel
theorem dX4_inked_7 : decode cX4_inked 7 = .ok (.aload_n 0, 1) := by decide +kernel
theorem dX4_inked_8 : decode cX4_inked 8 = .ok (.iload_n 1, 1) := by decide +kernel
theorem dX4_inked_9 : decode cX4_inked 9 = .ok (.invokevirtual 40, 3) := by decide +kernel
theorem dX4_inked_12 : decode cX4_inked 12 = .ok (.iload_n 2, 1) := by decide +kernel
theorem dX4_inked_13 : decode cX4_inked 13 = .ok (.iushr, 1) := by decide +kernel
theorem dX4_inked_14 : decode cX4_inked 14 = .ok (.iconst 1, 1) := by decide +kernel
theorem dX4_inked_15 : decode cX4_inked 15 = .ok (.iand, 1) := by decide +kernel
theorem dX4_inked_16 : decode cX4_inked 16 = .ok (.iconst 1, 1) := by decide +kernel
theorem dX4_inked_17 : decode cX4_inked 17 = .ok (.if_icmp .ne 7, 3) := by decide +kernel
theorem dX4_inked_20 : decode cX4_inked 20 = .ok (.iconst 1, 1) := by decide +kernel
theorem dX4_inked_21 : decode cX4_inked 21 = .ok (.goto 4, 3) := by decide +kernel
theorem dX4_inked_24 : decode cX4_inked 24 = .ok (.iconst 0, 1) := by decide +kernel
theorem dX4_inked_25 : decode cX4_inked 25 = .ok (.ireturn, 1) := by decide +kernel
theorem dX4_draw_0 : decode cX4_draw 0 = .ok (.aload_n 0, 1) := by decide +kernel
theorem dX4_draw_1 : decode cX4_draw 1 = .ok (.iload_n 1, 1) := by decide +kernel
theorem dX4_draw_2 : decode cX4_draw 2 = .ok (.invokevirtual 33, 3) := by decide +kernel
theorem dX4_draw_5 : decode cX4_draw 5 = .ok (.ifCond .eq 10, 3) := by decide +kernel
theorem dX4_draw_8 : decode cX4_draw 8 = .ok (.iload_n 2, 1) := by decide +kernel
theorem dX4_draw_9 : decode cX4_draw 9 = .ok (.invokestatic 37, 3) := by decide +kernel
theorem dX4_draw_12 : decode cX4_draw 12 = .ok (.ifCond .ne 4, 3) := by decide +kernel
theorem dX4_draw_15 : decode cX4_draw 15 = .ok (.return_, 1) := by decide +kernel
theorem dX4_draw_16 : decode cX4_draw 16 = .ok (.iconst 1, 1) := by decide +kernel
theorem dX4_draw_17 : decode cX4_draw 17 = .ok (.iload_n 2, 1) := by decide +kernel
theorem dX4_draw_18 : decode cX4_draw 18 = .ok (.ishl, 1) := by decide +kernel
theorem dX4_draw_19 : decode cX4_draw 19 = .ok (.istore 4, 2) := by decide +kernel
theorem dX4_draw_21 : decode cX4_draw 21 = .ok (.aload_n 0, 1) := by decide +kernel
theorem dX4_draw_22 : decode cX4_draw 22 = .ok (.getfield 9, 3) := by decide +kernel
theorem dX4_draw_25 : decode cX4_draw 25 = .ok (.iload_n 1, 1) := by decide +kernel
theorem dX4_draw_26 : decode cX4_draw 26 = .ok (.iload_n 3, 1) := by decide +kernel
theorem dX4_draw_27 : decode cX4_draw 27 = .ok (.ifCond .eq 15, 3) := by decide +kernel
theorem dX4_draw_30 : decode cX4_draw 30 = .ok (.aload_n 0, 1) := by decide +kernel
theorem dX4_draw_31 : decode cX4_draw 31 = .ok (.getfield 9, 3) := by decide +kernel
theorem dX4_draw_34 : decode cX4_draw 34 = .ok (.iload_n 1, 1) := by decide +kernel
theorem dX4_draw_35 : decode cX4_draw 35 = .ok (.iaload, 1) := by decide +kernel
theorem dX4_draw_36 : decode cX4_draw 36 = .ok (.iload 4, 2) := by decide +kernel
theorem dX4_draw_38 : decode cX4_draw 38 = .ok (.ior, 1) := by decide +kernel
theorem dX4_draw_39 : decode cX4_draw 39 = .ok (.goto 14, 3) := by decide +kernel
theorem dX4_draw_42 : decode cX4_draw 42 = .ok (.aload_n 0, 1) := by decide +kernel
theorem dX4_draw_43 : decode cX4_draw 43 = .ok (.getfield 9, 3) := by decide +kernel
theorem dX4_draw_46 : decode cX4_draw 46 = .ok (.iload_n 1, 1) := by decide +kernel
theorem dX4_draw_47 : decode cX4_draw 47 = .ok (.iaload, 1) := by decide +kernel
theorem dX4_draw_48 : decode cX4_draw 48 = .ok (.iload 4, 2) := by decide +kernel
theorem dX4_draw_50 : decode cX4_draw 50 = .ok (.iconst (-1), 1) := by decide +kernel
theorem dX4_draw_51 : decode cX4_draw 51 = .ok (.ixor, 1) := by decide +kernel
theorem dX4_draw_52 : decode cX4_draw 52 = .ok (.iand, 1) := by decide +kernel
theorem dX4_draw_53 : decode cX4_draw 53 = .ok (.iastore, 1) := by decide +kernel
theorem dX4_draw_54 : decode cX4_draw 54 = .ok (.return_, 1) := by decide +kernel
theorem dX4_renew_0 : decode cX4_renew 0 = .ok (.aload_n 0, 1) := by decide +kernel
theorem dX4_renew_1 : decode cX4_renew 1 = .ok (.iconst 1, 1) := by decide +kernel
theorem dX4_renew_2 : decode cX4_renew 2 = .ok (.iload_n 1, 1) := by decide +kernel
theorem dX4_renew_3 : decode cX4_renew 3 = .ok (.bipush 24, 2) := by decide +kernel
theorem dX4_renew_5 : decode cX4_renew 5 = .ok (.invokestatic 44, 3) := by decide +kernel
theorem dX4_renew_8 : decode cX4_renew 8 = .ok (.invokestatic 50, 3) := by decide +kernel
theorem dX4_renew_11 : decode cX4_renew 11 = .ok (.putfield 23, 3) := by decide +kernel
theorem dX4_renew_14 : decode cX4_renew 14 = .ok (.aload_n 0, 1) := by decide +kernel
theorem dX4_renew_15 : decode cX4_renew 15 = .ok (.getfield 9, 3) := by decide +kernel
theorem dX4_renew_18 : decode cX4_renew 18 = .ok (.iconst 0, 1) := by decide +kernel
theorem dX4_renew_19 : decode cX4_renew 19 = .ok (.invokestatic 53, 3) := by decide +kernel
theorem dX4_renew_22 : decode cX4_renew 22 = .ok (.aload_n 0, 1) := by decide +kernel
theorem dX4_renew_23 : decode cX4_renew 23 = .ok (.invokevirtual 59, 3) := by decide +kernel
theorem dX4_renew_26 : decode cX4_renew 26 = .ok (.return_, 1) := by decide +kernel
theorem dX4_ink_0 : decode cX4_ink 0 = .ok (.iconst 0, 1) := by decide +kernel
theorem dX4_ink_1 : decode cX4_ink 1 = .ok (.istore_n 1, 1) := by decide +kernel
theorem dX4_ink_2 : decode cX4_ink 2 = .ok (.iconst 0, 1) := by decide +kernel
theorem dX4_ink_3 : decode cX4_ink 3 = .ok (.istore_n 2, 1) := by decide +kernel
theorem dX4_ink_4 : decode cX4_ink 4 = .ok (.iload_n 2, 1) := by decide +kernel
theorem dX4_ink_5 : decode cX4_ink 5 = .ok (.aload_n 0, 1) := by decide +kernel
theorem dX4_ink_6 : decode cX4_ink 6 = .ok (.getfield 23, 3) := by decide +kernel
theorem dX4_ink_9 : decode cX4_ink 9 = .ok (.if_icmp .ge 21, 3) := by decide +kernel
theorem dX4_ink_12 : decode cX4_ink 12 = .ok (.iload_n 1, 1) := by decide +kernel
theorem dX4_ink_13 : decode cX4_ink 13 = .ok (.aload_n 0, 1) := by decide +kernel
theorem dX4_ink_14 : decode cX4_ink 14 = .ok (.getfield 9, 3) := by decide +kernel
theorem dX4_ink_17 : decode cX4_ink 17 = .ok (.iload_n 2, 1) := by decide +kernel
theorem dX4_ink_18 : decode cX4_ink 18 = .ok (.iaload, 1) := by decide +kernel
theorem dX4_ink_19 : decode cX4_ink 19 = .ok (.invokestatic 62, 3) := by decide +kernel
theorem dX4_ink_22 : decode cX4_ink 22 = .ok (.iadd, 1) := by decide +kernel
theorem dX4_ink_23 : decode cX4_ink 23 = .ok (.istore_n 1, 1) := by decide +kernel
theorem dX4_ink_24 : decode cX4_ink 24 = .ok (.iinc 2 1, 3) := by decide +kernel
theorem dX4_ink_27 : decode cX4_ink 27 = .ok (.goto (-23), 3) := by decide +kernel
theorem dX4_ink_30 : decode cX4_ink 30 = .ok (.iload_n 1, 1) := by decide +kernel
theorem dX4_ink_31 : decode cX4_ink 31 = .ok (.ireturn, 1) := by decide +kernel
theorem dX4_inkOfRow_0 : decode cX4_inkOfRow 0 = .ok (.iconst 0, 1) := by decide +kernel
theorem dX4_inkOfRow_1 : decode cX4_inkOfRow 1 = .ok (.istore_n 2, 1) := by decide +kernel
theorem dX4_inkOfRow_2 : decode cX4_inkOfRow 2 = .ok (.iconst 0, 1) := by decide +kernel
theorem dX4_inkOfRow_3 : decode cX4_inkOfRow 3 = .ok (.istore_n 3, 1) := by decide +kernel
theorem dX4_inkOfRow_4 : decode cX4_inkOfRow 4 = .ok (.iload_n 3, 1) := by decide +kernel
theorem dX4_inkOfRow_5 : decode cX4_inkOfRow 5 = .ok (.aload_n 0, 1) := by decide +kernel
theorem dX4_inkOfRow_6 : decode cX4_inkOfRow 6 = .ok (.getfield 23, 3) := by decide +kernel
theorem dX4_inkOfRow_9 : decode cX4_inkOfRow 9 = .ok (.if_icmp .ge 26, 3) := by decide +kernel
theorem dX4_inkOfRow_12 : decode cX4_inkOfRow 12 = .ok (.iload_n 2, 1) := by decide +kernel
theorem dX4_inkOfRow_13 : decode cX4_inkOfRow 13 = .ok (.aload_n 0, 1) := by decide +kernel
theorem dX4_inkOfRow_14 : decode cX4_inkOfRow 14 = .ok (.iload_n 3, 1) := by decide +kernel
theorem dX4_inkOfRow_15 : decode cX4_inkOfRow 15 = .ok (.iload_n 1, 1) := by decide +kernel
theorem dX4_inkOfRow_16 : decode cX4_inkOfRow 16 = .ok (.invokevirtual 67, 3) := by decide +kernel
theorem dX4_inkOfRow_19 : decode cX4_inkOfRow 19 = .ok (.ifCond .eq 7, 3) := by decide +kernel
theorem dX4_inkOfRow_22 : decode cX4_inkOfRow 22 = .ok (.iconst 1, 1) := by decide +kernel
theorem dX4_inkOfRow_23 : decode cX4_inkOfRow 23 = .ok (.goto 4, 3) := by decide +kernel
theorem dX4_inkOfRow_26 : decode cX4_inkOfRow 26 = .ok (.iconst 0, 1) := by decide +kernel
theorem dX4_inkOfRow_27 : decode cX4_inkOfRow 27 = .ok (.iadd, 1) := by decide +kernel
theorem dX4_inkOfRow_28 : decode cX4_inkOfRow 28 = .ok (.istore_n 2, 1) := by decide +kernel
theorem dX4_inkOfRow_29 : decode cX4_inkOfRow 29 = .ok (.iinc 3 1, 3) := by decide +kernel
theorem dX4_inkOfRow_32 : decode cX4_inkOfRow 32 = .ok (.goto (-28), 3) := by decide +kernel
theorem dX4_inkOfRow_35 : decode cX4_inkOfRow 35 = .ok (.iload_n 2, 1) := by decide +kernel
theorem dX4_inkOfRow_36 : decode cX4_inkOfRow 36 = .ok (.ireturn, 1) := by decide +kernel
theorem dX4_feet_0 : decode cX4_feet 0 = .ok (.aload_n 0, 1) := by decide +kernel
theorem dX4_feet_1 : decode cX4_feet 1 = .ok (.iload_n 1, 1) := by decide +kernel
theorem dX4_feet_2 : decode cX4_feet 2 = .ok (.invokevirtual 40, 3) := by decide +kernel
theorem dX4_feet_5 : decode cX4_feet 5 = .ok (.aload_n 0, 1) := by decide +kernel
theorem dX4_feet_6 : decode cX4_feet 6 = .ok (.iload_n 1, 1) := by decide +kernel
theorem dX4_feet_7 : decode cX4_feet 7 = .ok (.invokevirtual 40, 3) := by decide +kernel
theorem dX4_feet_10 : decode cX4_feet 10 = .ok (.iconst 1, 1) := by decide +kernel
theorem dX4_feet_11 : decode cX4_feet 11 = .ok (.iushr, 1) := by decide +kernel
theorem dX4_feet_12 : decode cX4_feet 12 = .ok (.iconst (-1), 1) := by decide +kernel
theorem dX4_feet_13 : decode cX4_feet 13 = .ok (.ixor, 1) := by decide +kernel
theorem dX4_feet_14 : decode cX4_feet 14 = .ok (.iand, 1) := by decide +kernel
theorem dX4_feet_15 : decode cX4_feet 15 = .ok (.ireturn, 1) := by decide +kernel
theorem dX4_allFeet_0 : decode cX4_allFeet 0 = .ok (.iconst 0, 1) := by decide +kernel
theorem dX4_allFeet_1 : decode cX4_allFeet 1 = .ok (.istore_n 1, 1) := by decide +kernel
theorem dX4_allFeet_2 : decode cX4_allFeet 2 = .ok (.iconst 0, 1) := by decide +kernel
theorem dX4_allFeet_3 : decode cX4_allFeet 3 = .ok (.istore_n 2, 1) := by decide +kernel
theorem dX4_allFeet_4 : decode cX4_allFeet 4 = .ok (.iload_n 2, 1) := by decide +kernel
theorem dX4_allFeet_5 : decode cX4_allFeet 5 = .ok (.aload_n 0, 1) := by decide +kernel
theorem dX4_allFeet_6 : decode cX4_allFeet 6 = .ok (.getfield 23, 3) := by decide +kernel
theorem dX4_allFeet_9 : decode cX4_allFeet 9 = .ok (.if_icmp .ge 20, 3) := by decide +kernel
theorem dX4_allFeet_12 : decode cX4_allFeet 12 = .ok (.iload_n 1, 1) := by decide +kernel
theorem dX4_allFeet_13 : decode cX4_allFeet 13 = .ok (.aload_n 0, 1) := by decide +kernel
theorem dX4_allFeet_14 : decode cX4_allFeet 14 = .ok (.iload_n 2, 1) := by decide +kernel
theorem dX4_allFeet_15 : decode cX4_allFeet 15 = .ok (.invokevirtual 71, 3) := by decide +kernel
theorem dX4_allFeet_18 : decode cX4_allFeet 18 = .ok (.invokestatic 62, 3) := by decide +kernel
theorem dX4_allFeet_21 : decode cX4_allFeet 21 = .ok (.iadd, 1) := by decide +kernel
theorem dX4_allFeet_22 : decode cX4_allFeet 22 = .ok (.istore_n 1, 1) := by decide +kernel
theorem dX4_allFeet_23 : decode cX4_allFeet 23 = .ok (.iinc 2 1, 3) := by decide +kernel
theorem dX4_allFeet_26 : decode cX4_allFeet 26 = .ok (.goto (-22), 3) := by decide +kernel
theorem dX4_allFeet_29 : decode cX4_allFeet 29 = .ok (.iload_n 1, 1) := by decide +kernel
theorem dX4_allFeet_30 : decode cX4_allFeet 30 = .ok (.ireturn, 1) := by decide +kernel
theorem dX4_moves_0 : decode cX4_moves 0 = .ok (.aload_n 0, 1) := by decide +kernel
theorem dX4_moves_1 : decode cX4_moves 1 = .ok (.getfield 27, 3) := by decide +kernel
theorem dX4_moves_4 : decode cX4_moves 4 = .ok (.ireturn, 1) := by decide +kernel
theorem dX4_forgetMoves_0 : decode cX4_forgetMoves 0 = .ok (.aload_n 0, 1) := by decide +kernel
theorem dX4_forgetMoves_1 : decode cX4_forgetMoves 1 = .ok (.iconst 0, 1) := by decide +kernel
theorem dX4_forgetMoves_2 : decode cX4_forgetMoves 2 = .ok (.putfield 27, 3) := by decide +kernel
theorem dX4_forgetMoves_5 : decode cX4_forgetMoves 5 = .ok (.return_, 1) := by decide +kernel
theorem dX4_takeBack_0 : decode cX4_takeBack 0 = .ok (.aload_n 0, 1) := by decide +kernel
theorem dX4_takeBack_1 : decode cX4_takeBack 1 = .ok (.getfield 27, 3) := by decide +kernel
theorem dX4_takeBack_4 : decode cX4_takeBack 4 = .ok (.ifCond .ne 4, 3) := by decide +kernel
theorem dX4_takeBack_7 : decode cX4_takeBack 7 = .ok (.return_, 1) := by decide +kernel
theorem dX4_takeBack_8 : decode cX4_takeBack 8 = .ok (.aload_n 0, 1) := by decide +kernel
theorem dX4_takeBack_9 : decode cX4_takeBack 9 = .ok (.dup, 1) := by decide +kernel
theorem dX4_takeBack_10 : decode cX4_takeBack 10 = .ok (.getfield 27, 3) := by decide +kernel
theorem dX4_takeBack_13 : decode cX4_takeBack 13 = .ok (.iconst 1, 1) := by decide +kernel
theorem dX4_takeBack_14 : decode cX4_takeBack 14 = .ok (.isub, 1) := by decide +kernel
theorem dX4_takeBack_15 : decode cX4_takeBack 15 = .ok (.putfield 27, 3) := by decide +kernel
theorem dX4_takeBack_18 : decode cX4_takeBack 18 = .ok (.aload_n 0, 1) := by decide +kernel
theorem dX4_takeBack_19 : decode cX4_takeBack 19 = .ok (.aload_n 0, 1) := by decide +kernel
theorem dX4_takeBack_20 : decode cX4_takeBack 20 = .ok (.getfield 30, 3) := by decide +kernel
theorem dX4_takeBack_23 : decode cX4_takeBack 23 = .ok (.bipush 8, 2) := by decide +kernel
theorem dX4_takeBack_25 : decode cX4_takeBack 25 = .ok (.iadd, 1) := by decide +kernel
theorem dX4_takeBack_26 : decode cX4_takeBack 26 = .ok (.iconst 1, 1) := by decide +kernel
theorem dX4_takeBack_27 : decode cX4_takeBack 27 = .ok (.isub, 1) := by decide +kernel
theorem dX4_takeBack_28 : decode cX4_takeBack 28 = .ok (.bipush 8, 2) := by decide +kernel
theorem dX4_takeBack_30 : decode cX4_takeBack 30 = .ok (.irem, 1) := by decide +kernel
theorem dX4_takeBack_31 : decode cX4_takeBack 31 = .ok (.putfield 30, 3) := by decide +kernel
theorem dX4_takeBack_34 : decode cX4_takeBack 34 = .ok (.aload_n 0, 1) := by decide +kernel
theorem dX4_takeBack_35 : decode cX4_takeBack 35 = .ok (.getfield 20, 3) := by decide +kernel
theorem dX4_takeBack_38 : decode cX4_takeBack 38 = .ok (.aload_n 0, 1) := by decide +kernel
theorem dX4_takeBack_39 : decode cX4_takeBack 39 = .ok (.getfield 30, 3) := by decide +kernel
theorem dX4_takeBack_42 : decode cX4_takeBack 42 = .ok (.aaload, 1) := by decide +kernel
theorem dX4_takeBack_43 : decode cX4_takeBack 43 = .ok (.iconst 0, 1) := by decide +kernel
theorem dX4_takeBack_44 : decode cX4_takeBack 44 = .ok (.aload_n 0, 1) := by decide +kernel
theorem dX4_takeBack_45 : decode cX4_takeBack 45 = .ok (.getfield 9, 3) := by decide +kernel
theorem dX4_takeBack_48 : decode cX4_takeBack 48 = .ok (.iconst 0, 1) := by decide +kernel
theorem dX4_takeBack_49 : decode cX4_takeBack 49 = .ok (.bipush 24, 2) := by decide +kernel
theorem dX4_takeBack_51 : decode cX4_takeBack 51 = .ok (.invokestatic 74, 3) := by decide +kernel
theorem dX4_takeBack_54 : decode cX4_takeBack 54 = .ok (.return_, 1) := by decide +kernel
theorem dX4_slideColumns_0 : decode cX4_slideColumns 0 = .ok (.iconst 0, 1) := by decide +kernel
theorem dX4_slideColumns_1 : decode cX4_slideColumns 1 = .ok (.istore_n 2, 1) := by decide +kernel
theorem dX4_slideColumns_2 : decode cX4_slideColumns 2 = .ok (.iconst 0, 1) := by decide +kernel
theorem dX4_slideColumns_3 : decode cX4_slideColumns 3 = .ok (.istore_n 3, 1) := by decide +kernel
theorem dX4_slideColumns_4 : decode cX4_slideColumns 4 = .ok (.iload_n 3, 1) := by decide +kernel
theorem dX4_slideColumns_5 : decode cX4_slideColumns 5 = .ok (.aload_n 0, 1) := by decide +kernel
theorem dX4_slideColumns_6 : decode cX4_slideColumns 6 = .ok (.getfield 23, 3) := by decide +kernel
theorem dX4_slideColumns_9 : decode cX4_slideColumns 9 = .ok (.if_icmp .ge 76, 3) := by decide +kernel
theorem dX4_slideColumns_12 : decode cX4_slideColumns 12 = .ok (.iload_n 3, 1) := by decide +kernel
theorem dX4_slideColumns_13 : decode cX4_slideColumns 13 = .ok (.aload_n 1, 1) := by decide +kernel
theorem dX4_slideColumns_14 : decode cX4_slideColumns 14 = .ok (.arraylength, 1) := by decide +kernel
theorem dX4_slideColumns_15 : decode cX4_slideColumns 15 = .ok (.if_icmp .ge 70, 3) := by decide +kernel
theorem dX4_slideColumns_18 : decode cX4_slideColumns 18 = .ok (.aload_n 0, 1) := by decide +kernel
theorem dX4_slideColumns_19 : decode cX4_slideColumns 19 = .ok (.getfield 15, 3) := by decide +kernel
theorem dX4_slideColumns_22 : decode cX4_slideColumns 22 = .ok (.iload_n 3, 1) := by decide +kernel
theorem dX4_slideColumns_23 : decode cX4_slideColumns 23 = .ok (.aload_n 0, 1) := by decide +kernel
theorem dX4_slideColumns_24 : decode cX4_slideColumns 24 = .ok (.getfield 9, 3) := by decide +kernel
theorem dX4_slideColumns_27 : decode cX4_slideColumns 27 = .ok (.iload_n 3, 1) := by decide +kernel
theorem dX4_slideColumns_28 : decode cX4_slideColumns 28 = .ok (.iaload, 1) := by decide +kernel
theorem dX4_slideColumns_29 : decode cX4_slideColumns 29 = .ok (.aload_n 1, 1) := by decide +kernel
theorem dX4_slideColumns_30 : decode cX4_slideColumns 30 = .ok (.iload_n 3, 1) := by decide +kernel
theorem dX4_slideColumns_31 : decode cX4_slideColumns 31 = .ok (.iaload, 1) := by decide +kernel
theorem dX4_slideColumns_32 : decode cX4_slideColumns 32 = .ok (.invokestatic 80, 3) := by decide +kernel
theorem dX4_slideColumns_35 : decode cX4_slideColumns 35 = .ok (.iastore, 1) := by decide +kernel
theorem dX4_slideColumns_36 : decode cX4_slideColumns 36 = .ok (.aload_n 0, 1) := by decide +kernel
theorem dX4_slideColumns_37 : decode cX4_slideColumns 37 = .ok (.getfield 9, 3) := by decide +kernel
theorem dX4_slideColumns_40 : decode cX4_slideColumns 40 = .ok (.iload_n 3, 1) := by decide +kernel
theorem dX4_slideColumns_41 : decode cX4_slideColumns 41 = .ok (.iaload, 1) := by decide +kernel
theorem dX4_slideColumns_42 : decode cX4_slideColumns 42 = .ok (.invokestatic 62, 3) := by decide +kernel
theorem dX4_slideColumns_45 : decode cX4_slideColumns 45 = .ok (.istore 4, 2) := by decide +kernel
theorem dX4_slideColumns_47 : decode cX4_slideColumns 47 = .ok (.aload_n 0, 1) := by decide +kernel
theorem dX4_slideColumns_48 : decode cX4_slideColumns 48 = .ok (.getfield 15, 3) := by decide +kernel
theorem dX4_slideColumns_51 : decode cX4_slideColumns 51 = .ok (.iload_n 3, 1) := by decide +kernel
theorem dX4_slideColumns_52 : decode cX4_slideColumns 52 = .ok (.iaload, 1) := by decide +kernel
theorem dX4_slideColumns_53 : decode cX4_slideColumns 53 = .ok (.invokestatic 62, 3) := by decide +kernel
theorem dX4_slideColumns_56 : decode cX4_slideColumns 56 = .ok (.iload 4, 2) := by decide +kernel
theorem dX4_slideColumns_58 : decode cX4_slideColumns 58 = .ok (.if_icmp .eq 6, 3) := by decide +kernel
theorem dX4_slideColumns_61 : decode cX4_slideColumns 61 = .ok (.bipush (-3), 2) := by decide +kernel
theorem dX4_slideColumns_63 : decode cX4_slideColumns 63 = .ok (.ireturn, 1) := by decide +kernel
theorem dX4_slideColumns_64 : decode cX4_slideColumns 64 = .ok (.iload_n 2, 1) := by decide +kernel
theorem dX4_slideColumns_65 : decode cX4_slideColumns 65 = .ok (.aload_n 1, 1) := by decide +kernel
theorem dX4_slideColumns_66 : decode cX4_slideColumns 66 = .ok (.iload_n 3, 1) := by decide +kernel
theorem dX4_slideColumns_67 : decode cX4_slideColumns 67 = .ok (.iaload, 1) := by decide +kernel
theorem dX4_slideColumns_68 : decode cX4_slideColumns 68 = .ok (.ifCond .ne 7, 3) := by decide +kernel
theorem dX4_slideColumns_71 : decode cX4_slideColumns 71 = .ok (.iconst 0, 1) := by decide +kernel
theorem dX4_slideColumns_72 : decode cX4_slideColumns 72 = .ok (.goto 5, 3) := by decide +kernel
theorem dX4_slideColumns_75 : decode cX4_slideColumns 75 = .ok (.iload 4, 2) := by decide +kernel
theorem dX4_slideColumns_77 : decode cX4_slideColumns 77 = .ok (.iadd, 1) := by decide +kernel
theorem dX4_slideColumns_78 : decode cX4_slideColumns 78 = .ok (.istore_n 2, 1) := by decide +kernel
theorem dX4_slideColumns_79 : decode cX4_slideColumns 79 = .ok (.iinc 3 1, 3) := by decide +kernel
theorem dX4_slideColumns_82 : decode cX4_slideColumns 82 = .ok (.goto (-78), 3) := by decide +kernel
theorem dX4_slideColumns_85 : decode cX4_slideColumns 85 = .ok (.aload_n 0, 1) := by decide +kernel
theorem dX4_slideColumns_86 : decode cX4_slideColumns 86 = .ok (.invokevirtual 83, 3) := by decide +kernel
theorem dX4_slideColumns_89 : decode cX4_slideColumns 89 = .ok (.iload_n 2, 1) := by decide +kernel
theorem dX4_slideColumns_90 : decode cX4_slideColumns 90 = .ok (.ireturn, 1) := by decide +kernel
theorem dX4_slideRows_0 : decode cX4_slideRows 0 = .ok (.iconst 0, 1) := by decide +kernel
theorem dX4_slideRows_1 : decode cX4_slideRows 1 = .ok (.istore_n 2, 1) := by decide +kernel
theorem dX4_slideRows_2 : decode cX4_slideRows 2 = .ok (.aload_n 0, 1) := by decide +kernel
theorem dX4_slideRows_3 : decode cX4_slideRows 3 = .ok (.getfield 15, 3) := by decide +kernel
theorem dX4_slideRows_6 : decode cX4_slideRows 6 = .ok (.iconst 0, 1) := by decide +kernel
theorem dX4_slideRows_7 : decode cX4_slideRows 7 = .ok (.invokestatic 53, 3) := by decide +kernel
theorem dX4_slideRows_10 : decode cX4_slideRows 10 = .ok (.iconst 0, 1) := by decide +kernel
theorem dX4_slideRows_11 : decode cX4_slideRows 11 = .ok (.istore_n 3, 1) := by decide +kernel
theorem dX4_slideRows_12 : decode cX4_slideRows 12 = .ok (.iload_n 3, 1) := by decide +kernel
theorem dX4_slideRows_13 : decode cX4_slideRows 13 = .ok (.bipush 32, 2) := by decide +kernel
theorem dX4_slideRows_15 : decode cX4_slideRows 15 = .ok (.if_icmp .ge 93, 3) := by decide +kernel
theorem dX4_slideRows_18 : decode cX4_slideRows 18 = .ok (.iload_n 3, 1) := by decide +kernel
theorem dX4_slideRows_19 : decode cX4_slideRows 19 = .ok (.aload_n 1, 1) := by decide +kernel
theorem dX4_slideRows_20 : decode cX4_slideRows 20 = .ok (.arraylength, 1) := by decide +kernel
theorem dX4_slideRows_21 : decode cX4_slideRows 21 = .ok (.if_icmp .ge 87, 3) := by decide +kernel
theorem dX4_slideRows_24 : decode cX4_slideRows 24 = .ok (.iconst 0, 1) := by decide +kernel
theorem dX4_slideRows_25 : decode cX4_slideRows 25 = .ok (.istore 4, 2) := by decide +kernel
theorem dX4_slideRows_27 : decode cX4_slideRows 27 = .ok (.iload 4, 2) := by decide +kernel
theorem dX4_slideRows_29 : decode cX4_slideRows 29 = .ok (.aload_n 0, 1) := by decide +kernel
theorem dX4_slideRows_30 : decode cX4_slideRows 30 = .ok (.getfield 23, 3) := by decide +kernel
theorem dX4_slideRows_33 : decode cX4_slideRows 33 = .ok (.if_icmp .ge 69, 3) := by decide +kernel
theorem dX4_slideRows_36 : decode cX4_slideRows 36 = .ok (.aload_n 0, 1) := by decide +kernel
theorem dX4_slideRows_37 : decode cX4_slideRows 37 = .ok (.iload 4, 2) := by decide +kernel
theorem dX4_slideRows_39 : decode cX4_slideRows 39 = .ok (.iload_n 3, 1) := by decide +kernel
theorem dX4_slideRows_40 : decode cX4_slideRows 40 = .ok (.invokevirtual 67, 3) := by decide +kernel
theorem dX4_slideRows_43 : decode cX4_slideRows 43 = .ok (.ifCond .ne 6, 3) := by decide +kernel
theorem dX4_slideRows_46 : decode cX4_slideRows 46 = .ok (.goto 50, 3) := by decide +kernel
theorem dX4_slideRows_49 : decode cX4_slideRows 49 = .ok (.iload 4, 2) := by decide +kernel
theorem dX4_slideRows_51 : decode cX4_slideRows 51 = .ok (.aload_n 1, 1) := by decide +kernel
theorem dX4_slideRows_52 : decode cX4_slideRows 52 = .ok (.iload_n 3, 1) := by decide +kernel
theorem dX4_slideRows_53 : decode cX4_slideRows 53 = .ok (.iaload, 1) := by decide +kernel
theorem dX4_slideRows_54 : decode cX4_slideRows 54 = .ok (.isub, 1) := by decide +kernel
theorem dX4_slideRows_55 : decode cX4_slideRows 55 = .ok (.istore 5, 2) := by decide +kernel
theorem dX4_slideRows_57 : decode cX4_slideRows 57 = .ok (.aload_n 0, 1) := by decide +kernel
theorem dX4_slideRows_58 : decode cX4_slideRows 58 = .ok (.iload 5, 2) := by decide +kernel
theorem dX4_slideRows_60 : decode cX4_slideRows 60 = .ok (.invokevirtual 33, 3) := by decide +kernel
theorem dX4_slideRows_63 : decode cX4_slideRows 63 = .ok (.ifCond .ne 6, 3) := by decide +kernel
theorem dX4_slideRows_66 : decode cX4_slideRows 66 = .ok (.bipush (-3), 2) := by decide +kernel
theorem dX4_slideRows_68 : decode cX4_slideRows 68 = .ok (.ireturn, 1) := by decide +kernel
theorem dX4_slideRows_69 : decode cX4_slideRows 69 = .ok (.aload_n 0, 1) := by decide +kernel
theorem dX4_slideRows_70 : decode cX4_slideRows 70 = .ok (.getfield 15, 3) := by decide +kernel
theorem dX4_slideRows_73 : decode cX4_slideRows 73 = .ok (.iload 5, 2) := by decide +kernel
theorem dX4_slideRows_75 : decode cX4_slideRows 75 = .ok (.dup2, 1) := by decide +kernel
theorem dX4_slideRows_76 : decode cX4_slideRows 76 = .ok (.iaload, 1) := by decide +kernel
theorem dX4_slideRows_77 : decode cX4_slideRows 77 = .ok (.iconst 1, 1) := by decide +kernel
theorem dX4_slideRows_78 : decode cX4_slideRows 78 = .ok (.iload_n 3, 1) := by decide +kernel
theorem dX4_slideRows_79 : decode cX4_slideRows 79 = .ok (.ishl, 1) := by decide +kernel
theorem dX4_slideRows_80 : decode cX4_slideRows 80 = .ok (.ior, 1) := by decide +kernel
theorem dX4_slideRows_81 : decode cX4_slideRows 81 = .ok (.iastore, 1) := by decide +kernel
theorem dX4_slideRows_82 : decode cX4_slideRows 82 = .ok (.iload_n 2, 1) := by decide +kernel
theorem dX4_slideRows_83 : decode cX4_slideRows 83 = .ok (.aload_n 1, 1) := by decide +kernel
theorem dX4_slideRows_84 : decode cX4_slideRows 84 = .ok (.iload_n 3, 1) := by decide +kernel
theorem dX4_slideRows_85 : decode cX4_slideRows 85 = .ok (.iaload, 1) := by decide +kernel
theorem dX4_slideRows_86 : decode cX4_slideRows 86 = .ok (.ifCond .ne 7, 3) := by decide +kernel
theorem dX4_slideRows_89 : decode cX4_slideRows 89 = .ok (.iconst 0, 1) := by decide +kernel
theorem dX4_slideRows_90 : decode cX4_slideRows 90 = .ok (.goto 4, 3) := by decide +kernel
theorem dX4_slideRows_93 : decode cX4_slideRows 93 = .ok (.iconst 1, 1) := by decide +kernel
theorem dX4_slideRows_94 : decode cX4_slideRows 94 = .ok (.iadd, 1) := by decide +kernel
theorem dX4_slideRows_95 : decode cX4_slideRows 95 = .ok (.istore_n 2, 1) := by decide +kernel
theorem dX4_slideRows_96 : decode cX4_slideRows 96 = .ok (.iinc 4 1, 3) := by decide +kernel
theorem dX4_slideRows_99 : decode cX4_slideRows 99 = .ok (.goto (-72), 3) := by decide +kernel
theorem dX4_slideRows_102 : decode cX4_slideRows 102 = .ok (.iinc 3 1, 3) := by decide +kernel
theorem dX4_slideRows_105 : decode cX4_slideRows 105 = .ok (.goto (-93), 3) := by decide +kernel
theorem dX4_slideRows_108 : decode cX4_slideRows 108 = .ok (.aload_n 0, 1) := by decide +kernel
theorem dX4_slideRows_109 : decode cX4_slideRows 109 = .ok (.invokevirtual 83, 3) := by decide +kernel
theorem dX4_slideRows_112 : decode cX4_slideRows 112 = .ok (.iload_n 2, 1) := by decide +kernel
theorem dX4_slideRows_113 : decode cX4_slideRows 113 = .ok (.ireturn, 1) := by decide +kernel
theorem dX4_raised_0 : decode cX4_raised 0 = .ok (.iload_n 1, 1) := by decide +kernel
theorem dX4_raised_1 : decode cX4_raised 1 = .ok (.bipush 32, 2) := by decide +kernel
theorem dX4_raised_3 : decode cX4_raised 3 = .ok (.if_icmp .ge 9, 3) := by decide +kernel
theorem dX4_raised_6 : decode cX4_raised 6 = .ok (.iload_n 1, 1) := by decide +kernel
theorem dX4_raised_7 : decode cX4_raised 7 = .ok (.bipush (-32), 2) := by decide +kernel
theorem dX4_raised_9 : decode cX4_raised 9 = .ok (.if_icmp .gt 5, 3) := by decide +kernel
theorem dX4_raised_12 : decode cX4_raised 12 = .ok (.iconst 0, 1) := by decide +kernel
theorem dX4_raised_13 : decode cX4_raised 13 = .ok (.ireturn, 1) := by decide +kernel
theorem dX4_raised_14 : decode cX4_raised 14 = .ok (.iload_n 1, 1) := by decide +kernel
theorem dX4_raised_15 : decode cX4_raised 15 = .ok (.ifCond .lt 9, 3) := by decide +kernel
theorem dX4_raised_18 : decode cX4_raised 18 = .ok (.iload_n 0, 1) := by decide +kernel
theorem dX4_raised_19 : decode cX4_raised 19 = .ok (.iload_n 1, 1) := by decide +kernel
theorem dX4_raised_20 : decode cX4_raised 20 = .ok (.iushr, 1) := by decide +kernel
theorem dX4_raised_21 : decode cX4_raised 21 = .ok (.goto 7, 3) := by decide +kernel
theorem dX4_raised_24 : decode cX4_raised 24 = .ok (.iload_n 0, 1) := by decide +kernel
theorem dX4_raised_25 : decode cX4_raised 25 = .ok (.iload_n 1, 1) := by decide +kernel
theorem dX4_raised_26 : decode cX4_raised 26 = .ok (.ineg, 1) := by decide +kernel
theorem dX4_raised_27 : decode cX4_raised 27 = .ok (.ishl, 1) := by decide +kernel
theorem dX4_raised_28 : decode cX4_raised 28 = .ok (.ireturn, 1) := by decide +kernel
theorem dX4_finishMove_0 : decode cX4_finishMove 0 = .ok (.aload_n 0, 1) := by decide +kernel
theorem dX4_finishMove_1 : decode cX4_finishMove 1 = .ok (.getfield 9, 3) := by decide +kernel
theorem dX4_finishMove_4 : decode cX4_finishMove 4 = .ok (.iconst 0, 1) := by decide +kernel
theorem dX4_finishMove_5 : decode cX4_finishMove 5 = .ok (.aload_n 0, 1) := by decide +kernel
theorem dX4_finishMove_6 : decode cX4_finishMove 6 = .ok (.getfield 20, 3) := by decide +kernel
theorem dX4_finishMove_9 : decode cX4_finishMove 9 = .ok (.aload_n 0, 1) := by decide +kernel
theorem dX4_finishMove_10 : decode cX4_finishMove 10 = .ok (.getfield 30, 3) := by decide +kernel
theorem dX4_finishMove_13 : decode cX4_finishMove 13 = .ok (.aaload, 1) := by decide +kernel
theorem dX4_finishMove_14 : decode cX4_finishMove 14 = .ok (.iconst 0, 1) := by decide +kernel
theorem dX4_finishMove_15 : decode cX4_finishMove 15 = .ok (.bipush 24, 2) := by decide +kernel
theorem dX4_finishMove_17 : decode cX4_finishMove 17 = .ok (.invokestatic 74, 3) := by decide +kernel
theorem dX4_finishMove_20 : decode cX4_finishMove 20 = .ok (.aload_n 0, 1) := by decide +kernel
theorem dX4_finishMove_21 : decode cX4_finishMove 21 = .ok (.getfield 15, 3) := by decide +kernel
theorem dX4_finishMove_24 : decode cX4_finishMove 24 = .ok (.iconst 0, 1) := by decide +kernel
theorem dX4_finishMove_25 : decode cX4_finishMove 25 = .ok (.aload_n 0, 1) := by decide +kernel
theorem dX4_finishMove_26 : decode cX4_finishMove 26 = .ok (.getfield 9, 3) := by decide +kernel
theorem dX4_finishMove_29 : decode cX4_finishMove 29 = .ok (.iconst 0, 1) := by decide +kernel
theorem dX4_finishMove_30 : decode cX4_finishMove 30 = .ok (.aload_n 0, 1) := by decide +kernel
theorem dX4_finishMove_31 : decode cX4_finishMove 31 = .ok (.getfield 23, 3) := by decide +kernel
theorem dX4_finishMove_34 : decode cX4_finishMove 34 = .ok (.invokestatic 74, 3) := by decide +kernel
theorem dX4_finishMove_37 : decode cX4_finishMove 37 = .ok (.aload_n 0, 1) := by decide +kernel
theorem dX4_finishMove_38 : decode cX4_finishMove 38 = .ok (.aload_n 0, 1) := by decide +kernel
theorem dX4_finishMove_39 : decode cX4_finishMove 39 = .ok (.getfield 30, 3) := by decide +kernel
theorem dX4_finishMove_42 : decode cX4_finishMove 42 = .ok (.iconst 1, 1) := by decide +kernel
theorem dX4_finishMove_43 : decode cX4_finishMove 43 = .ok (.iadd, 1) := by decide +kernel
theorem dX4_finishMove_44 : decode cX4_finishMove 44 = .ok (.bipush 8, 2) := by decide +kernel
theorem dX4_finishMove_46 : decode cX4_finishMove 46 = .ok (.irem, 1) := by decide +kernel
theorem dX4_finishMove_47 : decode cX4_finishMove 47 = .ok (.putfield 30, 3) := by decide +kernel
theorem dX4_finishMove_50 : decode cX4_finishMove 50 = .ok (.aload_n 0, 1) := by decide +kernel
theorem dX4_finishMove_51 : decode cX4_finishMove 51 = .ok (.aload_n 0, 1) := by decide +kernel
theorem dX4_finishMove_52 : decode cX4_finishMove 52 = .ok (.getfield 27, 3) := by decide +kernel
theorem dX4_finishMove_55 : decode cX4_finishMove 55 = .ok (.iconst 1, 1) := by decide +kernel
theorem dX4_finishMove_56 : decode cX4_finishMove 56 = .ok (.iadd, 1) := by decide +kernel
theorem dX4_finishMove_57 : decode cX4_finishMove 57 = .ok (.bipush 8, 2) := by decide +kernel
theorem dX4_finishMove_59 : decode cX4_finishMove 59 = .ok (.invokestatic 44, 3) := by decide +kernel
theorem dX4_finishMove_62 : decode cX4_finishMove 62 = .ok (.putfield 27, 3) := by decide +kernel
theorem dX4_finishMove_65 : decode cX4_finishMove 65 = .ok (.return_, 1) := by decide +kernel
theorem dX5_init_0 : decode cX5_init 0 = .ok (.aload_n 0, 1) := by decide +kernel
theorem dX5_init_1 : decode cX5_init 1 = .ok (.invokespecial 3, 3) := by decide +kernel
theorem dX5_init_4 : decode cX5_init 4 = .ok (.aload_n 0, 1) := by decide +kernel
theorem dX5_init_5 : decode cX5_init 5 = .ok (.sipush 384, 3) := by decide +kernel
theorem dX5_init_8 : decode cX5_init 8 = .ok (.newarray .int, 2) := by decide +kernel
theorem dX5_init_10 : decode cX5_init 10 = .ok (.putfield 11, 3) := by decide +kernel
theorem dX5_init_13 : decode cX5_init 13 = .ok (.aload_n 0, 1) := by decide +kernel
theorem dX5_init_14 : decode cX5_init 14 = .ok (.sipush 384, 3) := by decide +kernel
theorem dX5_init_17 : decode cX5_init 17 = .ok (.newarray .int, 2) := by decide +kernel
theorem dX5_init_19 : decode cX5_init 19 = .ok (.putfield 15, 3) := by decide +kernel
theorem dX5_init_22 : decode cX5_init 22 = .ok (.aload_n 0, 1) := by decide +kernel
theorem dX5_init_23 : decode cX5_init 23 = .ok (.sipush 384, 3) := by decide +kernel
theorem dX5_init_26 : decode cX5_init 26 = .ok (.newarray .int, 2) := by decide +kernel
theorem dX5_init_28 : decode cX5_init 28 = .ok (.putfield 18, 3) := by decide +kernel
theorem dX5_init_31 : decode cX5_init 31 = .ok (.aload_n 0, 1) := by decide +kernel
theorem dX5_init_32 : decode cX5_init 32 = .ok (.sipush 384, 3) := by decide +kernel
theorem dX5_init_35 : decode cX5_init 35 = .ok (.newarray .int, 2) := by decide +kernel
theorem dX5_init_37 : decode cX5_init 37 = .ok (.putfield 21, 3) := by decide +kernel
theorem dX5_init_40 : decode cX5_init 40 = .ok (.aload_n 0, 1) := by decide +kernel
theorem dX5_init_41 : decode cX5_init 41 = .ok (.sipush 384, 3) := by decide +kernel
theorem dX5_init_44 : decode cX5_init 44 = .ok (.newarray .int, 2) := by decide +kernel
theorem dX5_init_46 : decode cX5_init 46 = .ok (.putfield 24, 3) := by decide +kernel
theorem dX5_init_49 : decode cX5_init 49 = .ok (.aload_n 0, 1) := by decide +kernel
theorem dX5_init_50 : decode cX5_init 50 = .ok (.iconst 0, 1) := by decide +kernel
theorem dX5_init_51 : decode cX5_init 51 = .ok (.putfield 27, 3) := by decide +kernel
theorem dX5_init_54 : decode cX5_init 54 = .ok (.aload_n 0, 1) := by decide +kernel
theorem dX5_init_55 : decode cX5_init 55 = .ok (.iconst 0, 1) := by decide +kernel
theorem dX5_init_56 : decode cX5_init 56 = .ok (.putfield 31, 3) := by decide +kernel
theorem dX5_init_59 : decode cX5_init 59 = .ok (.return_, 1) := by decide +kernel
theorem dX5_find_0 : decode cX5_find 0 = .ok (.aload_n 0, 1) := by decide +kernel
theorem dX5_find_1 : decode cX5_find 1 = .ok (.iconst 0, 1) := by decide +kernel
theorem dX5_find_2 : decode cX5_find 2 = .ok (.putfield 27, 3) := by decide +kernel
theorem dX5_find_5 : decode cX5_find 5 = .ok (.iconst 0, 1) := by decide +kernel
theorem dX5_find_6 : decode cX5_find 6 = .ok (.istore_n 2, 1) := by decide +kernel
theorem dX5_find_7 : decode cX5_find 7 = .ok (.iconst 0, 1) := by decide +kernel
theorem dX5_find_8 : decode cX5_find 8 = .ok (.istore_n 3, 1) := by decide +kernel
theorem dX5_find_9 : decode cX5_find 9 = .ok (.iload_n 3, 1) := by decide +kernel
theorem dX5_find_10 : decode cX5_find 10 = .ok (.bipush 32, 2) := by decide +kernel
theorem dX5_find_12 : decode cX5_find 12 = .ok (.if_icmp .ge 31, 3) := by decide +kernel
theorem dX5_find_15 : decode cX5_find 15 = .ok (.aload_n 0, 1) := by decide +kernel
theorem dX5_find_16 : decode cX5_find 16 = .ok (.getfield 27, 3) := by decide +kernel
theorem dX5_find_19 : decode cX5_find 19 = .ok (.istore 4, 2) := by decide +kernel
theorem dX5_find_21 : decode cX5_find 21 = .ok (.aload_n 0, 1) := by decide +kernel
theorem dX5_find_22 : decode cX5_find 22 = .ok (.aload_n 1, 1) := by decide +kernel
theorem dX5_find_23 : decode cX5_find 23 = .ok (.iload_n 3, 1) := by decide +kernel
theorem dX5_find_24 : decode cX5_find 24 = .ok (.invokevirtual 34, 3) := by decide +kernel
theorem dX5_find_27 : decode cX5_find 27 = .ok (.aload_n 0, 1) := by decide +kernel
theorem dX5_find_28 : decode cX5_find 28 = .ok (.iload_n 2, 1) := by decide +kernel
theorem dX5_find_29 : decode cX5_find 29 = .ok (.iload 4, 2) := by decide +kernel
theorem dX5_find_31 : decode cX5_find 31 = .ok (.invokevirtual 38, 3) := by decide +kernel
theorem dX5_find_34 : decode cX5_find 34 = .ok (.iload 4, 2) := by decide +kernel
theorem dX5_find_36 : decode cX5_find 36 = .ok (.istore_n 2, 1) := by decide +kernel
theorem dX5_find_37 : decode cX5_find 37 = .ok (.iinc 3 1, 3) := by decide +kernel
theorem dX5_find_40 : decode cX5_find 40 = .ok (.goto (-31), 3) := by decide +kernel
theorem dX5_find_43 : decode cX5_find 43 = .ok (.aload_n 0, 1) := by decide +kernel
theorem dX5_find_44 : decode cX5_find 44 = .ok (.invokevirtual 42, 3) := by decide +kernel
theorem dX5_find_47 : decode cX5_find 47 = .ok (.return_, 1) := by decide +kernel
theorem dX5_runs_0 : decode cX5_runs 0 = .ok (.aload_n 0, 1) := by decide +kernel
theorem dX5_runs_1 : decode cX5_runs 1 = .ok (.getfield 27, 3) := by decide +kernel
theorem dX5_runs_4 : decode cX5_runs 4 = .ok (.ireturn, 1) := by decide +kernel
theorem dX5_count_0 : decode cX5_count 0 = .ok (.aload_n 0, 1) := by decide +kernel
theorem dX5_count_1 : decode cX5_count 1 = .ok (.getfield 31, 3) := by decide +kernel
theorem dX5_count_4 : decode cX5_count 4 = .ok (.ireturn, 1) := by decide +kernel
theorem dX5_rowOf_0 : decode cX5_rowOf 0 = .ok (.aload_n 0, 1) := by decide +kernel
theorem dX5_rowOf_1 : decode cX5_rowOf 1 = .ok (.iload_n 1, 1) := by decide +kernel
theorem dX5_rowOf_2 : decode cX5_rowOf 2 = .ok (.invokevirtual 45, 3) := by decide +kernel
theorem dX5_rowOf_5 : decode cX5_rowOf 5 = .ok (.ifCond .eq 12, 3) := by decide +kernel
theorem dX5_rowOf_8 : decode cX5_rowOf 8 = .ok (.aload_n 0, 1) := by decide +kernel
theorem dX5_rowOf_9 : decode cX5_rowOf 9 = .ok (.getfield 11, 3) := by decide +kernel
theorem dX5_rowOf_12 : decode cX5_rowOf 12 = .ok (.iload_n 1, 1) := by decide +kernel
theorem dX5_rowOf_13 : decode cX5_rowOf 13 = .ok (.iaload, 1) := by decide +kernel
theorem dX5_rowOf_14 : decode cX5_rowOf 14 = .ok (.goto 4, 3) := by decide +kernel
theorem dX5_rowOf_17 : decode cX5_rowOf 17 = .ok (.iconst (-1), 1) := by decide +kernel
theorem dX5_rowOf_18 : decode cX5_rowOf 18 = .ok (.ireturn, 1) := by decide +kernel
theorem dX5_firstOf_0 : decode cX5_firstOf 0 = .ok (.aload_n 0, 1) := by decide +kernel
theorem dX5_firstOf_1 : decode cX5_firstOf 1 = .ok (.iload_n 1, 1) := by decide +kernel
theorem dX5_firstOf_2 : decode cX5_firstOf 2 = .ok (.invokevirtual 45, 3) := by decide +kernel
theorem dX5_firstOf_5 : decode cX5_firstOf 5 = .ok (.ifCond .eq 12, 3) := by decide +kernel
theorem dX5_firstOf_8 : decode cX5_firstOf 8 = .ok (.aload_n 0, 1) := by decide +kernel
theorem dX5_firstOf_9 : decode cX5_firstOf 9 = .ok (.getfield 15, 3) := by decide +kernel
theorem dX5_firstOf_12 : decode cX5_firstOf 12 = .ok (.iload_n 1, 1) := by decide +kernel
theorem dX5_firstOf_13 : decode cX5_firstOf 13 = .ok (.iaload, 1) := by decide +kernel
theorem dX5_firstOf_14 : decode cX5_firstOf 14 = .ok (.goto 4, 3) := by decide +kernel
theorem dX5_firstOf_17 : decode cX5_firstOf 17 = .ok (.iconst (-1), 1) := by decide +kernel
theorem dX5_firstOf_18 : decode cX5_firstOf 18 = .ok (.ireturn, 1) := by decide +kernel
theorem dX5_dotsOf_0 : decode cX5_dotsOf 0 = .ok (.aload_n 0, 1) := by decide +kernel
theorem dX5_dotsOf_1 : decode cX5_dotsOf 1 = .ok (.iload_n 1, 1) := by decide +kernel
theorem dX5_dotsOf_2 : decode cX5_dotsOf 2 = .ok (.invokevirtual 45, 3) := by decide +kernel
theorem dX5_dotsOf_5 : decode cX5_dotsOf 5 = .ok (.ifCond .eq 21, 3) := by decide +kernel
theorem dX5_dotsOf_8 : decode cX5_dotsOf 8 = .ok (.aload_n 0, 1) := by decide +kernel
theorem dX5_dotsOf_9 : decode cX5_dotsOf 9 = .ok (.getfield 18, 3) := by decide +kernel
theorem dX5_dotsOf_12 : decode cX5_dotsOf 12 = .ok (.iload_n 1, 1) := by decide +kernel
theorem dX5_dotsOf_13 : decode cX5_dotsOf 13 = .ok (.iaload, 1) := by decide +kernel
theorem dX5_dotsOf_14 : decode cX5_dotsOf 14 = .ok (.aload_n 0, 1) := by decide +kernel
theorem dX5_dotsOf_15 : decode cX5_dotsOf 15 = .ok (.getfield 15, 3) := by decide +kernel
theorem dX5_dotsOf_18 : decode cX5_dotsOf 18 = .ok (.iload_n 1, 1) := by decide +kernel
theorem dX5_dotsOf_19 : decode cX5_dotsOf 19 = .ok (.iaload, 1) := by decide +kernel
theorem dX5_dotsOf_20 : decode cX5_dotsOf 20 = .ok (.isub, 1) := by decide +kernel
theorem dX5_dotsOf_21 : decode cX5_dotsOf 21 = .ok (.iconst 1, 1) := by decide +kernel
theorem dX5_dotsOf_22 : decode cX5_dotsOf 22 = .ok (.iadd, 1) := by decide +kernel
theorem dX5_dotsOf_23 : decode cX5_dotsOf 23 = .ok (.goto 4, 3) := by decide +kernel
theorem dX5_dotsOf_26 : decode cX5_dotsOf 26 = .ok (.iconst (-1), 1) := by decide +kernel
theorem dX5_dotsOf_27 : decode cX5_dotsOf 27 = .ok (.ireturn, 1) := by decide +kernel
theorem dX5_strokeOf_0 : decode cX5_strokeOf 0 = .ok (.aload_n 0, 1) := by decide +kernel
theorem dX5_strokeOf_1 : decode cX5_strokeOf 1 = .ok (.iload_n 1, 1) := by decide +kernel
theorem dX5_strokeOf_2 : decode cX5_strokeOf 2 = .ok (.invokevirtual 45, 3) := by decide +kernel
theorem dX5_strokeOf_5 : decode cX5_strokeOf 5 = .ok (.ifCond .eq 12, 3) := by decide +kernel
theorem dX5_strokeOf_8 : decode cX5_strokeOf 8 = .ok (.aload_n 0, 1) := by decide +kernel
theorem dX5_strokeOf_9 : decode cX5_strokeOf 9 = .ok (.getfield 24, 3) := by decide +kernel
theorem dX5_strokeOf_12 : decode cX5_strokeOf 12 = .ok (.iload_n 1, 1) := by decide +kernel
theorem dX5_strokeOf_13 : decode cX5_strokeOf 13 = .ok (.iaload, 1) := by decide +kernel
theorem dX5_strokeOf_14 : decode cX5_strokeOf 14 = .ok (.goto 4, 3) := by decide +kernel
theorem dX5_strokeOf_17 : decode cX5_strokeOf 17 = .ok (.iconst (-1), 1) := by decide +kernel
theorem dX5_strokeOf_18 : decode cX5_strokeOf 18 = .ok (.ireturn, 1) := by decide +kernel
theorem dX5_dotsTogether_0 : decode cX5_dotsTogether 0 = .ok (.iconst 0, 1) := by decide +kernel
theorem dX5_dotsTogether_1 : decode cX5_dotsTogether 1 = .ok (.istore_n 2, 1) := by decide +kernel
theorem dX5_dotsTogether_2 : decode cX5_dotsTogether 2 = .ok (.iconst 0, 1) := by decide +kernel
theorem dX5_dotsTogether_3 : decode cX5_dotsTogether 3 = .ok (.istore_n 3, 1) := by decide +kernel
theorem dX5_dotsTogether_4 : decode cX5_dotsTogether 4 = .ok (.iload_n 3, 1) := by decide +kernel
theorem dX5_dotsTogether_5 : decode cX5_dotsTogether 5 = .ok (.aload_n 0, 1) := by decide +kernel
theorem dX5_dotsTogether_6 : decode cX5_dotsTogether 6 = .ok (.getfield 27, 3) := by decide +kernel
theorem dX5_dotsTogether_9 : decode cX5_dotsTogether 9 = .ok (.if_icmp .ge 31, 3) := by decide +kernel
theorem dX5_dotsTogether_12 : decode cX5_dotsTogether 12 = .ok (.iload_n 2, 1) := by decide +kernel
theorem dX5_dotsTogether_13 : decode cX5_dotsTogether 13 = .ok (.aload_n 0, 1) := by decide +kernel
theorem dX5_dotsTogether_14 : decode cX5_dotsTogether 14 = .ok (.getfield 24, 3) := by decide +kernel
theorem dX5_dotsTogether_17 : decode cX5_dotsTogether 17 = .ok (.iload_n 3, 1) := by decide +kernel
theorem dX5_dotsTogether_18 : decode cX5_dotsTogether 18 = .ok (.iaload, 1) := by decide +kernel
theorem dX5_dotsTogether_19 : decode cX5_dotsTogether 19 = .ok (.iload_n 1, 1) := by decide +kernel
theorem dX5_dotsTogether_20 : decode cX5_dotsTogether 20 = .ok (.if_icmp .ne 11, 3) := by decide +kernel
theorem dX5_dotsTogether_23 : decode cX5_dotsTogether 23 = .ok (.aload_n 0, 1) := by decide +kernel
theorem dX5_dotsTogether_24 : decode cX5_dotsTogether 24 = .ok (.iload_n 3, 1) := by decide +kernel
theorem dX5_dotsTogether_25 : decode cX5_dotsTogether 25 = .ok (.invokevirtual 49, 3) := by decide +kernel
theorem dX5_dotsTogether_28 : decode cX5_dotsTogether 28 = .ok (.goto 4, 3) := by decide +kernel
theorem dX5_dotsTogether_31 : decode cX5_dotsTogether 31 = .ok (.iconst 0, 1) := by decide +kernel
theorem dX5_dotsTogether_32 : decode cX5_dotsTogether 32 = .ok (.iadd, 1) := by decide +kernel
theorem dX5_dotsTogether_33 : decode cX5_dotsTogether 33 = .ok (.istore_n 2, 1) := by decide +kernel
theorem dX5_dotsTogether_34 : decode cX5_dotsTogether 34 = .ok (.iinc 3 1, 3) := by decide +kernel
theorem dX5_dotsTogether_37 : decode cX5_dotsTogether 37 = .ok (.goto (-33), 3) := by decide +kernel
theorem dX5_dotsTogether_40 : decode cX5_dotsTogether 40 = .ok (.iload_n 2, 1) := by decide +kernel
theorem dX5_dotsTogether_41 : decode cX5_dotsTogether 41 = .ok (.ireturn, 1) := by decide +kernel
theorem dX5_runsTogether_0 : decode cX5_runsTogether 0 = .ok (.iconst 0, 1) := by decide +kernel
theorem dX5_runsTogether_1 : decode cX5_runsTogether 1 = .ok (.istore_n 2, 1) := by decide +kernel
theorem dX5_runsTogether_2 : decode cX5_runsTogether 2 = .ok (.iconst 0, 1) := by decide +kernel
theorem dX5_runsTogether_3 : decode cX5_runsTogether 3 = .ok (.istore_n 3, 1) := by decide +kernel
theorem dX5_runsTogether_4 : decode cX5_runsTogether 4 = .ok (.iload_n 3, 1) := by decide +kernel
theorem dX5_runsTogether_5 : decode cX5_runsTogether 5 = .ok (.aload_n 0, 1) := by decide +kernel
theorem dX5_runsTogether_6 : decode cX5_runsTogether 6 = .ok (.getfield 27, 3) := by decide +kernel
theorem dX5_runsTogether_9 : decode cX5_runsTogether 9 = .ok (.if_icmp .ge 27, 3) := by decide +kernel
theorem dX5_runsTogether_12 : decode cX5_runsTogether 12 = .ok (.iload_n 2, 1) := by decide +kernel
theorem dX5_runsTogether_13 : decode cX5_runsTogether 13 = .ok (.aload_n 0, 1) := by decide +kernel
theorem dX5_runsTogether_14 : decode cX5_runsTogether 14 = .ok (.getfield 24, 3) := by decide +kernel
theorem dX5_runsTogether_17 : decode cX5_runsTogether 17 = .ok (.iload_n 3, 1) := by decide +kernel
theorem dX5_runsTogether_18 : decode cX5_runsTogether 18 = .ok (.iaload, 1) := by decide +kernel
theorem dX5_runsTogether_19 : decode cX5_runsTogether 19 = .ok (.iload_n 1, 1) := by decide +kernel
theorem dX5_runsTogether_20 : decode cX5_runsTogether 20 = .ok (.if_icmp .ne 7, 3) := by decide +kernel
theorem dX5_runsTogether_23 : decode cX5_runsTogether 23 = .ok (.iconst 1, 1) := by decide +kernel
theorem dX5_runsTogether_24 : decode cX5_runsTogether 24 = .ok (.goto 4, 3) := by decide +kernel
theorem dX5_runsTogether_27 : decode cX5_runsTogether 27 = .ok (.iconst 0, 1) := by decide +kernel
theorem dX5_runsTogether_28 : decode cX5_runsTogether 28 = .ok (.iadd, 1) := by decide +kernel
theorem dX5_runsTogether_29 : decode cX5_runsTogether 29 = .ok (.istore_n 2, 1) := by decide +kernel
theorem dX5_runsTogether_30 : decode cX5_runsTogether 30 = .ok (.iinc 3 1, 3) := by decide +kernel
theorem dX5_runsTogether_33 : decode cX5_runsTogether 33 = .ok (.goto (-29), 3) := by decide +kernel
theorem dX5_runsTogether_36 : decode cX5_runsTogether 36 = .ok (.iload_n 2, 1) := by decide +kernel
theorem dX5_runsTogether_37 : decode cX5_runsTogether 37 = .ok (.ireturn, 1) := by decide +kernel
theorem dX5_leastRow_0 : decode cX5_leastRow 0 = .ok (.aload_n 0, 1) := by decide +kernel
theorem dX5_leastRow_1 : decode cX5_leastRow 1 = .ok (.aload_n 0, 1) := by decide +kernel
theorem dX5_leastRow_2 : decode cX5_leastRow 2 = .ok (.getfield 11, 3) := by decide +kernel
theorem dX5_leastRow_5 : decode cX5_leastRow 5 = .ok (.iload_n 1, 1) := by decide +kernel
theorem dX5_leastRow_6 : decode cX5_leastRow 6 = .ok (.invokevirtual 53, 3) := by decide +kernel
theorem dX5_leastRow_9 : decode cX5_leastRow 9 = .ok (.ireturn, 1) := by decide +kernel
theorem dX5_greatestRow_0 : decode cX5_greatestRow 0 = .ok (.aload_n 0, 1) := by decide +kernel
theorem dX5_greatestRow_1 : decode cX5_greatestRow 1 = .ok (.aload_n 0, 1) := by decide +kernel
theorem dX5_greatestRow_2 : decode cX5_greatestRow 2 = .ok (.getfield 11, 3) := by decide +kernel
theorem dX5_greatestRow_5 : decode cX5_greatestRow 5 = .ok (.iload_n 1, 1) := by decide +kernel
theorem dX5_greatestRow_6 : decode cX5_greatestRow 6 = .ok (.invokevirtual 57, 3) := by decide +kernel
theorem dX5_greatestRow_9 : decode cX5_greatestRow 9 = .ok (.ireturn, 1) := by decide +kernel
theorem dX5_leastColumn_0 : decode cX5_leastColumn 0 = .ok (.aload_n 0, 1) := by decide +kernel
theorem dX5_leastColumn_1 : decode cX5_leastColumn 1 = .ok (.aload_n 0, 1) := by decide +kernel
theorem dX5_leastColumn_2 : decode cX5_leastColumn 2 = .ok (.getfield 15, 3) := by decide +kernel
theorem dX5_leastColumn_5 : decode cX5_leastColumn 5 = .ok (.iload_n 1, 1) := by decide +kernel
theorem dX5_leastColumn_6 : decode cX5_leastColumn 6 = .ok (.invokevirtual 53, 3) := by decide +kernel
theorem dX5_leastColumn_9 : decode cX5_leastColumn 9 = .ok (.ireturn, 1) := by decide +kernel
theorem dX5_greatestColumn_0 : decode cX5_greatestColumn 0 = .ok (.aload_n 0, 1) := by decide +kernel
theorem dX5_greatestColumn_1 : decode cX5_greatestColumn 1 = .ok (.aload_n 0, 1) := by decide +kernel
theorem dX5_greatestColumn_2 : decode cX5_greatestColumn 2 = .ok (.getfield 18, 3) := by decide +kernel
theorem dX5_greatestColumn_5 : decode cX5_greatestColumn 5 = .ok (.iload_n 1, 1) := by decide +kernel
theorem dX5_greatestColumn_6 : decode cX5_greatestColumn 6 = .ok (.invokevirtual 57, 3) := by decide +kernel
theorem dX5_greatestColumn_9 : decode cX5_greatestColumn 9 = .ok (.ireturn, 1) := by decide +kernel
theorem dX5_least_0 : decode cX5_least 0 = .ok (.bipush 32, 2) := by decide +kernel
theorem dX5_least_2 : decode cX5_least 2 = .ok (.istore_n 3, 1) := by decide +kernel
theorem dX5_least_3 : decode cX5_least 3 = .ok (.iconst 0, 1) := by decide +kernel
theorem dX5_least_4 : decode cX5_least 4 = .ok (.istore 4, 2) := by decide +kernel
theorem dX5_least_6 : decode cX5_least 6 = .ok (.iload 4, 2) := by decide +kernel
theorem dX5_least_8 : decode cX5_least 8 = .ok (.aload_n 0, 1) := by decide +kernel
theorem dX5_least_9 : decode cX5_least 9 = .ok (.getfield 27, 3) := by decide +kernel
theorem dX5_least_12 : decode cX5_least 12 = .ok (.if_icmp .ge 40, 3) := by decide +kernel
theorem dX5_least_15 : decode cX5_least 15 = .ok (.iload 4, 2) := by decide +kernel
theorem dX5_least_17 : decode cX5_least 17 = .ok (.aload_n 1, 1) := by decide +kernel
theorem dX5_least_18 : decode cX5_least 18 = .ok (.arraylength, 1) := by decide +kernel
theorem dX5_least_19 : decode cX5_least 19 = .ok (.if_icmp .ge 33, 3) := by decide +kernel
theorem dX5_least_22 : decode cX5_least 22 = .ok (.aload_n 0, 1) := by decide +kernel
theorem dX5_least_23 : decode cX5_least 23 = .ok (.getfield 24, 3) := by decide +kernel
theorem dX5_least_26 : decode cX5_least 26 = .ok (.iload 4, 2) := by decide +kernel
theorem dX5_least_28 : decode cX5_least 28 = .ok (.iaload, 1) := by decide +kernel
theorem dX5_least_29 : decode cX5_least 29 = .ok (.iload_n 2, 1) := by decide +kernel
theorem dX5_least_30 : decode cX5_least 30 = .ok (.if_icmp .ne 14, 3) := by decide +kernel
theorem dX5_least_33 : decode cX5_least 33 = .ok (.iload_n 3, 1) := by decide +kernel
theorem dX5_least_34 : decode cX5_least 34 = .ok (.aload_n 1, 1) := by decide +kernel
theorem dX5_least_35 : decode cX5_least 35 = .ok (.iload 4, 2) := by decide +kernel
theorem dX5_least_37 : decode cX5_least 37 = .ok (.iaload, 1) := by decide +kernel
theorem dX5_least_38 : decode cX5_least 38 = .ok (.invokestatic 60, 3) := by decide +kernel
theorem dX5_least_41 : decode cX5_least 41 = .ok (.goto 4, 3) := by decide +kernel
theorem dX5_least_44 : decode cX5_least 44 = .ok (.iload_n 3, 1) := by decide +kernel
theorem dX5_least_45 : decode cX5_least 45 = .ok (.istore_n 3, 1) := by decide +kernel
theorem dX5_least_46 : decode cX5_least 46 = .ok (.iinc 4 1, 3) := by decide +kernel
theorem dX5_least_49 : decode cX5_least 49 = .ok (.goto (-43), 3) := by decide +kernel
theorem dX5_least_52 : decode cX5_least 52 = .ok (.iload_n 3, 1) := by decide +kernel
theorem dX5_least_53 : decode cX5_least 53 = .ok (.ireturn, 1) := by decide +kernel
theorem dX5_greatest_0 : decode cX5_greatest 0 = .ok (.iconst 0, 1) := by decide +kernel
theorem dX5_greatest_1 : decode cX5_greatest 1 = .ok (.istore_n 3, 1) := by decide +kernel
theorem dX5_greatest_2 : decode cX5_greatest 2 = .ok (.iconst 0, 1) := by decide +kernel
theorem dX5_greatest_3 : decode cX5_greatest 3 = .ok (.istore 4, 2) := by decide +kernel
theorem dX5_greatest_5 : decode cX5_greatest 5 = .ok (.iload 4, 2) := by decide +kernel
theorem dX5_greatest_7 : decode cX5_greatest 7 = .ok (.aload_n 0, 1) := by decide +kernel
theorem dX5_greatest_8 : decode cX5_greatest 8 = .ok (.getfield 27, 3) := by decide +kernel
theorem dX5_greatest_11 : decode cX5_greatest 11 = .ok (.if_icmp .ge 40, 3) := by decide +kernel
theorem dX5_greatest_14 : decode cX5_greatest 14 = .ok (.iload 4, 2) := by decide +kernel
theorem dX5_greatest_16 : decode cX5_greatest 16 = .ok (.aload_n 1, 1) := by decide +kernel
theorem dX5_greatest_17 : decode cX5_greatest 17 = .ok (.arraylength, 1) := by decide +kernel
theorem dX5_greatest_18 : decode cX5_greatest 18 = .ok (.if_icmp .ge 33, 3) := by decide +kernel
theorem dX5_greatest_21 : decode cX5_greatest 21 = .ok (.aload_n 0, 1) := by decide +kernel
theorem dX5_greatest_22 : decode cX5_greatest 22 = .ok (.getfield 24, 3) := by decide +kernel
theorem dX5_greatest_25 : decode cX5_greatest 25 = .ok (.iload 4, 2) := by decide +kernel
theorem dX5_greatest_27 : decode cX5_greatest 27 = .ok (.iaload, 1) := by decide +kernel
theorem dX5_greatest_28 : decode cX5_greatest 28 = .ok (.iload_n 2, 1) := by decide +kernel
theorem dX5_greatest_29 : decode cX5_greatest 29 = .ok (.if_icmp .ne 14, 3) := by decide +kernel
theorem dX5_greatest_32 : decode cX5_greatest 32 = .ok (.iload_n 3, 1) := by decide +kernel
theorem dX5_greatest_33 : decode cX5_greatest 33 = .ok (.aload_n 1, 1) := by decide +kernel
theorem dX5_greatest_34 : decode cX5_greatest 34 = .ok (.iload 4, 2) := by decide +kernel
theorem dX5_greatest_36 : decode cX5_greatest 36 = .ok (.iaload, 1) := by decide +kernel
theorem dX5_greatest_37 : decode cX5_greatest 37 = .ok (.invokestatic 66, 3) := by decide +kernel
theorem dX5_greatest_40 : decode cX5_greatest 40 = .ok (.goto 4, 3) := by decide +kernel
theorem dX5_greatest_43 : decode cX5_greatest 43 = .ok (.iload_n 3, 1) := by decide +kernel
theorem dX5_greatest_44 : decode cX5_greatest 44 = .ok (.istore_n 3, 1) := by decide +kernel
theorem dX5_greatest_45 : decode cX5_greatest 45 = .ok (.iinc 4 1, 3) := by decide +kernel
theorem dX5_greatest_48 : decode cX5_greatest 48 = .ok (.goto (-43), 3) := by decide +kernel
theorem dX5_greatest_51 : decode cX5_greatest 51 = .ok (.iload_n 3, 1) := by decide +kernel
theorem dX5_greatest_52 : decode cX5_greatest 52 = .ok (.ireturn, 1) := by decide +kernel
theorem dX5_isRun_0 : decode cX5_isRun 0 = .ok (.iload_n 1, 1) := by decide +kernel
theorem dX5_isRun_1 : decode cX5_isRun 1 = .ok (.ifCond .lt 15, 3) := by decide +kernel
theorem dX5_isRun_4 : decode cX5_isRun 4 = .ok (.iload_n 1, 1) := by decide +kernel
theorem dX5_isRun_5 : decode cX5_isRun 5 = .ok (.aload_n 0, 1) := by decide +kernel
theorem dX5_isRun_6 : decode cX5_isRun 6 = .ok (.getfield 27, 3) := by decide +kernel
theorem dX5_isRun_9 : decode cX5_isRun 9 = .ok (.if_icmp .ge 7, 3) := by decide +kernel
theorem dX5_isRun_12 : decode cX5_isRun 12 = .ok (.iconst 1, 1) := by decide +kernel
theorem dX5_isRun_13 : decode cX5_isRun 13 = .ok (.goto 4, 3) := by decide +kernel
theorem dX5_isRun_16 : decode cX5_isRun 16 = .ok (.iconst 0, 1) := by decide +kernel
theorem dX5_isRun_17 : decode cX5_isRun 17 = .ok (.ireturn, 1) := by decide +kernel
theorem dX5_addRuns_0 : decode cX5_addRuns 0 = .ok (.iconst 0, 1) := by decide +kernel
theorem dX5_addRuns_1 : decode cX5_addRuns 1 = .ok (.istore_n 3, 1) := by decide +kernel
theorem dX5_addRuns_2 : decode cX5_addRuns 2 = .ok (.iconst 0, 1) := by decide +kernel
theorem dX5_addRuns_3 : decode cX5_addRuns 3 = .ok (.istore 4, 2) := by decide +kernel
theorem dX5_addRuns_5 : decode cX5_addRuns 5 = .ok (.iload 4, 2) := by decide +kernel
theorem dX5_addRuns_7 : decode cX5_addRuns 7 = .ok (.aload_n 1, 1) := by decide +kernel
theorem dX5_addRuns_8 : decode cX5_addRuns 8 = .ok (.invokevirtual 69, 3) := by decide +kernel
theorem dX5_addRuns_11 : decode cX5_addRuns 11 = .ok (.if_icmp .ge 109, 3) := by decide +kernel
theorem dX5_addRuns_14 : decode cX5_addRuns 14 = .ok (.aload_n 1, 1) := by decide +kernel
theorem dX5_addRuns_15 : decode cX5_addRuns 15 = .ok (.iload 4, 2) := by decide +kernel
theorem dX5_addRuns_17 : decode cX5_addRuns 17 = .ok (.iload_n 2, 1) := by decide +kernel
theorem dX5_addRuns_18 : decode cX5_addRuns 18 = .ok (.invokevirtual 75, 3) := by decide +kernel
theorem dX5_addRuns_21 : decode cX5_addRuns 21 = .ok (.istore 5, 2) := by decide +kernel
theorem dX5_addRuns_23 : decode cX5_addRuns 23 = .ok (.iload 5, 2) := by decide +kernel
theorem dX5_addRuns_25 : decode cX5_addRuns 25 = .ok (.ifCond .eq 61, 3) := by decide +kernel
theorem dX5_addRuns_28 : decode cX5_addRuns 28 = .ok (.iload_n 3, 1) := by decide +kernel
theorem dX5_addRuns_29 : decode cX5_addRuns 29 = .ok (.ifCond .ne 57, 3) := by decide +kernel
theorem dX5_addRuns_32 : decode cX5_addRuns 32 = .ok (.aload_n 0, 1) := by decide +kernel
theorem dX5_addRuns_33 : decode cX5_addRuns 33 = .ok (.getfield 27, 3) := by decide +kernel
theorem dX5_addRuns_36 : decode cX5_addRuns 36 = .ok (.sipush 384, 3) := by decide +kernel
theorem dX5_addRuns_39 : decode cX5_addRuns 39 = .ok (.if_icmp .ge 47, 3) := by decide +kernel
theorem dX5_addRuns_42 : decode cX5_addRuns 42 = .ok (.aload_n 0, 1) := by decide +kernel
theorem dX5_addRuns_43 : decode cX5_addRuns 43 = .ok (.getfield 11, 3) := by decide +kernel
theorem dX5_addRuns_46 : decode cX5_addRuns 46 = .ok (.aload_n 0, 1) := by decide +kernel
theorem dX5_addRuns_47 : decode cX5_addRuns 47 = .ok (.getfield 27, 3) := by decide +kernel
theorem dX5_addRuns_50 : decode cX5_addRuns 50 = .ok (.iload_n 2, 1) := by decide +kernel
theorem dX5_addRuns_51 : decode cX5_addRuns 51 = .ok (.iastore, 1) := by decide +kernel
theorem dX5_addRuns_52 : decode cX5_addRuns 52 = .ok (.aload_n 0, 1) := by decide +kernel
theorem dX5_addRuns_53 : decode cX5_addRuns 53 = .ok (.getfield 15, 3) := by decide +kernel
theorem dX5_addRuns_56 : decode cX5_addRuns 56 = .ok (.aload_n 0, 1) := by decide +kernel
theorem dX5_addRuns_57 : decode cX5_addRuns 57 = .ok (.getfield 27, 3) := by decide +kernel
theorem dX5_addRuns_60 : decode cX5_addRuns 60 = .ok (.iload 4, 2) := by decide +kernel
theorem dX5_addRuns_62 : decode cX5_addRuns 62 = .ok (.iastore, 1) := by decide +kernel
theorem dX5_addRuns_63 : decode cX5_addRuns 63 = .ok (.aload_n 0, 1) := by decide +kernel
theorem dX5_addRuns_64 : decode cX5_addRuns 64 = .ok (.getfield 21, 3) := by decide +kernel
theorem dX5_addRuns_67 : decode cX5_addRuns 67 = .ok (.aload_n 0, 1) := by decide +kernel
theorem dX5_addRuns_68 : decode cX5_addRuns 68 = .ok (.getfield 27, 3) := by decide +kernel
theorem dX5_addRuns_71 : decode cX5_addRuns 71 = .ok (.aload_n 0, 1) := by decide +kernel
theorem dX5_addRuns_72 : decode cX5_addRuns 72 = .ok (.getfield 27, 3) := by decide +kernel
theorem dX5_addRuns_75 : decode cX5_addRuns 75 = .ok (.iastore, 1) := by decide +kernel
theorem dX5_addRuns_76 : decode cX5_addRuns 76 = .ok (.aload_n 0, 1) := by decide +kernel
theorem dX5_addRuns_77 : decode cX5_addRuns 77 = .ok (.dup, 1) := by decide +kernel
theorem dX5_addRuns_78 : decode cX5_addRuns 78 = .ok (.getfield 27, 3) := by decide +kernel
theorem dX5_addRuns_81 : decode cX5_addRuns 81 = .ok (.iconst 1, 1) := by decide +kernel
theorem dX5_addRuns_82 : decode cX5_addRuns 82 = .ok (.iadd, 1) := by decide +kernel
theorem dX5_addRuns_83 : decode cX5_addRuns 83 = .ok (.putfield 27, 3) := by decide +kernel
theorem dX5_addRuns_86 : decode cX5_addRuns 86 = .ok (.iload 5, 2) := by decide +kernel
theorem dX5_addRuns_88 : decode cX5_addRuns 88 = .ok (.ifCond .eq 23, 3) := by decide +kernel
theorem dX5_addRuns_91 : decode cX5_addRuns 91 = .ok (.aload_n 0, 1) := by decide +kernel
theorem dX5_addRuns_92 : decode cX5_addRuns 92 = .ok (.getfield 27, 3) := by decide +kernel
theorem dX5_addRuns_95 : decode cX5_addRuns 95 = .ok (.ifCond .le 16, 3) := by decide +kernel
theorem dX5_addRuns_98 : decode cX5_addRuns 98 = .ok (.aload_n 0, 1) := by decide +kernel
theorem dX5_addRuns_99 : decode cX5_addRuns 99 = .ok (.getfield 18, 3) := by decide +kernel
theorem dX5_addRuns_102 : decode cX5_addRuns 102 = .ok (.aload_n 0, 1) := by decide +kernel
theorem dX5_addRuns_103 : decode cX5_addRuns 103 = .ok (.getfield 27, 3) := by decide +kernel
theorem dX5_addRuns_106 : decode cX5_addRuns 106 = .ok (.iconst 1, 1) := by decide +kernel
theorem dX5_addRuns_107 : decode cX5_addRuns 107 = .ok (.isub, 1) := by decide +kernel
theorem dX5_addRuns_108 : decode cX5_addRuns 108 = .ok (.iload 4, 2) := by decide +kernel
theorem dX5_addRuns_110 : decode cX5_addRuns 110 = .ok (.iastore, 1) := by decide +kernel
theorem dX5_addRuns_111 : decode cX5_addRuns 111 = .ok (.iload 5, 2) := by decide +kernel
theorem dX5_addRuns_113 : decode cX5_addRuns 113 = .ok (.istore_n 3, 1) := by decide +kernel
theorem dX5_addRuns_114 : decode cX5_addRuns 114 = .ok (.iinc 4 1, 3) := by decide +kernel
theorem dX5_addRuns_117 : decode cX5_addRuns 117 = .ok (.goto (-112), 3) := by decide +kernel
theorem dX5_addRuns_120 : decode cX5_addRuns 120 = .ok (.return_, 1) := by decide +kernel
theorem dX5_linkRows_0 : decode cX5_linkRows 0 = .ok (.iload_n 1, 1) := by decide +kernel
theorem dX5_linkRows_1 : decode cX5_linkRows 1 = .ok (.istore_n 3, 1) := by decide +kernel
theorem dX5_linkRows_2 : decode cX5_linkRows 2 = .ok (.iload_n 3, 1) := by decide +kernel
theorem dX5_linkRows_3 : decode cX5_linkRows 3 = .ok (.iload_n 2, 1) := by decide +kernel
theorem dX5_linkRows_4 : decode cX5_linkRows 4 = .ok (.if_icmp .ge 70, 3) := by decide +kernel
theorem dX5_linkRows_7 : decode cX5_linkRows 7 = .ok (.iload_n 2, 1) := by decide +kernel
theorem dX5_linkRows_8 : decode cX5_linkRows 8 = .ok (.istore 4, 2) := by decide +kernel
theorem dX5_linkRows_10 : decode cX5_linkRows 10 = .ok (.iload 4, 2) := by decide +kernel
theorem dX5_linkRows_12 : decode cX5_linkRows 12 = .ok (.aload_n 0, 1) := by decide +kernel
theorem dX5_linkRows_13 : decode cX5_linkRows 13 = .ok (.getfield 27, 3) := by decide +kernel
theorem dX5_linkRows_16 : decode cX5_linkRows 16 = .ok (.if_icmp .ge 52, 3) := by decide +kernel
theorem dX5_linkRows_19 : decode cX5_linkRows 19 = .ok (.aload_n 0, 1) := by decide +kernel
theorem dX5_linkRows_20 : decode cX5_linkRows 20 = .ok (.getfield 15, 3) := by decide +kernel
theorem dX5_linkRows_23 : decode cX5_linkRows 23 = .ok (.iload_n 3, 1) := by decide +kernel
theorem dX5_linkRows_24 : decode cX5_linkRows 24 = .ok (.iaload, 1) := by decide +kernel
theorem dX5_linkRows_25 : decode cX5_linkRows 25 = .ok (.aload_n 0, 1) := by decide +kernel
theorem dX5_linkRows_26 : decode cX5_linkRows 26 = .ok (.getfield 18, 3) := by decide +kernel
theorem dX5_linkRows_29 : decode cX5_linkRows 29 = .ok (.iload 4, 2) := by decide +kernel
theorem dX5_linkRows_31 : decode cX5_linkRows 31 = .ok (.iaload, 1) := by decide +kernel
theorem dX5_linkRows_32 : decode cX5_linkRows 32 = .ok (.iconst 1, 1) := by decide +kernel
theorem dX5_linkRows_33 : decode cX5_linkRows 33 = .ok (.iadd, 1) := by decide +kernel
theorem dX5_linkRows_34 : decode cX5_linkRows 34 = .ok (.if_icmp .gt 28, 3) := by decide +kernel
theorem dX5_linkRows_37 : decode cX5_linkRows 37 = .ok (.aload_n 0, 1) := by decide +kernel
theorem dX5_linkRows_38 : decode cX5_linkRows 38 = .ok (.getfield 15, 3) := by decide +kernel
theorem dX5_linkRows_41 : decode cX5_linkRows 41 = .ok (.iload 4, 2) := by decide +kernel
theorem dX5_linkRows_43 : decode cX5_linkRows 43 = .ok (.iaload, 1) := by decide +kernel
theorem dX5_linkRows_44 : decode cX5_linkRows 44 = .ok (.aload_n 0, 1) := by decide +kernel
theorem dX5_linkRows_45 : decode cX5_linkRows 45 = .ok (.getfield 18, 3) := by decide +kernel
theorem dX5_linkRows_48 : decode cX5_linkRows 48 = .ok (.iload_n 3, 1) := by decide +kernel
theorem dX5_linkRows_49 : decode cX5_linkRows 49 = .ok (.iaload, 1) := by decide +kernel
theorem dX5_linkRows_50 : decode cX5_linkRows 50 = .ok (.iconst 1, 1) := by decide +kernel
theorem dX5_linkRows_51 : decode cX5_linkRows 51 = .ok (.iadd, 1) := by decide +kernel
theorem dX5_linkRows_52 : decode cX5_linkRows 52 = .ok (.if_icmp .gt 10, 3) := by decide +kernel
theorem dX5_linkRows_55 : decode cX5_linkRows 55 = .ok (.aload_n 0, 1) := by decide +kernel
theorem dX5_linkRows_56 : decode cX5_linkRows 56 = .ok (.iload_n 3, 1) := by decide +kernel
theorem dX5_linkRows_57 : decode cX5_linkRows 57 = .ok (.iload 4, 2) := by decide +kernel
theorem dX5_linkRows_59 : decode cX5_linkRows 59 = .ok (.invokevirtual 79, 3) := by decide +kernel
theorem dX5_linkRows_62 : decode cX5_linkRows 62 = .ok (.iinc 4 1, 3) := by decide +kernel
theorem dX5_linkRows_65 : decode cX5_linkRows 65 = .ok (.goto (-55), 3) := by decide +kernel
theorem dX5_linkRows_68 : decode cX5_linkRows 68 = .ok (.iinc 3 1, 3) := by decide +kernel
theorem dX5_linkRows_71 : decode cX5_linkRows 71 = .ok (.goto (-69), 3) := by decide +kernel
theorem dX5_linkRows_74 : decode cX5_linkRows 74 = .ok (.return_, 1) := by decide +kernel
theorem dX5_join_0 : decode cX5_join 0 = .ok (.aload_n 0, 1) := by decide +kernel
theorem dX5_join_1 : decode cX5_join 1 = .ok (.iload_n 1, 1) := by decide +kernel
theorem dX5_join_2 : decode cX5_join 2 = .ok (.invokevirtual 82, 3) := by decide +kernel
theorem dX5_join_5 : decode cX5_join 5 = .ok (.istore_n 3, 1) := by decide +kernel
theorem dX5_join_6 : decode cX5_join 6 = .ok (.aload_n 0, 1) := by decide +kernel
theorem dX5_join_7 : decode cX5_join 7 = .ok (.iload_n 2, 1) := by decide +kernel
theorem dX5_join_8 : decode cX5_join 8 = .ok (.invokevirtual 82, 3) := by decide +kernel
theorem dX5_join_11 : decode cX5_join 11 = .ok (.istore 4, 2) := by decide +kernel
theorem dX5_join_13 : decode cX5_join 13 = .ok (.aload_n 0, 1) := by decide +kernel
theorem dX5_join_14 : decode cX5_join 14 = .ok (.getfield 21, 3) := by decide +kernel
theorem dX5_join_17 : decode cX5_join 17 = .ok (.iload_n 3, 1) := by decide +kernel
theorem dX5_join_18 : decode cX5_join 18 = .ok (.iload 4, 2) := by decide +kernel
theorem dX5_join_20 : decode cX5_join 20 = .ok (.invokestatic 66, 3) := by decide +kernel
theorem dX5_join_23 : decode cX5_join 23 = .ok (.iload_n 3, 1) := by decide +kernel
theorem dX5_join_24 : decode cX5_join 24 = .ok (.iload 4, 2) := by decide +kernel
theorem dX5_join_26 : decode cX5_join 26 = .ok (.invokestatic 60, 3) := by decide +kernel
theorem dX5_join_29 : decode cX5_join 29 = .ok (.iastore, 1) := by decide +kernel
theorem dX5_join_30 : decode cX5_join 30 = .ok (.return_, 1) := by decide +kernel
theorem dX5_firstRun_0 : decode cX5_firstRun 0 = .ok (.iload_n 1, 1) := by decide +kernel
theorem dX5_firstRun_1 : decode cX5_firstRun 1 = .ok (.istore_n 2, 1) := by decide +kernel
theorem dX5_firstRun_2 : decode cX5_firstRun 2 = .ok (.iconst 0, 1) := by decide +kernel
theorem dX5_firstRun_3 : decode cX5_firstRun 3 = .ok (.istore_n 3, 1) := by decide +kernel
theorem dX5_firstRun_4 : decode cX5_firstRun 4 = .ok (.iload_n 3, 1) := by decide +kernel
theorem dX5_firstRun_5 : decode cX5_firstRun 5 = .ok (.aload_n 0, 1) := by decide +kernel
theorem dX5_firstRun_6 : decode cX5_firstRun 6 = .ok (.getfield 27, 3) := by decide +kernel
theorem dX5_firstRun_9 : decode cX5_firstRun 9 = .ok (.if_icmp .ge 26, 3) := by decide +kernel
theorem dX5_firstRun_12 : decode cX5_firstRun 12 = .ok (.aload_n 0, 1) := by decide +kernel
theorem dX5_firstRun_13 : decode cX5_firstRun 13 = .ok (.getfield 21, 3) := by decide +kernel
theorem dX5_firstRun_16 : decode cX5_firstRun 16 = .ok (.iload_n 2, 1) := by decide +kernel
theorem dX5_firstRun_17 : decode cX5_firstRun 17 = .ok (.iaload, 1) := by decide +kernel
theorem dX5_firstRun_18 : decode cX5_firstRun 18 = .ok (.iload_n 2, 1) := by decide +kernel
theorem dX5_firstRun_19 : decode cX5_firstRun 19 = .ok (.if_icmp .eq 16, 3) := by decide +kernel
theorem dX5_firstRun_22 : decode cX5_firstRun 22 = .ok (.aload_n 0, 1) := by decide +kernel
theorem dX5_firstRun_23 : decode cX5_firstRun 23 = .ok (.getfield 21, 3) := by decide +kernel
theorem dX5_firstRun_26 : decode cX5_firstRun 26 = .ok (.iload_n 2, 1) := by decide +kernel
theorem dX5_firstRun_27 : decode cX5_firstRun 27 = .ok (.iaload, 1) := by decide +kernel
theorem dX5_firstRun_28 : decode cX5_firstRun 28 = .ok (.istore_n 2, 1) := by decide +kernel
theorem dX5_firstRun_29 : decode cX5_firstRun 29 = .ok (.iinc 3 1, 3) := by decide +kernel
theorem dX5_firstRun_32 : decode cX5_firstRun 32 = .ok (.goto (-28), 3) := by decide +kernel
theorem dX5_firstRun_35 : decode cX5_firstRun 35 = .ok (.iload_n 2, 1) := by decide +kernel
theorem dX5_firstRun_36 : decode cX5_firstRun 36 = .ok (.ireturn, 1) := by decide +kernel
theorem dX5_numberStrokes_0 : decode cX5_numberStrokes 0 = .ok (.aload_n 0, 1) := by decide +kernel
theorem dX5_numberStrokes_1 : decode cX5_numberStrokes 1 = .ok (.iconst 0, 1) := by decide +kernel
theorem dX5_numberStrokes_2 : decode cX5_numberStrokes 2 = .ok (.putfield 31, 3) := by decide +kernel
theorem dX5_numberStrokes_5 : decode cX5_numberStrokes 5 = .ok (.iconst 0, 1) := by decide +kernel
theorem dX5_numberStrokes_6 : decode cX5_numberStrokes 6 = .ok (.istore_n 1, 1) := by decide +kernel
theorem dX5_numberStrokes_7 : decode cX5_numberStrokes 7 = .ok (.iload_n 1, 1) := by decide +kernel
theorem dX5_numberStrokes_8 : decode cX5_numberStrokes 8 = .ok (.aload_n 0, 1) := by decide +kernel
theorem dX5_numberStrokes_9 : decode cX5_numberStrokes 9 = .ok (.getfield 27, 3) := by decide +kernel
theorem dX5_numberStrokes_12 : decode cX5_numberStrokes 12 = .ok (.if_icmp .ge 59, 3) := by decide +kernel
theorem dX5_numberStrokes_15 : decode cX5_numberStrokes 15 = .ok (.aload_n 0, 1) := by decide +kernel
theorem dX5_numberStrokes_16 : decode cX5_numberStrokes 16 = .ok (.getfield 21, 3) := by decide +kernel
theorem dX5_numberStrokes_19 : decode cX5_numberStrokes 19 = .ok (.iload_n 1, 1) := by decide +kernel
theorem dX5_numberStrokes_20 : decode cX5_numberStrokes 20 = .ok (.iaload, 1) := by decide +kernel
theorem dX5_numberStrokes_21 : decode cX5_numberStrokes 21 = .ok (.iload_n 1, 1) := by decide +kernel
theorem dX5_numberStrokes_22 : decode cX5_numberStrokes 22 = .ok (.if_icmp .ne 26, 3) := by decide +kernel
theorem dX5_numberStrokes_25 : decode cX5_numberStrokes 25 = .ok (.aload_n 0, 1) := by decide +kernel
theorem dX5_numberStrokes_26 : decode cX5_numberStrokes 26 = .ok (.getfield 24, 3) := by decide +kernel
theorem dX5_numberStrokes_29 : decode cX5_numberStrokes 29 = .ok (.iload_n 1, 1) := by decide +kernel
theorem dX5_numberStrokes_30 : decode cX5_numberStrokes 30 = .ok (.aload_n 0, 1) := by decide +kernel
theorem dX5_numberStrokes_31 : decode cX5_numberStrokes 31 = .ok (.getfield 31, 3) := by decide +kernel
theorem dX5_numberStrokes_34 : decode cX5_numberStrokes 34 = .ok (.iastore, 1) := by decide +kernel
theorem dX5_numberStrokes_35 : decode cX5_numberStrokes 35 = .ok (.aload_n 0, 1) := by decide +kernel
theorem dX5_numberStrokes_36 : decode cX5_numberStrokes 36 = .ok (.dup, 1) := by decide +kernel
theorem dX5_numberStrokes_37 : decode cX5_numberStrokes 37 = .ok (.getfield 31, 3) := by decide +kernel
theorem dX5_numberStrokes_40 : decode cX5_numberStrokes 40 = .ok (.iconst 1, 1) := by decide +kernel
theorem dX5_numberStrokes_41 : decode cX5_numberStrokes 41 = .ok (.iadd, 1) := by decide +kernel
theorem dX5_numberStrokes_42 : decode cX5_numberStrokes 42 = .ok (.putfield 31, 3) := by decide +kernel
theorem dX5_numberStrokes_45 : decode cX5_numberStrokes 45 = .ok (.goto 20, 3) := by decide +kernel
theorem dX5_numberStrokes_48 : decode cX5_numberStrokes 48 = .ok (.aload_n 0, 1) := by decide +kernel
theorem dX5_numberStrokes_49 : decode cX5_numberStrokes 49 = .ok (.getfield 24, 3) := by decide +kernel
theorem dX5_numberStrokes_52 : decode cX5_numberStrokes 52 = .ok (.iload_n 1, 1) := by decide +kernel
theorem dX5_numberStrokes_53 : decode cX5_numberStrokes 53 = .ok (.aload_n 0, 1) := by decide +kernel
theorem dX5_numberStrokes_54 : decode cX5_numberStrokes 54 = .ok (.getfield 24, 3) := by decide +kernel
theorem dX5_numberStrokes_57 : decode cX5_numberStrokes 57 = .ok (.aload_n 0, 1) := by decide +kernel
theorem dX5_numberStrokes_58 : decode cX5_numberStrokes 58 = .ok (.getfield 21, 3) := by decide +kernel
theorem dX5_numberStrokes_61 : decode cX5_numberStrokes 61 = .ok (.iload_n 1, 1) := by decide +kernel
theorem dX5_numberStrokes_62 : decode cX5_numberStrokes 62 = .ok (.iaload, 1) := by decide +kernel
theorem dX5_numberStrokes_63 : decode cX5_numberStrokes 63 = .ok (.iaload, 1) := by decide +kernel
theorem dX5_numberStrokes_64 : decode cX5_numberStrokes 64 = .ok (.iastore, 1) := by decide +kernel
theorem dX5_numberStrokes_65 : decode cX5_numberStrokes 65 = .ok (.iinc 1 1, 3) := by decide +kernel
theorem dX5_numberStrokes_68 : decode cX5_numberStrokes 68 = .ok (.goto (-61), 3) := by decide +kernel
theorem dX5_numberStrokes_71 : decode cX5_numberStrokes 71 = .ok (.return_, 1) := by decide +kernel
theorem dX6_init_0 : decode cX6_init 0 = .ok (.aload_n 0, 1) := by decide +kernel
theorem dX6_init_1 : decode cX6_init 1 = .ok (.invokespecial 3, 3) := by decide +kernel
theorem dX6_init_4 : decode cX6_init 4 = .ok (.aload_n 0, 1) := by decide +kernel
theorem dX6_init_5 : decode cX6_init 5 = .ok (.new 9, 3) := by decide +kernel
theorem dX6_init_8 : decode cX6_init 8 = .ok (.dup, 1) := by decide +kernel
theorem dX6_init_9 : decode cX6_init 9 = .ok (.invokespecial 11, 3) := by decide +kernel
theorem dX6_init_12 : decode cX6_init 12 = .ok (.putfield 12, 3) := by decide +kernel
theorem dX6_init_15 : decode cX6_init 15 = .ok (.aload_n 0, 1) := by decide +kernel
theorem dX6_init_16 : decode cX6_init 16 = .ok (.iconst 4, 1) := by decide +kernel
theorem dX6_init_17 : decode cX6_init 17 = .ok (.anewarray 18, 3) := by decide +kernel
theorem dX6_init_20 : decode cX6_init 20 = .ok (.putfield 20, 3) := by decide +kernel
theorem dX6_init_23 : decode cX6_init 23 = .ok (.aload_n 0, 1) := by decide +kernel
theorem dX6_init_24 : decode cX6_init 24 = .ok (.new 24, 3) := by decide +kernel
theorem dX6_init_27 : decode cX6_init 27 = .ok (.dup, 1) := by decide +kernel
theorem dX6_init_28 : decode cX6_init 28 = .ok (.invokespecial 26, 3) := by decide +kernel
theorem dX6_init_31 : decode cX6_init 31 = .ok (.putfield 27, 3) := by decide +kernel
theorem dX6_init_34 : decode cX6_init 34 = .ok (.aload_n 0, 1) := by decide +kernel
theorem dX6_init_35 : decode cX6_init 35 = .ok (.new 31, 3) := by decide +kernel
theorem dX6_init_38 : decode cX6_init 38 = .ok (.dup, 1) := by decide +kernel
theorem dX6_init_39 : decode cX6_init 39 = .ok (.invokespecial 33, 3) := by decide +kernel
theorem dX6_init_42 : decode cX6_init 42 = .ok (.putfield 34, 3) := by decide +kernel
theorem dX6_init_45 : decode cX6_init 45 = .ok (.aload_n 0, 1) := by decide +kernel
theorem dX6_init_46 : decode cX6_init 46 = .ok (.new 38, 3) := by decide +kernel
theorem dX6_init_49 : decode cX6_init 49 = .ok (.dup, 1) := by decide +kernel
theorem dX6_init_50 : decode cX6_init 50 = .ok (.invokespecial 40, 3) := by decide +kernel
theorem dX6_init_53 : decode cX6_init 53 = .ok (.putfield 41, 3) := by decide +kernel
theorem dX6_init_56 : decode cX6_init 56 = .ok (.aload_n 0, 1) := by decide +kernel
theorem dX6_init_57 : decode cX6_init 57 = .ok (.bipush 32, 2) := by decide +kernel
theorem dX6_init_59 : decode cX6_init 59 = .ok (.newarray .int, 2) := by decide +kernel
theorem dX6_init_61 : decode cX6_init 61 = .ok (.putfield 45, 3) := by decide +kernel
theorem dX6_init_64 : decode cX6_init 64 = .ok (.aload_n 0, 1) := by decide +kernel
theorem dX6_init_65 : decode cX6_init 65 = .ok (.iconst 0, 1) := by decide +kernel
theorem dX6_init_66 : decode cX6_init 66 = .ok (.putfield 49, 3) := by decide +kernel
theorem dX6_init_69 : decode cX6_init 69 = .ok (.iconst 0, 1) := by decide +kernel
theorem dX6_init_70 : decode cX6_init 70 = .ok (.istore_n 1, 1) := by decide +kernel
theorem dX6_init_71 : decode cX6_init 71 = .ok (.iload_n 1, 1) := by decide +kernel
theorem dX6_init_72 : decode cX6_init 72 = .ok (.iconst 4, 1) := by decide +kernel
theorem dX6_init_73 : decode cX6_init 73 = .ok (.if_icmp .ge 22, 3) := by decide +kernel
theorem dX6_init_76 : decode cX6_init 76 = .ok (.aload_n 0, 1) := by decide +kernel
theorem dX6_init_77 : decode cX6_init 77 = .ok (.getfield 20, 3) := by decide +kernel
theorem dX6_init_80 : decode cX6_init 80 = .ok (.iload_n 1, 1) := by decide +kernel
theorem dX6_init_81 : decode cX6_init 81 = .ok (.new 18, 3) := by decide +kernel
theorem dX6_init_84 : decode cX6_init 84 = .ok (.dup, 1) := by decide +kernel
theorem dX6_init_85 : decode cX6_init 85 = .ok (.invokespecial 53, 3) := by decide +kernel
theorem dX6_init_88 : decode cX6_init 88 = .ok (.aastore, 1) := by decide +kernel
theorem dX6_init_89 : decode cX6_init 89 = .ok (.iinc 1 1, 3) := by decide +kernel
theorem dX6_init_92 : decode cX6_init 92 = .ok (.goto (-21), 3) := by decide +kernel
theorem dX6_init_95 : decode cX6_init 95 = .ok (.return_, 1) := by decide +kernel
theorem dX6_page_0 : decode cX6_page 0 = .ok (.iload_n 1, 1) := by decide +kernel
theorem dX6_page_1 : decode cX6_page 1 = .ok (.iconst 1, 1) := by decide +kernel
theorem dX6_page_2 : decode cX6_page 2 = .ok (.if_icmp .lt 9, 3) := by decide +kernel
theorem dX6_page_5 : decode cX6_page 5 = .ok (.iload_n 1, 1) := by decide +kernel
theorem dX6_page_6 : decode cX6_page 6 = .ok (.bipush 24, 2) := by decide +kernel
theorem dX6_page_8 : decode cX6_page 8 = .ok (.if_icmp .le 6, 3) := by decide +kernel
theorem dX6_page_11 : decode cX6_page 11 = .ok (.bipush (-2), 2) := by decide +kernel
theorem dX6_page_13 : decode cX6_page 13 = .ok (.ireturn, 1) := by decide +kernel
theorem dX6_page_14 : decode cX6_page 14 = .ok (.aload_n 0, 1) := by decide +kernel
theorem dX6_page_15 : decode cX6_page 15 = .ok (.getfield 12, 3) := by decide +kernel
theorem dX6_page_18 : decode cX6_page 18 = .ok (.invokevirtual 54, 3) := by decide +kernel
theorem dX6_page_21 : decode cX6_page 21 = .ok (.istore_n 2, 1) := by decide +kernel
theorem dX6_page_22 : decode cX6_page 22 = .ok (.aload_n 0, 1) := by decide +kernel
theorem dX6_page_23 : decode cX6_page 23 = .ok (.getfield 12, 3) := by decide +kernel
theorem dX6_page_26 : decode cX6_page 26 = .ok (.iload_n 1, 1) := by decide +kernel
theorem dX6_page_27 : decode cX6_page 27 = .ok (.invokevirtual 58, 3) := by decide +kernel
theorem dX6_page_30 : decode cX6_page 30 = .ok (.iload_n 2, 1) := by decide +kernel
theorem dX6_page_31 : decode cX6_page 31 = .ok (.ireturn, 1) := by decide +kernel
theorem dX6_dot_0 : decode cX6_dot 0 = .ok (.aload_n 0, 1) := by decide +kernel
theorem dX6_dot_1 : decode cX6_dot 1 = .ok (.getfield 12, 3) := by decide +kernel
theorem dX6_dot_4 : decode cX6_dot 4 = .ok (.iload_n 1, 1) := by decide +kernel
theorem dX6_dot_5 : decode cX6_dot 5 = .ok (.invokevirtual 62, 3) := by decide +kernel
theorem dX6_dot_8 : decode cX6_dot 8 = .ok (.ifCond .eq 10, 3) := by decide +kernel
theorem dX6_dot_11 : decode cX6_dot 11 = .ok (.iload_n 2, 1) := by decide +kernel
theorem dX6_dot_12 : decode cX6_dot 12 = .ok (.invokestatic 66, 3) := by decide +kernel
theorem dX6_dot_15 : decode cX6_dot 15 = .ok (.ifCond .ne 5, 3) := by decide +kernel
theorem dX6_dot_18 : decode cX6_dot 18 = .ok (.iconst (-1), 1) := by decide +kernel
theorem dX6_dot_19 : decode cX6_dot 19 = .ok (.ireturn, 1) := by decide +kernel
theorem dX6_dot_20 : decode cX6_dot 20 = .ok (.iload_n 3, 1) := by decide +kernel
theorem dX6_dot_21 : decode cX6_dot 21 = .ok (.ifCond .eq 11, 3) := by decide +kernel
theorem dX6_dot_24 : decode cX6_dot 24 = .ok (.iload_n 3, 1) := by decide +kernel
theorem dX6_dot_25 : decode cX6_dot 25 = .ok (.iconst 1, 1) := by decide +kernel
theorem dX6_dot_26 : decode cX6_dot 26 = .ok (.if_icmp .eq 6, 3) := by decide +kernel
theorem dX6_dot_29 : decode cX6_dot 29 = .ok (.bipush (-2), 2) := by decide +kernel
theorem dX6_dot_31 : decode cX6_dot 31 = .ok (.ireturn, 1) := by decide +kernel
theorem dX6_dot_32 : decode cX6_dot 32 = .ok (.aload_n 0, 1) := by decide +kernel
theorem dX6_dot_33 : decode cX6_dot 33 = .ok (.getfield 12, 3) := by decide +kernel
theorem dX6_dot_36 : decode cX6_dot 36 = .ok (.iload_n 1, 1) := by decide +kernel
theorem dX6_dot_37 : decode cX6_dot 37 = .ok (.iload_n 2, 1) := by decide +kernel
theorem dX6_dot_38 : decode cX6_dot 38 = .ok (.invokevirtual 69, 3) := by decide +kernel
theorem dX6_dot_41 : decode cX6_dot 41 = .ok (.ifCond .eq 7, 3) := by decide +kernel
theorem dX6_dot_44 : decode cX6_dot 44 = .ok (.iconst 1, 1) := by decide +kernel
theorem dX6_dot_45 : decode cX6_dot 45 = .ok (.goto 4, 3) := by decide +kernel
theorem dX6_dot_48 : decode cX6_dot 48 = .ok (.iconst 0, 1) := by decide +kernel
theorem dX6_dot_49 : decode cX6_dot 49 = .ok (.istore 4, 2) := by decide +kernel
theorem dX6_dot_51 : decode cX6_dot 51 = .ok (.aload_n 0, 1) := by decide +kernel
theorem dX6_dot_52 : decode cX6_dot 52 = .ok (.getfield 12, 3) := by decide +kernel
theorem dX6_dot_55 : decode cX6_dot 55 = .ok (.invokevirtual 73, 3) := by decide +kernel
theorem dX6_dot_58 : decode cX6_dot 58 = .ok (.aload_n 0, 1) := by decide +kernel
theorem dX6_dot_59 : decode cX6_dot 59 = .ok (.getfield 12, 3) := by decide +kernel
theorem dX6_dot_62 : decode cX6_dot 62 = .ok (.iload_n 1, 1) := by decide +kernel
theorem dX6_dot_63 : decode cX6_dot 63 = .ok (.iload_n 2, 1) := by decide +kernel
theorem dX6_dot_64 : decode cX6_dot 64 = .ok (.iload_n 3, 1) := by decide +kernel
theorem dX6_dot_65 : decode cX6_dot 65 = .ok (.iconst 1, 1) := by decide +kernel
theorem dX6_dot_66 : decode cX6_dot 66 = .ok (.if_icmp .ne 7, 3) := by decide +kernel
theorem dX6_dot_69 : decode cX6_dot 69 = .ok (.iconst 1, 1) := by decide +kernel
theorem dX6_dot_70 : decode cX6_dot 70 = .ok (.goto 4, 3) := by decide +kernel
theorem dX6_dot_73 : decode cX6_dot 73 = .ok (.iconst 0, 1) := by decide +kernel
theorem dX6_dot_74 : decode cX6_dot 74 = .ok (.invokevirtual 76, 3) := by decide +kernel
theorem dX6_dot_77 : decode cX6_dot 77 = .ok (.iload 4, 2) := by decide +kernel
theorem dX6_dot_79 : decode cX6_dot 79 = .ok (.ireturn, 1) := by decide +kernel
theorem dX6_column_0 : decode cX6_column 0 = .ok (.aload_n 0, 1) := by decide +kernel
theorem dX6_column_1 : decode cX6_column 1 = .ok (.getfield 12, 3) := by decide +kernel
theorem dX6_column_4 : decode cX6_column 4 = .ok (.iload_n 1, 1) := by decide +kernel
theorem dX6_column_5 : decode cX6_column 5 = .ok (.invokevirtual 62, 3) := by decide +kernel
theorem dX6_column_8 : decode cX6_column 8 = .ok (.ifCond .eq 19, 3) := by decide +kernel
theorem dX6_column_11 : decode cX6_column 11 = .ok (.aload_n 0, 1) := by decide +kernel
theorem dX6_column_12 : decode cX6_column 12 = .ok (.getfield 12, 3) := by decide +kernel
theorem dX6_column_15 : decode cX6_column 15 = .ok (.iload_n 1, 1) := by decide +kernel
theorem dX6_column_16 : decode cX6_column 16 = .ok (.invokevirtual 80, 3) := by decide +kernel
theorem dX6_column_19 : decode cX6_column 19 = .ok (.i2l, 1) := by decide +kernel
theorem dX6_column_20 : decode cX6_column 20 = .ok (.ldc2_w 84, 3) := by decide +kernel
theorem dX6_column_23 : decode cX6_column 23 = .ok (.land, 1) := by decide +kernel
theorem dX6_column_24 : decode cX6_column 24 = .ok (.goto 6, 3) := by decide +kernel
theorem dX6_column_27 : decode cX6_column 27 = .ok (.ldc2_w 86, 3) := by decide +kernel
theorem dX6_column_30 : decode cX6_column 30 = .ok (.lreturn, 1) := by decide +kernel
theorem dX6_row_0 : decode cX6_row 0 = .ok (.aload_n 0, 1) := by decide +kernel
theorem dX6_row_1 : decode cX6_row 1 = .ok (.iconst 0, 1) := by decide +kernel
theorem dX6_row_2 : decode cX6_row 2 = .ok (.putfield 49, 3) := by decide +kernel
theorem dX6_row_5 : decode cX6_row 5 = .ok (.iload_n 1, 1) := by decide +kernel
theorem dX6_row_6 : decode cX6_row 6 = .ok (.invokestatic 66, 3) := by decide +kernel
theorem dX6_row_9 : decode cX6_row 9 = .ok (.ifCond .eq 10, 3) := by decide +kernel
theorem dX6_row_12 : decode cX6_row 12 = .ok (.iload_n 2, 1) := by decide +kernel
theorem dX6_row_13 : decode cX6_row 13 = .ok (.invokestatic 88, 3) := by decide +kernel
theorem dX6_row_16 : decode cX6_row 16 = .ok (.ifCond .ne 5, 3) := by decide +kernel
theorem dX6_row_19 : decode cX6_row 19 = .ok (.iconst (-1), 1) := by decide +kernel
theorem dX6_row_20 : decode cX6_row 20 = .ok (.ireturn, 1) := by decide +kernel
theorem dX6_row_21 : decode cX6_row 21 = .ok (.aload_n 0, 1) := by decide +kernel
theorem dX6_row_22 : decode cX6_row 22 = .ok (.getfield 20, 3) := by decide +kernel
theorem dX6_row_25 : decode cX6_row 25 = .ok (.iload_n 2, 1) := by decide +kernel
theorem dX6_row_26 : decode cX6_row 26 = .ok (.aaload, 1) := by decide +kernel
theorem dX6_row_27 : decode cX6_row 27 = .ok (.astore_n 3, 1) := by decide +kernel
theorem dX6_row_28 : decode cX6_row 28 = .ok (.aload_n 3, 1) := by decide +kernel
theorem dX6_row_29 : decode cX6_row 29 = .ok (.invokevirtual 91, 3) := by decide +kernel
theorem dX6_row_32 : decode cX6_row 32 = .ok (.ifCond .eq 9, 3) := by decide +kernel
theorem dX6_row_35 : decode cX6_row 35 = .ok (.aload_n 0, 1) := by decide +kernel
theorem dX6_row_36 : decode cX6_row 36 = .ok (.iconst 1, 1) := by decide +kernel
theorem dX6_row_37 : decode cX6_row 37 = .ok (.invokevirtual 95, 3) := by decide +kernel
theorem dX6_row_40 : decode cX6_row 40 = .ok (.ireturn, 1) := by decide +kernel
theorem dX6_row_41 : decode cX6_row 41 = .ok (.aload_n 0, 1) := by decide +kernel
theorem dX6_row_42 : decode cX6_row 42 = .ok (.getfield 12, 3) := by decide +kernel
theorem dX6_row_45 : decode cX6_row 45 = .ok (.invokevirtual 73, 3) := by decide +kernel
theorem dX6_row_48 : decode cX6_row 48 = .ok (.iconst 0, 1) := by decide +kernel
theorem dX6_row_49 : decode cX6_row 49 = .ok (.istore 4, 2) := by decide +kernel
theorem dX6_row_51 : decode cX6_row 51 = .ok (.iload 4, 2) := by decide +kernel
theorem dX6_row_53 : decode cX6_row 53 = .ok (.aload_n 0, 1) := by decide +kernel
theorem dX6_row_54 : decode cX6_row 54 = .ok (.getfield 12, 3) := by decide +kernel
theorem dX6_row_57 : decode cX6_row 57 = .ok (.invokevirtual 98, 3) := by decide +kernel
theorem dX6_row_60 : decode cX6_row 60 = .ok (.if_icmp .ge 42, 3) := by decide +kernel
theorem dX6_row_63 : decode cX6_row 63 = .ok (.aload_n 0, 1) := by decide +kernel
theorem dX6_row_64 : decode cX6_row 64 = .ok (.getfield 12, 3) := by decide +kernel
theorem dX6_row_67 : decode cX6_row 67 = .ok (.iload 4, 2) := by decide +kernel
theorem dX6_row_69 : decode cX6_row 69 = .ok (.iload_n 1, 1) := by decide +kernel
theorem dX6_row_70 : decode cX6_row 70 = .ok (.aload_n 3, 1) := by decide +kernel
theorem dX6_row_71 : decode cX6_row 71 = .ok (.iload 4, 2) := by decide +kernel
theorem dX6_row_73 : decode cX6_row 73 = .ok (.invokevirtual 101, 3) := by decide +kernel
theorem dX6_row_76 : decode cX6_row 76 = .ok (.ifCond .eq 16, 3) := by decide +kernel
theorem dX6_row_79 : decode cX6_row 79 = .ok (.aload_n 3, 1) := by decide +kernel
theorem dX6_row_80 : decode cX6_row 80 = .ok (.iload 4, 2) := by decide +kernel
theorem dX6_row_82 : decode cX6_row 82 = .ok (.invokevirtual 104, 3) := by decide +kernel
theorem dX6_row_85 : decode cX6_row 85 = .ok (.ifCond .eq 7, 3) := by decide +kernel
theorem dX6_row_88 : decode cX6_row 88 = .ok (.iconst 1, 1) := by decide +kernel
theorem dX6_row_89 : decode cX6_row 89 = .ok (.goto 4, 3) := by decide +kernel
theorem dX6_row_92 : decode cX6_row 92 = .ok (.iconst 0, 1) := by decide +kernel
theorem dX6_row_93 : decode cX6_row 93 = .ok (.invokevirtual 76, 3) := by decide +kernel
theorem dX6_row_96 : decode cX6_row 96 = .ok (.iinc 4 1, 3) := by decide +kernel
theorem dX6_row_99 : decode cX6_row 99 = .ok (.goto (-48), 3) := by decide +kernel
theorem dX6_row_102 : decode cX6_row 102 = .ok (.aload_n 0, 1) := by decide +kernel
theorem dX6_row_103 : decode cX6_row 103 = .ok (.getfield 12, 3) := by decide +kernel
theorem dX6_row_106 : decode cX6_row 106 = .ok (.iload_n 1, 1) := by decide +kernel
theorem dX6_row_107 : decode cX6_row 107 = .ok (.invokevirtual 107, 3) := by decide +kernel
theorem dX6_row_110 : decode cX6_row 110 = .ok (.ireturn, 1) := by decide +kernel
theorem dX6_take_0 : decode cX6_take 0 = .ok (.iload_n 1, 1) := by decide +kernel
theorem dX6_take_1 : decode cX6_take 1 = .ok (.invokestatic 88, 3) := by decide +kernel
theorem dX6_take_4 : decode cX6_take 4 = .ok (.ifCond .eq 10, 3) := by decide +kernel
theorem dX6_take_7 : decode cX6_take 7 = .ok (.iload_n 2, 1) := by decide +kernel
theorem dX6_take_8 : decode cX6_take 8 = .ok (.invokestatic 66, 3) := by decide +kernel
theorem dX6_take_11 : decode cX6_take 11 = .ok (.ifCond .ne 5, 3) := by decide +kernel
theorem dX6_take_14 : decode cX6_take 14 = .ok (.iconst (-1), 1) := by decide +kernel
theorem dX6_take_15 : decode cX6_take 15 = .ok (.ireturn, 1) := by decide +kernel
theorem dX6_take_16 : decode cX6_take 16 = .ok (.aload_n 0, 1) := by decide +kernel
theorem dX6_take_17 : decode cX6_take 17 = .ok (.getfield 20, 3) := by decide +kernel
theorem dX6_take_20 : decode cX6_take 20 = .ok (.iload_n 1, 1) := by decide +kernel
theorem dX6_take_21 : decode cX6_take 21 = .ok (.aaload, 1) := by decide +kernel
theorem dX6_take_22 : decode cX6_take 22 = .ok (.astore_n 3, 1) := by decide +kernel
theorem dX6_take_23 : decode cX6_take 23 = .ok (.aload_n 3, 1) := by decide +kernel
theorem dX6_take_24 : decode cX6_take 24 = .ok (.iconst 3, 1) := by decide +kernel
theorem dX6_take_25 : decode cX6_take 25 = .ok (.aload_n 0, 1) := by decide +kernel
theorem dX6_take_26 : decode cX6_take 26 = .ok (.getfield 12, 3) := by decide +kernel
theorem dX6_take_29 : decode cX6_take 29 = .ok (.invokevirtual 98, 3) := by decide +kernel
theorem dX6_take_32 : decode cX6_take 32 = .ok (.invokevirtual 110, 3) := by decide +kernel
theorem dX6_take_35 : decode cX6_take 35 = .ok (.iconst 0, 1) := by decide +kernel
theorem dX6_take_36 : decode cX6_take 36 = .ok (.istore 4, 2) := by decide +kernel
theorem dX6_take_38 : decode cX6_take 38 = .ok (.iload 4, 2) := by decide +kernel
theorem dX6_take_40 : decode cX6_take 40 = .ok (.aload_n 0, 1) := by decide +kernel
theorem dX6_take_41 : decode cX6_take 41 = .ok (.getfield 12, 3) := by decide +kernel
theorem dX6_take_44 : decode cX6_take 44 = .ok (.invokevirtual 98, 3) := by decide +kernel
theorem dX6_take_47 : decode cX6_take 47 = .ok (.if_icmp .ge 33, 3) := by decide +kernel
theorem dX6_take_50 : decode cX6_take 50 = .ok (.aload_n 3, 1) := by decide +kernel
theorem dX6_take_51 : decode cX6_take 51 = .ok (.iload 4, 2) := by decide +kernel
theorem dX6_take_53 : decode cX6_take 53 = .ok (.aload_n 0, 1) := by decide +kernel
theorem dX6_take_54 : decode cX6_take 54 = .ok (.getfield 12, 3) := by decide +kernel
theorem dX6_take_57 : decode cX6_take 57 = .ok (.iload 4, 2) := by decide +kernel
theorem dX6_take_59 : decode cX6_take 59 = .ok (.iload_n 2, 1) := by decide +kernel
theorem dX6_take_60 : decode cX6_take 60 = .ok (.invokevirtual 69, 3) := by decide +kernel
theorem dX6_take_63 : decode cX6_take 63 = .ok (.ifCond .eq 7, 3) := by decide +kernel
theorem dX6_take_66 : decode cX6_take 66 = .ok (.iconst 1, 1) := by decide +kernel
theorem dX6_take_67 : decode cX6_take 67 = .ok (.goto 4, 3) := by decide +kernel
theorem dX6_take_70 : decode cX6_take 70 = .ok (.iconst 0, 1) := by decide +kernel
theorem dX6_take_71 : decode cX6_take 71 = .ok (.invokevirtual 113, 3) := by decide +kernel
theorem dX6_take_74 : decode cX6_take 74 = .ok (.iinc 4 1, 3) := by decide +kernel
theorem dX6_take_77 : decode cX6_take 77 = .ok (.goto (-39), 3) := by decide +kernel
theorem dX6_take_80 : decode cX6_take 80 = .ok (.aload_n 0, 1) := by decide +kernel
theorem dX6_take_81 : decode cX6_take 81 = .ok (.getfield 12, 3) := by decide +kernel
theorem dX6_take_84 : decode cX6_take 84 = .ok (.iload_n 2, 1) := by decide +kernel
theorem dX6_take_85 : decode cX6_take 85 = .ok (.invokevirtual 107, 3) := by decide +kernel
theorem dX6_take_88 : decode cX6_take 88 = .ok (.ireturn, 1) := by decide +kernel
theorem dX6_blank_0 : decode cX6_blank 0 = .ok (.aload_n 0, 1) := by decide +kernel
theorem dX6_blank_1 : decode cX6_blank 1 = .ok (.iconst 0, 1) := by decide +kernel
theorem dX6_blank_2 : decode cX6_blank 2 = .ok (.putfield 49, 3) := by decide +kernel
theorem dX6_blank_5 : decode cX6_blank 5 = .ok (.iload_n 1, 1) := by decide +kernel
theorem dX6_blank_6 : decode cX6_blank 6 = .ok (.invokestatic 88, 3) := by decide +kernel
theorem dX6_blank_9 : decode cX6_blank 9 = .ok (.ifCond .ne 5, 3) := by decide +kernel
theorem dX6_blank_12 : decode cX6_blank 12 = .ok (.iconst (-1), 1) := by decide +kernel
theorem dX6_blank_13 : decode cX6_blank 13 = .ok (.ireturn, 1) := by decide +kernel
theorem dX6_blank_14 : decode cX6_blank 14 = .ok (.iload_n 2, 1) := by decide +kernel
theorem dX6_blank_15 : decode cX6_blank 15 = .ok (.ifCond .lt 14, 3) := by decide +kernel
theorem dX6_blank_18 : decode cX6_blank 18 = .ok (.iload_n 2, 1) := by decide +kernel
theorem dX6_blank_19 : decode cX6_blank 19 = .ok (.iconst 3, 1) := by decide +kernel
theorem dX6_blank_20 : decode cX6_blank 20 = .ok (.if_icmp .gt 9, 3) := by decide +kernel
theorem dX6_blank_23 : decode cX6_blank 23 = .ok (.iload_n 3, 1) := by decide +kernel
theorem dX6_blank_24 : decode cX6_blank 24 = .ok (.bipush 32, 2) := by decide +kernel
theorem dX6_blank_26 : decode cX6_blank 26 = .ok (.if_icmp .le 6, 3) := by decide +kernel
theorem dX6_blank_29 : decode cX6_blank 29 = .ok (.bipush (-2), 2) := by decide +kernel
theorem dX6_blank_31 : decode cX6_blank 31 = .ok (.ireturn, 1) := by decide +kernel
theorem dX6_blank_32 : decode cX6_blank 32 = .ok (.iload_n 3, 1) := by decide +kernel
theorem dX6_blank_33 : decode cX6_blank 33 = .ok (.ifCond .ge 9, 3) := by decide +kernel
theorem dX6_blank_36 : decode cX6_blank 36 = .ok (.aload_n 0, 1) := by decide +kernel
theorem dX6_blank_37 : decode cX6_blank 37 = .ok (.iconst 4, 1) := by decide +kernel
theorem dX6_blank_38 : decode cX6_blank 38 = .ok (.invokevirtual 95, 3) := by decide +kernel
theorem dX6_blank_41 : decode cX6_blank 41 = .ok (.ireturn, 1) := by decide +kernel
theorem dX6_blank_42 : decode cX6_blank 42 = .ok (.aload_n 0, 1) := by decide +kernel
theorem dX6_blank_43 : decode cX6_blank 43 = .ok (.getfield 20, 3) := by decide +kernel
theorem dX6_blank_46 : decode cX6_blank 46 = .ok (.iload_n 1, 1) := by decide +kernel
theorem dX6_blank_47 : decode cX6_blank 47 = .ok (.aaload, 1) := by decide +kernel
theorem dX6_blank_48 : decode cX6_blank 48 = .ok (.iload_n 2, 1) := by decide +kernel
theorem dX6_blank_49 : decode cX6_blank 49 = .ok (.iload_n 3, 1) := by decide +kernel
theorem dX6_blank_50 : decode cX6_blank 50 = .ok (.invokevirtual 110, 3) := by decide +kernel
theorem dX6_blank_53 : decode cX6_blank 53 = .ok (.iconst 1, 1) := by decide +kernel
theorem dX6_blank_54 : decode cX6_blank 54 = .ok (.ireturn, 1) := by decide +kernel
theorem dX6_put_0 : decode cX6_put 0 = .ok (.aload_n 0, 1) := by decide +kernel
theorem dX6_put_1 : decode cX6_put 1 = .ok (.iconst 0, 1) := by decide +kernel
theorem dX6_put_2 : decode cX6_put 2 = .ok (.putfield 49, 3) := by decide +kernel
theorem dX6_put_5 : decode cX6_put 5 = .ok (.iload_n 1, 1) := by decide +kernel
theorem dX6_put_6 : decode cX6_put 6 = .ok (.invokestatic 88, 3) := by decide +kernel
theorem dX6_put_9 : decode cX6_put 9 = .ok (.ifCond .ne 5, 3) := by decide +kernel
theorem dX6_put_12 : decode cX6_put 12 = .ok (.iconst (-1), 1) := by decide +kernel
theorem dX6_put_13 : decode cX6_put 13 = .ok (.ireturn, 1) := by decide +kernel
theorem dX6_put_14 : decode cX6_put 14 = .ok (.aload_n 0, 1) := by decide +kernel
theorem dX6_put_15 : decode cX6_put 15 = .ok (.getfield 20, 3) := by decide +kernel
theorem dX6_put_18 : decode cX6_put 18 = .ok (.iload_n 1, 1) := by decide +kernel
theorem dX6_put_19 : decode cX6_put 19 = .ok (.aaload, 1) := by decide +kernel
theorem dX6_put_20 : decode cX6_put 20 = .ok (.iload_n 2, 1) := by decide +kernel
theorem dX6_put_21 : decode cX6_put 21 = .ok (.invokevirtual 116, 3) := by decide +kernel
theorem dX6_put_24 : decode cX6_put 24 = .ok (.istore 4, 2) := by decide +kernel
theorem dX6_put_26 : decode cX6_put 26 = .ok (.iload 4, 2) := by decide +kernel
theorem dX6_put_28 : decode cX6_put 28 = .ok (.ifCond .eq 10, 3) := by decide +kernel
theorem dX6_put_31 : decode cX6_put 31 = .ok (.aload_n 0, 1) := by decide +kernel
theorem dX6_put_32 : decode cX6_put 32 = .ok (.iload 4, 2) := by decide +kernel
theorem dX6_put_34 : decode cX6_put 34 = .ok (.invokevirtual 95, 3) := by decide +kernel
theorem dX6_put_37 : decode cX6_put 37 = .ok (.ireturn, 1) := by decide +kernel
theorem dX6_put_38 : decode cX6_put 38 = .ok (.aload_n 0, 1) := by decide +kernel
theorem dX6_put_39 : decode cX6_put 39 = .ok (.getfield 20, 3) := by decide +kernel
theorem dX6_put_42 : decode cX6_put 42 = .ok (.iload_n 1, 1) := by decide +kernel
theorem dX6_put_43 : decode cX6_put 43 = .ok (.aaload, 1) := by decide +kernel
theorem dX6_put_44 : decode cX6_put 44 = .ok (.iload_n 2, 1) := by decide +kernel
theorem dX6_put_45 : decode cX6_put 45 = .ok (.iload_n 3, 1) := by decide +kernel
theorem dX6_put_46 : decode cX6_put 46 = .ok (.invokevirtual 113, 3) := by decide +kernel
theorem dX6_put_49 : decode cX6_put 49 = .ok (.iconst 1, 1) := by decide +kernel
theorem dX6_put_50 : decode cX6_put 50 = .ok (.ireturn, 1) := by decide +kernel
theorem dX6_get_0 : decode cX6_get 0 = .ok (.aload_n 0, 1) := by decide +kernel
theorem dX6_get_1 : decode cX6_get 1 = .ok (.iconst 0, 1) := by decide +kernel
theorem dX6_get_2 : decode cX6_get 2 = .ok (.putfield 49, 3) := by decide +kernel
theorem dX6_get_5 : decode cX6_get 5 = .ok (.iload_n 1, 1) := by decide +kernel
theorem dX6_get_6 : decode cX6_get 6 = .ok (.invokestatic 88, 3) := by decide +kernel
theorem dX6_get_9 : decode cX6_get 9 = .ok (.ifCond .ne 7, 3) := by decide +kernel
theorem dX6_get_12 : decode cX6_get 12 = .ok (.ldc2_w 86, 3) := by decide +kernel
theorem dX6_get_15 : decode cX6_get 15 = .ok (.lreturn, 1) := by decide +kernel
theorem dX6_get_16 : decode cX6_get 16 = .ok (.aload_n 0, 1) := by decide +kernel
theorem dX6_get_17 : decode cX6_get 17 = .ok (.aload_n 0, 1) := by decide +kernel
theorem dX6_get_18 : decode cX6_get 18 = .ok (.getfield 20, 3) := by decide +kernel
theorem dX6_get_21 : decode cX6_get 21 = .ok (.iload_n 1, 1) := by decide +kernel
theorem dX6_get_22 : decode cX6_get 22 = .ok (.aaload, 1) := by decide +kernel
theorem dX6_get_23 : decode cX6_get 23 = .ok (.iload_n 2, 1) := by decide +kernel
theorem dX6_get_24 : decode cX6_get 24 = .ok (.invokevirtual 116, 3) := by decide +kernel
theorem dX6_get_27 : decode cX6_get 27 = .ok (.putfield 49, 3) := by decide +kernel
theorem dX6_get_30 : decode cX6_get 30 = .ok (.aload_n 0, 1) := by decide +kernel
theorem dX6_get_31 : decode cX6_get 31 = .ok (.getfield 49, 3) := by decide +kernel
theorem dX6_get_34 : decode cX6_get 34 = .ok (.ifCond .ne 17, 3) := by decide +kernel
theorem dX6_get_37 : decode cX6_get 37 = .ok (.aload_n 0, 1) := by decide +kernel
theorem dX6_get_38 : decode cX6_get 38 = .ok (.getfield 20, 3) := by decide +kernel
theorem dX6_get_41 : decode cX6_get 41 = .ok (.iload_n 1, 1) := by decide +kernel
theorem dX6_get_42 : decode cX6_get 42 = .ok (.aaload, 1) := by decide +kernel
theorem dX6_get_43 : decode cX6_get 43 = .ok (.iload_n 2, 1) := by decide +kernel
theorem dX6_get_44 : decode cX6_get 44 = .ok (.invokevirtual 104, 3) := by decide +kernel
theorem dX6_get_47 : decode cX6_get 47 = .ok (.i2l, 1) := by decide +kernel
theorem dX6_get_48 : decode cX6_get 48 = .ok (.goto 6, 3) := by decide +kernel
theorem dX6_get_51 : decode cX6_get 51 = .ok (.ldc2_w 86, 3) := by decide +kernel
theorem dX6_get_54 : decode cX6_get 54 = .ok (.lreturn, 1) := by decide +kernel
theorem dX6_copy_0 : decode cX6_copy 0 = .ok (.aload_n 0, 1) := by decide +kernel
theorem dX6_copy_1 : decode cX6_copy 1 = .ok (.iconst 0, 1) := by decide +kernel
theorem dX6_copy_2 : decode cX6_copy 2 = .ok (.putfield 49, 3) := by decide +kernel
theorem dX6_copy_5 : decode cX6_copy 5 = .ok (.iload_n 1, 1) := by decide +kernel
theorem dX6_copy_6 : decode cX6_copy 6 = .ok (.invokestatic 88, 3) := by decide +kernel
theorem dX6_copy_9 : decode cX6_copy 9 = .ok (.ifCond .eq 10, 3) := by decide +kernel
theorem dX6_copy_12 : decode cX6_copy 12 = .ok (.iload_n 3, 1) := by decide +kernel
theorem dX6_copy_13 : decode cX6_copy 13 = .ok (.invokestatic 88, 3) := by decide +kernel
theorem dX6_copy_16 : decode cX6_copy 16 = .ok (.ifCond .ne 5, 3) := by decide +kernel
theorem dX6_copy_19 : decode cX6_copy 19 = .ok (.iconst (-1), 1) := by decide +kernel
theorem dX6_copy_20 : decode cX6_copy 20 = .ok (.ireturn, 1) := by decide +kernel
theorem dX6_copy_21 : decode cX6_copy 21 = .ok (.aload_n 0, 1) := by decide +kernel
theorem dX6_copy_22 : decode cX6_copy 22 = .ok (.getfield 20, 3) := by decide +kernel
theorem dX6_copy_25 : decode cX6_copy 25 = .ok (.iload_n 1, 1) := by decide +kernel
theorem dX6_copy_26 : decode cX6_copy 26 = .ok (.aaload, 1) := by decide +kernel
theorem dX6_copy_27 : decode cX6_copy 27 = .ok (.iload_n 2, 1) := by decide +kernel
theorem dX6_copy_28 : decode cX6_copy 28 = .ok (.aload_n 0, 1) := by decide +kernel
theorem dX6_copy_29 : decode cX6_copy 29 = .ok (.getfield 20, 3) := by decide +kernel
theorem dX6_copy_32 : decode cX6_copy 32 = .ok (.iload_n 3, 1) := by decide +kernel
theorem dX6_copy_33 : decode cX6_copy 33 = .ok (.aaload, 1) := by decide +kernel
theorem dX6_copy_34 : decode cX6_copy 34 = .ok (.iload 4, 2) := by decide +kernel
theorem dX6_copy_36 : decode cX6_copy 36 = .ok (.iload 5, 2) := by decide +kernel
theorem dX6_copy_38 : decode cX6_copy 38 = .ok (.invokevirtual 119, 3) := by decide +kernel
theorem dX6_copy_41 : decode cX6_copy 41 = .ok (.istore 6, 2) := by decide +kernel
theorem dX6_copy_43 : decode cX6_copy 43 = .ok (.iload 6, 2) := by decide +kernel
theorem dX6_copy_45 : decode cX6_copy 45 = .ok (.ifCond .eq 10, 3) := by decide +kernel
theorem dX6_copy_48 : decode cX6_copy 48 = .ok (.aload_n 0, 1) := by decide +kernel
theorem dX6_copy_49 : decode cX6_copy 49 = .ok (.iload 6, 2) := by decide +kernel
theorem dX6_copy_51 : decode cX6_copy 51 = .ok (.invokevirtual 95, 3) := by decide +kernel
theorem dX6_copy_54 : decode cX6_copy 54 = .ok (.ireturn, 1) := by decide +kernel
theorem dX6_copy_55 : decode cX6_copy 55 = .ok (.aload_n 0, 1) := by decide +kernel
theorem dX6_copy_56 : decode cX6_copy 56 = .ok (.getfield 20, 3) := by decide +kernel
theorem dX6_copy_59 : decode cX6_copy 59 = .ok (.iload_n 1, 1) := by decide +kernel
theorem dX6_copy_60 : decode cX6_copy 60 = .ok (.aaload, 1) := by decide +kernel
theorem dX6_copy_61 : decode cX6_copy 61 = .ok (.iload_n 2, 1) := by decide +kernel
theorem dX6_copy_62 : decode cX6_copy 62 = .ok (.aload_n 0, 1) := by decide +kernel
theorem dX6_copy_63 : decode cX6_copy 63 = .ok (.getfield 20, 3) := by decide +kernel
theorem dX6_copy_66 : decode cX6_copy 66 = .ok (.iload_n 3, 1) := by decide +kernel
theorem dX6_copy_67 : decode cX6_copy 67 = .ok (.aaload, 1) := by decide +kernel
theorem dX6_copy_68 : decode cX6_copy 68 = .ok (.iload 4, 2) := by decide +kernel
theorem dX6_copy_70 : decode cX6_copy 70 = .ok (.iload 5, 2) := by decide +kernel
theorem dX6_copy_72 : decode cX6_copy 72 = .ok (.invokevirtual 123, 3) := by decide +kernel
theorem dX6_copy_75 : decode cX6_copy 75 = .ok (.iload 5, 2) := by decide +kernel
theorem dX6_copy_77 : decode cX6_copy 77 = .ok (.ireturn, 1) := by decide +kernel
theorem dX6_lose_0 : decode cX6_lose 0 = .ok (.iload_n 1, 1) := by decide +kernel
theorem dX6_lose_1 : decode cX6_lose 1 = .ok (.invokestatic 88, 3) := by decide +kernel
theorem dX6_lose_4 : decode cX6_lose 4 = .ok (.ifCond .ne 5, 3) := by decide +kernel
theorem dX6_lose_7 : decode cX6_lose 7 = .ok (.iconst (-1), 1) := by decide +kernel
theorem dX6_lose_8 : decode cX6_lose 8 = .ok (.ireturn, 1) := by decide +kernel
theorem dX6_lose_9 : decode cX6_lose 9 = .ok (.aload_n 0, 1) := by decide +kernel
theorem dX6_lose_10 : decode cX6_lose 10 = .ok (.getfield 20, 3) := by decide +kernel
theorem dX6_lose_13 : decode cX6_lose 13 = .ok (.iload_n 1, 1) := by decide +kernel
theorem dX6_lose_14 : decode cX6_lose 14 = .ok (.aaload, 1) := by decide +kernel
theorem dX6_lose_15 : decode cX6_lose 15 = .ok (.invokevirtual 91, 3) := by decide +kernel
theorem dX6_lose_18 : decode cX6_lose 18 = .ok (.ifCond .eq 7, 3) := by decide +kernel
theorem dX6_lose_21 : decode cX6_lose 21 = .ok (.iconst 0, 1) := by decide +kernel
theorem dX6_lose_22 : decode cX6_lose 22 = .ok (.goto 4, 3) := by decide +kernel
theorem dX6_lose_25 : decode cX6_lose 25 = .ok (.iconst 1, 1) := by decide +kernel
theorem dX6_lose_26 : decode cX6_lose 26 = .ok (.istore_n 2, 1) := by decide +kernel
theorem dX6_lose_27 : decode cX6_lose 27 = .ok (.aload_n 0, 1) := by decide +kernel
theorem dX6_lose_28 : decode cX6_lose 28 = .ok (.getfield 20, 3) := by decide +kernel
theorem dX6_lose_31 : decode cX6_lose 31 = .ok (.iload_n 1, 1) := by decide +kernel
theorem dX6_lose_32 : decode cX6_lose 32 = .ok (.aaload, 1) := by decide +kernel
theorem dX6_lose_33 : decode cX6_lose 33 = .ok (.invokevirtual 127, 3) := by decide +kernel
theorem dX6_lose_36 : decode cX6_lose 36 = .ok (.iload_n 2, 1) := by decide +kernel
theorem dX6_lose_37 : decode cX6_lose 37 = .ok (.ireturn, 1) := by decide +kernel
theorem dX6_shift_0 : decode cX6_shift 0 = .ok (.iload_n 1, 1) := by decide +kernel
theorem dX6_shift_1 : decode cX6_shift 1 = .ok (.invokestatic 130, 3) := by decide +kernel
theorem dX6_shift_4 : decode cX6_shift 4 = .ok (.ifCond .eq 10, 3) := by decide +kernel
theorem dX6_shift_7 : decode cX6_shift 7 = .ok (.iload_n 2, 1) := by decide +kernel
theorem dX6_shift_8 : decode cX6_shift 8 = .ok (.invokestatic 133, 3) := by decide +kernel
theorem dX6_shift_11 : decode cX6_shift 11 = .ok (.ifCond .ne 6, 3) := by decide +kernel
theorem dX6_shift_14 : decode cX6_shift 14 = .ok (.bipush (-2), 2) := by decide +kernel
theorem dX6_shift_16 : decode cX6_shift 16 = .ok (.ireturn, 1) := by decide +kernel
theorem dX6_shift_17 : decode cX6_shift 17 = .ok (.iload_n 1, 1) := by decide +kernel
theorem dX6_shift_18 : decode cX6_shift 18 = .ok (.ifCond .ne 14, 3) := by decide +kernel
theorem dX6_shift_21 : decode cX6_shift 21 = .ok (.aload_n 0, 1) := by decide +kernel
theorem dX6_shift_22 : decode cX6_shift 22 = .ok (.getfield 12, 3) := by decide +kernel
theorem dX6_shift_25 : decode cX6_shift 25 = .ok (.iload_n 3, 1) := by decide +kernel
theorem dX6_shift_26 : decode cX6_shift 26 = .ok (.invokevirtual 62, 3) := by decide +kernel
theorem dX6_shift_29 : decode cX6_shift 29 = .ok (.goto 7, 3) := by decide +kernel
theorem dX6_shift_32 : decode cX6_shift 32 = .ok (.iload_n 3, 1) := by decide +kernel
theorem dX6_shift_33 : decode cX6_shift 33 = .ok (.invokestatic 66, 3) := by decide +kernel
theorem dX6_shift_36 : decode cX6_shift 36 = .ok (.istore 4, 2) := by decide +kernel
theorem dX6_shift_38 : decode cX6_shift 38 = .ok (.iload 4, 2) := by decide +kernel
theorem dX6_shift_40 : decode cX6_shift 40 = .ok (.ifCond .eq 12, 3) := by decide +kernel
theorem dX6_shift_43 : decode cX6_shift 43 = .ok (.iload_n 1, 1) := by decide +kernel
theorem dX6_shift_44 : decode cX6_shift 44 = .ok (.iload_n 2, 1) := by decide +kernel
theorem dX6_shift_45 : decode cX6_shift 45 = .ok (.iload_n 3, 1) := by decide +kernel
theorem dX6_shift_46 : decode cX6_shift 46 = .ok (.invokestatic 136, 3) := by decide +kernel
theorem dX6_shift_49 : decode cX6_shift 49 = .ok (.goto 4, 3) := by decide +kernel
theorem dX6_shift_52 : decode cX6_shift 52 = .ok (.iconst (-1), 1) := by decide +kernel
theorem dX6_shift_53 : decode cX6_shift 53 = .ok (.ireturn, 1) := by decide +kernel
theorem dX6_profile_0 : decode cX6_profile 0 = .ok (.iload_n 1, 1) := by decide +kernel
theorem dX6_profile_1 : decode cX6_profile 1 = .ok (.invokestatic 130, 3) := by decide +kernel
theorem dX6_profile_4 : decode cX6_profile 4 = .ok (.ifCond .eq 22, 3) := by decide +kernel
theorem dX6_profile_7 : decode cX6_profile 7 = .ok (.iload_n 2, 1) := by decide +kernel
theorem dX6_profile_8 : decode cX6_profile 8 = .ok (.invokestatic 133, 3) := by decide +kernel
theorem dX6_profile_11 : decode cX6_profile 11 = .ok (.ifCond .eq 15, 3) := by decide +kernel
theorem dX6_profile_14 : decode cX6_profile 14 = .ok (.iload_n 3, 1) := by decide +kernel
theorem dX6_profile_15 : decode cX6_profile 15 = .ok (.bipush (-99), 2) := by decide +kernel
theorem dX6_profile_17 : decode cX6_profile 17 = .ok (.if_icmp .lt 9, 3) := by decide +kernel
theorem dX6_profile_20 : decode cX6_profile 20 = .ok (.iload_n 3, 1) := by decide +kernel
theorem dX6_profile_21 : decode cX6_profile 21 = .ok (.bipush 99, 2) := by decide +kernel
theorem dX6_profile_23 : decode cX6_profile 23 = .ok (.if_icmp .le 6, 3) := by decide +kernel
theorem dX6_profile_26 : decode cX6_profile 26 = .ok (.bipush (-2), 2) := by decide +kernel
theorem dX6_profile_28 : decode cX6_profile 28 = .ok (.ireturn, 1) := by decide +kernel
theorem dX6_profile_29 : decode cX6_profile 29 = .ok (.aload_n 0, 1) := by decide +kernel
theorem dX6_profile_30 : decode cX6_profile 30 = .ok (.getfield 27, 3) := by decide +kernel
theorem dX6_profile_33 : decode cX6_profile 33 = .ok (.aload_n 0, 1) := by decide +kernel
theorem dX6_profile_34 : decode cX6_profile 34 = .ok (.getfield 12, 3) := by decide +kernel
theorem dX6_profile_37 : decode cX6_profile 37 = .ok (.iload_n 1, 1) := by decide +kernel
theorem dX6_profile_38 : decode cX6_profile 38 = .ok (.iload_n 2, 1) := by decide +kernel
theorem dX6_profile_39 : decode cX6_profile 39 = .ok (.iload_n 3, 1) := by decide +kernel
theorem dX6_profile_40 : decode cX6_profile 40 = .ok (.invokevirtual 140, 3) := by decide +kernel
theorem dX6_profile_43 : decode cX6_profile 43 = .ok (.ireturn, 1) := by decide +kernel
theorem dX6_sharp_0 : decode cX6_sharp 0 = .ok (.iload_n 1, 1) := by decide +kernel
theorem dX6_sharp_1 : decode cX6_sharp 1 = .ok (.invokestatic 130, 3) := by decide +kernel
theorem dX6_sharp_4 : decode cX6_sharp 4 = .ok (.ifCond .eq 10, 3) := by decide +kernel
theorem dX6_sharp_7 : decode cX6_sharp 7 = .ok (.iload_n 2, 1) := by decide +kernel
theorem dX6_sharp_8 : decode cX6_sharp 8 = .ok (.invokestatic 133, 3) := by decide +kernel
theorem dX6_sharp_11 : decode cX6_sharp 11 = .ok (.ifCond .ne 6, 3) := by decide +kernel
theorem dX6_sharp_14 : decode cX6_sharp 14 = .ok (.bipush (-2), 2) := by decide +kernel
theorem dX6_sharp_16 : decode cX6_sharp 16 = .ok (.ireturn, 1) := by decide +kernel
theorem dX6_sharp_17 : decode cX6_sharp 17 = .ok (.aload_n 0, 1) := by decide +kernel
theorem dX6_sharp_18 : decode cX6_sharp 18 = .ok (.getfield 27, 3) := by decide +kernel
theorem dX6_sharp_21 : decode cX6_sharp 21 = .ok (.aload_n 0, 1) := by decide +kernel
theorem dX6_sharp_22 : decode cX6_sharp 22 = .ok (.getfield 12, 3) := by decide +kernel
theorem dX6_sharp_25 : decode cX6_sharp 25 = .ok (.iload_n 1, 1) := by decide +kernel
theorem dX6_sharp_26 : decode cX6_sharp 26 = .ok (.iload_n 2, 1) := by decide +kernel
theorem dX6_sharp_27 : decode cX6_sharp 27 = .ok (.invokevirtual 144, 3) := by decide +kernel
theorem dX6_sharp_30 : decode cX6_sharp 30 = .ok (.ireturn, 1) := by decide +kernel
theorem dX6_best_0 : decode cX6_best 0 = .ok (.iload_n 1, 1) := by decide +kernel
theorem dX6_best_1 : decode cX6_best 1 = .ok (.invokestatic 130, 3) := by decide +kernel
theorem dX6_best_4 : decode cX6_best 4 = .ok (.ifCond .ne 6, 3) := by decide +kernel
theorem dX6_best_7 : decode cX6_best 7 = .ok (.bipush (-2), 2) := by decide +kernel
theorem dX6_best_9 : decode cX6_best 9 = .ok (.ireturn, 1) := by decide +kernel
theorem dX6_best_10 : decode cX6_best 10 = .ok (.aload_n 0, 1) := by decide +kernel
theorem dX6_best_11 : decode cX6_best 11 = .ok (.getfield 27, 3) := by decide +kernel
theorem dX6_best_14 : decode cX6_best 14 = .ok (.aload_n 0, 1) := by decide +kernel
theorem dX6_best_15 : decode cX6_best 15 = .ok (.getfield 12, 3) := by decide +kernel
theorem dX6_best_18 : decode cX6_best 18 = .ok (.iload_n 1, 1) := by decide +kernel
theorem dX6_best_19 : decode cX6_best 19 = .ok (.invokevirtual 148, 3) := by decide +kernel
theorem dX6_best_22 : decode cX6_best 22 = .ok (.aload_n 0, 1) := by decide +kernel
theorem dX6_best_23 : decode cX6_best 23 = .ok (.getfield 27, 3) := by decide +kernel
theorem dX6_best_26 : decode cX6_best 26 = .ok (.invokevirtual 152, 3) := by decide +kernel
theorem dX6_best_29 : decode cX6_best 29 = .ok (.bipush 100, 2) := by decide +kernel
theorem dX6_best_31 : decode cX6_best 31 = .ok (.iadd, 1) := by decide +kernel
theorem dX6_best_32 : decode cX6_best 32 = .ok (.ireturn, 1) := by decide +kernel
theorem dX6_found_0 : decode cX6_found 0 = .ok (.iload_n 1, 1) := by decide +kernel
theorem dX6_found_1 : decode cX6_found 1 = .ok (.invokestatic 130, 3) := by decide +kernel
theorem dX6_found_4 : decode cX6_found 4 = .ok (.ifCond .ne 6, 3) := by decide +kernel
theorem dX6_found_7 : decode cX6_found 7 = .ok (.bipush (-2), 2) := by decide +kernel
theorem dX6_found_9 : decode cX6_found 9 = .ok (.ireturn, 1) := by decide +kernel
theorem dX6_found_10 : decode cX6_found 10 = .ok (.aload_n 0, 1) := by decide +kernel
theorem dX6_found_11 : decode cX6_found 11 = .ok (.getfield 27, 3) := by decide +kernel
theorem dX6_found_14 : decode cX6_found 14 = .ok (.aload_n 0, 1) := by decide +kernel
theorem dX6_found_15 : decode cX6_found 15 = .ok (.getfield 12, 3) := by decide +kernel
theorem dX6_found_18 : decode cX6_found 18 = .ok (.iload_n 1, 1) := by decide +kernel
theorem dX6_found_19 : decode cX6_found 19 = .ok (.invokevirtual 155, 3) := by decide +kernel
theorem dX6_found_22 : decode cX6_found 22 = .ok (.aload_n 0, 1) := by decide +kernel
theorem dX6_found_23 : decode cX6_found 23 = .ok (.getfield 27, 3) := by decide +kernel
theorem dX6_found_26 : decode cX6_found 26 = .ok (.invokevirtual 152, 3) := by decide +kernel
theorem dX6_found_29 : decode cX6_found 29 = .ok (.bipush 100, 2) := by decide +kernel
theorem dX6_found_31 : decode cX6_found 31 = .ok (.iadd, 1) := by decide +kernel
theorem dX6_found_32 : decode cX6_found 32 = .ok (.ireturn, 1) := by decide +kernel
theorem dX6_tried_0 : decode cX6_tried 0 = .ok (.iload_n 1, 1) := by decide +kernel
theorem dX6_tried_1 : decode cX6_tried 1 = .ok (.invokestatic 130, 3) := by decide +kernel
theorem dX6_tried_4 : decode cX6_tried 4 = .ok (.ifCond .eq 13, 3) := by decide +kernel
theorem dX6_tried_7 : decode cX6_tried 7 = .ok (.iload_n 2, 1) := by decide +kernel
theorem dX6_tried_8 : decode cX6_tried 8 = .ok (.ifCond .lt 9, 3) := by decide +kernel
theorem dX6_tried_11 : decode cX6_tried 11 = .ok (.iload_n 2, 1) := by decide +kernel
theorem dX6_tried_12 : decode cX6_tried 12 = .ok (.bipush 32, 2) := by decide +kernel
theorem dX6_tried_14 : decode cX6_tried 14 = .ok (.if_icmp .le 6, 3) := by decide +kernel
theorem dX6_tried_17 : decode cX6_tried 17 = .ok (.bipush (-2), 2) := by decide +kernel
theorem dX6_tried_19 : decode cX6_tried 19 = .ok (.ireturn, 1) := by decide +kernel
theorem dX6_tried_20 : decode cX6_tried 20 = .ok (.aload_n 0, 1) := by decide +kernel
theorem dX6_tried_21 : decode cX6_tried 21 = .ok (.getfield 27, 3) := by decide +kernel
theorem dX6_tried_24 : decode cX6_tried 24 = .ok (.aload_n 0, 1) := by decide +kernel
theorem dX6_tried_25 : decode cX6_tried 25 = .ok (.getfield 12, 3) := by decide +kernel
theorem dX6_tried_28 : decode cX6_tried 28 = .ok (.iload_n 1, 1) := by decide +kernel
theorem dX6_tried_29 : decode cX6_tried 29 = .ok (.invokevirtual 155, 3) := by decide +kernel
theorem dX6_tried_32 : decode cX6_tried 32 = .ok (.iload_n 2, 1) := by decide +kernel
theorem dX6_tried_33 : decode cX6_tried 33 = .ok (.aload_n 0, 1) := by decide +kernel
theorem dX6_tried_34 : decode cX6_tried 34 = .ok (.getfield 27, 3) := by decide +kernel
theorem dX6_tried_37 : decode cX6_tried 37 = .ok (.invokevirtual 158, 3) := by decide +kernel
theorem dX6_tried_40 : decode cX6_tried 40 = .ok (.if_icmp .ge 17, 3) := by decide +kernel
theorem dX6_tried_43 : decode cX6_tried 43 = .ok (.aload_n 0, 1) := by decide +kernel
theorem dX6_tried_44 : decode cX6_tried 44 = .ok (.getfield 27, 3) := by decide +kernel
theorem dX6_tried_47 : decode cX6_tried 47 = .ok (.iload_n 2, 1) := by decide +kernel
theorem dX6_tried_48 : decode cX6_tried 48 = .ok (.invokevirtual 161, 3) := by decide +kernel
theorem dX6_tried_51 : decode cX6_tried 51 = .ok (.bipush 100, 2) := by decide +kernel
theorem dX6_tried_53 : decode cX6_tried 53 = .ok (.iadd, 1) := by decide +kernel
theorem dX6_tried_54 : decode cX6_tried 54 = .ok (.goto 5, 3) := by decide +kernel
theorem dX6_tried_57 : decode cX6_tried 57 = .ok (.bipush (-9), 2) := by decide +kernel
theorem dX6_tried_59 : decode cX6_tried 59 = .ok (.ireturn, 1) := by decide +kernel
theorem dX6_shear_0 : decode cX6_shear 0 = .ok (.iload_n 1, 1) := by decide +kernel
theorem dX6_shear_1 : decode cX6_shear 1 = .ok (.invokestatic 130, 3) := by decide +kernel
theorem dX6_shear_4 : decode cX6_shear 4 = .ok (.ifCond .eq 10, 3) := by decide +kernel
theorem dX6_shear_7 : decode cX6_shear 7 = .ok (.iload_n 2, 1) := by decide +kernel
theorem dX6_shear_8 : decode cX6_shear 8 = .ok (.invokestatic 133, 3) := by decide +kernel
theorem dX6_shear_11 : decode cX6_shear 11 = .ok (.ifCond .ne 6, 3) := by decide +kernel
theorem dX6_shear_14 : decode cX6_shear 14 = .ok (.bipush (-2), 2) := by decide +kernel
theorem dX6_shear_16 : decode cX6_shear 16 = .ok (.ireturn, 1) := by decide +kernel
theorem dX6_shear_17 : decode cX6_shear 17 = .ok (.iload_n 1, 1) := by decide +kernel
theorem dX6_shear_18 : decode cX6_shear 18 = .ok (.ifCond .ne 13, 3) := by decide +kernel
theorem dX6_shear_21 : decode cX6_shear 21 = .ok (.aload_n 0, 1) := by decide +kernel
theorem dX6_shear_22 : decode cX6_shear 22 = .ok (.getfield 12, 3) := by decide +kernel
theorem dX6_shear_25 : decode cX6_shear 25 = .ok (.invokevirtual 98, 3) := by decide +kernel
theorem dX6_shear_28 : decode cX6_shear 28 = .ok (.goto 5, 3) := by decide +kernel
theorem dX6_shear_31 : decode cX6_shear 31 = .ok (.bipush 32, 2) := by decide +kernel
theorem dX6_shear_33 : decode cX6_shear 33 = .ok (.istore_n 3, 1) := by decide +kernel
theorem dX6_shear_34 : decode cX6_shear 34 = .ok (.iconst 0, 1) := by decide +kernel
theorem dX6_shear_35 : decode cX6_shear 35 = .ok (.istore 4, 2) := by decide +kernel
theorem dX6_shear_37 : decode cX6_shear 37 = .ok (.iload 4, 2) := by decide +kernel
theorem dX6_shear_39 : decode cX6_shear 39 = .ok (.iload_n 3, 1) := by decide +kernel
theorem dX6_shear_40 : decode cX6_shear 40 = .ok (.if_icmp .ge 23, 3) := by decide +kernel
theorem dX6_shear_43 : decode cX6_shear 43 = .ok (.aload_n 0, 1) := by decide +kernel
theorem dX6_shear_44 : decode cX6_shear 44 = .ok (.getfield 45, 3) := by decide +kernel
theorem dX6_shear_47 : decode cX6_shear 47 = .ok (.iload 4, 2) := by decide +kernel
theorem dX6_shear_49 : decode cX6_shear 49 = .ok (.iload_n 1, 1) := by decide +kernel
theorem dX6_shear_50 : decode cX6_shear 50 = .ok (.iload_n 2, 1) := by decide +kernel
theorem dX6_shear_51 : decode cX6_shear 51 = .ok (.iload 4, 2) := by decide +kernel
theorem dX6_shear_53 : decode cX6_shear 53 = .ok (.invokestatic 136, 3) := by decide +kernel
theorem dX6_shear_56 : decode cX6_shear 56 = .ok (.iastore, 1) := by decide +kernel
theorem dX6_shear_57 : decode cX6_shear 57 = .ok (.iinc 4 1, 3) := by decide +kernel
theorem dX6_shear_60 : decode cX6_shear 60 = .ok (.goto (-23), 3) := by decide +kernel
theorem dX6_shear_63 : decode cX6_shear 63 = .ok (.iload_n 1, 1) := by decide +kernel
theorem dX6_shear_64 : decode cX6_shear 64 = .ok (.ifCond .ne 17, 3) := by decide +kernel
theorem dX6_shear_67 : decode cX6_shear 67 = .ok (.aload_n 0, 1) := by decide +kernel
theorem dX6_shear_68 : decode cX6_shear 68 = .ok (.getfield 12, 3) := by decide +kernel
theorem dX6_shear_71 : decode cX6_shear 71 = .ok (.aload_n 0, 1) := by decide +kernel
theorem dX6_shear_72 : decode cX6_shear 72 = .ok (.getfield 45, 3) := by decide +kernel
theorem dX6_shear_75 : decode cX6_shear 75 = .ok (.invokevirtual 164, 3) := by decide +kernel
theorem dX6_shear_78 : decode cX6_shear 78 = .ok (.goto 14, 3) := by decide +kernel
theorem dX6_shear_81 : decode cX6_shear 81 = .ok (.aload_n 0, 1) := by decide +kernel
theorem dX6_shear_82 : decode cX6_shear 82 = .ok (.getfield 12, 3) := by decide +kernel
theorem dX6_shear_85 : decode cX6_shear 85 = .ok (.aload_n 0, 1) := by decide +kernel
theorem dX6_shear_86 : decode cX6_shear 86 = .ok (.getfield 45, 3) := by decide +kernel
theorem dX6_shear_89 : decode cX6_shear 89 = .ok (.invokevirtual 168, 3) := by decide +kernel
theorem dX6_shear_92 : decode cX6_shear 92 = .ok (.ireturn, 1) := by decide +kernel
theorem dX6_run_0 : decode cX6_run 0 = .ok (.aload_n 0, 1) := by decide +kernel
theorem dX6_run_1 : decode cX6_run 1 = .ok (.getfield 34, 3) := by decide +kernel
theorem dX6_run_4 : decode cX6_run 4 = .ok (.aload_n 0, 1) := by decide +kernel
theorem dX6_run_5 : decode cX6_run 5 = .ok (.getfield 12, 3) := by decide +kernel
theorem dX6_run_8 : decode cX6_run 8 = .ok (.invokevirtual 171, 3) := by decide +kernel
theorem dX6_run_11 : decode cX6_run 11 = .ok (.iload_n 1, 1) := by decide +kernel
theorem dX6_run_12 : decode cX6_run 12 = .ok (.ifCond .lt 14, 3) := by decide +kernel
theorem dX6_run_15 : decode cX6_run 15 = .ok (.iload_n 1, 1) := by decide +kernel
theorem dX6_run_16 : decode cX6_run 16 = .ok (.aload_n 0, 1) := by decide +kernel
theorem dX6_run_17 : decode cX6_run 17 = .ok (.getfield 34, 3) := by decide +kernel
theorem dX6_run_20 : decode cX6_run 20 = .ok (.invokevirtual 175, 3) := by decide +kernel
theorem dX6_run_23 : decode cX6_run 23 = .ok (.if_icmp .lt 5, 3) := by decide +kernel
theorem dX6_run_26 : decode cX6_run 26 = .ok (.iconst (-1), 1) := by decide +kernel
theorem dX6_run_27 : decode cX6_run 27 = .ok (.ireturn, 1) := by decide +kernel
theorem dX6_run_28 : decode cX6_run 28 = .ok (.iload_n 2, 1) := by decide +kernel
theorem dX6_run_29 : decode cX6_run 29 = .ok (.tableswitch 67 0 3 #[31, 40, 49, 58], 31) := by decide +kernel
theorem dX6_run_60 : decode cX6_run 60 = .ok (.aload_n 0, 1) := by decide +kernel
theorem dX6_run_61 : decode cX6_run 61 = .ok (.getfield 34, 3) := by decide +kernel
theorem dX6_run_64 : decode cX6_run 64 = .ok (.iload_n 1, 1) := by decide +kernel
theorem dX6_run_65 : decode cX6_run 65 = .ok (.invokevirtual 178, 3) := by decide +kernel
theorem dX6_run_68 : decode cX6_run 68 = .ok (.ireturn, 1) := by decide +kernel
theorem dX6_run_69 : decode cX6_run 69 = .ok (.aload_n 0, 1) := by decide +kernel
theorem dX6_run_70 : decode cX6_run 70 = .ok (.getfield 34, 3) := by decide +kernel
theorem dX6_run_73 : decode cX6_run 73 = .ok (.iload_n 1, 1) := by decide +kernel
theorem dX6_run_74 : decode cX6_run 74 = .ok (.invokevirtual 181, 3) := by decide +kernel
theorem dX6_run_77 : decode cX6_run 77 = .ok (.ireturn, 1) := by decide +kernel
theorem dX6_run_78 : decode cX6_run 78 = .ok (.aload_n 0, 1) := by decide +kernel
theorem dX6_run_79 : decode cX6_run 79 = .ok (.getfield 34, 3) := by decide +kernel
theorem dX6_run_82 : decode cX6_run 82 = .ok (.iload_n 1, 1) := by decide +kernel
theorem dX6_run_83 : decode cX6_run 83 = .ok (.invokevirtual 184, 3) := by decide +kernel
theorem dX6_run_86 : decode cX6_run 86 = .ok (.ireturn, 1) := by decide +kernel
theorem dX6_run_87 : decode cX6_run 87 = .ok (.aload_n 0, 1) := by decide +kernel
theorem dX6_run_88 : decode cX6_run 88 = .ok (.getfield 34, 3) := by decide +kernel
theorem dX6_run_91 : decode cX6_run 91 = .ok (.iload_n 1, 1) := by decide +kernel
theorem dX6_run_92 : decode cX6_run 92 = .ok (.invokevirtual 187, 3) := by decide +kernel
theorem dX6_run_95 : decode cX6_run 95 = .ok (.ireturn, 1) := by decide +kernel
theorem dX6_run_96 : decode cX6_run 96 = .ok (.bipush (-2), 2) := by decide +kernel
theorem dX6_run_98 : decode cX6_run 98 = .ok (.ireturn, 1) := by decide +kernel
theorem dX6_stroke_0 : decode cX6_stroke 0 = .ok (.aload_n 0, 1) := by decide +kernel
theorem dX6_stroke_1 : decode cX6_stroke 1 = .ok (.getfield 34, 3) := by decide +kernel
theorem dX6_stroke_4 : decode cX6_stroke 4 = .ok (.aload_n 0, 1) := by decide +kernel
theorem dX6_stroke_5 : decode cX6_stroke 5 = .ok (.getfield 12, 3) := by decide +kernel
theorem dX6_stroke_8 : decode cX6_stroke 8 = .ok (.invokevirtual 171, 3) := by decide +kernel
theorem dX6_stroke_11 : decode cX6_stroke 11 = .ok (.iload_n 1, 1) := by decide +kernel
theorem dX6_stroke_12 : decode cX6_stroke 12 = .ok (.ifCond .lt 14, 3) := by decide +kernel
theorem dX6_stroke_15 : decode cX6_stroke 15 = .ok (.iload_n 1, 1) := by decide +kernel
theorem dX6_stroke_16 : decode cX6_stroke 16 = .ok (.aload_n 0, 1) := by decide +kernel
theorem dX6_stroke_17 : decode cX6_stroke 17 = .ok (.getfield 34, 3) := by decide +kernel
theorem dX6_stroke_20 : decode cX6_stroke 20 = .ok (.invokevirtual 190, 3) := by decide +kernel
theorem dX6_stroke_23 : decode cX6_stroke 23 = .ok (.if_icmp .lt 5, 3) := by decide +kernel
theorem dX6_stroke_26 : decode cX6_stroke 26 = .ok (.iconst (-1), 1) := by decide +kernel
theorem dX6_stroke_27 : decode cX6_stroke 27 = .ok (.ireturn, 1) := by decide +kernel
theorem dX6_stroke_28 : decode cX6_stroke 28 = .ok (.iload_n 2, 1) := by decide +kernel
theorem dX6_stroke_29 : decode cX6_stroke 29 = .ok (.tableswitch 93 0 5 #[39, 48, 57, 66, 75, 84], 39) := by decide +kernel
theorem dX6_stroke_68 : decode cX6_stroke 68 = .ok (.aload_n 0, 1) := by decide +kernel
theorem dX6_stroke_69 : decode cX6_stroke 69 = .ok (.getfield 34, 3) := by decide +kernel
theorem dX6_stroke_72 : decode cX6_stroke 72 = .ok (.iload_n 1, 1) := by decide +kernel
theorem dX6_stroke_73 : decode cX6_stroke 73 = .ok (.invokevirtual 193, 3) := by decide +kernel
theorem dX6_stroke_76 : decode cX6_stroke 76 = .ok (.ireturn, 1) := by decide +kernel
theorem dX6_stroke_77 : decode cX6_stroke 77 = .ok (.aload_n 0, 1) := by decide +kernel
theorem dX6_stroke_78 : decode cX6_stroke 78 = .ok (.getfield 34, 3) := by decide +kernel
theorem dX6_stroke_81 : decode cX6_stroke 81 = .ok (.iload_n 1, 1) := by decide +kernel
theorem dX6_stroke_82 : decode cX6_stroke 82 = .ok (.invokevirtual 196, 3) := by decide +kernel
theorem dX6_stroke_85 : decode cX6_stroke 85 = .ok (.ireturn, 1) := by decide +kernel
theorem dX6_stroke_86 : decode cX6_stroke 86 = .ok (.aload_n 0, 1) := by decide +kernel
theorem dX6_stroke_87 : decode cX6_stroke 87 = .ok (.getfield 34, 3) := by decide +kernel
theorem dX6_stroke_90 : decode cX6_stroke 90 = .ok (.iload_n 1, 1) := by decide +kernel
theorem dX6_stroke_91 : decode cX6_stroke 91 = .ok (.invokevirtual 199, 3) := by decide +kernel
theorem dX6_stroke_94 : decode cX6_stroke 94 = .ok (.ireturn, 1) := by decide +kernel
theorem dX6_stroke_95 : decode cX6_stroke 95 = .ok (.aload_n 0, 1) := by decide +kernel
theorem dX6_stroke_96 : decode cX6_stroke 96 = .ok (.getfield 34, 3) := by decide +kernel
theorem dX6_stroke_99 : decode cX6_stroke 99 = .ok (.iload_n 1, 1) := by decide +kernel
theorem dX6_stroke_100 : decode cX6_stroke 100 = .ok (.invokevirtual 202, 3) := by decide +kernel
theorem dX6_stroke_103 : decode cX6_stroke 103 = .ok (.ireturn, 1) := by decide +kernel
theorem dX6_stroke_104 : decode cX6_stroke 104 = .ok (.aload_n 0, 1) := by decide +kernel
theorem dX6_stroke_105 : decode cX6_stroke 105 = .ok (.getfield 34, 3) := by decide +kernel
theorem dX6_stroke_108 : decode cX6_stroke 108 = .ok (.iload_n 1, 1) := by decide +kernel
theorem dX6_stroke_109 : decode cX6_stroke 109 = .ok (.invokevirtual 205, 3) := by decide +kernel
theorem dX6_stroke_112 : decode cX6_stroke 112 = .ok (.ireturn, 1) := by decide +kernel
theorem dX6_stroke_113 : decode cX6_stroke 113 = .ok (.aload_n 0, 1) := by decide +kernel
theorem dX6_stroke_114 : decode cX6_stroke 114 = .ok (.getfield 34, 3) := by decide +kernel
theorem dX6_stroke_117 : decode cX6_stroke 117 = .ok (.iload_n 1, 1) := by decide +kernel
theorem dX6_stroke_118 : decode cX6_stroke 118 = .ok (.invokevirtual 208, 3) := by decide +kernel
theorem dX6_stroke_121 : decode cX6_stroke 121 = .ok (.ireturn, 1) := by decide +kernel
theorem dX6_stroke_122 : decode cX6_stroke 122 = .ok (.bipush (-2), 2) := by decide +kernel
theorem dX6_stroke_124 : decode cX6_stroke 124 = .ok (.ireturn, 1) := by decide +kernel
theorem dX6_baseline_0 : decode cX6_baseline 0 = .ok (.iload_n 1, 1) := by decide +kernel
theorem dX6_baseline_1 : decode cX6_baseline 1 = .ok (.ifCond .lt 8, 3) := by decide +kernel
theorem dX6_baseline_4 : decode cX6_baseline 4 = .ok (.iload_n 1, 1) := by decide +kernel
theorem dX6_baseline_5 : decode cX6_baseline 5 = .ok (.iconst 2, 1) := by decide +kernel
theorem dX6_baseline_6 : decode cX6_baseline 6 = .ok (.if_icmp .le 6, 3) := by decide +kernel
theorem dX6_baseline_9 : decode cX6_baseline 9 = .ok (.bipush (-2), 2) := by decide +kernel
theorem dX6_baseline_11 : decode cX6_baseline 11 = .ok (.ireturn, 1) := by decide +kernel
theorem dX6_baseline_12 : decode cX6_baseline 12 = .ok (.aload_n 0, 1) := by decide +kernel
theorem dX6_baseline_13 : decode cX6_baseline 13 = .ok (.getfield 41, 3) := by decide +kernel
theorem dX6_baseline_16 : decode cX6_baseline 16 = .ok (.aload_n 0, 1) := by decide +kernel
theorem dX6_baseline_17 : decode cX6_baseline 17 = .ok (.getfield 12, 3) := by decide +kernel
theorem dX6_baseline_20 : decode cX6_baseline 20 = .ok (.invokevirtual 211, 3) := by decide +kernel
theorem dX6_baseline_23 : decode cX6_baseline 23 = .ok (.aload_n 0, 1) := by decide +kernel
theorem dX6_baseline_24 : decode cX6_baseline 24 = .ok (.getfield 41, 3) := by decide +kernel
theorem dX6_baseline_27 : decode cX6_baseline 27 = .ok (.invokevirtual 212, 3) := by decide +kernel
theorem dX6_baseline_30 : decode cX6_baseline 30 = .ok (.ifCond .ne 6, 3) := by decide +kernel
theorem dX6_baseline_33 : decode cX6_baseline 33 = .ok (.bipush (-9), 2) := by decide +kernel
theorem dX6_baseline_35 : decode cX6_baseline 35 = .ok (.ireturn, 1) := by decide +kernel
theorem dX6_baseline_36 : decode cX6_baseline 36 = .ok (.iload_n 1, 1) := by decide +kernel
theorem dX6_baseline_37 : decode cX6_baseline 37 = .ok (.lookupswitch 43 #[(0, 27), (1, 35)], 27) := by decide +kernel
theorem dX6_baseline_64 : decode cX6_baseline 64 = .ok (.aload_n 0, 1) := by decide +kernel
theorem dX6_baseline_65 : decode cX6_baseline 65 = .ok (.getfield 41, 3) := by decide +kernel
theorem dX6_baseline_68 : decode cX6_baseline 68 = .ok (.invokevirtual 215, 3) := by decide +kernel
theorem dX6_baseline_71 : decode cX6_baseline 71 = .ok (.ireturn, 1) := by decide +kernel
theorem dX6_baseline_72 : decode cX6_baseline 72 = .ok (.aload_n 0, 1) := by decide +kernel
theorem dX6_baseline_73 : decode cX6_baseline 73 = .ok (.getfield 41, 3) := by decide +kernel
theorem dX6_baseline_76 : decode cX6_baseline 76 = .ok (.invokevirtual 212, 3) := by decide +kernel
theorem dX6_baseline_79 : decode cX6_baseline 79 = .ok (.ireturn, 1) := by decide +kernel
theorem dX6_baseline_80 : decode cX6_baseline 80 = .ok (.aload_n 0, 1) := by decide +kernel
theorem dX6_baseline_81 : decode cX6_baseline 81 = .ok (.getfield 41, 3) := by decide +kernel
theorem dX6_baseline_84 : decode cX6_baseline 84 = .ok (.invokevirtual 218, 3) := by decide +kernel
theorem dX6_baseline_87 : decode cX6_baseline 87 = .ok (.ireturn, 1) := by decide +kernel
theorem dX6_foot_0 : decode cX6_foot 0 = .ok (.aload_n 0, 1) := by decide +kernel
theorem dX6_foot_1 : decode cX6_foot 1 = .ok (.getfield 12, 3) := by decide +kernel
theorem dX6_foot_4 : decode cX6_foot 4 = .ok (.iload_n 1, 1) := by decide +kernel
theorem dX6_foot_5 : decode cX6_foot 5 = .ok (.invokevirtual 62, 3) := by decide +kernel
theorem dX6_foot_8 : decode cX6_foot 8 = .ok (.ifCond .ne 5, 3) := by decide +kernel
theorem dX6_foot_11 : decode cX6_foot 11 = .ok (.iconst (-1), 1) := by decide +kernel
theorem dX6_foot_12 : decode cX6_foot 12 = .ok (.ireturn, 1) := by decide +kernel
theorem dX6_foot_13 : decode cX6_foot 13 = .ok (.aload_n 0, 1) := by decide +kernel
theorem dX6_foot_14 : decode cX6_foot 14 = .ok (.getfield 41, 3) := by decide +kernel
theorem dX6_foot_17 : decode cX6_foot 17 = .ok (.aload_n 0, 1) := by decide +kernel
theorem dX6_foot_18 : decode cX6_foot 18 = .ok (.getfield 12, 3) := by decide +kernel
theorem dX6_foot_21 : decode cX6_foot 21 = .ok (.invokevirtual 211, 3) := by decide +kernel
theorem dX6_foot_24 : decode cX6_foot 24 = .ok (.aload_n 0, 1) := by decide +kernel
theorem dX6_foot_25 : decode cX6_foot 25 = .ok (.getfield 41, 3) := by decide +kernel
theorem dX6_foot_28 : decode cX6_foot 28 = .ok (.iload_n 1, 1) := by decide +kernel
theorem dX6_foot_29 : decode cX6_foot 29 = .ok (.invokevirtual 221, 3) := by decide +kernel
theorem dX6_foot_32 : decode cX6_foot 32 = .ok (.ifCond .eq 14, 3) := by decide +kernel
theorem dX6_foot_35 : decode cX6_foot 35 = .ok (.aload_n 0, 1) := by decide +kernel
theorem dX6_foot_36 : decode cX6_foot 36 = .ok (.getfield 41, 3) := by decide +kernel
theorem dX6_foot_39 : decode cX6_foot 39 = .ok (.iload_n 1, 1) := by decide +kernel
theorem dX6_foot_40 : decode cX6_foot 40 = .ok (.invokevirtual 224, 3) := by decide +kernel
theorem dX6_foot_43 : decode cX6_foot 43 = .ok (.goto 5, 3) := by decide +kernel
theorem dX6_foot_46 : decode cX6_foot 46 = .ok (.bipush (-9), 2) := by decide +kernel
theorem dX6_foot_48 : decode cX6_foot 48 = .ok (.ireturn, 1) := by decide +kernel
theorem dX6_curl_0 : decode cX6_curl 0 = .ok (.aload_n 0, 1) := by decide +kernel
theorem dX6_curl_1 : decode cX6_curl 1 = .ok (.getfield 12, 3) := by decide +kernel
theorem dX6_curl_4 : decode cX6_curl 4 = .ok (.iload_n 1, 1) := by decide +kernel
theorem dX6_curl_5 : decode cX6_curl 5 = .ok (.invokevirtual 62, 3) := by decide +kernel
theorem dX6_curl_8 : decode cX6_curl 8 = .ok (.ifCond .ne 5, 3) := by decide +kernel
theorem dX6_curl_11 : decode cX6_curl 11 = .ok (.iconst (-1), 1) := by decide +kernel
theorem dX6_curl_12 : decode cX6_curl 12 = .ok (.ireturn, 1) := by decide +kernel
theorem dX6_curl_13 : decode cX6_curl 13 = .ok (.aload_n 0, 1) := by decide +kernel
theorem dX6_curl_14 : decode cX6_curl 14 = .ok (.getfield 41, 3) := by decide +kernel
theorem dX6_curl_17 : decode cX6_curl 17 = .ok (.aload_n 0, 1) := by decide +kernel
theorem dX6_curl_18 : decode cX6_curl 18 = .ok (.getfield 12, 3) := by decide +kernel
theorem dX6_curl_21 : decode cX6_curl 21 = .ok (.invokevirtual 211, 3) := by decide +kernel
theorem dX6_curl_24 : decode cX6_curl 24 = .ok (.aload_n 0, 1) := by decide +kernel
theorem dX6_curl_25 : decode cX6_curl 25 = .ok (.getfield 41, 3) := by decide +kernel
theorem dX6_curl_28 : decode cX6_curl 28 = .ok (.invokevirtual 212, 3) := by decide +kernel
theorem dX6_curl_31 : decode cX6_curl 31 = .ok (.ifCond .ne 8, 3) := by decide +kernel
theorem dX6_curl_34 : decode cX6_curl 34 = .ok (.bipush (-3), 2) := by decide +kernel
theorem dX6_curl_36 : decode cX6_curl 36 = .ok (.goto 14, 3) := by decide +kernel
theorem dX6_curl_39 : decode cX6_curl 39 = .ok (.aload_n 0, 1) := by decide +kernel
theorem dX6_curl_40 : decode cX6_curl 40 = .ok (.getfield 41, 3) := by decide +kernel
theorem dX6_curl_43 : decode cX6_curl 43 = .ok (.iload_n 1, 1) := by decide +kernel
theorem dX6_curl_44 : decode cX6_curl 44 = .ok (.invokevirtual 227, 3) := by decide +kernel
theorem dX6_curl_47 : decode cX6_curl 47 = .ok (.bipush 100, 2) := by decide +kernel
theorem dX6_curl_49 : decode cX6_curl 49 = .ok (.iadd, 1) := by decide +kernel
theorem dX6_curl_50 : decode cX6_curl 50 = .ok (.ireturn, 1) := by decide +kernel
theorem dX6_mean_0 : decode cX6_mean 0 = .ok (.aload_n 0, 1) := by decide +kernel
theorem dX6_mean_1 : decode cX6_mean 1 = .ok (.getfield 41, 3) := by decide +kernel
theorem dX6_mean_4 : decode cX6_mean 4 = .ok (.aload_n 0, 1) := by decide +kernel
theorem dX6_mean_5 : decode cX6_mean 5 = .ok (.getfield 12, 3) := by decide +kernel
theorem dX6_mean_8 : decode cX6_mean 8 = .ok (.invokevirtual 211, 3) := by decide +kernel
theorem dX6_mean_11 : decode cX6_mean 11 = .ok (.aload_n 0, 1) := by decide +kernel
theorem dX6_mean_12 : decode cX6_mean 12 = .ok (.getfield 41, 3) := by decide +kernel
theorem dX6_mean_15 : decode cX6_mean 15 = .ok (.invokevirtual 212, 3) := by decide +kernel
theorem dX6_mean_18 : decode cX6_mean 18 = .ok (.ifCond .ne 9, 3) := by decide +kernel
theorem dX6_mean_21 : decode cX6_mean 21 = .ok (.ldc2_w 86, 3) := by decide +kernel
theorem dX6_mean_24 : decode cX6_mean 24 = .ok (.goto 10, 3) := by decide +kernel
theorem dX6_mean_27 : decode cX6_mean 27 = .ok (.aload_n 0, 1) := by decide +kernel
theorem dX6_mean_28 : decode cX6_mean 28 = .ok (.getfield 41, 3) := by decide +kernel
theorem dX6_mean_31 : decode cX6_mean 31 = .ok (.invokevirtual 230, 3) := by decide +kernel
theorem dX6_mean_34 : decode cX6_mean 34 = .ok (.lreturn, 1) := by decide +kernel
theorem dX6_rest_0 : decode cX6_rest 0 = .ok (.aload_n 0, 1) := by decide +kernel
theorem dX6_rest_1 : decode cX6_rest 1 = .ok (.getfield 41, 3) := by decide +kernel
theorem dX6_rest_4 : decode cX6_rest 4 = .ok (.aload_n 0, 1) := by decide +kernel
theorem dX6_rest_5 : decode cX6_rest 5 = .ok (.getfield 12, 3) := by decide +kernel
theorem dX6_rest_8 : decode cX6_rest 8 = .ok (.invokevirtual 211, 3) := by decide +kernel
theorem dX6_rest_11 : decode cX6_rest 11 = .ok (.aload_n 0, 1) := by decide +kernel
theorem dX6_rest_12 : decode cX6_rest 12 = .ok (.getfield 41, 3) := by decide +kernel
theorem dX6_rest_15 : decode cX6_rest 15 = .ok (.invokevirtual 212, 3) := by decide +kernel
theorem dX6_rest_18 : decode cX6_rest 18 = .ok (.ifCond .ne 9, 3) := by decide +kernel
theorem dX6_rest_21 : decode cX6_rest 21 = .ok (.ldc2_w 86, 3) := by decide +kernel
theorem dX6_rest_24 : decode cX6_rest 24 = .ok (.goto 13, 3) := by decide +kernel
theorem dX6_rest_27 : decode cX6_rest 27 = .ok (.aload_n 0, 1) := by decide +kernel
theorem dX6_rest_28 : decode cX6_rest 28 = .ok (.getfield 41, 3) := by decide +kernel
theorem dX6_rest_31 : decode cX6_rest 31 = .ok (.invokevirtual 230, 3) := by decide +kernel
theorem dX6_rest_34 : decode cX6_rest 34 = .ok (.invokestatic 234, 3) := by decide +kernel
theorem dX6_rest_37 : decode cX6_rest 37 = .ok (.lreturn, 1) := by decide +kernel
theorem dX6_slope_0 : decode cX6_slope 0 = .ok (.aload_n 0, 1) := by decide +kernel
theorem dX6_slope_1 : decode cX6_slope 1 = .ok (.getfield 41, 3) := by decide +kernel
theorem dX6_slope_4 : decode cX6_slope 4 = .ok (.aload_n 0, 1) := by decide +kernel
theorem dX6_slope_5 : decode cX6_slope 5 = .ok (.getfield 12, 3) := by decide +kernel
theorem dX6_slope_8 : decode cX6_slope 8 = .ok (.invokevirtual 211, 3) := by decide +kernel
theorem dX6_slope_11 : decode cX6_slope 11 = .ok (.aload_n 0, 1) := by decide +kernel
theorem dX6_slope_12 : decode cX6_slope 12 = .ok (.getfield 41, 3) := by decide +kernel
theorem dX6_slope_15 : decode cX6_slope 15 = .ok (.invokevirtual 212, 3) := by decide +kernel
theorem dX6_slope_18 : decode cX6_slope 18 = .ok (.iconst 2, 1) := by decide +kernel
theorem dX6_slope_19 : decode cX6_slope 19 = .ok (.if_icmp .ge 8, 3) := by decide +kernel
theorem dX6_slope_22 : decode cX6_slope 22 = .ok (.bipush (-3), 2) := by decide +kernel
theorem dX6_slope_24 : decode cX6_slope 24 = .ok (.goto 10, 3) := by decide +kernel
theorem dX6_slope_27 : decode cX6_slope 27 = .ok (.aload_n 0, 1) := by decide +kernel
theorem dX6_slope_28 : decode cX6_slope 28 = .ok (.getfield 41, 3) := by decide +kernel
theorem dX6_slope_31 : decode cX6_slope 31 = .ok (.invokevirtual 240, 3) := by decide +kernel
theorem dX6_slope_34 : decode cX6_slope 34 = .ok (.ireturn, 1) := by decide +kernel
theorem dX6_level_0 : decode cX6_level 0 = .ok (.aload_n 0, 1) := by decide +kernel
theorem dX6_level_1 : decode cX6_level 1 = .ok (.getfield 41, 3) := by decide +kernel
theorem dX6_level_4 : decode cX6_level 4 = .ok (.aload_n 0, 1) := by decide +kernel
theorem dX6_level_5 : decode cX6_level 5 = .ok (.getfield 12, 3) := by decide +kernel
theorem dX6_level_8 : decode cX6_level 8 = .ok (.invokevirtual 211, 3) := by decide +kernel
theorem dX6_level_11 : decode cX6_level 11 = .ok (.aload_n 0, 1) := by decide +kernel
theorem dX6_level_12 : decode cX6_level 12 = .ok (.getfield 41, 3) := by decide +kernel
theorem dX6_level_15 : decode cX6_level 15 = .ok (.invokevirtual 212, 3) := by decide +kernel
theorem dX6_level_18 : decode cX6_level 18 = .ok (.ifCond .ne 6, 3) := by decide +kernel
theorem dX6_level_21 : decode cX6_level 21 = .ok (.bipush (-3), 2) := by decide +kernel
theorem dX6_level_23 : decode cX6_level 23 = .ok (.ireturn, 1) := by decide +kernel
theorem dX6_level_24 : decode cX6_level 24 = .ok (.iconst 0, 1) := by decide +kernel
theorem dX6_level_25 : decode cX6_level 25 = .ok (.istore_n 1, 1) := by decide +kernel
theorem dX6_level_26 : decode cX6_level 26 = .ok (.iload_n 1, 1) := by decide +kernel
theorem dX6_level_27 : decode cX6_level 27 = .ok (.aload_n 0, 1) := by decide +kernel
theorem dX6_level_28 : decode cX6_level 28 = .ok (.getfield 12, 3) := by decide +kernel
theorem dX6_level_31 : decode cX6_level 31 = .ok (.invokevirtual 98, 3) := by decide +kernel
theorem dX6_level_34 : decode cX6_level 34 = .ok (.if_icmp .ge 23, 3) := by decide +kernel
theorem dX6_level_37 : decode cX6_level 37 = .ok (.aload_n 0, 1) := by decide +kernel
theorem dX6_level_38 : decode cX6_level 38 = .ok (.getfield 45, 3) := by decide +kernel
theorem dX6_level_41 : decode cX6_level 41 = .ok (.iload_n 1, 1) := by decide +kernel
theorem dX6_level_42 : decode cX6_level 42 = .ok (.aload_n 0, 1) := by decide +kernel
theorem dX6_level_43 : decode cX6_level 43 = .ok (.getfield 41, 3) := by decide +kernel
theorem dX6_level_46 : decode cX6_level 46 = .ok (.iload_n 1, 1) := by decide +kernel
theorem dX6_level_47 : decode cX6_level 47 = .ok (.invokevirtual 227, 3) := by decide +kernel
theorem dX6_level_50 : decode cX6_level 50 = .ok (.iastore, 1) := by decide +kernel
theorem dX6_level_51 : decode cX6_level 51 = .ok (.iinc 1 1, 3) := by decide +kernel
theorem dX6_level_54 : decode cX6_level 54 = .ok (.goto (-28), 3) := by decide +kernel
theorem dX6_level_57 : decode cX6_level 57 = .ok (.aload_n 0, 1) := by decide +kernel
theorem dX6_level_58 : decode cX6_level 58 = .ok (.getfield 12, 3) := by decide +kernel
theorem dX6_level_61 : decode cX6_level 61 = .ok (.aload_n 0, 1) := by decide +kernel
theorem dX6_level_62 : decode cX6_level 62 = .ok (.getfield 45, 3) := by decide +kernel
theorem dX6_level_65 : decode cX6_level 65 = .ok (.invokevirtual 164, 3) := by decide +kernel
theorem dX6_level_68 : decode cX6_level 68 = .ok (.ireturn, 1) := by decide +kernel
theorem dX6_back_0 : decode cX6_back 0 = .ok (.aload_n 0, 1) := by decide +kernel
theorem dX6_back_1 : decode cX6_back 1 = .ok (.getfield 12, 3) := by decide +kernel
theorem dX6_back_4 : decode cX6_back 4 = .ok (.invokevirtual 243, 3) := by decide +kernel
theorem dX6_back_7 : decode cX6_back 7 = .ok (.ifCond .ne 6, 3) := by decide +kernel
theorem dX6_back_10 : decode cX6_back 10 = .ok (.bipush (-3), 2) := by decide +kernel
theorem dX6_back_12 : decode cX6_back 12 = .ok (.ireturn, 1) := by decide +kernel
theorem dX6_back_13 : decode cX6_back 13 = .ok (.aload_n 0, 1) := by decide +kernel
theorem dX6_back_14 : decode cX6_back 14 = .ok (.getfield 12, 3) := by decide +kernel
theorem dX6_back_17 : decode cX6_back 17 = .ok (.invokevirtual 246, 3) := by decide +kernel
theorem dX6_back_20 : decode cX6_back 20 = .ok (.aload_n 0, 1) := by decide +kernel
theorem dX6_back_21 : decode cX6_back 21 = .ok (.getfield 12, 3) := by decide +kernel
theorem dX6_back_24 : decode cX6_back 24 = .ok (.invokevirtual 243, 3) := by decide +kernel
theorem dX6_back_27 : decode cX6_back 27 = .ok (.ireturn, 1) := by decide +kernel
theorem dX6_fault_0 : decode cX6_fault 0 = .ok (.aload_n 0, 1) := by decide +kernel
theorem dX6_fault_1 : decode cX6_fault 1 = .ok (.getfield 49, 3) := by decide +kernel
theorem dX6_fault_4 : decode cX6_fault 4 = .ok (.ireturn, 1) := by decide +kernel
theorem dX6_many_0 : decode cX6_many 0 = .ok (.iload_n 1, 1) := by decide +kernel
theorem dX6_many_1 : decode cX6_many 1 = .ok (.tableswitch 118 0 6 #[43, 51, 59, 78, 97, 105, 113], 43) := by decide +kernel
theorem dX6_many_44 : decode cX6_many 44 = .ok (.aload_n 0, 1) := by decide +kernel
theorem dX6_many_45 : decode cX6_many 45 = .ok (.getfield 12, 3) := by decide +kernel
theorem dX6_many_48 : decode cX6_many 48 = .ok (.invokevirtual 98, 3) := by decide +kernel
theorem dX6_many_51 : decode cX6_many 51 = .ok (.ireturn, 1) := by decide +kernel
theorem dX6_many_52 : decode cX6_many 52 = .ok (.aload_n 0, 1) := by decide +kernel
theorem dX6_many_53 : decode cX6_many 53 = .ok (.getfield 12, 3) := by decide +kernel
theorem dX6_many_56 : decode cX6_many 56 = .ok (.invokevirtual 54, 3) := by decide +kernel
theorem dX6_many_59 : decode cX6_many 59 = .ok (.ireturn, 1) := by decide +kernel
theorem dX6_many_60 : decode cX6_many 60 = .ok (.aload_n 0, 1) := by decide +kernel
theorem dX6_many_61 : decode cX6_many 61 = .ok (.getfield 34, 3) := by decide +kernel
theorem dX6_many_64 : decode cX6_many 64 = .ok (.aload_n 0, 1) := by decide +kernel
theorem dX6_many_65 : decode cX6_many 65 = .ok (.getfield 12, 3) := by decide +kernel
theorem dX6_many_68 : decode cX6_many 68 = .ok (.invokevirtual 171, 3) := by decide +kernel
theorem dX6_many_71 : decode cX6_many 71 = .ok (.aload_n 0, 1) := by decide +kernel
theorem dX6_many_72 : decode cX6_many 72 = .ok (.getfield 34, 3) := by decide +kernel
theorem dX6_many_75 : decode cX6_many 75 = .ok (.invokevirtual 175, 3) := by decide +kernel
theorem dX6_many_78 : decode cX6_many 78 = .ok (.ireturn, 1) := by decide +kernel
theorem dX6_many_79 : decode cX6_many 79 = .ok (.aload_n 0, 1) := by decide +kernel
theorem dX6_many_80 : decode cX6_many 80 = .ok (.getfield 34, 3) := by decide +kernel
theorem dX6_many_83 : decode cX6_many 83 = .ok (.aload_n 0, 1) := by decide +kernel
theorem dX6_many_84 : decode cX6_many 84 = .ok (.getfield 12, 3) := by decide +kernel
theorem dX6_many_87 : decode cX6_many 87 = .ok (.invokevirtual 171, 3) := by decide +kernel
theorem dX6_many_90 : decode cX6_many 90 = .ok (.aload_n 0, 1) := by decide +kernel
theorem dX6_many_91 : decode cX6_many 91 = .ok (.getfield 34, 3) := by decide +kernel
theorem dX6_many_94 : decode cX6_many 94 = .ok (.invokevirtual 190, 3) := by decide +kernel
theorem dX6_many_97 : decode cX6_many 97 = .ok (.ireturn, 1) := by decide +kernel
theorem dX6_many_98 : decode cX6_many 98 = .ok (.aload_n 0, 1) := by decide +kernel
theorem dX6_many_99 : decode cX6_many 99 = .ok (.getfield 12, 3) := by decide +kernel
theorem dX6_many_102 : decode cX6_many 102 = .ok (.invokevirtual 249, 3) := by decide +kernel
theorem dX6_many_105 : decode cX6_many 105 = .ok (.ireturn, 1) := by decide +kernel
theorem dX6_many_106 : decode cX6_many 106 = .ok (.aload_n 0, 1) := by decide +kernel
theorem dX6_many_107 : decode cX6_many 107 = .ok (.getfield 12, 3) := by decide +kernel
theorem dX6_many_110 : decode cX6_many 110 = .ok (.invokevirtual 243, 3) := by decide +kernel
theorem dX6_many_113 : decode cX6_many 113 = .ok (.ireturn, 1) := by decide +kernel
theorem dX6_many_114 : decode cX6_many 114 = .ok (.aload_n 0, 1) := by decide +kernel
theorem dX6_many_115 : decode cX6_many 115 = .ok (.invokevirtual 252, 3) := by decide +kernel
theorem dX6_many_118 : decode cX6_many 118 = .ok (.ireturn, 1) := by decide +kernel
theorem dX6_many_119 : decode cX6_many 119 = .ok (.bipush (-2), 2) := by decide +kernel
theorem dX6_many_121 : decode cX6_many 121 = .ok (.ireturn, 1) := by decide +kernel
theorem dX6_isRow_0 : decode cX6_isRow 0 = .ok (.iload_n 0, 1) := by decide +kernel
theorem dX6_isRow_1 : decode cX6_isRow 1 = .ok (.ifCond .lt 13, 3) := by decide +kernel
theorem dX6_isRow_4 : decode cX6_isRow 4 = .ok (.iload_n 0, 1) := by decide +kernel
theorem dX6_isRow_5 : decode cX6_isRow 5 = .ok (.bipush 32, 2) := by decide +kernel
theorem dX6_isRow_7 : decode cX6_isRow 7 = .ok (.if_icmp .ge 7, 3) := by decide +kernel
theorem dX6_isRow_10 : decode cX6_isRow 10 = .ok (.iconst 1, 1) := by decide +kernel
theorem dX6_isRow_11 : decode cX6_isRow 11 = .ok (.goto 4, 3) := by decide +kernel
theorem dX6_isRow_14 : decode cX6_isRow 14 = .ok (.iconst 0, 1) := by decide +kernel
theorem dX6_isRow_15 : decode cX6_isRow 15 = .ok (.ireturn, 1) := by decide +kernel
theorem dX6_isCard_0 : decode cX6_isCard 0 = .ok (.iload_n 0, 1) := by decide +kernel
theorem dX6_isCard_1 : decode cX6_isCard 1 = .ok (.ifCond .lt 12, 3) := by decide +kernel
theorem dX6_isCard_4 : decode cX6_isCard 4 = .ok (.iload_n 0, 1) := by decide +kernel
theorem dX6_isCard_5 : decode cX6_isCard 5 = .ok (.iconst 4, 1) := by decide +kernel
theorem dX6_isCard_6 : decode cX6_isCard 6 = .ok (.if_icmp .ge 7, 3) := by decide +kernel
theorem dX6_isCard_9 : decode cX6_isCard 9 = .ok (.iconst 1, 1) := by decide +kernel
theorem dX6_isCard_10 : decode cX6_isCard 10 = .ok (.goto 4, 3) := by decide +kernel
theorem dX6_isCard_13 : decode cX6_isCard 13 = .ok (.iconst 0, 1) := by decide +kernel
theorem dX6_isCard_14 : decode cX6_isCard 14 = .ok (.ireturn, 1) := by decide +kernel
theorem dX6_isAxis_0 : decode cX6_isAxis 0 = .ok (.iload_n 0, 1) := by decide +kernel
theorem dX6_isAxis_1 : decode cX6_isAxis 1 = .ok (.ifCond .eq 8, 3) := by decide +kernel
theorem dX6_isAxis_4 : decode cX6_isAxis 4 = .ok (.iload_n 0, 1) := by decide +kernel
theorem dX6_isAxis_5 : decode cX6_isAxis 5 = .ok (.iconst 1, 1) := by decide +kernel
theorem dX6_isAxis_6 : decode cX6_isAxis 6 = .ok (.if_icmp .ne 7, 3) := by decide +kernel
theorem dX6_isAxis_9 : decode cX6_isAxis 9 = .ok (.iconst 1, 1) := by decide +kernel
theorem dX6_isAxis_10 : decode cX6_isAxis 10 = .ok (.goto 4, 3) := by decide +kernel
theorem dX6_isAxis_13 : decode cX6_isAxis 13 = .ok (.iconst 0, 1) := by decide +kernel
theorem dX6_isAxis_14 : decode cX6_isAxis 14 = .ok (.ireturn, 1) := by decide +kernel
theorem dX6_isShear_0 : decode cX6_isShear 0 = .ok (.iload_n 0, 1) := by decide +kernel
theorem dX6_isShear_1 : decode cX6_isShear 1 = .ok (.bipush (-16), 2) := by decide +kernel
theorem dX6_isShear_3 : decode cX6_isShear 3 = .ok (.if_icmp .lt 13, 3) := by decide +kernel
theorem dX6_isShear_6 : decode cX6_isShear 6 = .ok (.iload_n 0, 1) := by decide +kernel
theorem dX6_isShear_7 : decode cX6_isShear 7 = .ok (.bipush 16, 2) := by decide +kernel
theorem dX6_isShear_9 : decode cX6_isShear 9 = .ok (.if_icmp .gt 7, 3) := by decide +kernel
theorem dX6_isShear_12 : decode cX6_isShear 12 = .ok (.iconst 1, 1) := by decide +kernel
theorem dX6_isShear_13 : decode cX6_isShear 13 = .ok (.goto 4, 3) := by decide +kernel
theorem dX6_isShear_16 : decode cX6_isShear 16 = .ok (.iconst 0, 1) := by decide +kernel
theorem dX6_isShear_17 : decode cX6_isShear 17 = .ok (.ireturn, 1) := by decide +kernel
theorem dX6_failed_0 : decode cX6_failed 0 = .ok (.aload_n 0, 1) := by decide +kernel
theorem dX6_failed_1 : decode cX6_failed 1 = .ok (.iload_n 1, 1) := by decide +kernel
theorem dX6_failed_2 : decode cX6_failed 2 = .ok (.putfield 49, 3) := by decide +kernel
theorem dX6_failed_5 : decode cX6_failed 5 = .ok (.bipush (-10), 2) := by decide +kernel
theorem dX6_failed_7 : decode cX6_failed 7 = .ok (.iload_n 1, 1) := by decide +kernel
theorem dX6_failed_8 : decode cX6_failed 8 = .ok (.isub, 1) := by decide +kernel
theorem dX6_failed_9 : decode cX6_failed 9 = .ok (.ireturn, 1) := by decide +kernel
theorem dX6_filledCards_0 : decode cX6_filledCards 0 = .ok (.iconst 0, 1) := by decide +kernel
theorem dX6_filledCards_1 : decode cX6_filledCards 1 = .ok (.istore_n 1, 1) := by decide +kernel
theorem dX6_filledCards_2 : decode cX6_filledCards 2 = .ok (.iconst 0, 1) := by decide +kernel
theorem dX6_filledCards_3 : decode cX6_filledCards 3 = .ok (.istore_n 2, 1) := by decide +kernel
theorem dX6_filledCards_4 : decode cX6_filledCards 4 = .ok (.iload_n 2, 1) := by decide +kernel
theorem dX6_filledCards_5 : decode cX6_filledCards 5 = .ok (.iconst 4, 1) := by decide +kernel
theorem dX6_filledCards_6 : decode cX6_filledCards 6 = .ok (.if_icmp .ge 29, 3) := by decide +kernel
theorem dX6_filledCards_9 : decode cX6_filledCards 9 = .ok (.iload_n 1, 1) := by decide +kernel
theorem dX6_filledCards_10 : decode cX6_filledCards 10 = .ok (.aload_n 0, 1) := by decide +kernel
theorem dX6_filledCards_11 : decode cX6_filledCards 11 = .ok (.getfield 20, 3) := by decide +kernel
theorem dX6_filledCards_14 : decode cX6_filledCards 14 = .ok (.iload_n 2, 1) := by decide +kernel
theorem dX6_filledCards_15 : decode cX6_filledCards 15 = .ok (.aaload, 1) := by decide +kernel
theorem dX6_filledCards_16 : decode cX6_filledCards 16 = .ok (.invokevirtual 91, 3) := by decide +kernel
theorem dX6_filledCards_19 : decode cX6_filledCards 19 = .ok (.ifCond .eq 7, 3) := by decide +kernel
theorem dX6_filledCards_22 : decode cX6_filledCards 22 = .ok (.iconst 0, 1) := by decide +kernel
theorem dX6_filledCards_23 : decode cX6_filledCards 23 = .ok (.goto 4, 3) := by decide +kernel
theorem dX6_filledCards_26 : decode cX6_filledCards 26 = .ok (.iconst 1, 1) := by decide +kernel
theorem dX6_filledCards_27 : decode cX6_filledCards 27 = .ok (.iadd, 1) := by decide +kernel
theorem dX6_filledCards_28 : decode cX6_filledCards 28 = .ok (.istore_n 1, 1) := by decide +kernel
theorem dX6_filledCards_29 : decode cX6_filledCards 29 = .ok (.iinc 2 1, 3) := by decide +kernel
theorem dX6_filledCards_32 : decode cX6_filledCards 32 = .ok (.goto (-28), 3) := by decide +kernel
theorem dX6_filledCards_35 : decode cX6_filledCards 35 = .ok (.iload_n 1, 1) := by decide +kernel
theorem dX6_filledCards_36 : decode cX6_filledCards 36 = .ok (.ireturn, 1) := by decide +kernel
theorem dX6_shiftOf_0 : decode cX6_shiftOf 0 = .ok (.iload_n 0, 1) := by decide +kernel
theorem dX6_shiftOf_1 : decode cX6_shiftOf 1 = .ok (.ifCond .ne 7, 3) := by decide +kernel
theorem dX6_shiftOf_4 : decode cX6_shiftOf 4 = .ok (.iload_n 2, 1) := by decide +kernel
theorem dX6_shiftOf_5 : decode cX6_shiftOf 5 = .ok (.goto 7, 3) := by decide +kernel
theorem dX6_shiftOf_8 : decode cX6_shiftOf 8 = .ok (.bipush 31, 2) := by decide +kernel
theorem dX6_shiftOf_10 : decode cX6_shiftOf 10 = .ok (.iload_n 2, 1) := by decide +kernel
theorem dX6_shiftOf_11 : decode cX6_shiftOf 11 = .ok (.isub, 1) := by decide +kernel
theorem dX6_shiftOf_12 : decode cX6_shiftOf 12 = .ok (.istore_n 3, 1) := by decide +kernel
theorem dX6_shiftOf_13 : decode cX6_shiftOf 13 = .ok (.iload_n 1, 1) := by decide +kernel
theorem dX6_shiftOf_14 : decode cX6_shiftOf 14 = .ok (.iload_n 3, 1) := by decide +kernel
theorem dX6_shiftOf_15 : decode cX6_shiftOf 15 = .ok (.imul, 1) := by decide +kernel
theorem dX6_shiftOf_16 : decode cX6_shiftOf 16 = .ok (.bipush 8, 2) := by decide +kernel
theorem dX6_shiftOf_18 : decode cX6_shiftOf 18 = .ok (.iadd, 1) := by decide +kernel
theorem dX6_shiftOf_19 : decode cX6_shiftOf 19 = .ok (.bipush 16, 2) := by decide +kernel
theorem dX6_shiftOf_21 : decode cX6_shiftOf 21 = .ok (.invokestatic 255, 3) := by decide +kernel
theorem dX6_shiftOf_24 : decode cX6_shiftOf 24 = .ok (.ireturn, 1) := by decide +kernel
theorem dX7_init_0 : decode cX7_init 0 = .ok (.aload_n 0, 1) := by decide +kernel
theorem dX7_init_1 : decode cX7_init 1 = .ok (.invokespecial 1, 3) := by decide +kernel
theorem dX7_init_4 : decode cX7_init 4 = .ok (.aload_n 0, 1) := by decide +kernel
theorem dX7_init_5 : decode cX7_init 5 = .ok (.bipush 24, 2) := by decide +kernel
theorem dX7_init_7 : decode cX7_init 7 = .ok (.putfield 7, 3) := by decide +kernel
theorem dX7_init_10 : decode cX7_init 10 = .ok (.aload_n 0, 1) := by decide +kernel
theorem dX7_init_11 : decode cX7_init 11 = .ok (.sipush 768, 3) := by decide +kernel
theorem dX7_init_14 : decode cX7_init 14 = .ok (.newarray .boolean, 2) := by decide +kernel
theorem dX7_init_16 : decode cX7_init 16 = .ok (.putfield 13, 3) := by decide +kernel
theorem dX7_init_19 : decode cX7_init 19 = .ok (.aload_n 0, 1) := by decide +kernel
theorem dX7_init_20 : decode cX7_init 20 = .ok (.iconst 4, 1) := by decide +kernel
theorem dX7_init_21 : decode cX7_init 21 = .ok (.newarray .int, 2) := by decide +kernel
theorem dX7_init_23 : decode cX7_init 23 = .ok (.dup, 1) := by decide +kernel
theorem dX7_init_24 : decode cX7_init 24 = .ok (.iconst 0, 1) := by decide +kernel
theorem dX7_init_25 : decode cX7_init 25 = .ok (.bipush (-9), 2) := by decide +kernel
theorem dX7_init_27 : decode cX7_init 27 = .ok (.iastore, 1) := by decide +kernel
theorem dX7_init_28 : decode cX7_init 28 = .ok (.dup, 1) := by decide +kernel
theorem dX7_init_29 : decode cX7_init 29 = .ok (.iconst 1, 1) := by decide +kernel
theorem dX7_init_30 : decode cX7_init 30 = .ok (.bipush (-9), 2) := by decide +kernel
theorem dX7_init_32 : decode cX7_init 32 = .ok (.iastore, 1) := by decide +kernel
theorem dX7_init_33 : decode cX7_init 33 = .ok (.dup, 1) := by decide +kernel
theorem dX7_init_34 : decode cX7_init 34 = .ok (.iconst 2, 1) := by decide +kernel
theorem dX7_init_35 : decode cX7_init 35 = .ok (.bipush (-9), 2) := by decide +kernel
theorem dX7_init_37 : decode cX7_init 37 = .ok (.iastore, 1) := by decide +kernel
theorem dX7_init_38 : decode cX7_init 38 = .ok (.dup, 1) := by decide +kernel
theorem dX7_init_39 : decode cX7_init 39 = .ok (.iconst 3, 1) := by decide +kernel
theorem dX7_init_40 : decode cX7_init 40 = .ok (.bipush (-9), 2) := by decide +kernel
theorem dX7_init_42 : decode cX7_init 42 = .ok (.iastore, 1) := by decide +kernel
theorem dX7_init_43 : decode cX7_init 43 = .ok (.putfield 17, 3) := by decide +kernel
theorem dX7_init_46 : decode cX7_init 46 = .ok (.aload_n 0, 1) := by decide +kernel
theorem dX7_init_47 : decode cX7_init 47 = .ok (.iconst 4, 1) := by decide +kernel
theorem dX7_init_48 : decode cX7_init 48 = .ok (.newarray .int, 2) := by decide +kernel
theorem dX7_init_50 : decode cX7_init 50 = .ok (.putfield 21, 3) := by decide +kernel
theorem dX7_init_53 : decode cX7_init 53 = .ok (.aload_n 0, 1) := by decide +kernel
theorem dX7_init_54 : decode cX7_init 54 = .ok (.sipush 128, 3) := by decide +kernel
theorem dX7_init_57 : decode cX7_init 57 = .ok (.newarray .int, 2) := by decide +kernel
theorem dX7_init_59 : decode cX7_init 59 = .ok (.putfield 24, 3) := by decide +kernel
theorem dX7_init_62 : decode cX7_init 62 = .ok (.aload_n 0, 1) := by decide +kernel
theorem dX7_init_63 : decode cX7_init 63 = .ok (.sipush 201, 3) := by decide +kernel
theorem dX7_init_66 : decode cX7_init 66 = .ok (.newarray .int, 2) := by decide +kernel
theorem dX7_init_68 : decode cX7_init 68 = .ok (.putfield 27, 3) := by decide +kernel
theorem dX7_init_71 : decode cX7_init 71 = .ok (.aload_n 0, 1) := by decide +kernel
theorem dX7_init_72 : decode cX7_init 72 = .ok (.bipush 33, 2) := by decide +kernel
theorem dX7_init_74 : decode cX7_init 74 = .ok (.newarray .int, 2) := by decide +kernel
theorem dX7_init_76 : decode cX7_init 76 = .ok (.putfield 30, 3) := by decide +kernel
theorem dX7_init_79 : decode cX7_init 79 = .ok (.aload_n 0, 1) := by decide +kernel
theorem dX7_init_80 : decode cX7_init 80 = .ok (.bipush 33, 2) := by decide +kernel
theorem dX7_init_82 : decode cX7_init 82 = .ok (.newarray .int, 2) := by decide +kernel
theorem dX7_init_84 : decode cX7_init 84 = .ok (.putfield 33, 3) := by decide +kernel
theorem dX7_init_87 : decode cX7_init 87 = .ok (.aload_n 0, 1) := by decide +kernel
theorem dX7_init_88 : decode cX7_init 88 = .ok (.sipush 6144, 3) := by decide +kernel
theorem dX7_init_91 : decode cX7_init 91 = .ok (.newarray .boolean, 2) := by decide +kernel
theorem dX7_init_93 : decode cX7_init 93 = .ok (.putfield 36, 3) := by decide +kernel
theorem dX7_init_96 : decode cX7_init 96 = .ok (.aload_n 0, 1) := by decide +kernel
theorem dX7_init_97 : decode cX7_init 97 = .ok (.sipush 768, 3) := by decide +kernel
theorem dX7_init_100 : decode cX7_init 100 = .ok (.newarray .boolean, 2) := by decide +kernel
theorem dX7_init_102 : decode cX7_init 102 = .ok (.putfield 39, 3) := by decide +kernel
theorem dX7_init_105 : decode cX7_init 105 = .ok (.aload_n 0, 1) := by decide +kernel
theorem dX7_init_106 : decode cX7_init 106 = .ok (.sipush 384, 3) := by decide +kernel
theorem dX7_init_109 : decode cX7_init 109 = .ok (.newarray .int, 2) := by decide +kernel
theorem dX7_init_111 : decode cX7_init 111 = .ok (.putfield 42, 3) := by decide +kernel
theorem dX7_init_114 : decode cX7_init 114 = .ok (.aload_n 0, 1) := by decide +kernel
theorem dX7_init_115 : decode cX7_init 115 = .ok (.sipush 384, 3) := by decide +kernel
theorem dX7_init_118 : decode cX7_init 118 = .ok (.newarray .int, 2) := by decide +kernel
theorem dX7_init_120 : decode cX7_init 120 = .ok (.putfield 45, 3) := by decide +kernel
theorem dX7_init_123 : decode cX7_init 123 = .ok (.aload_n 0, 1) := by decide +kernel
theorem dX7_init_124 : decode cX7_init 124 = .ok (.sipush 384, 3) := by decide +kernel
theorem dX7_init_127 : decode cX7_init 127 = .ok (.newarray .int, 2) := by decide +kernel
theorem dX7_init_129 : decode cX7_init 129 = .ok (.putfield 48, 3) := by decide +kernel
theorem dX7_init_132 : decode cX7_init 132 = .ok (.aload_n 0, 1) := by decide +kernel
theorem dX7_init_133 : decode cX7_init 133 = .ok (.sipush 384, 3) := by decide +kernel
theorem dX7_init_136 : decode cX7_init 136 = .ok (.newarray .int, 2) := by decide +kernel
theorem dX7_init_138 : decode cX7_init 138 = .ok (.putfield 51, 3) := by decide +kernel
theorem dX7_init_141 : decode cX7_init 141 = .ok (.aload_n 0, 1) := by decide +kernel
theorem dX7_init_142 : decode cX7_init 142 = .ok (.sipush 768, 3) := by decide +kernel
theorem dX7_init_145 : decode cX7_init 145 = .ok (.newarray .int, 2) := by decide +kernel
theorem dX7_init_147 : decode cX7_init 147 = .ok (.putfield 54, 3) := by decide +kernel
theorem dX7_init_150 : decode cX7_init 150 = .ok (.aload_n 0, 1) := by decide +kernel
theorem dX7_init_151 : decode cX7_init 151 = .ok (.bipush 24, 2) := by decide +kernel
theorem dX7_init_153 : decode cX7_init 153 = .ok (.newarray .int, 2) := by decide +kernel
theorem dX7_init_155 : decode cX7_init 155 = .ok (.putfield 57, 3) := by decide +kernel
theorem dX7_init_158 : decode cX7_init 158 = .ok (.aload_n 0, 1) := by decide +kernel
theorem dX7_init_159 : decode cX7_init 159 = .ok (.bipush 24, 2) := by decide +kernel
theorem dX7_init_161 : decode cX7_init 161 = .ok (.newarray .int, 2) := by decide +kernel
theorem dX7_init_163 : decode cX7_init 163 = .ok (.putfield 60, 3) := by decide +kernel
theorem dX7_init_166 : decode cX7_init 166 = .ok (.return_, 1) := by decide +kernel
theorem dX7_refused_0 : decode cX7_refused 0 = .ok (.aload_n 0, 1) := by decide +kernel
theorem dX7_refused_1 : decode cX7_refused 1 = .ok (.iconst 0, 1) := by decide +kernel
theorem dX7_refused_2 : decode cX7_refused 2 = .ok (.putfield 63, 3) := by decide +kernel
theorem dX7_refused_5 : decode cX7_refused 5 = .ok (.iload_n 1, 1) := by decide +kernel
theorem dX7_refused_6 : decode cX7_refused 6 = .ok (.ireturn, 1) := by decide +kernel
theorem dX7_fails_0 : decode cX7_fails 0 = .ok (.aload_n 0, 1) := by decide +kernel
theorem dX7_fails_1 : decode cX7_fails 1 = .ok (.iload_n 1, 1) := by decide +kernel
theorem dX7_fails_2 : decode cX7_fails 2 = .ok (.putfield 63, 3) := by decide +kernel
theorem dX7_fails_5 : decode cX7_fails 5 = .ok (.bipush (-10), 2) := by decide +kernel
theorem dX7_fails_7 : decode cX7_fails 7 = .ok (.iload_n 1, 1) := by decide +kernel
theorem dX7_fails_8 : decode cX7_fails 8 = .ok (.isub, 1) := by decide +kernel
theorem dX7_fails_9 : decode cX7_fails 9 = .ok (.ireturn, 1) := by decide +kernel
theorem dX7_within_0 : decode cX7_within 0 = .ok (.iload_n 0, 1) := by decide +kernel
theorem dX7_within_1 : decode cX7_within 1 = .ok (.iload_n 1, 1) := by decide +kernel
theorem dX7_within_2 : decode cX7_within 2 = .ok (.if_icmp .lt 12, 3) := by decide +kernel
theorem dX7_within_5 : decode cX7_within 5 = .ok (.iload_n 0, 1) := by decide +kernel
theorem dX7_within_6 : decode cX7_within 6 = .ok (.iload_n 2, 1) := by decide +kernel
theorem dX7_within_7 : decode cX7_within 7 = .ok (.if_icmp .gt 7, 3) := by decide +kernel
theorem dX7_within_10 : decode cX7_within 10 = .ok (.iconst 1, 1) := by decide +kernel
theorem dX7_within_11 : decode cX7_within 11 = .ok (.goto 4, 3) := by decide +kernel
theorem dX7_within_14 : decode cX7_within 14 = .ok (.iconst 0, 1) := by decide +kernel
theorem dX7_within_15 : decode cX7_within 15 = .ok (.ireturn, 1) := by decide +kernel
theorem dX7_isColumn_0 : decode cX7_isColumn 0 = .ok (.iload_n 1, 1) := by decide +kernel
theorem dX7_isColumn_1 : decode cX7_isColumn 1 = .ok (.iconst 0, 1) := by decide +kernel
theorem dX7_isColumn_2 : decode cX7_isColumn 2 = .ok (.aload_n 0, 1) := by decide +kernel
theorem dX7_isColumn_3 : decode cX7_isColumn 3 = .ok (.getfield 7, 3) := by decide +kernel
theorem dX7_isColumn_6 : decode cX7_isColumn 6 = .ok (.iconst 1, 1) := by decide +kernel
theorem dX7_isColumn_7 : decode cX7_isColumn 7 = .ok (.isub, 1) := by decide +kernel
theorem dX7_isColumn_8 : decode cX7_isColumn 8 = .ok (.invokestatic 66, 3) := by decide +kernel
theorem dX7_isColumn_11 : decode cX7_isColumn 11 = .ok (.ireturn, 1) := by decide +kernel
theorem dX7_isRow_0 : decode cX7_isRow 0 = .ok (.iload_n 0, 1) := by decide +kernel
theorem dX7_isRow_1 : decode cX7_isRow 1 = .ok (.iconst 0, 1) := by decide +kernel
theorem dX7_isRow_2 : decode cX7_isRow 2 = .ok (.bipush 31, 2) := by decide +kernel
theorem dX7_isRow_4 : decode cX7_isRow 4 = .ok (.invokestatic 66, 3) := by decide +kernel
theorem dX7_isRow_7 : decode cX7_isRow 7 = .ok (.ireturn, 1) := by decide +kernel
theorem dX7_isDot_0 : decode cX7_isDot 0 = .ok (.aload_n 0, 1) := by decide +kernel
theorem dX7_isDot_1 : decode cX7_isDot 1 = .ok (.iload_n 1, 1) := by decide +kernel
theorem dX7_isDot_2 : decode cX7_isDot 2 = .ok (.invokevirtual 70, 3) := by decide +kernel
theorem dX7_isDot_5 : decode cX7_isDot 5 = .ok (.ifCond .eq 28, 3) := by decide +kernel
theorem dX7_isDot_8 : decode cX7_isDot 8 = .ok (.iload_n 2, 1) := by decide +kernel
theorem dX7_isDot_9 : decode cX7_isDot 9 = .ok (.invokestatic 74, 3) := by decide +kernel
theorem dX7_isDot_12 : decode cX7_isDot 12 = .ok (.ifCond .eq 21, 3) := by decide +kernel
theorem dX7_isDot_15 : decode cX7_isDot 15 = .ok (.aload_n 0, 1) := by decide +kernel
theorem dX7_isDot_16 : decode cX7_isDot 16 = .ok (.getfield 13, 3) := by decide +kernel
theorem dX7_isDot_19 : decode cX7_isDot 19 = .ok (.bipush 32, 2) := by decide +kernel
theorem dX7_isDot_21 : decode cX7_isDot 21 = .ok (.iload_n 1, 1) := by decide +kernel
theorem dX7_isDot_22 : decode cX7_isDot 22 = .ok (.imul, 1) := by decide +kernel
theorem dX7_isDot_23 : decode cX7_isDot 23 = .ok (.iload_n 2, 1) := by decide +kernel
theorem dX7_isDot_24 : decode cX7_isDot 24 = .ok (.iadd, 1) := by decide +kernel
theorem dX7_isDot_25 : decode cX7_isDot 25 = .ok (.baload, 1) := by decide +kernel
theorem dX7_isDot_26 : decode cX7_isDot 26 = .ok (.ifCond .eq 7, 3) := by decide +kernel
theorem dX7_isDot_29 : decode cX7_isDot 29 = .ok (.iconst 1, 1) := by decide +kernel
theorem dX7_isDot_30 : decode cX7_isDot 30 = .ok (.goto 4, 3) := by decide +kernel
theorem dX7_isDot_33 : decode cX7_isDot 33 = .ok (.iconst 0, 1) := by decide +kernel
theorem dX7_isDot_34 : decode cX7_isDot 34 = .ok (.ireturn, 1) := by decide +kernel
theorem dX7_inkOf_0 : decode cX7_inkOf 0 = .ok (.iconst 0, 1) := by decide +kernel
theorem dX7_inkOf_1 : decode cX7_inkOf 1 = .ok (.istore_n 1, 1) := by decide +kernel
theorem dX7_inkOf_2 : decode cX7_inkOf 2 = .ok (.iconst 0, 1) := by decide +kernel
theorem dX7_inkOf_3 : decode cX7_inkOf 3 = .ok (.istore_n 2, 1) := by decide +kernel
theorem dX7_inkOf_4 : decode cX7_inkOf 4 = .ok (.iload_n 2, 1) := by decide +kernel
theorem dX7_inkOf_5 : decode cX7_inkOf 5 = .ok (.sipush 768, 3) := by decide +kernel
theorem dX7_inkOf_8 : decode cX7_inkOf 8 = .ok (.if_icmp .ge 26, 3) := by decide +kernel
theorem dX7_inkOf_11 : decode cX7_inkOf 11 = .ok (.iload_n 1, 1) := by decide +kernel
theorem dX7_inkOf_12 : decode cX7_inkOf 12 = .ok (.aload_n 0, 1) := by decide +kernel
theorem dX7_inkOf_13 : decode cX7_inkOf 13 = .ok (.getfield 13, 3) := by decide +kernel
theorem dX7_inkOf_16 : decode cX7_inkOf 16 = .ok (.iload_n 2, 1) := by decide +kernel
theorem dX7_inkOf_17 : decode cX7_inkOf 17 = .ok (.baload, 1) := by decide +kernel
theorem dX7_inkOf_18 : decode cX7_inkOf 18 = .ok (.ifCond .eq 7, 3) := by decide +kernel
theorem dX7_inkOf_21 : decode cX7_inkOf 21 = .ok (.iconst 1, 1) := by decide +kernel
theorem dX7_inkOf_22 : decode cX7_inkOf 22 = .ok (.goto 4, 3) := by decide +kernel
theorem dX7_inkOf_25 : decode cX7_inkOf 25 = .ok (.iconst 0, 1) := by decide +kernel
theorem dX7_inkOf_26 : decode cX7_inkOf 26 = .ok (.iadd, 1) := by decide +kernel
theorem dX7_inkOf_27 : decode cX7_inkOf 27 = .ok (.istore_n 1, 1) := by decide +kernel
theorem dX7_inkOf_28 : decode cX7_inkOf 28 = .ok (.iinc 2 1, 3) := by decide +kernel
theorem dX7_inkOf_31 : decode cX7_inkOf 31 = .ok (.goto (-27), 3) := by decide +kernel
theorem dX7_inkOf_34 : decode cX7_inkOf 34 = .ok (.iload_n 1, 1) := by decide +kernel
theorem dX7_inkOf_35 : decode cX7_inkOf 35 = .ok (.ireturn, 1) := by decide +kernel
theorem dX7_page_0 : decode cX7_page 0 = .ok (.iload_n 1, 1) := by decide +kernel
theorem dX7_page_1 : decode cX7_page 1 = .ok (.iconst 1, 1) := by decide +kernel
theorem dX7_page_2 : decode cX7_page 2 = .ok (.bipush 24, 2) := by decide +kernel
theorem dX7_page_4 : decode cX7_page 4 = .ok (.invokestatic 66, 3) := by decide +kernel
theorem dX7_page_7 : decode cX7_page 7 = .ok (.ifCond .ne 6, 3) := by decide +kernel
theorem dX7_page_10 : decode cX7_page 10 = .ok (.bipush (-2), 2) := by decide +kernel
theorem dX7_page_12 : decode cX7_page 12 = .ok (.ireturn, 1) := by decide +kernel
theorem dX7_page_13 : decode cX7_page 13 = .ok (.aload_n 0, 1) := by decide +kernel
theorem dX7_page_14 : decode cX7_page 14 = .ok (.invokevirtual 77, 3) := by decide +kernel
theorem dX7_page_17 : decode cX7_page 17 = .ok (.istore_n 2, 1) := by decide +kernel
theorem dX7_page_18 : decode cX7_page 18 = .ok (.iconst 0, 1) := by decide +kernel
theorem dX7_page_19 : decode cX7_page 19 = .ok (.istore_n 3, 1) := by decide +kernel
theorem dX7_page_20 : decode cX7_page 20 = .ok (.iload_n 3, 1) := by decide +kernel
theorem dX7_page_21 : decode cX7_page 21 = .ok (.sipush 768, 3) := by decide +kernel
theorem dX7_page_24 : decode cX7_page 24 = .ok (.if_icmp .ge 16, 3) := by decide +kernel
theorem dX7_page_27 : decode cX7_page 27 = .ok (.aload_n 0, 1) := by decide +kernel
theorem dX7_page_28 : decode cX7_page 28 = .ok (.getfield 13, 3) := by decide +kernel
theorem dX7_page_31 : decode cX7_page 31 = .ok (.iload_n 3, 1) := by decide +kernel
theorem dX7_page_32 : decode cX7_page 32 = .ok (.iconst 0, 1) := by decide +kernel
theorem dX7_page_33 : decode cX7_page 33 = .ok (.bastore, 1) := by decide +kernel
theorem dX7_page_34 : decode cX7_page 34 = .ok (.iinc 3 1, 3) := by decide +kernel
theorem dX7_page_37 : decode cX7_page 37 = .ok (.goto (-17), 3) := by decide +kernel
theorem dX7_page_40 : decode cX7_page 40 = .ok (.aload_n 0, 1) := by decide +kernel
theorem dX7_page_41 : decode cX7_page 41 = .ok (.iload_n 1, 1) := by decide +kernel
theorem dX7_page_42 : decode cX7_page 42 = .ok (.putfield 7, 3) := by decide +kernel
theorem dX7_page_45 : decode cX7_page 45 = .ok (.aload_n 0, 1) := by decide +kernel
theorem dX7_page_46 : decode cX7_page 46 = .ok (.iconst 0, 1) := by decide +kernel
theorem dX7_page_47 : decode cX7_page 47 = .ok (.putfield 81, 3) := by decide +kernel
theorem dX7_page_50 : decode cX7_page 50 = .ok (.iload_n 2, 1) := by decide +kernel
theorem dX7_page_51 : decode cX7_page 51 = .ok (.ireturn, 1) := by decide +kernel
theorem dX7_dot_0 : decode cX7_dot 0 = .ok (.aload_n 0, 1) := by decide +kernel
theorem dX7_dot_1 : decode cX7_dot 1 = .ok (.iload_n 1, 1) := by decide +kernel
theorem dX7_dot_2 : decode cX7_dot 2 = .ok (.invokevirtual 70, 3) := by decide +kernel
theorem dX7_dot_5 : decode cX7_dot 5 = .ok (.ifCond .eq 10, 3) := by decide +kernel
theorem dX7_dot_8 : decode cX7_dot 8 = .ok (.iload_n 2, 1) := by decide +kernel
theorem dX7_dot_9 : decode cX7_dot 9 = .ok (.invokestatic 74, 3) := by decide +kernel
theorem dX7_dot_12 : decode cX7_dot 12 = .ok (.ifCond .ne 5, 3) := by decide +kernel
theorem dX7_dot_15 : decode cX7_dot 15 = .ok (.iconst (-1), 1) := by decide +kernel
theorem dX7_dot_16 : decode cX7_dot 16 = .ok (.ireturn, 1) := by decide +kernel
theorem dX7_dot_17 : decode cX7_dot 17 = .ok (.iload_n 3, 1) := by decide +kernel
theorem dX7_dot_18 : decode cX7_dot 18 = .ok (.iconst 0, 1) := by decide +kernel
theorem dX7_dot_19 : decode cX7_dot 19 = .ok (.iconst 1, 1) := by decide +kernel
theorem dX7_dot_20 : decode cX7_dot 20 = .ok (.invokestatic 66, 3) := by decide +kernel
theorem dX7_dot_23 : decode cX7_dot 23 = .ok (.ifCond .ne 6, 3) := by decide +kernel
theorem dX7_dot_26 : decode cX7_dot 26 = .ok (.bipush (-2), 2) := by decide +kernel
theorem dX7_dot_28 : decode cX7_dot 28 = .ok (.ireturn, 1) := by decide +kernel
theorem dX7_dot_29 : decode cX7_dot 29 = .ok (.aload_n 0, 1) := by decide +kernel
theorem dX7_dot_30 : decode cX7_dot 30 = .ok (.getfield 13, 3) := by decide +kernel
theorem dX7_dot_33 : decode cX7_dot 33 = .ok (.bipush 32, 2) := by decide +kernel
theorem dX7_dot_35 : decode cX7_dot 35 = .ok (.iload_n 1, 1) := by decide +kernel
theorem dX7_dot_36 : decode cX7_dot 36 = .ok (.imul, 1) := by decide +kernel
theorem dX7_dot_37 : decode cX7_dot 37 = .ok (.iload_n 2, 1) := by decide +kernel
