theorem dX5_init_0 : decode cX5_init 0 = .ok (.aload_n 0, 1) := by decide +kernel
theorem dX5_init_1 : decode cX5_init 1 = .ok (.invokespecial 3, 3) := by decide +kernel
theorem dX5_init_4 : decode cX5_init 4 = .ok (.aload_n 0, 1) := by decide +kernel
theorem dX5_init_5 : decode cX5_init 5 = .ok (.new 9, 3) := by decide +kernel
theorem dX5_init_8 : decode cX5_init 8 = .ok (.dup, 1) := by decide +kernel
theorem dX5_init_9 : decode cX5_init 9 = .ok (.invokespecial 11, 3) := by decide +kernel
theorem dX5_init_12 : decode cX5_init 12 = .ok (.putfield 12, 3) := by decide +kernel
theorem dX5_init_15 : decode cX5_init 15 = .ok (.aload_n 0, 1) := by decide +kernel
theorem dX5_init_16 : decode cX5_init 16 = .ok (.new 16, 3) := by decide +kernel
theorem dX5_init_19 : decode cX5_init 19 = .ok (.dup, 1) := by decide +kernel
theorem dX5_init_20 : decode cX5_init 20 = .ok (.invokespecial 18, 3) := by decide +kernel
theorem dX5_init_23 : decode cX5_init 23 = .ok (.putfield 19, 3) := by decide +kernel
theorem dX5_init_26 : decode cX5_init 26 = .ok (.aload_n 0, 1) := by decide +kernel
theorem dX5_init_27 : decode cX5_init 27 = .ok (.new 23, 3) := by decide +kernel
theorem dX5_init_30 : decode cX5_init 30 = .ok (.dup, 1) := by decide +kernel
theorem dX5_init_31 : decode cX5_init 31 = .ok (.invokespecial 25, 3) := by decide +kernel
theorem dX5_init_34 : decode cX5_init 34 = .ok (.putfield 26, 3) := by decide +kernel
theorem dX5_init_37 : decode cX5_init 37 = .ok (.aload_n 0, 1) := by decide +kernel
theorem dX5_init_38 : decode cX5_init 38 = .ok (.new 30, 3) := by decide +kernel
theorem dX5_init_41 : decode cX5_init 41 = .ok (.dup, 1) := by decide +kernel
theorem dX5_init_42 : decode cX5_init 42 = .ok (.invokespecial 32, 3) := by decide +kernel
theorem dX5_init_45 : decode cX5_init 45 = .ok (.putfield 33, 3) := by decide +kernel
theorem dX5_init_48 : decode cX5_init 48 = .ok (.aload_n 0, 1) := by decide +kernel
theorem dX5_init_49 : decode cX5_init 49 = .ok (.new 37, 3) := by decide +kernel
theorem dX5_init_52 : decode cX5_init 52 = .ok (.dup, 1) := by decide +kernel
theorem dX5_init_53 : decode cX5_init 53 = .ok (.invokespecial 39, 3) := by decide +kernel
theorem dX5_init_56 : decode cX5_init 56 = .ok (.putfield 40, 3) := by decide +kernel
theorem dX5_init_59 : decode cX5_init 59 = .ok (.aload_n 0, 1) := by decide +kernel
theorem dX5_init_60 : decode cX5_init 60 = .ok (.iconst 0, 1) := by decide +kernel
theorem dX5_init_61 : decode cX5_init 61 = .ok (.iconst 0, 1) := by decide +kernel
theorem dX5_init_62 : decode cX5_init 62 = .ok (.invokevirtual 44, 3) := by decide +kernel
theorem dX5_init_65 : decode cX5_init 65 = .ok (.return_, 1) := by decide +kernel
theorem dX5_attic_0 : decode cX5_attic 0 = .ok (.iload_n 1, 1) := by decide +kernel
theorem dX5_attic_1 : decode cX5_attic 1 = .ok (.ifCond .lt 17, 3) := by decide +kernel
theorem dX5_attic_4 : decode cX5_attic 4 = .ok (.iload_n 1, 1) := by decide +kernel
theorem dX5_attic_5 : decode cX5_attic 5 = .ok (.iconst 4, 1) := by decide +kernel
theorem dX5_attic_6 : decode cX5_attic 6 = .ok (.if_icmp .ge 12, 3) := by decide +kernel
theorem dX5_attic_9 : decode cX5_attic 9 = .ok (.iload_n 2, 1) := by decide +kernel
theorem dX5_attic_10 : decode cX5_attic 10 = .ok (.ifCond .lt 8, 3) := by decide +kernel
theorem dX5_attic_13 : decode cX5_attic 13 = .ok (.iload_n 2, 1) := by decide +kernel
theorem dX5_attic_14 : decode cX5_attic 14 = .ok (.iconst 3, 1) := by decide +kernel
theorem dX5_attic_15 : decode cX5_attic 15 = .ok (.if_icmp .lt 6, 3) := by decide +kernel
theorem dX5_attic_18 : decode cX5_attic 18 = .ok (.bipush (-2), 2) := by decide +kernel
theorem dX5_attic_20 : decode cX5_attic 20 = .ok (.ireturn, 1) := by decide +kernel
theorem dX5_attic_21 : decode cX5_attic 21 = .ok (.aload_n 0, 1) := by decide +kernel
theorem dX5_attic_22 : decode cX5_attic 22 = .ok (.getfield 12, 3) := by decide +kernel
theorem dX5_attic_25 : decode cX5_attic 25 = .ok (.getfield 48, 3) := by decide +kernel
theorem dX5_attic_28 : decode cX5_attic 28 = .ok (.istore_n 3, 1) := by decide +kernel
theorem dX5_attic_29 : decode cX5_attic 29 = .ok (.aload_n 0, 1) := by decide +kernel
theorem dX5_attic_30 : decode cX5_attic 30 = .ok (.iload_n 1, 1) := by decide +kernel
theorem dX5_attic_31 : decode cX5_attic 31 = .ok (.iload_n 2, 1) := by decide +kernel
theorem dX5_attic_32 : decode cX5_attic 32 = .ok (.invokevirtual 44, 3) := by decide +kernel
theorem dX5_attic_35 : decode cX5_attic 35 = .ok (.iload_n 3, 1) := by decide +kernel
theorem dX5_attic_36 : decode cX5_attic 36 = .ok (.ireturn, 1) := by decide +kernel
theorem dX5_empty_0 : decode cX5_empty 0 = .ok (.aload_n 0, 1) := by decide +kernel
theorem dX5_empty_1 : decode cX5_empty 1 = .ok (.iload_n 1, 1) := by decide +kernel
theorem dX5_empty_2 : decode cX5_empty 2 = .ok (.putfield 52, 3) := by decide +kernel
theorem dX5_empty_5 : decode cX5_empty 5 = .ok (.aload_n 0, 1) := by decide +kernel
theorem dX5_empty_6 : decode cX5_empty 6 = .ok (.iload_n 2, 1) := by decide +kernel
theorem dX5_empty_7 : decode cX5_empty 7 = .ok (.putfield 55, 3) := by decide +kernel
theorem dX5_empty_10 : decode cX5_empty 10 = .ok (.aload_n 0, 1) := by decide +kernel
theorem dX5_empty_11 : decode cX5_empty 11 = .ok (.iconst 0, 1) := by decide +kernel
theorem dX5_empty_12 : decode cX5_empty 12 = .ok (.putfield 58, 3) := by decide +kernel
theorem dX5_empty_15 : decode cX5_empty 15 = .ok (.aload_n 0, 1) := by decide +kernel
theorem dX5_empty_16 : decode cX5_empty 16 = .ok (.iconst 0, 1) := by decide +kernel
theorem dX5_empty_17 : decode cX5_empty 17 = .ok (.putfield 61, 3) := by decide +kernel
theorem dX5_empty_20 : decode cX5_empty 20 = .ok (.aload_n 0, 1) := by decide +kernel
theorem dX5_empty_21 : decode cX5_empty 21 = .ok (.iconst 0, 1) := by decide +kernel
theorem dX5_empty_22 : decode cX5_empty 22 = .ok (.putfield 64, 3) := by decide +kernel
theorem dX5_empty_25 : decode cX5_empty 25 = .ok (.aload_n 0, 1) := by decide +kernel
theorem dX5_empty_26 : decode cX5_empty 26 = .ok (.iconst 0, 1) := by decide +kernel
theorem dX5_empty_27 : decode cX5_empty 27 = .ok (.putfield 67, 3) := by decide +kernel
theorem dX5_empty_30 : decode cX5_empty 30 = .ok (.aload_n 0, 1) := by decide +kernel
theorem dX5_empty_31 : decode cX5_empty 31 = .ok (.iconst 0, 1) := by decide +kernel
theorem dX5_empty_32 : decode cX5_empty 32 = .ok (.putfield 70, 3) := by decide +kernel
theorem dX5_empty_35 : decode cX5_empty 35 = .ok (.aload_n 0, 1) := by decide +kernel
theorem dX5_empty_36 : decode cX5_empty 36 = .ok (.iconst 0, 1) := by decide +kernel
theorem dX5_empty_37 : decode cX5_empty 37 = .ok (.putfield 73, 3) := by decide +kernel
theorem dX5_empty_40 : decode cX5_empty 40 = .ok (.aload_n 0, 1) := by decide +kernel
theorem dX5_empty_41 : decode cX5_empty 41 = .ok (.getfield 12, 3) := by decide +kernel
theorem dX5_empty_44 : decode cX5_empty 44 = .ok (.iconst 0, 1) := by decide +kernel
theorem dX5_empty_45 : decode cX5_empty 45 = .ok (.putfield 48, 3) := by decide +kernel
theorem dX5_empty_48 : decode cX5_empty 48 = .ok (.aload_n 0, 1) := by decide +kernel
theorem dX5_empty_49 : decode cX5_empty 49 = .ok (.getfield 33, 3) := by decide +kernel
theorem dX5_empty_52 : decode cX5_empty 52 = .ok (.iconst 0, 1) := by decide +kernel
theorem dX5_empty_53 : decode cX5_empty 53 = .ok (.putfield 76, 3) := by decide +kernel
theorem dX5_empty_56 : decode cX5_empty 56 = .ok (.aload_n 0, 1) := by decide +kernel
theorem dX5_empty_57 : decode cX5_empty 57 = .ok (.getfield 19, 3) := by decide +kernel
theorem dX5_empty_60 : decode cX5_empty 60 = .ok (.invokevirtual 77, 3) := by decide +kernel
theorem dX5_empty_63 : decode cX5_empty 63 = .ok (.aload_n 0, 1) := by decide +kernel
theorem dX5_empty_64 : decode cX5_empty 64 = .ok (.getfield 26, 3) := by decide +kernel
theorem dX5_empty_67 : decode cX5_empty 67 = .ok (.invokevirtual 79, 3) := by decide +kernel
theorem dX5_empty_70 : decode cX5_empty 70 = .ok (.return_, 1) := by decide +kernel
theorem dX5_make_0 : decode cX5_make 0 = .ok (.iload_n 1, 1) := by decide +kernel
theorem dX5_make_1 : decode cX5_make 1 = .ok (.iload_n 2, 1) := by decide +kernel
theorem dX5_make_2 : decode cX5_make 2 = .ok (.invokestatic 80, 3) := by decide +kernel
theorem dX5_make_5 : decode cX5_make 5 = .ok (.ifCond .eq 13, 3) := by decide +kernel
theorem dX5_make_8 : decode cX5_make 8 = .ok (.iload_n 3, 1) := by decide +kernel
theorem dX5_make_9 : decode cX5_make 9 = .ok (.ifCond .lt 9, 3) := by decide +kernel
theorem dX5_make_12 : decode cX5_make 12 = .ok (.iload_n 3, 1) := by decide +kernel
theorem dX5_make_13 : decode cX5_make 13 = .ok (.bipush 6, 2) := by decide +kernel
theorem dX5_make_15 : decode cX5_make 15 = .ok (.if_icmp .le 6, 3) := by decide +kernel
theorem dX5_make_18 : decode cX5_make 18 = .ok (.bipush (-2), 2) := by decide +kernel
theorem dX5_make_20 : decode cX5_make 20 = .ok (.ireturn, 1) := by decide +kernel
theorem dX5_make_21 : decode cX5_make 21 = .ok (.aload_n 0, 1) := by decide +kernel
theorem dX5_make_22 : decode cX5_make 22 = .ok (.getfield 12, 3) := by decide +kernel
theorem dX5_make_25 : decode cX5_make 25 = .ok (.getfield 48, 3) := by decide +kernel
theorem dX5_make_28 : decode cX5_make 28 = .ok (.bipush 120, 2) := by decide +kernel
theorem dX5_make_30 : decode cX5_make 30 = .ok (.if_icmp .lt 6, 3) := by decide +kernel
theorem dX5_make_33 : decode cX5_make 33 = .ok (.bipush (-4), 2) := by decide +kernel
theorem dX5_make_35 : decode cX5_make 35 = .ok (.ireturn, 1) := by decide +kernel
theorem dX5_make_36 : decode cX5_make 36 = .ok (.aload_n 0, 1) := by decide +kernel
theorem dX5_make_37 : decode cX5_make 37 = .ok (.invokevirtual 84, 3) := by decide +kernel
theorem dX5_make_40 : decode cX5_make 40 = .ok (.istore 5, 2) := by decide +kernel
theorem dX5_make_42 : decode cX5_make 42 = .ok (.aload_n 0, 1) := by decide +kernel
theorem dX5_make_43 : decode cX5_make 43 = .ok (.iload_n 3, 1) := by decide +kernel
theorem dX5_make_44 : decode cX5_make 44 = .ok (.iconst 1, 1) := by decide +kernel
theorem dX5_make_45 : decode cX5_make 45 = .ok (.iadd, 1) := by decide +kernel
theorem dX5_make_46 : decode cX5_make 46 = .ok (.iload 5, 2) := by decide +kernel
theorem dX5_make_48 : decode cX5_make 48 = .ok (.invokevirtual 88, 3) := by decide +kernel
theorem dX5_make_51 : decode cX5_make 51 = .ok (.istore 6, 2) := by decide +kernel
theorem dX5_make_53 : decode cX5_make 53 = .ok (.iload 6, 2) := by decide +kernel
theorem dX5_make_55 : decode cX5_make 55 = .ok (.iconst (-1), 1) := by decide +kernel
theorem dX5_make_56 : decode cX5_make 56 = .ok (.if_icmp .ne 6, 3) := by decide +kernel
theorem dX5_make_59 : decode cX5_make 59 = .ok (.bipush (-4), 2) := by decide +kernel
theorem dX5_make_61 : decode cX5_make 61 = .ok (.ireturn, 1) := by decide +kernel
theorem dX5_make_62 : decode cX5_make 62 = .ok (.aload_n 0, 1) := by decide +kernel
theorem dX5_make_63 : decode cX5_make 63 = .ok (.getfield 12, 3) := by decide +kernel
theorem dX5_make_66 : decode cX5_make 66 = .ok (.iload_n 3, 1) := by decide +kernel
theorem dX5_make_67 : decode cX5_make 67 = .ok (.iload 4, 2) := by decide +kernel
theorem dX5_make_69 : decode cX5_make 69 = .ok (.iload 5, 2) := by decide +kernel
theorem dX5_make_71 : decode cX5_make 71 = .ok (.iload 6, 2) := by decide +kernel
theorem dX5_make_73 : decode cX5_make 73 = .ok (.invokevirtual 92, 3) := by decide +kernel
theorem dX5_make_76 : decode cX5_make 76 = .ok (.istore 7, 2) := by decide +kernel
theorem dX5_make_78 : decode cX5_make 78 = .ok (.aload_n 0, 1) := by decide +kernel
theorem dX5_make_79 : decode cX5_make 79 = .ok (.getfield 52, 3) := by decide +kernel
theorem dX5_make_82 : decode cX5_make 82 = .ok (.iconst 3, 1) := by decide +kernel
theorem dX5_make_83 : decode cX5_make 83 = .ok (.if_icmp .ne 18, 3) := by decide +kernel
theorem dX5_make_86 : decode cX5_make 86 = .ok (.aload_n 0, 1) := by decide +kernel
theorem dX5_make_87 : decode cX5_make 87 = .ok (.getfield 19, 3) := by decide +kernel
theorem dX5_make_90 : decode cX5_make 90 = .ok (.iload_n 3, 1) := by decide +kernel
theorem dX5_make_91 : decode cX5_make 91 = .ok (.iconst 1, 1) := by decide +kernel
theorem dX5_make_92 : decode cX5_make 92 = .ok (.iadd, 1) := by decide +kernel
theorem dX5_make_93 : decode cX5_make 93 = .ok (.iload 7, 2) := by decide +kernel
theorem dX5_make_95 : decode cX5_make 95 = .ok (.invokevirtual 96, 3) := by decide +kernel
theorem dX5_make_98 : decode cX5_make 98 = .ok (.goto 17, 3) := by decide +kernel
theorem dX5_make_101 : decode cX5_make 101 = .ok (.aload_n 0, 1) := by decide +kernel
theorem dX5_make_102 : decode cX5_make 102 = .ok (.getfield 19, 3) := by decide +kernel
theorem dX5_make_105 : decode cX5_make 105 = .ok (.iload 6, 2) := by decide +kernel
theorem dX5_make_107 : decode cX5_make 107 = .ok (.iload_n 3, 1) := by decide +kernel
theorem dX5_make_108 : decode cX5_make 108 = .ok (.iconst 1, 1) := by decide +kernel
theorem dX5_make_109 : decode cX5_make 109 = .ok (.iadd, 1) := by decide +kernel
theorem dX5_make_110 : decode cX5_make 110 = .ok (.iload 7, 2) := by decide +kernel
theorem dX5_make_112 : decode cX5_make 112 = .ok (.invokevirtual 99, 3) := by decide +kernel
theorem dX5_make_115 : decode cX5_make 115 = .ok (.aload_n 0, 1) := by decide +kernel
theorem dX5_make_116 : decode cX5_make 116 = .ok (.getfield 26, 3) := by decide +kernel
theorem dX5_make_119 : decode cX5_make 119 = .ok (.iload_n 1, 1) := by decide +kernel
theorem dX5_make_120 : decode cX5_make 120 = .ok (.iload_n 2, 1) := by decide +kernel
theorem dX5_make_121 : decode cX5_make 121 = .ok (.invokestatic 103, 3) := by decide +kernel
theorem dX5_make_124 : decode cX5_make 124 = .ok (.iload 7, 2) := by decide +kernel
theorem dX5_make_126 : decode cX5_make 126 = .ok (.invokevirtual 106, 3) := by decide +kernel
theorem dX5_make_129 : decode cX5_make 129 = .ok (.ireturn, 1) := by decide +kernel
theorem dX5_colourOfNew_0 : decode cX5_colourOfNew 0 = .ok (.aload_n 0, 1) := by decide +kernel
theorem dX5_colourOfNew_1 : decode cX5_colourOfNew 1 = .ok (.getfield 58, 3) := by decide +kernel
theorem dX5_colourOfNew_4 : decode cX5_colourOfNew 4 = .ok (.ifCond .eq 15, 3) := by decide +kernel
theorem dX5_colourOfNew_7 : decode cX5_colourOfNew 7 = .ok (.aload_n 0, 1) := by decide +kernel
theorem dX5_colourOfNew_8 : decode cX5_colourOfNew 8 = .ok (.getfield 55, 3) := by decide +kernel
theorem dX5_colourOfNew_11 : decode cX5_colourOfNew 11 = .ok (.iconst 2, 1) := by decide +kernel
theorem dX5_colourOfNew_12 : decode cX5_colourOfNew 12 = .ok (.if_icmp .eq 7, 3) := by decide +kernel
theorem dX5_colourOfNew_15 : decode cX5_colourOfNew 15 = .ok (.iconst 2, 1) := by decide +kernel
theorem dX5_colourOfNew_16 : decode cX5_colourOfNew 16 = .ok (.goto 4, 3) := by decide +kernel
theorem dX5_colourOfNew_19 : decode cX5_colourOfNew 19 = .ok (.iconst 0, 1) := by decide +kernel
theorem dX5_colourOfNew_20 : decode cX5_colourOfNew 20 = .ok (.ireturn, 1) := by decide +kernel
theorem dX5_placeOfNew_0 : decode cX5_placeOfNew 0 = .ok (.aload_n 0, 1) := by decide +kernel
theorem dX5_placeOfNew_1 : decode cX5_placeOfNew 1 = .ok (.getfield 52, 3) := by decide +kernel
theorem dX5_placeOfNew_4 : decode cX5_placeOfNew 4 = .ok (.iconst 3, 1) := by decide +kernel
theorem dX5_placeOfNew_5 : decode cX5_placeOfNew 5 = .ok (.if_icmp .eq 12, 3) := by decide +kernel
theorem dX5_placeOfNew_8 : decode cX5_placeOfNew 8 = .ok (.aload_n 0, 1) := by decide +kernel
theorem dX5_placeOfNew_9 : decode cX5_placeOfNew 9 = .ok (.getfield 19, 3) := by decide +kernel
theorem dX5_placeOfNew_12 : decode cX5_placeOfNew 12 = .ok (.iload_n 1, 1) := by decide +kernel
theorem dX5_placeOfNew_13 : decode cX5_placeOfNew 13 = .ok (.invokevirtual 109, 3) := by decide +kernel
theorem dX5_placeOfNew_16 : decode cX5_placeOfNew 16 = .ok (.ireturn, 1) := by decide +kernel
theorem dX5_placeOfNew_17 : decode cX5_placeOfNew 17 = .ok (.iload_n 1, 1) := by decide +kernel
theorem dX5_placeOfNew_18 : decode cX5_placeOfNew 18 = .ok (.istore_n 3, 1) := by decide +kernel
theorem dX5_placeOfNew_19 : decode cX5_placeOfNew 19 = .ok (.aload_n 0, 1) := by decide +kernel
theorem dX5_placeOfNew_20 : decode cX5_placeOfNew 20 = .ok (.getfield 58, 3) := by decide +kernel
theorem dX5_placeOfNew_23 : decode cX5_placeOfNew 23 = .ok (.iconst 1, 1) := by decide +kernel
theorem dX5_placeOfNew_24 : decode cX5_placeOfNew 24 = .ok (.if_icmp .ne 23, 3) := by decide +kernel
theorem dX5_placeOfNew_27 : decode cX5_placeOfNew 27 = .ok (.iload_n 3, 1) := by decide +kernel
theorem dX5_placeOfNew_28 : decode cX5_placeOfNew 28 = .ok (.aload_n 0, 1) := by decide +kernel
theorem dX5_placeOfNew_29 : decode cX5_placeOfNew 29 = .ok (.getfield 12, 3) := by decide +kernel
theorem dX5_placeOfNew_32 : decode cX5_placeOfNew 32 = .ok (.invokevirtual 113, 3) := by decide +kernel
theorem dX5_placeOfNew_35 : decode cX5_placeOfNew 35 = .ok (.iload_n 2, 1) := by decide +kernel
theorem dX5_placeOfNew_36 : decode cX5_placeOfNew 36 = .ok (.ifCond .ne 7, 3) := by decide +kernel
theorem dX5_placeOfNew_39 : decode cX5_placeOfNew 39 = .ok (.iload_n 1, 1) := by decide +kernel
theorem dX5_placeOfNew_40 : decode cX5_placeOfNew 40 = .ok (.goto 4, 3) := by decide +kernel
theorem dX5_placeOfNew_43 : decode cX5_placeOfNew 43 = .ok (.iconst 0, 1) := by decide +kernel
theorem dX5_placeOfNew_44 : decode cX5_placeOfNew 44 = .ok (.iadd, 1) := by decide +kernel
theorem dX5_placeOfNew_45 : decode cX5_placeOfNew 45 = .ok (.iadd, 1) := by decide +kernel
theorem dX5_placeOfNew_46 : decode cX5_placeOfNew 46 = .ok (.istore_n 3, 1) := by decide +kernel
theorem dX5_placeOfNew_47 : decode cX5_placeOfNew 47 = .ok (.aload_n 0, 1) := by decide +kernel
theorem dX5_placeOfNew_48 : decode cX5_placeOfNew 48 = .ok (.getfield 19, 3) := by decide +kernel
theorem dX5_placeOfNew_51 : decode cX5_placeOfNew 51 = .ok (.invokevirtual 116, 3) := by decide +kernel
theorem dX5_placeOfNew_54 : decode cX5_placeOfNew 54 = .ok (.iload_n 3, 1) := by decide +kernel
theorem dX5_placeOfNew_55 : decode cX5_placeOfNew 55 = .ok (.if_icmp .ge 7, 3) := by decide +kernel
theorem dX5_placeOfNew_58 : decode cX5_placeOfNew 58 = .ok (.iconst (-1), 1) := by decide +kernel
theorem dX5_placeOfNew_59 : decode cX5_placeOfNew 59 = .ok (.goto 10, 3) := by decide +kernel
theorem dX5_placeOfNew_62 : decode cX5_placeOfNew 62 = .ok (.aload_n 0, 1) := by decide +kernel
theorem dX5_placeOfNew_63 : decode cX5_placeOfNew 63 = .ok (.getfield 19, 3) := by decide +kernel
theorem dX5_placeOfNew_66 : decode cX5_placeOfNew 66 = .ok (.getfield 119, 3) := by decide +kernel
theorem dX5_placeOfNew_69 : decode cX5_placeOfNew 69 = .ok (.ireturn, 1) := by decide +kernel
theorem dX5_move_0 : decode cX5_move 0 = .ok (.iload_n 1, 1) := by decide +kernel
theorem dX5_move_1 : decode cX5_move 1 = .ok (.iload_n 2, 1) := by decide +kernel
theorem dX5_move_2 : decode cX5_move 2 = .ok (.invokestatic 80, 3) := by decide +kernel
theorem dX5_move_5 : decode cX5_move 5 = .ok (.ifCond .eq 11, 3) := by decide +kernel
theorem dX5_move_8 : decode cX5_move 8 = .ok (.iload_n 1, 1) := by decide +kernel
theorem dX5_move_9 : decode cX5_move 9 = .ok (.iload_n 3, 1) := by decide +kernel
theorem dX5_move_10 : decode cX5_move 10 = .ok (.invokestatic 80, 3) := by decide +kernel
theorem dX5_move_13 : decode cX5_move 13 = .ok (.ifCond .ne 6, 3) := by decide +kernel
theorem dX5_move_16 : decode cX5_move 16 = .ok (.bipush (-2), 2) := by decide +kernel
theorem dX5_move_18 : decode cX5_move 18 = .ok (.ireturn, 1) := by decide +kernel
theorem dX5_move_19 : decode cX5_move 19 = .ok (.aload_n 0, 1) := by decide +kernel
theorem dX5_move_20 : decode cX5_move 20 = .ok (.getfield 26, 3) := by decide +kernel
theorem dX5_move_23 : decode cX5_move 23 = .ok (.iload_n 1, 1) := by decide +kernel
theorem dX5_move_24 : decode cX5_move 24 = .ok (.iload_n 2, 1) := by decide +kernel
theorem dX5_move_25 : decode cX5_move 25 = .ok (.invokestatic 103, 3) := by decide +kernel
theorem dX5_move_28 : decode cX5_move 28 = .ok (.aload_n 0, 1) := by decide +kernel
theorem dX5_move_29 : decode cX5_move 29 = .ok (.iload_n 1, 1) := by decide +kernel
theorem dX5_move_30 : decode cX5_move 30 = .ok (.iload_n 3, 1) := by decide +kernel
theorem dX5_move_31 : decode cX5_move 31 = .ok (.invokevirtual 122, 3) := by decide +kernel
theorem dX5_move_34 : decode cX5_move 34 = .ok (.invokevirtual 106, 3) := by decide +kernel
theorem dX5_move_37 : decode cX5_move 37 = .ok (.ireturn, 1) := by decide +kernel
theorem dX5_get_0 : decode cX5_get 0 = .ok (.iload_n 1, 1) := by decide +kernel
theorem dX5_get_1 : decode cX5_get 1 = .ok (.iload_n 2, 1) := by decide +kernel
theorem dX5_get_2 : decode cX5_get 2 = .ok (.invokestatic 80, 3) := by decide +kernel
theorem dX5_get_5 : decode cX5_get 5 = .ok (.ifCond .eq 11, 3) := by decide +kernel
theorem dX5_get_8 : decode cX5_get 8 = .ok (.iload_n 1, 1) := by decide +kernel
theorem dX5_get_9 : decode cX5_get 9 = .ok (.iload_n 3, 1) := by decide +kernel
theorem dX5_get_10 : decode cX5_get 10 = .ok (.invokestatic 80, 3) := by decide +kernel
theorem dX5_get_13 : decode cX5_get 13 = .ok (.ifCond .ne 6, 3) := by decide +kernel
theorem dX5_get_16 : decode cX5_get 16 = .ok (.bipush (-2), 2) := by decide +kernel
theorem dX5_get_18 : decode cX5_get 18 = .ok (.ireturn, 1) := by decide +kernel
theorem dX5_get_19 : decode cX5_get 19 = .ok (.aload_n 0, 1) := by decide +kernel
theorem dX5_get_20 : decode cX5_get 20 = .ok (.iload_n 1, 1) := by decide +kernel
theorem dX5_get_21 : decode cX5_get 21 = .ok (.iload_n 3, 1) := by decide +kernel
theorem dX5_get_22 : decode cX5_get 22 = .ok (.invokevirtual 122, 3) := by decide +kernel
theorem dX5_get_25 : decode cX5_get 25 = .ok (.istore 5, 2) := by decide +kernel
theorem dX5_get_27 : decode cX5_get 27 = .ok (.aload_n 0, 1) := by decide +kernel
theorem dX5_get_28 : decode cX5_get 28 = .ok (.iload 5, 2) := by decide +kernel
theorem dX5_get_30 : decode cX5_get 30 = .ok (.iload 4, 2) := by decide +kernel
theorem dX5_get_32 : decode cX5_get 32 = .ok (.invokevirtual 125, 3) := by decide +kernel
theorem dX5_get_35 : decode cX5_get 35 = .ok (.istore 6, 2) := by decide +kernel
theorem dX5_get_37 : decode cX5_get 37 = .ok (.iload 6, 2) := by decide +kernel
theorem dX5_get_39 : decode cX5_get 39 = .ok (.ifCond .eq 6, 3) := by decide +kernel
theorem dX5_get_42 : decode cX5_get 42 = .ok (.iload 6, 2) := by decide +kernel
theorem dX5_get_44 : decode cX5_get 44 = .ok (.ireturn, 1) := by decide +kernel
theorem dX5_get_45 : decode cX5_get 45 = .ok (.aload_n 0, 1) := by decide +kernel
theorem dX5_get_46 : decode cX5_get 46 = .ok (.getfield 12, 3) := by decide +kernel
theorem dX5_get_49 : decode cX5_get 49 = .ok (.iload 5, 2) := by decide +kernel
theorem dX5_get_51 : decode cX5_get 51 = .ok (.iload 4, 2) := by decide +kernel
theorem dX5_get_53 : decode cX5_get 53 = .ok (.invokevirtual 128, 3) := by decide +kernel
theorem dX5_get_56 : decode cX5_get 56 = .ok (.istore 7, 2) := by decide +kernel
theorem dX5_get_58 : decode cX5_get 58 = .ok (.aload_n 0, 1) := by decide +kernel
theorem dX5_get_59 : decode cX5_get 59 = .ok (.getfield 52, 3) := by decide +kernel
theorem dX5_get_62 : decode cX5_get 62 = .ok (.iconst 3, 1) := by decide +kernel
theorem dX5_get_63 : decode cX5_get 63 = .ok (.if_icmp .ne 9, 3) := by decide +kernel
theorem dX5_get_66 : decode cX5_get 66 = .ok (.aload_n 0, 1) := by decide +kernel
theorem dX5_get_67 : decode cX5_get 67 = .ok (.iload 7, 2) := by decide +kernel
theorem dX5_get_69 : decode cX5_get 69 = .ok (.invokevirtual 131, 3) := by decide +kernel
theorem dX5_get_72 : decode cX5_get 72 = .ok (.aload_n 0, 1) := by decide +kernel
theorem dX5_get_73 : decode cX5_get 73 = .ok (.getfield 26, 3) := by decide +kernel
theorem dX5_get_76 : decode cX5_get 76 = .ok (.iload_n 1, 1) := by decide +kernel
theorem dX5_get_77 : decode cX5_get 77 = .ok (.iload_n 2, 1) := by decide +kernel
theorem dX5_get_78 : decode cX5_get 78 = .ok (.invokestatic 103, 3) := by decide +kernel
theorem dX5_get_81 : decode cX5_get 81 = .ok (.iload 7, 2) := by decide +kernel
theorem dX5_get_83 : decode cX5_get 83 = .ok (.invokevirtual 106, 3) := by decide +kernel
theorem dX5_get_86 : decode cX5_get 86 = .ok (.ireturn, 1) := by decide +kernel
theorem dX5_put_0 : decode cX5_put 0 = .ok (.iload_n 1, 1) := by decide +kernel
theorem dX5_put_1 : decode cX5_put 1 = .ok (.iload_n 2, 1) := by decide +kernel
theorem dX5_put_2 : decode cX5_put 2 = .ok (.invokestatic 80, 3) := by decide +kernel
theorem dX5_put_5 : decode cX5_put 5 = .ok (.ifCond .eq 12, 3) := by decide +kernel
theorem dX5_put_8 : decode cX5_put 8 = .ok (.iload_n 1, 1) := by decide +kernel
theorem dX5_put_9 : decode cX5_put 9 = .ok (.iload 4, 2) := by decide +kernel
theorem dX5_put_11 : decode cX5_put 11 = .ok (.invokestatic 80, 3) := by decide +kernel
theorem dX5_put_14 : decode cX5_put 14 = .ok (.ifCond .ne 6, 3) := by decide +kernel
theorem dX5_put_17 : decode cX5_put 17 = .ok (.bipush (-2), 2) := by decide +kernel
theorem dX5_put_19 : decode cX5_put 19 = .ok (.ireturn, 1) := by decide +kernel
theorem dX5_put_20 : decode cX5_put 20 = .ok (.aload_n 0, 1) := by decide +kernel
theorem dX5_put_21 : decode cX5_put 21 = .ok (.iload_n 1, 1) := by decide +kernel
theorem dX5_put_22 : decode cX5_put 22 = .ok (.iload_n 2, 1) := by decide +kernel
theorem dX5_put_23 : decode cX5_put 23 = .ok (.invokevirtual 122, 3) := by decide +kernel
theorem dX5_put_26 : decode cX5_put 26 = .ok (.istore 5, 2) := by decide +kernel
theorem dX5_put_28 : decode cX5_put 28 = .ok (.aload_n 0, 1) := by decide +kernel
theorem dX5_put_29 : decode cX5_put 29 = .ok (.iload 5, 2) := by decide +kernel
theorem dX5_put_31 : decode cX5_put 31 = .ok (.iload_n 3, 1) := by decide +kernel
theorem dX5_put_32 : decode cX5_put 32 = .ok (.invokevirtual 125, 3) := by decide +kernel
theorem dX5_put_35 : decode cX5_put 35 = .ok (.istore 6, 2) := by decide +kernel
theorem dX5_put_37 : decode cX5_put 37 = .ok (.iload 6, 2) := by decide +kernel
theorem dX5_put_39 : decode cX5_put 39 = .ok (.ifCond .eq 6, 3) := by decide +kernel
theorem dX5_put_42 : decode cX5_put 42 = .ok (.iload 6, 2) := by decide +kernel
theorem dX5_put_44 : decode cX5_put 44 = .ok (.ireturn, 1) := by decide +kernel
theorem dX5_put_45 : decode cX5_put 45 = .ok (.aload_n 0, 1) := by decide +kernel
theorem dX5_put_46 : decode cX5_put 46 = .ok (.iload_n 1, 1) := by decide +kernel
theorem dX5_put_47 : decode cX5_put 47 = .ok (.iload 4, 2) := by decide +kernel
theorem dX5_put_49 : decode cX5_put 49 = .ok (.invokevirtual 122, 3) := by decide +kernel
theorem dX5_put_52 : decode cX5_put 52 = .ok (.istore 7, 2) := by decide +kernel
theorem dX5_put_54 : decode cX5_put 54 = .ok (.aload_n 0, 1) := by decide +kernel
theorem dX5_put_55 : decode cX5_put 55 = .ok (.getfield 52, 3) := by decide +kernel
theorem dX5_put_58 : decode cX5_put 58 = .ok (.iconst 1, 1) := by decide +kernel
theorem dX5_put_59 : decode cX5_put 59 = .ok (.if_icmp .ne 17, 3) := by decide +kernel
theorem dX5_put_62 : decode cX5_put 62 = .ok (.aload_n 0, 1) := by decide +kernel
theorem dX5_put_63 : decode cX5_put 63 = .ok (.aload_n 0, 1) := by decide +kernel
theorem dX5_put_64 : decode cX5_put 64 = .ok (.getfield 12, 3) := by decide +kernel
theorem dX5_put_67 : decode cX5_put 67 = .ok (.iload 5, 2) := by decide +kernel
theorem dX5_put_69 : decode cX5_put 69 = .ok (.iload_n 3, 1) := by decide +kernel
theorem dX5_put_70 : decode cX5_put 70 = .ok (.invokevirtual 128, 3) := by decide +kernel
theorem dX5_put_73 : decode cX5_put 73 = .ok (.invokevirtual 131, 3) := by decide +kernel
theorem dX5_put_76 : decode cX5_put 76 = .ok (.aload_n 0, 1) := by decide +kernel
theorem dX5_put_77 : decode cX5_put 77 = .ok (.getfield 52, 3) := by decide +kernel
theorem dX5_put_80 : decode cX5_put 80 = .ok (.iconst 2, 1) := by decide +kernel
theorem dX5_put_81 : decode cX5_put 81 = .ok (.if_icmp .ne 9, 3) := by decide +kernel
theorem dX5_put_84 : decode cX5_put 84 = .ok (.aload_n 0, 1) := by decide +kernel
theorem dX5_put_85 : decode cX5_put 85 = .ok (.iload 7, 2) := by decide +kernel
theorem dX5_put_87 : decode cX5_put 87 = .ok (.invokevirtual 131, 3) := by decide +kernel
theorem dX5_put_90 : decode cX5_put 90 = .ok (.aload_n 0, 1) := by decide +kernel
theorem dX5_put_91 : decode cX5_put 91 = .ok (.getfield 12, 3) := by decide +kernel
theorem dX5_put_94 : decode cX5_put 94 = .ok (.iload 5, 2) := by decide +kernel
theorem dX5_put_96 : decode cX5_put 96 = .ok (.iload_n 3, 1) := by decide +kernel
theorem dX5_put_97 : decode cX5_put 97 = .ok (.iload 7, 2) := by decide +kernel
theorem dX5_put_99 : decode cX5_put 99 = .ok (.invokevirtual 135, 3) := by decide +kernel
theorem dX5_put_102 : decode cX5_put 102 = .ok (.iconst 1, 1) := by decide +kernel
theorem dX5_put_103 : decode cX5_put 103 = .ok (.ireturn, 1) := by decide +kernel
theorem dX5_refusalOfField_0 : decode cX5_refusalOfField 0 = .ok (.aload_n 0, 1) := by decide +kernel
theorem dX5_refusalOfField_1 : decode cX5_refusalOfField 1 = .ok (.getfield 12, 3) := by decide +kernel
theorem dX5_refusalOfField_4 : decode cX5_refusalOfField 4 = .ok (.iload_n 1, 1) := by decide +kernel
theorem dX5_refusalOfField_5 : decode cX5_refusalOfField 5 = .ok (.iload_n 2, 1) := by decide +kernel
theorem dX5_refusalOfField_6 : decode cX5_refusalOfField 6 = .ok (.invokevirtual 138, 3) := by decide +kernel
theorem dX5_refusalOfField_9 : decode cX5_refusalOfField 9 = .ok (.ifCond .ne 6, 3) := by decide +kernel
theorem dX5_refusalOfField_12 : decode cX5_refusalOfField 12 = .ok (.bipush (-3), 2) := by decide +kernel
theorem dX5_refusalOfField_14 : decode cX5_refusalOfField 14 = .ok (.ireturn, 1) := by decide +kernel
theorem dX5_refusalOfField_15 : decode cX5_refusalOfField 15 = .ok (.aload_n 0, 1) := by decide +kernel
theorem dX5_refusalOfField_16 : decode cX5_refusalOfField 16 = .ok (.getfield 12, 3) := by decide +kernel
theorem dX5_refusalOfField_19 : decode cX5_refusalOfField 19 = .ok (.iload_n 1, 1) := by decide +kernel
theorem dX5_refusalOfField_20 : decode cX5_refusalOfField 20 = .ok (.invokevirtual 141, 3) := by decide +kernel
theorem dX5_refusalOfField_23 : decode cX5_refusalOfField 23 = .ok (.ifCond .eq 8, 3) := by decide +kernel
theorem dX5_refusalOfField_26 : decode cX5_refusalOfField 26 = .ok (.bipush (-5), 2) := by decide +kernel
theorem dX5_refusalOfField_28 : decode cX5_refusalOfField 28 = .ok (.goto 4, 3) := by decide +kernel
theorem dX5_refusalOfField_31 : decode cX5_refusalOfField 31 = .ok (.iconst 0, 1) := by decide +kernel
theorem dX5_refusalOfField_32 : decode cX5_refusalOfField 32 = .ok (.ireturn, 1) := by decide +kernel
theorem dX5_drop_0 : decode cX5_drop 0 = .ok (.iload_n 1, 1) := by decide +kernel
theorem dX5_drop_1 : decode cX5_drop 1 = .ok (.iload_n 2, 1) := by decide +kernel
theorem dX5_drop_2 : decode cX5_drop 2 = .ok (.invokestatic 80, 3) := by decide +kernel
theorem dX5_drop_5 : decode cX5_drop 5 = .ok (.ifCond .ne 6, 3) := by decide +kernel
theorem dX5_drop_8 : decode cX5_drop 8 = .ok (.bipush (-2), 2) := by decide +kernel
theorem dX5_drop_10 : decode cX5_drop 10 = .ok (.ireturn, 1) := by decide +kernel
theorem dX5_drop_11 : decode cX5_drop 11 = .ok (.aload_n 0, 1) := by decide +kernel
theorem dX5_drop_12 : decode cX5_drop 12 = .ok (.iload_n 1, 1) := by decide +kernel
theorem dX5_drop_13 : decode cX5_drop 13 = .ok (.iload_n 2, 1) := by decide +kernel
theorem dX5_drop_14 : decode cX5_drop 14 = .ok (.invokevirtual 122, 3) := by decide +kernel
theorem dX5_drop_17 : decode cX5_drop 17 = .ok (.istore_n 3, 1) := by decide +kernel
theorem dX5_drop_18 : decode cX5_drop 18 = .ok (.aload_n 0, 1) := by decide +kernel
theorem dX5_drop_19 : decode cX5_drop 19 = .ok (.getfield 26, 3) := by decide +kernel
theorem dX5_drop_22 : decode cX5_drop 22 = .ok (.iload_n 1, 1) := by decide +kernel
theorem dX5_drop_23 : decode cX5_drop 23 = .ok (.iload_n 2, 1) := by decide +kernel
theorem dX5_drop_24 : decode cX5_drop 24 = .ok (.invokestatic 103, 3) := by decide +kernel
theorem dX5_drop_27 : decode cX5_drop 27 = .ok (.iconst (-1), 1) := by decide +kernel
theorem dX5_drop_28 : decode cX5_drop 28 = .ok (.invokevirtual 106, 3) := by decide +kernel
theorem dX5_drop_31 : decode cX5_drop 31 = .ok (.pop, 1) := by decide +kernel
theorem dX5_drop_32 : decode cX5_drop 32 = .ok (.iload_n 3, 1) := by decide +kernel
theorem dX5_drop_33 : decode cX5_drop 33 = .ok (.ireturn, 1) := by decide +kernel
theorem dX5_store_0 : decode cX5_store 0 = .ok (.iload_n 1, 1) := by decide +kernel
theorem dX5_store_1 : decode cX5_store 1 = .ok (.invokestatic 145, 3) := by decide +kernel
theorem dX5_store_4 : decode cX5_store 4 = .ok (.ifCond .eq 11, 3) := by decide +kernel
theorem dX5_store_7 : decode cX5_store 7 = .ok (.iload_n 2, 1) := by decide +kernel
theorem dX5_store_8 : decode cX5_store 8 = .ok (.iload_n 3, 1) := by decide +kernel
theorem dX5_store_9 : decode cX5_store 9 = .ok (.invokestatic 80, 3) := by decide +kernel
theorem dX5_store_12 : decode cX5_store 12 = .ok (.ifCond .ne 6, 3) := by decide +kernel
theorem dX5_store_15 : decode cX5_store 15 = .ok (.bipush (-2), 2) := by decide +kernel
theorem dX5_store_17 : decode cX5_store 17 = .ok (.ireturn, 1) := by decide +kernel
theorem dX5_store_18 : decode cX5_store 18 = .ok (.aload_n 0, 1) := by decide +kernel
theorem dX5_store_19 : decode cX5_store 19 = .ok (.getfield 26, 3) := by decide +kernel
theorem dX5_store_22 : decode cX5_store 22 = .ok (.bipush 12, 2) := by decide +kernel
theorem dX5_store_24 : decode cX5_store 24 = .ok (.iload_n 1, 1) := by decide +kernel
theorem dX5_store_25 : decode cX5_store 25 = .ok (.iadd, 1) := by decide +kernel
theorem dX5_store_26 : decode cX5_store 26 = .ok (.invokevirtual 148, 3) := by decide +kernel
theorem dX5_store_29 : decode cX5_store 29 = .ok (.istore 4, 2) := by decide +kernel
theorem dX5_store_31 : decode cX5_store 31 = .ok (.aload_n 0, 1) := by decide +kernel
theorem dX5_store_32 : decode cX5_store 32 = .ok (.getfield 26, 3) := by decide +kernel
theorem dX5_store_35 : decode cX5_store 35 = .ok (.bipush 12, 2) := by decide +kernel
theorem dX5_store_37 : decode cX5_store 37 = .ok (.iload_n 1, 1) := by decide +kernel
theorem dX5_store_38 : decode cX5_store 38 = .ok (.iadd, 1) := by decide +kernel
theorem dX5_store_39 : decode cX5_store 39 = .ok (.aload_n 0, 1) := by decide +kernel
theorem dX5_store_40 : decode cX5_store 40 = .ok (.iload_n 2, 1) := by decide +kernel
theorem dX5_store_41 : decode cX5_store 41 = .ok (.iload_n 3, 1) := by decide +kernel
theorem dX5_store_42 : decode cX5_store 42 = .ok (.invokevirtual 122, 3) := by decide +kernel
theorem dX5_store_45 : decode cX5_store 45 = .ok (.invokevirtual 106, 3) := by decide +kernel
theorem dX5_store_48 : decode cX5_store 48 = .ok (.pop, 1) := by decide +kernel
theorem dX5_store_49 : decode cX5_store 49 = .ok (.iload 4, 2) := by decide +kernel
theorem dX5_store_51 : decode cX5_store 51 = .ok (.ireturn, 1) := by decide +kernel
theorem dX5_load_0 : decode cX5_load 0 = .ok (.iload_n 1, 1) := by decide +kernel
theorem dX5_load_1 : decode cX5_load 1 = .ok (.iload_n 2, 1) := by decide +kernel
theorem dX5_load_2 : decode cX5_load 2 = .ok (.invokestatic 80, 3) := by decide +kernel
theorem dX5_load_5 : decode cX5_load 5 = .ok (.ifCond .eq 10, 3) := by decide +kernel
theorem dX5_load_8 : decode cX5_load 8 = .ok (.iload_n 3, 1) := by decide +kernel
theorem dX5_load_9 : decode cX5_load 9 = .ok (.invokestatic 145, 3) := by decide +kernel
theorem dX5_load_12 : decode cX5_load 12 = .ok (.ifCond .ne 6, 3) := by decide +kernel
theorem dX5_load_15 : decode cX5_load 15 = .ok (.bipush (-2), 2) := by decide +kernel
theorem dX5_load_17 : decode cX5_load 17 = .ok (.ireturn, 1) := by decide +kernel
theorem dX5_load_18 : decode cX5_load 18 = .ok (.aload_n 0, 1) := by decide +kernel
theorem dX5_load_19 : decode cX5_load 19 = .ok (.getfield 26, 3) := by decide +kernel
theorem dX5_load_22 : decode cX5_load 22 = .ok (.iload_n 1, 1) := by decide +kernel
theorem dX5_load_23 : decode cX5_load 23 = .ok (.iload_n 2, 1) := by decide +kernel
theorem dX5_load_24 : decode cX5_load 24 = .ok (.invokestatic 103, 3) := by decide +kernel
theorem dX5_load_27 : decode cX5_load 27 = .ok (.aload_n 0, 1) := by decide +kernel
theorem dX5_load_28 : decode cX5_load 28 = .ok (.getfield 26, 3) := by decide +kernel
theorem dX5_load_31 : decode cX5_load 31 = .ok (.bipush 12, 2) := by decide +kernel
theorem dX5_load_33 : decode cX5_load 33 = .ok (.iload_n 3, 1) := by decide +kernel
theorem dX5_load_34 : decode cX5_load 34 = .ok (.iadd, 1) := by decide +kernel
theorem dX5_load_35 : decode cX5_load 35 = .ok (.invokevirtual 148, 3) := by decide +kernel
theorem dX5_load_38 : decode cX5_load 38 = .ok (.invokevirtual 106, 3) := by decide +kernel
theorem dX5_load_41 : decode cX5_load 41 = .ok (.ireturn, 1) := by decide +kernel
theorem dX5_same_0 : decode cX5_same 0 = .ok (.iload_n 1, 1) := by decide +kernel
theorem dX5_same_1 : decode cX5_same 1 = .ok (.iload_n 2, 1) := by decide +kernel
theorem dX5_same_2 : decode cX5_same 2 = .ok (.invokestatic 80, 3) := by decide +kernel
theorem dX5_same_5 : decode cX5_same 5 = .ok (.ifCond .eq 12, 3) := by decide +kernel
theorem dX5_same_8 : decode cX5_same 8 = .ok (.iload_n 3, 1) := by decide +kernel
theorem dX5_same_9 : decode cX5_same 9 = .ok (.iload 4, 2) := by decide +kernel
theorem dX5_same_11 : decode cX5_same 11 = .ok (.invokestatic 80, 3) := by decide +kernel
theorem dX5_same_14 : decode cX5_same 14 = .ok (.ifCond .ne 6, 3) := by decide +kernel
theorem dX5_same_17 : decode cX5_same 17 = .ok (.bipush (-2), 2) := by decide +kernel
theorem dX5_same_19 : decode cX5_same 19 = .ok (.ireturn, 1) := by decide +kernel
theorem dX5_same_20 : decode cX5_same 20 = .ok (.aload_n 0, 1) := by decide +kernel
theorem dX5_same_21 : decode cX5_same 21 = .ok (.iload_n 1, 1) := by decide +kernel
theorem dX5_same_22 : decode cX5_same 22 = .ok (.iload_n 2, 1) := by decide +kernel
theorem dX5_same_23 : decode cX5_same 23 = .ok (.invokevirtual 122, 3) := by decide +kernel
theorem dX5_same_26 : decode cX5_same 26 = .ok (.aload_n 0, 1) := by decide +kernel
theorem dX5_same_27 : decode cX5_same 27 = .ok (.iload_n 3, 1) := by decide +kernel
theorem dX5_same_28 : decode cX5_same 28 = .ok (.iload 4, 2) := by decide +kernel
theorem dX5_same_30 : decode cX5_same 30 = .ok (.invokevirtual 122, 3) := by decide +kernel
theorem dX5_same_33 : decode cX5_same 33 = .ok (.if_icmp .ne 7, 3) := by decide +kernel
theorem dX5_same_36 : decode cX5_same 36 = .ok (.iconst 1, 1) := by decide +kernel
theorem dX5_same_37 : decode cX5_same 37 = .ok (.goto 4, 3) := by decide +kernel
theorem dX5_same_40 : decode cX5_same 40 = .ok (.iconst 0, 1) := by decide +kernel
theorem dX5_same_41 : decode cX5_same 41 = .ok (.ireturn, 1) := by decide +kernel
theorem dX5_weak_0 : decode cX5_weak 0 = .ok (.iload_n 1, 1) := by decide +kernel
theorem dX5_weak_1 : decode cX5_weak 1 = .ok (.invokestatic 151, 3) := by decide +kernel
theorem dX5_weak_4 : decode cX5_weak 4 = .ok (.ifCond .eq 11, 3) := by decide +kernel
theorem dX5_weak_7 : decode cX5_weak 7 = .ok (.iload_n 2, 1) := by decide +kernel
theorem dX5_weak_8 : decode cX5_weak 8 = .ok (.iload_n 3, 1) := by decide +kernel
theorem dX5_weak_9 : decode cX5_weak 9 = .ok (.invokestatic 80, 3) := by decide +kernel
theorem dX5_weak_12 : decode cX5_weak 12 = .ok (.ifCond .ne 6, 3) := by decide +kernel
theorem dX5_weak_15 : decode cX5_weak 15 = .ok (.bipush (-2), 2) := by decide +kernel
theorem dX5_weak_17 : decode cX5_weak 17 = .ok (.ireturn, 1) := by decide +kernel
theorem dX5_weak_18 : decode cX5_weak 18 = .ok (.aload_n 0, 1) := by decide +kernel
theorem dX5_weak_19 : decode cX5_weak 19 = .ok (.iload_n 2, 1) := by decide +kernel
theorem dX5_weak_20 : decode cX5_weak 20 = .ok (.iload_n 3, 1) := by decide +kernel
theorem dX5_weak_21 : decode cX5_weak 21 = .ok (.invokevirtual 122, 3) := by decide +kernel
theorem dX5_weak_24 : decode cX5_weak 24 = .ok (.istore 4, 2) := by decide +kernel
theorem dX5_weak_26 : decode cX5_weak 26 = .ok (.iload 4, 2) := by decide +kernel
theorem dX5_weak_28 : decode cX5_weak 28 = .ok (.iconst (-1), 1) := by decide +kernel
theorem dX5_weak_29 : decode cX5_weak 29 = .ok (.if_icmp .ne 6, 3) := by decide +kernel
theorem dX5_weak_32 : decode cX5_weak 32 = .ok (.bipush (-3), 2) := by decide +kernel
theorem dX5_weak_34 : decode cX5_weak 34 = .ok (.ireturn, 1) := by decide +kernel
theorem dX5_weak_35 : decode cX5_weak 35 = .ok (.aload_n 0, 1) := by decide +kernel
theorem dX5_weak_36 : decode cX5_weak 36 = .ok (.getfield 26, 3) := by decide +kernel
theorem dX5_weak_39 : decode cX5_weak 39 = .ok (.iload_n 1, 1) := by decide +kernel
theorem dX5_weak_40 : decode cX5_weak 40 = .ok (.iload 4, 2) := by decide +kernel
theorem dX5_weak_42 : decode cX5_weak 42 = .ok (.invokevirtual 154, 3) := by decide +kernel
theorem dX5_weak_45 : decode cX5_weak 45 = .ok (.iconst 1, 1) := by decide +kernel
theorem dX5_weak_46 : decode cX5_weak 46 = .ok (.ireturn, 1) := by decide +kernel
theorem dX5_strong_0 : decode cX5_strong 0 = .ok (.iload_n 1, 1) := by decide +kernel
theorem dX5_strong_1 : decode cX5_strong 1 = .ok (.iload_n 2, 1) := by decide +kernel
theorem dX5_strong_2 : decode cX5_strong 2 = .ok (.invokestatic 80, 3) := by decide +kernel
theorem dX5_strong_5 : decode cX5_strong 5 = .ok (.ifCond .eq 10, 3) := by decide +kernel
theorem dX5_strong_8 : decode cX5_strong 8 = .ok (.iload_n 3, 1) := by decide +kernel
theorem dX5_strong_9 : decode cX5_strong 9 = .ok (.invokestatic 151, 3) := by decide +kernel
theorem dX5_strong_12 : decode cX5_strong 12 = .ok (.ifCond .ne 6, 3) := by decide +kernel
theorem dX5_strong_15 : decode cX5_strong 15 = .ok (.bipush (-2), 2) := by decide +kernel
theorem dX5_strong_17 : decode cX5_strong 17 = .ok (.ireturn, 1) := by decide +kernel
theorem dX5_strong_18 : decode cX5_strong 18 = .ok (.aload_n 0, 1) := by decide +kernel
theorem dX5_strong_19 : decode cX5_strong 19 = .ok (.getfield 26, 3) := by decide +kernel
theorem dX5_strong_22 : decode cX5_strong 22 = .ok (.iload_n 3, 1) := by decide +kernel
theorem dX5_strong_23 : decode cX5_strong 23 = .ok (.invokevirtual 157, 3) := by decide +kernel
theorem dX5_strong_26 : decode cX5_strong 26 = .ok (.istore 4, 2) := by decide +kernel
theorem dX5_strong_28 : decode cX5_strong 28 = .ok (.aload_n 0, 1) := by decide +kernel
theorem dX5_strong_29 : decode cX5_strong 29 = .ok (.iload 4, 2) := by decide +kernel
theorem dX5_strong_31 : decode cX5_strong 31 = .ok (.invokevirtual 160, 3) := by decide +kernel
theorem dX5_strong_34 : decode cX5_strong 34 = .ok (.aload_n 0, 1) := by decide +kernel
theorem dX5_strong_35 : decode cX5_strong 35 = .ok (.getfield 26, 3) := by decide +kernel
theorem dX5_strong_38 : decode cX5_strong 38 = .ok (.iload_n 1, 1) := by decide +kernel
theorem dX5_strong_39 : decode cX5_strong 39 = .ok (.iload_n 2, 1) := by decide +kernel
theorem dX5_strong_40 : decode cX5_strong 40 = .ok (.invokestatic 103, 3) := by decide +kernel
theorem dX5_strong_43 : decode cX5_strong 43 = .ok (.iload 4, 2) := by decide +kernel
theorem dX5_strong_45 : decode cX5_strong 45 = .ok (.invokevirtual 106, 3) := by decide +kernel
theorem dX5_strong_48 : decode cX5_strong 48 = .ok (.ireturn, 1) := by decide +kernel
theorem dX5_pair_0 : decode cX5_pair 0 = .ok (.iload_n 1, 1) := by decide +kernel
theorem dX5_pair_1 : decode cX5_pair 1 = .ok (.iload_n 2, 1) := by decide +kernel
theorem dX5_pair_2 : decode cX5_pair 2 = .ok (.invokestatic 80, 3) := by decide +kernel
theorem dX5_pair_5 : decode cX5_pair 5 = .ok (.ifCond .eq 11, 3) := by decide +kernel
theorem dX5_pair_8 : decode cX5_pair 8 = .ok (.iload_n 1, 1) := by decide +kernel
theorem dX5_pair_9 : decode cX5_pair 9 = .ok (.iload_n 3, 1) := by decide +kernel
theorem dX5_pair_10 : decode cX5_pair 10 = .ok (.invokestatic 80, 3) := by decide +kernel
theorem dX5_pair_13 : decode cX5_pair 13 = .ok (.ifCond .ne 6, 3) := by decide +kernel
theorem dX5_pair_16 : decode cX5_pair 16 = .ok (.bipush (-2), 2) := by decide +kernel
theorem dX5_pair_18 : decode cX5_pair 18 = .ok (.ireturn, 1) := by decide +kernel
theorem dX5_pair_19 : decode cX5_pair 19 = .ok (.aload_n 0, 1) := by decide +kernel
theorem dX5_pair_20 : decode cX5_pair 20 = .ok (.iload_n 1, 1) := by decide +kernel
theorem dX5_pair_21 : decode cX5_pair 21 = .ok (.iload_n 2, 1) := by decide +kernel
theorem dX5_pair_22 : decode cX5_pair 22 = .ok (.invokevirtual 122, 3) := by decide +kernel
theorem dX5_pair_25 : decode cX5_pair 25 = .ok (.istore 4, 2) := by decide +kernel
theorem dX5_pair_27 : decode cX5_pair 27 = .ok (.aload_n 0, 1) := by decide +kernel
theorem dX5_pair_28 : decode cX5_pair 28 = .ok (.iload_n 1, 1) := by decide +kernel
theorem dX5_pair_29 : decode cX5_pair 29 = .ok (.iload_n 3, 1) := by decide +kernel
theorem dX5_pair_30 : decode cX5_pair 30 = .ok (.invokevirtual 122, 3) := by decide +kernel
theorem dX5_pair_33 : decode cX5_pair 33 = .ok (.istore 5, 2) := by decide +kernel
theorem dX5_pair_35 : decode cX5_pair 35 = .ok (.iload 4, 2) := by decide +kernel
theorem dX5_pair_37 : decode cX5_pair 37 = .ok (.iconst (-1), 1) := by decide +kernel
theorem dX5_pair_38 : decode cX5_pair 38 = .ok (.if_icmp .eq 9, 3) := by decide +kernel
theorem dX5_pair_41 : decode cX5_pair 41 = .ok (.iload 5, 2) := by decide +kernel
theorem dX5_pair_43 : decode cX5_pair 43 = .ok (.iconst (-1), 1) := by decide +kernel
theorem dX5_pair_44 : decode cX5_pair 44 = .ok (.if_icmp .ne 6, 3) := by decide +kernel
theorem dX5_pair_47 : decode cX5_pair 47 = .ok (.bipush (-3), 2) := by decide +kernel
theorem dX5_pair_49 : decode cX5_pair 49 = .ok (.ireturn, 1) := by decide +kernel
theorem dX5_pair_50 : decode cX5_pair 50 = .ok (.aload_n 0, 1) := by decide +kernel
theorem dX5_pair_51 : decode cX5_pair 51 = .ok (.getfield 33, 3) := by decide +kernel
theorem dX5_pair_54 : decode cX5_pair 54 = .ok (.getfield 76, 3) := by decide +kernel
theorem dX5_pair_57 : decode cX5_pair 57 = .ok (.bipush 8, 2) := by decide +kernel
theorem dX5_pair_59 : decode cX5_pair 59 = .ok (.if_icmp .lt 8, 3) := by decide +kernel
theorem dX5_pair_62 : decode cX5_pair 62 = .ok (.bipush (-4), 2) := by decide +kernel
theorem dX5_pair_64 : decode cX5_pair 64 = .ok (.goto 14, 3) := by decide +kernel
theorem dX5_pair_67 : decode cX5_pair 67 = .ok (.aload_n 0, 1) := by decide +kernel
theorem dX5_pair_68 : decode cX5_pair 68 = .ok (.getfield 33, 3) := by decide +kernel
theorem dX5_pair_71 : decode cX5_pair 71 = .ok (.iload 4, 2) := by decide +kernel
theorem dX5_pair_73 : decode cX5_pair 73 = .ok (.iload 5, 2) := by decide +kernel
theorem dX5_pair_75 : decode cX5_pair 75 = .ok (.invokevirtual 163, 3) := by decide +kernel
theorem dX5_pair_78 : decode cX5_pair 78 = .ok (.ireturn, 1) := by decide +kernel
theorem dX5_value_0 : decode cX5_value 0 = .ok (.iload_n 1, 1) := by decide +kernel
theorem dX5_value_1 : decode cX5_value 1 = .ok (.iload_n 2, 1) := by decide +kernel
theorem dX5_value_2 : decode cX5_value 2 = .ok (.invokestatic 80, 3) := by decide +kernel
theorem dX5_value_5 : decode cX5_value 5 = .ok (.ifCond .eq 14, 3) := by decide +kernel
theorem dX5_value_8 : decode cX5_value 8 = .ok (.aload_n 0, 1) := by decide +kernel
theorem dX5_value_9 : decode cX5_value 9 = .ok (.getfield 33, 3) := by decide +kernel
theorem dX5_value_12 : decode cX5_value 12 = .ok (.iload_n 3, 1) := by decide +kernel
theorem dX5_value_13 : decode cX5_value 13 = .ok (.invokevirtual 165, 3) := by decide +kernel
theorem dX5_value_16 : decode cX5_value 16 = .ok (.ifCond .ne 6, 3) := by decide +kernel
theorem dX5_value_19 : decode cX5_value 19 = .ok (.bipush (-2), 2) := by decide +kernel
theorem dX5_value_21 : decode cX5_value 21 = .ok (.ireturn, 1) := by decide +kernel
theorem dX5_value_22 : decode cX5_value 22 = .ok (.aload_n 0, 1) := by decide +kernel
theorem dX5_value_23 : decode cX5_value 23 = .ok (.getfield 33, 3) := by decide +kernel
theorem dX5_value_26 : decode cX5_value 26 = .ok (.iload_n 3, 1) := by decide +kernel
theorem dX5_value_27 : decode cX5_value 27 = .ok (.invokevirtual 168, 3) := by decide +kernel
theorem dX5_value_30 : decode cX5_value 30 = .ok (.istore 4, 2) := by decide +kernel
theorem dX5_value_32 : decode cX5_value 32 = .ok (.aload_n 0, 1) := by decide +kernel
theorem dX5_value_33 : decode cX5_value 33 = .ok (.iload 4, 2) := by decide +kernel
theorem dX5_value_35 : decode cX5_value 35 = .ok (.invokevirtual 160, 3) := by decide +kernel
theorem dX5_value_38 : decode cX5_value 38 = .ok (.aload_n 0, 1) := by decide +kernel
theorem dX5_value_39 : decode cX5_value 39 = .ok (.getfield 26, 3) := by decide +kernel
theorem dX5_value_42 : decode cX5_value 42 = .ok (.iload_n 1, 1) := by decide +kernel
theorem dX5_value_43 : decode cX5_value 43 = .ok (.iload_n 2, 1) := by decide +kernel
theorem dX5_value_44 : decode cX5_value 44 = .ok (.invokestatic 103, 3) := by decide +kernel
theorem dX5_value_47 : decode cX5_value 47 = .ok (.iload 4, 2) := by decide +kernel
theorem dX5_value_49 : decode cX5_value 49 = .ok (.invokevirtual 106, 3) := by decide +kernel
theorem dX5_value_52 : decode cX5_value 52 = .ok (.ireturn, 1) := by decide +kernel
theorem dX5_wish_0 : decode cX5_wish 0 = .ok (.iload_n 1, 1) := by decide +kernel
theorem dX5_wish_1 : decode cX5_wish 1 = .ok (.iload_n 2, 1) := by decide +kernel
theorem dX5_wish_2 : decode cX5_wish 2 = .ok (.invokestatic 80, 3) := by decide +kernel
theorem dX5_wish_5 : decode cX5_wish 5 = .ok (.ifCond .ne 6, 3) := by decide +kernel
theorem dX5_wish_8 : decode cX5_wish 8 = .ok (.bipush (-2), 2) := by decide +kernel
theorem dX5_wish_10 : decode cX5_wish 10 = .ok (.ireturn, 1) := by decide +kernel
theorem dX5_wish_11 : decode cX5_wish 11 = .ok (.aload_n 0, 1) := by decide +kernel
theorem dX5_wish_12 : decode cX5_wish 12 = .ok (.getfield 26, 3) := by decide +kernel
theorem dX5_wish_15 : decode cX5_wish 15 = .ok (.getfield 171, 3) := by decide +kernel
theorem dX5_wish_18 : decode cX5_wish 18 = .ok (.ifCond .ne 5, 3) := by decide +kernel
theorem dX5_wish_21 : decode cX5_wish 21 = .ok (.iconst (-1), 1) := by decide +kernel
theorem dX5_wish_22 : decode cX5_wish 22 = .ok (.ireturn, 1) := by decide +kernel
theorem dX5_wish_23 : decode cX5_wish 23 = .ok (.aload_n 0, 1) := by decide +kernel
theorem dX5_wish_24 : decode cX5_wish 24 = .ok (.getfield 26, 3) := by decide +kernel
theorem dX5_wish_27 : decode cX5_wish 27 = .ok (.iload_n 1, 1) := by decide +kernel
theorem dX5_wish_28 : decode cX5_wish 28 = .ok (.iload_n 2, 1) := by decide +kernel
theorem dX5_wish_29 : decode cX5_wish 29 = .ok (.invokestatic 103, 3) := by decide +kernel
theorem dX5_wish_32 : decode cX5_wish 32 = .ok (.aload_n 0, 1) := by decide +kernel
theorem dX5_wish_33 : decode cX5_wish 33 = .ok (.getfield 26, 3) := by decide +kernel
theorem dX5_wish_36 : decode cX5_wish 36 = .ok (.invokevirtual 174, 3) := by decide +kernel
theorem dX5_wish_39 : decode cX5_wish 39 = .ok (.invokevirtual 106, 3) := by decide +kernel
theorem dX5_wish_42 : decode cX5_wish 42 = .ok (.ireturn, 1) := by decide +kernel
theorem dX5_isRegister_0 : decode cX5_isRegister 0 = .ok (.iload_n 0, 1) := by decide +kernel
theorem dX5_isRegister_1 : decode cX5_isRegister 1 = .ok (.ifCond .lt 21, 3) := by decide +kernel
theorem dX5_isRegister_4 : decode cX5_isRegister 4 = .ok (.iload_n 0, 1) := by decide +kernel
theorem dX5_isRegister_5 : decode cX5_isRegister 5 = .ok (.iconst 3, 1) := by decide +kernel
theorem dX5_isRegister_6 : decode cX5_isRegister 6 = .ok (.if_icmp .ge 16, 3) := by decide +kernel
theorem dX5_isRegister_9 : decode cX5_isRegister 9 = .ok (.iload_n 1, 1) := by decide +kernel
theorem dX5_isRegister_10 : decode cX5_isRegister 10 = .ok (.ifCond .lt 12, 3) := by decide +kernel
theorem dX5_isRegister_13 : decode cX5_isRegister 13 = .ok (.iload_n 1, 1) := by decide +kernel
theorem dX5_isRegister_14 : decode cX5_isRegister 14 = .ok (.iconst 4, 1) := by decide +kernel
theorem dX5_isRegister_15 : decode cX5_isRegister 15 = .ok (.if_icmp .ge 7, 3) := by decide +kernel
theorem dX5_isRegister_18 : decode cX5_isRegister 18 = .ok (.iconst 1, 1) := by decide +kernel
theorem dX5_isRegister_19 : decode cX5_isRegister 19 = .ok (.goto 4, 3) := by decide +kernel
theorem dX5_isRegister_22 : decode cX5_isRegister 22 = .ok (.iconst 0, 1) := by decide +kernel
theorem dX5_isRegister_23 : decode cX5_isRegister 23 = .ok (.ireturn, 1) := by decide +kernel
theorem dX5_isSlot_0 : decode cX5_isSlot 0 = .ok (.iload_n 0, 1) := by decide +kernel
theorem dX5_isSlot_1 : decode cX5_isSlot 1 = .ok (.ifCond .lt 12, 3) := by decide +kernel
theorem dX5_isSlot_4 : decode cX5_isSlot 4 = .ok (.iload_n 0, 1) := by decide +kernel
theorem dX5_isSlot_5 : decode cX5_isSlot 5 = .ok (.iconst 4, 1) := by decide +kernel
theorem dX5_isSlot_6 : decode cX5_isSlot 6 = .ok (.if_icmp .ge 7, 3) := by decide +kernel
theorem dX5_isSlot_9 : decode cX5_isSlot 9 = .ok (.iconst 1, 1) := by decide +kernel
theorem dX5_isSlot_10 : decode cX5_isSlot 10 = .ok (.goto 4, 3) := by decide +kernel
theorem dX5_isSlot_13 : decode cX5_isSlot 13 = .ok (.iconst 0, 1) := by decide +kernel
theorem dX5_isSlot_14 : decode cX5_isSlot 14 = .ok (.ireturn, 1) := by decide +kernel
theorem dX5_isWeakHolder_0 : decode cX5_isWeakHolder 0 = .ok (.iload_n 0, 1) := by decide +kernel
theorem dX5_isWeakHolder_1 : decode cX5_isWeakHolder 1 = .ok (.ifCond .lt 13, 3) := by decide +kernel
theorem dX5_isWeakHolder_4 : decode cX5_isWeakHolder 4 = .ok (.iload_n 0, 1) := by decide +kernel
theorem dX5_isWeakHolder_5 : decode cX5_isWeakHolder 5 = .ok (.bipush 6, 2) := by decide +kernel
theorem dX5_isWeakHolder_7 : decode cX5_isWeakHolder 7 = .ok (.if_icmp .ge 7, 3) := by decide +kernel
theorem dX5_isWeakHolder_10 : decode cX5_isWeakHolder 10 = .ok (.iconst 1, 1) := by decide +kernel
theorem dX5_isWeakHolder_11 : decode cX5_isWeakHolder 11 = .ok (.goto 4, 3) := by decide +kernel
theorem dX5_isWeakHolder_14 : decode cX5_isWeakHolder 14 = .ok (.iconst 0, 1) := by decide +kernel
theorem dX5_isWeakHolder_15 : decode cX5_isWeakHolder 15 = .ok (.ireturn, 1) := by decide +kernel
theorem dX5_registerAt_0 : decode cX5_registerAt 0 = .ok (.iload_n 0, 1) := by decide +kernel
theorem dX5_registerAt_1 : decode cX5_registerAt 1 = .ok (.iconst 4, 1) := by decide +kernel
theorem dX5_registerAt_2 : decode cX5_registerAt 2 = .ok (.imul, 1) := by decide +kernel
theorem dX5_registerAt_3 : decode cX5_registerAt 3 = .ok (.iload_n 1, 1) := by decide +kernel
theorem dX5_registerAt_4 : decode cX5_registerAt 4 = .ok (.iadd, 1) := by decide +kernel
theorem dX5_registerAt_5 : decode cX5_registerAt 5 = .ok (.ireturn, 1) := by decide +kernel
theorem dX5_inRegister_0 : decode cX5_inRegister 0 = .ok (.aload_n 0, 1) := by decide +kernel
theorem dX5_inRegister_1 : decode cX5_inRegister 1 = .ok (.getfield 26, 3) := by decide +kernel
theorem dX5_inRegister_4 : decode cX5_inRegister 4 = .ok (.iload_n 1, 1) := by decide +kernel
theorem dX5_inRegister_5 : decode cX5_inRegister 5 = .ok (.iload_n 2, 1) := by decide +kernel
theorem dX5_inRegister_6 : decode cX5_inRegister 6 = .ok (.invokestatic 103, 3) := by decide +kernel
theorem dX5_inRegister_9 : decode cX5_inRegister 9 = .ok (.invokevirtual 148, 3) := by decide +kernel
theorem dX5_inRegister_12 : decode cX5_inRegister 12 = .ok (.ireturn, 1) := by decide +kernel
theorem dX5_noteWeakRead_0 : decode cX5_noteWeakRead 0 = .ok (.aload_n 0, 1) := by decide +kernel
theorem dX5_noteWeakRead_1 : decode cX5_noteWeakRead 1 = .ok (.getfield 52, 3) := by decide +kernel
theorem dX5_noteWeakRead_4 : decode cX5_noteWeakRead 4 = .ok (.iconst 1, 1) := by decide +kernel
theorem dX5_noteWeakRead_5 : decode cX5_noteWeakRead 5 = .ok (.if_icmp .eq 11, 3) := by decide +kernel
theorem dX5_noteWeakRead_8 : decode cX5_noteWeakRead 8 = .ok (.aload_n 0, 1) := by decide +kernel
theorem dX5_noteWeakRead_9 : decode cX5_noteWeakRead 9 = .ok (.getfield 52, 3) := by decide +kernel
theorem dX5_noteWeakRead_12 : decode cX5_noteWeakRead 12 = .ok (.iconst 3, 1) := by decide +kernel
theorem dX5_noteWeakRead_13 : decode cX5_noteWeakRead 13 = .ok (.if_icmp .ne 8, 3) := by decide +kernel
theorem dX5_noteWeakRead_16 : decode cX5_noteWeakRead 16 = .ok (.aload_n 0, 1) := by decide +kernel
theorem dX5_noteWeakRead_17 : decode cX5_noteWeakRead 17 = .ok (.iload_n 1, 1) := by decide +kernel
theorem dX5_noteWeakRead_18 : decode cX5_noteWeakRead 18 = .ok (.invokevirtual 131, 3) := by decide +kernel
theorem dX5_noteWeakRead_21 : decode cX5_noteWeakRead 21 = .ok (.return_, 1) := by decide +kernel
theorem dX5_note_0 : decode cX5_note 0 = .ok (.aload_n 0, 1) := by decide +kernel
theorem dX5_note_1 : decode cX5_note 1 = .ok (.getfield 58, 3) := by decide +kernel
theorem dX5_note_4 : decode cX5_note 4 = .ok (.iconst 1, 1) := by decide +kernel
theorem dX5_note_5 : decode cX5_note 5 = .ok (.if_icmp .ne 16, 3) := by decide +kernel
theorem dX5_note_8 : decode cX5_note 8 = .ok (.aload_n 0, 1) := by decide +kernel
theorem dX5_note_9 : decode cX5_note 9 = .ok (.getfield 55, 3) := by decide +kernel
theorem dX5_note_12 : decode cX5_note 12 = .ok (.iconst 1, 1) := by decide +kernel
theorem dX5_note_13 : decode cX5_note 13 = .ok (.if_icmp .eq 8, 3) := by decide +kernel
theorem dX5_note_16 : decode cX5_note 16 = .ok (.aload_n 0, 1) := by decide +kernel
theorem dX5_note_17 : decode cX5_note 17 = .ok (.iload_n 1, 1) := by decide +kernel
theorem dX5_note_18 : decode cX5_note 18 = .ok (.invokevirtual 177, 3) := by decide +kernel
theorem dX5_note_21 : decode cX5_note 21 = .ok (.return_, 1) := by decide +kernel
theorem dX5_begin_0 : decode cX5_begin 0 = .ok (.aload_n 0, 1) := by decide +kernel
theorem dX5_begin_1 : decode cX5_begin 1 = .ok (.getfield 58, 3) := by decide +kernel
theorem dX5_begin_4 : decode cX5_begin 4 = .ok (.ifCond .eq 6, 3) := by decide +kernel
theorem dX5_begin_7 : decode cX5_begin 7 = .ok (.bipush (-3), 2) := by decide +kernel
theorem dX5_begin_9 : decode cX5_begin 9 = .ok (.ireturn, 1) := by decide +kernel
theorem dX5_begin_10 : decode cX5_begin 10 = .ok (.aload_n 0, 1) := by decide +kernel
theorem dX5_begin_11 : decode cX5_begin 11 = .ok (.invokevirtual 180, 3) := by decide +kernel
theorem dX5_begin_14 : decode cX5_begin 14 = .ok (.aload_n 0, 1) := by decide +kernel
theorem dX5_begin_15 : decode cX5_begin 15 = .ok (.getfield 52, 3) := by decide +kernel
theorem dX5_begin_18 : decode cX5_begin 18 = .ok (.ifCond .eq 11, 3) := by decide +kernel
theorem dX5_begin_21 : decode cX5_begin 21 = .ok (.aload_n 0, 1) := by decide +kernel
theorem dX5_begin_22 : decode cX5_begin 22 = .ok (.getfield 12, 3) := by decide +kernel
theorem dX5_begin_25 : decode cX5_begin 25 = .ok (.invokevirtual 183, 3) := by decide +kernel
theorem dX5_begin_28 : decode cX5_begin 28 = .ok (.ireturn, 1) := by decide +kernel
theorem dX5_begin_29 : decode cX5_begin 29 = .ok (.aload_n 0, 1) := by decide +kernel
theorem dX5_begin_30 : decode cX5_begin 30 = .ok (.getfield 12, 3) := by decide +kernel
theorem dX5_begin_33 : decode cX5_begin 33 = .ok (.invokevirtual 186, 3) := by decide +kernel
theorem dX5_begin_36 : decode cX5_begin 36 = .ok (.istore_n 1, 1) := by decide +kernel
theorem dX5_begin_37 : decode cX5_begin 37 = .ok (.aload_n 0, 1) := by decide +kernel
theorem dX5_begin_38 : decode cX5_begin 38 = .ok (.ldc 189, 2) := by decide +kernel
theorem dX5_begin_40 : decode cX5_begin 40 = .ok (.invokevirtual 190, 3) := by decide +kernel
theorem dX5_begin_43 : decode cX5_begin 43 = .ok (.pop, 1) := by decide +kernel
theorem dX5_begin_44 : decode cX5_begin 44 = .ok (.iload_n 1, 1) := by decide +kernel
theorem dX5_begin_45 : decode cX5_begin 45 = .ok (.aload_n 0, 1) := by decide +kernel
theorem dX5_begin_46 : decode cX5_begin 46 = .ok (.getfield 12, 3) := by decide +kernel
theorem dX5_begin_49 : decode cX5_begin 49 = .ok (.invokevirtual 186, 3) := by decide +kernel
theorem dX5_begin_52 : decode cX5_begin 52 = .ok (.isub, 1) := by decide +kernel
theorem dX5_begin_53 : decode cX5_begin 53 = .ok (.ireturn, 1) := by decide +kernel
theorem dX5_sweep_0 : decode cX5_sweep 0 = .ok (.iload_n 1, 1) := by decide +kernel
theorem dX5_sweep_1 : decode cX5_sweep 1 = .ok (.iconst 1, 1) := by decide +kernel
theorem dX5_sweep_2 : decode cX5_sweep 2 = .ok (.if_icmp .lt 10, 3) := by decide +kernel
theorem dX5_sweep_5 : decode cX5_sweep 5 = .ok (.iload_n 1, 1) := by decide +kernel
theorem dX5_sweep_6 : decode cX5_sweep 6 = .ok (.sipush 400, 3) := by decide +kernel
theorem dX5_sweep_9 : decode cX5_sweep 9 = .ok (.if_icmp .le 6, 3) := by decide +kernel
theorem dX5_sweep_12 : decode cX5_sweep 12 = .ok (.bipush (-2), 2) := by decide +kernel
theorem dX5_sweep_14 : decode cX5_sweep 14 = .ok (.ireturn, 1) := by decide +kernel
theorem dX5_sweep_15 : decode cX5_sweep 15 = .ok (.aload_n 0, 1) := by decide +kernel
theorem dX5_sweep_16 : decode cX5_sweep 16 = .ok (.iload_n 1, 1) := by decide +kernel
theorem dX5_sweep_17 : decode cX5_sweep 17 = .ok (.invokevirtual 190, 3) := by decide +kernel
theorem dX5_sweep_20 : decode cX5_sweep 20 = .ok (.ireturn, 1) := by decide +kernel
theorem dX5_under_0 : decode cX5_under 0 = .ok (.aload_n 0, 1) := by decide +kernel
theorem dX5_under_1 : decode cX5_under 1 = .ok (.getfield 58, 3) := by decide +kernel
theorem dX5_under_4 : decode cX5_under 4 = .ok (.ireturn, 1) := by decide +kernel
theorem dX5_startRound_0 : decode cX5_startRound 0 = .ok (.aload_n 0, 1) := by decide +kernel
theorem dX5_startRound_1 : decode cX5_startRound 1 = .ok (.iconst 1, 1) := by decide +kernel
theorem dX5_startRound_2 : decode cX5_startRound 2 = .ok (.putfield 58, 3) := by decide +kernel
theorem dX5_startRound_5 : decode cX5_startRound 5 = .ok (.aload_n 0, 1) := by decide +kernel
theorem dX5_startRound_6 : decode cX5_startRound 6 = .ok (.iconst 0, 1) := by decide +kernel
theorem dX5_startRound_7 : decode cX5_startRound 7 = .ok (.putfield 67, 3) := by decide +kernel
theorem dX5_startRound_10 : decode cX5_startRound 10 = .ok (.aload_n 0, 1) := by decide +kernel
theorem dX5_startRound_11 : decode cX5_startRound 11 = .ok (.iconst 0, 1) := by decide +kernel
theorem dX5_startRound_12 : decode cX5_startRound 12 = .ok (.putfield 70, 3) := by decide +kernel
theorem dX5_startRound_15 : decode cX5_startRound 15 = .ok (.aload_n 0, 1) := by decide +kernel
theorem dX5_startRound_16 : decode cX5_startRound 16 = .ok (.getfield 12, 3) := by decide +kernel
theorem dX5_startRound_19 : decode cX5_startRound 19 = .ok (.invokevirtual 193, 3) := by decide +kernel
theorem dX5_startRound_22 : decode cX5_startRound 22 = .ok (.aload_n 0, 1) := by decide +kernel
theorem dX5_startRound_23 : decode cX5_startRound 23 = .ok (.getfield 52, 3) := by decide +kernel
theorem dX5_startRound_26 : decode cX5_startRound 26 = .ok (.iconst 3, 1) := by decide +kernel
theorem dX5_startRound_27 : decode cX5_startRound 27 = .ok (.if_icmp .ne 10, 3) := by decide +kernel
theorem dX5_startRound_30 : decode cX5_startRound 30 = .ok (.aload_n 0, 1) := by decide +kernel
theorem dX5_startRound_31 : decode cX5_startRound 31 = .ok (.getfield 19, 3) := by decide +kernel
theorem dX5_startRound_34 : decode cX5_startRound 34 = .ok (.invokevirtual 196, 3) := by decide +kernel
theorem dX5_startRound_37 : decode cX5_startRound 37 = .ok (.aload_n 0, 1) := by decide +kernel
theorem dX5_startRound_38 : decode cX5_startRound 38 = .ok (.invokevirtual 199, 3) := by decide +kernel
theorem dX5_startRound_41 : decode cX5_startRound 41 = .ok (.return_, 1) := by decide +kernel
theorem dX5_takeSteps_0 : decode cX5_takeSteps 0 = .ok (.iconst 0, 1) := by decide +kernel
theorem dX5_takeSteps_1 : decode cX5_takeSteps 1 = .ok (.istore_n 2, 1) := by decide +kernel
theorem dX5_takeSteps_2 : decode cX5_takeSteps 2 = .ok (.iload_n 2, 1) := by decide +kernel
theorem dX5_takeSteps_3 : decode cX5_takeSteps 3 = .ok (.iload_n 1, 1) := by decide +kernel
theorem dX5_takeSteps_4 : decode cX5_takeSteps 4 = .ok (.if_icmp .ge 45, 3) := by decide +kernel
theorem dX5_takeSteps_7 : decode cX5_takeSteps 7 = .ok (.aload_n 0, 1) := by decide +kernel
theorem dX5_takeSteps_8 : decode cX5_takeSteps 8 = .ok (.getfield 58, 3) := by decide +kernel
theorem dX5_takeSteps_11 : decode cX5_takeSteps 11 = .ok (.ifCond .eq 38, 3) := by decide +kernel
theorem dX5_takeSteps_14 : decode cX5_takeSteps 14 = .ok (.aload_n 0, 1) := by decide +kernel
theorem dX5_takeSteps_15 : decode cX5_takeSteps 15 = .ok (.getfield 58, 3) := by decide +kernel
theorem dX5_takeSteps_18 : decode cX5_takeSteps 18 = .ok (.iconst 1, 1) := by decide +kernel
theorem dX5_takeSteps_19 : decode cX5_takeSteps 19 = .ok (.if_icmp .ne 10, 3) := by decide +kernel
theorem dX5_takeSteps_22 : decode cX5_takeSteps 22 = .ok (.aload_n 0, 1) := by decide +kernel
theorem dX5_takeSteps_23 : decode cX5_takeSteps 23 = .ok (.invokevirtual 202, 3) := by decide +kernel
theorem dX5_takeSteps_26 : decode cX5_takeSteps 26 = .ok (.goto 7, 3) := by decide +kernel
theorem dX5_takeSteps_29 : decode cX5_takeSteps 29 = .ok (.aload_n 0, 1) := by decide +kernel
theorem dX5_takeSteps_30 : decode cX5_takeSteps 30 = .ok (.invokevirtual 205, 3) := by decide +kernel
theorem dX5_takeSteps_33 : decode cX5_takeSteps 33 = .ok (.iinc 2 1, 3) := by decide +kernel
theorem dX5_takeSteps_36 : decode cX5_takeSteps 36 = .ok (.aload_n 0, 1) := by decide +kernel
theorem dX5_takeSteps_37 : decode cX5_takeSteps 37 = .ok (.dup, 1) := by decide +kernel
theorem dX5_takeSteps_38 : decode cX5_takeSteps 38 = .ok (.getfield 67, 3) := by decide +kernel
theorem dX5_takeSteps_41 : decode cX5_takeSteps 41 = .ok (.iconst 1, 1) := by decide +kernel
theorem dX5_takeSteps_42 : decode cX5_takeSteps 42 = .ok (.iadd, 1) := by decide +kernel
theorem dX5_takeSteps_43 : decode cX5_takeSteps 43 = .ok (.putfield 67, 3) := by decide +kernel
theorem dX5_takeSteps_46 : decode cX5_takeSteps 46 = .ok (.goto (-44), 3) := by decide +kernel
theorem dX5_takeSteps_49 : decode cX5_takeSteps 49 = .ok (.iload_n 2, 1) := by decide +kernel
theorem dX5_takeSteps_50 : decode cX5_takeSteps 50 = .ok (.ireturn, 1) := by decide +kernel
theorem dX5_markStep_0 : decode cX5_markStep 0 = .ok (.aload_n 0, 1) := by decide +kernel
theorem dX5_markStep_1 : decode cX5_markStep 1 = .ok (.getfield 12, 3) := by decide +kernel
theorem dX5_markStep_4 : decode cX5_markStep 4 = .ok (.invokevirtual 208, 3) := by decide +kernel
theorem dX5_markStep_7 : decode cX5_markStep 7 = .ok (.istore_n 1, 1) := by decide +kernel
theorem dX5_markStep_8 : decode cX5_markStep 8 = .ok (.iload_n 1, 1) := by decide +kernel
theorem dX5_markStep_9 : decode cX5_markStep 9 = .ok (.iconst (-1), 1) := by decide +kernel
theorem dX5_markStep_10 : decode cX5_markStep 10 = .ok (.if_icmp .eq 18, 3) := by decide +kernel
theorem dX5_markStep_13 : decode cX5_markStep 13 = .ok (.aload_n 0, 1) := by decide +kernel
theorem dX5_markStep_14 : decode cX5_markStep 14 = .ok (.iload_n 1, 1) := by decide +kernel
theorem dX5_markStep_15 : decode cX5_markStep 15 = .ok (.invokevirtual 211, 3) := by decide +kernel
theorem dX5_markStep_18 : decode cX5_markStep 18 = .ok (.aload_n 0, 1) := by decide +kernel
theorem dX5_markStep_19 : decode cX5_markStep 19 = .ok (.getfield 12, 3) := by decide +kernel
theorem dX5_markStep_22 : decode cX5_markStep 22 = .ok (.iload_n 1, 1) := by decide +kernel
theorem dX5_markStep_23 : decode cX5_markStep 23 = .ok (.iconst 2, 1) := by decide +kernel
theorem dX5_markStep_24 : decode cX5_markStep 24 = .ok (.invokevirtual 214, 3) := by decide +kernel
theorem dX5_markStep_27 : decode cX5_markStep 27 = .ok (.return_, 1) := by decide +kernel
theorem dX5_markStep_28 : decode cX5_markStep 28 = .ok (.aload_n 0, 1) := by decide +kernel
theorem dX5_markStep_29 : decode cX5_markStep 29 = .ok (.getfield 70, 3) := by decide +kernel
theorem dX5_markStep_32 : decode cX5_markStep 32 = .ok (.istore_n 2, 1) := by decide +kernel
theorem dX5_markStep_33 : decode cX5_markStep 33 = .ok (.aload_n 0, 1) := by decide +kernel
theorem dX5_markStep_34 : decode cX5_markStep 34 = .ok (.getfield 52, 3) := by decide +kernel
theorem dX5_markStep_37 : decode cX5_markStep 37 = .ok (.iconst 2, 1) := by decide +kernel
theorem dX5_markStep_38 : decode cX5_markStep 38 = .ok (.if_icmp .ne 7, 3) := by decide +kernel
theorem dX5_markStep_41 : decode cX5_markStep 41 = .ok (.aload_n 0, 1) := by decide +kernel
theorem dX5_markStep_42 : decode cX5_markStep 42 = .ok (.invokevirtual 199, 3) := by decide +kernel
theorem dX5_markStep_45 : decode cX5_markStep 45 = .ok (.aload_n 0, 1) := by decide +kernel
theorem dX5_markStep_46 : decode cX5_markStep 46 = .ok (.getfield 70, 3) := by decide +kernel
theorem dX5_markStep_49 : decode cX5_markStep 49 = .ok (.iload_n 2, 1) := by decide +kernel
theorem dX5_markStep_50 : decode cX5_markStep 50 = .ok (.if_icmp .ne 7, 3) := by decide +kernel
theorem dX5_markStep_53 : decode cX5_markStep 53 = .ok (.aload_n 0, 1) := by decide +kernel
theorem dX5_markStep_54 : decode cX5_markStep 54 = .ok (.invokevirtual 217, 3) := by decide +kernel
theorem dX5_markStep_57 : decode cX5_markStep 57 = .ok (.aload_n 0, 1) := by decide +kernel
theorem dX5_markStep_58 : decode cX5_markStep 58 = .ok (.getfield 70, 3) := by decide +kernel
theorem dX5_markStep_61 : decode cX5_markStep 61 = .ok (.iload_n 2, 1) := by decide +kernel
theorem dX5_markStep_62 : decode cX5_markStep 62 = .ok (.if_icmp .ne 7, 3) := by decide +kernel
theorem dX5_markStep_65 : decode cX5_markStep 65 = .ok (.aload_n 0, 1) := by decide +kernel
theorem dX5_markStep_66 : decode cX5_markStep 66 = .ok (.invokevirtual 220, 3) := by decide +kernel
theorem dX5_markStep_69 : decode cX5_markStep 69 = .ok (.aload_n 0, 1) := by decide +kernel
theorem dX5_markStep_70 : decode cX5_markStep 70 = .ok (.getfield 70, 3) := by decide +kernel
theorem dX5_markStep_73 : decode cX5_markStep 73 = .ok (.iload_n 2, 1) := by decide +kernel
theorem dX5_markStep_74 : decode cX5_markStep 74 = .ok (.if_icmp .ne 7, 3) := by decide +kernel
theorem dX5_markStep_77 : decode cX5_markStep 77 = .ok (.aload_n 0, 1) := by decide +kernel
theorem dX5_markStep_78 : decode cX5_markStep 78 = .ok (.invokevirtual 223, 3) := by decide +kernel
theorem dX5_markStep_81 : decode cX5_markStep 81 = .ok (.return_, 1) := by decide +kernel
theorem dX5_shadeFieldsOf_0 : decode cX5_shadeFieldsOf 0 = .ok (.iconst 0, 1) := by decide +kernel
theorem dX5_shadeFieldsOf_1 : decode cX5_shadeFieldsOf 1 = .ok (.istore_n 2, 1) := by decide +kernel
theorem dX5_shadeFieldsOf_2 : decode cX5_shadeFieldsOf 2 = .ok (.iload_n 2, 1) := by decide +kernel
theorem dX5_shadeFieldsOf_3 : decode cX5_shadeFieldsOf 3 = .ok (.bipush 6, 2) := by decide +kernel
theorem dX5_shadeFieldsOf_5 : decode cX5_shadeFieldsOf 5 = .ok (.if_icmp .ge 22, 3) := by decide +kernel
theorem dX5_shadeFieldsOf_8 : decode cX5_shadeFieldsOf 8 = .ok (.aload_n 0, 1) := by decide +kernel
theorem dX5_shadeFieldsOf_9 : decode cX5_shadeFieldsOf 9 = .ok (.aload_n 0, 1) := by decide +kernel
theorem dX5_shadeFieldsOf_10 : decode cX5_shadeFieldsOf 10 = .ok (.getfield 12, 3) := by decide +kernel
theorem dX5_shadeFieldsOf_13 : decode cX5_shadeFieldsOf 13 = .ok (.iload_n 1, 1) := by decide +kernel
theorem dX5_shadeFieldsOf_14 : decode cX5_shadeFieldsOf 14 = .ok (.iload_n 2, 1) := by decide +kernel
theorem dX5_shadeFieldsOf_15 : decode cX5_shadeFieldsOf 15 = .ok (.invokevirtual 128, 3) := by decide +kernel
theorem dX5_shadeFieldsOf_18 : decode cX5_shadeFieldsOf 18 = .ok (.invokevirtual 177, 3) := by decide +kernel
theorem dX5_shadeFieldsOf_21 : decode cX5_shadeFieldsOf 21 = .ok (.iinc 2 1, 3) := by decide +kernel
theorem dX5_shadeFieldsOf_24 : decode cX5_shadeFieldsOf 24 = .ok (.goto (-22), 3) := by decide +kernel
theorem dX5_shadeFieldsOf_27 : decode cX5_shadeFieldsOf 27 = .ok (.return_, 1) := by decide +kernel
theorem dX5_shadeHeld_0 : decode cX5_shadeHeld 0 = .ok (.iconst 0, 1) := by decide +kernel
theorem dX5_shadeHeld_1 : decode cX5_shadeHeld 1 = .ok (.istore_n 1, 1) := by decide +kernel
theorem dX5_shadeHeld_2 : decode cX5_shadeHeld 2 = .ok (.iload_n 1, 1) := by decide +kernel
theorem dX5_shadeHeld_3 : decode cX5_shadeHeld 3 = .ok (.bipush 16, 2) := by decide +kernel
theorem dX5_shadeHeld_5 : decode cX5_shadeHeld 5 = .ok (.aload_n 0, 1) := by decide +kernel
theorem dX5_shadeHeld_6 : decode cX5_shadeHeld 6 = .ok (.getfield 26, 3) := by decide +kernel
theorem dX5_shadeHeld_9 : decode cX5_shadeHeld 9 = .ok (.getfield 171, 3) := by decide +kernel
theorem dX5_shadeHeld_12 : decode cX5_shadeHeld 12 = .ok (.iadd, 1) := by decide +kernel
theorem dX5_shadeHeld_13 : decode cX5_shadeHeld 13 = .ok (.if_icmp .ge 21, 3) := by decide +kernel
theorem dX5_shadeHeld_16 : decode cX5_shadeHeld 16 = .ok (.aload_n 0, 1) := by decide +kernel
theorem dX5_shadeHeld_17 : decode cX5_shadeHeld 17 = .ok (.aload_n 0, 1) := by decide +kernel
theorem dX5_shadeHeld_18 : decode cX5_shadeHeld 18 = .ok (.getfield 26, 3) := by decide +kernel
theorem dX5_shadeHeld_21 : decode cX5_shadeHeld 21 = .ok (.iload_n 1, 1) := by decide +kernel
theorem dX5_shadeHeld_22 : decode cX5_shadeHeld 22 = .ok (.invokevirtual 148, 3) := by decide +kernel
theorem dX5_shadeHeld_25 : decode cX5_shadeHeld 25 = .ok (.invokevirtual 177, 3) := by decide +kernel
theorem dX5_shadeHeld_28 : decode cX5_shadeHeld 28 = .ok (.iinc 1 1, 3) := by decide +kernel
theorem dX5_shadeHeld_31 : decode cX5_shadeHeld 31 = .ok (.goto (-29), 3) := by decide +kernel
theorem dX5_shadeHeld_34 : decode cX5_shadeHeld 34 = .ok (.return_, 1) := by decide +kernel
theorem dX5_shadeValues_0 : decode cX5_shadeValues 0 = .ok (.iconst 0, 1) := by decide +kernel
theorem dX5_shadeValues_1 : decode cX5_shadeValues 1 = .ok (.istore_n 1, 1) := by decide +kernel
theorem dX5_shadeValues_2 : decode cX5_shadeValues 2 = .ok (.iload_n 1, 1) := by decide +kernel
theorem dX5_shadeValues_3 : decode cX5_shadeValues 3 = .ok (.aload_n 0, 1) := by decide +kernel
theorem dX5_shadeValues_4 : decode cX5_shadeValues 4 = .ok (.getfield 33, 3) := by decide +kernel
theorem dX5_shadeValues_7 : decode cX5_shadeValues 7 = .ok (.getfield 76, 3) := by decide +kernel
theorem dX5_shadeValues_10 : decode cX5_shadeValues 10 = .ok (.if_icmp .ge 46, 3) := by decide +kernel
theorem dX5_shadeValues_13 : decode cX5_shadeValues 13 = .ok (.aload_n 0, 1) := by decide +kernel
theorem dX5_shadeValues_14 : decode cX5_shadeValues 14 = .ok (.getfield 33, 3) := by decide +kernel
theorem dX5_shadeValues_17 : decode cX5_shadeValues 17 = .ok (.iload_n 1, 1) := by decide +kernel
theorem dX5_shadeValues_18 : decode cX5_shadeValues 18 = .ok (.invokevirtual 226, 3) := by decide +kernel
theorem dX5_shadeValues_21 : decode cX5_shadeValues 21 = .ok (.istore_n 2, 1) := by decide +kernel
theorem dX5_shadeValues_22 : decode cX5_shadeValues 22 = .ok (.iload_n 2, 1) := by decide +kernel
theorem dX5_shadeValues_23 : decode cX5_shadeValues 23 = .ok (.iconst (-1), 1) := by decide +kernel
theorem dX5_shadeValues_24 : decode cX5_shadeValues 24 = .ok (.if_icmp .eq 26, 3) := by decide +kernel
theorem dX5_shadeValues_27 : decode cX5_shadeValues 27 = .ok (.aload_n 0, 1) := by decide +kernel
theorem dX5_shadeValues_28 : decode cX5_shadeValues 28 = .ok (.getfield 12, 3) := by decide +kernel
theorem dX5_shadeValues_31 : decode cX5_shadeValues 31 = .ok (.iload_n 2, 1) := by decide +kernel
theorem dX5_shadeValues_32 : decode cX5_shadeValues 32 = .ok (.invokevirtual 229, 3) := by decide +kernel
theorem dX5_shadeValues_35 : decode cX5_shadeValues 35 = .ok (.ifCond .ne 15, 3) := by decide +kernel
theorem dX5_shadeValues_38 : decode cX5_shadeValues 38 = .ok (.aload_n 0, 1) := by decide +kernel
theorem dX5_shadeValues_39 : decode cX5_shadeValues 39 = .ok (.aload_n 0, 1) := by decide +kernel
theorem dX5_shadeValues_40 : decode cX5_shadeValues 40 = .ok (.getfield 33, 3) := by decide +kernel
theorem dX5_shadeValues_43 : decode cX5_shadeValues 43 = .ok (.iload_n 1, 1) := by decide +kernel
theorem dX5_shadeValues_44 : decode cX5_shadeValues 44 = .ok (.invokevirtual 168, 3) := by decide +kernel
theorem dX5_shadeValues_47 : decode cX5_shadeValues 47 = .ok (.invokevirtual 177, 3) := by decide +kernel
theorem dX5_shadeValues_50 : decode cX5_shadeValues 50 = .ok (.iinc 1 1, 3) := by decide +kernel
theorem dX5_shadeValues_53 : decode cX5_shadeValues 53 = .ok (.goto (-51), 3) := by decide +kernel
theorem dX5_shadeValues_56 : decode cX5_shadeValues 56 = .ok (.return_, 1) := by decide +kernel
theorem dX5_grantWishes_0 : decode cX5_grantWishes 0 = .ok (.iconst 0, 1) := by decide +kernel
theorem dX5_grantWishes_1 : decode cX5_grantWishes 1 = .ok (.istore_n 1, 1) := by decide +kernel
theorem dX5_grantWishes_2 : decode cX5_grantWishes 2 = .ok (.iload_n 1, 1) := by decide +kernel
theorem dX5_grantWishes_3 : decode cX5_grantWishes 3 = .ok (.aload_n 0, 1) := by decide +kernel
theorem dX5_grantWishes_4 : decode cX5_grantWishes 4 = .ok (.getfield 12, 3) := by decide +kernel
theorem dX5_grantWishes_7 : decode cX5_grantWishes 7 = .ok (.getfield 48, 3) := by decide +kernel
theorem dX5_grantWishes_10 : decode cX5_grantWishes 10 = .ok (.if_icmp .ge 63, 3) := by decide +kernel
theorem dX5_grantWishes_13 : decode cX5_grantWishes 13 = .ok (.aload_n 0, 1) := by decide +kernel
theorem dX5_grantWishes_14 : decode cX5_grantWishes 14 = .ok (.getfield 12, 3) := by decide +kernel
theorem dX5_grantWishes_17 : decode cX5_grantWishes 17 = .ok (.iload_n 1, 1) := by decide +kernel
theorem dX5_grantWishes_18 : decode cX5_grantWishes 18 = .ok (.invokevirtual 232, 3) := by decide +kernel
theorem dX5_grantWishes_21 : decode cX5_grantWishes 21 = .ok (.ifCond .eq 46, 3) := by decide +kernel
theorem dX5_grantWishes_24 : decode cX5_grantWishes 24 = .ok (.aload_n 0, 1) := by decide +kernel
theorem dX5_grantWishes_25 : decode cX5_grantWishes 25 = .ok (.getfield 12, 3) := by decide +kernel
theorem dX5_grantWishes_28 : decode cX5_grantWishes 28 = .ok (.iload_n 1, 1) := by decide +kernel
theorem dX5_grantWishes_29 : decode cX5_grantWishes 29 = .ok (.invokevirtual 229, 3) := by decide +kernel
theorem dX5_grantWishes_32 : decode cX5_grantWishes 32 = .ok (.ifCond .eq 35, 3) := by decide +kernel
theorem dX5_grantWishes_35 : decode cX5_grantWishes 35 = .ok (.aload_n 0, 1) := by decide +kernel
theorem dX5_grantWishes_36 : decode cX5_grantWishes 36 = .ok (.getfield 12, 3) := by decide +kernel
theorem dX5_grantWishes_39 : decode cX5_grantWishes 39 = .ok (.iload_n 1, 1) := by decide +kernel
theorem dX5_grantWishes_40 : decode cX5_grantWishes 40 = .ok (.invokevirtual 141, 3) := by decide +kernel
theorem dX5_grantWishes_43 : decode cX5_grantWishes 43 = .ok (.ifCond .ne 24, 3) := by decide +kernel
theorem dX5_grantWishes_46 : decode cX5_grantWishes 46 = .ok (.aload_n 0, 1) := by decide +kernel
theorem dX5_grantWishes_47 : decode cX5_grantWishes 47 = .ok (.getfield 12, 3) := by decide +kernel
theorem dX5_grantWishes_50 : decode cX5_grantWishes 50 = .ok (.iload_n 1, 1) := by decide +kernel
theorem dX5_grantWishes_51 : decode cX5_grantWishes 51 = .ok (.invokevirtual 235, 3) := by decide +kernel
theorem dX5_grantWishes_54 : decode cX5_grantWishes 54 = .ok (.aload_n 0, 1) := by decide +kernel
theorem dX5_grantWishes_55 : decode cX5_grantWishes 55 = .ok (.getfield 26, 3) := by decide +kernel
theorem dX5_grantWishes_58 : decode cX5_grantWishes 58 = .ok (.iload_n 1, 1) := by decide +kernel
theorem dX5_grantWishes_59 : decode cX5_grantWishes 59 = .ok (.invokevirtual 238, 3) := by decide +kernel
theorem dX5_grantWishes_62 : decode cX5_grantWishes 62 = .ok (.aload_n 0, 1) := by decide +kernel
theorem dX5_grantWishes_63 : decode cX5_grantWishes 63 = .ok (.iload_n 1, 1) := by decide +kernel
theorem dX5_grantWishes_64 : decode cX5_grantWishes 64 = .ok (.invokevirtual 177, 3) := by decide +kernel
theorem dX5_grantWishes_67 : decode cX5_grantWishes 67 = .ok (.iinc 1 1, 3) := by decide +kernel
theorem dX5_grantWishes_70 : decode cX5_grantWishes 70 = .ok (.goto (-68), 3) := by decide +kernel
theorem dX5_grantWishes_73 : decode cX5_grantWishes 73 = .ok (.return_, 1) := by decide +kernel
theorem dX5_shade_0 : decode cX5_shade 0 = .ok (.aload_n 0, 1) := by decide +kernel
theorem dX5_shade_1 : decode cX5_shade 1 = .ok (.getfield 12, 3) := by decide +kernel
theorem dX5_shade_4 : decode cX5_shade 4 = .ok (.iload_n 1, 1) := by decide +kernel
theorem dX5_shade_5 : decode cX5_shade 5 = .ok (.invokevirtual 229, 3) := by decide +kernel
theorem dX5_shade_8 : decode cX5_shade 8 = .ok (.ifCond .eq 14, 3) := by decide +kernel
theorem dX5_shade_11 : decode cX5_shade 11 = .ok (.aload_n 0, 1) := by decide +kernel
theorem dX5_shade_12 : decode cX5_shade 12 = .ok (.getfield 12, 3) := by decide +kernel
theorem dX5_shade_15 : decode cX5_shade 15 = .ok (.iload_n 1, 1) := by decide +kernel
theorem dX5_shade_16 : decode cX5_shade 16 = .ok (.invokevirtual 141, 3) := by decide +kernel
theorem dX5_shade_19 : decode cX5_shade 19 = .ok (.ifCond .eq 4, 3) := by decide +kernel
theorem dX5_shade_22 : decode cX5_shade 22 = .ok (.return_, 1) := by decide +kernel
theorem dX5_shade_23 : decode cX5_shade 23 = .ok (.aload_n 0, 1) := by decide +kernel
theorem dX5_shade_24 : decode cX5_shade 24 = .ok (.getfield 12, 3) := by decide +kernel
theorem dX5_shade_27 : decode cX5_shade 27 = .ok (.iload_n 1, 1) := by decide +kernel
theorem dX5_shade_28 : decode cX5_shade 28 = .ok (.iconst 1, 1) := by decide +kernel
theorem dX5_shade_29 : decode cX5_shade 29 = .ok (.invokevirtual 214, 3) := by decide +kernel
theorem dX5_shade_32 : decode cX5_shade 32 = .ok (.aload_n 0, 1) := by decide +kernel
theorem dX5_shade_33 : decode cX5_shade 33 = .ok (.dup, 1) := by decide +kernel
theorem dX5_shade_34 : decode cX5_shade 34 = .ok (.getfield 70, 3) := by decide +kernel
theorem dX5_shade_37 : decode cX5_shade 37 = .ok (.iconst 1, 1) := by decide +kernel
theorem dX5_shade_38 : decode cX5_shade 38 = .ok (.iadd, 1) := by decide +kernel
theorem dX5_shade_39 : decode cX5_shade 39 = .ok (.putfield 70, 3) := by decide +kernel
theorem dX5_shade_42 : decode cX5_shade 42 = .ok (.aload_n 0, 1) := by decide +kernel
theorem dX5_shade_43 : decode cX5_shade 43 = .ok (.getfield 52, 3) := by decide +kernel
theorem dX5_shade_46 : decode cX5_shade 46 = .ok (.iconst 3, 1) := by decide +kernel
theorem dX5_shade_47 : decode cX5_shade 47 = .ok (.if_icmp .ne 68, 3) := by decide +kernel
theorem dX5_shade_50 : decode cX5_shade 50 = .ok (.aload_n 0, 1) := by decide +kernel
theorem dX5_shade_51 : decode cX5_shade 51 = .ok (.getfield 19, 3) := by decide +kernel
theorem dX5_shade_54 : decode cX5_shade 54 = .ok (.aload_n 0, 1) := by decide +kernel
theorem dX5_shade_55 : decode cX5_shade 55 = .ok (.getfield 12, 3) := by decide +kernel
theorem dX5_shade_58 : decode cX5_shade 58 = .ok (.iload_n 1, 1) := by decide +kernel
theorem dX5_shade_59 : decode cX5_shade 59 = .ok (.invokevirtual 241, 3) := by decide +kernel
theorem dX5_shade_62 : decode cX5_shade 62 = .ok (.aload_n 0, 1) := by decide +kernel
theorem dX5_shade_63 : decode cX5_shade 63 = .ok (.getfield 12, 3) := by decide +kernel
theorem dX5_shade_66 : decode cX5_shade 66 = .ok (.iload_n 1, 1) := by decide +kernel
theorem dX5_shade_67 : decode cX5_shade 67 = .ok (.invokevirtual 244, 3) := by decide +kernel
theorem dX5_shade_70 : decode cX5_shade 70 = .ok (.iconst (-1), 1) := by decide +kernel
theorem dX5_shade_71 : decode cX5_shade 71 = .ok (.invokevirtual 99, 3) := by decide +kernel
theorem dX5_shade_74 : decode cX5_shade 74 = .ok (.aload_n 0, 1) := by decide +kernel
theorem dX5_shade_75 : decode cX5_shade 75 = .ok (.getfield 12, 3) := by decide +kernel
theorem dX5_shade_78 : decode cX5_shade 78 = .ok (.iload_n 1, 1) := by decide +kernel
theorem dX5_shade_79 : decode cX5_shade 79 = .ok (.aload_n 0, 1) := by decide +kernel
theorem dX5_shade_80 : decode cX5_shade 80 = .ok (.getfield 19, 3) := by decide +kernel
theorem dX5_shade_83 : decode cX5_shade 83 = .ok (.getfield 119, 3) := by decide +kernel
theorem dX5_shade_86 : decode cX5_shade 86 = .ok (.invokevirtual 247, 3) := by decide +kernel
theorem dX5_shade_89 : decode cX5_shade 89 = .ok (.aload_n 0, 1) := by decide +kernel
theorem dX5_shade_90 : decode cX5_shade 90 = .ok (.getfield 19, 3) := by decide +kernel
theorem dX5_shade_93 : decode cX5_shade 93 = .ok (.aload_n 0, 1) := by decide +kernel
theorem dX5_shade_94 : decode cX5_shade 94 = .ok (.getfield 12, 3) := by decide +kernel
theorem dX5_shade_97 : decode cX5_shade 97 = .ok (.iload_n 1, 1) := by decide +kernel
theorem dX5_shade_98 : decode cX5_shade 98 = .ok (.invokevirtual 244, 3) := by decide +kernel
theorem dX5_shade_101 : decode cX5_shade 101 = .ok (.iload_n 1, 1) := by decide +kernel
theorem dX5_shade_102 : decode cX5_shade 102 = .ok (.invokevirtual 96, 3) := by decide +kernel
theorem dX5_shade_105 : decode cX5_shade 105 = .ok (.aload_n 0, 1) := by decide +kernel
theorem dX5_shade_106 : decode cX5_shade 106 = .ok (.dup, 1) := by decide +kernel
theorem dX5_shade_107 : decode cX5_shade 107 = .ok (.getfield 73, 3) := by decide +kernel
theorem dX5_shade_110 : decode cX5_shade 110 = .ok (.iconst 1, 1) := by decide +kernel
theorem dX5_shade_111 : decode cX5_shade 111 = .ok (.iadd, 1) := by decide +kernel
theorem dX5_shade_112 : decode cX5_shade 112 = .ok (.putfield 73, 3) := by decide +kernel
theorem dX5_shade_115 : decode cX5_shade 115 = .ok (.return_, 1) := by decide +kernel
theorem dX5_endMarking_0 : decode cX5_endMarking 0 = .ok (.iconst 0, 1) := by decide +kernel
theorem dX5_endMarking_1 : decode cX5_endMarking 1 = .ok (.istore_n 1, 1) := by decide +kernel
theorem dX5_endMarking_2 : decode cX5_endMarking 2 = .ok (.iload_n 1, 1) := by decide +kernel
theorem dX5_endMarking_3 : decode cX5_endMarking 3 = .ok (.bipush 6, 2) := by decide +kernel
theorem dX5_endMarking_5 : decode cX5_endMarking 5 = .ok (.if_icmp .ge 36, 3) := by decide +kernel
theorem dX5_endMarking_8 : decode cX5_endMarking 8 = .ok (.aload_n 0, 1) := by decide +kernel
theorem dX5_endMarking_9 : decode cX5_endMarking 9 = .ok (.getfield 12, 3) := by decide +kernel
theorem dX5_endMarking_12 : decode cX5_endMarking 12 = .ok (.aload_n 0, 1) := by decide +kernel
theorem dX5_endMarking_13 : decode cX5_endMarking 13 = .ok (.getfield 26, 3) := by decide +kernel
theorem dX5_endMarking_16 : decode cX5_endMarking 16 = .ok (.iload_n 1, 1) := by decide +kernel
theorem dX5_endMarking_17 : decode cX5_endMarking 17 = .ok (.invokevirtual 157, 3) := by decide +kernel
theorem dX5_endMarking_20 : decode cX5_endMarking 20 = .ok (.invokevirtual 229, 3) := by decide +kernel
theorem dX5_endMarking_23 : decode cX5_endMarking 23 = .ok (.ifCond .eq 12, 3) := by decide +kernel
theorem dX5_endMarking_26 : decode cX5_endMarking 26 = .ok (.aload_n 0, 1) := by decide +kernel
theorem dX5_endMarking_27 : decode cX5_endMarking 27 = .ok (.getfield 26, 3) := by decide +kernel
theorem dX5_endMarking_30 : decode cX5_endMarking 30 = .ok (.iload_n 1, 1) := by decide +kernel
theorem dX5_endMarking_31 : decode cX5_endMarking 31 = .ok (.iconst (-1), 1) := by decide +kernel
theorem dX5_endMarking_32 : decode cX5_endMarking 32 = .ok (.invokevirtual 154, 3) := by decide +kernel
theorem dX5_endMarking_35 : decode cX5_endMarking 35 = .ok (.iinc 1 1, 3) := by decide +kernel
theorem dX5_endMarking_38 : decode cX5_endMarking 38 = .ok (.goto (-36), 3) := by decide +kernel
theorem dX5_endMarking_41 : decode cX5_endMarking 41 = .ok (.iconst 0, 1) := by decide +kernel
theorem dX5_endMarking_42 : decode cX5_endMarking 42 = .ok (.istore_n 1, 1) := by decide +kernel
theorem dX5_endMarking_43 : decode cX5_endMarking 43 = .ok (.iload_n 1, 1) := by decide +kernel
theorem dX5_endMarking_44 : decode cX5_endMarking 44 = .ok (.aload_n 0, 1) := by decide +kernel
theorem dX5_endMarking_45 : decode cX5_endMarking 45 = .ok (.getfield 33, 3) := by decide +kernel
theorem dX5_endMarking_48 : decode cX5_endMarking 48 = .ok (.getfield 76, 3) := by decide +kernel
theorem dX5_endMarking_51 : decode cX5_endMarking 51 = .ok (.if_icmp .ge 35, 3) := by decide +kernel
theorem dX5_endMarking_54 : decode cX5_endMarking 54 = .ok (.aload_n 0, 1) := by decide +kernel
theorem dX5_endMarking_55 : decode cX5_endMarking 55 = .ok (.getfield 12, 3) := by decide +kernel
theorem dX5_endMarking_58 : decode cX5_endMarking 58 = .ok (.aload_n 0, 1) := by decide +kernel
theorem dX5_endMarking_59 : decode cX5_endMarking 59 = .ok (.getfield 33, 3) := by decide +kernel
theorem dX5_endMarking_62 : decode cX5_endMarking 62 = .ok (.iload_n 1, 1) := by decide +kernel
theorem dX5_endMarking_63 : decode cX5_endMarking 63 = .ok (.invokevirtual 226, 3) := by decide +kernel
theorem dX5_endMarking_66 : decode cX5_endMarking 66 = .ok (.invokevirtual 229, 3) := by decide +kernel
theorem dX5_endMarking_69 : decode cX5_endMarking 69 = .ok (.ifCond .eq 11, 3) := by decide +kernel
theorem dX5_endMarking_72 : decode cX5_endMarking 72 = .ok (.aload_n 0, 1) := by decide +kernel
theorem dX5_endMarking_73 : decode cX5_endMarking 73 = .ok (.getfield 33, 3) := by decide +kernel
theorem dX5_endMarking_76 : decode cX5_endMarking 76 = .ok (.iload_n 1, 1) := by decide +kernel
theorem dX5_endMarking_77 : decode cX5_endMarking 77 = .ok (.invokevirtual 250, 3) := by decide +kernel
theorem dX5_endMarking_80 : decode cX5_endMarking 80 = .ok (.iinc 1 1, 3) := by decide +kernel
theorem dX5_endMarking_83 : decode cX5_endMarking 83 = .ok (.goto (-40), 3) := by decide +kernel
theorem dX5_endMarking_86 : decode cX5_endMarking 86 = .ok (.aload_n 0, 1) := by decide +kernel
theorem dX5_endMarking_87 : decode cX5_endMarking 87 = .ok (.iconst 2, 1) := by decide +kernel
theorem dX5_endMarking_88 : decode cX5_endMarking 88 = .ok (.putfield 58, 3) := by decide +kernel
theorem dX5_endMarking_91 : decode cX5_endMarking 91 = .ok (.aload_n 0, 1) := by decide +kernel
theorem dX5_endMarking_92 : decode cX5_endMarking 92 = .ok (.iconst 0, 1) := by decide +kernel
theorem dX5_endMarking_93 : decode cX5_endMarking 93 = .ok (.putfield 61, 3) := by decide +kernel
theorem dX5_endMarking_96 : decode cX5_endMarking 96 = .ok (.aload_n 0, 1) := by decide +kernel
theorem dX5_endMarking_97 : decode cX5_endMarking 97 = .ok (.getfield 52, 3) := by decide +kernel
theorem dX5_endMarking_100 : decode cX5_endMarking 100 = .ok (.iconst 3, 1) := by decide +kernel
theorem dX5_endMarking_101 : decode cX5_endMarking 101 = .ok (.if_icmp .ne 31, 3) := by decide +kernel
theorem dX5_endMarking_104 : decode cX5_endMarking 104 = .ok (.iconst 0, 1) := by decide +kernel
theorem dX5_endMarking_105 : decode cX5_endMarking 105 = .ok (.istore_n 1, 1) := by decide +kernel
theorem dX5_endMarking_106 : decode cX5_endMarking 106 = .ok (.iload_n 1, 1) := by decide +kernel
theorem dX5_endMarking_107 : decode cX5_endMarking 107 = .ok (.aload_n 0, 1) := by decide +kernel
theorem dX5_endMarking_108 : decode cX5_endMarking 108 = .ok (.getfield 12, 3) := by decide +kernel
theorem dX5_endMarking_111 : decode cX5_endMarking 111 = .ok (.getfield 48, 3) := by decide +kernel
theorem dX5_endMarking_114 : decode cX5_endMarking 114 = .ok (.if_icmp .ge 14, 3) := by decide +kernel
theorem dX5_endMarking_117 : decode cX5_endMarking 117 = .ok (.aload_n 0, 1) := by decide +kernel
theorem dX5_endMarking_118 : decode cX5_endMarking 118 = .ok (.iload_n 1, 1) := by decide +kernel
theorem dX5_endMarking_119 : decode cX5_endMarking 119 = .ok (.invokevirtual 253, 3) := by decide +kernel
theorem dX5_endMarking_122 : decode cX5_endMarking 122 = .ok (.iinc 1 1, 3) := by decide +kernel
theorem dX5_endMarking_125 : decode cX5_endMarking 125 = .ok (.goto (-19), 3) := by decide +kernel
theorem dX5_endMarking_128 : decode cX5_endMarking 128 = .ok (.aload_n 0, 1) := by decide +kernel
theorem dX5_endMarking_129 : decode cX5_endMarking 129 = .ok (.invokevirtual 256, 3) := by decide +kernel
theorem dX5_endMarking_132 : decode cX5_endMarking 132 = .ok (.return_, 1) := by decide +kernel
theorem dX5_sweepStep_0 : decode cX5_sweepStep 0 = .ok (.aload_n 0, 1) := by decide +kernel
theorem dX5_sweepStep_1 : decode cX5_sweepStep 1 = .ok (.getfield 12, 3) := by decide +kernel
theorem dX5_sweepStep_4 : decode cX5_sweepStep 4 = .ok (.aload_n 0, 1) := by decide +kernel
theorem dX5_sweepStep_5 : decode cX5_sweepStep 5 = .ok (.getfield 61, 3) := by decide +kernel
theorem dX5_sweepStep_8 : decode cX5_sweepStep 8 = .ok (.invokevirtual 259, 3) := by decide +kernel
theorem dX5_sweepStep_11 : decode cX5_sweepStep 11 = .ok (.istore_n 1, 1) := by decide +kernel
theorem dX5_sweepStep_12 : decode cX5_sweepStep 12 = .ok (.iload_n 1, 1) := by decide +kernel
theorem dX5_sweepStep_13 : decode cX5_sweepStep 13 = .ok (.iconst (-1), 1) := by decide +kernel
theorem dX5_sweepStep_14 : decode cX5_sweepStep 14 = .ok (.if_icmp .ne 8, 3) := by decide +kernel
theorem dX5_sweepStep_17 : decode cX5_sweepStep 17 = .ok (.aload_n 0, 1) := by decide +kernel
theorem dX5_sweepStep_18 : decode cX5_sweepStep 18 = .ok (.invokevirtual 256, 3) := by decide +kernel
theorem dX5_sweepStep_21 : decode cX5_sweepStep 21 = .ok (.return_, 1) := by decide +kernel
theorem dX5_sweepStep_22 : decode cX5_sweepStep 22 = .ok (.aload_n 0, 1) := by decide +kernel
theorem dX5_sweepStep_23 : decode cX5_sweepStep 23 = .ok (.iload_n 1, 1) := by decide +kernel
theorem dX5_sweepStep_24 : decode cX5_sweepStep 24 = .ok (.invokevirtual 253, 3) := by decide +kernel
theorem dX5_sweepStep_27 : decode cX5_sweepStep 27 = .ok (.aload_n 0, 1) := by decide +kernel
theorem dX5_sweepStep_28 : decode cX5_sweepStep 28 = .ok (.iload_n 1, 1) := by decide +kernel
theorem dX5_sweepStep_29 : decode cX5_sweepStep 29 = .ok (.iconst 1, 1) := by decide +kernel
theorem dX5_sweepStep_30 : decode cX5_sweepStep 30 = .ok (.iadd, 1) := by decide +kernel
theorem dX5_sweepStep_31 : decode cX5_sweepStep 31 = .ok (.putfield 61, 3) := by decide +kernel
theorem dX5_sweepStep_34 : decode cX5_sweepStep 34 = .ok (.return_, 1) := by decide +kernel
theorem dX5_freeIfWhite_0 : decode cX5_freeIfWhite 0 = .ok (.aload_n 0, 1) := by decide +kernel
theorem dX5_freeIfWhite_1 : decode cX5_freeIfWhite 1 = .ok (.getfield 12, 3) := by decide +kernel
theorem dX5_freeIfWhite_4 : decode cX5_freeIfWhite 4 = .ok (.iload_n 1, 1) := by decide +kernel
theorem dX5_freeIfWhite_5 : decode cX5_freeIfWhite 5 = .ok (.invokevirtual 229, 3) := by decide +kernel
theorem dX5_freeIfWhite_8 : decode cX5_freeIfWhite 8 = .ok (.ifCond .eq 46, 3) := by decide +kernel
theorem dX5_freeIfWhite_11 : decode cX5_freeIfWhite 11 = .ok (.aload_n 0, 1) := by decide +kernel
theorem dX5_freeIfWhite_12 : decode cX5_freeIfWhite 12 = .ok (.getfield 12, 3) := by decide +kernel
theorem dX5_freeIfWhite_15 : decode cX5_freeIfWhite 15 = .ok (.iload_n 1, 1) := by decide +kernel
theorem dX5_freeIfWhite_16 : decode cX5_freeIfWhite 16 = .ok (.invokevirtual 141, 3) := by decide +kernel
theorem dX5_freeIfWhite_19 : decode cX5_freeIfWhite 19 = .ok (.ifCond .ne 35, 3) := by decide +kernel
theorem dX5_freeIfWhite_22 : decode cX5_freeIfWhite 22 = .ok (.aload_n 0, 1) := by decide +kernel
theorem dX5_freeIfWhite_23 : decode cX5_freeIfWhite 23 = .ok (.getfield 19, 3) := by decide +kernel
theorem dX5_freeIfWhite_26 : decode cX5_freeIfWhite 26 = .ok (.aload_n 0, 1) := by decide +kernel
theorem dX5_freeIfWhite_27 : decode cX5_freeIfWhite 27 = .ok (.getfield 12, 3) := by decide +kernel
theorem dX5_freeIfWhite_30 : decode cX5_freeIfWhite 30 = .ok (.iload_n 1, 1) := by decide +kernel
theorem dX5_freeIfWhite_31 : decode cX5_freeIfWhite 31 = .ok (.invokevirtual 241, 3) := by decide +kernel
theorem dX5_freeIfWhite_34 : decode cX5_freeIfWhite 34 = .ok (.aload_n 0, 1) := by decide +kernel
theorem dX5_freeIfWhite_35 : decode cX5_freeIfWhite 35 = .ok (.getfield 12, 3) := by decide +kernel
theorem dX5_freeIfWhite_38 : decode cX5_freeIfWhite 38 = .ok (.iload_n 1, 1) := by decide +kernel
theorem dX5_freeIfWhite_39 : decode cX5_freeIfWhite 39 = .ok (.invokevirtual 244, 3) := by decide +kernel
theorem dX5_freeIfWhite_42 : decode cX5_freeIfWhite 42 = .ok (.iconst (-1), 1) := by decide +kernel
theorem dX5_freeIfWhite_43 : decode cX5_freeIfWhite 43 = .ok (.invokevirtual 99, 3) := by decide +kernel
theorem dX5_freeIfWhite_46 : decode cX5_freeIfWhite 46 = .ok (.aload_n 0, 1) := by decide +kernel
theorem dX5_freeIfWhite_47 : decode cX5_freeIfWhite 47 = .ok (.getfield 12, 3) := by decide +kernel
theorem dX5_freeIfWhite_50 : decode cX5_freeIfWhite 50 = .ok (.iload_n 1, 1) := by decide +kernel
theorem dX5_freeIfWhite_51 : decode cX5_freeIfWhite 51 = .ok (.invokevirtual 262, 3) := by decide +kernel
theorem dX5_freeIfWhite_54 : decode cX5_freeIfWhite 54 = .ok (.return_, 1) := by decide +kernel
theorem dX5_endRound_0 : decode cX5_endRound 0 = .ok (.aload_n 0, 1) := by decide +kernel
theorem dX5_endRound_1 : decode cX5_endRound 1 = .ok (.iconst 0, 1) := by decide +kernel
theorem dX5_endRound_2 : decode cX5_endRound 2 = .ok (.putfield 58, 3) := by decide +kernel
theorem dX5_endRound_5 : decode cX5_endRound 5 = .ok (.aload_n 0, 1) := by decide +kernel
theorem dX5_endRound_6 : decode cX5_endRound 6 = .ok (.dup, 1) := by decide +kernel
theorem dX5_endRound_7 : decode cX5_endRound 7 = .ok (.getfield 64, 3) := by decide +kernel
theorem dX5_endRound_10 : decode cX5_endRound 10 = .ok (.iconst 1, 1) := by decide +kernel
theorem dX5_endRound_11 : decode cX5_endRound 11 = .ok (.iadd, 1) := by decide +kernel
theorem dX5_endRound_12 : decode cX5_endRound 12 = .ok (.putfield 64, 3) := by decide +kernel
theorem dX5_endRound_15 : decode cX5_endRound 15 = .ok (.return_, 1) := by decide +kernel
theorem dX5_about_0 : decode cX5_about 0 = .ok (.aload_n 0, 1) := by decide +kernel
theorem dX5_about_1 : decode cX5_about 1 = .ok (.getfield 12, 3) := by decide +kernel
theorem dX5_about_4 : decode cX5_about 4 = .ok (.iload_n 1, 1) := by decide +kernel
theorem dX5_about_5 : decode cX5_about 5 = .ok (.invokevirtual 265, 3) := by decide +kernel
theorem dX5_about_8 : decode cX5_about 8 = .ok (.ifCond .ne 6, 3) := by decide +kernel
theorem dX5_about_11 : decode cX5_about 11 = .ok (.bipush (-2), 2) := by decide +kernel
theorem dX5_about_13 : decode cX5_about 13 = .ok (.ireturn, 1) := by decide +kernel
theorem dX5_about_14 : decode cX5_about 14 = .ok (.iload_n 2, 1) := by decide +kernel
theorem dX5_about_15 : decode cX5_about 15 = .ok (.tableswitch 125 0 6 #[41, 50, 59, 68, 85, 99, 116], 41) := by decide +kernel
theorem dX5_about_56 : decode cX5_about 56 = .ok (.aload_n 0, 1) := by decide +kernel
theorem dX5_about_57 : decode cX5_about 57 = .ok (.getfield 12, 3) := by decide +kernel
theorem dX5_about_60 : decode cX5_about 60 = .ok (.iload_n 1, 1) := by decide +kernel
theorem dX5_about_61 : decode cX5_about 61 = .ok (.invokevirtual 268, 3) := by decide +kernel
theorem dX5_about_64 : decode cX5_about 64 = .ok (.ireturn, 1) := by decide +kernel
theorem dX5_about_65 : decode cX5_about 65 = .ok (.aload_n 0, 1) := by decide +kernel
theorem dX5_about_66 : decode cX5_about 66 = .ok (.getfield 12, 3) := by decide +kernel
theorem dX5_about_69 : decode cX5_about 69 = .ok (.iload_n 1, 1) := by decide +kernel
theorem dX5_about_70 : decode cX5_about 70 = .ok (.invokevirtual 241, 3) := by decide +kernel
theorem dX5_about_73 : decode cX5_about 73 = .ok (.ireturn, 1) := by decide +kernel
theorem dX5_about_74 : decode cX5_about 74 = .ok (.aload_n 0, 1) := by decide +kernel
theorem dX5_about_75 : decode cX5_about 75 = .ok (.getfield 12, 3) := by decide +kernel
theorem dX5_about_78 : decode cX5_about 78 = .ok (.iload_n 1, 1) := by decide +kernel
theorem dX5_about_79 : decode cX5_about 79 = .ok (.invokevirtual 271, 3) := by decide +kernel
theorem dX5_about_82 : decode cX5_about 82 = .ok (.ireturn, 1) := by decide +kernel
theorem dX5_about_83 : decode cX5_about 83 = .ok (.aload_n 0, 1) := by decide +kernel
theorem dX5_about_84 : decode cX5_about 84 = .ok (.getfield 12, 3) := by decide +kernel
theorem dX5_about_87 : decode cX5_about 87 = .ok (.iload_n 1, 1) := by decide +kernel
theorem dX5_about_88 : decode cX5_about 88 = .ok (.invokevirtual 141, 3) := by decide +kernel
theorem dX5_about_91 : decode cX5_about 91 = .ok (.ifCond .eq 7, 3) := by decide +kernel
theorem dX5_about_94 : decode cX5_about 94 = .ok (.iconst 1, 1) := by decide +kernel
theorem dX5_about_95 : decode cX5_about 95 = .ok (.goto 4, 3) := by decide +kernel
theorem dX5_about_98 : decode cX5_about 98 = .ok (.iconst 0, 1) := by decide +kernel
theorem dX5_about_99 : decode cX5_about 99 = .ok (.ireturn, 1) := by decide +kernel
theorem dX5_about_100 : decode cX5_about 100 = .ok (.aload_n 0, 1) := by decide +kernel
theorem dX5_about_101 : decode cX5_about 101 = .ok (.iload_n 1, 1) := by decide +kernel
theorem dX5_about_102 : decode cX5_about 102 = .ok (.invokevirtual 274, 3) := by decide +kernel
theorem dX5_about_105 : decode cX5_about 105 = .ok (.ifCond .eq 7, 3) := by decide +kernel
theorem dX5_about_108 : decode cX5_about 108 = .ok (.iconst 1, 1) := by decide +kernel
theorem dX5_about_109 : decode cX5_about 109 = .ok (.goto 4, 3) := by decide +kernel
theorem dX5_about_112 : decode cX5_about 112 = .ok (.iconst 0, 1) := by decide +kernel
theorem dX5_about_113 : decode cX5_about 113 = .ok (.ireturn, 1) := by decide +kernel
theorem dX5_about_114 : decode cX5_about 114 = .ok (.aload_n 0, 1) := by decide +kernel
theorem dX5_about_115 : decode cX5_about 115 = .ok (.getfield 12, 3) := by decide +kernel
theorem dX5_about_118 : decode cX5_about 118 = .ok (.iload_n 1, 1) := by decide +kernel
theorem dX5_about_119 : decode cX5_about 119 = .ok (.invokevirtual 232, 3) := by decide +kernel
theorem dX5_about_122 : decode cX5_about 122 = .ok (.ifCond .eq 7, 3) := by decide +kernel
theorem dX5_about_125 : decode cX5_about 125 = .ok (.iconst 1, 1) := by decide +kernel
theorem dX5_about_126 : decode cX5_about 126 = .ok (.goto 4, 3) := by decide +kernel
theorem dX5_about_129 : decode cX5_about 129 = .ok (.iconst 0, 1) := by decide +kernel
theorem dX5_about_130 : decode cX5_about 130 = .ok (.ireturn, 1) := by decide +kernel
theorem dX5_about_131 : decode cX5_about 131 = .ok (.aload_n 0, 1) := by decide +kernel
theorem dX5_about_132 : decode cX5_about 132 = .ok (.getfield 12, 3) := by decide +kernel
theorem dX5_about_135 : decode cX5_about 135 = .ok (.iload_n 1, 1) := by decide +kernel
theorem dX5_about_136 : decode cX5_about 136 = .ok (.invokevirtual 277, 3) := by decide +kernel
theorem dX5_about_139 : decode cX5_about 139 = .ok (.ireturn, 1) := by decide +kernel
theorem dX5_about_140 : decode cX5_about 140 = .ok (.bipush (-2), 2) := by decide +kernel
theorem dX5_about_142 : decode cX5_about 142 = .ok (.ireturn, 1) := by decide +kernel
theorem dX5_field_0 : decode cX5_field 0 = .ok (.aload_n 0, 1) := by decide +kernel
theorem dX5_field_1 : decode cX5_field 1 = .ok (.getfield 12, 3) := by decide +kernel
theorem dX5_field_4 : decode cX5_field 4 = .ok (.iload_n 1, 1) := by decide +kernel
theorem dX5_field_5 : decode cX5_field 5 = .ok (.invokevirtual 265, 3) := by decide +kernel
theorem dX5_field_8 : decode cX5_field 8 = .ok (.ifCond .eq 15, 3) := by decide +kernel
theorem dX5_field_11 : decode cX5_field 11 = .ok (.aload_n 0, 1) := by decide +kernel
theorem dX5_field_12 : decode cX5_field 12 = .ok (.getfield 12, 3) := by decide +kernel
theorem dX5_field_15 : decode cX5_field 15 = .ok (.iload_n 1, 1) := by decide +kernel
theorem dX5_field_16 : decode cX5_field 16 = .ok (.iload_n 2, 1) := by decide +kernel
theorem dX5_field_17 : decode cX5_field 17 = .ok (.invokevirtual 128, 3) := by decide +kernel
theorem dX5_field_20 : decode cX5_field 20 = .ok (.goto 5, 3) := by decide +kernel
theorem dX5_field_23 : decode cX5_field 23 = .ok (.bipush (-2), 2) := by decide +kernel
theorem dX5_field_25 : decode cX5_field 25 = .ok (.ireturn, 1) := by decide +kernel
theorem dX5_holder_0 : decode cX5_holder 0 = .ok (.iload_n 1, 1) := by decide +kernel
theorem dX5_holder_1 : decode cX5_holder 1 = .ok (.ifCond .ge 6, 3) := by decide +kernel
theorem dX5_holder_4 : decode cX5_holder 4 = .ok (.bipush (-2), 2) := by decide +kernel
theorem dX5_holder_6 : decode cX5_holder 6 = .ok (.ireturn, 1) := by decide +kernel
theorem dX5_holder_7 : decode cX5_holder 7 = .ok (.iload_n 1, 1) := by decide +kernel
theorem dX5_holder_8 : decode cX5_holder 8 = .ok (.bipush 16, 2) := by decide +kernel
theorem dX5_holder_10 : decode cX5_holder 10 = .ok (.if_icmp .ge 12, 3) := by decide +kernel
theorem dX5_holder_13 : decode cX5_holder 13 = .ok (.aload_n 0, 1) := by decide +kernel
theorem dX5_holder_14 : decode cX5_holder 14 = .ok (.getfield 26, 3) := by decide +kernel
theorem dX5_holder_17 : decode cX5_holder 17 = .ok (.iload_n 1, 1) := by decide +kernel
theorem dX5_holder_18 : decode cX5_holder 18 = .ok (.invokevirtual 148, 3) := by decide +kernel
theorem dX5_holder_21 : decode cX5_holder 21 = .ok (.ireturn, 1) := by decide +kernel
theorem dX5_holder_22 : decode cX5_holder 22 = .ok (.iload_n 1, 1) := by decide +kernel
theorem dX5_holder_23 : decode cX5_holder 23 = .ok (.bipush 22, 2) := by decide +kernel
theorem dX5_holder_25 : decode cX5_holder 25 = .ok (.if_icmp .ge 15, 3) := by decide +kernel
theorem dX5_holder_28 : decode cX5_holder 28 = .ok (.aload_n 0, 1) := by decide +kernel
theorem dX5_holder_29 : decode cX5_holder 29 = .ok (.getfield 26, 3) := by decide +kernel
theorem dX5_holder_32 : decode cX5_holder 32 = .ok (.iload_n 1, 1) := by decide +kernel
theorem dX5_holder_33 : decode cX5_holder 33 = .ok (.bipush 16, 2) := by decide +kernel
theorem dX5_holder_35 : decode cX5_holder 35 = .ok (.isub, 1) := by decide +kernel
theorem dX5_holder_36 : decode cX5_holder 36 = .ok (.invokevirtual 157, 3) := by decide +kernel
theorem dX5_holder_39 : decode cX5_holder 39 = .ok (.ireturn, 1) := by decide +kernel
theorem dX5_holder_40 : decode cX5_holder 40 = .ok (.iload_n 1, 1) := by decide +kernel
theorem dX5_holder_41 : decode cX5_holder 41 = .ok (.bipush 30, 2) := by decide +kernel
theorem dX5_holder_43 : decode cX5_holder 43 = .ok (.if_icmp .ge 17, 3) := by decide +kernel
theorem dX5_holder_46 : decode cX5_holder 46 = .ok (.aload_n 0, 1) := by decide +kernel
theorem dX5_holder_47 : decode cX5_holder 47 = .ok (.getfield 33, 3) := by decide +kernel
theorem dX5_holder_50 : decode cX5_holder 50 = .ok (.iload_n 1, 1) := by decide +kernel
theorem dX5_holder_51 : decode cX5_holder 51 = .ok (.bipush 22, 2) := by decide +kernel
theorem dX5_holder_53 : decode cX5_holder 53 = .ok (.isub, 1) := by decide +kernel
theorem dX5_holder_54 : decode cX5_holder 54 = .ok (.invokevirtual 226, 3) := by decide +kernel
theorem dX5_holder_57 : decode cX5_holder 57 = .ok (.goto 14, 3) := by decide +kernel
theorem dX5_holder_60 : decode cX5_holder 60 = .ok (.aload_n 0, 1) := by decide +kernel
theorem dX5_holder_61 : decode cX5_holder 61 = .ok (.getfield 26, 3) := by decide +kernel
theorem dX5_holder_64 : decode cX5_holder 64 = .ok (.iload_n 1, 1) := by decide +kernel
theorem dX5_holder_65 : decode cX5_holder 65 = .ok (.bipush 30, 2) := by decide +kernel
theorem dX5_holder_67 : decode cX5_holder 67 = .ok (.isub, 1) := by decide +kernel
theorem dX5_holder_68 : decode cX5_holder 68 = .ok (.invokevirtual 280, 3) := by decide +kernel
theorem dX5_holder_71 : decode cX5_holder 71 = .ok (.ireturn, 1) := by decide +kernel
theorem dX5_cell_0 : decode cX5_cell 0 = .ok (.iload_n 1, 1) := by decide +kernel
theorem dX5_cell_1 : decode cX5_cell 1 = .ok (.ifCond .lt 10, 3) := by decide +kernel
theorem dX5_cell_4 : decode cX5_cell 4 = .ok (.iload_n 1, 1) := by decide +kernel
theorem dX5_cell_5 : decode cX5_cell 5 = .ok (.sipush 200, 3) := by decide +kernel
theorem dX5_cell_8 : decode cX5_cell 8 = .ok (.if_icmp .lt 8, 3) := by decide +kernel
theorem dX5_cell_11 : decode cX5_cell 11 = .ok (.bipush (-2), 2) := by decide +kernel
theorem dX5_cell_13 : decode cX5_cell 13 = .ok (.goto 11, 3) := by decide +kernel
theorem dX5_cell_16 : decode cX5_cell 16 = .ok (.aload_n 0, 1) := by decide +kernel
theorem dX5_cell_17 : decode cX5_cell 17 = .ok (.getfield 19, 3) := by decide +kernel
theorem dX5_cell_20 : decode cX5_cell 20 = .ok (.iload_n 1, 1) := by decide +kernel
theorem dX5_cell_21 : decode cX5_cell 21 = .ok (.invokevirtual 283, 3) := by decide +kernel
theorem dX5_cell_24 : decode cX5_cell 24 = .ok (.ireturn, 1) := by decide +kernel
theorem dX5_count_0 : decode cX5_count 0 = .ok (.iload_n 1, 1) := by decide +kernel
theorem dX5_count_1 : decode cX5_count 1 = .ok (.tableswitch 177 0 12 #[67, 75, 83, 83, 83, 89, 115, 141, 146, 151, 156, 161, 169], 67) := by decide +kernel
theorem dX5_count_68 : decode cX5_count 68 = .ok (.aload_n 0, 1) := by decide +kernel
theorem dX5_count_69 : decode cX5_count 69 = .ok (.getfield 12, 3) := by decide +kernel
theorem dX5_count_72 : decode cX5_count 72 = .ok (.getfield 48, 3) := by decide +kernel
theorem dX5_count_75 : decode cX5_count 75 = .ok (.ireturn, 1) := by decide +kernel
theorem dX5_count_76 : decode cX5_count 76 = .ok (.aload_n 0, 1) := by decide +kernel
theorem dX5_count_77 : decode cX5_count 77 = .ok (.getfield 12, 3) := by decide +kernel
theorem dX5_count_80 : decode cX5_count 80 = .ok (.invokevirtual 186, 3) := by decide +kernel
theorem dX5_count_83 : decode cX5_count 83 = .ok (.ireturn, 1) := by decide +kernel
theorem dX5_count_84 : decode cX5_count 84 = .ok (.aload_n 0, 1) := by decide +kernel
theorem dX5_count_85 : decode cX5_count 85 = .ok (.iload_n 1, 1) := by decide +kernel
theorem dX5_count_86 : decode cX5_count 86 = .ok (.invokevirtual 286, 3) := by decide +kernel
theorem dX5_count_89 : decode cX5_count 89 = .ok (.ireturn, 1) := by decide +kernel
theorem dX5_count_90 : decode cX5_count 90 = .ok (.aload_n 0, 1) := by decide +kernel
theorem dX5_count_91 : decode cX5_count 91 = .ok (.getfield 52, 3) := by decide +kernel
theorem dX5_count_94 : decode cX5_count 94 = .ok (.iconst 3, 1) := by decide +kernel
theorem dX5_count_95 : decode cX5_count 95 = .ok (.if_icmp .ne 13, 3) := by decide +kernel
theorem dX5_count_98 : decode cX5_count 98 = .ok (.aload_n 0, 1) := by decide +kernel
theorem dX5_count_99 : decode cX5_count 99 = .ok (.getfield 19, 3) := by decide +kernel
theorem dX5_count_102 : decode cX5_count 102 = .ok (.invokevirtual 116, 3) := by decide +kernel
theorem dX5_count_105 : decode cX5_count 105 = .ok (.goto 10, 3) := by decide +kernel
theorem dX5_count_108 : decode cX5_count 108 = .ok (.aload_n 0, 1) := by decide +kernel
theorem dX5_count_109 : decode cX5_count 109 = .ok (.getfield 19, 3) := by decide +kernel
theorem dX5_count_112 : decode cX5_count 112 = .ok (.invokevirtual 289, 3) := by decide +kernel
theorem dX5_count_115 : decode cX5_count 115 = .ok (.ireturn, 1) := by decide +kernel
theorem dX5_count_116 : decode cX5_count 116 = .ok (.aload_n 0, 1) := by decide +kernel
theorem dX5_count_117 : decode cX5_count 117 = .ok (.getfield 52, 3) := by decide +kernel
theorem dX5_count_120 : decode cX5_count 120 = .ok (.iconst 3, 1) := by decide +kernel
theorem dX5_count_121 : decode cX5_count 121 = .ok (.if_icmp .ne 13, 3) := by decide +kernel
theorem dX5_count_124 : decode cX5_count 124 = .ok (.aload_n 0, 1) := by decide +kernel
theorem dX5_count_125 : decode cX5_count 125 = .ok (.getfield 19, 3) := by decide +kernel
theorem dX5_count_128 : decode cX5_count 128 = .ok (.invokevirtual 116, 3) := by decide +kernel
theorem dX5_count_131 : decode cX5_count 131 = .ok (.goto 10, 3) := by decide +kernel
theorem dX5_count_134 : decode cX5_count 134 = .ok (.aload_n 0, 1) := by decide +kernel
theorem dX5_count_135 : decode cX5_count 135 = .ok (.getfield 19, 3) := by decide +kernel
theorem dX5_count_138 : decode cX5_count 138 = .ok (.invokevirtual 292, 3) := by decide +kernel
theorem dX5_count_141 : decode cX5_count 141 = .ok (.ireturn, 1) := by decide +kernel
theorem dX5_count_142 : decode cX5_count 142 = .ok (.aload_n 0, 1) := by decide +kernel
theorem dX5_count_143 : decode cX5_count 143 = .ok (.getfield 64, 3) := by decide +kernel
theorem dX5_count_146 : decode cX5_count 146 = .ok (.ireturn, 1) := by decide +kernel
theorem dX5_count_147 : decode cX5_count 147 = .ok (.aload_n 0, 1) := by decide +kernel
theorem dX5_count_148 : decode cX5_count 148 = .ok (.getfield 67, 3) := by decide +kernel
theorem dX5_count_151 : decode cX5_count 151 = .ok (.ireturn, 1) := by decide +kernel
theorem dX5_count_152 : decode cX5_count 152 = .ok (.aload_n 0, 1) := by decide +kernel
theorem dX5_count_153 : decode cX5_count 153 = .ok (.getfield 70, 3) := by decide +kernel
theorem dX5_count_156 : decode cX5_count 156 = .ok (.ireturn, 1) := by decide +kernel
theorem dX5_count_157 : decode cX5_count 157 = .ok (.aload_n 0, 1) := by decide +kernel
theorem dX5_count_158 : decode cX5_count 158 = .ok (.getfield 73, 3) := by decide +kernel
theorem dX5_count_161 : decode cX5_count 161 = .ok (.ireturn, 1) := by decide +kernel
theorem dX5_count_162 : decode cX5_count 162 = .ok (.aload_n 0, 1) := by decide +kernel
theorem dX5_count_163 : decode cX5_count 163 = .ok (.getfield 26, 3) := by decide +kernel
theorem dX5_count_166 : decode cX5_count 166 = .ok (.getfield 171, 3) := by decide +kernel
theorem dX5_count_169 : decode cX5_count 169 = .ok (.ireturn, 1) := by decide +kernel
theorem dX5_count_170 : decode cX5_count 170 = .ok (.aload_n 0, 1) := by decide +kernel
theorem dX5_count_171 : decode cX5_count 171 = .ok (.getfield 33, 3) := by decide +kernel
theorem dX5_count_174 : decode cX5_count 174 = .ok (.invokevirtual 295, 3) := by decide +kernel
theorem dX5_count_177 : decode cX5_count 177 = .ok (.ireturn, 1) := by decide +kernel
theorem dX5_count_178 : decode cX5_count 178 = .ok (.bipush (-2), 2) := by decide +kernel
theorem dX5_count_180 : decode cX5_count 180 = .ok (.ireturn, 1) := by decide +kernel
theorem dX5_countByReach_0 : decode cX5_countByReach 0 = .ok (.aload_n 0, 1) := by decide +kernel
theorem dX5_countByReach_1 : decode cX5_countByReach 1 = .ok (.getfield 40, 3) := by decide +kernel
theorem dX5_countByReach_4 : decode cX5_countByReach 4 = .ok (.aload_n 0, 1) := by decide +kernel
theorem dX5_countByReach_5 : decode cX5_countByReach 5 = .ok (.getfield 12, 3) := by decide +kernel
theorem dX5_countByReach_8 : decode cX5_countByReach 8 = .ok (.aload_n 0, 1) := by decide +kernel
theorem dX5_countByReach_9 : decode cX5_countByReach 9 = .ok (.getfield 26, 3) := by decide +kernel
theorem dX5_countByReach_12 : decode cX5_countByReach 12 = .ok (.aload_n 0, 1) := by decide +kernel
theorem dX5_countByReach_13 : decode cX5_countByReach 13 = .ok (.getfield 33, 3) := by decide +kernel
theorem dX5_countByReach_16 : decode cX5_countByReach 16 = .ok (.invokevirtual 298, 3) := by decide +kernel
theorem dX5_countByReach_19 : decode cX5_countByReach 19 = .ok (.iconst 0, 1) := by decide +kernel
theorem dX5_countByReach_20 : decode cX5_countByReach 20 = .ok (.istore_n 2, 1) := by decide +kernel
theorem dX5_countByReach_21 : decode cX5_countByReach 21 = .ok (.iconst 0, 1) := by decide +kernel
theorem dX5_countByReach_22 : decode cX5_countByReach 22 = .ok (.istore_n 3, 1) := by decide +kernel
theorem dX5_countByReach_23 : decode cX5_countByReach 23 = .ok (.iload_n 3, 1) := by decide +kernel
theorem dX5_countByReach_24 : decode cX5_countByReach 24 = .ok (.aload_n 0, 1) := by decide +kernel
theorem dX5_countByReach_25 : decode cX5_countByReach 25 = .ok (.getfield 12, 3) := by decide +kernel
theorem dX5_countByReach_28 : decode cX5_countByReach 28 = .ok (.getfield 48, 3) := by decide +kernel
theorem dX5_countByReach_31 : decode cX5_countByReach 31 = .ok (.if_icmp .ge 87, 3) := by decide +kernel
theorem dX5_countByReach_34 : decode cX5_countByReach 34 = .ok (.aload_n 0, 1) := by decide +kernel
theorem dX5_countByReach_35 : decode cX5_countByReach 35 = .ok (.getfield 40, 3) := by decide +kernel
theorem dX5_countByReach_38 : decode cX5_countByReach 38 = .ok (.iload_n 3, 1) := by decide +kernel
theorem dX5_countByReach_39 : decode cX5_countByReach 39 = .ok (.invokevirtual 302, 3) := by decide +kernel
theorem dX5_countByReach_42 : decode cX5_countByReach 42 = .ok (.istore 4, 2) := by decide +kernel
theorem dX5_countByReach_44 : decode cX5_countByReach 44 = .ok (.aload_n 0, 1) := by decide +kernel
theorem dX5_countByReach_45 : decode cX5_countByReach 45 = .ok (.getfield 12, 3) := by decide +kernel
theorem dX5_countByReach_48 : decode cX5_countByReach 48 = .ok (.iload_n 3, 1) := by decide +kernel
theorem dX5_countByReach_49 : decode cX5_countByReach 49 = .ok (.invokevirtual 141, 3) := by decide +kernel
theorem dX5_countByReach_52 : decode cX5_countByReach 52 = .ok (.istore 5, 2) := by decide +kernel
theorem dX5_countByReach_54 : decode cX5_countByReach 54 = .ok (.iload_n 1, 1) := by decide +kernel
theorem dX5_countByReach_55 : decode cX5_countByReach 55 = .ok (.iconst 2, 1) := by decide +kernel
theorem dX5_countByReach_56 : decode cX5_countByReach 56 = .ok (.if_icmp .ne 8, 3) := by decide +kernel
theorem dX5_countByReach_59 : decode cX5_countByReach 59 = .ok (.iload 4, 2) := by decide +kernel
theorem dX5_countByReach_61 : decode cX5_countByReach 61 = .ok (.goto 41, 3) := by decide +kernel
theorem dX5_countByReach_64 : decode cX5_countByReach 64 = .ok (.iload_n 1, 1) := by decide +kernel
theorem dX5_countByReach_65 : decode cX5_countByReach 65 = .ok (.iconst 3, 1) := by decide +kernel
theorem dX5_countByReach_66 : decode cX5_countByReach 66 = .ok (.if_icmp .ne 21, 3) := by decide +kernel
theorem dX5_countByReach_69 : decode cX5_countByReach 69 = .ok (.iload 4, 2) := by decide +kernel
theorem dX5_countByReach_71 : decode cX5_countByReach 71 = .ok (.ifCond .eq 12, 3) := by decide +kernel
theorem dX5_countByReach_74 : decode cX5_countByReach 74 = .ok (.iload 5, 2) := by decide +kernel
theorem dX5_countByReach_76 : decode cX5_countByReach 76 = .ok (.ifCond .eq 7, 3) := by decide +kernel
theorem dX5_countByReach_79 : decode cX5_countByReach 79 = .ok (.iconst 1, 1) := by decide +kernel
theorem dX5_countByReach_80 : decode cX5_countByReach 80 = .ok (.goto 22, 3) := by decide +kernel
theorem dX5_countByReach_83 : decode cX5_countByReach 83 = .ok (.iconst 0, 1) := by decide +kernel
theorem dX5_countByReach_84 : decode cX5_countByReach 84 = .ok (.goto 18, 3) := by decide +kernel
theorem dX5_countByReach_87 : decode cX5_countByReach 87 = .ok (.iload 4, 2) := by decide +kernel
theorem dX5_countByReach_89 : decode cX5_countByReach 89 = .ok (.ifCond .ne 12, 3) := by decide +kernel
theorem dX5_countByReach_92 : decode cX5_countByReach 92 = .ok (.iload 5, 2) := by decide +kernel
theorem dX5_countByReach_94 : decode cX5_countByReach 94 = .ok (.ifCond .ne 7, 3) := by decide +kernel
theorem dX5_countByReach_97 : decode cX5_countByReach 97 = .ok (.iconst 1, 1) := by decide +kernel
theorem dX5_countByReach_98 : decode cX5_countByReach 98 = .ok (.goto 4, 3) := by decide +kernel
theorem dX5_countByReach_101 : decode cX5_countByReach 101 = .ok (.iconst 0, 1) := by decide +kernel
theorem dX5_countByReach_102 : decode cX5_countByReach 102 = .ok (.istore 6, 2) := by decide +kernel
theorem dX5_countByReach_104 : decode cX5_countByReach 104 = .ok (.iload 6, 2) := by decide +kernel
theorem dX5_countByReach_106 : decode cX5_countByReach 106 = .ok (.ifCond .eq 6, 3) := by decide +kernel
theorem dX5_countByReach_109 : decode cX5_countByReach 109 = .ok (.iinc 2 1, 3) := by decide +kernel
theorem dX5_countByReach_112 : decode cX5_countByReach 112 = .ok (.iinc 3 1, 3) := by decide +kernel
theorem dX5_countByReach_115 : decode cX5_countByReach 115 = .ok (.goto (-92), 3) := by decide +kernel
theorem dX5_countByReach_118 : decode cX5_countByReach 118 = .ok (.iload_n 2, 1) := by decide +kernel
theorem dX5_countByReach_119 : decode cX5_countByReach 119 = .ok (.ireturn, 1) := by decide +kernel
theorem dX5_lost_0 : decode cX5_lost 0 = .ok (.aload_n 0, 1) := by decide +kernel
theorem dX5_lost_1 : decode cX5_lost 1 = .ok (.getfield 40, 3) := by decide +kernel
theorem dX5_lost_4 : decode cX5_lost 4 = .ok (.aload_n 0, 1) := by decide +kernel
theorem dX5_lost_5 : decode cX5_lost 5 = .ok (.getfield 12, 3) := by decide +kernel
theorem dX5_lost_8 : decode cX5_lost 8 = .ok (.aload_n 0, 1) := by decide +kernel
theorem dX5_lost_9 : decode cX5_lost 9 = .ok (.getfield 26, 3) := by decide +kernel
theorem dX5_lost_12 : decode cX5_lost 12 = .ok (.aload_n 0, 1) := by decide +kernel
theorem dX5_lost_13 : decode cX5_lost 13 = .ok (.getfield 33, 3) := by decide +kernel
theorem dX5_lost_16 : decode cX5_lost 16 = .ok (.invokevirtual 298, 3) := by decide +kernel
theorem dX5_lost_19 : decode cX5_lost 19 = .ok (.iconst 0, 1) := by decide +kernel
theorem dX5_lost_20 : decode cX5_lost 20 = .ok (.istore_n 1, 1) := by decide +kernel
theorem dX5_lost_21 : decode cX5_lost 21 = .ok (.iload_n 1, 1) := by decide +kernel
theorem dX5_lost_22 : decode cX5_lost 22 = .ok (.aload_n 0, 1) := by decide +kernel
theorem dX5_lost_23 : decode cX5_lost 23 = .ok (.getfield 12, 3) := by decide +kernel
theorem dX5_lost_26 : decode cX5_lost 26 = .ok (.getfield 48, 3) := by decide +kernel
theorem dX5_lost_29 : decode cX5_lost 29 = .ok (.if_icmp .ge 33, 3) := by decide +kernel
theorem dX5_lost_32 : decode cX5_lost 32 = .ok (.aload_n 0, 1) := by decide +kernel
theorem dX5_lost_33 : decode cX5_lost 33 = .ok (.getfield 40, 3) := by decide +kernel
theorem dX5_lost_36 : decode cX5_lost 36 = .ok (.iload_n 1, 1) := by decide +kernel
theorem dX5_lost_37 : decode cX5_lost 37 = .ok (.invokevirtual 302, 3) := by decide +kernel
theorem dX5_lost_40 : decode cX5_lost 40 = .ok (.ifCond .eq 16, 3) := by decide +kernel
theorem dX5_lost_43 : decode cX5_lost 43 = .ok (.aload_n 0, 1) := by decide +kernel
theorem dX5_lost_44 : decode cX5_lost 44 = .ok (.getfield 12, 3) := by decide +kernel
theorem dX5_lost_47 : decode cX5_lost 47 = .ok (.iload_n 1, 1) := by decide +kernel
theorem dX5_lost_48 : decode cX5_lost 48 = .ok (.invokevirtual 141, 3) := by decide +kernel
theorem dX5_lost_51 : decode cX5_lost 51 = .ok (.ifCond .eq 5, 3) := by decide +kernel
theorem dX5_lost_54 : decode cX5_lost 54 = .ok (.iload_n 1, 1) := by decide +kernel
theorem dX5_lost_55 : decode cX5_lost 55 = .ok (.ireturn, 1) := by decide +kernel
theorem dX5_lost_56 : decode cX5_lost 56 = .ok (.iinc 1 1, 3) := by decide +kernel
theorem dX5_lost_59 : decode cX5_lost 59 = .ok (.goto (-38), 3) := by decide +kernel
theorem dX5_lost_62 : decode cX5_lost 62 = .ok (.iconst (-1), 1) := by decide +kernel
theorem dX5_lost_63 : decode cX5_lost 63 = .ok (.ireturn, 1) := by decide +kernel
theorem dX5_isReached_0 : decode cX5_isReached 0 = .ok (.aload_n 0, 1) := by decide +kernel
theorem dX5_isReached_1 : decode cX5_isReached 1 = .ok (.getfield 40, 3) := by decide +kernel
theorem dX5_isReached_4 : decode cX5_isReached 4 = .ok (.aload_n 0, 1) := by decide +kernel
theorem dX5_isReached_5 : decode cX5_isReached 5 = .ok (.getfield 12, 3) := by decide +kernel
theorem dX5_isReached_8 : decode cX5_isReached 8 = .ok (.aload_n 0, 1) := by decide +kernel
theorem dX5_isReached_9 : decode cX5_isReached 9 = .ok (.getfield 26, 3) := by decide +kernel
theorem dX5_isReached_12 : decode cX5_isReached 12 = .ok (.aload_n 0, 1) := by decide +kernel
theorem dX5_isReached_13 : decode cX5_isReached 13 = .ok (.getfield 33, 3) := by decide +kernel
theorem dX5_isReached_16 : decode cX5_isReached 16 = .ok (.invokevirtual 298, 3) := by decide +kernel
theorem dX5_isReached_19 : decode cX5_isReached 19 = .ok (.aload_n 0, 1) := by decide +kernel
theorem dX5_isReached_20 : decode cX5_isReached 20 = .ok (.getfield 40, 3) := by decide +kernel
theorem dX5_isReached_23 : decode cX5_isReached 23 = .ok (.iload_n 1, 1) := by decide +kernel
theorem dX5_isReached_24 : decode cX5_isReached 24 = .ok (.invokevirtual 302, 3) := by decide +kernel
theorem dX5_isReached_27 : decode cX5_isReached 27 = .ok (.ireturn, 1) := by decide +kernel
theorem dX5_digest_0 : decode cX5_digest 0 = .ok (.ldc2_w 305, 3) := by decide +kernel
theorem dX5_digest_3 : decode cX5_digest 3 = .ok (.lstore_n 1, 1) := by decide +kernel
theorem dX5_digest_4 : decode cX5_digest 4 = .ok (.iconst 0, 1) := by decide +kernel
theorem dX5_digest_5 : decode cX5_digest 5 = .ok (.istore_n 3, 1) := by decide +kernel
theorem dX5_digest_6 : decode cX5_digest 6 = .ok (.iload_n 3, 1) := by decide +kernel
theorem dX5_digest_7 : decode cX5_digest 7 = .ok (.aload_n 0, 1) := by decide +kernel
theorem dX5_digest_8 : decode cX5_digest 8 = .ok (.getfield 12, 3) := by decide +kernel
theorem dX5_digest_11 : decode cX5_digest 11 = .ok (.getfield 48, 3) := by decide +kernel
theorem dX5_digest_14 : decode cX5_digest 14 = .ok (.if_icmp .ge 105, 3) := by decide +kernel
theorem dX5_digest_17 : decode cX5_digest 17 = .ok (.ldc2_w 307, 3) := by decide +kernel
theorem dX5_digest_20 : decode cX5_digest 20 = .ok (.lload_n 1, 1) := by decide +kernel
theorem dX5_digest_21 : decode cX5_digest 21 = .ok (.lmul, 1) := by decide +kernel
theorem dX5_digest_22 : decode cX5_digest 22 = .ok (.aload_n 0, 1) := by decide +kernel
theorem dX5_digest_23 : decode cX5_digest 23 = .ok (.getfield 12, 3) := by decide +kernel
theorem dX5_digest_26 : decode cX5_digest 26 = .ok (.iload_n 3, 1) := by decide +kernel
theorem dX5_digest_27 : decode cX5_digest 27 = .ok (.invokevirtual 241, 3) := by decide +kernel
theorem dX5_digest_30 : decode cX5_digest 30 = .ok (.i2l, 1) := by decide +kernel
theorem dX5_digest_31 : decode cX5_digest 31 = .ok (.ladd, 1) := by decide +kernel
theorem dX5_digest_32 : decode cX5_digest 32 = .ok (.lstore_n 1, 1) := by decide +kernel
theorem dX5_digest_33 : decode cX5_digest 33 = .ok (.ldc2_w 307, 3) := by decide +kernel
theorem dX5_digest_36 : decode cX5_digest 36 = .ok (.lload_n 1, 1) := by decide +kernel
theorem dX5_digest_37 : decode cX5_digest 37 = .ok (.lmul, 1) := by decide +kernel
theorem dX5_digest_38 : decode cX5_digest 38 = .ok (.aload_n 0, 1) := by decide +kernel
theorem dX5_digest_39 : decode cX5_digest 39 = .ok (.getfield 12, 3) := by decide +kernel
theorem dX5_digest_42 : decode cX5_digest 42 = .ok (.iload_n 3, 1) := by decide +kernel
theorem dX5_digest_43 : decode cX5_digest 43 = .ok (.invokevirtual 271, 3) := by decide +kernel
theorem dX5_digest_46 : decode cX5_digest 46 = .ok (.i2l, 1) := by decide +kernel
theorem dX5_digest_47 : decode cX5_digest 47 = .ok (.ladd, 1) := by decide +kernel
theorem dX5_digest_48 : decode cX5_digest 48 = .ok (.lstore_n 1, 1) := by decide +kernel
theorem dX5_digest_49 : decode cX5_digest 49 = .ok (.ldc2_w 307, 3) := by decide +kernel
theorem dX5_digest_52 : decode cX5_digest 52 = .ok (.lload_n 1, 1) := by decide +kernel
theorem dX5_digest_53 : decode cX5_digest 53 = .ok (.lmul, 1) := by decide +kernel
theorem dX5_digest_54 : decode cX5_digest 54 = .ok (.aload_n 0, 1) := by decide +kernel
theorem dX5_digest_55 : decode cX5_digest 55 = .ok (.getfield 12, 3) := by decide +kernel
theorem dX5_digest_58 : decode cX5_digest 58 = .ok (.iload_n 3, 1) := by decide +kernel
theorem dX5_digest_59 : decode cX5_digest 59 = .ok (.invokevirtual 141, 3) := by decide +kernel
theorem dX5_digest_62 : decode cX5_digest 62 = .ok (.ifCond .eq 7, 3) := by decide +kernel
theorem dX5_digest_65 : decode cX5_digest 65 = .ok (.iconst 1, 1) := by decide +kernel
theorem dX5_digest_66 : decode cX5_digest 66 = .ok (.goto 4, 3) := by decide +kernel
theorem dX5_digest_69 : decode cX5_digest 69 = .ok (.iconst 0, 1) := by decide +kernel
theorem dX5_digest_70 : decode cX5_digest 70 = .ok (.i2l, 1) := by decide +kernel
theorem dX5_digest_71 : decode cX5_digest 71 = .ok (.ladd, 1) := by decide +kernel
theorem dX5_digest_72 : decode cX5_digest 72 = .ok (.lstore_n 1, 1) := by decide +kernel
theorem dX5_digest_73 : decode cX5_digest 73 = .ok (.iconst 0, 1) := by decide +kernel
theorem dX5_digest_74 : decode cX5_digest 74 = .ok (.istore 4, 2) := by decide +kernel
theorem dX5_digest_76 : decode cX5_digest 76 = .ok (.iload 4, 2) := by decide +kernel
theorem dX5_digest_78 : decode cX5_digest 78 = .ok (.aload_n 0, 1) := by decide +kernel
theorem dX5_digest_79 : decode cX5_digest 79 = .ok (.getfield 12, 3) := by decide +kernel
theorem dX5_digest_82 : decode cX5_digest 82 = .ok (.iload_n 3, 1) := by decide +kernel
theorem dX5_digest_83 : decode cX5_digest 83 = .ok (.invokevirtual 268, 3) := by decide +kernel
theorem dX5_digest_86 : decode cX5_digest 86 = .ok (.if_icmp .ge 27, 3) := by decide +kernel
theorem dX5_digest_89 : decode cX5_digest 89 = .ok (.ldc2_w 307, 3) := by decide +kernel
theorem dX5_digest_92 : decode cX5_digest 92 = .ok (.lload_n 1, 1) := by decide +kernel
theorem dX5_digest_93 : decode cX5_digest 93 = .ok (.lmul, 1) := by decide +kernel
theorem dX5_digest_94 : decode cX5_digest 94 = .ok (.aload_n 0, 1) := by decide +kernel
theorem dX5_digest_95 : decode cX5_digest 95 = .ok (.getfield 12, 3) := by decide +kernel
theorem dX5_digest_98 : decode cX5_digest 98 = .ok (.iload_n 3, 1) := by decide +kernel
theorem dX5_digest_99 : decode cX5_digest 99 = .ok (.iload 4, 2) := by decide +kernel
theorem dX5_digest_101 : decode cX5_digest 101 = .ok (.invokevirtual 128, 3) := by decide +kernel
theorem dX5_digest_104 : decode cX5_digest 104 = .ok (.i2l, 1) := by decide +kernel
theorem dX5_digest_105 : decode cX5_digest 105 = .ok (.ladd, 1) := by decide +kernel
theorem dX5_digest_106 : decode cX5_digest 106 = .ok (.lstore_n 1, 1) := by decide +kernel
theorem dX5_digest_107 : decode cX5_digest 107 = .ok (.iinc 4 1, 3) := by decide +kernel
theorem dX5_digest_110 : decode cX5_digest 110 = .ok (.goto (-34), 3) := by decide +kernel
theorem dX5_digest_113 : decode cX5_digest 113 = .ok (.iinc 3 1, 3) := by decide +kernel
theorem dX5_digest_116 : decode cX5_digest 116 = .ok (.goto (-110), 3) := by decide +kernel
theorem dX5_digest_119 : decode cX5_digest 119 = .ok (.iconst 0, 1) := by decide +kernel
theorem dX5_digest_120 : decode cX5_digest 120 = .ok (.istore_n 3, 1) := by decide +kernel
theorem dX5_digest_121 : decode cX5_digest 121 = .ok (.iload_n 3, 1) := by decide +kernel
theorem dX5_digest_122 : decode cX5_digest 122 = .ok (.bipush 30, 2) := by decide +kernel
theorem dX5_digest_124 : decode cX5_digest 124 = .ok (.if_icmp .ge 22, 3) := by decide +kernel
theorem dX5_digest_127 : decode cX5_digest 127 = .ok (.ldc2_w 307, 3) := by decide +kernel
theorem dX5_digest_130 : decode cX5_digest 130 = .ok (.lload_n 1, 1) := by decide +kernel
theorem dX5_digest_131 : decode cX5_digest 131 = .ok (.lmul, 1) := by decide +kernel
theorem dX5_digest_132 : decode cX5_digest 132 = .ok (.aload_n 0, 1) := by decide +kernel
theorem dX5_digest_133 : decode cX5_digest 133 = .ok (.iload_n 3, 1) := by decide +kernel
theorem dX5_digest_134 : decode cX5_digest 134 = .ok (.invokevirtual 309, 3) := by decide +kernel
theorem dX5_digest_137 : decode cX5_digest 137 = .ok (.i2l, 1) := by decide +kernel
theorem dX5_digest_138 : decode cX5_digest 138 = .ok (.ladd, 1) := by decide +kernel
theorem dX5_digest_139 : decode cX5_digest 139 = .ok (.lstore_n 1, 1) := by decide +kernel
theorem dX5_digest_140 : decode cX5_digest 140 = .ok (.iinc 3 1, 3) := by decide +kernel
theorem dX5_digest_143 : decode cX5_digest 143 = .ok (.goto (-22), 3) := by decide +kernel
theorem dX5_digest_146 : decode cX5_digest 146 = .ok (.ldc2_w 307, 3) := by decide +kernel
theorem dX5_digest_149 : decode cX5_digest 149 = .ok (.lload_n 1, 1) := by decide +kernel
theorem dX5_digest_150 : decode cX5_digest 150 = .ok (.lmul, 1) := by decide +kernel
theorem dX5_digest_151 : decode cX5_digest 151 = .ok (.aload_n 0, 1) := by decide +kernel
theorem dX5_digest_152 : decode cX5_digest 152 = .ok (.getfield 58, 3) := by decide +kernel
theorem dX5_digest_155 : decode cX5_digest 155 = .ok (.i2l, 1) := by decide +kernel
theorem dX5_digest_156 : decode cX5_digest 156 = .ok (.ladd, 1) := by decide +kernel
theorem dX5_digest_157 : decode cX5_digest 157 = .ok (.lreturn, 1) := by decide +kernel
