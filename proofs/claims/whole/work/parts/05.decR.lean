theorem dX6_in_0 : decode cX6_in 0 = .ok (.iload_n 0, 1) := by decide +kernel
theorem dX6_in_1 : decode cX6_in 1 = .ok (.iload_n 1, 1) := by decide +kernel
theorem dX6_in_2 : decode cX6_in 2 = .ok (.if_icmp .lt 12, 3) := by decide +kernel
theorem dX6_in_5 : decode cX6_in 5 = .ok (.iload_n 0, 1) := by decide +kernel
theorem dX6_in_6 : decode cX6_in 6 = .ok (.iload_n 2, 1) := by decide +kernel
theorem dX6_in_7 : decode cX6_in 7 = .ok (.if_icmp .gt 7, 3) := by decide +kernel
theorem dX6_in_10 : decode cX6_in 10 = .ok (.iconst 1, 1) := by decide +kernel
theorem dX6_in_11 : decode cX6_in 11 = .ok (.goto 4, 3) := by decide +kernel
theorem dX6_in_14 : decode cX6_in 14 = .ok (.iconst 0, 1) := by decide +kernel
theorem dX6_in_15 : decode cX6_in 15 = .ok (.ireturn, 1) := by decide +kernel
theorem dX6_init_0 : decode cX6_init 0 = .ok (.aload_n 0, 1) := by decide +kernel
theorem dX6_init_1 : decode cX6_init 1 = .ok (.invokespecial 1, 3) := by decide +kernel
theorem dX6_init_4 : decode cX6_init 4 = .ok (.aload_n 0, 1) := by decide +kernel
theorem dX6_init_5 : decode cX6_init 5 = .ok (.bipush 120, 2) := by decide +kernel
theorem dX6_init_7 : decode cX6_init 7 = .ok (.newarray .int, 2) := by decide +kernel
theorem dX6_init_9 : decode cX6_init 9 = .ok (.putfield 7, 3) := by decide +kernel
theorem dX6_init_12 : decode cX6_init 12 = .ok (.aload_n 0, 1) := by decide +kernel
theorem dX6_init_13 : decode cX6_init 13 = .ok (.sipush 720, 3) := by decide +kernel
theorem dX6_init_16 : decode cX6_init 16 = .ok (.newarray .int, 2) := by decide +kernel
theorem dX6_init_18 : decode cX6_init 18 = .ok (.putfield 13, 3) := by decide +kernel
theorem dX6_init_21 : decode cX6_init 21 = .ok (.aload_n 0, 1) := by decide +kernel
theorem dX6_init_22 : decode cX6_init 22 = .ok (.bipush 120, 2) := by decide +kernel
theorem dX6_init_24 : decode cX6_init 24 = .ok (.newarray .int, 2) := by decide +kernel
theorem dX6_init_26 : decode cX6_init 26 = .ok (.putfield 16, 3) := by decide +kernel
theorem dX6_init_29 : decode cX6_init 29 = .ok (.aload_n 0, 1) := by decide +kernel
theorem dX6_init_30 : decode cX6_init 30 = .ok (.bipush 120, 2) := by decide +kernel
theorem dX6_init_32 : decode cX6_init 32 = .ok (.newarray .int, 2) := by decide +kernel
theorem dX6_init_34 : decode cX6_init 34 = .ok (.putfield 19, 3) := by decide +kernel
theorem dX6_init_37 : decode cX6_init 37 = .ok (.aload_n 0, 1) := by decide +kernel
theorem dX6_init_38 : decode cX6_init 38 = .ok (.bipush 120, 2) := by decide +kernel
theorem dX6_init_40 : decode cX6_init 40 = .ok (.newarray .boolean, 2) := by decide +kernel
theorem dX6_init_42 : decode cX6_init 42 = .ok (.putfield 22, 3) := by decide +kernel
theorem dX6_init_45 : decode cX6_init 45 = .ok (.aload_n 0, 1) := by decide +kernel
theorem dX6_init_46 : decode cX6_init 46 = .ok (.bipush 120, 2) := by decide +kernel
theorem dX6_init_48 : decode cX6_init 48 = .ok (.newarray .boolean, 2) := by decide +kernel
theorem dX6_init_50 : decode cX6_init 50 = .ok (.putfield 26, 3) := by decide +kernel
theorem dX6_init_53 : decode cX6_init 53 = .ok (.aload_n 0, 1) := by decide +kernel
theorem dX6_init_54 : decode cX6_init 54 = .ok (.bipush 120, 2) := by decide +kernel
theorem dX6_init_56 : decode cX6_init 56 = .ok (.newarray .int, 2) := by decide +kernel
theorem dX6_init_58 : decode cX6_init 58 = .ok (.putfield 29, 3) := by decide +kernel
theorem dX6_init_61 : decode cX6_init 61 = .ok (.aload_n 0, 1) := by decide +kernel
theorem dX6_init_62 : decode cX6_init 62 = .ok (.bipush 12, 2) := by decide +kernel
theorem dX6_init_64 : decode cX6_init 64 = .ok (.newarray .int, 2) := by decide +kernel
theorem dX6_init_66 : decode cX6_init 66 = .ok (.putfield 32, 3) := by decide +kernel
theorem dX6_init_69 : decode cX6_init 69 = .ok (.aload_n 0, 1) := by decide +kernel
theorem dX6_init_70 : decode cX6_init 70 = .ok (.iconst 4, 1) := by decide +kernel
theorem dX6_init_71 : decode cX6_init 71 = .ok (.newarray .int, 2) := by decide +kernel
theorem dX6_init_73 : decode cX6_init 73 = .ok (.putfield 35, 3) := by decide +kernel
theorem dX6_init_76 : decode cX6_init 76 = .ok (.aload_n 0, 1) := by decide +kernel
theorem dX6_init_77 : decode cX6_init 77 = .ok (.bipush 120, 2) := by decide +kernel
theorem dX6_init_79 : decode cX6_init 79 = .ok (.newarray .int, 2) := by decide +kernel
theorem dX6_init_81 : decode cX6_init 81 = .ok (.putfield 38, 3) := by decide +kernel
theorem dX6_init_84 : decode cX6_init 84 = .ok (.aload_n 0, 1) := by decide +kernel
theorem dX6_init_85 : decode cX6_init 85 = .ok (.bipush 6, 2) := by decide +kernel
theorem dX6_init_87 : decode cX6_init 87 = .ok (.newarray .int, 2) := by decide +kernel
theorem dX6_init_89 : decode cX6_init 89 = .ok (.putfield 41, 3) := by decide +kernel
theorem dX6_init_92 : decode cX6_init 92 = .ok (.aload_n 0, 1) := by decide +kernel
theorem dX6_init_93 : decode cX6_init 93 = .ok (.bipush 8, 2) := by decide +kernel
theorem dX6_init_95 : decode cX6_init 95 = .ok (.newarray .int, 2) := by decide +kernel
theorem dX6_init_97 : decode cX6_init 97 = .ok (.putfield 44, 3) := by decide +kernel
theorem dX6_init_100 : decode cX6_init 100 = .ok (.aload_n 0, 1) := by decide +kernel
theorem dX6_init_101 : decode cX6_init 101 = .ok (.bipush 8, 2) := by decide +kernel
theorem dX6_init_103 : decode cX6_init 103 = .ok (.newarray .int, 2) := by decide +kernel
theorem dX6_init_105 : decode cX6_init 105 = .ok (.putfield 47, 3) := by decide +kernel
theorem dX6_init_108 : decode cX6_init 108 = .ok (.aload_n 0, 1) := by decide +kernel
theorem dX6_init_109 : decode cX6_init 109 = .ok (.bipush 8, 2) := by decide +kernel
theorem dX6_init_111 : decode cX6_init 111 = .ok (.newarray .boolean, 2) := by decide +kernel
theorem dX6_init_113 : decode cX6_init 113 = .ok (.putfield 50, 3) := by decide +kernel
theorem dX6_init_116 : decode cX6_init 116 = .ok (.aload_n 0, 1) := by decide +kernel
theorem dX6_init_117 : decode cX6_init 117 = .ok (.bipush 120, 2) := by decide +kernel
theorem dX6_init_119 : decode cX6_init 119 = .ok (.newarray .boolean, 2) := by decide +kernel
theorem dX6_init_121 : decode cX6_init 121 = .ok (.putfield 53, 3) := by decide +kernel
theorem dX6_init_124 : decode cX6_init 124 = .ok (.aload_n 0, 1) := by decide +kernel
theorem dX6_init_125 : decode cX6_init 125 = .ok (.invokevirtual 56, 3) := by decide +kernel
theorem dX6_init_128 : decode cX6_init 128 = .ok (.return_, 1) := by decide +kernel
theorem dX6_empties_0 : decode cX6_empties 0 = .ok (.aload_n 0, 1) := by decide +kernel
theorem dX6_empties_1 : decode cX6_empties 1 = .ok (.iconst 0, 1) := by decide +kernel
theorem dX6_empties_2 : decode cX6_empties 2 = .ok (.putfield 59, 3) := by decide +kernel
theorem dX6_empties_5 : decode cX6_empties 5 = .ok (.aload_n 0, 1) := by decide +kernel
theorem dX6_empties_6 : decode cX6_empties 6 = .ok (.iconst 0, 1) := by decide +kernel
theorem dX6_empties_7 : decode cX6_empties 7 = .ok (.putfield 63, 3) := by decide +kernel
theorem dX6_empties_10 : decode cX6_empties 10 = .ok (.aload_n 0, 1) := by decide +kernel
theorem dX6_empties_11 : decode cX6_empties 11 = .ok (.iconst 0, 1) := by decide +kernel
theorem dX6_empties_12 : decode cX6_empties 12 = .ok (.putfield 66, 3) := by decide +kernel
theorem dX6_empties_15 : decode cX6_empties 15 = .ok (.aload_n 0, 1) := by decide +kernel
theorem dX6_empties_16 : decode cX6_empties 16 = .ok (.iconst 0, 1) := by decide +kernel
theorem dX6_empties_17 : decode cX6_empties 17 = .ok (.putfield 69, 3) := by decide +kernel
theorem dX6_empties_20 : decode cX6_empties 20 = .ok (.aload_n 0, 1) := by decide +kernel
theorem dX6_empties_21 : decode cX6_empties 21 = .ok (.iconst 0, 1) := by decide +kernel
theorem dX6_empties_22 : decode cX6_empties 22 = .ok (.putfield 72, 3) := by decide +kernel
theorem dX6_empties_25 : decode cX6_empties 25 = .ok (.aload_n 0, 1) := by decide +kernel
theorem dX6_empties_26 : decode cX6_empties 26 = .ok (.iconst 0, 1) := by decide +kernel
theorem dX6_empties_27 : decode cX6_empties 27 = .ok (.putfield 75, 3) := by decide +kernel
theorem dX6_empties_30 : decode cX6_empties 30 = .ok (.aload_n 0, 1) := by decide +kernel
theorem dX6_empties_31 : decode cX6_empties 31 = .ok (.iconst 0, 1) := by decide +kernel
theorem dX6_empties_32 : decode cX6_empties 32 = .ok (.putfield 78, 3) := by decide +kernel
theorem dX6_empties_35 : decode cX6_empties 35 = .ok (.aload_n 0, 1) := by decide +kernel
theorem dX6_empties_36 : decode cX6_empties 36 = .ok (.iconst 0, 1) := by decide +kernel
theorem dX6_empties_37 : decode cX6_empties 37 = .ok (.putfield 81, 3) := by decide +kernel
theorem dX6_empties_40 : decode cX6_empties 40 = .ok (.aload_n 0, 1) := by decide +kernel
theorem dX6_empties_41 : decode cX6_empties 41 = .ok (.iconst 0, 1) := by decide +kernel
theorem dX6_empties_42 : decode cX6_empties 42 = .ok (.putfield 84, 3) := by decide +kernel
theorem dX6_empties_45 : decode cX6_empties 45 = .ok (.aload_n 0, 1) := by decide +kernel
theorem dX6_empties_46 : decode cX6_empties 46 = .ok (.iconst 0, 1) := by decide +kernel
theorem dX6_empties_47 : decode cX6_empties 47 = .ok (.putfield 87, 3) := by decide +kernel
theorem dX6_empties_50 : decode cX6_empties 50 = .ok (.iconst 0, 1) := by decide +kernel
theorem dX6_empties_51 : decode cX6_empties 51 = .ok (.istore_n 1, 1) := by decide +kernel
theorem dX6_empties_52 : decode cX6_empties 52 = .ok (.iload_n 1, 1) := by decide +kernel
theorem dX6_empties_53 : decode cX6_empties 53 = .ok (.bipush 12, 2) := by decide +kernel
theorem dX6_empties_55 : decode cX6_empties 55 = .ok (.if_icmp .ge 16, 3) := by decide +kernel
theorem dX6_empties_58 : decode cX6_empties 58 = .ok (.aload_n 0, 1) := by decide +kernel
theorem dX6_empties_59 : decode cX6_empties 59 = .ok (.getfield 32, 3) := by decide +kernel
theorem dX6_empties_62 : decode cX6_empties 62 = .ok (.iload_n 1, 1) := by decide +kernel
theorem dX6_empties_63 : decode cX6_empties 63 = .ok (.iconst (-1), 1) := by decide +kernel
theorem dX6_empties_64 : decode cX6_empties 64 = .ok (.iastore, 1) := by decide +kernel
theorem dX6_empties_65 : decode cX6_empties 65 = .ok (.iinc 1 1, 3) := by decide +kernel
theorem dX6_empties_68 : decode cX6_empties 68 = .ok (.goto (-16), 3) := by decide +kernel
theorem dX6_empties_71 : decode cX6_empties 71 = .ok (.iconst 0, 1) := by decide +kernel
theorem dX6_empties_72 : decode cX6_empties 72 = .ok (.istore_n 1, 1) := by decide +kernel
theorem dX6_empties_73 : decode cX6_empties 73 = .ok (.iload_n 1, 1) := by decide +kernel
theorem dX6_empties_74 : decode cX6_empties 74 = .ok (.iconst 4, 1) := by decide +kernel
theorem dX6_empties_75 : decode cX6_empties 75 = .ok (.if_icmp .ge 16, 3) := by decide +kernel
theorem dX6_empties_78 : decode cX6_empties 78 = .ok (.aload_n 0, 1) := by decide +kernel
theorem dX6_empties_79 : decode cX6_empties 79 = .ok (.getfield 35, 3) := by decide +kernel
theorem dX6_empties_82 : decode cX6_empties 82 = .ok (.iload_n 1, 1) := by decide +kernel
theorem dX6_empties_83 : decode cX6_empties 83 = .ok (.iconst (-1), 1) := by decide +kernel
theorem dX6_empties_84 : decode cX6_empties 84 = .ok (.iastore, 1) := by decide +kernel
theorem dX6_empties_85 : decode cX6_empties 85 = .ok (.iinc 1 1, 3) := by decide +kernel
theorem dX6_empties_88 : decode cX6_empties 88 = .ok (.goto (-15), 3) := by decide +kernel
theorem dX6_empties_91 : decode cX6_empties 91 = .ok (.iconst 0, 1) := by decide +kernel
theorem dX6_empties_92 : decode cX6_empties 92 = .ok (.istore_n 1, 1) := by decide +kernel
theorem dX6_empties_93 : decode cX6_empties 93 = .ok (.iload_n 1, 1) := by decide +kernel
theorem dX6_empties_94 : decode cX6_empties 94 = .ok (.bipush 6, 2) := by decide +kernel
theorem dX6_empties_96 : decode cX6_empties 96 = .ok (.if_icmp .ge 16, 3) := by decide +kernel
theorem dX6_empties_99 : decode cX6_empties 99 = .ok (.aload_n 0, 1) := by decide +kernel
theorem dX6_empties_100 : decode cX6_empties 100 = .ok (.getfield 41, 3) := by decide +kernel
theorem dX6_empties_103 : decode cX6_empties 103 = .ok (.iload_n 1, 1) := by decide +kernel
theorem dX6_empties_104 : decode cX6_empties 104 = .ok (.iconst (-1), 1) := by decide +kernel
theorem dX6_empties_105 : decode cX6_empties 105 = .ok (.iastore, 1) := by decide +kernel
theorem dX6_empties_106 : decode cX6_empties 106 = .ok (.iinc 1 1, 3) := by decide +kernel
theorem dX6_empties_109 : decode cX6_empties 109 = .ok (.goto (-16), 3) := by decide +kernel
theorem dX6_empties_112 : decode cX6_empties 112 = .ok (.iconst 0, 1) := by decide +kernel
theorem dX6_empties_113 : decode cX6_empties 113 = .ok (.istore_n 1, 1) := by decide +kernel
theorem dX6_empties_114 : decode cX6_empties 114 = .ok (.iload_n 1, 1) := by decide +kernel
theorem dX6_empties_115 : decode cX6_empties 115 = .ok (.bipush 8, 2) := by decide +kernel
theorem dX6_empties_117 : decode cX6_empties 117 = .ok (.if_icmp .ge 16, 3) := by decide +kernel
theorem dX6_empties_120 : decode cX6_empties 120 = .ok (.aload_n 0, 1) := by decide +kernel
theorem dX6_empties_121 : decode cX6_empties 121 = .ok (.getfield 50, 3) := by decide +kernel
theorem dX6_empties_124 : decode cX6_empties 124 = .ok (.iload_n 1, 1) := by decide +kernel
theorem dX6_empties_125 : decode cX6_empties 125 = .ok (.iconst 0, 1) := by decide +kernel
theorem dX6_empties_126 : decode cX6_empties 126 = .ok (.bastore, 1) := by decide +kernel
theorem dX6_empties_127 : decode cX6_empties 127 = .ok (.iinc 1 1, 3) := by decide +kernel
theorem dX6_empties_130 : decode cX6_empties 130 = .ok (.goto (-16), 3) := by decide +kernel
theorem dX6_empties_133 : decode cX6_empties 133 = .ok (.return_, 1) := by decide +kernel
theorem dX6_attic_0 : decode cX6_attic 0 = .ok (.iload_n 1, 1) := by decide +kernel
theorem dX6_attic_1 : decode cX6_attic 1 = .ok (.iconst 0, 1) := by decide +kernel
theorem dX6_attic_2 : decode cX6_attic 2 = .ok (.iconst 3, 1) := by decide +kernel
theorem dX6_attic_3 : decode cX6_attic 3 = .ok (.invokestatic 90, 3) := by decide +kernel
theorem dX6_attic_6 : decode cX6_attic 6 = .ok (.ifCond .eq 12, 3) := by decide +kernel
theorem dX6_attic_9 : decode cX6_attic 9 = .ok (.iload_n 2, 1) := by decide +kernel
theorem dX6_attic_10 : decode cX6_attic 10 = .ok (.iconst 0, 1) := by decide +kernel
theorem dX6_attic_11 : decode cX6_attic 11 = .ok (.iconst 2, 1) := by decide +kernel
theorem dX6_attic_12 : decode cX6_attic 12 = .ok (.invokestatic 90, 3) := by decide +kernel
theorem dX6_attic_15 : decode cX6_attic 15 = .ok (.ifCond .ne 6, 3) := by decide +kernel
theorem dX6_attic_18 : decode cX6_attic 18 = .ok (.bipush (-2), 2) := by decide +kernel
theorem dX6_attic_20 : decode cX6_attic 20 = .ok (.ireturn, 1) := by decide +kernel
theorem dX6_attic_21 : decode cX6_attic 21 = .ok (.aload_n 0, 1) := by decide +kernel
theorem dX6_attic_22 : decode cX6_attic 22 = .ok (.getfield 59, 3) := by decide +kernel
theorem dX6_attic_25 : decode cX6_attic 25 = .ok (.istore_n 3, 1) := by decide +kernel
theorem dX6_attic_26 : decode cX6_attic 26 = .ok (.aload_n 0, 1) := by decide +kernel
theorem dX6_attic_27 : decode cX6_attic 27 = .ok (.invokevirtual 56, 3) := by decide +kernel
theorem dX6_attic_30 : decode cX6_attic 30 = .ok (.aload_n 0, 1) := by decide +kernel
theorem dX6_attic_31 : decode cX6_attic 31 = .ok (.iload_n 1, 1) := by decide +kernel
theorem dX6_attic_32 : decode cX6_attic 32 = .ok (.putfield 94, 3) := by decide +kernel
theorem dX6_attic_35 : decode cX6_attic 35 = .ok (.aload_n 0, 1) := by decide +kernel
theorem dX6_attic_36 : decode cX6_attic 36 = .ok (.iload_n 2, 1) := by decide +kernel
theorem dX6_attic_37 : decode cX6_attic 37 = .ok (.putfield 97, 3) := by decide +kernel
theorem dX6_attic_40 : decode cX6_attic 40 = .ok (.iload_n 3, 1) := by decide +kernel
theorem dX6_attic_41 : decode cX6_attic 41 = .ok (.ireturn, 1) := by decide +kernel
theorem dX6_isRegister_0 : decode cX6_isRegister 0 = .ok (.iload_n 0, 1) := by decide +kernel
theorem dX6_isRegister_1 : decode cX6_isRegister 1 = .ok (.iconst 0, 1) := by decide +kernel
theorem dX6_isRegister_2 : decode cX6_isRegister 2 = .ok (.iconst 2, 1) := by decide +kernel
theorem dX6_isRegister_3 : decode cX6_isRegister 3 = .ok (.invokestatic 90, 3) := by decide +kernel
theorem dX6_isRegister_6 : decode cX6_isRegister 6 = .ok (.ifCond .eq 16, 3) := by decide +kernel
theorem dX6_isRegister_9 : decode cX6_isRegister 9 = .ok (.iload_n 1, 1) := by decide +kernel
theorem dX6_isRegister_10 : decode cX6_isRegister 10 = .ok (.iconst 0, 1) := by decide +kernel
theorem dX6_isRegister_11 : decode cX6_isRegister 11 = .ok (.iconst 3, 1) := by decide +kernel
theorem dX6_isRegister_12 : decode cX6_isRegister 12 = .ok (.invokestatic 90, 3) := by decide +kernel
theorem dX6_isRegister_15 : decode cX6_isRegister 15 = .ok (.ifCond .eq 7, 3) := by decide +kernel
theorem dX6_isRegister_18 : decode cX6_isRegister 18 = .ok (.iconst 1, 1) := by decide +kernel
theorem dX6_isRegister_19 : decode cX6_isRegister 19 = .ok (.goto 4, 3) := by decide +kernel
theorem dX6_isRegister_22 : decode cX6_isRegister 22 = .ok (.iconst 0, 1) := by decide +kernel
theorem dX6_isRegister_23 : decode cX6_isRegister 23 = .ok (.ireturn, 1) := by decide +kernel
theorem dX6_held_0 : decode cX6_held 0 = .ok (.aload_n 0, 1) := by decide +kernel
theorem dX6_held_1 : decode cX6_held 1 = .ok (.getfield 32, 3) := by decide +kernel
theorem dX6_held_4 : decode cX6_held 4 = .ok (.iconst 4, 1) := by decide +kernel
theorem dX6_held_5 : decode cX6_held 5 = .ok (.iload_n 1, 1) := by decide +kernel
theorem dX6_held_6 : decode cX6_held 6 = .ok (.imul, 1) := by decide +kernel
theorem dX6_held_7 : decode cX6_held 7 = .ok (.iload_n 2, 1) := by decide +kernel
theorem dX6_held_8 : decode cX6_held 8 = .ok (.iadd, 1) := by decide +kernel
theorem dX6_held_9 : decode cX6_held 9 = .ok (.iaload, 1) := by decide +kernel
theorem dX6_held_10 : decode cX6_held 10 = .ok (.ireturn, 1) := by decide +kernel
theorem dX6_holds_0 : decode cX6_holds 0 = .ok (.aload_n 0, 1) := by decide +kernel
theorem dX6_holds_1 : decode cX6_holds 1 = .ok (.getfield 32, 3) := by decide +kernel
theorem dX6_holds_4 : decode cX6_holds 4 = .ok (.iconst 4, 1) := by decide +kernel
theorem dX6_holds_5 : decode cX6_holds 5 = .ok (.iload_n 1, 1) := by decide +kernel
theorem dX6_holds_6 : decode cX6_holds 6 = .ok (.imul, 1) := by decide +kernel
theorem dX6_holds_7 : decode cX6_holds 7 = .ok (.iload_n 2, 1) := by decide +kernel
theorem dX6_holds_8 : decode cX6_holds 8 = .ok (.iadd, 1) := by decide +kernel
theorem dX6_holds_9 : decode cX6_holds 9 = .ok (.iload_n 3, 1) := by decide +kernel
theorem dX6_holds_10 : decode cX6_holds 10 = .ok (.iastore, 1) := by decide +kernel
theorem dX6_holds_11 : decode cX6_holds 11 = .ok (.iload_n 3, 1) := by decide +kernel
theorem dX6_holds_12 : decode cX6_holds 12 = .ok (.ireturn, 1) := by decide +kernel
theorem dX6_shade_0 : decode cX6_shade 0 = .ok (.iload_n 1, 1) := by decide +kernel
theorem dX6_shade_1 : decode cX6_shade 1 = .ok (.iconst (-1), 1) := by decide +kernel
theorem dX6_shade_2 : decode cX6_shade 2 = .ok (.if_icmp .eq 21, 3) := by decide +kernel
theorem dX6_shade_5 : decode cX6_shade 5 = .ok (.aload_n 0, 1) := by decide +kernel
theorem dX6_shade_6 : decode cX6_shade 6 = .ok (.getfield 19, 3) := by decide +kernel
theorem dX6_shade_9 : decode cX6_shade 9 = .ok (.iload_n 1, 1) := by decide +kernel
theorem dX6_shade_10 : decode cX6_shade 10 = .ok (.iaload, 1) := by decide +kernel
theorem dX6_shade_11 : decode cX6_shade 11 = .ok (.ifCond .ne 12, 3) := by decide +kernel
theorem dX6_shade_14 : decode cX6_shade 14 = .ok (.aload_n 0, 1) := by decide +kernel
theorem dX6_shade_15 : decode cX6_shade 15 = .ok (.getfield 22, 3) := by decide +kernel
theorem dX6_shade_18 : decode cX6_shade 18 = .ok (.iload_n 1, 1) := by decide +kernel
theorem dX6_shade_19 : decode cX6_shade 19 = .ok (.baload, 1) := by decide +kernel
theorem dX6_shade_20 : decode cX6_shade 20 = .ok (.ifCond .eq 4, 3) := by decide +kernel
theorem dX6_shade_23 : decode cX6_shade 23 = .ok (.return_, 1) := by decide +kernel
theorem dX6_shade_24 : decode cX6_shade 24 = .ok (.aload_n 0, 1) := by decide +kernel
theorem dX6_shade_25 : decode cX6_shade 25 = .ok (.getfield 19, 3) := by decide +kernel
theorem dX6_shade_28 : decode cX6_shade 28 = .ok (.iload_n 1, 1) := by decide +kernel
theorem dX6_shade_29 : decode cX6_shade 29 = .ok (.iconst 1, 1) := by decide +kernel
theorem dX6_shade_30 : decode cX6_shade 30 = .ok (.iastore, 1) := by decide +kernel
theorem dX6_shade_31 : decode cX6_shade 31 = .ok (.aload_n 0, 1) := by decide +kernel
theorem dX6_shade_32 : decode cX6_shade 32 = .ok (.dup, 1) := by decide +kernel
theorem dX6_shade_33 : decode cX6_shade 33 = .ok (.getfield 84, 3) := by decide +kernel
theorem dX6_shade_36 : decode cX6_shade 36 = .ok (.iconst 1, 1) := by decide +kernel
theorem dX6_shade_37 : decode cX6_shade 37 = .ok (.iadd, 1) := by decide +kernel
theorem dX6_shade_38 : decode cX6_shade 38 = .ok (.putfield 84, 3) := by decide +kernel
theorem dX6_shade_41 : decode cX6_shade 41 = .ok (.aload_n 0, 1) := by decide +kernel
theorem dX6_shade_42 : decode cX6_shade 42 = .ok (.getfield 94, 3) := by decide +kernel
theorem dX6_shade_45 : decode cX6_shade 45 = .ok (.iconst 3, 1) := by decide +kernel
theorem dX6_shade_46 : decode cX6_shade 46 = .ok (.if_icmp .ne 58, 3) := by decide +kernel
theorem dX6_shade_49 : decode cX6_shade 49 = .ok (.aload_n 0, 1) := by decide +kernel
theorem dX6_shade_50 : decode cX6_shade 50 = .ok (.getfield 16, 3) := by decide +kernel
theorem dX6_shade_53 : decode cX6_shade 53 = .ok (.iload_n 1, 1) := by decide +kernel
theorem dX6_shade_54 : decode cX6_shade 54 = .ok (.bipush 100, 2) := by decide +kernel
theorem dX6_shade_56 : decode cX6_shade 56 = .ok (.aload_n 0, 1) := by decide +kernel
theorem dX6_shade_57 : decode cX6_shade 57 = .ok (.getfield 69, 3) := by decide +kernel
theorem dX6_shade_60 : decode cX6_shade 60 = .ok (.imul, 1) := by decide +kernel
theorem dX6_shade_61 : decode cX6_shade 61 = .ok (.aload_n 0, 1) := by decide +kernel
theorem dX6_shade_62 : decode cX6_shade 62 = .ok (.getfield 72, 3) := by decide +kernel
theorem dX6_shade_65 : decode cX6_shade 65 = .ok (.iadd, 1) := by decide +kernel
theorem dX6_shade_66 : decode cX6_shade 66 = .ok (.iastore, 1) := by decide +kernel
theorem dX6_shade_67 : decode cX6_shade 67 = .ok (.aload_n 0, 1) := by decide +kernel
theorem dX6_shade_68 : decode cX6_shade 68 = .ok (.dup, 1) := by decide +kernel
theorem dX6_shade_69 : decode cX6_shade 69 = .ok (.getfield 72, 3) := by decide +kernel
theorem dX6_shade_72 : decode cX6_shade 72 = .ok (.aload_n 0, 1) := by decide +kernel
theorem dX6_shade_73 : decode cX6_shade 73 = .ok (.getfield 7, 3) := by decide +kernel
theorem dX6_shade_76 : decode cX6_shade 76 = .ok (.iload_n 1, 1) := by decide +kernel
theorem dX6_shade_77 : decode cX6_shade 77 = .ok (.iaload, 1) := by decide +kernel
theorem dX6_shade_78 : decode cX6_shade 78 = .ok (.iconst 1, 1) := by decide +kernel
theorem dX6_shade_79 : decode cX6_shade 79 = .ok (.iadd, 1) := by decide +kernel
theorem dX6_shade_80 : decode cX6_shade 80 = .ok (.iadd, 1) := by decide +kernel
theorem dX6_shade_81 : decode cX6_shade 81 = .ok (.putfield 72, 3) := by decide +kernel
theorem dX6_shade_84 : decode cX6_shade 84 = .ok (.aload_n 0, 1) := by decide +kernel
theorem dX6_shade_85 : decode cX6_shade 85 = .ok (.getfield 29, 3) := by decide +kernel
theorem dX6_shade_88 : decode cX6_shade 88 = .ok (.iload_n 1, 1) := by decide +kernel
theorem dX6_shade_89 : decode cX6_shade 89 = .ok (.dup2, 1) := by decide +kernel
theorem dX6_shade_90 : decode cX6_shade 90 = .ok (.iaload, 1) := by decide +kernel
theorem dX6_shade_91 : decode cX6_shade 91 = .ok (.iconst 1, 1) := by decide +kernel
theorem dX6_shade_92 : decode cX6_shade 92 = .ok (.iadd, 1) := by decide +kernel
theorem dX6_shade_93 : decode cX6_shade 93 = .ok (.iastore, 1) := by decide +kernel
theorem dX6_shade_94 : decode cX6_shade 94 = .ok (.aload_n 0, 1) := by decide +kernel
theorem dX6_shade_95 : decode cX6_shade 95 = .ok (.dup, 1) := by decide +kernel
theorem dX6_shade_96 : decode cX6_shade 96 = .ok (.getfield 87, 3) := by decide +kernel
theorem dX6_shade_99 : decode cX6_shade 99 = .ok (.iconst 1, 1) := by decide +kernel
theorem dX6_shade_100 : decode cX6_shade 100 = .ok (.iadd, 1) := by decide +kernel
theorem dX6_shade_101 : decode cX6_shade 101 = .ok (.putfield 87, 3) := by decide +kernel
theorem dX6_shade_104 : decode cX6_shade 104 = .ok (.return_, 1) := by decide +kernel
theorem dX6_shadeHeld_0 : decode cX6_shadeHeld 0 = .ok (.iconst 0, 1) := by decide +kernel
theorem dX6_shadeHeld_1 : decode cX6_shadeHeld 1 = .ok (.istore_n 1, 1) := by decide +kernel
theorem dX6_shadeHeld_2 : decode cX6_shadeHeld 2 = .ok (.iload_n 1, 1) := by decide +kernel
theorem dX6_shadeHeld_3 : decode cX6_shadeHeld 3 = .ok (.bipush 12, 2) := by decide +kernel
theorem dX6_shadeHeld_5 : decode cX6_shadeHeld 5 = .ok (.if_icmp .ge 19, 3) := by decide +kernel
theorem dX6_shadeHeld_8 : decode cX6_shadeHeld 8 = .ok (.aload_n 0, 1) := by decide +kernel
theorem dX6_shadeHeld_9 : decode cX6_shadeHeld 9 = .ok (.aload_n 0, 1) := by decide +kernel
theorem dX6_shadeHeld_10 : decode cX6_shadeHeld 10 = .ok (.getfield 32, 3) := by decide +kernel
theorem dX6_shadeHeld_13 : decode cX6_shadeHeld 13 = .ok (.iload_n 1, 1) := by decide +kernel
theorem dX6_shadeHeld_14 : decode cX6_shadeHeld 14 = .ok (.iaload, 1) := by decide +kernel
theorem dX6_shadeHeld_15 : decode cX6_shadeHeld 15 = .ok (.invokevirtual 100, 3) := by decide +kernel
theorem dX6_shadeHeld_18 : decode cX6_shadeHeld 18 = .ok (.iinc 1 1, 3) := by decide +kernel
theorem dX6_shadeHeld_21 : decode cX6_shadeHeld 21 = .ok (.goto (-19), 3) := by decide +kernel
theorem dX6_shadeHeld_24 : decode cX6_shadeHeld 24 = .ok (.iconst 0, 1) := by decide +kernel
theorem dX6_shadeHeld_25 : decode cX6_shadeHeld 25 = .ok (.istore_n 1, 1) := by decide +kernel
theorem dX6_shadeHeld_26 : decode cX6_shadeHeld 26 = .ok (.iload_n 1, 1) := by decide +kernel
theorem dX6_shadeHeld_27 : decode cX6_shadeHeld 27 = .ok (.iconst 4, 1) := by decide +kernel
theorem dX6_shadeHeld_28 : decode cX6_shadeHeld 28 = .ok (.if_icmp .ge 19, 3) := by decide +kernel
theorem dX6_shadeHeld_31 : decode cX6_shadeHeld 31 = .ok (.aload_n 0, 1) := by decide +kernel
theorem dX6_shadeHeld_32 : decode cX6_shadeHeld 32 = .ok (.aload_n 0, 1) := by decide +kernel
theorem dX6_shadeHeld_33 : decode cX6_shadeHeld 33 = .ok (.getfield 35, 3) := by decide +kernel
theorem dX6_shadeHeld_36 : decode cX6_shadeHeld 36 = .ok (.iload_n 1, 1) := by decide +kernel
theorem dX6_shadeHeld_37 : decode cX6_shadeHeld 37 = .ok (.iaload, 1) := by decide +kernel
theorem dX6_shadeHeld_38 : decode cX6_shadeHeld 38 = .ok (.invokevirtual 100, 3) := by decide +kernel
theorem dX6_shadeHeld_41 : decode cX6_shadeHeld 41 = .ok (.iinc 1 1, 3) := by decide +kernel
theorem dX6_shadeHeld_44 : decode cX6_shadeHeld 44 = .ok (.goto (-18), 3) := by decide +kernel
theorem dX6_shadeHeld_47 : decode cX6_shadeHeld 47 = .ok (.iconst 0, 1) := by decide +kernel
theorem dX6_shadeHeld_48 : decode cX6_shadeHeld 48 = .ok (.istore_n 1, 1) := by decide +kernel
theorem dX6_shadeHeld_49 : decode cX6_shadeHeld 49 = .ok (.iload_n 1, 1) := by decide +kernel
theorem dX6_shadeHeld_50 : decode cX6_shadeHeld 50 = .ok (.aload_n 0, 1) := by decide +kernel
theorem dX6_shadeHeld_51 : decode cX6_shadeHeld 51 = .ok (.getfield 63, 3) := by decide +kernel
theorem dX6_shadeHeld_54 : decode cX6_shadeHeld 54 = .ok (.if_icmp .ge 19, 3) := by decide +kernel
theorem dX6_shadeHeld_57 : decode cX6_shadeHeld 57 = .ok (.aload_n 0, 1) := by decide +kernel
theorem dX6_shadeHeld_58 : decode cX6_shadeHeld 58 = .ok (.aload_n 0, 1) := by decide +kernel
theorem dX6_shadeHeld_59 : decode cX6_shadeHeld 59 = .ok (.getfield 38, 3) := by decide +kernel
theorem dX6_shadeHeld_62 : decode cX6_shadeHeld 62 = .ok (.iload_n 1, 1) := by decide +kernel
theorem dX6_shadeHeld_63 : decode cX6_shadeHeld 63 = .ok (.iaload, 1) := by decide +kernel
theorem dX6_shadeHeld_64 : decode cX6_shadeHeld 64 = .ok (.invokevirtual 100, 3) := by decide +kernel
theorem dX6_shadeHeld_67 : decode cX6_shadeHeld 67 = .ok (.iinc 1 1, 3) := by decide +kernel
theorem dX6_shadeHeld_70 : decode cX6_shadeHeld 70 = .ok (.goto (-21), 3) := by decide +kernel
theorem dX6_shadeHeld_73 : decode cX6_shadeHeld 73 = .ok (.return_, 1) := by decide +kernel
theorem dX6_frees_0 : decode cX6_frees 0 = .ok (.aload_n 0, 1) := by decide +kernel
theorem dX6_frees_1 : decode cX6_frees 1 = .ok (.getfield 22, 3) := by decide +kernel
theorem dX6_frees_4 : decode cX6_frees 4 = .ok (.iload_n 1, 1) := by decide +kernel
theorem dX6_frees_5 : decode cX6_frees 5 = .ok (.iconst 1, 1) := by decide +kernel
theorem dX6_frees_6 : decode cX6_frees 6 = .ok (.bastore, 1) := by decide +kernel
theorem dX6_frees_7 : decode cX6_frees 7 = .ok (.aload_n 0, 1) := by decide +kernel
theorem dX6_frees_8 : decode cX6_frees 8 = .ok (.getfield 16, 3) := by decide +kernel
theorem dX6_frees_11 : decode cX6_frees 11 = .ok (.iload_n 1, 1) := by decide +kernel
theorem dX6_frees_12 : decode cX6_frees 12 = .ok (.iconst (-1), 1) := by decide +kernel
theorem dX6_frees_13 : decode cX6_frees 13 = .ok (.iastore, 1) := by decide +kernel
theorem dX6_frees_14 : decode cX6_frees 14 = .ok (.aload_n 0, 1) := by decide +kernel
theorem dX6_frees_15 : decode cX6_frees 15 = .ok (.dup, 1) := by decide +kernel
theorem dX6_frees_16 : decode cX6_frees 16 = .ok (.getfield 104, 3) := by decide +kernel
theorem dX6_frees_19 : decode cX6_frees 19 = .ok (.iconst 1, 1) := by decide +kernel
theorem dX6_frees_20 : decode cX6_frees 20 = .ok (.iadd, 1) := by decide +kernel
theorem dX6_frees_21 : decode cX6_frees 21 = .ok (.putfield 104, 3) := by decide +kernel
theorem dX6_frees_24 : decode cX6_frees 24 = .ok (.return_, 1) := by decide +kernel
theorem dX6_leastGray_0 : decode cX6_leastGray 0 = .ok (.iconst 0, 1) := by decide +kernel
theorem dX6_leastGray_1 : decode cX6_leastGray 1 = .ok (.istore_n 1, 1) := by decide +kernel
theorem dX6_leastGray_2 : decode cX6_leastGray 2 = .ok (.iload_n 1, 1) := by decide +kernel
theorem dX6_leastGray_3 : decode cX6_leastGray 3 = .ok (.aload_n 0, 1) := by decide +kernel
theorem dX6_leastGray_4 : decode cX6_leastGray 4 = .ok (.getfield 59, 3) := by decide +kernel
theorem dX6_leastGray_7 : decode cX6_leastGray 7 = .ok (.if_icmp .ge 30, 3) := by decide +kernel
theorem dX6_leastGray_10 : decode cX6_leastGray 10 = .ok (.aload_n 0, 1) := by decide +kernel
theorem dX6_leastGray_11 : decode cX6_leastGray 11 = .ok (.getfield 19, 3) := by decide +kernel
theorem dX6_leastGray_14 : decode cX6_leastGray 14 = .ok (.iload_n 1, 1) := by decide +kernel
theorem dX6_leastGray_15 : decode cX6_leastGray 15 = .ok (.iaload, 1) := by decide +kernel
theorem dX6_leastGray_16 : decode cX6_leastGray 16 = .ok (.iconst 1, 1) := by decide +kernel
theorem dX6_leastGray_17 : decode cX6_leastGray 17 = .ok (.if_icmp .ne 14, 3) := by decide +kernel
theorem dX6_leastGray_20 : decode cX6_leastGray 20 = .ok (.aload_n 0, 1) := by decide +kernel
theorem dX6_leastGray_21 : decode cX6_leastGray 21 = .ok (.getfield 22, 3) := by decide +kernel
theorem dX6_leastGray_24 : decode cX6_leastGray 24 = .ok (.iload_n 1, 1) := by decide +kernel
theorem dX6_leastGray_25 : decode cX6_leastGray 25 = .ok (.baload, 1) := by decide +kernel
theorem dX6_leastGray_26 : decode cX6_leastGray 26 = .ok (.ifCond .ne 5, 3) := by decide +kernel
theorem dX6_leastGray_29 : decode cX6_leastGray 29 = .ok (.iload_n 1, 1) := by decide +kernel
theorem dX6_leastGray_30 : decode cX6_leastGray 30 = .ok (.ireturn, 1) := by decide +kernel
theorem dX6_leastGray_31 : decode cX6_leastGray 31 = .ok (.iinc 1 1, 3) := by decide +kernel
theorem dX6_leastGray_34 : decode cX6_leastGray 34 = .ok (.goto (-32), 3) := by decide +kernel
theorem dX6_leastGray_37 : decode cX6_leastGray 37 = .ok (.iconst (-1), 1) := by decide +kernel
theorem dX6_leastGray_38 : decode cX6_leastGray 38 = .ok (.ireturn, 1) := by decide +kernel
theorem dX6_isWhite_0 : decode cX6_isWhite 0 = .ok (.aload_n 0, 1) := by decide +kernel
theorem dX6_isWhite_1 : decode cX6_isWhite 1 = .ok (.getfield 19, 3) := by decide +kernel
theorem dX6_isWhite_4 : decode cX6_isWhite 4 = .ok (.iload_n 1, 1) := by decide +kernel
theorem dX6_isWhite_5 : decode cX6_isWhite 5 = .ok (.iaload, 1) := by decide +kernel
theorem dX6_isWhite_6 : decode cX6_isWhite 6 = .ok (.ifCond .ne 7, 3) := by decide +kernel
theorem dX6_isWhite_9 : decode cX6_isWhite 9 = .ok (.iconst 1, 1) := by decide +kernel
theorem dX6_isWhite_10 : decode cX6_isWhite 10 = .ok (.goto 4, 3) := by decide +kernel
theorem dX6_isWhite_13 : decode cX6_isWhite 13 = .ok (.iconst 0, 1) := by decide +kernel
theorem dX6_isWhite_14 : decode cX6_isWhite 14 = .ok (.ireturn, 1) := by decide +kernel
theorem dX6_wishes_0 : decode cX6_wishes 0 = .ok (.aload_n 0, 1) := by decide +kernel
theorem dX6_wishes_1 : decode cX6_wishes 1 = .ok (.getfield 26, 3) := by decide +kernel
theorem dX6_wishes_4 : decode cX6_wishes 4 = .ok (.iload_n 1, 1) := by decide +kernel
theorem dX6_wishes_5 : decode cX6_wishes 5 = .ok (.iconst 0, 1) := by decide +kernel
theorem dX6_wishes_6 : decode cX6_wishes 6 = .ok (.bastore, 1) := by decide +kernel
theorem dX6_wishes_7 : decode cX6_wishes 7 = .ok (.aload_n 0, 1) := by decide +kernel
theorem dX6_wishes_8 : decode cX6_wishes 8 = .ok (.getfield 38, 3) := by decide +kernel
theorem dX6_wishes_11 : decode cX6_wishes 11 = .ok (.aload_n 0, 1) := by decide +kernel
theorem dX6_wishes_12 : decode cX6_wishes 12 = .ok (.getfield 63, 3) := by decide +kernel
theorem dX6_wishes_15 : decode cX6_wishes 15 = .ok (.iload_n 1, 1) := by decide +kernel
theorem dX6_wishes_16 : decode cX6_wishes 16 = .ok (.iastore, 1) := by decide +kernel
theorem dX6_wishes_17 : decode cX6_wishes 17 = .ok (.aload_n 0, 1) := by decide +kernel
theorem dX6_wishes_18 : decode cX6_wishes 18 = .ok (.dup, 1) := by decide +kernel
theorem dX6_wishes_19 : decode cX6_wishes 19 = .ok (.getfield 63, 3) := by decide +kernel
theorem dX6_wishes_22 : decode cX6_wishes 22 = .ok (.iconst 1, 1) := by decide +kernel
theorem dX6_wishes_23 : decode cX6_wishes 23 = .ok (.iadd, 1) := by decide +kernel
theorem dX6_wishes_24 : decode cX6_wishes 24 = .ok (.putfield 63, 3) := by decide +kernel
theorem dX6_wishes_27 : decode cX6_wishes 27 = .ok (.aload_n 0, 1) := by decide +kernel
theorem dX6_wishes_28 : decode cX6_wishes 28 = .ok (.iload_n 1, 1) := by decide +kernel
theorem dX6_wishes_29 : decode cX6_wishes 29 = .ok (.invokevirtual 100, 3) := by decide +kernel
theorem dX6_wishes_32 : decode cX6_wishes 32 = .ok (.return_, 1) := by decide +kernel
theorem dX6_findsMore_0 : decode cX6_findsMore 0 = .ok (.aload_n 0, 1) := by decide +kernel
theorem dX6_findsMore_1 : decode cX6_findsMore 1 = .ok (.getfield 84, 3) := by decide +kernel
theorem dX6_findsMore_4 : decode cX6_findsMore 4 = .ok (.istore_n 1, 1) := by decide +kernel
theorem dX6_findsMore_5 : decode cX6_findsMore 5 = .ok (.aload_n 0, 1) := by decide +kernel
theorem dX6_findsMore_6 : decode cX6_findsMore 6 = .ok (.getfield 94, 3) := by decide +kernel
theorem dX6_findsMore_9 : decode cX6_findsMore 9 = .ok (.iconst 2, 1) := by decide +kernel
theorem dX6_findsMore_10 : decode cX6_findsMore 10 = .ok (.if_icmp .ne 7, 3) := by decide +kernel
theorem dX6_findsMore_13 : decode cX6_findsMore 13 = .ok (.aload_n 0, 1) := by decide +kernel
theorem dX6_findsMore_14 : decode cX6_findsMore 14 = .ok (.invokevirtual 107, 3) := by decide +kernel
theorem dX6_findsMore_17 : decode cX6_findsMore 17 = .ok (.aload_n 0, 1) := by decide +kernel
theorem dX6_findsMore_18 : decode cX6_findsMore 18 = .ok (.getfield 84, 3) := by decide +kernel
theorem dX6_findsMore_21 : decode cX6_findsMore 21 = .ok (.iload_n 1, 1) := by decide +kernel
theorem dX6_findsMore_22 : decode cX6_findsMore 22 = .ok (.if_icmp .ne 51, 3) := by decide +kernel
theorem dX6_findsMore_25 : decode cX6_findsMore 25 = .ok (.iconst 0, 1) := by decide +kernel
theorem dX6_findsMore_26 : decode cX6_findsMore 26 = .ok (.istore_n 2, 1) := by decide +kernel
theorem dX6_findsMore_27 : decode cX6_findsMore 27 = .ok (.iload_n 2, 1) := by decide +kernel
theorem dX6_findsMore_28 : decode cX6_findsMore 28 = .ok (.aload_n 0, 1) := by decide +kernel
theorem dX6_findsMore_29 : decode cX6_findsMore 29 = .ok (.getfield 66, 3) := by decide +kernel
theorem dX6_findsMore_32 : decode cX6_findsMore 32 = .ok (.if_icmp .ge 41, 3) := by decide +kernel
theorem dX6_findsMore_35 : decode cX6_findsMore 35 = .ok (.aload_n 0, 1) := by decide +kernel
theorem dX6_findsMore_36 : decode cX6_findsMore 36 = .ok (.getfield 50, 3) := by decide +kernel
theorem dX6_findsMore_39 : decode cX6_findsMore 39 = .ok (.iload_n 2, 1) := by decide +kernel
theorem dX6_findsMore_40 : decode cX6_findsMore 40 = .ok (.baload, 1) := by decide +kernel
theorem dX6_findsMore_41 : decode cX6_findsMore 41 = .ok (.ifCond .eq 26, 3) := by decide +kernel
theorem dX6_findsMore_44 : decode cX6_findsMore 44 = .ok (.aload_n 0, 1) := by decide +kernel
theorem dX6_findsMore_45 : decode cX6_findsMore 45 = .ok (.aload_n 0, 1) := by decide +kernel
theorem dX6_findsMore_46 : decode cX6_findsMore 46 = .ok (.getfield 44, 3) := by decide +kernel
theorem dX6_findsMore_49 : decode cX6_findsMore 49 = .ok (.iload_n 2, 1) := by decide +kernel
theorem dX6_findsMore_50 : decode cX6_findsMore 50 = .ok (.iaload, 1) := by decide +kernel
theorem dX6_findsMore_51 : decode cX6_findsMore 51 = .ok (.invokevirtual 110, 3) := by decide +kernel
theorem dX6_findsMore_54 : decode cX6_findsMore 54 = .ok (.ifCond .ne 13, 3) := by decide +kernel
theorem dX6_findsMore_57 : decode cX6_findsMore 57 = .ok (.aload_n 0, 1) := by decide +kernel
theorem dX6_findsMore_58 : decode cX6_findsMore 58 = .ok (.aload_n 0, 1) := by decide +kernel
theorem dX6_findsMore_59 : decode cX6_findsMore 59 = .ok (.getfield 47, 3) := by decide +kernel
theorem dX6_findsMore_62 : decode cX6_findsMore 62 = .ok (.iload_n 2, 1) := by decide +kernel
theorem dX6_findsMore_63 : decode cX6_findsMore 63 = .ok (.iaload, 1) := by decide +kernel
theorem dX6_findsMore_64 : decode cX6_findsMore 64 = .ok (.invokevirtual 100, 3) := by decide +kernel
theorem dX6_findsMore_67 : decode cX6_findsMore 67 = .ok (.iinc 2 1, 3) := by decide +kernel
theorem dX6_findsMore_70 : decode cX6_findsMore 70 = .ok (.goto (-43), 3) := by decide +kernel
theorem dX6_findsMore_73 : decode cX6_findsMore 73 = .ok (.aload_n 0, 1) := by decide +kernel
theorem dX6_findsMore_74 : decode cX6_findsMore 74 = .ok (.getfield 84, 3) := by decide +kernel
theorem dX6_findsMore_77 : decode cX6_findsMore 77 = .ok (.iload_n 1, 1) := by decide +kernel
theorem dX6_findsMore_78 : decode cX6_findsMore 78 = .ok (.if_icmp .ne 50, 3) := by decide +kernel
theorem dX6_findsMore_81 : decode cX6_findsMore 81 = .ok (.iconst 0, 1) := by decide +kernel
theorem dX6_findsMore_82 : decode cX6_findsMore 82 = .ok (.istore_n 2, 1) := by decide +kernel
theorem dX6_findsMore_83 : decode cX6_findsMore 83 = .ok (.iload_n 2, 1) := by decide +kernel
theorem dX6_findsMore_84 : decode cX6_findsMore 84 = .ok (.aload_n 0, 1) := by decide +kernel
theorem dX6_findsMore_85 : decode cX6_findsMore 85 = .ok (.getfield 59, 3) := by decide +kernel
theorem dX6_findsMore_88 : decode cX6_findsMore 88 = .ok (.if_icmp .ge 40, 3) := by decide +kernel
theorem dX6_findsMore_91 : decode cX6_findsMore 91 = .ok (.aload_n 0, 1) := by decide +kernel
theorem dX6_findsMore_92 : decode cX6_findsMore 92 = .ok (.getfield 26, 3) := by decide +kernel
theorem dX6_findsMore_95 : decode cX6_findsMore 95 = .ok (.iload_n 2, 1) := by decide +kernel
theorem dX6_findsMore_96 : decode cX6_findsMore 96 = .ok (.baload, 1) := by decide +kernel
theorem dX6_findsMore_97 : decode cX6_findsMore 97 = .ok (.ifCond .eq 25, 3) := by decide +kernel
theorem dX6_findsMore_100 : decode cX6_findsMore 100 = .ok (.aload_n 0, 1) := by decide +kernel
theorem dX6_findsMore_101 : decode cX6_findsMore 101 = .ok (.iload_n 2, 1) := by decide +kernel
theorem dX6_findsMore_102 : decode cX6_findsMore 102 = .ok (.invokevirtual 110, 3) := by decide +kernel
theorem dX6_findsMore_105 : decode cX6_findsMore 105 = .ok (.ifCond .eq 17, 3) := by decide +kernel
theorem dX6_findsMore_108 : decode cX6_findsMore 108 = .ok (.aload_n 0, 1) := by decide +kernel
theorem dX6_findsMore_109 : decode cX6_findsMore 109 = .ok (.getfield 22, 3) := by decide +kernel
theorem dX6_findsMore_112 : decode cX6_findsMore 112 = .ok (.iload_n 2, 1) := by decide +kernel
theorem dX6_findsMore_113 : decode cX6_findsMore 113 = .ok (.baload, 1) := by decide +kernel
theorem dX6_findsMore_114 : decode cX6_findsMore 114 = .ok (.ifCond .ne 8, 3) := by decide +kernel
theorem dX6_findsMore_117 : decode cX6_findsMore 117 = .ok (.aload_n 0, 1) := by decide +kernel
theorem dX6_findsMore_118 : decode cX6_findsMore 118 = .ok (.iload_n 2, 1) := by decide +kernel
theorem dX6_findsMore_119 : decode cX6_findsMore 119 = .ok (.invokevirtual 114, 3) := by decide +kernel
theorem dX6_findsMore_122 : decode cX6_findsMore 122 = .ok (.iinc 2 1, 3) := by decide +kernel
theorem dX6_findsMore_125 : decode cX6_findsMore 125 = .ok (.goto (-42), 3) := by decide +kernel
theorem dX6_findsMore_128 : decode cX6_findsMore 128 = .ok (.aload_n 0, 1) := by decide +kernel
theorem dX6_findsMore_129 : decode cX6_findsMore 129 = .ok (.getfield 84, 3) := by decide +kernel
theorem dX6_findsMore_132 : decode cX6_findsMore 132 = .ok (.iload_n 1, 1) := by decide +kernel
theorem dX6_findsMore_133 : decode cX6_findsMore 133 = .ok (.if_icmp .le 7, 3) := by decide +kernel
theorem dX6_findsMore_136 : decode cX6_findsMore 136 = .ok (.iconst 1, 1) := by decide +kernel
theorem dX6_findsMore_137 : decode cX6_findsMore 137 = .ok (.goto 4, 3) := by decide +kernel
theorem dX6_findsMore_140 : decode cX6_findsMore 140 = .ok (.iconst 0, 1) := by decide +kernel
theorem dX6_findsMore_141 : decode cX6_findsMore 141 = .ok (.ireturn, 1) := by decide +kernel
theorem dX6_marks_0 : decode cX6_marks 0 = .ok (.aload_n 0, 1) := by decide +kernel
theorem dX6_marks_1 : decode cX6_marks 1 = .ok (.invokevirtual 116, 3) := by decide +kernel
theorem dX6_marks_4 : decode cX6_marks 4 = .ok (.istore_n 1, 1) := by decide +kernel
theorem dX6_marks_5 : decode cX6_marks 5 = .ok (.iload_n 1, 1) := by decide +kernel
theorem dX6_marks_6 : decode cX6_marks 6 = .ok (.iconst (-1), 1) := by decide +kernel
theorem dX6_marks_7 : decode cX6_marks 7 = .ok (.if_icmp .eq 44, 3) := by decide +kernel
theorem dX6_marks_10 : decode cX6_marks 10 = .ok (.iconst 0, 1) := by decide +kernel
theorem dX6_marks_11 : decode cX6_marks 11 = .ok (.istore_n 2, 1) := by decide +kernel
theorem dX6_marks_12 : decode cX6_marks 12 = .ok (.iload_n 2, 1) := by decide +kernel
theorem dX6_marks_13 : decode cX6_marks 13 = .ok (.aload_n 0, 1) := by decide +kernel
theorem dX6_marks_14 : decode cX6_marks 14 = .ok (.getfield 7, 3) := by decide +kernel
theorem dX6_marks_17 : decode cX6_marks 17 = .ok (.iload_n 1, 1) := by decide +kernel
theorem dX6_marks_18 : decode cX6_marks 18 = .ok (.iaload, 1) := by decide +kernel
theorem dX6_marks_19 : decode cX6_marks 19 = .ok (.if_icmp .ge 24, 3) := by decide +kernel
theorem dX6_marks_22 : decode cX6_marks 22 = .ok (.aload_n 0, 1) := by decide +kernel
theorem dX6_marks_23 : decode cX6_marks 23 = .ok (.aload_n 0, 1) := by decide +kernel
theorem dX6_marks_24 : decode cX6_marks 24 = .ok (.getfield 13, 3) := by decide +kernel
theorem dX6_marks_27 : decode cX6_marks 27 = .ok (.bipush 6, 2) := by decide +kernel
theorem dX6_marks_29 : decode cX6_marks 29 = .ok (.iload_n 1, 1) := by decide +kernel
theorem dX6_marks_30 : decode cX6_marks 30 = .ok (.imul, 1) := by decide +kernel
theorem dX6_marks_31 : decode cX6_marks 31 = .ok (.iload_n 2, 1) := by decide +kernel
theorem dX6_marks_32 : decode cX6_marks 32 = .ok (.iadd, 1) := by decide +kernel
theorem dX6_marks_33 : decode cX6_marks 33 = .ok (.iaload, 1) := by decide +kernel
theorem dX6_marks_34 : decode cX6_marks 34 = .ok (.invokevirtual 100, 3) := by decide +kernel
theorem dX6_marks_37 : decode cX6_marks 37 = .ok (.iinc 2 1, 3) := by decide +kernel
theorem dX6_marks_40 : decode cX6_marks 40 = .ok (.goto (-28), 3) := by decide +kernel
theorem dX6_marks_43 : decode cX6_marks 43 = .ok (.aload_n 0, 1) := by decide +kernel
theorem dX6_marks_44 : decode cX6_marks 44 = .ok (.getfield 19, 3) := by decide +kernel
theorem dX6_marks_47 : decode cX6_marks 47 = .ok (.iload_n 1, 1) := by decide +kernel
theorem dX6_marks_48 : decode cX6_marks 48 = .ok (.iconst 2, 1) := by decide +kernel
theorem dX6_marks_49 : decode cX6_marks 49 = .ok (.iastore, 1) := by decide +kernel
theorem dX6_marks_50 : decode cX6_marks 50 = .ok (.return_, 1) := by decide +kernel
theorem dX6_marks_51 : decode cX6_marks 51 = .ok (.aload_n 0, 1) := by decide +kernel
theorem dX6_marks_52 : decode cX6_marks 52 = .ok (.invokevirtual 120, 3) := by decide +kernel
theorem dX6_marks_55 : decode cX6_marks 55 = .ok (.ifCond .eq 4, 3) := by decide +kernel
theorem dX6_marks_58 : decode cX6_marks 58 = .ok (.return_, 1) := by decide +kernel
theorem dX6_marks_59 : decode cX6_marks 59 = .ok (.iconst 0, 1) := by decide +kernel
theorem dX6_marks_60 : decode cX6_marks 60 = .ok (.istore_n 2, 1) := by decide +kernel
theorem dX6_marks_61 : decode cX6_marks 61 = .ok (.iload_n 2, 1) := by decide +kernel
theorem dX6_marks_62 : decode cX6_marks 62 = .ok (.bipush 6, 2) := by decide +kernel
theorem dX6_marks_64 : decode cX6_marks 64 = .ok (.if_icmp .ge 48, 3) := by decide +kernel
theorem dX6_marks_67 : decode cX6_marks 67 = .ok (.aload_n 0, 1) := by decide +kernel
theorem dX6_marks_68 : decode cX6_marks 68 = .ok (.getfield 41, 3) := by decide +kernel
theorem dX6_marks_71 : decode cX6_marks 71 = .ok (.iload_n 2, 1) := by decide +kernel
theorem dX6_marks_72 : decode cX6_marks 72 = .ok (.aload_n 0, 1) := by decide +kernel
theorem dX6_marks_73 : decode cX6_marks 73 = .ok (.getfield 41, 3) := by decide +kernel
theorem dX6_marks_76 : decode cX6_marks 76 = .ok (.iload_n 2, 1) := by decide +kernel
theorem dX6_marks_77 : decode cX6_marks 77 = .ok (.iaload, 1) := by decide +kernel
theorem dX6_marks_78 : decode cX6_marks 78 = .ok (.iconst (-1), 1) := by decide +kernel
theorem dX6_marks_79 : decode cX6_marks 79 = .ok (.if_icmp .eq 20, 3) := by decide +kernel
theorem dX6_marks_82 : decode cX6_marks 82 = .ok (.aload_n 0, 1) := by decide +kernel
theorem dX6_marks_83 : decode cX6_marks 83 = .ok (.aload_n 0, 1) := by decide +kernel
theorem dX6_marks_84 : decode cX6_marks 84 = .ok (.getfield 41, 3) := by decide +kernel
theorem dX6_marks_87 : decode cX6_marks 87 = .ok (.iload_n 2, 1) := by decide +kernel
theorem dX6_marks_88 : decode cX6_marks 88 = .ok (.iaload, 1) := by decide +kernel
theorem dX6_marks_89 : decode cX6_marks 89 = .ok (.invokevirtual 110, 3) := by decide +kernel
theorem dX6_marks_92 : decode cX6_marks 92 = .ok (.ifCond .eq 7, 3) := by decide +kernel
theorem dX6_marks_95 : decode cX6_marks 95 = .ok (.iconst (-1), 1) := by decide +kernel
theorem dX6_marks_96 : decode cX6_marks 96 = .ok (.goto 9, 3) := by decide +kernel
theorem dX6_marks_99 : decode cX6_marks 99 = .ok (.aload_n 0, 1) := by decide +kernel
theorem dX6_marks_100 : decode cX6_marks 100 = .ok (.getfield 41, 3) := by decide +kernel
theorem dX6_marks_103 : decode cX6_marks 103 = .ok (.iload_n 2, 1) := by decide +kernel
theorem dX6_marks_104 : decode cX6_marks 104 = .ok (.iaload, 1) := by decide +kernel
theorem dX6_marks_105 : decode cX6_marks 105 = .ok (.iastore, 1) := by decide +kernel
theorem dX6_marks_106 : decode cX6_marks 106 = .ok (.iinc 2 1, 3) := by decide +kernel
theorem dX6_marks_109 : decode cX6_marks 109 = .ok (.goto (-48), 3) := by decide +kernel
theorem dX6_marks_112 : decode cX6_marks 112 = .ok (.iconst 0, 1) := by decide +kernel
theorem dX6_marks_113 : decode cX6_marks 113 = .ok (.istore_n 2, 1) := by decide +kernel
theorem dX6_marks_114 : decode cX6_marks 114 = .ok (.iload_n 2, 1) := by decide +kernel
theorem dX6_marks_115 : decode cX6_marks 115 = .ok (.aload_n 0, 1) := by decide +kernel
theorem dX6_marks_116 : decode cX6_marks 116 = .ok (.getfield 66, 3) := by decide +kernel
theorem dX6_marks_119 : decode cX6_marks 119 = .ok (.if_icmp .ge 42, 3) := by decide +kernel
theorem dX6_marks_122 : decode cX6_marks 122 = .ok (.aload_n 0, 1) := by decide +kernel
theorem dX6_marks_123 : decode cX6_marks 123 = .ok (.getfield 50, 3) := by decide +kernel
theorem dX6_marks_126 : decode cX6_marks 126 = .ok (.iload_n 2, 1) := by decide +kernel
theorem dX6_marks_127 : decode cX6_marks 127 = .ok (.aload_n 0, 1) := by decide +kernel
theorem dX6_marks_128 : decode cX6_marks 128 = .ok (.getfield 50, 3) := by decide +kernel
theorem dX6_marks_131 : decode cX6_marks 131 = .ok (.iload_n 2, 1) := by decide +kernel
theorem dX6_marks_132 : decode cX6_marks 132 = .ok (.baload, 1) := by decide +kernel
theorem dX6_marks_133 : decode cX6_marks 133 = .ok (.ifCond .eq 20, 3) := by decide +kernel
theorem dX6_marks_136 : decode cX6_marks 136 = .ok (.aload_n 0, 1) := by decide +kernel
theorem dX6_marks_137 : decode cX6_marks 137 = .ok (.aload_n 0, 1) := by decide +kernel
theorem dX6_marks_138 : decode cX6_marks 138 = .ok (.getfield 44, 3) := by decide +kernel
theorem dX6_marks_141 : decode cX6_marks 141 = .ok (.iload_n 2, 1) := by decide +kernel
theorem dX6_marks_142 : decode cX6_marks 142 = .ok (.iaload, 1) := by decide +kernel
theorem dX6_marks_143 : decode cX6_marks 143 = .ok (.invokevirtual 110, 3) := by decide +kernel
theorem dX6_marks_146 : decode cX6_marks 146 = .ok (.ifCond .ne 7, 3) := by decide +kernel
theorem dX6_marks_149 : decode cX6_marks 149 = .ok (.iconst 1, 1) := by decide +kernel
theorem dX6_marks_150 : decode cX6_marks 150 = .ok (.goto 4, 3) := by decide +kernel
theorem dX6_marks_153 : decode cX6_marks 153 = .ok (.iconst 0, 1) := by decide +kernel
theorem dX6_marks_154 : decode cX6_marks 154 = .ok (.bastore, 1) := by decide +kernel
theorem dX6_marks_155 : decode cX6_marks 155 = .ok (.iinc 2 1, 3) := by decide +kernel
theorem dX6_marks_158 : decode cX6_marks 158 = .ok (.goto (-44), 3) := by decide +kernel
theorem dX6_marks_161 : decode cX6_marks 161 = .ok (.aload_n 0, 1) := by decide +kernel
theorem dX6_marks_162 : decode cX6_marks 162 = .ok (.iconst 2, 1) := by decide +kernel
theorem dX6_marks_163 : decode cX6_marks 163 = .ok (.putfield 75, 3) := by decide +kernel
theorem dX6_marks_166 : decode cX6_marks 166 = .ok (.aload_n 0, 1) := by decide +kernel
theorem dX6_marks_167 : decode cX6_marks 167 = .ok (.iconst 0, 1) := by decide +kernel
theorem dX6_marks_168 : decode cX6_marks 168 = .ok (.putfield 124, 3) := by decide +kernel
theorem dX6_marks_171 : decode cX6_marks 171 = .ok (.aload_n 0, 1) := by decide +kernel
theorem dX6_marks_172 : decode cX6_marks 172 = .ok (.getfield 94, 3) := by decide +kernel
theorem dX6_marks_175 : decode cX6_marks 175 = .ok (.iconst 3, 1) := by decide +kernel
theorem dX6_marks_176 : decode cX6_marks 176 = .ok (.if_icmp .ne 45, 3) := by decide +kernel
theorem dX6_marks_179 : decode cX6_marks 179 = .ok (.iconst 0, 1) := by decide +kernel
theorem dX6_marks_180 : decode cX6_marks 180 = .ok (.istore_n 2, 1) := by decide +kernel
theorem dX6_marks_181 : decode cX6_marks 181 = .ok (.iload_n 2, 1) := by decide +kernel
theorem dX6_marks_182 : decode cX6_marks 182 = .ok (.aload_n 0, 1) := by decide +kernel
theorem dX6_marks_183 : decode cX6_marks 183 = .ok (.getfield 59, 3) := by decide +kernel
theorem dX6_marks_186 : decode cX6_marks 186 = .ok (.if_icmp .ge 31, 3) := by decide +kernel
theorem dX6_marks_189 : decode cX6_marks 189 = .ok (.aload_n 0, 1) := by decide +kernel
theorem dX6_marks_190 : decode cX6_marks 190 = .ok (.iload_n 2, 1) := by decide +kernel
theorem dX6_marks_191 : decode cX6_marks 191 = .ok (.invokevirtual 110, 3) := by decide +kernel
theorem dX6_marks_194 : decode cX6_marks 194 = .ok (.ifCond .eq 17, 3) := by decide +kernel
theorem dX6_marks_197 : decode cX6_marks 197 = .ok (.aload_n 0, 1) := by decide +kernel
theorem dX6_marks_198 : decode cX6_marks 198 = .ok (.getfield 22, 3) := by decide +kernel
theorem dX6_marks_201 : decode cX6_marks 201 = .ok (.iload_n 2, 1) := by decide +kernel
theorem dX6_marks_202 : decode cX6_marks 202 = .ok (.baload, 1) := by decide +kernel
theorem dX6_marks_203 : decode cX6_marks 203 = .ok (.ifCond .ne 8, 3) := by decide +kernel
theorem dX6_marks_206 : decode cX6_marks 206 = .ok (.aload_n 0, 1) := by decide +kernel
theorem dX6_marks_207 : decode cX6_marks 207 = .ok (.iload_n 2, 1) := by decide +kernel
theorem dX6_marks_208 : decode cX6_marks 208 = .ok (.invokevirtual 127, 3) := by decide +kernel
theorem dX6_marks_211 : decode cX6_marks 211 = .ok (.iinc 2 1, 3) := by decide +kernel
theorem dX6_marks_214 : decode cX6_marks 214 = .ok (.goto (-33), 3) := by decide +kernel
theorem dX6_marks_217 : decode cX6_marks 217 = .ok (.aload_n 0, 1) := by decide +kernel
theorem dX6_marks_218 : decode cX6_marks 218 = .ok (.invokevirtual 130, 3) := by decide +kernel
theorem dX6_marks_221 : decode cX6_marks 221 = .ok (.return_, 1) := by decide +kernel
theorem dX6_over_0 : decode cX6_over 0 = .ok (.aload_n 0, 1) := by decide +kernel
theorem dX6_over_1 : decode cX6_over 1 = .ok (.iconst 0, 1) := by decide +kernel
theorem dX6_over_2 : decode cX6_over 2 = .ok (.putfield 75, 3) := by decide +kernel
theorem dX6_over_5 : decode cX6_over 5 = .ok (.aload_n 0, 1) := by decide +kernel
theorem dX6_over_6 : decode cX6_over 6 = .ok (.dup, 1) := by decide +kernel
theorem dX6_over_7 : decode cX6_over 7 = .ok (.getfield 78, 3) := by decide +kernel
theorem dX6_over_10 : decode cX6_over 10 = .ok (.iconst 1, 1) := by decide +kernel
theorem dX6_over_11 : decode cX6_over 11 = .ok (.iadd, 1) := by decide +kernel
theorem dX6_over_12 : decode cX6_over 12 = .ok (.putfield 78, 3) := by decide +kernel
theorem dX6_over_15 : decode cX6_over 15 = .ok (.return_, 1) := by decide +kernel
theorem dX6_sweeps_0 : decode cX6_sweeps 0 = .ok (.aload_n 0, 1) := by decide +kernel
theorem dX6_sweeps_1 : decode cX6_sweeps 1 = .ok (.getfield 124, 3) := by decide +kernel
theorem dX6_sweeps_4 : decode cX6_sweeps 4 = .ok (.aload_n 0, 1) := by decide +kernel
theorem dX6_sweeps_5 : decode cX6_sweeps 5 = .ok (.getfield 59, 3) := by decide +kernel
theorem dX6_sweeps_8 : decode cX6_sweeps 8 = .ok (.if_icmp .ge 28, 3) := by decide +kernel
theorem dX6_sweeps_11 : decode cX6_sweeps 11 = .ok (.aload_n 0, 1) := by decide +kernel
theorem dX6_sweeps_12 : decode cX6_sweeps 12 = .ok (.getfield 22, 3) := by decide +kernel
theorem dX6_sweeps_15 : decode cX6_sweeps 15 = .ok (.aload_n 0, 1) := by decide +kernel
theorem dX6_sweeps_16 : decode cX6_sweeps 16 = .ok (.getfield 124, 3) := by decide +kernel
theorem dX6_sweeps_19 : decode cX6_sweeps 19 = .ok (.baload, 1) := by decide +kernel
theorem dX6_sweeps_20 : decode cX6_sweeps 20 = .ok (.ifCond .eq 16, 3) := by decide +kernel
theorem dX6_sweeps_23 : decode cX6_sweeps 23 = .ok (.aload_n 0, 1) := by decide +kernel
theorem dX6_sweeps_24 : decode cX6_sweeps 24 = .ok (.dup, 1) := by decide +kernel
theorem dX6_sweeps_25 : decode cX6_sweeps 25 = .ok (.getfield 124, 3) := by decide +kernel
theorem dX6_sweeps_28 : decode cX6_sweeps 28 = .ok (.iconst 1, 1) := by decide +kernel
theorem dX6_sweeps_29 : decode cX6_sweeps 29 = .ok (.iadd, 1) := by decide +kernel
theorem dX6_sweeps_30 : decode cX6_sweeps 30 = .ok (.putfield 124, 3) := by decide +kernel
theorem dX6_sweeps_33 : decode cX6_sweeps 33 = .ok (.goto (-33), 3) := by decide +kernel
theorem dX6_sweeps_36 : decode cX6_sweeps 36 = .ok (.aload_n 0, 1) := by decide +kernel
theorem dX6_sweeps_37 : decode cX6_sweeps 37 = .ok (.getfield 124, 3) := by decide +kernel
theorem dX6_sweeps_40 : decode cX6_sweeps 40 = .ok (.aload_n 0, 1) := by decide +kernel
theorem dX6_sweeps_41 : decode cX6_sweeps 41 = .ok (.getfield 59, 3) := by decide +kernel
theorem dX6_sweeps_44 : decode cX6_sweeps 44 = .ok (.if_icmp .ne 8, 3) := by decide +kernel
theorem dX6_sweeps_47 : decode cX6_sweeps 47 = .ok (.aload_n 0, 1) := by decide +kernel
theorem dX6_sweeps_48 : decode cX6_sweeps 48 = .ok (.invokevirtual 130, 3) := by decide +kernel
theorem dX6_sweeps_51 : decode cX6_sweeps 51 = .ok (.return_, 1) := by decide +kernel
theorem dX6_sweeps_52 : decode cX6_sweeps 52 = .ok (.aload_n 0, 1) := by decide +kernel
theorem dX6_sweeps_53 : decode cX6_sweeps 53 = .ok (.aload_n 0, 1) := by decide +kernel
theorem dX6_sweeps_54 : decode cX6_sweeps 54 = .ok (.getfield 124, 3) := by decide +kernel
theorem dX6_sweeps_57 : decode cX6_sweeps 57 = .ok (.invokevirtual 110, 3) := by decide +kernel
theorem dX6_sweeps_60 : decode cX6_sweeps 60 = .ok (.ifCond .eq 11, 3) := by decide +kernel
theorem dX6_sweeps_63 : decode cX6_sweeps 63 = .ok (.aload_n 0, 1) := by decide +kernel
theorem dX6_sweeps_64 : decode cX6_sweeps 64 = .ok (.aload_n 0, 1) := by decide +kernel
theorem dX6_sweeps_65 : decode cX6_sweeps 65 = .ok (.getfield 124, 3) := by decide +kernel
theorem dX6_sweeps_68 : decode cX6_sweeps 68 = .ok (.invokevirtual 127, 3) := by decide +kernel
theorem dX6_sweeps_71 : decode cX6_sweeps 71 = .ok (.aload_n 0, 1) := by decide +kernel
theorem dX6_sweeps_72 : decode cX6_sweeps 72 = .ok (.dup, 1) := by decide +kernel
theorem dX6_sweeps_73 : decode cX6_sweeps 73 = .ok (.getfield 124, 3) := by decide +kernel
theorem dX6_sweeps_76 : decode cX6_sweeps 76 = .ok (.iconst 1, 1) := by decide +kernel
theorem dX6_sweeps_77 : decode cX6_sweeps 77 = .ok (.iadd, 1) := by decide +kernel
theorem dX6_sweeps_78 : decode cX6_sweeps 78 = .ok (.putfield 124, 3) := by decide +kernel
theorem dX6_sweeps_81 : decode cX6_sweeps 81 = .ok (.return_, 1) := by decide +kernel
theorem dX6_step_0 : decode cX6_step 0 = .ok (.aload_n 0, 1) := by decide +kernel
theorem dX6_step_1 : decode cX6_step 1 = .ok (.dup, 1) := by decide +kernel
theorem dX6_step_2 : decode cX6_step 2 = .ok (.getfield 81, 3) := by decide +kernel
theorem dX6_step_5 : decode cX6_step 5 = .ok (.iconst 1, 1) := by decide +kernel
theorem dX6_step_6 : decode cX6_step 6 = .ok (.iadd, 1) := by decide +kernel
theorem dX6_step_7 : decode cX6_step 7 = .ok (.putfield 81, 3) := by decide +kernel
theorem dX6_step_10 : decode cX6_step 10 = .ok (.aload_n 0, 1) := by decide +kernel
theorem dX6_step_11 : decode cX6_step 11 = .ok (.getfield 75, 3) := by decide +kernel
theorem dX6_step_14 : decode cX6_step 14 = .ok (.iconst 1, 1) := by decide +kernel
theorem dX6_step_15 : decode cX6_step 15 = .ok (.if_icmp .ne 10, 3) := by decide +kernel
theorem dX6_step_18 : decode cX6_step 18 = .ok (.aload_n 0, 1) := by decide +kernel
theorem dX6_step_19 : decode cX6_step 19 = .ok (.invokevirtual 133, 3) := by decide +kernel
theorem dX6_step_22 : decode cX6_step 22 = .ok (.goto 7, 3) := by decide +kernel
theorem dX6_step_25 : decode cX6_step 25 = .ok (.aload_n 0, 1) := by decide +kernel
theorem dX6_step_26 : decode cX6_step 26 = .ok (.invokevirtual 136, 3) := by decide +kernel
theorem dX6_step_29 : decode cX6_step 29 = .ok (.return_, 1) := by decide +kernel
theorem dX6_begin_0 : decode cX6_begin 0 = .ok (.aload_n 0, 1) := by decide +kernel
theorem dX6_begin_1 : decode cX6_begin 1 = .ok (.getfield 75, 3) := by decide +kernel
theorem dX6_begin_4 : decode cX6_begin 4 = .ok (.ifCond .eq 6, 3) := by decide +kernel
theorem dX6_begin_7 : decode cX6_begin 7 = .ok (.bipush (-3), 2) := by decide +kernel
theorem dX6_begin_9 : decode cX6_begin 9 = .ok (.ireturn, 1) := by decide +kernel
theorem dX6_begin_10 : decode cX6_begin 10 = .ok (.aload_n 0, 1) := by decide +kernel
theorem dX6_begin_11 : decode cX6_begin 11 = .ok (.iconst 0, 1) := by decide +kernel
theorem dX6_begin_12 : decode cX6_begin 12 = .ok (.putfield 81, 3) := by decide +kernel
theorem dX6_begin_15 : decode cX6_begin 15 = .ok (.aload_n 0, 1) := by decide +kernel
theorem dX6_begin_16 : decode cX6_begin 16 = .ok (.iconst 0, 1) := by decide +kernel
theorem dX6_begin_17 : decode cX6_begin 17 = .ok (.putfield 84, 3) := by decide +kernel
theorem dX6_begin_20 : decode cX6_begin 20 = .ok (.aload_n 0, 1) := by decide +kernel
theorem dX6_begin_21 : decode cX6_begin 21 = .ok (.iconst 0, 1) := by decide +kernel
theorem dX6_begin_22 : decode cX6_begin 22 = .ok (.putfield 104, 3) := by decide +kernel
theorem dX6_begin_25 : decode cX6_begin 25 = .ok (.iconst 0, 1) := by decide +kernel
theorem dX6_begin_26 : decode cX6_begin 26 = .ok (.istore_n 1, 1) := by decide +kernel
theorem dX6_begin_27 : decode cX6_begin 27 = .ok (.iload_n 1, 1) := by decide +kernel
theorem dX6_begin_28 : decode cX6_begin 28 = .ok (.aload_n 0, 1) := by decide +kernel
theorem dX6_begin_29 : decode cX6_begin 29 = .ok (.getfield 59, 3) := by decide +kernel
theorem dX6_begin_32 : decode cX6_begin 32 = .ok (.if_icmp .ge 34, 3) := by decide +kernel
theorem dX6_begin_35 : decode cX6_begin 35 = .ok (.aload_n 0, 1) := by decide +kernel
theorem dX6_begin_36 : decode cX6_begin 36 = .ok (.getfield 19, 3) := by decide +kernel
theorem dX6_begin_39 : decode cX6_begin 39 = .ok (.iload_n 1, 1) := by decide +kernel
theorem dX6_begin_40 : decode cX6_begin 40 = .ok (.aload_n 0, 1) := by decide +kernel
theorem dX6_begin_41 : decode cX6_begin 41 = .ok (.getfield 22, 3) := by decide +kernel
theorem dX6_begin_44 : decode cX6_begin 44 = .ok (.iload_n 1, 1) := by decide +kernel
theorem dX6_begin_45 : decode cX6_begin 45 = .ok (.baload, 1) := by decide +kernel
theorem dX6_begin_46 : decode cX6_begin 46 = .ok (.ifCond .eq 12, 3) := by decide +kernel
theorem dX6_begin_49 : decode cX6_begin 49 = .ok (.aload_n 0, 1) := by decide +kernel
theorem dX6_begin_50 : decode cX6_begin 50 = .ok (.getfield 19, 3) := by decide +kernel
theorem dX6_begin_53 : decode cX6_begin 53 = .ok (.iload_n 1, 1) := by decide +kernel
theorem dX6_begin_54 : decode cX6_begin 54 = .ok (.iaload, 1) := by decide +kernel
theorem dX6_begin_55 : decode cX6_begin 55 = .ok (.goto 4, 3) := by decide +kernel
theorem dX6_begin_58 : decode cX6_begin 58 = .ok (.iconst 0, 1) := by decide +kernel
theorem dX6_begin_59 : decode cX6_begin 59 = .ok (.iastore, 1) := by decide +kernel
theorem dX6_begin_60 : decode cX6_begin 60 = .ok (.iinc 1 1, 3) := by decide +kernel
theorem dX6_begin_63 : decode cX6_begin 63 = .ok (.goto (-36), 3) := by decide +kernel
theorem dX6_begin_66 : decode cX6_begin 66 = .ok (.aload_n 0, 1) := by decide +kernel
theorem dX6_begin_67 : decode cX6_begin 67 = .ok (.getfield 94, 3) := by decide +kernel
theorem dX6_begin_70 : decode cX6_begin 70 = .ok (.iconst 3, 1) := by decide +kernel
theorem dX6_begin_71 : decode cX6_begin 71 = .ok (.if_icmp .ne 18, 3) := by decide +kernel
theorem dX6_begin_74 : decode cX6_begin 74 = .ok (.aload_n 0, 1) := by decide +kernel
theorem dX6_begin_75 : decode cX6_begin 75 = .ok (.iconst 1, 1) := by decide +kernel
theorem dX6_begin_76 : decode cX6_begin 76 = .ok (.aload_n 0, 1) := by decide +kernel
theorem dX6_begin_77 : decode cX6_begin 77 = .ok (.getfield 69, 3) := by decide +kernel
theorem dX6_begin_80 : decode cX6_begin 80 = .ok (.isub, 1) := by decide +kernel
theorem dX6_begin_81 : decode cX6_begin 81 = .ok (.putfield 69, 3) := by decide +kernel
theorem dX6_begin_84 : decode cX6_begin 84 = .ok (.aload_n 0, 1) := by decide +kernel
theorem dX6_begin_85 : decode cX6_begin 85 = .ok (.iconst 0, 1) := by decide +kernel
theorem dX6_begin_86 : decode cX6_begin 86 = .ok (.putfield 72, 3) := by decide +kernel
theorem dX6_begin_89 : decode cX6_begin 89 = .ok (.aload_n 0, 1) := by decide +kernel
theorem dX6_begin_90 : decode cX6_begin 90 = .ok (.invokevirtual 107, 3) := by decide +kernel
theorem dX6_begin_93 : decode cX6_begin 93 = .ok (.aload_n 0, 1) := by decide +kernel
theorem dX6_begin_94 : decode cX6_begin 94 = .ok (.iconst 1, 1) := by decide +kernel
theorem dX6_begin_95 : decode cX6_begin 95 = .ok (.putfield 75, 3) := by decide +kernel
theorem dX6_begin_98 : decode cX6_begin 98 = .ok (.aload_n 0, 1) := by decide +kernel
theorem dX6_begin_99 : decode cX6_begin 99 = .ok (.getfield 94, 3) := by decide +kernel
theorem dX6_begin_102 : decode cX6_begin 102 = .ok (.ifCond .ne 22, 3) := by decide +kernel
theorem dX6_begin_105 : decode cX6_begin 105 = .ok (.aload_n 0, 1) := by decide +kernel
theorem dX6_begin_106 : decode cX6_begin 106 = .ok (.getfield 75, 3) := by decide +kernel
theorem dX6_begin_109 : decode cX6_begin 109 = .ok (.ifCond .eq 10, 3) := by decide +kernel
theorem dX6_begin_112 : decode cX6_begin 112 = .ok (.aload_n 0, 1) := by decide +kernel
theorem dX6_begin_113 : decode cX6_begin 113 = .ok (.invokevirtual 139, 3) := by decide +kernel
theorem dX6_begin_116 : decode cX6_begin 116 = .ok (.goto (-11), 3) := by decide +kernel
theorem dX6_begin_119 : decode cX6_begin 119 = .ok (.aload_n 0, 1) := by decide +kernel
theorem dX6_begin_120 : decode cX6_begin 120 = .ok (.getfield 104, 3) := by decide +kernel
theorem dX6_begin_123 : decode cX6_begin 123 = .ok (.ireturn, 1) := by decide +kernel
theorem dX6_begin_124 : decode cX6_begin 124 = .ok (.iconst 0, 1) := by decide +kernel
theorem dX6_begin_125 : decode cX6_begin 125 = .ok (.istore_n 1, 1) := by decide +kernel
theorem dX6_begin_126 : decode cX6_begin 126 = .ok (.iconst 0, 1) := by decide +kernel
theorem dX6_begin_127 : decode cX6_begin 127 = .ok (.istore_n 2, 1) := by decide +kernel
theorem dX6_begin_128 : decode cX6_begin 128 = .ok (.iload_n 2, 1) := by decide +kernel
theorem dX6_begin_129 : decode cX6_begin 129 = .ok (.aload_n 0, 1) := by decide +kernel
theorem dX6_begin_130 : decode cX6_begin 130 = .ok (.getfield 59, 3) := by decide +kernel
theorem dX6_begin_133 : decode cX6_begin 133 = .ok (.if_icmp .ge 36, 3) := by decide +kernel
theorem dX6_begin_136 : decode cX6_begin 136 = .ok (.iload_n 1, 1) := by decide +kernel
theorem dX6_begin_137 : decode cX6_begin 137 = .ok (.aload_n 0, 1) := by decide +kernel
theorem dX6_begin_138 : decode cX6_begin 138 = .ok (.getfield 19, 3) := by decide +kernel
theorem dX6_begin_141 : decode cX6_begin 141 = .ok (.iload_n 2, 1) := by decide +kernel
theorem dX6_begin_142 : decode cX6_begin 142 = .ok (.iaload, 1) := by decide +kernel
theorem dX6_begin_143 : decode cX6_begin 143 = .ok (.iconst 1, 1) := by decide +kernel
theorem dX6_begin_144 : decode cX6_begin 144 = .ok (.if_icmp .ne 16, 3) := by decide +kernel
theorem dX6_begin_147 : decode cX6_begin 147 = .ok (.aload_n 0, 1) := by decide +kernel
theorem dX6_begin_148 : decode cX6_begin 148 = .ok (.getfield 22, 3) := by decide +kernel
theorem dX6_begin_151 : decode cX6_begin 151 = .ok (.iload_n 2, 1) := by decide +kernel
theorem dX6_begin_152 : decode cX6_begin 152 = .ok (.baload, 1) := by decide +kernel
theorem dX6_begin_153 : decode cX6_begin 153 = .ok (.ifCond .ne 7, 3) := by decide +kernel
theorem dX6_begin_156 : decode cX6_begin 156 = .ok (.iconst 1, 1) := by decide +kernel
theorem dX6_begin_157 : decode cX6_begin 157 = .ok (.goto 4, 3) := by decide +kernel
theorem dX6_begin_160 : decode cX6_begin 160 = .ok (.iconst 0, 1) := by decide +kernel
theorem dX6_begin_161 : decode cX6_begin 161 = .ok (.iadd, 1) := by decide +kernel
theorem dX6_begin_162 : decode cX6_begin 162 = .ok (.istore_n 1, 1) := by decide +kernel
theorem dX6_begin_163 : decode cX6_begin 163 = .ok (.iinc 2 1, 3) := by decide +kernel
theorem dX6_begin_166 : decode cX6_begin 166 = .ok (.goto (-38), 3) := by decide +kernel
theorem dX6_begin_169 : decode cX6_begin 169 = .ok (.iload_n 1, 1) := by decide +kernel
theorem dX6_begin_170 : decode cX6_begin 170 = .ok (.ireturn, 1) := by decide +kernel
theorem dX6_sweep_0 : decode cX6_sweep 0 = .ok (.iload_n 1, 1) := by decide +kernel
theorem dX6_sweep_1 : decode cX6_sweep 1 = .ok (.iconst 1, 1) := by decide +kernel
theorem dX6_sweep_2 : decode cX6_sweep 2 = .ok (.sipush 400, 3) := by decide +kernel
theorem dX6_sweep_5 : decode cX6_sweep 5 = .ok (.invokestatic 90, 3) := by decide +kernel
theorem dX6_sweep_8 : decode cX6_sweep 8 = .ok (.ifCond .ne 6, 3) := by decide +kernel
theorem dX6_sweep_11 : decode cX6_sweep 11 = .ok (.bipush (-2), 2) := by decide +kernel
theorem dX6_sweep_13 : decode cX6_sweep 13 = .ok (.ireturn, 1) := by decide +kernel
theorem dX6_sweep_14 : decode cX6_sweep 14 = .ok (.iconst 0, 1) := by decide +kernel
theorem dX6_sweep_15 : decode cX6_sweep 15 = .ok (.istore_n 2, 1) := by decide +kernel
theorem dX6_sweep_16 : decode cX6_sweep 16 = .ok (.aload_n 0, 1) := by decide +kernel
theorem dX6_sweep_17 : decode cX6_sweep 17 = .ok (.getfield 75, 3) := by decide +kernel
theorem dX6_sweep_20 : decode cX6_sweep 20 = .ok (.ifCond .eq 18, 3) := by decide +kernel
theorem dX6_sweep_23 : decode cX6_sweep 23 = .ok (.iload_n 2, 1) := by decide +kernel
theorem dX6_sweep_24 : decode cX6_sweep 24 = .ok (.iload_n 1, 1) := by decide +kernel
theorem dX6_sweep_25 : decode cX6_sweep 25 = .ok (.if_icmp .ge 13, 3) := by decide +kernel
theorem dX6_sweep_28 : decode cX6_sweep 28 = .ok (.aload_n 0, 1) := by decide +kernel
theorem dX6_sweep_29 : decode cX6_sweep 29 = .ok (.invokevirtual 139, 3) := by decide +kernel
theorem dX6_sweep_32 : decode cX6_sweep 32 = .ok (.iinc 2 1, 3) := by decide +kernel
theorem dX6_sweep_35 : decode cX6_sweep 35 = .ok (.goto (-19), 3) := by decide +kernel
theorem dX6_sweep_38 : decode cX6_sweep 38 = .ok (.iload_n 2, 1) := by decide +kernel
theorem dX6_sweep_39 : decode cX6_sweep 39 = .ok (.ireturn, 1) := by decide +kernel
theorem dX6_under_0 : decode cX6_under 0 = .ok (.aload_n 0, 1) := by decide +kernel
theorem dX6_under_1 : decode cX6_under 1 = .ok (.getfield 75, 3) := by decide +kernel
theorem dX6_under_4 : decode cX6_under 4 = .ok (.ireturn, 1) := by decide +kernel
theorem dX6_notes_0 : decode cX6_notes 0 = .ok (.aload_n 0, 1) := by decide +kernel
theorem dX6_notes_1 : decode cX6_notes 1 = .ok (.getfield 75, 3) := by decide +kernel
theorem dX6_notes_4 : decode cX6_notes 4 = .ok (.iconst 1, 1) := by decide +kernel
theorem dX6_notes_5 : decode cX6_notes 5 = .ok (.if_icmp .ne 15, 3) := by decide +kernel
theorem dX6_notes_8 : decode cX6_notes 8 = .ok (.aload_n 0, 1) := by decide +kernel
theorem dX6_notes_9 : decode cX6_notes 9 = .ok (.getfield 97, 3) := by decide +kernel
theorem dX6_notes_12 : decode cX6_notes 12 = .ok (.iconst 1, 1) := by decide +kernel
theorem dX6_notes_13 : decode cX6_notes 13 = .ok (.if_icmp .eq 7, 3) := by decide +kernel
theorem dX6_notes_16 : decode cX6_notes 16 = .ok (.iconst 1, 1) := by decide +kernel
theorem dX6_notes_17 : decode cX6_notes 17 = .ok (.goto 4, 3) := by decide +kernel
theorem dX6_notes_20 : decode cX6_notes 20 = .ok (.iconst 0, 1) := by decide +kernel
theorem dX6_notes_21 : decode cX6_notes 21 = .ok (.ireturn, 1) := by decide +kernel
theorem dX6_isFree_0 : decode cX6_isFree 0 = .ok (.iconst 0, 1) := by decide +kernel
theorem dX6_isFree_1 : decode cX6_isFree 1 = .ok (.istore_n 3, 1) := by decide +kernel
theorem dX6_isFree_2 : decode cX6_isFree 2 = .ok (.iload_n 3, 1) := by decide +kernel
theorem dX6_isFree_3 : decode cX6_isFree 3 = .ok (.aload_n 0, 1) := by decide +kernel
theorem dX6_isFree_4 : decode cX6_isFree 4 = .ok (.getfield 59, 3) := by decide +kernel
theorem dX6_isFree_7 : decode cX6_isFree 7 = .ok (.if_icmp .ge 51, 3) := by decide +kernel
theorem dX6_isFree_10 : decode cX6_isFree 10 = .ok (.aload_n 0, 1) := by decide +kernel
theorem dX6_isFree_11 : decode cX6_isFree 11 = .ok (.getfield 22, 3) := by decide +kernel
theorem dX6_isFree_14 : decode cX6_isFree 14 = .ok (.iload_n 3, 1) := by decide +kernel
theorem dX6_isFree_15 : decode cX6_isFree 15 = .ok (.baload, 1) := by decide +kernel
theorem dX6_isFree_16 : decode cX6_isFree 16 = .ok (.ifCond .ne 36, 3) := by decide +kernel
theorem dX6_isFree_19 : decode cX6_isFree 19 = .ok (.aload_n 0, 1) := by decide +kernel
theorem dX6_isFree_20 : decode cX6_isFree 20 = .ok (.getfield 16, 3) := by decide +kernel
theorem dX6_isFree_23 : decode cX6_isFree 23 = .ok (.iload_n 3, 1) := by decide +kernel
theorem dX6_isFree_24 : decode cX6_isFree 24 = .ok (.iaload, 1) := by decide +kernel
theorem dX6_isFree_25 : decode cX6_isFree 25 = .ok (.iload_n 1, 1) := by decide +kernel
theorem dX6_isFree_26 : decode cX6_isFree 26 = .ok (.iload_n 2, 1) := by decide +kernel
theorem dX6_isFree_27 : decode cX6_isFree 27 = .ok (.iadd, 1) := by decide +kernel
theorem dX6_isFree_28 : decode cX6_isFree 28 = .ok (.if_icmp .ge 24, 3) := by decide +kernel
theorem dX6_isFree_31 : decode cX6_isFree 31 = .ok (.iload_n 1, 1) := by decide +kernel
theorem dX6_isFree_32 : decode cX6_isFree 32 = .ok (.aload_n 0, 1) := by decide +kernel
theorem dX6_isFree_33 : decode cX6_isFree 33 = .ok (.getfield 16, 3) := by decide +kernel
theorem dX6_isFree_36 : decode cX6_isFree 36 = .ok (.iload_n 3, 1) := by decide +kernel
theorem dX6_isFree_37 : decode cX6_isFree 37 = .ok (.iaload, 1) := by decide +kernel
theorem dX6_isFree_38 : decode cX6_isFree 38 = .ok (.aload_n 0, 1) := by decide +kernel
theorem dX6_isFree_39 : decode cX6_isFree 39 = .ok (.getfield 7, 3) := by decide +kernel
theorem dX6_isFree_42 : decode cX6_isFree 42 = .ok (.iload_n 3, 1) := by decide +kernel
theorem dX6_isFree_43 : decode cX6_isFree 43 = .ok (.iaload, 1) := by decide +kernel
theorem dX6_isFree_44 : decode cX6_isFree 44 = .ok (.iadd, 1) := by decide +kernel
theorem dX6_isFree_45 : decode cX6_isFree 45 = .ok (.iconst 1, 1) := by decide +kernel
theorem dX6_isFree_46 : decode cX6_isFree 46 = .ok (.iadd, 1) := by decide +kernel
theorem dX6_isFree_47 : decode cX6_isFree 47 = .ok (.if_icmp .ge 5, 3) := by decide +kernel
theorem dX6_isFree_50 : decode cX6_isFree 50 = .ok (.iconst 0, 1) := by decide +kernel
theorem dX6_isFree_51 : decode cX6_isFree 51 = .ok (.ireturn, 1) := by decide +kernel
theorem dX6_isFree_52 : decode cX6_isFree 52 = .ok (.iinc 3 1, 3) := by decide +kernel
theorem dX6_isFree_55 : decode cX6_isFree 55 = .ok (.goto (-53), 3) := by decide +kernel
theorem dX6_isFree_58 : decode cX6_isFree 58 = .ok (.iconst 1, 1) := by decide +kernel
theorem dX6_isFree_59 : decode cX6_isFree 59 = .ok (.ireturn, 1) := by decide +kernel
theorem dX6_whiteCells_0 : decode cX6_whiteCells 0 = .ok (.iconst 0, 1) := by decide +kernel
theorem dX6_whiteCells_1 : decode cX6_whiteCells 1 = .ok (.istore_n 1, 1) := by decide +kernel
theorem dX6_whiteCells_2 : decode cX6_whiteCells 2 = .ok (.iconst 0, 1) := by decide +kernel
theorem dX6_whiteCells_3 : decode cX6_whiteCells 3 = .ok (.istore_n 2, 1) := by decide +kernel
theorem dX6_whiteCells_4 : decode cX6_whiteCells 4 = .ok (.iload_n 2, 1) := by decide +kernel
theorem dX6_whiteCells_5 : decode cX6_whiteCells 5 = .ok (.aload_n 0, 1) := by decide +kernel
theorem dX6_whiteCells_6 : decode cX6_whiteCells 6 = .ok (.getfield 59, 3) := by decide +kernel
theorem dX6_whiteCells_9 : decode cX6_whiteCells 9 = .ok (.if_icmp .ge 41, 3) := by decide +kernel
theorem dX6_whiteCells_12 : decode cX6_whiteCells 12 = .ok (.iload_n 1, 1) := by decide +kernel
theorem dX6_whiteCells_13 : decode cX6_whiteCells 13 = .ok (.aload_n 0, 1) := by decide +kernel
theorem dX6_whiteCells_14 : decode cX6_whiteCells 14 = .ok (.iload_n 2, 1) := by decide +kernel
theorem dX6_whiteCells_15 : decode cX6_whiteCells 15 = .ok (.invokevirtual 110, 3) := by decide +kernel
theorem dX6_whiteCells_18 : decode cX6_whiteCells 18 = .ok (.ifCond .eq 23, 3) := by decide +kernel
theorem dX6_whiteCells_21 : decode cX6_whiteCells 21 = .ok (.aload_n 0, 1) := by decide +kernel
theorem dX6_whiteCells_22 : decode cX6_whiteCells 22 = .ok (.getfield 22, 3) := by decide +kernel
theorem dX6_whiteCells_25 : decode cX6_whiteCells 25 = .ok (.iload_n 2, 1) := by decide +kernel
theorem dX6_whiteCells_26 : decode cX6_whiteCells 26 = .ok (.baload, 1) := by decide +kernel
theorem dX6_whiteCells_27 : decode cX6_whiteCells 27 = .ok (.ifCond .ne 14, 3) := by decide +kernel
theorem dX6_whiteCells_30 : decode cX6_whiteCells 30 = .ok (.aload_n 0, 1) := by decide +kernel
theorem dX6_whiteCells_31 : decode cX6_whiteCells 31 = .ok (.getfield 7, 3) := by decide +kernel
theorem dX6_whiteCells_34 : decode cX6_whiteCells 34 = .ok (.iload_n 2, 1) := by decide +kernel
theorem dX6_whiteCells_35 : decode cX6_whiteCells 35 = .ok (.iaload, 1) := by decide +kernel
theorem dX6_whiteCells_36 : decode cX6_whiteCells 36 = .ok (.iconst 1, 1) := by decide +kernel
theorem dX6_whiteCells_37 : decode cX6_whiteCells 37 = .ok (.iadd, 1) := by decide +kernel
theorem dX6_whiteCells_38 : decode cX6_whiteCells 38 = .ok (.goto 4, 3) := by decide +kernel
theorem dX6_whiteCells_41 : decode cX6_whiteCells 41 = .ok (.iconst 0, 1) := by decide +kernel
theorem dX6_whiteCells_42 : decode cX6_whiteCells 42 = .ok (.iadd, 1) := by decide +kernel
theorem dX6_whiteCells_43 : decode cX6_whiteCells 43 = .ok (.istore_n 1, 1) := by decide +kernel
theorem dX6_whiteCells_44 : decode cX6_whiteCells 44 = .ok (.iinc 2 1, 3) := by decide +kernel
theorem dX6_whiteCells_47 : decode cX6_whiteCells 47 = .ok (.goto (-43), 3) := by decide +kernel
theorem dX6_whiteCells_50 : decode cX6_whiteCells 50 = .ok (.iload_n 1, 1) := by decide +kernel
theorem dX6_whiteCells_51 : decode cX6_whiteCells 51 = .ok (.ireturn, 1) := by decide +kernel
theorem dX6_newColour_0 : decode cX6_newColour 0 = .ok (.aload_n 0, 1) := by decide +kernel
theorem dX6_newColour_1 : decode cX6_newColour 1 = .ok (.getfield 75, 3) := by decide +kernel
theorem dX6_newColour_4 : decode cX6_newColour 4 = .ok (.ifCond .eq 15, 3) := by decide +kernel
theorem dX6_newColour_7 : decode cX6_newColour 7 = .ok (.aload_n 0, 1) := by decide +kernel
theorem dX6_newColour_8 : decode cX6_newColour 8 = .ok (.getfield 97, 3) := by decide +kernel
theorem dX6_newColour_11 : decode cX6_newColour 11 = .ok (.iconst 2, 1) := by decide +kernel
theorem dX6_newColour_12 : decode cX6_newColour 12 = .ok (.if_icmp .eq 7, 3) := by decide +kernel
theorem dX6_newColour_15 : decode cX6_newColour 15 = .ok (.iconst 2, 1) := by decide +kernel
theorem dX6_newColour_16 : decode cX6_newColour 16 = .ok (.goto 4, 3) := by decide +kernel
theorem dX6_newColour_19 : decode cX6_newColour 19 = .ok (.iconst 0, 1) := by decide +kernel
theorem dX6_newColour_20 : decode cX6_newColour 20 = .ok (.ireturn, 1) := by decide +kernel
theorem dX6_newPlace_0 : decode cX6_newPlace 0 = .ok (.aload_n 0, 1) := by decide +kernel
theorem dX6_newPlace_1 : decode cX6_newPlace 1 = .ok (.getfield 94, 3) := by decide +kernel
theorem dX6_newPlace_4 : decode cX6_newPlace 4 = .ok (.iconst 3, 1) := by decide +kernel
theorem dX6_newPlace_5 : decode cX6_newPlace 5 = .ok (.if_icmp .ne 69, 3) := by decide +kernel
theorem dX6_newPlace_8 : decode cX6_newPlace 8 = .ok (.bipush 100, 2) := by decide +kernel
theorem dX6_newPlace_10 : decode cX6_newPlace 10 = .ok (.aload_n 0, 1) := by decide +kernel
theorem dX6_newPlace_11 : decode cX6_newPlace 11 = .ok (.getfield 72, 3) := by decide +kernel
theorem dX6_newPlace_14 : decode cX6_newPlace 14 = .ok (.isub, 1) := by decide +kernel
theorem dX6_newPlace_15 : decode cX6_newPlace 15 = .ok (.iload_n 1, 1) := by decide +kernel
theorem dX6_newPlace_16 : decode cX6_newPlace 16 = .ok (.isub, 1) := by decide +kernel
theorem dX6_newPlace_17 : decode cX6_newPlace 17 = .ok (.istore_n 2, 1) := by decide +kernel
theorem dX6_newPlace_18 : decode cX6_newPlace 18 = .ok (.aload_n 0, 1) := by decide +kernel
theorem dX6_newPlace_19 : decode cX6_newPlace 19 = .ok (.getfield 75, 3) := by decide +kernel
theorem dX6_newPlace_22 : decode cX6_newPlace 22 = .ok (.iconst 1, 1) := by decide +kernel
theorem dX6_newPlace_23 : decode cX6_newPlace 23 = .ok (.if_icmp .ne 23, 3) := by decide +kernel
theorem dX6_newPlace_26 : decode cX6_newPlace 26 = .ok (.aload_n 0, 1) := by decide +kernel
theorem dX6_newPlace_27 : decode cX6_newPlace 27 = .ok (.invokevirtual 142, 3) := by decide +kernel
theorem dX6_newPlace_30 : decode cX6_newPlace 30 = .ok (.aload_n 0, 1) := by decide +kernel
theorem dX6_newPlace_31 : decode cX6_newPlace 31 = .ok (.invokevirtual 145, 3) := by decide +kernel
theorem dX6_newPlace_34 : decode cX6_newPlace 34 = .ok (.ifCond .ne 7, 3) := by decide +kernel
theorem dX6_newPlace_37 : decode cX6_newPlace 37 = .ok (.iload_n 1, 1) := by decide +kernel
theorem dX6_newPlace_38 : decode cX6_newPlace 38 = .ok (.goto 4, 3) := by decide +kernel
theorem dX6_newPlace_41 : decode cX6_newPlace 41 = .ok (.iconst 0, 1) := by decide +kernel
theorem dX6_newPlace_42 : decode cX6_newPlace 42 = .ok (.iadd, 1) := by decide +kernel
theorem dX6_newPlace_43 : decode cX6_newPlace 43 = .ok (.goto 4, 3) := by decide +kernel
theorem dX6_newPlace_46 : decode cX6_newPlace 46 = .ok (.iconst 0, 1) := by decide +kernel
theorem dX6_newPlace_47 : decode cX6_newPlace 47 = .ok (.istore_n 3, 1) := by decide +kernel
theorem dX6_newPlace_48 : decode cX6_newPlace 48 = .ok (.iload_n 2, 1) := by decide +kernel
theorem dX6_newPlace_49 : decode cX6_newPlace 49 = .ok (.ifCond .lt 8, 3) := by decide +kernel
theorem dX6_newPlace_52 : decode cX6_newPlace 52 = .ok (.iload_n 2, 1) := by decide +kernel
theorem dX6_newPlace_53 : decode cX6_newPlace 53 = .ok (.iload_n 3, 1) := by decide +kernel
theorem dX6_newPlace_54 : decode cX6_newPlace 54 = .ok (.if_icmp .ge 7, 3) := by decide +kernel
theorem dX6_newPlace_57 : decode cX6_newPlace 57 = .ok (.iconst (-1), 1) := by decide +kernel
theorem dX6_newPlace_58 : decode cX6_newPlace 58 = .ok (.goto 15, 3) := by decide +kernel
theorem dX6_newPlace_61 : decode cX6_newPlace 61 = .ok (.bipush 100, 2) := by decide +kernel
theorem dX6_newPlace_63 : decode cX6_newPlace 63 = .ok (.aload_n 0, 1) := by decide +kernel
theorem dX6_newPlace_64 : decode cX6_newPlace 64 = .ok (.getfield 69, 3) := by decide +kernel
theorem dX6_newPlace_67 : decode cX6_newPlace 67 = .ok (.imul, 1) := by decide +kernel
theorem dX6_newPlace_68 : decode cX6_newPlace 68 = .ok (.aload_n 0, 1) := by decide +kernel
theorem dX6_newPlace_69 : decode cX6_newPlace 69 = .ok (.getfield 72, 3) := by decide +kernel
theorem dX6_newPlace_72 : decode cX6_newPlace 72 = .ok (.iadd, 1) := by decide +kernel
theorem dX6_newPlace_73 : decode cX6_newPlace 73 = .ok (.ireturn, 1) := by decide +kernel
theorem dX6_newPlace_74 : decode cX6_newPlace 74 = .ok (.iconst 0, 1) := by decide +kernel
theorem dX6_newPlace_75 : decode cX6_newPlace 75 = .ok (.istore_n 2, 1) := by decide +kernel
theorem dX6_newPlace_76 : decode cX6_newPlace 76 = .ok (.iload_n 2, 1) := by decide +kernel
theorem dX6_newPlace_77 : decode cX6_newPlace 77 = .ok (.iload_n 1, 1) := by decide +kernel
theorem dX6_newPlace_78 : decode cX6_newPlace 78 = .ok (.iadd, 1) := by decide +kernel
theorem dX6_newPlace_79 : decode cX6_newPlace 79 = .ok (.sipush 200, 3) := by decide +kernel
theorem dX6_newPlace_82 : decode cX6_newPlace 82 = .ok (.if_icmp .gt 20, 3) := by decide +kernel
theorem dX6_newPlace_85 : decode cX6_newPlace 85 = .ok (.aload_n 0, 1) := by decide +kernel
theorem dX6_newPlace_86 : decode cX6_newPlace 86 = .ok (.iload_n 2, 1) := by decide +kernel
theorem dX6_newPlace_87 : decode cX6_newPlace 87 = .ok (.iload_n 1, 1) := by decide +kernel
theorem dX6_newPlace_88 : decode cX6_newPlace 88 = .ok (.invokevirtual 148, 3) := by decide +kernel
theorem dX6_newPlace_91 : decode cX6_newPlace 91 = .ok (.ifCond .eq 5, 3) := by decide +kernel
theorem dX6_newPlace_94 : decode cX6_newPlace 94 = .ok (.iload_n 2, 1) := by decide +kernel
theorem dX6_newPlace_95 : decode cX6_newPlace 95 = .ok (.ireturn, 1) := by decide +kernel
theorem dX6_newPlace_96 : decode cX6_newPlace 96 = .ok (.iinc 2 1, 3) := by decide +kernel
theorem dX6_newPlace_99 : decode cX6_newPlace 99 = .ok (.goto (-23), 3) := by decide +kernel
theorem dX6_newPlace_102 : decode cX6_newPlace 102 = .ok (.iconst (-1), 1) := by decide +kernel
theorem dX6_newPlace_103 : decode cX6_newPlace 103 = .ok (.ireturn, 1) := by decide +kernel
theorem dX6_make_0 : decode cX6_make 0 = .ok (.iload_n 1, 1) := by decide +kernel
theorem dX6_make_1 : decode cX6_make 1 = .ok (.iload_n 2, 1) := by decide +kernel
theorem dX6_make_2 : decode cX6_make 2 = .ok (.invokestatic 152, 3) := by decide +kernel
theorem dX6_make_5 : decode cX6_make 5 = .ok (.ifCond .eq 13, 3) := by decide +kernel
theorem dX6_make_8 : decode cX6_make 8 = .ok (.iload_n 3, 1) := by decide +kernel
theorem dX6_make_9 : decode cX6_make 9 = .ok (.iconst 0, 1) := by decide +kernel
theorem dX6_make_10 : decode cX6_make 10 = .ok (.bipush 6, 2) := by decide +kernel
theorem dX6_make_12 : decode cX6_make 12 = .ok (.invokestatic 90, 3) := by decide +kernel
theorem dX6_make_15 : decode cX6_make 15 = .ok (.ifCond .ne 6, 3) := by decide +kernel
theorem dX6_make_18 : decode cX6_make 18 = .ok (.bipush (-2), 2) := by decide +kernel
theorem dX6_make_20 : decode cX6_make 20 = .ok (.ireturn, 1) := by decide +kernel
theorem dX6_make_21 : decode cX6_make 21 = .ok (.aload_n 0, 1) := by decide +kernel
theorem dX6_make_22 : decode cX6_make 22 = .ok (.getfield 59, 3) := by decide +kernel
theorem dX6_make_25 : decode cX6_make 25 = .ok (.bipush 120, 2) := by decide +kernel
theorem dX6_make_27 : decode cX6_make 27 = .ok (.if_icmp .ne 7, 3) := by decide +kernel
theorem dX6_make_30 : decode cX6_make 30 = .ok (.iconst (-1), 1) := by decide +kernel
theorem dX6_make_31 : decode cX6_make 31 = .ok (.goto 10, 3) := by decide +kernel
theorem dX6_make_34 : decode cX6_make 34 = .ok (.aload_n 0, 1) := by decide +kernel
theorem dX6_make_35 : decode cX6_make 35 = .ok (.iload_n 3, 1) := by decide +kernel
theorem dX6_make_36 : decode cX6_make 36 = .ok (.iconst 1, 1) := by decide +kernel
theorem dX6_make_37 : decode cX6_make 37 = .ok (.iadd, 1) := by decide +kernel
theorem dX6_make_38 : decode cX6_make 38 = .ok (.invokevirtual 155, 3) := by decide +kernel
theorem dX6_make_41 : decode cX6_make 41 = .ok (.istore 5, 2) := by decide +kernel
theorem dX6_make_43 : decode cX6_make 43 = .ok (.iload 5, 2) := by decide +kernel
theorem dX6_make_45 : decode cX6_make 45 = .ok (.iconst (-1), 1) := by decide +kernel
theorem dX6_make_46 : decode cX6_make 46 = .ok (.if_icmp .ne 6, 3) := by decide +kernel
theorem dX6_make_49 : decode cX6_make 49 = .ok (.bipush (-4), 2) := by decide +kernel
theorem dX6_make_51 : decode cX6_make 51 = .ok (.ireturn, 1) := by decide +kernel
theorem dX6_make_52 : decode cX6_make 52 = .ok (.aload_n 0, 1) := by decide +kernel
theorem dX6_make_53 : decode cX6_make 53 = .ok (.getfield 59, 3) := by decide +kernel
theorem dX6_make_56 : decode cX6_make 56 = .ok (.istore 6, 2) := by decide +kernel
theorem dX6_make_58 : decode cX6_make 58 = .ok (.aload_n 0, 1) := by decide +kernel
theorem dX6_make_59 : decode cX6_make 59 = .ok (.getfield 7, 3) := by decide +kernel
theorem dX6_make_62 : decode cX6_make 62 = .ok (.iload 6, 2) := by decide +kernel
theorem dX6_make_64 : decode cX6_make 64 = .ok (.iload_n 3, 1) := by decide +kernel
theorem dX6_make_65 : decode cX6_make 65 = .ok (.iastore, 1) := by decide +kernel
theorem dX6_make_66 : decode cX6_make 66 = .ok (.aload_n 0, 1) := by decide +kernel
theorem dX6_make_67 : decode cX6_make 67 = .ok (.getfield 16, 3) := by decide +kernel
theorem dX6_make_70 : decode cX6_make 70 = .ok (.iload 6, 2) := by decide +kernel
theorem dX6_make_72 : decode cX6_make 72 = .ok (.iload 5, 2) := by decide +kernel
theorem dX6_make_74 : decode cX6_make 74 = .ok (.iastore, 1) := by decide +kernel
theorem dX6_make_75 : decode cX6_make 75 = .ok (.aload_n 0, 1) := by decide +kernel
theorem dX6_make_76 : decode cX6_make 76 = .ok (.getfield 19, 3) := by decide +kernel
theorem dX6_make_79 : decode cX6_make 79 = .ok (.iload 6, 2) := by decide +kernel
theorem dX6_make_81 : decode cX6_make 81 = .ok (.aload_n 0, 1) := by decide +kernel
theorem dX6_make_82 : decode cX6_make 82 = .ok (.invokevirtual 145, 3) := by decide +kernel
theorem dX6_make_85 : decode cX6_make 85 = .ok (.iastore, 1) := by decide +kernel
theorem dX6_make_86 : decode cX6_make 86 = .ok (.aload_n 0, 1) := by decide +kernel
theorem dX6_make_87 : decode cX6_make 87 = .ok (.getfield 22, 3) := by decide +kernel
theorem dX6_make_90 : decode cX6_make 90 = .ok (.iload 6, 2) := by decide +kernel
theorem dX6_make_92 : decode cX6_make 92 = .ok (.iconst 0, 1) := by decide +kernel
theorem dX6_make_93 : decode cX6_make 93 = .ok (.bastore, 1) := by decide +kernel
theorem dX6_make_94 : decode cX6_make 94 = .ok (.aload_n 0, 1) := by decide +kernel
theorem dX6_make_95 : decode cX6_make 95 = .ok (.getfield 26, 3) := by decide +kernel
theorem dX6_make_98 : decode cX6_make 98 = .ok (.iload 6, 2) := by decide +kernel
theorem dX6_make_100 : decode cX6_make 100 = .ok (.iload 4, 2) := by decide +kernel
theorem dX6_make_102 : decode cX6_make 102 = .ok (.bastore, 1) := by decide +kernel
theorem dX6_make_103 : decode cX6_make 103 = .ok (.aload_n 0, 1) := by decide +kernel
theorem dX6_make_104 : decode cX6_make 104 = .ok (.getfield 29, 3) := by decide +kernel
theorem dX6_make_107 : decode cX6_make 107 = .ok (.iload 6, 2) := by decide +kernel
theorem dX6_make_109 : decode cX6_make 109 = .ok (.iconst 0, 1) := by decide +kernel
theorem dX6_make_110 : decode cX6_make 110 = .ok (.iastore, 1) := by decide +kernel
theorem dX6_make_111 : decode cX6_make 111 = .ok (.iconst 0, 1) := by decide +kernel
theorem dX6_make_112 : decode cX6_make 112 = .ok (.istore 7, 2) := by decide +kernel
theorem dX6_make_114 : decode cX6_make 114 = .ok (.iload 7, 2) := by decide +kernel
theorem dX6_make_116 : decode cX6_make 116 = .ok (.bipush 6, 2) := by decide +kernel
theorem dX6_make_118 : decode cX6_make 118 = .ok (.if_icmp .ge 23, 3) := by decide +kernel
theorem dX6_make_121 : decode cX6_make 121 = .ok (.aload_n 0, 1) := by decide +kernel
theorem dX6_make_122 : decode cX6_make 122 = .ok (.getfield 13, 3) := by decide +kernel
theorem dX6_make_125 : decode cX6_make 125 = .ok (.bipush 6, 2) := by decide +kernel
theorem dX6_make_127 : decode cX6_make 127 = .ok (.iload 6, 2) := by decide +kernel
theorem dX6_make_129 : decode cX6_make 129 = .ok (.imul, 1) := by decide +kernel
theorem dX6_make_130 : decode cX6_make 130 = .ok (.iload 7, 2) := by decide +kernel
theorem dX6_make_132 : decode cX6_make 132 = .ok (.iadd, 1) := by decide +kernel
theorem dX6_make_133 : decode cX6_make 133 = .ok (.iconst (-1), 1) := by decide +kernel
theorem dX6_make_134 : decode cX6_make 134 = .ok (.iastore, 1) := by decide +kernel
theorem dX6_make_135 : decode cX6_make 135 = .ok (.iinc 7 1, 3) := by decide +kernel
theorem dX6_make_138 : decode cX6_make 138 = .ok (.goto (-24), 3) := by decide +kernel
theorem dX6_make_141 : decode cX6_make 141 = .ok (.aload_n 0, 1) := by decide +kernel
theorem dX6_make_142 : decode cX6_make 142 = .ok (.dup, 1) := by decide +kernel
theorem dX6_make_143 : decode cX6_make 143 = .ok (.getfield 72, 3) := by decide +kernel
theorem dX6_make_146 : decode cX6_make 146 = .ok (.aload_n 0, 1) := by decide +kernel
theorem dX6_make_147 : decode cX6_make 147 = .ok (.getfield 94, 3) := by decide +kernel
theorem dX6_make_150 : decode cX6_make 150 = .ok (.iconst 3, 1) := by decide +kernel
theorem dX6_make_151 : decode cX6_make 151 = .ok (.if_icmp .ne 9, 3) := by decide +kernel
theorem dX6_make_154 : decode cX6_make 154 = .ok (.iload_n 3, 1) := by decide +kernel
theorem dX6_make_155 : decode cX6_make 155 = .ok (.iconst 1, 1) := by decide +kernel
theorem dX6_make_156 : decode cX6_make 156 = .ok (.iadd, 1) := by decide +kernel
theorem dX6_make_157 : decode cX6_make 157 = .ok (.goto 4, 3) := by decide +kernel
theorem dX6_make_160 : decode cX6_make 160 = .ok (.iconst 0, 1) := by decide +kernel
theorem dX6_make_161 : decode cX6_make 161 = .ok (.iadd, 1) := by decide +kernel
theorem dX6_make_162 : decode cX6_make 162 = .ok (.putfield 72, 3) := by decide +kernel
theorem dX6_make_165 : decode cX6_make 165 = .ok (.aload_n 0, 1) := by decide +kernel
theorem dX6_make_166 : decode cX6_make 166 = .ok (.dup, 1) := by decide +kernel
theorem dX6_make_167 : decode cX6_make 167 = .ok (.getfield 59, 3) := by decide +kernel
theorem dX6_make_170 : decode cX6_make 170 = .ok (.iconst 1, 1) := by decide +kernel
theorem dX6_make_171 : decode cX6_make 171 = .ok (.iadd, 1) := by decide +kernel
theorem dX6_make_172 : decode cX6_make 172 = .ok (.putfield 59, 3) := by decide +kernel
theorem dX6_make_175 : decode cX6_make 175 = .ok (.aload_n 0, 1) := by decide +kernel
theorem dX6_make_176 : decode cX6_make 176 = .ok (.iload_n 1, 1) := by decide +kernel
theorem dX6_make_177 : decode cX6_make 177 = .ok (.iload_n 2, 1) := by decide +kernel
theorem dX6_make_178 : decode cX6_make 178 = .ok (.iload 6, 2) := by decide +kernel
theorem dX6_make_180 : decode cX6_make 180 = .ok (.invokevirtual 159, 3) := by decide +kernel
theorem dX6_make_183 : decode cX6_make 183 = .ok (.ireturn, 1) := by decide +kernel
theorem dX6_move_0 : decode cX6_move 0 = .ok (.iload_n 1, 1) := by decide +kernel
theorem dX6_move_1 : decode cX6_move 1 = .ok (.iload_n 2, 1) := by decide +kernel
theorem dX6_move_2 : decode cX6_move 2 = .ok (.invokestatic 152, 3) := by decide +kernel
theorem dX6_move_5 : decode cX6_move 5 = .ok (.ifCond .eq 11, 3) := by decide +kernel
theorem dX6_move_8 : decode cX6_move 8 = .ok (.iload_n 1, 1) := by decide +kernel
theorem dX6_move_9 : decode cX6_move 9 = .ok (.iload_n 3, 1) := by decide +kernel
theorem dX6_move_10 : decode cX6_move 10 = .ok (.invokestatic 152, 3) := by decide +kernel
theorem dX6_move_13 : decode cX6_move 13 = .ok (.ifCond .ne 8, 3) := by decide +kernel
theorem dX6_move_16 : decode cX6_move 16 = .ok (.bipush (-2), 2) := by decide +kernel
theorem dX6_move_18 : decode cX6_move 18 = .ok (.goto 15, 3) := by decide +kernel
theorem dX6_move_21 : decode cX6_move 21 = .ok (.aload_n 0, 1) := by decide +kernel
theorem dX6_move_22 : decode cX6_move 22 = .ok (.iload_n 1, 1) := by decide +kernel
theorem dX6_move_23 : decode cX6_move 23 = .ok (.iload_n 2, 1) := by decide +kernel
theorem dX6_move_24 : decode cX6_move 24 = .ok (.aload_n 0, 1) := by decide +kernel
theorem dX6_move_25 : decode cX6_move 25 = .ok (.iload_n 1, 1) := by decide +kernel
theorem dX6_move_26 : decode cX6_move 26 = .ok (.iload_n 3, 1) := by decide +kernel
theorem dX6_move_27 : decode cX6_move 27 = .ok (.invokevirtual 163, 3) := by decide +kernel
theorem dX6_move_30 : decode cX6_move 30 = .ok (.invokevirtual 159, 3) := by decide +kernel
theorem dX6_move_33 : decode cX6_move 33 = .ok (.ireturn, 1) := by decide +kernel
theorem dX6_against_0 : decode cX6_against 0 = .ok (.aload_n 0, 1) := by decide +kernel
theorem dX6_against_1 : decode cX6_against 1 = .ok (.iload_n 1, 1) := by decide +kernel
theorem dX6_against_2 : decode cX6_against 2 = .ok (.iload_n 2, 1) := by decide +kernel
theorem dX6_against_3 : decode cX6_against 3 = .ok (.invokevirtual 163, 3) := by decide +kernel
theorem dX6_against_6 : decode cX6_against 6 = .ok (.istore 4, 2) := by decide +kernel
theorem dX6_against_8 : decode cX6_against 8 = .ok (.iload 4, 2) := by decide +kernel
theorem dX6_against_10 : decode cX6_against 10 = .ok (.iconst (-1), 1) := by decide +kernel
theorem dX6_against_11 : decode cX6_against 11 = .ok (.if_icmp .eq 20, 3) := by decide +kernel
theorem dX6_against_14 : decode cX6_against 14 = .ok (.iload_n 3, 1) := by decide +kernel
theorem dX6_against_15 : decode cX6_against 15 = .ok (.iconst 0, 1) := by decide +kernel
theorem dX6_against_16 : decode cX6_against 16 = .ok (.aload_n 0, 1) := by decide +kernel
theorem dX6_against_17 : decode cX6_against 17 = .ok (.getfield 7, 3) := by decide +kernel
theorem dX6_against_20 : decode cX6_against 20 = .ok (.iload 4, 2) := by decide +kernel
theorem dX6_against_22 : decode cX6_against 22 = .ok (.iaload, 1) := by decide +kernel
theorem dX6_against_23 : decode cX6_against 23 = .ok (.iconst 1, 1) := by decide +kernel
theorem dX6_against_24 : decode cX6_against 24 = .ok (.isub, 1) := by decide +kernel
theorem dX6_against_25 : decode cX6_against 25 = .ok (.invokestatic 90, 3) := by decide +kernel
theorem dX6_against_28 : decode cX6_against 28 = .ok (.ifCond .ne 8, 3) := by decide +kernel
theorem dX6_against_31 : decode cX6_against 31 = .ok (.bipush (-3), 2) := by decide +kernel
theorem dX6_against_33 : decode cX6_against 33 = .ok (.goto 19, 3) := by decide +kernel
theorem dX6_against_36 : decode cX6_against 36 = .ok (.aload_n 0, 1) := by decide +kernel
theorem dX6_against_37 : decode cX6_against 37 = .ok (.getfield 22, 3) := by decide +kernel
theorem dX6_against_40 : decode cX6_against 40 = .ok (.iload 4, 2) := by decide +kernel
theorem dX6_against_42 : decode cX6_against 42 = .ok (.baload, 1) := by decide +kernel
theorem dX6_against_43 : decode cX6_against 43 = .ok (.ifCond .eq 8, 3) := by decide +kernel
theorem dX6_against_46 : decode cX6_against 46 = .ok (.bipush (-5), 2) := by decide +kernel
theorem dX6_against_48 : decode cX6_against 48 = .ok (.goto 4, 3) := by decide +kernel
theorem dX6_against_51 : decode cX6_against 51 = .ok (.iconst 0, 1) := by decide +kernel
theorem dX6_against_52 : decode cX6_against 52 = .ok (.ireturn, 1) := by decide +kernel
theorem dX6_get_0 : decode cX6_get 0 = .ok (.iload_n 1, 1) := by decide +kernel
theorem dX6_get_1 : decode cX6_get 1 = .ok (.iload_n 2, 1) := by decide +kernel
theorem dX6_get_2 : decode cX6_get 2 = .ok (.invokestatic 152, 3) := by decide +kernel
theorem dX6_get_5 : decode cX6_get 5 = .ok (.ifCond .eq 11, 3) := by decide +kernel
theorem dX6_get_8 : decode cX6_get 8 = .ok (.iload_n 1, 1) := by decide +kernel
theorem dX6_get_9 : decode cX6_get 9 = .ok (.iload_n 3, 1) := by decide +kernel
theorem dX6_get_10 : decode cX6_get 10 = .ok (.invokestatic 152, 3) := by decide +kernel
theorem dX6_get_13 : decode cX6_get 13 = .ok (.ifCond .ne 6, 3) := by decide +kernel
theorem dX6_get_16 : decode cX6_get 16 = .ok (.bipush (-2), 2) := by decide +kernel
theorem dX6_get_18 : decode cX6_get 18 = .ok (.ireturn, 1) := by decide +kernel
theorem dX6_get_19 : decode cX6_get 19 = .ok (.aload_n 0, 1) := by decide +kernel
theorem dX6_get_20 : decode cX6_get 20 = .ok (.iload_n 1, 1) := by decide +kernel
theorem dX6_get_21 : decode cX6_get 21 = .ok (.iload_n 3, 1) := by decide +kernel
theorem dX6_get_22 : decode cX6_get 22 = .ok (.iload 4, 2) := by decide +kernel
theorem dX6_get_24 : decode cX6_get 24 = .ok (.invokevirtual 167, 3) := by decide +kernel
theorem dX6_get_27 : decode cX6_get 27 = .ok (.istore 5, 2) := by decide +kernel
theorem dX6_get_29 : decode cX6_get 29 = .ok (.iload 5, 2) := by decide +kernel
theorem dX6_get_31 : decode cX6_get 31 = .ok (.ifCond .eq 6, 3) := by decide +kernel
theorem dX6_get_34 : decode cX6_get 34 = .ok (.iload 5, 2) := by decide +kernel
theorem dX6_get_36 : decode cX6_get 36 = .ok (.ireturn, 1) := by decide +kernel
theorem dX6_get_37 : decode cX6_get 37 = .ok (.aload_n 0, 1) := by decide +kernel
theorem dX6_get_38 : decode cX6_get 38 = .ok (.getfield 13, 3) := by decide +kernel
theorem dX6_get_41 : decode cX6_get 41 = .ok (.bipush 6, 2) := by decide +kernel
theorem dX6_get_43 : decode cX6_get 43 = .ok (.aload_n 0, 1) := by decide +kernel
theorem dX6_get_44 : decode cX6_get 44 = .ok (.iload_n 1, 1) := by decide +kernel
theorem dX6_get_45 : decode cX6_get 45 = .ok (.iload_n 3, 1) := by decide +kernel
theorem dX6_get_46 : decode cX6_get 46 = .ok (.invokevirtual 163, 3) := by decide +kernel
theorem dX6_get_49 : decode cX6_get 49 = .ok (.imul, 1) := by decide +kernel
theorem dX6_get_50 : decode cX6_get 50 = .ok (.iload 4, 2) := by decide +kernel
theorem dX6_get_52 : decode cX6_get 52 = .ok (.iadd, 1) := by decide +kernel
theorem dX6_get_53 : decode cX6_get 53 = .ok (.iaload, 1) := by decide +kernel
theorem dX6_get_54 : decode cX6_get 54 = .ok (.istore 6, 2) := by decide +kernel
theorem dX6_get_56 : decode cX6_get 56 = .ok (.aload_n 0, 1) := by decide +kernel
theorem dX6_get_57 : decode cX6_get 57 = .ok (.getfield 94, 3) := by decide +kernel
theorem dX6_get_60 : decode cX6_get 60 = .ok (.iconst 3, 1) := by decide +kernel
theorem dX6_get_61 : decode cX6_get 61 = .ok (.if_icmp .ne 16, 3) := by decide +kernel
theorem dX6_get_64 : decode cX6_get 64 = .ok (.aload_n 0, 1) := by decide +kernel
theorem dX6_get_65 : decode cX6_get 65 = .ok (.invokevirtual 170, 3) := by decide +kernel
theorem dX6_get_68 : decode cX6_get 68 = .ok (.ifCond .eq 9, 3) := by decide +kernel
theorem dX6_get_71 : decode cX6_get 71 = .ok (.aload_n 0, 1) := by decide +kernel
theorem dX6_get_72 : decode cX6_get 72 = .ok (.iload 6, 2) := by decide +kernel
theorem dX6_get_74 : decode cX6_get 74 = .ok (.invokevirtual 100, 3) := by decide +kernel
theorem dX6_get_77 : decode cX6_get 77 = .ok (.aload_n 0, 1) := by decide +kernel
theorem dX6_get_78 : decode cX6_get 78 = .ok (.iload_n 1, 1) := by decide +kernel
theorem dX6_get_79 : decode cX6_get 79 = .ok (.iload_n 2, 1) := by decide +kernel
theorem dX6_get_80 : decode cX6_get 80 = .ok (.iload 6, 2) := by decide +kernel
theorem dX6_get_82 : decode cX6_get 82 = .ok (.invokevirtual 159, 3) := by decide +kernel
theorem dX6_get_85 : decode cX6_get 85 = .ok (.ireturn, 1) := by decide +kernel
theorem dX6_put_0 : decode cX6_put 0 = .ok (.iload_n 1, 1) := by decide +kernel
theorem dX6_put_1 : decode cX6_put 1 = .ok (.iload_n 2, 1) := by decide +kernel
theorem dX6_put_2 : decode cX6_put 2 = .ok (.invokestatic 152, 3) := by decide +kernel
theorem dX6_put_5 : decode cX6_put 5 = .ok (.ifCond .eq 12, 3) := by decide +kernel
theorem dX6_put_8 : decode cX6_put 8 = .ok (.iload_n 1, 1) := by decide +kernel
theorem dX6_put_9 : decode cX6_put 9 = .ok (.iload 4, 2) := by decide +kernel
theorem dX6_put_11 : decode cX6_put 11 = .ok (.invokestatic 152, 3) := by decide +kernel
theorem dX6_put_14 : decode cX6_put 14 = .ok (.ifCond .ne 6, 3) := by decide +kernel
theorem dX6_put_17 : decode cX6_put 17 = .ok (.bipush (-2), 2) := by decide +kernel
theorem dX6_put_19 : decode cX6_put 19 = .ok (.ireturn, 1) := by decide +kernel
theorem dX6_put_20 : decode cX6_put 20 = .ok (.aload_n 0, 1) := by decide +kernel
theorem dX6_put_21 : decode cX6_put 21 = .ok (.iload_n 1, 1) := by decide +kernel
theorem dX6_put_22 : decode cX6_put 22 = .ok (.iload_n 2, 1) := by decide +kernel
theorem dX6_put_23 : decode cX6_put 23 = .ok (.iload_n 3, 1) := by decide +kernel
theorem dX6_put_24 : decode cX6_put 24 = .ok (.invokevirtual 167, 3) := by decide +kernel
theorem dX6_put_27 : decode cX6_put 27 = .ok (.istore 5, 2) := by decide +kernel
theorem dX6_put_29 : decode cX6_put 29 = .ok (.iload 5, 2) := by decide +kernel
theorem dX6_put_31 : decode cX6_put 31 = .ok (.ifCond .eq 6, 3) := by decide +kernel
theorem dX6_put_34 : decode cX6_put 34 = .ok (.iload 5, 2) := by decide +kernel
theorem dX6_put_36 : decode cX6_put 36 = .ok (.ireturn, 1) := by decide +kernel
theorem dX6_put_37 : decode cX6_put 37 = .ok (.bipush 6, 2) := by decide +kernel
theorem dX6_put_39 : decode cX6_put 39 = .ok (.aload_n 0, 1) := by decide +kernel
theorem dX6_put_40 : decode cX6_put 40 = .ok (.iload_n 1, 1) := by decide +kernel
theorem dX6_put_41 : decode cX6_put 41 = .ok (.iload_n 2, 1) := by decide +kernel
theorem dX6_put_42 : decode cX6_put 42 = .ok (.invokevirtual 163, 3) := by decide +kernel
theorem dX6_put_45 : decode cX6_put 45 = .ok (.imul, 1) := by decide +kernel
theorem dX6_put_46 : decode cX6_put 46 = .ok (.iload_n 3, 1) := by decide +kernel
theorem dX6_put_47 : decode cX6_put 47 = .ok (.iadd, 1) := by decide +kernel
theorem dX6_put_48 : decode cX6_put 48 = .ok (.istore 6, 2) := by decide +kernel
theorem dX6_put_50 : decode cX6_put 50 = .ok (.aload_n 0, 1) := by decide +kernel
theorem dX6_put_51 : decode cX6_put 51 = .ok (.invokevirtual 170, 3) := by decide +kernel
theorem dX6_put_54 : decode cX6_put 54 = .ok (.ifCond .eq 44, 3) := by decide +kernel
theorem dX6_put_57 : decode cX6_put 57 = .ok (.aload_n 0, 1) := by decide +kernel
theorem dX6_put_58 : decode cX6_put 58 = .ok (.getfield 94, 3) := by decide +kernel
theorem dX6_put_61 : decode cX6_put 61 = .ok (.iconst 1, 1) := by decide +kernel
theorem dX6_put_62 : decode cX6_put 62 = .ok (.if_icmp .ne 17, 3) := by decide +kernel
theorem dX6_put_65 : decode cX6_put 65 = .ok (.aload_n 0, 1) := by decide +kernel
theorem dX6_put_66 : decode cX6_put 66 = .ok (.aload_n 0, 1) := by decide +kernel
theorem dX6_put_67 : decode cX6_put 67 = .ok (.getfield 13, 3) := by decide +kernel
theorem dX6_put_70 : decode cX6_put 70 = .ok (.iload 6, 2) := by decide +kernel
theorem dX6_put_72 : decode cX6_put 72 = .ok (.iaload, 1) := by decide +kernel
theorem dX6_put_73 : decode cX6_put 73 = .ok (.invokevirtual 100, 3) := by decide +kernel
theorem dX6_put_76 : decode cX6_put 76 = .ok (.goto 22, 3) := by decide +kernel
theorem dX6_put_79 : decode cX6_put 79 = .ok (.aload_n 0, 1) := by decide +kernel
theorem dX6_put_80 : decode cX6_put 80 = .ok (.getfield 94, 3) := by decide +kernel
theorem dX6_put_83 : decode cX6_put 83 = .ok (.iconst 2, 1) := by decide +kernel
theorem dX6_put_84 : decode cX6_put 84 = .ok (.if_icmp .ne 14, 3) := by decide +kernel
theorem dX6_put_87 : decode cX6_put 87 = .ok (.aload_n 0, 1) := by decide +kernel
theorem dX6_put_88 : decode cX6_put 88 = .ok (.aload_n 0, 1) := by decide +kernel
theorem dX6_put_89 : decode cX6_put 89 = .ok (.iload_n 1, 1) := by decide +kernel
theorem dX6_put_90 : decode cX6_put 90 = .ok (.iload 4, 2) := by decide +kernel
theorem dX6_put_92 : decode cX6_put 92 = .ok (.invokevirtual 163, 3) := by decide +kernel
theorem dX6_put_95 : decode cX6_put 95 = .ok (.invokevirtual 100, 3) := by decide +kernel
theorem dX6_put_98 : decode cX6_put 98 = .ok (.aload_n 0, 1) := by decide +kernel
theorem dX6_put_99 : decode cX6_put 99 = .ok (.getfield 13, 3) := by decide +kernel
theorem dX6_put_102 : decode cX6_put 102 = .ok (.iload 6, 2) := by decide +kernel
theorem dX6_put_104 : decode cX6_put 104 = .ok (.aload_n 0, 1) := by decide +kernel
theorem dX6_put_105 : decode cX6_put 105 = .ok (.iload_n 1, 1) := by decide +kernel
theorem dX6_put_106 : decode cX6_put 106 = .ok (.iload 4, 2) := by decide +kernel
theorem dX6_put_108 : decode cX6_put 108 = .ok (.invokevirtual 163, 3) := by decide +kernel
theorem dX6_put_111 : decode cX6_put 111 = .ok (.iastore, 1) := by decide +kernel
theorem dX6_put_112 : decode cX6_put 112 = .ok (.iconst 1, 1) := by decide +kernel
theorem dX6_put_113 : decode cX6_put 113 = .ok (.ireturn, 1) := by decide +kernel
theorem dX6_drop_0 : decode cX6_drop 0 = .ok (.iload_n 1, 1) := by decide +kernel
theorem dX6_drop_1 : decode cX6_drop 1 = .ok (.iload_n 2, 1) := by decide +kernel
theorem dX6_drop_2 : decode cX6_drop 2 = .ok (.invokestatic 152, 3) := by decide +kernel
theorem dX6_drop_5 : decode cX6_drop 5 = .ok (.ifCond .ne 6, 3) := by decide +kernel
theorem dX6_drop_8 : decode cX6_drop 8 = .ok (.bipush (-2), 2) := by decide +kernel
theorem dX6_drop_10 : decode cX6_drop 10 = .ok (.ireturn, 1) := by decide +kernel
theorem dX6_drop_11 : decode cX6_drop 11 = .ok (.aload_n 0, 1) := by decide +kernel
theorem dX6_drop_12 : decode cX6_drop 12 = .ok (.iload_n 1, 1) := by decide +kernel
theorem dX6_drop_13 : decode cX6_drop 13 = .ok (.iload_n 2, 1) := by decide +kernel
theorem dX6_drop_14 : decode cX6_drop 14 = .ok (.invokevirtual 163, 3) := by decide +kernel
theorem dX6_drop_17 : decode cX6_drop 17 = .ok (.istore_n 3, 1) := by decide +kernel
theorem dX6_drop_18 : decode cX6_drop 18 = .ok (.aload_n 0, 1) := by decide +kernel
theorem dX6_drop_19 : decode cX6_drop 19 = .ok (.iload_n 1, 1) := by decide +kernel
theorem dX6_drop_20 : decode cX6_drop 20 = .ok (.iload_n 2, 1) := by decide +kernel
theorem dX6_drop_21 : decode cX6_drop 21 = .ok (.iconst (-1), 1) := by decide +kernel
theorem dX6_drop_22 : decode cX6_drop 22 = .ok (.invokevirtual 159, 3) := by decide +kernel
theorem dX6_drop_25 : decode cX6_drop 25 = .ok (.pop, 1) := by decide +kernel
theorem dX6_drop_26 : decode cX6_drop 26 = .ok (.iload_n 3, 1) := by decide +kernel
theorem dX6_drop_27 : decode cX6_drop 27 = .ok (.ireturn, 1) := by decide +kernel
theorem dX6_store_0 : decode cX6_store 0 = .ok (.iload_n 1, 1) := by decide +kernel
theorem dX6_store_1 : decode cX6_store 1 = .ok (.iconst 0, 1) := by decide +kernel
theorem dX6_store_2 : decode cX6_store 2 = .ok (.iconst 3, 1) := by decide +kernel
theorem dX6_store_3 : decode cX6_store 3 = .ok (.invokestatic 90, 3) := by decide +kernel
theorem dX6_store_6 : decode cX6_store 6 = .ok (.ifCond .eq 11, 3) := by decide +kernel
theorem dX6_store_9 : decode cX6_store 9 = .ok (.iload_n 2, 1) := by decide +kernel
theorem dX6_store_10 : decode cX6_store 10 = .ok (.iload_n 3, 1) := by decide +kernel
theorem dX6_store_11 : decode cX6_store 11 = .ok (.invokestatic 152, 3) := by decide +kernel
theorem dX6_store_14 : decode cX6_store 14 = .ok (.ifCond .ne 6, 3) := by decide +kernel
theorem dX6_store_17 : decode cX6_store 17 = .ok (.bipush (-2), 2) := by decide +kernel
theorem dX6_store_19 : decode cX6_store 19 = .ok (.ireturn, 1) := by decide +kernel
theorem dX6_store_20 : decode cX6_store 20 = .ok (.aload_n 0, 1) := by decide +kernel
theorem dX6_store_21 : decode cX6_store 21 = .ok (.getfield 35, 3) := by decide +kernel
theorem dX6_store_24 : decode cX6_store 24 = .ok (.iload_n 1, 1) := by decide +kernel
theorem dX6_store_25 : decode cX6_store 25 = .ok (.iaload, 1) := by decide +kernel
theorem dX6_store_26 : decode cX6_store 26 = .ok (.istore 4, 2) := by decide +kernel
theorem dX6_store_28 : decode cX6_store 28 = .ok (.aload_n 0, 1) := by decide +kernel
theorem dX6_store_29 : decode cX6_store 29 = .ok (.getfield 35, 3) := by decide +kernel
theorem dX6_store_32 : decode cX6_store 32 = .ok (.iload_n 1, 1) := by decide +kernel
theorem dX6_store_33 : decode cX6_store 33 = .ok (.aload_n 0, 1) := by decide +kernel
theorem dX6_store_34 : decode cX6_store 34 = .ok (.iload_n 2, 1) := by decide +kernel
theorem dX6_store_35 : decode cX6_store 35 = .ok (.iload_n 3, 1) := by decide +kernel
theorem dX6_store_36 : decode cX6_store 36 = .ok (.invokevirtual 163, 3) := by decide +kernel
theorem dX6_store_39 : decode cX6_store 39 = .ok (.iastore, 1) := by decide +kernel
theorem dX6_store_40 : decode cX6_store 40 = .ok (.iload 4, 2) := by decide +kernel
theorem dX6_store_42 : decode cX6_store 42 = .ok (.ireturn, 1) := by decide +kernel
theorem dX6_load_0 : decode cX6_load 0 = .ok (.iload_n 3, 1) := by decide +kernel
theorem dX6_load_1 : decode cX6_load 1 = .ok (.iconst 0, 1) := by decide +kernel
theorem dX6_load_2 : decode cX6_load 2 = .ok (.iconst 3, 1) := by decide +kernel
theorem dX6_load_3 : decode cX6_load 3 = .ok (.invokestatic 90, 3) := by decide +kernel
theorem dX6_load_6 : decode cX6_load 6 = .ok (.ifCond .eq 11, 3) := by decide +kernel
theorem dX6_load_9 : decode cX6_load 9 = .ok (.iload_n 1, 1) := by decide +kernel
theorem dX6_load_10 : decode cX6_load 10 = .ok (.iload_n 2, 1) := by decide +kernel
theorem dX6_load_11 : decode cX6_load 11 = .ok (.invokestatic 152, 3) := by decide +kernel
theorem dX6_load_14 : decode cX6_load 14 = .ok (.ifCond .ne 8, 3) := by decide +kernel
theorem dX6_load_17 : decode cX6_load 17 = .ok (.bipush (-2), 2) := by decide +kernel
theorem dX6_load_19 : decode cX6_load 19 = .ok (.goto 15, 3) := by decide +kernel
theorem dX6_load_22 : decode cX6_load 22 = .ok (.aload_n 0, 1) := by decide +kernel
theorem dX6_load_23 : decode cX6_load 23 = .ok (.iload_n 1, 1) := by decide +kernel
theorem dX6_load_24 : decode cX6_load 24 = .ok (.iload_n 2, 1) := by decide +kernel
theorem dX6_load_25 : decode cX6_load 25 = .ok (.aload_n 0, 1) := by decide +kernel
theorem dX6_load_26 : decode cX6_load 26 = .ok (.getfield 35, 3) := by decide +kernel
theorem dX6_load_29 : decode cX6_load 29 = .ok (.iload_n 3, 1) := by decide +kernel
theorem dX6_load_30 : decode cX6_load 30 = .ok (.iaload, 1) := by decide +kernel
theorem dX6_load_31 : decode cX6_load 31 = .ok (.invokevirtual 159, 3) := by decide +kernel
theorem dX6_load_34 : decode cX6_load 34 = .ok (.ireturn, 1) := by decide +kernel
theorem dX6_same_0 : decode cX6_same 0 = .ok (.iload_n 1, 1) := by decide +kernel
theorem dX6_same_1 : decode cX6_same 1 = .ok (.iload_n 2, 1) := by decide +kernel
theorem dX6_same_2 : decode cX6_same 2 = .ok (.invokestatic 152, 3) := by decide +kernel
theorem dX6_same_5 : decode cX6_same 5 = .ok (.ifCond .eq 12, 3) := by decide +kernel
theorem dX6_same_8 : decode cX6_same 8 = .ok (.iload_n 3, 1) := by decide +kernel
theorem dX6_same_9 : decode cX6_same 9 = .ok (.iload 4, 2) := by decide +kernel
theorem dX6_same_11 : decode cX6_same 11 = .ok (.invokestatic 152, 3) := by decide +kernel
theorem dX6_same_14 : decode cX6_same 14 = .ok (.ifCond .ne 8, 3) := by decide +kernel
theorem dX6_same_17 : decode cX6_same 17 = .ok (.bipush (-2), 2) := by decide +kernel
theorem dX6_same_19 : decode cX6_same 19 = .ok (.goto 24, 3) := by decide +kernel
theorem dX6_same_22 : decode cX6_same 22 = .ok (.aload_n 0, 1) := by decide +kernel
theorem dX6_same_23 : decode cX6_same 23 = .ok (.iload_n 1, 1) := by decide +kernel
theorem dX6_same_24 : decode cX6_same 24 = .ok (.iload_n 2, 1) := by decide +kernel
theorem dX6_same_25 : decode cX6_same 25 = .ok (.invokevirtual 163, 3) := by decide +kernel
theorem dX6_same_28 : decode cX6_same 28 = .ok (.aload_n 0, 1) := by decide +kernel
theorem dX6_same_29 : decode cX6_same 29 = .ok (.iload_n 3, 1) := by decide +kernel
theorem dX6_same_30 : decode cX6_same 30 = .ok (.iload 4, 2) := by decide +kernel
theorem dX6_same_32 : decode cX6_same 32 = .ok (.invokevirtual 163, 3) := by decide +kernel
theorem dX6_same_35 : decode cX6_same 35 = .ok (.if_icmp .ne 7, 3) := by decide +kernel
theorem dX6_same_38 : decode cX6_same 38 = .ok (.iconst 1, 1) := by decide +kernel
theorem dX6_same_39 : decode cX6_same 39 = .ok (.goto 4, 3) := by decide +kernel
theorem dX6_same_42 : decode cX6_same 42 = .ok (.iconst 0, 1) := by decide +kernel
theorem dX6_same_43 : decode cX6_same 43 = .ok (.ireturn, 1) := by decide +kernel
theorem dX6_weak_0 : decode cX6_weak 0 = .ok (.iload_n 1, 1) := by decide +kernel
theorem dX6_weak_1 : decode cX6_weak 1 = .ok (.iconst 0, 1) := by decide +kernel
theorem dX6_weak_2 : decode cX6_weak 2 = .ok (.iconst 5, 1) := by decide +kernel
theorem dX6_weak_3 : decode cX6_weak 3 = .ok (.invokestatic 90, 3) := by decide +kernel
theorem dX6_weak_6 : decode cX6_weak 6 = .ok (.ifCond .eq 11, 3) := by decide +kernel
theorem dX6_weak_9 : decode cX6_weak 9 = .ok (.iload_n 2, 1) := by decide +kernel
theorem dX6_weak_10 : decode cX6_weak 10 = .ok (.iload_n 3, 1) := by decide +kernel
theorem dX6_weak_11 : decode cX6_weak 11 = .ok (.invokestatic 152, 3) := by decide +kernel
theorem dX6_weak_14 : decode cX6_weak 14 = .ok (.ifCond .ne 6, 3) := by decide +kernel
theorem dX6_weak_17 : decode cX6_weak 17 = .ok (.bipush (-2), 2) := by decide +kernel
theorem dX6_weak_19 : decode cX6_weak 19 = .ok (.ireturn, 1) := by decide +kernel
theorem dX6_weak_20 : decode cX6_weak 20 = .ok (.aload_n 0, 1) := by decide +kernel
theorem dX6_weak_21 : decode cX6_weak 21 = .ok (.iload_n 2, 1) := by decide +kernel
theorem dX6_weak_22 : decode cX6_weak 22 = .ok (.iload_n 3, 1) := by decide +kernel
theorem dX6_weak_23 : decode cX6_weak 23 = .ok (.invokevirtual 163, 3) := by decide +kernel
theorem dX6_weak_26 : decode cX6_weak 26 = .ok (.iconst (-1), 1) := by decide +kernel
theorem dX6_weak_27 : decode cX6_weak 27 = .ok (.if_icmp .ne 6, 3) := by decide +kernel
theorem dX6_weak_30 : decode cX6_weak 30 = .ok (.bipush (-3), 2) := by decide +kernel
theorem dX6_weak_32 : decode cX6_weak 32 = .ok (.ireturn, 1) := by decide +kernel
theorem dX6_weak_33 : decode cX6_weak 33 = .ok (.aload_n 0, 1) := by decide +kernel
theorem dX6_weak_34 : decode cX6_weak 34 = .ok (.getfield 41, 3) := by decide +kernel
theorem dX6_weak_37 : decode cX6_weak 37 = .ok (.iload_n 1, 1) := by decide +kernel
theorem dX6_weak_38 : decode cX6_weak 38 = .ok (.aload_n 0, 1) := by decide +kernel
theorem dX6_weak_39 : decode cX6_weak 39 = .ok (.iload_n 2, 1) := by decide +kernel
theorem dX6_weak_40 : decode cX6_weak 40 = .ok (.iload_n 3, 1) := by decide +kernel
theorem dX6_weak_41 : decode cX6_weak 41 = .ok (.invokevirtual 163, 3) := by decide +kernel
theorem dX6_weak_44 : decode cX6_weak 44 = .ok (.iastore, 1) := by decide +kernel
theorem dX6_weak_45 : decode cX6_weak 45 = .ok (.iconst 1, 1) := by decide +kernel
theorem dX6_weak_46 : decode cX6_weak 46 = .ok (.ireturn, 1) := by decide +kernel
theorem dX6_notesRead_0 : decode cX6_notesRead 0 = .ok (.aload_n 0, 1) := by decide +kernel
theorem dX6_notesRead_1 : decode cX6_notesRead 1 = .ok (.getfield 94, 3) := by decide +kernel
theorem dX6_notesRead_4 : decode cX6_notesRead 4 = .ok (.iconst 1, 1) := by decide +kernel
theorem dX6_notesRead_5 : decode cX6_notesRead 5 = .ok (.if_icmp .eq 11, 3) := by decide +kernel
theorem dX6_notesRead_8 : decode cX6_notesRead 8 = .ok (.aload_n 0, 1) := by decide +kernel
theorem dX6_notesRead_9 : decode cX6_notesRead 9 = .ok (.getfield 94, 3) := by decide +kernel
theorem dX6_notesRead_12 : decode cX6_notesRead 12 = .ok (.iconst 3, 1) := by decide +kernel
theorem dX6_notesRead_13 : decode cX6_notesRead 13 = .ok (.if_icmp .ne 15, 3) := by decide +kernel
theorem dX6_notesRead_16 : decode cX6_notesRead 16 = .ok (.aload_n 0, 1) := by decide +kernel
theorem dX6_notesRead_17 : decode cX6_notesRead 17 = .ok (.invokevirtual 170, 3) := by decide +kernel
theorem dX6_notesRead_20 : decode cX6_notesRead 20 = .ok (.ifCond .eq 8, 3) := by decide +kernel
theorem dX6_notesRead_23 : decode cX6_notesRead 23 = .ok (.aload_n 0, 1) := by decide +kernel
theorem dX6_notesRead_24 : decode cX6_notesRead 24 = .ok (.iload_n 1, 1) := by decide +kernel
theorem dX6_notesRead_25 : decode cX6_notesRead 25 = .ok (.invokevirtual 100, 3) := by decide +kernel
theorem dX6_notesRead_28 : decode cX6_notesRead 28 = .ok (.return_, 1) := by decide +kernel
theorem dX6_strong_0 : decode cX6_strong 0 = .ok (.iload_n 3, 1) := by decide +kernel
theorem dX6_strong_1 : decode cX6_strong 1 = .ok (.iconst 0, 1) := by decide +kernel
theorem dX6_strong_2 : decode cX6_strong 2 = .ok (.iconst 5, 1) := by decide +kernel
theorem dX6_strong_3 : decode cX6_strong 3 = .ok (.invokestatic 90, 3) := by decide +kernel
theorem dX6_strong_6 : decode cX6_strong 6 = .ok (.ifCond .eq 11, 3) := by decide +kernel
theorem dX6_strong_9 : decode cX6_strong 9 = .ok (.iload_n 1, 1) := by decide +kernel
theorem dX6_strong_10 : decode cX6_strong 10 = .ok (.iload_n 2, 1) := by decide +kernel
theorem dX6_strong_11 : decode cX6_strong 11 = .ok (.invokestatic 152, 3) := by decide +kernel
theorem dX6_strong_14 : decode cX6_strong 14 = .ok (.ifCond .ne 6, 3) := by decide +kernel
theorem dX6_strong_17 : decode cX6_strong 17 = .ok (.bipush (-2), 2) := by decide +kernel
theorem dX6_strong_19 : decode cX6_strong 19 = .ok (.ireturn, 1) := by decide +kernel
theorem dX6_strong_20 : decode cX6_strong 20 = .ok (.aload_n 0, 1) := by decide +kernel
theorem dX6_strong_21 : decode cX6_strong 21 = .ok (.aload_n 0, 1) := by decide +kernel
theorem dX6_strong_22 : decode cX6_strong 22 = .ok (.getfield 41, 3) := by decide +kernel
theorem dX6_strong_25 : decode cX6_strong 25 = .ok (.iload_n 3, 1) := by decide +kernel
theorem dX6_strong_26 : decode cX6_strong 26 = .ok (.iaload, 1) := by decide +kernel
theorem dX6_strong_27 : decode cX6_strong 27 = .ok (.invokevirtual 173, 3) := by decide +kernel
theorem dX6_strong_30 : decode cX6_strong 30 = .ok (.aload_n 0, 1) := by decide +kernel
theorem dX6_strong_31 : decode cX6_strong 31 = .ok (.iload_n 1, 1) := by decide +kernel
theorem dX6_strong_32 : decode cX6_strong 32 = .ok (.iload_n 2, 1) := by decide +kernel
theorem dX6_strong_33 : decode cX6_strong 33 = .ok (.aload_n 0, 1) := by decide +kernel
theorem dX6_strong_34 : decode cX6_strong 34 = .ok (.getfield 41, 3) := by decide +kernel
theorem dX6_strong_37 : decode cX6_strong 37 = .ok (.iload_n 3, 1) := by decide +kernel
theorem dX6_strong_38 : decode cX6_strong 38 = .ok (.iaload, 1) := by decide +kernel
theorem dX6_strong_39 : decode cX6_strong 39 = .ok (.invokevirtual 159, 3) := by decide +kernel
theorem dX6_strong_42 : decode cX6_strong 42 = .ok (.ireturn, 1) := by decide +kernel
theorem dX6_pair_0 : decode cX6_pair 0 = .ok (.iload_n 1, 1) := by decide +kernel
theorem dX6_pair_1 : decode cX6_pair 1 = .ok (.iload_n 2, 1) := by decide +kernel
theorem dX6_pair_2 : decode cX6_pair 2 = .ok (.invokestatic 152, 3) := by decide +kernel
theorem dX6_pair_5 : decode cX6_pair 5 = .ok (.ifCond .eq 11, 3) := by decide +kernel
theorem dX6_pair_8 : decode cX6_pair 8 = .ok (.iload_n 1, 1) := by decide +kernel
theorem dX6_pair_9 : decode cX6_pair 9 = .ok (.iload_n 3, 1) := by decide +kernel
theorem dX6_pair_10 : decode cX6_pair 10 = .ok (.invokestatic 152, 3) := by decide +kernel
theorem dX6_pair_13 : decode cX6_pair 13 = .ok (.ifCond .ne 6, 3) := by decide +kernel
theorem dX6_pair_16 : decode cX6_pair 16 = .ok (.bipush (-2), 2) := by decide +kernel
theorem dX6_pair_18 : decode cX6_pair 18 = .ok (.ireturn, 1) := by decide +kernel
theorem dX6_pair_19 : decode cX6_pair 19 = .ok (.aload_n 0, 1) := by decide +kernel
theorem dX6_pair_20 : decode cX6_pair 20 = .ok (.iload_n 1, 1) := by decide +kernel
theorem dX6_pair_21 : decode cX6_pair 21 = .ok (.iload_n 2, 1) := by decide +kernel
theorem dX6_pair_22 : decode cX6_pair 22 = .ok (.invokevirtual 163, 3) := by decide +kernel
theorem dX6_pair_25 : decode cX6_pair 25 = .ok (.iconst (-1), 1) := by decide +kernel
theorem dX6_pair_26 : decode cX6_pair 26 = .ok (.if_icmp .eq 13, 3) := by decide +kernel
theorem dX6_pair_29 : decode cX6_pair 29 = .ok (.aload_n 0, 1) := by decide +kernel
theorem dX6_pair_30 : decode cX6_pair 30 = .ok (.iload_n 1, 1) := by decide +kernel
theorem dX6_pair_31 : decode cX6_pair 31 = .ok (.iload_n 3, 1) := by decide +kernel
theorem dX6_pair_32 : decode cX6_pair 32 = .ok (.invokevirtual 163, 3) := by decide +kernel
theorem dX6_pair_35 : decode cX6_pair 35 = .ok (.iconst (-1), 1) := by decide +kernel
theorem dX6_pair_36 : decode cX6_pair 36 = .ok (.if_icmp .ne 6, 3) := by decide +kernel
theorem dX6_pair_39 : decode cX6_pair 39 = .ok (.bipush (-3), 2) := by decide +kernel
theorem dX6_pair_41 : decode cX6_pair 41 = .ok (.ireturn, 1) := by decide +kernel
theorem dX6_pair_42 : decode cX6_pair 42 = .ok (.aload_n 0, 1) := by decide +kernel
theorem dX6_pair_43 : decode cX6_pair 43 = .ok (.getfield 66, 3) := by decide +kernel
theorem dX6_pair_46 : decode cX6_pair 46 = .ok (.bipush 8, 2) := by decide +kernel
theorem dX6_pair_48 : decode cX6_pair 48 = .ok (.if_icmp .ne 6, 3) := by decide +kernel
theorem dX6_pair_51 : decode cX6_pair 51 = .ok (.bipush (-4), 2) := by decide +kernel
theorem dX6_pair_53 : decode cX6_pair 53 = .ok (.ireturn, 1) := by decide +kernel
theorem dX6_pair_54 : decode cX6_pair 54 = .ok (.aload_n 0, 1) := by decide +kernel
theorem dX6_pair_55 : decode cX6_pair 55 = .ok (.getfield 44, 3) := by decide +kernel
theorem dX6_pair_58 : decode cX6_pair 58 = .ok (.aload_n 0, 1) := by decide +kernel
theorem dX6_pair_59 : decode cX6_pair 59 = .ok (.getfield 66, 3) := by decide +kernel
theorem dX6_pair_62 : decode cX6_pair 62 = .ok (.aload_n 0, 1) := by decide +kernel
theorem dX6_pair_63 : decode cX6_pair 63 = .ok (.iload_n 1, 1) := by decide +kernel
theorem dX6_pair_64 : decode cX6_pair 64 = .ok (.iload_n 2, 1) := by decide +kernel
theorem dX6_pair_65 : decode cX6_pair 65 = .ok (.invokevirtual 163, 3) := by decide +kernel
theorem dX6_pair_68 : decode cX6_pair 68 = .ok (.iastore, 1) := by decide +kernel
theorem dX6_pair_69 : decode cX6_pair 69 = .ok (.aload_n 0, 1) := by decide +kernel
theorem dX6_pair_70 : decode cX6_pair 70 = .ok (.getfield 47, 3) := by decide +kernel
theorem dX6_pair_73 : decode cX6_pair 73 = .ok (.aload_n 0, 1) := by decide +kernel
theorem dX6_pair_74 : decode cX6_pair 74 = .ok (.getfield 66, 3) := by decide +kernel
theorem dX6_pair_77 : decode cX6_pair 77 = .ok (.aload_n 0, 1) := by decide +kernel
theorem dX6_pair_78 : decode cX6_pair 78 = .ok (.iload_n 1, 1) := by decide +kernel
theorem dX6_pair_79 : decode cX6_pair 79 = .ok (.iload_n 3, 1) := by decide +kernel
theorem dX6_pair_80 : decode cX6_pair 80 = .ok (.invokevirtual 163, 3) := by decide +kernel
theorem dX6_pair_83 : decode cX6_pair 83 = .ok (.iastore, 1) := by decide +kernel
theorem dX6_pair_84 : decode cX6_pair 84 = .ok (.aload_n 0, 1) := by decide +kernel
theorem dX6_pair_85 : decode cX6_pair 85 = .ok (.getfield 50, 3) := by decide +kernel
theorem dX6_pair_88 : decode cX6_pair 88 = .ok (.aload_n 0, 1) := by decide +kernel
theorem dX6_pair_89 : decode cX6_pair 89 = .ok (.getfield 66, 3) := by decide +kernel
theorem dX6_pair_92 : decode cX6_pair 92 = .ok (.iconst 1, 1) := by decide +kernel
theorem dX6_pair_93 : decode cX6_pair 93 = .ok (.bastore, 1) := by decide +kernel
theorem dX6_pair_94 : decode cX6_pair 94 = .ok (.aload_n 0, 1) := by decide +kernel
theorem dX6_pair_95 : decode cX6_pair 95 = .ok (.dup, 1) := by decide +kernel
theorem dX6_pair_96 : decode cX6_pair 96 = .ok (.getfield 66, 3) := by decide +kernel
theorem dX6_pair_99 : decode cX6_pair 99 = .ok (.iconst 1, 1) := by decide +kernel
theorem dX6_pair_100 : decode cX6_pair 100 = .ok (.iadd, 1) := by decide +kernel
theorem dX6_pair_101 : decode cX6_pair 101 = .ok (.putfield 66, 3) := by decide +kernel
theorem dX6_pair_104 : decode cX6_pair 104 = .ok (.aload_n 0, 1) := by decide +kernel
theorem dX6_pair_105 : decode cX6_pair 105 = .ok (.getfield 66, 3) := by decide +kernel
theorem dX6_pair_108 : decode cX6_pair 108 = .ok (.iconst 1, 1) := by decide +kernel
theorem dX6_pair_109 : decode cX6_pair 109 = .ok (.isub, 1) := by decide +kernel
theorem dX6_pair_110 : decode cX6_pair 110 = .ok (.ireturn, 1) := by decide +kernel
theorem dX6_value_0 : decode cX6_value 0 = .ok (.iload_n 1, 1) := by decide +kernel
theorem dX6_value_1 : decode cX6_value 1 = .ok (.iload_n 2, 1) := by decide +kernel
theorem dX6_value_2 : decode cX6_value 2 = .ok (.invokestatic 152, 3) := by decide +kernel
theorem dX6_value_5 : decode cX6_value 5 = .ok (.ifCond .eq 17, 3) := by decide +kernel
theorem dX6_value_8 : decode cX6_value 8 = .ok (.iload_n 3, 1) := by decide +kernel
theorem dX6_value_9 : decode cX6_value 9 = .ok (.iconst 0, 1) := by decide +kernel
theorem dX6_value_10 : decode cX6_value 10 = .ok (.aload_n 0, 1) := by decide +kernel
theorem dX6_value_11 : decode cX6_value 11 = .ok (.getfield 66, 3) := by decide +kernel
theorem dX6_value_14 : decode cX6_value 14 = .ok (.iconst 1, 1) := by decide +kernel
theorem dX6_value_15 : decode cX6_value 15 = .ok (.isub, 1) := by decide +kernel
theorem dX6_value_16 : decode cX6_value 16 = .ok (.invokestatic 90, 3) := by decide +kernel
theorem dX6_value_19 : decode cX6_value 19 = .ok (.ifCond .ne 6, 3) := by decide +kernel
theorem dX6_value_22 : decode cX6_value 22 = .ok (.bipush (-2), 2) := by decide +kernel
theorem dX6_value_24 : decode cX6_value 24 = .ok (.ireturn, 1) := by decide +kernel
theorem dX6_value_25 : decode cX6_value 25 = .ok (.aload_n 0, 1) := by decide +kernel
theorem dX6_value_26 : decode cX6_value 26 = .ok (.getfield 50, 3) := by decide +kernel
theorem dX6_value_29 : decode cX6_value 29 = .ok (.iload_n 3, 1) := by decide +kernel
theorem dX6_value_30 : decode cX6_value 30 = .ok (.baload, 1) := by decide +kernel
theorem dX6_value_31 : decode cX6_value 31 = .ok (.ifCond .eq 12, 3) := by decide +kernel
theorem dX6_value_34 : decode cX6_value 34 = .ok (.aload_n 0, 1) := by decide +kernel
theorem dX6_value_35 : decode cX6_value 35 = .ok (.getfield 47, 3) := by decide +kernel
theorem dX6_value_38 : decode cX6_value 38 = .ok (.iload_n 3, 1) := by decide +kernel
theorem dX6_value_39 : decode cX6_value 39 = .ok (.iaload, 1) := by decide +kernel
theorem dX6_value_40 : decode cX6_value 40 = .ok (.goto 4, 3) := by decide +kernel
theorem dX6_value_43 : decode cX6_value 43 = .ok (.iconst (-1), 1) := by decide +kernel
theorem dX6_value_44 : decode cX6_value 44 = .ok (.istore 4, 2) := by decide +kernel
theorem dX6_value_46 : decode cX6_value 46 = .ok (.aload_n 0, 1) := by decide +kernel
theorem dX6_value_47 : decode cX6_value 47 = .ok (.iload 4, 2) := by decide +kernel
theorem dX6_value_49 : decode cX6_value 49 = .ok (.invokevirtual 173, 3) := by decide +kernel
theorem dX6_value_52 : decode cX6_value 52 = .ok (.aload_n 0, 1) := by decide +kernel
theorem dX6_value_53 : decode cX6_value 53 = .ok (.iload_n 1, 1) := by decide +kernel
theorem dX6_value_54 : decode cX6_value 54 = .ok (.iload_n 2, 1) := by decide +kernel
theorem dX6_value_55 : decode cX6_value 55 = .ok (.iload 4, 2) := by decide +kernel
theorem dX6_value_57 : decode cX6_value 57 = .ok (.invokevirtual 159, 3) := by decide +kernel
theorem dX6_value_60 : decode cX6_value 60 = .ok (.ireturn, 1) := by decide +kernel
theorem dX6_wish_0 : decode cX6_wish 0 = .ok (.iload_n 1, 1) := by decide +kernel
theorem dX6_wish_1 : decode cX6_wish 1 = .ok (.iload_n 2, 1) := by decide +kernel
theorem dX6_wish_2 : decode cX6_wish 2 = .ok (.invokestatic 152, 3) := by decide +kernel
theorem dX6_wish_5 : decode cX6_wish 5 = .ok (.ifCond .ne 6, 3) := by decide +kernel
theorem dX6_wish_8 : decode cX6_wish 8 = .ok (.bipush (-2), 2) := by decide +kernel
theorem dX6_wish_10 : decode cX6_wish 10 = .ok (.ireturn, 1) := by decide +kernel
theorem dX6_wish_11 : decode cX6_wish 11 = .ok (.aload_n 0, 1) := by decide +kernel
theorem dX6_wish_12 : decode cX6_wish 12 = .ok (.getfield 63, 3) := by decide +kernel
theorem dX6_wish_15 : decode cX6_wish 15 = .ok (.ifCond .ne 5, 3) := by decide +kernel
theorem dX6_wish_18 : decode cX6_wish 18 = .ok (.iconst (-1), 1) := by decide +kernel
theorem dX6_wish_19 : decode cX6_wish 19 = .ok (.ireturn, 1) := by decide +kernel
theorem dX6_wish_20 : decode cX6_wish 20 = .ok (.aload_n 0, 1) := by decide +kernel
theorem dX6_wish_21 : decode cX6_wish 21 = .ok (.getfield 38, 3) := by decide +kernel
theorem dX6_wish_24 : decode cX6_wish 24 = .ok (.iconst 0, 1) := by decide +kernel
theorem dX6_wish_25 : decode cX6_wish 25 = .ok (.iaload, 1) := by decide +kernel
theorem dX6_wish_26 : decode cX6_wish 26 = .ok (.istore_n 3, 1) := by decide +kernel
theorem dX6_wish_27 : decode cX6_wish 27 = .ok (.aload_n 0, 1) := by decide +kernel
theorem dX6_wish_28 : decode cX6_wish 28 = .ok (.dup, 1) := by decide +kernel
theorem dX6_wish_29 : decode cX6_wish 29 = .ok (.getfield 63, 3) := by decide +kernel
theorem dX6_wish_32 : decode cX6_wish 32 = .ok (.iconst 1, 1) := by decide +kernel
theorem dX6_wish_33 : decode cX6_wish 33 = .ok (.isub, 1) := by decide +kernel
theorem dX6_wish_34 : decode cX6_wish 34 = .ok (.putfield 63, 3) := by decide +kernel
theorem dX6_wish_37 : decode cX6_wish 37 = .ok (.iconst 0, 1) := by decide +kernel
theorem dX6_wish_38 : decode cX6_wish 38 = .ok (.istore 4, 2) := by decide +kernel
theorem dX6_wish_40 : decode cX6_wish 40 = .ok (.iload 4, 2) := by decide +kernel
theorem dX6_wish_42 : decode cX6_wish 42 = .ok (.aload_n 0, 1) := by decide +kernel
theorem dX6_wish_43 : decode cX6_wish 43 = .ok (.getfield 63, 3) := by decide +kernel
theorem dX6_wish_46 : decode cX6_wish 46 = .ok (.if_icmp .ge 25, 3) := by decide +kernel
theorem dX6_wish_49 : decode cX6_wish 49 = .ok (.aload_n 0, 1) := by decide +kernel
theorem dX6_wish_50 : decode cX6_wish 50 = .ok (.getfield 38, 3) := by decide +kernel
theorem dX6_wish_53 : decode cX6_wish 53 = .ok (.iload 4, 2) := by decide +kernel
theorem dX6_wish_55 : decode cX6_wish 55 = .ok (.aload_n 0, 1) := by decide +kernel
theorem dX6_wish_56 : decode cX6_wish 56 = .ok (.getfield 38, 3) := by decide +kernel
theorem dX6_wish_59 : decode cX6_wish 59 = .ok (.iload 4, 2) := by decide +kernel
theorem dX6_wish_61 : decode cX6_wish 61 = .ok (.iconst 1, 1) := by decide +kernel
theorem dX6_wish_62 : decode cX6_wish 62 = .ok (.iadd, 1) := by decide +kernel
theorem dX6_wish_63 : decode cX6_wish 63 = .ok (.iaload, 1) := by decide +kernel
theorem dX6_wish_64 : decode cX6_wish 64 = .ok (.iastore, 1) := by decide +kernel
theorem dX6_wish_65 : decode cX6_wish 65 = .ok (.iinc 4 1, 3) := by decide +kernel
theorem dX6_wish_68 : decode cX6_wish 68 = .ok (.goto (-28), 3) := by decide +kernel
theorem dX6_wish_71 : decode cX6_wish 71 = .ok (.aload_n 0, 1) := by decide +kernel
theorem dX6_wish_72 : decode cX6_wish 72 = .ok (.iload_n 1, 1) := by decide +kernel
theorem dX6_wish_73 : decode cX6_wish 73 = .ok (.iload_n 2, 1) := by decide +kernel
theorem dX6_wish_74 : decode cX6_wish 74 = .ok (.iload_n 3, 1) := by decide +kernel
theorem dX6_wish_75 : decode cX6_wish 75 = .ok (.invokevirtual 159, 3) := by decide +kernel
theorem dX6_wish_78 : decode cX6_wish 78 = .ok (.ireturn, 1) := by decide +kernel
theorem dX6_reach_0 : decode cX6_reach 0 = .ok (.iload_n 1, 1) := by decide +kernel
theorem dX6_reach_1 : decode cX6_reach 1 = .ok (.iconst (-1), 1) := by decide +kernel
theorem dX6_reach_2 : decode cX6_reach 2 = .ok (.if_icmp .eq 24, 3) := by decide +kernel
theorem dX6_reach_5 : decode cX6_reach 5 = .ok (.aload_n 0, 1) := by decide +kernel
theorem dX6_reach_6 : decode cX6_reach 6 = .ok (.getfield 53, 3) := by decide +kernel
theorem dX6_reach_9 : decode cX6_reach 9 = .ok (.iload_n 1, 1) := by decide +kernel
theorem dX6_reach_10 : decode cX6_reach 10 = .ok (.baload, 1) := by decide +kernel
theorem dX6_reach_11 : decode cX6_reach 11 = .ok (.ifCond .ne 15, 3) := by decide +kernel
theorem dX6_reach_14 : decode cX6_reach 14 = .ok (.aload_n 0, 1) := by decide +kernel
theorem dX6_reach_15 : decode cX6_reach 15 = .ok (.getfield 53, 3) := by decide +kernel
theorem dX6_reach_18 : decode cX6_reach 18 = .ok (.iload_n 1, 1) := by decide +kernel
theorem dX6_reach_19 : decode cX6_reach 19 = .ok (.iconst 1, 1) := by decide +kernel
theorem dX6_reach_20 : decode cX6_reach 20 = .ok (.bastore, 1) := by decide +kernel
theorem dX6_reach_21 : decode cX6_reach 21 = .ok (.aload_n 0, 1) := by decide +kernel
theorem dX6_reach_22 : decode cX6_reach 22 = .ok (.iconst 1, 1) := by decide +kernel
theorem dX6_reach_23 : decode cX6_reach 23 = .ok (.putfield 176, 3) := by decide +kernel
theorem dX6_reach_26 : decode cX6_reach 26 = .ok (.return_, 1) := by decide +kernel
theorem dX6_findReached_0 : decode cX6_findReached 0 = .ok (.iconst 0, 1) := by decide +kernel
theorem dX6_findReached_1 : decode cX6_findReached 1 = .ok (.istore_n 1, 1) := by decide +kernel
theorem dX6_findReached_2 : decode cX6_findReached 2 = .ok (.iload_n 1, 1) := by decide +kernel
theorem dX6_findReached_3 : decode cX6_findReached 3 = .ok (.aload_n 0, 1) := by decide +kernel
theorem dX6_findReached_4 : decode cX6_findReached 4 = .ok (.getfield 59, 3) := by decide +kernel
theorem dX6_findReached_7 : decode cX6_findReached 7 = .ok (.if_icmp .ge 16, 3) := by decide +kernel
theorem dX6_findReached_10 : decode cX6_findReached 10 = .ok (.aload_n 0, 1) := by decide +kernel
theorem dX6_findReached_11 : decode cX6_findReached 11 = .ok (.getfield 53, 3) := by decide +kernel
theorem dX6_findReached_14 : decode cX6_findReached 14 = .ok (.iload_n 1, 1) := by decide +kernel
theorem dX6_findReached_15 : decode cX6_findReached 15 = .ok (.iconst 0, 1) := by decide +kernel
theorem dX6_findReached_16 : decode cX6_findReached 16 = .ok (.bastore, 1) := by decide +kernel
theorem dX6_findReached_17 : decode cX6_findReached 17 = .ok (.iinc 1 1, 3) := by decide +kernel
theorem dX6_findReached_20 : decode cX6_findReached 20 = .ok (.goto (-18), 3) := by decide +kernel
theorem dX6_findReached_23 : decode cX6_findReached 23 = .ok (.iconst 0, 1) := by decide +kernel
theorem dX6_findReached_24 : decode cX6_findReached 24 = .ok (.istore_n 1, 1) := by decide +kernel
theorem dX6_findReached_25 : decode cX6_findReached 25 = .ok (.iload_n 1, 1) := by decide +kernel
theorem dX6_findReached_26 : decode cX6_findReached 26 = .ok (.bipush 12, 2) := by decide +kernel
theorem dX6_findReached_28 : decode cX6_findReached 28 = .ok (.if_icmp .ge 19, 3) := by decide +kernel
theorem dX6_findReached_31 : decode cX6_findReached 31 = .ok (.aload_n 0, 1) := by decide +kernel
theorem dX6_findReached_32 : decode cX6_findReached 32 = .ok (.aload_n 0, 1) := by decide +kernel
theorem dX6_findReached_33 : decode cX6_findReached 33 = .ok (.getfield 32, 3) := by decide +kernel
theorem dX6_findReached_36 : decode cX6_findReached 36 = .ok (.iload_n 1, 1) := by decide +kernel
theorem dX6_findReached_37 : decode cX6_findReached 37 = .ok (.iaload, 1) := by decide +kernel
theorem dX6_findReached_38 : decode cX6_findReached 38 = .ok (.invokevirtual 180, 3) := by decide +kernel
theorem dX6_findReached_41 : decode cX6_findReached 41 = .ok (.iinc 1 1, 3) := by decide +kernel
theorem dX6_findReached_44 : decode cX6_findReached 44 = .ok (.goto (-19), 3) := by decide +kernel
theorem dX6_findReached_47 : decode cX6_findReached 47 = .ok (.iconst 0, 1) := by decide +kernel
theorem dX6_findReached_48 : decode cX6_findReached 48 = .ok (.istore_n 1, 1) := by decide +kernel
theorem dX6_findReached_49 : decode cX6_findReached 49 = .ok (.iload_n 1, 1) := by decide +kernel
theorem dX6_findReached_50 : decode cX6_findReached 50 = .ok (.iconst 4, 1) := by decide +kernel
theorem dX6_findReached_51 : decode cX6_findReached 51 = .ok (.if_icmp .ge 19, 3) := by decide +kernel
theorem dX6_findReached_54 : decode cX6_findReached 54 = .ok (.aload_n 0, 1) := by decide +kernel
theorem dX6_findReached_55 : decode cX6_findReached 55 = .ok (.aload_n 0, 1) := by decide +kernel
theorem dX6_findReached_56 : decode cX6_findReached 56 = .ok (.getfield 35, 3) := by decide +kernel
theorem dX6_findReached_59 : decode cX6_findReached 59 = .ok (.iload_n 1, 1) := by decide +kernel
theorem dX6_findReached_60 : decode cX6_findReached 60 = .ok (.iaload, 1) := by decide +kernel
theorem dX6_findReached_61 : decode cX6_findReached 61 = .ok (.invokevirtual 180, 3) := by decide +kernel
theorem dX6_findReached_64 : decode cX6_findReached 64 = .ok (.iinc 1 1, 3) := by decide +kernel
theorem dX6_findReached_67 : decode cX6_findReached 67 = .ok (.goto (-18), 3) := by decide +kernel
theorem dX6_findReached_70 : decode cX6_findReached 70 = .ok (.iconst 0, 1) := by decide +kernel
theorem dX6_findReached_71 : decode cX6_findReached 71 = .ok (.istore_n 1, 1) := by decide +kernel
theorem dX6_findReached_72 : decode cX6_findReached 72 = .ok (.iload_n 1, 1) := by decide +kernel
theorem dX6_findReached_73 : decode cX6_findReached 73 = .ok (.aload_n 0, 1) := by decide +kernel
theorem dX6_findReached_74 : decode cX6_findReached 74 = .ok (.getfield 63, 3) := by decide +kernel
theorem dX6_findReached_77 : decode cX6_findReached 77 = .ok (.if_icmp .ge 19, 3) := by decide +kernel
theorem dX6_findReached_80 : decode cX6_findReached 80 = .ok (.aload_n 0, 1) := by decide +kernel
theorem dX6_findReached_81 : decode cX6_findReached 81 = .ok (.aload_n 0, 1) := by decide +kernel
theorem dX6_findReached_82 : decode cX6_findReached 82 = .ok (.getfield 38, 3) := by decide +kernel
theorem dX6_findReached_85 : decode cX6_findReached 85 = .ok (.iload_n 1, 1) := by decide +kernel
theorem dX6_findReached_86 : decode cX6_findReached 86 = .ok (.iaload, 1) := by decide +kernel
theorem dX6_findReached_87 : decode cX6_findReached 87 = .ok (.invokevirtual 180, 3) := by decide +kernel
theorem dX6_findReached_90 : decode cX6_findReached 90 = .ok (.iinc 1 1, 3) := by decide +kernel
theorem dX6_findReached_93 : decode cX6_findReached 93 = .ok (.goto (-21), 3) := by decide +kernel
theorem dX6_findReached_96 : decode cX6_findReached 96 = .ok (.aload_n 0, 1) := by decide +kernel
theorem dX6_findReached_97 : decode cX6_findReached 97 = .ok (.iconst 1, 1) := by decide +kernel
theorem dX6_findReached_98 : decode cX6_findReached 98 = .ok (.putfield 176, 3) := by decide +kernel
theorem dX6_findReached_101 : decode cX6_findReached 101 = .ok (.aload_n 0, 1) := by decide +kernel
theorem dX6_findReached_102 : decode cX6_findReached 102 = .ok (.getfield 176, 3) := by decide +kernel
theorem dX6_findReached_105 : decode cX6_findReached 105 = .ok (.ifCond .eq 127, 3) := by decide +kernel
theorem dX6_findReached_108 : decode cX6_findReached 108 = .ok (.aload_n 0, 1) := by decide +kernel
theorem dX6_findReached_109 : decode cX6_findReached 109 = .ok (.iconst 0, 1) := by decide +kernel
theorem dX6_findReached_110 : decode cX6_findReached 110 = .ok (.putfield 176, 3) := by decide +kernel
theorem dX6_findReached_113 : decode cX6_findReached 113 = .ok (.iconst 0, 1) := by decide +kernel
theorem dX6_findReached_114 : decode cX6_findReached 114 = .ok (.istore_n 1, 1) := by decide +kernel
theorem dX6_findReached_115 : decode cX6_findReached 115 = .ok (.iload_n 1, 1) := by decide +kernel
theorem dX6_findReached_116 : decode cX6_findReached 116 = .ok (.aload_n 0, 1) := by decide +kernel
theorem dX6_findReached_117 : decode cX6_findReached 117 = .ok (.getfield 59, 3) := by decide +kernel
theorem dX6_findReached_120 : decode cX6_findReached 120 = .ok (.if_icmp .ge 60, 3) := by decide +kernel
theorem dX6_findReached_123 : decode cX6_findReached 123 = .ok (.iconst 0, 1) := by decide +kernel
theorem dX6_findReached_124 : decode cX6_findReached 124 = .ok (.istore_n 2, 1) := by decide +kernel
theorem dX6_findReached_125 : decode cX6_findReached 125 = .ok (.iload_n 2, 1) := by decide +kernel
theorem dX6_findReached_126 : decode cX6_findReached 126 = .ok (.aload_n 0, 1) := by decide +kernel
theorem dX6_findReached_127 : decode cX6_findReached 127 = .ok (.getfield 7, 3) := by decide +kernel
theorem dX6_findReached_130 : decode cX6_findReached 130 = .ok (.iload_n 1, 1) := by decide +kernel
theorem dX6_findReached_131 : decode cX6_findReached 131 = .ok (.iaload, 1) := by decide +kernel
theorem dX6_findReached_132 : decode cX6_findReached 132 = .ok (.if_icmp .ge 42, 3) := by decide +kernel
theorem dX6_findReached_135 : decode cX6_findReached 135 = .ok (.aload_n 0, 1) := by decide +kernel
theorem dX6_findReached_136 : decode cX6_findReached 136 = .ok (.getfield 53, 3) := by decide +kernel
theorem dX6_findReached_139 : decode cX6_findReached 139 = .ok (.iload_n 1, 1) := by decide +kernel
theorem dX6_findReached_140 : decode cX6_findReached 140 = .ok (.baload, 1) := by decide +kernel
theorem dX6_findReached_141 : decode cX6_findReached 141 = .ok (.ifCond .eq 33, 3) := by decide +kernel
theorem dX6_findReached_144 : decode cX6_findReached 144 = .ok (.aload_n 0, 1) := by decide +kernel
theorem dX6_findReached_145 : decode cX6_findReached 145 = .ok (.getfield 22, 3) := by decide +kernel
theorem dX6_findReached_148 : decode cX6_findReached 148 = .ok (.iload_n 1, 1) := by decide +kernel
theorem dX6_findReached_149 : decode cX6_findReached 149 = .ok (.baload, 1) := by decide +kernel
theorem dX6_findReached_150 : decode cX6_findReached 150 = .ok (.ifCond .ne 24, 3) := by decide +kernel
theorem dX6_findReached_153 : decode cX6_findReached 153 = .ok (.aload_n 0, 1) := by decide +kernel
theorem dX6_findReached_154 : decode cX6_findReached 154 = .ok (.aload_n 0, 1) := by decide +kernel
theorem dX6_findReached_155 : decode cX6_findReached 155 = .ok (.getfield 13, 3) := by decide +kernel
theorem dX6_findReached_158 : decode cX6_findReached 158 = .ok (.bipush 6, 2) := by decide +kernel
theorem dX6_findReached_160 : decode cX6_findReached 160 = .ok (.iload_n 1, 1) := by decide +kernel
theorem dX6_findReached_161 : decode cX6_findReached 161 = .ok (.imul, 1) := by decide +kernel
theorem dX6_findReached_162 : decode cX6_findReached 162 = .ok (.iload_n 2, 1) := by decide +kernel
theorem dX6_findReached_163 : decode cX6_findReached 163 = .ok (.iadd, 1) := by decide +kernel
theorem dX6_findReached_164 : decode cX6_findReached 164 = .ok (.iaload, 1) := by decide +kernel
theorem dX6_findReached_165 : decode cX6_findReached 165 = .ok (.invokevirtual 180, 3) := by decide +kernel
theorem dX6_findReached_168 : decode cX6_findReached 168 = .ok (.iinc 2 1, 3) := by decide +kernel
theorem dX6_findReached_171 : decode cX6_findReached 171 = .ok (.goto (-46), 3) := by decide +kernel
theorem dX6_findReached_174 : decode cX6_findReached 174 = .ok (.iinc 1 1, 3) := by decide +kernel
theorem dX6_findReached_177 : decode cX6_findReached 177 = .ok (.goto (-62), 3) := by decide +kernel
theorem dX6_findReached_180 : decode cX6_findReached 180 = .ok (.iconst 0, 1) := by decide +kernel
theorem dX6_findReached_181 : decode cX6_findReached 181 = .ok (.istore_n 1, 1) := by decide +kernel
theorem dX6_findReached_182 : decode cX6_findReached 182 = .ok (.iload_n 1, 1) := by decide +kernel
theorem dX6_findReached_183 : decode cX6_findReached 183 = .ok (.aload_n 0, 1) := by decide +kernel
theorem dX6_findReached_184 : decode cX6_findReached 184 = .ok (.getfield 66, 3) := by decide +kernel
theorem dX6_findReached_187 : decode cX6_findReached 187 = .ok (.if_icmp .ge 42, 3) := by decide +kernel
theorem dX6_findReached_190 : decode cX6_findReached 190 = .ok (.aload_n 0, 1) := by decide +kernel
theorem dX6_findReached_191 : decode cX6_findReached 191 = .ok (.getfield 50, 3) := by decide +kernel
theorem dX6_findReached_194 : decode cX6_findReached 194 = .ok (.iload_n 1, 1) := by decide +kernel
theorem dX6_findReached_195 : decode cX6_findReached 195 = .ok (.baload, 1) := by decide +kernel
theorem dX6_findReached_196 : decode cX6_findReached 196 = .ok (.ifCond .eq 27, 3) := by decide +kernel
theorem dX6_findReached_199 : decode cX6_findReached 199 = .ok (.aload_n 0, 1) := by decide +kernel
theorem dX6_findReached_200 : decode cX6_findReached 200 = .ok (.getfield 53, 3) := by decide +kernel
theorem dX6_findReached_203 : decode cX6_findReached 203 = .ok (.aload_n 0, 1) := by decide +kernel
theorem dX6_findReached_204 : decode cX6_findReached 204 = .ok (.getfield 44, 3) := by decide +kernel
theorem dX6_findReached_207 : decode cX6_findReached 207 = .ok (.iload_n 1, 1) := by decide +kernel
theorem dX6_findReached_208 : decode cX6_findReached 208 = .ok (.iaload, 1) := by decide +kernel
theorem dX6_findReached_209 : decode cX6_findReached 209 = .ok (.baload, 1) := by decide +kernel
theorem dX6_findReached_210 : decode cX6_findReached 210 = .ok (.ifCond .eq 13, 3) := by decide +kernel
theorem dX6_findReached_213 : decode cX6_findReached 213 = .ok (.aload_n 0, 1) := by decide +kernel
theorem dX6_findReached_214 : decode cX6_findReached 214 = .ok (.aload_n 0, 1) := by decide +kernel
theorem dX6_findReached_215 : decode cX6_findReached 215 = .ok (.getfield 47, 3) := by decide +kernel
theorem dX6_findReached_218 : decode cX6_findReached 218 = .ok (.iload_n 1, 1) := by decide +kernel
theorem dX6_findReached_219 : decode cX6_findReached 219 = .ok (.iaload, 1) := by decide +kernel
theorem dX6_findReached_220 : decode cX6_findReached 220 = .ok (.invokevirtual 180, 3) := by decide +kernel
theorem dX6_findReached_223 : decode cX6_findReached 223 = .ok (.iinc 1 1, 3) := by decide +kernel
theorem dX6_findReached_226 : decode cX6_findReached 226 = .ok (.goto (-44), 3) := by decide +kernel
theorem dX6_findReached_229 : decode cX6_findReached 229 = .ok (.goto (-128), 3) := by decide +kernel
theorem dX6_findReached_232 : decode cX6_findReached 232 = .ok (.return_, 1) := by decide +kernel
theorem dX6_isThing_0 : decode cX6_isThing 0 = .ok (.iload_n 1, 1) := by decide +kernel
theorem dX6_isThing_1 : decode cX6_isThing 1 = .ok (.iconst 0, 1) := by decide +kernel
theorem dX6_isThing_2 : decode cX6_isThing 2 = .ok (.aload_n 0, 1) := by decide +kernel
theorem dX6_isThing_3 : decode cX6_isThing 3 = .ok (.getfield 59, 3) := by decide +kernel
theorem dX6_isThing_6 : decode cX6_isThing 6 = .ok (.iconst 1, 1) := by decide +kernel
theorem dX6_isThing_7 : decode cX6_isThing 7 = .ok (.isub, 1) := by decide +kernel
theorem dX6_isThing_8 : decode cX6_isThing 8 = .ok (.invokestatic 90, 3) := by decide +kernel
theorem dX6_isThing_11 : decode cX6_isThing 11 = .ok (.ireturn, 1) := by decide +kernel
theorem dX6_aboutOf_0 : decode cX6_aboutOf 0 = .ok (.iload_n 2, 1) := by decide +kernel
theorem dX6_aboutOf_1 : decode cX6_aboutOf 1 = .ok (.tableswitch 109 0 5 #[39, 46, 53, 60, 75, 94], 39) := by decide +kernel
theorem dX6_aboutOf_40 : decode cX6_aboutOf 40 = .ok (.aload_n 0, 1) := by decide +kernel
theorem dX6_aboutOf_41 : decode cX6_aboutOf 41 = .ok (.getfield 7, 3) := by decide +kernel
theorem dX6_aboutOf_44 : decode cX6_aboutOf 44 = .ok (.iload_n 1, 1) := by decide +kernel
theorem dX6_aboutOf_45 : decode cX6_aboutOf 45 = .ok (.iaload, 1) := by decide +kernel
theorem dX6_aboutOf_46 : decode cX6_aboutOf 46 = .ok (.ireturn, 1) := by decide +kernel
theorem dX6_aboutOf_47 : decode cX6_aboutOf 47 = .ok (.aload_n 0, 1) := by decide +kernel
theorem dX6_aboutOf_48 : decode cX6_aboutOf 48 = .ok (.getfield 16, 3) := by decide +kernel
theorem dX6_aboutOf_51 : decode cX6_aboutOf 51 = .ok (.iload_n 1, 1) := by decide +kernel
theorem dX6_aboutOf_52 : decode cX6_aboutOf 52 = .ok (.iaload, 1) := by decide +kernel
theorem dX6_aboutOf_53 : decode cX6_aboutOf 53 = .ok (.ireturn, 1) := by decide +kernel
theorem dX6_aboutOf_54 : decode cX6_aboutOf 54 = .ok (.aload_n 0, 1) := by decide +kernel
theorem dX6_aboutOf_55 : decode cX6_aboutOf 55 = .ok (.getfield 19, 3) := by decide +kernel
theorem dX6_aboutOf_58 : decode cX6_aboutOf 58 = .ok (.iload_n 1, 1) := by decide +kernel
theorem dX6_aboutOf_59 : decode cX6_aboutOf 59 = .ok (.iaload, 1) := by decide +kernel
theorem dX6_aboutOf_60 : decode cX6_aboutOf 60 = .ok (.ireturn, 1) := by decide +kernel
theorem dX6_aboutOf_61 : decode cX6_aboutOf 61 = .ok (.aload_n 0, 1) := by decide +kernel
theorem dX6_aboutOf_62 : decode cX6_aboutOf 62 = .ok (.getfield 22, 3) := by decide +kernel
theorem dX6_aboutOf_65 : decode cX6_aboutOf 65 = .ok (.iload_n 1, 1) := by decide +kernel
theorem dX6_aboutOf_66 : decode cX6_aboutOf 66 = .ok (.baload, 1) := by decide +kernel
theorem dX6_aboutOf_67 : decode cX6_aboutOf 67 = .ok (.ifCond .eq 7, 3) := by decide +kernel
theorem dX6_aboutOf_70 : decode cX6_aboutOf 70 = .ok (.iconst 1, 1) := by decide +kernel
theorem dX6_aboutOf_71 : decode cX6_aboutOf 71 = .ok (.goto 4, 3) := by decide +kernel
theorem dX6_aboutOf_74 : decode cX6_aboutOf 74 = .ok (.iconst 0, 1) := by decide +kernel
theorem dX6_aboutOf_75 : decode cX6_aboutOf 75 = .ok (.ireturn, 1) := by decide +kernel
theorem dX6_aboutOf_76 : decode cX6_aboutOf 76 = .ok (.aload_n 0, 1) := by decide +kernel
theorem dX6_aboutOf_77 : decode cX6_aboutOf 77 = .ok (.invokevirtual 183, 3) := by decide +kernel
theorem dX6_aboutOf_80 : decode cX6_aboutOf 80 = .ok (.aload_n 0, 1) := by decide +kernel
theorem dX6_aboutOf_81 : decode cX6_aboutOf 81 = .ok (.getfield 53, 3) := by decide +kernel
theorem dX6_aboutOf_84 : decode cX6_aboutOf 84 = .ok (.iload_n 1, 1) := by decide +kernel
theorem dX6_aboutOf_85 : decode cX6_aboutOf 85 = .ok (.baload, 1) := by decide +kernel
theorem dX6_aboutOf_86 : decode cX6_aboutOf 86 = .ok (.ifCond .eq 7, 3) := by decide +kernel
theorem dX6_aboutOf_89 : decode cX6_aboutOf 89 = .ok (.iconst 1, 1) := by decide +kernel
theorem dX6_aboutOf_90 : decode cX6_aboutOf 90 = .ok (.goto 4, 3) := by decide +kernel
theorem dX6_aboutOf_93 : decode cX6_aboutOf 93 = .ok (.iconst 0, 1) := by decide +kernel
theorem dX6_aboutOf_94 : decode cX6_aboutOf 94 = .ok (.ireturn, 1) := by decide +kernel
theorem dX6_aboutOf_95 : decode cX6_aboutOf 95 = .ok (.aload_n 0, 1) := by decide +kernel
theorem dX6_aboutOf_96 : decode cX6_aboutOf 96 = .ok (.getfield 26, 3) := by decide +kernel
theorem dX6_aboutOf_99 : decode cX6_aboutOf 99 = .ok (.iload_n 1, 1) := by decide +kernel
theorem dX6_aboutOf_100 : decode cX6_aboutOf 100 = .ok (.baload, 1) := by decide +kernel
theorem dX6_aboutOf_101 : decode cX6_aboutOf 101 = .ok (.ifCond .eq 7, 3) := by decide +kernel
theorem dX6_aboutOf_104 : decode cX6_aboutOf 104 = .ok (.iconst 1, 1) := by decide +kernel
theorem dX6_aboutOf_105 : decode cX6_aboutOf 105 = .ok (.goto 4, 3) := by decide +kernel
theorem dX6_aboutOf_108 : decode cX6_aboutOf 108 = .ok (.iconst 0, 1) := by decide +kernel
theorem dX6_aboutOf_109 : decode cX6_aboutOf 109 = .ok (.ireturn, 1) := by decide +kernel
theorem dX6_aboutOf_110 : decode cX6_aboutOf 110 = .ok (.aload_n 0, 1) := by decide +kernel
theorem dX6_aboutOf_111 : decode cX6_aboutOf 111 = .ok (.getfield 29, 3) := by decide +kernel
theorem dX6_aboutOf_114 : decode cX6_aboutOf 114 = .ok (.iload_n 1, 1) := by decide +kernel
theorem dX6_aboutOf_115 : decode cX6_aboutOf 115 = .ok (.iaload, 1) := by decide +kernel
theorem dX6_aboutOf_116 : decode cX6_aboutOf 116 = .ok (.ireturn, 1) := by decide +kernel
theorem dX6_about_0 : decode cX6_about 0 = .ok (.aload_n 0, 1) := by decide +kernel
theorem dX6_about_1 : decode cX6_about 1 = .ok (.iload_n 1, 1) := by decide +kernel
theorem dX6_about_2 : decode cX6_about 2 = .ok (.invokevirtual 186, 3) := by decide +kernel
theorem dX6_about_5 : decode cX6_about 5 = .ok (.ifCond .eq 22, 3) := by decide +kernel
theorem dX6_about_8 : decode cX6_about 8 = .ok (.iload_n 2, 1) := by decide +kernel
theorem dX6_about_9 : decode cX6_about 9 = .ok (.iconst 0, 1) := by decide +kernel
theorem dX6_about_10 : decode cX6_about 10 = .ok (.bipush 6, 2) := by decide +kernel
theorem dX6_about_12 : decode cX6_about 12 = .ok (.invokestatic 90, 3) := by decide +kernel
theorem dX6_about_15 : decode cX6_about 15 = .ok (.ifCond .eq 12, 3) := by decide +kernel
theorem dX6_about_18 : decode cX6_about 18 = .ok (.aload_n 0, 1) := by decide +kernel
theorem dX6_about_19 : decode cX6_about 19 = .ok (.iload_n 1, 1) := by decide +kernel
theorem dX6_about_20 : decode cX6_about 20 = .ok (.iload_n 2, 1) := by decide +kernel
theorem dX6_about_21 : decode cX6_about 21 = .ok (.invokevirtual 189, 3) := by decide +kernel
theorem dX6_about_24 : decode cX6_about 24 = .ok (.goto 5, 3) := by decide +kernel
theorem dX6_about_27 : decode cX6_about 27 = .ok (.bipush (-2), 2) := by decide +kernel
theorem dX6_about_29 : decode cX6_about 29 = .ok (.ireturn, 1) := by decide +kernel
theorem dX6_field_0 : decode cX6_field 0 = .ok (.aload_n 0, 1) := by decide +kernel
theorem dX6_field_1 : decode cX6_field 1 = .ok (.iload_n 1, 1) := by decide +kernel
theorem dX6_field_2 : decode cX6_field 2 = .ok (.invokevirtual 186, 3) := by decide +kernel
theorem dX6_field_5 : decode cX6_field 5 = .ok (.ifCond .ne 8, 3) := by decide +kernel
theorem dX6_field_8 : decode cX6_field 8 = .ok (.bipush (-2), 2) := by decide +kernel
theorem dX6_field_10 : decode cX6_field 10 = .ok (.goto 34, 3) := by decide +kernel
theorem dX6_field_13 : decode cX6_field 13 = .ok (.iload_n 2, 1) := by decide +kernel
theorem dX6_field_14 : decode cX6_field 14 = .ok (.iconst 0, 1) := by decide +kernel
theorem dX6_field_15 : decode cX6_field 15 = .ok (.aload_n 0, 1) := by decide +kernel
theorem dX6_field_16 : decode cX6_field 16 = .ok (.getfield 7, 3) := by decide +kernel
theorem dX6_field_19 : decode cX6_field 19 = .ok (.iload_n 1, 1) := by decide +kernel
theorem dX6_field_20 : decode cX6_field 20 = .ok (.iaload, 1) := by decide +kernel
theorem dX6_field_21 : decode cX6_field 21 = .ok (.iconst 1, 1) := by decide +kernel
theorem dX6_field_22 : decode cX6_field 22 = .ok (.isub, 1) := by decide +kernel
theorem dX6_field_23 : decode cX6_field 23 = .ok (.invokestatic 90, 3) := by decide +kernel
theorem dX6_field_26 : decode cX6_field 26 = .ok (.ifCond .eq 17, 3) := by decide +kernel
theorem dX6_field_29 : decode cX6_field 29 = .ok (.aload_n 0, 1) := by decide +kernel
theorem dX6_field_30 : decode cX6_field 30 = .ok (.getfield 13, 3) := by decide +kernel
theorem dX6_field_33 : decode cX6_field 33 = .ok (.bipush 6, 2) := by decide +kernel
theorem dX6_field_35 : decode cX6_field 35 = .ok (.iload_n 1, 1) := by decide +kernel
theorem dX6_field_36 : decode cX6_field 36 = .ok (.imul, 1) := by decide +kernel
theorem dX6_field_37 : decode cX6_field 37 = .ok (.iload_n 2, 1) := by decide +kernel
theorem dX6_field_38 : decode cX6_field 38 = .ok (.iadd, 1) := by decide +kernel
theorem dX6_field_39 : decode cX6_field 39 = .ok (.iaload, 1) := by decide +kernel
theorem dX6_field_40 : decode cX6_field 40 = .ok (.goto 4, 3) := by decide +kernel
theorem dX6_field_43 : decode cX6_field 43 = .ok (.iconst (-1), 1) := by decide +kernel
theorem dX6_field_44 : decode cX6_field 44 = .ok (.ireturn, 1) := by decide +kernel
theorem dX6_holder_0 : decode cX6_holder 0 = .ok (.iload_n 1, 1) := by decide +kernel
theorem dX6_holder_1 : decode cX6_holder 1 = .ok (.ifCond .ge 6, 3) := by decide +kernel
theorem dX6_holder_4 : decode cX6_holder 4 = .ok (.bipush (-2), 2) := by decide +kernel
theorem dX6_holder_6 : decode cX6_holder 6 = .ok (.ireturn, 1) := by decide +kernel
theorem dX6_holder_7 : decode cX6_holder 7 = .ok (.iload_n 1, 1) := by decide +kernel
theorem dX6_holder_8 : decode cX6_holder 8 = .ok (.bipush 12, 2) := by decide +kernel
theorem dX6_holder_10 : decode cX6_holder 10 = .ok (.if_icmp .ge 10, 3) := by decide +kernel
theorem dX6_holder_13 : decode cX6_holder 13 = .ok (.aload_n 0, 1) := by decide +kernel
theorem dX6_holder_14 : decode cX6_holder 14 = .ok (.getfield 32, 3) := by decide +kernel
theorem dX6_holder_17 : decode cX6_holder 17 = .ok (.iload_n 1, 1) := by decide +kernel
theorem dX6_holder_18 : decode cX6_holder 18 = .ok (.iaload, 1) := by decide +kernel
theorem dX6_holder_19 : decode cX6_holder 19 = .ok (.ireturn, 1) := by decide +kernel
theorem dX6_holder_20 : decode cX6_holder 20 = .ok (.iload_n 1, 1) := by decide +kernel
theorem dX6_holder_21 : decode cX6_holder 21 = .ok (.bipush 16, 2) := by decide +kernel
theorem dX6_holder_23 : decode cX6_holder 23 = .ok (.if_icmp .ge 13, 3) := by decide +kernel
theorem dX6_holder_26 : decode cX6_holder 26 = .ok (.aload_n 0, 1) := by decide +kernel
theorem dX6_holder_27 : decode cX6_holder 27 = .ok (.getfield 35, 3) := by decide +kernel
theorem dX6_holder_30 : decode cX6_holder 30 = .ok (.iload_n 1, 1) := by decide +kernel
theorem dX6_holder_31 : decode cX6_holder 31 = .ok (.bipush 12, 2) := by decide +kernel
theorem dX6_holder_33 : decode cX6_holder 33 = .ok (.isub, 1) := by decide +kernel
theorem dX6_holder_34 : decode cX6_holder 34 = .ok (.iaload, 1) := by decide +kernel
theorem dX6_holder_35 : decode cX6_holder 35 = .ok (.ireturn, 1) := by decide +kernel
theorem dX6_holder_36 : decode cX6_holder 36 = .ok (.iload_n 1, 1) := by decide +kernel
theorem dX6_holder_37 : decode cX6_holder 37 = .ok (.bipush 22, 2) := by decide +kernel
theorem dX6_holder_39 : decode cX6_holder 39 = .ok (.if_icmp .ge 13, 3) := by decide +kernel
theorem dX6_holder_42 : decode cX6_holder 42 = .ok (.aload_n 0, 1) := by decide +kernel
theorem dX6_holder_43 : decode cX6_holder 43 = .ok (.getfield 41, 3) := by decide +kernel
theorem dX6_holder_46 : decode cX6_holder 46 = .ok (.iload_n 1, 1) := by decide +kernel
theorem dX6_holder_47 : decode cX6_holder 47 = .ok (.bipush 16, 2) := by decide +kernel
theorem dX6_holder_49 : decode cX6_holder 49 = .ok (.isub, 1) := by decide +kernel
theorem dX6_holder_50 : decode cX6_holder 50 = .ok (.iaload, 1) := by decide +kernel
theorem dX6_holder_51 : decode cX6_holder 51 = .ok (.ireturn, 1) := by decide +kernel
theorem dX6_holder_52 : decode cX6_holder 52 = .ok (.iload_n 1, 1) := by decide +kernel
theorem dX6_holder_53 : decode cX6_holder 53 = .ok (.bipush 30, 2) := by decide +kernel
theorem dX6_holder_55 : decode cX6_holder 55 = .ok (.if_icmp .ge 29, 3) := by decide +kernel
theorem dX6_holder_58 : decode cX6_holder 58 = .ok (.aload_n 0, 1) := by decide +kernel
theorem dX6_holder_59 : decode cX6_holder 59 = .ok (.getfield 50, 3) := by decide +kernel
theorem dX6_holder_62 : decode cX6_holder 62 = .ok (.iload_n 1, 1) := by decide +kernel
theorem dX6_holder_63 : decode cX6_holder 63 = .ok (.bipush 22, 2) := by decide +kernel
theorem dX6_holder_65 : decode cX6_holder 65 = .ok (.isub, 1) := by decide +kernel
theorem dX6_holder_66 : decode cX6_holder 66 = .ok (.baload, 1) := by decide +kernel
theorem dX6_holder_67 : decode cX6_holder 67 = .ok (.ifCond .eq 15, 3) := by decide +kernel
theorem dX6_holder_70 : decode cX6_holder 70 = .ok (.aload_n 0, 1) := by decide +kernel
theorem dX6_holder_71 : decode cX6_holder 71 = .ok (.getfield 44, 3) := by decide +kernel
theorem dX6_holder_74 : decode cX6_holder 74 = .ok (.iload_n 1, 1) := by decide +kernel
theorem dX6_holder_75 : decode cX6_holder 75 = .ok (.bipush 22, 2) := by decide +kernel
theorem dX6_holder_77 : decode cX6_holder 77 = .ok (.isub, 1) := by decide +kernel
theorem dX6_holder_78 : decode cX6_holder 78 = .ok (.iaload, 1) := by decide +kernel
theorem dX6_holder_79 : decode cX6_holder 79 = .ok (.goto 4, 3) := by decide +kernel
theorem dX6_holder_82 : decode cX6_holder 82 = .ok (.iconst (-1), 1) := by decide +kernel
theorem dX6_holder_83 : decode cX6_holder 83 = .ok (.ireturn, 1) := by decide +kernel
theorem dX6_holder_84 : decode cX6_holder 84 = .ok (.iload_n 1, 1) := by decide +kernel
theorem dX6_holder_85 : decode cX6_holder 85 = .ok (.bipush 30, 2) := by decide +kernel
theorem dX6_holder_87 : decode cX6_holder 87 = .ok (.isub, 1) := by decide +kernel
theorem dX6_holder_88 : decode cX6_holder 88 = .ok (.aload_n 0, 1) := by decide +kernel
theorem dX6_holder_89 : decode cX6_holder 89 = .ok (.getfield 63, 3) := by decide +kernel
theorem dX6_holder_92 : decode cX6_holder 92 = .ok (.if_icmp .ge 15, 3) := by decide +kernel
theorem dX6_holder_95 : decode cX6_holder 95 = .ok (.aload_n 0, 1) := by decide +kernel
theorem dX6_holder_96 : decode cX6_holder 96 = .ok (.getfield 38, 3) := by decide +kernel
theorem dX6_holder_99 : decode cX6_holder 99 = .ok (.iload_n 1, 1) := by decide +kernel
theorem dX6_holder_100 : decode cX6_holder 100 = .ok (.bipush 30, 2) := by decide +kernel
theorem dX6_holder_102 : decode cX6_holder 102 = .ok (.isub, 1) := by decide +kernel
theorem dX6_holder_103 : decode cX6_holder 103 = .ok (.iaload, 1) := by decide +kernel
theorem dX6_holder_104 : decode cX6_holder 104 = .ok (.goto 4, 3) := by decide +kernel
theorem dX6_holder_107 : decode cX6_holder 107 = .ok (.iconst (-1), 1) := by decide +kernel
theorem dX6_holder_108 : decode cX6_holder 108 = .ok (.ireturn, 1) := by decide +kernel
theorem dX6_cellOf_0 : decode cX6_cellOf 0 = .ok (.iconst 0, 1) := by decide +kernel
theorem dX6_cellOf_1 : decode cX6_cellOf 1 = .ok (.istore_n 2, 1) := by decide +kernel
theorem dX6_cellOf_2 : decode cX6_cellOf 2 = .ok (.iload_n 2, 1) := by decide +kernel
theorem dX6_cellOf_3 : decode cX6_cellOf 3 = .ok (.aload_n 0, 1) := by decide +kernel
theorem dX6_cellOf_4 : decode cX6_cellOf 4 = .ok (.getfield 59, 3) := by decide +kernel
theorem dX6_cellOf_7 : decode cX6_cellOf 7 = .ok (.if_icmp .ge 47, 3) := by decide +kernel
theorem dX6_cellOf_10 : decode cX6_cellOf 10 = .ok (.aload_n 0, 1) := by decide +kernel
theorem dX6_cellOf_11 : decode cX6_cellOf 11 = .ok (.getfield 22, 3) := by decide +kernel
theorem dX6_cellOf_14 : decode cX6_cellOf 14 = .ok (.iload_n 2, 1) := by decide +kernel
theorem dX6_cellOf_15 : decode cX6_cellOf 15 = .ok (.baload, 1) := by decide +kernel
theorem dX6_cellOf_16 : decode cX6_cellOf 16 = .ok (.ifCond .ne 32, 3) := by decide +kernel
theorem dX6_cellOf_19 : decode cX6_cellOf 19 = .ok (.aload_n 0, 1) := by decide +kernel
theorem dX6_cellOf_20 : decode cX6_cellOf 20 = .ok (.getfield 16, 3) := by decide +kernel
theorem dX6_cellOf_23 : decode cX6_cellOf 23 = .ok (.iload_n 2, 1) := by decide +kernel
theorem dX6_cellOf_24 : decode cX6_cellOf 24 = .ok (.iaload, 1) := by decide +kernel
theorem dX6_cellOf_25 : decode cX6_cellOf 25 = .ok (.iload_n 1, 1) := by decide +kernel
theorem dX6_cellOf_26 : decode cX6_cellOf 26 = .ok (.if_icmp .gt 22, 3) := by decide +kernel
theorem dX6_cellOf_29 : decode cX6_cellOf 29 = .ok (.iload_n 1, 1) := by decide +kernel
theorem dX6_cellOf_30 : decode cX6_cellOf 30 = .ok (.aload_n 0, 1) := by decide +kernel
theorem dX6_cellOf_31 : decode cX6_cellOf 31 = .ok (.getfield 16, 3) := by decide +kernel
theorem dX6_cellOf_34 : decode cX6_cellOf 34 = .ok (.iload_n 2, 1) := by decide +kernel
theorem dX6_cellOf_35 : decode cX6_cellOf 35 = .ok (.iaload, 1) := by decide +kernel
theorem dX6_cellOf_36 : decode cX6_cellOf 36 = .ok (.aload_n 0, 1) := by decide +kernel
theorem dX6_cellOf_37 : decode cX6_cellOf 37 = .ok (.getfield 7, 3) := by decide +kernel
theorem dX6_cellOf_40 : decode cX6_cellOf 40 = .ok (.iload_n 2, 1) := by decide +kernel
theorem dX6_cellOf_41 : decode cX6_cellOf 41 = .ok (.iaload, 1) := by decide +kernel
theorem dX6_cellOf_42 : decode cX6_cellOf 42 = .ok (.iadd, 1) := by decide +kernel
theorem dX6_cellOf_43 : decode cX6_cellOf 43 = .ok (.if_icmp .gt 5, 3) := by decide +kernel
theorem dX6_cellOf_46 : decode cX6_cellOf 46 = .ok (.iload_n 2, 1) := by decide +kernel
theorem dX6_cellOf_47 : decode cX6_cellOf 47 = .ok (.ireturn, 1) := by decide +kernel
theorem dX6_cellOf_48 : decode cX6_cellOf 48 = .ok (.iinc 2 1, 3) := by decide +kernel
theorem dX6_cellOf_51 : decode cX6_cellOf 51 = .ok (.goto (-49), 3) := by decide +kernel
theorem dX6_cellOf_54 : decode cX6_cellOf 54 = .ok (.iconst (-1), 1) := by decide +kernel
theorem dX6_cellOf_55 : decode cX6_cellOf 55 = .ok (.ireturn, 1) := by decide +kernel
theorem dX6_cell_0 : decode cX6_cell 0 = .ok (.iload_n 1, 1) := by decide +kernel
theorem dX6_cell_1 : decode cX6_cell 1 = .ok (.iconst 0, 1) := by decide +kernel
theorem dX6_cell_2 : decode cX6_cell 2 = .ok (.sipush 199, 3) := by decide +kernel
theorem dX6_cell_5 : decode cX6_cell 5 = .ok (.invokestatic 90, 3) := by decide +kernel
theorem dX6_cell_8 : decode cX6_cell 8 = .ok (.ifCond .eq 11, 3) := by decide +kernel
theorem dX6_cell_11 : decode cX6_cell 11 = .ok (.aload_n 0, 1) := by decide +kernel
theorem dX6_cell_12 : decode cX6_cell 12 = .ok (.iload_n 1, 1) := by decide +kernel
theorem dX6_cell_13 : decode cX6_cell 13 = .ok (.invokevirtual 192, 3) := by decide +kernel
theorem dX6_cell_16 : decode cX6_cell 16 = .ok (.goto 5, 3) := by decide +kernel
theorem dX6_cell_19 : decode cX6_cell 19 = .ok (.bipush (-2), 2) := by decide +kernel
theorem dX6_cell_21 : decode cX6_cell 21 = .ok (.ireturn, 1) := by decide +kernel
theorem dX6_freeCells_0 : decode cX6_freeCells 0 = .ok (.aload_n 0, 1) := by decide +kernel
theorem dX6_freeCells_1 : decode cX6_freeCells 1 = .ok (.getfield 94, 3) := by decide +kernel
theorem dX6_freeCells_4 : decode cX6_freeCells 4 = .ok (.iconst 3, 1) := by decide +kernel
theorem dX6_freeCells_5 : decode cX6_freeCells 5 = .ok (.if_icmp .ne 11, 3) := by decide +kernel
theorem dX6_freeCells_8 : decode cX6_freeCells 8 = .ok (.bipush 100, 2) := by decide +kernel
theorem dX6_freeCells_10 : decode cX6_freeCells 10 = .ok (.aload_n 0, 1) := by decide +kernel
theorem dX6_freeCells_11 : decode cX6_freeCells 11 = .ok (.getfield 72, 3) := by decide +kernel
theorem dX6_freeCells_14 : decode cX6_freeCells 14 = .ok (.isub, 1) := by decide +kernel
theorem dX6_freeCells_15 : decode cX6_freeCells 15 = .ok (.ireturn, 1) := by decide +kernel
theorem dX6_freeCells_16 : decode cX6_freeCells 16 = .ok (.iconst 0, 1) := by decide +kernel
theorem dX6_freeCells_17 : decode cX6_freeCells 17 = .ok (.istore_n 2, 1) := by decide +kernel
theorem dX6_freeCells_18 : decode cX6_freeCells 18 = .ok (.iconst 0, 1) := by decide +kernel
theorem dX6_freeCells_19 : decode cX6_freeCells 19 = .ok (.istore_n 3, 1) := by decide +kernel
theorem dX6_freeCells_20 : decode cX6_freeCells 20 = .ok (.iconst 0, 1) := by decide +kernel
theorem dX6_freeCells_21 : decode cX6_freeCells 21 = .ok (.istore 4, 2) := by decide +kernel
theorem dX6_freeCells_23 : decode cX6_freeCells 23 = .ok (.iconst 0, 1) := by decide +kernel
theorem dX6_freeCells_24 : decode cX6_freeCells 24 = .ok (.istore 5, 2) := by decide +kernel
theorem dX6_freeCells_26 : decode cX6_freeCells 26 = .ok (.iload 5, 2) := by decide +kernel
theorem dX6_freeCells_28 : decode cX6_freeCells 28 = .ok (.sipush 200, 3) := by decide +kernel
theorem dX6_freeCells_31 : decode cX6_freeCells 31 = .ok (.if_icmp .ge 66, 3) := by decide +kernel
theorem dX6_freeCells_34 : decode cX6_freeCells 34 = .ok (.aload_n 0, 1) := by decide +kernel
theorem dX6_freeCells_35 : decode cX6_freeCells 35 = .ok (.iload 5, 2) := by decide +kernel
theorem dX6_freeCells_37 : decode cX6_freeCells 37 = .ok (.invokevirtual 192, 3) := by decide +kernel
theorem dX6_freeCells_40 : decode cX6_freeCells 40 = .ok (.iconst (-1), 1) := by decide +kernel
theorem dX6_freeCells_41 : decode cX6_freeCells 41 = .ok (.if_icmp .ne 7, 3) := by decide +kernel
theorem dX6_freeCells_44 : decode cX6_freeCells 44 = .ok (.iconst 1, 1) := by decide +kernel
theorem dX6_freeCells_45 : decode cX6_freeCells 45 = .ok (.goto 4, 3) := by decide +kernel
theorem dX6_freeCells_48 : decode cX6_freeCells 48 = .ok (.iconst 0, 1) := by decide +kernel
theorem dX6_freeCells_49 : decode cX6_freeCells 49 = .ok (.istore 6, 2) := by decide +kernel
theorem dX6_freeCells_51 : decode cX6_freeCells 51 = .ok (.iload_n 2, 1) := by decide +kernel
theorem dX6_freeCells_52 : decode cX6_freeCells 52 = .ok (.iload 6, 2) := by decide +kernel
theorem dX6_freeCells_54 : decode cX6_freeCells 54 = .ok (.ifCond .eq 7, 3) := by decide +kernel
theorem dX6_freeCells_57 : decode cX6_freeCells 57 = .ok (.iconst 1, 1) := by decide +kernel
theorem dX6_freeCells_58 : decode cX6_freeCells 58 = .ok (.goto 4, 3) := by decide +kernel
theorem dX6_freeCells_61 : decode cX6_freeCells 61 = .ok (.iconst 0, 1) := by decide +kernel
theorem dX6_freeCells_62 : decode cX6_freeCells 62 = .ok (.iadd, 1) := by decide +kernel
theorem dX6_freeCells_63 : decode cX6_freeCells 63 = .ok (.istore_n 2, 1) := by decide +kernel
theorem dX6_freeCells_64 : decode cX6_freeCells 64 = .ok (.iload 6, 2) := by decide +kernel
theorem dX6_freeCells_66 : decode cX6_freeCells 66 = .ok (.ifCond .eq 9, 3) := by decide +kernel
theorem dX6_freeCells_69 : decode cX6_freeCells 69 = .ok (.iload_n 3, 1) := by decide +kernel
theorem dX6_freeCells_70 : decode cX6_freeCells 70 = .ok (.iconst 1, 1) := by decide +kernel
theorem dX6_freeCells_71 : decode cX6_freeCells 71 = .ok (.iadd, 1) := by decide +kernel
theorem dX6_freeCells_72 : decode cX6_freeCells 72 = .ok (.goto 4, 3) := by decide +kernel
theorem dX6_freeCells_75 : decode cX6_freeCells 75 = .ok (.iconst 0, 1) := by decide +kernel
theorem dX6_freeCells_76 : decode cX6_freeCells 76 = .ok (.istore_n 3, 1) := by decide +kernel
theorem dX6_freeCells_77 : decode cX6_freeCells 77 = .ok (.iload_n 3, 1) := by decide +kernel
theorem dX6_freeCells_78 : decode cX6_freeCells 78 = .ok (.iload 4, 2) := by decide +kernel
theorem dX6_freeCells_80 : decode cX6_freeCells 80 = .ok (.if_icmp .le 7, 3) := by decide +kernel
theorem dX6_freeCells_83 : decode cX6_freeCells 83 = .ok (.iload_n 3, 1) := by decide +kernel
theorem dX6_freeCells_84 : decode cX6_freeCells 84 = .ok (.goto 5, 3) := by decide +kernel
theorem dX6_freeCells_87 : decode cX6_freeCells 87 = .ok (.iload 4, 2) := by decide +kernel
theorem dX6_freeCells_89 : decode cX6_freeCells 89 = .ok (.istore 4, 2) := by decide +kernel
theorem dX6_freeCells_91 : decode cX6_freeCells 91 = .ok (.iinc 5 1, 3) := by decide +kernel
theorem dX6_freeCells_94 : decode cX6_freeCells 94 = .ok (.goto (-68), 3) := by decide +kernel
theorem dX6_freeCells_97 : decode cX6_freeCells 97 = .ok (.iload_n 1, 1) := by decide +kernel
theorem dX6_freeCells_98 : decode cX6_freeCells 98 = .ok (.ifCond .eq 8, 3) := by decide +kernel
theorem dX6_freeCells_101 : decode cX6_freeCells 101 = .ok (.iload 4, 2) := by decide +kernel
theorem dX6_freeCells_103 : decode cX6_freeCells 103 = .ok (.goto 4, 3) := by decide +kernel
theorem dX6_freeCells_106 : decode cX6_freeCells 106 = .ok (.iload_n 2, 1) := by decide +kernel
theorem dX6_freeCells_107 : decode cX6_freeCells 107 = .ok (.ireturn, 1) := by decide +kernel
theorem dX6_countThings_0 : decode cX6_countThings 0 = .ok (.aload_n 0, 1) := by decide +kernel
theorem dX6_countThings_1 : decode cX6_countThings 1 = .ok (.invokevirtual 183, 3) := by decide +kernel
theorem dX6_countThings_4 : decode cX6_countThings 4 = .ok (.iconst 0, 1) := by decide +kernel
theorem dX6_countThings_5 : decode cX6_countThings 5 = .ok (.istore_n 2, 1) := by decide +kernel
theorem dX6_countThings_6 : decode cX6_countThings 6 = .ok (.iconst 0, 1) := by decide +kernel
theorem dX6_countThings_7 : decode cX6_countThings 7 = .ok (.istore_n 3, 1) := by decide +kernel
theorem dX6_countThings_8 : decode cX6_countThings 8 = .ok (.iload_n 3, 1) := by decide +kernel
theorem dX6_countThings_9 : decode cX6_countThings 9 = .ok (.aload_n 0, 1) := by decide +kernel
theorem dX6_countThings_10 : decode cX6_countThings 10 = .ok (.getfield 59, 3) := by decide +kernel
theorem dX6_countThings_13 : decode cX6_countThings 13 = .ok (.if_icmp .ge 114, 3) := by decide +kernel
theorem dX6_countThings_16 : decode cX6_countThings 16 = .ok (.iload_n 1, 1) := by decide +kernel
theorem dX6_countThings_17 : decode cX6_countThings 17 = .ok (.iconst 1, 1) := by decide +kernel
theorem dX6_countThings_18 : decode cX6_countThings 18 = .ok (.if_icmp .ne 20, 3) := by decide +kernel
theorem dX6_countThings_21 : decode cX6_countThings 21 = .ok (.aload_n 0, 1) := by decide +kernel
theorem dX6_countThings_22 : decode cX6_countThings 22 = .ok (.getfield 22, 3) := by decide +kernel
theorem dX6_countThings_25 : decode cX6_countThings 25 = .ok (.iload_n 3, 1) := by decide +kernel
theorem dX6_countThings_26 : decode cX6_countThings 26 = .ok (.baload, 1) := by decide +kernel
theorem dX6_countThings_27 : decode cX6_countThings 27 = .ok (.ifCond .ne 7, 3) := by decide +kernel
theorem dX6_countThings_30 : decode cX6_countThings 30 = .ok (.iconst 1, 1) := by decide +kernel
theorem dX6_countThings_31 : decode cX6_countThings 31 = .ok (.goto 75, 3) := by decide +kernel
theorem dX6_countThings_34 : decode cX6_countThings 34 = .ok (.iconst 0, 1) := by decide +kernel
theorem dX6_countThings_35 : decode cX6_countThings 35 = .ok (.goto 71, 3) := by decide +kernel
theorem dX6_countThings_38 : decode cX6_countThings 38 = .ok (.iload_n 1, 1) := by decide +kernel
theorem dX6_countThings_39 : decode cX6_countThings 39 = .ok (.iconst 2, 1) := by decide +kernel
theorem dX6_countThings_40 : decode cX6_countThings 40 = .ok (.if_icmp .ne 12, 3) := by decide +kernel
theorem dX6_countThings_43 : decode cX6_countThings 43 = .ok (.aload_n 0, 1) := by decide +kernel
theorem dX6_countThings_44 : decode cX6_countThings 44 = .ok (.getfield 53, 3) := by decide +kernel
theorem dX6_countThings_47 : decode cX6_countThings 47 = .ok (.iload_n 3, 1) := by decide +kernel
theorem dX6_countThings_48 : decode cX6_countThings 48 = .ok (.baload, 1) := by decide +kernel
theorem dX6_countThings_49 : decode cX6_countThings 49 = .ok (.goto 57, 3) := by decide +kernel
theorem dX6_countThings_52 : decode cX6_countThings 52 = .ok (.iload_n 1, 1) := by decide +kernel
theorem dX6_countThings_53 : decode cX6_countThings 53 = .ok (.iconst 3, 1) := by decide +kernel
theorem dX6_countThings_54 : decode cX6_countThings 54 = .ok (.if_icmp .ne 29, 3) := by decide +kernel
theorem dX6_countThings_57 : decode cX6_countThings 57 = .ok (.aload_n 0, 1) := by decide +kernel
theorem dX6_countThings_58 : decode cX6_countThings 58 = .ok (.getfield 53, 3) := by decide +kernel
theorem dX6_countThings_61 : decode cX6_countThings 61 = .ok (.iload_n 3, 1) := by decide +kernel
theorem dX6_countThings_62 : decode cX6_countThings 62 = .ok (.baload, 1) := by decide +kernel
theorem dX6_countThings_63 : decode cX6_countThings 63 = .ok (.ifCond .eq 16, 3) := by decide +kernel
theorem dX6_countThings_66 : decode cX6_countThings 66 = .ok (.aload_n 0, 1) := by decide +kernel
theorem dX6_countThings_67 : decode cX6_countThings 67 = .ok (.getfield 22, 3) := by decide +kernel
theorem dX6_countThings_70 : decode cX6_countThings 70 = .ok (.iload_n 3, 1) := by decide +kernel
theorem dX6_countThings_71 : decode cX6_countThings 71 = .ok (.baload, 1) := by decide +kernel
theorem dX6_countThings_72 : decode cX6_countThings 72 = .ok (.ifCond .eq 7, 3) := by decide +kernel
theorem dX6_countThings_75 : decode cX6_countThings 75 = .ok (.iconst 1, 1) := by decide +kernel
theorem dX6_countThings_76 : decode cX6_countThings 76 = .ok (.goto 30, 3) := by decide +kernel
theorem dX6_countThings_79 : decode cX6_countThings 79 = .ok (.iconst 0, 1) := by decide +kernel
theorem dX6_countThings_80 : decode cX6_countThings 80 = .ok (.goto 26, 3) := by decide +kernel
theorem dX6_countThings_83 : decode cX6_countThings 83 = .ok (.aload_n 0, 1) := by decide +kernel
theorem dX6_countThings_84 : decode cX6_countThings 84 = .ok (.getfield 53, 3) := by decide +kernel
theorem dX6_countThings_87 : decode cX6_countThings 87 = .ok (.iload_n 3, 1) := by decide +kernel
theorem dX6_countThings_88 : decode cX6_countThings 88 = .ok (.baload, 1) := by decide +kernel
theorem dX6_countThings_89 : decode cX6_countThings 89 = .ok (.ifCond .ne 16, 3) := by decide +kernel
theorem dX6_countThings_92 : decode cX6_countThings 92 = .ok (.aload_n 0, 1) := by decide +kernel
theorem dX6_countThings_93 : decode cX6_countThings 93 = .ok (.getfield 22, 3) := by decide +kernel
theorem dX6_countThings_96 : decode cX6_countThings 96 = .ok (.iload_n 3, 1) := by decide +kernel
theorem dX6_countThings_97 : decode cX6_countThings 97 = .ok (.baload, 1) := by decide +kernel
theorem dX6_countThings_98 : decode cX6_countThings 98 = .ok (.ifCond .ne 7, 3) := by decide +kernel
theorem dX6_countThings_101 : decode cX6_countThings 101 = .ok (.iconst 1, 1) := by decide +kernel
theorem dX6_countThings_102 : decode cX6_countThings 102 = .ok (.goto 4, 3) := by decide +kernel
theorem dX6_countThings_105 : decode cX6_countThings 105 = .ok (.iconst 0, 1) := by decide +kernel
theorem dX6_countThings_106 : decode cX6_countThings 106 = .ok (.istore 4, 2) := by decide +kernel
theorem dX6_countThings_108 : decode cX6_countThings 108 = .ok (.iload_n 2, 1) := by decide +kernel
theorem dX6_countThings_109 : decode cX6_countThings 109 = .ok (.iload 4, 2) := by decide +kernel
theorem dX6_countThings_111 : decode cX6_countThings 111 = .ok (.ifCond .eq 7, 3) := by decide +kernel
theorem dX6_countThings_114 : decode cX6_countThings 114 = .ok (.iconst 1, 1) := by decide +kernel
theorem dX6_countThings_115 : decode cX6_countThings 115 = .ok (.goto 4, 3) := by decide +kernel
theorem dX6_countThings_118 : decode cX6_countThings 118 = .ok (.iconst 0, 1) := by decide +kernel
theorem dX6_countThings_119 : decode cX6_countThings 119 = .ok (.iadd, 1) := by decide +kernel
theorem dX6_countThings_120 : decode cX6_countThings 120 = .ok (.istore_n 2, 1) := by decide +kernel
theorem dX6_countThings_121 : decode cX6_countThings 121 = .ok (.iinc 3 1, 3) := by decide +kernel
theorem dX6_countThings_124 : decode cX6_countThings 124 = .ok (.goto (-116), 3) := by decide +kernel
theorem dX6_countThings_127 : decode cX6_countThings 127 = .ok (.iload_n 2, 1) := by decide +kernel
theorem dX6_countThings_128 : decode cX6_countThings 128 = .ok (.ireturn, 1) := by decide +kernel
theorem dX6_count_0 : decode cX6_count 0 = .ok (.iconst 0, 1) := by decide +kernel
theorem dX6_count_1 : decode cX6_count 1 = .ok (.istore_n 2, 1) := by decide +kernel
theorem dX6_count_2 : decode cX6_count 2 = .ok (.iload_n 1, 1) := by decide +kernel
theorem dX6_count_3 : decode cX6_count 3 = .ok (.tableswitch 152 0 12 #[65, 70, 70, 70, 70, 76, 76, 92, 97, 102, 107, 112, 117], 65) := by decide +kernel
theorem dX6_count_68 : decode cX6_count 68 = .ok (.aload_n 0, 1) := by decide +kernel
theorem dX6_count_69 : decode cX6_count 69 = .ok (.getfield 59, 3) := by decide +kernel
theorem dX6_count_72 : decode cX6_count 72 = .ok (.ireturn, 1) := by decide +kernel
theorem dX6_count_73 : decode cX6_count 73 = .ok (.aload_n 0, 1) := by decide +kernel
theorem dX6_count_74 : decode cX6_count 74 = .ok (.iload_n 1, 1) := by decide +kernel
theorem dX6_count_75 : decode cX6_count 75 = .ok (.invokevirtual 195, 3) := by decide +kernel
theorem dX6_count_78 : decode cX6_count 78 = .ok (.ireturn, 1) := by decide +kernel
theorem dX6_count_79 : decode cX6_count 79 = .ok (.aload_n 0, 1) := by decide +kernel
theorem dX6_count_80 : decode cX6_count 80 = .ok (.iload_n 1, 1) := by decide +kernel
theorem dX6_count_81 : decode cX6_count 81 = .ok (.bipush 6, 2) := by decide +kernel
theorem dX6_count_83 : decode cX6_count 83 = .ok (.if_icmp .ne 7, 3) := by decide +kernel
theorem dX6_count_86 : decode cX6_count 86 = .ok (.iconst 1, 1) := by decide +kernel
theorem dX6_count_87 : decode cX6_count 87 = .ok (.goto 4, 3) := by decide +kernel
theorem dX6_count_90 : decode cX6_count 90 = .ok (.iconst 0, 1) := by decide +kernel
theorem dX6_count_91 : decode cX6_count 91 = .ok (.invokevirtual 198, 3) := by decide +kernel
theorem dX6_count_94 : decode cX6_count 94 = .ok (.ireturn, 1) := by decide +kernel
theorem dX6_count_95 : decode cX6_count 95 = .ok (.aload_n 0, 1) := by decide +kernel
theorem dX6_count_96 : decode cX6_count 96 = .ok (.getfield 78, 3) := by decide +kernel
theorem dX6_count_99 : decode cX6_count 99 = .ok (.ireturn, 1) := by decide +kernel
theorem dX6_count_100 : decode cX6_count 100 = .ok (.aload_n 0, 1) := by decide +kernel
theorem dX6_count_101 : decode cX6_count 101 = .ok (.getfield 81, 3) := by decide +kernel
theorem dX6_count_104 : decode cX6_count 104 = .ok (.ireturn, 1) := by decide +kernel
theorem dX6_count_105 : decode cX6_count 105 = .ok (.aload_n 0, 1) := by decide +kernel
theorem dX6_count_106 : decode cX6_count 106 = .ok (.getfield 84, 3) := by decide +kernel
theorem dX6_count_109 : decode cX6_count 109 = .ok (.ireturn, 1) := by decide +kernel
theorem dX6_count_110 : decode cX6_count 110 = .ok (.aload_n 0, 1) := by decide +kernel
theorem dX6_count_111 : decode cX6_count 111 = .ok (.getfield 87, 3) := by decide +kernel
theorem dX6_count_114 : decode cX6_count 114 = .ok (.ireturn, 1) := by decide +kernel
theorem dX6_count_115 : decode cX6_count 115 = .ok (.aload_n 0, 1) := by decide +kernel
theorem dX6_count_116 : decode cX6_count 116 = .ok (.getfield 63, 3) := by decide +kernel
theorem dX6_count_119 : decode cX6_count 119 = .ok (.ireturn, 1) := by decide +kernel
theorem dX6_count_120 : decode cX6_count 120 = .ok (.iconst 0, 1) := by decide +kernel
theorem dX6_count_121 : decode cX6_count 121 = .ok (.istore_n 3, 1) := by decide +kernel
theorem dX6_count_122 : decode cX6_count 122 = .ok (.iload_n 3, 1) := by decide +kernel
theorem dX6_count_123 : decode cX6_count 123 = .ok (.aload_n 0, 1) := by decide +kernel
theorem dX6_count_124 : decode cX6_count 124 = .ok (.getfield 66, 3) := by decide +kernel
theorem dX6_count_127 : decode cX6_count 127 = .ok (.if_icmp .ge 26, 3) := by decide +kernel
theorem dX6_count_130 : decode cX6_count 130 = .ok (.iload_n 2, 1) := by decide +kernel
theorem dX6_count_131 : decode cX6_count 131 = .ok (.aload_n 0, 1) := by decide +kernel
theorem dX6_count_132 : decode cX6_count 132 = .ok (.getfield 50, 3) := by decide +kernel
theorem dX6_count_135 : decode cX6_count 135 = .ok (.iload_n 3, 1) := by decide +kernel
theorem dX6_count_136 : decode cX6_count 136 = .ok (.baload, 1) := by decide +kernel
theorem dX6_count_137 : decode cX6_count 137 = .ok (.ifCond .eq 7, 3) := by decide +kernel
theorem dX6_count_140 : decode cX6_count 140 = .ok (.iconst 1, 1) := by decide +kernel
theorem dX6_count_141 : decode cX6_count 141 = .ok (.goto 4, 3) := by decide +kernel
theorem dX6_count_144 : decode cX6_count 144 = .ok (.iconst 0, 1) := by decide +kernel
theorem dX6_count_145 : decode cX6_count 145 = .ok (.iadd, 1) := by decide +kernel
theorem dX6_count_146 : decode cX6_count 146 = .ok (.istore_n 2, 1) := by decide +kernel
theorem dX6_count_147 : decode cX6_count 147 = .ok (.iinc 3 1, 3) := by decide +kernel
theorem dX6_count_150 : decode cX6_count 150 = .ok (.goto (-28), 3) := by decide +kernel
theorem dX6_count_153 : decode cX6_count 153 = .ok (.iload_n 2, 1) := by decide +kernel
theorem dX6_count_154 : decode cX6_count 154 = .ok (.ireturn, 1) := by decide +kernel
theorem dX6_count_155 : decode cX6_count 155 = .ok (.bipush (-2), 2) := by decide +kernel
theorem dX6_count_157 : decode cX6_count 157 = .ok (.ireturn, 1) := by decide +kernel
theorem dX6_lost_0 : decode cX6_lost 0 = .ok (.aload_n 0, 1) := by decide +kernel
theorem dX6_lost_1 : decode cX6_lost 1 = .ok (.invokevirtual 183, 3) := by decide +kernel
theorem dX6_lost_4 : decode cX6_lost 4 = .ok (.iconst 0, 1) := by decide +kernel
theorem dX6_lost_5 : decode cX6_lost 5 = .ok (.istore_n 1, 1) := by decide +kernel
theorem dX6_lost_6 : decode cX6_lost 6 = .ok (.iload_n 1, 1) := by decide +kernel
theorem dX6_lost_7 : decode cX6_lost 7 = .ok (.aload_n 0, 1) := by decide +kernel
theorem dX6_lost_8 : decode cX6_lost 8 = .ok (.getfield 59, 3) := by decide +kernel
theorem dX6_lost_11 : decode cX6_lost 11 = .ok (.if_icmp .ge 29, 3) := by decide +kernel
theorem dX6_lost_14 : decode cX6_lost 14 = .ok (.aload_n 0, 1) := by decide +kernel
theorem dX6_lost_15 : decode cX6_lost 15 = .ok (.getfield 53, 3) := by decide +kernel
theorem dX6_lost_18 : decode cX6_lost 18 = .ok (.iload_n 1, 1) := by decide +kernel
theorem dX6_lost_19 : decode cX6_lost 19 = .ok (.baload, 1) := by decide +kernel
theorem dX6_lost_20 : decode cX6_lost 20 = .ok (.ifCond .eq 14, 3) := by decide +kernel
theorem dX6_lost_23 : decode cX6_lost 23 = .ok (.aload_n 0, 1) := by decide +kernel
theorem dX6_lost_24 : decode cX6_lost 24 = .ok (.getfield 22, 3) := by decide +kernel
theorem dX6_lost_27 : decode cX6_lost 27 = .ok (.iload_n 1, 1) := by decide +kernel
theorem dX6_lost_28 : decode cX6_lost 28 = .ok (.baload, 1) := by decide +kernel
theorem dX6_lost_29 : decode cX6_lost 29 = .ok (.ifCond .eq 5, 3) := by decide +kernel
theorem dX6_lost_32 : decode cX6_lost 32 = .ok (.iload_n 1, 1) := by decide +kernel
theorem dX6_lost_33 : decode cX6_lost 33 = .ok (.ireturn, 1) := by decide +kernel
theorem dX6_lost_34 : decode cX6_lost 34 = .ok (.iinc 1 1, 3) := by decide +kernel
theorem dX6_lost_37 : decode cX6_lost 37 = .ok (.goto (-31), 3) := by decide +kernel
theorem dX6_lost_40 : decode cX6_lost 40 = .ok (.iconst (-1), 1) := by decide +kernel
theorem dX6_lost_41 : decode cX6_lost 41 = .ok (.ireturn, 1) := by decide +kernel
theorem dX6_digest_0 : decode cX6_digest 0 = .ok (.ldc2_w 202, 3) := by decide +kernel
theorem dX6_digest_3 : decode cX6_digest 3 = .ok (.lstore_n 1, 1) := by decide +kernel
theorem dX6_digest_4 : decode cX6_digest 4 = .ok (.iconst 0, 1) := by decide +kernel
theorem dX6_digest_5 : decode cX6_digest 5 = .ok (.istore_n 3, 1) := by decide +kernel
theorem dX6_digest_6 : decode cX6_digest 6 = .ok (.iload_n 3, 1) := by decide +kernel
theorem dX6_digest_7 : decode cX6_digest 7 = .ok (.aload_n 0, 1) := by decide +kernel
theorem dX6_digest_8 : decode cX6_digest 8 = .ok (.getfield 59, 3) := by decide +kernel
theorem dX6_digest_11 : decode cX6_digest 11 = .ok (.if_icmp .ge 95, 3) := by decide +kernel
theorem dX6_digest_14 : decode cX6_digest 14 = .ok (.ldc2_w 204, 3) := by decide +kernel
theorem dX6_digest_17 : decode cX6_digest 17 = .ok (.ldc2_w 204, 3) := by decide +kernel
theorem dX6_digest_20 : decode cX6_digest 20 = .ok (.ldc2_w 204, 3) := by decide +kernel
theorem dX6_digest_23 : decode cX6_digest 23 = .ok (.lload_n 1, 1) := by decide +kernel
theorem dX6_digest_24 : decode cX6_digest 24 = .ok (.lmul, 1) := by decide +kernel
theorem dX6_digest_25 : decode cX6_digest 25 = .ok (.aload_n 0, 1) := by decide +kernel
theorem dX6_digest_26 : decode cX6_digest 26 = .ok (.getfield 16, 3) := by decide +kernel
theorem dX6_digest_29 : decode cX6_digest 29 = .ok (.iload_n 3, 1) := by decide +kernel
theorem dX6_digest_30 : decode cX6_digest 30 = .ok (.iaload, 1) := by decide +kernel
theorem dX6_digest_31 : decode cX6_digest 31 = .ok (.i2l, 1) := by decide +kernel
theorem dX6_digest_32 : decode cX6_digest 32 = .ok (.ladd, 1) := by decide +kernel
theorem dX6_digest_33 : decode cX6_digest 33 = .ok (.lmul, 1) := by decide +kernel
theorem dX6_digest_34 : decode cX6_digest 34 = .ok (.aload_n 0, 1) := by decide +kernel
theorem dX6_digest_35 : decode cX6_digest 35 = .ok (.getfield 19, 3) := by decide +kernel
theorem dX6_digest_38 : decode cX6_digest 38 = .ok (.iload_n 3, 1) := by decide +kernel
theorem dX6_digest_39 : decode cX6_digest 39 = .ok (.iaload, 1) := by decide +kernel
theorem dX6_digest_40 : decode cX6_digest 40 = .ok (.i2l, 1) := by decide +kernel
theorem dX6_digest_41 : decode cX6_digest 41 = .ok (.ladd, 1) := by decide +kernel
theorem dX6_digest_42 : decode cX6_digest 42 = .ok (.lmul, 1) := by decide +kernel
theorem dX6_digest_43 : decode cX6_digest 43 = .ok (.aload_n 0, 1) := by decide +kernel
theorem dX6_digest_44 : decode cX6_digest 44 = .ok (.getfield 22, 3) := by decide +kernel
theorem dX6_digest_47 : decode cX6_digest 47 = .ok (.iload_n 3, 1) := by decide +kernel
theorem dX6_digest_48 : decode cX6_digest 48 = .ok (.baload, 1) := by decide +kernel
theorem dX6_digest_49 : decode cX6_digest 49 = .ok (.ifCond .eq 7, 3) := by decide +kernel
theorem dX6_digest_52 : decode cX6_digest 52 = .ok (.iconst 1, 1) := by decide +kernel
theorem dX6_digest_53 : decode cX6_digest 53 = .ok (.goto 4, 3) := by decide +kernel
theorem dX6_digest_56 : decode cX6_digest 56 = .ok (.iconst 0, 1) := by decide +kernel
theorem dX6_digest_57 : decode cX6_digest 57 = .ok (.i2l, 1) := by decide +kernel
theorem dX6_digest_58 : decode cX6_digest 58 = .ok (.ladd, 1) := by decide +kernel
theorem dX6_digest_59 : decode cX6_digest 59 = .ok (.lstore_n 1, 1) := by decide +kernel
theorem dX6_digest_60 : decode cX6_digest 60 = .ok (.iconst 0, 1) := by decide +kernel
theorem dX6_digest_61 : decode cX6_digest 61 = .ok (.istore 4, 2) := by decide +kernel
theorem dX6_digest_63 : decode cX6_digest 63 = .ok (.iload 4, 2) := by decide +kernel
theorem dX6_digest_65 : decode cX6_digest 65 = .ok (.aload_n 0, 1) := by decide +kernel
theorem dX6_digest_66 : decode cX6_digest 66 = .ok (.getfield 7, 3) := by decide +kernel
theorem dX6_digest_69 : decode cX6_digest 69 = .ok (.iload_n 3, 1) := by decide +kernel
theorem dX6_digest_70 : decode cX6_digest 70 = .ok (.iaload, 1) := by decide +kernel
theorem dX6_digest_71 : decode cX6_digest 71 = .ok (.if_icmp .ge 29, 3) := by decide +kernel
theorem dX6_digest_74 : decode cX6_digest 74 = .ok (.ldc2_w 204, 3) := by decide +kernel
theorem dX6_digest_77 : decode cX6_digest 77 = .ok (.lload_n 1, 1) := by decide +kernel
theorem dX6_digest_78 : decode cX6_digest 78 = .ok (.lmul, 1) := by decide +kernel
theorem dX6_digest_79 : decode cX6_digest 79 = .ok (.aload_n 0, 1) := by decide +kernel
theorem dX6_digest_80 : decode cX6_digest 80 = .ok (.getfield 13, 3) := by decide +kernel
theorem dX6_digest_83 : decode cX6_digest 83 = .ok (.bipush 6, 2) := by decide +kernel
theorem dX6_digest_85 : decode cX6_digest 85 = .ok (.iload_n 3, 1) := by decide +kernel
theorem dX6_digest_86 : decode cX6_digest 86 = .ok (.imul, 1) := by decide +kernel
theorem dX6_digest_87 : decode cX6_digest 87 = .ok (.iload 4, 2) := by decide +kernel
theorem dX6_digest_89 : decode cX6_digest 89 = .ok (.iadd, 1) := by decide +kernel
theorem dX6_digest_90 : decode cX6_digest 90 = .ok (.iaload, 1) := by decide +kernel
theorem dX6_digest_91 : decode cX6_digest 91 = .ok (.i2l, 1) := by decide +kernel
theorem dX6_digest_92 : decode cX6_digest 92 = .ok (.ladd, 1) := by decide +kernel
theorem dX6_digest_93 : decode cX6_digest 93 = .ok (.lstore_n 1, 1) := by decide +kernel
theorem dX6_digest_94 : decode cX6_digest 94 = .ok (.iinc 4 1, 3) := by decide +kernel
theorem dX6_digest_97 : decode cX6_digest 97 = .ok (.goto (-34), 3) := by decide +kernel
theorem dX6_digest_100 : decode cX6_digest 100 = .ok (.iinc 3 1, 3) := by decide +kernel
theorem dX6_digest_103 : decode cX6_digest 103 = .ok (.goto (-97), 3) := by decide +kernel
theorem dX6_digest_106 : decode cX6_digest 106 = .ok (.iconst 0, 1) := by decide +kernel
theorem dX6_digest_107 : decode cX6_digest 107 = .ok (.istore_n 3, 1) := by decide +kernel
theorem dX6_digest_108 : decode cX6_digest 108 = .ok (.iload_n 3, 1) := by decide +kernel
theorem dX6_digest_109 : decode cX6_digest 109 = .ok (.bipush 30, 2) := by decide +kernel
theorem dX6_digest_111 : decode cX6_digest 111 = .ok (.if_icmp .ge 22, 3) := by decide +kernel
theorem dX6_digest_114 : decode cX6_digest 114 = .ok (.ldc2_w 204, 3) := by decide +kernel
theorem dX6_digest_117 : decode cX6_digest 117 = .ok (.lload_n 1, 1) := by decide +kernel
theorem dX6_digest_118 : decode cX6_digest 118 = .ok (.lmul, 1) := by decide +kernel
theorem dX6_digest_119 : decode cX6_digest 119 = .ok (.aload_n 0, 1) := by decide +kernel
theorem dX6_digest_120 : decode cX6_digest 120 = .ok (.iload_n 3, 1) := by decide +kernel
theorem dX6_digest_121 : decode cX6_digest 121 = .ok (.invokevirtual 206, 3) := by decide +kernel
theorem dX6_digest_124 : decode cX6_digest 124 = .ok (.i2l, 1) := by decide +kernel
theorem dX6_digest_125 : decode cX6_digest 125 = .ok (.ladd, 1) := by decide +kernel
theorem dX6_digest_126 : decode cX6_digest 126 = .ok (.lstore_n 1, 1) := by decide +kernel
theorem dX6_digest_127 : decode cX6_digest 127 = .ok (.iinc 3 1, 3) := by decide +kernel
theorem dX6_digest_130 : decode cX6_digest 130 = .ok (.goto (-22), 3) := by decide +kernel
theorem dX6_digest_133 : decode cX6_digest 133 = .ok (.ldc2_w 204, 3) := by decide +kernel
theorem dX6_digest_136 : decode cX6_digest 136 = .ok (.lload_n 1, 1) := by decide +kernel
theorem dX6_digest_137 : decode cX6_digest 137 = .ok (.lmul, 1) := by decide +kernel
theorem dX6_digest_138 : decode cX6_digest 138 = .ok (.aload_n 0, 1) := by decide +kernel
theorem dX6_digest_139 : decode cX6_digest 139 = .ok (.getfield 75, 3) := by decide +kernel
theorem dX6_digest_142 : decode cX6_digest 142 = .ok (.i2l, 1) := by decide +kernel
theorem dX6_digest_143 : decode cX6_digest 143 = .ok (.ladd, 1) := by decide +kernel
theorem dX6_digest_144 : decode cX6_digest 144 = .ok (.lreturn, 1) := by decide +kernel
