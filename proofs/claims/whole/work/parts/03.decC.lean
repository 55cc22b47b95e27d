theorem dX0_init_0 : decode cX0_init 0 = .ok (.aload_n 0, 1) := by decide +kernel
theorem dX0_init_1 : decode cX0_init 1 = .ok (.invokespecial 3, 3) := by decide +kernel
theorem dX0_init_4 : decode cX0_init 4 = .ok (.aload_n 0, 1) := by decide +kernel
theorem dX0_init_5 : decode cX0_init 5 = .ok (.sipush 200, 3) := by decide +kernel
theorem dX0_init_8 : decode cX0_init 8 = .ok (.newarray .int, 2) := by decide +kernel
theorem dX0_init_10 : decode cX0_init 10 = .ok (.putfield 9, 3) := by decide +kernel
theorem dX0_init_13 : decode cX0_init 13 = .ok (.return_, 1) := by decide +kernel
theorem dX0_empty_0 : decode cX0_empty 0 = .ok (.iconst 0, 1) := by decide +kernel
theorem dX0_empty_1 : decode cX0_empty 1 = .ok (.istore_n 1, 1) := by decide +kernel
theorem dX0_empty_2 : decode cX0_empty 2 = .ok (.iload_n 1, 1) := by decide +kernel
theorem dX0_empty_3 : decode cX0_empty 3 = .ok (.sipush 200, 3) := by decide +kernel
theorem dX0_empty_6 : decode cX0_empty 6 = .ok (.if_icmp .ge 16, 3) := by decide +kernel
theorem dX0_empty_9 : decode cX0_empty 9 = .ok (.aload_n 0, 1) := by decide +kernel
theorem dX0_empty_10 : decode cX0_empty 10 = .ok (.getfield 9, 3) := by decide +kernel
theorem dX0_empty_13 : decode cX0_empty 13 = .ok (.iload_n 1, 1) := by decide +kernel
theorem dX0_empty_14 : decode cX0_empty 14 = .ok (.iconst (-1), 1) := by decide +kernel
theorem dX0_empty_15 : decode cX0_empty 15 = .ok (.iastore, 1) := by decide +kernel
theorem dX0_empty_16 : decode cX0_empty 16 = .ok (.iinc 1 1, 3) := by decide +kernel
theorem dX0_empty_19 : decode cX0_empty 19 = .ok (.goto (-17), 3) := by decide +kernel
theorem dX0_empty_22 : decode cX0_empty 22 = .ok (.aload_n 0, 1) := by decide +kernel
theorem dX0_empty_23 : decode cX0_empty 23 = .ok (.iconst 0, 1) := by decide +kernel
theorem dX0_empty_24 : decode cX0_empty 24 = .ok (.putfield 15, 3) := by decide +kernel
theorem dX0_empty_27 : decode cX0_empty 27 = .ok (.aload_n 0, 1) := by decide +kernel
theorem dX0_empty_28 : decode cX0_empty 28 = .ok (.bipush 100, 2) := by decide +kernel
theorem dX0_empty_30 : decode cX0_empty 30 = .ok (.putfield 19, 3) := by decide +kernel
theorem dX0_empty_33 : decode cX0_empty 33 = .ok (.return_, 1) := by decide +kernel
theorem dX0_changeHalves_0 : decode cX0_changeHalves 0 = .ok (.aload_n 0, 1) := by decide +kernel
theorem dX0_changeHalves_1 : decode cX0_changeHalves 1 = .ok (.aload_n 0, 1) := by decide +kernel
theorem dX0_changeHalves_2 : decode cX0_changeHalves 2 = .ok (.getfield 19, 3) := by decide +kernel
theorem dX0_changeHalves_5 : decode cX0_changeHalves 5 = .ok (.bipush 100, 2) := by decide +kernel
theorem dX0_changeHalves_7 : decode cX0_changeHalves 7 = .ok (.if_icmp .ne 8, 3) := by decide +kernel
theorem dX0_changeHalves_10 : decode cX0_changeHalves 10 = .ok (.bipush 100, 2) := by decide +kernel
theorem dX0_changeHalves_12 : decode cX0_changeHalves 12 = .ok (.goto 4, 3) := by decide +kernel
theorem dX0_changeHalves_15 : decode cX0_changeHalves 15 = .ok (.iconst 0, 1) := by decide +kernel
theorem dX0_changeHalves_16 : decode cX0_changeHalves 16 = .ok (.putfield 15, 3) := by decide +kernel
theorem dX0_changeHalves_19 : decode cX0_changeHalves 19 = .ok (.aload_n 0, 1) := by decide +kernel
theorem dX0_changeHalves_20 : decode cX0_changeHalves 20 = .ok (.aload_n 0, 1) := by decide +kernel
theorem dX0_changeHalves_21 : decode cX0_changeHalves 21 = .ok (.getfield 15, 3) := by decide +kernel
theorem dX0_changeHalves_24 : decode cX0_changeHalves 24 = .ok (.bipush 100, 2) := by decide +kernel
theorem dX0_changeHalves_26 : decode cX0_changeHalves 26 = .ok (.iadd, 1) := by decide +kernel
theorem dX0_changeHalves_27 : decode cX0_changeHalves 27 = .ok (.putfield 19, 3) := by decide +kernel
theorem dX0_changeHalves_30 : decode cX0_changeHalves 30 = .ok (.return_, 1) := by decide +kernel
theorem dX0_leftBehind_0 : decode cX0_leftBehind 0 = .ok (.aload_n 0, 1) := by decide +kernel
theorem dX0_leftBehind_1 : decode cX0_leftBehind 1 = .ok (.getfield 19, 3) := by decide +kernel
theorem dX0_leftBehind_4 : decode cX0_leftBehind 4 = .ok (.aload_n 0, 1) := by decide +kernel
theorem dX0_leftBehind_5 : decode cX0_leftBehind 5 = .ok (.getfield 15, 3) := by decide +kernel
theorem dX0_leftBehind_8 : decode cX0_leftBehind 8 = .ok (.isub, 1) := by decide +kernel
theorem dX0_leftBehind_9 : decode cX0_leftBehind 9 = .ok (.ireturn, 1) := by decide +kernel
theorem dX0_thingAt_0 : decode cX0_thingAt 0 = .ok (.iload_n 1, 1) := by decide +kernel
theorem dX0_thingAt_1 : decode cX0_thingAt 1 = .ok (.ifCond .lt 19, 3) := by decide +kernel
theorem dX0_thingAt_4 : decode cX0_thingAt 4 = .ok (.iload_n 1, 1) := by decide +kernel
theorem dX0_thingAt_5 : decode cX0_thingAt 5 = .ok (.sipush 200, 3) := by decide +kernel
theorem dX0_thingAt_8 : decode cX0_thingAt 8 = .ok (.if_icmp .ge 12, 3) := by decide +kernel
theorem dX0_thingAt_11 : decode cX0_thingAt 11 = .ok (.aload_n 0, 1) := by decide +kernel
theorem dX0_thingAt_12 : decode cX0_thingAt 12 = .ok (.getfield 9, 3) := by decide +kernel
theorem dX0_thingAt_15 : decode cX0_thingAt 15 = .ok (.iload_n 1, 1) := by decide +kernel
theorem dX0_thingAt_16 : decode cX0_thingAt 16 = .ok (.iaload, 1) := by decide +kernel
theorem dX0_thingAt_17 : decode cX0_thingAt 17 = .ok (.goto 4, 3) := by decide +kernel
theorem dX0_thingAt_20 : decode cX0_thingAt 20 = .ok (.iconst (-1), 1) := by decide +kernel
theorem dX0_thingAt_21 : decode cX0_thingAt 21 = .ok (.ireturn, 1) := by decide +kernel
theorem dX0_assign_0 : decode cX0_assign 0 = .ok (.iload_n 1, 1) := by decide +kernel
theorem dX0_assign_1 : decode cX0_assign 1 = .ok (.istore 4, 2) := by decide +kernel
theorem dX0_assign_3 : decode cX0_assign 3 = .ok (.iload 4, 2) := by decide +kernel
theorem dX0_assign_5 : decode cX0_assign 5 = .ok (.iload_n 1, 1) := by decide +kernel
theorem dX0_assign_6 : decode cX0_assign 6 = .ok (.iload_n 2, 1) := by decide +kernel
theorem dX0_assign_7 : decode cX0_assign 7 = .ok (.iadd, 1) := by decide +kernel
theorem dX0_assign_8 : decode cX0_assign 8 = .ok (.if_icmp .ge 30, 3) := by decide +kernel
theorem dX0_assign_11 : decode cX0_assign 11 = .ok (.iload 4, 2) := by decide +kernel
theorem dX0_assign_13 : decode cX0_assign 13 = .ok (.ifCond .lt 19, 3) := by decide +kernel
theorem dX0_assign_16 : decode cX0_assign 16 = .ok (.iload 4, 2) := by decide +kernel
theorem dX0_assign_18 : decode cX0_assign 18 = .ok (.sipush 200, 3) := by decide +kernel
theorem dX0_assign_21 : decode cX0_assign 21 = .ok (.if_icmp .ge 11, 3) := by decide +kernel
theorem dX0_assign_24 : decode cX0_assign 24 = .ok (.aload_n 0, 1) := by decide +kernel
theorem dX0_assign_25 : decode cX0_assign 25 = .ok (.getfield 9, 3) := by decide +kernel
theorem dX0_assign_28 : decode cX0_assign 28 = .ok (.iload 4, 2) := by decide +kernel
theorem dX0_assign_30 : decode cX0_assign 30 = .ok (.iload_n 3, 1) := by decide +kernel
theorem dX0_assign_31 : decode cX0_assign 31 = .ok (.iastore, 1) := by decide +kernel
theorem dX0_assign_32 : decode cX0_assign 32 = .ok (.iinc 4 1, 3) := by decide +kernel
theorem dX0_assign_35 : decode cX0_assign 35 = .ok (.goto (-32), 3) := by decide +kernel
theorem dX0_assign_38 : decode cX0_assign 38 = .ok (.return_, 1) := by decide +kernel
theorem dX0_takeBehind_0 : decode cX0_takeBehind 0 = .ok (.aload_n 0, 1) := by decide +kernel
theorem dX0_takeBehind_1 : decode cX0_takeBehind 1 = .ok (.aload_n 0, 1) := by decide +kernel
theorem dX0_takeBehind_2 : decode cX0_takeBehind 2 = .ok (.getfield 15, 3) := by decide +kernel
theorem dX0_takeBehind_5 : decode cX0_takeBehind 5 = .ok (.iload_n 1, 1) := by decide +kernel
theorem dX0_takeBehind_6 : decode cX0_takeBehind 6 = .ok (.iload_n 2, 1) := by decide +kernel
theorem dX0_takeBehind_7 : decode cX0_takeBehind 7 = .ok (.invokevirtual 22, 3) := by decide +kernel
theorem dX0_takeBehind_10 : decode cX0_takeBehind 10 = .ok (.aload_n 0, 1) := by decide +kernel
theorem dX0_takeBehind_11 : decode cX0_takeBehind 11 = .ok (.dup, 1) := by decide +kernel
theorem dX0_takeBehind_12 : decode cX0_takeBehind 12 = .ok (.getfield 15, 3) := by decide +kernel
theorem dX0_takeBehind_15 : decode cX0_takeBehind 15 = .ok (.iload_n 1, 1) := by decide +kernel
theorem dX0_takeBehind_16 : decode cX0_takeBehind 16 = .ok (.iadd, 1) := by decide +kernel
theorem dX0_takeBehind_17 : decode cX0_takeBehind 17 = .ok (.putfield 15, 3) := by decide +kernel
theorem dX0_takeBehind_20 : decode cX0_takeBehind 20 = .ok (.return_, 1) := by decide +kernel
theorem dX0_leastPlace_0 : decode cX0_leastPlace 0 = .ok (.iconst 0, 1) := by decide +kernel
theorem dX0_leastPlace_1 : decode cX0_leastPlace 1 = .ok (.istore_n 2, 1) := by decide +kernel
theorem dX0_leastPlace_2 : decode cX0_leastPlace 2 = .ok (.iconst 0, 1) := by decide +kernel
theorem dX0_leastPlace_3 : decode cX0_leastPlace 3 = .ok (.istore_n 3, 1) := by decide +kernel
theorem dX0_leastPlace_4 : decode cX0_leastPlace 4 = .ok (.iload_n 3, 1) := by decide +kernel
theorem dX0_leastPlace_5 : decode cX0_leastPlace 5 = .ok (.sipush 200, 3) := by decide +kernel
theorem dX0_leastPlace_8 : decode cX0_leastPlace 8 = .ok (.if_icmp .ge 38, 3) := by decide +kernel
theorem dX0_leastPlace_11 : decode cX0_leastPlace 11 = .ok (.aload_n 0, 1) := by decide +kernel
theorem dX0_leastPlace_12 : decode cX0_leastPlace 12 = .ok (.getfield 9, 3) := by decide +kernel
theorem dX0_leastPlace_15 : decode cX0_leastPlace 15 = .ok (.iload_n 3, 1) := by decide +kernel
theorem dX0_leastPlace_16 : decode cX0_leastPlace 16 = .ok (.iaload, 1) := by decide +kernel
theorem dX0_leastPlace_17 : decode cX0_leastPlace 17 = .ok (.iconst (-1), 1) := by decide +kernel
theorem dX0_leastPlace_18 : decode cX0_leastPlace 18 = .ok (.if_icmp .ne 9, 3) := by decide +kernel
theorem dX0_leastPlace_21 : decode cX0_leastPlace 21 = .ok (.iload_n 2, 1) := by decide +kernel
theorem dX0_leastPlace_22 : decode cX0_leastPlace 22 = .ok (.iconst 1, 1) := by decide +kernel
theorem dX0_leastPlace_23 : decode cX0_leastPlace 23 = .ok (.iadd, 1) := by decide +kernel
theorem dX0_leastPlace_24 : decode cX0_leastPlace 24 = .ok (.goto 4, 3) := by decide +kernel
theorem dX0_leastPlace_27 : decode cX0_leastPlace 27 = .ok (.iconst 0, 1) := by decide +kernel
theorem dX0_leastPlace_28 : decode cX0_leastPlace 28 = .ok (.istore_n 2, 1) := by decide +kernel
theorem dX0_leastPlace_29 : decode cX0_leastPlace 29 = .ok (.iload_n 2, 1) := by decide +kernel
theorem dX0_leastPlace_30 : decode cX0_leastPlace 30 = .ok (.iload_n 1, 1) := by decide +kernel
theorem dX0_leastPlace_31 : decode cX0_leastPlace 31 = .ok (.if_icmp .ne 9, 3) := by decide +kernel
theorem dX0_leastPlace_34 : decode cX0_leastPlace 34 = .ok (.iload_n 3, 1) := by decide +kernel
theorem dX0_leastPlace_35 : decode cX0_leastPlace 35 = .ok (.iconst 1, 1) := by decide +kernel
theorem dX0_leastPlace_36 : decode cX0_leastPlace 36 = .ok (.iadd, 1) := by decide +kernel
theorem dX0_leastPlace_37 : decode cX0_leastPlace 37 = .ok (.iload_n 1, 1) := by decide +kernel
theorem dX0_leastPlace_38 : decode cX0_leastPlace 38 = .ok (.isub, 1) := by decide +kernel
theorem dX0_leastPlace_39 : decode cX0_leastPlace 39 = .ok (.ireturn, 1) := by decide +kernel
theorem dX0_leastPlace_40 : decode cX0_leastPlace 40 = .ok (.iinc 3 1, 3) := by decide +kernel
theorem dX0_leastPlace_43 : decode cX0_leastPlace 43 = .ok (.goto (-39), 3) := by decide +kernel
theorem dX0_leastPlace_46 : decode cX0_leastPlace 46 = .ok (.iconst (-1), 1) := by decide +kernel
theorem dX0_leastPlace_47 : decode cX0_leastPlace 47 = .ok (.ireturn, 1) := by decide +kernel
theorem dX0_countFree_0 : decode cX0_countFree 0 = .ok (.iconst 0, 1) := by decide +kernel
theorem dX0_countFree_1 : decode cX0_countFree 1 = .ok (.istore_n 1, 1) := by decide +kernel
theorem dX0_countFree_2 : decode cX0_countFree 2 = .ok (.iconst 0, 1) := by decide +kernel
theorem dX0_countFree_3 : decode cX0_countFree 3 = .ok (.istore_n 2, 1) := by decide +kernel
theorem dX0_countFree_4 : decode cX0_countFree 4 = .ok (.iload_n 2, 1) := by decide +kernel
theorem dX0_countFree_5 : decode cX0_countFree 5 = .ok (.sipush 200, 3) := by decide +kernel
theorem dX0_countFree_8 : decode cX0_countFree 8 = .ok (.if_icmp .ge 22, 3) := by decide +kernel
theorem dX0_countFree_11 : decode cX0_countFree 11 = .ok (.aload_n 0, 1) := by decide +kernel
theorem dX0_countFree_12 : decode cX0_countFree 12 = .ok (.getfield 9, 3) := by decide +kernel
theorem dX0_countFree_15 : decode cX0_countFree 15 = .ok (.iload_n 2, 1) := by decide +kernel
theorem dX0_countFree_16 : decode cX0_countFree 16 = .ok (.iaload, 1) := by decide +kernel
theorem dX0_countFree_17 : decode cX0_countFree 17 = .ok (.iconst (-1), 1) := by decide +kernel
theorem dX0_countFree_18 : decode cX0_countFree 18 = .ok (.if_icmp .ne 6, 3) := by decide +kernel
theorem dX0_countFree_21 : decode cX0_countFree 21 = .ok (.iinc 1 1, 3) := by decide +kernel
theorem dX0_countFree_24 : decode cX0_countFree 24 = .ok (.iinc 2 1, 3) := by decide +kernel
theorem dX0_countFree_27 : decode cX0_countFree 27 = .ok (.goto (-23), 3) := by decide +kernel
theorem dX0_countFree_30 : decode cX0_countFree 30 = .ok (.iload_n 1, 1) := by decide +kernel
theorem dX0_countFree_31 : decode cX0_countFree 31 = .ok (.ireturn, 1) := by decide +kernel
theorem dX0_longestFree_0 : decode cX0_longestFree 0 = .ok (.iconst 0, 1) := by decide +kernel
theorem dX0_longestFree_1 : decode cX0_longestFree 1 = .ok (.istore_n 1, 1) := by decide +kernel
theorem dX0_longestFree_2 : decode cX0_longestFree 2 = .ok (.iconst 0, 1) := by decide +kernel
theorem dX0_longestFree_3 : decode cX0_longestFree 3 = .ok (.istore_n 2, 1) := by decide +kernel
theorem dX0_longestFree_4 : decode cX0_longestFree 4 = .ok (.iconst 0, 1) := by decide +kernel
theorem dX0_longestFree_5 : decode cX0_longestFree 5 = .ok (.istore_n 3, 1) := by decide +kernel
theorem dX0_longestFree_6 : decode cX0_longestFree 6 = .ok (.iload_n 3, 1) := by decide +kernel
theorem dX0_longestFree_7 : decode cX0_longestFree 7 = .ok (.sipush 200, 3) := by decide +kernel
theorem dX0_longestFree_10 : decode cX0_longestFree 10 = .ok (.if_icmp .ge 33, 3) := by decide +kernel
theorem dX0_longestFree_13 : decode cX0_longestFree 13 = .ok (.aload_n 0, 1) := by decide +kernel
theorem dX0_longestFree_14 : decode cX0_longestFree 14 = .ok (.getfield 9, 3) := by decide +kernel
theorem dX0_longestFree_17 : decode cX0_longestFree 17 = .ok (.iload_n 3, 1) := by decide +kernel
theorem dX0_longestFree_18 : decode cX0_longestFree 18 = .ok (.iaload, 1) := by decide +kernel
theorem dX0_longestFree_19 : decode cX0_longestFree 19 = .ok (.iconst (-1), 1) := by decide +kernel
theorem dX0_longestFree_20 : decode cX0_longestFree 20 = .ok (.if_icmp .ne 9, 3) := by decide +kernel
theorem dX0_longestFree_23 : decode cX0_longestFree 23 = .ok (.iload_n 2, 1) := by decide +kernel
theorem dX0_longestFree_24 : decode cX0_longestFree 24 = .ok (.iconst 1, 1) := by decide +kernel
theorem dX0_longestFree_25 : decode cX0_longestFree 25 = .ok (.iadd, 1) := by decide +kernel
theorem dX0_longestFree_26 : decode cX0_longestFree 26 = .ok (.goto 4, 3) := by decide +kernel
theorem dX0_longestFree_29 : decode cX0_longestFree 29 = .ok (.iconst 0, 1) := by decide +kernel
theorem dX0_longestFree_30 : decode cX0_longestFree 30 = .ok (.istore_n 2, 1) := by decide +kernel
theorem dX0_longestFree_31 : decode cX0_longestFree 31 = .ok (.iload_n 1, 1) := by decide +kernel
theorem dX0_longestFree_32 : decode cX0_longestFree 32 = .ok (.iload_n 2, 1) := by decide +kernel
theorem dX0_longestFree_33 : decode cX0_longestFree 33 = .ok (.invokestatic 26, 3) := by decide +kernel
theorem dX0_longestFree_36 : decode cX0_longestFree 36 = .ok (.istore_n 1, 1) := by decide +kernel
theorem dX0_longestFree_37 : decode cX0_longestFree 37 = .ok (.iinc 3 1, 3) := by decide +kernel
theorem dX0_longestFree_40 : decode cX0_longestFree 40 = .ok (.goto (-34), 3) := by decide +kernel
theorem dX0_longestFree_43 : decode cX0_longestFree 43 = .ok (.iload_n 1, 1) := by decide +kernel
theorem dX0_longestFree_44 : decode cX0_longestFree 44 = .ok (.ireturn, 1) := by decide +kernel
theorem dX1_init_0 : decode cX1_init 0 = .ok (.aload_n 0, 1) := by decide +kernel
theorem dX1_init_1 : decode cX1_init 1 = .ok (.invokespecial 3, 3) := by decide +kernel
theorem dX1_init_4 : decode cX1_init 4 = .ok (.aload_n 0, 1) := by decide +kernel
theorem dX1_init_5 : decode cX1_init 5 = .ok (.sipush 136, 3) := by decide +kernel
theorem dX1_init_8 : decode cX1_init 8 = .ok (.newarray .int, 2) := by decide +kernel
theorem dX1_init_10 : decode cX1_init 10 = .ok (.putfield 9, 3) := by decide +kernel
theorem dX1_init_13 : decode cX1_init 13 = .ok (.aload_n 0, 1) := by decide +kernel
theorem dX1_init_14 : decode cX1_init 14 = .ok (.bipush 6, 2) := by decide +kernel
theorem dX1_init_16 : decode cX1_init 16 = .ok (.newarray .int, 2) := by decide +kernel
theorem dX1_init_18 : decode cX1_init 18 = .ok (.putfield 15, 3) := by decide +kernel
theorem dX1_init_21 : decode cX1_init 21 = .ok (.return_, 1) := by decide +kernel
theorem dX1_empty_0 : decode cX1_empty 0 = .ok (.iconst 0, 1) := by decide +kernel
theorem dX1_empty_1 : decode cX1_empty 1 = .ok (.istore_n 1, 1) := by decide +kernel
theorem dX1_empty_2 : decode cX1_empty 2 = .ok (.iload_n 1, 1) := by decide +kernel
theorem dX1_empty_3 : decode cX1_empty 3 = .ok (.bipush 16, 2) := by decide +kernel
theorem dX1_empty_5 : decode cX1_empty 5 = .ok (.if_icmp .ge 16, 3) := by decide +kernel
theorem dX1_empty_8 : decode cX1_empty 8 = .ok (.aload_n 0, 1) := by decide +kernel
theorem dX1_empty_9 : decode cX1_empty 9 = .ok (.getfield 9, 3) := by decide +kernel
theorem dX1_empty_12 : decode cX1_empty 12 = .ok (.iload_n 1, 1) := by decide +kernel
theorem dX1_empty_13 : decode cX1_empty 13 = .ok (.iconst (-1), 1) := by decide +kernel
theorem dX1_empty_14 : decode cX1_empty 14 = .ok (.iastore, 1) := by decide +kernel
theorem dX1_empty_15 : decode cX1_empty 15 = .ok (.iinc 1 1, 3) := by decide +kernel
theorem dX1_empty_18 : decode cX1_empty 18 = .ok (.goto (-16), 3) := by decide +kernel
theorem dX1_empty_21 : decode cX1_empty 21 = .ok (.iconst 0, 1) := by decide +kernel
theorem dX1_empty_22 : decode cX1_empty 22 = .ok (.istore_n 1, 1) := by decide +kernel
theorem dX1_empty_23 : decode cX1_empty 23 = .ok (.iload_n 1, 1) := by decide +kernel
theorem dX1_empty_24 : decode cX1_empty 24 = .ok (.bipush 6, 2) := by decide +kernel
theorem dX1_empty_26 : decode cX1_empty 26 = .ok (.if_icmp .ge 16, 3) := by decide +kernel
theorem dX1_empty_29 : decode cX1_empty 29 = .ok (.aload_n 0, 1) := by decide +kernel
theorem dX1_empty_30 : decode cX1_empty 30 = .ok (.getfield 15, 3) := by decide +kernel
theorem dX1_empty_33 : decode cX1_empty 33 = .ok (.iload_n 1, 1) := by decide +kernel
theorem dX1_empty_34 : decode cX1_empty 34 = .ok (.iconst (-1), 1) := by decide +kernel
theorem dX1_empty_35 : decode cX1_empty 35 = .ok (.iastore, 1) := by decide +kernel
theorem dX1_empty_36 : decode cX1_empty 36 = .ok (.iinc 1 1, 3) := by decide +kernel
theorem dX1_empty_39 : decode cX1_empty 39 = .ok (.goto (-16), 3) := by decide +kernel
theorem dX1_empty_42 : decode cX1_empty 42 = .ok (.aload_n 0, 1) := by decide +kernel
theorem dX1_empty_43 : decode cX1_empty 43 = .ok (.iconst 0, 1) := by decide +kernel
theorem dX1_empty_44 : decode cX1_empty 44 = .ok (.putfield 18, 3) := by decide +kernel
theorem dX1_empty_47 : decode cX1_empty 47 = .ok (.return_, 1) := by decide +kernel
theorem dX1_heldAt_0 : decode cX1_heldAt 0 = .ok (.iload_n 1, 1) := by decide +kernel
theorem dX1_heldAt_1 : decode cX1_heldAt 1 = .ok (.ifCond .lt 32, 3) := by decide +kernel
theorem dX1_heldAt_4 : decode cX1_heldAt 4 = .ok (.iload_n 1, 1) := by decide +kernel
theorem dX1_heldAt_5 : decode cX1_heldAt 5 = .ok (.bipush 16, 2) := by decide +kernel
theorem dX1_heldAt_7 : decode cX1_heldAt 7 = .ok (.aload_n 0, 1) := by decide +kernel
theorem dX1_heldAt_8 : decode cX1_heldAt 8 = .ok (.getfield 18, 3) := by decide +kernel
theorem dX1_heldAt_11 : decode cX1_heldAt 11 = .ok (.iadd, 1) := by decide +kernel
theorem dX1_heldAt_12 : decode cX1_heldAt 12 = .ok (.if_icmp .ge 21, 3) := by decide +kernel
theorem dX1_heldAt_15 : decode cX1_heldAt 15 = .ok (.iload_n 1, 1) := by decide +kernel
theorem dX1_heldAt_16 : decode cX1_heldAt 16 = .ok (.aload_n 0, 1) := by decide +kernel
theorem dX1_heldAt_17 : decode cX1_heldAt 17 = .ok (.getfield 9, 3) := by decide +kernel
theorem dX1_heldAt_20 : decode cX1_heldAt 20 = .ok (.arraylength, 1) := by decide +kernel
theorem dX1_heldAt_21 : decode cX1_heldAt 21 = .ok (.if_icmp .ge 12, 3) := by decide +kernel
theorem dX1_heldAt_24 : decode cX1_heldAt 24 = .ok (.aload_n 0, 1) := by decide +kernel
theorem dX1_heldAt_25 : decode cX1_heldAt 25 = .ok (.getfield 9, 3) := by decide +kernel
theorem dX1_heldAt_28 : decode cX1_heldAt 28 = .ok (.iload_n 1, 1) := by decide +kernel
theorem dX1_heldAt_29 : decode cX1_heldAt 29 = .ok (.iaload, 1) := by decide +kernel
theorem dX1_heldAt_30 : decode cX1_heldAt 30 = .ok (.goto 4, 3) := by decide +kernel
theorem dX1_heldAt_33 : decode cX1_heldAt 33 = .ok (.iconst (-1), 1) := by decide +kernel
theorem dX1_heldAt_34 : decode cX1_heldAt 34 = .ok (.ireturn, 1) := by decide +kernel
theorem dX1_hold_0 : decode cX1_hold 0 = .ok (.iload_n 1, 1) := by decide +kernel
theorem dX1_hold_1 : decode cX1_hold 1 = .ok (.ifCond .lt 16, 3) := by decide +kernel
theorem dX1_hold_4 : decode cX1_hold 4 = .ok (.iload_n 1, 1) := by decide +kernel
theorem dX1_hold_5 : decode cX1_hold 5 = .ok (.bipush 16, 2) := by decide +kernel
theorem dX1_hold_7 : decode cX1_hold 7 = .ok (.if_icmp .ge 10, 3) := by decide +kernel
theorem dX1_hold_10 : decode cX1_hold 10 = .ok (.aload_n 0, 1) := by decide +kernel
theorem dX1_hold_11 : decode cX1_hold 11 = .ok (.getfield 9, 3) := by decide +kernel
theorem dX1_hold_14 : decode cX1_hold 14 = .ok (.iload_n 1, 1) := by decide +kernel
theorem dX1_hold_15 : decode cX1_hold 15 = .ok (.iload_n 2, 1) := by decide +kernel
theorem dX1_hold_16 : decode cX1_hold 16 = .ok (.iastore, 1) := by decide +kernel
theorem dX1_hold_17 : decode cX1_hold 17 = .ok (.iload_n 2, 1) := by decide +kernel
theorem dX1_hold_18 : decode cX1_hold 18 = .ok (.ireturn, 1) := by decide +kernel
theorem dX1_namedBy_0 : decode cX1_namedBy 0 = .ok (.iload_n 1, 1) := by decide +kernel
theorem dX1_namedBy_1 : decode cX1_namedBy 1 = .ok (.invokestatic 22, 3) := by decide +kernel
theorem dX1_namedBy_4 : decode cX1_namedBy 4 = .ok (.ifCond .eq 12, 3) := by decide +kernel
theorem dX1_namedBy_7 : decode cX1_namedBy 7 = .ok (.aload_n 0, 1) := by decide +kernel
theorem dX1_namedBy_8 : decode cX1_namedBy 8 = .ok (.getfield 15, 3) := by decide +kernel
theorem dX1_namedBy_11 : decode cX1_namedBy 11 = .ok (.iload_n 1, 1) := by decide +kernel
theorem dX1_namedBy_12 : decode cX1_namedBy 12 = .ok (.iaload, 1) := by decide +kernel
theorem dX1_namedBy_13 : decode cX1_namedBy 13 = .ok (.goto 4, 3) := by decide +kernel
theorem dX1_namedBy_16 : decode cX1_namedBy 16 = .ok (.iconst (-1), 1) := by decide +kernel
theorem dX1_namedBy_17 : decode cX1_namedBy 17 = .ok (.ireturn, 1) := by decide +kernel
theorem dX1_name_0 : decode cX1_name 0 = .ok (.iload_n 1, 1) := by decide +kernel
theorem dX1_name_1 : decode cX1_name 1 = .ok (.invokestatic 22, 3) := by decide +kernel
theorem dX1_name_4 : decode cX1_name 4 = .ok (.ifCond .eq 10, 3) := by decide +kernel
theorem dX1_name_7 : decode cX1_name 7 = .ok (.aload_n 0, 1) := by decide +kernel
theorem dX1_name_8 : decode cX1_name 8 = .ok (.getfield 15, 3) := by decide +kernel
theorem dX1_name_11 : decode cX1_name 11 = .ok (.iload_n 1, 1) := by decide +kernel
theorem dX1_name_12 : decode cX1_name 12 = .ok (.iload_n 2, 1) := by decide +kernel
theorem dX1_name_13 : decode cX1_name 13 = .ok (.iastore, 1) := by decide +kernel
theorem dX1_name_14 : decode cX1_name 14 = .ok (.return_, 1) := by decide +kernel
theorem dX1_wishAt_0 : decode cX1_wishAt 0 = .ok (.iload_n 1, 1) := by decide +kernel
theorem dX1_wishAt_1 : decode cX1_wishAt 1 = .ok (.ifCond .lt 22, 3) := by decide +kernel
theorem dX1_wishAt_4 : decode cX1_wishAt 4 = .ok (.iload_n 1, 1) := by decide +kernel
theorem dX1_wishAt_5 : decode cX1_wishAt 5 = .ok (.aload_n 0, 1) := by decide +kernel
theorem dX1_wishAt_6 : decode cX1_wishAt 6 = .ok (.getfield 18, 3) := by decide +kernel
theorem dX1_wishAt_9 : decode cX1_wishAt 9 = .ok (.if_icmp .ge 14, 3) := by decide +kernel
theorem dX1_wishAt_12 : decode cX1_wishAt 12 = .ok (.aload_n 0, 1) := by decide +kernel
theorem dX1_wishAt_13 : decode cX1_wishAt 13 = .ok (.bipush 16, 2) := by decide +kernel
theorem dX1_wishAt_15 : decode cX1_wishAt 15 = .ok (.iload_n 1, 1) := by decide +kernel
theorem dX1_wishAt_16 : decode cX1_wishAt 16 = .ok (.iadd, 1) := by decide +kernel
theorem dX1_wishAt_17 : decode cX1_wishAt 17 = .ok (.invokevirtual 26, 3) := by decide +kernel
theorem dX1_wishAt_20 : decode cX1_wishAt 20 = .ok (.goto 4, 3) := by decide +kernel
theorem dX1_wishAt_23 : decode cX1_wishAt 23 = .ok (.iconst (-1), 1) := by decide +kernel
theorem dX1_wishAt_24 : decode cX1_wishAt 24 = .ok (.ireturn, 1) := by decide +kernel
theorem dX1_addWish_0 : decode cX1_addWish 0 = .ok (.aload_n 0, 1) := by decide +kernel
theorem dX1_addWish_1 : decode cX1_addWish 1 = .ok (.getfield 18, 3) := by decide +kernel
theorem dX1_addWish_4 : decode cX1_addWish 4 = .ok (.ifCond .lt 35, 3) := by decide +kernel
theorem dX1_addWish_7 : decode cX1_addWish 7 = .ok (.aload_n 0, 1) := by decide +kernel
theorem dX1_addWish_8 : decode cX1_addWish 8 = .ok (.getfield 18, 3) := by decide +kernel
theorem dX1_addWish_11 : decode cX1_addWish 11 = .ok (.bipush 120, 2) := by decide +kernel
theorem dX1_addWish_13 : decode cX1_addWish 13 = .ok (.if_icmp .ge 26, 3) := by decide +kernel
theorem dX1_addWish_16 : decode cX1_addWish 16 = .ok (.aload_n 0, 1) := by decide +kernel
theorem dX1_addWish_17 : decode cX1_addWish 17 = .ok (.getfield 9, 3) := by decide +kernel
theorem dX1_addWish_20 : decode cX1_addWish 20 = .ok (.bipush 16, 2) := by decide +kernel
theorem dX1_addWish_22 : decode cX1_addWish 22 = .ok (.aload_n 0, 1) := by decide +kernel
theorem dX1_addWish_23 : decode cX1_addWish 23 = .ok (.getfield 18, 3) := by decide +kernel
theorem dX1_addWish_26 : decode cX1_addWish 26 = .ok (.iadd, 1) := by decide +kernel
theorem dX1_addWish_27 : decode cX1_addWish 27 = .ok (.iload_n 1, 1) := by decide +kernel
theorem dX1_addWish_28 : decode cX1_addWish 28 = .ok (.iastore, 1) := by decide +kernel
theorem dX1_addWish_29 : decode cX1_addWish 29 = .ok (.aload_n 0, 1) := by decide +kernel
theorem dX1_addWish_30 : decode cX1_addWish 30 = .ok (.dup, 1) := by decide +kernel
theorem dX1_addWish_31 : decode cX1_addWish 31 = .ok (.getfield 18, 3) := by decide +kernel
theorem dX1_addWish_34 : decode cX1_addWish 34 = .ok (.iconst 1, 1) := by decide +kernel
theorem dX1_addWish_35 : decode cX1_addWish 35 = .ok (.iadd, 1) := by decide +kernel
theorem dX1_addWish_36 : decode cX1_addWish 36 = .ok (.putfield 18, 3) := by decide +kernel
theorem dX1_addWish_39 : decode cX1_addWish 39 = .ok (.return_, 1) := by decide +kernel
theorem dX1_takeFirstWish_0 : decode cX1_takeFirstWish 0 = .ok (.aload_n 0, 1) := by decide +kernel
theorem dX1_takeFirstWish_1 : decode cX1_takeFirstWish 1 = .ok (.bipush 16, 2) := by decide +kernel
theorem dX1_takeFirstWish_3 : decode cX1_takeFirstWish 3 = .ok (.invokevirtual 26, 3) := by decide +kernel
theorem dX1_takeFirstWish_6 : decode cX1_takeFirstWish 6 = .ok (.istore_n 1, 1) := by decide +kernel
theorem dX1_takeFirstWish_7 : decode cX1_takeFirstWish 7 = .ok (.bipush 16, 2) := by decide +kernel
theorem dX1_takeFirstWish_9 : decode cX1_takeFirstWish 9 = .ok (.istore_n 2, 1) := by decide +kernel
theorem dX1_takeFirstWish_10 : decode cX1_takeFirstWish 10 = .ok (.iload_n 2, 1) := by decide +kernel
theorem dX1_takeFirstWish_11 : decode cX1_takeFirstWish 11 = .ok (.iconst 1, 1) := by decide +kernel
theorem dX1_takeFirstWish_12 : decode cX1_takeFirstWish 12 = .ok (.iadd, 1) := by decide +kernel
theorem dX1_takeFirstWish_13 : decode cX1_takeFirstWish 13 = .ok (.bipush 16, 2) := by decide +kernel
theorem dX1_takeFirstWish_15 : decode cX1_takeFirstWish 15 = .ok (.aload_n 0, 1) := by decide +kernel
theorem dX1_takeFirstWish_16 : decode cX1_takeFirstWish 16 = .ok (.getfield 18, 3) := by decide +kernel
theorem dX1_takeFirstWish_19 : decode cX1_takeFirstWish 19 = .ok (.iadd, 1) := by decide +kernel
theorem dX1_takeFirstWish_20 : decode cX1_takeFirstWish 20 = .ok (.if_icmp .ge 34, 3) := by decide +kernel
theorem dX1_takeFirstWish_23 : decode cX1_takeFirstWish 23 = .ok (.iload_n 2, 1) := by decide +kernel
theorem dX1_takeFirstWish_24 : decode cX1_takeFirstWish 24 = .ok (.iconst 1, 1) := by decide +kernel
theorem dX1_takeFirstWish_25 : decode cX1_takeFirstWish 25 = .ok (.iadd, 1) := by decide +kernel
theorem dX1_takeFirstWish_26 : decode cX1_takeFirstWish 26 = .ok (.aload_n 0, 1) := by decide +kernel
theorem dX1_takeFirstWish_27 : decode cX1_takeFirstWish 27 = .ok (.getfield 9, 3) := by decide +kernel
theorem dX1_takeFirstWish_30 : decode cX1_takeFirstWish 30 = .ok (.arraylength, 1) := by decide +kernel
theorem dX1_takeFirstWish_31 : decode cX1_takeFirstWish 31 = .ok (.if_icmp .ge 23, 3) := by decide +kernel
theorem dX1_takeFirstWish_34 : decode cX1_takeFirstWish 34 = .ok (.aload_n 0, 1) := by decide +kernel
theorem dX1_takeFirstWish_35 : decode cX1_takeFirstWish 35 = .ok (.getfield 9, 3) := by decide +kernel
theorem dX1_takeFirstWish_38 : decode cX1_takeFirstWish 38 = .ok (.iload_n 2, 1) := by decide +kernel
theorem dX1_takeFirstWish_39 : decode cX1_takeFirstWish 39 = .ok (.aload_n 0, 1) := by decide +kernel
theorem dX1_takeFirstWish_40 : decode cX1_takeFirstWish 40 = .ok (.getfield 9, 3) := by decide +kernel
theorem dX1_takeFirstWish_43 : decode cX1_takeFirstWish 43 = .ok (.iload_n 2, 1) := by decide +kernel
theorem dX1_takeFirstWish_44 : decode cX1_takeFirstWish 44 = .ok (.iconst 1, 1) := by decide +kernel
theorem dX1_takeFirstWish_45 : decode cX1_takeFirstWish 45 = .ok (.iadd, 1) := by decide +kernel
theorem dX1_takeFirstWish_46 : decode cX1_takeFirstWish 46 = .ok (.iaload, 1) := by decide +kernel
theorem dX1_takeFirstWish_47 : decode cX1_takeFirstWish 47 = .ok (.iastore, 1) := by decide +kernel
theorem dX1_takeFirstWish_48 : decode cX1_takeFirstWish 48 = .ok (.iinc 2 1, 3) := by decide +kernel
theorem dX1_takeFirstWish_51 : decode cX1_takeFirstWish 51 = .ok (.goto (-41), 3) := by decide +kernel
theorem dX1_takeFirstWish_54 : decode cX1_takeFirstWish 54 = .ok (.aload_n 0, 1) := by decide +kernel
theorem dX1_takeFirstWish_55 : decode cX1_takeFirstWish 55 = .ok (.getfield 18, 3) := by decide +kernel
theorem dX1_takeFirstWish_58 : decode cX1_takeFirstWish 58 = .ok (.ifCond .le 13, 3) := by decide +kernel
theorem dX1_takeFirstWish_61 : decode cX1_takeFirstWish 61 = .ok (.aload_n 0, 1) := by decide +kernel
theorem dX1_takeFirstWish_62 : decode cX1_takeFirstWish 62 = .ok (.dup, 1) := by decide +kernel
theorem dX1_takeFirstWish_63 : decode cX1_takeFirstWish 63 = .ok (.getfield 18, 3) := by decide +kernel
theorem dX1_takeFirstWish_66 : decode cX1_takeFirstWish 66 = .ok (.iconst 1, 1) := by decide +kernel
theorem dX1_takeFirstWish_67 : decode cX1_takeFirstWish 67 = .ok (.isub, 1) := by decide +kernel
theorem dX1_takeFirstWish_68 : decode cX1_takeFirstWish 68 = .ok (.putfield 18, 3) := by decide +kernel
theorem dX1_takeFirstWish_71 : decode cX1_takeFirstWish 71 = .ok (.iload_n 1, 1) := by decide +kernel
theorem dX1_takeFirstWish_72 : decode cX1_takeFirstWish 72 = .ok (.ireturn, 1) := by decide +kernel
theorem dX2_init_0 : decode cX2_init 0 = .ok (.aload_n 0, 1) := by decide +kernel
theorem dX2_init_1 : decode cX2_init 1 = .ok (.invokespecial 3, 3) := by decide +kernel
theorem dX2_init_4 : decode cX2_init 4 = .ok (.aload_n 0, 1) := by decide +kernel
theorem dX2_init_5 : decode cX2_init 5 = .ok (.bipush 8, 2) := by decide +kernel
theorem dX2_init_7 : decode cX2_init 7 = .ok (.newarray .int, 2) := by decide +kernel
theorem dX2_init_9 : decode cX2_init 9 = .ok (.putfield 9, 3) := by decide +kernel
theorem dX2_init_12 : decode cX2_init 12 = .ok (.aload_n 0, 1) := by decide +kernel
theorem dX2_init_13 : decode cX2_init 13 = .ok (.bipush 8, 2) := by decide +kernel
theorem dX2_init_15 : decode cX2_init 15 = .ok (.newarray .int, 2) := by decide +kernel
theorem dX2_init_17 : decode cX2_init 17 = .ok (.putfield 15, 3) := by decide +kernel
theorem dX2_init_20 : decode cX2_init 20 = .ok (.return_, 1) := by decide +kernel
theorem dX2_isPair_0 : decode cX2_isPair 0 = .ok (.iload_n 1, 1) := by decide +kernel
theorem dX2_isPair_1 : decode cX2_isPair 1 = .ok (.ifCond .lt 21, 3) := by decide +kernel
theorem dX2_isPair_4 : decode cX2_isPair 4 = .ok (.iload_n 1, 1) := by decide +kernel
theorem dX2_isPair_5 : decode cX2_isPair 5 = .ok (.aload_n 0, 1) := by decide +kernel
theorem dX2_isPair_6 : decode cX2_isPair 6 = .ok (.getfield 18, 3) := by decide +kernel
theorem dX2_isPair_9 : decode cX2_isPair 9 = .ok (.if_icmp .ge 13, 3) := by decide +kernel
theorem dX2_isPair_12 : decode cX2_isPair 12 = .ok (.iload_n 1, 1) := by decide +kernel
theorem dX2_isPair_13 : decode cX2_isPair 13 = .ok (.bipush 8, 2) := by decide +kernel
theorem dX2_isPair_15 : decode cX2_isPair 15 = .ok (.if_icmp .ge 7, 3) := by decide +kernel
theorem dX2_isPair_18 : decode cX2_isPair 18 = .ok (.iconst 1, 1) := by decide +kernel
theorem dX2_isPair_19 : decode cX2_isPair 19 = .ok (.goto 4, 3) := by decide +kernel
theorem dX2_isPair_22 : decode cX2_isPair 22 = .ok (.iconst 0, 1) := by decide +kernel
theorem dX2_isPair_23 : decode cX2_isPair 23 = .ok (.ireturn, 1) := by decide +kernel
theorem dX2_add_0 : decode cX2_add 0 = .ok (.aload_n 0, 1) := by decide +kernel
theorem dX2_add_1 : decode cX2_add 1 = .ok (.getfield 18, 3) := by decide +kernel
theorem dX2_add_4 : decode cX2_add 4 = .ok (.ifCond .lt 12, 3) := by decide +kernel
theorem dX2_add_7 : decode cX2_add 7 = .ok (.aload_n 0, 1) := by decide +kernel
theorem dX2_add_8 : decode cX2_add 8 = .ok (.getfield 18, 3) := by decide +kernel
theorem dX2_add_11 : decode cX2_add 11 = .ok (.bipush 8, 2) := by decide +kernel
theorem dX2_add_13 : decode cX2_add 13 = .ok (.if_icmp .lt 6, 3) := by decide +kernel
theorem dX2_add_16 : decode cX2_add 16 = .ok (.bipush (-4), 2) := by decide +kernel
theorem dX2_add_18 : decode cX2_add 18 = .ok (.ireturn, 1) := by decide +kernel
theorem dX2_add_19 : decode cX2_add 19 = .ok (.aload_n 0, 1) := by decide +kernel
theorem dX2_add_20 : decode cX2_add 20 = .ok (.getfield 9, 3) := by decide +kernel
theorem dX2_add_23 : decode cX2_add 23 = .ok (.aload_n 0, 1) := by decide +kernel
theorem dX2_add_24 : decode cX2_add 24 = .ok (.getfield 18, 3) := by decide +kernel
theorem dX2_add_27 : decode cX2_add 27 = .ok (.iload_n 1, 1) := by decide +kernel
theorem dX2_add_28 : decode cX2_add 28 = .ok (.iastore, 1) := by decide +kernel
theorem dX2_add_29 : decode cX2_add 29 = .ok (.aload_n 0, 1) := by decide +kernel
theorem dX2_add_30 : decode cX2_add 30 = .ok (.getfield 15, 3) := by decide +kernel
theorem dX2_add_33 : decode cX2_add 33 = .ok (.aload_n 0, 1) := by decide +kernel
theorem dX2_add_34 : decode cX2_add 34 = .ok (.getfield 18, 3) := by decide +kernel
theorem dX2_add_37 : decode cX2_add 37 = .ok (.iload_n 2, 1) := by decide +kernel
theorem dX2_add_38 : decode cX2_add 38 = .ok (.iastore, 1) := by decide +kernel
theorem dX2_add_39 : decode cX2_add 39 = .ok (.aload_n 0, 1) := by decide +kernel
theorem dX2_add_40 : decode cX2_add 40 = .ok (.dup, 1) := by decide +kernel
theorem dX2_add_41 : decode cX2_add 41 = .ok (.getfield 18, 3) := by decide +kernel
theorem dX2_add_44 : decode cX2_add 44 = .ok (.iconst 1, 1) := by decide +kernel
theorem dX2_add_45 : decode cX2_add 45 = .ok (.iadd, 1) := by decide +kernel
theorem dX2_add_46 : decode cX2_add 46 = .ok (.putfield 18, 3) := by decide +kernel
theorem dX2_add_49 : decode cX2_add 49 = .ok (.aload_n 0, 1) := by decide +kernel
theorem dX2_add_50 : decode cX2_add 50 = .ok (.getfield 18, 3) := by decide +kernel
theorem dX2_add_53 : decode cX2_add 53 = .ok (.iconst 1, 1) := by decide +kernel
theorem dX2_add_54 : decode cX2_add 54 = .ok (.isub, 1) := by decide +kernel
theorem dX2_add_55 : decode cX2_add 55 = .ok (.ireturn, 1) := by decide +kernel
theorem dX2_end_0 : decode cX2_end 0 = .ok (.aload_n 0, 1) := by decide +kernel
theorem dX2_end_1 : decode cX2_end 1 = .ok (.iload_n 1, 1) := by decide +kernel
theorem dX2_end_2 : decode cX2_end 2 = .ok (.invokevirtual 22, 3) := by decide +kernel
theorem dX2_end_5 : decode cX2_end 5 = .ok (.ifCond .eq 17, 3) := by decide +kernel
theorem dX2_end_8 : decode cX2_end 8 = .ok (.aload_n 0, 1) := by decide +kernel
theorem dX2_end_9 : decode cX2_end 9 = .ok (.getfield 9, 3) := by decide +kernel
theorem dX2_end_12 : decode cX2_end 12 = .ok (.iload_n 1, 1) := by decide +kernel
theorem dX2_end_13 : decode cX2_end 13 = .ok (.iconst (-1), 1) := by decide +kernel
theorem dX2_end_14 : decode cX2_end 14 = .ok (.iastore, 1) := by decide +kernel
theorem dX2_end_15 : decode cX2_end 15 = .ok (.aload_n 0, 1) := by decide +kernel
theorem dX2_end_16 : decode cX2_end 16 = .ok (.getfield 15, 3) := by decide +kernel
theorem dX2_end_19 : decode cX2_end 19 = .ok (.iload_n 1, 1) := by decide +kernel
theorem dX2_end_20 : decode cX2_end 20 = .ok (.iconst (-1), 1) := by decide +kernel
theorem dX2_end_21 : decode cX2_end 21 = .ok (.iastore, 1) := by decide +kernel
theorem dX2_end_22 : decode cX2_end 22 = .ok (.return_, 1) := by decide +kernel
theorem dX2_keyOf_0 : decode cX2_keyOf 0 = .ok (.aload_n 0, 1) := by decide +kernel
theorem dX2_keyOf_1 : decode cX2_keyOf 1 = .ok (.iload_n 1, 1) := by decide +kernel
theorem dX2_keyOf_2 : decode cX2_keyOf 2 = .ok (.invokevirtual 22, 3) := by decide +kernel
theorem dX2_keyOf_5 : decode cX2_keyOf 5 = .ok (.ifCond .eq 12, 3) := by decide +kernel
theorem dX2_keyOf_8 : decode cX2_keyOf 8 = .ok (.aload_n 0, 1) := by decide +kernel
theorem dX2_keyOf_9 : decode cX2_keyOf 9 = .ok (.getfield 9, 3) := by decide +kernel
theorem dX2_keyOf_12 : decode cX2_keyOf 12 = .ok (.iload_n 1, 1) := by decide +kernel
theorem dX2_keyOf_13 : decode cX2_keyOf 13 = .ok (.iaload, 1) := by decide +kernel
theorem dX2_keyOf_14 : decode cX2_keyOf 14 = .ok (.goto 4, 3) := by decide +kernel
theorem dX2_keyOf_17 : decode cX2_keyOf 17 = .ok (.iconst (-1), 1) := by decide +kernel
theorem dX2_keyOf_18 : decode cX2_keyOf 18 = .ok (.ireturn, 1) := by decide +kernel
theorem dX2_valueOf_0 : decode cX2_valueOf 0 = .ok (.aload_n 0, 1) := by decide +kernel
theorem dX2_valueOf_1 : decode cX2_valueOf 1 = .ok (.iload_n 1, 1) := by decide +kernel
theorem dX2_valueOf_2 : decode cX2_valueOf 2 = .ok (.invokevirtual 22, 3) := by decide +kernel
theorem dX2_valueOf_5 : decode cX2_valueOf 5 = .ok (.ifCond .eq 12, 3) := by decide +kernel
theorem dX2_valueOf_8 : decode cX2_valueOf 8 = .ok (.aload_n 0, 1) := by decide +kernel
theorem dX2_valueOf_9 : decode cX2_valueOf 9 = .ok (.getfield 15, 3) := by decide +kernel
theorem dX2_valueOf_12 : decode cX2_valueOf 12 = .ok (.iload_n 1, 1) := by decide +kernel
theorem dX2_valueOf_13 : decode cX2_valueOf 13 = .ok (.iaload, 1) := by decide +kernel
theorem dX2_valueOf_14 : decode cX2_valueOf 14 = .ok (.goto 4, 3) := by decide +kernel
theorem dX2_valueOf_17 : decode cX2_valueOf 17 = .ok (.iconst (-1), 1) := by decide +kernel
theorem dX2_valueOf_18 : decode cX2_valueOf 18 = .ok (.ireturn, 1) := by decide +kernel
theorem dX2_countNotDropped_0 : decode cX2_countNotDropped 0 = .ok (.iconst 0, 1) := by decide +kernel
theorem dX2_countNotDropped_1 : decode cX2_countNotDropped 1 = .ok (.istore_n 1, 1) := by decide +kernel
theorem dX2_countNotDropped_2 : decode cX2_countNotDropped 2 = .ok (.iconst 0, 1) := by decide +kernel
theorem dX2_countNotDropped_3 : decode cX2_countNotDropped 3 = .ok (.istore_n 2, 1) := by decide +kernel
theorem dX2_countNotDropped_4 : decode cX2_countNotDropped 4 = .ok (.iload_n 2, 1) := by decide +kernel
theorem dX2_countNotDropped_5 : decode cX2_countNotDropped 5 = .ok (.aload_n 0, 1) := by decide +kernel
theorem dX2_countNotDropped_6 : decode cX2_countNotDropped 6 = .ok (.getfield 18, 3) := by decide +kernel
theorem dX2_countNotDropped_9 : decode cX2_countNotDropped 9 = .ok (.if_icmp .ge 21, 3) := by decide +kernel
theorem dX2_countNotDropped_12 : decode cX2_countNotDropped 12 = .ok (.aload_n 0, 1) := by decide +kernel
theorem dX2_countNotDropped_13 : decode cX2_countNotDropped 13 = .ok (.iload_n 2, 1) := by decide +kernel
theorem dX2_countNotDropped_14 : decode cX2_countNotDropped 14 = .ok (.invokevirtual 26, 3) := by decide +kernel
theorem dX2_countNotDropped_17 : decode cX2_countNotDropped 17 = .ok (.iconst (-1), 1) := by decide +kernel
theorem dX2_countNotDropped_18 : decode cX2_countNotDropped 18 = .ok (.if_icmp .eq 6, 3) := by decide +kernel
theorem dX2_countNotDropped_21 : decode cX2_countNotDropped 21 = .ok (.iinc 1 1, 3) := by decide +kernel
theorem dX2_countNotDropped_24 : decode cX2_countNotDropped 24 = .ok (.iinc 2 1, 3) := by decide +kernel
theorem dX2_countNotDropped_27 : decode cX2_countNotDropped 27 = .ok (.goto (-23), 3) := by decide +kernel
theorem dX2_countNotDropped_30 : decode cX2_countNotDropped 30 = .ok (.iload_n 1, 1) := by decide +kernel
theorem dX2_countNotDropped_31 : decode cX2_countNotDropped 31 = .ok (.ireturn, 1) := by decide +kernel
theorem dX3_init_0 : decode cX3_init 0 = .ok (.aload_n 0, 1) := by decide +kernel
theorem dX3_init_1 : decode cX3_init 1 = .ok (.invokespecial 3, 3) := by decide +kernel
theorem dX3_init_4 : decode cX3_init 4 = .ok (.aload_n 0, 1) := by decide +kernel
theorem dX3_init_5 : decode cX3_init 5 = .ok (.bipush 120, 2) := by decide +kernel
theorem dX3_init_7 : decode cX3_init 7 = .ok (.newarray .boolean, 2) := by decide +kernel
theorem dX3_init_9 : decode cX3_init 9 = .ok (.putfield 9, 3) := by decide +kernel
theorem dX3_init_12 : decode cX3_init 12 = .ok (.aload_n 0, 1) := by decide +kernel
theorem dX3_init_13 : decode cX3_init 13 = .ok (.bipush 120, 2) := by decide +kernel
theorem dX3_init_15 : decode cX3_init 15 = .ok (.newarray .int, 2) := by decide +kernel
theorem dX3_init_17 : decode cX3_init 17 = .ok (.putfield 15, 3) := by decide +kernel
theorem dX3_init_20 : decode cX3_init 20 = .ok (.return_, 1) := by decide +kernel
theorem dX3_has_0 : decode cX3_has 0 = .ok (.iload_n 1, 1) := by decide +kernel
theorem dX3_has_1 : decode cX3_has 1 = .ok (.ifCond .lt 22, 3) := by decide +kernel
theorem dX3_has_4 : decode cX3_has 4 = .ok (.iload_n 1, 1) := by decide +kernel
theorem dX3_has_5 : decode cX3_has 5 = .ok (.bipush 120, 2) := by decide +kernel
theorem dX3_has_7 : decode cX3_has 7 = .ok (.if_icmp .ge 16, 3) := by decide +kernel
theorem dX3_has_10 : decode cX3_has 10 = .ok (.aload_n 0, 1) := by decide +kernel
theorem dX3_has_11 : decode cX3_has 11 = .ok (.getfield 9, 3) := by decide +kernel
theorem dX3_has_14 : decode cX3_has 14 = .ok (.iload_n 1, 1) := by decide +kernel
theorem dX3_has_15 : decode cX3_has 15 = .ok (.baload, 1) := by decide +kernel
theorem dX3_has_16 : decode cX3_has 16 = .ok (.ifCond .eq 7, 3) := by decide +kernel
theorem dX3_has_19 : decode cX3_has 19 = .ok (.iconst 1, 1) := by decide +kernel
theorem dX3_has_20 : decode cX3_has 20 = .ok (.goto 4, 3) := by decide +kernel
theorem dX3_has_23 : decode cX3_has 23 = .ok (.iconst 0, 1) := by decide +kernel
theorem dX3_has_24 : decode cX3_has 24 = .ok (.ireturn, 1) := by decide +kernel
theorem dX3_find_0 : decode cX3_find 0 = .ok (.aload_n 0, 1) := by decide +kernel
theorem dX3_find_1 : decode cX3_find 1 = .ok (.invokevirtual 19, 3) := by decide +kernel
theorem dX3_find_4 : decode cX3_find 4 = .ok (.iconst 0, 1) := by decide +kernel
theorem dX3_find_5 : decode cX3_find 5 = .ok (.istore 4, 2) := by decide +kernel
theorem dX3_find_7 : decode cX3_find 7 = .ok (.iload 4, 2) := by decide +kernel
theorem dX3_find_9 : decode cX3_find 9 = .ok (.bipush 16, 2) := by decide +kernel
theorem dX3_find_11 : decode cX3_find 11 = .ok (.aload_n 2, 1) := by decide +kernel
theorem dX3_find_12 : decode cX3_find 12 = .ok (.getfield 22, 3) := by decide +kernel
theorem dX3_find_15 : decode cX3_find 15 = .ok (.iadd, 1) := by decide +kernel
theorem dX3_find_16 : decode cX3_find 16 = .ok (.if_icmp .ge 19, 3) := by decide +kernel
theorem dX3_find_19 : decode cX3_find 19 = .ok (.aload_n 0, 1) := by decide +kernel
theorem dX3_find_20 : decode cX3_find 20 = .ok (.aload_n 2, 1) := by decide +kernel
theorem dX3_find_21 : decode cX3_find 21 = .ok (.iload 4, 2) := by decide +kernel
theorem dX3_find_23 : decode cX3_find 23 = .ok (.invokevirtual 28, 3) := by decide +kernel
theorem dX3_find_26 : decode cX3_find 26 = .ok (.invokevirtual 32, 3) := by decide +kernel
theorem dX3_find_29 : decode cX3_find 29 = .ok (.iinc 4 1, 3) := by decide +kernel
theorem dX3_find_32 : decode cX3_find 32 = .ok (.goto (-25), 3) := by decide +kernel
theorem dX3_find_35 : decode cX3_find 35 = .ok (.iconst 0, 1) := by decide +kernel
theorem dX3_find_36 : decode cX3_find 36 = .ok (.istore 4, 2) := by decide +kernel
theorem dX3_find_38 : decode cX3_find 38 = .ok (.iload 4, 2) := by decide +kernel
theorem dX3_find_40 : decode cX3_find 40 = .ok (.bipush 120, 2) := by decide +kernel
theorem dX3_find_42 : decode cX3_find 42 = .ok (.if_icmp .ge 45, 3) := by decide +kernel
theorem dX3_find_45 : decode cX3_find 45 = .ok (.iload 4, 2) := by decide +kernel
theorem dX3_find_47 : decode cX3_find 47 = .ok (.aload_n 0, 1) := by decide +kernel
theorem dX3_find_48 : decode cX3_find 48 = .ok (.getfield 36, 3) := by decide +kernel
theorem dX3_find_51 : decode cX3_find 51 = .ok (.if_icmp .lt 8, 3) := by decide +kernel
theorem dX3_find_54 : decode cX3_find 54 = .ok (.aload_n 0, 1) := by decide +kernel
theorem dX3_find_55 : decode cX3_find 55 = .ok (.aload_n 3, 1) := by decide +kernel
theorem dX3_find_56 : decode cX3_find 56 = .ok (.invokevirtual 39, 3) := by decide +kernel
theorem dX3_find_59 : decode cX3_find 59 = .ok (.iload 4, 2) := by decide +kernel
theorem dX3_find_61 : decode cX3_find 61 = .ok (.aload_n 0, 1) := by decide +kernel
theorem dX3_find_62 : decode cX3_find 62 = .ok (.getfield 36, 3) := by decide +kernel
theorem dX3_find_65 : decode cX3_find 65 = .ok (.if_icmp .lt 4, 3) := by decide +kernel
theorem dX3_find_68 : decode cX3_find 68 = .ok (.return_, 1) := by decide +kernel
theorem dX3_find_69 : decode cX3_find 69 = .ok (.aload_n 0, 1) := by decide +kernel
theorem dX3_find_70 : decode cX3_find 70 = .ok (.aload_n 1, 1) := by decide +kernel
theorem dX3_find_71 : decode cX3_find 71 = .ok (.aload_n 0, 1) := by decide +kernel
theorem dX3_find_72 : decode cX3_find 72 = .ok (.getfield 15, 3) := by decide +kernel
theorem dX3_find_75 : decode cX3_find 75 = .ok (.iload 4, 2) := by decide +kernel
theorem dX3_find_77 : decode cX3_find 77 = .ok (.iaload, 1) := by decide +kernel
theorem dX3_find_78 : decode cX3_find 78 = .ok (.invokevirtual 43, 3) := by decide +kernel
theorem dX3_find_81 : decode cX3_find 81 = .ok (.iinc 4 1, 3) := by decide +kernel
theorem dX3_find_84 : decode cX3_find 84 = .ok (.goto (-46), 3) := by decide +kernel
theorem dX3_find_87 : decode cX3_find 87 = .ok (.return_, 1) := by decide +kernel
theorem dX3_forget_0 : decode cX3_forget 0 = .ok (.iconst 0, 1) := by decide +kernel
theorem dX3_forget_1 : decode cX3_forget 1 = .ok (.istore_n 1, 1) := by decide +kernel
theorem dX3_forget_2 : decode cX3_forget 2 = .ok (.iload_n 1, 1) := by decide +kernel
theorem dX3_forget_3 : decode cX3_forget 3 = .ok (.bipush 120, 2) := by decide +kernel
theorem dX3_forget_5 : decode cX3_forget 5 = .ok (.if_icmp .ge 16, 3) := by decide +kernel
theorem dX3_forget_8 : decode cX3_forget 8 = .ok (.aload_n 0, 1) := by decide +kernel
theorem dX3_forget_9 : decode cX3_forget 9 = .ok (.getfield 9, 3) := by decide +kernel
theorem dX3_forget_12 : decode cX3_forget 12 = .ok (.iload_n 1, 1) := by decide +kernel
theorem dX3_forget_13 : decode cX3_forget 13 = .ok (.iconst 0, 1) := by decide +kernel
theorem dX3_forget_14 : decode cX3_forget 14 = .ok (.bastore, 1) := by decide +kernel
theorem dX3_forget_15 : decode cX3_forget 15 = .ok (.iinc 1 1, 3) := by decide +kernel
theorem dX3_forget_18 : decode cX3_forget 18 = .ok (.goto (-16), 3) := by decide +kernel
theorem dX3_forget_21 : decode cX3_forget 21 = .ok (.aload_n 0, 1) := by decide +kernel
theorem dX3_forget_22 : decode cX3_forget 22 = .ok (.iconst 0, 1) := by decide +kernel
theorem dX3_forget_23 : decode cX3_forget 23 = .ok (.putfield 36, 3) := by decide +kernel
theorem dX3_forget_26 : decode cX3_forget 26 = .ok (.return_, 1) := by decide +kernel
theorem dX3_add_0 : decode cX3_add 0 = .ok (.iload_n 1, 1) := by decide +kernel
theorem dX3_add_1 : decode cX3_add 1 = .ok (.ifCond .lt 27, 3) := by decide +kernel
theorem dX3_add_4 : decode cX3_add 4 = .ok (.iload_n 1, 1) := by decide +kernel
theorem dX3_add_5 : decode cX3_add 5 = .ok (.bipush 120, 2) := by decide +kernel
theorem dX3_add_7 : decode cX3_add 7 = .ok (.if_icmp .ge 21, 3) := by decide +kernel
theorem dX3_add_10 : decode cX3_add 10 = .ok (.aload_n 0, 1) := by decide +kernel
theorem dX3_add_11 : decode cX3_add 11 = .ok (.getfield 9, 3) := by decide +kernel
theorem dX3_add_14 : decode cX3_add 14 = .ok (.iload_n 1, 1) := by decide +kernel
theorem dX3_add_15 : decode cX3_add 15 = .ok (.baload, 1) := by decide +kernel
theorem dX3_add_16 : decode cX3_add 16 = .ok (.ifCond .ne 12, 3) := by decide +kernel
theorem dX3_add_19 : decode cX3_add 19 = .ok (.aload_n 0, 1) := by decide +kernel
theorem dX3_add_20 : decode cX3_add 20 = .ok (.getfield 36, 3) := by decide +kernel
theorem dX3_add_23 : decode cX3_add 23 = .ok (.bipush 120, 2) := by decide +kernel
theorem dX3_add_25 : decode cX3_add 25 = .ok (.if_icmp .lt 4, 3) := by decide +kernel
theorem dX3_add_28 : decode cX3_add 28 = .ok (.return_, 1) := by decide +kernel
theorem dX3_add_29 : decode cX3_add 29 = .ok (.aload_n 0, 1) := by decide +kernel
theorem dX3_add_30 : decode cX3_add 30 = .ok (.getfield 9, 3) := by decide +kernel
theorem dX3_add_33 : decode cX3_add 33 = .ok (.iload_n 1, 1) := by decide +kernel
theorem dX3_add_34 : decode cX3_add 34 = .ok (.iconst 1, 1) := by decide +kernel
theorem dX3_add_35 : decode cX3_add 35 = .ok (.bastore, 1) := by decide +kernel
theorem dX3_add_36 : decode cX3_add 36 = .ok (.aload_n 0, 1) := by decide +kernel
theorem dX3_add_37 : decode cX3_add 37 = .ok (.getfield 15, 3) := by decide +kernel
theorem dX3_add_40 : decode cX3_add 40 = .ok (.aload_n 0, 1) := by decide +kernel
theorem dX3_add_41 : decode cX3_add 41 = .ok (.getfield 36, 3) := by decide +kernel
theorem dX3_add_44 : decode cX3_add 44 = .ok (.iload_n 1, 1) := by decide +kernel
theorem dX3_add_45 : decode cX3_add 45 = .ok (.iastore, 1) := by decide +kernel
theorem dX3_add_46 : decode cX3_add 46 = .ok (.aload_n 0, 1) := by decide +kernel
theorem dX3_add_47 : decode cX3_add 47 = .ok (.dup, 1) := by decide +kernel
theorem dX3_add_48 : decode cX3_add 48 = .ok (.getfield 36, 3) := by decide +kernel
theorem dX3_add_51 : decode cX3_add 51 = .ok (.iconst 1, 1) := by decide +kernel
theorem dX3_add_52 : decode cX3_add 52 = .ok (.iadd, 1) := by decide +kernel
theorem dX3_add_53 : decode cX3_add 53 = .ok (.putfield 36, 3) := by decide +kernel
theorem dX3_add_56 : decode cX3_add 56 = .ok (.return_, 1) := by decide +kernel
theorem dX3_addFields_0 : decode cX3_addFields 0 = .ok (.aload_n 1, 1) := by decide +kernel
theorem dX3_addFields_1 : decode cX3_addFields 1 = .ok (.iload_n 2, 1) := by decide +kernel
theorem dX3_addFields_2 : decode cX3_addFields 2 = .ok (.invokevirtual 47, 3) := by decide +kernel
theorem dX3_addFields_5 : decode cX3_addFields 5 = .ok (.ifCond .eq 4, 3) := by decide +kernel
theorem dX3_addFields_8 : decode cX3_addFields 8 = .ok (.return_, 1) := by decide +kernel
theorem dX3_addFields_9 : decode cX3_addFields 9 = .ok (.iconst 0, 1) := by decide +kernel
theorem dX3_addFields_10 : decode cX3_addFields 10 = .ok (.istore_n 3, 1) := by decide +kernel
theorem dX3_addFields_11 : decode cX3_addFields 11 = .ok (.iload_n 3, 1) := by decide +kernel
theorem dX3_addFields_12 : decode cX3_addFields 12 = .ok (.bipush 6, 2) := by decide +kernel
theorem dX3_addFields_14 : decode cX3_addFields 14 = .ok (.if_icmp .ge 19, 3) := by decide +kernel
theorem dX3_addFields_17 : decode cX3_addFields 17 = .ok (.aload_n 0, 1) := by decide +kernel
theorem dX3_addFields_18 : decode cX3_addFields 18 = .ok (.aload_n 1, 1) := by decide +kernel
theorem dX3_addFields_19 : decode cX3_addFields 19 = .ok (.iload_n 2, 1) := by decide +kernel
theorem dX3_addFields_20 : decode cX3_addFields 20 = .ok (.iload_n 3, 1) := by decide +kernel
theorem dX3_addFields_21 : decode cX3_addFields 21 = .ok (.invokevirtual 53, 3) := by decide +kernel
theorem dX3_addFields_24 : decode cX3_addFields 24 = .ok (.invokevirtual 32, 3) := by decide +kernel
theorem dX3_addFields_27 : decode cX3_addFields 27 = .ok (.iinc 3 1, 3) := by decide +kernel
theorem dX3_addFields_30 : decode cX3_addFields 30 = .ok (.goto (-19), 3) := by decide +kernel
theorem dX3_addFields_33 : decode cX3_addFields 33 = .ok (.return_, 1) := by decide +kernel
theorem dX3_addValues_0 : decode cX3_addValues 0 = .ok (.iconst 0, 1) := by decide +kernel
theorem dX3_addValues_1 : decode cX3_addValues 1 = .ok (.istore_n 2, 1) := by decide +kernel
theorem dX3_addValues_2 : decode cX3_addValues 2 = .ok (.iload_n 2, 1) := by decide +kernel
theorem dX3_addValues_3 : decode cX3_addValues 3 = .ok (.aload_n 1, 1) := by decide +kernel
theorem dX3_addValues_4 : decode cX3_addValues 4 = .ok (.getfield 57, 3) := by decide +kernel
theorem dX3_addValues_7 : decode cX3_addValues 7 = .ok (.if_icmp .ge 30, 3) := by decide +kernel
theorem dX3_addValues_10 : decode cX3_addValues 10 = .ok (.aload_n 0, 1) := by decide +kernel
theorem dX3_addValues_11 : decode cX3_addValues 11 = .ok (.aload_n 1, 1) := by decide +kernel
theorem dX3_addValues_12 : decode cX3_addValues 12 = .ok (.iload_n 2, 1) := by decide +kernel
theorem dX3_addValues_13 : decode cX3_addValues 13 = .ok (.invokevirtual 62, 3) := by decide +kernel
theorem dX3_addValues_16 : decode cX3_addValues 16 = .ok (.invokevirtual 65, 3) := by decide +kernel
theorem dX3_addValues_19 : decode cX3_addValues 19 = .ok (.ifCond .eq 12, 3) := by decide +kernel
theorem dX3_addValues_22 : decode cX3_addValues 22 = .ok (.aload_n 0, 1) := by decide +kernel
theorem dX3_addValues_23 : decode cX3_addValues 23 = .ok (.aload_n 1, 1) := by decide +kernel
theorem dX3_addValues_24 : decode cX3_addValues 24 = .ok (.iload_n 2, 1) := by decide +kernel
theorem dX3_addValues_25 : decode cX3_addValues 25 = .ok (.invokevirtual 68, 3) := by decide +kernel
theorem dX3_addValues_28 : decode cX3_addValues 28 = .ok (.invokevirtual 32, 3) := by decide +kernel
theorem dX3_addValues_31 : decode cX3_addValues 31 = .ok (.iinc 2 1, 3) := by decide +kernel
theorem dX3_addValues_34 : decode cX3_addValues 34 = .ok (.goto (-32), 3) := by decide +kernel
theorem dX3_addValues_37 : decode cX3_addValues 37 = .ok (.return_, 1) := by decide +kernel
theorem dX4_init_0 : decode cX4_init 0 = .ok (.aload_n 0, 1) := by decide +kernel
theorem dX4_init_1 : decode cX4_init 1 = .ok (.invokespecial 3, 3) := by decide +kernel
theorem dX4_init_4 : decode cX4_init 4 = .ok (.aload_n 0, 1) := by decide +kernel
theorem dX4_init_5 : decode cX4_init 5 = .ok (.bipush 120, 2) := by decide +kernel
theorem dX4_init_7 : decode cX4_init 7 = .ok (.newarray .int, 2) := by decide +kernel
theorem dX4_init_9 : decode cX4_init 9 = .ok (.putfield 9, 3) := by decide +kernel
theorem dX4_init_12 : decode cX4_init 12 = .ok (.aload_n 0, 1) := by decide +kernel
theorem dX4_init_13 : decode cX4_init 13 = .ok (.bipush 120, 2) := by decide +kernel
theorem dX4_init_15 : decode cX4_init 15 = .ok (.newarray .int, 2) := by decide +kernel
theorem dX4_init_17 : decode cX4_init 17 = .ok (.putfield 15, 3) := by decide +kernel
theorem dX4_init_20 : decode cX4_init 20 = .ok (.aload_n 0, 1) := by decide +kernel
theorem dX4_init_21 : decode cX4_init 21 = .ok (.bipush 120, 2) := by decide +kernel
theorem dX4_init_23 : decode cX4_init 23 = .ok (.newarray .int, 2) := by decide +kernel
theorem dX4_init_25 : decode cX4_init 25 = .ok (.putfield 18, 3) := by decide +kernel
theorem dX4_init_28 : decode cX4_init 28 = .ok (.aload_n 0, 1) := by decide +kernel
theorem dX4_init_29 : decode cX4_init 29 = .ok (.bipush 120, 2) := by decide +kernel
theorem dX4_init_31 : decode cX4_init 31 = .ok (.newarray .int, 2) := by decide +kernel
theorem dX4_init_33 : decode cX4_init 33 = .ok (.putfield 21, 3) := by decide +kernel
theorem dX4_init_36 : decode cX4_init 36 = .ok (.aload_n 0, 1) := by decide +kernel
theorem dX4_init_37 : decode cX4_init 37 = .ok (.bipush 120, 2) := by decide +kernel
theorem dX4_init_39 : decode cX4_init 39 = .ok (.newarray .boolean, 2) := by decide +kernel
theorem dX4_init_41 : decode cX4_init 41 = .ok (.putfield 24, 3) := by decide +kernel
theorem dX4_init_44 : decode cX4_init 44 = .ok (.aload_n 0, 1) := by decide +kernel
theorem dX4_init_45 : decode cX4_init 45 = .ok (.bipush 120, 2) := by decide +kernel
theorem dX4_init_47 : decode cX4_init 47 = .ok (.newarray .boolean, 2) := by decide +kernel
theorem dX4_init_49 : decode cX4_init 49 = .ok (.putfield 28, 3) := by decide +kernel
theorem dX4_init_52 : decode cX4_init 52 = .ok (.aload_n 0, 1) := by decide +kernel
theorem dX4_init_53 : decode cX4_init 53 = .ok (.sipush 720, 3) := by decide +kernel
theorem dX4_init_56 : decode cX4_init 56 = .ok (.newarray .int, 2) := by decide +kernel
theorem dX4_init_58 : decode cX4_init 58 = .ok (.putfield 31, 3) := by decide +kernel
theorem dX4_init_61 : decode cX4_init 61 = .ok (.return_, 1) := by decide +kernel
theorem dX4_add_0 : decode cX4_add 0 = .ok (.aload_n 0, 1) := by decide +kernel
theorem dX4_add_1 : decode cX4_add 1 = .ok (.getfield 34, 3) := by decide +kernel
theorem dX4_add_4 : decode cX4_add 4 = .ok (.ifCond .lt 12, 3) := by decide +kernel
theorem dX4_add_7 : decode cX4_add 7 = .ok (.aload_n 0, 1) := by decide +kernel
theorem dX4_add_8 : decode cX4_add 8 = .ok (.getfield 34, 3) := by decide +kernel
theorem dX4_add_11 : decode cX4_add 11 = .ok (.bipush 120, 2) := by decide +kernel
theorem dX4_add_13 : decode cX4_add 13 = .ok (.if_icmp .lt 5, 3) := by decide +kernel
theorem dX4_add_16 : decode cX4_add 16 = .ok (.iconst (-1), 1) := by decide +kernel
theorem dX4_add_17 : decode cX4_add 17 = .ok (.ireturn, 1) := by decide +kernel
theorem dX4_add_18 : decode cX4_add 18 = .ok (.aload_n 0, 1) := by decide +kernel
theorem dX4_add_19 : decode cX4_add 19 = .ok (.getfield 34, 3) := by decide +kernel
theorem dX4_add_22 : decode cX4_add 22 = .ok (.istore 5, 2) := by decide +kernel
theorem dX4_add_24 : decode cX4_add 24 = .ok (.aload_n 0, 1) := by decide +kernel
theorem dX4_add_25 : decode cX4_add 25 = .ok (.getfield 9, 3) := by decide +kernel
theorem dX4_add_28 : decode cX4_add 28 = .ok (.iload 5, 2) := by decide +kernel
theorem dX4_add_30 : decode cX4_add 30 = .ok (.iload_n 1, 1) := by decide +kernel
theorem dX4_add_31 : decode cX4_add 31 = .ok (.iconst 1, 1) := by decide +kernel
theorem dX4_add_32 : decode cX4_add 32 = .ok (.iadd, 1) := by decide +kernel
theorem dX4_add_33 : decode cX4_add 33 = .ok (.iastore, 1) := by decide +kernel
theorem dX4_add_34 : decode cX4_add 34 = .ok (.aload_n 0, 1) := by decide +kernel
theorem dX4_add_35 : decode cX4_add 35 = .ok (.getfield 15, 3) := by decide +kernel
theorem dX4_add_38 : decode cX4_add 38 = .ok (.iload 5, 2) := by decide +kernel
theorem dX4_add_40 : decode cX4_add 40 = .ok (.iload 4, 2) := by decide +kernel
theorem dX4_add_42 : decode cX4_add 42 = .ok (.iastore, 1) := by decide +kernel
theorem dX4_add_43 : decode cX4_add 43 = .ok (.aload_n 0, 1) := by decide +kernel
theorem dX4_add_44 : decode cX4_add 44 = .ok (.getfield 18, 3) := by decide +kernel
theorem dX4_add_47 : decode cX4_add 47 = .ok (.iload 5, 2) := by decide +kernel
theorem dX4_add_49 : decode cX4_add 49 = .ok (.iload_n 3, 1) := by decide +kernel
theorem dX4_add_50 : decode cX4_add 50 = .ok (.iastore, 1) := by decide +kernel
theorem dX4_add_51 : decode cX4_add 51 = .ok (.aload_n 0, 1) := by decide +kernel
theorem dX4_add_52 : decode cX4_add 52 = .ok (.getfield 21, 3) := by decide +kernel
theorem dX4_add_55 : decode cX4_add 55 = .ok (.iload 5, 2) := by decide +kernel
theorem dX4_add_57 : decode cX4_add 57 = .ok (.iconst 0, 1) := by decide +kernel
theorem dX4_add_58 : decode cX4_add 58 = .ok (.iastore, 1) := by decide +kernel
theorem dX4_add_59 : decode cX4_add 59 = .ok (.aload_n 0, 1) := by decide +kernel
theorem dX4_add_60 : decode cX4_add 60 = .ok (.getfield 24, 3) := by decide +kernel
theorem dX4_add_63 : decode cX4_add 63 = .ok (.iload 5, 2) := by decide +kernel
theorem dX4_add_65 : decode cX4_add 65 = .ok (.iconst 0, 1) := by decide +kernel
theorem dX4_add_66 : decode cX4_add 66 = .ok (.bastore, 1) := by decide +kernel
theorem dX4_add_67 : decode cX4_add 67 = .ok (.aload_n 0, 1) := by decide +kernel
theorem dX4_add_68 : decode cX4_add 68 = .ok (.getfield 28, 3) := by decide +kernel
theorem dX4_add_71 : decode cX4_add 71 = .ok (.iload 5, 2) := by decide +kernel
theorem dX4_add_73 : decode cX4_add 73 = .ok (.iload_n 2, 1) := by decide +kernel
theorem dX4_add_74 : decode cX4_add 74 = .ok (.bastore, 1) := by decide +kernel
theorem dX4_add_75 : decode cX4_add 75 = .ok (.iconst 0, 1) := by decide +kernel
theorem dX4_add_76 : decode cX4_add 76 = .ok (.istore 6, 2) := by decide +kernel
theorem dX4_add_78 : decode cX4_add 78 = .ok (.iload 6, 2) := by decide +kernel
theorem dX4_add_80 : decode cX4_add 80 = .ok (.bipush 6, 2) := by decide +kernel
theorem dX4_add_82 : decode cX4_add 82 = .ok (.if_icmp .ge 23, 3) := by decide +kernel
theorem dX4_add_85 : decode cX4_add 85 = .ok (.aload_n 0, 1) := by decide +kernel
theorem dX4_add_86 : decode cX4_add 86 = .ok (.getfield 31, 3) := by decide +kernel
theorem dX4_add_89 : decode cX4_add 89 = .ok (.iload 5, 2) := by decide +kernel
theorem dX4_add_91 : decode cX4_add 91 = .ok (.bipush 6, 2) := by decide +kernel
theorem dX4_add_93 : decode cX4_add 93 = .ok (.imul, 1) := by decide +kernel
theorem dX4_add_94 : decode cX4_add 94 = .ok (.iload 6, 2) := by decide +kernel
theorem dX4_add_96 : decode cX4_add 96 = .ok (.iadd, 1) := by decide +kernel
theorem dX4_add_97 : decode cX4_add 97 = .ok (.iconst (-1), 1) := by decide +kernel
theorem dX4_add_98 : decode cX4_add 98 = .ok (.iastore, 1) := by decide +kernel
theorem dX4_add_99 : decode cX4_add 99 = .ok (.iinc 6 1, 3) := by decide +kernel
theorem dX4_add_102 : decode cX4_add 102 = .ok (.goto (-24), 3) := by decide +kernel
theorem dX4_add_105 : decode cX4_add 105 = .ok (.aload_n 0, 1) := by decide +kernel
theorem dX4_add_106 : decode cX4_add 106 = .ok (.dup, 1) := by decide +kernel
theorem dX4_add_107 : decode cX4_add 107 = .ok (.getfield 34, 3) := by decide +kernel
theorem dX4_add_110 : decode cX4_add 110 = .ok (.iconst 1, 1) := by decide +kernel
theorem dX4_add_111 : decode cX4_add 111 = .ok (.iadd, 1) := by decide +kernel
theorem dX4_add_112 : decode cX4_add 112 = .ok (.putfield 34, 3) := by decide +kernel
theorem dX4_add_115 : decode cX4_add 115 = .ok (.iload 5, 2) := by decide +kernel
theorem dX4_add_117 : decode cX4_add 117 = .ok (.ireturn, 1) := by decide +kernel
theorem dX4_isThing_0 : decode cX4_isThing 0 = .ok (.iload_n 1, 1) := by decide +kernel
theorem dX4_isThing_1 : decode cX4_isThing 1 = .ok (.ifCond .lt 21, 3) := by decide +kernel
theorem dX4_isThing_4 : decode cX4_isThing 4 = .ok (.iload_n 1, 1) := by decide +kernel
theorem dX4_isThing_5 : decode cX4_isThing 5 = .ok (.aload_n 0, 1) := by decide +kernel
theorem dX4_isThing_6 : decode cX4_isThing 6 = .ok (.getfield 34, 3) := by decide +kernel
theorem dX4_isThing_9 : decode cX4_isThing 9 = .ok (.if_icmp .ge 13, 3) := by decide +kernel
theorem dX4_isThing_12 : decode cX4_isThing 12 = .ok (.iload_n 1, 1) := by decide +kernel
theorem dX4_isThing_13 : decode cX4_isThing 13 = .ok (.bipush 120, 2) := by decide +kernel
theorem dX4_isThing_15 : decode cX4_isThing 15 = .ok (.if_icmp .ge 7, 3) := by decide +kernel
theorem dX4_isThing_18 : decode cX4_isThing 18 = .ok (.iconst 1, 1) := by decide +kernel
theorem dX4_isThing_19 : decode cX4_isThing 19 = .ok (.goto 4, 3) := by decide +kernel
theorem dX4_isThing_22 : decode cX4_isThing 22 = .ok (.iconst 0, 1) := by decide +kernel
theorem dX4_isThing_23 : decode cX4_isThing 23 = .ok (.ireturn, 1) := by decide +kernel
theorem dX4_sizeOf_0 : decode cX4_sizeOf 0 = .ok (.aload_n 0, 1) := by decide +kernel
theorem dX4_sizeOf_1 : decode cX4_sizeOf 1 = .ok (.iload_n 1, 1) := by decide +kernel
theorem dX4_sizeOf_2 : decode cX4_sizeOf 2 = .ok (.invokevirtual 38, 3) := by decide +kernel
theorem dX4_sizeOf_5 : decode cX4_sizeOf 5 = .ok (.ifCond .eq 12, 3) := by decide +kernel
theorem dX4_sizeOf_8 : decode cX4_sizeOf 8 = .ok (.aload_n 0, 1) := by decide +kernel
theorem dX4_sizeOf_9 : decode cX4_sizeOf 9 = .ok (.getfield 9, 3) := by decide +kernel
theorem dX4_sizeOf_12 : decode cX4_sizeOf 12 = .ok (.iload_n 1, 1) := by decide +kernel
theorem dX4_sizeOf_13 : decode cX4_sizeOf 13 = .ok (.iaload, 1) := by decide +kernel
theorem dX4_sizeOf_14 : decode cX4_sizeOf 14 = .ok (.goto 4, 3) := by decide +kernel
theorem dX4_sizeOf_17 : decode cX4_sizeOf 17 = .ok (.iconst 0, 1) := by decide +kernel
theorem dX4_sizeOf_18 : decode cX4_sizeOf 18 = .ok (.ireturn, 1) := by decide +kernel
theorem dX4_fieldsOf_0 : decode cX4_fieldsOf 0 = .ok (.aload_n 0, 1) := by decide +kernel
theorem dX4_fieldsOf_1 : decode cX4_fieldsOf 1 = .ok (.iload_n 1, 1) := by decide +kernel
theorem dX4_fieldsOf_2 : decode cX4_fieldsOf 2 = .ok (.invokevirtual 38, 3) := by decide +kernel
theorem dX4_fieldsOf_5 : decode cX4_fieldsOf 5 = .ok (.ifCond .eq 14, 3) := by decide +kernel
theorem dX4_fieldsOf_8 : decode cX4_fieldsOf 8 = .ok (.aload_n 0, 1) := by decide +kernel
theorem dX4_fieldsOf_9 : decode cX4_fieldsOf 9 = .ok (.getfield 9, 3) := by decide +kernel
theorem dX4_fieldsOf_12 : decode cX4_fieldsOf 12 = .ok (.iload_n 1, 1) := by decide +kernel
theorem dX4_fieldsOf_13 : decode cX4_fieldsOf 13 = .ok (.iaload, 1) := by decide +kernel
theorem dX4_fieldsOf_14 : decode cX4_fieldsOf 14 = .ok (.iconst 1, 1) := by decide +kernel
theorem dX4_fieldsOf_15 : decode cX4_fieldsOf 15 = .ok (.isub, 1) := by decide +kernel
theorem dX4_fieldsOf_16 : decode cX4_fieldsOf 16 = .ok (.goto 4, 3) := by decide +kernel
theorem dX4_fieldsOf_19 : decode cX4_fieldsOf 19 = .ok (.iconst 0, 1) := by decide +kernel
theorem dX4_fieldsOf_20 : decode cX4_fieldsOf 20 = .ok (.ireturn, 1) := by decide +kernel
theorem dX4_placeOf_0 : decode cX4_placeOf 0 = .ok (.aload_n 0, 1) := by decide +kernel
theorem dX4_placeOf_1 : decode cX4_placeOf 1 = .ok (.iload_n 1, 1) := by decide +kernel
theorem dX4_placeOf_2 : decode cX4_placeOf 2 = .ok (.invokevirtual 38, 3) := by decide +kernel
theorem dX4_placeOf_5 : decode cX4_placeOf 5 = .ok (.ifCond .eq 12, 3) := by decide +kernel
theorem dX4_placeOf_8 : decode cX4_placeOf 8 = .ok (.aload_n 0, 1) := by decide +kernel
theorem dX4_placeOf_9 : decode cX4_placeOf 9 = .ok (.getfield 15, 3) := by decide +kernel
theorem dX4_placeOf_12 : decode cX4_placeOf 12 = .ok (.iload_n 1, 1) := by decide +kernel
theorem dX4_placeOf_13 : decode cX4_placeOf 13 = .ok (.iaload, 1) := by decide +kernel
theorem dX4_placeOf_14 : decode cX4_placeOf 14 = .ok (.goto 4, 3) := by decide +kernel
theorem dX4_placeOf_17 : decode cX4_placeOf 17 = .ok (.iconst (-1), 1) := by decide +kernel
theorem dX4_placeOf_18 : decode cX4_placeOf 18 = .ok (.ireturn, 1) := by decide +kernel
theorem dX4_colourOf_0 : decode cX4_colourOf 0 = .ok (.aload_n 0, 1) := by decide +kernel
theorem dX4_colourOf_1 : decode cX4_colourOf 1 = .ok (.iload_n 1, 1) := by decide +kernel
theorem dX4_colourOf_2 : decode cX4_colourOf 2 = .ok (.invokevirtual 38, 3) := by decide +kernel
theorem dX4_colourOf_5 : decode cX4_colourOf 5 = .ok (.ifCond .eq 12, 3) := by decide +kernel
theorem dX4_colourOf_8 : decode cX4_colourOf 8 = .ok (.aload_n 0, 1) := by decide +kernel
theorem dX4_colourOf_9 : decode cX4_colourOf 9 = .ok (.getfield 18, 3) := by decide +kernel
theorem dX4_colourOf_12 : decode cX4_colourOf 12 = .ok (.iload_n 1, 1) := by decide +kernel
theorem dX4_colourOf_13 : decode cX4_colourOf 13 = .ok (.iaload, 1) := by decide +kernel
theorem dX4_colourOf_14 : decode cX4_colourOf 14 = .ok (.goto 4, 3) := by decide +kernel
theorem dX4_colourOf_17 : decode cX4_colourOf 17 = .ok (.iconst (-1), 1) := by decide +kernel
theorem dX4_colourOf_18 : decode cX4_colourOf 18 = .ok (.ireturn, 1) := by decide +kernel
theorem dX4_movesOf_0 : decode cX4_movesOf 0 = .ok (.aload_n 0, 1) := by decide +kernel
theorem dX4_movesOf_1 : decode cX4_movesOf 1 = .ok (.iload_n 1, 1) := by decide +kernel
theorem dX4_movesOf_2 : decode cX4_movesOf 2 = .ok (.invokevirtual 38, 3) := by decide +kernel
theorem dX4_movesOf_5 : decode cX4_movesOf 5 = .ok (.ifCond .eq 12, 3) := by decide +kernel
theorem dX4_movesOf_8 : decode cX4_movesOf 8 = .ok (.aload_n 0, 1) := by decide +kernel
theorem dX4_movesOf_9 : decode cX4_movesOf 9 = .ok (.getfield 21, 3) := by decide +kernel
theorem dX4_movesOf_12 : decode cX4_movesOf 12 = .ok (.iload_n 1, 1) := by decide +kernel
theorem dX4_movesOf_13 : decode cX4_movesOf 13 = .ok (.iaload, 1) := by decide +kernel
theorem dX4_movesOf_14 : decode cX4_movesOf 14 = .ok (.goto 4, 3) := by decide +kernel
theorem dX4_movesOf_17 : decode cX4_movesOf 17 = .ok (.iconst 0, 1) := by decide +kernel
theorem dX4_movesOf_18 : decode cX4_movesOf 18 = .ok (.ireturn, 1) := by decide +kernel
theorem dX4_isWhite_0 : decode cX4_isWhite 0 = .ok (.aload_n 0, 1) := by decide +kernel
theorem dX4_isWhite_1 : decode cX4_isWhite 1 = .ok (.iload_n 1, 1) := by decide +kernel
theorem dX4_isWhite_2 : decode cX4_isWhite 2 = .ok (.invokevirtual 38, 3) := by decide +kernel
theorem dX4_isWhite_5 : decode cX4_isWhite 5 = .ok (.ifCond .eq 16, 3) := by decide +kernel
theorem dX4_isWhite_8 : decode cX4_isWhite 8 = .ok (.aload_n 0, 1) := by decide +kernel
theorem dX4_isWhite_9 : decode cX4_isWhite 9 = .ok (.getfield 18, 3) := by decide +kernel
theorem dX4_isWhite_12 : decode cX4_isWhite 12 = .ok (.iload_n 1, 1) := by decide +kernel
theorem dX4_isWhite_13 : decode cX4_isWhite 13 = .ok (.iaload, 1) := by decide +kernel
theorem dX4_isWhite_14 : decode cX4_isWhite 14 = .ok (.ifCond .ne 7, 3) := by decide +kernel
theorem dX4_isWhite_17 : decode cX4_isWhite 17 = .ok (.iconst 1, 1) := by decide +kernel
theorem dX4_isWhite_18 : decode cX4_isWhite 18 = .ok (.goto 4, 3) := by decide +kernel
theorem dX4_isWhite_21 : decode cX4_isWhite 21 = .ok (.iconst 0, 1) := by decide +kernel
theorem dX4_isWhite_22 : decode cX4_isWhite 22 = .ok (.ireturn, 1) := by decide +kernel
theorem dX4_isFreed_0 : decode cX4_isFreed 0 = .ok (.aload_n 0, 1) := by decide +kernel
theorem dX4_isFreed_1 : decode cX4_isFreed 1 = .ok (.iload_n 1, 1) := by decide +kernel
theorem dX4_isFreed_2 : decode cX4_isFreed 2 = .ok (.invokevirtual 38, 3) := by decide +kernel
theorem dX4_isFreed_5 : decode cX4_isFreed 5 = .ok (.ifCond .eq 16, 3) := by decide +kernel
theorem dX4_isFreed_8 : decode cX4_isFreed 8 = .ok (.aload_n 0, 1) := by decide +kernel
theorem dX4_isFreed_9 : decode cX4_isFreed 9 = .ok (.getfield 24, 3) := by decide +kernel
theorem dX4_isFreed_12 : decode cX4_isFreed 12 = .ok (.iload_n 1, 1) := by decide +kernel
theorem dX4_isFreed_13 : decode cX4_isFreed 13 = .ok (.baload, 1) := by decide +kernel
theorem dX4_isFreed_14 : decode cX4_isFreed 14 = .ok (.ifCond .eq 7, 3) := by decide +kernel
theorem dX4_isFreed_17 : decode cX4_isFreed 17 = .ok (.iconst 1, 1) := by decide +kernel
theorem dX4_isFreed_18 : decode cX4_isFreed 18 = .ok (.goto 4, 3) := by decide +kernel
theorem dX4_isFreed_21 : decode cX4_isFreed 21 = .ok (.iconst 0, 1) := by decide +kernel
theorem dX4_isFreed_22 : decode cX4_isFreed 22 = .ok (.ireturn, 1) := by decide +kernel
theorem dX4_hasWish_0 : decode cX4_hasWish 0 = .ok (.aload_n 0, 1) := by decide +kernel
theorem dX4_hasWish_1 : decode cX4_hasWish 1 = .ok (.iload_n 1, 1) := by decide +kernel
theorem dX4_hasWish_2 : decode cX4_hasWish 2 = .ok (.invokevirtual 38, 3) := by decide +kernel
theorem dX4_hasWish_5 : decode cX4_hasWish 5 = .ok (.ifCond .eq 16, 3) := by decide +kernel
theorem dX4_hasWish_8 : decode cX4_hasWish 8 = .ok (.aload_n 0, 1) := by decide +kernel
theorem dX4_hasWish_9 : decode cX4_hasWish 9 = .ok (.getfield 28, 3) := by decide +kernel
theorem dX4_hasWish_12 : decode cX4_hasWish 12 = .ok (.iload_n 1, 1) := by decide +kernel
theorem dX4_hasWish_13 : decode cX4_hasWish 13 = .ok (.baload, 1) := by decide +kernel
theorem dX4_hasWish_14 : decode cX4_hasWish 14 = .ok (.ifCond .eq 7, 3) := by decide +kernel
theorem dX4_hasWish_17 : decode cX4_hasWish 17 = .ok (.iconst 1, 1) := by decide +kernel
theorem dX4_hasWish_18 : decode cX4_hasWish 18 = .ok (.goto 4, 3) := by decide +kernel
theorem dX4_hasWish_21 : decode cX4_hasWish 21 = .ok (.iconst 0, 1) := by decide +kernel
theorem dX4_hasWish_22 : decode cX4_hasWish 22 = .ok (.ireturn, 1) := by decide +kernel
theorem dX4_hasField_0 : decode cX4_hasField 0 = .ok (.aload_n 0, 1) := by decide +kernel
theorem dX4_hasField_1 : decode cX4_hasField 1 = .ok (.iload_n 1, 1) := by decide +kernel
theorem dX4_hasField_2 : decode cX4_hasField 2 = .ok (.invokevirtual 38, 3) := by decide +kernel
theorem dX4_hasField_5 : decode cX4_hasField 5 = .ok (.ifCond .eq 29, 3) := by decide +kernel
theorem dX4_hasField_8 : decode cX4_hasField 8 = .ok (.iload_n 2, 1) := by decide +kernel
theorem dX4_hasField_9 : decode cX4_hasField 9 = .ok (.ifCond .lt 25, 3) := by decide +kernel
theorem dX4_hasField_12 : decode cX4_hasField 12 = .ok (.iload_n 2, 1) := by decide +kernel
theorem dX4_hasField_13 : decode cX4_hasField 13 = .ok (.bipush 6, 2) := by decide +kernel
theorem dX4_hasField_15 : decode cX4_hasField 15 = .ok (.if_icmp .ge 19, 3) := by decide +kernel
theorem dX4_hasField_18 : decode cX4_hasField 18 = .ok (.iload_n 2, 1) := by decide +kernel
theorem dX4_hasField_19 : decode cX4_hasField 19 = .ok (.aload_n 0, 1) := by decide +kernel
theorem dX4_hasField_20 : decode cX4_hasField 20 = .ok (.getfield 9, 3) := by decide +kernel
theorem dX4_hasField_23 : decode cX4_hasField 23 = .ok (.iload_n 1, 1) := by decide +kernel
theorem dX4_hasField_24 : decode cX4_hasField 24 = .ok (.iaload, 1) := by decide +kernel
theorem dX4_hasField_25 : decode cX4_hasField 25 = .ok (.iconst 1, 1) := by decide +kernel
theorem dX4_hasField_26 : decode cX4_hasField 26 = .ok (.isub, 1) := by decide +kernel
theorem dX4_hasField_27 : decode cX4_hasField 27 = .ok (.if_icmp .ge 7, 3) := by decide +kernel
theorem dX4_hasField_30 : decode cX4_hasField 30 = .ok (.iconst 1, 1) := by decide +kernel
theorem dX4_hasField_31 : decode cX4_hasField 31 = .ok (.goto 4, 3) := by decide +kernel
theorem dX4_hasField_34 : decode cX4_hasField 34 = .ok (.iconst 0, 1) := by decide +kernel
theorem dX4_hasField_35 : decode cX4_hasField 35 = .ok (.ireturn, 1) := by decide +kernel
theorem dX4_inField_0 : decode cX4_inField 0 = .ok (.aload_n 0, 1) := by decide +kernel
theorem dX4_inField_1 : decode cX4_inField 1 = .ok (.iload_n 1, 1) := by decide +kernel
theorem dX4_inField_2 : decode cX4_inField 2 = .ok (.iload_n 2, 1) := by decide +kernel
theorem dX4_inField_3 : decode cX4_inField 3 = .ok (.invokevirtual 42, 3) := by decide +kernel
theorem dX4_inField_6 : decode cX4_inField 6 = .ok (.ifCond .eq 17, 3) := by decide +kernel
theorem dX4_inField_9 : decode cX4_inField 9 = .ok (.aload_n 0, 1) := by decide +kernel
theorem dX4_inField_10 : decode cX4_inField 10 = .ok (.getfield 31, 3) := by decide +kernel
theorem dX4_inField_13 : decode cX4_inField 13 = .ok (.iload_n 1, 1) := by decide +kernel
theorem dX4_inField_14 : decode cX4_inField 14 = .ok (.bipush 6, 2) := by decide +kernel
theorem dX4_inField_16 : decode cX4_inField 16 = .ok (.imul, 1) := by decide +kernel
theorem dX4_inField_17 : decode cX4_inField 17 = .ok (.iload_n 2, 1) := by decide +kernel
theorem dX4_inField_18 : decode cX4_inField 18 = .ok (.iadd, 1) := by decide +kernel
theorem dX4_inField_19 : decode cX4_inField 19 = .ok (.iaload, 1) := by decide +kernel
theorem dX4_inField_20 : decode cX4_inField 20 = .ok (.goto 4, 3) := by decide +kernel
theorem dX4_inField_23 : decode cX4_inField 23 = .ok (.iconst (-1), 1) := by decide +kernel
theorem dX4_inField_24 : decode cX4_inField 24 = .ok (.ireturn, 1) := by decide +kernel
theorem dX4_setField_0 : decode cX4_setField 0 = .ok (.aload_n 0, 1) := by decide +kernel
theorem dX4_setField_1 : decode cX4_setField 1 = .ok (.iload_n 1, 1) := by decide +kernel
theorem dX4_setField_2 : decode cX4_setField 2 = .ok (.iload_n 2, 1) := by decide +kernel
theorem dX4_setField_3 : decode cX4_setField 3 = .ok (.invokevirtual 42, 3) := by decide +kernel
theorem dX4_setField_6 : decode cX4_setField 6 = .ok (.ifCond .eq 15, 3) := by decide +kernel
theorem dX4_setField_9 : decode cX4_setField 9 = .ok (.aload_n 0, 1) := by decide +kernel
theorem dX4_setField_10 : decode cX4_setField 10 = .ok (.getfield 31, 3) := by decide +kernel
theorem dX4_setField_13 : decode cX4_setField 13 = .ok (.iload_n 1, 1) := by decide +kernel
theorem dX4_setField_14 : decode cX4_setField 14 = .ok (.bipush 6, 2) := by decide +kernel
theorem dX4_setField_16 : decode cX4_setField 16 = .ok (.imul, 1) := by decide +kernel
theorem dX4_setField_17 : decode cX4_setField 17 = .ok (.iload_n 2, 1) := by decide +kernel
theorem dX4_setField_18 : decode cX4_setField 18 = .ok (.iadd, 1) := by decide +kernel
theorem dX4_setField_19 : decode cX4_setField 19 = .ok (.iload_n 3, 1) := by decide +kernel
theorem dX4_setField_20 : decode cX4_setField 20 = .ok (.iastore, 1) := by decide +kernel
theorem dX4_setField_21 : decode cX4_setField 21 = .ok (.return_, 1) := by decide +kernel
theorem dX4_paint_0 : decode cX4_paint 0 = .ok (.aload_n 0, 1) := by decide +kernel
theorem dX4_paint_1 : decode cX4_paint 1 = .ok (.iload_n 1, 1) := by decide +kernel
theorem dX4_paint_2 : decode cX4_paint 2 = .ok (.invokevirtual 38, 3) := by decide +kernel
theorem dX4_paint_5 : decode cX4_paint 5 = .ok (.ifCond .eq 10, 3) := by decide +kernel
theorem dX4_paint_8 : decode cX4_paint 8 = .ok (.aload_n 0, 1) := by decide +kernel
theorem dX4_paint_9 : decode cX4_paint 9 = .ok (.getfield 18, 3) := by decide +kernel
theorem dX4_paint_12 : decode cX4_paint 12 = .ok (.iload_n 1, 1) := by decide +kernel
theorem dX4_paint_13 : decode cX4_paint 13 = .ok (.iload_n 2, 1) := by decide +kernel
theorem dX4_paint_14 : decode cX4_paint 14 = .ok (.iastore, 1) := by decide +kernel
theorem dX4_paint_15 : decode cX4_paint 15 = .ok (.return_, 1) := by decide +kernel
theorem dX4_moveTo_0 : decode cX4_moveTo 0 = .ok (.aload_n 0, 1) := by decide +kernel
theorem dX4_moveTo_1 : decode cX4_moveTo 1 = .ok (.iload_n 1, 1) := by decide +kernel
theorem dX4_moveTo_2 : decode cX4_moveTo 2 = .ok (.invokevirtual 38, 3) := by decide +kernel
theorem dX4_moveTo_5 : decode cX4_moveTo 5 = .ok (.ifCond .eq 20, 3) := by decide +kernel
theorem dX4_moveTo_8 : decode cX4_moveTo 8 = .ok (.aload_n 0, 1) := by decide +kernel
theorem dX4_moveTo_9 : decode cX4_moveTo 9 = .ok (.getfield 15, 3) := by decide +kernel
theorem dX4_moveTo_12 : decode cX4_moveTo 12 = .ok (.iload_n 1, 1) := by decide +kernel
theorem dX4_moveTo_13 : decode cX4_moveTo 13 = .ok (.iload_n 2, 1) := by decide +kernel
theorem dX4_moveTo_14 : decode cX4_moveTo 14 = .ok (.iastore, 1) := by decide +kernel
theorem dX4_moveTo_15 : decode cX4_moveTo 15 = .ok (.aload_n 0, 1) := by decide +kernel
theorem dX4_moveTo_16 : decode cX4_moveTo 16 = .ok (.getfield 21, 3) := by decide +kernel
theorem dX4_moveTo_19 : decode cX4_moveTo 19 = .ok (.iload_n 1, 1) := by decide +kernel
theorem dX4_moveTo_20 : decode cX4_moveTo 20 = .ok (.dup2, 1) := by decide +kernel
theorem dX4_moveTo_21 : decode cX4_moveTo 21 = .ok (.iaload, 1) := by decide +kernel
theorem dX4_moveTo_22 : decode cX4_moveTo 22 = .ok (.iconst 1, 1) := by decide +kernel
theorem dX4_moveTo_23 : decode cX4_moveTo 23 = .ok (.iadd, 1) := by decide +kernel
theorem dX4_moveTo_24 : decode cX4_moveTo 24 = .ok (.iastore, 1) := by decide +kernel
theorem dX4_moveTo_25 : decode cX4_moveTo 25 = .ok (.return_, 1) := by decide +kernel
theorem dX4_free_0 : decode cX4_free 0 = .ok (.aload_n 0, 1) := by decide +kernel
theorem dX4_free_1 : decode cX4_free 1 = .ok (.iload_n 1, 1) := by decide +kernel
theorem dX4_free_2 : decode cX4_free 2 = .ok (.invokevirtual 38, 3) := by decide +kernel
theorem dX4_free_5 : decode cX4_free 5 = .ok (.ifCond .eq 17, 3) := by decide +kernel
theorem dX4_free_8 : decode cX4_free 8 = .ok (.aload_n 0, 1) := by decide +kernel
theorem dX4_free_9 : decode cX4_free 9 = .ok (.getfield 24, 3) := by decide +kernel
theorem dX4_free_12 : decode cX4_free 12 = .ok (.iload_n 1, 1) := by decide +kernel
theorem dX4_free_13 : decode cX4_free 13 = .ok (.iconst 1, 1) := by decide +kernel
theorem dX4_free_14 : decode cX4_free 14 = .ok (.bastore, 1) := by decide +kernel
theorem dX4_free_15 : decode cX4_free 15 = .ok (.aload_n 0, 1) := by decide +kernel
theorem dX4_free_16 : decode cX4_free 16 = .ok (.getfield 15, 3) := by decide +kernel
theorem dX4_free_19 : decode cX4_free 19 = .ok (.iload_n 1, 1) := by decide +kernel
theorem dX4_free_20 : decode cX4_free 20 = .ok (.iconst (-1), 1) := by decide +kernel
theorem dX4_free_21 : decode cX4_free 21 = .ok (.iastore, 1) := by decide +kernel
theorem dX4_free_22 : decode cX4_free 22 = .ok (.return_, 1) := by decide +kernel
theorem dX4_endWish_0 : decode cX4_endWish 0 = .ok (.aload_n 0, 1) := by decide +kernel
theorem dX4_endWish_1 : decode cX4_endWish 1 = .ok (.iload_n 1, 1) := by decide +kernel
theorem dX4_endWish_2 : decode cX4_endWish 2 = .ok (.invokevirtual 38, 3) := by decide +kernel
theorem dX4_endWish_5 : decode cX4_endWish 5 = .ok (.ifCond .eq 10, 3) := by decide +kernel
theorem dX4_endWish_8 : decode cX4_endWish 8 = .ok (.aload_n 0, 1) := by decide +kernel
theorem dX4_endWish_9 : decode cX4_endWish 9 = .ok (.getfield 28, 3) := by decide +kernel
theorem dX4_endWish_12 : decode cX4_endWish 12 = .ok (.iload_n 1, 1) := by decide +kernel
theorem dX4_endWish_13 : decode cX4_endWish 13 = .ok (.iconst 0, 1) := by decide +kernel
theorem dX4_endWish_14 : decode cX4_endWish 14 = .ok (.bastore, 1) := by decide +kernel
theorem dX4_endWish_15 : decode cX4_endWish 15 = .ok (.return_, 1) := by decide +kernel
theorem dX4_whitenAll_0 : decode cX4_whitenAll 0 = .ok (.iconst 0, 1) := by decide +kernel
theorem dX4_whitenAll_1 : decode cX4_whitenAll 1 = .ok (.istore_n 1, 1) := by decide +kernel
theorem dX4_whitenAll_2 : decode cX4_whitenAll 2 = .ok (.iload_n 1, 1) := by decide +kernel
theorem dX4_whitenAll_3 : decode cX4_whitenAll 3 = .ok (.aload_n 0, 1) := by decide +kernel
theorem dX4_whitenAll_4 : decode cX4_whitenAll 4 = .ok (.getfield 34, 3) := by decide +kernel
theorem dX4_whitenAll_7 : decode cX4_whitenAll 7 = .ok (.if_icmp .ge 23, 3) := by decide +kernel
theorem dX4_whitenAll_10 : decode cX4_whitenAll 10 = .ok (.aload_n 0, 1) := by decide +kernel
theorem dX4_whitenAll_11 : decode cX4_whitenAll 11 = .ok (.iload_n 1, 1) := by decide +kernel
theorem dX4_whitenAll_12 : decode cX4_whitenAll 12 = .ok (.invokevirtual 46, 3) := by decide +kernel
theorem dX4_whitenAll_15 : decode cX4_whitenAll 15 = .ok (.ifCond .ne 9, 3) := by decide +kernel
theorem dX4_whitenAll_18 : decode cX4_whitenAll 18 = .ok (.aload_n 0, 1) := by decide +kernel
theorem dX4_whitenAll_19 : decode cX4_whitenAll 19 = .ok (.iload_n 1, 1) := by decide +kernel
theorem dX4_whitenAll_20 : decode cX4_whitenAll 20 = .ok (.iconst 0, 1) := by decide +kernel
theorem dX4_whitenAll_21 : decode cX4_whitenAll 21 = .ok (.invokevirtual 49, 3) := by decide +kernel
theorem dX4_whitenAll_24 : decode cX4_whitenAll 24 = .ok (.iinc 1 1, 3) := by decide +kernel
theorem dX4_whitenAll_27 : decode cX4_whitenAll 27 = .ok (.goto (-25), 3) := by decide +kernel
theorem dX4_whitenAll_30 : decode cX4_whitenAll 30 = .ok (.return_, 1) := by decide +kernel
theorem dX4_leastGray_0 : decode cX4_leastGray 0 = .ok (.iconst 0, 1) := by decide +kernel
theorem dX4_leastGray_1 : decode cX4_leastGray 1 = .ok (.istore_n 1, 1) := by decide +kernel
theorem dX4_leastGray_2 : decode cX4_leastGray 2 = .ok (.iload_n 1, 1) := by decide +kernel
theorem dX4_leastGray_3 : decode cX4_leastGray 3 = .ok (.aload_n 0, 1) := by decide +kernel
theorem dX4_leastGray_4 : decode cX4_leastGray 4 = .ok (.getfield 34, 3) := by decide +kernel
theorem dX4_leastGray_7 : decode cX4_leastGray 7 = .ok (.if_icmp .ge 20, 3) := by decide +kernel
theorem dX4_leastGray_10 : decode cX4_leastGray 10 = .ok (.aload_n 0, 1) := by decide +kernel
theorem dX4_leastGray_11 : decode cX4_leastGray 11 = .ok (.iload_n 1, 1) := by decide +kernel
theorem dX4_leastGray_12 : decode cX4_leastGray 12 = .ok (.invokevirtual 53, 3) := by decide +kernel
theorem dX4_leastGray_15 : decode cX4_leastGray 15 = .ok (.iconst 1, 1) := by decide +kernel
theorem dX4_leastGray_16 : decode cX4_leastGray 16 = .ok (.if_icmp .ne 5, 3) := by decide +kernel
theorem dX4_leastGray_19 : decode cX4_leastGray 19 = .ok (.iload_n 1, 1) := by decide +kernel
theorem dX4_leastGray_20 : decode cX4_leastGray 20 = .ok (.ireturn, 1) := by decide +kernel
theorem dX4_leastGray_21 : decode cX4_leastGray 21 = .ok (.iinc 1 1, 3) := by decide +kernel
theorem dX4_leastGray_24 : decode cX4_leastGray 24 = .ok (.goto (-22), 3) := by decide +kernel
theorem dX4_leastGray_27 : decode cX4_leastGray 27 = .ok (.iconst (-1), 1) := by decide +kernel
theorem dX4_leastGray_28 : decode cX4_leastGray 28 = .ok (.ireturn, 1) := by decide +kernel
theorem dX4_nextNotFreed_0 : decode cX4_nextNotFreed 0 = .ok (.iload_n 1, 1) := by decide +kernel
theorem dX4_nextNotFreed_1 : decode cX4_nextNotFreed 1 = .ok (.istore_n 2, 1) := by decide +kernel
theorem dX4_nextNotFreed_2 : decode cX4_nextNotFreed 2 = .ok (.iload_n 2, 1) := by decide +kernel
theorem dX4_nextNotFreed_3 : decode cX4_nextNotFreed 3 = .ok (.aload_n 0, 1) := by decide +kernel
theorem dX4_nextNotFreed_4 : decode cX4_nextNotFreed 4 = .ok (.getfield 34, 3) := by decide +kernel
theorem dX4_nextNotFreed_7 : decode cX4_nextNotFreed 7 = .ok (.if_icmp .ge 19, 3) := by decide +kernel
theorem dX4_nextNotFreed_10 : decode cX4_nextNotFreed 10 = .ok (.aload_n 0, 1) := by decide +kernel
theorem dX4_nextNotFreed_11 : decode cX4_nextNotFreed 11 = .ok (.iload_n 2, 1) := by decide +kernel
theorem dX4_nextNotFreed_12 : decode cX4_nextNotFreed 12 = .ok (.invokevirtual 46, 3) := by decide +kernel
theorem dX4_nextNotFreed_15 : decode cX4_nextNotFreed 15 = .ok (.ifCond .ne 5, 3) := by decide +kernel
theorem dX4_nextNotFreed_18 : decode cX4_nextNotFreed 18 = .ok (.iload_n 2, 1) := by decide +kernel
theorem dX4_nextNotFreed_19 : decode cX4_nextNotFreed 19 = .ok (.ireturn, 1) := by decide +kernel
theorem dX4_nextNotFreed_20 : decode cX4_nextNotFreed 20 = .ok (.iinc 2 1, 3) := by decide +kernel
theorem dX4_nextNotFreed_23 : decode cX4_nextNotFreed 23 = .ok (.goto (-21), 3) := by decide +kernel
theorem dX4_nextNotFreed_26 : decode cX4_nextNotFreed 26 = .ok (.iconst (-1), 1) := by decide +kernel
theorem dX4_nextNotFreed_27 : decode cX4_nextNotFreed 27 = .ok (.ireturn, 1) := by decide +kernel
theorem dX4_countGray_0 : decode cX4_countGray 0 = .ok (.iconst 0, 1) := by decide +kernel
theorem dX4_countGray_1 : decode cX4_countGray 1 = .ok (.istore_n 1, 1) := by decide +kernel
theorem dX4_countGray_2 : decode cX4_countGray 2 = .ok (.iconst 0, 1) := by decide +kernel
theorem dX4_countGray_3 : decode cX4_countGray 3 = .ok (.istore_n 2, 1) := by decide +kernel
theorem dX4_countGray_4 : decode cX4_countGray 4 = .ok (.iload_n 2, 1) := by decide +kernel
theorem dX4_countGray_5 : decode cX4_countGray 5 = .ok (.aload_n 0, 1) := by decide +kernel
theorem dX4_countGray_6 : decode cX4_countGray 6 = .ok (.getfield 34, 3) := by decide +kernel
theorem dX4_countGray_9 : decode cX4_countGray 9 = .ok (.if_icmp .ge 21, 3) := by decide +kernel
theorem dX4_countGray_12 : decode cX4_countGray 12 = .ok (.aload_n 0, 1) := by decide +kernel
theorem dX4_countGray_13 : decode cX4_countGray 13 = .ok (.iload_n 2, 1) := by decide +kernel
theorem dX4_countGray_14 : decode cX4_countGray 14 = .ok (.invokevirtual 53, 3) := by decide +kernel
theorem dX4_countGray_17 : decode cX4_countGray 17 = .ok (.iconst 1, 1) := by decide +kernel
theorem dX4_countGray_18 : decode cX4_countGray 18 = .ok (.if_icmp .ne 6, 3) := by decide +kernel
theorem dX4_countGray_21 : decode cX4_countGray 21 = .ok (.iinc 1 1, 3) := by decide +kernel
theorem dX4_countGray_24 : decode cX4_countGray 24 = .ok (.iinc 2 1, 3) := by decide +kernel
theorem dX4_countGray_27 : decode cX4_countGray 27 = .ok (.goto (-23), 3) := by decide +kernel
theorem dX4_countGray_30 : decode cX4_countGray 30 = .ok (.iload_n 1, 1) := by decide +kernel
theorem dX4_countGray_31 : decode cX4_countGray 31 = .ok (.ireturn, 1) := by decide +kernel
theorem dX4_countNotFreed_0 : decode cX4_countNotFreed 0 = .ok (.iconst 0, 1) := by decide +kernel
theorem dX4_countNotFreed_1 : decode cX4_countNotFreed 1 = .ok (.istore_n 1, 1) := by decide +kernel
theorem dX4_countNotFreed_2 : decode cX4_countNotFreed 2 = .ok (.iconst 0, 1) := by decide +kernel
theorem dX4_countNotFreed_3 : decode cX4_countNotFreed 3 = .ok (.istore_n 2, 1) := by decide +kernel
theorem dX4_countNotFreed_4 : decode cX4_countNotFreed 4 = .ok (.iload_n 2, 1) := by decide +kernel
theorem dX4_countNotFreed_5 : decode cX4_countNotFreed 5 = .ok (.aload_n 0, 1) := by decide +kernel
theorem dX4_countNotFreed_6 : decode cX4_countNotFreed 6 = .ok (.getfield 34, 3) := by decide +kernel
theorem dX4_countNotFreed_9 : decode cX4_countNotFreed 9 = .ok (.if_icmp .ge 20, 3) := by decide +kernel
theorem dX4_countNotFreed_12 : decode cX4_countNotFreed 12 = .ok (.aload_n 0, 1) := by decide +kernel
theorem dX4_countNotFreed_13 : decode cX4_countNotFreed 13 = .ok (.iload_n 2, 1) := by decide +kernel
theorem dX4_countNotFreed_14 : decode cX4_countNotFreed 14 = .ok (.invokevirtual 46, 3) := by decide +kernel
theorem dX4_countNotFreed_17 : decode cX4_countNotFreed 17 = .ok (.ifCond .ne 6, 3) := by decide +kernel
theorem dX4_countNotFreed_20 : decode cX4_countNotFreed 20 = .ok (.iinc 1 1, 3) := by decide +kernel
theorem dX4_countNotFreed_23 : decode cX4_countNotFreed 23 = .ok (.iinc 2 1, 3) := by decide +kernel
theorem dX4_countNotFreed_26 : decode cX4_countNotFreed 26 = .ok (.goto (-22), 3) := by decide +kernel
theorem dX4_countNotFreed_29 : decode cX4_countNotFreed 29 = .ok (.iload_n 1, 1) := by decide +kernel
theorem dX4_countNotFreed_30 : decode cX4_countNotFreed 30 = .ok (.ireturn, 1) := by decide +kernel
theorem dX4_cellsOfWhite_0 : decode cX4_cellsOfWhite 0 = .ok (.iconst 0, 1) := by decide +kernel
theorem dX4_cellsOfWhite_1 : decode cX4_cellsOfWhite 1 = .ok (.istore_n 1, 1) := by decide +kernel
theorem dX4_cellsOfWhite_2 : decode cX4_cellsOfWhite 2 = .ok (.iconst 0, 1) := by decide +kernel
theorem dX4_cellsOfWhite_3 : decode cX4_cellsOfWhite 3 = .ok (.istore_n 2, 1) := by decide +kernel
theorem dX4_cellsOfWhite_4 : decode cX4_cellsOfWhite 4 = .ok (.iload_n 2, 1) := by decide +kernel
theorem dX4_cellsOfWhite_5 : decode cX4_cellsOfWhite 5 = .ok (.aload_n 0, 1) := by decide +kernel
theorem dX4_cellsOfWhite_6 : decode cX4_cellsOfWhite 6 = .ok (.getfield 34, 3) := by decide +kernel
theorem dX4_cellsOfWhite_9 : decode cX4_cellsOfWhite 9 = .ok (.if_icmp .ge 33, 3) := by decide +kernel
theorem dX4_cellsOfWhite_12 : decode cX4_cellsOfWhite 12 = .ok (.aload_n 0, 1) := by decide +kernel
theorem dX4_cellsOfWhite_13 : decode cX4_cellsOfWhite 13 = .ok (.iload_n 2, 1) := by decide +kernel
theorem dX4_cellsOfWhite_14 : decode cX4_cellsOfWhite 14 = .ok (.invokevirtual 57, 3) := by decide +kernel
theorem dX4_cellsOfWhite_17 : decode cX4_cellsOfWhite 17 = .ok (.ifCond .eq 19, 3) := by decide +kernel
theorem dX4_cellsOfWhite_20 : decode cX4_cellsOfWhite 20 = .ok (.aload_n 0, 1) := by decide +kernel
theorem dX4_cellsOfWhite_21 : decode cX4_cellsOfWhite 21 = .ok (.iload_n 2, 1) := by decide +kernel
theorem dX4_cellsOfWhite_22 : decode cX4_cellsOfWhite 22 = .ok (.invokevirtual 46, 3) := by decide +kernel
theorem dX4_cellsOfWhite_25 : decode cX4_cellsOfWhite 25 = .ok (.ifCond .ne 11, 3) := by decide +kernel
theorem dX4_cellsOfWhite_28 : decode cX4_cellsOfWhite 28 = .ok (.iload_n 1, 1) := by decide +kernel
theorem dX4_cellsOfWhite_29 : decode cX4_cellsOfWhite 29 = .ok (.aload_n 0, 1) := by decide +kernel
theorem dX4_cellsOfWhite_30 : decode cX4_cellsOfWhite 30 = .ok (.iload_n 2, 1) := by decide +kernel
theorem dX4_cellsOfWhite_31 : decode cX4_cellsOfWhite 31 = .ok (.invokevirtual 60, 3) := by decide +kernel
theorem dX4_cellsOfWhite_34 : decode cX4_cellsOfWhite 34 = .ok (.iadd, 1) := by decide +kernel
theorem dX4_cellsOfWhite_35 : decode cX4_cellsOfWhite 35 = .ok (.istore_n 1, 1) := by decide +kernel
theorem dX4_cellsOfWhite_36 : decode cX4_cellsOfWhite 36 = .ok (.iinc 2 1, 3) := by decide +kernel
theorem dX4_cellsOfWhite_39 : decode cX4_cellsOfWhite 39 = .ok (.goto (-35), 3) := by decide +kernel
theorem dX4_cellsOfWhite_42 : decode cX4_cellsOfWhite 42 = .ok (.iload_n 1, 1) := by decide +kernel
theorem dX4_cellsOfWhite_43 : decode cX4_cellsOfWhite 43 = .ok (.ireturn, 1) := by decide +kernel
