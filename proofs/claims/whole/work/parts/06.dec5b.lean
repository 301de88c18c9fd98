theorem dX5_forEachCoin_1 : decode cX5_forEachCoin 1 = .ok (.iconst (-1), 1) := by decide +kernel
theorem dX5_forEachCoin_2 : decode cX5_forEachCoin 2 = .ok (.iconst 0, 1) := by decide +kernel
theorem dX5_forEachCoin_3 : decode cX5_forEachCoin 3 = .ok (.invokevirtual 108, 3) := by decide +kernel
theorem dX5_forEachCoin_6 : decode cX5_forEachCoin 6 = .ok (.iconst 0, 1) := by decide +kernel
theorem dX5_forEachCoin_7 : decode cX5_forEachCoin 7 = .ok (.istore_n 1, 1) := by decide +kernel
theorem dX5_forEachCoin_8 : decode cX5_forEachCoin 8 = .ok (.iconst 0, 1) := by decide +kernel
theorem dX5_forEachCoin_9 : decode cX5_forEachCoin 9 = .ok (.istore_n 2, 1) := by decide +kernel
theorem dX5_forEachCoin_10 : decode cX5_forEachCoin 10 = .ok (.iconst 0, 1) := by decide +kernel
theorem dX5_forEachCoin_11 : decode cX5_forEachCoin 11 = .ok (.istore_n 3, 1) := by decide +kernel
theorem dX5_forEachCoin_12 : decode cX5_forEachCoin 12 = .ok (.iload_n 3, 1) := by decide +kernel
theorem dX5_forEachCoin_13 : decode cX5_forEachCoin 13 = .ok (.aload_n 0, 1) := by decide +kernel
theorem dX5_forEachCoin_14 : decode cX5_forEachCoin 14 = .ok (.getfield 7, 3) := by decide +kernel
theorem dX5_forEachCoin_17 : decode cX5_forEachCoin 17 = .ok (.iconst 0, 1) := by decide +kernel
theorem dX5_forEachCoin_18 : decode cX5_forEachCoin 18 = .ok (.iaload, 1) := by decide +kernel
theorem dX5_forEachCoin_19 : decode cX5_forEachCoin 19 = .ok (.if_icmp .ge 47, 3) := by decide +kernel
theorem dX5_forEachCoin_22 : decode cX5_forEachCoin 22 = .ok (.iload_n 1, 1) := by decide +kernel
theorem dX5_forEachCoin_23 : decode cX5_forEachCoin 23 = .ok (.aload_n 0, 1) := by decide +kernel
theorem dX5_forEachCoin_24 : decode cX5_forEachCoin 24 = .ok (.getfield 19, 3) := by decide +kernel
theorem dX5_forEachCoin_27 : decode cX5_forEachCoin 27 = .ok (.iload_n 3, 1) := by decide +kernel
theorem dX5_forEachCoin_28 : decode cX5_forEachCoin 28 = .ok (.iaload, 1) := by decide +kernel
theorem dX5_forEachCoin_29 : decode cX5_forEachCoin 29 = .ok (.ifCond .le 12, 3) := by decide +kernel
theorem dX5_forEachCoin_32 : decode cX5_forEachCoin 32 = .ok (.aload_n 0, 1) := by decide +kernel
theorem dX5_forEachCoin_33 : decode cX5_forEachCoin 33 = .ok (.getfield 19, 3) := by decide +kernel
theorem dX5_forEachCoin_36 : decode cX5_forEachCoin 36 = .ok (.iload_n 3, 1) := by decide +kernel
theorem dX5_forEachCoin_37 : decode cX5_forEachCoin 37 = .ok (.iaload, 1) := by decide +kernel
theorem dX5_forEachCoin_38 : decode cX5_forEachCoin 38 = .ok (.goto 4, 3) := by decide +kernel
theorem dX5_forEachCoin_41 : decode cX5_forEachCoin 41 = .ok (.iconst 0, 1) := by decide +kernel
theorem dX5_forEachCoin_42 : decode cX5_forEachCoin 42 = .ok (.iadd, 1) := by decide +kernel
theorem dX5_forEachCoin_43 : decode cX5_forEachCoin 43 = .ok (.istore_n 1, 1) := by decide +kernel
theorem dX5_forEachCoin_44 : decode cX5_forEachCoin 44 = .ok (.iload_n 2, 1) := by decide +kernel
theorem dX5_forEachCoin_45 : decode cX5_forEachCoin 45 = .ok (.iload_n 3, 1) := by decide +kernel
theorem dX5_forEachCoin_46 : decode cX5_forEachCoin 46 = .ok (.aload_n 0, 1) := by decide +kernel
theorem dX5_forEachCoin_47 : decode cX5_forEachCoin 47 = .ok (.getfield 104, 3) := by decide +kernel
theorem dX5_forEachCoin_50 : decode cX5_forEachCoin 50 = .ok (.if_icmp .ge 7, 3) := by decide +kernel
theorem dX5_forEachCoin_53 : decode cX5_forEachCoin 53 = .ok (.iconst 1, 1) := by decide +kernel
theorem dX5_forEachCoin_54 : decode cX5_forEachCoin 54 = .ok (.goto 4, 3) := by decide +kernel
theorem dX5_forEachCoin_57 : decode cX5_forEachCoin 57 = .ok (.iconst 0, 1) := by decide +kernel
theorem dX5_forEachCoin_58 : decode cX5_forEachCoin 58 = .ok (.iadd, 1) := by decide +kernel
theorem dX5_forEachCoin_59 : decode cX5_forEachCoin 59 = .ok (.istore_n 2, 1) := by decide +kernel
theorem dX5_forEachCoin_60 : decode cX5_forEachCoin 60 = .ok (.iinc 3 1, 3) := by decide +kernel
theorem dX5_forEachCoin_63 : decode cX5_forEachCoin 63 = .ok (.goto (-51), 3) := by decide +kernel
theorem dX5_forEachCoin_66 : decode cX5_forEachCoin 66 = .ok (.bipush 100, 2) := by decide +kernel
theorem dX5_forEachCoin_68 : decode cX5_forEachCoin 68 = .ok (.iload_n 2, 1) := by decide +kernel
theorem dX5_forEachCoin_69 : decode cX5_forEachCoin 69 = .ok (.imul, 1) := by decide +kernel
theorem dX5_forEachCoin_70 : decode cX5_forEachCoin 70 = .ok (.iload_n 1, 1) := by decide +kernel
theorem dX5_forEachCoin_71 : decode cX5_forEachCoin 71 = .ok (.ifCond .le 7, 3) := by decide +kernel
theorem dX5_forEachCoin_74 : decode cX5_forEachCoin 74 = .ok (.iload_n 1, 1) := by decide +kernel
theorem dX5_forEachCoin_75 : decode cX5_forEachCoin 75 = .ok (.goto 4, 3) := by decide +kernel
theorem dX5_forEachCoin_78 : decode cX5_forEachCoin 78 = .ok (.iconst 1, 1) := by decide +kernel
theorem dX5_forEachCoin_79 : decode cX5_forEachCoin 79 = .ok (.idiv, 1) := by decide +kernel
theorem dX5_forEachCoin_80 : decode cX5_forEachCoin 80 = .ok (.ireturn, 1) := by decide +kernel
theorem dX5_fair_0 : decode cX5_fair 0 = .ok (.aload_n 0, 1) := by decide +kernel
theorem dX5_fair_1 : decode cX5_fair 1 = .ok (.getfield 7, 3) := by decide +kernel
theorem dX5_fair_4 : decode cX5_fair 4 = .ok (.iconst 2, 1) := by decide +kernel
theorem dX5_fair_5 : decode cX5_fair 5 = .ok (.iaload, 1) := by decide +kernel
theorem dX5_fair_6 : decode cX5_fair 6 = .ok (.istore_n 1, 1) := by decide +kernel
theorem dX5_fair_7 : decode cX5_fair 7 = .ok (.iconst 0, 1) := by decide +kernel
theorem dX5_fair_8 : decode cX5_fair 8 = .ok (.istore_n 2, 1) := by decide +kernel
theorem dX5_fair_9 : decode cX5_fair 9 = .ok (.iconst (-1), 1) := by decide +kernel
theorem dX5_fair_10 : decode cX5_fair 10 = .ok (.istore_n 3, 1) := by decide +kernel
theorem dX5_fair_11 : decode cX5_fair 11 = .ok (.iconst 0, 1) := by decide +kernel
theorem dX5_fair_12 : decode cX5_fair 12 = .ok (.istore 4, 2) := by decide +kernel
theorem dX5_fair_14 : decode cX5_fair 14 = .ok (.iload 4, 2) := by decide +kernel
theorem dX5_fair_16 : decode cX5_fair 16 = .ok (.iconst 3, 1) := by decide +kernel
theorem dX5_fair_17 : decode cX5_fair 17 = .ok (.if_icmp .ge 49, 3) := by decide +kernel
theorem dX5_fair_20 : decode cX5_fair 20 = .ok (.aload_n 0, 1) := by decide +kernel
theorem dX5_fair_21 : decode cX5_fair 21 = .ok (.getfield 7, 3) := by decide +kernel
theorem dX5_fair_24 : decode cX5_fair 24 = .ok (.iconst 2, 1) := by decide +kernel
theorem dX5_fair_25 : decode cX5_fair 25 = .ok (.iload 4, 2) := by decide +kernel
theorem dX5_fair_27 : decode cX5_fair 27 = .ok (.iastore, 1) := by decide +kernel
theorem dX5_fair_28 : decode cX5_fair 28 = .ok (.aload_n 0, 1) := by decide +kernel
theorem dX5_fair_29 : decode cX5_fair 29 = .ok (.invokevirtual 147, 3) := by decide +kernel
theorem dX5_fair_32 : decode cX5_fair 32 = .ok (.istore 5, 2) := by decide +kernel
theorem dX5_fair_34 : decode cX5_fair 34 = .ok (.iload 5, 2) := by decide +kernel
theorem dX5_fair_36 : decode cX5_fair 36 = .ok (.iload_n 3, 1) := by decide +kernel
theorem dX5_fair_37 : decode cX5_fair 37 = .ok (.if_icmp .le 8, 3) := by decide +kernel
theorem dX5_fair_40 : decode cX5_fair 40 = .ok (.iload 4, 2) := by decide +kernel
theorem dX5_fair_42 : decode cX5_fair 42 = .ok (.goto 4, 3) := by decide +kernel
theorem dX5_fair_45 : decode cX5_fair 45 = .ok (.iload_n 2, 1) := by decide +kernel
theorem dX5_fair_46 : decode cX5_fair 46 = .ok (.istore_n 2, 1) := by decide +kernel
theorem dX5_fair_47 : decode cX5_fair 47 = .ok (.iload 5, 2) := by decide +kernel
theorem dX5_fair_49 : decode cX5_fair 49 = .ok (.iload_n 3, 1) := by decide +kernel
theorem dX5_fair_50 : decode cX5_fair 50 = .ok (.if_icmp .le 8, 3) := by decide +kernel
theorem dX5_fair_53 : decode cX5_fair 53 = .ok (.iload 5, 2) := by decide +kernel
theorem dX5_fair_55 : decode cX5_fair 55 = .ok (.goto 4, 3) := by decide +kernel
theorem dX5_fair_58 : decode cX5_fair 58 = .ok (.iload_n 3, 1) := by decide +kernel
theorem dX5_fair_59 : decode cX5_fair 59 = .ok (.istore_n 3, 1) := by decide +kernel
theorem dX5_fair_60 : decode cX5_fair 60 = .ok (.iinc 4 1, 3) := by decide +kernel
theorem dX5_fair_63 : decode cX5_fair 63 = .ok (.goto (-49), 3) := by decide +kernel
theorem dX5_fair_66 : decode cX5_fair 66 = .ok (.aload_n 0, 1) := by decide +kernel
theorem dX5_fair_67 : decode cX5_fair 67 = .ok (.getfield 7, 3) := by decide +kernel
theorem dX5_fair_70 : decode cX5_fair 70 = .ok (.iconst 2, 1) := by decide +kernel
theorem dX5_fair_71 : decode cX5_fair 71 = .ok (.iload_n 1, 1) := by decide +kernel
theorem dX5_fair_72 : decode cX5_fair 72 = .ok (.iastore, 1) := by decide +kernel
theorem dX5_fair_73 : decode cX5_fair 73 = .ok (.iload_n 2, 1) := by decide +kernel
theorem dX5_fair_74 : decode cX5_fair 74 = .ok (.ireturn, 1) := by decide +kernel
theorem dX5_ones_0 : decode cX5_ones 0 = .ok (.iconst 0, 1) := by decide +kernel
theorem dX5_ones_1 : decode cX5_ones 1 = .ok (.istore_n 1, 1) := by decide +kernel
theorem dX5_ones_2 : decode cX5_ones 2 = .ok (.iload_n 0, 1) := by decide +kernel
theorem dX5_ones_3 : decode cX5_ones 3 = .ok (.istore_n 2, 1) := by decide +kernel
theorem dX5_ones_4 : decode cX5_ones 4 = .ok (.iload_n 2, 1) := by decide +kernel
theorem dX5_ones_5 : decode cX5_ones 5 = .ok (.ifCond .eq 15, 3) := by decide +kernel
theorem dX5_ones_8 : decode cX5_ones 8 = .ok (.iinc 1 1, 3) := by decide +kernel
theorem dX5_ones_11 : decode cX5_ones 11 = .ok (.iload_n 2, 1) := by decide +kernel
theorem dX5_ones_12 : decode cX5_ones 12 = .ok (.iload_n 2, 1) := by decide +kernel
theorem dX5_ones_13 : decode cX5_ones 13 = .ok (.iconst 1, 1) := by decide +kernel
theorem dX5_ones_14 : decode cX5_ones 14 = .ok (.isub, 1) := by decide +kernel
theorem dX5_ones_15 : decode cX5_ones 15 = .ok (.iand, 1) := by decide +kernel
theorem dX5_ones_16 : decode cX5_ones 16 = .ok (.istore_n 2, 1) := by decide +kernel
theorem dX5_ones_17 : decode cX5_ones 17 = .ok (.goto (-13), 3) := by decide +kernel
theorem dX5_ones_20 : decode cX5_ones 20 = .ok (.iload_n 1, 1) := by decide +kernel
theorem dX5_ones_21 : decode cX5_ones 21 = .ok (.ireturn, 1) := by decide +kernel
theorem dX5_gainIn_0 : decode cX5_gainIn 0 = .ok (.aload_n 0, 1) := by decide +kernel
theorem dX5_gainIn_1 : decode cX5_gainIn 1 = .ok (.getfield 7, 3) := by decide +kernel
theorem dX5_gainIn_4 : decode cX5_gainIn 4 = .ok (.iconst 1, 1) := by decide +kernel
theorem dX5_gainIn_5 : decode cX5_gainIn 5 = .ok (.iaload, 1) := by decide +kernel
theorem dX5_gainIn_6 : decode cX5_gainIn 6 = .ok (.iload_n 1, 1) := by decide +kernel
theorem dX5_gainIn_7 : decode cX5_gainIn 7 = .ok (.invokestatic 150, 3) := by decide +kernel
theorem dX5_gainIn_10 : decode cX5_gainIn 10 = .ok (.iadd, 1) := by decide +kernel
theorem dX5_gainIn_11 : decode cX5_gainIn 11 = .ok (.istore_n 3, 1) := by decide +kernel
theorem dX5_gainIn_12 : decode cX5_gainIn 12 = .ok (.iload_n 2, 1) := by decide +kernel
theorem dX5_gainIn_13 : decode cX5_gainIn 13 = .ok (.iload_n 3, 1) := by decide +kernel
theorem dX5_gainIn_14 : decode cX5_gainIn 14 = .ok (.if_icmp .ge 12, 3) := by decide +kernel
theorem dX5_gainIn_17 : decode cX5_gainIn 17 = .ok (.aload_n 0, 1) := by decide +kernel
theorem dX5_gainIn_18 : decode cX5_gainIn 18 = .ok (.iload_n 2, 1) := by decide +kernel
theorem dX5_gainIn_19 : decode cX5_gainIn 19 = .ok (.iconst 2, 1) := by decide +kernel
theorem dX5_gainIn_20 : decode cX5_gainIn 20 = .ok (.invokevirtual 52, 3) := by decide +kernel
theorem dX5_gainIn_23 : decode cX5_gainIn 23 = .ok (.goto 4, 3) := by decide +kernel
theorem dX5_gainIn_26 : decode cX5_gainIn 26 = .ok (.iconst 0, 1) := by decide +kernel
theorem dX5_gainIn_27 : decode cX5_gainIn 27 = .ok (.iload_n 1, 1) := by decide +kernel
theorem dX5_gainIn_28 : decode cX5_gainIn 28 = .ok (.iload_n 2, 1) := by decide +kernel
theorem dX5_gainIn_29 : decode cX5_gainIn 29 = .ok (.ishr, 1) := by decide +kernel
theorem dX5_gainIn_30 : decode cX5_gainIn 30 = .ok (.iconst 1, 1) := by decide +kernel
theorem dX5_gainIn_31 : decode cX5_gainIn 31 = .ok (.iand, 1) := by decide +kernel
theorem dX5_gainIn_32 : decode cX5_gainIn 32 = .ok (.isub, 1) := by decide +kernel
theorem dX5_gainIn_33 : decode cX5_gainIn 33 = .ok (.ireturn, 1) := by decide +kernel
theorem dX5_isRest_0 : decode cX5_isRest 0 = .ok (.iconst 1, 1) := by decide +kernel
theorem dX5_isRest_1 : decode cX5_isRest 1 = .ok (.istore_n 2, 1) := by decide +kernel
theorem dX5_isRest_2 : decode cX5_isRest 2 = .ok (.iconst 0, 1) := by decide +kernel
theorem dX5_isRest_3 : decode cX5_isRest 3 = .ok (.istore_n 3, 1) := by decide +kernel
theorem dX5_isRest_4 : decode cX5_isRest 4 = .ok (.iload_n 3, 1) := by decide +kernel
theorem dX5_isRest_5 : decode cX5_isRest 5 = .ok (.aload_n 0, 1) := by decide +kernel
theorem dX5_isRest_6 : decode cX5_isRest 6 = .ok (.getfield 7, 3) := by decide +kernel
theorem dX5_isRest_9 : decode cX5_isRest 9 = .ok (.iconst 0, 1) := by decide +kernel
theorem dX5_isRest_10 : decode cX5_isRest 10 = .ok (.iaload, 1) := by decide +kernel
theorem dX5_isRest_11 : decode cX5_isRest 11 = .ok (.if_icmp .ge 70, 3) := by decide +kernel
theorem dX5_isRest_14 : decode cX5_isRest 14 = .ok (.aload_n 0, 1) := by decide +kernel
theorem dX5_isRest_15 : decode cX5_isRest 15 = .ok (.iload_n 3, 1) := by decide +kernel
theorem dX5_isRest_16 : decode cX5_isRest 16 = .ok (.iconst 1, 1) := by decide +kernel
theorem dX5_isRest_17 : decode cX5_isRest 17 = .ok (.invokevirtual 52, 3) := by decide +kernel
theorem dX5_isRest_20 : decode cX5_isRest 20 = .ok (.ifCond .le 7, 3) := by decide +kernel
theorem dX5_isRest_23 : decode cX5_isRest 23 = .ok (.iconst 1, 1) := by decide +kernel
theorem dX5_isRest_24 : decode cX5_isRest 24 = .ok (.goto 4, 3) := by decide +kernel
theorem dX5_isRest_27 : decode cX5_isRest 27 = .ok (.iconst 0, 1) := by decide +kernel
theorem dX5_isRest_28 : decode cX5_isRest 28 = .ok (.istore 4, 2) := by decide +kernel
theorem dX5_isRest_30 : decode cX5_isRest 30 = .ok (.iload_n 2, 1) := by decide +kernel
theorem dX5_isRest_31 : decode cX5_isRest 31 = .ok (.ifCond .eq 42, 3) := by decide +kernel
theorem dX5_isRest_34 : decode cX5_isRest 34 = .ok (.iload 4, 2) := by decide +kernel
theorem dX5_isRest_36 : decode cX5_isRest 36 = .ok (.ifCond .eq 25, 3) := by decide +kernel
theorem dX5_isRest_39 : decode cX5_isRest 39 = .ok (.aload_n 0, 1) := by decide +kernel
theorem dX5_isRest_40 : decode cX5_isRest 40 = .ok (.iload_n 1, 1) := by decide +kernel
theorem dX5_isRest_41 : decode cX5_isRest 41 = .ok (.iconst 1, 1) := by decide +kernel
theorem dX5_isRest_42 : decode cX5_isRest 42 = .ok (.iload_n 3, 1) := by decide +kernel
theorem dX5_isRest_43 : decode cX5_isRest 43 = .ok (.ishl, 1) := by decide +kernel
theorem dX5_isRest_44 : decode cX5_isRest 44 = .ok (.ixor, 1) := by decide +kernel
theorem dX5_isRest_45 : decode cX5_isRest 45 = .ok (.iload_n 3, 1) := by decide +kernel
theorem dX5_isRest_46 : decode cX5_isRest 46 = .ok (.invokevirtual 153, 3) := by decide +kernel
theorem dX5_isRest_49 : decode cX5_isRest 49 = .ok (.aload_n 0, 1) := by decide +kernel
theorem dX5_isRest_50 : decode cX5_isRest 50 = .ok (.iload_n 1, 1) := by decide +kernel
theorem dX5_isRest_51 : decode cX5_isRest 51 = .ok (.iload_n 3, 1) := by decide +kernel
theorem dX5_isRest_52 : decode cX5_isRest 52 = .ok (.invokevirtual 153, 3) := by decide +kernel
theorem dX5_isRest_55 : decode cX5_isRest 55 = .ok (.if_icmp .gt 18, 3) := by decide +kernel
theorem dX5_isRest_58 : decode cX5_isRest 58 = .ok (.goto 11, 3) := by decide +kernel
theorem dX5_isRest_61 : decode cX5_isRest 61 = .ok (.iload_n 1, 1) := by decide +kernel
theorem dX5_isRest_62 : decode cX5_isRest 62 = .ok (.iload_n 3, 1) := by decide +kernel
theorem dX5_isRest_63 : decode cX5_isRest 63 = .ok (.ishr, 1) := by decide +kernel
theorem dX5_isRest_64 : decode cX5_isRest 64 = .ok (.iconst 1, 1) := by decide +kernel
theorem dX5_isRest_65 : decode cX5_isRest 65 = .ok (.iand, 1) := by decide +kernel
theorem dX5_isRest_66 : decode cX5_isRest 66 = .ok (.ifCond .ne 7, 3) := by decide +kernel
theorem dX5_isRest_69 : decode cX5_isRest 69 = .ok (.iconst 1, 1) := by decide +kernel
theorem dX5_isRest_70 : decode cX5_isRest 70 = .ok (.goto 4, 3) := by decide +kernel
theorem dX5_isRest_73 : decode cX5_isRest 73 = .ok (.iconst 0, 1) := by decide +kernel
theorem dX5_isRest_74 : decode cX5_isRest 74 = .ok (.istore_n 2, 1) := by decide +kernel
theorem dX5_isRest_75 : decode cX5_isRest 75 = .ok (.iinc 3 1, 3) := by decide +kernel
theorem dX5_isRest_78 : decode cX5_isRest 78 = .ok (.goto (-74), 3) := by decide +kernel
theorem dX5_isRest_81 : decode cX5_isRest 81 = .ok (.iload_n 2, 1) := by decide +kernel
theorem dX5_isRest_82 : decode cX5_isRest 82 = .ok (.ireturn, 1) := by decide +kernel
theorem dX5_rests_0 : decode cX5_rests 0 = .ok (.aload_n 0, 1) := by decide +kernel
theorem dX5_rests_1 : decode cX5_rests 1 = .ok (.getfield 7, 3) := by decide +kernel
theorem dX5_rests_4 : decode cX5_rests 4 = .ok (.iconst 0, 1) := by decide +kernel
theorem dX5_rests_5 : decode cX5_rests 5 = .ok (.iaload, 1) := by decide +kernel
theorem dX5_rests_6 : decode cX5_rests 6 = .ok (.bipush 8, 2) := by decide +kernel
theorem dX5_rests_8 : decode cX5_rests 8 = .ok (.if_icmp .le 10, 3) := by decide +kernel
theorem dX5_rests_11 : decode cX5_rests 11 = .ok (.aload_n 0, 1) := by decide +kernel
theorem dX5_rests_12 : decode cX5_rests 12 = .ok (.ldc 156, 2) := by decide +kernel
theorem dX5_rests_14 : decode cX5_rests 14 = .ok (.invokevirtual 74, 3) := by decide +kernel
theorem dX5_rests_17 : decode cX5_rests 17 = .ok (.ireturn, 1) := by decide +kernel
theorem dX5_rests_18 : decode cX5_rests 18 = .ok (.iconst 0, 1) := by decide +kernel
theorem dX5_rests_19 : decode cX5_rests 19 = .ok (.istore_n 1, 1) := by decide +kernel
theorem dX5_rests_20 : decode cX5_rests 20 = .ok (.iconst 0, 1) := by decide +kernel
theorem dX5_rests_21 : decode cX5_rests 21 = .ok (.istore_n 2, 1) := by decide +kernel
theorem dX5_rests_22 : decode cX5_rests 22 = .ok (.iload_n 2, 1) := by decide +kernel
theorem dX5_rests_23 : decode cX5_rests 23 = .ok (.iconst 1, 1) := by decide +kernel
theorem dX5_rests_24 : decode cX5_rests 24 = .ok (.aload_n 0, 1) := by decide +kernel
theorem dX5_rests_25 : decode cX5_rests 25 = .ok (.getfield 7, 3) := by decide +kernel
theorem dX5_rests_28 : decode cX5_rests 28 = .ok (.iconst 0, 1) := by decide +kernel
theorem dX5_rests_29 : decode cX5_rests 29 = .ok (.iaload, 1) := by decide +kernel
theorem dX5_rests_30 : decode cX5_rests 30 = .ok (.ishl, 1) := by decide +kernel
theorem dX5_rests_31 : decode cX5_rests 31 = .ok (.if_icmp .ge 25, 3) := by decide +kernel
theorem dX5_rests_34 : decode cX5_rests 34 = .ok (.iload_n 1, 1) := by decide +kernel
theorem dX5_rests_35 : decode cX5_rests 35 = .ok (.aload_n 0, 1) := by decide +kernel
theorem dX5_rests_36 : decode cX5_rests 36 = .ok (.iload_n 2, 1) := by decide +kernel
theorem dX5_rests_37 : decode cX5_rests 37 = .ok (.invokevirtual 157, 3) := by decide +kernel
theorem dX5_rests_40 : decode cX5_rests 40 = .ok (.ifCond .eq 7, 3) := by decide +kernel
theorem dX5_rests_43 : decode cX5_rests 43 = .ok (.iconst 1, 1) := by decide +kernel
theorem dX5_rests_44 : decode cX5_rests 44 = .ok (.goto 4, 3) := by decide +kernel
theorem dX5_rests_47 : decode cX5_rests 47 = .ok (.iconst 0, 1) := by decide +kernel
theorem dX5_rests_48 : decode cX5_rests 48 = .ok (.iadd, 1) := by decide +kernel
theorem dX5_rests_49 : decode cX5_rests 49 = .ok (.istore_n 1, 1) := by decide +kernel
theorem dX5_rests_50 : decode cX5_rests 50 = .ok (.iinc 2 1, 3) := by decide +kernel
theorem dX5_rests_53 : decode cX5_rests 53 = .ok (.goto (-31), 3) := by decide +kernel
theorem dX5_rests_56 : decode cX5_rests 56 = .ok (.iload_n 1, 1) := by decide +kernel
theorem dX5_rests_57 : decode cX5_rests 57 = .ok (.ireturn, 1) := by decide +kernel
theorem dX5_rest_0 : decode cX5_rest 0 = .ok (.aload_n 0, 1) := by decide +kernel
theorem dX5_rest_1 : decode cX5_rest 1 = .ok (.getfield 7, 3) := by decide +kernel
theorem dX5_rest_4 : decode cX5_rest 4 = .ok (.iconst 0, 1) := by decide +kernel
theorem dX5_rest_5 : decode cX5_rest 5 = .ok (.iaload, 1) := by decide +kernel
theorem dX5_rest_6 : decode cX5_rest 6 = .ok (.bipush 8, 2) := by decide +kernel
theorem dX5_rest_8 : decode cX5_rest 8 = .ok (.if_icmp .le 10, 3) := by decide +kernel
theorem dX5_rest_11 : decode cX5_rest 11 = .ok (.aload_n 0, 1) := by decide +kernel
theorem dX5_rest_12 : decode cX5_rest 12 = .ok (.ldc 156, 2) := by decide +kernel
theorem dX5_rest_14 : decode cX5_rest 14 = .ok (.invokevirtual 74, 3) := by decide +kernel
theorem dX5_rest_17 : decode cX5_rest 17 = .ok (.ireturn, 1) := by decide +kernel
theorem dX5_rest_18 : decode cX5_rest 18 = .ok (.iconst 0, 1) := by decide +kernel
theorem dX5_rest_19 : decode cX5_rest 19 = .ok (.istore_n 1, 1) := by decide +kernel
theorem dX5_rest_20 : decode cX5_rest 20 = .ok (.iload_n 1, 1) := by decide +kernel
theorem dX5_rest_21 : decode cX5_rest 21 = .ok (.iconst 1, 1) := by decide +kernel
theorem dX5_rest_22 : decode cX5_rest 22 = .ok (.aload_n 0, 1) := by decide +kernel
theorem dX5_rest_23 : decode cX5_rest 23 = .ok (.getfield 7, 3) := by decide +kernel
theorem dX5_rest_26 : decode cX5_rest 26 = .ok (.iconst 0, 1) := by decide +kernel
theorem dX5_rest_27 : decode cX5_rest 27 = .ok (.iaload, 1) := by decide +kernel
theorem dX5_rest_28 : decode cX5_rest 28 = .ok (.ishl, 1) := by decide +kernel
theorem dX5_rest_29 : decode cX5_rest 29 = .ok (.if_icmp .ge 17, 3) := by decide +kernel
theorem dX5_rest_32 : decode cX5_rest 32 = .ok (.aload_n 0, 1) := by decide +kernel
theorem dX5_rest_33 : decode cX5_rest 33 = .ok (.iload_n 1, 1) := by decide +kernel
theorem dX5_rest_34 : decode cX5_rest 34 = .ok (.invokevirtual 157, 3) := by decide +kernel
theorem dX5_rest_37 : decode cX5_rest 37 = .ok (.ifCond .ne 9, 3) := by decide +kernel
theorem dX5_rest_40 : decode cX5_rest 40 = .ok (.iinc 1 1, 3) := by decide +kernel
theorem dX5_rest_43 : decode cX5_rest 43 = .ok (.goto (-23), 3) := by decide +kernel
theorem dX5_rest_46 : decode cX5_rest 46 = .ok (.iload_n 1, 1) := by decide +kernel
theorem dX5_rest_47 : decode cX5_rest 47 = .ok (.iconst 1, 1) := by decide +kernel
theorem dX5_rest_48 : decode cX5_rest 48 = .ok (.aload_n 0, 1) := by decide +kernel
theorem dX5_rest_49 : decode cX5_rest 49 = .ok (.getfield 7, 3) := by decide +kernel
theorem dX5_rest_52 : decode cX5_rest 52 = .ok (.iconst 0, 1) := by decide +kernel
theorem dX5_rest_53 : decode cX5_rest 53 = .ok (.iaload, 1) := by decide +kernel
theorem dX5_rest_54 : decode cX5_rest 54 = .ok (.ishl, 1) := by decide +kernel
theorem dX5_rest_55 : decode cX5_rest 55 = .ok (.if_icmp .ge 7, 3) := by decide +kernel
theorem dX5_rest_58 : decode cX5_rest 58 = .ok (.iload_n 1, 1) := by decide +kernel
theorem dX5_rest_59 : decode cX5_rest 59 = .ok (.goto 9, 3) := by decide +kernel
theorem dX5_rest_62 : decode cX5_rest 62 = .ok (.aload_n 0, 1) := by decide +kernel
theorem dX5_rest_63 : decode cX5_rest 63 = .ok (.ldc 133, 2) := by decide +kernel
theorem dX5_rest_65 : decode cX5_rest 65 = .ok (.invokevirtual 74, 3) := by decide +kernel
theorem dX5_rest_68 : decode cX5_rest 68 = .ok (.ireturn, 1) := by decide +kernel
theorem dX5_feed_0 : decode cX5_feed 0 = .ok (.iload_n 2, 1) := by decide +kernel
theorem dX5_feed_1 : decode cX5_feed 1 = .ok (.iconst 1, 1) := by decide +kernel
theorem dX5_feed_2 : decode cX5_feed 2 = .ok (.iconst 4, 1) := by decide +kernel
theorem dX5_feed_3 : decode cX5_feed 3 = .ok (.invokestatic 48, 3) := by decide +kernel
theorem dX5_feed_6 : decode cX5_feed 6 = .ok (.ifCond .ne 10, 3) := by decide +kernel
theorem dX5_feed_9 : decode cX5_feed 9 = .ok (.aload_n 0, 1) := by decide +kernel
theorem dX5_feed_10 : decode cX5_feed 10 = .ok (.ldc 47, 2) := by decide +kernel
theorem dX5_feed_12 : decode cX5_feed 12 = .ok (.invokevirtual 74, 3) := by decide +kernel
theorem dX5_feed_15 : decode cX5_feed 15 = .ok (.ireturn, 1) := by decide +kernel
theorem dX5_feed_16 : decode cX5_feed 16 = .ok (.aload_n 0, 1) := by decide +kernel
theorem dX5_feed_17 : decode cX5_feed 17 = .ok (.getfield 160, 3) := by decide +kernel
theorem dX5_feed_20 : decode cX5_feed 20 = .ok (.iload_n 2, 1) := by decide +kernel
theorem dX5_feed_21 : decode cX5_feed 21 = .ok (.iadd, 1) := by decide +kernel
theorem dX5_feed_22 : decode cX5_feed 22 = .ok (.bipush 120, 2) := by decide +kernel
theorem dX5_feed_24 : decode cX5_feed 24 = .ok (.if_icmp .le 10, 3) := by decide +kernel
theorem dX5_feed_27 : decode cX5_feed 27 = .ok (.aload_n 0, 1) := by decide +kernel
theorem dX5_feed_28 : decode cX5_feed 28 = .ok (.ldc 78, 2) := by decide +kernel
theorem dX5_feed_30 : decode cX5_feed 30 = .ok (.invokevirtual 74, 3) := by decide +kernel
theorem dX5_feed_33 : decode cX5_feed 33 = .ok (.ireturn, 1) := by decide +kernel
theorem dX5_feed_34 : decode cX5_feed 34 = .ok (.iload_n 2, 1) := by decide +kernel
theorem dX5_feed_35 : decode cX5_feed 35 = .ok (.iconst 1, 1) := by decide +kernel
theorem dX5_feed_36 : decode cX5_feed 36 = .ok (.isub, 1) := by decide +kernel
theorem dX5_feed_37 : decode cX5_feed 37 = .ok (.istore_n 3, 1) := by decide +kernel
theorem dX5_feed_38 : decode cX5_feed 38 = .ok (.iload_n 3, 1) := by decide +kernel
theorem dX5_feed_39 : decode cX5_feed 39 = .ok (.ifCond .lt 38, 3) := by decide +kernel
theorem dX5_feed_42 : decode cX5_feed 42 = .ok (.aload_n 0, 1) := by decide +kernel
theorem dX5_feed_43 : decode cX5_feed 43 = .ok (.getfield 25, 3) := by decide +kernel
theorem dX5_feed_46 : decode cX5_feed 46 = .ok (.aload_n 0, 1) := by decide +kernel
theorem dX5_feed_47 : decode cX5_feed 47 = .ok (.getfield 160, 3) := by decide +kernel
theorem dX5_feed_50 : decode cX5_feed 50 = .ok (.iload_n 1, 1) := by decide +kernel
theorem dX5_feed_51 : decode cX5_feed 51 = .ok (.bipush 8, 2) := by decide +kernel
theorem dX5_feed_53 : decode cX5_feed 53 = .ok (.iload_n 3, 1) := by decide +kernel
theorem dX5_feed_54 : decode cX5_feed 54 = .ok (.imul, 1) := by decide +kernel
theorem dX5_feed_55 : decode cX5_feed 55 = .ok (.ishr, 1) := by decide +kernel
theorem dX5_feed_56 : decode cX5_feed 56 = .ok (.sipush 255, 3) := by decide +kernel
theorem dX5_feed_59 : decode cX5_feed 59 = .ok (.iand, 1) := by decide +kernel
theorem dX5_feed_60 : decode cX5_feed 60 = .ok (.iastore, 1) := by decide +kernel
theorem dX5_feed_61 : decode cX5_feed 61 = .ok (.aload_n 0, 1) := by decide +kernel
theorem dX5_feed_62 : decode cX5_feed 62 = .ok (.dup, 1) := by decide +kernel
theorem dX5_feed_63 : decode cX5_feed 63 = .ok (.getfield 160, 3) := by decide +kernel
theorem dX5_feed_66 : decode cX5_feed 66 = .ok (.iconst 1, 1) := by decide +kernel
theorem dX5_feed_67 : decode cX5_feed 67 = .ok (.iadd, 1) := by decide +kernel
theorem dX5_feed_68 : decode cX5_feed 68 = .ok (.putfield 160, 3) := by decide +kernel
theorem dX5_feed_71 : decode cX5_feed 71 = .ok (.iinc 3 (-1), 3) := by decide +kernel
theorem dX5_feed_74 : decode cX5_feed 74 = .ok (.goto (-36), 3) := by decide +kernel
theorem dX5_feed_77 : decode cX5_feed 77 = .ok (.aload_n 0, 1) := by decide +kernel
theorem dX5_feed_78 : decode cX5_feed 78 = .ok (.getfield 160, 3) := by decide +kernel
theorem dX5_feed_81 : decode cX5_feed 81 = .ok (.ireturn, 1) := by decide +kernel
theorem dX5_wipe_0 : decode cX5_wipe 0 = .ok (.aload_n 0, 1) := by decide +kernel
theorem dX5_wipe_1 : decode cX5_wipe 1 = .ok (.getfield 160, 3) := by decide +kernel
theorem dX5_wipe_4 : decode cX5_wipe 4 = .ok (.istore_n 1, 1) := by decide +kernel
theorem dX5_wipe_5 : decode cX5_wipe 5 = .ok (.aload_n 0, 1) := by decide +kernel
theorem dX5_wipe_6 : decode cX5_wipe 6 = .ok (.iconst 0, 1) := by decide +kernel
theorem dX5_wipe_7 : decode cX5_wipe 7 = .ok (.putfield 160, 3) := by decide +kernel
theorem dX5_wipe_10 : decode cX5_wipe 10 = .ok (.iload_n 1, 1) := by decide +kernel
theorem dX5_wipe_11 : decode cX5_wipe 11 = .ok (.ireturn, 1) := by decide +kernel
theorem dX5_byteAt_0 : decode cX5_byteAt 0 = .ok (.iload_n 1, 1) := by decide +kernel
theorem dX5_byteAt_1 : decode cX5_byteAt 1 = .ok (.aload_n 0, 1) := by decide +kernel
theorem dX5_byteAt_2 : decode cX5_byteAt 2 = .ok (.getfield 160, 3) := by decide +kernel
theorem dX5_byteAt_5 : decode cX5_byteAt 5 = .ok (.if_icmp .ge 12, 3) := by decide +kernel
theorem dX5_byteAt_8 : decode cX5_byteAt 8 = .ok (.aload_n 0, 1) := by decide +kernel
theorem dX5_byteAt_9 : decode cX5_byteAt 9 = .ok (.getfield 25, 3) := by decide +kernel
theorem dX5_byteAt_12 : decode cX5_byteAt 12 = .ok (.iload_n 1, 1) := by decide +kernel
theorem dX5_byteAt_13 : decode cX5_byteAt 13 = .ok (.iaload, 1) := by decide +kernel
theorem dX5_byteAt_14 : decode cX5_byteAt 14 = .ok (.goto 4, 3) := by decide +kernel
theorem dX5_byteAt_17 : decode cX5_byteAt 17 = .ok (.iconst (-1), 1) := by decide +kernel
theorem dX5_byteAt_18 : decode cX5_byteAt 18 = .ok (.ireturn, 1) := by decide +kernel
theorem dX5_isLetter_0 : decode cX5_isLetter 0 = .ok (.iload_n 0, 1) := by decide +kernel
theorem dX5_isLetter_1 : decode cX5_isLetter 1 = .ok (.bipush 97, 2) := by decide +kernel
theorem dX5_isLetter_3 : decode cX5_isLetter 3 = .ok (.bipush 122, 2) := by decide +kernel
theorem dX5_isLetter_5 : decode cX5_isLetter 5 = .ok (.invokestatic 48, 3) := by decide +kernel
theorem dX5_isLetter_8 : decode cX5_isLetter 8 = .ok (.ireturn, 1) := by decide +kernel
theorem dX5_isDigit_0 : decode cX5_isDigit 0 = .ok (.iload_n 0, 1) := by decide +kernel
theorem dX5_isDigit_1 : decode cX5_isDigit 1 = .ok (.bipush 48, 2) := by decide +kernel
theorem dX5_isDigit_3 : decode cX5_isDigit 3 = .ok (.bipush 57, 2) := by decide +kernel
theorem dX5_isDigit_5 : decode cX5_isDigit 5 = .ok (.invokestatic 48, 3) := by decide +kernel
theorem dX5_isDigit_8 : decode cX5_isDigit 8 = .ok (.ireturn, 1) := by decide +kernel
theorem dX5_advance_0 : decode cX5_advance 0 = .ok (.aload_n 0, 1) := by decide +kernel
theorem dX5_advance_1 : decode cX5_advance 1 = .ok (.aload_n 0, 1) := by decide +kernel
theorem dX5_advance_2 : decode cX5_advance 2 = .ok (.getfield 163, 3) := by decide +kernel
theorem dX5_advance_5 : decode cX5_advance 5 = .ok (.putfield 166, 3) := by decide +kernel
theorem dX5_advance_8 : decode cX5_advance 8 = .ok (.aload_n 0, 1) := by decide +kernel
theorem dX5_advance_9 : decode cX5_advance 9 = .ok (.aload_n 0, 1) := by decide +kernel
theorem dX5_advance_10 : decode cX5_advance 10 = .ok (.getfield 166, 3) := by decide +kernel
theorem dX5_advance_13 : decode cX5_advance 13 = .ok (.invokevirtual 169, 3) := by decide +kernel
theorem dX5_advance_16 : decode cX5_advance 16 = .ok (.bipush 32, 2) := by decide +kernel
theorem dX5_advance_18 : decode cX5_advance 18 = .ok (.if_icmp .ne 16, 3) := by decide +kernel
theorem dX5_advance_21 : decode cX5_advance 21 = .ok (.aload_n 0, 1) := by decide +kernel
theorem dX5_advance_22 : decode cX5_advance 22 = .ok (.dup, 1) := by decide +kernel
theorem dX5_advance_23 : decode cX5_advance 23 = .ok (.getfield 166, 3) := by decide +kernel
theorem dX5_advance_26 : decode cX5_advance 26 = .ok (.iconst 1, 1) := by decide +kernel
theorem dX5_advance_27 : decode cX5_advance 27 = .ok (.iadd, 1) := by decide +kernel
theorem dX5_advance_28 : decode cX5_advance 28 = .ok (.putfield 166, 3) := by decide +kernel
theorem dX5_advance_31 : decode cX5_advance 31 = .ok (.goto (-23), 3) := by decide +kernel
theorem dX5_advance_34 : decode cX5_advance 34 = .ok (.aload_n 0, 1) := by decide +kernel
theorem dX5_advance_35 : decode cX5_advance 35 = .ok (.aload_n 0, 1) := by decide +kernel
theorem dX5_advance_36 : decode cX5_advance 36 = .ok (.getfield 166, 3) := by decide +kernel
theorem dX5_advance_39 : decode cX5_advance 39 = .ok (.putfield 163, 3) := by decide +kernel
theorem dX5_advance_42 : decode cX5_advance 42 = .ok (.aload_n 0, 1) := by decide +kernel
theorem dX5_advance_43 : decode cX5_advance 43 = .ok (.aload_n 0, 1) := by decide +kernel
theorem dX5_advance_44 : decode cX5_advance 44 = .ok (.getfield 166, 3) := by decide +kernel
theorem dX5_advance_47 : decode cX5_advance 47 = .ok (.invokevirtual 169, 3) := by decide +kernel
theorem dX5_advance_50 : decode cX5_advance 50 = .ok (.istore_n 1, 1) := by decide +kernel
theorem dX5_advance_51 : decode cX5_advance 51 = .ok (.aload_n 0, 1) := by decide +kernel
theorem dX5_advance_52 : decode cX5_advance 52 = .ok (.iload_n 1, 1) := by decide +kernel
theorem dX5_advance_53 : decode cX5_advance 53 = .ok (.ifCond .ge 7, 3) := by decide +kernel
theorem dX5_advance_56 : decode cX5_advance 56 = .ok (.iconst 0, 1) := by decide +kernel
theorem dX5_advance_57 : decode cX5_advance 57 = .ok (.goto 26, 3) := by decide +kernel
theorem dX5_advance_60 : decode cX5_advance 60 = .ok (.iload_n 1, 1) := by decide +kernel
theorem dX5_advance_61 : decode cX5_advance 61 = .ok (.invokestatic 172, 3) := by decide +kernel
theorem dX5_advance_64 : decode cX5_advance 64 = .ok (.ifCond .eq 7, 3) := by decide +kernel
theorem dX5_advance_67 : decode cX5_advance 67 = .ok (.iconst 1, 1) := by decide +kernel
theorem dX5_advance_68 : decode cX5_advance 68 = .ok (.goto 15, 3) := by decide +kernel
theorem dX5_advance_71 : decode cX5_advance 71 = .ok (.iload_n 1, 1) := by decide +kernel
theorem dX5_advance_72 : decode cX5_advance 72 = .ok (.invokestatic 175, 3) := by decide +kernel
theorem dX5_advance_75 : decode cX5_advance 75 = .ok (.ifCond .eq 7, 3) := by decide +kernel
theorem dX5_advance_78 : decode cX5_advance 78 = .ok (.iconst 2, 1) := by decide +kernel
theorem dX5_advance_79 : decode cX5_advance 79 = .ok (.goto 4, 3) := by decide +kernel
theorem dX5_advance_82 : decode cX5_advance 82 = .ok (.iconst 3, 1) := by decide +kernel
theorem dX5_advance_83 : decode cX5_advance 83 = .ok (.putfield 178, 3) := by decide +kernel
theorem dX5_advance_86 : decode cX5_advance 86 = .ok (.aload_n 0, 1) := by decide +kernel
theorem dX5_advance_87 : decode cX5_advance 87 = .ok (.lconst 0, 1) := by decide +kernel
theorem dX5_advance_88 : decode cX5_advance 88 = .ok (.putfield 181, 3) := by decide +kernel
theorem dX5_advance_91 : decode cX5_advance 91 = .ok (.aload_n 0, 1) := by decide +kernel
theorem dX5_advance_92 : decode cX5_advance 92 = .ok (.aload_n 0, 1) := by decide +kernel
theorem dX5_advance_93 : decode cX5_advance 93 = .ok (.getfield 178, 3) := by decide +kernel
theorem dX5_advance_96 : decode cX5_advance 96 = .ok (.iconst 2, 1) := by decide +kernel
theorem dX5_advance_97 : decode cX5_advance 97 = .ok (.if_icmp .ne 7, 3) := by decide +kernel
theorem dX5_advance_100 : decode cX5_advance 100 = .ok (.iconst 0, 1) := by decide +kernel
theorem dX5_advance_101 : decode cX5_advance 101 = .ok (.goto 4, 3) := by decide +kernel
theorem dX5_advance_104 : decode cX5_advance 104 = .ok (.iload_n 1, 1) := by decide +kernel
theorem dX5_advance_105 : decode cX5_advance 105 = .ok (.putfield 185, 3) := by decide +kernel
theorem dX5_advance_108 : decode cX5_advance 108 = .ok (.aload_n 0, 1) := by decide +kernel
theorem dX5_advance_109 : decode cX5_advance 109 = .ok (.getfield 178, 3) := by decide +kernel
theorem dX5_advance_112 : decode cX5_advance 112 = .ok (.iconst 3, 1) := by decide +kernel
theorem dX5_advance_113 : decode cX5_advance 113 = .ok (.if_icmp .ne 13, 3) := by decide +kernel
theorem dX5_advance_116 : decode cX5_advance 116 = .ok (.aload_n 0, 1) := by decide +kernel
theorem dX5_advance_117 : decode cX5_advance 117 = .ok (.dup, 1) := by decide +kernel
theorem dX5_advance_118 : decode cX5_advance 118 = .ok (.getfield 163, 3) := by decide +kernel
theorem dX5_advance_121 : decode cX5_advance 121 = .ok (.iconst 1, 1) := by decide +kernel
theorem dX5_advance_122 : decode cX5_advance 122 = .ok (.iadd, 1) := by decide +kernel
theorem dX5_advance_123 : decode cX5_advance 123 = .ok (.putfield 163, 3) := by decide +kernel
theorem dX5_advance_126 : decode cX5_advance 126 = .ok (.aload_n 0, 1) := by decide +kernel
theorem dX5_advance_127 : decode cX5_advance 127 = .ok (.getfield 178, 3) := by decide +kernel
theorem dX5_advance_130 : decode cX5_advance 130 = .ok (.iconst 1, 1) := by decide +kernel
theorem dX5_advance_131 : decode cX5_advance 131 = .ok (.if_icmp .ne 76, 3) := by decide +kernel
theorem dX5_advance_134 : decode cX5_advance 134 = .ok (.aload_n 0, 1) := by decide +kernel
theorem dX5_advance_135 : decode cX5_advance 135 = .ok (.aload_n 0, 1) := by decide +kernel
theorem dX5_advance_136 : decode cX5_advance 136 = .ok (.getfield 163, 3) := by decide +kernel
theorem dX5_advance_139 : decode cX5_advance 139 = .ok (.invokevirtual 169, 3) := by decide +kernel
theorem dX5_advance_142 : decode cX5_advance 142 = .ok (.invokestatic 172, 3) := by decide +kernel
theorem dX5_advance_145 : decode cX5_advance 145 = .ok (.ifCond .eq 62, 3) := by decide +kernel
theorem dX5_advance_148 : decode cX5_advance 148 = .ok (.aload_n 0, 1) := by decide +kernel
theorem dX5_advance_149 : decode cX5_advance 149 = .ok (.aload_n 0, 1) := by decide +kernel
theorem dX5_advance_150 : decode cX5_advance 150 = .ok (.getfield 163, 3) := by decide +kernel
theorem dX5_advance_153 : decode cX5_advance 153 = .ok (.aload_n 0, 1) := by decide +kernel
theorem dX5_advance_154 : decode cX5_advance 154 = .ok (.getfield 166, 3) := by decide +kernel
theorem dX5_advance_157 : decode cX5_advance 157 = .ok (.isub, 1) := by decide +kernel
theorem dX5_advance_158 : decode cX5_advance 158 = .ok (.bipush 12, 2) := by decide +kernel
theorem dX5_advance_160 : decode cX5_advance 160 = .ok (.if_icmp .ge 28, 3) := by decide +kernel
theorem dX5_advance_163 : decode cX5_advance 163 = .ok (.ldc2_w 188, 3) := by decide +kernel
theorem dX5_advance_166 : decode cX5_advance 166 = .ok (.aload_n 0, 1) := by decide +kernel
theorem dX5_advance_167 : decode cX5_advance 167 = .ok (.getfield 181, 3) := by decide +kernel
theorem dX5_advance_170 : decode cX5_advance 170 = .ok (.lmul, 1) := by decide +kernel
theorem dX5_advance_171 : decode cX5_advance 171 = .ok (.aload_n 0, 1) := by decide +kernel
theorem dX5_advance_172 : decode cX5_advance 172 = .ok (.aload_n 0, 1) := by decide +kernel
theorem dX5_advance_173 : decode cX5_advance 173 = .ok (.getfield 163, 3) := by decide +kernel
theorem dX5_advance_176 : decode cX5_advance 176 = .ok (.invokevirtual 169, 3) := by decide +kernel
theorem dX5_advance_179 : decode cX5_advance 179 = .ok (.i2l, 1) := by decide +kernel
theorem dX5_advance_180 : decode cX5_advance 180 = .ok (.ladd, 1) := by decide +kernel
theorem dX5_advance_181 : decode cX5_advance 181 = .ok (.ldc2_w 190, 3) := by decide +kernel
theorem dX5_advance_184 : decode cX5_advance 184 = .ok (.lsub, 1) := by decide +kernel
theorem dX5_advance_185 : decode cX5_advance 185 = .ok (.goto 6, 3) := by decide +kernel
theorem dX5_advance_188 : decode cX5_advance 188 = .ok (.ldc2_w 192, 3) := by decide +kernel
theorem dX5_advance_191 : decode cX5_advance 191 = .ok (.putfield 181, 3) := by decide +kernel
theorem dX5_advance_194 : decode cX5_advance 194 = .ok (.aload_n 0, 1) := by decide +kernel
theorem dX5_advance_195 : decode cX5_advance 195 = .ok (.dup, 1) := by decide +kernel
theorem dX5_advance_196 : decode cX5_advance 196 = .ok (.getfield 163, 3) := by decide +kernel
theorem dX5_advance_199 : decode cX5_advance 199 = .ok (.iconst 1, 1) := by decide +kernel
theorem dX5_advance_200 : decode cX5_advance 200 = .ok (.iadd, 1) := by decide +kernel
theorem dX5_advance_201 : decode cX5_advance 201 = .ok (.putfield 163, 3) := by decide +kernel
theorem dX5_advance_204 : decode cX5_advance 204 = .ok (.goto (-78), 3) := by decide +kernel
theorem dX5_advance_207 : decode cX5_advance 207 = .ok (.aload_n 0, 1) := by decide +kernel
theorem dX5_advance_208 : decode cX5_advance 208 = .ok (.getfield 178, 3) := by decide +kernel
theorem dX5_advance_211 : decode cX5_advance 211 = .ok (.iconst 2, 1) := by decide +kernel
theorem dX5_advance_212 : decode cX5_advance 212 = .ok (.if_icmp .ne 68, 3) := by decide +kernel
theorem dX5_advance_215 : decode cX5_advance 215 = .ok (.aload_n 0, 1) := by decide +kernel
theorem dX5_advance_216 : decode cX5_advance 216 = .ok (.aload_n 0, 1) := by decide +kernel
theorem dX5_advance_217 : decode cX5_advance 217 = .ok (.getfield 163, 3) := by decide +kernel
theorem dX5_advance_220 : decode cX5_advance 220 = .ok (.invokevirtual 169, 3) := by decide +kernel
theorem dX5_advance_223 : decode cX5_advance 223 = .ok (.invokestatic 175, 3) := by decide +kernel
theorem dX5_advance_226 : decode cX5_advance 226 = .ok (.ifCond .eq 54, 3) := by decide +kernel
theorem dX5_advance_229 : decode cX5_advance 229 = .ok (.aload_n 0, 1) := by decide +kernel
theorem dX5_advance_230 : decode cX5_advance 230 = .ok (.aload_n 0, 1) := by decide +kernel
theorem dX5_advance_231 : decode cX5_advance 231 = .ok (.getfield 185, 3) := by decide +kernel
theorem dX5_advance_234 : decode cX5_advance 234 = .ok (.bipush 99, 2) := by decide +kernel
theorem dX5_advance_236 : decode cX5_advance 236 = .ok (.if_icmp .le 9, 3) := by decide +kernel
theorem dX5_advance_239 : decode cX5_advance 239 = .ok (.sipush 1000, 3) := by decide +kernel
theorem dX5_advance_242 : decode cX5_advance 242 = .ok (.goto 22, 3) := by decide +kernel
theorem dX5_advance_245 : decode cX5_advance 245 = .ok (.bipush 10, 2) := by decide +kernel
theorem dX5_advance_247 : decode cX5_advance 247 = .ok (.aload_n 0, 1) := by decide +kernel
theorem dX5_advance_248 : decode cX5_advance 248 = .ok (.getfield 185, 3) := by decide +kernel
theorem dX5_advance_251 : decode cX5_advance 251 = .ok (.imul, 1) := by decide +kernel
theorem dX5_advance_252 : decode cX5_advance 252 = .ok (.aload_n 0, 1) := by decide +kernel
theorem dX5_advance_253 : decode cX5_advance 253 = .ok (.aload_n 0, 1) := by decide +kernel
theorem dX5_advance_254 : decode cX5_advance 254 = .ok (.getfield 163, 3) := by decide +kernel
theorem dX5_advance_257 : decode cX5_advance 257 = .ok (.invokevirtual 169, 3) := by decide +kernel
theorem dX5_advance_260 : decode cX5_advance 260 = .ok (.iadd, 1) := by decide +kernel
theorem dX5_advance_261 : decode cX5_advance 261 = .ok (.bipush 48, 2) := by decide +kernel
theorem dX5_advance_263 : decode cX5_advance 263 = .ok (.isub, 1) := by decide +kernel
theorem dX5_advance_264 : decode cX5_advance 264 = .ok (.putfield 185, 3) := by decide +kernel
theorem dX5_advance_267 : decode cX5_advance 267 = .ok (.aload_n 0, 1) := by decide +kernel
theorem dX5_advance_268 : decode cX5_advance 268 = .ok (.dup, 1) := by decide +kernel
theorem dX5_advance_269 : decode cX5_advance 269 = .ok (.getfield 163, 3) := by decide +kernel
theorem dX5_advance_272 : decode cX5_advance 272 = .ok (.iconst 1, 1) := by decide +kernel
theorem dX5_advance_273 : decode cX5_advance 273 = .ok (.iadd, 1) := by decide +kernel
theorem dX5_advance_274 : decode cX5_advance 274 = .ok (.putfield 163, 3) := by decide +kernel
theorem dX5_advance_277 : decode cX5_advance 277 = .ok (.goto (-70), 3) := by decide +kernel
theorem dX5_advance_280 : decode cX5_advance 280 = .ok (.return_, 1) := by decide +kernel
theorem dX5_isWord_0 : decode cX5_isWord 0 = .ok (.aload_n 0, 1) := by decide +kernel
theorem dX5_isWord_1 : decode cX5_isWord 1 = .ok (.getfield 178, 3) := by decide +kernel
theorem dX5_isWord_4 : decode cX5_isWord 4 = .ok (.iconst 1, 1) := by decide +kernel
theorem dX5_isWord_5 : decode cX5_isWord 5 = .ok (.if_icmp .ne 16, 3) := by decide +kernel
theorem dX5_isWord_8 : decode cX5_isWord 8 = .ok (.aload_n 0, 1) := by decide +kernel
theorem dX5_isWord_9 : decode cX5_isWord 9 = .ok (.getfield 181, 3) := by decide +kernel
theorem dX5_isWord_12 : decode cX5_isWord 12 = .ok (.lload_n 1, 1) := by decide +kernel
theorem dX5_isWord_13 : decode cX5_isWord 13 = .ok (.lcmp, 1) := by decide +kernel
theorem dX5_isWord_14 : decode cX5_isWord 14 = .ok (.ifCond .ne 7, 3) := by decide +kernel
theorem dX5_isWord_17 : decode cX5_isWord 17 = .ok (.iconst 1, 1) := by decide +kernel
theorem dX5_isWord_18 : decode cX5_isWord 18 = .ok (.goto 4, 3) := by decide +kernel
theorem dX5_isWord_21 : decode cX5_isWord 21 = .ok (.iconst 0, 1) := by decide +kernel
theorem dX5_isWord_22 : decode cX5_isWord 22 = .ok (.ireturn, 1) := by decide +kernel
theorem dX5_kindHere_0 : decode cX5_kindHere 0 = .ok (.aload_n 0, 1) := by decide +kernel
theorem dX5_kindHere_1 : decode cX5_kindHere 1 = .ok (.ldc2_w 194, 3) := by decide +kernel
theorem dX5_kindHere_4 : decode cX5_kindHere 4 = .ok (.invokevirtual 196, 3) := by decide +kernel
theorem dX5_kindHere_7 : decode cX5_kindHere 7 = .ok (.ifCond .eq 7, 3) := by decide +kernel
theorem dX5_kindHere_10 : decode cX5_kindHere 10 = .ok (.iconst 0, 1) := by decide +kernel
theorem dX5_kindHere_11 : decode cX5_kindHere 11 = .ok (.goto 74, 3) := by decide +kernel
theorem dX5_kindHere_14 : decode cX5_kindHere 14 = .ok (.aload_n 0, 1) := by decide +kernel
theorem dX5_kindHere_15 : decode cX5_kindHere 15 = .ok (.ldc2_w 200, 3) := by decide +kernel
theorem dX5_kindHere_18 : decode cX5_kindHere 18 = .ok (.invokevirtual 196, 3) := by decide +kernel
theorem dX5_kindHere_21 : decode cX5_kindHere 21 = .ok (.ifCond .eq 7, 3) := by decide +kernel
theorem dX5_kindHere_24 : decode cX5_kindHere 24 = .ok (.iconst 1, 1) := by decide +kernel
theorem dX5_kindHere_25 : decode cX5_kindHere 25 = .ok (.goto 60, 3) := by decide +kernel
theorem dX5_kindHere_28 : decode cX5_kindHere 28 = .ok (.aload_n 0, 1) := by decide +kernel
theorem dX5_kindHere_29 : decode cX5_kindHere 29 = .ok (.ldc2_w 202, 3) := by decide +kernel
theorem dX5_kindHere_32 : decode cX5_kindHere 32 = .ok (.invokevirtual 196, 3) := by decide +kernel
theorem dX5_kindHere_35 : decode cX5_kindHere 35 = .ok (.ifCond .eq 7, 3) := by decide +kernel
theorem dX5_kindHere_38 : decode cX5_kindHere 38 = .ok (.iconst 2, 1) := by decide +kernel
theorem dX5_kindHere_39 : decode cX5_kindHere 39 = .ok (.goto 46, 3) := by decide +kernel
theorem dX5_kindHere_42 : decode cX5_kindHere 42 = .ok (.aload_n 0, 1) := by decide +kernel
theorem dX5_kindHere_43 : decode cX5_kindHere 43 = .ok (.ldc2_w 204, 3) := by decide +kernel
theorem dX5_kindHere_46 : decode cX5_kindHere 46 = .ok (.invokevirtual 196, 3) := by decide +kernel
theorem dX5_kindHere_49 : decode cX5_kindHere 49 = .ok (.ifCond .eq 7, 3) := by decide +kernel
theorem dX5_kindHere_52 : decode cX5_kindHere 52 = .ok (.iconst 3, 1) := by decide +kernel
theorem dX5_kindHere_53 : decode cX5_kindHere 53 = .ok (.goto 32, 3) := by decide +kernel
theorem dX5_kindHere_56 : decode cX5_kindHere 56 = .ok (.aload_n 0, 1) := by decide +kernel
theorem dX5_kindHere_57 : decode cX5_kindHere 57 = .ok (.ldc2_w 206, 3) := by decide +kernel
theorem dX5_kindHere_60 : decode cX5_kindHere 60 = .ok (.invokevirtual 196, 3) := by decide +kernel
theorem dX5_kindHere_63 : decode cX5_kindHere 63 = .ok (.ifCond .eq 7, 3) := by decide +kernel
theorem dX5_kindHere_66 : decode cX5_kindHere 66 = .ok (.iconst 4, 1) := by decide +kernel
theorem dX5_kindHere_67 : decode cX5_kindHere 67 = .ok (.goto 18, 3) := by decide +kernel
theorem dX5_kindHere_70 : decode cX5_kindHere 70 = .ok (.aload_n 0, 1) := by decide +kernel
theorem dX5_kindHere_71 : decode cX5_kindHere 71 = .ok (.ldc2_w 208, 3) := by decide +kernel
theorem dX5_kindHere_74 : decode cX5_kindHere 74 = .ok (.invokevirtual 196, 3) := by decide +kernel
theorem dX5_kindHere_77 : decode cX5_kindHere 77 = .ok (.ifCond .eq 7, 3) := by decide +kernel
theorem dX5_kindHere_80 : decode cX5_kindHere 80 = .ok (.iconst 5, 1) := by decide +kernel
theorem dX5_kindHere_81 : decode cX5_kindHere 81 = .ok (.goto 4, 3) := by decide +kernel
theorem dX5_kindHere_84 : decode cX5_kindHere 84 = .ok (.iconst (-1), 1) := by decide +kernel
theorem dX5_kindHere_85 : decode cX5_kindHere 85 = .ok (.ireturn, 1) := by decide +kernel
theorem dX5_wantNumber_0 : decode cX5_wantNumber 0 = .ok (.aload_n 0, 1) := by decide +kernel
theorem dX5_wantNumber_1 : decode cX5_wantNumber 1 = .ok (.getfield 185, 3) := by decide +kernel
theorem dX5_wantNumber_4 : decode cX5_wantNumber 4 = .ok (.istore_n 3, 1) := by decide +kernel
theorem dX5_wantNumber_5 : decode cX5_wantNumber 5 = .ok (.aload_n 0, 1) := by decide +kernel
theorem dX5_wantNumber_6 : decode cX5_wantNumber 6 = .ok (.aload_n 0, 1) := by decide +kernel
theorem dX5_wantNumber_7 : decode cX5_wantNumber 7 = .ok (.getfield 210, 3) := by decide +kernel
theorem dX5_wantNumber_10 : decode cX5_wantNumber 10 = .ok (.ifCond .eq 24, 3) := by decide +kernel
theorem dX5_wantNumber_13 : decode cX5_wantNumber 13 = .ok (.aload_n 0, 1) := by decide +kernel
theorem dX5_wantNumber_14 : decode cX5_wantNumber 14 = .ok (.getfield 178, 3) := by decide +kernel
theorem dX5_wantNumber_17 : decode cX5_wantNumber 17 = .ok (.iconst 2, 1) := by decide +kernel
theorem dX5_wantNumber_18 : decode cX5_wantNumber 18 = .ok (.if_icmp .ne 16, 3) := by decide +kernel
theorem dX5_wantNumber_21 : decode cX5_wantNumber 21 = .ok (.iload_n 3, 1) := by decide +kernel
theorem dX5_wantNumber_22 : decode cX5_wantNumber 22 = .ok (.iload_n 1, 1) := by decide +kernel
theorem dX5_wantNumber_23 : decode cX5_wantNumber 23 = .ok (.iload_n 2, 1) := by decide +kernel
theorem dX5_wantNumber_24 : decode cX5_wantNumber 24 = .ok (.invokestatic 48, 3) := by decide +kernel
theorem dX5_wantNumber_27 : decode cX5_wantNumber 27 = .ok (.ifCond .eq 7, 3) := by decide +kernel
theorem dX5_wantNumber_30 : decode cX5_wantNumber 30 = .ok (.iconst 1, 1) := by decide +kernel
theorem dX5_wantNumber_31 : decode cX5_wantNumber 31 = .ok (.goto 4, 3) := by decide +kernel
theorem dX5_wantNumber_34 : decode cX5_wantNumber 34 = .ok (.iconst 0, 1) := by decide +kernel
theorem dX5_wantNumber_35 : decode cX5_wantNumber 35 = .ok (.putfield 210, 3) := by decide +kernel
theorem dX5_wantNumber_38 : decode cX5_wantNumber 38 = .ok (.aload_n 0, 1) := by decide +kernel
theorem dX5_wantNumber_39 : decode cX5_wantNumber 39 = .ok (.getfield 210, 3) := by decide +kernel
theorem dX5_wantNumber_42 : decode cX5_wantNumber 42 = .ok (.ifCond .eq 7, 3) := by decide +kernel
theorem dX5_wantNumber_45 : decode cX5_wantNumber 45 = .ok (.aload_n 0, 1) := by decide +kernel
theorem dX5_wantNumber_46 : decode cX5_wantNumber 46 = .ok (.invokevirtual 214, 3) := by decide +kernel
theorem dX5_wantNumber_49 : decode cX5_wantNumber 49 = .ok (.iload_n 3, 1) := by decide +kernel
theorem dX5_wantNumber_50 : decode cX5_wantNumber 50 = .ok (.ireturn, 1) := by decide +kernel
theorem dX5_mayWant_0 : decode cX5_mayWant 0 = .ok (.aload_n 0, 1) := by decide +kernel
theorem dX5_mayWant_1 : decode cX5_mayWant 1 = .ok (.getfield 210, 3) := by decide +kernel
theorem dX5_mayWant_4 : decode cX5_mayWant 4 = .ok (.ifCond .eq 11, 3) := by decide +kernel
theorem dX5_mayWant_7 : decode cX5_mayWant 7 = .ok (.aload_n 0, 1) := by decide +kernel
theorem dX5_mayWant_8 : decode cX5_mayWant 8 = .ok (.lload_n 1, 1) := by decide +kernel
theorem dX5_mayWant_9 : decode cX5_mayWant 9 = .ok (.invokevirtual 196, 3) := by decide +kernel
theorem dX5_mayWant_12 : decode cX5_mayWant 12 = .ok (.ifCond .ne 6, 3) := by decide +kernel
theorem dX5_mayWant_15 : decode cX5_mayWant 15 = .ok (.iload 5, 2) := by decide +kernel
theorem dX5_mayWant_17 : decode cX5_mayWant 17 = .ok (.ireturn, 1) := by decide +kernel
theorem dX5_mayWant_18 : decode cX5_mayWant 18 = .ok (.aload_n 0, 1) := by decide +kernel
theorem dX5_mayWant_19 : decode cX5_mayWant 19 = .ok (.invokevirtual 214, 3) := by decide +kernel
theorem dX5_mayWant_22 : decode cX5_mayWant 22 = .ok (.aload_n 0, 1) := by decide +kernel
theorem dX5_mayWant_23 : decode cX5_mayWant 23 = .ok (.iload_n 3, 1) := by decide +kernel
theorem dX5_mayWant_24 : decode cX5_mayWant 24 = .ok (.iload 4, 2) := by decide +kernel
theorem dX5_mayWant_26 : decode cX5_mayWant 26 = .ok (.invokevirtual 217, 3) := by decide +kernel
theorem dX5_mayWant_29 : decode cX5_mayWant 29 = .ok (.ireturn, 1) := by decide +kernel
theorem dX5_wantOne_0 : decode cX5_wantOne 0 = .ok (.aload_n 0, 1) := by decide +kernel
theorem dX5_wantOne_1 : decode cX5_wantOne 1 = .ok (.aload_n 0, 1) := by decide +kernel
theorem dX5_wantOne_2 : decode cX5_wantOne 2 = .ok (.getfield 7, 3) := by decide +kernel
theorem dX5_wantOne_5 : decode cX5_wantOne 5 = .ok (.iconst 0, 1) := by decide +kernel
theorem dX5_wantOne_6 : decode cX5_wantOne 6 = .ok (.iaload, 1) := by decide +kernel
theorem dX5_wantOne_7 : decode cX5_wantOne 7 = .ok (.bipush 10, 2) := by decide +kernel
theorem dX5_wantOne_9 : decode cX5_wantOne 9 = .ok (.if_icmp .ge 7, 3) := by decide +kernel
theorem dX5_wantOne_12 : decode cX5_wantOne 12 = .ok (.iconst 1, 1) := by decide +kernel
theorem dX5_wantOne_13 : decode cX5_wantOne 13 = .ok (.goto 4, 3) := by decide +kernel
theorem dX5_wantOne_16 : decode cX5_wantOne 16 = .ok (.iconst 0, 1) := by decide +kernel
theorem dX5_wantOne_17 : decode cX5_wantOne 17 = .ok (.putfield 210, 3) := by decide +kernel
theorem dX5_wantOne_20 : decode cX5_wantOne 20 = .ok (.aload_n 0, 1) := by decide +kernel
theorem dX5_wantOne_21 : decode cX5_wantOne 21 = .ok (.getfield 210, 3) := by decide +kernel
theorem dX5_wantOne_24 : decode cX5_wantOne 24 = .ok (.ifCond .ne 4, 3) := by decide +kernel
theorem dX5_wantOne_27 : decode cX5_wantOne 27 = .ok (.return_, 1) := by decide +kernel
theorem dX5_wantOne_28 : decode cX5_wantOne 28 = .ok (.aload_n 0, 1) := by decide +kernel
theorem dX5_wantOne_29 : decode cX5_wantOne 29 = .ok (.invokevirtual 214, 3) := by decide +kernel
theorem dX5_wantOne_32 : decode cX5_wantOne 32 = .ok (.aload_n 0, 1) := by decide +kernel
theorem dX5_wantOne_33 : decode cX5_wantOne 33 = .ok (.ldc2_w 220, 3) := by decide +kernel
theorem dX5_wantOne_36 : decode cX5_wantOne 36 = .ok (.iconst 0, 1) := by decide +kernel
theorem dX5_wantOne_37 : decode cX5_wantOne 37 = .ok (.sipush 999, 3) := by decide +kernel
theorem dX5_wantOne_40 : decode cX5_wantOne 40 = .ok (.iconst 5, 1) := by decide +kernel
theorem dX5_wantOne_41 : decode cX5_wantOne 41 = .ok (.invokevirtual 222, 3) := by decide +kernel
theorem dX5_wantOne_44 : decode cX5_wantOne 44 = .ok (.istore_n 2, 1) := by decide +kernel
theorem dX5_wantOne_45 : decode cX5_wantOne 45 = .ok (.aload_n 0, 1) := by decide +kernel
theorem dX5_wantOne_46 : decode cX5_wantOne 46 = .ok (.ldc2_w 226, 3) := by decide +kernel
theorem dX5_wantOne_49 : decode cX5_wantOne 49 = .ok (.iconst 0, 1) := by decide +kernel
theorem dX5_wantOne_50 : decode cX5_wantOne 50 = .ok (.bipush 99, 2) := by decide +kernel
theorem dX5_wantOne_52 : decode cX5_wantOne 52 = .ok (.iconst 3, 1) := by decide +kernel
theorem dX5_wantOne_53 : decode cX5_wantOne 53 = .ok (.invokevirtual 222, 3) := by decide +kernel
theorem dX5_wantOne_56 : decode cX5_wantOne 56 = .ok (.istore_n 3, 1) := by decide +kernel
theorem dX5_wantOne_57 : decode cX5_wantOne 57 = .ok (.aload_n 0, 1) := by decide +kernel
theorem dX5_wantOne_58 : decode cX5_wantOne 58 = .ok (.ldc2_w 228, 3) := by decide +kernel
theorem dX5_wantOne_61 : decode cX5_wantOne 61 = .ok (.iconst 0, 1) := by decide +kernel
theorem dX5_wantOne_62 : decode cX5_wantOne 62 = .ok (.bipush 99, 2) := by decide +kernel
theorem dX5_wantOne_64 : decode cX5_wantOne 64 = .ok (.iconst 0, 1) := by decide +kernel
theorem dX5_wantOne_65 : decode cX5_wantOne 65 = .ok (.invokevirtual 222, 3) := by decide +kernel
theorem dX5_wantOne_68 : decode cX5_wantOne 68 = .ok (.istore 4, 2) := by decide +kernel
theorem dX5_wantOne_70 : decode cX5_wantOne 70 = .ok (.aload_n 0, 1) := by decide +kernel
theorem dX5_wantOne_71 : decode cX5_wantOne 71 = .ok (.getfield 210, 3) := by decide +kernel
theorem dX5_wantOne_74 : decode cX5_wantOne 74 = .ok (.ifCond .eq 12, 3) := by decide +kernel
theorem dX5_wantOne_77 : decode cX5_wantOne 77 = .ok (.aload_n 0, 1) := by decide +kernel
theorem dX5_wantOne_78 : decode cX5_wantOne 78 = .ok (.iload_n 1, 1) := by decide +kernel
theorem dX5_wantOne_79 : decode cX5_wantOne 79 = .ok (.iload_n 2, 1) := by decide +kernel
theorem dX5_wantOne_80 : decode cX5_wantOne 80 = .ok (.iload_n 3, 1) := by decide +kernel
theorem dX5_wantOne_81 : decode cX5_wantOne 81 = .ok (.iload 4, 2) := by decide +kernel
theorem dX5_wantOne_83 : decode cX5_wantOne 83 = .ok (.invokevirtual 79, 3) := by decide +kernel
theorem dX5_wantOne_86 : decode cX5_wantOne 86 = .ok (.return_, 1) := by decide +kernel
theorem dX5_wantLet_0 : decode cX5_wantLet 0 = .ok (.aload_n 0, 1) := by decide +kernel
theorem dX5_wantLet_1 : decode cX5_wantLet 1 = .ok (.invokevirtual 214, 3) := by decide +kernel
theorem dX5_wantLet_4 : decode cX5_wantLet 4 = .ok (.aload_n 0, 1) := by decide +kernel
theorem dX5_wantLet_5 : decode cX5_wantLet 5 = .ok (.iconst 0, 1) := by decide +kernel
theorem dX5_wantLet_6 : decode cX5_wantLet 6 = .ok (.iload_n 2, 1) := by decide +kernel
theorem dX5_wantLet_7 : decode cX5_wantLet 7 = .ok (.invokevirtual 217, 3) := by decide +kernel
theorem dX5_wantLet_10 : decode cX5_wantLet 10 = .ok (.istore_n 3, 1) := by decide +kernel
theorem dX5_wantLet_11 : decode cX5_wantLet 11 = .ok (.aload_n 0, 1) := by decide +kernel
theorem dX5_wantLet_12 : decode cX5_wantLet 12 = .ok (.getfield 210, 3) := by decide +kernel
theorem dX5_wantLet_15 : decode cX5_wantLet 15 = .ok (.ifCond .eq 10, 3) := by decide +kernel
theorem dX5_wantLet_18 : decode cX5_wantLet 18 = .ok (.aload_n 0, 1) := by decide +kernel
theorem dX5_wantLet_19 : decode cX5_wantLet 19 = .ok (.getfield 7, 3) := by decide +kernel
theorem dX5_wantLet_22 : decode cX5_wantLet 22 = .ok (.iload_n 1, 1) := by decide +kernel
theorem dX5_wantLet_23 : decode cX5_wantLet 23 = .ok (.iload_n 3, 1) := by decide +kernel
theorem dX5_wantLet_24 : decode cX5_wantLet 24 = .ok (.iastore, 1) := by decide +kernel
theorem dX5_wantLet_25 : decode cX5_wantLet 25 = .ok (.return_, 1) := by decide +kernel
theorem dX5_wantDiver_0 : decode cX5_wantDiver 0 = .ok (.aload_n 0, 1) := by decide +kernel
theorem dX5_wantDiver_1 : decode cX5_wantDiver 1 = .ok (.invokevirtual 214, 3) := by decide +kernel
theorem dX5_wantDiver_4 : decode cX5_wantDiver 4 = .ok (.iconst 0, 1) := by decide +kernel
theorem dX5_wantDiver_5 : decode cX5_wantDiver 5 = .ok (.istore_n 1, 1) := by decide +kernel
theorem dX5_wantDiver_6 : decode cX5_wantDiver 6 = .ok (.aload_n 0, 1) := by decide +kernel
theorem dX5_wantDiver_7 : decode cX5_wantDiver 7 = .ok (.ldc2_w 230, 3) := by decide +kernel
theorem dX5_wantDiver_10 : decode cX5_wantDiver 10 = .ok (.invokevirtual 196, 3) := by decide +kernel
theorem dX5_wantDiver_13 : decode cX5_wantDiver 13 = .ok (.ifCond .eq 57, 3) := by decide +kernel
theorem dX5_wantDiver_16 : decode cX5_wantDiver 16 = .ok (.aload_n 0, 1) := by decide +kernel
theorem dX5_wantDiver_17 : decode cX5_wantDiver 17 = .ok (.invokevirtual 214, 3) := by decide +kernel
theorem dX5_wantDiver_20 : decode cX5_wantDiver 20 = .ok (.aload_n 0, 1) := by decide +kernel
theorem dX5_wantDiver_21 : decode cX5_wantDiver 21 = .ok (.getfield 178, 3) := by decide +kernel
theorem dX5_wantDiver_24 : decode cX5_wantDiver 24 = .ok (.iconst 3, 1) := by decide +kernel
theorem dX5_wantDiver_25 : decode cX5_wantDiver 25 = .ok (.if_icmp .ne 16, 3) := by decide +kernel
theorem dX5_wantDiver_28 : decode cX5_wantDiver 28 = .ok (.aload_n 0, 1) := by decide +kernel
theorem dX5_wantDiver_29 : decode cX5_wantDiver 29 = .ok (.getfield 185, 3) := by decide +kernel
theorem dX5_wantDiver_32 : decode cX5_wantDiver 32 = .ok (.bipush 45, 2) := by decide +kernel
theorem dX5_wantDiver_34 : decode cX5_wantDiver 34 = .ok (.if_icmp .ne 7, 3) := by decide +kernel
theorem dX5_wantDiver_37 : decode cX5_wantDiver 37 = .ok (.iconst 1, 1) := by decide +kernel
theorem dX5_wantDiver_38 : decode cX5_wantDiver 38 = .ok (.goto 4, 3) := by decide +kernel
theorem dX5_wantDiver_41 : decode cX5_wantDiver 41 = .ok (.iconst 0, 1) := by decide +kernel
theorem dX5_wantDiver_42 : decode cX5_wantDiver 42 = .ok (.istore_n 2, 1) := by decide +kernel
theorem dX5_wantDiver_43 : decode cX5_wantDiver 43 = .ok (.iload_n 2, 1) := by decide +kernel
theorem dX5_wantDiver_44 : decode cX5_wantDiver 44 = .ok (.ifCond .eq 7, 3) := by decide +kernel
theorem dX5_wantDiver_47 : decode cX5_wantDiver 47 = .ok (.aload_n 0, 1) := by decide +kernel
theorem dX5_wantDiver_48 : decode cX5_wantDiver 48 = .ok (.invokevirtual 214, 3) := by decide +kernel
theorem dX5_wantDiver_51 : decode cX5_wantDiver 51 = .ok (.aload_n 0, 1) := by decide +kernel
theorem dX5_wantDiver_52 : decode cX5_wantDiver 52 = .ok (.iconst 0, 1) := by decide +kernel
theorem dX5_wantDiver_53 : decode cX5_wantDiver 53 = .ok (.bipush 20, 2) := by decide +kernel
theorem dX5_wantDiver_55 : decode cX5_wantDiver 55 = .ok (.invokevirtual 217, 3) := by decide +kernel
theorem dX5_wantDiver_58 : decode cX5_wantDiver 58 = .ok (.istore_n 1, 1) := by decide +kernel
theorem dX5_wantDiver_59 : decode cX5_wantDiver 59 = .ok (.iload_n 2, 1) := by decide +kernel
theorem dX5_wantDiver_60 : decode cX5_wantDiver 60 = .ok (.ifCond .eq 8, 3) := by decide +kernel
theorem dX5_wantDiver_63 : decode cX5_wantDiver 63 = .ok (.iload_n 1, 1) := by decide +kernel
theorem dX5_wantDiver_64 : decode cX5_wantDiver 64 = .ok (.ineg, 1) := by decide +kernel
theorem dX5_wantDiver_65 : decode cX5_wantDiver 65 = .ok (.goto 4, 3) := by decide +kernel
theorem dX5_wantDiver_68 : decode cX5_wantDiver 68 = .ok (.iload_n 1, 1) := by decide +kernel
theorem dX5_wantDiver_69 : decode cX5_wantDiver 69 = .ok (.istore_n 1, 1) := by decide +kernel
theorem dX5_wantDiver_70 : decode cX5_wantDiver 70 = .ok (.aload_n 0, 1) := by decide +kernel
theorem dX5_wantDiver_71 : decode cX5_wantDiver 71 = .ok (.getfield 210, 3) := by decide +kernel
theorem dX5_wantDiver_74 : decode cX5_wantDiver 74 = .ok (.ifCond .eq 17, 3) := by decide +kernel
theorem dX5_wantDiver_77 : decode cX5_wantDiver 77 = .ok (.aload_n 0, 1) := by decide +kernel
theorem dX5_wantDiver_78 : decode cX5_wantDiver 78 = .ok (.getfield 7, 3) := by decide +kernel
theorem dX5_wantDiver_81 : decode cX5_wantDiver 81 = .ok (.iconst 3, 1) := by decide +kernel
theorem dX5_wantDiver_82 : decode cX5_wantDiver 82 = .ok (.iconst 1, 1) := by decide +kernel
theorem dX5_wantDiver_83 : decode cX5_wantDiver 83 = .ok (.iastore, 1) := by decide +kernel
theorem dX5_wantDiver_84 : decode cX5_wantDiver 84 = .ok (.aload_n 0, 1) := by decide +kernel
theorem dX5_wantDiver_85 : decode cX5_wantDiver 85 = .ok (.getfield 7, 3) := by decide +kernel
theorem dX5_wantDiver_88 : decode cX5_wantDiver 88 = .ok (.iconst 4, 1) := by decide +kernel
theorem dX5_wantDiver_89 : decode cX5_wantDiver 89 = .ok (.iload_n 1, 1) := by decide +kernel
theorem dX5_wantDiver_90 : decode cX5_wantDiver 90 = .ok (.iastore, 1) := by decide +kernel
theorem dX5_wantDiver_91 : decode cX5_wantDiver 91 = .ok (.return_, 1) := by decide +kernel
theorem dX5_wantSwap_0 : decode cX5_wantSwap 0 = .ok (.aload_n 0, 1) := by decide +kernel
theorem dX5_wantSwap_1 : decode cX5_wantSwap 1 = .ok (.invokevirtual 214, 3) := by decide +kernel
theorem dX5_wantSwap_4 : decode cX5_wantSwap 4 = .ok (.aload_n 0, 1) := by decide +kernel
theorem dX5_wantSwap_5 : decode cX5_wantSwap 5 = .ok (.iconst 0, 1) := by decide +kernel
theorem dX5_wantSwap_6 : decode cX5_wantSwap 6 = .ok (.aload_n 0, 1) := by decide +kernel
theorem dX5_wantSwap_7 : decode cX5_wantSwap 7 = .ok (.getfield 7, 3) := by decide +kernel
theorem dX5_wantSwap_10 : decode cX5_wantSwap 10 = .ok (.iconst 0, 1) := by decide +kernel
theorem dX5_wantSwap_11 : decode cX5_wantSwap 11 = .ok (.iaload, 1) := by decide +kernel
theorem dX5_wantSwap_12 : decode cX5_wantSwap 12 = .ok (.iconst 1, 1) := by decide +kernel
theorem dX5_wantSwap_13 : decode cX5_wantSwap 13 = .ok (.isub, 1) := by decide +kernel
theorem dX5_wantSwap_14 : decode cX5_wantSwap 14 = .ok (.invokevirtual 217, 3) := by decide +kernel
theorem dX5_wantSwap_17 : decode cX5_wantSwap 17 = .ok (.istore_n 1, 1) := by decide +kernel
theorem dX5_wantSwap_18 : decode cX5_wantSwap 18 = .ok (.aload_n 0, 1) := by decide +kernel
theorem dX5_wantSwap_19 : decode cX5_wantSwap 19 = .ok (.aload_n 0, 1) := by decide +kernel
theorem dX5_wantSwap_20 : decode cX5_wantSwap 20 = .ok (.getfield 210, 3) := by decide +kernel
theorem dX5_wantSwap_23 : decode cX5_wantSwap 23 = .ok (.ifCond .eq 23, 3) := by decide +kernel
theorem dX5_wantSwap_26 : decode cX5_wantSwap 26 = .ok (.aload_n 0, 1) := by decide +kernel
theorem dX5_wantSwap_27 : decode cX5_wantSwap 27 = .ok (.getfield 178, 3) := by decide +kernel
theorem dX5_wantSwap_30 : decode cX5_wantSwap 30 = .ok (.iconst 2, 1) := by decide +kernel
theorem dX5_wantSwap_31 : decode cX5_wantSwap 31 = .ok (.if_icmp .ne 15, 3) := by decide +kernel
theorem dX5_wantSwap_34 : decode cX5_wantSwap 34 = .ok (.aload_n 0, 1) := by decide +kernel
theorem dX5_wantSwap_35 : decode cX5_wantSwap 35 = .ok (.getfield 185, 3) := by decide +kernel
theorem dX5_wantSwap_38 : decode cX5_wantSwap 38 = .ok (.iload_n 1, 1) := by decide +kernel
theorem dX5_wantSwap_39 : decode cX5_wantSwap 39 = .ok (.if_icmp .eq 7, 3) := by decide +kernel
theorem dX5_wantSwap_42 : decode cX5_wantSwap 42 = .ok (.iconst 1, 1) := by decide +kernel
theorem dX5_wantSwap_43 : decode cX5_wantSwap 43 = .ok (.goto 4, 3) := by decide +kernel
theorem dX5_wantSwap_46 : decode cX5_wantSwap 46 = .ok (.iconst 0, 1) := by decide +kernel
theorem dX5_wantSwap_47 : decode cX5_wantSwap 47 = .ok (.putfield 210, 3) := by decide +kernel
theorem dX5_wantSwap_50 : decode cX5_wantSwap 50 = .ok (.aload_n 0, 1) := by decide +kernel
theorem dX5_wantSwap_51 : decode cX5_wantSwap 51 = .ok (.iconst 0, 1) := by decide +kernel
theorem dX5_wantSwap_52 : decode cX5_wantSwap 52 = .ok (.aload_n 0, 1) := by decide +kernel
theorem dX5_wantSwap_53 : decode cX5_wantSwap 53 = .ok (.getfield 7, 3) := by decide +kernel
theorem dX5_wantSwap_56 : decode cX5_wantSwap 56 = .ok (.iconst 0, 1) := by decide +kernel
theorem dX5_wantSwap_57 : decode cX5_wantSwap 57 = .ok (.iaload, 1) := by decide +kernel
theorem dX5_wantSwap_58 : decode cX5_wantSwap 58 = .ok (.iconst 1, 1) := by decide +kernel
theorem dX5_wantSwap_59 : decode cX5_wantSwap 59 = .ok (.isub, 1) := by decide +kernel
theorem dX5_wantSwap_60 : decode cX5_wantSwap 60 = .ok (.invokevirtual 217, 3) := by decide +kernel
theorem dX5_wantSwap_63 : decode cX5_wantSwap 63 = .ok (.istore_n 2, 1) := by decide +kernel
theorem dX5_wantSwap_64 : decode cX5_wantSwap 64 = .ok (.aload_n 0, 1) := by decide +kernel
theorem dX5_wantSwap_65 : decode cX5_wantSwap 65 = .ok (.getfield 210, 3) := by decide +kernel
theorem dX5_wantSwap_68 : decode cX5_wantSwap 68 = .ok (.ifCond .eq 9, 3) := by decide +kernel
theorem dX5_wantSwap_71 : decode cX5_wantSwap 71 = .ok (.aload_n 0, 1) := by decide +kernel
theorem dX5_wantSwap_72 : decode cX5_wantSwap 72 = .ok (.iload_n 1, 1) := by decide +kernel
theorem dX5_wantSwap_73 : decode cX5_wantSwap 73 = .ok (.iload_n 2, 1) := by decide +kernel
theorem dX5_wantSwap_74 : decode cX5_wantSwap 74 = .ok (.invokevirtual 94, 3) := by decide +kernel
theorem dX5_wantSwap_77 : decode cX5_wantSwap 77 = .ok (.return_, 1) := by decide +kernel
theorem dX5_wantItem_0 : decode cX5_wantItem 0 = .ok (.aload_n 0, 1) := by decide +kernel
theorem dX5_wantItem_1 : decode cX5_wantItem 1 = .ok (.invokevirtual 232, 3) := by decide +kernel
theorem dX5_wantItem_4 : decode cX5_wantItem 4 = .ok (.ifCond .lt 14, 3) := by decide +kernel
theorem dX5_wantItem_7 : decode cX5_wantItem 7 = .ok (.aload_n 0, 1) := by decide +kernel
theorem dX5_wantItem_8 : decode cX5_wantItem 8 = .ok (.aload_n 0, 1) := by decide +kernel
theorem dX5_wantItem_9 : decode cX5_wantItem 9 = .ok (.invokevirtual 232, 3) := by decide +kernel
theorem dX5_wantItem_12 : decode cX5_wantItem 12 = .ok (.invokevirtual 235, 3) := by decide +kernel
theorem dX5_wantItem_15 : decode cX5_wantItem 15 = .ok (.goto 113, 3) := by decide +kernel
theorem dX5_wantItem_18 : decode cX5_wantItem 18 = .ok (.aload_n 0, 1) := by decide +kernel
theorem dX5_wantItem_19 : decode cX5_wantItem 19 = .ok (.ldc2_w 239, 3) := by decide +kernel
theorem dX5_wantItem_22 : decode cX5_wantItem 22 = .ok (.invokevirtual 196, 3) := by decide +kernel
theorem dX5_wantItem_25 : decode cX5_wantItem 25 = .ok (.ifCond .eq 14, 3) := by decide +kernel
theorem dX5_wantItem_28 : decode cX5_wantItem 28 = .ok (.aload_n 0, 1) := by decide +kernel
theorem dX5_wantItem_29 : decode cX5_wantItem 29 = .ok (.iconst 1, 1) := by decide +kernel
theorem dX5_wantItem_30 : decode cX5_wantItem 30 = .ok (.sipush 999, 3) := by decide +kernel
theorem dX5_wantItem_33 : decode cX5_wantItem 33 = .ok (.invokevirtual 241, 3) := by decide +kernel
theorem dX5_wantItem_36 : decode cX5_wantItem 36 = .ok (.goto 92, 3) := by decide +kernel
theorem dX5_wantItem_39 : decode cX5_wantItem 39 = .ok (.aload_n 0, 1) := by decide +kernel
theorem dX5_wantItem_40 : decode cX5_wantItem 40 = .ok (.ldc2_w 244, 3) := by decide +kernel
theorem dX5_wantItem_43 : decode cX5_wantItem 43 = .ok (.invokevirtual 196, 3) := by decide +kernel
theorem dX5_wantItem_46 : decode cX5_wantItem 46 = .ok (.ifCond .eq 12, 3) := by decide +kernel
theorem dX5_wantItem_49 : decode cX5_wantItem 49 = .ok (.aload_n 0, 1) := by decide +kernel
theorem dX5_wantItem_50 : decode cX5_wantItem 50 = .ok (.iconst 2, 1) := by decide +kernel
theorem dX5_wantItem_51 : decode cX5_wantItem 51 = .ok (.iconst 2, 1) := by decide +kernel
theorem dX5_wantItem_52 : decode cX5_wantItem 52 = .ok (.invokevirtual 241, 3) := by decide +kernel
theorem dX5_wantItem_55 : decode cX5_wantItem 55 = .ok (.goto 73, 3) := by decide +kernel
theorem dX5_wantItem_58 : decode cX5_wantItem 58 = .ok (.aload_n 0, 1) := by decide +kernel
theorem dX5_wantItem_59 : decode cX5_wantItem 59 = .ok (.ldc2_w 246, 3) := by decide +kernel
theorem dX5_wantItem_62 : decode cX5_wantItem 62 = .ok (.invokevirtual 196, 3) := by decide +kernel
theorem dX5_wantItem_65 : decode cX5_wantItem 65 = .ok (.ifCond .eq 10, 3) := by decide +kernel
theorem dX5_wantItem_68 : decode cX5_wantItem 68 = .ok (.aload_n 0, 1) := by decide +kernel
theorem dX5_wantItem_69 : decode cX5_wantItem 69 = .ok (.invokevirtual 248, 3) := by decide +kernel
theorem dX5_wantItem_72 : decode cX5_wantItem 72 = .ok (.goto 56, 3) := by decide +kernel
theorem dX5_wantItem_75 : decode cX5_wantItem 75 = .ok (.aload_n 0, 1) := by decide +kernel
theorem dX5_wantItem_76 : decode cX5_wantItem 76 = .ok (.ldc2_w 251, 3) := by decide +kernel
theorem dX5_wantItem_79 : decode cX5_wantItem 79 = .ok (.invokevirtual 196, 3) := by decide +kernel
theorem dX5_wantItem_82 : decode cX5_wantItem 82 = .ok (.ifCond .eq 24, 3) := by decide +kernel
theorem dX5_wantItem_85 : decode cX5_wantItem 85 = .ok (.aload_n 0, 1) := by decide +kernel
theorem dX5_wantItem_86 : decode cX5_wantItem 86 = .ok (.invokevirtual 214, 3) := by decide +kernel
theorem dX5_wantItem_89 : decode cX5_wantItem 89 = .ok (.aload_n 0, 1) := by decide +kernel
theorem dX5_wantItem_90 : decode cX5_wantItem 90 = .ok (.getfield 7, 3) := by decide +kernel
theorem dX5_wantItem_93 : decode cX5_wantItem 93 = .ok (.iconst 3, 1) := by decide +kernel
theorem dX5_wantItem_94 : decode cX5_wantItem 94 = .ok (.iconst 0, 1) := by decide +kernel
theorem dX5_wantItem_95 : decode cX5_wantItem 95 = .ok (.iastore, 1) := by decide +kernel
theorem dX5_wantItem_96 : decode cX5_wantItem 96 = .ok (.aload_n 0, 1) := by decide +kernel
theorem dX5_wantItem_97 : decode cX5_wantItem 97 = .ok (.getfield 7, 3) := by decide +kernel
theorem dX5_wantItem_100 : decode cX5_wantItem 100 = .ok (.iconst 4, 1) := by decide +kernel
theorem dX5_wantItem_101 : decode cX5_wantItem 101 = .ok (.iconst 0, 1) := by decide +kernel
theorem dX5_wantItem_102 : decode cX5_wantItem 102 = .ok (.iastore, 1) := by decide +kernel
theorem dX5_wantItem_103 : decode cX5_wantItem 103 = .ok (.goto 25, 3) := by decide +kernel
theorem dX5_wantItem_106 : decode cX5_wantItem 106 = .ok (.aload_n 0, 1) := by decide +kernel
theorem dX5_wantItem_107 : decode cX5_wantItem 107 = .ok (.ldc2_w 253, 3) := by decide +kernel
theorem dX5_wantItem_110 : decode cX5_wantItem 110 = .ok (.invokevirtual 196, 3) := by decide +kernel
theorem dX5_wantItem_113 : decode cX5_wantItem 113 = .ok (.ifCond .eq 10, 3) := by decide +kernel
theorem dX5_wantItem_116 : decode cX5_wantItem 116 = .ok (.aload_n 0, 1) := by decide +kernel
theorem dX5_wantItem_117 : decode cX5_wantItem 117 = .ok (.invokevirtual 255, 3) := by decide +kernel
theorem dX5_wantItem_120 : decode cX5_wantItem 120 = .ok (.goto 8, 3) := by decide +kernel
theorem dX5_wantItem_123 : decode cX5_wantItem 123 = .ok (.aload_n 0, 1) := by decide +kernel
theorem dX5_wantItem_124 : decode cX5_wantItem 124 = .ok (.iconst 0, 1) := by decide +kernel
theorem dX5_wantItem_125 : decode cX5_wantItem 125 = .ok (.putfield 210, 3) := by decide +kernel
theorem dX5_wantItem_128 : decode cX5_wantItem 128 = .ok (.return_, 1) := by decide +kernel
theorem dX5_square_0 : decode cX5_square 0 = .ok (.aload_n 0, 1) := by decide +kernel
theorem dX5_square_1 : decode cX5_square 1 = .ok (.iconst 1, 1) := by decide +kernel
theorem dX5_square_2 : decode cX5_square 2 = .ok (.aload_n 0, 1) := by decide +kernel
theorem dX5_square_3 : decode cX5_square 3 = .ok (.getfield 44, 3) := by decide +kernel
theorem dX5_square_6 : decode cX5_square 6 = .ok (.invokevirtual 129, 3) := by decide +kernel
theorem dX5_square_9 : decode cX5_square 9 = .ok (.aload_n 0, 1) := by decide +kernel
theorem dX5_square_10 : decode cX5_square 10 = .ok (.iconst 0, 1) := by decide +kernel
theorem dX5_square_11 : decode cX5_square 11 = .ok (.putfield 163, 3) := by decide +kernel
theorem dX5_square_14 : decode cX5_square 14 = .ok (.aload_n 0, 1) := by decide +kernel
theorem dX5_square_15 : decode cX5_square 15 = .ok (.iconst 1, 1) := by decide +kernel
theorem dX5_square_16 : decode cX5_square 16 = .ok (.putfield 210, 3) := by decide +kernel
theorem dX5_square_19 : decode cX5_square 19 = .ok (.iconst 0, 1) := by decide +kernel
theorem dX5_square_20 : decode cX5_square 20 = .ok (.istore_n 1, 1) := by decide +kernel
theorem dX5_square_21 : decode cX5_square 21 = .ok (.iconst 1, 1) := by decide +kernel
theorem dX5_square_22 : decode cX5_square 22 = .ok (.istore_n 2, 1) := by decide +kernel
theorem dX5_square_23 : decode cX5_square 23 = .ok (.iload_n 2, 1) := by decide +kernel
theorem dX5_square_24 : decode cX5_square 24 = .ok (.ifCond .eq 47, 3) := by decide +kernel
theorem dX5_square_27 : decode cX5_square 27 = .ok (.aload_n 0, 1) := by decide +kernel
theorem dX5_square_28 : decode cX5_square 28 = .ok (.invokevirtual 214, 3) := by decide +kernel
theorem dX5_square_31 : decode cX5_square 31 = .ok (.aload_n 0, 1) := by decide +kernel
theorem dX5_square_32 : decode cX5_square 32 = .ok (.invokevirtual 258, 3) := by decide +kernel
theorem dX5_square_35 : decode cX5_square 35 = .ok (.iinc 1 1, 3) := by decide +kernel
theorem dX5_square_38 : decode cX5_square 38 = .ok (.aload_n 0, 1) := by decide +kernel
theorem dX5_square_39 : decode cX5_square 39 = .ok (.getfield 210, 3) := by decide +kernel
theorem dX5_square_42 : decode cX5_square 42 = .ok (.ifCond .eq 24, 3) := by decide +kernel
theorem dX5_square_45 : decode cX5_square 45 = .ok (.aload_n 0, 1) := by decide +kernel
theorem dX5_square_46 : decode cX5_square 46 = .ok (.getfield 178, 3) := by decide +kernel
theorem dX5_square_49 : decode cX5_square 49 = .ok (.iconst 3, 1) := by decide +kernel
theorem dX5_square_50 : decode cX5_square 50 = .ok (.if_icmp .ne 16, 3) := by decide +kernel
theorem dX5_square_53 : decode cX5_square 53 = .ok (.aload_n 0, 1) := by decide +kernel
theorem dX5_square_54 : decode cX5_square 54 = .ok (.getfield 185, 3) := by decide +kernel
theorem dX5_square_57 : decode cX5_square 57 = .ok (.bipush 59, 2) := by decide +kernel
theorem dX5_square_59 : decode cX5_square 59 = .ok (.if_icmp .ne 7, 3) := by decide +kernel
theorem dX5_square_62 : decode cX5_square 62 = .ok (.iconst 1, 1) := by decide +kernel
theorem dX5_square_63 : decode cX5_square 63 = .ok (.goto 4, 3) := by decide +kernel
theorem dX5_square_66 : decode cX5_square 66 = .ok (.iconst 0, 1) := by decide +kernel
theorem dX5_square_67 : decode cX5_square 67 = .ok (.istore_n 2, 1) := by decide +kernel
theorem dX5_square_68 : decode cX5_square 68 = .ok (.goto (-45), 3) := by decide +kernel
theorem dX5_square_71 : decode cX5_square 71 = .ok (.aload_n 0, 1) := by decide +kernel
theorem dX5_square_72 : decode cX5_square 72 = .ok (.aload_n 0, 1) := by decide +kernel
theorem dX5_square_73 : decode cX5_square 73 = .ok (.getfield 210, 3) := by decide +kernel
theorem dX5_square_76 : decode cX5_square 76 = .ok (.ifCond .eq 14, 3) := by decide +kernel
theorem dX5_square_79 : decode cX5_square 79 = .ok (.aload_n 0, 1) := by decide +kernel
theorem dX5_square_80 : decode cX5_square 80 = .ok (.getfield 178, 3) := by decide +kernel
theorem dX5_square_83 : decode cX5_square 83 = .ok (.ifCond .ne 7, 3) := by decide +kernel
theorem dX5_square_86 : decode cX5_square 86 = .ok (.iconst 1, 1) := by decide +kernel
theorem dX5_square_87 : decode cX5_square 87 = .ok (.goto 4, 3) := by decide +kernel
theorem dX5_square_90 : decode cX5_square 90 = .ok (.iconst 0, 1) := by decide +kernel
theorem dX5_square_91 : decode cX5_square 91 = .ok (.putfield 210, 3) := by decide +kernel
theorem dX5_square_94 : decode cX5_square 94 = .ok (.aload_n 0, 1) := by decide +kernel
theorem dX5_square_95 : decode cX5_square 95 = .ok (.iconst 0, 1) := by decide +kernel
theorem dX5_square_96 : decode cX5_square 96 = .ok (.putfield 160, 3) := by decide +kernel
theorem dX5_square_99 : decode cX5_square 99 = .ok (.aload_n 0, 1) := by decide +kernel
theorem dX5_square_100 : decode cX5_square 100 = .ok (.getfield 210, 3) := by decide +kernel
theorem dX5_square_103 : decode cX5_square 103 = .ok (.ifCond .ne 19, 3) := by decide +kernel
theorem dX5_square_106 : decode cX5_square 106 = .ok (.aload_n 0, 1) := by decide +kernel
theorem dX5_square_107 : decode cX5_square 107 = .ok (.iconst 0, 1) := by decide +kernel
theorem dX5_square_108 : decode cX5_square 108 = .ok (.aload_n 0, 1) := by decide +kernel
theorem dX5_square_109 : decode cX5_square 109 = .ok (.getfield 44, 3) := by decide +kernel
theorem dX5_square_112 : decode cX5_square 112 = .ok (.invokevirtual 129, 3) := by decide +kernel
theorem dX5_square_115 : decode cX5_square 115 = .ok (.iconst (-1), 1) := by decide +kernel
theorem dX5_square_116 : decode cX5_square 116 = .ok (.aload_n 0, 1) := by decide +kernel
theorem dX5_square_117 : decode cX5_square 117 = .ok (.getfield 166, 3) := by decide +kernel
theorem dX5_square_120 : decode cX5_square 120 = .ok (.isub, 1) := by decide +kernel
theorem dX5_square_121 : decode cX5_square 121 = .ok (.ireturn, 1) := by decide +kernel
theorem dX5_square_122 : decode cX5_square 122 = .ok (.iload_n 1, 1) := by decide +kernel
theorem dX5_square_123 : decode cX5_square 123 = .ok (.ireturn, 1) := by decide +kernel
theorem dX5_isSheet_0 : decode cX5_isSheet 0 = .ok (.iload_n 0, 1) := by decide +kernel
theorem dX5_isSheet_1 : decode cX5_isSheet 1 = .ok (.iconst 0, 1) := by decide +kernel
theorem dX5_isSheet_2 : decode cX5_isSheet 2 = .ok (.iconst 3, 1) := by decide +kernel
theorem dX5_isSheet_3 : decode cX5_isSheet 3 = .ok (.invokestatic 48, 3) := by decide +kernel
theorem dX5_isSheet_6 : decode cX5_isSheet 6 = .ok (.ireturn, 1) := by decide +kernel
theorem dX5_narrow_0 : decode cX5_narrow 0 = .ok (.iload_n 0, 1) := by decide +kernel
theorem dX5_narrow_1 : decode cX5_narrow 1 = .ok (.bipush 8, 2) := by decide +kernel
theorem dX5_narrow_3 : decode cX5_narrow 3 = .ok (.if_icmp .ne 13, 3) := by decide +kernel
theorem dX5_narrow_6 : decode cX5_narrow 6 = .ok (.lload_n 1, 1) := by decide +kernel
theorem dX5_narrow_7 : decode cX5_narrow 7 = .ok (.bipush 56, 2) := by decide +kernel
theorem dX5_narrow_9 : decode cX5_narrow 9 = .ok (.lshl, 1) := by decide +kernel
theorem dX5_narrow_10 : decode cX5_narrow 10 = .ok (.bipush 56, 2) := by decide +kernel
theorem dX5_narrow_12 : decode cX5_narrow 12 = .ok (.lshr, 1) := by decide +kernel
theorem dX5_narrow_13 : decode cX5_narrow 13 = .ok (.goto 20, 3) := by decide +kernel
theorem dX5_narrow_16 : decode cX5_narrow 16 = .ok (.iload_n 0, 1) := by decide +kernel
theorem dX5_narrow_17 : decode cX5_narrow 17 = .ok (.bipush 16, 2) := by decide +kernel
theorem dX5_narrow_19 : decode cX5_narrow 19 = .ok (.if_icmp .ne 13, 3) := by decide +kernel
theorem dX5_narrow_22 : decode cX5_narrow 22 = .ok (.lload_n 1, 1) := by decide +kernel
theorem dX5_narrow_23 : decode cX5_narrow 23 = .ok (.bipush 48, 2) := by decide +kernel
theorem dX5_narrow_25 : decode cX5_narrow 25 = .ok (.lshl, 1) := by decide +kernel
theorem dX5_narrow_26 : decode cX5_narrow 26 = .ok (.bipush 48, 2) := by decide +kernel
theorem dX5_narrow_28 : decode cX5_narrow 28 = .ok (.lshr, 1) := by decide +kernel
theorem dX5_narrow_29 : decode cX5_narrow 29 = .ok (.goto 4, 3) := by decide +kernel
theorem dX5_narrow_32 : decode cX5_narrow 32 = .ok (.lload_n 1, 1) := by decide +kernel
theorem dX5_narrow_33 : decode cX5_narrow 33 = .ok (.lreturn, 1) := by decide +kernel
theorem dX5_sheet_0 : decode cX5_sheet 0 = .ok (.iload_n 1, 1) := by decide +kernel
theorem dX5_sheet_1 : decode cX5_sheet 1 = .ok (.invokestatic 261, 3) := by decide +kernel
theorem dX5_sheet_4 : decode cX5_sheet 4 = .ok (.ifCond .eq 25, 3) := by decide +kernel
theorem dX5_sheet_7 : decode cX5_sheet 7 = .ok (.iload_n 2, 1) := by decide +kernel
theorem dX5_sheet_8 : decode cX5_sheet 8 = .ok (.ifCond .eq 28, 3) := by decide +kernel
theorem dX5_sheet_11 : decode cX5_sheet 11 = .ok (.iload_n 2, 1) := by decide +kernel
theorem dX5_sheet_12 : decode cX5_sheet 12 = .ok (.bipush 8, 2) := by decide +kernel
theorem dX5_sheet_14 : decode cX5_sheet 14 = .ok (.if_icmp .eq 22, 3) := by decide +kernel
theorem dX5_sheet_17 : decode cX5_sheet 17 = .ok (.iload_n 2, 1) := by decide +kernel
theorem dX5_sheet_18 : decode cX5_sheet 18 = .ok (.bipush 16, 2) := by decide +kernel
theorem dX5_sheet_20 : decode cX5_sheet 20 = .ok (.if_icmp .eq 16, 3) := by decide +kernel
theorem dX5_sheet_23 : decode cX5_sheet 23 = .ok (.iload_n 2, 1) := by decide +kernel
theorem dX5_sheet_24 : decode cX5_sheet 24 = .ok (.bipush 64, 2) := by decide +kernel
theorem dX5_sheet_26 : decode cX5_sheet 26 = .ok (.if_icmp .eq 10, 3) := by decide +kernel
theorem dX5_sheet_29 : decode cX5_sheet 29 = .ok (.aload_n 0, 1) := by decide +kernel
theorem dX5_sheet_30 : decode cX5_sheet 30 = .ok (.ldc 47, 2) := by decide +kernel
theorem dX5_sheet_32 : decode cX5_sheet 32 = .ok (.invokevirtual 74, 3) := by decide +kernel
theorem dX5_sheet_35 : decode cX5_sheet 35 = .ok (.ireturn, 1) := by decide +kernel
theorem dX5_sheet_36 : decode cX5_sheet 36 = .ok (.iload_n 3, 1) := by decide +kernel
theorem dX5_sheet_37 : decode cX5_sheet 37 = .ok (.ifCond .ge 10, 3) := by decide +kernel
theorem dX5_sheet_40 : decode cX5_sheet 40 = .ok (.aload_n 0, 1) := by decide +kernel
theorem dX5_sheet_41 : decode cX5_sheet 41 = .ok (.ldc 156, 2) := by decide +kernel
theorem dX5_sheet_43 : decode cX5_sheet 43 = .ok (.invokevirtual 74, 3) := by decide +kernel
theorem dX5_sheet_46 : decode cX5_sheet 46 = .ok (.ireturn, 1) := by decide +kernel
theorem dX5_sheet_47 : decode cX5_sheet 47 = .ok (.iload_n 3, 1) := by decide +kernel
theorem dX5_sheet_48 : decode cX5_sheet 48 = .ok (.bipush 40, 2) := by decide +kernel
theorem dX5_sheet_50 : decode cX5_sheet 50 = .ok (.if_icmp .le 10, 3) := by decide +kernel
theorem dX5_sheet_53 : decode cX5_sheet 53 = .ok (.aload_n 0, 1) := by decide +kernel
theorem dX5_sheet_54 : decode cX5_sheet 54 = .ok (.ldc 47, 2) := by decide +kernel
theorem dX5_sheet_56 : decode cX5_sheet 56 = .ok (.invokevirtual 74, 3) := by decide +kernel
theorem dX5_sheet_59 : decode cX5_sheet 59 = .ok (.ireturn, 1) := by decide +kernel
theorem dX5_sheet_60 : decode cX5_sheet 60 = .ok (.aload_n 0, 1) := by decide +kernel
theorem dX5_sheet_61 : decode cX5_sheet 61 = .ok (.getfield 28, 3) := by decide +kernel
theorem dX5_sheet_64 : decode cX5_sheet 64 = .ok (.iload_n 1, 1) := by decide +kernel
theorem dX5_sheet_65 : decode cX5_sheet 65 = .ok (.iload_n 2, 1) := by decide +kernel
theorem dX5_sheet_66 : decode cX5_sheet 66 = .ok (.iastore, 1) := by decide +kernel
theorem dX5_sheet_67 : decode cX5_sheet 67 = .ok (.aload_n 0, 1) := by decide +kernel
theorem dX5_sheet_68 : decode cX5_sheet 68 = .ok (.getfield 31, 3) := by decide +kernel
theorem dX5_sheet_71 : decode cX5_sheet 71 = .ok (.iload_n 1, 1) := by decide +kernel
theorem dX5_sheet_72 : decode cX5_sheet 72 = .ok (.iload_n 2, 1) := by decide +kernel
theorem dX5_sheet_73 : decode cX5_sheet 73 = .ok (.ifCond .ne 7, 3) := by decide +kernel
theorem dX5_sheet_76 : decode cX5_sheet 76 = .ok (.iconst 0, 1) := by decide +kernel
theorem dX5_sheet_77 : decode cX5_sheet 77 = .ok (.goto 4, 3) := by decide +kernel
theorem dX5_sheet_80 : decode cX5_sheet 80 = .ok (.iload_n 3, 1) := by decide +kernel
theorem dX5_sheet_81 : decode cX5_sheet 81 = .ok (.iastore, 1) := by decide +kernel
theorem dX5_sheet_82 : decode cX5_sheet 82 = .ok (.iconst 0, 1) := by decide +kernel
theorem dX5_sheet_83 : decode cX5_sheet 83 = .ok (.istore 4, 2) := by decide +kernel
theorem dX5_sheet_85 : decode cX5_sheet 85 = .ok (.iload 4, 2) := by decide +kernel
theorem dX5_sheet_87 : decode cX5_sheet 87 = .ok (.bipush 40, 2) := by decide +kernel
theorem dX5_sheet_89 : decode cX5_sheet 89 = .ok (.if_icmp .ge 22, 3) := by decide +kernel
theorem dX5_sheet_92 : decode cX5_sheet 92 = .ok (.aload_n 0, 1) := by decide +kernel
theorem dX5_sheet_93 : decode cX5_sheet 93 = .ok (.getfield 34, 3) := by decide +kernel
theorem dX5_sheet_96 : decode cX5_sheet 96 = .ok (.bipush 40, 2) := by decide +kernel
theorem dX5_sheet_98 : decode cX5_sheet 98 = .ok (.iload_n 1, 1) := by decide +kernel
theorem dX5_sheet_99 : decode cX5_sheet 99 = .ok (.imul, 1) := by decide +kernel
theorem dX5_sheet_100 : decode cX5_sheet 100 = .ok (.iload 4, 2) := by decide +kernel
theorem dX5_sheet_102 : decode cX5_sheet 102 = .ok (.iadd, 1) := by decide +kernel
theorem dX5_sheet_103 : decode cX5_sheet 103 = .ok (.lconst 0, 1) := by decide +kernel
theorem dX5_sheet_104 : decode cX5_sheet 104 = .ok (.lastore, 1) := by decide +kernel
theorem dX5_sheet_105 : decode cX5_sheet 105 = .ok (.iinc 4 1, 3) := by decide +kernel
theorem dX5_sheet_108 : decode cX5_sheet 108 = .ok (.goto (-23), 3) := by decide +kernel
theorem dX5_sheet_111 : decode cX5_sheet 111 = .ok (.aload_n 0, 1) := by decide +kernel
theorem dX5_sheet_112 : decode cX5_sheet 112 = .ok (.getfield 31, 3) := by decide +kernel
theorem dX5_sheet_115 : decode cX5_sheet 115 = .ok (.iload_n 1, 1) := by decide +kernel
theorem dX5_sheet_116 : decode cX5_sheet 116 = .ok (.iaload, 1) := by decide +kernel
theorem dX5_sheet_117 : decode cX5_sheet 117 = .ok (.ireturn, 1) := by decide +kernel
theorem dX5_write_0 : decode cX5_write 0 = .ok (.iload_n 1, 1) := by decide +kernel
theorem dX5_write_1 : decode cX5_write 1 = .ok (.invokestatic 261, 3) := by decide +kernel
theorem dX5_write_4 : decode cX5_write 4 = .ok (.ifCond .ne 11, 3) := by decide +kernel
theorem dX5_write_7 : decode cX5_write 7 = .ok (.aload_n 0, 1) := by decide +kernel
theorem dX5_write_8 : decode cX5_write 8 = .ok (.ldc 47, 2) := by decide +kernel
theorem dX5_write_10 : decode cX5_write 10 = .ok (.invokevirtual 74, 3) := by decide +kernel
theorem dX5_write_13 : decode cX5_write 13 = .ok (.i2l, 1) := by decide +kernel
theorem dX5_write_14 : decode cX5_write 14 = .ok (.lreturn, 1) := by decide +kernel
theorem dX5_write_15 : decode cX5_write 15 = .ok (.aload_n 0, 1) := by decide +kernel
theorem dX5_write_16 : decode cX5_write 16 = .ok (.getfield 28, 3) := by decide +kernel
theorem dX5_write_19 : decode cX5_write 19 = .ok (.iload_n 1, 1) := by decide +kernel
theorem dX5_write_20 : decode cX5_write 20 = .ok (.iaload, 1) := by decide +kernel
theorem dX5_write_21 : decode cX5_write 21 = .ok (.ifCond .ne 12, 3) := by decide +kernel
theorem dX5_write_24 : decode cX5_write 24 = .ok (.aload_n 0, 1) := by decide +kernel
theorem dX5_write_25 : decode cX5_write 25 = .ok (.ldc_w 264, 3) := by decide +kernel
theorem dX5_write_28 : decode cX5_write 28 = .ok (.invokevirtual 74, 3) := by decide +kernel
theorem dX5_write_31 : decode cX5_write 31 = .ok (.i2l, 1) := by decide +kernel
theorem dX5_write_32 : decode cX5_write 32 = .ok (.lreturn, 1) := by decide +kernel
theorem dX5_write_33 : decode cX5_write 33 = .ok (.iload_n 2, 1) := by decide +kernel
theorem dX5_write_34 : decode cX5_write 34 = .ok (.iconst 0, 1) := by decide +kernel
theorem dX5_write_35 : decode cX5_write 35 = .ok (.aload_n 0, 1) := by decide +kernel
theorem dX5_write_36 : decode cX5_write 36 = .ok (.getfield 31, 3) := by decide +kernel
theorem dX5_write_39 : decode cX5_write 39 = .ok (.iload_n 1, 1) := by decide +kernel
theorem dX5_write_40 : decode cX5_write 40 = .ok (.iaload, 1) := by decide +kernel
theorem dX5_write_41 : decode cX5_write 41 = .ok (.iconst 1, 1) := by decide +kernel
theorem dX5_write_42 : decode cX5_write 42 = .ok (.isub, 1) := by decide +kernel
theorem dX5_write_43 : decode cX5_write 43 = .ok (.invokestatic 48, 3) := by decide +kernel
theorem dX5_write_46 : decode cX5_write 46 = .ok (.ifCond .ne 11, 3) := by decide +kernel
theorem dX5_write_49 : decode cX5_write 49 = .ok (.aload_n 0, 1) := by decide +kernel
theorem dX5_write_50 : decode cX5_write 50 = .ok (.ldc 47, 2) := by decide +kernel
theorem dX5_write_52 : decode cX5_write 52 = .ok (.invokevirtual 74, 3) := by decide +kernel
theorem dX5_write_55 : decode cX5_write 55 = .ok (.i2l, 1) := by decide +kernel
theorem dX5_write_56 : decode cX5_write 56 = .ok (.lreturn, 1) := by decide +kernel
theorem dX5_write_57 : decode cX5_write 57 = .ok (.aload_n 0, 1) := by decide +kernel
theorem dX5_write_58 : decode cX5_write 58 = .ok (.getfield 34, 3) := by decide +kernel
theorem dX5_write_61 : decode cX5_write 61 = .ok (.bipush 40, 2) := by decide +kernel
theorem dX5_write_63 : decode cX5_write 63 = .ok (.iload_n 1, 1) := by decide +kernel
theorem dX5_write_64 : decode cX5_write 64 = .ok (.imul, 1) := by decide +kernel
theorem dX5_write_65 : decode cX5_write 65 = .ok (.iload_n 2, 1) := by decide +kernel
theorem dX5_write_66 : decode cX5_write 66 = .ok (.iadd, 1) := by decide +kernel
theorem dX5_write_67 : decode cX5_write 67 = .ok (.laload, 1) := by decide +kernel
theorem dX5_write_68 : decode cX5_write 68 = .ok (.lstore 5, 2) := by decide +kernel
theorem dX5_write_70 : decode cX5_write 70 = .ok (.aload_n 0, 1) := by decide +kernel
theorem dX5_write_71 : decode cX5_write 71 = .ok (.getfield 34, 3) := by decide +kernel
theorem dX5_write_74 : decode cX5_write 74 = .ok (.bipush 40, 2) := by decide +kernel
theorem dX5_write_76 : decode cX5_write 76 = .ok (.iload_n 1, 1) := by decide +kernel
theorem dX5_write_77 : decode cX5_write 77 = .ok (.imul, 1) := by decide +kernel
theorem dX5_write_78 : decode cX5_write 78 = .ok (.iload_n 2, 1) := by decide +kernel
theorem dX5_write_79 : decode cX5_write 79 = .ok (.iadd, 1) := by decide +kernel
theorem dX5_write_80 : decode cX5_write 80 = .ok (.aload_n 0, 1) := by decide +kernel
theorem dX5_write_81 : decode cX5_write 81 = .ok (.getfield 28, 3) := by decide +kernel
theorem dX5_write_84 : decode cX5_write 84 = .ok (.iload_n 1, 1) := by decide +kernel
theorem dX5_write_85 : decode cX5_write 85 = .ok (.iaload, 1) := by decide +kernel
theorem dX5_write_86 : decode cX5_write 86 = .ok (.lload_n 3, 1) := by decide +kernel
theorem dX5_write_87 : decode cX5_write 87 = .ok (.invokestatic 265, 3) := by decide +kernel
theorem dX5_write_90 : decode cX5_write 90 = .ok (.lastore, 1) := by decide +kernel
theorem dX5_write_91 : decode cX5_write 91 = .ok (.lload 5, 2) := by decide +kernel
theorem dX5_write_93 : decode cX5_write 93 = .ok (.lreturn, 1) := by decide +kernel
theorem dX5_isPart_0 : decode cX5_isPart 0 = .ok (.iload_n 2, 1) := by decide +kernel
theorem dX5_isPart_1 : decode cX5_isPart 1 = .ok (.ifCond .lt 33, 3) := by decide +kernel
theorem dX5_isPart_4 : decode cX5_isPart 4 = .ok (.iload_n 3, 1) := by decide +kernel
theorem dX5_isPart_5 : decode cX5_isPart 5 = .ok (.ifCond .lt 29, 3) := by decide +kernel
theorem dX5_isPart_8 : decode cX5_isPart 8 = .ok (.iload_n 3, 1) := by decide +kernel
theorem dX5_isPart_9 : decode cX5_isPart 9 = .ok (.aload_n 0, 1) := by decide +kernel
theorem dX5_isPart_10 : decode cX5_isPart 10 = .ok (.getfield 31, 3) := by decide +kernel
theorem dX5_isPart_13 : decode cX5_isPart 13 = .ok (.iload_n 1, 1) := by decide +kernel
theorem dX5_isPart_14 : decode cX5_isPart 14 = .ok (.iaload, 1) := by decide +kernel
theorem dX5_isPart_15 : decode cX5_isPart 15 = .ok (.if_icmp .gt 19, 3) := by decide +kernel
theorem dX5_isPart_18 : decode cX5_isPart 18 = .ok (.iload_n 2, 1) := by decide +kernel
theorem dX5_isPart_19 : decode cX5_isPart 19 = .ok (.aload_n 0, 1) := by decide +kernel
theorem dX5_isPart_20 : decode cX5_isPart 20 = .ok (.getfield 31, 3) := by decide +kernel
theorem dX5_isPart_23 : decode cX5_isPart 23 = .ok (.iload_n 1, 1) := by decide +kernel
theorem dX5_isPart_24 : decode cX5_isPart 24 = .ok (.iaload, 1) := by decide +kernel
theorem dX5_isPart_25 : decode cX5_isPart 25 = .ok (.iload_n 3, 1) := by decide +kernel
theorem dX5_isPart_26 : decode cX5_isPart 26 = .ok (.isub, 1) := by decide +kernel
theorem dX5_isPart_27 : decode cX5_isPart 27 = .ok (.if_icmp .gt 7, 3) := by decide +kernel
theorem dX5_isPart_30 : decode cX5_isPart 30 = .ok (.iconst 1, 1) := by decide +kernel
theorem dX5_isPart_31 : decode cX5_isPart 31 = .ok (.goto 4, 3) := by decide +kernel
theorem dX5_isPart_34 : decode cX5_isPart 34 = .ok (.iconst 0, 1) := by decide +kernel
theorem dX5_isPart_35 : decode cX5_isPart 35 = .ok (.ireturn, 1) := by decide +kernel
theorem dX5_copy_0 : decode cX5_copy 0 = .ok (.iload_n 1, 1) := by decide +kernel
theorem dX5_copy_1 : decode cX5_copy 1 = .ok (.invokestatic 261, 3) := by decide +kernel
theorem dX5_copy_4 : decode cX5_copy 4 = .ok (.ifCond .eq 10, 3) := by decide +kernel
theorem dX5_copy_7 : decode cX5_copy 7 = .ok (.iload_n 3, 1) := by decide +kernel
theorem dX5_copy_8 : decode cX5_copy 8 = .ok (.invokestatic 261, 3) := by decide +kernel
theorem dX5_copy_11 : decode cX5_copy 11 = .ok (.ifCond .ne 10, 3) := by decide +kernel
theorem dX5_copy_14 : decode cX5_copy 14 = .ok (.aload_n 0, 1) := by decide +kernel
theorem dX5_copy_15 : decode cX5_copy 15 = .ok (.ldc 47, 2) := by decide +kernel
theorem dX5_copy_17 : decode cX5_copy 17 = .ok (.invokevirtual 74, 3) := by decide +kernel
theorem dX5_copy_20 : decode cX5_copy 20 = .ok (.ireturn, 1) := by decide +kernel
theorem dX5_copy_21 : decode cX5_copy 21 = .ok (.aload_n 0, 1) := by decide +kernel
theorem dX5_copy_22 : decode cX5_copy 22 = .ok (.getfield 28, 3) := by decide +kernel
theorem dX5_copy_25 : decode cX5_copy 25 = .ok (.iload_n 1, 1) := by decide +kernel
theorem dX5_copy_26 : decode cX5_copy 26 = .ok (.iaload, 1) := by decide +kernel
theorem dX5_copy_27 : decode cX5_copy 27 = .ok (.ifCond .eq 12, 3) := by decide +kernel
theorem dX5_copy_30 : decode cX5_copy 30 = .ok (.aload_n 0, 1) := by decide +kernel
theorem dX5_copy_31 : decode cX5_copy 31 = .ok (.getfield 28, 3) := by decide +kernel
theorem dX5_copy_34 : decode cX5_copy 34 = .ok (.iload_n 3, 1) := by decide +kernel
theorem dX5_copy_35 : decode cX5_copy 35 = .ok (.iaload, 1) := by decide +kernel
theorem dX5_copy_36 : decode cX5_copy 36 = .ok (.ifCond .ne 11, 3) := by decide +kernel
theorem dX5_copy_39 : decode cX5_copy 39 = .ok (.aload_n 0, 1) := by decide +kernel
theorem dX5_copy_40 : decode cX5_copy 40 = .ok (.ldc_w 264, 3) := by decide +kernel
theorem dX5_copy_43 : decode cX5_copy 43 = .ok (.invokevirtual 74, 3) := by decide +kernel
theorem dX5_copy_46 : decode cX5_copy 46 = .ok (.ireturn, 1) := by decide +kernel
theorem dX5_copy_47 : decode cX5_copy 47 = .ok (.aload_n 0, 1) := by decide +kernel
theorem dX5_copy_48 : decode cX5_copy 48 = .ok (.getfield 28, 3) := by decide +kernel
theorem dX5_copy_51 : decode cX5_copy 51 = .ok (.iload_n 1, 1) := by decide +kernel
theorem dX5_copy_52 : decode cX5_copy 52 = .ok (.iaload, 1) := by decide +kernel
theorem dX5_copy_53 : decode cX5_copy 53 = .ok (.aload_n 0, 1) := by decide +kernel
theorem dX5_copy_54 : decode cX5_copy 54 = .ok (.getfield 28, 3) := by decide +kernel
theorem dX5_copy_57 : decode cX5_copy 57 = .ok (.iload_n 3, 1) := by decide +kernel
theorem dX5_copy_58 : decode cX5_copy 58 = .ok (.iaload, 1) := by decide +kernel
theorem dX5_copy_59 : decode cX5_copy 59 = .ok (.if_icmp .eq 10, 3) := by decide +kernel
theorem dX5_copy_62 : decode cX5_copy 62 = .ok (.aload_n 0, 1) := by decide +kernel
theorem dX5_copy_63 : decode cX5_copy 63 = .ok (.ldc 93, 2) := by decide +kernel
theorem dX5_copy_65 : decode cX5_copy 65 = .ok (.invokevirtual 74, 3) := by decide +kernel
theorem dX5_copy_68 : decode cX5_copy 68 = .ok (.ireturn, 1) := by decide +kernel
theorem dX5_copy_69 : decode cX5_copy 69 = .ok (.aload_n 0, 1) := by decide +kernel
theorem dX5_copy_70 : decode cX5_copy 70 = .ok (.iload_n 1, 1) := by decide +kernel
theorem dX5_copy_71 : decode cX5_copy 71 = .ok (.iload_n 2, 1) := by decide +kernel
theorem dX5_copy_72 : decode cX5_copy 72 = .ok (.iload 5, 2) := by decide +kernel
theorem dX5_copy_74 : decode cX5_copy 74 = .ok (.invokevirtual 269, 3) := by decide +kernel
theorem dX5_copy_77 : decode cX5_copy 77 = .ok (.ifCond .eq 15, 3) := by decide +kernel
theorem dX5_copy_80 : decode cX5_copy 80 = .ok (.aload_n 0, 1) := by decide +kernel
theorem dX5_copy_81 : decode cX5_copy 81 = .ok (.iload_n 3, 1) := by decide +kernel
theorem dX5_copy_82 : decode cX5_copy 82 = .ok (.iload 4, 2) := by decide +kernel
theorem dX5_copy_84 : decode cX5_copy 84 = .ok (.iload 5, 2) := by decide +kernel
theorem dX5_copy_86 : decode cX5_copy 86 = .ok (.invokevirtual 269, 3) := by decide +kernel
theorem dX5_copy_89 : decode cX5_copy 89 = .ok (.ifCond .ne 10, 3) := by decide +kernel
theorem dX5_copy_92 : decode cX5_copy 92 = .ok (.aload_n 0, 1) := by decide +kernel
theorem dX5_copy_93 : decode cX5_copy 93 = .ok (.ldc 47, 2) := by decide +kernel
theorem dX5_copy_95 : decode cX5_copy 95 = .ok (.invokevirtual 74, 3) := by decide +kernel
theorem dX5_copy_98 : decode cX5_copy 98 = .ok (.ireturn, 1) := by decide +kernel
theorem dX5_copy_99 : decode cX5_copy 99 = .ok (.iconst 0, 1) := by decide +kernel
theorem dX5_copy_100 : decode cX5_copy 100 = .ok (.istore 6, 2) := by decide +kernel
theorem dX5_copy_102 : decode cX5_copy 102 = .ok (.iload 6, 2) := by decide +kernel
theorem dX5_copy_104 : decode cX5_copy 104 = .ok (.iload 5, 2) := by decide +kernel
theorem dX5_copy_106 : decode cX5_copy 106 = .ok (.if_icmp .ge 30, 3) := by decide +kernel
theorem dX5_copy_109 : decode cX5_copy 109 = .ok (.aload_n 0, 1) := by decide +kernel
theorem dX5_copy_110 : decode cX5_copy 110 = .ok (.getfield 38, 3) := by decide +kernel
theorem dX5_copy_113 : decode cX5_copy 113 = .ok (.iload 6, 2) := by decide +kernel
theorem dX5_copy_115 : decode cX5_copy 115 = .ok (.aload_n 0, 1) := by decide +kernel
theorem dX5_copy_116 : decode cX5_copy 116 = .ok (.getfield 34, 3) := by decide +kernel
theorem dX5_copy_119 : decode cX5_copy 119 = .ok (.bipush 40, 2) := by decide +kernel
theorem dX5_copy_121 : decode cX5_copy 121 = .ok (.iload_n 1, 1) := by decide +kernel
theorem dX5_copy_122 : decode cX5_copy 122 = .ok (.imul, 1) := by decide +kernel
theorem dX5_copy_123 : decode cX5_copy 123 = .ok (.iload_n 2, 1) := by decide +kernel
theorem dX5_copy_124 : decode cX5_copy 124 = .ok (.iadd, 1) := by decide +kernel
theorem dX5_copy_125 : decode cX5_copy 125 = .ok (.iload 6, 2) := by decide +kernel
theorem dX5_copy_127 : decode cX5_copy 127 = .ok (.iadd, 1) := by decide +kernel
theorem dX5_copy_128 : decode cX5_copy 128 = .ok (.laload, 1) := by decide +kernel
theorem dX5_copy_129 : decode cX5_copy 129 = .ok (.lastore, 1) := by decide +kernel
theorem dX5_copy_130 : decode cX5_copy 130 = .ok (.iinc 6 1, 3) := by decide +kernel
theorem dX5_copy_133 : decode cX5_copy 133 = .ok (.goto (-31), 3) := by decide +kernel
theorem dX5_copy_136 : decode cX5_copy 136 = .ok (.iconst 0, 1) := by decide +kernel
theorem dX5_copy_137 : decode cX5_copy 137 = .ok (.istore 6, 2) := by decide +kernel
theorem dX5_copy_139 : decode cX5_copy 139 = .ok (.iload 6, 2) := by decide +kernel
theorem dX5_copy_141 : decode cX5_copy 141 = .ok (.iload 5, 2) := by decide +kernel
theorem dX5_copy_143 : decode cX5_copy 143 = .ok (.if_icmp .ge 31, 3) := by decide +kernel
theorem dX5_copy_146 : decode cX5_copy 146 = .ok (.aload_n 0, 1) := by decide +kernel
theorem dX5_copy_147 : decode cX5_copy 147 = .ok (.getfield 34, 3) := by decide +kernel
theorem dX5_copy_150 : decode cX5_copy 150 = .ok (.bipush 40, 2) := by decide +kernel
theorem dX5_copy_152 : decode cX5_copy 152 = .ok (.iload_n 3, 1) := by decide +kernel
theorem dX5_copy_153 : decode cX5_copy 153 = .ok (.imul, 1) := by decide +kernel
theorem dX5_copy_154 : decode cX5_copy 154 = .ok (.iload 4, 2) := by decide +kernel
theorem dX5_copy_156 : decode cX5_copy 156 = .ok (.iadd, 1) := by decide +kernel
theorem dX5_copy_157 : decode cX5_copy 157 = .ok (.iload 6, 2) := by decide +kernel
theorem dX5_copy_159 : decode cX5_copy 159 = .ok (.iadd, 1) := by decide +kernel
theorem dX5_copy_160 : decode cX5_copy 160 = .ok (.aload_n 0, 1) := by decide +kernel
theorem dX5_copy_161 : decode cX5_copy 161 = .ok (.getfield 38, 3) := by decide +kernel
theorem dX5_copy_164 : decode cX5_copy 164 = .ok (.iload 6, 2) := by decide +kernel
theorem dX5_copy_166 : decode cX5_copy 166 = .ok (.laload, 1) := by decide +kernel
theorem dX5_copy_167 : decode cX5_copy 167 = .ok (.lastore, 1) := by decide +kernel
theorem dX5_copy_168 : decode cX5_copy 168 = .ok (.iinc 6 1, 3) := by decide +kernel
theorem dX5_copy_171 : decode cX5_copy 171 = .ok (.goto (-32), 3) := by decide +kernel
theorem dX5_copy_174 : decode cX5_copy 174 = .ok (.iload 5, 2) := by decide +kernel
theorem dX5_copy_176 : decode cX5_copy 176 = .ok (.ireturn, 1) := by decide +kernel
theorem dX5_lays_0 : decode cX5_lays 0 = .ok (.iload_n 1, 1) := by decide +kernel
theorem dX5_lays_1 : decode cX5_lays 1 = .ok (.invokestatic 261, 3) := by decide +kernel
theorem dX5_lays_4 : decode cX5_lays 4 = .ok (.ifCond .ne 10, 3) := by decide +kernel
theorem dX5_lays_7 : decode cX5_lays 7 = .ok (.aload_n 0, 1) := by decide +kernel
theorem dX5_lays_8 : decode cX5_lays 8 = .ok (.ldc 47, 2) := by decide +kernel
theorem dX5_lays_10 : decode cX5_lays 10 = .ok (.invokevirtual 74, 3) := by decide +kernel
theorem dX5_lays_13 : decode cX5_lays 13 = .ok (.ireturn, 1) := by decide +kernel
theorem dX5_lays_14 : decode cX5_lays 14 = .ok (.aload_n 0, 1) := by decide +kernel
theorem dX5_lays_15 : decode cX5_lays 15 = .ok (.getfield 28, 3) := by decide +kernel
theorem dX5_lays_18 : decode cX5_lays 18 = .ok (.iload_n 1, 1) := by decide +kernel
theorem dX5_lays_19 : decode cX5_lays 19 = .ok (.iaload, 1) := by decide +kernel
theorem dX5_lays_20 : decode cX5_lays 20 = .ok (.ifCond .ne 11, 3) := by decide +kernel
theorem dX5_lays_23 : decode cX5_lays 23 = .ok (.aload_n 0, 1) := by decide +kernel
theorem dX5_lays_24 : decode cX5_lays 24 = .ok (.ldc_w 264, 3) := by decide +kernel
theorem dX5_lays_27 : decode cX5_lays 27 = .ok (.invokevirtual 74, 3) := by decide +kernel
theorem dX5_lays_30 : decode cX5_lays 30 = .ok (.ireturn, 1) := by decide +kernel
theorem dX5_lays_31 : decode cX5_lays 31 = .ok (.iconst 0, 1) := by decide +kernel
theorem dX5_lays_32 : decode cX5_lays 32 = .ok (.istore_n 2, 1) := by decide +kernel
theorem dX5_lays_33 : decode cX5_lays 33 = .ok (.iconst 0, 1) := by decide +kernel
theorem dX5_lays_34 : decode cX5_lays 34 = .ok (.istore_n 3, 1) := by decide +kernel
theorem dX5_lays_35 : decode cX5_lays 35 = .ok (.iload_n 3, 1) := by decide +kernel
theorem dX5_lays_36 : decode cX5_lays 36 = .ok (.aload_n 0, 1) := by decide +kernel
theorem dX5_lays_37 : decode cX5_lays 37 = .ok (.getfield 7, 3) := by decide +kernel
theorem dX5_lays_40 : decode cX5_lays 40 = .ok (.iconst 0, 1) := by decide +kernel
theorem dX5_lays_41 : decode cX5_lays 41 = .ok (.iaload, 1) := by decide +kernel
theorem dX5_lays_42 : decode cX5_lays 42 = .ok (.if_icmp .ge 60, 3) := by decide +kernel
theorem dX5_lays_45 : decode cX5_lays 45 = .ok (.iload_n 3, 1) := by decide +kernel
theorem dX5_lays_46 : decode cX5_lays 46 = .ok (.aload_n 0, 1) := by decide +kernel
theorem dX5_lays_47 : decode cX5_lays 47 = .ok (.getfield 31, 3) := by decide +kernel
theorem dX5_lays_50 : decode cX5_lays 50 = .ok (.iload_n 1, 1) := by decide +kernel
theorem dX5_lays_51 : decode cX5_lays 51 = .ok (.iaload, 1) := by decide +kernel
theorem dX5_lays_52 : decode cX5_lays 52 = .ok (.if_icmp .ge 50, 3) := by decide +kernel
theorem dX5_lays_55 : decode cX5_lays 55 = .ok (.aload_n 0, 1) := by decide +kernel
theorem dX5_lays_56 : decode cX5_lays 56 = .ok (.getfield 34, 3) := by decide +kernel
theorem dX5_lays_59 : decode cX5_lays 59 = .ok (.bipush 40, 2) := by decide +kernel
theorem dX5_lays_61 : decode cX5_lays 61 = .ok (.iload_n 1, 1) := by decide +kernel
theorem dX5_lays_62 : decode cX5_lays 62 = .ok (.imul, 1) := by decide +kernel
theorem dX5_lays_63 : decode cX5_lays 63 = .ok (.iload_n 3, 1) := by decide +kernel
theorem dX5_lays_64 : decode cX5_lays 64 = .ok (.iadd, 1) := by decide +kernel
theorem dX5_lays_65 : decode cX5_lays 65 = .ok (.laload, 1) := by decide +kernel
theorem dX5_lays_66 : decode cX5_lays 66 = .ok (.lstore 4, 2) := by decide +kernel
theorem dX5_lays_68 : decode cX5_lays 68 = .ok (.lload 4, 2) := by decide +kernel
theorem dX5_lays_70 : decode cX5_lays 70 = .ok (.lconst 0, 1) := by decide +kernel
theorem dX5_lays_71 : decode cX5_lays 71 = .ok (.lcmp, 1) := by decide +kernel
theorem dX5_lays_72 : decode cX5_lays 72 = .ok (.ifCond .lt 24, 3) := by decide +kernel
theorem dX5_lays_75 : decode cX5_lays 75 = .ok (.lload 4, 2) := by decide +kernel
theorem dX5_lays_77 : decode cX5_lays 77 = .ok (.ldc2_w 272, 3) := by decide +kernel
theorem dX5_lays_80 : decode cX5_lays 80 = .ok (.lcmp, 1) := by decide +kernel
theorem dX5_lays_81 : decode cX5_lays 81 = .ok (.ifCond .gt 15, 3) := by decide +kernel
theorem dX5_lays_84 : decode cX5_lays 84 = .ok (.aload_n 0, 1) := by decide +kernel
theorem dX5_lays_85 : decode cX5_lays 85 = .ok (.iload_n 3, 1) := by decide +kernel
theorem dX5_lays_86 : decode cX5_lays 86 = .ok (.iconst 1, 1) := by decide +kernel
theorem dX5_lays_87 : decode cX5_lays 87 = .ok (.lload 4, 2) := by decide +kernel
theorem dX5_lays_89 : decode cX5_lays 89 = .ok (.l2i, 1) := by decide +kernel
theorem dX5_lays_90 : decode cX5_lays 90 = .ok (.invokevirtual 66, 3) := by decide +kernel
theorem dX5_lays_93 : decode cX5_lays 93 = .ok (.iinc 2 1, 3) := by decide +kernel
theorem dX5_lays_96 : decode cX5_lays 96 = .ok (.iinc 3 1, 3) := by decide +kernel
theorem dX5_lays_99 : decode cX5_lays 99 = .ok (.goto (-64), 3) := by decide +kernel
theorem dX5_lays_102 : decode cX5_lays 102 = .ok (.iload_n 2, 1) := by decide +kernel
theorem dX5_lays_103 : decode cX5_lays 103 = .ok (.ireturn, 1) := by decide +kernel
theorem dX5_book_0 : decode cX5_book 0 = .ok (.iload_n 1, 1) := by decide +kernel
theorem dX5_book_1 : decode cX5_book 1 = .ok (.invokestatic 261, 3) := by decide +kernel
theorem dX5_book_4 : decode cX5_book 4 = .ok (.ifCond .ne 8, 3) := by decide +kernel
theorem dX5_book_7 : decode cX5_book 7 = .ok (.ldc 47, 2) := by decide +kernel
theorem dX5_book_9 : decode cX5_book 9 = .ok (.goto 36, 3) := by decide +kernel
theorem dX5_book_12 : decode cX5_book 12 = .ok (.aload_n 0, 1) := by decide +kernel
theorem dX5_book_13 : decode cX5_book 13 = .ok (.getfield 28, 3) := by decide +kernel
theorem dX5_book_16 : decode cX5_book 16 = .ok (.iload_n 1, 1) := by decide +kernel
theorem dX5_book_17 : decode cX5_book 17 = .ok (.iaload, 1) := by decide +kernel
theorem dX5_book_18 : decode cX5_book 18 = .ok (.ifCond .ne 9, 3) := by decide +kernel
theorem dX5_book_21 : decode cX5_book 21 = .ok (.ldc_w 264, 3) := by decide +kernel
theorem dX5_book_24 : decode cX5_book 24 = .ok (.goto 21, 3) := by decide +kernel
theorem dX5_book_27 : decode cX5_book 27 = .ok (.aload_n 0, 1) := by decide +kernel
theorem dX5_book_28 : decode cX5_book 28 = .ok (.getfield 7, 3) := by decide +kernel
theorem dX5_book_31 : decode cX5_book 31 = .ok (.iconst 5, 1) := by decide +kernel
theorem dX5_book_32 : decode cX5_book 32 = .ok (.iaload, 1) := by decide +kernel
theorem dX5_book_33 : decode cX5_book 33 = .ok (.sipush 9959, 3) := by decide +kernel
theorem dX5_book_36 : decode cX5_book 36 = .ok (.if_icmp .le 8, 3) := by decide +kernel
theorem dX5_book_39 : decode cX5_book 39 = .ok (.ldc 115, 2) := by decide +kernel
theorem dX5_book_41 : decode cX5_book 41 = .ok (.goto 4, 3) := by decide +kernel
theorem dX5_book_44 : decode cX5_book 44 = .ok (.iconst 0, 1) := by decide +kernel
theorem dX5_book_45 : decode cX5_book 45 = .ok (.istore_n 2, 1) := by decide +kernel
theorem dX5_book_46 : decode cX5_book 46 = .ok (.iload_n 2, 1) := by decide +kernel
theorem dX5_book_47 : decode cX5_book 47 = .ok (.ifCond .eq 9, 3) := by decide +kernel
theorem dX5_book_50 : decode cX5_book 50 = .ok (.aload_n 0, 1) := by decide +kernel
theorem dX5_book_51 : decode cX5_book 51 = .ok (.iload_n 2, 1) := by decide +kernel
theorem dX5_book_52 : decode cX5_book 52 = .ok (.invokevirtual 74, 3) := by decide +kernel
theorem dX5_book_55 : decode cX5_book 55 = .ok (.ireturn, 1) := by decide +kernel
theorem dX5_book_56 : decode cX5_book 56 = .ok (.aload_n 0, 1) := by decide +kernel
theorem dX5_book_57 : decode cX5_book 57 = .ok (.iconst 1, 1) := by decide +kernel
theorem dX5_book_58 : decode cX5_book 58 = .ok (.aload_n 0, 1) := by decide +kernel
theorem dX5_book_59 : decode cX5_book 59 = .ok (.getfield 22, 3) := by decide +kernel
theorem dX5_book_62 : decode cX5_book 62 = .ok (.invokevirtual 129, 3) := by decide +kernel
theorem dX5_book_65 : decode cX5_book 65 = .ok (.iconst 0, 1) := by decide +kernel
theorem dX5_book_66 : decode cX5_book 66 = .ok (.istore_n 3, 1) := by decide +kernel
theorem dX5_book_67 : decode cX5_book 67 = .ok (.iconst 0, 1) := by decide +kernel
theorem dX5_book_68 : decode cX5_book 68 = .ok (.istore 4, 2) := by decide +kernel
theorem dX5_book_70 : decode cX5_book 70 = .ok (.iload 4, 2) := by decide +kernel
theorem dX5_book_72 : decode cX5_book 72 = .ok (.aload_n 0, 1) := by decide +kernel
theorem dX5_book_73 : decode cX5_book 73 = .ok (.getfield 31, 3) := by decide +kernel
theorem dX5_book_76 : decode cX5_book 76 = .ok (.iload_n 1, 1) := by decide +kernel
theorem dX5_book_77 : decode cX5_book 77 = .ok (.iaload, 1) := by decide +kernel
theorem dX5_book_78 : decode cX5_book 78 = .ok (.if_icmp .ge 45, 3) := by decide +kernel
theorem dX5_book_81 : decode cX5_book 81 = .ok (.iload_n 3, 1) := by decide +kernel
theorem dX5_book_82 : decode cX5_book 82 = .ok (.aload_n 0, 1) := by decide +kernel
theorem dX5_book_83 : decode cX5_book 83 = .ok (.invokevirtual 116, 3) := by decide +kernel
theorem dX5_book_86 : decode cX5_book 86 = .ok (.iadd, 1) := by decide +kernel
theorem dX5_book_87 : decode cX5_book 87 = .ok (.istore_n 3, 1) := by decide +kernel
theorem dX5_book_88 : decode cX5_book 88 = .ok (.aload_n 0, 1) := by decide +kernel
theorem dX5_book_89 : decode cX5_book 89 = .ok (.getfield 34, 3) := by decide +kernel
theorem dX5_book_92 : decode cX5_book 92 = .ok (.bipush 40, 2) := by decide +kernel
theorem dX5_book_94 : decode cX5_book 94 = .ok (.iload_n 1, 1) := by decide +kernel
theorem dX5_book_95 : decode cX5_book 95 = .ok (.imul, 1) := by decide +kernel
theorem dX5_book_96 : decode cX5_book 96 = .ok (.iload 4, 2) := by decide +kernel
theorem dX5_book_98 : decode cX5_book 98 = .ok (.iadd, 1) := by decide +kernel
theorem dX5_book_99 : decode cX5_book 99 = .ok (.aload_n 0, 1) := by decide +kernel
theorem dX5_book_100 : decode cX5_book 100 = .ok (.getfield 28, 3) := by decide +kernel
theorem dX5_book_103 : decode cX5_book 103 = .ok (.iload_n 1, 1) := by decide +kernel
theorem dX5_book_104 : decode cX5_book 104 = .ok (.iaload, 1) := by decide +kernel
theorem dX5_book_105 : decode cX5_book 105 = .ok (.aload_n 0, 1) := by decide +kernel
theorem dX5_book_106 : decode cX5_book 106 = .ok (.getfield 7, 3) := by decide +kernel
theorem dX5_book_109 : decode cX5_book 109 = .ok (.bipush 6, 2) := by decide +kernel
theorem dX5_book_111 : decode cX5_book 111 = .ok (.iaload, 1) := by decide +kernel
theorem dX5_book_112 : decode cX5_book 112 = .ok (.i2l, 1) := by decide +kernel
theorem dX5_book_113 : decode cX5_book 113 = .ok (.invokestatic 265, 3) := by decide +kernel
theorem dX5_book_116 : decode cX5_book 116 = .ok (.lastore, 1) := by decide +kernel
theorem dX5_book_117 : decode cX5_book 117 = .ok (.iinc 4 1, 3) := by decide +kernel
theorem dX5_book_120 : decode cX5_book 120 = .ok (.goto (-50), 3) := by decide +kernel
theorem dX5_book_123 : decode cX5_book 123 = .ok (.aload_n 0, 1) := by decide +kernel
theorem dX5_book_124 : decode cX5_book 124 = .ok (.iconst 0, 1) := by decide +kernel
theorem dX5_book_125 : decode cX5_book 125 = .ok (.aload_n 0, 1) := by decide +kernel
theorem dX5_book_126 : decode cX5_book 126 = .ok (.getfield 22, 3) := by decide +kernel
theorem dX5_book_129 : decode cX5_book 129 = .ok (.invokevirtual 129, 3) := by decide +kernel
theorem dX5_book_132 : decode cX5_book 132 = .ok (.iload_n 3, 1) := by decide +kernel
theorem dX5_book_133 : decode cX5_book 133 = .ok (.ifCond .ge 7, 3) := by decide +kernel
theorem dX5_book_136 : decode cX5_book 136 = .ok (.iconst 0, 1) := by decide +kernel
theorem dX5_book_137 : decode cX5_book 137 = .ok (.goto 9, 3) := by decide +kernel
theorem dX5_book_140 : decode cX5_book 140 = .ok (.aload_n 0, 1) := by decide +kernel
theorem dX5_book_141 : decode cX5_book 141 = .ok (.getfield 31, 3) := by decide +kernel
theorem dX5_book_144 : decode cX5_book 144 = .ok (.iload_n 1, 1) := by decide +kernel
theorem dX5_book_145 : decode cX5_book 145 = .ok (.iaload, 1) := by decide +kernel
theorem dX5_book_146 : decode cX5_book 146 = .ok (.ireturn, 1) := by decide +kernel
theorem dX5_isKnown_0 : decode cX5_isKnown 0 = .ok (.iconst 1, 1) := by decide +kernel
theorem dX5_isKnown_1 : decode cX5_isKnown 1 = .ok (.istore_n 3, 1) := by decide +kernel
theorem dX5_isKnown_2 : decode cX5_isKnown 2 = .ok (.iconst 0, 1) := by decide +kernel
theorem dX5_isKnown_3 : decode cX5_isKnown 3 = .ok (.istore 4, 2) := by decide +kernel
theorem dX5_isKnown_5 : decode cX5_isKnown 5 = .ok (.iload 4, 2) := by decide +kernel
theorem dX5_isKnown_7 : decode cX5_isKnown 7 = .ok (.aload_n 0, 1) := by decide +kernel
theorem dX5_isKnown_8 : decode cX5_isKnown 8 = .ok (.getfield 7, 3) := by decide +kernel
theorem dX5_isKnown_11 : decode cX5_isKnown 11 = .ok (.iconst 0, 1) := by decide +kernel
theorem dX5_isKnown_12 : decode cX5_isKnown 12 = .ok (.iaload, 1) := by decide +kernel
theorem dX5_isKnown_13 : decode cX5_isKnown 13 = .ok (.if_icmp .ge 71, 3) := by decide +kernel
theorem dX5_isKnown_16 : decode cX5_isKnown 16 = .ok (.iload 4, 2) := by decide +kernel
theorem dX5_isKnown_18 : decode cX5_isKnown 18 = .ok (.aload_n 0, 1) := by decide +kernel
theorem dX5_isKnown_19 : decode cX5_isKnown 19 = .ok (.getfield 31, 3) := by decide +kernel
theorem dX5_isKnown_22 : decode cX5_isKnown 22 = .ok (.iload_n 1, 1) := by decide +kernel
theorem dX5_isKnown_23 : decode cX5_isKnown 23 = .ok (.iaload, 1) := by decide +kernel
theorem dX5_isKnown_24 : decode cX5_isKnown 24 = .ok (.if_icmp .ge 60, 3) := by decide +kernel
theorem dX5_isKnown_27 : decode cX5_isKnown 27 = .ok (.aload_n 0, 1) := by decide +kernel
theorem dX5_isKnown_28 : decode cX5_isKnown 28 = .ok (.getfield 34, 3) := by decide +kernel
theorem dX5_isKnown_31 : decode cX5_isKnown 31 = .ok (.bipush 40, 2) := by decide +kernel
theorem dX5_isKnown_33 : decode cX5_isKnown 33 = .ok (.iload_n 1, 1) := by decide +kernel
theorem dX5_isKnown_34 : decode cX5_isKnown 34 = .ok (.imul, 1) := by decide +kernel
theorem dX5_isKnown_35 : decode cX5_isKnown 35 = .ok (.iload 4, 2) := by decide +kernel
theorem dX5_isKnown_37 : decode cX5_isKnown 37 = .ok (.iadd, 1) := by decide +kernel
theorem dX5_isKnown_38 : decode cX5_isKnown 38 = .ok (.laload, 1) := by decide +kernel
theorem dX5_isKnown_39 : decode cX5_isKnown 39 = .ok (.lstore 5, 2) := by decide +kernel
theorem dX5_isKnown_41 : decode cX5_isKnown 41 = .ok (.iload_n 3, 1) := by decide +kernel
theorem dX5_isKnown_42 : decode cX5_isKnown 42 = .ok (.ifCond .eq 34, 3) := by decide +kernel
theorem dX5_isKnown_45 : decode cX5_isKnown 45 = .ok (.lload 5, 2) := by decide +kernel
theorem dX5_isKnown_47 : decode cX5_isKnown 47 = .ok (.lconst 0, 1) := by decide +kernel
theorem dX5_isKnown_48 : decode cX5_isKnown 48 = .ok (.lcmp, 1) := by decide +kernel
theorem dX5_isKnown_49 : decode cX5_isKnown 49 = .ok (.ifCond .eq 10, 3) := by decide +kernel
theorem dX5_isKnown_52 : decode cX5_isKnown 52 = .ok (.lload 5, 2) := by decide +kernel
theorem dX5_isKnown_54 : decode cX5_isKnown 54 = .ok (.lconst 1, 1) := by decide +kernel
theorem dX5_isKnown_55 : decode cX5_isKnown 55 = .ok (.lcmp, 1) := by decide +kernel
theorem dX5_isKnown_56 : decode cX5_isKnown 56 = .ok (.ifCond .ne 16, 3) := by decide +kernel
theorem dX5_isKnown_59 : decode cX5_isKnown 59 = .ok (.lload 5, 2) := by decide +kernel
theorem dX5_isKnown_61 : decode cX5_isKnown 61 = .ok (.iload_n 2, 1) := by decide +kernel
theorem dX5_isKnown_62 : decode cX5_isKnown 62 = .ok (.iload 4, 2) := by decide +kernel
theorem dX5_isKnown_64 : decode cX5_isKnown 64 = .ok (.ishr, 1) := by decide +kernel
theorem dX5_isKnown_65 : decode cX5_isKnown 65 = .ok (.iconst 1, 1) := by decide +kernel
theorem dX5_isKnown_66 : decode cX5_isKnown 66 = .ok (.iand, 1) := by decide +kernel
theorem dX5_isKnown_67 : decode cX5_isKnown 67 = .ok (.i2l, 1) := by decide +kernel
theorem dX5_isKnown_68 : decode cX5_isKnown 68 = .ok (.lcmp, 1) := by decide +kernel
theorem dX5_isKnown_69 : decode cX5_isKnown 69 = .ok (.ifCond .ne 7, 3) := by decide +kernel
theorem dX5_isKnown_72 : decode cX5_isKnown 72 = .ok (.iconst 1, 1) := by decide +kernel
theorem dX5_isKnown_73 : decode cX5_isKnown 73 = .ok (.goto 4, 3) := by decide +kernel
theorem dX5_isKnown_76 : decode cX5_isKnown 76 = .ok (.iconst 0, 1) := by decide +kernel
theorem dX5_isKnown_77 : decode cX5_isKnown 77 = .ok (.istore_n 3, 1) := by decide +kernel
theorem dX5_isKnown_78 : decode cX5_isKnown 78 = .ok (.iinc 4 1, 3) := by decide +kernel
theorem dX5_isKnown_81 : decode cX5_isKnown 81 = .ok (.goto (-76), 3) := by decide +kernel
theorem dX5_isKnown_84 : decode cX5_isKnown 84 = .ok (.iload_n 3, 1) := by decide +kernel
theorem dX5_isKnown_85 : decode cX5_isKnown 85 = .ok (.ireturn, 1) := by decide +kernel
theorem dX5_read_0 : decode cX5_read 0 = .ok (.iload_n 1, 1) := by decide +kernel
theorem dX5_read_1 : decode cX5_read 1 = .ok (.invokestatic 261, 3) := by decide +kernel
theorem dX5_read_4 : decode cX5_read 4 = .ok (.ifCond .ne 8, 3) := by decide +kernel
theorem dX5_read_7 : decode cX5_read 7 = .ok (.ldc 47, 2) := by decide +kernel
theorem dX5_read_9 : decode cX5_read 9 = .ok (.goto 34, 3) := by decide +kernel
theorem dX5_read_12 : decode cX5_read 12 = .ok (.aload_n 0, 1) := by decide +kernel
theorem dX5_read_13 : decode cX5_read 13 = .ok (.getfield 28, 3) := by decide +kernel
theorem dX5_read_16 : decode cX5_read 16 = .ok (.iload_n 1, 1) := by decide +kernel
theorem dX5_read_17 : decode cX5_read 17 = .ok (.iaload, 1) := by decide +kernel
theorem dX5_read_18 : decode cX5_read 18 = .ok (.ifCond .ne 9, 3) := by decide +kernel
theorem dX5_read_21 : decode cX5_read 21 = .ok (.ldc_w 264, 3) := by decide +kernel
theorem dX5_read_24 : decode cX5_read 24 = .ok (.goto 19, 3) := by decide +kernel
theorem dX5_read_27 : decode cX5_read 27 = .ok (.iload_n 2, 1) := by decide +kernel
theorem dX5_read_28 : decode cX5_read 28 = .ok (.iconst 0, 1) := by decide +kernel
theorem dX5_read_29 : decode cX5_read 29 = .ok (.bipush 99, 2) := by decide +kernel
theorem dX5_read_31 : decode cX5_read 31 = .ok (.invokestatic 48, 3) := by decide +kernel
theorem dX5_read_34 : decode cX5_read 34 = .ok (.ifCond .ne 8, 3) := by decide +kernel
theorem dX5_read_37 : decode cX5_read 37 = .ok (.ldc 47, 2) := by decide +kernel
theorem dX5_read_39 : decode cX5_read 39 = .ok (.goto 4, 3) := by decide +kernel
theorem dX5_read_42 : decode cX5_read 42 = .ok (.iconst 0, 1) := by decide +kernel
theorem dX5_read_43 : decode cX5_read 43 = .ok (.istore_n 3, 1) := by decide +kernel
theorem dX5_read_44 : decode cX5_read 44 = .ok (.iload_n 3, 1) := by decide +kernel
theorem dX5_read_45 : decode cX5_read 45 = .ok (.ifCond .eq 9, 3) := by decide +kernel
theorem dX5_read_48 : decode cX5_read 48 = .ok (.aload_n 0, 1) := by decide +kernel
theorem dX5_read_49 : decode cX5_read 49 = .ok (.iload_n 3, 1) := by decide +kernel
theorem dX5_read_50 : decode cX5_read 50 = .ok (.invokevirtual 74, 3) := by decide +kernel
theorem dX5_read_53 : decode cX5_read 53 = .ok (.ireturn, 1) := by decide +kernel
theorem dX5_read_54 : decode cX5_read 54 = .ok (.iconst 0, 1) := by decide +kernel
theorem dX5_read_55 : decode cX5_read 55 = .ok (.istore 4, 2) := by decide +kernel
theorem dX5_read_57 : decode cX5_read 57 = .ok (.iconst 0, 1) := by decide +kernel
theorem dX5_read_58 : decode cX5_read 58 = .ok (.istore 5, 2) := by decide +kernel
theorem dX5_read_60 : decode cX5_read 60 = .ok (.iload 5, 2) := by decide +kernel
theorem dX5_read_62 : decode cX5_read 62 = .ok (.iconst 1, 1) := by decide +kernel
theorem dX5_read_63 : decode cX5_read 63 = .ok (.aload_n 0, 1) := by decide +kernel
theorem dX5_read_64 : decode cX5_read 64 = .ok (.getfield 7, 3) := by decide +kernel
theorem dX5_read_67 : decode cX5_read 67 = .ok (.iconst 0, 1) := by decide +kernel
theorem dX5_read_68 : decode cX5_read 68 = .ok (.iaload, 1) := by decide +kernel
theorem dX5_read_69 : decode cX5_read 69 = .ok (.ishl, 1) := by decide +kernel
theorem dX5_read_70 : decode cX5_read 70 = .ok (.if_icmp .ge 45, 3) := by decide +kernel
theorem dX5_read_73 : decode cX5_read 73 = .ok (.iload 4, 2) := by decide +kernel
theorem dX5_read_75 : decode cX5_read 75 = .ok (.aload_n 0, 1) := by decide +kernel
theorem dX5_read_76 : decode cX5_read 76 = .ok (.getfield 7, 3) := by decide +kernel
theorem dX5_read_79 : decode cX5_read 79 = .ok (.iconst 1, 1) := by decide +kernel
theorem dX5_read_80 : decode cX5_read 80 = .ok (.iaload, 1) := by decide +kernel
theorem dX5_read_81 : decode cX5_read 81 = .ok (.iload 5, 2) := by decide +kernel
theorem dX5_read_83 : decode cX5_read 83 = .ok (.invokestatic 150, 3) := by decide +kernel
theorem dX5_read_86 : decode cX5_read 86 = .ok (.iadd, 1) := by decide +kernel
theorem dX5_read_87 : decode cX5_read 87 = .ok (.iload_n 2, 1) := by decide +kernel
theorem dX5_read_88 : decode cX5_read 88 = .ok (.if_icmp .ne 17, 3) := by decide +kernel
theorem dX5_read_91 : decode cX5_read 91 = .ok (.aload_n 0, 1) := by decide +kernel
theorem dX5_read_92 : decode cX5_read 92 = .ok (.iload_n 1, 1) := by decide +kernel
theorem dX5_read_93 : decode cX5_read 93 = .ok (.iload 5, 2) := by decide +kernel
theorem dX5_read_95 : decode cX5_read 95 = .ok (.invokevirtual 274, 3) := by decide +kernel
theorem dX5_read_98 : decode cX5_read 98 = .ok (.ifCond .eq 7, 3) := by decide +kernel
theorem dX5_read_101 : decode cX5_read 101 = .ok (.iconst 1, 1) := by decide +kernel
theorem dX5_read_102 : decode cX5_read 102 = .ok (.goto 4, 3) := by decide +kernel
theorem dX5_read_105 : decode cX5_read 105 = .ok (.iconst 0, 1) := by decide +kernel
theorem dX5_read_106 : decode cX5_read 106 = .ok (.iadd, 1) := by decide +kernel
theorem dX5_read_107 : decode cX5_read 107 = .ok (.istore 4, 2) := by decide +kernel
theorem dX5_read_109 : decode cX5_read 109 = .ok (.iinc 5 1, 3) := by decide +kernel
theorem dX5_read_112 : decode cX5_read 112 = .ok (.goto (-52), 3) := by decide +kernel
theorem dX5_read_115 : decode cX5_read 115 = .ok (.iload 4, 2) := by decide +kernel
theorem dX5_read_117 : decode cX5_read 117 = .ok (.ireturn, 1) := by decide +kernel
theorem dX5_moveAll_0 : decode cX5_moveAll 0 = .ok (.iconst 0, 1) := by decide +kernel
theorem dX5_moveAll_1 : decode cX5_moveAll 1 = .ok (.istore_n 3, 1) := by decide +kernel
theorem dX5_moveAll_2 : decode cX5_moveAll 2 = .ok (.iload_n 3, 1) := by decide +kernel
theorem dX5_moveAll_3 : decode cX5_moveAll 3 = .ok (.bipush 77, 2) := by decide +kernel
theorem dX5_moveAll_5 : decode cX5_moveAll 5 = .ok (.if_icmp .ge 34, 3) := by decide +kernel
theorem dX5_moveAll_8 : decode cX5_moveAll 8 = .ok (.iload_n 1, 1) := by decide +kernel
theorem dX5_moveAll_9 : decode cX5_moveAll 9 = .ok (.ifCond .eq 15, 3) := by decide +kernel
theorem dX5_moveAll_12 : decode cX5_moveAll 12 = .ok (.aload_n 2, 1) := by decide +kernel
theorem dX5_moveAll_13 : decode cX5_moveAll 13 = .ok (.iload_n 3, 1) := by decide +kernel
theorem dX5_moveAll_14 : decode cX5_moveAll 14 = .ok (.aload_n 0, 1) := by decide +kernel
theorem dX5_moveAll_15 : decode cX5_moveAll 15 = .ok (.getfield 7, 3) := by decide +kernel
theorem dX5_moveAll_18 : decode cX5_moveAll 18 = .ok (.iload_n 3, 1) := by decide +kernel
theorem dX5_moveAll_19 : decode cX5_moveAll 19 = .ok (.iaload, 1) := by decide +kernel
theorem dX5_moveAll_20 : decode cX5_moveAll 20 = .ok (.iastore, 1) := by decide +kernel
theorem dX5_moveAll_21 : decode cX5_moveAll 21 = .ok (.goto 12, 3) := by decide +kernel
theorem dX5_moveAll_24 : decode cX5_moveAll 24 = .ok (.aload_n 0, 1) := by decide +kernel
theorem dX5_moveAll_25 : decode cX5_moveAll 25 = .ok (.getfield 7, 3) := by decide +kernel
theorem dX5_moveAll_28 : decode cX5_moveAll 28 = .ok (.iload_n 3, 1) := by decide +kernel
theorem dX5_moveAll_29 : decode cX5_moveAll 29 = .ok (.aload_n 2, 1) := by decide +kernel
theorem dX5_moveAll_30 : decode cX5_moveAll 30 = .ok (.iload_n 3, 1) := by decide +kernel
theorem dX5_moveAll_31 : decode cX5_moveAll 31 = .ok (.iaload, 1) := by decide +kernel
theorem dX5_moveAll_32 : decode cX5_moveAll 32 = .ok (.iastore, 1) := by decide +kernel
theorem dX5_moveAll_33 : decode cX5_moveAll 33 = .ok (.iinc 3 1, 3) := by decide +kernel
theorem dX5_moveAll_36 : decode cX5_moveAll 36 = .ok (.goto (-34), 3) := by decide +kernel
theorem dX5_moveAll_39 : decode cX5_moveAll 39 = .ok (.return_, 1) := by decide +kernel
theorem dX5_image_0 : decode cX5_image 0 = .ok (.aload_n 0, 1) := by decide +kernel
theorem dX5_image_1 : decode cX5_image 1 = .ok (.iconst 1, 1) := by decide +kernel
theorem dX5_image_2 : decode cX5_image 2 = .ok (.aload_n 0, 1) := by decide +kernel
theorem dX5_image_3 : decode cX5_image 3 = .ok (.getfield 41, 3) := by decide +kernel
theorem dX5_image_6 : decode cX5_image 6 = .ok (.invokevirtual 129, 3) := by decide +kernel
theorem dX5_image_9 : decode cX5_image 9 = .ok (.aload_n 0, 1) := by decide +kernel
theorem dX5_image_10 : decode cX5_image 10 = .ok (.iconst 1, 1) := by decide +kernel
theorem dX5_image_11 : decode cX5_image 11 = .ok (.putfield 277, 3) := by decide +kernel
theorem dX5_image_14 : decode cX5_image 14 = .ok (.iconst 1, 1) := by decide +kernel
theorem dX5_image_15 : decode cX5_image 15 = .ok (.ireturn, 1) := by decide +kernel
theorem dX5_undo_0 : decode cX5_undo 0 = .ok (.aload_n 0, 1) := by decide +kernel
theorem dX5_undo_1 : decode cX5_undo 1 = .ok (.getfield 277, 3) := by decide +kernel
theorem dX5_undo_4 : decode cX5_undo 4 = .ok (.ifCond .ne 10, 3) := by decide +kernel
theorem dX5_undo_7 : decode cX5_undo 7 = .ok (.aload_n 0, 1) := by decide +kernel
theorem dX5_undo_8 : decode cX5_undo 8 = .ok (.ldc 133, 2) := by decide +kernel
theorem dX5_undo_10 : decode cX5_undo 10 = .ok (.invokevirtual 74, 3) := by decide +kernel
theorem dX5_undo_13 : decode cX5_undo 13 = .ok (.ireturn, 1) := by decide +kernel
theorem dX5_undo_14 : decode cX5_undo 14 = .ok (.aload_n 0, 1) := by decide +kernel
theorem dX5_undo_15 : decode cX5_undo 15 = .ok (.iconst 0, 1) := by decide +kernel
theorem dX5_undo_16 : decode cX5_undo 16 = .ok (.aload_n 0, 1) := by decide +kernel
theorem dX5_undo_17 : decode cX5_undo 17 = .ok (.getfield 41, 3) := by decide +kernel
theorem dX5_undo_20 : decode cX5_undo 20 = .ok (.invokevirtual 129, 3) := by decide +kernel
theorem dX5_undo_23 : decode cX5_undo 23 = .ok (.aload_n 0, 1) := by decide +kernel
theorem dX5_undo_24 : decode cX5_undo 24 = .ok (.getfield 7, 3) := by decide +kernel
theorem dX5_undo_27 : decode cX5_undo 27 = .ok (.iconst 0, 1) := by decide +kernel
theorem dX5_undo_28 : decode cX5_undo 28 = .ok (.iaload, 1) := by decide +kernel
theorem dX5_undo_29 : decode cX5_undo 29 = .ok (.ireturn, 1) := by decide +kernel
theorem dX5_tear_0 : decode cX5_tear 0 = .ok (.aload_n 0, 1) := by decide +kernel
theorem dX5_tear_1 : decode cX5_tear 1 = .ok (.getfield 277, 3) := by decide +kernel
theorem dX5_tear_4 : decode cX5_tear 4 = .ok (.ifCond .eq 7, 3) := by decide +kernel
theorem dX5_tear_7 : decode cX5_tear 7 = .ok (.iconst 1, 1) := by decide +kernel
theorem dX5_tear_8 : decode cX5_tear 8 = .ok (.goto 4, 3) := by decide +kernel
theorem dX5_tear_11 : decode cX5_tear 11 = .ok (.iconst 0, 1) := by decide +kernel
theorem dX5_tear_12 : decode cX5_tear 12 = .ok (.istore_n 1, 1) := by decide +kernel
theorem dX5_tear_13 : decode cX5_tear 13 = .ok (.aload_n 0, 1) := by decide +kernel
theorem dX5_tear_14 : decode cX5_tear 14 = .ok (.iconst 0, 1) := by decide +kernel
theorem dX5_tear_15 : decode cX5_tear 15 = .ok (.putfield 277, 3) := by decide +kernel
theorem dX5_tear_18 : decode cX5_tear 18 = .ok (.iload_n 1, 1) := by decide +kernel
theorem dX5_tear_19 : decode cX5_tear 19 = .ok (.ireturn, 1) := by decide +kernel
theorem dX5_count_0 : decode cX5_count 0 = .ok (.iload_n 1, 1) := by decide +kernel
theorem dX5_count_1 : decode cX5_count 1 = .ok (.tableswitch 55 0 3 #[31, 38, 43, 49], 31) := by decide +kernel
theorem dX5_count_32 : decode cX5_count 32 = .ok (.aload_n 0, 1) := by decide +kernel
theorem dX5_count_33 : decode cX5_count 33 = .ok (.getfield 7, 3) := by decide +kernel
theorem dX5_count_36 : decode cX5_count 36 = .ok (.iconst 0, 1) := by decide +kernel
theorem dX5_count_37 : decode cX5_count 37 = .ok (.iaload, 1) := by decide +kernel
theorem dX5_count_38 : decode cX5_count 38 = .ok (.ireturn, 1) := by decide +kernel
theorem dX5_count_39 : decode cX5_count 39 = .ok (.aload_n 0, 1) := by decide +kernel
theorem dX5_count_40 : decode cX5_count 40 = .ok (.getfield 160, 3) := by decide +kernel
theorem dX5_count_43 : decode cX5_count 43 = .ok (.ireturn, 1) := by decide +kernel
theorem dX5_count_44 : decode cX5_count 44 = .ok (.aload_n 0, 1) := by decide +kernel
theorem dX5_count_45 : decode cX5_count 45 = .ok (.iconst 2, 1) := by decide +kernel
theorem dX5_count_46 : decode cX5_count 46 = .ok (.invokevirtual 120, 3) := by decide +kernel
theorem dX5_count_49 : decode cX5_count 49 = .ok (.ireturn, 1) := by decide +kernel
theorem dX5_count_50 : decode cX5_count 50 = .ok (.aload_n 0, 1) := by decide +kernel
theorem dX5_count_51 : decode cX5_count 51 = .ok (.iconst 4, 1) := by decide +kernel
theorem dX5_count_52 : decode cX5_count 52 = .ok (.invokevirtual 120, 3) := by decide +kernel
theorem dX5_count_55 : decode cX5_count 55 = .ok (.ireturn, 1) := by decide +kernel
theorem dX5_count_56 : decode cX5_count 56 = .ok (.aload_n 0, 1) := by decide +kernel
theorem dX5_count_57 : decode cX5_count 57 = .ok (.ldc 47, 2) := by decide +kernel
theorem dX5_count_59 : decode cX5_count 59 = .ok (.invokevirtual 74, 3) := by decide +kernel
theorem dX5_count_62 : decode cX5_count 62 = .ok (.ireturn, 1) := by decide +kernel
theorem dX5_status_0 : decode cX5_status 0 = .ok (.iload_n 1, 1) := by decide +kernel
theorem dX5_status_1 : decode cX5_status 1 = .ok (.iconst (-1), 1) := by decide +kernel
theorem dX5_status_2 : decode cX5_status 2 = .ok (.bipush 6, 2) := by decide +kernel
theorem dX5_status_4 : decode cX5_status 4 = .ok (.invokestatic 48, 3) := by decide +kernel
theorem dX5_status_7 : decode cX5_status 7 = .ok (.ifCond .ne 10, 3) := by decide +kernel
theorem dX5_status_10 : decode cX5_status 10 = .ok (.aload_n 0, 1) := by decide +kernel
theorem dX5_status_11 : decode cX5_status 11 = .ok (.ldc 47, 2) := by decide +kernel
theorem dX5_status_13 : decode cX5_status 13 = .ok (.invokevirtual 74, 3) := by decide +kernel
theorem dX5_status_16 : decode cX5_status 16 = .ok (.ireturn, 1) := by decide +kernel
theorem dX5_status_17 : decode cX5_status 17 = .ok (.iconst 0, 1) := by decide +kernel
theorem dX5_status_18 : decode cX5_status 18 = .ok (.istore_n 2, 1) := by decide +kernel
theorem dX5_status_19 : decode cX5_status 19 = .ok (.iconst 0, 1) := by decide +kernel
theorem dX5_status_20 : decode cX5_status 20 = .ok (.istore_n 3, 1) := by decide +kernel
theorem dX5_status_21 : decode cX5_status 21 = .ok (.iload_n 3, 1) := by decide +kernel
theorem dX5_status_22 : decode cX5_status 22 = .ok (.bipush 7, 2) := by decide +kernel
theorem dX5_status_24 : decode cX5_status 24 = .ok (.if_icmp .ge 18, 3) := by decide +kernel
theorem dX5_status_27 : decode cX5_status 27 = .ok (.iload_n 2, 1) := by decide +kernel
theorem dX5_status_28 : decode cX5_status 28 = .ok (.aload_n 0, 1) := by decide +kernel
theorem dX5_status_29 : decode cX5_status 29 = .ok (.getfield 13, 3) := by decide +kernel
theorem dX5_status_32 : decode cX5_status 32 = .ok (.iload_n 3, 1) := by decide +kernel
theorem dX5_status_33 : decode cX5_status 33 = .ok (.iaload, 1) := by decide +kernel
theorem dX5_status_34 : decode cX5_status 34 = .ok (.iadd, 1) := by decide +kernel
theorem dX5_status_35 : decode cX5_status 35 = .ok (.istore_n 2, 1) := by decide +kernel
theorem dX5_status_36 : decode cX5_status 36 = .ok (.iinc 3 1, 3) := by decide +kernel
theorem dX5_status_39 : decode cX5_status 39 = .ok (.goto (-18), 3) := by decide +kernel
theorem dX5_status_42 : decode cX5_status 42 = .ok (.iload_n 1, 1) := by decide +kernel
theorem dX5_status_43 : decode cX5_status 43 = .ok (.ifCond .ge 7, 3) := by decide +kernel
theorem dX5_status_46 : decode cX5_status 46 = .ok (.iload_n 2, 1) := by decide +kernel
theorem dX5_status_47 : decode cX5_status 47 = .ok (.goto 17, 3) := by decide +kernel
theorem dX5_status_50 : decode cX5_status 50 = .ok (.aload_n 0, 1) := by decide +kernel
theorem dX5_status_51 : decode cX5_status 51 = .ok (.getfield 13, 3) := by decide +kernel
theorem dX5_status_54 : decode cX5_status 54 = .ok (.iload_n 1, 1) := by decide +kernel
theorem dX5_status_55 : decode cX5_status 55 = .ok (.ifCond .ge 7, 3) := by decide +kernel
theorem dX5_status_58 : decode cX5_status 58 = .ok (.iconst 0, 1) := by decide +kernel
theorem dX5_status_59 : decode cX5_status 59 = .ok (.goto 4, 3) := by decide +kernel
theorem dX5_status_62 : decode cX5_status 62 = .ok (.iload_n 1, 1) := by decide +kernel
theorem dX5_status_63 : decode cX5_status 63 = .ok (.iaload, 1) := by decide +kernel
theorem dX5_status_64 : decode cX5_status 64 = .ok (.ireturn, 1) := by decide +kernel
