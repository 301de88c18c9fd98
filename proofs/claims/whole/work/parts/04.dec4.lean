theorem dX4_init_0 : decode cX4_init 0 = .ok (.aload_n 0, 1) := by decide +kernel
theorem dX4_init_1 : decode cX4_init 1 = .ok (.invokespecial 1, 3) := by decide +kernel
theorem dX4_init_4 : decode cX4_init 4 = .ok (.aload_n 0, 1) := by decide +kernel
theorem dX4_init_5 : decode cX4_init 5 = .ok (.bipush 7, 2) := by decide +kernel
theorem dX4_init_7 : decode cX4_init 7 = .ok (.newarray .int, 2) := by decide +kernel
theorem dX4_init_9 : decode cX4_init 9 = .ok (.putfield 9, 3) := by decide +kernel
theorem dX4_init_12 : decode cX4_init 12 = .ok (.aload_n 0, 1) := by decide +kernel
theorem dX4_init_13 : decode cX4_init 13 = .ok (.new 13, 3) := by decide +kernel
theorem dX4_init_16 : decode cX4_init 16 = .ok (.dup, 1) := by decide +kernel
theorem dX4_init_17 : decode cX4_init 17 = .ok (.invokespecial 15, 3) := by decide +kernel
theorem dX4_init_20 : decode cX4_init 20 = .ok (.putfield 16, 3) := by decide +kernel
theorem dX4_init_23 : decode cX4_init 23 = .ok (.aload_n 0, 1) := by decide +kernel
theorem dX4_init_24 : decode cX4_init 24 = .ok (.new 13, 3) := by decide +kernel
theorem dX4_init_27 : decode cX4_init 27 = .ok (.dup, 1) := by decide +kernel
theorem dX4_init_28 : decode cX4_init 28 = .ok (.invokespecial 15, 3) := by decide +kernel
theorem dX4_init_31 : decode cX4_init 31 = .ok (.putfield 20, 3) := by decide +kernel
theorem dX4_init_34 : decode cX4_init 34 = .ok (.aload_n 0, 1) := by decide +kernel
theorem dX4_init_35 : decode cX4_init 35 = .ok (.new 13, 3) := by decide +kernel
theorem dX4_init_38 : decode cX4_init 38 = .ok (.dup, 1) := by decide +kernel
theorem dX4_init_39 : decode cX4_init 39 = .ok (.invokespecial 15, 3) := by decide +kernel
theorem dX4_init_42 : decode cX4_init 42 = .ok (.putfield 23, 3) := by decide +kernel
theorem dX4_init_45 : decode cX4_init 45 = .ok (.aload_n 0, 1) := by decide +kernel
theorem dX4_init_46 : decode cX4_init 46 = .ok (.iconst 0, 1) := by decide +kernel
theorem dX4_init_47 : decode cX4_init 47 = .ok (.putfield 26, 3) := by decide +kernel
theorem dX4_init_50 : decode cX4_init 50 = .ok (.aload_n 0, 1) := by decide +kernel
theorem dX4_init_51 : decode cX4_init 51 = .ok (.new 30, 3) := by decide +kernel
theorem dX4_init_54 : decode cX4_init 54 = .ok (.dup, 1) := by decide +kernel
theorem dX4_init_55 : decode cX4_init 55 = .ok (.invokespecial 32, 3) := by decide +kernel
theorem dX4_init_58 : decode cX4_init 58 = .ok (.putfield 33, 3) := by decide +kernel
theorem dX4_init_61 : decode cX4_init 61 = .ok (.aload_n 0, 1) := by decide +kernel
theorem dX4_init_62 : decode cX4_init 62 = .ok (.iconst 4, 1) := by decide +kernel
theorem dX4_init_63 : decode cX4_init 63 = .ok (.anewarray 37, 3) := by decide +kernel
theorem dX4_init_66 : decode cX4_init 66 = .ok (.putfield 39, 3) := by decide +kernel
theorem dX4_init_69 : decode cX4_init 69 = .ok (.iconst 0, 1) := by decide +kernel
theorem dX4_init_70 : decode cX4_init 70 = .ok (.istore_n 1, 1) := by decide +kernel
theorem dX4_init_71 : decode cX4_init 71 = .ok (.iload_n 1, 1) := by decide +kernel
theorem dX4_init_72 : decode cX4_init 72 = .ok (.iconst 4, 1) := by decide +kernel
theorem dX4_init_73 : decode cX4_init 73 = .ok (.if_icmp .ge 22, 3) := by decide +kernel
theorem dX4_init_76 : decode cX4_init 76 = .ok (.aload_n 0, 1) := by decide +kernel
theorem dX4_init_77 : decode cX4_init 77 = .ok (.getfield 39, 3) := by decide +kernel
theorem dX4_init_80 : decode cX4_init 80 = .ok (.iload_n 1, 1) := by decide +kernel
theorem dX4_init_81 : decode cX4_init 81 = .ok (.new 37, 3) := by decide +kernel
theorem dX4_init_84 : decode cX4_init 84 = .ok (.dup, 1) := by decide +kernel
theorem dX4_init_85 : decode cX4_init 85 = .ok (.invokespecial 43, 3) := by decide +kernel
theorem dX4_init_88 : decode cX4_init 88 = .ok (.aastore, 1) := by decide +kernel
theorem dX4_init_89 : decode cX4_init 89 = .ok (.iinc 1 1, 3) := by decide +kernel
theorem dX4_init_92 : decode cX4_init 92 = .ok (.goto (-21), 3) := by decide +kernel
theorem dX4_init_95 : decode cX4_init 95 = .ok (.return_, 1) := by decide +kernel
theorem dX4_person_0 : decode cX4_person 0 = .ok (.iload_n 1, 1) := by decide +kernel
theorem dX4_person_1 : decode cX4_person 1 = .ok (.invokestatic 44, 3) := by decide +kernel
theorem dX4_person_4 : decode cX4_person 4 = .ok (.ifCond .ne 10, 3) := by decide +kernel
theorem dX4_person_7 : decode cX4_person 7 = .ok (.aload_n 0, 1) := by decide +kernel
theorem dX4_person_8 : decode cX4_person 8 = .ok (.ldc 48, 2) := by decide +kernel
theorem dX4_person_10 : decode cX4_person 10 = .ok (.invokevirtual 49, 3) := by decide +kernel
theorem dX4_person_13 : decode cX4_person 13 = .ok (.ireturn, 1) := by decide +kernel
theorem dX4_person_14 : decode cX4_person 14 = .ok (.aload_n 0, 1) := by decide +kernel
theorem dX4_person_15 : decode cX4_person 15 = .ok (.getfield 16, 3) := by decide +kernel
theorem dX4_person_18 : decode cX4_person 18 = .ok (.getfield 53, 3) := by decide +kernel
theorem dX4_person_21 : decode cX4_person 21 = .ok (.bipush 10, 2) := by decide +kernel
theorem dX4_person_23 : decode cX4_person 23 = .ok (.if_icmp .lt 10, 3) := by decide +kernel
theorem dX4_person_26 : decode cX4_person 26 = .ok (.aload_n 0, 1) := by decide +kernel
theorem dX4_person_27 : decode cX4_person 27 = .ok (.ldc 57, 2) := by decide +kernel
theorem dX4_person_29 : decode cX4_person 29 = .ok (.invokevirtual 49, 3) := by decide +kernel
theorem dX4_person_32 : decode cX4_person 32 = .ok (.ireturn, 1) := by decide +kernel
theorem dX4_person_33 : decode cX4_person 33 = .ok (.aload_n 0, 1) := by decide +kernel
theorem dX4_person_34 : decode cX4_person 34 = .ok (.getfield 16, 3) := by decide +kernel
theorem dX4_person_37 : decode cX4_person 37 = .ok (.iload_n 1, 1) := by decide +kernel
theorem dX4_person_38 : decode cX4_person 38 = .ok (.invokevirtual 58, 3) := by decide +kernel
theorem dX4_person_41 : decode cX4_person 41 = .ok (.ireturn, 1) := by decide +kernel
theorem dX4_of_0 : decode cX4_of 0 = .ok (.aload_n 0, 1) := by decide +kernel
theorem dX4_of_1 : decode cX4_of 1 = .ok (.getfield 16, 3) := by decide +kernel
theorem dX4_of_4 : decode cX4_of 4 = .ok (.iload_n 1, 1) := by decide +kernel
theorem dX4_of_5 : decode cX4_of 5 = .ok (.invokevirtual 61, 3) := by decide +kernel
theorem dX4_of_8 : decode cX4_of 8 = .ok (.ifCond .ne 10, 3) := by decide +kernel
theorem dX4_of_11 : decode cX4_of 11 = .ok (.aload_n 0, 1) := by decide +kernel
theorem dX4_of_12 : decode cX4_of 12 = .ok (.ldc 48, 2) := by decide +kernel
theorem dX4_of_14 : decode cX4_of 14 = .ok (.invokevirtual 49, 3) := by decide +kernel
theorem dX4_of_17 : decode cX4_of 17 = .ok (.ireturn, 1) := by decide +kernel
theorem dX4_of_18 : decode cX4_of 18 = .ok (.aload_n 0, 1) := by decide +kernel
theorem dX4_of_19 : decode cX4_of 19 = .ok (.getfield 16, 3) := by decide +kernel
theorem dX4_of_22 : decode cX4_of 22 = .ok (.getfield 64, 3) := by decide +kernel
theorem dX4_of_25 : decode cX4_of 25 = .ok (.iload_n 1, 1) := by decide +kernel
theorem dX4_of_26 : decode cX4_of 26 = .ok (.aaload, 1) := by decide +kernel
theorem dX4_of_27 : decode cX4_of 27 = .ok (.astore_n 3, 1) := by decide +kernel
theorem dX4_of_28 : decode cX4_of 28 = .ok (.iload_n 2, 1) := by decide +kernel
theorem dX4_of_29 : decode cX4_of 29 = .ok (.tableswitch 118 0 9 #[55, 60, 65, 70, 75, 80, 85, 90, 99, 109], 55) := by decide +kernel
theorem dX4_of_84 : decode cX4_of 84 = .ok (.aload_n 3, 1) := by decide +kernel
theorem dX4_of_85 : decode cX4_of 85 = .ok (.getfield 68, 3) := by decide +kernel
theorem dX4_of_88 : decode cX4_of 88 = .ok (.ireturn, 1) := by decide +kernel
theorem dX4_of_89 : decode cX4_of 89 = .ok (.aload_n 3, 1) := by decide +kernel
theorem dX4_of_90 : decode cX4_of 90 = .ok (.getfield 73, 3) := by decide +kernel
theorem dX4_of_93 : decode cX4_of 93 = .ok (.ireturn, 1) := by decide +kernel
theorem dX4_of_94 : decode cX4_of 94 = .ok (.aload_n 3, 1) := by decide +kernel
theorem dX4_of_95 : decode cX4_of 95 = .ok (.getfield 76, 3) := by decide +kernel
theorem dX4_of_98 : decode cX4_of 98 = .ok (.ireturn, 1) := by decide +kernel
theorem dX4_of_99 : decode cX4_of 99 = .ok (.aload_n 3, 1) := by decide +kernel
theorem dX4_of_100 : decode cX4_of 100 = .ok (.getfield 79, 3) := by decide +kernel
theorem dX4_of_103 : decode cX4_of 103 = .ok (.ireturn, 1) := by decide +kernel
theorem dX4_of_104 : decode cX4_of 104 = .ok (.aload_n 3, 1) := by decide +kernel
theorem dX4_of_105 : decode cX4_of 105 = .ok (.getfield 82, 3) := by decide +kernel
theorem dX4_of_108 : decode cX4_of 108 = .ok (.ireturn, 1) := by decide +kernel
theorem dX4_of_109 : decode cX4_of 109 = .ok (.aload_n 3, 1) := by decide +kernel
theorem dX4_of_110 : decode cX4_of 110 = .ok (.getfield 85, 3) := by decide +kernel
theorem dX4_of_113 : decode cX4_of 113 = .ok (.ireturn, 1) := by decide +kernel
theorem dX4_of_114 : decode cX4_of 114 = .ok (.aload_n 3, 1) := by decide +kernel
theorem dX4_of_115 : decode cX4_of 115 = .ok (.getfield 88, 3) := by decide +kernel
theorem dX4_of_118 : decode cX4_of 118 = .ok (.ireturn, 1) := by decide +kernel
theorem dX4_of_119 : decode cX4_of 119 = .ok (.aload_n 0, 1) := by decide +kernel
theorem dX4_of_120 : decode cX4_of 120 = .ok (.getfield 16, 3) := by decide +kernel
theorem dX4_of_123 : decode cX4_of 123 = .ok (.iload_n 1, 1) := by decide +kernel
theorem dX4_of_124 : decode cX4_of 124 = .ok (.invokevirtual 91, 3) := by decide +kernel
theorem dX4_of_127 : decode cX4_of 127 = .ok (.ireturn, 1) := by decide +kernel
theorem dX4_of_128 : decode cX4_of 128 = .ok (.aload_n 0, 1) := by decide +kernel
theorem dX4_of_129 : decode cX4_of 129 = .ok (.getfield 16, 3) := by decide +kernel
theorem dX4_of_132 : decode cX4_of 132 = .ok (.iload_n 1, 1) := by decide +kernel
theorem dX4_of_133 : decode cX4_of 133 = .ok (.iload_n 1, 1) := by decide +kernel
theorem dX4_of_134 : decode cX4_of 134 = .ok (.invokevirtual 94, 3) := by decide +kernel
theorem dX4_of_137 : decode cX4_of 137 = .ok (.ireturn, 1) := by decide +kernel
theorem dX4_of_138 : decode cX4_of 138 = .ok (.aload_n 0, 1) := by decide +kernel
theorem dX4_of_139 : decode cX4_of 139 = .ok (.getfield 16, 3) := by decide +kernel
theorem dX4_of_142 : decode cX4_of 142 = .ok (.iload_n 1, 1) := by decide +kernel
theorem dX4_of_143 : decode cX4_of 143 = .ok (.invokevirtual 98, 3) := by decide +kernel
theorem dX4_of_146 : decode cX4_of 146 = .ok (.ireturn, 1) := by decide +kernel
theorem dX4_of_147 : decode cX4_of 147 = .ok (.aload_n 0, 1) := by decide +kernel
theorem dX4_of_148 : decode cX4_of 148 = .ok (.ldc 48, 2) := by decide +kernel
theorem dX4_of_150 : decode cX4_of 150 = .ok (.invokevirtual 49, 3) := by decide +kernel
theorem dX4_of_153 : decode cX4_of 153 = .ok (.ireturn, 1) := by decide +kernel
theorem dX4_set_0 : decode cX4_set 0 = .ok (.aload_n 0, 1) := by decide +kernel
theorem dX4_set_1 : decode cX4_set 1 = .ok (.getfield 16, 3) := by decide +kernel
theorem dX4_set_4 : decode cX4_set 4 = .ok (.iload_n 1, 1) := by decide +kernel
theorem dX4_set_5 : decode cX4_set 5 = .ok (.invokevirtual 61, 3) := by decide +kernel
theorem dX4_set_8 : decode cX4_set 8 = .ok (.ifCond .eq 11, 3) := by decide +kernel
theorem dX4_set_11 : decode cX4_set 11 = .ok (.iload_n 2, 1) := by decide +kernel
theorem dX4_set_12 : decode cX4_set 12 = .ok (.iload_n 3, 1) := by decide +kernel
theorem dX4_set_13 : decode cX4_set 13 = .ok (.invokestatic 101, 3) := by decide +kernel
theorem dX4_set_16 : decode cX4_set 16 = .ok (.ifCond .ne 10, 3) := by decide +kernel
theorem dX4_set_19 : decode cX4_set 19 = .ok (.aload_n 0, 1) := by decide +kernel
theorem dX4_set_20 : decode cX4_set 20 = .ok (.ldc 48, 2) := by decide +kernel
theorem dX4_set_22 : decode cX4_set 22 = .ok (.invokevirtual 49, 3) := by decide +kernel
theorem dX4_set_25 : decode cX4_set 25 = .ok (.ireturn, 1) := by decide +kernel
theorem dX4_set_26 : decode cX4_set 26 = .ok (.aload_n 0, 1) := by decide +kernel
theorem dX4_set_27 : decode cX4_set 27 = .ok (.getfield 16, 3) := by decide +kernel
theorem dX4_set_30 : decode cX4_set 30 = .ok (.getfield 64, 3) := by decide +kernel
theorem dX4_set_33 : decode cX4_set 33 = .ok (.iload_n 1, 1) := by decide +kernel
theorem dX4_set_34 : decode cX4_set 34 = .ok (.aaload, 1) := by decide +kernel
theorem dX4_set_35 : decode cX4_set 35 = .ok (.astore 4, 2) := by decide +kernel
theorem dX4_set_37 : decode cX4_set 37 = .ok (.iload_n 2, 1) := by decide +kernel
theorem dX4_set_38 : decode cX4_set 38 = .ok (.lookupswitch 58 #[(1, 26), (2, 42)], 26) := by decide +kernel
theorem dX4_set_64 : decode cX4_set 64 = .ok (.aload 4, 2) := by decide +kernel
theorem dX4_set_66 : decode cX4_set 66 = .ok (.getfield 73, 3) := by decide +kernel
theorem dX4_set_69 : decode cX4_set 69 = .ok (.istore 5, 2) := by decide +kernel
theorem dX4_set_71 : decode cX4_set 71 = .ok (.aload 4, 2) := by decide +kernel
theorem dX4_set_73 : decode cX4_set 73 = .ok (.iload_n 3, 1) := by decide +kernel
theorem dX4_set_74 : decode cX4_set 74 = .ok (.putfield 73, 3) := by decide +kernel
theorem dX4_set_77 : decode cX4_set 77 = .ok (.iload 5, 2) := by decide +kernel
theorem dX4_set_79 : decode cX4_set 79 = .ok (.ireturn, 1) := by decide +kernel
theorem dX4_set_80 : decode cX4_set 80 = .ok (.aload 4, 2) := by decide +kernel
theorem dX4_set_82 : decode cX4_set 82 = .ok (.getfield 76, 3) := by decide +kernel
theorem dX4_set_85 : decode cX4_set 85 = .ok (.istore 5, 2) := by decide +kernel
theorem dX4_set_87 : decode cX4_set 87 = .ok (.aload 4, 2) := by decide +kernel
theorem dX4_set_89 : decode cX4_set 89 = .ok (.iload_n 3, 1) := by decide +kernel
theorem dX4_set_90 : decode cX4_set 90 = .ok (.putfield 76, 3) := by decide +kernel
theorem dX4_set_93 : decode cX4_set 93 = .ok (.iload 5, 2) := by decide +kernel
theorem dX4_set_95 : decode cX4_set 95 = .ok (.ireturn, 1) := by decide +kernel
theorem dX4_set_96 : decode cX4_set 96 = .ok (.aload 4, 2) := by decide +kernel
theorem dX4_set_98 : decode cX4_set 98 = .ok (.getfield 79, 3) := by decide +kernel
theorem dX4_set_101 : decode cX4_set 101 = .ok (.istore 5, 2) := by decide +kernel
theorem dX4_set_103 : decode cX4_set 103 = .ok (.aload 4, 2) := by decide +kernel
theorem dX4_set_105 : decode cX4_set 105 = .ok (.iload_n 3, 1) := by decide +kernel
theorem dX4_set_106 : decode cX4_set 106 = .ok (.putfield 79, 3) := by decide +kernel
theorem dX4_set_109 : decode cX4_set 109 = .ok (.iload 5, 2) := by decide +kernel
theorem dX4_set_111 : decode cX4_set 111 = .ok (.ireturn, 1) := by decide +kernel
theorem dX4_turn_0 : decode cX4_turn 0 = .ok (.aload_n 0, 1) := by decide +kernel
theorem dX4_turn_1 : decode cX4_turn 1 = .ok (.getfield 16, 3) := by decide +kernel
theorem dX4_turn_4 : decode cX4_turn 4 = .ok (.iload_n 1, 1) := by decide +kernel
theorem dX4_turn_5 : decode cX4_turn 5 = .ok (.invokevirtual 61, 3) := by decide +kernel
theorem dX4_turn_8 : decode cX4_turn 8 = .ok (.ifCond .eq 10, 3) := by decide +kernel
theorem dX4_turn_11 : decode cX4_turn 11 = .ok (.iload_n 2, 1) := by decide +kernel
theorem dX4_turn_12 : decode cX4_turn 12 = .ok (.invokestatic 44, 3) := by decide +kernel
theorem dX4_turn_15 : decode cX4_turn 15 = .ok (.ifCond .ne 10, 3) := by decide +kernel
theorem dX4_turn_18 : decode cX4_turn 18 = .ok (.aload_n 0, 1) := by decide +kernel
theorem dX4_turn_19 : decode cX4_turn 19 = .ok (.ldc 48, 2) := by decide +kernel
theorem dX4_turn_21 : decode cX4_turn 21 = .ok (.invokevirtual 49, 3) := by decide +kernel
theorem dX4_turn_24 : decode cX4_turn 24 = .ok (.ireturn, 1) := by decide +kernel
theorem dX4_turn_25 : decode cX4_turn 25 = .ok (.aload_n 0, 1) := by decide +kernel
theorem dX4_turn_26 : decode cX4_turn 26 = .ok (.getfield 16, 3) := by decide +kernel
theorem dX4_turn_29 : decode cX4_turn 29 = .ok (.getfield 64, 3) := by decide +kernel
theorem dX4_turn_32 : decode cX4_turn 32 = .ok (.iload_n 1, 1) := by decide +kernel
theorem dX4_turn_33 : decode cX4_turn 33 = .ok (.aaload, 1) := by decide +kernel
theorem dX4_turn_34 : decode cX4_turn 34 = .ok (.getfield 68, 3) := by decide +kernel
theorem dX4_turn_37 : decode cX4_turn 37 = .ok (.istore_n 3, 1) := by decide +kernel
theorem dX4_turn_38 : decode cX4_turn 38 = .ok (.aload_n 0, 1) := by decide +kernel
theorem dX4_turn_39 : decode cX4_turn 39 = .ok (.getfield 16, 3) := by decide +kernel
theorem dX4_turn_42 : decode cX4_turn 42 = .ok (.getfield 64, 3) := by decide +kernel
theorem dX4_turn_45 : decode cX4_turn 45 = .ok (.iload_n 1, 1) := by decide +kernel
theorem dX4_turn_46 : decode cX4_turn 46 = .ok (.aaload, 1) := by decide +kernel
theorem dX4_turn_47 : decode cX4_turn 47 = .ok (.iload_n 2, 1) := by decide +kernel
theorem dX4_turn_48 : decode cX4_turn 48 = .ok (.putfield 68, 3) := by decide +kernel
theorem dX4_turn_51 : decode cX4_turn 51 = .ok (.iload_n 3, 1) := by decide +kernel
theorem dX4_turn_52 : decode cX4_turn 52 = .ok (.ireturn, 1) := by decide +kernel
theorem dX4_as_0 : decode cX4_as 0 = .ok (.aload_n 0, 1) := by decide +kernel
theorem dX4_as_1 : decode cX4_as 1 = .ok (.getfield 16, 3) := by decide +kernel
theorem dX4_as_4 : decode cX4_as 4 = .ok (.iload_n 1, 1) := by decide +kernel
theorem dX4_as_5 : decode cX4_as 5 = .ok (.invokevirtual 61, 3) := by decide +kernel
theorem dX4_as_8 : decode cX4_as 8 = .ok (.ifCond .eq 10, 3) := by decide +kernel
theorem dX4_as_11 : decode cX4_as 11 = .ok (.iload_n 2, 1) := by decide +kernel
theorem dX4_as_12 : decode cX4_as 12 = .ok (.invokestatic 44, 3) := by decide +kernel
theorem dX4_as_15 : decode cX4_as 15 = .ok (.ifCond .ne 10, 3) := by decide +kernel
theorem dX4_as_18 : decode cX4_as 18 = .ok (.aload_n 0, 1) := by decide +kernel
theorem dX4_as_19 : decode cX4_as 19 = .ok (.ldc 48, 2) := by decide +kernel
theorem dX4_as_21 : decode cX4_as 21 = .ok (.invokevirtual 49, 3) := by decide +kernel
theorem dX4_as_24 : decode cX4_as 24 = .ok (.ireturn, 1) := by decide +kernel
theorem dX4_as_25 : decode cX4_as 25 = .ok (.aload_n 0, 1) := by decide +kernel
theorem dX4_as_26 : decode cX4_as 26 = .ok (.getfield 16, 3) := by decide +kernel
theorem dX4_as_29 : decode cX4_as 29 = .ok (.getfield 64, 3) := by decide +kernel
theorem dX4_as_32 : decode cX4_as 32 = .ok (.iload_n 1, 1) := by decide +kernel
theorem dX4_as_33 : decode cX4_as 33 = .ok (.aaload, 1) := by decide +kernel
theorem dX4_as_34 : decode cX4_as 34 = .ok (.getfield 68, 3) := by decide +kernel
theorem dX4_as_37 : decode cX4_as 37 = .ok (.iload_n 2, 1) := by decide +kernel
theorem dX4_as_38 : decode cX4_as 38 = .ok (.invokestatic 105, 3) := by decide +kernel
theorem dX4_as_41 : decode cX4_as 41 = .ok (.ifCond .ne 10, 3) := by decide +kernel
theorem dX4_as_44 : decode cX4_as 44 = .ok (.aload_n 0, 1) := by decide +kernel
theorem dX4_as_45 : decode cX4_as 45 = .ok (.ldc 108, 2) := by decide +kernel
theorem dX4_as_47 : decode cX4_as 47 = .ok (.invokevirtual 49, 3) := by decide +kernel
theorem dX4_as_50 : decode cX4_as 50 = .ok (.ireturn, 1) := by decide +kernel
theorem dX4_as_51 : decode cX4_as 51 = .ok (.aload_n 0, 1) := by decide +kernel
theorem dX4_as_52 : decode cX4_as 52 = .ok (.getfield 16, 3) := by decide +kernel
theorem dX4_as_55 : decode cX4_as 55 = .ok (.getfield 64, 3) := by decide +kernel
theorem dX4_as_58 : decode cX4_as 58 = .ok (.iload_n 1, 1) := by decide +kernel
theorem dX4_as_59 : decode cX4_as 59 = .ok (.aaload, 1) := by decide +kernel
theorem dX4_as_60 : decode cX4_as 60 = .ok (.getfield 76, 3) := by decide +kernel
theorem dX4_as_63 : decode cX4_as 63 = .ok (.ireturn, 1) := by decide +kernel
theorem dX4_move_0 : decode cX4_move 0 = .ok (.aload_n 0, 1) := by decide +kernel
theorem dX4_move_1 : decode cX4_move 1 = .ok (.getfield 16, 3) := by decide +kernel
theorem dX4_move_4 : decode cX4_move 4 = .ok (.iload_n 1, 1) := by decide +kernel
theorem dX4_move_5 : decode cX4_move 5 = .ok (.invokevirtual 61, 3) := by decide +kernel
theorem dX4_move_8 : decode cX4_move 8 = .ok (.ifCond .eq 14, 3) := by decide +kernel
theorem dX4_move_11 : decode cX4_move 11 = .ok (.aload_n 0, 1) := by decide +kernel
theorem dX4_move_12 : decode cX4_move 12 = .ok (.getfield 16, 3) := by decide +kernel
theorem dX4_move_15 : decode cX4_move 15 = .ok (.iload_n 2, 1) := by decide +kernel
theorem dX4_move_16 : decode cX4_move 16 = .ok (.invokevirtual 61, 3) := by decide +kernel
theorem dX4_move_19 : decode cX4_move 19 = .ok (.ifCond .ne 10, 3) := by decide +kernel
theorem dX4_move_22 : decode cX4_move 22 = .ok (.aload_n 0, 1) := by decide +kernel
theorem dX4_move_23 : decode cX4_move 23 = .ok (.ldc 48, 2) := by decide +kernel
theorem dX4_move_25 : decode cX4_move 25 = .ok (.invokevirtual 49, 3) := by decide +kernel
theorem dX4_move_28 : decode cX4_move 28 = .ok (.ireturn, 1) := by decide +kernel
theorem dX4_move_29 : decode cX4_move 29 = .ok (.aload_n 0, 1) := by decide +kernel
theorem dX4_move_30 : decode cX4_move 30 = .ok (.getfield 16, 3) := by decide +kernel
theorem dX4_move_33 : decode cX4_move 33 = .ok (.iload_n 1, 1) := by decide +kernel
theorem dX4_move_34 : decode cX4_move 34 = .ok (.iload_n 2, 1) := by decide +kernel
theorem dX4_move_35 : decode cX4_move 35 = .ok (.invokevirtual 109, 3) := by decide +kernel
theorem dX4_move_38 : decode cX4_move 38 = .ok (.iload_n 1, 1) := by decide +kernel
theorem dX4_move_39 : decode cX4_move 39 = .ok (.iload_n 2, 1) := by decide +kernel
theorem dX4_move_40 : decode cX4_move 40 = .ok (.isub, 1) := by decide +kernel
theorem dX4_move_41 : decode cX4_move 41 = .ok (.invokestatic 113, 3) := by decide +kernel
theorem dX4_move_44 : decode cX4_move 44 = .ok (.ireturn, 1) := by decide +kernel
theorem dX4_leave_0 : decode cX4_leave 0 = .ok (.aload_n 0, 1) := by decide +kernel
theorem dX4_leave_1 : decode cX4_leave 1 = .ok (.getfield 16, 3) := by decide +kernel
theorem dX4_leave_4 : decode cX4_leave 4 = .ok (.iload_n 1, 1) := by decide +kernel
theorem dX4_leave_5 : decode cX4_leave 5 = .ok (.invokevirtual 61, 3) := by decide +kernel
theorem dX4_leave_8 : decode cX4_leave 8 = .ok (.ifCond .ne 10, 3) := by decide +kernel
theorem dX4_leave_11 : decode cX4_leave 11 = .ok (.aload_n 0, 1) := by decide +kernel
theorem dX4_leave_12 : decode cX4_leave 12 = .ok (.ldc 48, 2) := by decide +kernel
theorem dX4_leave_14 : decode cX4_leave 14 = .ok (.invokevirtual 49, 3) := by decide +kernel
theorem dX4_leave_17 : decode cX4_leave 17 = .ok (.ireturn, 1) := by decide +kernel
theorem dX4_leave_18 : decode cX4_leave 18 = .ok (.aload_n 0, 1) := by decide +kernel
theorem dX4_leave_19 : decode cX4_leave 19 = .ok (.getfield 16, 3) := by decide +kernel
theorem dX4_leave_22 : decode cX4_leave 22 = .ok (.getfield 64, 3) := by decide +kernel
theorem dX4_leave_25 : decode cX4_leave 25 = .ok (.iload_n 1, 1) := by decide +kernel
theorem dX4_leave_26 : decode cX4_leave 26 = .ok (.aaload, 1) := by decide +kernel
theorem dX4_leave_27 : decode cX4_leave 27 = .ok (.getfield 85, 3) := by decide +kernel
theorem dX4_leave_30 : decode cX4_leave 30 = .ok (.istore_n 2, 1) := by decide +kernel
theorem dX4_leave_31 : decode cX4_leave 31 = .ok (.aload_n 0, 1) := by decide +kernel
theorem dX4_leave_32 : decode cX4_leave 32 = .ok (.getfield 16, 3) := by decide +kernel
theorem dX4_leave_35 : decode cX4_leave 35 = .ok (.iload_n 1, 1) := by decide +kernel
theorem dX4_leave_36 : decode cX4_leave 36 = .ok (.invokevirtual 118, 3) := by decide +kernel
theorem dX4_leave_39 : decode cX4_leave 39 = .ok (.iload_n 2, 1) := by decide +kernel
theorem dX4_leave_40 : decode cX4_leave 40 = .ok (.ireturn, 1) := by decide +kernel
theorem dX4_coins_0 : decode cX4_coins 0 = .ok (.iload_n 1, 1) := by decide +kernel
theorem dX4_coins_1 : decode cX4_coins 1 = .ok (.iconst 0, 1) := by decide +kernel
theorem dX4_coins_2 : decode cX4_coins 2 = .ok (.sipush 999, 3) := by decide +kernel
theorem dX4_coins_5 : decode cX4_coins 5 = .ok (.invokestatic 122, 3) := by decide +kernel
theorem dX4_coins_8 : decode cX4_coins 8 = .ok (.ifCond .ne 10, 3) := by decide +kernel
theorem dX4_coins_11 : decode cX4_coins 11 = .ok (.aload_n 0, 1) := by decide +kernel
theorem dX4_coins_12 : decode cX4_coins 12 = .ok (.ldc 48, 2) := by decide +kernel
theorem dX4_coins_14 : decode cX4_coins 14 = .ok (.invokevirtual 49, 3) := by decide +kernel
theorem dX4_coins_17 : decode cX4_coins 17 = .ok (.ireturn, 1) := by decide +kernel
theorem dX4_coins_18 : decode cX4_coins 18 = .ok (.aload_n 0, 1) := by decide +kernel
theorem dX4_coins_19 : decode cX4_coins 19 = .ok (.getfield 16, 3) := by decide +kernel
theorem dX4_coins_22 : decode cX4_coins 22 = .ok (.getfield 126, 3) := by decide +kernel
theorem dX4_coins_25 : decode cX4_coins 25 = .ok (.istore_n 2, 1) := by decide +kernel
theorem dX4_coins_26 : decode cX4_coins 26 = .ok (.aload_n 0, 1) := by decide +kernel
theorem dX4_coins_27 : decode cX4_coins 27 = .ok (.getfield 16, 3) := by decide +kernel
theorem dX4_coins_30 : decode cX4_coins 30 = .ok (.iload_n 1, 1) := by decide +kernel
theorem dX4_coins_31 : decode cX4_coins 31 = .ok (.putfield 126, 3) := by decide +kernel
theorem dX4_coins_34 : decode cX4_coins 34 = .ok (.iload_n 2, 1) := by decide +kernel
theorem dX4_coins_35 : decode cX4_coins 35 = .ok (.ireturn, 1) := by decide +kernel
theorem dX4_law_0 : decode cX4_law 0 = .ok (.iload_n 1, 1) := by decide +kernel
theorem dX4_law_1 : decode cX4_law 1 = .ok (.iconst 0, 1) := by decide +kernel
theorem dX4_law_2 : decode cX4_law 2 = .ok (.iconst 2, 1) := by decide +kernel
theorem dX4_law_3 : decode cX4_law 3 = .ok (.invokestatic 122, 3) := by decide +kernel
theorem dX4_law_6 : decode cX4_law 6 = .ok (.ifCond .ne 10, 3) := by decide +kernel
theorem dX4_law_9 : decode cX4_law 9 = .ok (.aload_n 0, 1) := by decide +kernel
theorem dX4_law_10 : decode cX4_law 10 = .ok (.ldc 48, 2) := by decide +kernel
theorem dX4_law_12 : decode cX4_law 12 = .ok (.invokevirtual 49, 3) := by decide +kernel
theorem dX4_law_15 : decode cX4_law 15 = .ok (.ireturn, 1) := by decide +kernel
theorem dX4_law_16 : decode cX4_law 16 = .ok (.aload_n 0, 1) := by decide +kernel
theorem dX4_law_17 : decode cX4_law 17 = .ok (.getfield 16, 3) := by decide +kernel
theorem dX4_law_20 : decode cX4_law 20 = .ok (.getfield 129, 3) := by decide +kernel
theorem dX4_law_23 : decode cX4_law 23 = .ok (.istore_n 2, 1) := by decide +kernel
theorem dX4_law_24 : decode cX4_law 24 = .ok (.aload_n 0, 1) := by decide +kernel
theorem dX4_law_25 : decode cX4_law 25 = .ok (.getfield 16, 3) := by decide +kernel
theorem dX4_law_28 : decode cX4_law 28 = .ok (.iload_n 1, 1) := by decide +kernel
theorem dX4_law_29 : decode cX4_law 29 = .ok (.putfield 129, 3) := by decide +kernel
theorem dX4_law_32 : decode cX4_law 32 = .ok (.iload_n 2, 1) := by decide +kernel
theorem dX4_law_33 : decode cX4_law 33 = .ok (.ireturn, 1) := by decide +kernel
theorem dX4_diver_0 : decode cX4_diver 0 = .ok (.iload_n 2, 1) := by decide +kernel
theorem dX4_diver_1 : decode cX4_diver 1 = .ok (.bipush (-20), 2) := by decide +kernel
theorem dX4_diver_3 : decode cX4_diver 3 = .ok (.bipush 20, 2) := by decide +kernel
theorem dX4_diver_5 : decode cX4_diver 5 = .ok (.invokestatic 122, 3) := by decide +kernel
theorem dX4_diver_8 : decode cX4_diver 8 = .ok (.ifCond .ne 10, 3) := by decide +kernel
theorem dX4_diver_11 : decode cX4_diver 11 = .ok (.aload_n 0, 1) := by decide +kernel
theorem dX4_diver_12 : decode cX4_diver 12 = .ok (.ldc 48, 2) := by decide +kernel
theorem dX4_diver_14 : decode cX4_diver 14 = .ok (.invokevirtual 49, 3) := by decide +kernel
theorem dX4_diver_17 : decode cX4_diver 17 = .ok (.ireturn, 1) := by decide +kernel
theorem dX4_diver_18 : decode cX4_diver 18 = .ok (.aload_n 0, 1) := by decide +kernel
theorem dX4_diver_19 : decode cX4_diver 19 = .ok (.getfield 16, 3) := by decide +kernel
theorem dX4_diver_22 : decode cX4_diver 22 = .ok (.getfield 132, 3) := by decide +kernel
theorem dX4_diver_25 : decode cX4_diver 25 = .ok (.invokestatic 135, 3) := by decide +kernel
theorem dX4_diver_28 : decode cX4_diver 28 = .ok (.istore_n 3, 1) := by decide +kernel
theorem dX4_diver_29 : decode cX4_diver 29 = .ok (.aload_n 0, 1) := by decide +kernel
theorem dX4_diver_30 : decode cX4_diver 30 = .ok (.getfield 16, 3) := by decide +kernel
theorem dX4_diver_33 : decode cX4_diver 33 = .ok (.iload_n 1, 1) := by decide +kernel
theorem dX4_diver_34 : decode cX4_diver 34 = .ok (.iload_n 2, 1) := by decide +kernel
theorem dX4_diver_35 : decode cX4_diver 35 = .ok (.invokevirtual 139, 3) := by decide +kernel
theorem dX4_diver_38 : decode cX4_diver 38 = .ok (.iload_n 3, 1) := by decide +kernel
theorem dX4_diver_39 : decode cX4_diver 39 = .ok (.ireturn, 1) := by decide +kernel
theorem dX4_hours_0 : decode cX4_hours 0 = .ok (.iload_n 1, 1) := by decide +kernel
theorem dX4_hours_1 : decode cX4_hours 1 = .ok (.iconst 1, 1) := by decide +kernel
theorem dX4_hours_2 : decode cX4_hours 2 = .ok (.sipush 200, 3) := by decide +kernel
theorem dX4_hours_5 : decode cX4_hours 5 = .ok (.invokestatic 122, 3) := by decide +kernel
theorem dX4_hours_8 : decode cX4_hours 8 = .ok (.ifCond .ne 10, 3) := by decide +kernel
theorem dX4_hours_11 : decode cX4_hours 11 = .ok (.aload_n 0, 1) := by decide +kernel
theorem dX4_hours_12 : decode cX4_hours 12 = .ok (.ldc 48, 2) := by decide +kernel
theorem dX4_hours_14 : decode cX4_hours 14 = .ok (.invokevirtual 49, 3) := by decide +kernel
theorem dX4_hours_17 : decode cX4_hours 17 = .ok (.ireturn, 1) := by decide +kernel
theorem dX4_hours_18 : decode cX4_hours 18 = .ok (.aload_n 0, 1) := by decide +kernel
theorem dX4_hours_19 : decode cX4_hours 19 = .ok (.getfield 16, 3) := by decide +kernel
theorem dX4_hours_22 : decode cX4_hours 22 = .ok (.getfield 143, 3) := by decide +kernel
theorem dX4_hours_25 : decode cX4_hours 25 = .ok (.iload_n 1, 1) := by decide +kernel
theorem dX4_hours_26 : decode cX4_hours 26 = .ok (.iadd, 1) := by decide +kernel
theorem dX4_hours_27 : decode cX4_hours 27 = .ok (.sipush 9999, 3) := by decide +kernel
theorem dX4_hours_30 : decode cX4_hours 30 = .ok (.if_icmp .le 10, 3) := by decide +kernel
theorem dX4_hours_33 : decode cX4_hours 33 = .ok (.aload_n 0, 1) := by decide +kernel
theorem dX4_hours_34 : decode cX4_hours 34 = .ok (.ldc 146, 2) := by decide +kernel
theorem dX4_hours_36 : decode cX4_hours 36 = .ok (.invokevirtual 49, 3) := by decide +kernel
theorem dX4_hours_39 : decode cX4_hours 39 = .ok (.ireturn, 1) := by decide +kernel
theorem dX4_hours_40 : decode cX4_hours 40 = .ok (.iconst 0, 1) := by decide +kernel
theorem dX4_hours_41 : decode cX4_hours 41 = .ok (.istore_n 2, 1) := by decide +kernel
theorem dX4_hours_42 : decode cX4_hours 42 = .ok (.iconst 0, 1) := by decide +kernel
theorem dX4_hours_43 : decode cX4_hours 43 = .ok (.istore_n 3, 1) := by decide +kernel
theorem dX4_hours_44 : decode cX4_hours 44 = .ok (.iload_n 3, 1) := by decide +kernel
theorem dX4_hours_45 : decode cX4_hours 45 = .ok (.iload_n 1, 1) := by decide +kernel
theorem dX4_hours_46 : decode cX4_hours 46 = .ok (.if_icmp .ge 21, 3) := by decide +kernel
theorem dX4_hours_49 : decode cX4_hours 49 = .ok (.iload_n 2, 1) := by decide +kernel
theorem dX4_hours_50 : decode cX4_hours 50 = .ok (.aload_n 0, 1) := by decide +kernel
theorem dX4_hours_51 : decode cX4_hours 51 = .ok (.getfield 16, 3) := by decide +kernel
theorem dX4_hours_54 : decode cX4_hours 54 = .ok (.iconst (-1), 1) := by decide +kernel
theorem dX4_hours_55 : decode cX4_hours 55 = .ok (.iconst 0, 1) := by decide +kernel
theorem dX4_hours_56 : decode cX4_hours 56 = .ok (.invokevirtual 147, 3) := by decide +kernel
theorem dX4_hours_59 : decode cX4_hours 59 = .ok (.iadd, 1) := by decide +kernel
theorem dX4_hours_60 : decode cX4_hours 60 = .ok (.istore_n 2, 1) := by decide +kernel
theorem dX4_hours_61 : decode cX4_hours 61 = .ok (.iinc 3 1, 3) := by decide +kernel
theorem dX4_hours_64 : decode cX4_hours 64 = .ok (.goto (-20), 3) := by decide +kernel
theorem dX4_hours_67 : decode cX4_hours 67 = .ok (.iload_n 2, 1) := by decide +kernel
theorem dX4_hours_68 : decode cX4_hours 68 = .ok (.ireturn, 1) := by decide +kernel
theorem dX4_now_0 : decode cX4_now 0 = .ok (.iload_n 1, 1) := by decide +kernel
theorem dX4_now_1 : decode cX4_now 1 = .ok (.tableswitch 126 0 8 #[51, 59, 67, 75, 86, 94, 102, 110, 118], 51) := by decide +kernel
theorem dX4_now_52 : decode cX4_now 52 = .ok (.aload_n 0, 1) := by decide +kernel
theorem dX4_now_53 : decode cX4_now 53 = .ok (.getfield 16, 3) := by decide +kernel
theorem dX4_now_56 : decode cX4_now 56 = .ok (.getfield 143, 3) := by decide +kernel
theorem dX4_now_59 : decode cX4_now 59 = .ok (.ireturn, 1) := by decide +kernel
theorem dX4_now_60 : decode cX4_now 60 = .ok (.aload_n 0, 1) := by decide +kernel
theorem dX4_now_61 : decode cX4_now 61 = .ok (.getfield 16, 3) := by decide +kernel
theorem dX4_now_64 : decode cX4_now 64 = .ok (.getfield 126, 3) := by decide +kernel
theorem dX4_now_67 : decode cX4_now 67 = .ok (.ireturn, 1) := by decide +kernel
theorem dX4_now_68 : decode cX4_now 68 = .ok (.aload_n 0, 1) := by decide +kernel
theorem dX4_now_69 : decode cX4_now 69 = .ok (.getfield 16, 3) := by decide +kernel
theorem dX4_now_72 : decode cX4_now 72 = .ok (.getfield 129, 3) := by decide +kernel
theorem dX4_now_75 : decode cX4_now 75 = .ok (.ireturn, 1) := by decide +kernel
theorem dX4_now_76 : decode cX4_now 76 = .ok (.aload_n 0, 1) := by decide +kernel
theorem dX4_now_77 : decode cX4_now 77 = .ok (.getfield 16, 3) := by decide +kernel
theorem dX4_now_80 : decode cX4_now 80 = .ok (.getfield 132, 3) := by decide +kernel
theorem dX4_now_83 : decode cX4_now 83 = .ok (.invokestatic 135, 3) := by decide +kernel
theorem dX4_now_86 : decode cX4_now 86 = .ok (.ireturn, 1) := by decide +kernel
theorem dX4_now_87 : decode cX4_now 87 = .ok (.aload_n 0, 1) := by decide +kernel
theorem dX4_now_88 : decode cX4_now 88 = .ok (.getfield 16, 3) := by decide +kernel
theorem dX4_now_91 : decode cX4_now 91 = .ok (.getfield 150, 3) := by decide +kernel
theorem dX4_now_94 : decode cX4_now 94 = .ok (.ireturn, 1) := by decide +kernel
theorem dX4_now_95 : decode cX4_now 95 = .ok (.aload_n 0, 1) := by decide +kernel
theorem dX4_now_96 : decode cX4_now 96 = .ok (.getfield 16, 3) := by decide +kernel
theorem dX4_now_99 : decode cX4_now 99 = .ok (.getfield 153, 3) := by decide +kernel
theorem dX4_now_102 : decode cX4_now 102 = .ok (.ireturn, 1) := by decide +kernel
theorem dX4_now_103 : decode cX4_now 103 = .ok (.aload_n 0, 1) := by decide +kernel
theorem dX4_now_104 : decode cX4_now 104 = .ok (.getfield 16, 3) := by decide +kernel
theorem dX4_now_107 : decode cX4_now 107 = .ok (.invokevirtual 156, 3) := by decide +kernel
theorem dX4_now_110 : decode cX4_now 110 = .ok (.ireturn, 1) := by decide +kernel
theorem dX4_now_111 : decode cX4_now 111 = .ok (.aload_n 0, 1) := by decide +kernel
theorem dX4_now_112 : decode cX4_now 112 = .ok (.getfield 16, 3) := by decide +kernel
theorem dX4_now_115 : decode cX4_now 115 = .ok (.invokevirtual 160, 3) := by decide +kernel
theorem dX4_now_118 : decode cX4_now 118 = .ok (.ireturn, 1) := by decide +kernel
theorem dX4_now_119 : decode cX4_now 119 = .ok (.aload_n 0, 1) := by decide +kernel
theorem dX4_now_120 : decode cX4_now 120 = .ok (.getfield 16, 3) := by decide +kernel
theorem dX4_now_123 : decode cX4_now 123 = .ok (.invokevirtual 163, 3) := by decide +kernel
theorem dX4_now_126 : decode cX4_now 126 = .ok (.ireturn, 1) := by decide +kernel
theorem dX4_now_127 : decode cX4_now 127 = .ok (.aload_n 0, 1) := by decide +kernel
theorem dX4_now_128 : decode cX4_now 128 = .ok (.ldc 48, 2) := by decide +kernel
theorem dX4_now_130 : decode cX4_now 130 = .ok (.invokevirtual 49, 3) := by decide +kernel
theorem dX4_now_133 : decode cX4_now 133 = .ok (.ireturn, 1) := by decide +kernel
theorem dX4_runs_0 : decode cX4_runs 0 = .ok (.aload_n 0, 1) := by decide +kernel
theorem dX4_runs_1 : decode cX4_runs 1 = .ok (.invokevirtual 166, 3) := by decide +kernel
theorem dX4_runs_4 : decode cX4_runs 4 = .ok (.aload_n 0, 1) := by decide +kernel
theorem dX4_runs_5 : decode cX4_runs 5 = .ok (.getfield 20, 3) := by decide +kernel
theorem dX4_runs_8 : decode cX4_runs 8 = .ok (.getfield 153, 3) := by decide +kernel
theorem dX4_runs_11 : decode cX4_runs 11 = .ok (.ireturn, 1) := by decide +kernel
theorem dX4_thrown_0 : decode cX4_thrown 0 = .ok (.aload_n 0, 1) := by decide +kernel
theorem dX4_thrown_1 : decode cX4_thrown 1 = .ok (.getfield 16, 3) := by decide +kernel
theorem dX4_thrown_4 : decode cX4_thrown 4 = .ok (.iload_n 1, 1) := by decide +kernel
theorem dX4_thrown_5 : decode cX4_thrown 5 = .ok (.invokevirtual 61, 3) := by decide +kernel
theorem dX4_thrown_8 : decode cX4_thrown 8 = .ok (.ifCond .ne 10, 3) := by decide +kernel
theorem dX4_thrown_11 : decode cX4_thrown 11 = .ok (.aload_n 0, 1) := by decide +kernel
theorem dX4_thrown_12 : decode cX4_thrown 12 = .ok (.ldc 48, 2) := by decide +kernel
theorem dX4_thrown_14 : decode cX4_thrown 14 = .ok (.invokevirtual 49, 3) := by decide +kernel
theorem dX4_thrown_17 : decode cX4_thrown 17 = .ok (.ireturn, 1) := by decide +kernel
theorem dX4_thrown_18 : decode cX4_thrown 18 = .ok (.aload_n 0, 1) := by decide +kernel
theorem dX4_thrown_19 : decode cX4_thrown 19 = .ok (.invokevirtual 166, 3) := by decide +kernel
theorem dX4_thrown_22 : decode cX4_thrown 22 = .ok (.aload_n 0, 1) := by decide +kernel
theorem dX4_thrown_23 : decode cX4_thrown 23 = .ok (.getfield 20, 3) := by decide +kernel
theorem dX4_thrown_26 : decode cX4_thrown 26 = .ok (.getfield 64, 3) := by decide +kernel
theorem dX4_thrown_29 : decode cX4_thrown 29 = .ok (.iload_n 1, 1) := by decide +kernel
theorem dX4_thrown_30 : decode cX4_thrown 30 = .ok (.aaload, 1) := by decide +kernel
theorem dX4_thrown_31 : decode cX4_thrown 31 = .ok (.getfield 82, 3) := by decide +kernel
theorem dX4_thrown_34 : decode cX4_thrown 34 = .ok (.ireturn, 1) := by decide +kernel
theorem dX4_gain_0 : decode cX4_gain 0 = .ok (.aload_n 0, 1) := by decide +kernel
theorem dX4_gain_1 : decode cX4_gain 1 = .ok (.getfield 16, 3) := by decide +kernel
theorem dX4_gain_4 : decode cX4_gain 4 = .ok (.iload_n 1, 1) := by decide +kernel
theorem dX4_gain_5 : decode cX4_gain 5 = .ok (.invokevirtual 61, 3) := by decide +kernel
theorem dX4_gain_8 : decode cX4_gain 8 = .ok (.ifCond .ne 10, 3) := by decide +kernel
theorem dX4_gain_11 : decode cX4_gain 11 = .ok (.aload_n 0, 1) := by decide +kernel
theorem dX4_gain_12 : decode cX4_gain 12 = .ok (.ldc 48, 2) := by decide +kernel
theorem dX4_gain_14 : decode cX4_gain 14 = .ok (.invokevirtual 49, 3) := by decide +kernel
theorem dX4_gain_17 : decode cX4_gain 17 = .ok (.ireturn, 1) := by decide +kernel
theorem dX4_gain_18 : decode cX4_gain 18 = .ok (.aload_n 0, 1) := by decide +kernel
theorem dX4_gain_19 : decode cX4_gain 19 = .ok (.iload_n 1, 1) := by decide +kernel
theorem dX4_gain_20 : decode cX4_gain 20 = .ok (.invokevirtual 169, 3) := by decide +kernel
theorem dX4_gain_23 : decode cX4_gain 23 = .ok (.ireturn, 1) := by decide +kernel
theorem dX4_all_0 : decode cX4_all 0 = .ok (.aload_n 0, 1) := by decide +kernel
theorem dX4_all_1 : decode cX4_all 1 = .ok (.invokevirtual 166, 3) := by decide +kernel
theorem dX4_all_4 : decode cX4_all 4 = .ok (.aload_n 0, 1) := by decide +kernel
theorem dX4_all_5 : decode cX4_all 5 = .ok (.getfield 20, 3) := by decide +kernel
theorem dX4_all_8 : decode cX4_all 8 = .ok (.invokevirtual 172, 3) := by decide +kernel
theorem dX4_all_11 : decode cX4_all 11 = .ok (.ireturn, 1) := by decide +kernel
theorem dX4_on_0 : decode cX4_on 0 = .ok (.aload_n 0, 1) := by decide +kernel
theorem dX4_on_1 : decode cX4_on 1 = .ok (.getfield 16, 3) := by decide +kernel
theorem dX4_on_4 : decode cX4_on 4 = .ok (.iload_n 1, 1) := by decide +kernel
theorem dX4_on_5 : decode cX4_on 5 = .ok (.invokevirtual 61, 3) := by decide +kernel
theorem dX4_on_8 : decode cX4_on 8 = .ok (.ifCond .eq 14, 3) := by decide +kernel
theorem dX4_on_11 : decode cX4_on 11 = .ok (.iload_n 2, 1) := by decide +kernel
theorem dX4_on_12 : decode cX4_on 12 = .ok (.iconst 0, 1) := by decide +kernel
theorem dX4_on_13 : decode cX4_on 13 = .ok (.sipush 200, 3) := by decide +kernel
theorem dX4_on_16 : decode cX4_on 16 = .ok (.invokestatic 122, 3) := by decide +kernel
theorem dX4_on_19 : decode cX4_on 19 = .ok (.ifCond .ne 10, 3) := by decide +kernel
theorem dX4_on_22 : decode cX4_on 22 = .ok (.aload_n 0, 1) := by decide +kernel
theorem dX4_on_23 : decode cX4_on 23 = .ok (.ldc 48, 2) := by decide +kernel
theorem dX4_on_25 : decode cX4_on 25 = .ok (.invokevirtual 49, 3) := by decide +kernel
theorem dX4_on_28 : decode cX4_on 28 = .ok (.ireturn, 1) := by decide +kernel
theorem dX4_on_29 : decode cX4_on 29 = .ok (.aload_n 0, 1) := by decide +kernel
theorem dX4_on_30 : decode cX4_on 30 = .ok (.getfield 16, 3) := by decide +kernel
theorem dX4_on_33 : decode cX4_on 33 = .ok (.getfield 143, 3) := by decide +kernel
theorem dX4_on_36 : decode cX4_on 36 = .ok (.iload_n 2, 1) := by decide +kernel
theorem dX4_on_37 : decode cX4_on 37 = .ok (.iadd, 1) := by decide +kernel
theorem dX4_on_38 : decode cX4_on 38 = .ok (.sipush 9999, 3) := by decide +kernel
theorem dX4_on_41 : decode cX4_on 41 = .ok (.if_icmp .le 10, 3) := by decide +kernel
theorem dX4_on_44 : decode cX4_on 44 = .ok (.aload_n 0, 1) := by decide +kernel
theorem dX4_on_45 : decode cX4_on 45 = .ok (.ldc 146, 2) := by decide +kernel
theorem dX4_on_47 : decode cX4_on 47 = .ok (.invokevirtual 49, 3) := by decide +kernel
theorem dX4_on_50 : decode cX4_on 50 = .ok (.ireturn, 1) := by decide +kernel
theorem dX4_on_51 : decode cX4_on 51 = .ok (.aload_n 0, 1) := by decide +kernel
theorem dX4_on_52 : decode cX4_on 52 = .ok (.getfield 20, 3) := by decide +kernel
theorem dX4_on_55 : decode cX4_on 55 = .ok (.aload_n 0, 1) := by decide +kernel
theorem dX4_on_56 : decode cX4_on 56 = .ok (.getfield 16, 3) := by decide +kernel
theorem dX4_on_59 : decode cX4_on 59 = .ok (.invokevirtual 175, 3) := by decide +kernel
theorem dX4_on_62 : decode cX4_on 62 = .ok (.iconst 0, 1) := by decide +kernel
theorem dX4_on_63 : decode cX4_on 63 = .ok (.istore_n 3, 1) := by decide +kernel
theorem dX4_on_64 : decode cX4_on 64 = .ok (.iload_n 3, 1) := by decide +kernel
theorem dX4_on_65 : decode cX4_on 65 = .ok (.iload_n 2, 1) := by decide +kernel
theorem dX4_on_66 : decode cX4_on 66 = .ok (.if_icmp .ge 19, 3) := by decide +kernel
theorem dX4_on_69 : decode cX4_on 69 = .ok (.aload_n 0, 1) := by decide +kernel
theorem dX4_on_70 : decode cX4_on 70 = .ok (.getfield 20, 3) := by decide +kernel
theorem dX4_on_73 : decode cX4_on 73 = .ok (.iconst (-1), 1) := by decide +kernel
theorem dX4_on_74 : decode cX4_on 74 = .ok (.iconst 0, 1) := by decide +kernel
theorem dX4_on_75 : decode cX4_on 75 = .ok (.invokevirtual 147, 3) := by decide +kernel
theorem dX4_on_78 : decode cX4_on 78 = .ok (.pop, 1) := by decide +kernel
theorem dX4_on_79 : decode cX4_on 79 = .ok (.iinc 3 1, 3) := by decide +kernel
theorem dX4_on_82 : decode cX4_on 82 = .ok (.goto (-18), 3) := by decide +kernel
theorem dX4_on_85 : decode cX4_on 85 = .ok (.aload_n 0, 1) := by decide +kernel
theorem dX4_on_86 : decode cX4_on 86 = .ok (.getfield 20, 3) := by decide +kernel
theorem dX4_on_89 : decode cX4_on 89 = .ok (.getfield 64, 3) := by decide +kernel
theorem dX4_on_92 : decode cX4_on 92 = .ok (.iload_n 1, 1) := by decide +kernel
theorem dX4_on_93 : decode cX4_on 93 = .ok (.aaload, 1) := by decide +kernel
theorem dX4_on_94 : decode cX4_on 94 = .ok (.getfield 85, 3) := by decide +kernel
theorem dX4_on_97 : decode cX4_on 97 = .ok (.ireturn, 1) := by decide +kernel
theorem dX4_empty_0 : decode cX4_empty 0 = .ok (.aload_n 0, 1) := by decide +kernel
theorem dX4_empty_1 : decode cX4_empty 1 = .ok (.getfield 16, 3) := by decide +kernel
theorem dX4_empty_4 : decode cX4_empty 4 = .ok (.getfield 143, 3) := by decide +kernel
theorem dX4_empty_7 : decode cX4_empty 7 = .ok (.sipush 9799, 3) := by decide +kernel
theorem dX4_empty_10 : decode cX4_empty 10 = .ok (.if_icmp .le 10, 3) := by decide +kernel
theorem dX4_empty_13 : decode cX4_empty 13 = .ok (.aload_n 0, 1) := by decide +kernel
theorem dX4_empty_14 : decode cX4_empty 14 = .ok (.ldc 146, 2) := by decide +kernel
theorem dX4_empty_16 : decode cX4_empty 16 = .ok (.invokevirtual 49, 3) := by decide +kernel
theorem dX4_empty_19 : decode cX4_empty 19 = .ok (.ireturn, 1) := by decide +kernel
theorem dX4_empty_20 : decode cX4_empty 20 = .ok (.aload_n 0, 1) := by decide +kernel
theorem dX4_empty_21 : decode cX4_empty 21 = .ok (.getfield 20, 3) := by decide +kernel
theorem dX4_empty_24 : decode cX4_empty 24 = .ok (.aload_n 0, 1) := by decide +kernel
theorem dX4_empty_25 : decode cX4_empty 25 = .ok (.getfield 16, 3) := by decide +kernel
theorem dX4_empty_28 : decode cX4_empty 28 = .ok (.invokevirtual 175, 3) := by decide +kernel
theorem dX4_empty_31 : decode cX4_empty 31 = .ok (.iconst 0, 1) := by decide +kernel
theorem dX4_empty_32 : decode cX4_empty 32 = .ok (.istore_n 1, 1) := by decide +kernel
theorem dX4_empty_33 : decode cX4_empty 33 = .ok (.iload_n 1, 1) := by decide +kernel
theorem dX4_empty_34 : decode cX4_empty 34 = .ok (.sipush 200, 3) := by decide +kernel
theorem dX4_empty_37 : decode cX4_empty 37 = .ok (.if_icmp .gt 31, 3) := by decide +kernel
theorem dX4_empty_40 : decode cX4_empty 40 = .ok (.aload_n 0, 1) := by decide +kernel
theorem dX4_empty_41 : decode cX4_empty 41 = .ok (.getfield 20, 3) := by decide +kernel
theorem dX4_empty_44 : decode cX4_empty 44 = .ok (.invokevirtual 156, 3) := by decide +kernel
theorem dX4_empty_47 : decode cX4_empty 47 = .ok (.ifCond .ne 5, 3) := by decide +kernel
theorem dX4_empty_50 : decode cX4_empty 50 = .ok (.iload_n 1, 1) := by decide +kernel
theorem dX4_empty_51 : decode cX4_empty 51 = .ok (.ireturn, 1) := by decide +kernel
theorem dX4_empty_52 : decode cX4_empty 52 = .ok (.aload_n 0, 1) := by decide +kernel
theorem dX4_empty_53 : decode cX4_empty 53 = .ok (.getfield 20, 3) := by decide +kernel
theorem dX4_empty_56 : decode cX4_empty 56 = .ok (.iconst (-1), 1) := by decide +kernel
theorem dX4_empty_57 : decode cX4_empty 57 = .ok (.iconst 0, 1) := by decide +kernel
theorem dX4_empty_58 : decode cX4_empty 58 = .ok (.invokevirtual 147, 3) := by decide +kernel
theorem dX4_empty_61 : decode cX4_empty 61 = .ok (.pop, 1) := by decide +kernel
theorem dX4_empty_62 : decode cX4_empty 62 = .ok (.iinc 1 1, 3) := by decide +kernel
theorem dX4_empty_65 : decode cX4_empty 65 = .ok (.goto (-32), 3) := by decide +kernel
theorem dX4_empty_68 : decode cX4_empty 68 = .ok (.aload_n 0, 1) := by decide +kernel
theorem dX4_empty_69 : decode cX4_empty 69 = .ok (.ldc 179, 2) := by decide +kernel
theorem dX4_empty_71 : decode cX4_empty 71 = .ok (.invokevirtual 49, 3) := by decide +kernel
theorem dX4_empty_74 : decode cX4_empty 74 = .ok (.ireturn, 1) := by decide +kernel
theorem dX4_gainIf_0 : decode cX4_gainIf 0 = .ok (.aload_n 0, 1) := by decide +kernel
theorem dX4_gainIf_1 : decode cX4_gainIf 1 = .ok (.getfield 16, 3) := by decide +kernel
theorem dX4_gainIf_4 : decode cX4_gainIf 4 = .ok (.iload_n 1, 1) := by decide +kernel
theorem dX4_gainIf_5 : decode cX4_gainIf 5 = .ok (.invokevirtual 61, 3) := by decide +kernel
theorem dX4_gainIf_8 : decode cX4_gainIf 8 = .ok (.ifCond .eq 13, 3) := by decide +kernel
theorem dX4_gainIf_11 : decode cX4_gainIf 11 = .ok (.iload_n 2, 1) := by decide +kernel
theorem dX4_gainIf_12 : decode cX4_gainIf 12 = .ok (.iconst 0, 1) := by decide +kernel
theorem dX4_gainIf_13 : decode cX4_gainIf 13 = .ok (.bipush 99, 2) := by decide +kernel
theorem dX4_gainIf_15 : decode cX4_gainIf 15 = .ok (.invokestatic 122, 3) := by decide +kernel
theorem dX4_gainIf_18 : decode cX4_gainIf 18 = .ok (.ifCond .ne 10, 3) := by decide +kernel
theorem dX4_gainIf_21 : decode cX4_gainIf 21 = .ok (.aload_n 0, 1) := by decide +kernel
theorem dX4_gainIf_22 : decode cX4_gainIf 22 = .ok (.ldc 48, 2) := by decide +kernel
theorem dX4_gainIf_24 : decode cX4_gainIf 24 = .ok (.invokevirtual 49, 3) := by decide +kernel
theorem dX4_gainIf_27 : decode cX4_gainIf 27 = .ok (.ireturn, 1) := by decide +kernel
theorem dX4_gainIf_28 : decode cX4_gainIf 28 = .ok (.aload_n 0, 1) := by decide +kernel
theorem dX4_gainIf_29 : decode cX4_gainIf 29 = .ok (.getfield 16, 3) := by decide +kernel
theorem dX4_gainIf_32 : decode cX4_gainIf 32 = .ok (.getfield 64, 3) := by decide +kernel
theorem dX4_gainIf_35 : decode cX4_gainIf 35 = .ok (.iload_n 1, 1) := by decide +kernel
theorem dX4_gainIf_36 : decode cX4_gainIf 36 = .ok (.aaload, 1) := by decide +kernel
theorem dX4_gainIf_37 : decode cX4_gainIf 37 = .ok (.getfield 73, 3) := by decide +kernel
theorem dX4_gainIf_40 : decode cX4_gainIf 40 = .ok (.iload_n 2, 1) := by decide +kernel
theorem dX4_gainIf_41 : decode cX4_gainIf 41 = .ok (.if_icmp .ge 10, 3) := by decide +kernel
theorem dX4_gainIf_44 : decode cX4_gainIf 44 = .ok (.aload_n 0, 1) := by decide +kernel
theorem dX4_gainIf_45 : decode cX4_gainIf 45 = .ok (.ldc 146, 2) := by decide +kernel
theorem dX4_gainIf_47 : decode cX4_gainIf 47 = .ok (.invokevirtual 49, 3) := by decide +kernel
theorem dX4_gainIf_50 : decode cX4_gainIf 50 = .ok (.ireturn, 1) := by decide +kernel
theorem dX4_gainIf_51 : decode cX4_gainIf 51 = .ok (.aload_n 0, 1) := by decide +kernel
theorem dX4_gainIf_52 : decode cX4_gainIf 52 = .ok (.iload_n 1, 1) := by decide +kernel
theorem dX4_gainIf_53 : decode cX4_gainIf 53 = .ok (.iload_n 2, 1) := by decide +kernel
theorem dX4_gainIf_54 : decode cX4_gainIf 54 = .ok (.invokevirtual 180, 3) := by decide +kernel
theorem dX4_gainIf_57 : decode cX4_gainIf 57 = .ok (.ireturn, 1) := by decide +kernel
theorem dX4_best_0 : decode cX4_best 0 = .ok (.aload_n 0, 1) := by decide +kernel
theorem dX4_best_1 : decode cX4_best 1 = .ok (.getfield 16, 3) := by decide +kernel
theorem dX4_best_4 : decode cX4_best 4 = .ok (.iload_n 1, 1) := by decide +kernel
theorem dX4_best_5 : decode cX4_best 5 = .ok (.invokevirtual 61, 3) := by decide +kernel
theorem dX4_best_8 : decode cX4_best 8 = .ok (.ifCond .ne 10, 3) := by decide +kernel
theorem dX4_best_11 : decode cX4_best 11 = .ok (.aload_n 0, 1) := by decide +kernel
theorem dX4_best_12 : decode cX4_best 12 = .ok (.ldc 48, 2) := by decide +kernel
theorem dX4_best_14 : decode cX4_best 14 = .ok (.invokevirtual 49, 3) := by decide +kernel
theorem dX4_best_17 : decode cX4_best 17 = .ok (.ireturn, 1) := by decide +kernel
theorem dX4_best_18 : decode cX4_best 18 = .ok (.aload_n 0, 1) := by decide +kernel
theorem dX4_best_19 : decode cX4_best 19 = .ok (.iload_n 1, 1) := by decide +kernel
theorem dX4_best_20 : decode cX4_best 20 = .ok (.invokevirtual 183, 3) := by decide +kernel
theorem dX4_best_23 : decode cX4_best 23 = .ok (.ireturn, 1) := by decide +kernel
theorem dX4_sorry_0 : decode cX4_sorry 0 = .ok (.iconst 0, 1) := by decide +kernel
theorem dX4_sorry_1 : decode cX4_sorry 1 = .ok (.istore_n 1, 1) := by decide +kernel
theorem dX4_sorry_2 : decode cX4_sorry 2 = .ok (.iconst 0, 1) := by decide +kernel
theorem dX4_sorry_3 : decode cX4_sorry 3 = .ok (.istore_n 2, 1) := by decide +kernel
theorem dX4_sorry_4 : decode cX4_sorry 4 = .ok (.iload_n 2, 1) := by decide +kernel
theorem dX4_sorry_5 : decode cX4_sorry 5 = .ok (.aload_n 0, 1) := by decide +kernel
theorem dX4_sorry_6 : decode cX4_sorry 6 = .ok (.getfield 16, 3) := by decide +kernel
theorem dX4_sorry_9 : decode cX4_sorry 9 = .ok (.getfield 53, 3) := by decide +kernel
theorem dX4_sorry_12 : decode cX4_sorry 12 = .ok (.if_icmp .ge 33, 3) := by decide +kernel
theorem dX4_sorry_15 : decode cX4_sorry 15 = .ok (.aload_n 0, 1) := by decide +kernel
theorem dX4_sorry_16 : decode cX4_sorry 16 = .ok (.iload_n 2, 1) := by decide +kernel
theorem dX4_sorry_17 : decode cX4_sorry 17 = .ok (.aload_n 0, 1) := by decide +kernel
theorem dX4_sorry_18 : decode cX4_sorry 18 = .ok (.iload_n 2, 1) := by decide +kernel
theorem dX4_sorry_19 : decode cX4_sorry 19 = .ok (.invokevirtual 183, 3) := by decide +kernel
theorem dX4_sorry_22 : decode cX4_sorry 22 = .ok (.invokevirtual 180, 3) := by decide +kernel
theorem dX4_sorry_25 : decode cX4_sorry 25 = .ok (.aload_n 0, 1) := by decide +kernel
theorem dX4_sorry_26 : decode cX4_sorry 26 = .ok (.iload_n 2, 1) := by decide +kernel
theorem dX4_sorry_27 : decode cX4_sorry 27 = .ok (.invokevirtual 169, 3) := by decide +kernel
theorem dX4_sorry_30 : decode cX4_sorry 30 = .ok (.if_icmp .le 9, 3) := by decide +kernel
theorem dX4_sorry_33 : decode cX4_sorry 33 = .ok (.iload_n 1, 1) := by decide +kernel
theorem dX4_sorry_34 : decode cX4_sorry 34 = .ok (.iconst 1, 1) := by decide +kernel
theorem dX4_sorry_35 : decode cX4_sorry 35 = .ok (.iload_n 2, 1) := by decide +kernel
theorem dX4_sorry_36 : decode cX4_sorry 36 = .ok (.ishl, 1) := by decide +kernel
theorem dX4_sorry_37 : decode cX4_sorry 37 = .ok (.ior, 1) := by decide +kernel
theorem dX4_sorry_38 : decode cX4_sorry 38 = .ok (.istore_n 1, 1) := by decide +kernel
theorem dX4_sorry_39 : decode cX4_sorry 39 = .ok (.iinc 2 1, 3) := by decide +kernel
theorem dX4_sorry_42 : decode cX4_sorry 42 = .ok (.goto (-38), 3) := by decide +kernel
theorem dX4_sorry_45 : decode cX4_sorry 45 = .ok (.iload_n 1, 1) := by decide +kernel
theorem dX4_sorry_46 : decode cX4_sorry 46 = .ok (.ireturn, 1) := by decide +kernel
theorem dX4_regret_0 : decode cX4_regret 0 = .ok (.aload_n 0, 1) := by decide +kernel
theorem dX4_regret_1 : decode cX4_regret 1 = .ok (.getfield 16, 3) := by decide +kernel
theorem dX4_regret_4 : decode cX4_regret 4 = .ok (.iload_n 1, 1) := by decide +kernel
theorem dX4_regret_5 : decode cX4_regret 5 = .ok (.invokevirtual 61, 3) := by decide +kernel
theorem dX4_regret_8 : decode cX4_regret 8 = .ok (.ifCond .ne 10, 3) := by decide +kernel
theorem dX4_regret_11 : decode cX4_regret 11 = .ok (.aload_n 0, 1) := by decide +kernel
theorem dX4_regret_12 : decode cX4_regret 12 = .ok (.ldc 48, 2) := by decide +kernel
theorem dX4_regret_14 : decode cX4_regret 14 = .ok (.invokevirtual 49, 3) := by decide +kernel
theorem dX4_regret_17 : decode cX4_regret 17 = .ok (.ireturn, 1) := by decide +kernel
theorem dX4_regret_18 : decode cX4_regret 18 = .ok (.aload_n 0, 1) := by decide +kernel
theorem dX4_regret_19 : decode cX4_regret 19 = .ok (.iload_n 1, 1) := by decide +kernel
theorem dX4_regret_20 : decode cX4_regret 20 = .ok (.aload_n 0, 1) := by decide +kernel
theorem dX4_regret_21 : decode cX4_regret 21 = .ok (.iload_n 1, 1) := by decide +kernel
theorem dX4_regret_22 : decode cX4_regret 22 = .ok (.invokevirtual 183, 3) := by decide +kernel
theorem dX4_regret_25 : decode cX4_regret 25 = .ok (.invokevirtual 180, 3) := by decide +kernel
theorem dX4_regret_28 : decode cX4_regret 28 = .ok (.aload_n 0, 1) := by decide +kernel
theorem dX4_regret_29 : decode cX4_regret 29 = .ok (.iload_n 1, 1) := by decide +kernel
theorem dX4_regret_30 : decode cX4_regret 30 = .ok (.invokevirtual 169, 3) := by decide +kernel
theorem dX4_regret_33 : decode cX4_regret 33 = .ok (.isub, 1) := by decide +kernel
theorem dX4_regret_34 : decode cX4_regret 34 = .ok (.ireturn, 1) := by decide +kernel
theorem dX4_stand_0 : decode cX4_stand 0 = .ok (.aload_n 0, 1) := by decide +kernel
theorem dX4_stand_1 : decode cX4_stand 1 = .ok (.getfield 16, 3) := by decide +kernel
theorem dX4_stand_4 : decode cX4_stand 4 = .ok (.iload_n 1, 1) := by decide +kernel
theorem dX4_stand_5 : decode cX4_stand 5 = .ok (.invokevirtual 61, 3) := by decide +kernel
theorem dX4_stand_8 : decode cX4_stand 8 = .ok (.ifCond .ne 10, 3) := by decide +kernel
theorem dX4_stand_11 : decode cX4_stand 11 = .ok (.aload_n 0, 1) := by decide +kernel
theorem dX4_stand_12 : decode cX4_stand 12 = .ok (.ldc 48, 2) := by decide +kernel
theorem dX4_stand_14 : decode cX4_stand 14 = .ok (.invokevirtual 49, 3) := by decide +kernel
theorem dX4_stand_17 : decode cX4_stand 17 = .ok (.ireturn, 1) := by decide +kernel
theorem dX4_stand_18 : decode cX4_stand 18 = .ok (.iconst 0, 1) := by decide +kernel
theorem dX4_stand_19 : decode cX4_stand 19 = .ok (.istore_n 2, 1) := by decide +kernel
theorem dX4_stand_20 : decode cX4_stand 20 = .ok (.aload_n 0, 1) := by decide +kernel
theorem dX4_stand_21 : decode cX4_stand 21 = .ok (.iload_n 1, 1) := by decide +kernel
theorem dX4_stand_22 : decode cX4_stand 22 = .ok (.iconst 0, 1) := by decide +kernel
theorem dX4_stand_23 : decode cX4_stand 23 = .ok (.invokevirtual 186, 3) := by decide +kernel
theorem dX4_stand_26 : decode cX4_stand 26 = .ok (.istore_n 3, 1) := by decide +kernel
theorem dX4_stand_27 : decode cX4_stand 27 = .ok (.iconst 1, 1) := by decide +kernel
theorem dX4_stand_28 : decode cX4_stand 28 = .ok (.istore 4, 2) := by decide +kernel
theorem dX4_stand_30 : decode cX4_stand 30 = .ok (.iload 4, 2) := by decide +kernel
theorem dX4_stand_32 : decode cX4_stand 32 = .ok (.aload_n 0, 1) := by decide +kernel
theorem dX4_stand_33 : decode cX4_stand 33 = .ok (.getfield 16, 3) := by decide +kernel
theorem dX4_stand_36 : decode cX4_stand 36 = .ok (.getfield 53, 3) := by decide +kernel
theorem dX4_stand_39 : decode cX4_stand 39 = .ok (.if_icmp .ge 30, 3) := by decide +kernel
theorem dX4_stand_42 : decode cX4_stand 42 = .ok (.aload_n 0, 1) := by decide +kernel
theorem dX4_stand_43 : decode cX4_stand 43 = .ok (.iload_n 1, 1) := by decide +kernel
theorem dX4_stand_44 : decode cX4_stand 44 = .ok (.iload 4, 2) := by decide +kernel
theorem dX4_stand_46 : decode cX4_stand 46 = .ok (.invokevirtual 186, 3) := by decide +kernel
theorem dX4_stand_49 : decode cX4_stand 49 = .ok (.istore 5, 2) := by decide +kernel
theorem dX4_stand_51 : decode cX4_stand 51 = .ok (.iload 5, 2) := by decide +kernel
theorem dX4_stand_53 : decode cX4_stand 53 = .ok (.iload_n 3, 1) := by decide +kernel
theorem dX4_stand_54 : decode cX4_stand 54 = .ok (.if_icmp .le 9, 3) := by decide +kernel
theorem dX4_stand_57 : decode cX4_stand 57 = .ok (.iload 5, 2) := by decide +kernel
theorem dX4_stand_59 : decode cX4_stand 59 = .ok (.istore_n 3, 1) := by decide +kernel
theorem dX4_stand_60 : decode cX4_stand 60 = .ok (.iload 4, 2) := by decide +kernel
theorem dX4_stand_62 : decode cX4_stand 62 = .ok (.istore_n 2, 1) := by decide +kernel
theorem dX4_stand_63 : decode cX4_stand 63 = .ok (.iinc 4 1, 3) := by decide +kernel
theorem dX4_stand_66 : decode cX4_stand 66 = .ok (.goto (-36), 3) := by decide +kernel
theorem dX4_stand_69 : decode cX4_stand 69 = .ok (.iload_n 2, 1) := by decide +kernel
theorem dX4_stand_70 : decode cX4_stand 70 = .ok (.ireturn, 1) := by decide +kernel
theorem dX4_kind_0 : decode cX4_kind 0 = .ok (.aload_n 0, 1) := by decide +kernel
theorem dX4_kind_1 : decode cX4_kind 1 = .ok (.getfield 16, 3) := by decide +kernel
theorem dX4_kind_4 : decode cX4_kind 4 = .ok (.iload_n 1, 1) := by decide +kernel
theorem dX4_kind_5 : decode cX4_kind 5 = .ok (.invokevirtual 61, 3) := by decide +kernel
theorem dX4_kind_8 : decode cX4_kind 8 = .ok (.ifCond .ne 10, 3) := by decide +kernel
theorem dX4_kind_11 : decode cX4_kind 11 = .ok (.aload_n 0, 1) := by decide +kernel
theorem dX4_kind_12 : decode cX4_kind 12 = .ok (.ldc 48, 2) := by decide +kernel
theorem dX4_kind_14 : decode cX4_kind 14 = .ok (.invokevirtual 49, 3) := by decide +kernel
theorem dX4_kind_17 : decode cX4_kind 17 = .ok (.ireturn, 1) := by decide +kernel
theorem dX4_kind_18 : decode cX4_kind 18 = .ok (.iconst 0, 1) := by decide +kernel
theorem dX4_kind_19 : decode cX4_kind 19 = .ok (.istore_n 2, 1) := by decide +kernel
theorem dX4_kind_20 : decode cX4_kind 20 = .ok (.aload_n 0, 1) := by decide +kernel
theorem dX4_kind_21 : decode cX4_kind 21 = .ok (.iload_n 1, 1) := by decide +kernel
theorem dX4_kind_22 : decode cX4_kind 22 = .ok (.iconst 0, 1) := by decide +kernel
theorem dX4_kind_23 : decode cX4_kind 23 = .ok (.invokevirtual 189, 3) := by decide +kernel
theorem dX4_kind_26 : decode cX4_kind 26 = .ok (.istore_n 3, 1) := by decide +kernel
theorem dX4_kind_27 : decode cX4_kind 27 = .ok (.iconst 1, 1) := by decide +kernel
theorem dX4_kind_28 : decode cX4_kind 28 = .ok (.istore 4, 2) := by decide +kernel
theorem dX4_kind_30 : decode cX4_kind 30 = .ok (.iload 4, 2) := by decide +kernel
theorem dX4_kind_32 : decode cX4_kind 32 = .ok (.bipush 6, 2) := by decide +kernel
theorem dX4_kind_34 : decode cX4_kind 34 = .ok (.if_icmp .ge 30, 3) := by decide +kernel
theorem dX4_kind_37 : decode cX4_kind 37 = .ok (.aload_n 0, 1) := by decide +kernel
theorem dX4_kind_38 : decode cX4_kind 38 = .ok (.iload_n 1, 1) := by decide +kernel
theorem dX4_kind_39 : decode cX4_kind 39 = .ok (.iload 4, 2) := by decide +kernel
theorem dX4_kind_41 : decode cX4_kind 41 = .ok (.invokevirtual 189, 3) := by decide +kernel
theorem dX4_kind_44 : decode cX4_kind 44 = .ok (.istore 5, 2) := by decide +kernel
theorem dX4_kind_46 : decode cX4_kind 46 = .ok (.iload 5, 2) := by decide +kernel
theorem dX4_kind_48 : decode cX4_kind 48 = .ok (.iload_n 3, 1) := by decide +kernel
theorem dX4_kind_49 : decode cX4_kind 49 = .ok (.if_icmp .le 9, 3) := by decide +kernel
theorem dX4_kind_52 : decode cX4_kind 52 = .ok (.iload 5, 2) := by decide +kernel
theorem dX4_kind_54 : decode cX4_kind 54 = .ok (.istore_n 3, 1) := by decide +kernel
theorem dX4_kind_55 : decode cX4_kind 55 = .ok (.iload 4, 2) := by decide +kernel
theorem dX4_kind_57 : decode cX4_kind 57 = .ok (.istore_n 2, 1) := by decide +kernel
theorem dX4_kind_58 : decode cX4_kind 58 = .ok (.iinc 4 1, 3) := by decide +kernel
theorem dX4_kind_61 : decode cX4_kind 61 = .ok (.goto (-31), 3) := by decide +kernel
theorem dX4_kind_64 : decode cX4_kind 64 = .ok (.iload_n 2, 1) := by decide +kernel
theorem dX4_kind_65 : decode cX4_kind 65 = .ok (.ireturn, 1) := by decide +kernel
theorem dX4_lie_0 : decode cX4_lie 0 = .ok (.bipush (-20), 2) := by decide +kernel
theorem dX4_lie_2 : decode cX4_lie 2 = .ok (.istore_n 1, 1) := by decide +kernel
theorem dX4_lie_3 : decode cX4_lie 3 = .ok (.aload_n 0, 1) := by decide +kernel
theorem dX4_lie_4 : decode cX4_lie 4 = .ok (.iconst 1, 1) := by decide +kernel
theorem dX4_lie_5 : decode cX4_lie 5 = .ok (.iload_n 1, 1) := by decide +kernel
theorem dX4_lie_6 : decode cX4_lie 6 = .ok (.invokevirtual 192, 3) := by decide +kernel
theorem dX4_lie_9 : decode cX4_lie 9 = .ok (.istore_n 2, 1) := by decide +kernel
theorem dX4_lie_10 : decode cX4_lie 10 = .ok (.bipush (-19), 2) := by decide +kernel
theorem dX4_lie_12 : decode cX4_lie 12 = .ok (.istore_n 3, 1) := by decide +kernel
theorem dX4_lie_13 : decode cX4_lie 13 = .ok (.iload_n 3, 1) := by decide +kernel
theorem dX4_lie_14 : decode cX4_lie 14 = .ok (.bipush 20, 2) := by decide +kernel
theorem dX4_lie_16 : decode cX4_lie 16 = .ok (.if_icmp .gt 28, 3) := by decide +kernel
theorem dX4_lie_19 : decode cX4_lie 19 = .ok (.aload_n 0, 1) := by decide +kernel
theorem dX4_lie_20 : decode cX4_lie 20 = .ok (.iconst 1, 1) := by decide +kernel
theorem dX4_lie_21 : decode cX4_lie 21 = .ok (.iload_n 3, 1) := by decide +kernel
theorem dX4_lie_22 : decode cX4_lie 22 = .ok (.invokevirtual 192, 3) := by decide +kernel
theorem dX4_lie_25 : decode cX4_lie 25 = .ok (.istore 4, 2) := by decide +kernel
theorem dX4_lie_27 : decode cX4_lie 27 = .ok (.iload 4, 2) := by decide +kernel
theorem dX4_lie_29 : decode cX4_lie 29 = .ok (.iload_n 2, 1) := by decide +kernel
theorem dX4_lie_30 : decode cX4_lie 30 = .ok (.if_icmp .le 8, 3) := by decide +kernel
theorem dX4_lie_33 : decode cX4_lie 33 = .ok (.iload 4, 2) := by decide +kernel
theorem dX4_lie_35 : decode cX4_lie 35 = .ok (.istore_n 2, 1) := by decide +kernel
theorem dX4_lie_36 : decode cX4_lie 36 = .ok (.iload_n 3, 1) := by decide +kernel
theorem dX4_lie_37 : decode cX4_lie 37 = .ok (.istore_n 1, 1) := by decide +kernel
theorem dX4_lie_38 : decode cX4_lie 38 = .ok (.iinc 3 1, 3) := by decide +kernel
theorem dX4_lie_41 : decode cX4_lie 41 = .ok (.goto (-28), 3) := by decide +kernel
theorem dX4_lie_44 : decode cX4_lie 44 = .ok (.iload_n 1, 1) := by decide +kernel
theorem dX4_lie_45 : decode cX4_lie 45 = .ok (.ireturn, 1) := by decide +kernel
theorem dX4_word_0 : decode cX4_word 0 = .ok (.aload_n 0, 1) := by decide +kernel
theorem dX4_word_1 : decode cX4_word 1 = .ok (.iconst 1, 1) := by decide +kernel
theorem dX4_word_2 : decode cX4_word 2 = .ok (.iconst 0, 1) := by decide +kernel
theorem dX4_word_3 : decode cX4_word 3 = .ok (.invokevirtual 192, 3) := by decide +kernel
theorem dX4_word_6 : decode cX4_word 6 = .ok (.aload_n 0, 1) := by decide +kernel
theorem dX4_word_7 : decode cX4_word 7 = .ok (.iconst 0, 1) := by decide +kernel
theorem dX4_word_8 : decode cX4_word 8 = .ok (.iconst 0, 1) := by decide +kernel
theorem dX4_word_9 : decode cX4_word 9 = .ok (.invokevirtual 192, 3) := by decide +kernel
theorem dX4_word_12 : decode cX4_word 12 = .ok (.isub, 1) := by decide +kernel
theorem dX4_word_13 : decode cX4_word 13 = .ok (.ireturn, 1) := by decide +kernel
theorem dX4_fair_0 : decode cX4_fair 0 = .ok (.iconst 0, 1) := by decide +kernel
theorem dX4_fair_1 : decode cX4_fair 1 = .ok (.istore_n 1, 1) := by decide +kernel
theorem dX4_fair_2 : decode cX4_fair 2 = .ok (.aload_n 0, 1) := by decide +kernel
theorem dX4_fair_3 : decode cX4_fair 3 = .ok (.iconst 0, 1) := by decide +kernel
theorem dX4_fair_4 : decode cX4_fair 4 = .ok (.invokevirtual 196, 3) := by decide +kernel
theorem dX4_fair_7 : decode cX4_fair 7 = .ok (.istore_n 2, 1) := by decide +kernel
theorem dX4_fair_8 : decode cX4_fair 8 = .ok (.iconst 1, 1) := by decide +kernel
theorem dX4_fair_9 : decode cX4_fair 9 = .ok (.istore_n 3, 1) := by decide +kernel
theorem dX4_fair_10 : decode cX4_fair 10 = .ok (.iload_n 3, 1) := by decide +kernel
theorem dX4_fair_11 : decode cX4_fair 11 = .ok (.iconst 2, 1) := by decide +kernel
theorem dX4_fair_12 : decode cX4_fair 12 = .ok (.if_icmp .gt 27, 3) := by decide +kernel
theorem dX4_fair_15 : decode cX4_fair 15 = .ok (.aload_n 0, 1) := by decide +kernel
theorem dX4_fair_16 : decode cX4_fair 16 = .ok (.iload_n 3, 1) := by decide +kernel
theorem dX4_fair_17 : decode cX4_fair 17 = .ok (.invokevirtual 196, 3) := by decide +kernel
theorem dX4_fair_20 : decode cX4_fair 20 = .ok (.istore 4, 2) := by decide +kernel
theorem dX4_fair_22 : decode cX4_fair 22 = .ok (.iload 4, 2) := by decide +kernel
theorem dX4_fair_24 : decode cX4_fair 24 = .ok (.iload_n 2, 1) := by decide +kernel
theorem dX4_fair_25 : decode cX4_fair 25 = .ok (.if_icmp .le 8, 3) := by decide +kernel
theorem dX4_fair_28 : decode cX4_fair 28 = .ok (.iload 4, 2) := by decide +kernel
theorem dX4_fair_30 : decode cX4_fair 30 = .ok (.istore_n 2, 1) := by decide +kernel
theorem dX4_fair_31 : decode cX4_fair 31 = .ok (.iload_n 3, 1) := by decide +kernel
theorem dX4_fair_32 : decode cX4_fair 32 = .ok (.istore_n 1, 1) := by decide +kernel
theorem dX4_fair_33 : decode cX4_fair 33 = .ok (.iinc 3 1, 3) := by decide +kernel
theorem dX4_fair_36 : decode cX4_fair 36 = .ok (.goto (-26), 3) := by decide +kernel
theorem dX4_fair_39 : decode cX4_fair 39 = .ok (.iload_n 1, 1) := by decide +kernel
theorem dX4_fair_40 : decode cX4_fair 40 = .ok (.ireturn, 1) := by decide +kernel
theorem dX4_rests_0 : decode cX4_rests 0 = .ok (.aload_n 0, 1) := by decide +kernel
theorem dX4_rests_1 : decode cX4_rests 1 = .ok (.getfield 16, 3) := by decide +kernel
theorem dX4_rests_4 : decode cX4_rests 4 = .ok (.getfield 53, 3) := by decide +kernel
theorem dX4_rests_7 : decode cX4_rests 7 = .ok (.bipush 8, 2) := by decide +kernel
theorem dX4_rests_9 : decode cX4_rests 9 = .ok (.if_icmp .le 10, 3) := by decide +kernel
theorem dX4_rests_12 : decode cX4_rests 12 = .ok (.aload_n 0, 1) := by decide +kernel
theorem dX4_rests_13 : decode cX4_rests 13 = .ok (.ldc 199, 2) := by decide +kernel
theorem dX4_rests_15 : decode cX4_rests 15 = .ok (.invokevirtual 49, 3) := by decide +kernel
theorem dX4_rests_18 : decode cX4_rests 18 = .ok (.ireturn, 1) := by decide +kernel
theorem dX4_rests_19 : decode cX4_rests 19 = .ok (.iconst 0, 1) := by decide +kernel
theorem dX4_rests_20 : decode cX4_rests 20 = .ok (.istore_n 1, 1) := by decide +kernel
theorem dX4_rests_21 : decode cX4_rests 21 = .ok (.iconst 1, 1) := by decide +kernel
theorem dX4_rests_22 : decode cX4_rests 22 = .ok (.aload_n 0, 1) := by decide +kernel
theorem dX4_rests_23 : decode cX4_rests 23 = .ok (.getfield 16, 3) := by decide +kernel
theorem dX4_rests_26 : decode cX4_rests 26 = .ok (.getfield 53, 3) := by decide +kernel
theorem dX4_rests_29 : decode cX4_rests 29 = .ok (.ishl, 1) := by decide +kernel
theorem dX4_rests_30 : decode cX4_rests 30 = .ok (.istore_n 2, 1) := by decide +kernel
theorem dX4_rests_31 : decode cX4_rests 31 = .ok (.iconst 0, 1) := by decide +kernel
theorem dX4_rests_32 : decode cX4_rests 32 = .ok (.istore_n 3, 1) := by decide +kernel
theorem dX4_rests_33 : decode cX4_rests 33 = .ok (.iload_n 3, 1) := by decide +kernel
theorem dX4_rests_34 : decode cX4_rests 34 = .ok (.iload_n 2, 1) := by decide +kernel
theorem dX4_rests_35 : decode cX4_rests 35 = .ok (.if_icmp .ge 20, 3) := by decide +kernel
theorem dX4_rests_38 : decode cX4_rests 38 = .ok (.aload_n 0, 1) := by decide +kernel
theorem dX4_rests_39 : decode cX4_rests 39 = .ok (.iload_n 3, 1) := by decide +kernel
theorem dX4_rests_40 : decode cX4_rests 40 = .ok (.invokevirtual 200, 3) := by decide +kernel
theorem dX4_rests_43 : decode cX4_rests 43 = .ok (.ifCond .eq 6, 3) := by decide +kernel
theorem dX4_rests_46 : decode cX4_rests 46 = .ok (.iinc 1 1, 3) := by decide +kernel
theorem dX4_rests_49 : decode cX4_rests 49 = .ok (.iinc 3 1, 3) := by decide +kernel
theorem dX4_rests_52 : decode cX4_rests 52 = .ok (.goto (-19), 3) := by decide +kernel
theorem dX4_rests_55 : decode cX4_rests 55 = .ok (.iload_n 1, 1) := by decide +kernel
theorem dX4_rests_56 : decode cX4_rests 56 = .ok (.ireturn, 1) := by decide +kernel
theorem dX4_rest_0 : decode cX4_rest 0 = .ok (.aload_n 0, 1) := by decide +kernel
theorem dX4_rest_1 : decode cX4_rest 1 = .ok (.getfield 16, 3) := by decide +kernel
theorem dX4_rest_4 : decode cX4_rest 4 = .ok (.getfield 53, 3) := by decide +kernel
theorem dX4_rest_7 : decode cX4_rest 7 = .ok (.bipush 8, 2) := by decide +kernel
theorem dX4_rest_9 : decode cX4_rest 9 = .ok (.if_icmp .le 10, 3) := by decide +kernel
theorem dX4_rest_12 : decode cX4_rest 12 = .ok (.aload_n 0, 1) := by decide +kernel
theorem dX4_rest_13 : decode cX4_rest 13 = .ok (.ldc 199, 2) := by decide +kernel
theorem dX4_rest_15 : decode cX4_rest 15 = .ok (.invokevirtual 49, 3) := by decide +kernel
theorem dX4_rest_18 : decode cX4_rest 18 = .ok (.ireturn, 1) := by decide +kernel
theorem dX4_rest_19 : decode cX4_rest 19 = .ok (.iconst 1, 1) := by decide +kernel
theorem dX4_rest_20 : decode cX4_rest 20 = .ok (.aload_n 0, 1) := by decide +kernel
theorem dX4_rest_21 : decode cX4_rest 21 = .ok (.getfield 16, 3) := by decide +kernel
theorem dX4_rest_24 : decode cX4_rest 24 = .ok (.getfield 53, 3) := by decide +kernel
theorem dX4_rest_27 : decode cX4_rest 27 = .ok (.ishl, 1) := by decide +kernel
theorem dX4_rest_28 : decode cX4_rest 28 = .ok (.istore_n 1, 1) := by decide +kernel
theorem dX4_rest_29 : decode cX4_rest 29 = .ok (.iconst 0, 1) := by decide +kernel
theorem dX4_rest_30 : decode cX4_rest 30 = .ok (.istore_n 2, 1) := by decide +kernel
theorem dX4_rest_31 : decode cX4_rest 31 = .ok (.iload_n 2, 1) := by decide +kernel
theorem dX4_rest_32 : decode cX4_rest 32 = .ok (.iload_n 1, 1) := by decide +kernel
theorem dX4_rest_33 : decode cX4_rest 33 = .ok (.if_icmp .ge 19, 3) := by decide +kernel
theorem dX4_rest_36 : decode cX4_rest 36 = .ok (.aload_n 0, 1) := by decide +kernel
theorem dX4_rest_37 : decode cX4_rest 37 = .ok (.iload_n 2, 1) := by decide +kernel
theorem dX4_rest_38 : decode cX4_rest 38 = .ok (.invokevirtual 200, 3) := by decide +kernel
theorem dX4_rest_41 : decode cX4_rest 41 = .ok (.ifCond .eq 5, 3) := by decide +kernel
theorem dX4_rest_44 : decode cX4_rest 44 = .ok (.iload_n 2, 1) := by decide +kernel
theorem dX4_rest_45 : decode cX4_rest 45 = .ok (.ireturn, 1) := by decide +kernel
theorem dX4_rest_46 : decode cX4_rest 46 = .ok (.iinc 2 1, 3) := by decide +kernel
theorem dX4_rest_49 : decode cX4_rest 49 = .ok (.goto (-18), 3) := by decide +kernel
theorem dX4_rest_52 : decode cX4_rest 52 = .ok (.aload_n 0, 1) := by decide +kernel
theorem dX4_rest_53 : decode cX4_rest 53 = .ok (.ldc 179, 2) := by decide +kernel
theorem dX4_rest_55 : decode cX4_rest 55 = .ok (.invokevirtual 49, 3) := by decide +kernel
theorem dX4_rest_58 : decode cX4_rest 58 = .ok (.ireturn, 1) := by decide +kernel
theorem dX4_feed_0 : decode cX4_feed 0 = .ok (.iload_n 2, 1) := by decide +kernel
theorem dX4_feed_1 : decode cX4_feed 1 = .ok (.iconst 1, 1) := by decide +kernel
theorem dX4_feed_2 : decode cX4_feed 2 = .ok (.iconst 4, 1) := by decide +kernel
theorem dX4_feed_3 : decode cX4_feed 3 = .ok (.invokestatic 122, 3) := by decide +kernel
theorem dX4_feed_6 : decode cX4_feed 6 = .ok (.ifCond .ne 10, 3) := by decide +kernel
theorem dX4_feed_9 : decode cX4_feed 9 = .ok (.aload_n 0, 1) := by decide +kernel
theorem dX4_feed_10 : decode cX4_feed 10 = .ok (.ldc 48, 2) := by decide +kernel
theorem dX4_feed_12 : decode cX4_feed 12 = .ok (.invokevirtual 49, 3) := by decide +kernel
theorem dX4_feed_15 : decode cX4_feed 15 = .ok (.ireturn, 1) := by decide +kernel
theorem dX4_feed_16 : decode cX4_feed 16 = .ok (.aload_n 0, 1) := by decide +kernel
theorem dX4_feed_17 : decode cX4_feed 17 = .ok (.getfield 33, 3) := by decide +kernel
theorem dX4_feed_20 : decode cX4_feed 20 = .ok (.getfield 203, 3) := by decide +kernel
theorem dX4_feed_23 : decode cX4_feed 23 = .ok (.iload_n 2, 1) := by decide +kernel
theorem dX4_feed_24 : decode cX4_feed 24 = .ok (.iadd, 1) := by decide +kernel
theorem dX4_feed_25 : decode cX4_feed 25 = .ok (.bipush 120, 2) := by decide +kernel
theorem dX4_feed_27 : decode cX4_feed 27 = .ok (.if_icmp .le 10, 3) := by decide +kernel
theorem dX4_feed_30 : decode cX4_feed 30 = .ok (.aload_n 0, 1) := by decide +kernel
theorem dX4_feed_31 : decode cX4_feed 31 = .ok (.ldc 57, 2) := by decide +kernel
theorem dX4_feed_33 : decode cX4_feed 33 = .ok (.invokevirtual 49, 3) := by decide +kernel
theorem dX4_feed_36 : decode cX4_feed 36 = .ok (.ireturn, 1) := by decide +kernel
theorem dX4_feed_37 : decode cX4_feed 37 = .ok (.iload_n 2, 1) := by decide +kernel
theorem dX4_feed_38 : decode cX4_feed 38 = .ok (.iconst 1, 1) := by decide +kernel
theorem dX4_feed_39 : decode cX4_feed 39 = .ok (.isub, 1) := by decide +kernel
theorem dX4_feed_40 : decode cX4_feed 40 = .ok (.istore_n 3, 1) := by decide +kernel
theorem dX4_feed_41 : decode cX4_feed 41 = .ok (.iload_n 3, 1) := by decide +kernel
theorem dX4_feed_42 : decode cX4_feed 42 = .ok (.ifCond .lt 23, 3) := by decide +kernel
theorem dX4_feed_45 : decode cX4_feed 45 = .ok (.aload_n 0, 1) := by decide +kernel
theorem dX4_feed_46 : decode cX4_feed 46 = .ok (.getfield 33, 3) := by decide +kernel
theorem dX4_feed_49 : decode cX4_feed 49 = .ok (.iload_n 1, 1) := by decide +kernel
theorem dX4_feed_50 : decode cX4_feed 50 = .ok (.bipush 8, 2) := by decide +kernel
theorem dX4_feed_52 : decode cX4_feed 52 = .ok (.iload_n 3, 1) := by decide +kernel
theorem dX4_feed_53 : decode cX4_feed 53 = .ok (.imul, 1) := by decide +kernel
theorem dX4_feed_54 : decode cX4_feed 54 = .ok (.ishr, 1) := by decide +kernel
theorem dX4_feed_55 : decode cX4_feed 55 = .ok (.i2b, 1) := by decide +kernel
theorem dX4_feed_56 : decode cX4_feed 56 = .ok (.invokevirtual 206, 3) := by decide +kernel
theorem dX4_feed_59 : decode cX4_feed 59 = .ok (.iinc 3 (-1), 3) := by decide +kernel
theorem dX4_feed_62 : decode cX4_feed 62 = .ok (.goto (-21), 3) := by decide +kernel
theorem dX4_feed_65 : decode cX4_feed 65 = .ok (.aload_n 0, 1) := by decide +kernel
theorem dX4_feed_66 : decode cX4_feed 66 = .ok (.getfield 33, 3) := by decide +kernel
theorem dX4_feed_69 : decode cX4_feed 69 = .ok (.getfield 203, 3) := by decide +kernel
theorem dX4_feed_72 : decode cX4_feed 72 = .ok (.ireturn, 1) := by decide +kernel
theorem dX4_wipe_0 : decode cX4_wipe 0 = .ok (.aload_n 0, 1) := by decide +kernel
theorem dX4_wipe_1 : decode cX4_wipe 1 = .ok (.getfield 33, 3) := by decide +kernel
theorem dX4_wipe_4 : decode cX4_wipe 4 = .ok (.getfield 203, 3) := by decide +kernel
theorem dX4_wipe_7 : decode cX4_wipe 7 = .ok (.istore_n 1, 1) := by decide +kernel
theorem dX4_wipe_8 : decode cX4_wipe 8 = .ok (.aload_n 0, 1) := by decide +kernel
theorem dX4_wipe_9 : decode cX4_wipe 9 = .ok (.getfield 33, 3) := by decide +kernel
theorem dX4_wipe_12 : decode cX4_wipe 12 = .ok (.iconst 0, 1) := by decide +kernel
theorem dX4_wipe_13 : decode cX4_wipe 13 = .ok (.putfield 203, 3) := by decide +kernel
theorem dX4_wipe_16 : decode cX4_wipe 16 = .ok (.iload_n 1, 1) := by decide +kernel
theorem dX4_wipe_17 : decode cX4_wipe 17 = .ok (.ireturn, 1) := by decide +kernel
theorem dX4_square_0 : decode cX4_square 0 = .ok (.aload_n 0, 1) := by decide +kernel
theorem dX4_square_1 : decode cX4_square 1 = .ok (.getfield 20, 3) := by decide +kernel
theorem dX4_square_4 : decode cX4_square 4 = .ok (.aload_n 0, 1) := by decide +kernel
theorem dX4_square_5 : decode cX4_square 5 = .ok (.getfield 16, 3) := by decide +kernel
theorem dX4_square_8 : decode cX4_square 8 = .ok (.invokevirtual 175, 3) := by decide +kernel
theorem dX4_square_11 : decode cX4_square 11 = .ok (.aload_n 0, 1) := by decide +kernel
theorem dX4_square_12 : decode cX4_square 12 = .ok (.getfield 33, 3) := by decide +kernel
theorem dX4_square_15 : decode cX4_square 15 = .ok (.aload_n 0, 1) := by decide +kernel
theorem dX4_square_16 : decode cX4_square 16 = .ok (.getfield 20, 3) := by decide +kernel
theorem dX4_square_19 : decode cX4_square 19 = .ok (.invokevirtual 210, 3) := by decide +kernel
theorem dX4_square_22 : decode cX4_square 22 = .ok (.istore_n 1, 1) := by decide +kernel
theorem dX4_square_23 : decode cX4_square 23 = .ok (.aload_n 0, 1) := by decide +kernel
theorem dX4_square_24 : decode cX4_square 24 = .ok (.getfield 33, 3) := by decide +kernel
theorem dX4_square_27 : decode cX4_square 27 = .ok (.iconst 0, 1) := by decide +kernel
theorem dX4_square_28 : decode cX4_square 28 = .ok (.putfield 203, 3) := by decide +kernel
theorem dX4_square_31 : decode cX4_square 31 = .ok (.iload_n 1, 1) := by decide +kernel
theorem dX4_square_32 : decode cX4_square 32 = .ok (.ifCond .lt 14, 3) := by decide +kernel
theorem dX4_square_35 : decode cX4_square 35 = .ok (.aload_n 0, 1) := by decide +kernel
theorem dX4_square_36 : decode cX4_square 36 = .ok (.getfield 16, 3) := by decide +kernel
theorem dX4_square_39 : decode cX4_square 39 = .ok (.aload_n 0, 1) := by decide +kernel
theorem dX4_square_40 : decode cX4_square 40 = .ok (.getfield 20, 3) := by decide +kernel
theorem dX4_square_43 : decode cX4_square 43 = .ok (.invokevirtual 175, 3) := by decide +kernel
theorem dX4_square_46 : decode cX4_square 46 = .ok (.iload_n 1, 1) := by decide +kernel
theorem dX4_square_47 : decode cX4_square 47 = .ok (.ireturn, 1) := by decide +kernel
theorem dX4_sheet_0 : decode cX4_sheet 0 = .ok (.iload_n 1, 1) := by decide +kernel
theorem dX4_sheet_1 : decode cX4_sheet 1 = .ok (.invokestatic 214, 3) := by decide +kernel
theorem dX4_sheet_4 : decode cX4_sheet 4 = .ok (.ifCond .eq 10, 3) := by decide +kernel
theorem dX4_sheet_7 : decode cX4_sheet 7 = .ok (.iload_n 2, 1) := by decide +kernel
theorem dX4_sheet_8 : decode cX4_sheet 8 = .ok (.invokestatic 217, 3) := by decide +kernel
theorem dX4_sheet_11 : decode cX4_sheet 11 = .ok (.ifCond .ne 10, 3) := by decide +kernel
theorem dX4_sheet_14 : decode cX4_sheet 14 = .ok (.aload_n 0, 1) := by decide +kernel
theorem dX4_sheet_15 : decode cX4_sheet 15 = .ok (.ldc 48, 2) := by decide +kernel
theorem dX4_sheet_17 : decode cX4_sheet 17 = .ok (.invokevirtual 49, 3) := by decide +kernel
theorem dX4_sheet_20 : decode cX4_sheet 20 = .ok (.ireturn, 1) := by decide +kernel
theorem dX4_sheet_21 : decode cX4_sheet 21 = .ok (.iload_n 3, 1) := by decide +kernel
theorem dX4_sheet_22 : decode cX4_sheet 22 = .ok (.ifCond .ge 10, 3) := by decide +kernel
theorem dX4_sheet_25 : decode cX4_sheet 25 = .ok (.aload_n 0, 1) := by decide +kernel
theorem dX4_sheet_26 : decode cX4_sheet 26 = .ok (.ldc 199, 2) := by decide +kernel
theorem dX4_sheet_28 : decode cX4_sheet 28 = .ok (.invokevirtual 49, 3) := by decide +kernel
theorem dX4_sheet_31 : decode cX4_sheet 31 = .ok (.ireturn, 1) := by decide +kernel
theorem dX4_sheet_32 : decode cX4_sheet 32 = .ok (.iload_n 3, 1) := by decide +kernel
theorem dX4_sheet_33 : decode cX4_sheet 33 = .ok (.bipush 40, 2) := by decide +kernel
theorem dX4_sheet_35 : decode cX4_sheet 35 = .ok (.if_icmp .le 10, 3) := by decide +kernel
theorem dX4_sheet_38 : decode cX4_sheet 38 = .ok (.aload_n 0, 1) := by decide +kernel
theorem dX4_sheet_39 : decode cX4_sheet 39 = .ok (.ldc 48, 2) := by decide +kernel
theorem dX4_sheet_41 : decode cX4_sheet 41 = .ok (.invokevirtual 49, 3) := by decide +kernel
theorem dX4_sheet_44 : decode cX4_sheet 44 = .ok (.ireturn, 1) := by decide +kernel
theorem dX4_sheet_45 : decode cX4_sheet 45 = .ok (.aload_n 0, 1) := by decide +kernel
theorem dX4_sheet_46 : decode cX4_sheet 46 = .ok (.getfield 39, 3) := by decide +kernel
theorem dX4_sheet_49 : decode cX4_sheet 49 = .ok (.iload_n 1, 1) := by decide +kernel
theorem dX4_sheet_50 : decode cX4_sheet 50 = .ok (.aaload, 1) := by decide +kernel
theorem dX4_sheet_51 : decode cX4_sheet 51 = .ok (.iload_n 2, 1) := by decide +kernel
theorem dX4_sheet_52 : decode cX4_sheet 52 = .ok (.iload_n 2, 1) := by decide +kernel
theorem dX4_sheet_53 : decode cX4_sheet 53 = .ok (.ifCond .ne 7, 3) := by decide +kernel
theorem dX4_sheet_56 : decode cX4_sheet 56 = .ok (.iconst 0, 1) := by decide +kernel
theorem dX4_sheet_57 : decode cX4_sheet 57 = .ok (.goto 4, 3) := by decide +kernel
theorem dX4_sheet_60 : decode cX4_sheet 60 = .ok (.iload_n 3, 1) := by decide +kernel
theorem dX4_sheet_61 : decode cX4_sheet 61 = .ok (.invokevirtual 220, 3) := by decide +kernel
theorem dX4_sheet_64 : decode cX4_sheet 64 = .ok (.aload_n 0, 1) := by decide +kernel
theorem dX4_sheet_65 : decode cX4_sheet 65 = .ok (.getfield 39, 3) := by decide +kernel
theorem dX4_sheet_68 : decode cX4_sheet 68 = .ok (.iload_n 1, 1) := by decide +kernel
theorem dX4_sheet_69 : decode cX4_sheet 69 = .ok (.aaload, 1) := by decide +kernel
theorem dX4_sheet_70 : decode cX4_sheet 70 = .ok (.getfield 223, 3) := by decide +kernel
theorem dX4_sheet_73 : decode cX4_sheet 73 = .ok (.ireturn, 1) := by decide +kernel
theorem dX4_write_0 : decode cX4_write 0 = .ok (.iload_n 1, 1) := by decide +kernel
theorem dX4_write_1 : decode cX4_write 1 = .ok (.invokestatic 214, 3) := by decide +kernel
theorem dX4_write_4 : decode cX4_write 4 = .ok (.ifCond .ne 11, 3) := by decide +kernel
theorem dX4_write_7 : decode cX4_write 7 = .ok (.aload_n 0, 1) := by decide +kernel
theorem dX4_write_8 : decode cX4_write 8 = .ok (.ldc 48, 2) := by decide +kernel
theorem dX4_write_10 : decode cX4_write 10 = .ok (.invokevirtual 49, 3) := by decide +kernel
theorem dX4_write_13 : decode cX4_write 13 = .ok (.i2l, 1) := by decide +kernel
theorem dX4_write_14 : decode cX4_write 14 = .ok (.lreturn, 1) := by decide +kernel
theorem dX4_write_15 : decode cX4_write 15 = .ok (.aload_n 0, 1) := by decide +kernel
theorem dX4_write_16 : decode cX4_write 16 = .ok (.getfield 39, 3) := by decide +kernel
theorem dX4_write_19 : decode cX4_write 19 = .ok (.iload_n 1, 1) := by decide +kernel
theorem dX4_write_20 : decode cX4_write 20 = .ok (.aaload, 1) := by decide +kernel
theorem dX4_write_21 : decode cX4_write 21 = .ok (.invokevirtual 224, 3) := by decide +kernel
theorem dX4_write_24 : decode cX4_write 24 = .ok (.ifCond .eq 11, 3) := by decide +kernel
theorem dX4_write_27 : decode cX4_write 27 = .ok (.aload_n 0, 1) := by decide +kernel
theorem dX4_write_28 : decode cX4_write 28 = .ok (.ldc 228, 2) := by decide +kernel
theorem dX4_write_30 : decode cX4_write 30 = .ok (.invokevirtual 49, 3) := by decide +kernel
theorem dX4_write_33 : decode cX4_write 33 = .ok (.i2l, 1) := by decide +kernel
theorem dX4_write_34 : decode cX4_write 34 = .ok (.lreturn, 1) := by decide +kernel
theorem dX4_write_35 : decode cX4_write 35 = .ok (.iload_n 2, 1) := by decide +kernel
theorem dX4_write_36 : decode cX4_write 36 = .ok (.ifCond .lt 16, 3) := by decide +kernel
theorem dX4_write_39 : decode cX4_write 39 = .ok (.iload_n 2, 1) := by decide +kernel
theorem dX4_write_40 : decode cX4_write 40 = .ok (.aload_n 0, 1) := by decide +kernel
theorem dX4_write_41 : decode cX4_write 41 = .ok (.getfield 39, 3) := by decide +kernel
theorem dX4_write_44 : decode cX4_write 44 = .ok (.iload_n 1, 1) := by decide +kernel
theorem dX4_write_45 : decode cX4_write 45 = .ok (.aaload, 1) := by decide +kernel
theorem dX4_write_46 : decode cX4_write 46 = .ok (.getfield 223, 3) := by decide +kernel
theorem dX4_write_49 : decode cX4_write 49 = .ok (.if_icmp .lt 11, 3) := by decide +kernel
theorem dX4_write_52 : decode cX4_write 52 = .ok (.aload_n 0, 1) := by decide +kernel
theorem dX4_write_53 : decode cX4_write 53 = .ok (.ldc 48, 2) := by decide +kernel
theorem dX4_write_55 : decode cX4_write 55 = .ok (.invokevirtual 49, 3) := by decide +kernel
theorem dX4_write_58 : decode cX4_write 58 = .ok (.i2l, 1) := by decide +kernel
theorem dX4_write_59 : decode cX4_write 59 = .ok (.lreturn, 1) := by decide +kernel
theorem dX4_write_60 : decode cX4_write 60 = .ok (.aload_n 0, 1) := by decide +kernel
theorem dX4_write_61 : decode cX4_write 61 = .ok (.getfield 39, 3) := by decide +kernel
theorem dX4_write_64 : decode cX4_write 64 = .ok (.iload_n 1, 1) := by decide +kernel
theorem dX4_write_65 : decode cX4_write 65 = .ok (.aaload, 1) := by decide +kernel
theorem dX4_write_66 : decode cX4_write 66 = .ok (.getfield 229, 3) := by decide +kernel
theorem dX4_write_69 : decode cX4_write 69 = .ok (.iload_n 2, 1) := by decide +kernel
theorem dX4_write_70 : decode cX4_write 70 = .ok (.laload, 1) := by decide +kernel
theorem dX4_write_71 : decode cX4_write 71 = .ok (.lstore 5, 2) := by decide +kernel
theorem dX4_write_73 : decode cX4_write 73 = .ok (.aload_n 0, 1) := by decide +kernel
theorem dX4_write_74 : decode cX4_write 74 = .ok (.getfield 39, 3) := by decide +kernel
theorem dX4_write_77 : decode cX4_write 77 = .ok (.iload_n 1, 1) := by decide +kernel
theorem dX4_write_78 : decode cX4_write 78 = .ok (.aaload, 1) := by decide +kernel
theorem dX4_write_79 : decode cX4_write 79 = .ok (.iload_n 2, 1) := by decide +kernel
theorem dX4_write_80 : decode cX4_write 80 = .ok (.lload_n 3, 1) := by decide +kernel
theorem dX4_write_81 : decode cX4_write 81 = .ok (.invokevirtual 233, 3) := by decide +kernel
theorem dX4_write_84 : decode cX4_write 84 = .ok (.lload 5, 2) := by decide +kernel
theorem dX4_write_86 : decode cX4_write 86 = .ok (.lreturn, 1) := by decide +kernel
theorem dX4_copy_0 : decode cX4_copy 0 = .ok (.iload_n 1, 1) := by decide +kernel
theorem dX4_copy_1 : decode cX4_copy 1 = .ok (.invokestatic 214, 3) := by decide +kernel
theorem dX4_copy_4 : decode cX4_copy 4 = .ok (.ifCond .eq 10, 3) := by decide +kernel
theorem dX4_copy_7 : decode cX4_copy 7 = .ok (.iload_n 3, 1) := by decide +kernel
theorem dX4_copy_8 : decode cX4_copy 8 = .ok (.invokestatic 214, 3) := by decide +kernel
theorem dX4_copy_11 : decode cX4_copy 11 = .ok (.ifCond .ne 10, 3) := by decide +kernel
theorem dX4_copy_14 : decode cX4_copy 14 = .ok (.aload_n 0, 1) := by decide +kernel
theorem dX4_copy_15 : decode cX4_copy 15 = .ok (.ldc 48, 2) := by decide +kernel
theorem dX4_copy_17 : decode cX4_copy 17 = .ok (.invokevirtual 49, 3) := by decide +kernel
theorem dX4_copy_20 : decode cX4_copy 20 = .ok (.ireturn, 1) := by decide +kernel
theorem dX4_copy_21 : decode cX4_copy 21 = .ok (.aload_n 0, 1) := by decide +kernel
theorem dX4_copy_22 : decode cX4_copy 22 = .ok (.getfield 39, 3) := by decide +kernel
theorem dX4_copy_25 : decode cX4_copy 25 = .ok (.iload_n 1, 1) := by decide +kernel
theorem dX4_copy_26 : decode cX4_copy 26 = .ok (.aaload, 1) := by decide +kernel
theorem dX4_copy_27 : decode cX4_copy 27 = .ok (.invokevirtual 224, 3) := by decide +kernel
theorem dX4_copy_30 : decode cX4_copy 30 = .ok (.ifCond .ne 15, 3) := by decide +kernel
theorem dX4_copy_33 : decode cX4_copy 33 = .ok (.aload_n 0, 1) := by decide +kernel
theorem dX4_copy_34 : decode cX4_copy 34 = .ok (.getfield 39, 3) := by decide +kernel
theorem dX4_copy_37 : decode cX4_copy 37 = .ok (.iload_n 3, 1) := by decide +kernel
theorem dX4_copy_38 : decode cX4_copy 38 = .ok (.aaload, 1) := by decide +kernel
theorem dX4_copy_39 : decode cX4_copy 39 = .ok (.invokevirtual 224, 3) := by decide +kernel
theorem dX4_copy_42 : decode cX4_copy 42 = .ok (.ifCond .eq 10, 3) := by decide +kernel
theorem dX4_copy_45 : decode cX4_copy 45 = .ok (.aload_n 0, 1) := by decide +kernel
theorem dX4_copy_46 : decode cX4_copy 46 = .ok (.ldc 228, 2) := by decide +kernel
theorem dX4_copy_48 : decode cX4_copy 48 = .ok (.invokevirtual 49, 3) := by decide +kernel
theorem dX4_copy_51 : decode cX4_copy 51 = .ok (.ireturn, 1) := by decide +kernel
theorem dX4_copy_52 : decode cX4_copy 52 = .ok (.aload_n 0, 1) := by decide +kernel
theorem dX4_copy_53 : decode cX4_copy 53 = .ok (.getfield 39, 3) := by decide +kernel
theorem dX4_copy_56 : decode cX4_copy 56 = .ok (.iload_n 1, 1) := by decide +kernel
theorem dX4_copy_57 : decode cX4_copy 57 = .ok (.aaload, 1) := by decide +kernel
theorem dX4_copy_58 : decode cX4_copy 58 = .ok (.getfield 237, 3) := by decide +kernel
theorem dX4_copy_61 : decode cX4_copy 61 = .ok (.aload_n 0, 1) := by decide +kernel
theorem dX4_copy_62 : decode cX4_copy 62 = .ok (.getfield 39, 3) := by decide +kernel
theorem dX4_copy_65 : decode cX4_copy 65 = .ok (.iload_n 3, 1) := by decide +kernel
theorem dX4_copy_66 : decode cX4_copy 66 = .ok (.aaload, 1) := by decide +kernel
theorem dX4_copy_67 : decode cX4_copy 67 = .ok (.getfield 237, 3) := by decide +kernel
theorem dX4_copy_70 : decode cX4_copy 70 = .ok (.if_icmp .eq 10, 3) := by decide +kernel
theorem dX4_copy_73 : decode cX4_copy 73 = .ok (.aload_n 0, 1) := by decide +kernel
theorem dX4_copy_74 : decode cX4_copy 74 = .ok (.ldc 108, 2) := by decide +kernel
theorem dX4_copy_76 : decode cX4_copy 76 = .ok (.invokevirtual 49, 3) := by decide +kernel
theorem dX4_copy_79 : decode cX4_copy 79 = .ok (.ireturn, 1) := by decide +kernel
theorem dX4_copy_80 : decode cX4_copy 80 = .ok (.aload_n 0, 1) := by decide +kernel
theorem dX4_copy_81 : decode cX4_copy 81 = .ok (.getfield 39, 3) := by decide +kernel
theorem dX4_copy_84 : decode cX4_copy 84 = .ok (.iload_n 1, 1) := by decide +kernel
theorem dX4_copy_85 : decode cX4_copy 85 = .ok (.aaload, 1) := by decide +kernel
theorem dX4_copy_86 : decode cX4_copy 86 = .ok (.iload_n 2, 1) := by decide +kernel
theorem dX4_copy_87 : decode cX4_copy 87 = .ok (.iload 5, 2) := by decide +kernel
theorem dX4_copy_89 : decode cX4_copy 89 = .ok (.invokevirtual 240, 3) := by decide +kernel
theorem dX4_copy_92 : decode cX4_copy 92 = .ok (.ifCond .eq 19, 3) := by decide +kernel
theorem dX4_copy_95 : decode cX4_copy 95 = .ok (.aload_n 0, 1) := by decide +kernel
theorem dX4_copy_96 : decode cX4_copy 96 = .ok (.getfield 39, 3) := by decide +kernel
theorem dX4_copy_99 : decode cX4_copy 99 = .ok (.iload_n 3, 1) := by decide +kernel
theorem dX4_copy_100 : decode cX4_copy 100 = .ok (.aaload, 1) := by decide +kernel
theorem dX4_copy_101 : decode cX4_copy 101 = .ok (.iload 4, 2) := by decide +kernel
theorem dX4_copy_103 : decode cX4_copy 103 = .ok (.iload 5, 2) := by decide +kernel
theorem dX4_copy_105 : decode cX4_copy 105 = .ok (.invokevirtual 240, 3) := by decide +kernel
theorem dX4_copy_108 : decode cX4_copy 108 = .ok (.ifCond .ne 10, 3) := by decide +kernel
theorem dX4_copy_111 : decode cX4_copy 111 = .ok (.aload_n 0, 1) := by decide +kernel
theorem dX4_copy_112 : decode cX4_copy 112 = .ok (.ldc 48, 2) := by decide +kernel
theorem dX4_copy_114 : decode cX4_copy 114 = .ok (.invokevirtual 49, 3) := by decide +kernel
theorem dX4_copy_117 : decode cX4_copy 117 = .ok (.ireturn, 1) := by decide +kernel
theorem dX4_copy_118 : decode cX4_copy 118 = .ok (.aload_n 0, 1) := by decide +kernel
theorem dX4_copy_119 : decode cX4_copy 119 = .ok (.getfield 39, 3) := by decide +kernel
theorem dX4_copy_122 : decode cX4_copy 122 = .ok (.iload_n 1, 1) := by decide +kernel
theorem dX4_copy_123 : decode cX4_copy 123 = .ok (.aaload, 1) := by decide +kernel
theorem dX4_copy_124 : decode cX4_copy 124 = .ok (.getfield 229, 3) := by decide +kernel
theorem dX4_copy_127 : decode cX4_copy 127 = .ok (.iload_n 2, 1) := by decide +kernel
theorem dX4_copy_128 : decode cX4_copy 128 = .ok (.aload_n 0, 1) := by decide +kernel
theorem dX4_copy_129 : decode cX4_copy 129 = .ok (.getfield 39, 3) := by decide +kernel
theorem dX4_copy_132 : decode cX4_copy 132 = .ok (.iload_n 3, 1) := by decide +kernel
theorem dX4_copy_133 : decode cX4_copy 133 = .ok (.aaload, 1) := by decide +kernel
theorem dX4_copy_134 : decode cX4_copy 134 = .ok (.getfield 229, 3) := by decide +kernel
theorem dX4_copy_137 : decode cX4_copy 137 = .ok (.iload 4, 2) := by decide +kernel
theorem dX4_copy_139 : decode cX4_copy 139 = .ok (.iload 5, 2) := by decide +kernel
theorem dX4_copy_141 : decode cX4_copy 141 = .ok (.invokestatic 243, 3) := by decide +kernel
theorem dX4_copy_144 : decode cX4_copy 144 = .ok (.iload 5, 2) := by decide +kernel
theorem dX4_copy_146 : decode cX4_copy 146 = .ok (.ireturn, 1) := by decide +kernel
theorem dX4_lays_0 : decode cX4_lays 0 = .ok (.iload_n 1, 1) := by decide +kernel
theorem dX4_lays_1 : decode cX4_lays 1 = .ok (.invokestatic 214, 3) := by decide +kernel
theorem dX4_lays_4 : decode cX4_lays 4 = .ok (.ifCond .ne 10, 3) := by decide +kernel
theorem dX4_lays_7 : decode cX4_lays 7 = .ok (.aload_n 0, 1) := by decide +kernel
theorem dX4_lays_8 : decode cX4_lays 8 = .ok (.ldc 48, 2) := by decide +kernel
theorem dX4_lays_10 : decode cX4_lays 10 = .ok (.invokevirtual 49, 3) := by decide +kernel
theorem dX4_lays_13 : decode cX4_lays 13 = .ok (.ireturn, 1) := by decide +kernel
theorem dX4_lays_14 : decode cX4_lays 14 = .ok (.aload_n 0, 1) := by decide +kernel
theorem dX4_lays_15 : decode cX4_lays 15 = .ok (.getfield 39, 3) := by decide +kernel
theorem dX4_lays_18 : decode cX4_lays 18 = .ok (.iload_n 1, 1) := by decide +kernel
theorem dX4_lays_19 : decode cX4_lays 19 = .ok (.aaload, 1) := by decide +kernel
theorem dX4_lays_20 : decode cX4_lays 20 = .ok (.invokevirtual 224, 3) := by decide +kernel
theorem dX4_lays_23 : decode cX4_lays 23 = .ok (.ifCond .eq 10, 3) := by decide +kernel
theorem dX4_lays_26 : decode cX4_lays 26 = .ok (.aload_n 0, 1) := by decide +kernel
theorem dX4_lays_27 : decode cX4_lays 27 = .ok (.ldc 228, 2) := by decide +kernel
theorem dX4_lays_29 : decode cX4_lays 29 = .ok (.invokevirtual 49, 3) := by decide +kernel
theorem dX4_lays_32 : decode cX4_lays 32 = .ok (.ireturn, 1) := by decide +kernel
theorem dX4_lays_33 : decode cX4_lays 33 = .ok (.iconst 0, 1) := by decide +kernel
theorem dX4_lays_34 : decode cX4_lays 34 = .ok (.istore_n 2, 1) := by decide +kernel
theorem dX4_lays_35 : decode cX4_lays 35 = .ok (.aload_n 0, 1) := by decide +kernel
theorem dX4_lays_36 : decode cX4_lays 36 = .ok (.getfield 39, 3) := by decide +kernel
theorem dX4_lays_39 : decode cX4_lays 39 = .ok (.iload_n 1, 1) := by decide +kernel
theorem dX4_lays_40 : decode cX4_lays 40 = .ok (.aaload, 1) := by decide +kernel
theorem dX4_lays_41 : decode cX4_lays 41 = .ok (.getfield 223, 3) := by decide +kernel
theorem dX4_lays_44 : decode cX4_lays 44 = .ok (.aload_n 0, 1) := by decide +kernel
theorem dX4_lays_45 : decode cX4_lays 45 = .ok (.getfield 16, 3) := by decide +kernel
theorem dX4_lays_48 : decode cX4_lays 48 = .ok (.getfield 53, 3) := by decide +kernel
theorem dX4_lays_51 : decode cX4_lays 51 = .ok (.invokestatic 249, 3) := by decide +kernel
theorem dX4_lays_54 : decode cX4_lays 54 = .ok (.istore_n 3, 1) := by decide +kernel
theorem dX4_lays_55 : decode cX4_lays 55 = .ok (.iconst 0, 1) := by decide +kernel
theorem dX4_lays_56 : decode cX4_lays 56 = .ok (.istore 4, 2) := by decide +kernel
theorem dX4_lays_58 : decode cX4_lays 58 = .ok (.iload 4, 2) := by decide +kernel
theorem dX4_lays_60 : decode cX4_lays 60 = .ok (.iload_n 3, 1) := by decide +kernel
theorem dX4_lays_61 : decode cX4_lays 61 = .ok (.if_icmp .ge 58, 3) := by decide +kernel
theorem dX4_lays_64 : decode cX4_lays 64 = .ok (.aload_n 0, 1) := by decide +kernel
theorem dX4_lays_65 : decode cX4_lays 65 = .ok (.getfield 39, 3) := by decide +kernel
theorem dX4_lays_68 : decode cX4_lays 68 = .ok (.iload_n 1, 1) := by decide +kernel
theorem dX4_lays_69 : decode cX4_lays 69 = .ok (.aaload, 1) := by decide +kernel
theorem dX4_lays_70 : decode cX4_lays 70 = .ok (.getfield 229, 3) := by decide +kernel
theorem dX4_lays_73 : decode cX4_lays 73 = .ok (.iload 4, 2) := by decide +kernel
theorem dX4_lays_75 : decode cX4_lays 75 = .ok (.laload, 1) := by decide +kernel
theorem dX4_lays_76 : decode cX4_lays 76 = .ok (.lstore 5, 2) := by decide +kernel
theorem dX4_lays_78 : decode cX4_lays 78 = .ok (.lload 5, 2) := by decide +kernel
theorem dX4_lays_80 : decode cX4_lays 80 = .ok (.lconst 0, 1) := by decide +kernel
theorem dX4_lays_81 : decode cX4_lays 81 = .ok (.lcmp, 1) := by decide +kernel
theorem dX4_lays_82 : decode cX4_lays 82 = .ok (.ifCond .lt 31, 3) := by decide +kernel
theorem dX4_lays_85 : decode cX4_lays 85 = .ok (.lload 5, 2) := by decide +kernel
theorem dX4_lays_87 : decode cX4_lays 87 = .ok (.ldc2_w 252, 3) := by decide +kernel
theorem dX4_lays_90 : decode cX4_lays 90 = .ok (.lcmp, 1) := by decide +kernel
theorem dX4_lays_91 : decode cX4_lays 91 = .ok (.ifCond .gt 22, 3) := by decide +kernel
theorem dX4_lays_94 : decode cX4_lays 94 = .ok (.aload_n 0, 1) := by decide +kernel
theorem dX4_lays_95 : decode cX4_lays 95 = .ok (.getfield 16, 3) := by decide +kernel
theorem dX4_lays_98 : decode cX4_lays 98 = .ok (.getfield 64, 3) := by decide +kernel
theorem dX4_lays_101 : decode cX4_lays 101 = .ok (.iload 4, 2) := by decide +kernel
theorem dX4_lays_103 : decode cX4_lays 103 = .ok (.aaload, 1) := by decide +kernel
theorem dX4_lays_104 : decode cX4_lays 104 = .ok (.lload 5, 2) := by decide +kernel
theorem dX4_lays_106 : decode cX4_lays 106 = .ok (.l2i, 1) := by decide +kernel
theorem dX4_lays_107 : decode cX4_lays 107 = .ok (.putfield 73, 3) := by decide +kernel
theorem dX4_lays_110 : decode cX4_lays 110 = .ok (.iinc 2 1, 3) := by decide +kernel
theorem dX4_lays_113 : decode cX4_lays 113 = .ok (.iinc 4 1, 3) := by decide +kernel
theorem dX4_lays_116 : decode cX4_lays 116 = .ok (.goto (-58), 3) := by decide +kernel
theorem dX4_lays_119 : decode cX4_lays 119 = .ok (.iload_n 2, 1) := by decide +kernel
theorem dX4_lays_120 : decode cX4_lays 120 = .ok (.ireturn, 1) := by decide +kernel
theorem dX4_book_0 : decode cX4_book 0 = .ok (.iload_n 1, 1) := by decide +kernel
theorem dX4_book_1 : decode cX4_book 1 = .ok (.invokestatic 214, 3) := by decide +kernel
theorem dX4_book_4 : decode cX4_book 4 = .ok (.ifCond .ne 10, 3) := by decide +kernel
theorem dX4_book_7 : decode cX4_book 7 = .ok (.aload_n 0, 1) := by decide +kernel
theorem dX4_book_8 : decode cX4_book 8 = .ok (.ldc 48, 2) := by decide +kernel
theorem dX4_book_10 : decode cX4_book 10 = .ok (.invokevirtual 49, 3) := by decide +kernel
theorem dX4_book_13 : decode cX4_book 13 = .ok (.ireturn, 1) := by decide +kernel
theorem dX4_book_14 : decode cX4_book 14 = .ok (.aload_n 0, 1) := by decide +kernel
theorem dX4_book_15 : decode cX4_book 15 = .ok (.getfield 39, 3) := by decide +kernel
theorem dX4_book_18 : decode cX4_book 18 = .ok (.iload_n 1, 1) := by decide +kernel
theorem dX4_book_19 : decode cX4_book 19 = .ok (.aaload, 1) := by decide +kernel
theorem dX4_book_20 : decode cX4_book 20 = .ok (.invokevirtual 224, 3) := by decide +kernel
theorem dX4_book_23 : decode cX4_book 23 = .ok (.ifCond .eq 10, 3) := by decide +kernel
theorem dX4_book_26 : decode cX4_book 26 = .ok (.aload_n 0, 1) := by decide +kernel
theorem dX4_book_27 : decode cX4_book 27 = .ok (.ldc 228, 2) := by decide +kernel
theorem dX4_book_29 : decode cX4_book 29 = .ok (.invokevirtual 49, 3) := by decide +kernel
theorem dX4_book_32 : decode cX4_book 32 = .ok (.ireturn, 1) := by decide +kernel
theorem dX4_book_33 : decode cX4_book 33 = .ok (.aload_n 0, 1) := by decide +kernel
theorem dX4_book_34 : decode cX4_book 34 = .ok (.getfield 16, 3) := by decide +kernel
theorem dX4_book_37 : decode cX4_book 37 = .ok (.getfield 143, 3) := by decide +kernel
theorem dX4_book_40 : decode cX4_book 40 = .ok (.sipush 9959, 3) := by decide +kernel
theorem dX4_book_43 : decode cX4_book 43 = .ok (.if_icmp .le 10, 3) := by decide +kernel
theorem dX4_book_46 : decode cX4_book 46 = .ok (.aload_n 0, 1) := by decide +kernel
theorem dX4_book_47 : decode cX4_book 47 = .ok (.ldc 146, 2) := by decide +kernel
theorem dX4_book_49 : decode cX4_book 49 = .ok (.invokevirtual 49, 3) := by decide +kernel
theorem dX4_book_52 : decode cX4_book 52 = .ok (.ireturn, 1) := by decide +kernel
theorem dX4_book_53 : decode cX4_book 53 = .ok (.aload_n 0, 1) := by decide +kernel
theorem dX4_book_54 : decode cX4_book 54 = .ok (.getfield 20, 3) := by decide +kernel
theorem dX4_book_57 : decode cX4_book 57 = .ok (.aload_n 0, 1) := by decide +kernel
theorem dX4_book_58 : decode cX4_book 58 = .ok (.getfield 16, 3) := by decide +kernel
theorem dX4_book_61 : decode cX4_book 61 = .ok (.invokevirtual 175, 3) := by decide +kernel
theorem dX4_book_64 : decode cX4_book 64 = .ok (.iconst 0, 1) := by decide +kernel
theorem dX4_book_65 : decode cX4_book 65 = .ok (.istore_n 2, 1) := by decide +kernel
theorem dX4_book_66 : decode cX4_book 66 = .ok (.iload_n 2, 1) := by decide +kernel
theorem dX4_book_67 : decode cX4_book 67 = .ok (.aload_n 0, 1) := by decide +kernel
theorem dX4_book_68 : decode cX4_book 68 = .ok (.getfield 39, 3) := by decide +kernel
theorem dX4_book_71 : decode cX4_book 71 = .ok (.iload_n 1, 1) := by decide +kernel
theorem dX4_book_72 : decode cX4_book 72 = .ok (.aaload, 1) := by decide +kernel
theorem dX4_book_73 : decode cX4_book 73 = .ok (.getfield 223, 3) := by decide +kernel
theorem dX4_book_76 : decode cX4_book 76 = .ok (.if_icmp .ge 37, 3) := by decide +kernel
theorem dX4_book_79 : decode cX4_book 79 = .ok (.aload_n 0, 1) := by decide +kernel
theorem dX4_book_80 : decode cX4_book 80 = .ok (.getfield 20, 3) := by decide +kernel
theorem dX4_book_83 : decode cX4_book 83 = .ok (.iconst (-1), 1) := by decide +kernel
theorem dX4_book_84 : decode cX4_book 84 = .ok (.iconst 0, 1) := by decide +kernel
theorem dX4_book_85 : decode cX4_book 85 = .ok (.invokevirtual 147, 3) := by decide +kernel
theorem dX4_book_88 : decode cX4_book 88 = .ok (.pop, 1) := by decide +kernel
theorem dX4_book_89 : decode cX4_book 89 = .ok (.aload_n 0, 1) := by decide +kernel
theorem dX4_book_90 : decode cX4_book 90 = .ok (.getfield 39, 3) := by decide +kernel
theorem dX4_book_93 : decode cX4_book 93 = .ok (.iload_n 1, 1) := by decide +kernel
theorem dX4_book_94 : decode cX4_book 94 = .ok (.aaload, 1) := by decide +kernel
theorem dX4_book_95 : decode cX4_book 95 = .ok (.iload_n 2, 1) := by decide +kernel
theorem dX4_book_96 : decode cX4_book 96 = .ok (.aload_n 0, 1) := by decide +kernel
theorem dX4_book_97 : decode cX4_book 97 = .ok (.getfield 20, 3) := by decide +kernel
theorem dX4_book_100 : decode cX4_book 100 = .ok (.getfield 153, 3) := by decide +kernel
theorem dX4_book_103 : decode cX4_book 103 = .ok (.i2l, 1) := by decide +kernel
theorem dX4_book_104 : decode cX4_book 104 = .ok (.invokevirtual 233, 3) := by decide +kernel
theorem dX4_book_107 : decode cX4_book 107 = .ok (.iinc 2 1, 3) := by decide +kernel
theorem dX4_book_110 : decode cX4_book 110 = .ok (.goto (-44), 3) := by decide +kernel
theorem dX4_book_113 : decode cX4_book 113 = .ok (.aload_n 0, 1) := by decide +kernel
theorem dX4_book_114 : decode cX4_book 114 = .ok (.getfield 39, 3) := by decide +kernel
theorem dX4_book_117 : decode cX4_book 117 = .ok (.iload_n 1, 1) := by decide +kernel
theorem dX4_book_118 : decode cX4_book 118 = .ok (.aaload, 1) := by decide +kernel
theorem dX4_book_119 : decode cX4_book 119 = .ok (.getfield 223, 3) := by decide +kernel
theorem dX4_book_122 : decode cX4_book 122 = .ok (.ireturn, 1) := by decide +kernel
theorem dX4_read_0 : decode cX4_read 0 = .ok (.iload_n 1, 1) := by decide +kernel
theorem dX4_read_1 : decode cX4_read 1 = .ok (.invokestatic 214, 3) := by decide +kernel
theorem dX4_read_4 : decode cX4_read 4 = .ok (.ifCond .ne 10, 3) := by decide +kernel
theorem dX4_read_7 : decode cX4_read 7 = .ok (.aload_n 0, 1) := by decide +kernel
theorem dX4_read_8 : decode cX4_read 8 = .ok (.ldc 48, 2) := by decide +kernel
theorem dX4_read_10 : decode cX4_read 10 = .ok (.invokevirtual 49, 3) := by decide +kernel
theorem dX4_read_13 : decode cX4_read 13 = .ok (.ireturn, 1) := by decide +kernel
theorem dX4_read_14 : decode cX4_read 14 = .ok (.aload_n 0, 1) := by decide +kernel
theorem dX4_read_15 : decode cX4_read 15 = .ok (.getfield 39, 3) := by decide +kernel
theorem dX4_read_18 : decode cX4_read 18 = .ok (.iload_n 1, 1) := by decide +kernel
theorem dX4_read_19 : decode cX4_read 19 = .ok (.aaload, 1) := by decide +kernel
theorem dX4_read_20 : decode cX4_read 20 = .ok (.invokevirtual 224, 3) := by decide +kernel
theorem dX4_read_23 : decode cX4_read 23 = .ok (.ifCond .eq 10, 3) := by decide +kernel
theorem dX4_read_26 : decode cX4_read 26 = .ok (.aload_n 0, 1) := by decide +kernel
theorem dX4_read_27 : decode cX4_read 27 = .ok (.ldc 228, 2) := by decide +kernel
theorem dX4_read_29 : decode cX4_read 29 = .ok (.invokevirtual 49, 3) := by decide +kernel
theorem dX4_read_32 : decode cX4_read 32 = .ok (.ireturn, 1) := by decide +kernel
theorem dX4_read_33 : decode cX4_read 33 = .ok (.iload_n 2, 1) := by decide +kernel
theorem dX4_read_34 : decode cX4_read 34 = .ok (.iconst 0, 1) := by decide +kernel
theorem dX4_read_35 : decode cX4_read 35 = .ok (.bipush 99, 2) := by decide +kernel
theorem dX4_read_37 : decode cX4_read 37 = .ok (.invokestatic 122, 3) := by decide +kernel
theorem dX4_read_40 : decode cX4_read 40 = .ok (.ifCond .ne 10, 3) := by decide +kernel
theorem dX4_read_43 : decode cX4_read 43 = .ok (.aload_n 0, 1) := by decide +kernel
theorem dX4_read_44 : decode cX4_read 44 = .ok (.ldc 48, 2) := by decide +kernel
theorem dX4_read_46 : decode cX4_read 46 = .ok (.invokevirtual 49, 3) := by decide +kernel
theorem dX4_read_49 : decode cX4_read 49 = .ok (.ireturn, 1) := by decide +kernel
theorem dX4_read_50 : decode cX4_read 50 = .ok (.iconst 0, 1) := by decide +kernel
theorem dX4_read_51 : decode cX4_read 51 = .ok (.istore_n 3, 1) := by decide +kernel
theorem dX4_read_52 : decode cX4_read 52 = .ok (.iconst 1, 1) := by decide +kernel
theorem dX4_read_53 : decode cX4_read 53 = .ok (.aload_n 0, 1) := by decide +kernel
theorem dX4_read_54 : decode cX4_read 54 = .ok (.getfield 16, 3) := by decide +kernel
theorem dX4_read_57 : decode cX4_read 57 = .ok (.getfield 53, 3) := by decide +kernel
theorem dX4_read_60 : decode cX4_read 60 = .ok (.ishl, 1) := by decide +kernel
theorem dX4_read_61 : decode cX4_read 61 = .ok (.istore 4, 2) := by decide +kernel
theorem dX4_read_63 : decode cX4_read 63 = .ok (.iconst 0, 1) := by decide +kernel
theorem dX4_read_64 : decode cX4_read 64 = .ok (.istore 5, 2) := by decide +kernel
theorem dX4_read_66 : decode cX4_read 66 = .ok (.iload 5, 2) := by decide +kernel
theorem dX4_read_68 : decode cX4_read 68 = .ok (.iload 4, 2) := by decide +kernel
theorem dX4_read_70 : decode cX4_read 70 = .ok (.if_icmp .ge 44, 3) := by decide +kernel
theorem dX4_read_73 : decode cX4_read 73 = .ok (.aload_n 0, 1) := by decide +kernel
theorem dX4_read_74 : decode cX4_read 74 = .ok (.getfield 16, 3) := by decide +kernel
theorem dX4_read_77 : decode cX4_read 77 = .ok (.getfield 126, 3) := by decide +kernel
theorem dX4_read_80 : decode cX4_read 80 = .ok (.iload 5, 2) := by decide +kernel
theorem dX4_read_82 : decode cX4_read 82 = .ok (.invokestatic 254, 3) := by decide +kernel
theorem dX4_read_85 : decode cX4_read 85 = .ok (.iadd, 1) := by decide +kernel
theorem dX4_read_86 : decode cX4_read 86 = .ok (.iload_n 2, 1) := by decide +kernel
theorem dX4_read_87 : decode cX4_read 87 = .ok (.if_icmp .ne 21, 3) := by decide +kernel
theorem dX4_read_90 : decode cX4_read 90 = .ok (.aload_n 0, 1) := by decide +kernel
theorem dX4_read_91 : decode cX4_read 91 = .ok (.aload_n 0, 1) := by decide +kernel
theorem dX4_read_92 : decode cX4_read 92 = .ok (.getfield 39, 3) := by decide +kernel
theorem dX4_read_95 : decode cX4_read 95 = .ok (.iload_n 1, 1) := by decide +kernel
theorem dX4_read_96 : decode cX4_read 96 = .ok (.aaload, 1) := by decide +kernel
theorem dX4_read_97 : decode cX4_read 97 = .ok (.iload 5, 2) := by decide +kernel
theorem dX4_read_99 : decode cX4_read 99 = .ok (.invokevirtual 259, 3) := by decide +kernel
theorem dX4_read_102 : decode cX4_read 102 = .ok (.ifCond .eq 6, 3) := by decide +kernel
theorem dX4_read_105 : decode cX4_read 105 = .ok (.iinc 3 1, 3) := by decide +kernel
theorem dX4_read_108 : decode cX4_read 108 = .ok (.iinc 5 1, 3) := by decide +kernel
theorem dX4_read_111 : decode cX4_read 111 = .ok (.goto (-45), 3) := by decide +kernel
theorem dX4_read_114 : decode cX4_read 114 = .ok (.iload_n 3, 1) := by decide +kernel
theorem dX4_read_115 : decode cX4_read 115 = .ok (.ireturn, 1) := by decide +kernel
theorem dX4_image_0 : decode cX4_image 0 = .ok (.aload_n 0, 1) := by decide +kernel
theorem dX4_image_1 : decode cX4_image 1 = .ok (.getfield 23, 3) := by decide +kernel
theorem dX4_image_4 : decode cX4_image 4 = .ok (.aload_n 0, 1) := by decide +kernel
theorem dX4_image_5 : decode cX4_image 5 = .ok (.getfield 16, 3) := by decide +kernel
theorem dX4_image_8 : decode cX4_image 8 = .ok (.invokevirtual 175, 3) := by decide +kernel
theorem dX4_image_11 : decode cX4_image 11 = .ok (.aload_n 0, 1) := by decide +kernel
theorem dX4_image_12 : decode cX4_image 12 = .ok (.iconst 1, 1) := by decide +kernel
theorem dX4_image_13 : decode cX4_image 13 = .ok (.putfield 26, 3) := by decide +kernel
theorem dX4_image_16 : decode cX4_image 16 = .ok (.iconst 1, 1) := by decide +kernel
theorem dX4_image_17 : decode cX4_image 17 = .ok (.ireturn, 1) := by decide +kernel
theorem dX4_undo_0 : decode cX4_undo 0 = .ok (.aload_n 0, 1) := by decide +kernel
theorem dX4_undo_1 : decode cX4_undo 1 = .ok (.getfield 26, 3) := by decide +kernel
theorem dX4_undo_4 : decode cX4_undo 4 = .ok (.ifCond .ne 10, 3) := by decide +kernel
theorem dX4_undo_7 : decode cX4_undo 7 = .ok (.aload_n 0, 1) := by decide +kernel
theorem dX4_undo_8 : decode cX4_undo 8 = .ok (.ldc 179, 2) := by decide +kernel
theorem dX4_undo_10 : decode cX4_undo 10 = .ok (.invokevirtual 49, 3) := by decide +kernel
theorem dX4_undo_13 : decode cX4_undo 13 = .ok (.ireturn, 1) := by decide +kernel
theorem dX4_undo_14 : decode cX4_undo 14 = .ok (.aload_n 0, 1) := by decide +kernel
theorem dX4_undo_15 : decode cX4_undo 15 = .ok (.getfield 16, 3) := by decide +kernel
theorem dX4_undo_18 : decode cX4_undo 18 = .ok (.aload_n 0, 1) := by decide +kernel
theorem dX4_undo_19 : decode cX4_undo 19 = .ok (.getfield 23, 3) := by decide +kernel
theorem dX4_undo_22 : decode cX4_undo 22 = .ok (.invokevirtual 175, 3) := by decide +kernel
theorem dX4_undo_25 : decode cX4_undo 25 = .ok (.aload_n 0, 1) := by decide +kernel
theorem dX4_undo_26 : decode cX4_undo 26 = .ok (.getfield 16, 3) := by decide +kernel
theorem dX4_undo_29 : decode cX4_undo 29 = .ok (.getfield 53, 3) := by decide +kernel
theorem dX4_undo_32 : decode cX4_undo 32 = .ok (.ireturn, 1) := by decide +kernel
theorem dX4_tear_0 : decode cX4_tear 0 = .ok (.aload_n 0, 1) := by decide +kernel
theorem dX4_tear_1 : decode cX4_tear 1 = .ok (.getfield 26, 3) := by decide +kernel
theorem dX4_tear_4 : decode cX4_tear 4 = .ok (.invokestatic 135, 3) := by decide +kernel
theorem dX4_tear_7 : decode cX4_tear 7 = .ok (.istore_n 1, 1) := by decide +kernel
theorem dX4_tear_8 : decode cX4_tear 8 = .ok (.aload_n 0, 1) := by decide +kernel
theorem dX4_tear_9 : decode cX4_tear 9 = .ok (.iconst 0, 1) := by decide +kernel
theorem dX4_tear_10 : decode cX4_tear 10 = .ok (.putfield 26, 3) := by decide +kernel
theorem dX4_tear_13 : decode cX4_tear 13 = .ok (.iload_n 1, 1) := by decide +kernel
theorem dX4_tear_14 : decode cX4_tear 14 = .ok (.ireturn, 1) := by decide +kernel
theorem dX4_count_0 : decode cX4_count 0 = .ok (.iload_n 1, 1) := by decide +kernel
theorem dX4_count_1 : decode cX4_count 1 = .ok (.tableswitch 63 0 3 #[31, 39, 47, 55], 31) := by decide +kernel
theorem dX4_count_32 : decode cX4_count 32 = .ok (.aload_n 0, 1) := by decide +kernel
theorem dX4_count_33 : decode cX4_count 33 = .ok (.getfield 16, 3) := by decide +kernel
theorem dX4_count_36 : decode cX4_count 36 = .ok (.getfield 53, 3) := by decide +kernel
theorem dX4_count_39 : decode cX4_count 39 = .ok (.ireturn, 1) := by decide +kernel
theorem dX4_count_40 : decode cX4_count 40 = .ok (.aload_n 0, 1) := by decide +kernel
theorem dX4_count_41 : decode cX4_count 41 = .ok (.getfield 33, 3) := by decide +kernel
theorem dX4_count_44 : decode cX4_count 44 = .ok (.getfield 203, 3) := by decide +kernel
theorem dX4_count_47 : decode cX4_count 47 = .ok (.ireturn, 1) := by decide +kernel
theorem dX4_count_48 : decode cX4_count 48 = .ok (.aload_n 0, 1) := by decide +kernel
theorem dX4_count_49 : decode cX4_count 49 = .ok (.getfield 16, 3) := by decide +kernel
theorem dX4_count_52 : decode cX4_count 52 = .ok (.invokevirtual 263, 3) := by decide +kernel
theorem dX4_count_55 : decode cX4_count 55 = .ok (.ireturn, 1) := by decide +kernel
theorem dX4_count_56 : decode cX4_count 56 = .ok (.aload_n 0, 1) := by decide +kernel
theorem dX4_count_57 : decode cX4_count 57 = .ok (.getfield 16, 3) := by decide +kernel
theorem dX4_count_60 : decode cX4_count 60 = .ok (.invokevirtual 266, 3) := by decide +kernel
theorem dX4_count_63 : decode cX4_count 63 = .ok (.ireturn, 1) := by decide +kernel
theorem dX4_count_64 : decode cX4_count 64 = .ok (.aload_n 0, 1) := by decide +kernel
theorem dX4_count_65 : decode cX4_count 65 = .ok (.ldc 48, 2) := by decide +kernel
theorem dX4_count_67 : decode cX4_count 67 = .ok (.invokevirtual 49, 3) := by decide +kernel
theorem dX4_count_70 : decode cX4_count 70 = .ok (.ireturn, 1) := by decide +kernel
theorem dX4_status_0 : decode cX4_status 0 = .ok (.iload_n 1, 1) := by decide +kernel
theorem dX4_status_1 : decode cX4_status 1 = .ok (.iconst (-1), 1) := by decide +kernel
theorem dX4_status_2 : decode cX4_status 2 = .ok (.if_icmp .ne 30, 3) := by decide +kernel
theorem dX4_status_5 : decode cX4_status 5 = .ok (.iconst 0, 1) := by decide +kernel
theorem dX4_status_6 : decode cX4_status 6 = .ok (.istore_n 2, 1) := by decide +kernel
theorem dX4_status_7 : decode cX4_status 7 = .ok (.iconst 0, 1) := by decide +kernel
theorem dX4_status_8 : decode cX4_status 8 = .ok (.istore_n 3, 1) := by decide +kernel
theorem dX4_status_9 : decode cX4_status 9 = .ok (.iload_n 3, 1) := by decide +kernel
theorem dX4_status_10 : decode cX4_status 10 = .ok (.bipush 7, 2) := by decide +kernel
theorem dX4_status_12 : decode cX4_status 12 = .ok (.if_icmp .ge 18, 3) := by decide +kernel
theorem dX4_status_15 : decode cX4_status 15 = .ok (.iload_n 2, 1) := by decide +kernel
theorem dX4_status_16 : decode cX4_status 16 = .ok (.aload_n 0, 1) := by decide +kernel
theorem dX4_status_17 : decode cX4_status 17 = .ok (.getfield 9, 3) := by decide +kernel
theorem dX4_status_20 : decode cX4_status 20 = .ok (.iload_n 3, 1) := by decide +kernel
theorem dX4_status_21 : decode cX4_status 21 = .ok (.iaload, 1) := by decide +kernel
theorem dX4_status_22 : decode cX4_status 22 = .ok (.iadd, 1) := by decide +kernel
theorem dX4_status_23 : decode cX4_status 23 = .ok (.istore_n 2, 1) := by decide +kernel
theorem dX4_status_24 : decode cX4_status 24 = .ok (.iinc 3 1, 3) := by decide +kernel
theorem dX4_status_27 : decode cX4_status 27 = .ok (.goto (-18), 3) := by decide +kernel
theorem dX4_status_30 : decode cX4_status 30 = .ok (.iload_n 2, 1) := by decide +kernel
theorem dX4_status_31 : decode cX4_status 31 = .ok (.ireturn, 1) := by decide +kernel
theorem dX4_status_32 : decode cX4_status 32 = .ok (.iload_n 1, 1) := by decide +kernel
theorem dX4_status_33 : decode cX4_status 33 = .ok (.ifCond .lt 9, 3) := by decide +kernel
theorem dX4_status_36 : decode cX4_status 36 = .ok (.iload_n 1, 1) := by decide +kernel
theorem dX4_status_37 : decode cX4_status 37 = .ok (.bipush 7, 2) := by decide +kernel
theorem dX4_status_39 : decode cX4_status 39 = .ok (.if_icmp .lt 10, 3) := by decide +kernel
theorem dX4_status_42 : decode cX4_status 42 = .ok (.aload_n 0, 1) := by decide +kernel
theorem dX4_status_43 : decode cX4_status 43 = .ok (.ldc 48, 2) := by decide +kernel
theorem dX4_status_45 : decode cX4_status 45 = .ok (.invokevirtual 49, 3) := by decide +kernel
theorem dX4_status_48 : decode cX4_status 48 = .ok (.ireturn, 1) := by decide +kernel
theorem dX4_status_49 : decode cX4_status 49 = .ok (.aload_n 0, 1) := by decide +kernel
theorem dX4_status_50 : decode cX4_status 50 = .ok (.getfield 9, 3) := by decide +kernel
theorem dX4_status_53 : decode cX4_status 53 = .ok (.iload_n 1, 1) := by decide +kernel
theorem dX4_status_54 : decode cX4_status 54 = .ok (.iaload, 1) := by decide +kernel
theorem dX4_status_55 : decode cX4_status 55 = .ok (.ireturn, 1) := by decide +kernel
theorem dX4_finding_0 : decode cX4_finding 0 = .ok (.ldc 48, 2) := by decide +kernel
theorem dX4_finding_2 : decode cX4_finding 2 = .ok (.iload_n 1, 1) := by decide +kernel
theorem dX4_finding_3 : decode cX4_finding 3 = .ok (.isub, 1) := by decide +kernel
theorem dX4_finding_4 : decode cX4_finding 4 = .ok (.istore_n 2, 1) := by decide +kernel
theorem dX4_finding_5 : decode cX4_finding 5 = .ok (.iload_n 2, 1) := by decide +kernel
theorem dX4_finding_6 : decode cX4_finding 6 = .ok (.ifCond .lt 19, 3) := by decide +kernel
theorem dX4_finding_9 : decode cX4_finding 9 = .ok (.iload_n 2, 1) := by decide +kernel
theorem dX4_finding_10 : decode cX4_finding 10 = .ok (.bipush 7, 2) := by decide +kernel
theorem dX4_finding_12 : decode cX4_finding 12 = .ok (.if_icmp .ge 13, 3) := by decide +kernel
theorem dX4_finding_15 : decode cX4_finding 15 = .ok (.aload_n 0, 1) := by decide +kernel
theorem dX4_finding_16 : decode cX4_finding 16 = .ok (.getfield 9, 3) := by decide +kernel
theorem dX4_finding_19 : decode cX4_finding 19 = .ok (.iload_n 2, 1) := by decide +kernel
theorem dX4_finding_20 : decode cX4_finding 20 = .ok (.dup2, 1) := by decide +kernel
theorem dX4_finding_21 : decode cX4_finding 21 = .ok (.iaload, 1) := by decide +kernel
theorem dX4_finding_22 : decode cX4_finding 22 = .ok (.iconst 1, 1) := by decide +kernel
theorem dX4_finding_23 : decode cX4_finding 23 = .ok (.iadd, 1) := by decide +kernel
theorem dX4_finding_24 : decode cX4_finding 24 = .ok (.iastore, 1) := by decide +kernel
theorem dX4_finding_25 : decode cX4_finding 25 = .ok (.iload_n 1, 1) := by decide +kernel
theorem dX4_finding_26 : decode cX4_finding 26 = .ok (.ireturn, 1) := by decide +kernel
theorem dX4_isWithin_0 : decode cX4_isWithin 0 = .ok (.iload_n 0, 1) := by decide +kernel
theorem dX4_isWithin_1 : decode cX4_isWithin 1 = .ok (.iload_n 1, 1) := by decide +kernel
theorem dX4_isWithin_2 : decode cX4_isWithin 2 = .ok (.if_icmp .lt 12, 3) := by decide +kernel
theorem dX4_isWithin_5 : decode cX4_isWithin 5 = .ok (.iload_n 0, 1) := by decide +kernel
theorem dX4_isWithin_6 : decode cX4_isWithin 6 = .ok (.iload_n 2, 1) := by decide +kernel
theorem dX4_isWithin_7 : decode cX4_isWithin 7 = .ok (.if_icmp .gt 7, 3) := by decide +kernel
theorem dX4_isWithin_10 : decode cX4_isWithin 10 = .ok (.iconst 1, 1) := by decide +kernel
theorem dX4_isWithin_11 : decode cX4_isWithin 11 = .ok (.goto 4, 3) := by decide +kernel
theorem dX4_isWithin_14 : decode cX4_isWithin 14 = .ok (.iconst 0, 1) := by decide +kernel
theorem dX4_isWithin_15 : decode cX4_isWithin 15 = .ok (.ireturn, 1) := by decide +kernel
theorem dX4_oneIf_0 : decode cX4_oneIf 0 = .ok (.iload_n 0, 1) := by decide +kernel
theorem dX4_oneIf_1 : decode cX4_oneIf 1 = .ok (.ifCond .eq 7, 3) := by decide +kernel
theorem dX4_oneIf_4 : decode cX4_oneIf 4 = .ok (.iconst 1, 1) := by decide +kernel
theorem dX4_oneIf_5 : decode cX4_oneIf 5 = .ok (.goto 4, 3) := by decide +kernel
theorem dX4_oneIf_8 : decode cX4_oneIf 8 = .ok (.iconst 0, 1) := by decide +kernel
theorem dX4_oneIf_9 : decode cX4_oneIf 9 = .ok (.ireturn, 1) := by decide +kernel
theorem dX4_isKind_0 : decode cX4_isKind 0 = .ok (.iload_n 0, 1) := by decide +kernel
theorem dX4_isKind_1 : decode cX4_isKind 1 = .ok (.ifCond .lt 13, 3) := by decide +kernel
theorem dX4_isKind_4 : decode cX4_isKind 4 = .ok (.iload_n 0, 1) := by decide +kernel
theorem dX4_isKind_5 : decode cX4_isKind 5 = .ok (.bipush 6, 2) := by decide +kernel
theorem dX4_isKind_7 : decode cX4_isKind 7 = .ok (.if_icmp .ge 7, 3) := by decide +kernel
theorem dX4_isKind_10 : decode cX4_isKind 10 = .ok (.iconst 1, 1) := by decide +kernel
theorem dX4_isKind_11 : decode cX4_isKind 11 = .ok (.goto 4, 3) := by decide +kernel
theorem dX4_isKind_14 : decode cX4_isKind 14 = .ok (.iconst 0, 1) := by decide +kernel
theorem dX4_isKind_15 : decode cX4_isKind 15 = .ok (.ireturn, 1) := by decide +kernel
theorem dX4_isOf_0 : decode cX4_isOf 0 = .ok (.iload_n 0, 1) := by decide +kernel
theorem dX4_isOf_1 : decode cX4_isOf 1 = .ok (.istore_n 2, 1) := by decide +kernel
theorem dX4_isOf_2 : decode cX4_isOf 2 = .ok (.iconst 0, 1) := by decide +kernel
theorem dX4_isOf_3 : decode cX4_isOf 3 = .ok (.istore_n 3, 1) := by decide +kernel
theorem dX4_isOf_4 : decode cX4_isOf 4 = .ok (.iload_n 3, 1) := by decide +kernel
theorem dX4_isOf_5 : decode cX4_isOf 5 = .ok (.bipush 6, 2) := by decide +kernel
theorem dX4_isOf_7 : decode cX4_isOf 7 = .ok (.if_icmp .ge 29, 3) := by decide +kernel
theorem dX4_isOf_10 : decode cX4_isOf 10 = .ok (.iload_n 2, 1) := by decide +kernel
theorem dX4_isOf_11 : decode cX4_isOf 11 = .ok (.invokestatic 44, 3) := by decide +kernel
theorem dX4_isOf_14 : decode cX4_isOf 14 = .ok (.ifCond .eq 22, 3) := by decide +kernel
theorem dX4_isOf_17 : decode cX4_isOf 17 = .ok (.iload_n 2, 1) := by decide +kernel
theorem dX4_isOf_18 : decode cX4_isOf 18 = .ok (.iload_n 1, 1) := by decide +kernel
theorem dX4_isOf_19 : decode cX4_isOf 19 = .ok (.if_icmp .ne 5, 3) := by decide +kernel
theorem dX4_isOf_22 : decode cX4_isOf 22 = .ok (.iconst 1, 1) := by decide +kernel
theorem dX4_isOf_23 : decode cX4_isOf 23 = .ok (.ireturn, 1) := by decide +kernel
theorem dX4_isOf_24 : decode cX4_isOf 24 = .ok (.getstatic 269, 3) := by decide +kernel
theorem dX4_isOf_27 : decode cX4_isOf 27 = .ok (.iload_n 2, 1) := by decide +kernel
theorem dX4_isOf_28 : decode cX4_isOf 28 = .ok (.iaload, 1) := by decide +kernel
theorem dX4_isOf_29 : decode cX4_isOf 29 = .ok (.istore_n 2, 1) := by decide +kernel
theorem dX4_isOf_30 : decode cX4_isOf 30 = .ok (.iinc 3 1, 3) := by decide +kernel
theorem dX4_isOf_33 : decode cX4_isOf 33 = .ok (.goto (-29), 3) := by decide +kernel
theorem dX4_isOf_36 : decode cX4_isOf 36 = .ok (.iconst 0, 1) := by decide +kernel
theorem dX4_isOf_37 : decode cX4_isOf 37 = .ok (.ireturn, 1) := by decide +kernel
theorem dX4_isSettable_0 : decode cX4_isSettable 0 = .ok (.iload_n 0, 1) := by decide +kernel
theorem dX4_isSettable_1 : decode cX4_isSettable 1 = .ok (.tableswitch 52 1 3 #[27, 36, 44], 27) := by decide +kernel
theorem dX4_isSettable_28 : decode cX4_isSettable 28 = .ok (.iload_n 1, 1) := by decide +kernel
theorem dX4_isSettable_29 : decode cX4_isSettable 29 = .ok (.iconst 0, 1) := by decide +kernel
theorem dX4_isSettable_30 : decode cX4_isSettable 30 = .ok (.sipush 999, 3) := by decide +kernel
theorem dX4_isSettable_33 : decode cX4_isSettable 33 = .ok (.invokestatic 122, 3) := by decide +kernel
theorem dX4_isSettable_36 : decode cX4_isSettable 36 = .ok (.ireturn, 1) := by decide +kernel
theorem dX4_isSettable_37 : decode cX4_isSettable 37 = .ok (.iload_n 1, 1) := by decide +kernel
theorem dX4_isSettable_38 : decode cX4_isSettable 38 = .ok (.iconst 0, 1) := by decide +kernel
theorem dX4_isSettable_39 : decode cX4_isSettable 39 = .ok (.bipush 99, 2) := by decide +kernel
theorem dX4_isSettable_41 : decode cX4_isSettable 41 = .ok (.invokestatic 122, 3) := by decide +kernel
theorem dX4_isSettable_44 : decode cX4_isSettable 44 = .ok (.ireturn, 1) := by decide +kernel
theorem dX4_isSettable_45 : decode cX4_isSettable 45 = .ok (.iload_n 1, 1) := by decide +kernel
theorem dX4_isSettable_46 : decode cX4_isSettable 46 = .ok (.iconst 0, 1) := by decide +kernel
theorem dX4_isSettable_47 : decode cX4_isSettable 47 = .ok (.bipush 99, 2) := by decide +kernel
theorem dX4_isSettable_49 : decode cX4_isSettable 49 = .ok (.invokestatic 122, 3) := by decide +kernel
theorem dX4_isSettable_52 : decode cX4_isSettable 52 = .ok (.ireturn, 1) := by decide +kernel
theorem dX4_isSettable_53 : decode cX4_isSettable 53 = .ok (.iconst 0, 1) := by decide +kernel
theorem dX4_isSettable_54 : decode cX4_isSettable 54 = .ok (.ireturn, 1) := by decide +kernel
theorem dX4_isSheet_0 : decode cX4_isSheet 0 = .ok (.iload_n 0, 1) := by decide +kernel
theorem dX4_isSheet_1 : decode cX4_isSheet 1 = .ok (.ifCond .lt 12, 3) := by decide +kernel
theorem dX4_isSheet_4 : decode cX4_isSheet 4 = .ok (.iload_n 0, 1) := by decide +kernel
theorem dX4_isSheet_5 : decode cX4_isSheet 5 = .ok (.iconst 4, 1) := by decide +kernel
theorem dX4_isSheet_6 : decode cX4_isSheet 6 = .ok (.if_icmp .ge 7, 3) := by decide +kernel
theorem dX4_isSheet_9 : decode cX4_isSheet 9 = .ok (.iconst 1, 1) := by decide +kernel
theorem dX4_isSheet_10 : decode cX4_isSheet 10 = .ok (.goto 4, 3) := by decide +kernel
theorem dX4_isSheet_13 : decode cX4_isSheet 13 = .ok (.iconst 0, 1) := by decide +kernel
theorem dX4_isSheet_14 : decode cX4_isSheet 14 = .ok (.ireturn, 1) := by decide +kernel
theorem dX4_isWidth_0 : decode cX4_isWidth 0 = .ok (.iload_n 0, 1) := by decide +kernel
theorem dX4_isWidth_1 : decode cX4_isWidth 1 = .ok (.ifCond .eq 21, 3) := by decide +kernel
theorem dX4_isWidth_4 : decode cX4_isWidth 4 = .ok (.iload_n 0, 1) := by decide +kernel
theorem dX4_isWidth_5 : decode cX4_isWidth 5 = .ok (.bipush 8, 2) := by decide +kernel
theorem dX4_isWidth_7 : decode cX4_isWidth 7 = .ok (.if_icmp .eq 15, 3) := by decide +kernel
theorem dX4_isWidth_10 : decode cX4_isWidth 10 = .ok (.iload_n 0, 1) := by decide +kernel
theorem dX4_isWidth_11 : decode cX4_isWidth 11 = .ok (.bipush 16, 2) := by decide +kernel
theorem dX4_isWidth_13 : decode cX4_isWidth 13 = .ok (.if_icmp .eq 9, 3) := by decide +kernel
theorem dX4_isWidth_16 : decode cX4_isWidth 16 = .ok (.iload_n 0, 1) := by decide +kernel
theorem dX4_isWidth_17 : decode cX4_isWidth 17 = .ok (.bipush 64, 2) := by decide +kernel
theorem dX4_isWidth_19 : decode cX4_isWidth 19 = .ok (.if_icmp .ne 7, 3) := by decide +kernel
theorem dX4_isWidth_22 : decode cX4_isWidth 22 = .ok (.iconst 1, 1) := by decide +kernel
theorem dX4_isWidth_23 : decode cX4_isWidth 23 = .ok (.goto 4, 3) := by decide +kernel
theorem dX4_isWidth_26 : decode cX4_isWidth 26 = .ok (.iconst 0, 1) := by decide +kernel
theorem dX4_isWidth_27 : decode cX4_isWidth 27 = .ok (.ireturn, 1) := by decide +kernel
theorem dX4_tryNextHour_0 : decode cX4_tryNextHour 0 = .ok (.aload_n 0, 1) := by decide +kernel
theorem dX4_tryNextHour_1 : decode cX4_tryNextHour 1 = .ok (.getfield 20, 3) := by decide +kernel
theorem dX4_tryNextHour_4 : decode cX4_tryNextHour 4 = .ok (.aload_n 0, 1) := by decide +kernel
theorem dX4_tryNextHour_5 : decode cX4_tryNextHour 5 = .ok (.getfield 16, 3) := by decide +kernel
theorem dX4_tryNextHour_8 : decode cX4_tryNextHour 8 = .ok (.invokevirtual 175, 3) := by decide +kernel
theorem dX4_tryNextHour_11 : decode cX4_tryNextHour 11 = .ok (.aload_n 0, 1) := by decide +kernel
theorem dX4_tryNextHour_12 : decode cX4_tryNextHour 12 = .ok (.getfield 20, 3) := by decide +kernel
theorem dX4_tryNextHour_15 : decode cX4_tryNextHour 15 = .ok (.iconst (-1), 1) := by decide +kernel
theorem dX4_tryNextHour_16 : decode cX4_tryNextHour 16 = .ok (.iconst 0, 1) := by decide +kernel
theorem dX4_tryNextHour_17 : decode cX4_tryNextHour 17 = .ok (.invokevirtual 147, 3) := by decide +kernel
theorem dX4_tryNextHour_20 : decode cX4_tryNextHour 20 = .ok (.pop, 1) := by decide +kernel
theorem dX4_tryNextHour_21 : decode cX4_tryNextHour 21 = .ok (.return_, 1) := by decide +kernel
theorem dX4_gainAsIs_0 : decode cX4_gainAsIs 0 = .ok (.aload_n 0, 1) := by decide +kernel
theorem dX4_gainAsIs_1 : decode cX4_gainAsIs 1 = .ok (.invokevirtual 166, 3) := by decide +kernel
theorem dX4_gainAsIs_4 : decode cX4_gainAsIs 4 = .ok (.aload_n 0, 1) := by decide +kernel
theorem dX4_gainAsIs_5 : decode cX4_gainAsIs 5 = .ok (.getfield 20, 3) := by decide +kernel
theorem dX4_gainAsIs_8 : decode cX4_gainAsIs 8 = .ok (.iload_n 1, 1) := by decide +kernel
theorem dX4_gainAsIs_9 : decode cX4_gainAsIs 9 = .ok (.invokevirtual 272, 3) := by decide +kernel
theorem dX4_gainAsIs_12 : decode cX4_gainAsIs 12 = .ok (.ireturn, 1) := by decide +kernel
theorem dX4_gainThrowing_0 : decode cX4_gainThrowing 0 = .ok (.aload_n 0, 1) := by decide +kernel
theorem dX4_gainThrowing_1 : decode cX4_gainThrowing 1 = .ok (.getfield 20, 3) := by decide +kernel
theorem dX4_gainThrowing_4 : decode cX4_gainThrowing 4 = .ok (.aload_n 0, 1) := by decide +kernel
theorem dX4_gainThrowing_5 : decode cX4_gainThrowing 5 = .ok (.getfield 16, 3) := by decide +kernel
theorem dX4_gainThrowing_8 : decode cX4_gainThrowing 8 = .ok (.invokevirtual 175, 3) := by decide +kernel
theorem dX4_gainThrowing_11 : decode cX4_gainThrowing 11 = .ok (.aload_n 0, 1) := by decide +kernel
theorem dX4_gainThrowing_12 : decode cX4_gainThrowing 12 = .ok (.getfield 20, 3) := by decide +kernel
theorem dX4_gainThrowing_15 : decode cX4_gainThrowing 15 = .ok (.iload_n 1, 1) := by decide +kernel
theorem dX4_gainThrowing_16 : decode cX4_gainThrowing 16 = .ok (.iload_n 2, 1) := by decide +kernel
theorem dX4_gainThrowing_17 : decode cX4_gainThrowing 17 = .ok (.invokevirtual 147, 3) := by decide +kernel
theorem dX4_gainThrowing_20 : decode cX4_gainThrowing 20 = .ok (.pop, 1) := by decide +kernel
theorem dX4_gainThrowing_21 : decode cX4_gainThrowing 21 = .ok (.aload_n 0, 1) := by decide +kernel
theorem dX4_gainThrowing_22 : decode cX4_gainThrowing 22 = .ok (.getfield 20, 3) := by decide +kernel
theorem dX4_gainThrowing_25 : decode cX4_gainThrowing 25 = .ok (.iload_n 1, 1) := by decide +kernel
theorem dX4_gainThrowing_26 : decode cX4_gainThrowing 26 = .ok (.invokevirtual 272, 3) := by decide +kernel
theorem dX4_gainThrowing_29 : decode cX4_gainThrowing 29 = .ok (.ireturn, 1) := by decide +kernel
theorem dX4_gainStanding_0 : decode cX4_gainStanding 0 = .ok (.aload_n 0, 1) := by decide +kernel
theorem dX4_gainStanding_1 : decode cX4_gainStanding 1 = .ok (.getfield 20, 3) := by decide +kernel
theorem dX4_gainStanding_4 : decode cX4_gainStanding 4 = .ok (.aload_n 0, 1) := by decide +kernel
theorem dX4_gainStanding_5 : decode cX4_gainStanding 5 = .ok (.getfield 16, 3) := by decide +kernel
theorem dX4_gainStanding_8 : decode cX4_gainStanding 8 = .ok (.invokevirtual 175, 3) := by decide +kernel
theorem dX4_gainStanding_11 : decode cX4_gainStanding 11 = .ok (.aload_n 0, 1) := by decide +kernel
theorem dX4_gainStanding_12 : decode cX4_gainStanding 12 = .ok (.getfield 20, 3) := by decide +kernel
theorem dX4_gainStanding_15 : decode cX4_gainStanding 15 = .ok (.iload_n 1, 1) := by decide +kernel
theorem dX4_gainStanding_16 : decode cX4_gainStanding 16 = .ok (.iload_n 2, 1) := by decide +kernel
theorem dX4_gainStanding_17 : decode cX4_gainStanding 17 = .ok (.invokevirtual 109, 3) := by decide +kernel
theorem dX4_gainStanding_20 : decode cX4_gainStanding 20 = .ok (.aload_n 0, 1) := by decide +kernel
theorem dX4_gainStanding_21 : decode cX4_gainStanding 21 = .ok (.getfield 20, 3) := by decide +kernel
theorem dX4_gainStanding_24 : decode cX4_gainStanding 24 = .ok (.iconst (-1), 1) := by decide +kernel
theorem dX4_gainStanding_25 : decode cX4_gainStanding 25 = .ok (.iconst 0, 1) := by decide +kernel
theorem dX4_gainStanding_26 : decode cX4_gainStanding 26 = .ok (.invokevirtual 147, 3) := by decide +kernel
theorem dX4_gainStanding_29 : decode cX4_gainStanding 29 = .ok (.pop, 1) := by decide +kernel
theorem dX4_gainStanding_30 : decode cX4_gainStanding 30 = .ok (.aload_n 0, 1) := by decide +kernel
theorem dX4_gainStanding_31 : decode cX4_gainStanding 31 = .ok (.getfield 20, 3) := by decide +kernel
theorem dX4_gainStanding_34 : decode cX4_gainStanding 34 = .ok (.iload_n 2, 1) := by decide +kernel
theorem dX4_gainStanding_35 : decode cX4_gainStanding 35 = .ok (.invokevirtual 272, 3) := by decide +kernel
theorem dX4_gainStanding_38 : decode cX4_gainStanding 38 = .ok (.ireturn, 1) := by decide +kernel
theorem dX4_gainBeing_0 : decode cX4_gainBeing 0 = .ok (.aload_n 0, 1) := by decide +kernel
theorem dX4_gainBeing_1 : decode cX4_gainBeing 1 = .ok (.getfield 20, 3) := by decide +kernel
theorem dX4_gainBeing_4 : decode cX4_gainBeing 4 = .ok (.aload_n 0, 1) := by decide +kernel
theorem dX4_gainBeing_5 : decode cX4_gainBeing 5 = .ok (.getfield 16, 3) := by decide +kernel
theorem dX4_gainBeing_8 : decode cX4_gainBeing 8 = .ok (.invokevirtual 175, 3) := by decide +kernel
theorem dX4_gainBeing_11 : decode cX4_gainBeing 11 = .ok (.aload_n 0, 1) := by decide +kernel
theorem dX4_gainBeing_12 : decode cX4_gainBeing 12 = .ok (.getfield 20, 3) := by decide +kernel
theorem dX4_gainBeing_15 : decode cX4_gainBeing 15 = .ok (.getfield 64, 3) := by decide +kernel
theorem dX4_gainBeing_18 : decode cX4_gainBeing 18 = .ok (.iload_n 1, 1) := by decide +kernel
theorem dX4_gainBeing_19 : decode cX4_gainBeing 19 = .ok (.aaload, 1) := by decide +kernel
theorem dX4_gainBeing_20 : decode cX4_gainBeing 20 = .ok (.iload_n 2, 1) := by decide +kernel
theorem dX4_gainBeing_21 : decode cX4_gainBeing 21 = .ok (.putfield 68, 3) := by decide +kernel
theorem dX4_gainBeing_24 : decode cX4_gainBeing 24 = .ok (.aload_n 0, 1) := by decide +kernel
theorem dX4_gainBeing_25 : decode cX4_gainBeing 25 = .ok (.getfield 20, 3) := by decide +kernel
theorem dX4_gainBeing_28 : decode cX4_gainBeing 28 = .ok (.iconst (-1), 1) := by decide +kernel
theorem dX4_gainBeing_29 : decode cX4_gainBeing 29 = .ok (.iconst 0, 1) := by decide +kernel
theorem dX4_gainBeing_30 : decode cX4_gainBeing 30 = .ok (.invokevirtual 147, 3) := by decide +kernel
theorem dX4_gainBeing_33 : decode cX4_gainBeing 33 = .ok (.pop, 1) := by decide +kernel
theorem dX4_gainBeing_34 : decode cX4_gainBeing 34 = .ok (.aload_n 0, 1) := by decide +kernel
theorem dX4_gainBeing_35 : decode cX4_gainBeing 35 = .ok (.getfield 20, 3) := by decide +kernel
theorem dX4_gainBeing_38 : decode cX4_gainBeing 38 = .ok (.iload_n 1, 1) := by decide +kernel
theorem dX4_gainBeing_39 : decode cX4_gainBeing 39 = .ok (.invokevirtual 272, 3) := by decide +kernel
theorem dX4_gainBeing_42 : decode cX4_gainBeing 42 = .ok (.ireturn, 1) := by decide +kernel
theorem dX4_gainsHearing_0 : decode cX4_gainsHearing 0 = .ok (.aload_n 0, 1) := by decide +kernel
theorem dX4_gainsHearing_1 : decode cX4_gainsHearing 1 = .ok (.getfield 20, 3) := by decide +kernel
theorem dX4_gainsHearing_4 : decode cX4_gainsHearing 4 = .ok (.aload_n 0, 1) := by decide +kernel
theorem dX4_gainsHearing_5 : decode cX4_gainsHearing 5 = .ok (.getfield 16, 3) := by decide +kernel
theorem dX4_gainsHearing_8 : decode cX4_gainsHearing 8 = .ok (.invokevirtual 175, 3) := by decide +kernel
theorem dX4_gainsHearing_11 : decode cX4_gainsHearing 11 = .ok (.aload_n 0, 1) := by decide +kernel
theorem dX4_gainsHearing_12 : decode cX4_gainsHearing 12 = .ok (.getfield 20, 3) := by decide +kernel
theorem dX4_gainsHearing_15 : decode cX4_gainsHearing 15 = .ok (.iload_n 1, 1) := by decide +kernel
theorem dX4_gainsHearing_16 : decode cX4_gainsHearing 16 = .ok (.iload_n 2, 1) := by decide +kernel
theorem dX4_gainsHearing_17 : decode cX4_gainsHearing 17 = .ok (.invokevirtual 139, 3) := by decide +kernel
theorem dX4_gainsHearing_20 : decode cX4_gainsHearing 20 = .ok (.aload_n 0, 1) := by decide +kernel
theorem dX4_gainsHearing_21 : decode cX4_gainsHearing 21 = .ok (.getfield 20, 3) := by decide +kernel
theorem dX4_gainsHearing_24 : decode cX4_gainsHearing 24 = .ok (.iconst (-1), 1) := by decide +kernel
theorem dX4_gainsHearing_25 : decode cX4_gainsHearing 25 = .ok (.iconst 0, 1) := by decide +kernel
theorem dX4_gainsHearing_26 : decode cX4_gainsHearing 26 = .ok (.invokevirtual 147, 3) := by decide +kernel
theorem dX4_gainsHearing_29 : decode cX4_gainsHearing 29 = .ok (.pop, 1) := by decide +kernel
theorem dX4_gainsHearing_30 : decode cX4_gainsHearing 30 = .ok (.aload_n 0, 1) := by decide +kernel
theorem dX4_gainsHearing_31 : decode cX4_gainsHearing 31 = .ok (.getfield 20, 3) := by decide +kernel
theorem dX4_gainsHearing_34 : decode cX4_gainsHearing 34 = .ok (.invokevirtual 172, 3) := by decide +kernel
theorem dX4_gainsHearing_37 : decode cX4_gainsHearing 37 = .ok (.ireturn, 1) := by decide +kernel
theorem dX4_pailsForCoins_0 : decode cX4_pailsForCoins 0 = .ok (.aload_n 0, 1) := by decide +kernel
theorem dX4_pailsForCoins_1 : decode cX4_pailsForCoins 1 = .ok (.getfield 20, 3) := by decide +kernel
theorem dX4_pailsForCoins_4 : decode cX4_pailsForCoins 4 = .ok (.aload_n 0, 1) := by decide +kernel
theorem dX4_pailsForCoins_5 : decode cX4_pailsForCoins 5 = .ok (.getfield 16, 3) := by decide +kernel
theorem dX4_pailsForCoins_8 : decode cX4_pailsForCoins 8 = .ok (.invokevirtual 175, 3) := by decide +kernel
theorem dX4_pailsForCoins_11 : decode cX4_pailsForCoins 11 = .ok (.aload_n 0, 1) := by decide +kernel
theorem dX4_pailsForCoins_12 : decode cX4_pailsForCoins 12 = .ok (.getfield 20, 3) := by decide +kernel
theorem dX4_pailsForCoins_15 : decode cX4_pailsForCoins 15 = .ok (.iload_n 1, 1) := by decide +kernel
theorem dX4_pailsForCoins_16 : decode cX4_pailsForCoins 16 = .ok (.putfield 129, 3) := by decide +kernel
theorem dX4_pailsForCoins_19 : decode cX4_pailsForCoins 19 = .ok (.aload_n 0, 1) := by decide +kernel
theorem dX4_pailsForCoins_20 : decode cX4_pailsForCoins 20 = .ok (.getfield 20, 3) := by decide +kernel
theorem dX4_pailsForCoins_23 : decode cX4_pailsForCoins 23 = .ok (.iconst (-1), 1) := by decide +kernel
theorem dX4_pailsForCoins_24 : decode cX4_pailsForCoins 24 = .ok (.iconst 0, 1) := by decide +kernel
theorem dX4_pailsForCoins_25 : decode cX4_pailsForCoins 25 = .ok (.invokevirtual 147, 3) := by decide +kernel
theorem dX4_pailsForCoins_28 : decode cX4_pailsForCoins 28 = .ok (.istore_n 2, 1) := by decide +kernel
theorem dX4_pailsForCoins_29 : decode cX4_pailsForCoins 29 = .ok (.aload_n 0, 1) := by decide +kernel
theorem dX4_pailsForCoins_30 : decode cX4_pailsForCoins 30 = .ok (.getfield 20, 3) := by decide +kernel
theorem dX4_pailsForCoins_33 : decode cX4_pailsForCoins 33 = .ok (.invokevirtual 275, 3) := by decide +kernel
theorem dX4_pailsForCoins_36 : decode cX4_pailsForCoins 36 = .ok (.istore_n 3, 1) := by decide +kernel
theorem dX4_pailsForCoins_37 : decode cX4_pailsForCoins 37 = .ok (.iload_n 3, 1) := by decide +kernel
theorem dX4_pailsForCoins_38 : decode cX4_pailsForCoins 38 = .ok (.ifCond .le 12, 3) := by decide +kernel
theorem dX4_pailsForCoins_41 : decode cX4_pailsForCoins 41 = .ok (.iload_n 2, 1) := by decide +kernel
theorem dX4_pailsForCoins_42 : decode cX4_pailsForCoins 42 = .ok (.bipush 100, 2) := by decide +kernel
theorem dX4_pailsForCoins_44 : decode cX4_pailsForCoins 44 = .ok (.imul, 1) := by decide +kernel
theorem dX4_pailsForCoins_45 : decode cX4_pailsForCoins 45 = .ok (.iload_n 3, 1) := by decide +kernel
theorem dX4_pailsForCoins_46 : decode cX4_pailsForCoins 46 = .ok (.idiv, 1) := by decide +kernel
theorem dX4_pailsForCoins_47 : decode cX4_pailsForCoins 47 = .ok (.goto 7, 3) := by decide +kernel
theorem dX4_pailsForCoins_50 : decode cX4_pailsForCoins 50 = .ok (.iload_n 2, 1) := by decide +kernel
theorem dX4_pailsForCoins_51 : decode cX4_pailsForCoins 51 = .ok (.bipush 100, 2) := by decide +kernel
theorem dX4_pailsForCoins_53 : decode cX4_pailsForCoins 53 = .ok (.imul, 1) := by decide +kernel
theorem dX4_pailsForCoins_54 : decode cX4_pailsForCoins 54 = .ok (.ireturn, 1) := by decide +kernel
theorem dX4_bestThrow_0 : decode cX4_bestThrow 0 = .ok (.iconst 0, 1) := by decide +kernel
theorem dX4_bestThrow_1 : decode cX4_bestThrow 1 = .ok (.istore_n 2, 1) := by decide +kernel
theorem dX4_bestThrow_2 : decode cX4_bestThrow 2 = .ok (.aload_n 0, 1) := by decide +kernel
theorem dX4_bestThrow_3 : decode cX4_bestThrow 3 = .ok (.iload_n 1, 1) := by decide +kernel
theorem dX4_bestThrow_4 : decode cX4_bestThrow 4 = .ok (.iconst 0, 1) := by decide +kernel
theorem dX4_bestThrow_5 : decode cX4_bestThrow 5 = .ok (.invokevirtual 180, 3) := by decide +kernel
theorem dX4_bestThrow_8 : decode cX4_bestThrow 8 = .ok (.istore_n 3, 1) := by decide +kernel
theorem dX4_bestThrow_9 : decode cX4_bestThrow 9 = .ok (.bipush 20, 2) := by decide +kernel
theorem dX4_bestThrow_11 : decode cX4_bestThrow 11 = .ok (.aload_n 0, 1) := by decide +kernel
theorem dX4_bestThrow_12 : decode cX4_bestThrow 12 = .ok (.getfield 16, 3) := by decide +kernel
theorem dX4_bestThrow_15 : decode cX4_bestThrow 15 = .ok (.getfield 64, 3) := by decide +kernel
theorem dX4_bestThrow_18 : decode cX4_bestThrow 18 = .ok (.iload_n 1, 1) := by decide +kernel
theorem dX4_bestThrow_19 : decode cX4_bestThrow 19 = .ok (.aaload, 1) := by decide +kernel
theorem dX4_bestThrow_20 : decode cX4_bestThrow 20 = .ok (.getfield 73, 3) := by decide +kernel
theorem dX4_bestThrow_23 : decode cX4_bestThrow 23 = .ok (.invokestatic 249, 3) := by decide +kernel
theorem dX4_bestThrow_26 : decode cX4_bestThrow 26 = .ok (.istore 4, 2) := by decide +kernel
theorem dX4_bestThrow_28 : decode cX4_bestThrow 28 = .ok (.iconst 1, 1) := by decide +kernel
theorem dX4_bestThrow_29 : decode cX4_bestThrow 29 = .ok (.istore 5, 2) := by decide +kernel
theorem dX4_bestThrow_31 : decode cX4_bestThrow 31 = .ok (.iload 5, 2) := by decide +kernel
theorem dX4_bestThrow_33 : decode cX4_bestThrow 33 = .ok (.iload 4, 2) := by decide +kernel
theorem dX4_bestThrow_35 : decode cX4_bestThrow 35 = .ok (.if_icmp .gt 30, 3) := by decide +kernel
theorem dX4_bestThrow_38 : decode cX4_bestThrow 38 = .ok (.aload_n 0, 1) := by decide +kernel
theorem dX4_bestThrow_39 : decode cX4_bestThrow 39 = .ok (.iload_n 1, 1) := by decide +kernel
theorem dX4_bestThrow_40 : decode cX4_bestThrow 40 = .ok (.iload 5, 2) := by decide +kernel
theorem dX4_bestThrow_42 : decode cX4_bestThrow 42 = .ok (.invokevirtual 180, 3) := by decide +kernel
theorem dX4_bestThrow_45 : decode cX4_bestThrow 45 = .ok (.istore 6, 2) := by decide +kernel
theorem dX4_bestThrow_47 : decode cX4_bestThrow 47 = .ok (.iload 6, 2) := by decide +kernel
theorem dX4_bestThrow_49 : decode cX4_bestThrow 49 = .ok (.iload_n 3, 1) := by decide +kernel
theorem dX4_bestThrow_50 : decode cX4_bestThrow 50 = .ok (.if_icmp .le 9, 3) := by decide +kernel
theorem dX4_bestThrow_53 : decode cX4_bestThrow 53 = .ok (.iload 6, 2) := by decide +kernel
theorem dX4_bestThrow_55 : decode cX4_bestThrow 55 = .ok (.istore_n 3, 1) := by decide +kernel
theorem dX4_bestThrow_56 : decode cX4_bestThrow 56 = .ok (.iload 5, 2) := by decide +kernel
theorem dX4_bestThrow_58 : decode cX4_bestThrow 58 = .ok (.istore_n 2, 1) := by decide +kernel
theorem dX4_bestThrow_59 : decode cX4_bestThrow 59 = .ok (.iinc 5 1, 3) := by decide +kernel
theorem dX4_bestThrow_62 : decode cX4_bestThrow 62 = .ok (.goto (-31), 3) := by decide +kernel
theorem dX4_bestThrow_65 : decode cX4_bestThrow 65 = .ok (.iload_n 2, 1) := by decide +kernel
theorem dX4_bestThrow_66 : decode cX4_bestThrow 66 = .ok (.ireturn, 1) := by decide +kernel
theorem dX4_isAtRest_0 : decode cX4_isAtRest 0 = .ok (.aload_n 0, 1) := by decide +kernel
theorem dX4_isAtRest_1 : decode cX4_isAtRest 1 = .ok (.getfield 16, 3) := by decide +kernel
theorem dX4_isAtRest_4 : decode cX4_isAtRest 4 = .ok (.getfield 126, 3) := by decide +kernel
theorem dX4_isAtRest_7 : decode cX4_isAtRest 7 = .ok (.iload_n 1, 1) := by decide +kernel
theorem dX4_isAtRest_8 : decode cX4_isAtRest 8 = .ok (.invokestatic 254, 3) := by decide +kernel
theorem dX4_isAtRest_11 : decode cX4_isAtRest 11 = .ok (.iadd, 1) := by decide +kernel
theorem dX4_isAtRest_12 : decode cX4_isAtRest 12 = .ok (.istore_n 2, 1) := by decide +kernel
theorem dX4_isAtRest_13 : decode cX4_isAtRest 13 = .ok (.iconst 0, 1) := by decide +kernel
theorem dX4_isAtRest_14 : decode cX4_isAtRest 14 = .ok (.istore_n 3, 1) := by decide +kernel
theorem dX4_isAtRest_15 : decode cX4_isAtRest 15 = .ok (.iload_n 3, 1) := by decide +kernel
theorem dX4_isAtRest_16 : decode cX4_isAtRest 16 = .ok (.aload_n 0, 1) := by decide +kernel
theorem dX4_isAtRest_17 : decode cX4_isAtRest 17 = .ok (.getfield 16, 3) := by decide +kernel
theorem dX4_isAtRest_20 : decode cX4_isAtRest 20 = .ok (.getfield 53, 3) := by decide +kernel
theorem dX4_isAtRest_23 : decode cX4_isAtRest 23 = .ok (.if_icmp .ge 108, 3) := by decide +kernel
theorem dX4_isAtRest_26 : decode cX4_isAtRest 26 = .ok (.aload_n 0, 1) := by decide +kernel
theorem dX4_isAtRest_27 : decode cX4_isAtRest 27 = .ok (.getfield 16, 3) := by decide +kernel
theorem dX4_isAtRest_30 : decode cX4_isAtRest 30 = .ok (.getfield 64, 3) := by decide +kernel
theorem dX4_isAtRest_33 : decode cX4_isAtRest 33 = .ok (.iload_n 3, 1) := by decide +kernel
theorem dX4_isAtRest_34 : decode cX4_isAtRest 34 = .ok (.aaload, 1) := by decide +kernel
theorem dX4_isAtRest_35 : decode cX4_isAtRest 35 = .ok (.astore 4, 2) := by decide +kernel
theorem dX4_isAtRest_37 : decode cX4_isAtRest 37 = .ok (.iload_n 1, 1) := by decide +kernel
theorem dX4_isAtRest_38 : decode cX4_isAtRest 38 = .ok (.iload_n 3, 1) := by decide +kernel
theorem dX4_isAtRest_39 : decode cX4_isAtRest 39 = .ok (.ishr, 1) := by decide +kernel
theorem dX4_isAtRest_40 : decode cX4_isAtRest 40 = .ok (.iconst 1, 1) := by decide +kernel
theorem dX4_isAtRest_41 : decode cX4_isAtRest 41 = .ok (.iand, 1) := by decide +kernel
theorem dX4_isAtRest_42 : decode cX4_isAtRest 42 = .ok (.istore 5, 2) := by decide +kernel
theorem dX4_isAtRest_44 : decode cX4_isAtRest 44 = .ok (.iconst 1, 1) := by decide +kernel
theorem dX4_isAtRest_45 : decode cX4_isAtRest 45 = .ok (.iload 5, 2) := by decide +kernel
theorem dX4_isAtRest_47 : decode cX4_isAtRest 47 = .ok (.isub, 1) := by decide +kernel
theorem dX4_isAtRest_48 : decode cX4_isAtRest 48 = .ok (.istore 6, 2) := by decide +kernel
theorem dX4_isAtRest_50 : decode cX4_isAtRest 50 = .ok (.aload 4, 2) := by decide +kernel
theorem dX4_isAtRest_52 : decode cX4_isAtRest 52 = .ok (.getfield 73, 3) := by decide +kernel
theorem dX4_isAtRest_55 : decode cX4_isAtRest 55 = .ok (.iload 5, 2) := by decide +kernel
theorem dX4_isAtRest_57 : decode cX4_isAtRest 57 = .ok (.if_icmp .ge 5, 3) := by decide +kernel
theorem dX4_isAtRest_60 : decode cX4_isAtRest 60 = .ok (.iconst 0, 1) := by decide +kernel
theorem dX4_isAtRest_61 : decode cX4_isAtRest 61 = .ok (.ireturn, 1) := by decide +kernel
theorem dX4_isAtRest_62 : decode cX4_isAtRest 62 = .ok (.aload 4, 2) := by decide +kernel
theorem dX4_isAtRest_64 : decode cX4_isAtRest 64 = .ok (.iload_n 3, 1) := by decide +kernel
theorem dX4_isAtRest_65 : decode cX4_isAtRest 65 = .ok (.iload_n 2, 1) := by decide +kernel
theorem dX4_isAtRest_66 : decode cX4_isAtRest 66 = .ok (.if_icmp .ge 7, 3) := by decide +kernel
theorem dX4_isAtRest_69 : decode cX4_isAtRest 69 = .ok (.iconst 1, 1) := by decide +kernel
theorem dX4_isAtRest_70 : decode cX4_isAtRest 70 = .ok (.goto 4, 3) := by decide +kernel
theorem dX4_isAtRest_73 : decode cX4_isAtRest 73 = .ok (.iconst 0, 1) := by decide +kernel
theorem dX4_isAtRest_74 : decode cX4_isAtRest 74 = .ok (.iload 5, 2) := by decide +kernel
theorem dX4_isAtRest_76 : decode cX4_isAtRest 76 = .ok (.invokevirtual 278, 3) := by decide +kernel
theorem dX4_isAtRest_79 : decode cX4_isAtRest 79 = .ok (.istore 7, 2) := by decide +kernel
theorem dX4_isAtRest_81 : decode cX4_isAtRest 81 = .ok (.aload 4, 2) := by decide +kernel
theorem dX4_isAtRest_83 : decode cX4_isAtRest 83 = .ok (.iload_n 3, 1) := by decide +kernel
theorem dX4_isAtRest_84 : decode cX4_isAtRest 84 = .ok (.iload_n 2, 1) := by decide +kernel
theorem dX4_isAtRest_85 : decode cX4_isAtRest 85 = .ok (.iload 5, 2) := by decide +kernel
theorem dX4_isAtRest_87 : decode cX4_isAtRest 87 = .ok (.isub, 1) := by decide +kernel
theorem dX4_isAtRest_88 : decode cX4_isAtRest 88 = .ok (.iload 6, 2) := by decide +kernel
theorem dX4_isAtRest_90 : decode cX4_isAtRest 90 = .ok (.iadd, 1) := by decide +kernel
theorem dX4_isAtRest_91 : decode cX4_isAtRest 91 = .ok (.if_icmp .ge 7, 3) := by decide +kernel
theorem dX4_isAtRest_94 : decode cX4_isAtRest 94 = .ok (.iconst 1, 1) := by decide +kernel
theorem dX4_isAtRest_95 : decode cX4_isAtRest 95 = .ok (.goto 4, 3) := by decide +kernel
theorem dX4_isAtRest_98 : decode cX4_isAtRest 98 = .ok (.iconst 0, 1) := by decide +kernel
theorem dX4_isAtRest_99 : decode cX4_isAtRest 99 = .ok (.iload 6, 2) := by decide +kernel
theorem dX4_isAtRest_101 : decode cX4_isAtRest 101 = .ok (.invokevirtual 278, 3) := by decide +kernel
theorem dX4_isAtRest_104 : decode cX4_isAtRest 104 = .ok (.istore 8, 2) := by decide +kernel
theorem dX4_isAtRest_106 : decode cX4_isAtRest 106 = .ok (.aload 4, 2) := by decide +kernel
theorem dX4_isAtRest_108 : decode cX4_isAtRest 108 = .ok (.getfield 73, 3) := by decide +kernel
theorem dX4_isAtRest_111 : decode cX4_isAtRest 111 = .ok (.iload 6, 2) := by decide +kernel
theorem dX4_isAtRest_113 : decode cX4_isAtRest 113 = .ok (.if_icmp .lt 12, 3) := by decide +kernel
theorem dX4_isAtRest_116 : decode cX4_isAtRest 116 = .ok (.iload 8, 2) := by decide +kernel
theorem dX4_isAtRest_118 : decode cX4_isAtRest 118 = .ok (.iload 7, 2) := by decide +kernel
theorem dX4_isAtRest_120 : decode cX4_isAtRest 120 = .ok (.if_icmp .le 5, 3) := by decide +kernel
theorem dX4_isAtRest_123 : decode cX4_isAtRest 123 = .ok (.iconst 0, 1) := by decide +kernel
theorem dX4_isAtRest_124 : decode cX4_isAtRest 124 = .ok (.ireturn, 1) := by decide +kernel
theorem dX4_isAtRest_125 : decode cX4_isAtRest 125 = .ok (.iinc 3 1, 3) := by decide +kernel
theorem dX4_isAtRest_128 : decode cX4_isAtRest 128 = .ok (.goto (-113), 3) := by decide +kernel
theorem dX4_isAtRest_131 : decode cX4_isAtRest 131 = .ok (.iconst 1, 1) := by decide +kernel
theorem dX4_isAtRest_132 : decode cX4_isAtRest 132 = .ok (.ireturn, 1) := by decide +kernel
theorem dX4_agrees_0 : decode cX4_agrees 0 = .ok (.aload_n 1, 1) := by decide +kernel
theorem dX4_agrees_1 : decode cX4_agrees 1 = .ok (.getfield 223, 3) := by decide +kernel
theorem dX4_agrees_4 : decode cX4_agrees 4 = .ok (.aload_n 0, 1) := by decide +kernel
theorem dX4_agrees_5 : decode cX4_agrees 5 = .ok (.getfield 16, 3) := by decide +kernel
theorem dX4_agrees_8 : decode cX4_agrees 8 = .ok (.getfield 53, 3) := by decide +kernel
theorem dX4_agrees_11 : decode cX4_agrees 11 = .ok (.invokestatic 249, 3) := by decide +kernel
theorem dX4_agrees_14 : decode cX4_agrees 14 = .ok (.istore_n 3, 1) := by decide +kernel
theorem dX4_agrees_15 : decode cX4_agrees 15 = .ok (.iconst 0, 1) := by decide +kernel
theorem dX4_agrees_16 : decode cX4_agrees 16 = .ok (.istore 4, 2) := by decide +kernel
theorem dX4_agrees_18 : decode cX4_agrees 18 = .ok (.iload 4, 2) := by decide +kernel
theorem dX4_agrees_20 : decode cX4_agrees 20 = .ok (.iload_n 3, 1) := by decide +kernel
theorem dX4_agrees_21 : decode cX4_agrees 21 = .ok (.if_icmp .ge 47, 3) := by decide +kernel
theorem dX4_agrees_24 : decode cX4_agrees 24 = .ok (.aload_n 1, 1) := by decide +kernel
theorem dX4_agrees_25 : decode cX4_agrees 25 = .ok (.getfield 229, 3) := by decide +kernel
theorem dX4_agrees_28 : decode cX4_agrees 28 = .ok (.iload 4, 2) := by decide +kernel
theorem dX4_agrees_30 : decode cX4_agrees 30 = .ok (.laload, 1) := by decide +kernel
theorem dX4_agrees_31 : decode cX4_agrees 31 = .ok (.lstore 5, 2) := by decide +kernel
theorem dX4_agrees_33 : decode cX4_agrees 33 = .ok (.lload 5, 2) := by decide +kernel
theorem dX4_agrees_35 : decode cX4_agrees 35 = .ok (.lconst 0, 1) := by decide +kernel
theorem dX4_agrees_36 : decode cX4_agrees 36 = .ok (.lcmp, 1) := by decide +kernel
theorem dX4_agrees_37 : decode cX4_agrees 37 = .ok (.ifCond .eq 10, 3) := by decide +kernel
theorem dX4_agrees_40 : decode cX4_agrees 40 = .ok (.lload 5, 2) := by decide +kernel
theorem dX4_agrees_42 : decode cX4_agrees 42 = .ok (.lconst 1, 1) := by decide +kernel
theorem dX4_agrees_43 : decode cX4_agrees 43 = .ok (.lcmp, 1) := by decide +kernel
theorem dX4_agrees_44 : decode cX4_agrees 44 = .ok (.ifCond .ne 18, 3) := by decide +kernel
theorem dX4_agrees_47 : decode cX4_agrees 47 = .ok (.lload 5, 2) := by decide +kernel
theorem dX4_agrees_49 : decode cX4_agrees 49 = .ok (.iload_n 2, 1) := by decide +kernel
theorem dX4_agrees_50 : decode cX4_agrees 50 = .ok (.iload 4, 2) := by decide +kernel
theorem dX4_agrees_52 : decode cX4_agrees 52 = .ok (.ishr, 1) := by decide +kernel
theorem dX4_agrees_53 : decode cX4_agrees 53 = .ok (.iconst 1, 1) := by decide +kernel
theorem dX4_agrees_54 : decode cX4_agrees 54 = .ok (.iand, 1) := by decide +kernel
theorem dX4_agrees_55 : decode cX4_agrees 55 = .ok (.i2l, 1) := by decide +kernel
theorem dX4_agrees_56 : decode cX4_agrees 56 = .ok (.lcmp, 1) := by decide +kernel
theorem dX4_agrees_57 : decode cX4_agrees 57 = .ok (.ifCond .eq 5, 3) := by decide +kernel
theorem dX4_agrees_60 : decode cX4_agrees 60 = .ok (.iconst 0, 1) := by decide +kernel
theorem dX4_agrees_61 : decode cX4_agrees 61 = .ok (.ireturn, 1) := by decide +kernel
theorem dX4_agrees_62 : decode cX4_agrees 62 = .ok (.iinc 4 1, 3) := by decide +kernel
theorem dX4_agrees_65 : decode cX4_agrees 65 = .ok (.goto (-47), 3) := by decide +kernel
theorem dX4_agrees_68 : decode cX4_agrees 68 = .ok (.iconst 1, 1) := by decide +kernel
theorem dX4_agrees_69 : decode cX4_agrees 69 = .ok (.ireturn, 1) := by decide +kernel
