theorem dX5_init_0 : decode cX5_init 0 = .ok (.aload_n 0, 1) := by decide +kernel
theorem dX5_init_1 : decode cX5_init 1 = .ok (.invokespecial 1, 3) := by decide +kernel
theorem dX5_init_4 : decode cX5_init 4 = .ok (.aload_n 0, 1) := by decide +kernel
theorem dX5_init_5 : decode cX5_init 5 = .ok (.bipush 77, 2) := by decide +kernel
theorem dX5_init_7 : decode cX5_init 7 = .ok (.newarray .int, 2) := by decide +kernel
theorem dX5_init_9 : decode cX5_init 9 = .ok (.putfield 7, 3) := by decide +kernel
theorem dX5_init_12 : decode cX5_init 12 = .ok (.aload_n 0, 1) := by decide +kernel
theorem dX5_init_13 : decode cX5_init 13 = .ok (.bipush 7, 2) := by decide +kernel
theorem dX5_init_15 : decode cX5_init 15 = .ok (.newarray .int, 2) := by decide +kernel
theorem dX5_init_17 : decode cX5_init 17 = .ok (.putfield 13, 3) := by decide +kernel
theorem dX5_init_20 : decode cX5_init 20 = .ok (.aload_n 0, 1) := by decide +kernel
theorem dX5_init_21 : decode cX5_init 21 = .ok (.bipush 10, 2) := by decide +kernel
theorem dX5_init_23 : decode cX5_init 23 = .ok (.newarray .int, 2) := by decide +kernel
theorem dX5_init_25 : decode cX5_init 25 = .ok (.putfield 16, 3) := by decide +kernel
theorem dX5_init_28 : decode cX5_init 28 = .ok (.aload_n 0, 1) := by decide +kernel
theorem dX5_init_29 : decode cX5_init 29 = .ok (.bipush 10, 2) := by decide +kernel
theorem dX5_init_31 : decode cX5_init 31 = .ok (.newarray .int, 2) := by decide +kernel
theorem dX5_init_33 : decode cX5_init 33 = .ok (.putfield 19, 3) := by decide +kernel
theorem dX5_init_36 : decode cX5_init 36 = .ok (.aload_n 0, 1) := by decide +kernel
theorem dX5_init_37 : decode cX5_init 37 = .ok (.bipush 77, 2) := by decide +kernel
theorem dX5_init_39 : decode cX5_init 39 = .ok (.newarray .int, 2) := by decide +kernel
theorem dX5_init_41 : decode cX5_init 41 = .ok (.putfield 22, 3) := by decide +kernel
theorem dX5_init_44 : decode cX5_init 44 = .ok (.aload_n 0, 1) := by decide +kernel
theorem dX5_init_45 : decode cX5_init 45 = .ok (.bipush 120, 2) := by decide +kernel
theorem dX5_init_47 : decode cX5_init 47 = .ok (.newarray .int, 2) := by decide +kernel
theorem dX5_init_49 : decode cX5_init 49 = .ok (.putfield 25, 3) := by decide +kernel
theorem dX5_init_52 : decode cX5_init 52 = .ok (.aload_n 0, 1) := by decide +kernel
theorem dX5_init_53 : decode cX5_init 53 = .ok (.iconst 4, 1) := by decide +kernel
theorem dX5_init_54 : decode cX5_init 54 = .ok (.newarray .int, 2) := by decide +kernel
theorem dX5_init_56 : decode cX5_init 56 = .ok (.putfield 28, 3) := by decide +kernel
theorem dX5_init_59 : decode cX5_init 59 = .ok (.aload_n 0, 1) := by decide +kernel
theorem dX5_init_60 : decode cX5_init 60 = .ok (.iconst 4, 1) := by decide +kernel
theorem dX5_init_61 : decode cX5_init 61 = .ok (.newarray .int, 2) := by decide +kernel
theorem dX5_init_63 : decode cX5_init 63 = .ok (.putfield 31, 3) := by decide +kernel
theorem dX5_init_66 : decode cX5_init 66 = .ok (.aload_n 0, 1) := by decide +kernel
theorem dX5_init_67 : decode cX5_init 67 = .ok (.sipush 160, 3) := by decide +kernel
theorem dX5_init_70 : decode cX5_init 70 = .ok (.newarray .long, 2) := by decide +kernel
theorem dX5_init_72 : decode cX5_init 72 = .ok (.putfield 34, 3) := by decide +kernel
theorem dX5_init_75 : decode cX5_init 75 = .ok (.aload_n 0, 1) := by decide +kernel
theorem dX5_init_76 : decode cX5_init 76 = .ok (.bipush 40, 2) := by decide +kernel
theorem dX5_init_78 : decode cX5_init 78 = .ok (.newarray .long, 2) := by decide +kernel
theorem dX5_init_80 : decode cX5_init 80 = .ok (.putfield 38, 3) := by decide +kernel
theorem dX5_init_83 : decode cX5_init 83 = .ok (.aload_n 0, 1) := by decide +kernel
theorem dX5_init_84 : decode cX5_init 84 = .ok (.bipush 77, 2) := by decide +kernel
theorem dX5_init_86 : decode cX5_init 86 = .ok (.newarray .int, 2) := by decide +kernel
theorem dX5_init_88 : decode cX5_init 88 = .ok (.putfield 41, 3) := by decide +kernel
theorem dX5_init_91 : decode cX5_init 91 = .ok (.aload_n 0, 1) := by decide +kernel
theorem dX5_init_92 : decode cX5_init 92 = .ok (.bipush 77, 2) := by decide +kernel
theorem dX5_init_94 : decode cX5_init 94 = .ok (.newarray .int, 2) := by decide +kernel
theorem dX5_init_96 : decode cX5_init 96 = .ok (.putfield 44, 3) := by decide +kernel
theorem dX5_init_99 : decode cX5_init 99 = .ok (.return_, 1) := by decide +kernel
theorem dX5_in_0 : decode cX5_in 0 = .ok (.iload_n 0, 1) := by decide +kernel
theorem dX5_in_1 : decode cX5_in 1 = .ok (.iload_n 1, 1) := by decide +kernel
theorem dX5_in_2 : decode cX5_in 2 = .ok (.if_icmp .lt 12, 3) := by decide +kernel
theorem dX5_in_5 : decode cX5_in 5 = .ok (.iload_n 0, 1) := by decide +kernel
theorem dX5_in_6 : decode cX5_in 6 = .ok (.iload_n 2, 1) := by decide +kernel
theorem dX5_in_7 : decode cX5_in 7 = .ok (.if_icmp .gt 7, 3) := by decide +kernel
theorem dX5_in_10 : decode cX5_in 10 = .ok (.iconst 1, 1) := by decide +kernel
theorem dX5_in_11 : decode cX5_in 11 = .ok (.goto 4, 3) := by decide +kernel
theorem dX5_in_14 : decode cX5_in 14 = .ok (.iconst 0, 1) := by decide +kernel
theorem dX5_in_15 : decode cX5_in 15 = .ok (.ireturn, 1) := by decide +kernel
theorem dX5_finds_0 : decode cX5_finds 0 = .ok (.aload_n 0, 1) := by decide +kernel
theorem dX5_finds_1 : decode cX5_finds 1 = .ok (.getfield 13, 3) := by decide +kernel
theorem dX5_finds_4 : decode cX5_finds 4 = .ok (.ldc 47, 2) := by decide +kernel
theorem dX5_finds_6 : decode cX5_finds 6 = .ok (.iload_n 1, 1) := by decide +kernel
theorem dX5_finds_7 : decode cX5_finds 7 = .ok (.isub, 1) := by decide +kernel
theorem dX5_finds_8 : decode cX5_finds 8 = .ok (.dup2, 1) := by decide +kernel
theorem dX5_finds_9 : decode cX5_finds 9 = .ok (.iaload, 1) := by decide +kernel
theorem dX5_finds_10 : decode cX5_finds 10 = .ok (.iconst 1, 1) := by decide +kernel
theorem dX5_finds_11 : decode cX5_finds 11 = .ok (.iadd, 1) := by decide +kernel
theorem dX5_finds_12 : decode cX5_finds 12 = .ok (.iastore, 1) := by decide +kernel
theorem dX5_finds_13 : decode cX5_finds 13 = .ok (.iload_n 1, 1) := by decide +kernel
theorem dX5_finds_14 : decode cX5_finds 14 = .ok (.ireturn, 1) := by decide +kernel
theorem dX5_its_0 : decode cX5_its 0 = .ok (.aload_n 0, 1) := by decide +kernel
theorem dX5_its_1 : decode cX5_its 1 = .ok (.getfield 7, 3) := by decide +kernel
theorem dX5_its_4 : decode cX5_its 4 = .ok (.bipush 7, 2) := by decide +kernel
theorem dX5_its_6 : decode cX5_its 6 = .ok (.bipush 7, 2) := by decide +kernel
theorem dX5_its_8 : decode cX5_its 8 = .ok (.iload_n 1, 1) := by decide +kernel
theorem dX5_its_9 : decode cX5_its 9 = .ok (.imul, 1) := by decide +kernel
theorem dX5_its_10 : decode cX5_its 10 = .ok (.iadd, 1) := by decide +kernel
theorem dX5_its_11 : decode cX5_its 11 = .ok (.iload_n 2, 1) := by decide +kernel
theorem dX5_its_12 : decode cX5_its 12 = .ok (.iadd, 1) := by decide +kernel
theorem dX5_its_13 : decode cX5_its 13 = .ok (.iaload, 1) := by decide +kernel
theorem dX5_its_14 : decode cX5_its 14 = .ok (.ireturn, 1) := by decide +kernel
theorem dX5_sets_0 : decode cX5_sets 0 = .ok (.aload_n 0, 1) := by decide +kernel
theorem dX5_sets_1 : decode cX5_sets 1 = .ok (.getfield 7, 3) := by decide +kernel
theorem dX5_sets_4 : decode cX5_sets 4 = .ok (.bipush 7, 2) := by decide +kernel
theorem dX5_sets_6 : decode cX5_sets 6 = .ok (.bipush 7, 2) := by decide +kernel
theorem dX5_sets_8 : decode cX5_sets 8 = .ok (.iload_n 1, 1) := by decide +kernel
theorem dX5_sets_9 : decode cX5_sets 9 = .ok (.imul, 1) := by decide +kernel
theorem dX5_sets_10 : decode cX5_sets 10 = .ok (.iadd, 1) := by decide +kernel
theorem dX5_sets_11 : decode cX5_sets 11 = .ok (.iload_n 2, 1) := by decide +kernel
theorem dX5_sets_12 : decode cX5_sets 12 = .ok (.iadd, 1) := by decide +kernel
theorem dX5_sets_13 : decode cX5_sets 13 = .ok (.iload_n 3, 1) := by decide +kernel
theorem dX5_sets_14 : decode cX5_sets 14 = .ok (.iastore, 1) := by decide +kernel
theorem dX5_sets_15 : decode cX5_sets 15 = .ok (.return_, 1) := by decide +kernel
theorem dX5_isOne_0 : decode cX5_isOne 0 = .ok (.iload_n 1, 1) := by decide +kernel
theorem dX5_isOne_1 : decode cX5_isOne 1 = .ok (.iconst 0, 1) := by decide +kernel
theorem dX5_isOne_2 : decode cX5_isOne 2 = .ok (.aload_n 0, 1) := by decide +kernel
theorem dX5_isOne_3 : decode cX5_isOne 3 = .ok (.getfield 7, 3) := by decide +kernel
theorem dX5_isOne_6 : decode cX5_isOne 6 = .ok (.iconst 0, 1) := by decide +kernel
theorem dX5_isOne_7 : decode cX5_isOne 7 = .ok (.iaload, 1) := by decide +kernel
theorem dX5_isOne_8 : decode cX5_isOne 8 = .ok (.iconst 1, 1) := by decide +kernel
theorem dX5_isOne_9 : decode cX5_isOne 9 = .ok (.isub, 1) := by decide +kernel
theorem dX5_isOne_10 : decode cX5_isOne 10 = .ok (.invokestatic 48, 3) := by decide +kernel
theorem dX5_isOne_13 : decode cX5_isOne 13 = .ok (.ireturn, 1) := by decide +kernel
theorem dX5_isKind_0 : decode cX5_isKind 0 = .ok (.iload_n 0, 1) := by decide +kernel
theorem dX5_isKind_1 : decode cX5_isKind 1 = .ok (.iconst 0, 1) := by decide +kernel
theorem dX5_isKind_2 : decode cX5_isKind 2 = .ok (.iconst 5, 1) := by decide +kernel
theorem dX5_isKind_3 : decode cX5_isKind 3 = .ok (.invokestatic 48, 3) := by decide +kernel
theorem dX5_isKind_6 : decode cX5_isKind 6 = .ok (.ireturn, 1) := by decide +kernel
theorem dX5_cut_0 : decode cX5_cut 0 = .ok (.iload_n 0, 1) := by decide +kernel
theorem dX5_cut_1 : decode cX5_cut 1 = .ok (.iload_n 1, 1) := by decide +kernel
theorem dX5_cut_2 : decode cX5_cut 2 = .ok (.if_icmp .ge 7, 3) := by decide +kernel
theorem dX5_cut_5 : decode cX5_cut 5 = .ok (.iload_n 0, 1) := by decide +kernel
theorem dX5_cut_6 : decode cX5_cut 6 = .ok (.goto 4, 3) := by decide +kernel
theorem dX5_cut_9 : decode cX5_cut 9 = .ok (.iload_n 1, 1) := by decide +kernel
theorem dX5_cut_10 : decode cX5_cut 10 = .ok (.ireturn, 1) := by decide +kernel
theorem dX5_thinks_0 : decode cX5_thinks 0 = .ok (.aload_n 0, 1) := by decide +kernel
theorem dX5_thinks_1 : decode cX5_thinks 1 = .ok (.getfield 7, 3) := by decide +kernel
theorem dX5_thinks_4 : decode cX5_thinks 4 = .ok (.iconst 3, 1) := by decide +kernel
theorem dX5_thinks_5 : decode cX5_thinks 5 = .ok (.iaload, 1) := by decide +kernel
theorem dX5_thinks_6 : decode cX5_thinks 6 = .ok (.ifCond .ne 10, 3) := by decide +kernel
theorem dX5_thinks_9 : decode cX5_thinks 9 = .ok (.aload_n 0, 1) := by decide +kernel
theorem dX5_thinks_10 : decode cX5_thinks 10 = .ok (.iload_n 1, 1) := by decide +kernel
theorem dX5_thinks_11 : decode cX5_thinks 11 = .ok (.iconst 3, 1) := by decide +kernel
theorem dX5_thinks_12 : decode cX5_thinks 12 = .ok (.invokevirtual 52, 3) := by decide +kernel
theorem dX5_thinks_15 : decode cX5_thinks 15 = .ok (.ireturn, 1) := by decide +kernel
theorem dX5_thinks_16 : decode cX5_thinks 16 = .ok (.iload_n 2, 1) := by decide +kernel
theorem dX5_thinks_17 : decode cX5_thinks 17 = .ok (.aload_n 0, 1) := by decide +kernel
theorem dX5_thinks_18 : decode cX5_thinks 18 = .ok (.getfield 7, 3) := by decide +kernel
theorem dX5_thinks_21 : decode cX5_thinks 21 = .ok (.iconst 4, 1) := by decide +kernel
theorem dX5_thinks_22 : decode cX5_thinks 22 = .ok (.iaload, 1) := by decide +kernel
theorem dX5_thinks_23 : decode cX5_thinks 23 = .ok (.iadd, 1) := by decide +kernel
theorem dX5_thinks_24 : decode cX5_thinks 24 = .ok (.ifCond .le 14, 3) := by decide +kernel
theorem dX5_thinks_27 : decode cX5_thinks 27 = .ok (.iload_n 2, 1) := by decide +kernel
theorem dX5_thinks_28 : decode cX5_thinks 28 = .ok (.aload_n 0, 1) := by decide +kernel
theorem dX5_thinks_29 : decode cX5_thinks 29 = .ok (.getfield 7, 3) := by decide +kernel
theorem dX5_thinks_32 : decode cX5_thinks 32 = .ok (.iconst 4, 1) := by decide +kernel
theorem dX5_thinks_33 : decode cX5_thinks 33 = .ok (.iaload, 1) := by decide +kernel
theorem dX5_thinks_34 : decode cX5_thinks 34 = .ok (.iadd, 1) := by decide +kernel
theorem dX5_thinks_35 : decode cX5_thinks 35 = .ok (.goto 4, 3) := by decide +kernel
theorem dX5_thinks_38 : decode cX5_thinks 38 = .ok (.iconst 0, 1) := by decide +kernel
theorem dX5_thinks_39 : decode cX5_thinks 39 = .ok (.ireturn, 1) := by decide +kernel
theorem dX5_shortAs_0 : decode cX5_shortAs 0 = .ok (.iload_n 2, 1) := by decide +kernel
theorem dX5_shortAs_1 : decode cX5_shortAs 1 = .ok (.iconst 1, 1) := by decide +kernel
theorem dX5_shortAs_2 : decode cX5_shortAs 2 = .ok (.iadd, 1) := by decide +kernel
theorem dX5_shortAs_3 : decode cX5_shortAs 3 = .ok (.aload_n 0, 1) := by decide +kernel
theorem dX5_shortAs_4 : decode cX5_shortAs 4 = .ok (.iload_n 1, 1) := by decide +kernel
theorem dX5_shortAs_5 : decode cX5_shortAs 5 = .ok (.iload_n 3, 1) := by decide +kernel
theorem dX5_shortAs_6 : decode cX5_shortAs 6 = .ok (.invokevirtual 56, 3) := by decide +kernel
theorem dX5_shortAs_9 : decode cX5_shortAs 9 = .ok (.isub, 1) := by decide +kernel
theorem dX5_shortAs_10 : decode cX5_shortAs 10 = .ok (.istore 4, 2) := by decide +kernel
theorem dX5_shortAs_12 : decode cX5_shortAs 12 = .ok (.iload 4, 2) := by decide +kernel
theorem dX5_shortAs_14 : decode cX5_shortAs 14 = .ok (.ifCond .le 8, 3) := by decide +kernel
theorem dX5_shortAs_17 : decode cX5_shortAs 17 = .ok (.iload 4, 2) := by decide +kernel
theorem dX5_shortAs_19 : decode cX5_shortAs 19 = .ok (.goto 4, 3) := by decide +kernel
theorem dX5_shortAs_22 : decode cX5_shortAs 22 = .ok (.iconst 0, 1) := by decide +kernel
theorem dX5_shortAs_23 : decode cX5_shortAs 23 = .ok (.ireturn, 1) := by decide +kernel
theorem dX5_would_0 : decode cX5_would 0 = .ok (.aload_n 0, 1) := by decide +kernel
theorem dX5_would_1 : decode cX5_would 1 = .ok (.iload_n 1, 1) := by decide +kernel
theorem dX5_would_2 : decode cX5_would 2 = .ok (.iload_n 1, 1) := by decide +kernel
theorem dX5_would_3 : decode cX5_would 3 = .ok (.iload_n 2, 1) := by decide +kernel
theorem dX5_would_4 : decode cX5_would 4 = .ok (.invokevirtual 59, 3) := by decide +kernel
theorem dX5_would_7 : decode cX5_would 7 = .ok (.istore_n 3, 1) := by decide +kernel
theorem dX5_would_8 : decode cX5_would 8 = .ok (.iconst 0, 1) := by decide +kernel
theorem dX5_would_9 : decode cX5_would 9 = .ok (.istore 4, 2) := by decide +kernel
theorem dX5_would_11 : decode cX5_would 11 = .ok (.aload_n 0, 1) := by decide +kernel
theorem dX5_would_12 : decode cX5_would 12 = .ok (.iload_n 1, 1) := by decide +kernel
theorem dX5_would_13 : decode cX5_would 13 = .ok (.iconst 0, 1) := by decide +kernel
theorem dX5_would_14 : decode cX5_would 14 = .ok (.invokevirtual 52, 3) := by decide +kernel
theorem dX5_would_17 : decode cX5_would 17 = .ok (.tableswitch 97 1 5 #[35, 38, 44, 64, 78], 35) := by decide +kernel
theorem dX5_would_52 : decode cX5_would 52 = .ok (.goto 83, 3) := by decide +kernel
theorem dX5_would_55 : decode cX5_would 55 = .ok (.iconst 1, 1) := by decide +kernel
theorem dX5_would_56 : decode cX5_would 56 = .ok (.istore 4, 2) := by decide +kernel
theorem dX5_would_58 : decode cX5_would 58 = .ok (.goto 77, 3) := by decide +kernel
theorem dX5_would_61 : decode cX5_would 61 = .ok (.iload_n 3, 1) := by decide +kernel
theorem dX5_would_62 : decode cX5_would 62 = .ok (.aload_n 0, 1) := by decide +kernel
theorem dX5_would_63 : decode cX5_would 63 = .ok (.iload_n 1, 1) := by decide +kernel
theorem dX5_would_64 : decode cX5_would 64 = .ok (.iconst 2, 1) := by decide +kernel
theorem dX5_would_65 : decode cX5_would 65 = .ok (.invokevirtual 52, 3) := by decide +kernel
theorem dX5_would_68 : decode cX5_would 68 = .ok (.if_icmp .gt 7, 3) := by decide +kernel
theorem dX5_would_71 : decode cX5_would 71 = .ok (.iload_n 3, 1) := by decide +kernel
theorem dX5_would_72 : decode cX5_would 72 = .ok (.goto 4, 3) := by decide +kernel
theorem dX5_would_75 : decode cX5_would 75 = .ok (.iconst 0, 1) := by decide +kernel
theorem dX5_would_76 : decode cX5_would 76 = .ok (.istore 4, 2) := by decide +kernel
theorem dX5_would_78 : decode cX5_would 78 = .ok (.goto 57, 3) := by decide +kernel
theorem dX5_would_81 : decode cX5_would 81 = .ok (.iload_n 2, 1) := by decide +kernel
theorem dX5_would_82 : decode cX5_would 82 = .ok (.ifCond .le 7, 3) := by decide +kernel
theorem dX5_would_85 : decode cX5_would 85 = .ok (.iconst (-1), 1) := by decide +kernel
theorem dX5_would_86 : decode cX5_would 86 = .ok (.goto 4, 3) := by decide +kernel
theorem dX5_would_89 : decode cX5_would 89 = .ok (.iconst 0, 1) := by decide +kernel
theorem dX5_would_90 : decode cX5_would 90 = .ok (.istore 4, 2) := by decide +kernel
theorem dX5_would_92 : decode cX5_would 92 = .ok (.goto 43, 3) := by decide +kernel
theorem dX5_would_95 : decode cX5_would 95 = .ok (.aload_n 0, 1) := by decide +kernel
theorem dX5_would_96 : decode cX5_would 96 = .ok (.iload_n 1, 1) := by decide +kernel
theorem dX5_would_97 : decode cX5_would 97 = .ok (.aload_n 0, 1) := by decide +kernel
theorem dX5_would_98 : decode cX5_would 98 = .ok (.getfield 7, 3) := by decide +kernel
theorem dX5_would_101 : decode cX5_would 101 = .ok (.iconst 0, 1) := by decide +kernel
theorem dX5_would_102 : decode cX5_would 102 = .ok (.iaload, 1) := by decide +kernel
theorem dX5_would_103 : decode cX5_would 103 = .ok (.iconst 1, 1) := by decide +kernel
theorem dX5_would_104 : decode cX5_would 104 = .ok (.isub, 1) := by decide +kernel
theorem dX5_would_105 : decode cX5_would 105 = .ok (.iload_n 2, 1) := by decide +kernel
theorem dX5_would_106 : decode cX5_would 106 = .ok (.invokevirtual 59, 3) := by decide +kernel
theorem dX5_would_109 : decode cX5_would 109 = .ok (.istore 4, 2) := by decide +kernel
theorem dX5_would_111 : decode cX5_would 111 = .ok (.goto 24, 3) := by decide +kernel
theorem dX5_would_114 : decode cX5_would 114 = .ok (.iload_n 3, 1) := by decide +kernel
theorem dX5_would_115 : decode cX5_would 115 = .ok (.iconst 1, 1) := by decide +kernel
theorem dX5_would_116 : decode cX5_would 116 = .ok (.if_icmp .ne 16, 3) := by decide +kernel
theorem dX5_would_119 : decode cX5_would 119 = .ok (.aload_n 0, 1) := by decide +kernel
theorem dX5_would_120 : decode cX5_would 120 = .ok (.iload_n 1, 1) := by decide +kernel
theorem dX5_would_121 : decode cX5_would 121 = .ok (.iconst 2, 1) := by decide +kernel
theorem dX5_would_122 : decode cX5_would 122 = .ok (.invokevirtual 52, 3) := by decide +kernel
theorem dX5_would_125 : decode cX5_would 125 = .ok (.ifCond .le 7, 3) := by decide +kernel
theorem dX5_would_128 : decode cX5_would 128 = .ok (.iconst 1, 1) := by decide +kernel
theorem dX5_would_129 : decode cX5_would 129 = .ok (.goto 4, 3) := by decide +kernel
theorem dX5_would_132 : decode cX5_would 132 = .ok (.iconst 0, 1) := by decide +kernel
theorem dX5_would_133 : decode cX5_would 133 = .ok (.istore 4, 2) := by decide +kernel
theorem dX5_would_135 : decode cX5_would 135 = .ok (.iload 4, 2) := by decide +kernel
theorem dX5_would_137 : decode cX5_would 137 = .ok (.aload_n 0, 1) := by decide +kernel
theorem dX5_would_138 : decode cX5_would 138 = .ok (.iload_n 1, 1) := by decide +kernel
theorem dX5_would_139 : decode cX5_would 139 = .ok (.iconst 1, 1) := by decide +kernel
theorem dX5_would_140 : decode cX5_would 140 = .ok (.invokevirtual 52, 3) := by decide +kernel
theorem dX5_would_143 : decode cX5_would 143 = .ok (.invokestatic 63, 3) := by decide +kernel
theorem dX5_would_146 : decode cX5_would 146 = .ok (.ireturn, 1) := by decide +kernel
theorem dX5_addOne_0 : decode cX5_addOne 0 = .ok (.aload_n 0, 1) := by decide +kernel
theorem dX5_addOne_1 : decode cX5_addOne 1 = .ok (.getfield 7, 3) := by decide +kernel
theorem dX5_addOne_4 : decode cX5_addOne 4 = .ok (.iconst 0, 1) := by decide +kernel
theorem dX5_addOne_5 : decode cX5_addOne 5 = .ok (.iaload, 1) := by decide +kernel
theorem dX5_addOne_6 : decode cX5_addOne 6 = .ok (.istore 5, 2) := by decide +kernel
theorem dX5_addOne_8 : decode cX5_addOne 8 = .ok (.aload_n 0, 1) := by decide +kernel
theorem dX5_addOne_9 : decode cX5_addOne 9 = .ok (.iload 5, 2) := by decide +kernel
theorem dX5_addOne_11 : decode cX5_addOne 11 = .ok (.iconst 0, 1) := by decide +kernel
theorem dX5_addOne_12 : decode cX5_addOne 12 = .ok (.iload_n 1, 1) := by decide +kernel
theorem dX5_addOne_13 : decode cX5_addOne 13 = .ok (.invokevirtual 66, 3) := by decide +kernel
theorem dX5_addOne_16 : decode cX5_addOne 16 = .ok (.aload_n 0, 1) := by decide +kernel
theorem dX5_addOne_17 : decode cX5_addOne 17 = .ok (.iload 5, 2) := by decide +kernel
theorem dX5_addOne_19 : decode cX5_addOne 19 = .ok (.iconst 1, 1) := by decide +kernel
theorem dX5_addOne_20 : decode cX5_addOne 20 = .ok (.iload_n 2, 1) := by decide +kernel
theorem dX5_addOne_21 : decode cX5_addOne 21 = .ok (.invokevirtual 66, 3) := by decide +kernel
theorem dX5_addOne_24 : decode cX5_addOne 24 = .ok (.aload_n 0, 1) := by decide +kernel
theorem dX5_addOne_25 : decode cX5_addOne 25 = .ok (.iload 5, 2) := by decide +kernel
theorem dX5_addOne_27 : decode cX5_addOne 27 = .ok (.iconst 2, 1) := by decide +kernel
theorem dX5_addOne_28 : decode cX5_addOne 28 = .ok (.iload_n 3, 1) := by decide +kernel
theorem dX5_addOne_29 : decode cX5_addOne 29 = .ok (.invokevirtual 66, 3) := by decide +kernel
theorem dX5_addOne_32 : decode cX5_addOne 32 = .ok (.aload_n 0, 1) := by decide +kernel
theorem dX5_addOne_33 : decode cX5_addOne 33 = .ok (.iload 5, 2) := by decide +kernel
theorem dX5_addOne_35 : decode cX5_addOne 35 = .ok (.iconst 3, 1) := by decide +kernel
theorem dX5_addOne_36 : decode cX5_addOne 36 = .ok (.iload 4, 2) := by decide +kernel
theorem dX5_addOne_38 : decode cX5_addOne 38 = .ok (.invokevirtual 66, 3) := by decide +kernel
theorem dX5_addOne_41 : decode cX5_addOne 41 = .ok (.aload_n 0, 1) := by decide +kernel
theorem dX5_addOne_42 : decode cX5_addOne 42 = .ok (.iload 5, 2) := by decide +kernel
theorem dX5_addOne_44 : decode cX5_addOne 44 = .ok (.iconst 4, 1) := by decide +kernel
theorem dX5_addOne_45 : decode cX5_addOne 45 = .ok (.iconst 0, 1) := by decide +kernel
theorem dX5_addOne_46 : decode cX5_addOne 46 = .ok (.invokevirtual 66, 3) := by decide +kernel
theorem dX5_addOne_49 : decode cX5_addOne 49 = .ok (.aload_n 0, 1) := by decide +kernel
theorem dX5_addOne_50 : decode cX5_addOne 50 = .ok (.iload 5, 2) := by decide +kernel
theorem dX5_addOne_52 : decode cX5_addOne 52 = .ok (.iconst 5, 1) := by decide +kernel
theorem dX5_addOne_53 : decode cX5_addOne 53 = .ok (.iconst 0, 1) := by decide +kernel
theorem dX5_addOne_54 : decode cX5_addOne 54 = .ok (.invokevirtual 66, 3) := by decide +kernel
theorem dX5_addOne_57 : decode cX5_addOne 57 = .ok (.aload_n 0, 1) := by decide +kernel
theorem dX5_addOne_58 : decode cX5_addOne 58 = .ok (.iload 5, 2) := by decide +kernel
theorem dX5_addOne_60 : decode cX5_addOne 60 = .ok (.bipush 6, 2) := by decide +kernel
theorem dX5_addOne_62 : decode cX5_addOne 62 = .ok (.iconst 0, 1) := by decide +kernel
theorem dX5_addOne_63 : decode cX5_addOne 63 = .ok (.invokevirtual 66, 3) := by decide +kernel
theorem dX5_addOne_66 : decode cX5_addOne 66 = .ok (.aload_n 0, 1) := by decide +kernel
theorem dX5_addOne_67 : decode cX5_addOne 67 = .ok (.getfield 7, 3) := by decide +kernel
theorem dX5_addOne_70 : decode cX5_addOne 70 = .ok (.iconst 0, 1) := by decide +kernel
theorem dX5_addOne_71 : decode cX5_addOne 71 = .ok (.dup2, 1) := by decide +kernel
theorem dX5_addOne_72 : decode cX5_addOne 72 = .ok (.iaload, 1) := by decide +kernel
theorem dX5_addOne_73 : decode cX5_addOne 73 = .ok (.iconst 1, 1) := by decide +kernel
theorem dX5_addOne_74 : decode cX5_addOne 74 = .ok (.iadd, 1) := by decide +kernel
theorem dX5_addOne_75 : decode cX5_addOne 75 = .ok (.iastore, 1) := by decide +kernel
theorem dX5_addOne_76 : decode cX5_addOne 76 = .ok (.return_, 1) := by decide +kernel
theorem dX5_person_0 : decode cX5_person 0 = .ok (.iload_n 1, 1) := by decide +kernel
theorem dX5_person_1 : decode cX5_person 1 = .ok (.invokestatic 70, 3) := by decide +kernel
theorem dX5_person_4 : decode cX5_person 4 = .ok (.ifCond .ne 10, 3) := by decide +kernel
theorem dX5_person_7 : decode cX5_person 7 = .ok (.aload_n 0, 1) := by decide +kernel
theorem dX5_person_8 : decode cX5_person 8 = .ok (.ldc 47, 2) := by decide +kernel
theorem dX5_person_10 : decode cX5_person 10 = .ok (.invokevirtual 74, 3) := by decide +kernel
theorem dX5_person_13 : decode cX5_person 13 = .ok (.ireturn, 1) := by decide +kernel
theorem dX5_person_14 : decode cX5_person 14 = .ok (.aload_n 0, 1) := by decide +kernel
theorem dX5_person_15 : decode cX5_person 15 = .ok (.getfield 7, 3) := by decide +kernel
theorem dX5_person_18 : decode cX5_person 18 = .ok (.iconst 0, 1) := by decide +kernel
theorem dX5_person_19 : decode cX5_person 19 = .ok (.iaload, 1) := by decide +kernel
theorem dX5_person_20 : decode cX5_person 20 = .ok (.bipush 10, 2) := by decide +kernel
theorem dX5_person_22 : decode cX5_person 22 = .ok (.if_icmp .ne 10, 3) := by decide +kernel
theorem dX5_person_25 : decode cX5_person 25 = .ok (.aload_n 0, 1) := by decide +kernel
theorem dX5_person_26 : decode cX5_person 26 = .ok (.ldc 78, 2) := by decide +kernel
theorem dX5_person_28 : decode cX5_person 28 = .ok (.invokevirtual 74, 3) := by decide +kernel
theorem dX5_person_31 : decode cX5_person 31 = .ok (.ireturn, 1) := by decide +kernel
theorem dX5_person_32 : decode cX5_person 32 = .ok (.aload_n 0, 1) := by decide +kernel
theorem dX5_person_33 : decode cX5_person 33 = .ok (.iload_n 1, 1) := by decide +kernel
theorem dX5_person_34 : decode cX5_person 34 = .ok (.iconst 5, 1) := by decide +kernel
theorem dX5_person_35 : decode cX5_person 35 = .ok (.iconst 3, 1) := by decide +kernel
theorem dX5_person_36 : decode cX5_person 36 = .ok (.iconst 0, 1) := by decide +kernel
theorem dX5_person_37 : decode cX5_person 37 = .ok (.invokevirtual 79, 3) := by decide +kernel
theorem dX5_person_40 : decode cX5_person 40 = .ok (.aload_n 0, 1) := by decide +kernel
theorem dX5_person_41 : decode cX5_person 41 = .ok (.getfield 7, 3) := by decide +kernel
theorem dX5_person_44 : decode cX5_person 44 = .ok (.iconst 0, 1) := by decide +kernel
theorem dX5_person_45 : decode cX5_person 45 = .ok (.iaload, 1) := by decide +kernel
theorem dX5_person_46 : decode cX5_person 46 = .ok (.iconst 1, 1) := by decide +kernel
theorem dX5_person_47 : decode cX5_person 47 = .ok (.isub, 1) := by decide +kernel
theorem dX5_person_48 : decode cX5_person 48 = .ok (.ireturn, 1) := by decide +kernel
theorem dX5_of_0 : decode cX5_of 0 = .ok (.aload_n 0, 1) := by decide +kernel
theorem dX5_of_1 : decode cX5_of 1 = .ok (.iload_n 1, 1) := by decide +kernel
theorem dX5_of_2 : decode cX5_of 2 = .ok (.invokevirtual 83, 3) := by decide +kernel
theorem dX5_of_5 : decode cX5_of 5 = .ok (.ifCond .eq 13, 3) := by decide +kernel
theorem dX5_of_8 : decode cX5_of 8 = .ok (.iload_n 2, 1) := by decide +kernel
theorem dX5_of_9 : decode cX5_of 9 = .ok (.iconst 0, 1) := by decide +kernel
theorem dX5_of_10 : decode cX5_of 10 = .ok (.bipush 9, 2) := by decide +kernel
theorem dX5_of_12 : decode cX5_of 12 = .ok (.invokestatic 48, 3) := by decide +kernel
theorem dX5_of_15 : decode cX5_of 15 = .ok (.ifCond .ne 10, 3) := by decide +kernel
theorem dX5_of_18 : decode cX5_of 18 = .ok (.aload_n 0, 1) := by decide +kernel
theorem dX5_of_19 : decode cX5_of 19 = .ok (.ldc 47, 2) := by decide +kernel
theorem dX5_of_21 : decode cX5_of 21 = .ok (.invokevirtual 74, 3) := by decide +kernel
theorem dX5_of_24 : decode cX5_of 24 = .ok (.ireturn, 1) := by decide +kernel
theorem dX5_of_25 : decode cX5_of 25 = .ok (.iload_n 2, 1) := by decide +kernel
theorem dX5_of_26 : decode cX5_of 26 = .ok (.bipush 7, 2) := by decide +kernel
theorem dX5_of_28 : decode cX5_of 28 = .ok (.if_icmp .ge 12, 3) := by decide +kernel
theorem dX5_of_31 : decode cX5_of 31 = .ok (.aload_n 0, 1) := by decide +kernel
theorem dX5_of_32 : decode cX5_of 32 = .ok (.iload_n 1, 1) := by decide +kernel
theorem dX5_of_33 : decode cX5_of 33 = .ok (.iload_n 2, 1) := by decide +kernel
theorem dX5_of_34 : decode cX5_of 34 = .ok (.invokevirtual 52, 3) := by decide +kernel
theorem dX5_of_37 : decode cX5_of 37 = .ok (.goto 55, 3) := by decide +kernel
theorem dX5_of_40 : decode cX5_of 40 = .ok (.iload_n 2, 1) := by decide +kernel
theorem dX5_of_41 : decode cX5_of 41 = .ok (.bipush 7, 2) := by decide +kernel
theorem dX5_of_43 : decode cX5_of 43 = .ok (.if_icmp .ne 17, 3) := by decide +kernel
theorem dX5_of_46 : decode cX5_of 46 = .ok (.aload_n 0, 1) := by decide +kernel
theorem dX5_of_47 : decode cX5_of 47 = .ok (.iload_n 1, 1) := by decide +kernel
theorem dX5_of_48 : decode cX5_of 48 = .ok (.aload_n 0, 1) := by decide +kernel
theorem dX5_of_49 : decode cX5_of 49 = .ok (.getfield 7, 3) := by decide +kernel
theorem dX5_of_52 : decode cX5_of 52 = .ok (.iconst 1, 1) := by decide +kernel
theorem dX5_of_53 : decode cX5_of 53 = .ok (.iaload, 1) := by decide +kernel
theorem dX5_of_54 : decode cX5_of 54 = .ok (.invokevirtual 56, 3) := by decide +kernel
theorem dX5_of_57 : decode cX5_of 57 = .ok (.goto 35, 3) := by decide +kernel
theorem dX5_of_60 : decode cX5_of 60 = .ok (.iload_n 2, 1) := by decide +kernel
theorem dX5_of_61 : decode cX5_of 61 = .ok (.bipush 8, 2) := by decide +kernel
theorem dX5_of_63 : decode cX5_of 63 = .ok (.if_icmp .ne 18, 3) := by decide +kernel
theorem dX5_of_66 : decode cX5_of 66 = .ok (.aload_n 0, 1) := by decide +kernel
theorem dX5_of_67 : decode cX5_of 67 = .ok (.iload_n 1, 1) := by decide +kernel
theorem dX5_of_68 : decode cX5_of 68 = .ok (.iload_n 1, 1) := by decide +kernel
theorem dX5_of_69 : decode cX5_of 69 = .ok (.aload_n 0, 1) := by decide +kernel
theorem dX5_of_70 : decode cX5_of 70 = .ok (.getfield 7, 3) := by decide +kernel
theorem dX5_of_73 : decode cX5_of 73 = .ok (.iconst 1, 1) := by decide +kernel
theorem dX5_of_74 : decode cX5_of 74 = .ok (.iaload, 1) := by decide +kernel
theorem dX5_of_75 : decode cX5_of 75 = .ok (.invokevirtual 59, 3) := by decide +kernel
theorem dX5_of_78 : decode cX5_of 78 = .ok (.goto 14, 3) := by decide +kernel
theorem dX5_of_81 : decode cX5_of 81 = .ok (.aload_n 0, 1) := by decide +kernel
theorem dX5_of_82 : decode cX5_of 82 = .ok (.iload_n 1, 1) := by decide +kernel
theorem dX5_of_83 : decode cX5_of 83 = .ok (.aload_n 0, 1) := by decide +kernel
theorem dX5_of_84 : decode cX5_of 84 = .ok (.getfield 7, 3) := by decide +kernel
theorem dX5_of_87 : decode cX5_of 87 = .ok (.iconst 1, 1) := by decide +kernel
theorem dX5_of_88 : decode cX5_of 88 = .ok (.iaload, 1) := by decide +kernel
theorem dX5_of_89 : decode cX5_of 89 = .ok (.invokevirtual 86, 3) := by decide +kernel
theorem dX5_of_92 : decode cX5_of 92 = .ok (.ireturn, 1) := by decide +kernel
theorem dX5_set_0 : decode cX5_set 0 = .ok (.iload_n 2, 1) := by decide +kernel
theorem dX5_set_1 : decode cX5_set 1 = .ok (.iconst 1, 1) := by decide +kernel
theorem dX5_set_2 : decode cX5_set 2 = .ok (.if_icmp .ne 14, 3) := by decide +kernel
theorem dX5_set_5 : decode cX5_set 5 = .ok (.iload_n 3, 1) := by decide +kernel
theorem dX5_set_6 : decode cX5_set 6 = .ok (.iconst 0, 1) := by decide +kernel
theorem dX5_set_7 : decode cX5_set 7 = .ok (.sipush 999, 3) := by decide +kernel
theorem dX5_set_10 : decode cX5_set 10 = .ok (.invokestatic 48, 3) := by decide +kernel
theorem dX5_set_13 : decode cX5_set 13 = .ok (.goto 28, 3) := by decide +kernel
theorem dX5_set_16 : decode cX5_set 16 = .ok (.iload_n 2, 1) := by decide +kernel
theorem dX5_set_17 : decode cX5_set 17 = .ok (.iconst 2, 1) := by decide +kernel
theorem dX5_set_18 : decode cX5_set 18 = .ok (.if_icmp .eq 8, 3) := by decide +kernel
theorem dX5_set_21 : decode cX5_set 21 = .ok (.iload_n 2, 1) := by decide +kernel
theorem dX5_set_22 : decode cX5_set 22 = .ok (.iconst 3, 1) := by decide +kernel
theorem dX5_set_23 : decode cX5_set 23 = .ok (.if_icmp .ne 17, 3) := by decide +kernel
theorem dX5_set_26 : decode cX5_set 26 = .ok (.iload_n 3, 1) := by decide +kernel
theorem dX5_set_27 : decode cX5_set 27 = .ok (.iconst 0, 1) := by decide +kernel
theorem dX5_set_28 : decode cX5_set 28 = .ok (.bipush 99, 2) := by decide +kernel
theorem dX5_set_30 : decode cX5_set 30 = .ok (.invokestatic 48, 3) := by decide +kernel
theorem dX5_set_33 : decode cX5_set 33 = .ok (.ifCond .eq 7, 3) := by decide +kernel
theorem dX5_set_36 : decode cX5_set 36 = .ok (.iconst 1, 1) := by decide +kernel
theorem dX5_set_37 : decode cX5_set 37 = .ok (.goto 4, 3) := by decide +kernel
theorem dX5_set_40 : decode cX5_set 40 = .ok (.iconst 0, 1) := by decide +kernel
theorem dX5_set_41 : decode cX5_set 41 = .ok (.istore 4, 2) := by decide +kernel
theorem dX5_set_43 : decode cX5_set 43 = .ok (.aload_n 0, 1) := by decide +kernel
theorem dX5_set_44 : decode cX5_set 44 = .ok (.iload_n 1, 1) := by decide +kernel
theorem dX5_set_45 : decode cX5_set 45 = .ok (.invokevirtual 83, 3) := by decide +kernel
theorem dX5_set_48 : decode cX5_set 48 = .ok (.ifCond .eq 8, 3) := by decide +kernel
theorem dX5_set_51 : decode cX5_set 51 = .ok (.iload 4, 2) := by decide +kernel
theorem dX5_set_53 : decode cX5_set 53 = .ok (.ifCond .ne 10, 3) := by decide +kernel
theorem dX5_set_56 : decode cX5_set 56 = .ok (.aload_n 0, 1) := by decide +kernel
theorem dX5_set_57 : decode cX5_set 57 = .ok (.ldc 47, 2) := by decide +kernel
theorem dX5_set_59 : decode cX5_set 59 = .ok (.invokevirtual 74, 3) := by decide +kernel
theorem dX5_set_62 : decode cX5_set 62 = .ok (.ireturn, 1) := by decide +kernel
theorem dX5_set_63 : decode cX5_set 63 = .ok (.aload_n 0, 1) := by decide +kernel
theorem dX5_set_64 : decode cX5_set 64 = .ok (.iload_n 1, 1) := by decide +kernel
theorem dX5_set_65 : decode cX5_set 65 = .ok (.iload_n 2, 1) := by decide +kernel
theorem dX5_set_66 : decode cX5_set 66 = .ok (.invokevirtual 52, 3) := by decide +kernel
theorem dX5_set_69 : decode cX5_set 69 = .ok (.istore 5, 2) := by decide +kernel
theorem dX5_set_71 : decode cX5_set 71 = .ok (.aload_n 0, 1) := by decide +kernel
theorem dX5_set_72 : decode cX5_set 72 = .ok (.iload_n 1, 1) := by decide +kernel
theorem dX5_set_73 : decode cX5_set 73 = .ok (.iload_n 2, 1) := by decide +kernel
theorem dX5_set_74 : decode cX5_set 74 = .ok (.iload_n 3, 1) := by decide +kernel
theorem dX5_set_75 : decode cX5_set 75 = .ok (.invokevirtual 66, 3) := by decide +kernel
theorem dX5_set_78 : decode cX5_set 78 = .ok (.iload 5, 2) := by decide +kernel
theorem dX5_set_80 : decode cX5_set 80 = .ok (.ireturn, 1) := by decide +kernel
theorem dX5_turn_0 : decode cX5_turn 0 = .ok (.aload_n 0, 1) := by decide +kernel
theorem dX5_turn_1 : decode cX5_turn 1 = .ok (.iload_n 1, 1) := by decide +kernel
theorem dX5_turn_2 : decode cX5_turn 2 = .ok (.invokevirtual 83, 3) := by decide +kernel
theorem dX5_turn_5 : decode cX5_turn 5 = .ok (.ifCond .eq 10, 3) := by decide +kernel
theorem dX5_turn_8 : decode cX5_turn 8 = .ok (.iload_n 2, 1) := by decide +kernel
theorem dX5_turn_9 : decode cX5_turn 9 = .ok (.invokestatic 70, 3) := by decide +kernel
theorem dX5_turn_12 : decode cX5_turn 12 = .ok (.ifCond .ne 10, 3) := by decide +kernel
theorem dX5_turn_15 : decode cX5_turn 15 = .ok (.aload_n 0, 1) := by decide +kernel
theorem dX5_turn_16 : decode cX5_turn 16 = .ok (.ldc 47, 2) := by decide +kernel
theorem dX5_turn_18 : decode cX5_turn 18 = .ok (.invokevirtual 74, 3) := by decide +kernel
theorem dX5_turn_21 : decode cX5_turn 21 = .ok (.ireturn, 1) := by decide +kernel
theorem dX5_turn_22 : decode cX5_turn 22 = .ok (.aload_n 0, 1) := by decide +kernel
theorem dX5_turn_23 : decode cX5_turn 23 = .ok (.iload_n 1, 1) := by decide +kernel
theorem dX5_turn_24 : decode cX5_turn 24 = .ok (.iconst 0, 1) := by decide +kernel
theorem dX5_turn_25 : decode cX5_turn 25 = .ok (.invokevirtual 52, 3) := by decide +kernel
theorem dX5_turn_28 : decode cX5_turn 28 = .ok (.istore_n 3, 1) := by decide +kernel
theorem dX5_turn_29 : decode cX5_turn 29 = .ok (.aload_n 0, 1) := by decide +kernel
theorem dX5_turn_30 : decode cX5_turn 30 = .ok (.iload_n 1, 1) := by decide +kernel
theorem dX5_turn_31 : decode cX5_turn 31 = .ok (.iconst 0, 1) := by decide +kernel
theorem dX5_turn_32 : decode cX5_turn 32 = .ok (.iload_n 2, 1) := by decide +kernel
theorem dX5_turn_33 : decode cX5_turn 33 = .ok (.invokevirtual 66, 3) := by decide +kernel
theorem dX5_turn_36 : decode cX5_turn 36 = .ok (.iload_n 3, 1) := by decide +kernel
theorem dX5_turn_37 : decode cX5_turn 37 = .ok (.ireturn, 1) := by decide +kernel
theorem dX5_isUnder_0 : decode cX5_isUnder 0 = .ok (.iload_n 1, 1) := by decide +kernel
theorem dX5_isUnder_1 : decode cX5_isUnder 1 = .ok (.ifCond .eq 28, 3) := by decide +kernel
theorem dX5_isUnder_4 : decode cX5_isUnder 4 = .ok (.iload_n 1, 1) := by decide +kernel
theorem dX5_isUnder_5 : decode cX5_isUnder 5 = .ok (.iload_n 0, 1) := by decide +kernel
theorem dX5_isUnder_6 : decode cX5_isUnder 6 = .ok (.if_icmp .eq 23, 3) := by decide +kernel
theorem dX5_isUnder_9 : decode cX5_isUnder 9 = .ok (.iload_n 1, 1) := by decide +kernel
theorem dX5_isUnder_10 : decode cX5_isUnder 10 = .ok (.iconst 1, 1) := by decide +kernel
theorem dX5_isUnder_11 : decode cX5_isUnder 11 = .ok (.if_icmp .ne 8, 3) := by decide +kernel
theorem dX5_isUnder_14 : decode cX5_isUnder 14 = .ok (.iload_n 0, 1) := by decide +kernel
theorem dX5_isUnder_15 : decode cX5_isUnder 15 = .ok (.iconst 4, 1) := by decide +kernel
theorem dX5_isUnder_16 : decode cX5_isUnder 16 = .ok (.if_icmp .eq 13, 3) := by decide +kernel
theorem dX5_isUnder_19 : decode cX5_isUnder 19 = .ok (.iload_n 1, 1) := by decide +kernel
theorem dX5_isUnder_20 : decode cX5_isUnder 20 = .ok (.iconst 3, 1) := by decide +kernel
theorem dX5_isUnder_21 : decode cX5_isUnder 21 = .ok (.if_icmp .ne 12, 3) := by decide +kernel
theorem dX5_isUnder_24 : decode cX5_isUnder 24 = .ok (.iload_n 0, 1) := by decide +kernel
theorem dX5_isUnder_25 : decode cX5_isUnder 25 = .ok (.iconst 5, 1) := by decide +kernel
theorem dX5_isUnder_26 : decode cX5_isUnder 26 = .ok (.if_icmp .ne 7, 3) := by decide +kernel
theorem dX5_isUnder_29 : decode cX5_isUnder 29 = .ok (.iconst 1, 1) := by decide +kernel
theorem dX5_isUnder_30 : decode cX5_isUnder 30 = .ok (.goto 4, 3) := by decide +kernel
theorem dX5_isUnder_33 : decode cX5_isUnder 33 = .ok (.iconst 0, 1) := by decide +kernel
theorem dX5_isUnder_34 : decode cX5_isUnder 34 = .ok (.ireturn, 1) := by decide +kernel
theorem dX5_as_0 : decode cX5_as 0 = .ok (.aload_n 0, 1) := by decide +kernel
theorem dX5_as_1 : decode cX5_as 1 = .ok (.iload_n 1, 1) := by decide +kernel
theorem dX5_as_2 : decode cX5_as 2 = .ok (.invokevirtual 83, 3) := by decide +kernel
theorem dX5_as_5 : decode cX5_as 5 = .ok (.ifCond .eq 10, 3) := by decide +kernel
theorem dX5_as_8 : decode cX5_as 8 = .ok (.iload_n 2, 1) := by decide +kernel
theorem dX5_as_9 : decode cX5_as 9 = .ok (.invokestatic 70, 3) := by decide +kernel
theorem dX5_as_12 : decode cX5_as 12 = .ok (.ifCond .ne 10, 3) := by decide +kernel
theorem dX5_as_15 : decode cX5_as 15 = .ok (.aload_n 0, 1) := by decide +kernel
theorem dX5_as_16 : decode cX5_as 16 = .ok (.ldc 47, 2) := by decide +kernel
theorem dX5_as_18 : decode cX5_as 18 = .ok (.invokevirtual 74, 3) := by decide +kernel
theorem dX5_as_21 : decode cX5_as 21 = .ok (.ireturn, 1) := by decide +kernel
theorem dX5_as_22 : decode cX5_as 22 = .ok (.aload_n 0, 1) := by decide +kernel
theorem dX5_as_23 : decode cX5_as 23 = .ok (.iload_n 1, 1) := by decide +kernel
theorem dX5_as_24 : decode cX5_as 24 = .ok (.iconst 0, 1) := by decide +kernel
theorem dX5_as_25 : decode cX5_as 25 = .ok (.invokevirtual 52, 3) := by decide +kernel
theorem dX5_as_28 : decode cX5_as 28 = .ok (.iload_n 2, 1) := by decide +kernel
theorem dX5_as_29 : decode cX5_as 29 = .ok (.invokestatic 89, 3) := by decide +kernel
theorem dX5_as_32 : decode cX5_as 32 = .ok (.ifCond .eq 12, 3) := by decide +kernel
theorem dX5_as_35 : decode cX5_as 35 = .ok (.aload_n 0, 1) := by decide +kernel
theorem dX5_as_36 : decode cX5_as 36 = .ok (.iload_n 1, 1) := by decide +kernel
theorem dX5_as_37 : decode cX5_as 37 = .ok (.iconst 2, 1) := by decide +kernel
theorem dX5_as_38 : decode cX5_as 38 = .ok (.invokevirtual 52, 3) := by decide +kernel
theorem dX5_as_41 : decode cX5_as 41 = .ok (.goto 9, 3) := by decide +kernel
theorem dX5_as_44 : decode cX5_as 44 = .ok (.aload_n 0, 1) := by decide +kernel
theorem dX5_as_45 : decode cX5_as 45 = .ok (.ldc 93, 2) := by decide +kernel
theorem dX5_as_47 : decode cX5_as 47 = .ok (.invokevirtual 74, 3) := by decide +kernel
theorem dX5_as_50 : decode cX5_as 50 = .ok (.ireturn, 1) := by decide +kernel
theorem dX5_change_0 : decode cX5_change 0 = .ok (.iconst 0, 1) := by decide +kernel
theorem dX5_change_1 : decode cX5_change 1 = .ok (.istore_n 3, 1) := by decide +kernel
theorem dX5_change_2 : decode cX5_change 2 = .ok (.iload_n 3, 1) := by decide +kernel
theorem dX5_change_3 : decode cX5_change 3 = .ok (.bipush 7, 2) := by decide +kernel
theorem dX5_change_5 : decode cX5_change 5 = .ok (.if_icmp .ge 37, 3) := by decide +kernel
theorem dX5_change_8 : decode cX5_change 8 = .ok (.aload_n 0, 1) := by decide +kernel
theorem dX5_change_9 : decode cX5_change 9 = .ok (.iload_n 1, 1) := by decide +kernel
theorem dX5_change_10 : decode cX5_change 10 = .ok (.iload_n 3, 1) := by decide +kernel
theorem dX5_change_11 : decode cX5_change 11 = .ok (.invokevirtual 52, 3) := by decide +kernel
theorem dX5_change_14 : decode cX5_change 14 = .ok (.istore 4, 2) := by decide +kernel
theorem dX5_change_16 : decode cX5_change 16 = .ok (.aload_n 0, 1) := by decide +kernel
theorem dX5_change_17 : decode cX5_change 17 = .ok (.iload_n 1, 1) := by decide +kernel
theorem dX5_change_18 : decode cX5_change 18 = .ok (.iload_n 3, 1) := by decide +kernel
theorem dX5_change_19 : decode cX5_change 19 = .ok (.aload_n 0, 1) := by decide +kernel
theorem dX5_change_20 : decode cX5_change 20 = .ok (.iload_n 2, 1) := by decide +kernel
theorem dX5_change_21 : decode cX5_change 21 = .ok (.iload_n 3, 1) := by decide +kernel
theorem dX5_change_22 : decode cX5_change 22 = .ok (.invokevirtual 52, 3) := by decide +kernel
theorem dX5_change_25 : decode cX5_change 25 = .ok (.invokevirtual 66, 3) := by decide +kernel
theorem dX5_change_28 : decode cX5_change 28 = .ok (.aload_n 0, 1) := by decide +kernel
theorem dX5_change_29 : decode cX5_change 29 = .ok (.iload_n 2, 1) := by decide +kernel
theorem dX5_change_30 : decode cX5_change 30 = .ok (.iload_n 3, 1) := by decide +kernel
theorem dX5_change_31 : decode cX5_change 31 = .ok (.iload 4, 2) := by decide +kernel
theorem dX5_change_33 : decode cX5_change 33 = .ok (.invokevirtual 66, 3) := by decide +kernel
theorem dX5_change_36 : decode cX5_change 36 = .ok (.iinc 3 1, 3) := by decide +kernel
theorem dX5_change_39 : decode cX5_change 39 = .ok (.goto (-37), 3) := by decide +kernel
theorem dX5_change_42 : decode cX5_change 42 = .ok (.return_, 1) := by decide +kernel
theorem dX5_goTo_0 : decode cX5_goTo 0 = .ok (.iload_n 1, 1) := by decide +kernel
theorem dX5_goTo_1 : decode cX5_goTo 1 = .ok (.istore_n 3, 1) := by decide +kernel
theorem dX5_goTo_2 : decode cX5_goTo 2 = .ok (.iload_n 3, 1) := by decide +kernel
theorem dX5_goTo_3 : decode cX5_goTo 3 = .ok (.iload_n 2, 1) := by decide +kernel
theorem dX5_goTo_4 : decode cX5_goTo 4 = .ok (.if_icmp .ge 17, 3) := by decide +kernel
theorem dX5_goTo_7 : decode cX5_goTo 7 = .ok (.aload_n 0, 1) := by decide +kernel
theorem dX5_goTo_8 : decode cX5_goTo 8 = .ok (.iload_n 3, 1) := by decide +kernel
theorem dX5_goTo_9 : decode cX5_goTo 9 = .ok (.iload_n 3, 1) := by decide +kernel
theorem dX5_goTo_10 : decode cX5_goTo 10 = .ok (.iconst 1, 1) := by decide +kernel
theorem dX5_goTo_11 : decode cX5_goTo 11 = .ok (.iadd, 1) := by decide +kernel
theorem dX5_goTo_12 : decode cX5_goTo 12 = .ok (.invokevirtual 94, 3) := by decide +kernel
theorem dX5_goTo_15 : decode cX5_goTo 15 = .ok (.iinc 3 1, 3) := by decide +kernel
theorem dX5_goTo_18 : decode cX5_goTo 18 = .ok (.goto (-16), 3) := by decide +kernel
theorem dX5_goTo_21 : decode cX5_goTo 21 = .ok (.iload_n 1, 1) := by decide +kernel
theorem dX5_goTo_22 : decode cX5_goTo 22 = .ok (.istore_n 3, 1) := by decide +kernel
theorem dX5_goTo_23 : decode cX5_goTo 23 = .ok (.iload_n 3, 1) := by decide +kernel
theorem dX5_goTo_24 : decode cX5_goTo 24 = .ok (.iload_n 2, 1) := by decide +kernel
theorem dX5_goTo_25 : decode cX5_goTo 25 = .ok (.if_icmp .le 17, 3) := by decide +kernel
theorem dX5_goTo_28 : decode cX5_goTo 28 = .ok (.aload_n 0, 1) := by decide +kernel
theorem dX5_goTo_29 : decode cX5_goTo 29 = .ok (.iload_n 3, 1) := by decide +kernel
theorem dX5_goTo_30 : decode cX5_goTo 30 = .ok (.iload_n 3, 1) := by decide +kernel
theorem dX5_goTo_31 : decode cX5_goTo 31 = .ok (.iconst 1, 1) := by decide +kernel
theorem dX5_goTo_32 : decode cX5_goTo 32 = .ok (.isub, 1) := by decide +kernel
theorem dX5_goTo_33 : decode cX5_goTo 33 = .ok (.invokevirtual 94, 3) := by decide +kernel
theorem dX5_goTo_36 : decode cX5_goTo 36 = .ok (.iinc 3 (-1), 3) := by decide +kernel
theorem dX5_goTo_39 : decode cX5_goTo 39 = .ok (.goto (-16), 3) := by decide +kernel
theorem dX5_goTo_42 : decode cX5_goTo 42 = .ok (.return_, 1) := by decide +kernel
theorem dX5_move_0 : decode cX5_move 0 = .ok (.aload_n 0, 1) := by decide +kernel
theorem dX5_move_1 : decode cX5_move 1 = .ok (.iload_n 1, 1) := by decide +kernel
theorem dX5_move_2 : decode cX5_move 2 = .ok (.invokevirtual 83, 3) := by decide +kernel
theorem dX5_move_5 : decode cX5_move 5 = .ok (.ifCond .eq 11, 3) := by decide +kernel
theorem dX5_move_8 : decode cX5_move 8 = .ok (.aload_n 0, 1) := by decide +kernel
theorem dX5_move_9 : decode cX5_move 9 = .ok (.iload_n 2, 1) := by decide +kernel
theorem dX5_move_10 : decode cX5_move 10 = .ok (.invokevirtual 83, 3) := by decide +kernel
theorem dX5_move_13 : decode cX5_move 13 = .ok (.ifCond .ne 10, 3) := by decide +kernel
theorem dX5_move_16 : decode cX5_move 16 = .ok (.aload_n 0, 1) := by decide +kernel
theorem dX5_move_17 : decode cX5_move 17 = .ok (.ldc 47, 2) := by decide +kernel
theorem dX5_move_19 : decode cX5_move 19 = .ok (.invokevirtual 74, 3) := by decide +kernel
theorem dX5_move_22 : decode cX5_move 22 = .ok (.ireturn, 1) := by decide +kernel
theorem dX5_move_23 : decode cX5_move 23 = .ok (.aload_n 0, 1) := by decide +kernel
theorem dX5_move_24 : decode cX5_move 24 = .ok (.iload_n 1, 1) := by decide +kernel
theorem dX5_move_25 : decode cX5_move 25 = .ok (.iload_n 2, 1) := by decide +kernel
theorem dX5_move_26 : decode cX5_move 26 = .ok (.invokevirtual 98, 3) := by decide +kernel
theorem dX5_move_29 : decode cX5_move 29 = .ok (.iload_n 1, 1) := by decide +kernel
theorem dX5_move_30 : decode cX5_move 30 = .ok (.iload_n 2, 1) := by decide +kernel
theorem dX5_move_31 : decode cX5_move 31 = .ok (.if_icmp .ge 9, 3) := by decide +kernel
theorem dX5_move_34 : decode cX5_move 34 = .ok (.iload_n 2, 1) := by decide +kernel
theorem dX5_move_35 : decode cX5_move 35 = .ok (.iload_n 1, 1) := by decide +kernel
theorem dX5_move_36 : decode cX5_move 36 = .ok (.isub, 1) := by decide +kernel
theorem dX5_move_37 : decode cX5_move 37 = .ok (.goto 6, 3) := by decide +kernel
theorem dX5_move_40 : decode cX5_move 40 = .ok (.iload_n 1, 1) := by decide +kernel
theorem dX5_move_41 : decode cX5_move 41 = .ok (.iload_n 2, 1) := by decide +kernel
theorem dX5_move_42 : decode cX5_move 42 = .ok (.isub, 1) := by decide +kernel
theorem dX5_move_43 : decode cX5_move 43 = .ok (.ireturn, 1) := by decide +kernel
theorem dX5_leave_0 : decode cX5_leave 0 = .ok (.aload_n 0, 1) := by decide +kernel
theorem dX5_leave_1 : decode cX5_leave 1 = .ok (.iload_n 1, 1) := by decide +kernel
theorem dX5_leave_2 : decode cX5_leave 2 = .ok (.invokevirtual 83, 3) := by decide +kernel
theorem dX5_leave_5 : decode cX5_leave 5 = .ok (.ifCond .ne 10, 3) := by decide +kernel
theorem dX5_leave_8 : decode cX5_leave 8 = .ok (.aload_n 0, 1) := by decide +kernel
theorem dX5_leave_9 : decode cX5_leave 9 = .ok (.ldc 47, 2) := by decide +kernel
theorem dX5_leave_11 : decode cX5_leave 11 = .ok (.invokevirtual 74, 3) := by decide +kernel
theorem dX5_leave_14 : decode cX5_leave 14 = .ok (.ireturn, 1) := by decide +kernel
theorem dX5_leave_15 : decode cX5_leave 15 = .ok (.aload_n 0, 1) := by decide +kernel
theorem dX5_leave_16 : decode cX5_leave 16 = .ok (.iload_n 1, 1) := by decide +kernel
theorem dX5_leave_17 : decode cX5_leave 17 = .ok (.aload_n 0, 1) := by decide +kernel
theorem dX5_leave_18 : decode cX5_leave 18 = .ok (.getfield 7, 3) := by decide +kernel
theorem dX5_leave_21 : decode cX5_leave 21 = .ok (.iconst 0, 1) := by decide +kernel
theorem dX5_leave_22 : decode cX5_leave 22 = .ok (.iaload, 1) := by decide +kernel
theorem dX5_leave_23 : decode cX5_leave 23 = .ok (.iconst 1, 1) := by decide +kernel
theorem dX5_leave_24 : decode cX5_leave 24 = .ok (.isub, 1) := by decide +kernel
theorem dX5_leave_25 : decode cX5_leave 25 = .ok (.invokevirtual 98, 3) := by decide +kernel
theorem dX5_leave_28 : decode cX5_leave 28 = .ok (.aload_n 0, 1) := by decide +kernel
theorem dX5_leave_29 : decode cX5_leave 29 = .ok (.getfield 7, 3) := by decide +kernel
theorem dX5_leave_32 : decode cX5_leave 32 = .ok (.iconst 0, 1) := by decide +kernel
theorem dX5_leave_33 : decode cX5_leave 33 = .ok (.dup2, 1) := by decide +kernel
theorem dX5_leave_34 : decode cX5_leave 34 = .ok (.iaload, 1) := by decide +kernel
theorem dX5_leave_35 : decode cX5_leave 35 = .ok (.iconst 1, 1) := by decide +kernel
theorem dX5_leave_36 : decode cX5_leave 36 = .ok (.isub, 1) := by decide +kernel
theorem dX5_leave_37 : decode cX5_leave 37 = .ok (.iastore, 1) := by decide +kernel
theorem dX5_leave_38 : decode cX5_leave 38 = .ok (.aload_n 0, 1) := by decide +kernel
theorem dX5_leave_39 : decode cX5_leave 39 = .ok (.aload_n 0, 1) := by decide +kernel
theorem dX5_leave_40 : decode cX5_leave 40 = .ok (.getfield 7, 3) := by decide +kernel
theorem dX5_leave_43 : decode cX5_leave 43 = .ok (.iconst 0, 1) := by decide +kernel
theorem dX5_leave_44 : decode cX5_leave 44 = .ok (.iaload, 1) := by decide +kernel
theorem dX5_leave_45 : decode cX5_leave 45 = .ok (.iconst 5, 1) := by decide +kernel
theorem dX5_leave_46 : decode cX5_leave 46 = .ok (.invokevirtual 52, 3) := by decide +kernel
theorem dX5_leave_49 : decode cX5_leave 49 = .ok (.ireturn, 1) := by decide +kernel
theorem dX5_coins_0 : decode cX5_coins 0 = .ok (.iload_n 1, 1) := by decide +kernel
theorem dX5_coins_1 : decode cX5_coins 1 = .ok (.iconst 0, 1) := by decide +kernel
theorem dX5_coins_2 : decode cX5_coins 2 = .ok (.sipush 999, 3) := by decide +kernel
theorem dX5_coins_5 : decode cX5_coins 5 = .ok (.invokestatic 48, 3) := by decide +kernel
theorem dX5_coins_8 : decode cX5_coins 8 = .ok (.ifCond .ne 10, 3) := by decide +kernel
theorem dX5_coins_11 : decode cX5_coins 11 = .ok (.aload_n 0, 1) := by decide +kernel
theorem dX5_coins_12 : decode cX5_coins 12 = .ok (.ldc 47, 2) := by decide +kernel
theorem dX5_coins_14 : decode cX5_coins 14 = .ok (.invokevirtual 74, 3) := by decide +kernel
theorem dX5_coins_17 : decode cX5_coins 17 = .ok (.ireturn, 1) := by decide +kernel
theorem dX5_coins_18 : decode cX5_coins 18 = .ok (.aload_n 0, 1) := by decide +kernel
theorem dX5_coins_19 : decode cX5_coins 19 = .ok (.getfield 7, 3) := by decide +kernel
theorem dX5_coins_22 : decode cX5_coins 22 = .ok (.iconst 1, 1) := by decide +kernel
theorem dX5_coins_23 : decode cX5_coins 23 = .ok (.iaload, 1) := by decide +kernel
theorem dX5_coins_24 : decode cX5_coins 24 = .ok (.istore_n 2, 1) := by decide +kernel
theorem dX5_coins_25 : decode cX5_coins 25 = .ok (.aload_n 0, 1) := by decide +kernel
theorem dX5_coins_26 : decode cX5_coins 26 = .ok (.getfield 7, 3) := by decide +kernel
theorem dX5_coins_29 : decode cX5_coins 29 = .ok (.iconst 1, 1) := by decide +kernel
theorem dX5_coins_30 : decode cX5_coins 30 = .ok (.iload_n 1, 1) := by decide +kernel
theorem dX5_coins_31 : decode cX5_coins 31 = .ok (.iastore, 1) := by decide +kernel
theorem dX5_coins_32 : decode cX5_coins 32 = .ok (.iload_n 2, 1) := by decide +kernel
theorem dX5_coins_33 : decode cX5_coins 33 = .ok (.ireturn, 1) := by decide +kernel
theorem dX5_law_0 : decode cX5_law 0 = .ok (.iload_n 1, 1) := by decide +kernel
theorem dX5_law_1 : decode cX5_law 1 = .ok (.iconst 0, 1) := by decide +kernel
theorem dX5_law_2 : decode cX5_law 2 = .ok (.iconst 2, 1) := by decide +kernel
theorem dX5_law_3 : decode cX5_law 3 = .ok (.invokestatic 48, 3) := by decide +kernel
theorem dX5_law_6 : decode cX5_law 6 = .ok (.ifCond .ne 10, 3) := by decide +kernel
theorem dX5_law_9 : decode cX5_law 9 = .ok (.aload_n 0, 1) := by decide +kernel
theorem dX5_law_10 : decode cX5_law 10 = .ok (.ldc 47, 2) := by decide +kernel
theorem dX5_law_12 : decode cX5_law 12 = .ok (.invokevirtual 74, 3) := by decide +kernel
theorem dX5_law_15 : decode cX5_law 15 = .ok (.ireturn, 1) := by decide +kernel
theorem dX5_law_16 : decode cX5_law 16 = .ok (.aload_n 0, 1) := by decide +kernel
theorem dX5_law_17 : decode cX5_law 17 = .ok (.getfield 7, 3) := by decide +kernel
theorem dX5_law_20 : decode cX5_law 20 = .ok (.iconst 2, 1) := by decide +kernel
theorem dX5_law_21 : decode cX5_law 21 = .ok (.iaload, 1) := by decide +kernel
theorem dX5_law_22 : decode cX5_law 22 = .ok (.istore_n 2, 1) := by decide +kernel
theorem dX5_law_23 : decode cX5_law 23 = .ok (.aload_n 0, 1) := by decide +kernel
theorem dX5_law_24 : decode cX5_law 24 = .ok (.getfield 7, 3) := by decide +kernel
theorem dX5_law_27 : decode cX5_law 27 = .ok (.iconst 2, 1) := by decide +kernel
theorem dX5_law_28 : decode cX5_law 28 = .ok (.iload_n 1, 1) := by decide +kernel
theorem dX5_law_29 : decode cX5_law 29 = .ok (.iastore, 1) := by decide +kernel
theorem dX5_law_30 : decode cX5_law 30 = .ok (.iload_n 2, 1) := by decide +kernel
theorem dX5_law_31 : decode cX5_law 31 = .ok (.ireturn, 1) := by decide +kernel
theorem dX5_diver_0 : decode cX5_diver 0 = .ok (.iload_n 2, 1) := by decide +kernel
theorem dX5_diver_1 : decode cX5_diver 1 = .ok (.bipush (-20), 2) := by decide +kernel
theorem dX5_diver_3 : decode cX5_diver 3 = .ok (.bipush 20, 2) := by decide +kernel
theorem dX5_diver_5 : decode cX5_diver 5 = .ok (.invokestatic 48, 3) := by decide +kernel
theorem dX5_diver_8 : decode cX5_diver 8 = .ok (.ifCond .ne 10, 3) := by decide +kernel
theorem dX5_diver_11 : decode cX5_diver 11 = .ok (.aload_n 0, 1) := by decide +kernel
theorem dX5_diver_12 : decode cX5_diver 12 = .ok (.ldc 47, 2) := by decide +kernel
theorem dX5_diver_14 : decode cX5_diver 14 = .ok (.invokevirtual 74, 3) := by decide +kernel
theorem dX5_diver_17 : decode cX5_diver 17 = .ok (.ireturn, 1) := by decide +kernel
theorem dX5_diver_18 : decode cX5_diver 18 = .ok (.aload_n 0, 1) := by decide +kernel
theorem dX5_diver_19 : decode cX5_diver 19 = .ok (.getfield 7, 3) := by decide +kernel
theorem dX5_diver_22 : decode cX5_diver 22 = .ok (.iconst 3, 1) := by decide +kernel
theorem dX5_diver_23 : decode cX5_diver 23 = .ok (.iaload, 1) := by decide +kernel
theorem dX5_diver_24 : decode cX5_diver 24 = .ok (.istore_n 3, 1) := by decide +kernel
theorem dX5_diver_25 : decode cX5_diver 25 = .ok (.aload_n 0, 1) := by decide +kernel
theorem dX5_diver_26 : decode cX5_diver 26 = .ok (.getfield 7, 3) := by decide +kernel
theorem dX5_diver_29 : decode cX5_diver 29 = .ok (.iconst 3, 1) := by decide +kernel
theorem dX5_diver_30 : decode cX5_diver 30 = .ok (.iload_n 1, 1) := by decide +kernel
theorem dX5_diver_31 : decode cX5_diver 31 = .ok (.ifCond .eq 7, 3) := by decide +kernel
theorem dX5_diver_34 : decode cX5_diver 34 = .ok (.iconst 1, 1) := by decide +kernel
theorem dX5_diver_35 : decode cX5_diver 35 = .ok (.goto 4, 3) := by decide +kernel
theorem dX5_diver_38 : decode cX5_diver 38 = .ok (.iconst 0, 1) := by decide +kernel
theorem dX5_diver_39 : decode cX5_diver 39 = .ok (.iastore, 1) := by decide +kernel
theorem dX5_diver_40 : decode cX5_diver 40 = .ok (.aload_n 0, 1) := by decide +kernel
theorem dX5_diver_41 : decode cX5_diver 41 = .ok (.getfield 7, 3) := by decide +kernel
theorem dX5_diver_44 : decode cX5_diver 44 = .ok (.iconst 4, 1) := by decide +kernel
theorem dX5_diver_45 : decode cX5_diver 45 = .ok (.iload_n 1, 1) := by decide +kernel
theorem dX5_diver_46 : decode cX5_diver 46 = .ok (.ifCond .eq 7, 3) := by decide +kernel
theorem dX5_diver_49 : decode cX5_diver 49 = .ok (.iload_n 2, 1) := by decide +kernel
theorem dX5_diver_50 : decode cX5_diver 50 = .ok (.goto 4, 3) := by decide +kernel
theorem dX5_diver_53 : decode cX5_diver 53 = .ok (.iconst 0, 1) := by decide +kernel
theorem dX5_diver_54 : decode cX5_diver 54 = .ok (.iastore, 1) := by decide +kernel
theorem dX5_diver_55 : decode cX5_diver 55 = .ok (.iload_n 3, 1) := by decide +kernel
theorem dX5_diver_56 : decode cX5_diver 56 = .ok (.ireturn, 1) := by decide +kernel
theorem dX5_findOrder_0 : decode cX5_findOrder 0 = .ok (.iconst 0, 1) := by decide +kernel
theorem dX5_findOrder_1 : decode cX5_findOrder 1 = .ok (.istore_n 1, 1) := by decide +kernel
theorem dX5_findOrder_2 : decode cX5_findOrder 2 = .ok (.aload_n 0, 1) := by decide +kernel
theorem dX5_findOrder_3 : decode cX5_findOrder 3 = .ok (.getfield 7, 3) := by decide +kernel
theorem dX5_findOrder_6 : decode cX5_findOrder 6 = .ok (.iconst 0, 1) := by decide +kernel
theorem dX5_findOrder_7 : decode cX5_findOrder 7 = .ok (.iaload, 1) := by decide +kernel
theorem dX5_findOrder_8 : decode cX5_findOrder 8 = .ok (.iconst 1, 1) := by decide +kernel
theorem dX5_findOrder_9 : decode cX5_findOrder 9 = .ok (.isub, 1) := by decide +kernel
theorem dX5_findOrder_10 : decode cX5_findOrder 10 = .ok (.istore_n 2, 1) := by decide +kernel
theorem dX5_findOrder_11 : decode cX5_findOrder 11 = .ok (.iconst 0, 1) := by decide +kernel
theorem dX5_findOrder_12 : decode cX5_findOrder 12 = .ok (.istore_n 3, 1) := by decide +kernel
theorem dX5_findOrder_13 : decode cX5_findOrder 13 = .ok (.iload_n 3, 1) := by decide +kernel
theorem dX5_findOrder_14 : decode cX5_findOrder 14 = .ok (.iload_n 2, 1) := by decide +kernel
theorem dX5_findOrder_15 : decode cX5_findOrder 15 = .ok (.if_icmp .gt 61, 3) := by decide +kernel
theorem dX5_findOrder_18 : decode cX5_findOrder 18 = .ok (.aload_n 0, 1) := by decide +kernel
theorem dX5_findOrder_19 : decode cX5_findOrder 19 = .ok (.getfield 7, 3) := by decide +kernel
theorem dX5_findOrder_22 : decode cX5_findOrder 22 = .ok (.iconst 2, 1) := by decide +kernel
theorem dX5_findOrder_23 : decode cX5_findOrder 23 = .ok (.iaload, 1) := by decide +kernel
theorem dX5_findOrder_24 : decode cX5_findOrder 24 = .ok (.iconst 2, 1) := by decide +kernel
theorem dX5_findOrder_25 : decode cX5_findOrder 25 = .ok (.if_icmp .ge 28, 3) := by decide +kernel
theorem dX5_findOrder_28 : decode cX5_findOrder 28 = .ok (.aload_n 0, 1) := by decide +kernel
theorem dX5_findOrder_29 : decode cX5_findOrder 29 = .ok (.getfield 16, 3) := by decide +kernel
theorem dX5_findOrder_32 : decode cX5_findOrder 32 = .ok (.iload_n 3, 1) := by decide +kernel
theorem dX5_findOrder_33 : decode cX5_findOrder 33 = .ok (.aload_n 0, 1) := by decide +kernel
theorem dX5_findOrder_34 : decode cX5_findOrder 34 = .ok (.getfield 7, 3) := by decide +kernel
theorem dX5_findOrder_37 : decode cX5_findOrder 37 = .ok (.iconst 2, 1) := by decide +kernel
theorem dX5_findOrder_38 : decode cX5_findOrder 38 = .ok (.iaload, 1) := by decide +kernel
theorem dX5_findOrder_39 : decode cX5_findOrder 39 = .ok (.ifCond .ne 7, 3) := by decide +kernel
theorem dX5_findOrder_42 : decode cX5_findOrder 42 = .ok (.iload_n 3, 1) := by decide +kernel
theorem dX5_findOrder_43 : decode cX5_findOrder 43 = .ok (.goto 6, 3) := by decide +kernel
theorem dX5_findOrder_46 : decode cX5_findOrder 46 = .ok (.iload_n 2, 1) := by decide +kernel
theorem dX5_findOrder_47 : decode cX5_findOrder 47 = .ok (.iload_n 3, 1) := by decide +kernel
theorem dX5_findOrder_48 : decode cX5_findOrder 48 = .ok (.isub, 1) := by decide +kernel
theorem dX5_findOrder_49 : decode cX5_findOrder 49 = .ok (.iastore, 1) := by decide +kernel
theorem dX5_findOrder_50 : decode cX5_findOrder 50 = .ok (.goto 20, 3) := by decide +kernel
theorem dX5_findOrder_53 : decode cX5_findOrder 53 = .ok (.iload_n 3, 1) := by decide +kernel
theorem dX5_findOrder_54 : decode cX5_findOrder 54 = .ok (.iconst 2, 1) := by decide +kernel
theorem dX5_findOrder_55 : decode cX5_findOrder 55 = .ok (.irem, 1) := by decide +kernel
theorem dX5_findOrder_56 : decode cX5_findOrder 56 = .ok (.iconst 1, 1) := by decide +kernel
theorem dX5_findOrder_57 : decode cX5_findOrder 57 = .ok (.if_icmp .ne 13, 3) := by decide +kernel
theorem dX5_findOrder_60 : decode cX5_findOrder 60 = .ok (.aload_n 0, 1) := by decide +kernel
theorem dX5_findOrder_61 : decode cX5_findOrder 61 = .ok (.getfield 16, 3) := by decide +kernel
theorem dX5_findOrder_64 : decode cX5_findOrder 64 = .ok (.iload_n 1, 1) := by decide +kernel
theorem dX5_findOrder_65 : decode cX5_findOrder 65 = .ok (.iload_n 3, 1) := by decide +kernel
theorem dX5_findOrder_66 : decode cX5_findOrder 66 = .ok (.iastore, 1) := by decide +kernel
theorem dX5_findOrder_67 : decode cX5_findOrder 67 = .ok (.iinc 1 1, 3) := by decide +kernel
theorem dX5_findOrder_70 : decode cX5_findOrder 70 = .ok (.iinc 3 1, 3) := by decide +kernel
theorem dX5_findOrder_73 : decode cX5_findOrder 73 = .ok (.goto (-60), 3) := by decide +kernel
theorem dX5_findOrder_76 : decode cX5_findOrder 76 = .ok (.iconst 0, 1) := by decide +kernel
theorem dX5_findOrder_77 : decode cX5_findOrder 77 = .ok (.istore_n 3, 1) := by decide +kernel
theorem dX5_findOrder_78 : decode cX5_findOrder 78 = .ok (.iload_n 3, 1) := by decide +kernel
theorem dX5_findOrder_79 : decode cX5_findOrder 79 = .ok (.iload_n 2, 1) := by decide +kernel
theorem dX5_findOrder_80 : decode cX5_findOrder 80 = .ok (.if_icmp .gt 29, 3) := by decide +kernel
theorem dX5_findOrder_83 : decode cX5_findOrder 83 = .ok (.aload_n 0, 1) := by decide +kernel
theorem dX5_findOrder_84 : decode cX5_findOrder 84 = .ok (.getfield 7, 3) := by decide +kernel
theorem dX5_findOrder_87 : decode cX5_findOrder 87 = .ok (.iconst 2, 1) := by decide +kernel
theorem dX5_findOrder_88 : decode cX5_findOrder 88 = .ok (.iaload, 1) := by decide +kernel
theorem dX5_findOrder_89 : decode cX5_findOrder 89 = .ok (.iconst 2, 1) := by decide +kernel
theorem dX5_findOrder_90 : decode cX5_findOrder 90 = .ok (.if_icmp .ne 19, 3) := by decide +kernel
theorem dX5_findOrder_93 : decode cX5_findOrder 93 = .ok (.aload_n 0, 1) := by decide +kernel
theorem dX5_findOrder_94 : decode cX5_findOrder 94 = .ok (.getfield 16, 3) := by decide +kernel
theorem dX5_findOrder_97 : decode cX5_findOrder 97 = .ok (.iload_n 1, 1) := by decide +kernel
theorem dX5_findOrder_98 : decode cX5_findOrder 98 = .ok (.iload_n 3, 1) := by decide +kernel
theorem dX5_findOrder_99 : decode cX5_findOrder 99 = .ok (.iastore, 1) := by decide +kernel
theorem dX5_findOrder_100 : decode cX5_findOrder 100 = .ok (.iinc 1 1, 3) := by decide +kernel
theorem dX5_findOrder_103 : decode cX5_findOrder 103 = .ok (.iinc 3 2, 3) := by decide +kernel
theorem dX5_findOrder_106 : decode cX5_findOrder 106 = .ok (.goto (-28), 3) := by decide +kernel
theorem dX5_findOrder_109 : decode cX5_findOrder 109 = .ok (.return_, 1) := by decide +kernel
theorem dX5_throwAll_0 : decode cX5_throwAll 0 = .ok (.aload_n 0, 1) := by decide +kernel
theorem dX5_throwAll_1 : decode cX5_throwAll 1 = .ok (.invokevirtual 101, 3) := by decide +kernel
theorem dX5_throwAll_4 : decode cX5_throwAll 4 = .ok (.aload_n 0, 1) := by decide +kernel
theorem dX5_throwAll_5 : decode cX5_throwAll 5 = .ok (.getfield 7, 3) := by decide +kernel
theorem dX5_throwAll_8 : decode cX5_throwAll 8 = .ok (.iconst 1, 1) := by decide +kernel
theorem dX5_throwAll_9 : decode cX5_throwAll 9 = .ok (.iaload, 1) := by decide +kernel
theorem dX5_throwAll_10 : decode cX5_throwAll 10 = .ok (.istore_n 3, 1) := by decide +kernel
theorem dX5_throwAll_11 : decode cX5_throwAll 11 = .ok (.iconst 0, 1) := by decide +kernel
theorem dX5_throwAll_12 : decode cX5_throwAll 12 = .ok (.istore 4, 2) := by decide +kernel
theorem dX5_throwAll_14 : decode cX5_throwAll 14 = .ok (.iload 4, 2) := by decide +kernel
theorem dX5_throwAll_16 : decode cX5_throwAll 16 = .ok (.aload_n 0, 1) := by decide +kernel
theorem dX5_throwAll_17 : decode cX5_throwAll 17 = .ok (.getfield 7, 3) := by decide +kernel
theorem dX5_throwAll_20 : decode cX5_throwAll 20 = .ok (.iconst 0, 1) := by decide +kernel
theorem dX5_throwAll_21 : decode cX5_throwAll 21 = .ok (.iaload, 1) := by decide +kernel
theorem dX5_throwAll_22 : decode cX5_throwAll 22 = .ok (.if_icmp .ge 58, 3) := by decide +kernel
theorem dX5_throwAll_25 : decode cX5_throwAll 25 = .ok (.aload_n 0, 1) := by decide +kernel
theorem dX5_throwAll_26 : decode cX5_throwAll 26 = .ok (.getfield 16, 3) := by decide +kernel
theorem dX5_throwAll_29 : decode cX5_throwAll 29 = .ok (.iload 4, 2) := by decide +kernel
theorem dX5_throwAll_31 : decode cX5_throwAll 31 = .ok (.iaload, 1) := by decide +kernel
theorem dX5_throwAll_32 : decode cX5_throwAll 32 = .ok (.istore 5, 2) := by decide +kernel
theorem dX5_throwAll_34 : decode cX5_throwAll 34 = .ok (.aload_n 0, 1) := by decide +kernel
theorem dX5_throwAll_35 : decode cX5_throwAll 35 = .ok (.getfield 19, 3) := by decide +kernel
theorem dX5_throwAll_38 : decode cX5_throwAll 38 = .ok (.iload 5, 2) := by decide +kernel
theorem dX5_throwAll_40 : decode cX5_throwAll 40 = .ok (.iload 5, 2) := by decide +kernel
theorem dX5_throwAll_42 : decode cX5_throwAll 42 = .ok (.iload_n 1, 1) := by decide +kernel
theorem dX5_throwAll_43 : decode cX5_throwAll 43 = .ok (.if_icmp .ne 7, 3) := by decide +kernel
theorem dX5_throwAll_46 : decode cX5_throwAll 46 = .ok (.iload_n 2, 1) := by decide +kernel
theorem dX5_throwAll_47 : decode cX5_throwAll 47 = .ok (.goto 10, 3) := by decide +kernel
theorem dX5_throwAll_50 : decode cX5_throwAll 50 = .ok (.aload_n 0, 1) := by decide +kernel
theorem dX5_throwAll_51 : decode cX5_throwAll 51 = .ok (.iload 5, 2) := by decide +kernel
theorem dX5_throwAll_53 : decode cX5_throwAll 53 = .ok (.iload_n 3, 1) := by decide +kernel
theorem dX5_throwAll_54 : decode cX5_throwAll 54 = .ok (.invokevirtual 86, 3) := by decide +kernel
theorem dX5_throwAll_57 : decode cX5_throwAll 57 = .ok (.iastore, 1) := by decide +kernel
theorem dX5_throwAll_58 : decode cX5_throwAll 58 = .ok (.iload_n 3, 1) := by decide +kernel
theorem dX5_throwAll_59 : decode cX5_throwAll 59 = .ok (.aload_n 0, 1) := by decide +kernel
theorem dX5_throwAll_60 : decode cX5_throwAll 60 = .ok (.getfield 19, 3) := by decide +kernel
theorem dX5_throwAll_63 : decode cX5_throwAll 63 = .ok (.iload 5, 2) := by decide +kernel
theorem dX5_throwAll_65 : decode cX5_throwAll 65 = .ok (.iaload, 1) := by decide +kernel
theorem dX5_throwAll_66 : decode cX5_throwAll 66 = .ok (.iadd, 1) := by decide +kernel
theorem dX5_throwAll_67 : decode cX5_throwAll 67 = .ok (.sipush 999, 3) := by decide +kernel
theorem dX5_throwAll_70 : decode cX5_throwAll 70 = .ok (.invokestatic 63, 3) := by decide +kernel
theorem dX5_throwAll_73 : decode cX5_throwAll 73 = .ok (.istore_n 3, 1) := by decide +kernel
theorem dX5_throwAll_74 : decode cX5_throwAll 74 = .ok (.iinc 4 1, 3) := by decide +kernel
theorem dX5_throwAll_77 : decode cX5_throwAll 77 = .ok (.goto (-63), 3) := by decide +kernel
theorem dX5_throwAll_80 : decode cX5_throwAll 80 = .ok (.aload_n 0, 1) := by decide +kernel
theorem dX5_throwAll_81 : decode cX5_throwAll 81 = .ok (.iload_n 3, 1) := by decide +kernel
theorem dX5_throwAll_82 : decode cX5_throwAll 82 = .ok (.putfield 104, 3) := by decide +kernel
theorem dX5_throwAll_85 : decode cX5_throwAll 85 = .ok (.return_, 1) := by decide +kernel
theorem dX5_gainOf_0 : decode cX5_gainOf 0 = .ok (.iload_n 1, 1) := by decide +kernel
theorem dX5_gainOf_1 : decode cX5_gainOf 1 = .ok (.aload_n 0, 1) := by decide +kernel
theorem dX5_gainOf_2 : decode cX5_gainOf 2 = .ok (.getfield 104, 3) := by decide +kernel
theorem dX5_gainOf_5 : decode cX5_gainOf 5 = .ok (.if_icmp .ge 12, 3) := by decide +kernel
theorem dX5_gainOf_8 : decode cX5_gainOf 8 = .ok (.aload_n 0, 1) := by decide +kernel
theorem dX5_gainOf_9 : decode cX5_gainOf 9 = .ok (.iload_n 1, 1) := by decide +kernel
theorem dX5_gainOf_10 : decode cX5_gainOf 10 = .ok (.iconst 2, 1) := by decide +kernel
theorem dX5_gainOf_11 : decode cX5_gainOf 11 = .ok (.invokevirtual 52, 3) := by decide +kernel
theorem dX5_gainOf_14 : decode cX5_gainOf 14 = .ok (.goto 4, 3) := by decide +kernel
theorem dX5_gainOf_17 : decode cX5_gainOf 17 = .ok (.iconst 0, 1) := by decide +kernel
theorem dX5_gainOf_18 : decode cX5_gainOf 18 = .ok (.aload_n 0, 1) := by decide +kernel
theorem dX5_gainOf_19 : decode cX5_gainOf 19 = .ok (.getfield 19, 3) := by decide +kernel
theorem dX5_gainOf_22 : decode cX5_gainOf 22 = .ok (.iload_n 1, 1) := by decide +kernel
theorem dX5_gainOf_23 : decode cX5_gainOf 23 = .ok (.iaload, 1) := by decide +kernel
theorem dX5_gainOf_24 : decode cX5_gainOf 24 = .ok (.isub, 1) := by decide +kernel
theorem dX5_gainOf_25 : decode cX5_gainOf 25 = .ok (.ireturn, 1) := by decide +kernel
theorem dX5_gainWith_0 : decode cX5_gainWith 0 = .ok (.aload_n 0, 1) := by decide +kernel
theorem dX5_gainWith_1 : decode cX5_gainWith 1 = .ok (.iload_n 1, 1) := by decide +kernel
theorem dX5_gainWith_2 : decode cX5_gainWith 2 = .ok (.iload_n 2, 1) := by decide +kernel
theorem dX5_gainWith_3 : decode cX5_gainWith 3 = .ok (.invokevirtual 108, 3) := by decide +kernel
theorem dX5_gainWith_6 : decode cX5_gainWith 6 = .ok (.aload_n 0, 1) := by decide +kernel
theorem dX5_gainWith_7 : decode cX5_gainWith 7 = .ok (.iload_n 1, 1) := by decide +kernel
theorem dX5_gainWith_8 : decode cX5_gainWith 8 = .ok (.invokevirtual 111, 3) := by decide +kernel
theorem dX5_gainWith_11 : decode cX5_gainWith 11 = .ok (.ireturn, 1) := by decide +kernel
theorem dX5_gainNow_0 : decode cX5_gainNow 0 = .ok (.aload_n 0, 1) := by decide +kernel
theorem dX5_gainNow_1 : decode cX5_gainNow 1 = .ok (.iconst (-1), 1) := by decide +kernel
theorem dX5_gainNow_2 : decode cX5_gainNow 2 = .ok (.iconst 0, 1) := by decide +kernel
theorem dX5_gainNow_3 : decode cX5_gainNow 3 = .ok (.invokevirtual 108, 3) := by decide +kernel
theorem dX5_gainNow_6 : decode cX5_gainNow 6 = .ok (.aload_n 0, 1) := by decide +kernel
theorem dX5_gainNow_7 : decode cX5_gainNow 7 = .ok (.iload_n 1, 1) := by decide +kernel
theorem dX5_gainNow_8 : decode cX5_gainNow 8 = .ok (.invokevirtual 111, 3) := by decide +kernel
theorem dX5_gainNow_11 : decode cX5_gainNow 11 = .ok (.ireturn, 1) := by decide +kernel
theorem dX5_gainOfAll_0 : decode cX5_gainOfAll 0 = .ok (.aload_n 0, 1) := by decide +kernel
theorem dX5_gainOfAll_1 : decode cX5_gainOfAll 1 = .ok (.iconst (-1), 1) := by decide +kernel
theorem dX5_gainOfAll_2 : decode cX5_gainOfAll 2 = .ok (.iconst 0, 1) := by decide +kernel
theorem dX5_gainOfAll_3 : decode cX5_gainOfAll 3 = .ok (.invokevirtual 108, 3) := by decide +kernel
theorem dX5_gainOfAll_6 : decode cX5_gainOfAll 6 = .ok (.iconst 0, 1) := by decide +kernel
theorem dX5_gainOfAll_7 : decode cX5_gainOfAll 7 = .ok (.istore_n 1, 1) := by decide +kernel
theorem dX5_gainOfAll_8 : decode cX5_gainOfAll 8 = .ok (.iconst 0, 1) := by decide +kernel
theorem dX5_gainOfAll_9 : decode cX5_gainOfAll 9 = .ok (.istore_n 2, 1) := by decide +kernel
theorem dX5_gainOfAll_10 : decode cX5_gainOfAll 10 = .ok (.iload_n 2, 1) := by decide +kernel
theorem dX5_gainOfAll_11 : decode cX5_gainOfAll 11 = .ok (.aload_n 0, 1) := by decide +kernel
theorem dX5_gainOfAll_12 : decode cX5_gainOfAll 12 = .ok (.getfield 7, 3) := by decide +kernel
theorem dX5_gainOfAll_15 : decode cX5_gainOfAll 15 = .ok (.iconst 0, 1) := by decide +kernel
theorem dX5_gainOfAll_16 : decode cX5_gainOfAll 16 = .ok (.iaload, 1) := by decide +kernel
theorem dX5_gainOfAll_17 : decode cX5_gainOfAll 17 = .ok (.if_icmp .ge 17, 3) := by decide +kernel
theorem dX5_gainOfAll_20 : decode cX5_gainOfAll 20 = .ok (.iload_n 1, 1) := by decide +kernel
theorem dX5_gainOfAll_21 : decode cX5_gainOfAll 21 = .ok (.aload_n 0, 1) := by decide +kernel
theorem dX5_gainOfAll_22 : decode cX5_gainOfAll 22 = .ok (.iload_n 2, 1) := by decide +kernel
theorem dX5_gainOfAll_23 : decode cX5_gainOfAll 23 = .ok (.invokevirtual 111, 3) := by decide +kernel
theorem dX5_gainOfAll_26 : decode cX5_gainOfAll 26 = .ok (.iadd, 1) := by decide +kernel
theorem dX5_gainOfAll_27 : decode cX5_gainOfAll 27 = .ok (.istore_n 1, 1) := by decide +kernel
theorem dX5_gainOfAll_28 : decode cX5_gainOfAll 28 = .ok (.iinc 2 1, 3) := by decide +kernel
theorem dX5_gainOfAll_31 : decode cX5_gainOfAll 31 = .ok (.goto (-21), 3) := by decide +kernel
theorem dX5_gainOfAll_34 : decode cX5_gainOfAll 34 = .ok (.iload_n 1, 1) := by decide +kernel
theorem dX5_gainOfAll_35 : decode cX5_gainOfAll 35 = .ok (.ireturn, 1) := by decide +kernel
theorem dX5_anHour_0 : decode cX5_anHour 0 = .ok (.aload_n 0, 1) := by decide +kernel
theorem dX5_anHour_1 : decode cX5_anHour 1 = .ok (.iconst (-1), 1) := by decide +kernel
theorem dX5_anHour_2 : decode cX5_anHour 2 = .ok (.iconst 0, 1) := by decide +kernel
theorem dX5_anHour_3 : decode cX5_anHour 3 = .ok (.invokevirtual 108, 3) := by decide +kernel
theorem dX5_anHour_6 : decode cX5_anHour 6 = .ok (.iconst 0, 1) := by decide +kernel
theorem dX5_anHour_7 : decode cX5_anHour 7 = .ok (.istore_n 1, 1) := by decide +kernel
theorem dX5_anHour_8 : decode cX5_anHour 8 = .ok (.iconst 0, 1) := by decide +kernel
theorem dX5_anHour_9 : decode cX5_anHour 9 = .ok (.istore_n 2, 1) := by decide +kernel
theorem dX5_anHour_10 : decode cX5_anHour 10 = .ok (.iload_n 2, 1) := by decide +kernel
theorem dX5_anHour_11 : decode cX5_anHour 11 = .ok (.aload_n 0, 1) := by decide +kernel
theorem dX5_anHour_12 : decode cX5_anHour 12 = .ok (.getfield 7, 3) := by decide +kernel
theorem dX5_anHour_15 : decode cX5_anHour 15 = .ok (.iconst 0, 1) := by decide +kernel
theorem dX5_anHour_16 : decode cX5_anHour 16 = .ok (.iaload, 1) := by decide +kernel
theorem dX5_anHour_17 : decode cX5_anHour 17 = .ok (.if_icmp .ge 105, 3) := by decide +kernel
theorem dX5_anHour_20 : decode cX5_anHour 20 = .ok (.iload_n 2, 1) := by decide +kernel
theorem dX5_anHour_21 : decode cX5_anHour 21 = .ok (.aload_n 0, 1) := by decide +kernel
theorem dX5_anHour_22 : decode cX5_anHour 22 = .ok (.getfield 104, 3) := by decide +kernel
theorem dX5_anHour_25 : decode cX5_anHour 25 = .ok (.if_icmp .ge 7, 3) := by decide +kernel
theorem dX5_anHour_28 : decode cX5_anHour 28 = .ok (.iconst 1, 1) := by decide +kernel
theorem dX5_anHour_29 : decode cX5_anHour 29 = .ok (.goto 4, 3) := by decide +kernel
theorem dX5_anHour_32 : decode cX5_anHour 32 = .ok (.iconst 0, 1) := by decide +kernel
theorem dX5_anHour_33 : decode cX5_anHour 33 = .ok (.istore_n 3, 1) := by decide +kernel
theorem dX5_anHour_34 : decode cX5_anHour 34 = .ok (.aload_n 0, 1) := by decide +kernel
theorem dX5_anHour_35 : decode cX5_anHour 35 = .ok (.iload_n 2, 1) := by decide +kernel
theorem dX5_anHour_36 : decode cX5_anHour 36 = .ok (.iconst 4, 1) := by decide +kernel
theorem dX5_anHour_37 : decode cX5_anHour 37 = .ok (.aload_n 0, 1) := by decide +kernel
theorem dX5_anHour_38 : decode cX5_anHour 38 = .ok (.getfield 19, 3) := by decide +kernel
theorem dX5_anHour_41 : decode cX5_anHour 41 = .ok (.iload_n 2, 1) := by decide +kernel
theorem dX5_anHour_42 : decode cX5_anHour 42 = .ok (.iaload, 1) := by decide +kernel
theorem dX5_anHour_43 : decode cX5_anHour 43 = .ok (.invokevirtual 66, 3) := by decide +kernel
theorem dX5_anHour_46 : decode cX5_anHour 46 = .ok (.aload_n 0, 1) := by decide +kernel
theorem dX5_anHour_47 : decode cX5_anHour 47 = .ok (.iload_n 2, 1) := by decide +kernel
theorem dX5_anHour_48 : decode cX5_anHour 48 = .ok (.iconst 1, 1) := by decide +kernel
theorem dX5_anHour_49 : decode cX5_anHour 49 = .ok (.aload_n 0, 1) := by decide +kernel
theorem dX5_anHour_50 : decode cX5_anHour 50 = .ok (.iload_n 2, 1) := by decide +kernel
theorem dX5_anHour_51 : decode cX5_anHour 51 = .ok (.iconst 1, 1) := by decide +kernel
theorem dX5_anHour_52 : decode cX5_anHour 52 = .ok (.invokevirtual 52, 3) := by decide +kernel
theorem dX5_anHour_55 : decode cX5_anHour 55 = .ok (.aload_n 0, 1) := by decide +kernel
theorem dX5_anHour_56 : decode cX5_anHour 56 = .ok (.getfield 19, 3) := by decide +kernel
theorem dX5_anHour_59 : decode cX5_anHour 59 = .ok (.iload_n 2, 1) := by decide +kernel
theorem dX5_anHour_60 : decode cX5_anHour 60 = .ok (.iaload, 1) := by decide +kernel
theorem dX5_anHour_61 : decode cX5_anHour 61 = .ok (.isub, 1) := by decide +kernel
theorem dX5_anHour_62 : decode cX5_anHour 62 = .ok (.sipush 999, 3) := by decide +kernel
theorem dX5_anHour_65 : decode cX5_anHour 65 = .ok (.invokestatic 63, 3) := by decide +kernel
theorem dX5_anHour_68 : decode cX5_anHour 68 = .ok (.invokevirtual 66, 3) := by decide +kernel
theorem dX5_anHour_71 : decode cX5_anHour 71 = .ok (.iload_n 3, 1) := by decide +kernel
theorem dX5_anHour_72 : decode cX5_anHour 72 = .ok (.ifCond .eq 7, 3) := by decide +kernel
theorem dX5_anHour_75 : decode cX5_anHour 75 = .ok (.iconst 5, 1) := by decide +kernel
theorem dX5_anHour_76 : decode cX5_anHour 76 = .ok (.goto 5, 3) := by decide +kernel
theorem dX5_anHour_79 : decode cX5_anHour 79 = .ok (.bipush 6, 2) := by decide +kernel
theorem dX5_anHour_81 : decode cX5_anHour 81 = .ok (.istore 4, 2) := by decide +kernel
theorem dX5_anHour_83 : decode cX5_anHour 83 = .ok (.aload_n 0, 1) := by decide +kernel
theorem dX5_anHour_84 : decode cX5_anHour 84 = .ok (.iload_n 2, 1) := by decide +kernel
theorem dX5_anHour_85 : decode cX5_anHour 85 = .ok (.iload 4, 2) := by decide +kernel
theorem dX5_anHour_87 : decode cX5_anHour 87 = .ok (.aload_n 0, 1) := by decide +kernel
theorem dX5_anHour_88 : decode cX5_anHour 88 = .ok (.iload_n 2, 1) := by decide +kernel
theorem dX5_anHour_89 : decode cX5_anHour 89 = .ok (.iload 4, 2) := by decide +kernel
theorem dX5_anHour_91 : decode cX5_anHour 91 = .ok (.invokevirtual 52, 3) := by decide +kernel
theorem dX5_anHour_94 : decode cX5_anHour 94 = .ok (.iconst 1, 1) := by decide +kernel
theorem dX5_anHour_95 : decode cX5_anHour 95 = .ok (.iadd, 1) := by decide +kernel
theorem dX5_anHour_96 : decode cX5_anHour 96 = .ok (.ldc 114, 2) := by decide +kernel
theorem dX5_anHour_98 : decode cX5_anHour 98 = .ok (.invokestatic 63, 3) := by decide +kernel
theorem dX5_anHour_101 : decode cX5_anHour 101 = .ok (.invokevirtual 66, 3) := by decide +kernel
theorem dX5_anHour_104 : decode cX5_anHour 104 = .ok (.iload_n 1, 1) := by decide +kernel
theorem dX5_anHour_105 : decode cX5_anHour 105 = .ok (.iload_n 3, 1) := by decide +kernel
theorem dX5_anHour_106 : decode cX5_anHour 106 = .ok (.ifCond .eq 7, 3) := by decide +kernel
theorem dX5_anHour_109 : decode cX5_anHour 109 = .ok (.iconst 1, 1) := by decide +kernel
theorem dX5_anHour_110 : decode cX5_anHour 110 = .ok (.goto 4, 3) := by decide +kernel
theorem dX5_anHour_113 : decode cX5_anHour 113 = .ok (.iconst 0, 1) := by decide +kernel
theorem dX5_anHour_114 : decode cX5_anHour 114 = .ok (.iadd, 1) := by decide +kernel
theorem dX5_anHour_115 : decode cX5_anHour 115 = .ok (.istore_n 1, 1) := by decide +kernel
theorem dX5_anHour_116 : decode cX5_anHour 116 = .ok (.iinc 2 1, 3) := by decide +kernel
theorem dX5_anHour_119 : decode cX5_anHour 119 = .ok (.goto (-109), 3) := by decide +kernel
theorem dX5_anHour_122 : decode cX5_anHour 122 = .ok (.aload_n 0, 1) := by decide +kernel
theorem dX5_anHour_123 : decode cX5_anHour 123 = .ok (.getfield 7, 3) := by decide +kernel
theorem dX5_anHour_126 : decode cX5_anHour 126 = .ok (.bipush 6, 2) := by decide +kernel
theorem dX5_anHour_128 : decode cX5_anHour 128 = .ok (.aload_n 0, 1) := by decide +kernel
theorem dX5_anHour_129 : decode cX5_anHour 129 = .ok (.getfield 104, 3) := by decide +kernel
theorem dX5_anHour_132 : decode cX5_anHour 132 = .ok (.iastore, 1) := by decide +kernel
theorem dX5_anHour_133 : decode cX5_anHour 133 = .ok (.aload_n 0, 1) := by decide +kernel
theorem dX5_anHour_134 : decode cX5_anHour 134 = .ok (.getfield 7, 3) := by decide +kernel
theorem dX5_anHour_137 : decode cX5_anHour 137 = .ok (.iconst 1, 1) := by decide +kernel
theorem dX5_anHour_138 : decode cX5_anHour 138 = .ok (.iconst 0, 1) := by decide +kernel
theorem dX5_anHour_139 : decode cX5_anHour 139 = .ok (.iastore, 1) := by decide +kernel
theorem dX5_anHour_140 : decode cX5_anHour 140 = .ok (.aload_n 0, 1) := by decide +kernel
theorem dX5_anHour_141 : decode cX5_anHour 141 = .ok (.getfield 7, 3) := by decide +kernel
theorem dX5_anHour_144 : decode cX5_anHour 144 = .ok (.iconst 5, 1) := by decide +kernel
theorem dX5_anHour_145 : decode cX5_anHour 145 = .ok (.dup2, 1) := by decide +kernel
theorem dX5_anHour_146 : decode cX5_anHour 146 = .ok (.iaload, 1) := by decide +kernel
theorem dX5_anHour_147 : decode cX5_anHour 147 = .ok (.iconst 1, 1) := by decide +kernel
theorem dX5_anHour_148 : decode cX5_anHour 148 = .ok (.iadd, 1) := by decide +kernel
theorem dX5_anHour_149 : decode cX5_anHour 149 = .ok (.iastore, 1) := by decide +kernel
theorem dX5_anHour_150 : decode cX5_anHour 150 = .ok (.iload_n 1, 1) := by decide +kernel
theorem dX5_anHour_151 : decode cX5_anHour 151 = .ok (.ireturn, 1) := by decide +kernel
theorem dX5_hours_0 : decode cX5_hours 0 = .ok (.iload_n 1, 1) := by decide +kernel
theorem dX5_hours_1 : decode cX5_hours 1 = .ok (.iconst 1, 1) := by decide +kernel
theorem dX5_hours_2 : decode cX5_hours 2 = .ok (.sipush 200, 3) := by decide +kernel
theorem dX5_hours_5 : decode cX5_hours 5 = .ok (.invokestatic 48, 3) := by decide +kernel
theorem dX5_hours_8 : decode cX5_hours 8 = .ok (.ifCond .ne 10, 3) := by decide +kernel
theorem dX5_hours_11 : decode cX5_hours 11 = .ok (.aload_n 0, 1) := by decide +kernel
theorem dX5_hours_12 : decode cX5_hours 12 = .ok (.ldc 47, 2) := by decide +kernel
theorem dX5_hours_14 : decode cX5_hours 14 = .ok (.invokevirtual 74, 3) := by decide +kernel
theorem dX5_hours_17 : decode cX5_hours 17 = .ok (.ireturn, 1) := by decide +kernel
theorem dX5_hours_18 : decode cX5_hours 18 = .ok (.aload_n 0, 1) := by decide +kernel
theorem dX5_hours_19 : decode cX5_hours 19 = .ok (.getfield 7, 3) := by decide +kernel
theorem dX5_hours_22 : decode cX5_hours 22 = .ok (.iconst 5, 1) := by decide +kernel
theorem dX5_hours_23 : decode cX5_hours 23 = .ok (.iaload, 1) := by decide +kernel
theorem dX5_hours_24 : decode cX5_hours 24 = .ok (.iload_n 1, 1) := by decide +kernel
theorem dX5_hours_25 : decode cX5_hours 25 = .ok (.iadd, 1) := by decide +kernel
theorem dX5_hours_26 : decode cX5_hours 26 = .ok (.sipush 9999, 3) := by decide +kernel
theorem dX5_hours_29 : decode cX5_hours 29 = .ok (.if_icmp .le 10, 3) := by decide +kernel
theorem dX5_hours_32 : decode cX5_hours 32 = .ok (.aload_n 0, 1) := by decide +kernel
theorem dX5_hours_33 : decode cX5_hours 33 = .ok (.ldc 115, 2) := by decide +kernel
theorem dX5_hours_35 : decode cX5_hours 35 = .ok (.invokevirtual 74, 3) := by decide +kernel
theorem dX5_hours_38 : decode cX5_hours 38 = .ok (.ireturn, 1) := by decide +kernel
theorem dX5_hours_39 : decode cX5_hours 39 = .ok (.iconst 0, 1) := by decide +kernel
theorem dX5_hours_40 : decode cX5_hours 40 = .ok (.istore_n 2, 1) := by decide +kernel
theorem dX5_hours_41 : decode cX5_hours 41 = .ok (.iconst 0, 1) := by decide +kernel
theorem dX5_hours_42 : decode cX5_hours 42 = .ok (.istore_n 3, 1) := by decide +kernel
theorem dX5_hours_43 : decode cX5_hours 43 = .ok (.iload_n 3, 1) := by decide +kernel
theorem dX5_hours_44 : decode cX5_hours 44 = .ok (.iload_n 1, 1) := by decide +kernel
theorem dX5_hours_45 : decode cX5_hours 45 = .ok (.if_icmp .ge 16, 3) := by decide +kernel
theorem dX5_hours_48 : decode cX5_hours 48 = .ok (.iload_n 2, 1) := by decide +kernel
theorem dX5_hours_49 : decode cX5_hours 49 = .ok (.aload_n 0, 1) := by decide +kernel
theorem dX5_hours_50 : decode cX5_hours 50 = .ok (.invokevirtual 116, 3) := by decide +kernel
theorem dX5_hours_53 : decode cX5_hours 53 = .ok (.iadd, 1) := by decide +kernel
theorem dX5_hours_54 : decode cX5_hours 54 = .ok (.istore_n 2, 1) := by decide +kernel
theorem dX5_hours_55 : decode cX5_hours 55 = .ok (.iinc 3 1, 3) := by decide +kernel
theorem dX5_hours_58 : decode cX5_hours 58 = .ok (.goto (-15), 3) := by decide +kernel
theorem dX5_hours_61 : decode cX5_hours 61 = .ok (.iload_n 2, 1) := by decide +kernel
theorem dX5_hours_62 : decode cX5_hours 62 = .ok (.ireturn, 1) := by decide +kernel
theorem dX5_sumOf_0 : decode cX5_sumOf 0 = .ok (.iconst 0, 1) := by decide +kernel
theorem dX5_sumOf_1 : decode cX5_sumOf 1 = .ok (.istore_n 2, 1) := by decide +kernel
theorem dX5_sumOf_2 : decode cX5_sumOf 2 = .ok (.iconst 0, 1) := by decide +kernel
theorem dX5_sumOf_3 : decode cX5_sumOf 3 = .ok (.istore_n 3, 1) := by decide +kernel
theorem dX5_sumOf_4 : decode cX5_sumOf 4 = .ok (.iload_n 3, 1) := by decide +kernel
theorem dX5_sumOf_5 : decode cX5_sumOf 5 = .ok (.aload_n 0, 1) := by decide +kernel
theorem dX5_sumOf_6 : decode cX5_sumOf 6 = .ok (.getfield 7, 3) := by decide +kernel
theorem dX5_sumOf_9 : decode cX5_sumOf 9 = .ok (.iconst 0, 1) := by decide +kernel
theorem dX5_sumOf_10 : decode cX5_sumOf 10 = .ok (.iaload, 1) := by decide +kernel
theorem dX5_sumOf_11 : decode cX5_sumOf 11 = .ok (.if_icmp .ge 18, 3) := by decide +kernel
theorem dX5_sumOf_14 : decode cX5_sumOf 14 = .ok (.iload_n 2, 1) := by decide +kernel
theorem dX5_sumOf_15 : decode cX5_sumOf 15 = .ok (.aload_n 0, 1) := by decide +kernel
theorem dX5_sumOf_16 : decode cX5_sumOf 16 = .ok (.iload_n 3, 1) := by decide +kernel
theorem dX5_sumOf_17 : decode cX5_sumOf 17 = .ok (.iload_n 1, 1) := by decide +kernel
theorem dX5_sumOf_18 : decode cX5_sumOf 18 = .ok (.invokevirtual 52, 3) := by decide +kernel
theorem dX5_sumOf_21 : decode cX5_sumOf 21 = .ok (.iadd, 1) := by decide +kernel
theorem dX5_sumOf_22 : decode cX5_sumOf 22 = .ok (.istore_n 2, 1) := by decide +kernel
theorem dX5_sumOf_23 : decode cX5_sumOf 23 = .ok (.iinc 3 1, 3) := by decide +kernel
theorem dX5_sumOf_26 : decode cX5_sumOf 26 = .ok (.goto (-22), 3) := by decide +kernel
theorem dX5_sumOf_29 : decode cX5_sumOf 29 = .ok (.iload_n 2, 1) := by decide +kernel
theorem dX5_sumOf_30 : decode cX5_sumOf 30 = .ok (.ireturn, 1) := by decide +kernel
theorem dX5_now_0 : decode cX5_now 0 = .ok (.iload_n 1, 1) := by decide +kernel
theorem dX5_now_1 : decode cX5_now 1 = .ok (.tableswitch 113 0 8 #[51, 58, 65, 72, 79, 86, 94, 100, 106], 51) := by decide +kernel
theorem dX5_now_52 : decode cX5_now 52 = .ok (.aload_n 0, 1) := by decide +kernel
theorem dX5_now_53 : decode cX5_now 53 = .ok (.getfield 7, 3) := by decide +kernel
theorem dX5_now_56 : decode cX5_now 56 = .ok (.iconst 5, 1) := by decide +kernel
theorem dX5_now_57 : decode cX5_now 57 = .ok (.iaload, 1) := by decide +kernel
theorem dX5_now_58 : decode cX5_now 58 = .ok (.ireturn, 1) := by decide +kernel
theorem dX5_now_59 : decode cX5_now 59 = .ok (.aload_n 0, 1) := by decide +kernel
theorem dX5_now_60 : decode cX5_now 60 = .ok (.getfield 7, 3) := by decide +kernel
theorem dX5_now_63 : decode cX5_now 63 = .ok (.iconst 1, 1) := by decide +kernel
theorem dX5_now_64 : decode cX5_now 64 = .ok (.iaload, 1) := by decide +kernel
theorem dX5_now_65 : decode cX5_now 65 = .ok (.ireturn, 1) := by decide +kernel
theorem dX5_now_66 : decode cX5_now 66 = .ok (.aload_n 0, 1) := by decide +kernel
theorem dX5_now_67 : decode cX5_now 67 = .ok (.getfield 7, 3) := by decide +kernel
theorem dX5_now_70 : decode cX5_now 70 = .ok (.iconst 2, 1) := by decide +kernel
theorem dX5_now_71 : decode cX5_now 71 = .ok (.iaload, 1) := by decide +kernel
theorem dX5_now_72 : decode cX5_now 72 = .ok (.ireturn, 1) := by decide +kernel
theorem dX5_now_73 : decode cX5_now 73 = .ok (.aload_n 0, 1) := by decide +kernel
theorem dX5_now_74 : decode cX5_now 74 = .ok (.getfield 7, 3) := by decide +kernel
theorem dX5_now_77 : decode cX5_now 77 = .ok (.iconst 3, 1) := by decide +kernel
theorem dX5_now_78 : decode cX5_now 78 = .ok (.iaload, 1) := by decide +kernel
theorem dX5_now_79 : decode cX5_now 79 = .ok (.ireturn, 1) := by decide +kernel
theorem dX5_now_80 : decode cX5_now 80 = .ok (.aload_n 0, 1) := by decide +kernel
theorem dX5_now_81 : decode cX5_now 81 = .ok (.getfield 7, 3) := by decide +kernel
theorem dX5_now_84 : decode cX5_now 84 = .ok (.iconst 4, 1) := by decide +kernel
theorem dX5_now_85 : decode cX5_now 85 = .ok (.iaload, 1) := by decide +kernel
theorem dX5_now_86 : decode cX5_now 86 = .ok (.ireturn, 1) := by decide +kernel
theorem dX5_now_87 : decode cX5_now 87 = .ok (.aload_n 0, 1) := by decide +kernel
theorem dX5_now_88 : decode cX5_now 88 = .ok (.getfield 7, 3) := by decide +kernel
theorem dX5_now_91 : decode cX5_now 91 = .ok (.bipush 6, 2) := by decide +kernel
theorem dX5_now_93 : decode cX5_now 93 = .ok (.iaload, 1) := by decide +kernel
theorem dX5_now_94 : decode cX5_now 94 = .ok (.ireturn, 1) := by decide +kernel
theorem dX5_now_95 : decode cX5_now 95 = .ok (.aload_n 0, 1) := by decide +kernel
theorem dX5_now_96 : decode cX5_now 96 = .ok (.iconst 1, 1) := by decide +kernel
theorem dX5_now_97 : decode cX5_now 97 = .ok (.invokevirtual 120, 3) := by decide +kernel
theorem dX5_now_100 : decode cX5_now 100 = .ok (.ireturn, 1) := by decide +kernel
theorem dX5_now_101 : decode cX5_now 101 = .ok (.aload_n 0, 1) := by decide +kernel
theorem dX5_now_102 : decode cX5_now 102 = .ok (.iconst 5, 1) := by decide +kernel
theorem dX5_now_103 : decode cX5_now 103 = .ok (.invokevirtual 120, 3) := by decide +kernel
theorem dX5_now_106 : decode cX5_now 106 = .ok (.ireturn, 1) := by decide +kernel
theorem dX5_now_107 : decode cX5_now 107 = .ok (.aload_n 0, 1) := by decide +kernel
theorem dX5_now_108 : decode cX5_now 108 = .ok (.bipush 6, 2) := by decide +kernel
theorem dX5_now_110 : decode cX5_now 110 = .ok (.invokevirtual 120, 3) := by decide +kernel
theorem dX5_now_113 : decode cX5_now 113 = .ok (.ireturn, 1) := by decide +kernel
theorem dX5_now_114 : decode cX5_now 114 = .ok (.aload_n 0, 1) := by decide +kernel
theorem dX5_now_115 : decode cX5_now 115 = .ok (.ldc 47, 2) := by decide +kernel
theorem dX5_now_117 : decode cX5_now 117 = .ok (.invokevirtual 74, 3) := by decide +kernel
theorem dX5_now_120 : decode cX5_now 120 = .ok (.ireturn, 1) := by decide +kernel
theorem dX5_runs_0 : decode cX5_runs 0 = .ok (.aload_n 0, 1) := by decide +kernel
theorem dX5_runs_1 : decode cX5_runs 1 = .ok (.iconst (-1), 1) := by decide +kernel
theorem dX5_runs_2 : decode cX5_runs 2 = .ok (.iconst 0, 1) := by decide +kernel
theorem dX5_runs_3 : decode cX5_runs 3 = .ok (.invokevirtual 108, 3) := by decide +kernel
theorem dX5_runs_6 : decode cX5_runs 6 = .ok (.aload_n 0, 1) := by decide +kernel
theorem dX5_runs_7 : decode cX5_runs 7 = .ok (.getfield 104, 3) := by decide +kernel
theorem dX5_runs_10 : decode cX5_runs 10 = .ok (.ireturn, 1) := by decide +kernel
theorem dX5_thrown_0 : decode cX5_thrown 0 = .ok (.aload_n 0, 1) := by decide +kernel
theorem dX5_thrown_1 : decode cX5_thrown 1 = .ok (.iload_n 1, 1) := by decide +kernel
theorem dX5_thrown_2 : decode cX5_thrown 2 = .ok (.invokevirtual 83, 3) := by decide +kernel
theorem dX5_thrown_5 : decode cX5_thrown 5 = .ok (.ifCond .ne 10, 3) := by decide +kernel
theorem dX5_thrown_8 : decode cX5_thrown 8 = .ok (.aload_n 0, 1) := by decide +kernel
theorem dX5_thrown_9 : decode cX5_thrown 9 = .ok (.ldc 47, 2) := by decide +kernel
theorem dX5_thrown_11 : decode cX5_thrown 11 = .ok (.invokevirtual 74, 3) := by decide +kernel
theorem dX5_thrown_14 : decode cX5_thrown 14 = .ok (.ireturn, 1) := by decide +kernel
theorem dX5_thrown_15 : decode cX5_thrown 15 = .ok (.aload_n 0, 1) := by decide +kernel
theorem dX5_thrown_16 : decode cX5_thrown 16 = .ok (.iconst (-1), 1) := by decide +kernel
theorem dX5_thrown_17 : decode cX5_thrown 17 = .ok (.iconst 0, 1) := by decide +kernel
theorem dX5_thrown_18 : decode cX5_thrown 18 = .ok (.invokevirtual 108, 3) := by decide +kernel
theorem dX5_thrown_21 : decode cX5_thrown 21 = .ok (.aload_n 0, 1) := by decide +kernel
theorem dX5_thrown_22 : decode cX5_thrown 22 = .ok (.getfield 19, 3) := by decide +kernel
theorem dX5_thrown_25 : decode cX5_thrown 25 = .ok (.iload_n 1, 1) := by decide +kernel
theorem dX5_thrown_26 : decode cX5_thrown 26 = .ok (.iaload, 1) := by decide +kernel
theorem dX5_thrown_27 : decode cX5_thrown 27 = .ok (.ireturn, 1) := by decide +kernel
theorem dX5_gain_0 : decode cX5_gain 0 = .ok (.aload_n 0, 1) := by decide +kernel
theorem dX5_gain_1 : decode cX5_gain 1 = .ok (.iload_n 1, 1) := by decide +kernel
theorem dX5_gain_2 : decode cX5_gain 2 = .ok (.invokevirtual 83, 3) := by decide +kernel
theorem dX5_gain_5 : decode cX5_gain 5 = .ok (.ifCond .eq 11, 3) := by decide +kernel
theorem dX5_gain_8 : decode cX5_gain 8 = .ok (.aload_n 0, 1) := by decide +kernel
theorem dX5_gain_9 : decode cX5_gain 9 = .ok (.iload_n 1, 1) := by decide +kernel
theorem dX5_gain_10 : decode cX5_gain 10 = .ok (.invokevirtual 123, 3) := by decide +kernel
theorem dX5_gain_13 : decode cX5_gain 13 = .ok (.goto 9, 3) := by decide +kernel
theorem dX5_gain_16 : decode cX5_gain 16 = .ok (.aload_n 0, 1) := by decide +kernel
theorem dX5_gain_17 : decode cX5_gain 17 = .ok (.ldc 47, 2) := by decide +kernel
theorem dX5_gain_19 : decode cX5_gain 19 = .ok (.invokevirtual 74, 3) := by decide +kernel
theorem dX5_gain_22 : decode cX5_gain 22 = .ok (.ireturn, 1) := by decide +kernel
theorem dX5_all_0 : decode cX5_all 0 = .ok (.aload_n 0, 1) := by decide +kernel
theorem dX5_all_1 : decode cX5_all 1 = .ok (.invokevirtual 126, 3) := by decide +kernel
theorem dX5_all_4 : decode cX5_all 4 = .ok (.ireturn, 1) := by decide +kernel
theorem dX5_on_0 : decode cX5_on 0 = .ok (.aload_n 0, 1) := by decide +kernel
theorem dX5_on_1 : decode cX5_on 1 = .ok (.iload_n 1, 1) := by decide +kernel
theorem dX5_on_2 : decode cX5_on 2 = .ok (.invokevirtual 83, 3) := by decide +kernel
theorem dX5_on_5 : decode cX5_on 5 = .ok (.ifCond .eq 14, 3) := by decide +kernel
theorem dX5_on_8 : decode cX5_on 8 = .ok (.iload_n 2, 1) := by decide +kernel
theorem dX5_on_9 : decode cX5_on 9 = .ok (.iconst 0, 1) := by decide +kernel
theorem dX5_on_10 : decode cX5_on 10 = .ok (.sipush 200, 3) := by decide +kernel
theorem dX5_on_13 : decode cX5_on 13 = .ok (.invokestatic 48, 3) := by decide +kernel
theorem dX5_on_16 : decode cX5_on 16 = .ok (.ifCond .ne 10, 3) := by decide +kernel
theorem dX5_on_19 : decode cX5_on 19 = .ok (.aload_n 0, 1) := by decide +kernel
theorem dX5_on_20 : decode cX5_on 20 = .ok (.ldc 47, 2) := by decide +kernel
theorem dX5_on_22 : decode cX5_on 22 = .ok (.invokevirtual 74, 3) := by decide +kernel
theorem dX5_on_25 : decode cX5_on 25 = .ok (.ireturn, 1) := by decide +kernel
theorem dX5_on_26 : decode cX5_on 26 = .ok (.aload_n 0, 1) := by decide +kernel
theorem dX5_on_27 : decode cX5_on 27 = .ok (.getfield 7, 3) := by decide +kernel
theorem dX5_on_30 : decode cX5_on 30 = .ok (.iconst 5, 1) := by decide +kernel
theorem dX5_on_31 : decode cX5_on 31 = .ok (.iaload, 1) := by decide +kernel
theorem dX5_on_32 : decode cX5_on 32 = .ok (.iload_n 2, 1) := by decide +kernel
theorem dX5_on_33 : decode cX5_on 33 = .ok (.iadd, 1) := by decide +kernel
theorem dX5_on_34 : decode cX5_on 34 = .ok (.sipush 9999, 3) := by decide +kernel
theorem dX5_on_37 : decode cX5_on 37 = .ok (.if_icmp .le 10, 3) := by decide +kernel
theorem dX5_on_40 : decode cX5_on 40 = .ok (.aload_n 0, 1) := by decide +kernel
theorem dX5_on_41 : decode cX5_on 41 = .ok (.ldc 115, 2) := by decide +kernel
theorem dX5_on_43 : decode cX5_on 43 = .ok (.invokevirtual 74, 3) := by decide +kernel
theorem dX5_on_46 : decode cX5_on 46 = .ok (.ireturn, 1) := by decide +kernel
theorem dX5_on_47 : decode cX5_on 47 = .ok (.aload_n 0, 1) := by decide +kernel
theorem dX5_on_48 : decode cX5_on 48 = .ok (.iconst 1, 1) := by decide +kernel
theorem dX5_on_49 : decode cX5_on 49 = .ok (.aload_n 0, 1) := by decide +kernel
theorem dX5_on_50 : decode cX5_on 50 = .ok (.getfield 22, 3) := by decide +kernel
theorem dX5_on_53 : decode cX5_on 53 = .ok (.invokevirtual 129, 3) := by decide +kernel
theorem dX5_on_56 : decode cX5_on 56 = .ok (.iconst 0, 1) := by decide +kernel
theorem dX5_on_57 : decode cX5_on 57 = .ok (.istore_n 3, 1) := by decide +kernel
theorem dX5_on_58 : decode cX5_on 58 = .ok (.iconst 0, 1) := by decide +kernel
theorem dX5_on_59 : decode cX5_on 59 = .ok (.istore 4, 2) := by decide +kernel
theorem dX5_on_61 : decode cX5_on 61 = .ok (.iload 4, 2) := by decide +kernel
theorem dX5_on_63 : decode cX5_on 63 = .ok (.iload_n 2, 1) := by decide +kernel
theorem dX5_on_64 : decode cX5_on 64 = .ok (.if_icmp .ge 16, 3) := by decide +kernel
theorem dX5_on_67 : decode cX5_on 67 = .ok (.iload_n 3, 1) := by decide +kernel
theorem dX5_on_68 : decode cX5_on 68 = .ok (.aload_n 0, 1) := by decide +kernel
theorem dX5_on_69 : decode cX5_on 69 = .ok (.invokevirtual 116, 3) := by decide +kernel
theorem dX5_on_72 : decode cX5_on 72 = .ok (.iadd, 1) := by decide +kernel
theorem dX5_on_73 : decode cX5_on 73 = .ok (.istore_n 3, 1) := by decide +kernel
theorem dX5_on_74 : decode cX5_on 74 = .ok (.iinc 4 1, 3) := by decide +kernel
theorem dX5_on_77 : decode cX5_on 77 = .ok (.goto (-16), 3) := by decide +kernel
theorem dX5_on_80 : decode cX5_on 80 = .ok (.aload_n 0, 1) := by decide +kernel
theorem dX5_on_81 : decode cX5_on 81 = .ok (.iload_n 1, 1) := by decide +kernel
theorem dX5_on_82 : decode cX5_on 82 = .ok (.iconst 5, 1) := by decide +kernel
theorem dX5_on_83 : decode cX5_on 83 = .ok (.invokevirtual 52, 3) := by decide +kernel
theorem dX5_on_86 : decode cX5_on 86 = .ok (.istore 4, 2) := by decide +kernel
theorem dX5_on_88 : decode cX5_on 88 = .ok (.aload_n 0, 1) := by decide +kernel
theorem dX5_on_89 : decode cX5_on 89 = .ok (.iconst 0, 1) := by decide +kernel
theorem dX5_on_90 : decode cX5_on 90 = .ok (.aload_n 0, 1) := by decide +kernel
theorem dX5_on_91 : decode cX5_on 91 = .ok (.getfield 22, 3) := by decide +kernel
theorem dX5_on_94 : decode cX5_on 94 = .ok (.invokevirtual 129, 3) := by decide +kernel
theorem dX5_on_97 : decode cX5_on 97 = .ok (.iload_n 3, 1) := by decide +kernel
theorem dX5_on_98 : decode cX5_on 98 = .ok (.ifCond .ge 7, 3) := by decide +kernel
theorem dX5_on_101 : decode cX5_on 101 = .ok (.iconst 0, 1) := by decide +kernel
theorem dX5_on_102 : decode cX5_on 102 = .ok (.goto 5, 3) := by decide +kernel
theorem dX5_on_105 : decode cX5_on 105 = .ok (.iload 4, 2) := by decide +kernel
theorem dX5_on_107 : decode cX5_on 107 = .ok (.ireturn, 1) := by decide +kernel
theorem dX5_empty_0 : decode cX5_empty 0 = .ok (.aload_n 0, 1) := by decide +kernel
theorem dX5_empty_1 : decode cX5_empty 1 = .ok (.getfield 7, 3) := by decide +kernel
theorem dX5_empty_4 : decode cX5_empty 4 = .ok (.iconst 5, 1) := by decide +kernel
theorem dX5_empty_5 : decode cX5_empty 5 = .ok (.iaload, 1) := by decide +kernel
theorem dX5_empty_6 : decode cX5_empty 6 = .ok (.sipush 9799, 3) := by decide +kernel
theorem dX5_empty_9 : decode cX5_empty 9 = .ok (.if_icmp .le 10, 3) := by decide +kernel
theorem dX5_empty_12 : decode cX5_empty 12 = .ok (.aload_n 0, 1) := by decide +kernel
theorem dX5_empty_13 : decode cX5_empty 13 = .ok (.ldc 115, 2) := by decide +kernel
theorem dX5_empty_15 : decode cX5_empty 15 = .ok (.invokevirtual 74, 3) := by decide +kernel
theorem dX5_empty_18 : decode cX5_empty 18 = .ok (.ireturn, 1) := by decide +kernel
theorem dX5_empty_19 : decode cX5_empty 19 = .ok (.aload_n 0, 1) := by decide +kernel
theorem dX5_empty_20 : decode cX5_empty 20 = .ok (.iconst 1, 1) := by decide +kernel
theorem dX5_empty_21 : decode cX5_empty 21 = .ok (.aload_n 0, 1) := by decide +kernel
theorem dX5_empty_22 : decode cX5_empty 22 = .ok (.getfield 22, 3) := by decide +kernel
theorem dX5_empty_25 : decode cX5_empty 25 = .ok (.invokevirtual 129, 3) := by decide +kernel
theorem dX5_empty_28 : decode cX5_empty 28 = .ok (.iconst 0, 1) := by decide +kernel
theorem dX5_empty_29 : decode cX5_empty 29 = .ok (.istore_n 1, 1) := by decide +kernel
theorem dX5_empty_30 : decode cX5_empty 30 = .ok (.iconst 0, 1) := by decide +kernel
theorem dX5_empty_31 : decode cX5_empty 31 = .ok (.istore_n 2, 1) := by decide +kernel
theorem dX5_empty_32 : decode cX5_empty 32 = .ok (.iload_n 1, 1) := by decide +kernel
theorem dX5_empty_33 : decode cX5_empty 33 = .ok (.sipush 200, 3) := by decide +kernel
theorem dX5_empty_36 : decode cX5_empty 36 = .ok (.if_icmp .gt 24, 3) := by decide +kernel
theorem dX5_empty_39 : decode cX5_empty 39 = .ok (.aload_n 0, 1) := by decide +kernel
theorem dX5_empty_40 : decode cX5_empty 40 = .ok (.iconst 1, 1) := by decide +kernel
theorem dX5_empty_41 : decode cX5_empty 41 = .ok (.invokevirtual 120, 3) := by decide +kernel
theorem dX5_empty_44 : decode cX5_empty 44 = .ok (.ifCond .le 16, 3) := by decide +kernel
theorem dX5_empty_47 : decode cX5_empty 47 = .ok (.iload_n 2, 1) := by decide +kernel
theorem dX5_empty_48 : decode cX5_empty 48 = .ok (.aload_n 0, 1) := by decide +kernel
theorem dX5_empty_49 : decode cX5_empty 49 = .ok (.invokevirtual 116, 3) := by decide +kernel
theorem dX5_empty_52 : decode cX5_empty 52 = .ok (.iadd, 1) := by decide +kernel
theorem dX5_empty_53 : decode cX5_empty 53 = .ok (.istore_n 2, 1) := by decide +kernel
theorem dX5_empty_54 : decode cX5_empty 54 = .ok (.iinc 1 1, 3) := by decide +kernel
theorem dX5_empty_57 : decode cX5_empty 57 = .ok (.goto (-25), 3) := by decide +kernel
theorem dX5_empty_60 : decode cX5_empty 60 = .ok (.aload_n 0, 1) := by decide +kernel
theorem dX5_empty_61 : decode cX5_empty 61 = .ok (.iconst 0, 1) := by decide +kernel
theorem dX5_empty_62 : decode cX5_empty 62 = .ok (.aload_n 0, 1) := by decide +kernel
theorem dX5_empty_63 : decode cX5_empty 63 = .ok (.getfield 22, 3) := by decide +kernel
theorem dX5_empty_66 : decode cX5_empty 66 = .ok (.invokevirtual 129, 3) := by decide +kernel
theorem dX5_empty_69 : decode cX5_empty 69 = .ok (.iload_n 1, 1) := by decide +kernel
theorem dX5_empty_70 : decode cX5_empty 70 = .ok (.sipush 200, 3) := by decide +kernel
theorem dX5_empty_73 : decode cX5_empty 73 = .ok (.if_icmp .le 12, 3) := by decide +kernel
theorem dX5_empty_76 : decode cX5_empty 76 = .ok (.aload_n 0, 1) := by decide +kernel
theorem dX5_empty_77 : decode cX5_empty 77 = .ok (.ldc 133, 2) := by decide +kernel
theorem dX5_empty_79 : decode cX5_empty 79 = .ok (.invokevirtual 74, 3) := by decide +kernel
theorem dX5_empty_82 : decode cX5_empty 82 = .ok (.goto 4, 3) := by decide +kernel
theorem dX5_empty_85 : decode cX5_empty 85 = .ok (.iload_n 1, 1) := by decide +kernel
theorem dX5_empty_86 : decode cX5_empty 86 = .ok (.ireturn, 1) := by decide +kernel
theorem dX5_gainIf_0 : decode cX5_gainIf 0 = .ok (.aload_n 0, 1) := by decide +kernel
theorem dX5_gainIf_1 : decode cX5_gainIf 1 = .ok (.iload_n 1, 1) := by decide +kernel
theorem dX5_gainIf_2 : decode cX5_gainIf 2 = .ok (.invokevirtual 83, 3) := by decide +kernel
theorem dX5_gainIf_5 : decode cX5_gainIf 5 = .ok (.ifCond .eq 13, 3) := by decide +kernel
theorem dX5_gainIf_8 : decode cX5_gainIf 8 = .ok (.iload_n 2, 1) := by decide +kernel
theorem dX5_gainIf_9 : decode cX5_gainIf 9 = .ok (.iconst 0, 1) := by decide +kernel
theorem dX5_gainIf_10 : decode cX5_gainIf 10 = .ok (.bipush 99, 2) := by decide +kernel
theorem dX5_gainIf_12 : decode cX5_gainIf 12 = .ok (.invokestatic 48, 3) := by decide +kernel
theorem dX5_gainIf_15 : decode cX5_gainIf 15 = .ok (.ifCond .ne 10, 3) := by decide +kernel
theorem dX5_gainIf_18 : decode cX5_gainIf 18 = .ok (.aload_n 0, 1) := by decide +kernel
theorem dX5_gainIf_19 : decode cX5_gainIf 19 = .ok (.ldc 47, 2) := by decide +kernel
theorem dX5_gainIf_21 : decode cX5_gainIf 21 = .ok (.invokevirtual 74, 3) := by decide +kernel
theorem dX5_gainIf_24 : decode cX5_gainIf 24 = .ok (.ireturn, 1) := by decide +kernel
theorem dX5_gainIf_25 : decode cX5_gainIf 25 = .ok (.iload_n 2, 1) := by decide +kernel
theorem dX5_gainIf_26 : decode cX5_gainIf 26 = .ok (.aload_n 0, 1) := by decide +kernel
theorem dX5_gainIf_27 : decode cX5_gainIf 27 = .ok (.iload_n 1, 1) := by decide +kernel
theorem dX5_gainIf_28 : decode cX5_gainIf 28 = .ok (.iconst 1, 1) := by decide +kernel
theorem dX5_gainIf_29 : decode cX5_gainIf 29 = .ok (.invokevirtual 52, 3) := by decide +kernel
theorem dX5_gainIf_32 : decode cX5_gainIf 32 = .ok (.if_icmp .le 12, 3) := by decide +kernel
theorem dX5_gainIf_35 : decode cX5_gainIf 35 = .ok (.aload_n 0, 1) := by decide +kernel
theorem dX5_gainIf_36 : decode cX5_gainIf 36 = .ok (.ldc 115, 2) := by decide +kernel
theorem dX5_gainIf_38 : decode cX5_gainIf 38 = .ok (.invokevirtual 74, 3) := by decide +kernel
theorem dX5_gainIf_41 : decode cX5_gainIf 41 = .ok (.goto 9, 3) := by decide +kernel
theorem dX5_gainIf_44 : decode cX5_gainIf 44 = .ok (.aload_n 0, 1) := by decide +kernel
theorem dX5_gainIf_45 : decode cX5_gainIf 45 = .ok (.iload_n 1, 1) := by decide +kernel
theorem dX5_gainIf_46 : decode cX5_gainIf 46 = .ok (.iload_n 2, 1) := by decide +kernel
theorem dX5_gainIf_47 : decode cX5_gainIf 47 = .ok (.invokevirtual 134, 3) := by decide +kernel
theorem dX5_gainIf_50 : decode cX5_gainIf 50 = .ok (.ireturn, 1) := by decide +kernel
theorem dX5_bestOf_0 : decode cX5_bestOf 0 = .ok (.iconst 0, 1) := by decide +kernel
theorem dX5_bestOf_1 : decode cX5_bestOf 1 = .ok (.istore_n 2, 1) := by decide +kernel
theorem dX5_bestOf_2 : decode cX5_bestOf 2 = .ok (.aload_n 0, 1) := by decide +kernel
theorem dX5_bestOf_3 : decode cX5_bestOf 3 = .ok (.iload_n 1, 1) := by decide +kernel
theorem dX5_bestOf_4 : decode cX5_bestOf 4 = .ok (.iconst 0, 1) := by decide +kernel
theorem dX5_bestOf_5 : decode cX5_bestOf 5 = .ok (.invokevirtual 134, 3) := by decide +kernel
theorem dX5_bestOf_8 : decode cX5_bestOf 8 = .ok (.istore_n 3, 1) := by decide +kernel
theorem dX5_bestOf_9 : decode cX5_bestOf 9 = .ok (.iconst 1, 1) := by decide +kernel
theorem dX5_bestOf_10 : decode cX5_bestOf 10 = .ok (.istore 4, 2) := by decide +kernel
theorem dX5_bestOf_12 : decode cX5_bestOf 12 = .ok (.iload 4, 2) := by decide +kernel
theorem dX5_bestOf_14 : decode cX5_bestOf 14 = .ok (.bipush 20, 2) := by decide +kernel
theorem dX5_bestOf_16 : decode cX5_bestOf 16 = .ok (.if_icmp .gt 55, 3) := by decide +kernel
theorem dX5_bestOf_19 : decode cX5_bestOf 19 = .ok (.iload 4, 2) := by decide +kernel
theorem dX5_bestOf_21 : decode cX5_bestOf 21 = .ok (.aload_n 0, 1) := by decide +kernel
theorem dX5_bestOf_22 : decode cX5_bestOf 22 = .ok (.iload_n 1, 1) := by decide +kernel
theorem dX5_bestOf_23 : decode cX5_bestOf 23 = .ok (.iconst 1, 1) := by decide +kernel
theorem dX5_bestOf_24 : decode cX5_bestOf 24 = .ok (.invokevirtual 52, 3) := by decide +kernel
theorem dX5_bestOf_27 : decode cX5_bestOf 27 = .ok (.if_icmp .gt 44, 3) := by decide +kernel
theorem dX5_bestOf_30 : decode cX5_bestOf 30 = .ok (.aload_n 0, 1) := by decide +kernel
theorem dX5_bestOf_31 : decode cX5_bestOf 31 = .ok (.iload_n 1, 1) := by decide +kernel
theorem dX5_bestOf_32 : decode cX5_bestOf 32 = .ok (.iload 4, 2) := by decide +kernel
theorem dX5_bestOf_34 : decode cX5_bestOf 34 = .ok (.invokevirtual 134, 3) := by decide +kernel
theorem dX5_bestOf_37 : decode cX5_bestOf 37 = .ok (.istore 5, 2) := by decide +kernel
theorem dX5_bestOf_39 : decode cX5_bestOf 39 = .ok (.iload 5, 2) := by decide +kernel
theorem dX5_bestOf_41 : decode cX5_bestOf 41 = .ok (.iload_n 3, 1) := by decide +kernel
theorem dX5_bestOf_42 : decode cX5_bestOf 42 = .ok (.if_icmp .le 8, 3) := by decide +kernel
theorem dX5_bestOf_45 : decode cX5_bestOf 45 = .ok (.iload 4, 2) := by decide +kernel
theorem dX5_bestOf_47 : decode cX5_bestOf 47 = .ok (.goto 4, 3) := by decide +kernel
theorem dX5_bestOf_50 : decode cX5_bestOf 50 = .ok (.iload_n 2, 1) := by decide +kernel
theorem dX5_bestOf_51 : decode cX5_bestOf 51 = .ok (.istore_n 2, 1) := by decide +kernel
theorem dX5_bestOf_52 : decode cX5_bestOf 52 = .ok (.iload 5, 2) := by decide +kernel
theorem dX5_bestOf_54 : decode cX5_bestOf 54 = .ok (.iload_n 3, 1) := by decide +kernel
theorem dX5_bestOf_55 : decode cX5_bestOf 55 = .ok (.if_icmp .le 8, 3) := by decide +kernel
theorem dX5_bestOf_58 : decode cX5_bestOf 58 = .ok (.iload 5, 2) := by decide +kernel
theorem dX5_bestOf_60 : decode cX5_bestOf 60 = .ok (.goto 4, 3) := by decide +kernel
theorem dX5_bestOf_63 : decode cX5_bestOf 63 = .ok (.iload_n 3, 1) := by decide +kernel
theorem dX5_bestOf_64 : decode cX5_bestOf 64 = .ok (.istore_n 3, 1) := by decide +kernel
theorem dX5_bestOf_65 : decode cX5_bestOf 65 = .ok (.iinc 4 1, 3) := by decide +kernel
theorem dX5_bestOf_68 : decode cX5_bestOf 68 = .ok (.goto (-56), 3) := by decide +kernel
theorem dX5_bestOf_71 : decode cX5_bestOf 71 = .ok (.iload_n 2, 1) := by decide +kernel
theorem dX5_bestOf_72 : decode cX5_bestOf 72 = .ok (.ireturn, 1) := by decide +kernel
theorem dX5_best_0 : decode cX5_best 0 = .ok (.aload_n 0, 1) := by decide +kernel
theorem dX5_best_1 : decode cX5_best 1 = .ok (.iload_n 1, 1) := by decide +kernel
theorem dX5_best_2 : decode cX5_best 2 = .ok (.invokevirtual 83, 3) := by decide +kernel
theorem dX5_best_5 : decode cX5_best 5 = .ok (.ifCond .eq 11, 3) := by decide +kernel
theorem dX5_best_8 : decode cX5_best 8 = .ok (.aload_n 0, 1) := by decide +kernel
theorem dX5_best_9 : decode cX5_best 9 = .ok (.iload_n 1, 1) := by decide +kernel
theorem dX5_best_10 : decode cX5_best 10 = .ok (.invokevirtual 137, 3) := by decide +kernel
theorem dX5_best_13 : decode cX5_best 13 = .ok (.goto 9, 3) := by decide +kernel
theorem dX5_best_16 : decode cX5_best 16 = .ok (.aload_n 0, 1) := by decide +kernel
theorem dX5_best_17 : decode cX5_best 17 = .ok (.ldc 47, 2) := by decide +kernel
theorem dX5_best_19 : decode cX5_best 19 = .ok (.invokevirtual 74, 3) := by decide +kernel
theorem dX5_best_22 : decode cX5_best 22 = .ok (.ireturn, 1) := by decide +kernel
theorem dX5_regretOf_0 : decode cX5_regretOf 0 = .ok (.aload_n 0, 1) := by decide +kernel
theorem dX5_regretOf_1 : decode cX5_regretOf 1 = .ok (.iload_n 1, 1) := by decide +kernel
theorem dX5_regretOf_2 : decode cX5_regretOf 2 = .ok (.invokevirtual 137, 3) := by decide +kernel
theorem dX5_regretOf_5 : decode cX5_regretOf 5 = .ok (.istore_n 2, 1) := by decide +kernel
theorem dX5_regretOf_6 : decode cX5_regretOf 6 = .ok (.aload_n 0, 1) := by decide +kernel
theorem dX5_regretOf_7 : decode cX5_regretOf 7 = .ok (.iload_n 1, 1) := by decide +kernel
theorem dX5_regretOf_8 : decode cX5_regretOf 8 = .ok (.iload_n 2, 1) := by decide +kernel
theorem dX5_regretOf_9 : decode cX5_regretOf 9 = .ok (.invokevirtual 134, 3) := by decide +kernel
theorem dX5_regretOf_12 : decode cX5_regretOf 12 = .ok (.istore_n 3, 1) := by decide +kernel
theorem dX5_regretOf_13 : decode cX5_regretOf 13 = .ok (.iload_n 3, 1) := by decide +kernel
theorem dX5_regretOf_14 : decode cX5_regretOf 14 = .ok (.aload_n 0, 1) := by decide +kernel
theorem dX5_regretOf_15 : decode cX5_regretOf 15 = .ok (.iload_n 1, 1) := by decide +kernel
theorem dX5_regretOf_16 : decode cX5_regretOf 16 = .ok (.invokevirtual 123, 3) := by decide +kernel
theorem dX5_regretOf_19 : decode cX5_regretOf 19 = .ok (.isub, 1) := by decide +kernel
theorem dX5_regretOf_20 : decode cX5_regretOf 20 = .ok (.ireturn, 1) := by decide +kernel
theorem dX5_sorry_0 : decode cX5_sorry 0 = .ok (.iconst 0, 1) := by decide +kernel
theorem dX5_sorry_1 : decode cX5_sorry 1 = .ok (.istore_n 1, 1) := by decide +kernel
theorem dX5_sorry_2 : decode cX5_sorry 2 = .ok (.iconst 0, 1) := by decide +kernel
theorem dX5_sorry_3 : decode cX5_sorry 3 = .ok (.istore_n 2, 1) := by decide +kernel
theorem dX5_sorry_4 : decode cX5_sorry 4 = .ok (.iload_n 2, 1) := by decide +kernel
theorem dX5_sorry_5 : decode cX5_sorry 5 = .ok (.aload_n 0, 1) := by decide +kernel
theorem dX5_sorry_6 : decode cX5_sorry 6 = .ok (.getfield 7, 3) := by decide +kernel
theorem dX5_sorry_9 : decode cX5_sorry 9 = .ok (.iconst 0, 1) := by decide +kernel
theorem dX5_sorry_10 : decode cX5_sorry 10 = .ok (.iaload, 1) := by decide +kernel
theorem dX5_sorry_11 : decode cX5_sorry 11 = .ok (.if_icmp .ge 27, 3) := by decide +kernel
theorem dX5_sorry_14 : decode cX5_sorry 14 = .ok (.iload_n 1, 1) := by decide +kernel
theorem dX5_sorry_15 : decode cX5_sorry 15 = .ok (.aload_n 0, 1) := by decide +kernel
theorem dX5_sorry_16 : decode cX5_sorry 16 = .ok (.iload_n 2, 1) := by decide +kernel
theorem dX5_sorry_17 : decode cX5_sorry 17 = .ok (.invokevirtual 140, 3) := by decide +kernel
theorem dX5_sorry_20 : decode cX5_sorry 20 = .ok (.ifCond .le 9, 3) := by decide +kernel
theorem dX5_sorry_23 : decode cX5_sorry 23 = .ok (.iconst 1, 1) := by decide +kernel
theorem dX5_sorry_24 : decode cX5_sorry 24 = .ok (.iload_n 2, 1) := by decide +kernel
theorem dX5_sorry_25 : decode cX5_sorry 25 = .ok (.ishl, 1) := by decide +kernel
theorem dX5_sorry_26 : decode cX5_sorry 26 = .ok (.goto 4, 3) := by decide +kernel
theorem dX5_sorry_29 : decode cX5_sorry 29 = .ok (.iconst 0, 1) := by decide +kernel
theorem dX5_sorry_30 : decode cX5_sorry 30 = .ok (.ior, 1) := by decide +kernel
theorem dX5_sorry_31 : decode cX5_sorry 31 = .ok (.istore_n 1, 1) := by decide +kernel
theorem dX5_sorry_32 : decode cX5_sorry 32 = .ok (.iinc 2 1, 3) := by decide +kernel
theorem dX5_sorry_35 : decode cX5_sorry 35 = .ok (.goto (-31), 3) := by decide +kernel
theorem dX5_sorry_38 : decode cX5_sorry 38 = .ok (.iload_n 1, 1) := by decide +kernel
theorem dX5_sorry_39 : decode cX5_sorry 39 = .ok (.ireturn, 1) := by decide +kernel
theorem dX5_regret_0 : decode cX5_regret 0 = .ok (.aload_n 0, 1) := by decide +kernel
theorem dX5_regret_1 : decode cX5_regret 1 = .ok (.iload_n 1, 1) := by decide +kernel
theorem dX5_regret_2 : decode cX5_regret 2 = .ok (.invokevirtual 83, 3) := by decide +kernel
theorem dX5_regret_5 : decode cX5_regret 5 = .ok (.ifCond .eq 11, 3) := by decide +kernel
theorem dX5_regret_8 : decode cX5_regret 8 = .ok (.aload_n 0, 1) := by decide +kernel
theorem dX5_regret_9 : decode cX5_regret 9 = .ok (.iload_n 1, 1) := by decide +kernel
theorem dX5_regret_10 : decode cX5_regret 10 = .ok (.invokevirtual 140, 3) := by decide +kernel
theorem dX5_regret_13 : decode cX5_regret 13 = .ok (.goto 9, 3) := by decide +kernel
theorem dX5_regret_16 : decode cX5_regret 16 = .ok (.aload_n 0, 1) := by decide +kernel
theorem dX5_regret_17 : decode cX5_regret 17 = .ok (.ldc 47, 2) := by decide +kernel
theorem dX5_regret_19 : decode cX5_regret 19 = .ok (.invokevirtual 74, 3) := by decide +kernel
theorem dX5_regret_22 : decode cX5_regret 22 = .ok (.ireturn, 1) := by decide +kernel
theorem dX5_stand_0 : decode cX5_stand 0 = .ok (.aload_n 0, 1) := by decide +kernel
theorem dX5_stand_1 : decode cX5_stand 1 = .ok (.iload_n 1, 1) := by decide +kernel
theorem dX5_stand_2 : decode cX5_stand 2 = .ok (.invokevirtual 83, 3) := by decide +kernel
theorem dX5_stand_5 : decode cX5_stand 5 = .ok (.ifCond .ne 10, 3) := by decide +kernel
theorem dX5_stand_8 : decode cX5_stand 8 = .ok (.aload_n 0, 1) := by decide +kernel
theorem dX5_stand_9 : decode cX5_stand 9 = .ok (.ldc 47, 2) := by decide +kernel
theorem dX5_stand_11 : decode cX5_stand 11 = .ok (.invokevirtual 74, 3) := by decide +kernel
theorem dX5_stand_14 : decode cX5_stand 14 = .ok (.ireturn, 1) := by decide +kernel
theorem dX5_stand_15 : decode cX5_stand 15 = .ok (.iconst 0, 1) := by decide +kernel
theorem dX5_stand_16 : decode cX5_stand 16 = .ok (.istore_n 2, 1) := by decide +kernel
theorem dX5_stand_17 : decode cX5_stand 17 = .ok (.ldc 143, 2) := by decide +kernel
theorem dX5_stand_19 : decode cX5_stand 19 = .ok (.istore_n 3, 1) := by decide +kernel
theorem dX5_stand_20 : decode cX5_stand 20 = .ok (.iconst 0, 1) := by decide +kernel
theorem dX5_stand_21 : decode cX5_stand 21 = .ok (.istore 4, 2) := by decide +kernel
theorem dX5_stand_23 : decode cX5_stand 23 = .ok (.iload 4, 2) := by decide +kernel
theorem dX5_stand_25 : decode cX5_stand 25 = .ok (.aload_n 0, 1) := by decide +kernel
theorem dX5_stand_26 : decode cX5_stand 26 = .ok (.getfield 7, 3) := by decide +kernel
theorem dX5_stand_29 : decode cX5_stand 29 = .ok (.iconst 0, 1) := by decide +kernel
theorem dX5_stand_30 : decode cX5_stand 30 = .ok (.iaload, 1) := by decide +kernel
theorem dX5_stand_31 : decode cX5_stand 31 = .ok (.if_icmp .ge 57, 3) := by decide +kernel
theorem dX5_stand_34 : decode cX5_stand 34 = .ok (.aload_n 0, 1) := by decide +kernel
theorem dX5_stand_35 : decode cX5_stand 35 = .ok (.iload_n 1, 1) := by decide +kernel
theorem dX5_stand_36 : decode cX5_stand 36 = .ok (.iload 4, 2) := by decide +kernel
theorem dX5_stand_38 : decode cX5_stand 38 = .ok (.invokevirtual 98, 3) := by decide +kernel
theorem dX5_stand_41 : decode cX5_stand 41 = .ok (.aload_n 0, 1) := by decide +kernel
theorem dX5_stand_42 : decode cX5_stand 42 = .ok (.iload 4, 2) := by decide +kernel
theorem dX5_stand_44 : decode cX5_stand 44 = .ok (.invokevirtual 123, 3) := by decide +kernel
theorem dX5_stand_47 : decode cX5_stand 47 = .ok (.istore 5, 2) := by decide +kernel
theorem dX5_stand_49 : decode cX5_stand 49 = .ok (.aload_n 0, 1) := by decide +kernel
theorem dX5_stand_50 : decode cX5_stand 50 = .ok (.iload 4, 2) := by decide +kernel
theorem dX5_stand_52 : decode cX5_stand 52 = .ok (.iload_n 1, 1) := by decide +kernel
theorem dX5_stand_53 : decode cX5_stand 53 = .ok (.invokevirtual 98, 3) := by decide +kernel
theorem dX5_stand_56 : decode cX5_stand 56 = .ok (.iload 5, 2) := by decide +kernel
theorem dX5_stand_58 : decode cX5_stand 58 = .ok (.iload_n 3, 1) := by decide +kernel
theorem dX5_stand_59 : decode cX5_stand 59 = .ok (.if_icmp .le 8, 3) := by decide +kernel
theorem dX5_stand_62 : decode cX5_stand 62 = .ok (.iload 4, 2) := by decide +kernel
theorem dX5_stand_64 : decode cX5_stand 64 = .ok (.goto 4, 3) := by decide +kernel
theorem dX5_stand_67 : decode cX5_stand 67 = .ok (.iload_n 2, 1) := by decide +kernel
theorem dX5_stand_68 : decode cX5_stand 68 = .ok (.istore_n 2, 1) := by decide +kernel
theorem dX5_stand_69 : decode cX5_stand 69 = .ok (.iload 5, 2) := by decide +kernel
theorem dX5_stand_71 : decode cX5_stand 71 = .ok (.iload_n 3, 1) := by decide +kernel
theorem dX5_stand_72 : decode cX5_stand 72 = .ok (.if_icmp .le 8, 3) := by decide +kernel
theorem dX5_stand_75 : decode cX5_stand 75 = .ok (.iload 5, 2) := by decide +kernel
theorem dX5_stand_77 : decode cX5_stand 77 = .ok (.goto 4, 3) := by decide +kernel
theorem dX5_stand_80 : decode cX5_stand 80 = .ok (.iload_n 3, 1) := by decide +kernel
theorem dX5_stand_81 : decode cX5_stand 81 = .ok (.istore_n 3, 1) := by decide +kernel
theorem dX5_stand_82 : decode cX5_stand 82 = .ok (.iinc 4 1, 3) := by decide +kernel
theorem dX5_stand_85 : decode cX5_stand 85 = .ok (.goto (-62), 3) := by decide +kernel
theorem dX5_stand_88 : decode cX5_stand 88 = .ok (.iload_n 2, 1) := by decide +kernel
theorem dX5_stand_89 : decode cX5_stand 89 = .ok (.ireturn, 1) := by decide +kernel
theorem dX5_kind_0 : decode cX5_kind 0 = .ok (.aload_n 0, 1) := by decide +kernel
theorem dX5_kind_1 : decode cX5_kind 1 = .ok (.iload_n 1, 1) := by decide +kernel
theorem dX5_kind_2 : decode cX5_kind 2 = .ok (.invokevirtual 83, 3) := by decide +kernel
theorem dX5_kind_5 : decode cX5_kind 5 = .ok (.ifCond .ne 10, 3) := by decide +kernel
theorem dX5_kind_8 : decode cX5_kind 8 = .ok (.aload_n 0, 1) := by decide +kernel
theorem dX5_kind_9 : decode cX5_kind 9 = .ok (.ldc 47, 2) := by decide +kernel
theorem dX5_kind_11 : decode cX5_kind 11 = .ok (.invokevirtual 74, 3) := by decide +kernel
theorem dX5_kind_14 : decode cX5_kind 14 = .ok (.ireturn, 1) := by decide +kernel
theorem dX5_kind_15 : decode cX5_kind 15 = .ok (.aload_n 0, 1) := by decide +kernel
theorem dX5_kind_16 : decode cX5_kind 16 = .ok (.iload_n 1, 1) := by decide +kernel
theorem dX5_kind_17 : decode cX5_kind 17 = .ok (.iconst 0, 1) := by decide +kernel
theorem dX5_kind_18 : decode cX5_kind 18 = .ok (.invokevirtual 52, 3) := by decide +kernel
theorem dX5_kind_21 : decode cX5_kind 21 = .ok (.istore_n 2, 1) := by decide +kernel
theorem dX5_kind_22 : decode cX5_kind 22 = .ok (.iconst 0, 1) := by decide +kernel
theorem dX5_kind_23 : decode cX5_kind 23 = .ok (.istore_n 3, 1) := by decide +kernel
theorem dX5_kind_24 : decode cX5_kind 24 = .ok (.ldc 143, 2) := by decide +kernel
theorem dX5_kind_26 : decode cX5_kind 26 = .ok (.istore 4, 2) := by decide +kernel
theorem dX5_kind_28 : decode cX5_kind 28 = .ok (.iconst 0, 1) := by decide +kernel
theorem dX5_kind_29 : decode cX5_kind 29 = .ok (.istore 5, 2) := by decide +kernel
theorem dX5_kind_31 : decode cX5_kind 31 = .ok (.iload 5, 2) := by decide +kernel
theorem dX5_kind_33 : decode cX5_kind 33 = .ok (.iconst 5, 1) := by decide +kernel
theorem dX5_kind_34 : decode cX5_kind 34 = .ok (.if_icmp .gt 54, 3) := by decide +kernel
theorem dX5_kind_37 : decode cX5_kind 37 = .ok (.aload_n 0, 1) := by decide +kernel
theorem dX5_kind_38 : decode cX5_kind 38 = .ok (.iload_n 1, 1) := by decide +kernel
theorem dX5_kind_39 : decode cX5_kind 39 = .ok (.iconst 0, 1) := by decide +kernel
theorem dX5_kind_40 : decode cX5_kind 40 = .ok (.iload 5, 2) := by decide +kernel
theorem dX5_kind_42 : decode cX5_kind 42 = .ok (.invokevirtual 66, 3) := by decide +kernel
theorem dX5_kind_45 : decode cX5_kind 45 = .ok (.aload_n 0, 1) := by decide +kernel
theorem dX5_kind_46 : decode cX5_kind 46 = .ok (.iload_n 1, 1) := by decide +kernel
theorem dX5_kind_47 : decode cX5_kind 47 = .ok (.invokevirtual 123, 3) := by decide +kernel
theorem dX5_kind_50 : decode cX5_kind 50 = .ok (.istore 6, 2) := by decide +kernel
theorem dX5_kind_52 : decode cX5_kind 52 = .ok (.iload 6, 2) := by decide +kernel
theorem dX5_kind_54 : decode cX5_kind 54 = .ok (.iload 4, 2) := by decide +kernel
theorem dX5_kind_56 : decode cX5_kind 56 = .ok (.if_icmp .le 8, 3) := by decide +kernel
theorem dX5_kind_59 : decode cX5_kind 59 = .ok (.iload 5, 2) := by decide +kernel
theorem dX5_kind_61 : decode cX5_kind 61 = .ok (.goto 4, 3) := by decide +kernel
theorem dX5_kind_64 : decode cX5_kind 64 = .ok (.iload_n 3, 1) := by decide +kernel
theorem dX5_kind_65 : decode cX5_kind 65 = .ok (.istore_n 3, 1) := by decide +kernel
theorem dX5_kind_66 : decode cX5_kind 66 = .ok (.iload 6, 2) := by decide +kernel
theorem dX5_kind_68 : decode cX5_kind 68 = .ok (.iload 4, 2) := by decide +kernel
theorem dX5_kind_70 : decode cX5_kind 70 = .ok (.if_icmp .le 8, 3) := by decide +kernel
theorem dX5_kind_73 : decode cX5_kind 73 = .ok (.iload 6, 2) := by decide +kernel
theorem dX5_kind_75 : decode cX5_kind 75 = .ok (.goto 5, 3) := by decide +kernel
theorem dX5_kind_78 : decode cX5_kind 78 = .ok (.iload 4, 2) := by decide +kernel
theorem dX5_kind_80 : decode cX5_kind 80 = .ok (.istore 4, 2) := by decide +kernel
theorem dX5_kind_82 : decode cX5_kind 82 = .ok (.iinc 5 1, 3) := by decide +kernel
theorem dX5_kind_85 : decode cX5_kind 85 = .ok (.goto (-54), 3) := by decide +kernel
theorem dX5_kind_88 : decode cX5_kind 88 = .ok (.aload_n 0, 1) := by decide +kernel
theorem dX5_kind_89 : decode cX5_kind 89 = .ok (.iload_n 1, 1) := by decide +kernel
theorem dX5_kind_90 : decode cX5_kind 90 = .ok (.iconst 0, 1) := by decide +kernel
theorem dX5_kind_91 : decode cX5_kind 91 = .ok (.iload_n 2, 1) := by decide +kernel
theorem dX5_kind_92 : decode cX5_kind 92 = .ok (.invokevirtual 66, 3) := by decide +kernel
theorem dX5_kind_95 : decode cX5_kind 95 = .ok (.iload_n 3, 1) := by decide +kernel
theorem dX5_kind_96 : decode cX5_kind 96 = .ok (.ireturn, 1) := by decide +kernel
theorem dX5_allWith_0 : decode cX5_allWith 0 = .ok (.aload_n 0, 1) := by decide +kernel
theorem dX5_allWith_1 : decode cX5_allWith 1 = .ok (.getfield 7, 3) := by decide +kernel
theorem dX5_allWith_4 : decode cX5_allWith 4 = .ok (.iconst 3, 1) := by decide +kernel
theorem dX5_allWith_5 : decode cX5_allWith 5 = .ok (.iaload, 1) := by decide +kernel
theorem dX5_allWith_6 : decode cX5_allWith 6 = .ok (.istore_n 3, 1) := by decide +kernel
theorem dX5_allWith_7 : decode cX5_allWith 7 = .ok (.aload_n 0, 1) := by decide +kernel
theorem dX5_allWith_8 : decode cX5_allWith 8 = .ok (.getfield 7, 3) := by decide +kernel
theorem dX5_allWith_11 : decode cX5_allWith 11 = .ok (.iconst 4, 1) := by decide +kernel
theorem dX5_allWith_12 : decode cX5_allWith 12 = .ok (.iaload, 1) := by decide +kernel
theorem dX5_allWith_13 : decode cX5_allWith 13 = .ok (.istore 4, 2) := by decide +kernel
theorem dX5_allWith_15 : decode cX5_allWith 15 = .ok (.aload_n 0, 1) := by decide +kernel
theorem dX5_allWith_16 : decode cX5_allWith 16 = .ok (.getfield 7, 3) := by decide +kernel
theorem dX5_allWith_19 : decode cX5_allWith 19 = .ok (.iconst 3, 1) := by decide +kernel
theorem dX5_allWith_20 : decode cX5_allWith 20 = .ok (.iload_n 1, 1) := by decide +kernel
theorem dX5_allWith_21 : decode cX5_allWith 21 = .ok (.iastore, 1) := by decide +kernel
theorem dX5_allWith_22 : decode cX5_allWith 22 = .ok (.aload_n 0, 1) := by decide +kernel
theorem dX5_allWith_23 : decode cX5_allWith 23 = .ok (.getfield 7, 3) := by decide +kernel
theorem dX5_allWith_26 : decode cX5_allWith 26 = .ok (.iconst 4, 1) := by decide +kernel
theorem dX5_allWith_27 : decode cX5_allWith 27 = .ok (.iload_n 2, 1) := by decide +kernel
theorem dX5_allWith_28 : decode cX5_allWith 28 = .ok (.iastore, 1) := by decide +kernel
theorem dX5_allWith_29 : decode cX5_allWith 29 = .ok (.aload_n 0, 1) := by decide +kernel
theorem dX5_allWith_30 : decode cX5_allWith 30 = .ok (.invokevirtual 126, 3) := by decide +kernel
theorem dX5_allWith_33 : decode cX5_allWith 33 = .ok (.istore 5, 2) := by decide +kernel
theorem dX5_allWith_35 : decode cX5_allWith 35 = .ok (.aload_n 0, 1) := by decide +kernel
theorem dX5_allWith_36 : decode cX5_allWith 36 = .ok (.getfield 7, 3) := by decide +kernel
theorem dX5_allWith_39 : decode cX5_allWith 39 = .ok (.iconst 3, 1) := by decide +kernel
theorem dX5_allWith_40 : decode cX5_allWith 40 = .ok (.iload_n 3, 1) := by decide +kernel
theorem dX5_allWith_41 : decode cX5_allWith 41 = .ok (.iastore, 1) := by decide +kernel
theorem dX5_allWith_42 : decode cX5_allWith 42 = .ok (.aload_n 0, 1) := by decide +kernel
theorem dX5_allWith_43 : decode cX5_allWith 43 = .ok (.getfield 7, 3) := by decide +kernel
theorem dX5_allWith_46 : decode cX5_allWith 46 = .ok (.iconst 4, 1) := by decide +kernel
theorem dX5_allWith_47 : decode cX5_allWith 47 = .ok (.iload 4, 2) := by decide +kernel
theorem dX5_allWith_49 : decode cX5_allWith 49 = .ok (.iastore, 1) := by decide +kernel
theorem dX5_allWith_50 : decode cX5_allWith 50 = .ok (.iload 5, 2) := by decide +kernel
theorem dX5_allWith_52 : decode cX5_allWith 52 = .ok (.ireturn, 1) := by decide +kernel
theorem dX5_lie_0 : decode cX5_lie 0 = .ok (.bipush (-20), 2) := by decide +kernel
theorem dX5_lie_2 : decode cX5_lie 2 = .ok (.istore_n 1, 1) := by decide +kernel
theorem dX5_lie_3 : decode cX5_lie 3 = .ok (.aload_n 0, 1) := by decide +kernel
theorem dX5_lie_4 : decode cX5_lie 4 = .ok (.iconst 1, 1) := by decide +kernel
theorem dX5_lie_5 : decode cX5_lie 5 = .ok (.bipush (-20), 2) := by decide +kernel
theorem dX5_lie_7 : decode cX5_lie 7 = .ok (.invokevirtual 144, 3) := by decide +kernel
theorem dX5_lie_10 : decode cX5_lie 10 = .ok (.istore_n 2, 1) := by decide +kernel
theorem dX5_lie_11 : decode cX5_lie 11 = .ok (.bipush (-19), 2) := by decide +kernel
theorem dX5_lie_13 : decode cX5_lie 13 = .ok (.istore_n 3, 1) := by decide +kernel
theorem dX5_lie_14 : decode cX5_lie 14 = .ok (.iload_n 3, 1) := by decide +kernel
theorem dX5_lie_15 : decode cX5_lie 15 = .ok (.bipush 20, 2) := by decide +kernel
theorem dX5_lie_17 : decode cX5_lie 17 = .ok (.if_icmp .gt 42, 3) := by decide +kernel
theorem dX5_lie_20 : decode cX5_lie 20 = .ok (.aload_n 0, 1) := by decide +kernel
theorem dX5_lie_21 : decode cX5_lie 21 = .ok (.iconst 1, 1) := by decide +kernel
theorem dX5_lie_22 : decode cX5_lie 22 = .ok (.iload_n 3, 1) := by decide +kernel
theorem dX5_lie_23 : decode cX5_lie 23 = .ok (.invokevirtual 144, 3) := by decide +kernel
theorem dX5_lie_26 : decode cX5_lie 26 = .ok (.istore 4, 2) := by decide +kernel
theorem dX5_lie_28 : decode cX5_lie 28 = .ok (.iload 4, 2) := by decide +kernel
theorem dX5_lie_30 : decode cX5_lie 30 = .ok (.iload_n 2, 1) := by decide +kernel
theorem dX5_lie_31 : decode cX5_lie 31 = .ok (.if_icmp .le 7, 3) := by decide +kernel
theorem dX5_lie_34 : decode cX5_lie 34 = .ok (.iload_n 3, 1) := by decide +kernel
theorem dX5_lie_35 : decode cX5_lie 35 = .ok (.goto 4, 3) := by decide +kernel
theorem dX5_lie_38 : decode cX5_lie 38 = .ok (.iload_n 1, 1) := by decide +kernel
theorem dX5_lie_39 : decode cX5_lie 39 = .ok (.istore_n 1, 1) := by decide +kernel
theorem dX5_lie_40 : decode cX5_lie 40 = .ok (.iload 4, 2) := by decide +kernel
theorem dX5_lie_42 : decode cX5_lie 42 = .ok (.iload_n 2, 1) := by decide +kernel
theorem dX5_lie_43 : decode cX5_lie 43 = .ok (.if_icmp .le 8, 3) := by decide +kernel
theorem dX5_lie_46 : decode cX5_lie 46 = .ok (.iload 4, 2) := by decide +kernel
theorem dX5_lie_48 : decode cX5_lie 48 = .ok (.goto 4, 3) := by decide +kernel
theorem dX5_lie_51 : decode cX5_lie 51 = .ok (.iload_n 2, 1) := by decide +kernel
theorem dX5_lie_52 : decode cX5_lie 52 = .ok (.istore_n 2, 1) := by decide +kernel
theorem dX5_lie_53 : decode cX5_lie 53 = .ok (.iinc 3 1, 3) := by decide +kernel
theorem dX5_lie_56 : decode cX5_lie 56 = .ok (.goto (-42), 3) := by decide +kernel
theorem dX5_lie_59 : decode cX5_lie 59 = .ok (.iload_n 1, 1) := by decide +kernel
theorem dX5_lie_60 : decode cX5_lie 60 = .ok (.ireturn, 1) := by decide +kernel
theorem dX5_word_0 : decode cX5_word 0 = .ok (.aload_n 0, 1) := by decide +kernel
theorem dX5_word_1 : decode cX5_word 1 = .ok (.iconst 1, 1) := by decide +kernel
theorem dX5_word_2 : decode cX5_word 2 = .ok (.iconst 0, 1) := by decide +kernel
theorem dX5_word_3 : decode cX5_word 3 = .ok (.invokevirtual 144, 3) := by decide +kernel
theorem dX5_word_6 : decode cX5_word 6 = .ok (.istore_n 1, 1) := by decide +kernel
theorem dX5_word_7 : decode cX5_word 7 = .ok (.iload_n 1, 1) := by decide +kernel
theorem dX5_word_8 : decode cX5_word 8 = .ok (.aload_n 0, 1) := by decide +kernel
theorem dX5_word_9 : decode cX5_word 9 = .ok (.iconst 0, 1) := by decide +kernel
theorem dX5_word_10 : decode cX5_word 10 = .ok (.iconst 0, 1) := by decide +kernel
theorem dX5_word_11 : decode cX5_word 11 = .ok (.invokevirtual 144, 3) := by decide +kernel
theorem dX5_word_14 : decode cX5_word 14 = .ok (.isub, 1) := by decide +kernel
theorem dX5_word_15 : decode cX5_word 15 = .ok (.ireturn, 1) := by decide +kernel
theorem dX5_forEachCoin_0 : decode cX5_forEachCoin 0 = .ok (.aload_n 0, 1) := by decide +kernel
