theorem dX0_init_0 : decode cX0_init 0 = .ok (.aload_n 0, 1) := by decide +kernel
theorem dX0_init_1 : decode cX0_init 1 = .ok (.invokespecial 1, 3) := by decide +kernel
theorem dX0_init_4 : decode cX0_init 4 = .ok (.return_, 1) := by decide +kernel
theorem dX0_arrive_0 : decode cX0_arrive 0 = .ok (.aload_n 0, 1) := by decide +kernel
theorem dX0_arrive_1 : decode cX0_arrive 1 = .ok (.iload_n 1, 1) := by decide +kernel
theorem dX0_arrive_2 : decode cX0_arrive 2 = .ok (.putfield 7, 3) := by decide +kernel
theorem dX0_arrive_5 : decode cX0_arrive 5 = .ok (.aload_n 0, 1) := by decide +kernel
theorem dX0_arrive_6 : decode cX0_arrive 6 = .ok (.iconst 5, 1) := by decide +kernel
theorem dX0_arrive_7 : decode cX0_arrive 7 = .ok (.putfield 13, 3) := by decide +kernel
theorem dX0_arrive_10 : decode cX0_arrive 10 = .ok (.aload_n 0, 1) := by decide +kernel
theorem dX0_arrive_11 : decode cX0_arrive 11 = .ok (.iconst 3, 1) := by decide +kernel
theorem dX0_arrive_12 : decode cX0_arrive 12 = .ok (.putfield 16, 3) := by decide +kernel
theorem dX0_arrive_15 : decode cX0_arrive 15 = .ok (.aload_n 0, 1) := by decide +kernel
theorem dX0_arrive_16 : decode cX0_arrive 16 = .ok (.iconst 0, 1) := by decide +kernel
theorem dX0_arrive_17 : decode cX0_arrive 17 = .ok (.putfield 19, 3) := by decide +kernel
theorem dX0_arrive_20 : decode cX0_arrive 20 = .ok (.aload_n 0, 1) := by decide +kernel
theorem dX0_arrive_21 : decode cX0_arrive 21 = .ok (.iconst 0, 1) := by decide +kernel
theorem dX0_arrive_22 : decode cX0_arrive 22 = .ok (.putfield 22, 3) := by decide +kernel
theorem dX0_arrive_25 : decode cX0_arrive 25 = .ok (.aload_n 0, 1) := by decide +kernel
theorem dX0_arrive_26 : decode cX0_arrive 26 = .ok (.iconst 0, 1) := by decide +kernel
theorem dX0_arrive_27 : decode cX0_arrive 27 = .ok (.putfield 25, 3) := by decide +kernel
theorem dX0_arrive_30 : decode cX0_arrive 30 = .ok (.aload_n 0, 1) := by decide +kernel
theorem dX0_arrive_31 : decode cX0_arrive 31 = .ok (.iconst 0, 1) := by decide +kernel
theorem dX0_arrive_32 : decode cX0_arrive 32 = .ok (.putfield 28, 3) := by decide +kernel
theorem dX0_arrive_35 : decode cX0_arrive 35 = .ok (.return_, 1) := by decide +kernel
theorem dX0_resemble_0 : decode cX0_resemble 0 = .ok (.aload_n 0, 1) := by decide +kernel
theorem dX0_resemble_1 : decode cX0_resemble 1 = .ok (.aload_n 1, 1) := by decide +kernel
theorem dX0_resemble_2 : decode cX0_resemble 2 = .ok (.getfield 7, 3) := by decide +kernel
theorem dX0_resemble_5 : decode cX0_resemble 5 = .ok (.putfield 7, 3) := by decide +kernel
theorem dX0_resemble_8 : decode cX0_resemble 8 = .ok (.aload_n 0, 1) := by decide +kernel
theorem dX0_resemble_9 : decode cX0_resemble 9 = .ok (.aload_n 1, 1) := by decide +kernel
theorem dX0_resemble_10 : decode cX0_resemble 10 = .ok (.getfield 13, 3) := by decide +kernel
theorem dX0_resemble_13 : decode cX0_resemble 13 = .ok (.putfield 13, 3) := by decide +kernel
theorem dX0_resemble_16 : decode cX0_resemble 16 = .ok (.aload_n 0, 1) := by decide +kernel
theorem dX0_resemble_17 : decode cX0_resemble 17 = .ok (.aload_n 1, 1) := by decide +kernel
theorem dX0_resemble_18 : decode cX0_resemble 18 = .ok (.getfield 16, 3) := by decide +kernel
theorem dX0_resemble_21 : decode cX0_resemble 21 = .ok (.putfield 16, 3) := by decide +kernel
theorem dX0_resemble_24 : decode cX0_resemble 24 = .ok (.aload_n 0, 1) := by decide +kernel
theorem dX0_resemble_25 : decode cX0_resemble 25 = .ok (.aload_n 1, 1) := by decide +kernel
theorem dX0_resemble_26 : decode cX0_resemble 26 = .ok (.getfield 19, 3) := by decide +kernel
theorem dX0_resemble_29 : decode cX0_resemble 29 = .ok (.putfield 19, 3) := by decide +kernel
theorem dX0_resemble_32 : decode cX0_resemble 32 = .ok (.aload_n 0, 1) := by decide +kernel
theorem dX0_resemble_33 : decode cX0_resemble 33 = .ok (.aload_n 1, 1) := by decide +kernel
theorem dX0_resemble_34 : decode cX0_resemble 34 = .ok (.getfield 22, 3) := by decide +kernel
theorem dX0_resemble_37 : decode cX0_resemble 37 = .ok (.putfield 22, 3) := by decide +kernel
theorem dX0_resemble_40 : decode cX0_resemble 40 = .ok (.aload_n 0, 1) := by decide +kernel
theorem dX0_resemble_41 : decode cX0_resemble 41 = .ok (.aload_n 1, 1) := by decide +kernel
theorem dX0_resemble_42 : decode cX0_resemble 42 = .ok (.getfield 25, 3) := by decide +kernel
theorem dX0_resemble_45 : decode cX0_resemble 45 = .ok (.putfield 25, 3) := by decide +kernel
theorem dX0_resemble_48 : decode cX0_resemble 48 = .ok (.aload_n 0, 1) := by decide +kernel
theorem dX0_resemble_49 : decode cX0_resemble 49 = .ok (.aload_n 1, 1) := by decide +kernel
theorem dX0_resemble_50 : decode cX0_resemble 50 = .ok (.getfield 28, 3) := by decide +kernel
theorem dX0_resemble_53 : decode cX0_resemble 53 = .ok (.putfield 28, 3) := by decide +kernel
theorem dX0_resemble_56 : decode cX0_resemble 56 = .ok (.return_, 1) := by decide +kernel
theorem dX0_gainBy_0 : decode cX0_gainBy 0 = .ok (.iload_n 1, 1) := by decide +kernel
theorem dX0_gainBy_1 : decode cX0_gainBy 1 = .ok (.ifCond .eq 10, 3) := by decide +kernel
theorem dX0_gainBy_4 : decode cX0_gainBy 4 = .ok (.aload_n 0, 1) := by decide +kernel
theorem dX0_gainBy_5 : decode cX0_gainBy 5 = .ok (.getfield 16, 3) := by decide +kernel
theorem dX0_gainBy_8 : decode cX0_gainBy 8 = .ok (.goto 4, 3) := by decide +kernel
theorem dX0_gainBy_11 : decode cX0_gainBy 11 = .ok (.iconst 0, 1) := by decide +kernel
theorem dX0_gainBy_12 : decode cX0_gainBy 12 = .ok (.iload_n 2, 1) := by decide +kernel
theorem dX0_gainBy_13 : decode cX0_gainBy 13 = .ok (.isub, 1) := by decide +kernel
theorem dX0_gainBy_14 : decode cX0_gainBy 14 = .ok (.ireturn, 1) := by decide +kernel
theorem dX1_init_0 : decode cX1_init 0 = .ok (.aload_n 0, 1) := by decide +kernel
theorem dX1_init_1 : decode cX1_init 1 = .ok (.invokespecial 3, 3) := by decide +kernel
theorem dX1_init_4 : decode cX1_init 4 = .ok (.aload_n 0, 1) := by decide +kernel
theorem dX1_init_5 : decode cX1_init 5 = .ok (.iconst 0, 1) := by decide +kernel
theorem dX1_init_6 : decode cX1_init 6 = .ok (.putfield 9, 3) := by decide +kernel
theorem dX1_init_9 : decode cX1_init 9 = .ok (.aload_n 0, 1) := by decide +kernel
theorem dX1_init_10 : decode cX1_init 10 = .ok (.iconst 0, 1) := by decide +kernel
theorem dX1_init_11 : decode cX1_init 11 = .ok (.putfield 15, 3) := by decide +kernel
theorem dX1_init_14 : decode cX1_init 14 = .ok (.aload_n 0, 1) := by decide +kernel
theorem dX1_init_15 : decode cX1_init 15 = .ok (.bipush 40, 2) := by decide +kernel
theorem dX1_init_17 : decode cX1_init 17 = .ok (.newarray .long, 2) := by decide +kernel
theorem dX1_init_19 : decode cX1_init 19 = .ok (.putfield 18, 3) := by decide +kernel
theorem dX1_init_22 : decode cX1_init 22 = .ok (.return_, 1) := by decide +kernel
theorem dX1_isMissing_0 : decode cX1_isMissing 0 = .ok (.aload_n 0, 1) := by decide +kernel
theorem dX1_isMissing_1 : decode cX1_isMissing 1 = .ok (.getfield 9, 3) := by decide +kernel
theorem dX1_isMissing_4 : decode cX1_isMissing 4 = .ok (.ifCond .ne 7, 3) := by decide +kernel
theorem dX1_isMissing_7 : decode cX1_isMissing 7 = .ok (.iconst 1, 1) := by decide +kernel
theorem dX1_isMissing_8 : decode cX1_isMissing 8 = .ok (.goto 4, 3) := by decide +kernel
theorem dX1_isMissing_11 : decode cX1_isMissing 11 = .ok (.iconst 0, 1) := by decide +kernel
theorem dX1_isMissing_12 : decode cX1_isMissing 12 = .ok (.ireturn, 1) := by decide +kernel
theorem dX1_begin_0 : decode cX1_begin 0 = .ok (.aload_n 0, 1) := by decide +kernel
theorem dX1_begin_1 : decode cX1_begin 1 = .ok (.iload_n 1, 1) := by decide +kernel
theorem dX1_begin_2 : decode cX1_begin 2 = .ok (.putfield 9, 3) := by decide +kernel
theorem dX1_begin_5 : decode cX1_begin 5 = .ok (.aload_n 0, 1) := by decide +kernel
theorem dX1_begin_6 : decode cX1_begin 6 = .ok (.iload_n 2, 1) := by decide +kernel
theorem dX1_begin_7 : decode cX1_begin 7 = .ok (.putfield 15, 3) := by decide +kernel
theorem dX1_begin_10 : decode cX1_begin 10 = .ok (.iconst 0, 1) := by decide +kernel
theorem dX1_begin_11 : decode cX1_begin 11 = .ok (.istore_n 3, 1) := by decide +kernel
theorem dX1_begin_12 : decode cX1_begin 12 = .ok (.iload_n 3, 1) := by decide +kernel
theorem dX1_begin_13 : decode cX1_begin 13 = .ok (.bipush 40, 2) := by decide +kernel
theorem dX1_begin_15 : decode cX1_begin 15 = .ok (.if_icmp .ge 16, 3) := by decide +kernel
theorem dX1_begin_18 : decode cX1_begin 18 = .ok (.aload_n 0, 1) := by decide +kernel
theorem dX1_begin_19 : decode cX1_begin 19 = .ok (.getfield 18, 3) := by decide +kernel
theorem dX1_begin_22 : decode cX1_begin 22 = .ok (.iload_n 3, 1) := by decide +kernel
theorem dX1_begin_23 : decode cX1_begin 23 = .ok (.lconst 0, 1) := by decide +kernel
theorem dX1_begin_24 : decode cX1_begin 24 = .ok (.lastore, 1) := by decide +kernel
theorem dX1_begin_25 : decode cX1_begin 25 = .ok (.iinc 3 1, 3) := by decide +kernel
theorem dX1_begin_28 : decode cX1_begin 28 = .ok (.goto (-16), 3) := by decide +kernel
theorem dX1_begin_31 : decode cX1_begin 31 = .ok (.return_, 1) := by decide +kernel
theorem dX1_put_0 : decode cX1_put 0 = .ok (.aload_n 0, 1) := by decide +kernel
theorem dX1_put_1 : decode cX1_put 1 = .ok (.getfield 18, 3) := by decide +kernel
theorem dX1_put_4 : decode cX1_put 4 = .ok (.iload_n 1, 1) := by decide +kernel
theorem dX1_put_5 : decode cX1_put 5 = .ok (.aload_n 0, 1) := by decide +kernel
theorem dX1_put_6 : decode cX1_put 6 = .ok (.lload_n 2, 1) := by decide +kernel
theorem dX1_put_7 : decode cX1_put 7 = .ok (.invokevirtual 22, 3) := by decide +kernel
theorem dX1_put_10 : decode cX1_put 10 = .ok (.lastore, 1) := by decide +kernel
theorem dX1_put_11 : decode cX1_put 11 = .ok (.return_, 1) := by decide +kernel
theorem dX1_cut_0 : decode cX1_cut 0 = .ok (.aload_n 0, 1) := by decide +kernel
theorem dX1_cut_1 : decode cX1_cut 1 = .ok (.getfield 9, 3) := by decide +kernel
theorem dX1_cut_4 : decode cX1_cut 4 = .ok (.lookupswitch 38 #[(8, 28), (16, 33)], 28) := by decide +kernel
theorem dX1_cut_32 : decode cX1_cut 32 = .ok (.lload_n 1, 1) := by decide +kernel
theorem dX1_cut_33 : decode cX1_cut 33 = .ok (.l2i, 1) := by decide +kernel
theorem dX1_cut_34 : decode cX1_cut 34 = .ok (.i2b, 1) := by decide +kernel
theorem dX1_cut_35 : decode cX1_cut 35 = .ok (.i2l, 1) := by decide +kernel
theorem dX1_cut_36 : decode cX1_cut 36 = .ok (.lreturn, 1) := by decide +kernel
theorem dX1_cut_37 : decode cX1_cut 37 = .ok (.lload_n 1, 1) := by decide +kernel
theorem dX1_cut_38 : decode cX1_cut 38 = .ok (.l2i, 1) := by decide +kernel
theorem dX1_cut_39 : decode cX1_cut 39 = .ok (.i2s, 1) := by decide +kernel
theorem dX1_cut_40 : decode cX1_cut 40 = .ok (.i2l, 1) := by decide +kernel
theorem dX1_cut_41 : decode cX1_cut 41 = .ok (.lreturn, 1) := by decide +kernel
theorem dX1_cut_42 : decode cX1_cut 42 = .ok (.lload_n 1, 1) := by decide +kernel
theorem dX1_cut_43 : decode cX1_cut 43 = .ok (.lreturn, 1) := by decide +kernel
theorem dX1_hasPart_0 : decode cX1_hasPart 0 = .ok (.iload_n 1, 1) := by decide +kernel
theorem dX1_hasPart_1 : decode cX1_hasPart 1 = .ok (.ifCond .lt 29, 3) := by decide +kernel
theorem dX1_hasPart_4 : decode cX1_hasPart 4 = .ok (.iload_n 2, 1) := by decide +kernel
theorem dX1_hasPart_5 : decode cX1_hasPart 5 = .ok (.ifCond .lt 25, 3) := by decide +kernel
theorem dX1_hasPart_8 : decode cX1_hasPart 8 = .ok (.iload_n 1, 1) := by decide +kernel
theorem dX1_hasPart_9 : decode cX1_hasPart 9 = .ok (.aload_n 0, 1) := by decide +kernel
theorem dX1_hasPart_10 : decode cX1_hasPart 10 = .ok (.getfield 15, 3) := by decide +kernel
theorem dX1_hasPart_13 : decode cX1_hasPart 13 = .ok (.if_icmp .gt 17, 3) := by decide +kernel
theorem dX1_hasPart_16 : decode cX1_hasPart 16 = .ok (.iload_n 2, 1) := by decide +kernel
theorem dX1_hasPart_17 : decode cX1_hasPart 17 = .ok (.aload_n 0, 1) := by decide +kernel
theorem dX1_hasPart_18 : decode cX1_hasPart 18 = .ok (.getfield 15, 3) := by decide +kernel
theorem dX1_hasPart_21 : decode cX1_hasPart 21 = .ok (.iload_n 1, 1) := by decide +kernel
theorem dX1_hasPart_22 : decode cX1_hasPart 22 = .ok (.isub, 1) := by decide +kernel
theorem dX1_hasPart_23 : decode cX1_hasPart 23 = .ok (.if_icmp .gt 7, 3) := by decide +kernel
theorem dX1_hasPart_26 : decode cX1_hasPart 26 = .ok (.iconst 1, 1) := by decide +kernel
theorem dX1_hasPart_27 : decode cX1_hasPart 27 = .ok (.goto 4, 3) := by decide +kernel
theorem dX1_hasPart_30 : decode cX1_hasPart 30 = .ok (.iconst 0, 1) := by decide +kernel
theorem dX1_hasPart_31 : decode cX1_hasPart 31 = .ok (.ireturn, 1) := by decide +kernel
theorem dX2_init_0 : decode cX2_init 0 = .ok (.aload_n 0, 1) := by decide +kernel
theorem dX2_init_1 : decode cX2_init 1 = .ok (.invokespecial 3, 3) := by decide +kernel
theorem dX2_init_4 : decode cX2_init 4 = .ok (.aload_n 0, 1) := by decide +kernel
theorem dX2_init_5 : decode cX2_init 5 = .ok (.iconst 0, 1) := by decide +kernel
theorem dX2_init_6 : decode cX2_init 6 = .ok (.putfield 9, 3) := by decide +kernel
theorem dX2_init_9 : decode cX2_init 9 = .ok (.aload_n 0, 1) := by decide +kernel
theorem dX2_init_10 : decode cX2_init 10 = .ok (.iconst 0, 1) := by decide +kernel
theorem dX2_init_11 : decode cX2_init 11 = .ok (.putfield 15, 3) := by decide +kernel
theorem dX2_init_14 : decode cX2_init 14 = .ok (.aload_n 0, 1) := by decide +kernel
theorem dX2_init_15 : decode cX2_init 15 = .ok (.iconst 0, 1) := by decide +kernel
theorem dX2_init_16 : decode cX2_init 16 = .ok (.putfield 18, 3) := by decide +kernel
theorem dX2_init_19 : decode cX2_init 19 = .ok (.aload_n 0, 1) := by decide +kernel
theorem dX2_init_20 : decode cX2_init 20 = .ok (.iconst 0, 1) := by decide +kernel
theorem dX2_init_21 : decode cX2_init 21 = .ok (.putfield 22, 3) := by decide +kernel
theorem dX2_init_24 : decode cX2_init 24 = .ok (.aload_n 0, 1) := by decide +kernel
theorem dX2_init_25 : decode cX2_init 25 = .ok (.iconst 0, 1) := by decide +kernel
theorem dX2_init_26 : decode cX2_init 26 = .ok (.putfield 25, 3) := by decide +kernel
theorem dX2_init_29 : decode cX2_init 29 = .ok (.aload_n 0, 1) := by decide +kernel
theorem dX2_init_30 : decode cX2_init 30 = .ok (.iconst 0, 1) := by decide +kernel
theorem dX2_init_31 : decode cX2_init 31 = .ok (.putfield 28, 3) := by decide +kernel
theorem dX2_init_34 : decode cX2_init 34 = .ok (.aload_n 0, 1) := by decide +kernel
theorem dX2_init_35 : decode cX2_init 35 = .ok (.iconst 0, 1) := by decide +kernel
theorem dX2_init_36 : decode cX2_init 36 = .ok (.putfield 31, 3) := by decide +kernel
theorem dX2_init_39 : decode cX2_init 39 = .ok (.aload_n 0, 1) := by decide +kernel
theorem dX2_init_40 : decode cX2_init 40 = .ok (.bipush 10, 2) := by decide +kernel
theorem dX2_init_42 : decode cX2_init 42 = .ok (.anewarray 34, 3) := by decide +kernel
theorem dX2_init_45 : decode cX2_init 45 = .ok (.putfield 36, 3) := by decide +kernel
theorem dX2_init_48 : decode cX2_init 48 = .ok (.iconst 0, 1) := by decide +kernel
theorem dX2_init_49 : decode cX2_init 49 = .ok (.istore_n 1, 1) := by decide +kernel
theorem dX2_init_50 : decode cX2_init 50 = .ok (.iload_n 1, 1) := by decide +kernel
theorem dX2_init_51 : decode cX2_init 51 = .ok (.bipush 10, 2) := by decide +kernel
theorem dX2_init_53 : decode cX2_init 53 = .ok (.if_icmp .ge 22, 3) := by decide +kernel
theorem dX2_init_56 : decode cX2_init 56 = .ok (.aload_n 0, 1) := by decide +kernel
theorem dX2_init_57 : decode cX2_init 57 = .ok (.getfield 36, 3) := by decide +kernel
theorem dX2_init_60 : decode cX2_init 60 = .ok (.iload_n 1, 1) := by decide +kernel
theorem dX2_init_61 : decode cX2_init 61 = .ok (.new 34, 3) := by decide +kernel
theorem dX2_init_64 : decode cX2_init 64 = .ok (.dup, 1) := by decide +kernel
theorem dX2_init_65 : decode cX2_init 65 = .ok (.invokespecial 40, 3) := by decide +kernel
theorem dX2_init_68 : decode cX2_init 68 = .ok (.aastore, 1) := by decide +kernel
theorem dX2_init_69 : decode cX2_init 69 = .ok (.iinc 1 1, 3) := by decide +kernel
theorem dX2_init_72 : decode cX2_init 72 = .ok (.goto (-22), 3) := by decide +kernel
theorem dX2_init_75 : decode cX2_init 75 = .ok (.return_, 1) := by decide +kernel
theorem dX2_become_0 : decode cX2_become 0 = .ok (.aload_n 0, 1) := by decide +kernel
theorem dX2_become_1 : decode cX2_become 1 = .ok (.aload_n 1, 1) := by decide +kernel
theorem dX2_become_2 : decode cX2_become 2 = .ok (.getfield 9, 3) := by decide +kernel
theorem dX2_become_5 : decode cX2_become 5 = .ok (.putfield 9, 3) := by decide +kernel
theorem dX2_become_8 : decode cX2_become 8 = .ok (.aload_n 0, 1) := by decide +kernel
theorem dX2_become_9 : decode cX2_become 9 = .ok (.aload_n 1, 1) := by decide +kernel
theorem dX2_become_10 : decode cX2_become 10 = .ok (.getfield 15, 3) := by decide +kernel
theorem dX2_become_13 : decode cX2_become 13 = .ok (.putfield 15, 3) := by decide +kernel
theorem dX2_become_16 : decode cX2_become 16 = .ok (.aload_n 0, 1) := by decide +kernel
theorem dX2_become_17 : decode cX2_become 17 = .ok (.aload_n 1, 1) := by decide +kernel
theorem dX2_become_18 : decode cX2_become 18 = .ok (.getfield 18, 3) := by decide +kernel
theorem dX2_become_21 : decode cX2_become 21 = .ok (.putfield 18, 3) := by decide +kernel
theorem dX2_become_24 : decode cX2_become 24 = .ok (.aload_n 0, 1) := by decide +kernel
theorem dX2_become_25 : decode cX2_become 25 = .ok (.aload_n 1, 1) := by decide +kernel
theorem dX2_become_26 : decode cX2_become 26 = .ok (.getfield 22, 3) := by decide +kernel
theorem dX2_become_29 : decode cX2_become 29 = .ok (.putfield 22, 3) := by decide +kernel
theorem dX2_become_32 : decode cX2_become 32 = .ok (.aload_n 0, 1) := by decide +kernel
theorem dX2_become_33 : decode cX2_become 33 = .ok (.aload_n 1, 1) := by decide +kernel
theorem dX2_become_34 : decode cX2_become 34 = .ok (.getfield 25, 3) := by decide +kernel
theorem dX2_become_37 : decode cX2_become 37 = .ok (.putfield 25, 3) := by decide +kernel
theorem dX2_become_40 : decode cX2_become 40 = .ok (.aload_n 0, 1) := by decide +kernel
theorem dX2_become_41 : decode cX2_become 41 = .ok (.aload_n 1, 1) := by decide +kernel
theorem dX2_become_42 : decode cX2_become 42 = .ok (.getfield 28, 3) := by decide +kernel
theorem dX2_become_45 : decode cX2_become 45 = .ok (.putfield 28, 3) := by decide +kernel
theorem dX2_become_48 : decode cX2_become 48 = .ok (.aload_n 0, 1) := by decide +kernel
theorem dX2_become_49 : decode cX2_become 49 = .ok (.aload_n 1, 1) := by decide +kernel
theorem dX2_become_50 : decode cX2_become 50 = .ok (.getfield 31, 3) := by decide +kernel
theorem dX2_become_53 : decode cX2_become 53 = .ok (.putfield 31, 3) := by decide +kernel
theorem dX2_become_56 : decode cX2_become 56 = .ok (.iconst 0, 1) := by decide +kernel
theorem dX2_become_57 : decode cX2_become 57 = .ok (.istore_n 2, 1) := by decide +kernel
theorem dX2_become_58 : decode cX2_become 58 = .ok (.iload_n 2, 1) := by decide +kernel
theorem dX2_become_59 : decode cX2_become 59 = .ok (.aload_n 0, 1) := by decide +kernel
theorem dX2_become_60 : decode cX2_become 60 = .ok (.getfield 31, 3) := by decide +kernel
theorem dX2_become_63 : decode cX2_become 63 = .ok (.if_icmp .ge 24, 3) := by decide +kernel
theorem dX2_become_66 : decode cX2_become 66 = .ok (.aload_n 0, 1) := by decide +kernel
theorem dX2_become_67 : decode cX2_become 67 = .ok (.getfield 36, 3) := by decide +kernel
theorem dX2_become_70 : decode cX2_become 70 = .ok (.iload_n 2, 1) := by decide +kernel
theorem dX2_become_71 : decode cX2_become 71 = .ok (.aaload, 1) := by decide +kernel
theorem dX2_become_72 : decode cX2_become 72 = .ok (.aload_n 1, 1) := by decide +kernel
theorem dX2_become_73 : decode cX2_become 73 = .ok (.getfield 36, 3) := by decide +kernel
theorem dX2_become_76 : decode cX2_become 76 = .ok (.iload_n 2, 1) := by decide +kernel
theorem dX2_become_77 : decode cX2_become 77 = .ok (.aaload, 1) := by decide +kernel
theorem dX2_become_78 : decode cX2_become 78 = .ok (.invokevirtual 41, 3) := by decide +kernel
theorem dX2_become_81 : decode cX2_become 81 = .ok (.iinc 2 1, 3) := by decide +kernel
theorem dX2_become_84 : decode cX2_become 84 = .ok (.goto (-26), 3) := by decide +kernel
theorem dX2_become_87 : decode cX2_become 87 = .ok (.return_, 1) := by decide +kernel
theorem dX2_stands_0 : decode cX2_stands 0 = .ok (.iload_n 1, 1) := by decide +kernel
theorem dX2_stands_1 : decode cX2_stands 1 = .ok (.ifCond .lt 15, 3) := by decide +kernel
theorem dX2_stands_4 : decode cX2_stands 4 = .ok (.iload_n 1, 1) := by decide +kernel
theorem dX2_stands_5 : decode cX2_stands 5 = .ok (.aload_n 0, 1) := by decide +kernel
theorem dX2_stands_6 : decode cX2_stands 6 = .ok (.getfield 31, 3) := by decide +kernel
theorem dX2_stands_9 : decode cX2_stands 9 = .ok (.if_icmp .ge 7, 3) := by decide +kernel
theorem dX2_stands_12 : decode cX2_stands 12 = .ok (.iconst 1, 1) := by decide +kernel
theorem dX2_stands_13 : decode cX2_stands 13 = .ok (.goto 4, 3) := by decide +kernel
theorem dX2_stands_16 : decode cX2_stands 16 = .ok (.iconst 0, 1) := by decide +kernel
theorem dX2_stands_17 : decode cX2_stands 17 = .ok (.ireturn, 1) := by decide +kernel
theorem dX2_join_0 : decode cX2_join 0 = .ok (.aload_n 0, 1) := by decide +kernel
theorem dX2_join_1 : decode cX2_join 1 = .ok (.getfield 31, 3) := by decide +kernel
theorem dX2_join_4 : decode cX2_join 4 = .ok (.istore_n 2, 1) := by decide +kernel
theorem dX2_join_5 : decode cX2_join 5 = .ok (.aload_n 0, 1) := by decide +kernel
theorem dX2_join_6 : decode cX2_join 6 = .ok (.getfield 36, 3) := by decide +kernel
theorem dX2_join_9 : decode cX2_join 9 = .ok (.iload_n 2, 1) := by decide +kernel
theorem dX2_join_10 : decode cX2_join 10 = .ok (.aaload, 1) := by decide +kernel
theorem dX2_join_11 : decode cX2_join 11 = .ok (.iload_n 1, 1) := by decide +kernel
theorem dX2_join_12 : decode cX2_join 12 = .ok (.invokevirtual 45, 3) := by decide +kernel
theorem dX2_join_15 : decode cX2_join 15 = .ok (.aload_n 0, 1) := by decide +kernel
theorem dX2_join_16 : decode cX2_join 16 = .ok (.dup, 1) := by decide +kernel
theorem dX2_join_17 : decode cX2_join 17 = .ok (.getfield 31, 3) := by decide +kernel
theorem dX2_join_20 : decode cX2_join 20 = .ok (.iconst 1, 1) := by decide +kernel
theorem dX2_join_21 : decode cX2_join 21 = .ok (.iadd, 1) := by decide +kernel
theorem dX2_join_22 : decode cX2_join 22 = .ok (.putfield 31, 3) := by decide +kernel
theorem dX2_join_25 : decode cX2_join 25 = .ok (.iload_n 2, 1) := by decide +kernel
theorem dX2_join_26 : decode cX2_join 26 = .ok (.ireturn, 1) := by decide +kernel
theorem dX2_walk_0 : decode cX2_walk 0 = .ok (.aload_n 0, 1) := by decide +kernel
theorem dX2_walk_1 : decode cX2_walk 1 = .ok (.getfield 36, 3) := by decide +kernel
theorem dX2_walk_4 : decode cX2_walk 4 = .ok (.iload_n 1, 1) := by decide +kernel
theorem dX2_walk_5 : decode cX2_walk 5 = .ok (.aaload, 1) := by decide +kernel
theorem dX2_walk_6 : decode cX2_walk 6 = .ok (.astore_n 3, 1) := by decide +kernel
theorem dX2_walk_7 : decode cX2_walk 7 = .ok (.iload_n 1, 1) := by decide +kernel
theorem dX2_walk_8 : decode cX2_walk 8 = .ok (.istore 4, 2) := by decide +kernel
theorem dX2_walk_10 : decode cX2_walk 10 = .ok (.iload 4, 2) := by decide +kernel
theorem dX2_walk_12 : decode cX2_walk 12 = .ok (.iload_n 2, 1) := by decide +kernel
theorem dX2_walk_13 : decode cX2_walk 13 = .ok (.if_icmp .ge 25, 3) := by decide +kernel
theorem dX2_walk_16 : decode cX2_walk 16 = .ok (.aload_n 0, 1) := by decide +kernel
theorem dX2_walk_17 : decode cX2_walk 17 = .ok (.getfield 36, 3) := by decide +kernel
theorem dX2_walk_20 : decode cX2_walk 20 = .ok (.iload 4, 2) := by decide +kernel
theorem dX2_walk_22 : decode cX2_walk 22 = .ok (.aload_n 0, 1) := by decide +kernel
theorem dX2_walk_23 : decode cX2_walk 23 = .ok (.getfield 36, 3) := by decide +kernel
theorem dX2_walk_26 : decode cX2_walk 26 = .ok (.iload 4, 2) := by decide +kernel
theorem dX2_walk_28 : decode cX2_walk 28 = .ok (.iconst 1, 1) := by decide +kernel
theorem dX2_walk_29 : decode cX2_walk 29 = .ok (.iadd, 1) := by decide +kernel
theorem dX2_walk_30 : decode cX2_walk 30 = .ok (.aaload, 1) := by decide +kernel
theorem dX2_walk_31 : decode cX2_walk 31 = .ok (.aastore, 1) := by decide +kernel
theorem dX2_walk_32 : decode cX2_walk 32 = .ok (.iinc 4 1, 3) := by decide +kernel
theorem dX2_walk_35 : decode cX2_walk 35 = .ok (.goto (-25), 3) := by decide +kernel
theorem dX2_walk_38 : decode cX2_walk 38 = .ok (.iload_n 1, 1) := by decide +kernel
theorem dX2_walk_39 : decode cX2_walk 39 = .ok (.istore 4, 2) := by decide +kernel
theorem dX2_walk_41 : decode cX2_walk 41 = .ok (.iload 4, 2) := by decide +kernel
theorem dX2_walk_43 : decode cX2_walk 43 = .ok (.iload_n 2, 1) := by decide +kernel
theorem dX2_walk_44 : decode cX2_walk 44 = .ok (.if_icmp .le 25, 3) := by decide +kernel
theorem dX2_walk_47 : decode cX2_walk 47 = .ok (.aload_n 0, 1) := by decide +kernel
theorem dX2_walk_48 : decode cX2_walk 48 = .ok (.getfield 36, 3) := by decide +kernel
theorem dX2_walk_51 : decode cX2_walk 51 = .ok (.iload 4, 2) := by decide +kernel
theorem dX2_walk_53 : decode cX2_walk 53 = .ok (.aload_n 0, 1) := by decide +kernel
theorem dX2_walk_54 : decode cX2_walk 54 = .ok (.getfield 36, 3) := by decide +kernel
theorem dX2_walk_57 : decode cX2_walk 57 = .ok (.iload 4, 2) := by decide +kernel
theorem dX2_walk_59 : decode cX2_walk 59 = .ok (.iconst 1, 1) := by decide +kernel
theorem dX2_walk_60 : decode cX2_walk 60 = .ok (.isub, 1) := by decide +kernel
theorem dX2_walk_61 : decode cX2_walk 61 = .ok (.aaload, 1) := by decide +kernel
theorem dX2_walk_62 : decode cX2_walk 62 = .ok (.aastore, 1) := by decide +kernel
theorem dX2_walk_63 : decode cX2_walk 63 = .ok (.iinc 4 (-1), 3) := by decide +kernel
theorem dX2_walk_66 : decode cX2_walk 66 = .ok (.goto (-25), 3) := by decide +kernel
theorem dX2_walk_69 : decode cX2_walk 69 = .ok (.aload_n 0, 1) := by decide +kernel
theorem dX2_walk_70 : decode cX2_walk 70 = .ok (.getfield 36, 3) := by decide +kernel
theorem dX2_walk_73 : decode cX2_walk 73 = .ok (.iload_n 2, 1) := by decide +kernel
theorem dX2_walk_74 : decode cX2_walk 74 = .ok (.aload_n 3, 1) := by decide +kernel
theorem dX2_walk_75 : decode cX2_walk 75 = .ok (.aastore, 1) := by decide +kernel
theorem dX2_walk_76 : decode cX2_walk 76 = .ok (.return_, 1) := by decide +kernel
theorem dX2_goAway_0 : decode cX2_goAway 0 = .ok (.aload_n 0, 1) := by decide +kernel
theorem dX2_goAway_1 : decode cX2_goAway 1 = .ok (.iload_n 1, 1) := by decide +kernel
theorem dX2_goAway_2 : decode cX2_goAway 2 = .ok (.aload_n 0, 1) := by decide +kernel
theorem dX2_goAway_3 : decode cX2_goAway 3 = .ok (.getfield 31, 3) := by decide +kernel
theorem dX2_goAway_6 : decode cX2_goAway 6 = .ok (.iconst 1, 1) := by decide +kernel
theorem dX2_goAway_7 : decode cX2_goAway 7 = .ok (.isub, 1) := by decide +kernel
theorem dX2_goAway_8 : decode cX2_goAway 8 = .ok (.invokevirtual 49, 3) := by decide +kernel
theorem dX2_goAway_11 : decode cX2_goAway 11 = .ok (.aload_n 0, 1) := by decide +kernel
theorem dX2_goAway_12 : decode cX2_goAway 12 = .ok (.dup, 1) := by decide +kernel
theorem dX2_goAway_13 : decode cX2_goAway 13 = .ok (.getfield 31, 3) := by decide +kernel
theorem dX2_goAway_16 : decode cX2_goAway 16 = .ok (.iconst 1, 1) := by decide +kernel
theorem dX2_goAway_17 : decode cX2_goAway 17 = .ok (.isub, 1) := by decide +kernel
theorem dX2_goAway_18 : decode cX2_goAway 18 = .ok (.putfield 31, 3) := by decide +kernel
theorem dX2_goAway_21 : decode cX2_goAway 21 = .ok (.return_, 1) := by decide +kernel
theorem dX2_swapPlaces_0 : decode cX2_swapPlaces 0 = .ok (.aload_n 0, 1) := by decide +kernel
theorem dX2_swapPlaces_1 : decode cX2_swapPlaces 1 = .ok (.getfield 36, 3) := by decide +kernel
theorem dX2_swapPlaces_4 : decode cX2_swapPlaces 4 = .ok (.iload_n 1, 1) := by decide +kernel
theorem dX2_swapPlaces_5 : decode cX2_swapPlaces 5 = .ok (.aaload, 1) := by decide +kernel
theorem dX2_swapPlaces_6 : decode cX2_swapPlaces 6 = .ok (.astore_n 3, 1) := by decide +kernel
theorem dX2_swapPlaces_7 : decode cX2_swapPlaces 7 = .ok (.aload_n 0, 1) := by decide +kernel
theorem dX2_swapPlaces_8 : decode cX2_swapPlaces 8 = .ok (.getfield 36, 3) := by decide +kernel
theorem dX2_swapPlaces_11 : decode cX2_swapPlaces 11 = .ok (.iload_n 1, 1) := by decide +kernel
theorem dX2_swapPlaces_12 : decode cX2_swapPlaces 12 = .ok (.aload_n 0, 1) := by decide +kernel
theorem dX2_swapPlaces_13 : decode cX2_swapPlaces 13 = .ok (.getfield 36, 3) := by decide +kernel
theorem dX2_swapPlaces_16 : decode cX2_swapPlaces 16 = .ok (.iload_n 2, 1) := by decide +kernel
theorem dX2_swapPlaces_17 : decode cX2_swapPlaces 17 = .ok (.aaload, 1) := by decide +kernel
theorem dX2_swapPlaces_18 : decode cX2_swapPlaces 18 = .ok (.aastore, 1) := by decide +kernel
theorem dX2_swapPlaces_19 : decode cX2_swapPlaces 19 = .ok (.aload_n 0, 1) := by decide +kernel
theorem dX2_swapPlaces_20 : decode cX2_swapPlaces 20 = .ok (.getfield 36, 3) := by decide +kernel
theorem dX2_swapPlaces_23 : decode cX2_swapPlaces 23 = .ok (.iload_n 2, 1) := by decide +kernel
theorem dX2_swapPlaces_24 : decode cX2_swapPlaces 24 = .ok (.aload_n 3, 1) := by decide +kernel
theorem dX2_swapPlaces_25 : decode cX2_swapPlaces 25 = .ok (.aastore, 1) := by decide +kernel
theorem dX2_swapPlaces_26 : decode cX2_swapPlaces 26 = .ok (.return_, 1) := by decide +kernel
theorem dX2_hear_0 : decode cX2_hear 0 = .ok (.aload_n 0, 1) := by decide +kernel
theorem dX2_hear_1 : decode cX2_hear 1 = .ok (.iload_n 1, 1) := by decide +kernel
theorem dX2_hear_2 : decode cX2_hear 2 = .ok (.putfield 18, 3) := by decide +kernel
theorem dX2_hear_5 : decode cX2_hear 5 = .ok (.aload_n 0, 1) := by decide +kernel
theorem dX2_hear_6 : decode cX2_hear 6 = .ok (.iload_n 1, 1) := by decide +kernel
theorem dX2_hear_7 : decode cX2_hear 7 = .ok (.ifCond .eq 7, 3) := by decide +kernel
theorem dX2_hear_10 : decode cX2_hear 10 = .ok (.iload_n 2, 1) := by decide +kernel
theorem dX2_hear_11 : decode cX2_hear 11 = .ok (.goto 4, 3) := by decide +kernel
theorem dX2_hear_14 : decode cX2_hear 14 = .ok (.iconst 0, 1) := by decide +kernel
theorem dX2_hear_15 : decode cX2_hear 15 = .ok (.putfield 22, 3) := by decide +kernel
theorem dX2_hear_18 : decode cX2_hear 18 = .ok (.return_, 1) := by decide +kernel
theorem dX2_thinks_0 : decode cX2_thinks 0 = .ok (.aload_n 0, 1) := by decide +kernel
theorem dX2_thinks_1 : decode cX2_thinks 1 = .ok (.getfield 18, 3) := by decide +kernel
theorem dX2_thinks_4 : decode cX2_thinks 4 = .ok (.ifCond .ne 13, 3) := by decide +kernel
theorem dX2_thinks_7 : decode cX2_thinks 7 = .ok (.aload_n 0, 1) := by decide +kernel
theorem dX2_thinks_8 : decode cX2_thinks 8 = .ok (.getfield 36, 3) := by decide +kernel
theorem dX2_thinks_11 : decode cX2_thinks 11 = .ok (.iload_n 1, 1) := by decide +kernel
theorem dX2_thinks_12 : decode cX2_thinks 12 = .ok (.aaload, 1) := by decide +kernel
theorem dX2_thinks_13 : decode cX2_thinks 13 = .ok (.getfield 53, 3) := by decide +kernel
theorem dX2_thinks_16 : decode cX2_thinks 16 = .ok (.ireturn, 1) := by decide +kernel
theorem dX2_thinks_17 : decode cX2_thinks 17 = .ok (.aload_n 0, 1) := by decide +kernel
theorem dX2_thinks_18 : decode cX2_thinks 18 = .ok (.getfield 9, 3) := by decide +kernel
theorem dX2_thinks_21 : decode cX2_thinks 21 = .ok (.aload_n 0, 1) := by decide +kernel
theorem dX2_thinks_22 : decode cX2_thinks 22 = .ok (.getfield 22, 3) := by decide +kernel
theorem dX2_thinks_25 : decode cX2_thinks 25 = .ok (.iadd, 1) := by decide +kernel
theorem dX2_thinks_26 : decode cX2_thinks 26 = .ok (.istore_n 2, 1) := by decide +kernel
theorem dX2_thinks_27 : decode cX2_thinks 27 = .ok (.iload_n 2, 1) := by decide +kernel
theorem dX2_thinks_28 : decode cX2_thinks 28 = .ok (.ifCond .le 7, 3) := by decide +kernel
theorem dX2_thinks_31 : decode cX2_thinks 31 = .ok (.iload_n 2, 1) := by decide +kernel
theorem dX2_thinks_32 : decode cX2_thinks 32 = .ok (.goto 4, 3) := by decide +kernel
theorem dX2_thinks_35 : decode cX2_thinks 35 = .ok (.iconst 0, 1) := by decide +kernel
theorem dX2_thinks_36 : decode cX2_thinks 36 = .ok (.ireturn, 1) := by decide +kernel
theorem dX2_shortAt_0 : decode cX2_shortAt 0 = .ok (.iconst 0, 1) := by decide +kernel
theorem dX2_shortAt_1 : decode cX2_shortAt 1 = .ok (.iload_n 1, 1) := by decide +kernel
theorem dX2_shortAt_2 : decode cX2_shortAt 2 = .ok (.iconst 1, 1) := by decide +kernel
theorem dX2_shortAt_3 : decode cX2_shortAt 3 = .ok (.iadd, 1) := by decide +kernel
theorem dX2_shortAt_4 : decode cX2_shortAt 4 = .ok (.aload_n 0, 1) := by decide +kernel
theorem dX2_shortAt_5 : decode cX2_shortAt 5 = .ok (.iload_n 2, 1) := by decide +kernel
theorem dX2_shortAt_6 : decode cX2_shortAt 6 = .ok (.invokevirtual 56, 3) := by decide +kernel
theorem dX2_shortAt_9 : decode cX2_shortAt 9 = .ok (.isub, 1) := by decide +kernel
theorem dX2_shortAt_10 : decode cX2_shortAt 10 = .ok (.invokestatic 60, 3) := by decide +kernel
theorem dX2_shortAt_13 : decode cX2_shortAt 13 = .ok (.ireturn, 1) := by decide +kernel
theorem dX2_wouldThrow_0 : decode cX2_wouldThrow 0 = .ok (.aload_n 0, 1) := by decide +kernel
theorem dX2_wouldThrow_1 : decode cX2_wouldThrow 1 = .ok (.getfield 36, 3) := by decide +kernel
theorem dX2_wouldThrow_4 : decode cX2_wouldThrow 4 = .ok (.iload_n 1, 1) := by decide +kernel
theorem dX2_wouldThrow_5 : decode cX2_wouldThrow 5 = .ok (.aaload, 1) := by decide +kernel
theorem dX2_wouldThrow_6 : decode cX2_wouldThrow 6 = .ok (.astore_n 2, 1) := by decide +kernel
theorem dX2_wouldThrow_7 : decode cX2_wouldThrow 7 = .ok (.aload_n 0, 1) := by decide +kernel
theorem dX2_wouldThrow_8 : decode cX2_wouldThrow 8 = .ok (.iload_n 1, 1) := by decide +kernel
theorem dX2_wouldThrow_9 : decode cX2_wouldThrow 9 = .ok (.iload_n 1, 1) := by decide +kernel
theorem dX2_wouldThrow_10 : decode cX2_wouldThrow 10 = .ok (.invokevirtual 66, 3) := by decide +kernel
theorem dX2_wouldThrow_13 : decode cX2_wouldThrow 13 = .ok (.istore_n 3, 1) := by decide +kernel
theorem dX2_wouldThrow_14 : decode cX2_wouldThrow 14 = .ok (.iconst 0, 1) := by decide +kernel
theorem dX2_wouldThrow_15 : decode cX2_wouldThrow 15 = .ok (.istore 4, 2) := by decide +kernel
theorem dX2_wouldThrow_17 : decode cX2_wouldThrow 17 = .ok (.aload_n 2, 1) := by decide +kernel
theorem dX2_wouldThrow_18 : decode cX2_wouldThrow 18 = .ok (.getfield 69, 3) := by decide +kernel
theorem dX2_wouldThrow_21 : decode cX2_wouldThrow 21 = .ok (.tableswitch 119 0 5 #[39, 119, 62, 68, 86, 103], 39) := by decide +kernel
theorem dX2_wouldThrow_60 : decode cX2_wouldThrow 60 = .ok (.iload_n 3, 1) := by decide +kernel
theorem dX2_wouldThrow_61 : decode cX2_wouldThrow 61 = .ok (.iconst 1, 1) := by decide +kernel
theorem dX2_wouldThrow_62 : decode cX2_wouldThrow 62 = .ok (.if_icmp .ne 15, 3) := by decide +kernel
theorem dX2_wouldThrow_65 : decode cX2_wouldThrow 65 = .ok (.aload_n 2, 1) := by decide +kernel
theorem dX2_wouldThrow_66 : decode cX2_wouldThrow 66 = .ok (.getfield 72, 3) := by decide +kernel
theorem dX2_wouldThrow_69 : decode cX2_wouldThrow 69 = .ok (.iconst 1, 1) := by decide +kernel
theorem dX2_wouldThrow_70 : decode cX2_wouldThrow 70 = .ok (.if_icmp .lt 7, 3) := by decide +kernel
theorem dX2_wouldThrow_73 : decode cX2_wouldThrow 73 = .ok (.iconst 1, 1) := by decide +kernel
theorem dX2_wouldThrow_74 : decode cX2_wouldThrow 74 = .ok (.goto 4, 3) := by decide +kernel
theorem dX2_wouldThrow_77 : decode cX2_wouldThrow 77 = .ok (.iconst 0, 1) := by decide +kernel
theorem dX2_wouldThrow_78 : decode cX2_wouldThrow 78 = .ok (.istore 4, 2) := by decide +kernel
theorem dX2_wouldThrow_80 : decode cX2_wouldThrow 80 = .ok (.goto 60, 3) := by decide +kernel
theorem dX2_wouldThrow_83 : decode cX2_wouldThrow 83 = .ok (.iconst 1, 1) := by decide +kernel
theorem dX2_wouldThrow_84 : decode cX2_wouldThrow 84 = .ok (.istore 4, 2) := by decide +kernel
theorem dX2_wouldThrow_86 : decode cX2_wouldThrow 86 = .ok (.goto 54, 3) := by decide +kernel
theorem dX2_wouldThrow_89 : decode cX2_wouldThrow 89 = .ok (.iload_n 3, 1) := by decide +kernel
theorem dX2_wouldThrow_90 : decode cX2_wouldThrow 90 = .ok (.aload_n 2, 1) := by decide +kernel
theorem dX2_wouldThrow_91 : decode cX2_wouldThrow 91 = .ok (.getfield 72, 3) := by decide +kernel
theorem dX2_wouldThrow_94 : decode cX2_wouldThrow 94 = .ok (.if_icmp .gt 7, 3) := by decide +kernel
theorem dX2_wouldThrow_97 : decode cX2_wouldThrow 97 = .ok (.iload_n 3, 1) := by decide +kernel
theorem dX2_wouldThrow_98 : decode cX2_wouldThrow 98 = .ok (.goto 4, 3) := by decide +kernel
theorem dX2_wouldThrow_101 : decode cX2_wouldThrow 101 = .ok (.iconst 0, 1) := by decide +kernel
theorem dX2_wouldThrow_102 : decode cX2_wouldThrow 102 = .ok (.istore 4, 2) := by decide +kernel
theorem dX2_wouldThrow_104 : decode cX2_wouldThrow 104 = .ok (.goto 36, 3) := by decide +kernel
theorem dX2_wouldThrow_107 : decode cX2_wouldThrow 107 = .ok (.aload_n 0, 1) := by decide +kernel
theorem dX2_wouldThrow_108 : decode cX2_wouldThrow 108 = .ok (.getfield 9, 3) := by decide +kernel
theorem dX2_wouldThrow_111 : decode cX2_wouldThrow 111 = .ok (.ifCond .le 7, 3) := by decide +kernel
theorem dX2_wouldThrow_114 : decode cX2_wouldThrow 114 = .ok (.iconst (-1), 1) := by decide +kernel
theorem dX2_wouldThrow_115 : decode cX2_wouldThrow 115 = .ok (.goto 4, 3) := by decide +kernel
theorem dX2_wouldThrow_118 : decode cX2_wouldThrow 118 = .ok (.iconst 0, 1) := by decide +kernel
theorem dX2_wouldThrow_119 : decode cX2_wouldThrow 119 = .ok (.istore 4, 2) := by decide +kernel
theorem dX2_wouldThrow_121 : decode cX2_wouldThrow 121 = .ok (.goto 19, 3) := by decide +kernel
theorem dX2_wouldThrow_124 : decode cX2_wouldThrow 124 = .ok (.aload_n 0, 1) := by decide +kernel
theorem dX2_wouldThrow_125 : decode cX2_wouldThrow 125 = .ok (.aload_n 0, 1) := by decide +kernel
theorem dX2_wouldThrow_126 : decode cX2_wouldThrow 126 = .ok (.getfield 31, 3) := by decide +kernel
theorem dX2_wouldThrow_129 : decode cX2_wouldThrow 129 = .ok (.iconst 1, 1) := by decide +kernel
theorem dX2_wouldThrow_130 : decode cX2_wouldThrow 130 = .ok (.isub, 1) := by decide +kernel
theorem dX2_wouldThrow_131 : decode cX2_wouldThrow 131 = .ok (.iload_n 1, 1) := by decide +kernel
theorem dX2_wouldThrow_132 : decode cX2_wouldThrow 132 = .ok (.invokevirtual 66, 3) := by decide +kernel
theorem dX2_wouldThrow_135 : decode cX2_wouldThrow 135 = .ok (.istore 4, 2) := by decide +kernel
theorem dX2_wouldThrow_137 : decode cX2_wouldThrow 137 = .ok (.goto 3, 3) := by decide +kernel
theorem dX2_wouldThrow_140 : decode cX2_wouldThrow 140 = .ok (.iload 4, 2) := by decide +kernel
theorem dX2_wouldThrow_142 : decode cX2_wouldThrow 142 = .ok (.aload_n 2, 1) := by decide +kernel
theorem dX2_wouldThrow_143 : decode cX2_wouldThrow 143 = .ok (.getfield 75, 3) := by decide +kernel
theorem dX2_wouldThrow_146 : decode cX2_wouldThrow 146 = .ok (.invokestatic 78, 3) := by decide +kernel
theorem dX2_wouldThrow_149 : decode cX2_wouldThrow 149 = .ok (.ireturn, 1) := by decide +kernel
theorem dX2_passHour_0 : decode cX2_passHour 0 = .ok (.iconst 0, 1) := by decide +kernel
theorem dX2_passHour_1 : decode cX2_passHour 1 = .ok (.istore_n 3, 1) := by decide +kernel
theorem dX2_passHour_2 : decode cX2_passHour 2 = .ok (.iload_n 3, 1) := by decide +kernel
theorem dX2_passHour_3 : decode cX2_passHour 3 = .ok (.aload_n 0, 1) := by decide +kernel
theorem dX2_passHour_4 : decode cX2_passHour 4 = .ok (.getfield 31, 3) := by decide +kernel
theorem dX2_passHour_7 : decode cX2_passHour 7 = .ok (.if_icmp .ge 43, 3) := by decide +kernel
theorem dX2_passHour_10 : decode cX2_passHour 10 = .ok (.aload_n 0, 1) := by decide +kernel
theorem dX2_passHour_11 : decode cX2_passHour 11 = .ok (.iload_n 3, 1) := by decide +kernel
theorem dX2_passHour_12 : decode cX2_passHour 12 = .ok (.invokevirtual 81, 3) := by decide +kernel
theorem dX2_passHour_15 : decode cX2_passHour 15 = .ok (.istore 4, 2) := by decide +kernel
theorem dX2_passHour_17 : decode cX2_passHour 17 = .ok (.aload_n 0, 1) := by decide +kernel
theorem dX2_passHour_18 : decode cX2_passHour 18 = .ok (.aload_n 0, 1) := by decide +kernel
theorem dX2_passHour_19 : decode cX2_passHour 19 = .ok (.getfield 36, 3) := by decide +kernel
theorem dX2_passHour_22 : decode cX2_passHour 22 = .ok (.iload 4, 2) := by decide +kernel
theorem dX2_passHour_24 : decode cX2_passHour 24 = .ok (.aaload, 1) := by decide +kernel
theorem dX2_passHour_25 : decode cX2_passHour 25 = .ok (.iload 4, 2) := by decide +kernel
theorem dX2_passHour_27 : decode cX2_passHour 27 = .ok (.iload_n 1, 1) := by decide +kernel
theorem dX2_passHour_28 : decode cX2_passHour 28 = .ok (.if_icmp .ne 7, 3) := by decide +kernel
theorem dX2_passHour_31 : decode cX2_passHour 31 = .ok (.iload_n 2, 1) := by decide +kernel
theorem dX2_passHour_32 : decode cX2_passHour 32 = .ok (.goto 9, 3) := by decide +kernel
theorem dX2_passHour_35 : decode cX2_passHour 35 = .ok (.aload_n 0, 1) := by decide +kernel
theorem dX2_passHour_36 : decode cX2_passHour 36 = .ok (.iload 4, 2) := by decide +kernel
theorem dX2_passHour_38 : decode cX2_passHour 38 = .ok (.invokevirtual 84, 3) := by decide +kernel
theorem dX2_passHour_41 : decode cX2_passHour 41 = .ok (.invokevirtual 87, 3) := by decide +kernel
theorem dX2_passHour_44 : decode cX2_passHour 44 = .ok (.iinc 3 1, 3) := by decide +kernel
theorem dX2_passHour_47 : decode cX2_passHour 47 = .ok (.goto (-45), 3) := by decide +kernel
theorem dX2_passHour_50 : decode cX2_passHour 50 = .ok (.aload_n 0, 1) := by decide +kernel
theorem dX2_passHour_51 : decode cX2_passHour 51 = .ok (.aload_n 0, 1) := by decide +kernel
theorem dX2_passHour_52 : decode cX2_passHour 52 = .ok (.getfield 9, 3) := by decide +kernel
theorem dX2_passHour_55 : decode cX2_passHour 55 = .ok (.putfield 28, 3) := by decide +kernel
theorem dX2_passHour_58 : decode cX2_passHour 58 = .ok (.aload_n 0, 1) := by decide +kernel
theorem dX2_passHour_59 : decode cX2_passHour 59 = .ok (.iconst 0, 1) := by decide +kernel
theorem dX2_passHour_60 : decode cX2_passHour 60 = .ok (.putfield 9, 3) := by decide +kernel
theorem dX2_passHour_63 : decode cX2_passHour 63 = .ok (.aload_n 0, 1) := by decide +kernel
theorem dX2_passHour_64 : decode cX2_passHour 64 = .ok (.dup, 1) := by decide +kernel
theorem dX2_passHour_65 : decode cX2_passHour 65 = .ok (.getfield 25, 3) := by decide +kernel
theorem dX2_passHour_68 : decode cX2_passHour 68 = .ok (.iconst 1, 1) := by decide +kernel
theorem dX2_passHour_69 : decode cX2_passHour 69 = .ok (.iadd, 1) := by decide +kernel
theorem dX2_passHour_70 : decode cX2_passHour 70 = .ok (.putfield 25, 3) := by decide +kernel
theorem dX2_passHour_73 : decode cX2_passHour 73 = .ok (.aload_n 0, 1) := by decide +kernel
theorem dX2_passHour_74 : decode cX2_passHour 74 = .ok (.invokevirtual 91, 3) := by decide +kernel
theorem dX2_passHour_77 : decode cX2_passHour 77 = .ok (.ireturn, 1) := by decide +kernel
theorem dX2_throwerAt_0 : decode cX2_throwerAt 0 = .ok (.aload_n 0, 1) := by decide +kernel
theorem dX2_throwerAt_1 : decode cX2_throwerAt 1 = .ok (.getfield 31, 3) := by decide +kernel
theorem dX2_throwerAt_4 : decode cX2_throwerAt 4 = .ok (.iconst 2, 1) := by decide +kernel
theorem dX2_throwerAt_5 : decode cX2_throwerAt 5 = .ok (.idiv, 1) := by decide +kernel
theorem dX2_throwerAt_6 : decode cX2_throwerAt 6 = .ok (.istore_n 2, 1) := by decide +kernel
theorem dX2_throwerAt_7 : decode cX2_throwerAt 7 = .ok (.aload_n 0, 1) := by decide +kernel
theorem dX2_throwerAt_8 : decode cX2_throwerAt 8 = .ok (.getfield 15, 3) := by decide +kernel
theorem dX2_throwerAt_11 : decode cX2_throwerAt 11 = .ok (.lookupswitch 53 #[(1, 25), (2, 34)], 25) := by decide +kernel
theorem dX2_throwerAt_36 : decode cX2_throwerAt 36 = .ok (.aload_n 0, 1) := by decide +kernel
theorem dX2_throwerAt_37 : decode cX2_throwerAt 37 = .ok (.getfield 31, 3) := by decide +kernel
theorem dX2_throwerAt_40 : decode cX2_throwerAt 40 = .ok (.iconst 1, 1) := by decide +kernel
theorem dX2_throwerAt_41 : decode cX2_throwerAt 41 = .ok (.isub, 1) := by decide +kernel
theorem dX2_throwerAt_42 : decode cX2_throwerAt 42 = .ok (.iload_n 1, 1) := by decide +kernel
theorem dX2_throwerAt_43 : decode cX2_throwerAt 43 = .ok (.isub, 1) := by decide +kernel
theorem dX2_throwerAt_44 : decode cX2_throwerAt 44 = .ok (.ireturn, 1) := by decide +kernel
theorem dX2_throwerAt_45 : decode cX2_throwerAt 45 = .ok (.iload_n 1, 1) := by decide +kernel
theorem dX2_throwerAt_46 : decode cX2_throwerAt 46 = .ok (.iload_n 2, 1) := by decide +kernel
theorem dX2_throwerAt_47 : decode cX2_throwerAt 47 = .ok (.if_icmp .ge 11, 3) := by decide +kernel
theorem dX2_throwerAt_50 : decode cX2_throwerAt 50 = .ok (.iconst 2, 1) := by decide +kernel
theorem dX2_throwerAt_51 : decode cX2_throwerAt 51 = .ok (.iload_n 1, 1) := by decide +kernel
theorem dX2_throwerAt_52 : decode cX2_throwerAt 52 = .ok (.imul, 1) := by decide +kernel
theorem dX2_throwerAt_53 : decode cX2_throwerAt 53 = .ok (.iconst 1, 1) := by decide +kernel
theorem dX2_throwerAt_54 : decode cX2_throwerAt 54 = .ok (.iadd, 1) := by decide +kernel
theorem dX2_throwerAt_55 : decode cX2_throwerAt 55 = .ok (.goto 8, 3) := by decide +kernel
theorem dX2_throwerAt_58 : decode cX2_throwerAt 58 = .ok (.iconst 2, 1) := by decide +kernel
theorem dX2_throwerAt_59 : decode cX2_throwerAt 59 = .ok (.iload_n 1, 1) := by decide +kernel
theorem dX2_throwerAt_60 : decode cX2_throwerAt 60 = .ok (.iload_n 2, 1) := by decide +kernel
theorem dX2_throwerAt_61 : decode cX2_throwerAt 61 = .ok (.isub, 1) := by decide +kernel
theorem dX2_throwerAt_62 : decode cX2_throwerAt 62 = .ok (.imul, 1) := by decide +kernel
theorem dX2_throwerAt_63 : decode cX2_throwerAt 63 = .ok (.ireturn, 1) := by decide +kernel
theorem dX2_throwerAt_64 : decode cX2_throwerAt 64 = .ok (.iload_n 1, 1) := by decide +kernel
theorem dX2_throwerAt_65 : decode cX2_throwerAt 65 = .ok (.ireturn, 1) := by decide +kernel
theorem dX2_throwIn_0 : decode cX2_throwIn 0 = .ok (.aload_n 1, 1) := by decide +kernel
theorem dX2_throwIn_1 : decode cX2_throwIn 1 = .ok (.iload_n 2, 1) := by decide +kernel
theorem dX2_throwIn_2 : decode cX2_throwIn 2 = .ok (.putfield 95, 3) := by decide +kernel
theorem dX2_throwIn_5 : decode cX2_throwIn 5 = .ok (.aload_n 1, 1) := by decide +kernel
theorem dX2_throwIn_6 : decode cX2_throwIn 6 = .ok (.sipush 999, 3) := by decide +kernel
theorem dX2_throwIn_9 : decode cX2_throwIn 9 = .ok (.aload_n 1, 1) := by decide +kernel
theorem dX2_throwIn_10 : decode cX2_throwIn 10 = .ok (.getfield 75, 3) := by decide +kernel
theorem dX2_throwIn_13 : decode cX2_throwIn 13 = .ok (.iload_n 2, 1) := by decide +kernel
theorem dX2_throwIn_14 : decode cX2_throwIn 14 = .ok (.isub, 1) := by decide +kernel
theorem dX2_throwIn_15 : decode cX2_throwIn 15 = .ok (.invokestatic 78, 3) := by decide +kernel
theorem dX2_throwIn_18 : decode cX2_throwIn 18 = .ok (.putfield 75, 3) := by decide +kernel
theorem dX2_throwIn_21 : decode cX2_throwIn 21 = .ok (.aload_n 0, 1) := by decide +kernel
theorem dX2_throwIn_22 : decode cX2_throwIn 22 = .ok (.sipush 999, 3) := by decide +kernel
theorem dX2_throwIn_25 : decode cX2_throwIn 25 = .ok (.aload_n 0, 1) := by decide +kernel
theorem dX2_throwIn_26 : decode cX2_throwIn 26 = .ok (.getfield 9, 3) := by decide +kernel
theorem dX2_throwIn_29 : decode cX2_throwIn 29 = .ok (.iload_n 2, 1) := by decide +kernel
theorem dX2_throwIn_30 : decode cX2_throwIn 30 = .ok (.iadd, 1) := by decide +kernel
theorem dX2_throwIn_31 : decode cX2_throwIn 31 = .ok (.invokestatic 78, 3) := by decide +kernel
theorem dX2_throwIn_34 : decode cX2_throwIn 34 = .ok (.putfield 9, 3) := by decide +kernel
theorem dX2_throwIn_37 : decode cX2_throwIn 37 = .ok (.return_, 1) := by decide +kernel
theorem dX2_fillPails_0 : decode cX2_fillPails 0 = .ok (.iconst 0, 1) := by decide +kernel
theorem dX2_fillPails_1 : decode cX2_fillPails 1 = .ok (.istore_n 1, 1) := by decide +kernel
theorem dX2_fillPails_2 : decode cX2_fillPails 2 = .ok (.iconst 0, 1) := by decide +kernel
theorem dX2_fillPails_3 : decode cX2_fillPails 3 = .ok (.istore_n 2, 1) := by decide +kernel
theorem dX2_fillPails_4 : decode cX2_fillPails 4 = .ok (.iload_n 2, 1) := by decide +kernel
theorem dX2_fillPails_5 : decode cX2_fillPails 5 = .ok (.aload_n 0, 1) := by decide +kernel
theorem dX2_fillPails_6 : decode cX2_fillPails 6 = .ok (.getfield 31, 3) := by decide +kernel
theorem dX2_fillPails_9 : decode cX2_fillPails 9 = .ok (.if_icmp .ge 60, 3) := by decide +kernel
theorem dX2_fillPails_12 : decode cX2_fillPails 12 = .ok (.aload_n 0, 1) := by decide +kernel
theorem dX2_fillPails_13 : decode cX2_fillPails 13 = .ok (.getfield 36, 3) := by decide +kernel
theorem dX2_fillPails_16 : decode cX2_fillPails 16 = .ok (.iload_n 2, 1) := by decide +kernel
theorem dX2_fillPails_17 : decode cX2_fillPails 17 = .ok (.aaload, 1) := by decide +kernel
theorem dX2_fillPails_18 : decode cX2_fillPails 18 = .ok (.astore_n 3, 1) := by decide +kernel
theorem dX2_fillPails_19 : decode cX2_fillPails 19 = .ok (.iload_n 2, 1) := by decide +kernel
theorem dX2_fillPails_20 : decode cX2_fillPails 20 = .ok (.aload_n 0, 1) := by decide +kernel
theorem dX2_fillPails_21 : decode cX2_fillPails 21 = .ok (.getfield 28, 3) := by decide +kernel
theorem dX2_fillPails_24 : decode cX2_fillPails 24 = .ok (.if_icmp .ge 24, 3) := by decide +kernel
theorem dX2_fillPails_27 : decode cX2_fillPails 27 = .ok (.aload_n 3, 1) := by decide +kernel
theorem dX2_fillPails_28 : decode cX2_fillPails 28 = .ok (.ldc 98, 2) := by decide +kernel
theorem dX2_fillPails_30 : decode cX2_fillPails 30 = .ok (.aload_n 3, 1) := by decide +kernel
theorem dX2_fillPails_31 : decode cX2_fillPails 31 = .ok (.getfield 99, 3) := by decide +kernel
theorem dX2_fillPails_34 : decode cX2_fillPails 34 = .ok (.iconst 1, 1) := by decide +kernel
theorem dX2_fillPails_35 : decode cX2_fillPails 35 = .ok (.iadd, 1) := by decide +kernel
theorem dX2_fillPails_36 : decode cX2_fillPails 36 = .ok (.invokestatic 78, 3) := by decide +kernel
theorem dX2_fillPails_39 : decode cX2_fillPails 39 = .ok (.putfield 99, 3) := by decide +kernel
theorem dX2_fillPails_42 : decode cX2_fillPails 42 = .ok (.iinc 1 1, 3) := by decide +kernel
theorem dX2_fillPails_45 : decode cX2_fillPails 45 = .ok (.goto 18, 3) := by decide +kernel
theorem dX2_fillPails_48 : decode cX2_fillPails 48 = .ok (.aload_n 3, 1) := by decide +kernel
theorem dX2_fillPails_49 : decode cX2_fillPails 49 = .ok (.ldc 98, 2) := by decide +kernel
theorem dX2_fillPails_51 : decode cX2_fillPails 51 = .ok (.aload_n 3, 1) := by decide +kernel
theorem dX2_fillPails_52 : decode cX2_fillPails 52 = .ok (.getfield 102, 3) := by decide +kernel
theorem dX2_fillPails_55 : decode cX2_fillPails 55 = .ok (.iconst 1, 1) := by decide +kernel
theorem dX2_fillPails_56 : decode cX2_fillPails 56 = .ok (.iadd, 1) := by decide +kernel
theorem dX2_fillPails_57 : decode cX2_fillPails 57 = .ok (.invokestatic 78, 3) := by decide +kernel
theorem dX2_fillPails_60 : decode cX2_fillPails 60 = .ok (.putfield 102, 3) := by decide +kernel
theorem dX2_fillPails_63 : decode cX2_fillPails 63 = .ok (.iinc 2 1, 3) := by decide +kernel
theorem dX2_fillPails_66 : decode cX2_fillPails 66 = .ok (.goto (-62), 3) := by decide +kernel
theorem dX2_fillPails_69 : decode cX2_fillPails 69 = .ok (.iload_n 1, 1) := by decide +kernel
theorem dX2_fillPails_70 : decode cX2_fillPails 70 = .ok (.ireturn, 1) := by decide +kernel
theorem dX2_gainAt_0 : decode cX2_gainAt 0 = .ok (.aload_n 0, 1) := by decide +kernel
theorem dX2_gainAt_1 : decode cX2_gainAt 1 = .ok (.getfield 36, 3) := by decide +kernel
theorem dX2_gainAt_4 : decode cX2_gainAt 4 = .ok (.iload_n 1, 1) := by decide +kernel
theorem dX2_gainAt_5 : decode cX2_gainAt 5 = .ok (.aaload, 1) := by decide +kernel
theorem dX2_gainAt_6 : decode cX2_gainAt 6 = .ok (.iload_n 1, 1) := by decide +kernel
theorem dX2_gainAt_7 : decode cX2_gainAt 7 = .ok (.aload_n 0, 1) := by decide +kernel
theorem dX2_gainAt_8 : decode cX2_gainAt 8 = .ok (.getfield 28, 3) := by decide +kernel
theorem dX2_gainAt_11 : decode cX2_gainAt 11 = .ok (.if_icmp .ge 7, 3) := by decide +kernel
theorem dX2_gainAt_14 : decode cX2_gainAt 14 = .ok (.iconst 1, 1) := by decide +kernel
theorem dX2_gainAt_15 : decode cX2_gainAt 15 = .ok (.goto 4, 3) := by decide +kernel
theorem dX2_gainAt_18 : decode cX2_gainAt 18 = .ok (.iconst 0, 1) := by decide +kernel
theorem dX2_gainAt_19 : decode cX2_gainAt 19 = .ok (.aload_n 0, 1) := by decide +kernel
theorem dX2_gainAt_20 : decode cX2_gainAt 20 = .ok (.getfield 36, 3) := by decide +kernel
theorem dX2_gainAt_23 : decode cX2_gainAt 23 = .ok (.iload_n 1, 1) := by decide +kernel
theorem dX2_gainAt_24 : decode cX2_gainAt 24 = .ok (.aaload, 1) := by decide +kernel
theorem dX2_gainAt_25 : decode cX2_gainAt 25 = .ok (.getfield 95, 3) := by decide +kernel
theorem dX2_gainAt_28 : decode cX2_gainAt 28 = .ok (.invokevirtual 105, 3) := by decide +kernel
theorem dX2_gainAt_31 : decode cX2_gainAt 31 = .ok (.ireturn, 1) := by decide +kernel
theorem dX2_allGains_0 : decode cX2_allGains 0 = .ok (.iconst 0, 1) := by decide +kernel
theorem dX2_allGains_1 : decode cX2_allGains 1 = .ok (.istore_n 1, 1) := by decide +kernel
theorem dX2_allGains_2 : decode cX2_allGains 2 = .ok (.iconst 0, 1) := by decide +kernel
theorem dX2_allGains_3 : decode cX2_allGains 3 = .ok (.istore_n 2, 1) := by decide +kernel
theorem dX2_allGains_4 : decode cX2_allGains 4 = .ok (.iload_n 2, 1) := by decide +kernel
theorem dX2_allGains_5 : decode cX2_allGains 5 = .ok (.aload_n 0, 1) := by decide +kernel
theorem dX2_allGains_6 : decode cX2_allGains 6 = .ok (.getfield 31, 3) := by decide +kernel
theorem dX2_allGains_9 : decode cX2_allGains 9 = .ok (.if_icmp .ge 17, 3) := by decide +kernel
theorem dX2_allGains_12 : decode cX2_allGains 12 = .ok (.iload_n 1, 1) := by decide +kernel
theorem dX2_allGains_13 : decode cX2_allGains 13 = .ok (.aload_n 0, 1) := by decide +kernel
theorem dX2_allGains_14 : decode cX2_allGains 14 = .ok (.iload_n 2, 1) := by decide +kernel
theorem dX2_allGains_15 : decode cX2_allGains 15 = .ok (.invokevirtual 109, 3) := by decide +kernel
theorem dX2_allGains_18 : decode cX2_allGains 18 = .ok (.iadd, 1) := by decide +kernel
theorem dX2_allGains_19 : decode cX2_allGains 19 = .ok (.istore_n 1, 1) := by decide +kernel
theorem dX2_allGains_20 : decode cX2_allGains 20 = .ok (.iinc 2 1, 3) := by decide +kernel
theorem dX2_allGains_23 : decode cX2_allGains 23 = .ok (.goto (-19), 3) := by decide +kernel
theorem dX2_allGains_26 : decode cX2_allGains 26 = .ok (.iload_n 1, 1) := by decide +kernel
theorem dX2_allGains_27 : decode cX2_allGains 27 = .ok (.ireturn, 1) := by decide +kernel
theorem dX2_allPurses_0 : decode cX2_allPurses 0 = .ok (.iconst 0, 1) := by decide +kernel
theorem dX2_allPurses_1 : decode cX2_allPurses 1 = .ok (.istore_n 1, 1) := by decide +kernel
theorem dX2_allPurses_2 : decode cX2_allPurses 2 = .ok (.iconst 0, 1) := by decide +kernel
theorem dX2_allPurses_3 : decode cX2_allPurses 3 = .ok (.istore_n 2, 1) := by decide +kernel
theorem dX2_allPurses_4 : decode cX2_allPurses 4 = .ok (.iload_n 2, 1) := by decide +kernel
theorem dX2_allPurses_5 : decode cX2_allPurses 5 = .ok (.aload_n 0, 1) := by decide +kernel
theorem dX2_allPurses_6 : decode cX2_allPurses 6 = .ok (.getfield 31, 3) := by decide +kernel
theorem dX2_allPurses_9 : decode cX2_allPurses 9 = .ok (.if_icmp .ge 21, 3) := by decide +kernel
theorem dX2_allPurses_12 : decode cX2_allPurses 12 = .ok (.iload_n 1, 1) := by decide +kernel
theorem dX2_allPurses_13 : decode cX2_allPurses 13 = .ok (.aload_n 0, 1) := by decide +kernel
theorem dX2_allPurses_14 : decode cX2_allPurses 14 = .ok (.getfield 36, 3) := by decide +kernel
theorem dX2_allPurses_17 : decode cX2_allPurses 17 = .ok (.iload_n 2, 1) := by decide +kernel
theorem dX2_allPurses_18 : decode cX2_allPurses 18 = .ok (.aaload, 1) := by decide +kernel
theorem dX2_allPurses_19 : decode cX2_allPurses 19 = .ok (.getfield 75, 3) := by decide +kernel
theorem dX2_allPurses_22 : decode cX2_allPurses 22 = .ok (.iadd, 1) := by decide +kernel
theorem dX2_allPurses_23 : decode cX2_allPurses 23 = .ok (.istore_n 1, 1) := by decide +kernel
theorem dX2_allPurses_24 : decode cX2_allPurses 24 = .ok (.iinc 2 1, 3) := by decide +kernel
theorem dX2_allPurses_27 : decode cX2_allPurses 27 = .ok (.goto (-23), 3) := by decide +kernel
theorem dX2_allPurses_30 : decode cX2_allPurses 30 = .ok (.iload_n 1, 1) := by decide +kernel
theorem dX2_allPurses_31 : decode cX2_allPurses 31 = .ok (.ireturn, 1) := by decide +kernel
theorem dX2_allPails_0 : decode cX2_allPails 0 = .ok (.iconst 0, 1) := by decide +kernel
theorem dX2_allPails_1 : decode cX2_allPails 1 = .ok (.istore_n 1, 1) := by decide +kernel
theorem dX2_allPails_2 : decode cX2_allPails 2 = .ok (.iconst 0, 1) := by decide +kernel
theorem dX2_allPails_3 : decode cX2_allPails 3 = .ok (.istore_n 2, 1) := by decide +kernel
theorem dX2_allPails_4 : decode cX2_allPails 4 = .ok (.iload_n 2, 1) := by decide +kernel
theorem dX2_allPails_5 : decode cX2_allPails 5 = .ok (.aload_n 0, 1) := by decide +kernel
theorem dX2_allPails_6 : decode cX2_allPails 6 = .ok (.getfield 31, 3) := by decide +kernel
theorem dX2_allPails_9 : decode cX2_allPails 9 = .ok (.if_icmp .ge 21, 3) := by decide +kernel
theorem dX2_allPails_12 : decode cX2_allPails 12 = .ok (.iload_n 1, 1) := by decide +kernel
theorem dX2_allPails_13 : decode cX2_allPails 13 = .ok (.aload_n 0, 1) := by decide +kernel
theorem dX2_allPails_14 : decode cX2_allPails 14 = .ok (.getfield 36, 3) := by decide +kernel
theorem dX2_allPails_17 : decode cX2_allPails 17 = .ok (.iload_n 2, 1) := by decide +kernel
theorem dX2_allPails_18 : decode cX2_allPails 18 = .ok (.aaload, 1) := by decide +kernel
theorem dX2_allPails_19 : decode cX2_allPails 19 = .ok (.getfield 99, 3) := by decide +kernel
theorem dX2_allPails_22 : decode cX2_allPails 22 = .ok (.iadd, 1) := by decide +kernel
theorem dX2_allPails_23 : decode cX2_allPails 23 = .ok (.istore_n 1, 1) := by decide +kernel
theorem dX2_allPails_24 : decode cX2_allPails 24 = .ok (.iinc 2 1, 3) := by decide +kernel
theorem dX2_allPails_27 : decode cX2_allPails 27 = .ok (.goto (-23), 3) := by decide +kernel
theorem dX2_allPails_30 : decode cX2_allPails 30 = .ok (.iload_n 1, 1) := by decide +kernel
theorem dX2_allPails_31 : decode cX2_allPails 31 = .ok (.ireturn, 1) := by decide +kernel
theorem dX2_allDry_0 : decode cX2_allDry 0 = .ok (.iconst 0, 1) := by decide +kernel
theorem dX2_allDry_1 : decode cX2_allDry 1 = .ok (.istore_n 1, 1) := by decide +kernel
theorem dX2_allDry_2 : decode cX2_allDry 2 = .ok (.iconst 0, 1) := by decide +kernel
theorem dX2_allDry_3 : decode cX2_allDry 3 = .ok (.istore_n 2, 1) := by decide +kernel
theorem dX2_allDry_4 : decode cX2_allDry 4 = .ok (.iload_n 2, 1) := by decide +kernel
theorem dX2_allDry_5 : decode cX2_allDry 5 = .ok (.aload_n 0, 1) := by decide +kernel
theorem dX2_allDry_6 : decode cX2_allDry 6 = .ok (.getfield 31, 3) := by decide +kernel
theorem dX2_allDry_9 : decode cX2_allDry 9 = .ok (.if_icmp .ge 21, 3) := by decide +kernel
theorem dX2_allDry_12 : decode cX2_allDry 12 = .ok (.iload_n 1, 1) := by decide +kernel
theorem dX2_allDry_13 : decode cX2_allDry 13 = .ok (.aload_n 0, 1) := by decide +kernel
theorem dX2_allDry_14 : decode cX2_allDry 14 = .ok (.getfield 36, 3) := by decide +kernel
theorem dX2_allDry_17 : decode cX2_allDry 17 = .ok (.iload_n 2, 1) := by decide +kernel
theorem dX2_allDry_18 : decode cX2_allDry 18 = .ok (.aaload, 1) := by decide +kernel
theorem dX2_allDry_19 : decode cX2_allDry 19 = .ok (.getfield 102, 3) := by decide +kernel
theorem dX2_allDry_22 : decode cX2_allDry 22 = .ok (.iadd, 1) := by decide +kernel
theorem dX2_allDry_23 : decode cX2_allDry 23 = .ok (.istore_n 1, 1) := by decide +kernel
theorem dX2_allDry_24 : decode cX2_allDry 24 = .ok (.iinc 2 1, 3) := by decide +kernel
theorem dX2_allDry_27 : decode cX2_allDry 27 = .ok (.goto (-23), 3) := by decide +kernel
theorem dX2_allDry_30 : decode cX2_allDry 30 = .ok (.iload_n 1, 1) := by decide +kernel
theorem dX2_allDry_31 : decode cX2_allDry 31 = .ok (.ireturn, 1) := by decide +kernel
theorem dX2_allValues_0 : decode cX2_allValues 0 = .ok (.iconst 0, 1) := by decide +kernel
theorem dX2_allValues_1 : decode cX2_allValues 1 = .ok (.istore_n 1, 1) := by decide +kernel
theorem dX2_allValues_2 : decode cX2_allValues 2 = .ok (.iconst 0, 1) := by decide +kernel
theorem dX2_allValues_3 : decode cX2_allValues 3 = .ok (.istore_n 2, 1) := by decide +kernel
theorem dX2_allValues_4 : decode cX2_allValues 4 = .ok (.iload_n 2, 1) := by decide +kernel
theorem dX2_allValues_5 : decode cX2_allValues 5 = .ok (.aload_n 0, 1) := by decide +kernel
theorem dX2_allValues_6 : decode cX2_allValues 6 = .ok (.getfield 31, 3) := by decide +kernel
theorem dX2_allValues_9 : decode cX2_allValues 9 = .ok (.if_icmp .ge 21, 3) := by decide +kernel
theorem dX2_allValues_12 : decode cX2_allValues 12 = .ok (.iload_n 1, 1) := by decide +kernel
theorem dX2_allValues_13 : decode cX2_allValues 13 = .ok (.aload_n 0, 1) := by decide +kernel
theorem dX2_allValues_14 : decode cX2_allValues 14 = .ok (.getfield 36, 3) := by decide +kernel
theorem dX2_allValues_17 : decode cX2_allValues 17 = .ok (.iload_n 2, 1) := by decide +kernel
theorem dX2_allValues_18 : decode cX2_allValues 18 = .ok (.aaload, 1) := by decide +kernel
theorem dX2_allValues_19 : decode cX2_allValues 19 = .ok (.getfield 72, 3) := by decide +kernel
theorem dX2_allValues_22 : decode cX2_allValues 22 = .ok (.iadd, 1) := by decide +kernel
theorem dX2_allValues_23 : decode cX2_allValues 23 = .ok (.istore_n 1, 1) := by decide +kernel
theorem dX2_allValues_24 : decode cX2_allValues 24 = .ok (.iinc 2 1, 3) := by decide +kernel
theorem dX2_allValues_27 : decode cX2_allValues 27 = .ok (.goto (-23), 3) := by decide +kernel
theorem dX2_allValues_30 : decode cX2_allValues 30 = .ok (.iload_n 1, 1) := by decide +kernel
theorem dX2_allValues_31 : decode cX2_allValues 31 = .ok (.ireturn, 1) := by decide +kernel
theorem dX2_allThrew_0 : decode cX2_allThrew 0 = .ok (.iconst 0, 1) := by decide +kernel
theorem dX2_allThrew_1 : decode cX2_allThrew 1 = .ok (.istore_n 1, 1) := by decide +kernel
theorem dX2_allThrew_2 : decode cX2_allThrew 2 = .ok (.iconst 0, 1) := by decide +kernel
theorem dX2_allThrew_3 : decode cX2_allThrew 3 = .ok (.istore_n 2, 1) := by decide +kernel
theorem dX2_allThrew_4 : decode cX2_allThrew 4 = .ok (.iload_n 2, 1) := by decide +kernel
theorem dX2_allThrew_5 : decode cX2_allThrew 5 = .ok (.aload_n 0, 1) := by decide +kernel
theorem dX2_allThrew_6 : decode cX2_allThrew 6 = .ok (.getfield 31, 3) := by decide +kernel
theorem dX2_allThrew_9 : decode cX2_allThrew 9 = .ok (.if_icmp .ge 21, 3) := by decide +kernel
theorem dX2_allThrew_12 : decode cX2_allThrew 12 = .ok (.iload_n 1, 1) := by decide +kernel
theorem dX2_allThrew_13 : decode cX2_allThrew 13 = .ok (.aload_n 0, 1) := by decide +kernel
theorem dX2_allThrew_14 : decode cX2_allThrew 14 = .ok (.getfield 36, 3) := by decide +kernel
theorem dX2_allThrew_17 : decode cX2_allThrew 17 = .ok (.iload_n 2, 1) := by decide +kernel
theorem dX2_allThrew_18 : decode cX2_allThrew 18 = .ok (.aaload, 1) := by decide +kernel
theorem dX2_allThrew_19 : decode cX2_allThrew 19 = .ok (.getfield 95, 3) := by decide +kernel
theorem dX2_allThrew_22 : decode cX2_allThrew 22 = .ok (.iadd, 1) := by decide +kernel
theorem dX2_allThrew_23 : decode cX2_allThrew 23 = .ok (.istore_n 1, 1) := by decide +kernel
theorem dX2_allThrew_24 : decode cX2_allThrew 24 = .ok (.iinc 2 1, 3) := by decide +kernel
theorem dX2_allThrew_27 : decode cX2_allThrew 27 = .ok (.goto (-23), 3) := by decide +kernel
theorem dX2_allThrew_30 : decode cX2_allThrew 30 = .ok (.iload_n 1, 1) := by decide +kernel
theorem dX2_allThrew_31 : decode cX2_allThrew 31 = .ok (.ireturn, 1) := by decide +kernel
theorem dX2_allPaid_0 : decode cX2_allPaid 0 = .ok (.iconst 0, 1) := by decide +kernel
theorem dX2_allPaid_1 : decode cX2_allPaid 1 = .ok (.istore_n 1, 1) := by decide +kernel
theorem dX2_allPaid_2 : decode cX2_allPaid 2 = .ok (.iconst 0, 1) := by decide +kernel
theorem dX2_allPaid_3 : decode cX2_allPaid 3 = .ok (.istore_n 2, 1) := by decide +kernel
theorem dX2_allPaid_4 : decode cX2_allPaid 4 = .ok (.iload_n 2, 1) := by decide +kernel
theorem dX2_allPaid_5 : decode cX2_allPaid 5 = .ok (.aload_n 0, 1) := by decide +kernel
theorem dX2_allPaid_6 : decode cX2_allPaid 6 = .ok (.getfield 31, 3) := by decide +kernel
theorem dX2_allPaid_9 : decode cX2_allPaid 9 = .ok (.if_icmp .ge 25, 3) := by decide +kernel
theorem dX2_allPaid_12 : decode cX2_allPaid 12 = .ok (.iload_n 1, 1) := by decide +kernel
theorem dX2_allPaid_13 : decode cX2_allPaid 13 = .ok (.iconst 0, 1) := by decide +kernel
theorem dX2_allPaid_14 : decode cX2_allPaid 14 = .ok (.aload_n 0, 1) := by decide +kernel
theorem dX2_allPaid_15 : decode cX2_allPaid 15 = .ok (.getfield 36, 3) := by decide +kernel
theorem dX2_allPaid_18 : decode cX2_allPaid 18 = .ok (.iload_n 2, 1) := by decide +kernel
theorem dX2_allPaid_19 : decode cX2_allPaid 19 = .ok (.aaload, 1) := by decide +kernel
theorem dX2_allPaid_20 : decode cX2_allPaid 20 = .ok (.getfield 95, 3) := by decide +kernel
theorem dX2_allPaid_23 : decode cX2_allPaid 23 = .ok (.invokestatic 60, 3) := by decide +kernel
theorem dX2_allPaid_26 : decode cX2_allPaid 26 = .ok (.iadd, 1) := by decide +kernel
theorem dX2_allPaid_27 : decode cX2_allPaid 27 = .ok (.istore_n 1, 1) := by decide +kernel
theorem dX2_allPaid_28 : decode cX2_allPaid 28 = .ok (.iinc 2 1, 3) := by decide +kernel
theorem dX2_allPaid_31 : decode cX2_allPaid 31 = .ok (.goto (-27), 3) := by decide +kernel
theorem dX2_allPaid_34 : decode cX2_allPaid 34 = .ok (.iload_n 1, 1) := by decide +kernel
theorem dX2_allPaid_35 : decode cX2_allPaid 35 = .ok (.ireturn, 1) := by decide +kernel
theorem dX3_init_0 : decode cX3_init 0 = .ok (.aload_n 0, 1) := by decide +kernel
theorem dX3_init_1 : decode cX3_init 1 = .ok (.invokespecial 3, 3) := by decide +kernel
theorem dX3_init_4 : decode cX3_init 4 = .ok (.aload_n 0, 1) := by decide +kernel
theorem dX3_init_5 : decode cX3_init 5 = .ok (.bipush 120, 2) := by decide +kernel
theorem dX3_init_7 : decode cX3_init 7 = .ok (.newarray .byte, 2) := by decide +kernel
theorem dX3_init_9 : decode cX3_init 9 = .ok (.putfield 9, 3) := by decide +kernel
theorem dX3_init_12 : decode cX3_init 12 = .ok (.aload_n 0, 1) := by decide +kernel
theorem dX3_init_13 : decode cX3_init 13 = .ok (.iconst 0, 1) := by decide +kernel
theorem dX3_init_14 : decode cX3_init 14 = .ok (.putfield 15, 3) := by decide +kernel
theorem dX3_init_17 : decode cX3_init 17 = .ok (.aload_n 0, 1) := by decide +kernel
theorem dX3_init_18 : decode cX3_init 18 = .ok (.iconst 0, 1) := by decide +kernel
theorem dX3_init_19 : decode cX3_init 19 = .ok (.putfield 19, 3) := by decide +kernel
theorem dX3_init_22 : decode cX3_init 22 = .ok (.aload_n 0, 1) := by decide +kernel
theorem dX3_init_23 : decode cX3_init 23 = .ok (.iconst 0, 1) := by decide +kernel
theorem dX3_init_24 : decode cX3_init 24 = .ok (.putfield 22, 3) := by decide +kernel
theorem dX3_init_27 : decode cX3_init 27 = .ok (.aload_n 0, 1) := by decide +kernel
theorem dX3_init_28 : decode cX3_init 28 = .ok (.iconst 0, 1) := by decide +kernel
theorem dX3_init_29 : decode cX3_init 29 = .ok (.putfield 25, 3) := by decide +kernel
theorem dX3_init_32 : decode cX3_init 32 = .ok (.aload_n 0, 1) := by decide +kernel
theorem dX3_init_33 : decode cX3_init 33 = .ok (.iconst 0, 1) := by decide +kernel
theorem dX3_init_34 : decode cX3_init 34 = .ok (.putfield 28, 3) := by decide +kernel
theorem dX3_init_37 : decode cX3_init 37 = .ok (.return_, 1) := by decide +kernel
theorem dX3_append_0 : decode cX3_append 0 = .ok (.aload_n 0, 1) := by decide +kernel
theorem dX3_append_1 : decode cX3_append 1 = .ok (.getfield 9, 3) := by decide +kernel
theorem dX3_append_4 : decode cX3_append 4 = .ok (.aload_n 0, 1) := by decide +kernel
theorem dX3_append_5 : decode cX3_append 5 = .ok (.getfield 15, 3) := by decide +kernel
theorem dX3_append_8 : decode cX3_append 8 = .ok (.iload_n 1, 1) := by decide +kernel
theorem dX3_append_9 : decode cX3_append 9 = .ok (.bastore, 1) := by decide +kernel
theorem dX3_append_10 : decode cX3_append 10 = .ok (.aload_n 0, 1) := by decide +kernel
theorem dX3_append_11 : decode cX3_append 11 = .ok (.dup, 1) := by decide +kernel
theorem dX3_append_12 : decode cX3_append 12 = .ok (.getfield 15, 3) := by decide +kernel
theorem dX3_append_15 : decode cX3_append 15 = .ok (.iconst 1, 1) := by decide +kernel
theorem dX3_append_16 : decode cX3_append 16 = .ok (.iadd, 1) := by decide +kernel
theorem dX3_append_17 : decode cX3_append 17 = .ok (.putfield 15, 3) := by decide +kernel
theorem dX3_append_20 : decode cX3_append 20 = .ok (.return_, 1) := by decide +kernel
theorem dX3_tell_0 : decode cX3_tell 0 = .ok (.aload_n 0, 1) := by decide +kernel
theorem dX3_tell_1 : decode cX3_tell 1 = .ok (.iconst 0, 1) := by decide +kernel
theorem dX3_tell_2 : decode cX3_tell 2 = .ok (.putfield 25, 3) := by decide +kernel
theorem dX3_tell_5 : decode cX3_tell 5 = .ok (.aload_n 0, 1) := by decide +kernel
theorem dX3_tell_6 : decode cX3_tell 6 = .ok (.invokevirtual 31, 3) := by decide +kernel
theorem dX3_tell_9 : decode cX3_tell 9 = .ok (.iconst 1, 1) := by decide +kernel
theorem dX3_tell_10 : decode cX3_tell 10 = .ok (.istore_n 2, 1) := by decide +kernel
theorem dX3_tell_11 : decode cX3_tell 11 = .ok (.iload_n 2, 1) := by decide +kernel
theorem dX3_tell_12 : decode cX3_tell 12 = .ok (.bipush 120, 2) := by decide +kernel
theorem dX3_tell_14 : decode cX3_tell 14 = .ok (.if_icmp .gt 44, 3) := by decide +kernel
theorem dX3_tell_17 : decode cX3_tell 17 = .ok (.aload_n 0, 1) := by decide +kernel
theorem dX3_tell_18 : decode cX3_tell 18 = .ok (.aload_n 1, 1) := by decide +kernel
theorem dX3_tell_19 : decode cX3_tell 19 = .ok (.invokevirtual 34, 3) := by decide +kernel
theorem dX3_tell_22 : decode cX3_tell 22 = .ok (.ifCond .ne 6, 3) := by decide +kernel
theorem dX3_tell_25 : decode cX3_tell 25 = .ok (.goto 33, 3) := by decide +kernel
theorem dX3_tell_28 : decode cX3_tell 28 = .ok (.aload_n 0, 1) := by decide +kernel
theorem dX3_tell_29 : decode cX3_tell 29 = .ok (.getfield 19, 3) := by decide +kernel
theorem dX3_tell_32 : decode cX3_tell 32 = .ok (.ifCond .ne 5, 3) := by decide +kernel
theorem dX3_tell_35 : decode cX3_tell 35 = .ok (.iload_n 2, 1) := by decide +kernel
theorem dX3_tell_36 : decode cX3_tell 36 = .ok (.ireturn, 1) := by decide +kernel
theorem dX3_tell_37 : decode cX3_tell 37 = .ok (.aload_n 0, 1) := by decide +kernel
theorem dX3_tell_38 : decode cX3_tell 38 = .ok (.getfield 19, 3) := by decide +kernel
theorem dX3_tell_41 : decode cX3_tell 41 = .ok (.iconst 3, 1) := by decide +kernel
theorem dX3_tell_42 : decode cX3_tell 42 = .ok (.if_icmp .eq 6, 3) := by decide +kernel
theorem dX3_tell_45 : decode cX3_tell 45 = .ok (.goto 13, 3) := by decide +kernel
theorem dX3_tell_48 : decode cX3_tell 48 = .ok (.aload_n 0, 1) := by decide +kernel
theorem dX3_tell_49 : decode cX3_tell 49 = .ok (.invokevirtual 31, 3) := by decide +kernel
theorem dX3_tell_52 : decode cX3_tell 52 = .ok (.iinc 2 1, 3) := by decide +kernel
theorem dX3_tell_55 : decode cX3_tell 55 = .ok (.goto (-44), 3) := by decide +kernel
theorem dX3_tell_58 : decode cX3_tell 58 = .ok (.iconst (-1), 1) := by decide +kernel
theorem dX3_tell_59 : decode cX3_tell 59 = .ok (.aload_n 0, 1) := by decide +kernel
theorem dX3_tell_60 : decode cX3_tell 60 = .ok (.getfield 22, 3) := by decide +kernel
theorem dX3_tell_63 : decode cX3_tell 63 = .ok (.isub, 1) := by decide +kernel
theorem dX3_tell_64 : decode cX3_tell 64 = .ok (.ireturn, 1) := by decide +kernel
theorem dX3_takeItem_0 : decode cX3_takeItem 0 = .ok (.aload_n 0, 1) := by decide +kernel
theorem dX3_takeItem_1 : decode cX3_takeItem 1 = .ok (.getfield 19, 3) := by decide +kernel
theorem dX3_takeItem_4 : decode cX3_takeItem 4 = .ok (.iconst 1, 1) := by decide +kernel
theorem dX3_takeItem_5 : decode cX3_takeItem 5 = .ok (.if_icmp .eq 5, 3) := by decide +kernel
theorem dX3_takeItem_8 : decode cX3_takeItem 8 = .ok (.iconst 0, 1) := by decide +kernel
theorem dX3_takeItem_9 : decode cX3_takeItem 9 = .ok (.ireturn, 1) := by decide +kernel
theorem dX3_takeItem_10 : decode cX3_takeItem 10 = .ok (.aload_n 0, 1) := by decide +kernel
theorem dX3_takeItem_11 : decode cX3_takeItem 11 = .ok (.invokevirtual 38, 3) := by decide +kernel
theorem dX3_takeItem_14 : decode cX3_takeItem 14 = .ok (.istore_n 2, 1) := by decide +kernel
theorem dX3_takeItem_15 : decode cX3_takeItem 15 = .ok (.iload_n 2, 1) := by decide +kernel
theorem dX3_takeItem_16 : decode cX3_takeItem 16 = .ok (.iconst (-1), 1) := by decide +kernel
theorem dX3_takeItem_17 : decode cX3_takeItem 17 = .ok (.if_icmp .eq 10, 3) := by decide +kernel
theorem dX3_takeItem_20 : decode cX3_takeItem 20 = .ok (.aload_n 0, 1) := by decide +kernel
theorem dX3_takeItem_21 : decode cX3_takeItem 21 = .ok (.aload_n 1, 1) := by decide +kernel
theorem dX3_takeItem_22 : decode cX3_takeItem 22 = .ok (.iload_n 2, 1) := by decide +kernel
theorem dX3_takeItem_23 : decode cX3_takeItem 23 = .ok (.invokevirtual 42, 3) := by decide +kernel
theorem dX3_takeItem_26 : decode cX3_takeItem 26 = .ok (.ireturn, 1) := by decide +kernel
theorem dX3_takeItem_27 : decode cX3_takeItem 27 = .ok (.aload_n 0, 1) := by decide +kernel
theorem dX3_takeItem_28 : decode cX3_takeItem 28 = .ok (.ldc 46, 2) := by decide +kernel
theorem dX3_takeItem_30 : decode cX3_takeItem 30 = .ok (.invokevirtual 48, 3) := by decide +kernel
theorem dX3_takeItem_33 : decode cX3_takeItem 33 = .ok (.ifCond .eq 9, 3) := by decide +kernel
theorem dX3_takeItem_36 : decode cX3_takeItem 36 = .ok (.aload_n 0, 1) := by decide +kernel
theorem dX3_takeItem_37 : decode cX3_takeItem 37 = .ok (.aload_n 1, 1) := by decide +kernel
theorem dX3_takeItem_38 : decode cX3_takeItem 38 = .ok (.invokevirtual 52, 3) := by decide +kernel
theorem dX3_takeItem_41 : decode cX3_takeItem 41 = .ok (.ireturn, 1) := by decide +kernel
theorem dX3_takeItem_42 : decode cX3_takeItem 42 = .ok (.aload_n 0, 1) := by decide +kernel
theorem dX3_takeItem_43 : decode cX3_takeItem 43 = .ok (.ldc 55, 2) := by decide +kernel
theorem dX3_takeItem_45 : decode cX3_takeItem 45 = .ok (.invokevirtual 48, 3) := by decide +kernel
theorem dX3_takeItem_48 : decode cX3_takeItem 48 = .ok (.ifCond .eq 9, 3) := by decide +kernel
theorem dX3_takeItem_51 : decode cX3_takeItem 51 = .ok (.aload_n 0, 1) := by decide +kernel
theorem dX3_takeItem_52 : decode cX3_takeItem 52 = .ok (.aload_n 1, 1) := by decide +kernel
theorem dX3_takeItem_53 : decode cX3_takeItem 53 = .ok (.invokevirtual 57, 3) := by decide +kernel
theorem dX3_takeItem_56 : decode cX3_takeItem 56 = .ok (.ireturn, 1) := by decide +kernel
theorem dX3_takeItem_57 : decode cX3_takeItem 57 = .ok (.aload_n 0, 1) := by decide +kernel
theorem dX3_takeItem_58 : decode cX3_takeItem 58 = .ok (.ldc 60, 2) := by decide +kernel
theorem dX3_takeItem_60 : decode cX3_takeItem 60 = .ok (.invokevirtual 48, 3) := by decide +kernel
theorem dX3_takeItem_63 : decode cX3_takeItem 63 = .ok (.ifCond .eq 9, 3) := by decide +kernel
theorem dX3_takeItem_66 : decode cX3_takeItem 66 = .ok (.aload_n 0, 1) := by decide +kernel
theorem dX3_takeItem_67 : decode cX3_takeItem 67 = .ok (.aload_n 1, 1) := by decide +kernel
theorem dX3_takeItem_68 : decode cX3_takeItem 68 = .ok (.invokevirtual 62, 3) := by decide +kernel
theorem dX3_takeItem_71 : decode cX3_takeItem 71 = .ok (.ireturn, 1) := by decide +kernel
theorem dX3_takeItem_72 : decode cX3_takeItem 72 = .ok (.aload_n 0, 1) := by decide +kernel
theorem dX3_takeItem_73 : decode cX3_takeItem 73 = .ok (.ldc 65, 2) := by decide +kernel
theorem dX3_takeItem_75 : decode cX3_takeItem 75 = .ok (.invokevirtual 48, 3) := by decide +kernel
theorem dX3_takeItem_78 : decode cX3_takeItem 78 = .ok (.ifCond .eq 15, 3) := by decide +kernel
theorem dX3_takeItem_81 : decode cX3_takeItem 81 = .ok (.aload_n 1, 1) := by decide +kernel
theorem dX3_takeItem_82 : decode cX3_takeItem 82 = .ok (.iconst 0, 1) := by decide +kernel
theorem dX3_takeItem_83 : decode cX3_takeItem 83 = .ok (.iconst 0, 1) := by decide +kernel
theorem dX3_takeItem_84 : decode cX3_takeItem 84 = .ok (.invokevirtual 67, 3) := by decide +kernel
theorem dX3_takeItem_87 : decode cX3_takeItem 87 = .ok (.aload_n 0, 1) := by decide +kernel
theorem dX3_takeItem_88 : decode cX3_takeItem 88 = .ok (.invokevirtual 31, 3) := by decide +kernel
theorem dX3_takeItem_91 : decode cX3_takeItem 91 = .ok (.iconst 1, 1) := by decide +kernel
theorem dX3_takeItem_92 : decode cX3_takeItem 92 = .ok (.ireturn, 1) := by decide +kernel
theorem dX3_takeItem_93 : decode cX3_takeItem 93 = .ok (.aload_n 0, 1) := by decide +kernel
theorem dX3_takeItem_94 : decode cX3_takeItem 94 = .ok (.ldc 73, 2) := by decide +kernel
theorem dX3_takeItem_96 : decode cX3_takeItem 96 = .ok (.invokevirtual 48, 3) := by decide +kernel
theorem dX3_takeItem_99 : decode cX3_takeItem 99 = .ok (.ifCond .eq 15, 3) := by decide +kernel
theorem dX3_takeItem_102 : decode cX3_takeItem 102 = .ok (.aload_n 0, 1) := by decide +kernel
theorem dX3_takeItem_103 : decode cX3_takeItem 103 = .ok (.aload_n 1, 1) := by decide +kernel
theorem dX3_takeItem_104 : decode cX3_takeItem 104 = .ok (.invokevirtual 75, 3) := by decide +kernel
theorem dX3_takeItem_107 : decode cX3_takeItem 107 = .ok (.ifCond .eq 7, 3) := by decide +kernel
theorem dX3_takeItem_110 : decode cX3_takeItem 110 = .ok (.iconst 1, 1) := by decide +kernel
theorem dX3_takeItem_111 : decode cX3_takeItem 111 = .ok (.goto 4, 3) := by decide +kernel
theorem dX3_takeItem_114 : decode cX3_takeItem 114 = .ok (.iconst 0, 1) := by decide +kernel
theorem dX3_takeItem_115 : decode cX3_takeItem 115 = .ok (.ireturn, 1) := by decide +kernel
theorem dX3_takePerson_0 : decode cX3_takePerson 0 = .ok (.aload_n 1, 1) := by decide +kernel
theorem dX3_takePerson_1 : decode cX3_takePerson 1 = .ok (.getfield 78, 3) := by decide +kernel
theorem dX3_takePerson_4 : decode cX3_takePerson 4 = .ok (.bipush 10, 2) := by decide +kernel
theorem dX3_takePerson_6 : decode cX3_takePerson 6 = .ok (.if_icmp .lt 5, 3) := by decide +kernel
theorem dX3_takePerson_9 : decode cX3_takePerson 9 = .ok (.iconst 0, 1) := by decide +kernel
theorem dX3_takePerson_10 : decode cX3_takePerson 10 = .ok (.ireturn, 1) := by decide +kernel
theorem dX3_takePerson_11 : decode cX3_takePerson 11 = .ok (.aload_n 1, 1) := by decide +kernel
theorem dX3_takePerson_12 : decode cX3_takePerson 12 = .ok (.getfield 81, 3) := by decide +kernel
theorem dX3_takePerson_15 : decode cX3_takePerson 15 = .ok (.aload_n 1, 1) := by decide +kernel
theorem dX3_takePerson_16 : decode cX3_takePerson 16 = .ok (.iload_n 2, 1) := by decide +kernel
theorem dX3_takePerson_17 : decode cX3_takePerson 17 = .ok (.invokevirtual 85, 3) := by decide +kernel
theorem dX3_takePerson_20 : decode cX3_takePerson 20 = .ok (.aaload, 1) := by decide +kernel
theorem dX3_takePerson_21 : decode cX3_takePerson 21 = .ok (.astore_n 3, 1) := by decide +kernel
theorem dX3_takePerson_22 : decode cX3_takePerson 22 = .ok (.aload_n 0, 1) := by decide +kernel
theorem dX3_takePerson_23 : decode cX3_takePerson 23 = .ok (.invokevirtual 31, 3) := by decide +kernel
theorem dX3_takePerson_26 : decode cX3_takePerson 26 = .ok (.aload_n 0, 1) := by decide +kernel
theorem dX3_takePerson_27 : decode cX3_takePerson 27 = .ok (.ldc 89, 2) := by decide +kernel
theorem dX3_takePerson_29 : decode cX3_takePerson 29 = .ok (.invokevirtual 48, 3) := by decide +kernel
theorem dX3_takePerson_32 : decode cX3_takePerson 32 = .ok (.ifCond .eq 27, 3) := by decide +kernel
theorem dX3_takePerson_35 : decode cX3_takePerson 35 = .ok (.aload_n 0, 1) := by decide +kernel
theorem dX3_takePerson_36 : decode cX3_takePerson 36 = .ok (.invokevirtual 31, 3) := by decide +kernel
theorem dX3_takePerson_39 : decode cX3_takePerson 39 = .ok (.aload_n 0, 1) := by decide +kernel
theorem dX3_takePerson_40 : decode cX3_takePerson 40 = .ok (.sipush 999, 3) := by decide +kernel
theorem dX3_takePerson_43 : decode cX3_takePerson 43 = .ok (.invokevirtual 91, 3) := by decide +kernel
theorem dX3_takePerson_46 : decode cX3_takePerson 46 = .ok (.ifCond .ne 5, 3) := by decide +kernel
theorem dX3_takePerson_49 : decode cX3_takePerson 49 = .ok (.iconst 0, 1) := by decide +kernel
theorem dX3_takePerson_50 : decode cX3_takePerson 50 = .ok (.ireturn, 1) := by decide +kernel
theorem dX3_takePerson_51 : decode cX3_takePerson 51 = .ok (.aload_n 3, 1) := by decide +kernel
theorem dX3_takePerson_52 : decode cX3_takePerson 52 = .ok (.aload_n 0, 1) := by decide +kernel
theorem dX3_takePerson_53 : decode cX3_takePerson 53 = .ok (.invokevirtual 95, 3) := by decide +kernel
theorem dX3_takePerson_56 : decode cX3_takePerson 56 = .ok (.putfield 98, 3) := by decide +kernel
theorem dX3_takePerson_59 : decode cX3_takePerson 59 = .ok (.aload_n 0, 1) := by decide +kernel
theorem dX3_takePerson_60 : decode cX3_takePerson 60 = .ok (.ldc 102, 2) := by decide +kernel
theorem dX3_takePerson_62 : decode cX3_takePerson 62 = .ok (.invokevirtual 48, 3) := by decide +kernel
theorem dX3_takePerson_65 : decode cX3_takePerson 65 = .ok (.ifCond .eq 26, 3) := by decide +kernel
theorem dX3_takePerson_68 : decode cX3_takePerson 68 = .ok (.aload_n 0, 1) := by decide +kernel
theorem dX3_takePerson_69 : decode cX3_takePerson 69 = .ok (.invokevirtual 31, 3) := by decide +kernel
theorem dX3_takePerson_72 : decode cX3_takePerson 72 = .ok (.aload_n 0, 1) := by decide +kernel
theorem dX3_takePerson_73 : decode cX3_takePerson 73 = .ok (.bipush 99, 2) := by decide +kernel
theorem dX3_takePerson_75 : decode cX3_takePerson 75 = .ok (.invokevirtual 91, 3) := by decide +kernel
theorem dX3_takePerson_78 : decode cX3_takePerson 78 = .ok (.ifCond .ne 5, 3) := by decide +kernel
theorem dX3_takePerson_81 : decode cX3_takePerson 81 = .ok (.iconst 0, 1) := by decide +kernel
theorem dX3_takePerson_82 : decode cX3_takePerson 82 = .ok (.ireturn, 1) := by decide +kernel
theorem dX3_takePerson_83 : decode cX3_takePerson 83 = .ok (.aload_n 3, 1) := by decide +kernel
theorem dX3_takePerson_84 : decode cX3_takePerson 84 = .ok (.aload_n 0, 1) := by decide +kernel
theorem dX3_takePerson_85 : decode cX3_takePerson 85 = .ok (.invokevirtual 95, 3) := by decide +kernel
theorem dX3_takePerson_88 : decode cX3_takePerson 88 = .ok (.putfield 104, 3) := by decide +kernel
theorem dX3_takePerson_91 : decode cX3_takePerson 91 = .ok (.aload_n 0, 1) := by decide +kernel
theorem dX3_takePerson_92 : decode cX3_takePerson 92 = .ok (.ldc 106, 2) := by decide +kernel
theorem dX3_takePerson_94 : decode cX3_takePerson 94 = .ok (.invokevirtual 48, 3) := by decide +kernel
theorem dX3_takePerson_97 : decode cX3_takePerson 97 = .ok (.ifCond .eq 26, 3) := by decide +kernel
theorem dX3_takePerson_100 : decode cX3_takePerson 100 = .ok (.aload_n 0, 1) := by decide +kernel
theorem dX3_takePerson_101 : decode cX3_takePerson 101 = .ok (.invokevirtual 31, 3) := by decide +kernel
theorem dX3_takePerson_104 : decode cX3_takePerson 104 = .ok (.aload_n 0, 1) := by decide +kernel
theorem dX3_takePerson_105 : decode cX3_takePerson 105 = .ok (.bipush 99, 2) := by decide +kernel
theorem dX3_takePerson_107 : decode cX3_takePerson 107 = .ok (.invokevirtual 91, 3) := by decide +kernel
theorem dX3_takePerson_110 : decode cX3_takePerson 110 = .ok (.ifCond .ne 5, 3) := by decide +kernel
theorem dX3_takePerson_113 : decode cX3_takePerson 113 = .ok (.iconst 0, 1) := by decide +kernel
theorem dX3_takePerson_114 : decode cX3_takePerson 114 = .ok (.ireturn, 1) := by decide +kernel
theorem dX3_takePerson_115 : decode cX3_takePerson 115 = .ok (.aload_n 3, 1) := by decide +kernel
theorem dX3_takePerson_116 : decode cX3_takePerson 116 = .ok (.aload_n 0, 1) := by decide +kernel
theorem dX3_takePerson_117 : decode cX3_takePerson 117 = .ok (.invokevirtual 95, 3) := by decide +kernel
theorem dX3_takePerson_120 : decode cX3_takePerson 120 = .ok (.putfield 108, 3) := by decide +kernel
theorem dX3_takePerson_123 : decode cX3_takePerson 123 = .ok (.iconst 1, 1) := by decide +kernel
theorem dX3_takePerson_124 : decode cX3_takePerson 124 = .ok (.ireturn, 1) := by decide +kernel
theorem dX3_takeCoins_0 : decode cX3_takeCoins 0 = .ok (.aload_n 0, 1) := by decide +kernel
theorem dX3_takeCoins_1 : decode cX3_takeCoins 1 = .ok (.invokevirtual 31, 3) := by decide +kernel
theorem dX3_takeCoins_4 : decode cX3_takeCoins 4 = .ok (.aload_n 0, 1) := by decide +kernel
theorem dX3_takeCoins_5 : decode cX3_takeCoins 5 = .ok (.sipush 999, 3) := by decide +kernel
theorem dX3_takeCoins_8 : decode cX3_takeCoins 8 = .ok (.invokevirtual 91, 3) := by decide +kernel
theorem dX3_takeCoins_11 : decode cX3_takeCoins 11 = .ok (.ifCond .ne 5, 3) := by decide +kernel
theorem dX3_takeCoins_14 : decode cX3_takeCoins 14 = .ok (.iconst 0, 1) := by decide +kernel
theorem dX3_takeCoins_15 : decode cX3_takeCoins 15 = .ok (.ireturn, 1) := by decide +kernel
theorem dX3_takeCoins_16 : decode cX3_takeCoins 16 = .ok (.aload_n 1, 1) := by decide +kernel
theorem dX3_takeCoins_17 : decode cX3_takeCoins 17 = .ok (.aload_n 0, 1) := by decide +kernel
theorem dX3_takeCoins_18 : decode cX3_takeCoins 18 = .ok (.invokevirtual 95, 3) := by decide +kernel
theorem dX3_takeCoins_21 : decode cX3_takeCoins 21 = .ok (.putfield 110, 3) := by decide +kernel
theorem dX3_takeCoins_24 : decode cX3_takeCoins 24 = .ok (.iconst 1, 1) := by decide +kernel
theorem dX3_takeCoins_25 : decode cX3_takeCoins 25 = .ok (.ireturn, 1) := by decide +kernel
theorem dX3_takeLaw_0 : decode cX3_takeLaw 0 = .ok (.aload_n 0, 1) := by decide +kernel
theorem dX3_takeLaw_1 : decode cX3_takeLaw 1 = .ok (.invokevirtual 31, 3) := by decide +kernel
theorem dX3_takeLaw_4 : decode cX3_takeLaw 4 = .ok (.aload_n 0, 1) := by decide +kernel
theorem dX3_takeLaw_5 : decode cX3_takeLaw 5 = .ok (.iconst 2, 1) := by decide +kernel
theorem dX3_takeLaw_6 : decode cX3_takeLaw 6 = .ok (.invokevirtual 91, 3) := by decide +kernel
theorem dX3_takeLaw_9 : decode cX3_takeLaw 9 = .ok (.ifCond .ne 5, 3) := by decide +kernel
theorem dX3_takeLaw_12 : decode cX3_takeLaw 12 = .ok (.iconst 0, 1) := by decide +kernel
theorem dX3_takeLaw_13 : decode cX3_takeLaw 13 = .ok (.ireturn, 1) := by decide +kernel
theorem dX3_takeLaw_14 : decode cX3_takeLaw 14 = .ok (.aload_n 1, 1) := by decide +kernel
theorem dX3_takeLaw_15 : decode cX3_takeLaw 15 = .ok (.aload_n 0, 1) := by decide +kernel
theorem dX3_takeLaw_16 : decode cX3_takeLaw 16 = .ok (.invokevirtual 95, 3) := by decide +kernel
theorem dX3_takeLaw_19 : decode cX3_takeLaw 19 = .ok (.putfield 112, 3) := by decide +kernel
theorem dX3_takeLaw_22 : decode cX3_takeLaw 22 = .ok (.iconst 1, 1) := by decide +kernel
theorem dX3_takeLaw_23 : decode cX3_takeLaw 23 = .ok (.ireturn, 1) := by decide +kernel
theorem dX3_takeDiver_0 : decode cX3_takeDiver 0 = .ok (.aload_n 1, 1) := by decide +kernel
theorem dX3_takeDiver_1 : decode cX3_takeDiver 1 = .ok (.iconst 1, 1) := by decide +kernel
theorem dX3_takeDiver_2 : decode cX3_takeDiver 2 = .ok (.iconst 0, 1) := by decide +kernel
theorem dX3_takeDiver_3 : decode cX3_takeDiver 3 = .ok (.invokevirtual 67, 3) := by decide +kernel
theorem dX3_takeDiver_6 : decode cX3_takeDiver 6 = .ok (.aload_n 0, 1) := by decide +kernel
theorem dX3_takeDiver_7 : decode cX3_takeDiver 7 = .ok (.invokevirtual 31, 3) := by decide +kernel
theorem dX3_takeDiver_10 : decode cX3_takeDiver 10 = .ok (.aload_n 0, 1) := by decide +kernel
theorem dX3_takeDiver_11 : decode cX3_takeDiver 11 = .ok (.ldc 114, 2) := by decide +kernel
theorem dX3_takeDiver_13 : decode cX3_takeDiver 13 = .ok (.invokevirtual 48, 3) := by decide +kernel
theorem dX3_takeDiver_16 : decode cX3_takeDiver 16 = .ok (.ifCond .ne 5, 3) := by decide +kernel
theorem dX3_takeDiver_19 : decode cX3_takeDiver 19 = .ok (.iconst 1, 1) := by decide +kernel
theorem dX3_takeDiver_20 : decode cX3_takeDiver 20 = .ok (.ireturn, 1) := by decide +kernel
theorem dX3_takeDiver_21 : decode cX3_takeDiver 21 = .ok (.aload_n 0, 1) := by decide +kernel
theorem dX3_takeDiver_22 : decode cX3_takeDiver 22 = .ok (.invokevirtual 31, 3) := by decide +kernel
theorem dX3_takeDiver_25 : decode cX3_takeDiver 25 = .ok (.aload_n 0, 1) := by decide +kernel
theorem dX3_takeDiver_26 : decode cX3_takeDiver 26 = .ok (.getfield 19, 3) := by decide +kernel
theorem dX3_takeDiver_29 : decode cX3_takeDiver 29 = .ok (.iconst 4, 1) := by decide +kernel
theorem dX3_takeDiver_30 : decode cX3_takeDiver 30 = .ok (.if_icmp .ne 7, 3) := by decide +kernel
theorem dX3_takeDiver_33 : decode cX3_takeDiver 33 = .ok (.iconst 1, 1) := by decide +kernel
theorem dX3_takeDiver_34 : decode cX3_takeDiver 34 = .ok (.goto 4, 3) := by decide +kernel
theorem dX3_takeDiver_37 : decode cX3_takeDiver 37 = .ok (.iconst 0, 1) := by decide +kernel
theorem dX3_takeDiver_38 : decode cX3_takeDiver 38 = .ok (.istore_n 2, 1) := by decide +kernel
theorem dX3_takeDiver_39 : decode cX3_takeDiver 39 = .ok (.iload_n 2, 1) := by decide +kernel
theorem dX3_takeDiver_40 : decode cX3_takeDiver 40 = .ok (.ifCond .eq 7, 3) := by decide +kernel
theorem dX3_takeDiver_43 : decode cX3_takeDiver 43 = .ok (.aload_n 0, 1) := by decide +kernel
theorem dX3_takeDiver_44 : decode cX3_takeDiver 44 = .ok (.invokevirtual 31, 3) := by decide +kernel
theorem dX3_takeDiver_47 : decode cX3_takeDiver 47 = .ok (.aload_n 0, 1) := by decide +kernel
theorem dX3_takeDiver_48 : decode cX3_takeDiver 48 = .ok (.bipush 20, 2) := by decide +kernel
theorem dX3_takeDiver_50 : decode cX3_takeDiver 50 = .ok (.invokevirtual 91, 3) := by decide +kernel
theorem dX3_takeDiver_53 : decode cX3_takeDiver 53 = .ok (.ifCond .ne 5, 3) := by decide +kernel
theorem dX3_takeDiver_56 : decode cX3_takeDiver 56 = .ok (.iconst 0, 1) := by decide +kernel
theorem dX3_takeDiver_57 : decode cX3_takeDiver 57 = .ok (.ireturn, 1) := by decide +kernel
theorem dX3_takeDiver_58 : decode cX3_takeDiver 58 = .ok (.aload_n 0, 1) := by decide +kernel
theorem dX3_takeDiver_59 : decode cX3_takeDiver 59 = .ok (.invokevirtual 95, 3) := by decide +kernel
theorem dX3_takeDiver_62 : decode cX3_takeDiver 62 = .ok (.istore_n 3, 1) := by decide +kernel
theorem dX3_takeDiver_63 : decode cX3_takeDiver 63 = .ok (.aload_n 1, 1) := by decide +kernel
theorem dX3_takeDiver_64 : decode cX3_takeDiver 64 = .ok (.iconst 1, 1) := by decide +kernel
theorem dX3_takeDiver_65 : decode cX3_takeDiver 65 = .ok (.iload_n 2, 1) := by decide +kernel
theorem dX3_takeDiver_66 : decode cX3_takeDiver 66 = .ok (.ifCond .eq 8, 3) := by decide +kernel
theorem dX3_takeDiver_69 : decode cX3_takeDiver 69 = .ok (.iload_n 3, 1) := by decide +kernel
theorem dX3_takeDiver_70 : decode cX3_takeDiver 70 = .ok (.ineg, 1) := by decide +kernel
theorem dX3_takeDiver_71 : decode cX3_takeDiver 71 = .ok (.goto 4, 3) := by decide +kernel
theorem dX3_takeDiver_74 : decode cX3_takeDiver 74 = .ok (.iload_n 3, 1) := by decide +kernel
theorem dX3_takeDiver_75 : decode cX3_takeDiver 75 = .ok (.invokevirtual 67, 3) := by decide +kernel
theorem dX3_takeDiver_78 : decode cX3_takeDiver 78 = .ok (.iconst 1, 1) := by decide +kernel
theorem dX3_takeDiver_79 : decode cX3_takeDiver 79 = .ok (.ireturn, 1) := by decide +kernel
theorem dX3_takeSwap_0 : decode cX3_takeSwap 0 = .ok (.aload_n 0, 1) := by decide +kernel
theorem dX3_takeSwap_1 : decode cX3_takeSwap 1 = .ok (.invokevirtual 31, 3) := by decide +kernel
theorem dX3_takeSwap_4 : decode cX3_takeSwap 4 = .ok (.aload_n 0, 1) := by decide +kernel
theorem dX3_takeSwap_5 : decode cX3_takeSwap 5 = .ok (.aload_n 1, 1) := by decide +kernel
theorem dX3_takeSwap_6 : decode cX3_takeSwap 6 = .ok (.getfield 78, 3) := by decide +kernel
theorem dX3_takeSwap_9 : decode cX3_takeSwap 9 = .ok (.iconst 1, 1) := by decide +kernel
theorem dX3_takeSwap_10 : decode cX3_takeSwap 10 = .ok (.isub, 1) := by decide +kernel
theorem dX3_takeSwap_11 : decode cX3_takeSwap 11 = .ok (.invokevirtual 91, 3) := by decide +kernel
theorem dX3_takeSwap_14 : decode cX3_takeSwap 14 = .ok (.ifCond .ne 5, 3) := by decide +kernel
theorem dX3_takeSwap_17 : decode cX3_takeSwap 17 = .ok (.iconst 0, 1) := by decide +kernel
theorem dX3_takeSwap_18 : decode cX3_takeSwap 18 = .ok (.ireturn, 1) := by decide +kernel
theorem dX3_takeSwap_19 : decode cX3_takeSwap 19 = .ok (.aload_n 0, 1) := by decide +kernel
theorem dX3_takeSwap_20 : decode cX3_takeSwap 20 = .ok (.invokevirtual 95, 3) := by decide +kernel
theorem dX3_takeSwap_23 : decode cX3_takeSwap 23 = .ok (.istore_n 2, 1) := by decide +kernel
theorem dX3_takeSwap_24 : decode cX3_takeSwap 24 = .ok (.aload_n 0, 1) := by decide +kernel
theorem dX3_takeSwap_25 : decode cX3_takeSwap 25 = .ok (.aload_n 1, 1) := by decide +kernel
theorem dX3_takeSwap_26 : decode cX3_takeSwap 26 = .ok (.getfield 78, 3) := by decide +kernel
theorem dX3_takeSwap_29 : decode cX3_takeSwap 29 = .ok (.iconst 1, 1) := by decide +kernel
theorem dX3_takeSwap_30 : decode cX3_takeSwap 30 = .ok (.isub, 1) := by decide +kernel
theorem dX3_takeSwap_31 : decode cX3_takeSwap 31 = .ok (.invokevirtual 91, 3) := by decide +kernel
theorem dX3_takeSwap_34 : decode cX3_takeSwap 34 = .ok (.ifCond .eq 11, 3) := by decide +kernel
theorem dX3_takeSwap_37 : decode cX3_takeSwap 37 = .ok (.aload_n 0, 1) := by decide +kernel
theorem dX3_takeSwap_38 : decode cX3_takeSwap 38 = .ok (.getfield 28, 3) := by decide +kernel
theorem dX3_takeSwap_41 : decode cX3_takeSwap 41 = .ok (.iload_n 2, 1) := by decide +kernel
theorem dX3_takeSwap_42 : decode cX3_takeSwap 42 = .ok (.if_icmp .ne 5, 3) := by decide +kernel
theorem dX3_takeSwap_45 : decode cX3_takeSwap 45 = .ok (.iconst 0, 1) := by decide +kernel
theorem dX3_takeSwap_46 : decode cX3_takeSwap 46 = .ok (.ireturn, 1) := by decide +kernel
theorem dX3_takeSwap_47 : decode cX3_takeSwap 47 = .ok (.aload_n 1, 1) := by decide +kernel
theorem dX3_takeSwap_48 : decode cX3_takeSwap 48 = .ok (.iload_n 2, 1) := by decide +kernel
theorem dX3_takeSwap_49 : decode cX3_takeSwap 49 = .ok (.aload_n 0, 1) := by decide +kernel
theorem dX3_takeSwap_50 : decode cX3_takeSwap 50 = .ok (.invokevirtual 95, 3) := by decide +kernel
theorem dX3_takeSwap_53 : decode cX3_takeSwap 53 = .ok (.invokevirtual 116, 3) := by decide +kernel
theorem dX3_takeSwap_56 : decode cX3_takeSwap 56 = .ok (.iconst 1, 1) := by decide +kernel
theorem dX3_takeSwap_57 : decode cX3_takeSwap 57 = .ok (.ireturn, 1) := by decide +kernel
theorem dX3_isNumber_0 : decode cX3_isNumber 0 = .ok (.aload_n 0, 1) := by decide +kernel
theorem dX3_isNumber_1 : decode cX3_isNumber 1 = .ok (.getfield 19, 3) := by decide +kernel
theorem dX3_isNumber_4 : decode cX3_isNumber 4 = .ok (.iconst 2, 1) := by decide +kernel
theorem dX3_isNumber_5 : decode cX3_isNumber 5 = .ok (.if_icmp .ne 15, 3) := by decide +kernel
theorem dX3_isNumber_8 : decode cX3_isNumber 8 = .ok (.aload_n 0, 1) := by decide +kernel
theorem dX3_isNumber_9 : decode cX3_isNumber 9 = .ok (.getfield 28, 3) := by decide +kernel
theorem dX3_isNumber_12 : decode cX3_isNumber 12 = .ok (.iload_n 1, 1) := by decide +kernel
theorem dX3_isNumber_13 : decode cX3_isNumber 13 = .ok (.if_icmp .gt 7, 3) := by decide +kernel
theorem dX3_isNumber_16 : decode cX3_isNumber 16 = .ok (.iconst 1, 1) := by decide +kernel
theorem dX3_isNumber_17 : decode cX3_isNumber 17 = .ok (.goto 4, 3) := by decide +kernel
theorem dX3_isNumber_20 : decode cX3_isNumber 20 = .ok (.iconst 0, 1) := by decide +kernel
theorem dX3_isNumber_21 : decode cX3_isNumber 21 = .ok (.ireturn, 1) := by decide +kernel
theorem dX3_takeNumber_0 : decode cX3_takeNumber 0 = .ok (.aload_n 0, 1) := by decide +kernel
theorem dX3_takeNumber_1 : decode cX3_takeNumber 1 = .ok (.getfield 28, 3) := by decide +kernel
theorem dX3_takeNumber_4 : decode cX3_takeNumber 4 = .ok (.istore_n 1, 1) := by decide +kernel
theorem dX3_takeNumber_5 : decode cX3_takeNumber 5 = .ok (.aload_n 0, 1) := by decide +kernel
theorem dX3_takeNumber_6 : decode cX3_takeNumber 6 = .ok (.invokevirtual 31, 3) := by decide +kernel
theorem dX3_takeNumber_9 : decode cX3_takeNumber 9 = .ok (.iload_n 1, 1) := by decide +kernel
theorem dX3_takeNumber_10 : decode cX3_takeNumber 10 = .ok (.ireturn, 1) := by decide +kernel
theorem dX3_kindNamed_0 : decode cX3_kindNamed 0 = .ok (.iconst 0, 1) := by decide +kernel
theorem dX3_kindNamed_1 : decode cX3_kindNamed 1 = .ok (.istore_n 1, 1) := by decide +kernel
theorem dX3_kindNamed_2 : decode cX3_kindNamed 2 = .ok (.iload_n 1, 1) := by decide +kernel
theorem dX3_kindNamed_3 : decode cX3_kindNamed 3 = .ok (.bipush 6, 2) := by decide +kernel
theorem dX3_kindNamed_5 : decode cX3_kindNamed 5 = .ok (.if_icmp .ge 22, 3) := by decide +kernel
theorem dX3_kindNamed_8 : decode cX3_kindNamed 8 = .ok (.aload_n 0, 1) := by decide +kernel
theorem dX3_kindNamed_9 : decode cX3_kindNamed 9 = .ok (.iload_n 1, 1) := by decide +kernel
theorem dX3_kindNamed_10 : decode cX3_kindNamed 10 = .ok (.invokestatic 120, 3) := by decide +kernel
theorem dX3_kindNamed_13 : decode cX3_kindNamed 13 = .ok (.invokevirtual 48, 3) := by decide +kernel
theorem dX3_kindNamed_16 : decode cX3_kindNamed 16 = .ok (.ifCond .eq 5, 3) := by decide +kernel
theorem dX3_kindNamed_19 : decode cX3_kindNamed 19 = .ok (.iload_n 1, 1) := by decide +kernel
theorem dX3_kindNamed_20 : decode cX3_kindNamed 20 = .ok (.ireturn, 1) := by decide +kernel
theorem dX3_kindNamed_21 : decode cX3_kindNamed 21 = .ok (.iinc 1 1, 3) := by decide +kernel
theorem dX3_kindNamed_24 : decode cX3_kindNamed 24 = .ok (.goto (-22), 3) := by decide +kernel
theorem dX3_kindNamed_27 : decode cX3_kindNamed 27 = .ok (.iconst (-1), 1) := by decide +kernel
theorem dX3_kindNamed_28 : decode cX3_kindNamed 28 = .ok (.ireturn, 1) := by decide +kernel
theorem dX3_nameOf_0 : decode cX3_nameOf 0 = .ok (.iload_n 0, 1) := by decide +kernel
theorem dX3_nameOf_1 : decode cX3_nameOf 1 = .ok (.tableswitch 50 0 4 #[35, 38, 41, 44, 47], 35) := by decide +kernel
theorem dX3_nameOf_36 : decode cX3_nameOf 36 = .ok (.ldc 124, 2) := by decide +kernel
theorem dX3_nameOf_38 : decode cX3_nameOf 38 = .ok (.areturn, 1) := by decide +kernel
theorem dX3_nameOf_39 : decode cX3_nameOf 39 = .ok (.ldc 126, 2) := by decide +kernel
theorem dX3_nameOf_41 : decode cX3_nameOf 41 = .ok (.areturn, 1) := by decide +kernel
theorem dX3_nameOf_42 : decode cX3_nameOf 42 = .ok (.ldc 128, 2) := by decide +kernel
theorem dX3_nameOf_44 : decode cX3_nameOf 44 = .ok (.areturn, 1) := by decide +kernel
theorem dX3_nameOf_45 : decode cX3_nameOf 45 = .ok (.ldc 130, 2) := by decide +kernel
theorem dX3_nameOf_47 : decode cX3_nameOf 47 = .ok (.areturn, 1) := by decide +kernel
theorem dX3_nameOf_48 : decode cX3_nameOf 48 = .ok (.ldc 132, 2) := by decide +kernel
theorem dX3_nameOf_50 : decode cX3_nameOf 50 = .ok (.areturn, 1) := by decide +kernel
theorem dX3_nameOf_51 : decode cX3_nameOf 51 = .ok (.ldc 134, 2) := by decide +kernel
theorem dX3_nameOf_53 : decode cX3_nameOf 53 = .ok (.areturn, 1) := by decide +kernel
theorem dX3_isWord_0 : decode cX3_isWord 0 = .ok (.aload_n 0, 1) := by decide +kernel
theorem dX3_isWord_1 : decode cX3_isWord 1 = .ok (.getfield 19, 3) := by decide +kernel
theorem dX3_isWord_4 : decode cX3_isWord 4 = .ok (.iconst 1, 1) := by decide +kernel
theorem dX3_isWord_5 : decode cX3_isWord 5 = .ok (.if_icmp .ne 19, 3) := by decide +kernel
theorem dX3_isWord_8 : decode cX3_isWord 8 = .ok (.aload_n 0, 1) := by decide +kernel
theorem dX3_isWord_9 : decode cX3_isWord 9 = .ok (.getfield 25, 3) := by decide +kernel
theorem dX3_isWord_12 : decode cX3_isWord 12 = .ok (.aload_n 0, 1) := by decide +kernel
theorem dX3_isWord_13 : decode cX3_isWord 13 = .ok (.getfield 22, 3) := by decide +kernel
theorem dX3_isWord_16 : decode cX3_isWord 16 = .ok (.isub, 1) := by decide +kernel
theorem dX3_isWord_17 : decode cX3_isWord 17 = .ok (.aload_n 1, 1) := by decide +kernel
theorem dX3_isWord_18 : decode cX3_isWord 18 = .ok (.invokevirtual 136, 3) := by decide +kernel
theorem dX3_isWord_21 : decode cX3_isWord 21 = .ok (.if_icmp .eq 5, 3) := by decide +kernel
theorem dX3_isWord_24 : decode cX3_isWord 24 = .ok (.iconst 0, 1) := by decide +kernel
theorem dX3_isWord_25 : decode cX3_isWord 25 = .ok (.ireturn, 1) := by decide +kernel
theorem dX3_isWord_26 : decode cX3_isWord 26 = .ok (.iconst 0, 1) := by decide +kernel
theorem dX3_isWord_27 : decode cX3_isWord 27 = .ok (.istore_n 2, 1) := by decide +kernel
theorem dX3_isWord_28 : decode cX3_isWord 28 = .ok (.iload_n 2, 1) := by decide +kernel
theorem dX3_isWord_29 : decode cX3_isWord 29 = .ok (.aload_n 1, 1) := by decide +kernel
theorem dX3_isWord_30 : decode cX3_isWord 30 = .ok (.invokevirtual 136, 3) := by decide +kernel
theorem dX3_isWord_33 : decode cX3_isWord 33 = .ok (.if_icmp .ge 30, 3) := by decide +kernel
theorem dX3_isWord_36 : decode cX3_isWord 36 = .ok (.aload_n 0, 1) := by decide +kernel
theorem dX3_isWord_37 : decode cX3_isWord 37 = .ok (.getfield 9, 3) := by decide +kernel
theorem dX3_isWord_40 : decode cX3_isWord 40 = .ok (.aload_n 0, 1) := by decide +kernel
theorem dX3_isWord_41 : decode cX3_isWord 41 = .ok (.getfield 22, 3) := by decide +kernel
theorem dX3_isWord_44 : decode cX3_isWord 44 = .ok (.iload_n 2, 1) := by decide +kernel
theorem dX3_isWord_45 : decode cX3_isWord 45 = .ok (.iadd, 1) := by decide +kernel
theorem dX3_isWord_46 : decode cX3_isWord 46 = .ok (.baload, 1) := by decide +kernel
theorem dX3_isWord_47 : decode cX3_isWord 47 = .ok (.aload_n 1, 1) := by decide +kernel
theorem dX3_isWord_48 : decode cX3_isWord 48 = .ok (.iload_n 2, 1) := by decide +kernel
theorem dX3_isWord_49 : decode cX3_isWord 49 = .ok (.invokevirtual 141, 3) := by decide +kernel
theorem dX3_isWord_52 : decode cX3_isWord 52 = .ok (.if_icmp .eq 5, 3) := by decide +kernel
theorem dX3_isWord_55 : decode cX3_isWord 55 = .ok (.iconst 0, 1) := by decide +kernel
theorem dX3_isWord_56 : decode cX3_isWord 56 = .ok (.ireturn, 1) := by decide +kernel
theorem dX3_isWord_57 : decode cX3_isWord 57 = .ok (.iinc 2 1, 3) := by decide +kernel
theorem dX3_isWord_60 : decode cX3_isWord 60 = .ok (.goto (-32), 3) := by decide +kernel
theorem dX3_isWord_63 : decode cX3_isWord 63 = .ok (.iconst 1, 1) := by decide +kernel
theorem dX3_isWord_64 : decode cX3_isWord 64 = .ok (.ireturn, 1) := by decide +kernel
theorem dX3_look_0 : decode cX3_look 0 = .ok (.aload_n 0, 1) := by decide +kernel
theorem dX3_look_1 : decode cX3_look 1 = .ok (.aload_n 0, 1) := by decide +kernel
theorem dX3_look_2 : decode cX3_look 2 = .ok (.getfield 25, 3) := by decide +kernel
theorem dX3_look_5 : decode cX3_look 5 = .ok (.putfield 22, 3) := by decide +kernel
theorem dX3_look_8 : decode cX3_look 8 = .ok (.aload_n 0, 1) := by decide +kernel
theorem dX3_look_9 : decode cX3_look 9 = .ok (.getfield 22, 3) := by decide +kernel
theorem dX3_look_12 : decode cX3_look 12 = .ok (.aload_n 0, 1) := by decide +kernel
theorem dX3_look_13 : decode cX3_look 13 = .ok (.getfield 15, 3) := by decide +kernel
theorem dX3_look_16 : decode cX3_look 16 = .ok (.if_icmp .ge 30, 3) := by decide +kernel
theorem dX3_look_19 : decode cX3_look 19 = .ok (.aload_n 0, 1) := by decide +kernel
theorem dX3_look_20 : decode cX3_look 20 = .ok (.getfield 9, 3) := by decide +kernel
theorem dX3_look_23 : decode cX3_look 23 = .ok (.aload_n 0, 1) := by decide +kernel
theorem dX3_look_24 : decode cX3_look 24 = .ok (.getfield 22, 3) := by decide +kernel
theorem dX3_look_27 : decode cX3_look 27 = .ok (.baload, 1) := by decide +kernel
theorem dX3_look_28 : decode cX3_look 28 = .ok (.bipush 32, 2) := by decide +kernel
theorem dX3_look_30 : decode cX3_look 30 = .ok (.if_icmp .ne 16, 3) := by decide +kernel
theorem dX3_look_33 : decode cX3_look 33 = .ok (.aload_n 0, 1) := by decide +kernel
theorem dX3_look_34 : decode cX3_look 34 = .ok (.dup, 1) := by decide +kernel
theorem dX3_look_35 : decode cX3_look 35 = .ok (.getfield 22, 3) := by decide +kernel
theorem dX3_look_38 : decode cX3_look 38 = .ok (.iconst 1, 1) := by decide +kernel
theorem dX3_look_39 : decode cX3_look 39 = .ok (.iadd, 1) := by decide +kernel
theorem dX3_look_40 : decode cX3_look 40 = .ok (.putfield 22, 3) := by decide +kernel
theorem dX3_look_43 : decode cX3_look 43 = .ok (.goto (-35), 3) := by decide +kernel
theorem dX3_look_46 : decode cX3_look 46 = .ok (.aload_n 0, 1) := by decide +kernel
theorem dX3_look_47 : decode cX3_look 47 = .ok (.aload_n 0, 1) := by decide +kernel
theorem dX3_look_48 : decode cX3_look 48 = .ok (.getfield 22, 3) := by decide +kernel
theorem dX3_look_51 : decode cX3_look 51 = .ok (.putfield 25, 3) := by decide +kernel
theorem dX3_look_54 : decode cX3_look 54 = .ok (.aload_n 0, 1) := by decide +kernel
theorem dX3_look_55 : decode cX3_look 55 = .ok (.getfield 22, 3) := by decide +kernel
theorem dX3_look_58 : decode cX3_look 58 = .ok (.aload_n 0, 1) := by decide +kernel
theorem dX3_look_59 : decode cX3_look 59 = .ok (.getfield 15, 3) := by decide +kernel
theorem dX3_look_62 : decode cX3_look 62 = .ok (.if_icmp .lt 9, 3) := by decide +kernel
theorem dX3_look_65 : decode cX3_look 65 = .ok (.aload_n 0, 1) := by decide +kernel
theorem dX3_look_66 : decode cX3_look 66 = .ok (.iconst 0, 1) := by decide +kernel
theorem dX3_look_67 : decode cX3_look 67 = .ok (.putfield 19, 3) := by decide +kernel
theorem dX3_look_70 : decode cX3_look 70 = .ok (.return_, 1) := by decide +kernel
theorem dX3_look_71 : decode cX3_look 71 = .ok (.aload_n 0, 1) := by decide +kernel
theorem dX3_look_72 : decode cX3_look 72 = .ok (.getfield 9, 3) := by decide +kernel
theorem dX3_look_75 : decode cX3_look 75 = .ok (.aload_n 0, 1) := by decide +kernel
theorem dX3_look_76 : decode cX3_look 76 = .ok (.getfield 22, 3) := by decide +kernel
theorem dX3_look_79 : decode cX3_look 79 = .ok (.baload, 1) := by decide +kernel
theorem dX3_look_80 : decode cX3_look 80 = .ok (.invokestatic 145, 3) := by decide +kernel
theorem dX3_look_83 : decode cX3_look 83 = .ok (.ifCond .eq 48, 3) := by decide +kernel
theorem dX3_look_86 : decode cX3_look 86 = .ok (.aload_n 0, 1) := by decide +kernel
theorem dX3_look_87 : decode cX3_look 87 = .ok (.iconst 1, 1) := by decide +kernel
theorem dX3_look_88 : decode cX3_look 88 = .ok (.putfield 19, 3) := by decide +kernel
theorem dX3_look_91 : decode cX3_look 91 = .ok (.aload_n 0, 1) := by decide +kernel
theorem dX3_look_92 : decode cX3_look 92 = .ok (.getfield 25, 3) := by decide +kernel
theorem dX3_look_95 : decode cX3_look 95 = .ok (.aload_n 0, 1) := by decide +kernel
theorem dX3_look_96 : decode cX3_look 96 = .ok (.getfield 15, 3) := by decide +kernel
theorem dX3_look_99 : decode cX3_look 99 = .ok (.if_icmp .ge 31, 3) := by decide +kernel
theorem dX3_look_102 : decode cX3_look 102 = .ok (.aload_n 0, 1) := by decide +kernel
theorem dX3_look_103 : decode cX3_look 103 = .ok (.getfield 9, 3) := by decide +kernel
theorem dX3_look_106 : decode cX3_look 106 = .ok (.aload_n 0, 1) := by decide +kernel
theorem dX3_look_107 : decode cX3_look 107 = .ok (.getfield 25, 3) := by decide +kernel
theorem dX3_look_110 : decode cX3_look 110 = .ok (.baload, 1) := by decide +kernel
theorem dX3_look_111 : decode cX3_look 111 = .ok (.invokestatic 145, 3) := by decide +kernel
theorem dX3_look_114 : decode cX3_look 114 = .ok (.ifCond .eq 16, 3) := by decide +kernel
theorem dX3_look_117 : decode cX3_look 117 = .ok (.aload_n 0, 1) := by decide +kernel
theorem dX3_look_118 : decode cX3_look 118 = .ok (.dup, 1) := by decide +kernel
theorem dX3_look_119 : decode cX3_look 119 = .ok (.getfield 25, 3) := by decide +kernel
theorem dX3_look_122 : decode cX3_look 122 = .ok (.iconst 1, 1) := by decide +kernel
theorem dX3_look_123 : decode cX3_look 123 = .ok (.iadd, 1) := by decide +kernel
theorem dX3_look_124 : decode cX3_look 124 = .ok (.putfield 25, 3) := by decide +kernel
theorem dX3_look_127 : decode cX3_look 127 = .ok (.goto (-36), 3) := by decide +kernel
theorem dX3_look_130 : decode cX3_look 130 = .ok (.return_, 1) := by decide +kernel
theorem dX3_look_131 : decode cX3_look 131 = .ok (.aload_n 0, 1) := by decide +kernel
theorem dX3_look_132 : decode cX3_look 132 = .ok (.getfield 9, 3) := by decide +kernel
theorem dX3_look_135 : decode cX3_look 135 = .ok (.aload_n 0, 1) := by decide +kernel
theorem dX3_look_136 : decode cX3_look 136 = .ok (.getfield 22, 3) := by decide +kernel
theorem dX3_look_139 : decode cX3_look 139 = .ok (.baload, 1) := by decide +kernel
theorem dX3_look_140 : decode cX3_look 140 = .ok (.invokestatic 149, 3) := by decide +kernel
theorem dX3_look_143 : decode cX3_look 143 = .ok (.ifCond .eq 83, 3) := by decide +kernel
theorem dX3_look_146 : decode cX3_look 146 = .ok (.aload_n 0, 1) := by decide +kernel
theorem dX3_look_147 : decode cX3_look 147 = .ok (.iconst 2, 1) := by decide +kernel
theorem dX3_look_148 : decode cX3_look 148 = .ok (.putfield 19, 3) := by decide +kernel
theorem dX3_look_151 : decode cX3_look 151 = .ok (.aload_n 0, 1) := by decide +kernel
theorem dX3_look_152 : decode cX3_look 152 = .ok (.iconst 0, 1) := by decide +kernel
theorem dX3_look_153 : decode cX3_look 153 = .ok (.putfield 28, 3) := by decide +kernel
theorem dX3_look_156 : decode cX3_look 156 = .ok (.aload_n 0, 1) := by decide +kernel
theorem dX3_look_157 : decode cX3_look 157 = .ok (.getfield 25, 3) := by decide +kernel
theorem dX3_look_160 : decode cX3_look 160 = .ok (.aload_n 0, 1) := by decide +kernel
theorem dX3_look_161 : decode cX3_look 161 = .ok (.getfield 15, 3) := by decide +kernel
theorem dX3_look_164 : decode cX3_look 164 = .ok (.if_icmp .ge 61, 3) := by decide +kernel
theorem dX3_look_167 : decode cX3_look 167 = .ok (.aload_n 0, 1) := by decide +kernel
theorem dX3_look_168 : decode cX3_look 168 = .ok (.getfield 9, 3) := by decide +kernel
theorem dX3_look_171 : decode cX3_look 171 = .ok (.aload_n 0, 1) := by decide +kernel
theorem dX3_look_172 : decode cX3_look 172 = .ok (.getfield 25, 3) := by decide +kernel
theorem dX3_look_175 : decode cX3_look 175 = .ok (.baload, 1) := by decide +kernel
theorem dX3_look_176 : decode cX3_look 176 = .ok (.invokestatic 149, 3) := by decide +kernel
theorem dX3_look_179 : decode cX3_look 179 = .ok (.ifCond .eq 46, 3) := by decide +kernel
theorem dX3_look_182 : decode cX3_look 182 = .ok (.aload_n 0, 1) := by decide +kernel
theorem dX3_look_183 : decode cX3_look 183 = .ok (.sipush 1000, 3) := by decide +kernel
theorem dX3_look_186 : decode cX3_look 186 = .ok (.bipush 10, 2) := by decide +kernel
theorem dX3_look_188 : decode cX3_look 188 = .ok (.aload_n 0, 1) := by decide +kernel
theorem dX3_look_189 : decode cX3_look 189 = .ok (.getfield 28, 3) := by decide +kernel
theorem dX3_look_192 : decode cX3_look 192 = .ok (.imul, 1) := by decide +kernel
theorem dX3_look_193 : decode cX3_look 193 = .ok (.aload_n 0, 1) := by decide +kernel
theorem dX3_look_194 : decode cX3_look 194 = .ok (.getfield 9, 3) := by decide +kernel
theorem dX3_look_197 : decode cX3_look 197 = .ok (.aload_n 0, 1) := by decide +kernel
theorem dX3_look_198 : decode cX3_look 198 = .ok (.getfield 25, 3) := by decide +kernel
theorem dX3_look_201 : decode cX3_look 201 = .ok (.baload, 1) := by decide +kernel
theorem dX3_look_202 : decode cX3_look 202 = .ok (.iadd, 1) := by decide +kernel
theorem dX3_look_203 : decode cX3_look 203 = .ok (.bipush 48, 2) := by decide +kernel
theorem dX3_look_205 : decode cX3_look 205 = .ok (.isub, 1) := by decide +kernel
theorem dX3_look_206 : decode cX3_look 206 = .ok (.invokestatic 152, 3) := by decide +kernel
theorem dX3_look_209 : decode cX3_look 209 = .ok (.putfield 28, 3) := by decide +kernel
theorem dX3_look_212 : decode cX3_look 212 = .ok (.aload_n 0, 1) := by decide +kernel
theorem dX3_look_213 : decode cX3_look 213 = .ok (.dup, 1) := by decide +kernel
theorem dX3_look_214 : decode cX3_look 214 = .ok (.getfield 25, 3) := by decide +kernel
theorem dX3_look_217 : decode cX3_look 217 = .ok (.iconst 1, 1) := by decide +kernel
theorem dX3_look_218 : decode cX3_look 218 = .ok (.iadd, 1) := by decide +kernel
theorem dX3_look_219 : decode cX3_look 219 = .ok (.putfield 25, 3) := by decide +kernel
theorem dX3_look_222 : decode cX3_look 222 = .ok (.goto (-66), 3) := by decide +kernel
theorem dX3_look_225 : decode cX3_look 225 = .ok (.return_, 1) := by decide +kernel
theorem dX3_look_226 : decode cX3_look 226 = .ok (.aload_n 0, 1) := by decide +kernel
theorem dX3_look_227 : decode cX3_look 227 = .ok (.aload_n 0, 1) := by decide +kernel
theorem dX3_look_228 : decode cX3_look 228 = .ok (.getfield 9, 3) := by decide +kernel
theorem dX3_look_231 : decode cX3_look 231 = .ok (.aload_n 0, 1) := by decide +kernel
theorem dX3_look_232 : decode cX3_look 232 = .ok (.getfield 22, 3) := by decide +kernel
theorem dX3_look_235 : decode cX3_look 235 = .ok (.baload, 1) := by decide +kernel
theorem dX3_look_236 : decode cX3_look 236 = .ok (.invokestatic 158, 3) := by decide +kernel
theorem dX3_look_239 : decode cX3_look 239 = .ok (.putfield 19, 3) := by decide +kernel
theorem dX3_look_242 : decode cX3_look 242 = .ok (.aload_n 0, 1) := by decide +kernel
theorem dX3_look_243 : decode cX3_look 243 = .ok (.dup, 1) := by decide +kernel
theorem dX3_look_244 : decode cX3_look 244 = .ok (.getfield 25, 3) := by decide +kernel
theorem dX3_look_247 : decode cX3_look 247 = .ok (.iconst 1, 1) := by decide +kernel
theorem dX3_look_248 : decode cX3_look 248 = .ok (.iadd, 1) := by decide +kernel
theorem dX3_look_249 : decode cX3_look 249 = .ok (.putfield 25, 3) := by decide +kernel
theorem dX3_look_252 : decode cX3_look 252 = .ok (.return_, 1) := by decide +kernel
theorem dX3_signOf_0 : decode cX3_signOf 0 = .ok (.iload_n 0, 1) := by decide +kernel
theorem dX3_signOf_1 : decode cX3_signOf 1 = .ok (.lookupswitch 31 #[(45, 29), (59, 27)], 27) := by decide +kernel
theorem dX3_signOf_28 : decode cX3_signOf 28 = .ok (.iconst 3, 1) := by decide +kernel
theorem dX3_signOf_29 : decode cX3_signOf 29 = .ok (.ireturn, 1) := by decide +kernel
theorem dX3_signOf_30 : decode cX3_signOf 30 = .ok (.iconst 4, 1) := by decide +kernel
theorem dX3_signOf_31 : decode cX3_signOf 31 = .ok (.ireturn, 1) := by decide +kernel
theorem dX3_signOf_32 : decode cX3_signOf 32 = .ok (.iconst 5, 1) := by decide +kernel
theorem dX3_signOf_33 : decode cX3_signOf 33 = .ok (.ireturn, 1) := by decide +kernel
theorem dX3_isLetter_0 : decode cX3_isLetter 0 = .ok (.iload_n 0, 1) := by decide +kernel
theorem dX3_isLetter_1 : decode cX3_isLetter 1 = .ok (.bipush 97, 2) := by decide +kernel
theorem dX3_isLetter_3 : decode cX3_isLetter 3 = .ok (.if_icmp .lt 13, 3) := by decide +kernel
theorem dX3_isLetter_6 : decode cX3_isLetter 6 = .ok (.iload_n 0, 1) := by decide +kernel
theorem dX3_isLetter_7 : decode cX3_isLetter 7 = .ok (.bipush 122, 2) := by decide +kernel
theorem dX3_isLetter_9 : decode cX3_isLetter 9 = .ok (.if_icmp .gt 7, 3) := by decide +kernel
theorem dX3_isLetter_12 : decode cX3_isLetter 12 = .ok (.iconst 1, 1) := by decide +kernel
theorem dX3_isLetter_13 : decode cX3_isLetter 13 = .ok (.goto 4, 3) := by decide +kernel
theorem dX3_isLetter_16 : decode cX3_isLetter 16 = .ok (.iconst 0, 1) := by decide +kernel
theorem dX3_isLetter_17 : decode cX3_isLetter 17 = .ok (.ireturn, 1) := by decide +kernel
theorem dX3_isDigit_0 : decode cX3_isDigit 0 = .ok (.iload_n 0, 1) := by decide +kernel
theorem dX3_isDigit_1 : decode cX3_isDigit 1 = .ok (.bipush 48, 2) := by decide +kernel
theorem dX3_isDigit_3 : decode cX3_isDigit 3 = .ok (.if_icmp .lt 13, 3) := by decide +kernel
theorem dX3_isDigit_6 : decode cX3_isDigit 6 = .ok (.iload_n 0, 1) := by decide +kernel
theorem dX3_isDigit_7 : decode cX3_isDigit 7 = .ok (.bipush 57, 2) := by decide +kernel
theorem dX3_isDigit_9 : decode cX3_isDigit 9 = .ok (.if_icmp .gt 7, 3) := by decide +kernel
theorem dX3_isDigit_12 : decode cX3_isDigit 12 = .ok (.iconst 1, 1) := by decide +kernel
theorem dX3_isDigit_13 : decode cX3_isDigit 13 = .ok (.goto 4, 3) := by decide +kernel
theorem dX3_isDigit_16 : decode cX3_isDigit 16 = .ok (.iconst 0, 1) := by decide +kernel
theorem dX3_isDigit_17 : decode cX3_isDigit 17 = .ok (.ireturn, 1) := by decide +kernel
theorem dJ6_bitCount_0f7a4_0 : decode cJ6_bitCount_0f7a4 0 = .ok (.iload_n 0, 1) := by decide +kernel
theorem dJ6_bitCount_0f7a4_1 : decode cJ6_bitCount_0f7a4 1 = .ok (.iload_n 0, 1) := by decide +kernel
theorem dJ6_bitCount_0f7a4_2 : decode cJ6_bitCount_0f7a4 2 = .ok (.iconst 1, 1) := by decide +kernel
theorem dJ6_bitCount_0f7a4_3 : decode cJ6_bitCount_0f7a4 3 = .ok (.iushr, 1) := by decide +kernel
theorem dJ6_bitCount_0f7a4_4 : decode cJ6_bitCount_0f7a4 4 = .ok (.ldc_w 265, 3) := by decide +kernel
theorem dJ6_bitCount_0f7a4_7 : decode cJ6_bitCount_0f7a4 7 = .ok (.iand, 1) := by decide +kernel
theorem dJ6_bitCount_0f7a4_8 : decode cJ6_bitCount_0f7a4 8 = .ok (.isub, 1) := by decide +kernel
theorem dJ6_bitCount_0f7a4_9 : decode cJ6_bitCount_0f7a4 9 = .ok (.istore_n 0, 1) := by decide +kernel
theorem dJ6_bitCount_0f7a4_10 : decode cJ6_bitCount_0f7a4 10 = .ok (.iload_n 0, 1) := by decide +kernel
theorem dJ6_bitCount_0f7a4_11 : decode cJ6_bitCount_0f7a4 11 = .ok (.ldc_w 266, 3) := by decide +kernel
theorem dJ6_bitCount_0f7a4_14 : decode cJ6_bitCount_0f7a4 14 = .ok (.iand, 1) := by decide +kernel
theorem dJ6_bitCount_0f7a4_15 : decode cJ6_bitCount_0f7a4 15 = .ok (.iload_n 0, 1) := by decide +kernel
theorem dJ6_bitCount_0f7a4_16 : decode cJ6_bitCount_0f7a4 16 = .ok (.iconst 2, 1) := by decide +kernel
theorem dJ6_bitCount_0f7a4_17 : decode cJ6_bitCount_0f7a4 17 = .ok (.iushr, 1) := by decide +kernel
theorem dJ6_bitCount_0f7a4_18 : decode cJ6_bitCount_0f7a4 18 = .ok (.ldc_w 266, 3) := by decide +kernel
theorem dJ6_bitCount_0f7a4_21 : decode cJ6_bitCount_0f7a4 21 = .ok (.iand, 1) := by decide +kernel
theorem dJ6_bitCount_0f7a4_22 : decode cJ6_bitCount_0f7a4 22 = .ok (.iadd, 1) := by decide +kernel
theorem dJ6_bitCount_0f7a4_23 : decode cJ6_bitCount_0f7a4 23 = .ok (.istore_n 0, 1) := by decide +kernel
theorem dJ6_bitCount_0f7a4_24 : decode cJ6_bitCount_0f7a4 24 = .ok (.iload_n 0, 1) := by decide +kernel
theorem dJ6_bitCount_0f7a4_25 : decode cJ6_bitCount_0f7a4 25 = .ok (.iload_n 0, 1) := by decide +kernel
theorem dJ6_bitCount_0f7a4_26 : decode cJ6_bitCount_0f7a4 26 = .ok (.iconst 4, 1) := by decide +kernel
theorem dJ6_bitCount_0f7a4_27 : decode cJ6_bitCount_0f7a4 27 = .ok (.iushr, 1) := by decide +kernel
theorem dJ6_bitCount_0f7a4_28 : decode cJ6_bitCount_0f7a4 28 = .ok (.iadd, 1) := by decide +kernel
theorem dJ6_bitCount_0f7a4_29 : decode cJ6_bitCount_0f7a4 29 = .ok (.ldc_w 267, 3) := by decide +kernel
theorem dJ6_bitCount_0f7a4_32 : decode cJ6_bitCount_0f7a4 32 = .ok (.iand, 1) := by decide +kernel
theorem dJ6_bitCount_0f7a4_33 : decode cJ6_bitCount_0f7a4 33 = .ok (.istore_n 0, 1) := by decide +kernel
theorem dJ6_bitCount_0f7a4_34 : decode cJ6_bitCount_0f7a4 34 = .ok (.iload_n 0, 1) := by decide +kernel
theorem dJ6_bitCount_0f7a4_35 : decode cJ6_bitCount_0f7a4 35 = .ok (.iload_n 0, 1) := by decide +kernel
theorem dJ6_bitCount_0f7a4_36 : decode cJ6_bitCount_0f7a4 36 = .ok (.bipush 8, 2) := by decide +kernel
theorem dJ6_bitCount_0f7a4_38 : decode cJ6_bitCount_0f7a4 38 = .ok (.iushr, 1) := by decide +kernel
theorem dJ6_bitCount_0f7a4_39 : decode cJ6_bitCount_0f7a4 39 = .ok (.iadd, 1) := by decide +kernel
theorem dJ6_bitCount_0f7a4_40 : decode cJ6_bitCount_0f7a4 40 = .ok (.istore_n 0, 1) := by decide +kernel
theorem dJ6_bitCount_0f7a4_41 : decode cJ6_bitCount_0f7a4 41 = .ok (.iload_n 0, 1) := by decide +kernel
theorem dJ6_bitCount_0f7a4_42 : decode cJ6_bitCount_0f7a4 42 = .ok (.iload_n 0, 1) := by decide +kernel
theorem dJ6_bitCount_0f7a4_43 : decode cJ6_bitCount_0f7a4 43 = .ok (.bipush 16, 2) := by decide +kernel
theorem dJ6_bitCount_0f7a4_45 : decode cJ6_bitCount_0f7a4 45 = .ok (.iushr, 1) := by decide +kernel
theorem dJ6_bitCount_0f7a4_46 : decode cJ6_bitCount_0f7a4 46 = .ok (.iadd, 1) := by decide +kernel
theorem dJ6_bitCount_0f7a4_47 : decode cJ6_bitCount_0f7a4 47 = .ok (.istore_n 0, 1) := by decide +kernel
theorem dJ6_bitCount_0f7a4_48 : decode cJ6_bitCount_0f7a4 48 = .ok (.iload_n 0, 1) := by decide +kernel
theorem dJ6_bitCount_0f7a4_49 : decode cJ6_bitCount_0f7a4 49 = .ok (.bipush 63, 2) := by decide +kernel
theorem dJ6_bitCount_0f7a4_51 : decode cJ6_bitCount_0f7a4 51 = .ok (.iand, 1) := by decide +kernel
theorem dJ6_bitCount_0f7a4_52 : decode cJ6_bitCount_0f7a4 52 = .ok (.ireturn, 1) := by decide +kernel
theorem dJ9_abs_0f7a4_0 : decode cJ9_abs_0f7a4 0 = .ok (.iload_n 0, 1) := by decide +kernel
theorem dJ9_abs_0f7a4_1 : decode cJ9_abs_0f7a4 1 = .ok (.ifCond .ge 8, 3) := by decide +kernel
theorem dJ9_abs_0f7a4_4 : decode cJ9_abs_0f7a4 4 = .ok (.iload_n 0, 1) := by decide +kernel
theorem dJ9_abs_0f7a4_5 : decode cJ9_abs_0f7a4 5 = .ok (.ineg, 1) := by decide +kernel
theorem dJ9_abs_0f7a4_6 : decode cJ9_abs_0f7a4 6 = .ok (.goto 4, 3) := by decide +kernel
theorem dJ9_abs_0f7a4_9 : decode cJ9_abs_0f7a4 9 = .ok (.iload_n 0, 1) := by decide +kernel
theorem dJ9_abs_0f7a4_10 : decode cJ9_abs_0f7a4 10 = .ok (.ireturn, 1) := by decide +kernel
theorem dJ9_max_7cf53_0 : decode cJ9_max_7cf53 0 = .ok (.iload_n 0, 1) := by decide +kernel
theorem dJ9_max_7cf53_1 : decode cJ9_max_7cf53 1 = .ok (.iload_n 1, 1) := by decide +kernel
theorem dJ9_max_7cf53_2 : decode cJ9_max_7cf53 2 = .ok (.if_icmp .lt 7, 3) := by decide +kernel
theorem dJ9_max_7cf53_5 : decode cJ9_max_7cf53 5 = .ok (.iload_n 0, 1) := by decide +kernel
theorem dJ9_max_7cf53_6 : decode cJ9_max_7cf53 6 = .ok (.goto 4, 3) := by decide +kernel
theorem dJ9_max_7cf53_9 : decode cJ9_max_7cf53 9 = .ok (.iload_n 1, 1) := by decide +kernel
theorem dJ9_max_7cf53_10 : decode cJ9_max_7cf53 10 = .ok (.ireturn, 1) := by decide +kernel
theorem dJ9_min_7cf53_0 : decode cJ9_min_7cf53 0 = .ok (.iload_n 0, 1) := by decide +kernel
theorem dJ9_min_7cf53_1 : decode cJ9_min_7cf53 1 = .ok (.iload_n 1, 1) := by decide +kernel
theorem dJ9_min_7cf53_2 : decode cJ9_min_7cf53 2 = .ok (.if_icmp .gt 7, 3) := by decide +kernel
theorem dJ9_min_7cf53_5 : decode cJ9_min_7cf53 5 = .ok (.iload_n 0, 1) := by decide +kernel
theorem dJ9_min_7cf53_6 : decode cJ9_min_7cf53 6 = .ok (.goto 4, 3) := by decide +kernel
theorem dJ9_min_7cf53_9 : decode cJ9_min_7cf53 9 = .ok (.iload_n 1, 1) := by decide +kernel
theorem dJ9_min_7cf53_10 : decode cJ9_min_7cf53 10 = .ok (.ireturn, 1) := by decide +kernel
theorem dJ0_length_8abf5_0 : decode cJ0_length_8abf5 0 = .ok (.aload_n 0, 1) := by decide +kernel
theorem dJ0_length_8abf5_1 : decode cJ0_length_8abf5 1 = .ok (.getfield 9, 3) := by decide +kernel
theorem dJ0_length_8abf5_4 : decode cJ0_length_8abf5 4 = .ok (.arraylength, 1) := by decide +kernel
theorem dJ0_length_8abf5_5 : decode cJ0_length_8abf5 5 = .ok (.aload_n 0, 1) := by decide +kernel
theorem dJ0_length_8abf5_6 : decode cJ0_length_8abf5 6 = .ok (.invokevirtual 335, 3) := by decide +kernel
theorem dJ0_length_8abf5_9 : decode cJ0_length_8abf5 9 = .ok (.ishr, 1) := by decide +kernel
theorem dJ0_length_8abf5_10 : decode cJ0_length_8abf5 10 = .ok (.ireturn, 1) := by decide +kernel
theorem dJ0_charAt_5068e_0 : decode cJ0_charAt_5068e 0 = .ok (.aload_n 0, 1) := by decide +kernel
theorem dJ0_charAt_5068e_1 : decode cJ0_charAt_5068e 1 = .ok (.invokevirtual 492, 3) := by decide +kernel
theorem dJ0_charAt_5068e_4 : decode cJ0_charAt_5068e 4 = .ok (.ifCond .eq 12, 3) := by decide +kernel
theorem dJ0_charAt_5068e_7 : decode cJ0_charAt_5068e 7 = .ok (.aload_n 0, 1) := by decide +kernel
theorem dJ0_charAt_5068e_8 : decode cJ0_charAt_5068e 8 = .ok (.getfield 9, 3) := by decide +kernel
theorem dJ0_charAt_5068e_11 : decode cJ0_charAt_5068e 11 = .ok (.iload_n 1, 1) := by decide +kernel
theorem dJ0_charAt_5068e_12 : decode cJ0_charAt_5068e 12 = .ok (.invokestatic 495, 3) := by decide +kernel
theorem dJ0_charAt_5068e_15 : decode cJ0_charAt_5068e 15 = .ok (.ireturn, 1) := by decide +kernel
theorem dJ0_charAt_5068e_16 : decode cJ0_charAt_5068e 16 = .ok (.aload_n 0, 1) := by decide +kernel
theorem dJ0_charAt_5068e_17 : decode cJ0_charAt_5068e 17 = .ok (.getfield 9, 3) := by decide +kernel
theorem dJ0_charAt_5068e_20 : decode cJ0_charAt_5068e 20 = .ok (.iload_n 1, 1) := by decide +kernel
theorem dJ0_charAt_5068e_21 : decode cJ0_charAt_5068e 21 = .ok (.invokestatic 498, 3) := by decide +kernel
theorem dJ0_charAt_5068e_24 : decode cJ0_charAt_5068e 24 = .ok (.ireturn, 1) := by decide +kernel
theorem dJ0_coder_7d493_0 : decode cJ0_coder_7d493 0 = .ok (.getstatic 38, 3) := by decide +kernel
theorem dJ0_coder_7d493_3 : decode cJ0_coder_7d493 3 = .ok (.ifCond .eq 10, 3) := by decide +kernel
theorem dJ0_coder_7d493_6 : decode cJ0_coder_7d493 6 = .ok (.aload_n 0, 1) := by decide +kernel
theorem dJ0_coder_7d493_7 : decode cJ0_coder_7d493 7 = .ok (.getfield 15, 3) := by decide +kernel
theorem dJ0_coder_7d493_10 : decode cJ0_coder_7d493 10 = .ok (.goto 4, 3) := by decide +kernel
theorem dJ0_coder_7d493_13 : decode cJ0_coder_7d493 13 = .ok (.iconst 1, 1) := by decide +kernel
theorem dJ0_coder_7d493_14 : decode cJ0_coder_7d493 14 = .ok (.ireturn, 1) := by decide +kernel
theorem dJ0_isLatin1_aae02_0 : decode cJ0_isLatin1_aae02 0 = .ok (.getstatic 38, 3) := by decide +kernel
theorem dJ0_isLatin1_aae02_3 : decode cJ0_isLatin1_aae02 3 = .ok (.ifCond .eq 14, 3) := by decide +kernel
theorem dJ0_isLatin1_aae02_6 : decode cJ0_isLatin1_aae02 6 = .ok (.aload_n 0, 1) := by decide +kernel
theorem dJ0_isLatin1_aae02_7 : decode cJ0_isLatin1_aae02 7 = .ok (.getfield 15, 3) := by decide +kernel
theorem dJ0_isLatin1_aae02_10 : decode cJ0_isLatin1_aae02 10 = .ok (.ifCond .ne 7, 3) := by decide +kernel
theorem dJ0_isLatin1_aae02_13 : decode cJ0_isLatin1_aae02 13 = .ok (.iconst 1, 1) := by decide +kernel
theorem dJ0_isLatin1_aae02_14 : decode cJ0_isLatin1_aae02 14 = .ok (.goto 4, 3) := by decide +kernel
theorem dJ0_isLatin1_aae02_17 : decode cJ0_isLatin1_aae02 17 = .ok (.iconst 0, 1) := by decide +kernel
theorem dJ0_isLatin1_aae02_18 : decode cJ0_isLatin1_aae02 18 = .ok (.ireturn, 1) := by decide +kernel
theorem dJ0_checkIndex_df160_0 : decode cJ0_checkIndex_df160 0 = .ok (.iload_n 0, 1) := by decide +kernel
theorem dJ0_checkIndex_df160_1 : decode cJ0_checkIndex_df160 1 = .ok (.iload_n 1, 1) := by decide +kernel
theorem dJ0_checkIndex_df160_2 : decode cJ0_checkIndex_df160 2 = .ok (.getstatic 1053, 3) := by decide +kernel
theorem dJ0_checkIndex_df160_5 : decode cJ0_checkIndex_df160 5 = .ok (.invokestatic 1059, 3) := by decide +kernel
theorem dJ0_checkIndex_df160_8 : decode cJ0_checkIndex_df160 8 = .ok (.pop, 1) := by decide +kernel
theorem dJ0_checkIndex_df160_9 : decode cJ0_checkIndex_df160 9 = .ok (.return_, 1) := by decide +kernel
theorem dJ1_charAt_3b067_0 : decode cJ1_charAt_3b067 0 = .ok (.iload_n 1, 1) := by decide +kernel
theorem dJ1_charAt_3b067_1 : decode cJ1_charAt_3b067 1 = .ok (.aload_n 0, 1) := by decide +kernel
theorem dJ1_charAt_3b067_2 : decode cJ1_charAt_3b067 2 = .ok (.arraylength, 1) := by decide +kernel
theorem dJ1_charAt_3b067_3 : decode cJ1_charAt_3b067 3 = .ok (.invokestatic 9, 3) := by decide +kernel
theorem dJ1_charAt_3b067_6 : decode cJ1_charAt_3b067 6 = .ok (.aload_n 0, 1) := by decide +kernel
theorem dJ1_charAt_3b067_7 : decode cJ1_charAt_3b067 7 = .ok (.iload_n 1, 1) := by decide +kernel
theorem dJ1_charAt_3b067_8 : decode cJ1_charAt_3b067 8 = .ok (.baload, 1) := by decide +kernel
theorem dJ1_charAt_3b067_9 : decode cJ1_charAt_3b067 9 = .ok (.sipush 255, 3) := by decide +kernel
theorem dJ1_charAt_3b067_12 : decode cJ1_charAt_3b067 12 = .ok (.iand, 1) := by decide +kernel
theorem dJ1_charAt_3b067_13 : decode cJ1_charAt_3b067 13 = .ok (.i2c, 1) := by decide +kernel
theorem dJ1_charAt_3b067_14 : decode cJ1_charAt_3b067 14 = .ok (.ireturn, 1) := by decide +kernel
theorem dJ2_getChar_3b067_0 : decode cJ2_getChar_3b067 0 = .ok (.getstatic 44, 3) := by decide +kernel
theorem dJ2_getChar_3b067_3 : decode cJ2_getChar_3b067 3 = .ok (.ifCond .ne 25, 3) := by decide +kernel
theorem dJ2_getChar_3b067_6 : decode cJ2_getChar_3b067 6 = .ok (.iload_n 1, 1) := by decide +kernel
theorem dJ2_getChar_3b067_7 : decode cJ2_getChar_3b067 7 = .ok (.ifCond .lt 11, 3) := by decide +kernel
theorem dJ2_getChar_3b067_10 : decode cJ2_getChar_3b067 10 = .ok (.iload_n 1, 1) := by decide +kernel
theorem dJ2_getChar_3b067_11 : decode cJ2_getChar_3b067 11 = .ok (.aload_n 0, 1) := by decide +kernel
theorem dJ2_getChar_3b067_12 : decode cJ2_getChar_3b067 12 = .ok (.invokestatic 48, 3) := by decide +kernel
theorem dJ2_getChar_3b067_15 : decode cJ2_getChar_3b067 15 = .ok (.if_icmp .lt 13, 3) := by decide +kernel
theorem dJ2_getChar_3b067_18 : decode cJ2_getChar_3b067 18 = .ok (.new 52, 3) := by decide +kernel
theorem dJ2_getChar_3b067_21 : decode cJ2_getChar_3b067 21 = .ok (.dup, 1) := by decide +kernel
theorem dJ2_getChar_3b067_22 : decode cJ2_getChar_3b067 22 = .ok (.ldc 54, 2) := by decide +kernel
theorem dJ2_getChar_3b067_24 : decode cJ2_getChar_3b067 24 = .ok (.invokespecial 56, 3) := by decide +kernel
theorem dJ2_getChar_3b067_27 : decode cJ2_getChar_3b067 27 = .ok (.athrow, 1) := by decide +kernel
theorem dJ2_getChar_3b067_28 : decode cJ2_getChar_3b067 28 = .ok (.iload_n 1, 1) := by decide +kernel
theorem dJ2_getChar_3b067_29 : decode cJ2_getChar_3b067 29 = .ok (.iconst 1, 1) := by decide +kernel
theorem dJ2_getChar_3b067_30 : decode cJ2_getChar_3b067 30 = .ok (.ishl, 1) := by decide +kernel
theorem dJ2_getChar_3b067_31 : decode cJ2_getChar_3b067 31 = .ok (.istore_n 1, 1) := by decide +kernel
theorem dJ2_getChar_3b067_32 : decode cJ2_getChar_3b067 32 = .ok (.aload_n 0, 1) := by decide +kernel
theorem dJ2_getChar_3b067_33 : decode cJ2_getChar_3b067 33 = .ok (.iload_n 1, 1) := by decide +kernel
theorem dJ2_getChar_3b067_34 : decode cJ2_getChar_3b067 34 = .ok (.iinc 1 1, 3) := by decide +kernel
theorem dJ2_getChar_3b067_37 : decode cJ2_getChar_3b067 37 = .ok (.baload, 1) := by decide +kernel
theorem dJ2_getChar_3b067_38 : decode cJ2_getChar_3b067 38 = .ok (.sipush 255, 3) := by decide +kernel
theorem dJ2_getChar_3b067_41 : decode cJ2_getChar_3b067 41 = .ok (.iand, 1) := by decide +kernel
theorem dJ2_getChar_3b067_42 : decode cJ2_getChar_3b067 42 = .ok (.getstatic 59, 3) := by decide +kernel
theorem dJ2_getChar_3b067_45 : decode cJ2_getChar_3b067 45 = .ok (.ishl, 1) := by decide +kernel
theorem dJ2_getChar_3b067_46 : decode cJ2_getChar_3b067 46 = .ok (.aload_n 0, 1) := by decide +kernel
theorem dJ2_getChar_3b067_47 : decode cJ2_getChar_3b067 47 = .ok (.iload_n 1, 1) := by decide +kernel
theorem dJ2_getChar_3b067_48 : decode cJ2_getChar_3b067 48 = .ok (.baload, 1) := by decide +kernel
theorem dJ2_getChar_3b067_49 : decode cJ2_getChar_3b067 49 = .ok (.sipush 255, 3) := by decide +kernel
theorem dJ2_getChar_3b067_52 : decode cJ2_getChar_3b067 52 = .ok (.iand, 1) := by decide +kernel
theorem dJ2_getChar_3b067_53 : decode cJ2_getChar_3b067 53 = .ok (.getstatic 63, 3) := by decide +kernel
theorem dJ2_getChar_3b067_56 : decode cJ2_getChar_3b067 56 = .ok (.ishl, 1) := by decide +kernel
theorem dJ2_getChar_3b067_57 : decode cJ2_getChar_3b067 57 = .ok (.ior, 1) := by decide +kernel
theorem dJ2_getChar_3b067_58 : decode cJ2_getChar_3b067 58 = .ok (.i2c, 1) := by decide +kernel
theorem dJ2_getChar_3b067_59 : decode cJ2_getChar_3b067 59 = .ok (.ireturn, 1) := by decide +kernel
theorem dJ2_length_9d52b_0 : decode cJ2_length_9d52b 0 = .ok (.aload_n 0, 1) := by decide +kernel
theorem dJ2_length_9d52b_1 : decode cJ2_length_9d52b 1 = .ok (.arraylength, 1) := by decide +kernel
theorem dJ2_length_9d52b_2 : decode cJ2_length_9d52b 2 = .ok (.iconst 1, 1) := by decide +kernel
theorem dJ2_length_9d52b_3 : decode cJ2_length_9d52b 3 = .ok (.ishr, 1) := by decide +kernel
theorem dJ2_length_9d52b_4 : decode cJ2_length_9d52b 4 = .ok (.ireturn, 1) := by decide +kernel
theorem dJ2_charAt_3b067_0 : decode cJ2_charAt_3b067 0 = .ok (.iload_n 1, 1) := by decide +kernel
theorem dJ2_charAt_3b067_1 : decode cJ2_charAt_3b067 1 = .ok (.aload_n 0, 1) := by decide +kernel
theorem dJ2_charAt_3b067_2 : decode cJ2_charAt_3b067 2 = .ok (.invokestatic 67, 3) := by decide +kernel
theorem dJ2_charAt_3b067_5 : decode cJ2_charAt_3b067 5 = .ok (.aload_n 0, 1) := by decide +kernel
theorem dJ2_charAt_3b067_6 : decode cJ2_charAt_3b067 6 = .ok (.iload_n 1, 1) := by decide +kernel
theorem dJ2_charAt_3b067_7 : decode cJ2_charAt_3b067 7 = .ok (.invokestatic 71, 3) := by decide +kernel
theorem dJ2_charAt_3b067_10 : decode cJ2_charAt_3b067 10 = .ok (.ireturn, 1) := by decide +kernel
theorem dJ2_checkIndex_2214a_0 : decode cJ2_checkIndex_2214a 0 = .ok (.iload_n 0, 1) := by decide +kernel
theorem dJ2_checkIndex_2214a_1 : decode cJ2_checkIndex_2214a 1 = .ok (.aload_n 1, 1) := by decide +kernel
theorem dJ2_checkIndex_2214a_2 : decode cJ2_checkIndex_2214a 2 = .ok (.invokestatic 48, 3) := by decide +kernel
theorem dJ2_checkIndex_2214a_5 : decode cJ2_checkIndex_2214a 5 = .ok (.invokestatic 414, 3) := by decide +kernel
theorem dJ2_checkIndex_2214a_8 : decode cJ2_checkIndex_2214a 8 = .ok (.return_, 1) := by decide +kernel
theorem dJ3_checkIndex_8e157_0 : decode cJ3_checkIndex_8e157 0 = .ok (.iload_n 0, 1) := by decide +kernel
theorem dJ3_checkIndex_8e157_1 : decode cJ3_checkIndex_8e157 1 = .ok (.ifCond .lt 8, 3) := by decide +kernel
theorem dJ3_checkIndex_8e157_4 : decode cJ3_checkIndex_8e157 4 = .ok (.iload_n 0, 1) := by decide +kernel
theorem dJ3_checkIndex_8e157_5 : decode cJ3_checkIndex_8e157 5 = .ok (.iload_n 1, 1) := by decide +kernel
theorem dJ3_checkIndex_8e157_6 : decode cJ3_checkIndex_8e157 6 = .ok (.if_icmp .lt 10, 3) := by decide +kernel
theorem dJ3_checkIndex_8e157_9 : decode cJ3_checkIndex_8e157 9 = .ok (.aload_n 2, 1) := by decide +kernel
theorem dJ3_checkIndex_8e157_10 : decode cJ3_checkIndex_8e157 10 = .ok (.iload_n 0, 1) := by decide +kernel
theorem dJ3_checkIndex_8e157_11 : decode cJ3_checkIndex_8e157 11 = .ok (.iload_n 1, 1) := by decide +kernel
theorem dJ3_checkIndex_8e157_12 : decode cJ3_checkIndex_8e157 12 = .ok (.invokestatic 95, 3) := by decide +kernel
theorem dJ3_checkIndex_8e157_15 : decode cJ3_checkIndex_8e157 15 = .ok (.athrow, 1) := by decide +kernel
theorem dJ3_checkIndex_8e157_16 : decode cJ3_checkIndex_8e157 16 = .ok (.iload_n 0, 1) := by decide +kernel
theorem dJ3_checkIndex_8e157_17 : decode cJ3_checkIndex_8e157 17 = .ok (.ireturn, 1) := by decide +kernel
