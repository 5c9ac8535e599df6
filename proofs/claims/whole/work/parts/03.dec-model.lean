theorem dX12_init_0 : decode cX12_init 0 = .ok (.aload_n 0, 1) := by decide +kernel
theorem dX12_init_1 : decode cX12_init 1 = .ok (.invokespecial 3, 3) := by decide +kernel
theorem dX12_init_4 : decode cX12_init 4 = .ok (.aload_n 0, 1) := by decide +kernel
theorem dX12_init_5 : decode cX12_init 5 = .ok (.sipush 943, 3) := by decide +kernel
theorem dX12_init_8 : decode cX12_init 8 = .ok (.newarray .int, 2) := by decide +kernel
theorem dX12_init_10 : decode cX12_init 10 = .ok (.putfield 9, 3) := by decide +kernel
theorem dX12_init_13 : decode cX12_init 13 = .ok (.aload_n 0, 1) := by decide +kernel
theorem dX12_init_14 : decode cX12_init 14 = .ok (.sipush 943, 3) := by decide +kernel
theorem dX12_init_17 : decode cX12_init 17 = .ok (.newarray .int, 2) := by decide +kernel
theorem dX12_init_19 : decode cX12_init 19 = .ok (.putfield 15, 3) := by decide +kernel
theorem dX12_init_22 : decode cX12_init 22 = .ok (.aload_n 0, 1) := by decide +kernel
theorem dX12_init_23 : decode cX12_init 23 = .ok (.bipush 13, 2) := by decide +kernel
theorem dX12_init_25 : decode cX12_init 25 = .ok (.newarray .int, 2) := by decide +kernel
theorem dX12_init_27 : decode cX12_init 27 = .ok (.putfield 18, 3) := by decide +kernel
theorem dX12_init_30 : decode cX12_init 30 = .ok (.aload_n 0, 1) := by decide +kernel
theorem dX12_init_31 : decode cX12_init 31 = .ok (.bipush 6, 2) := by decide +kernel
theorem dX12_init_33 : decode cX12_init 33 = .ok (.newarray .int, 2) := by decide +kernel
theorem dX12_init_35 : decode cX12_init 35 = .ok (.putfield 21, 3) := by decide +kernel
theorem dX12_init_38 : decode cX12_init 38 = .ok (.aload_n 0, 1) := by decide +kernel
theorem dX12_init_39 : decode cX12_init 39 = .ok (.bipush 64, 2) := by decide +kernel
theorem dX12_init_41 : decode cX12_init 41 = .ok (.newarray .boolean, 2) := by decide +kernel
theorem dX12_init_43 : decode cX12_init 43 = .ok (.putfield 24, 3) := by decide +kernel
theorem dX12_init_46 : decode cX12_init 46 = .ok (.aload_n 0, 1) := by decide +kernel
theorem dX12_init_47 : decode cX12_init 47 = .ok (.bipush 6, 2) := by decide +kernel
theorem dX12_init_49 : decode cX12_init 49 = .ok (.newarray .int, 2) := by decide +kernel
theorem dX12_init_51 : decode cX12_init 51 = .ok (.putfield 28, 3) := by decide +kernel
theorem dX12_init_54 : decode cX12_init 54 = .ok (.aload_n 0, 1) := by decide +kernel
theorem dX12_init_55 : decode cX12_init 55 = .ok (.sipush 400, 3) := by decide +kernel
theorem dX12_init_58 : decode cX12_init 58 = .ok (.newarray .int, 2) := by decide +kernel
theorem dX12_init_60 : decode cX12_init 60 = .ok (.putfield 31, 3) := by decide +kernel
theorem dX12_init_63 : decode cX12_init 63 = .ok (.aload_n 0, 1) := by decide +kernel
theorem dX12_init_64 : decode cX12_init 64 = .ok (.bipush 20, 2) := by decide +kernel
theorem dX12_init_66 : decode cX12_init 66 = .ok (.newarray .int, 2) := by decide +kernel
theorem dX12_init_68 : decode cX12_init 68 = .ok (.putfield 34, 3) := by decide +kernel
theorem dX12_init_71 : decode cX12_init 71 = .ok (.aload_n 0, 1) := by decide +kernel
theorem dX12_init_72 : decode cX12_init 72 = .ok (.getfield 9, 3) := by decide +kernel
theorem dX12_init_75 : decode cX12_init 75 = .ok (.bipush 20, 2) := by decide +kernel
theorem dX12_init_77 : decode cX12_init 77 = .ok (.iconst (-1), 1) := by decide +kernel
theorem dX12_init_78 : decode cX12_init 78 = .ok (.iastore, 1) := by decide +kernel
theorem dX12_init_79 : decode cX12_init 79 = .ok (.return_, 1) := by decide +kernel
theorem dX12_in_0 : decode cX12_in 0 = .ok (.iload_n 0, 1) := by decide +kernel
theorem dX12_in_1 : decode cX12_in 1 = .ok (.iload_n 1, 1) := by decide +kernel
theorem dX12_in_2 : decode cX12_in 2 = .ok (.if_icmp .lt 12, 3) := by decide +kernel
theorem dX12_in_5 : decode cX12_in 5 = .ok (.iload_n 0, 1) := by decide +kernel
theorem dX12_in_6 : decode cX12_in 6 = .ok (.iload_n 2, 1) := by decide +kernel
theorem dX12_in_7 : decode cX12_in 7 = .ok (.if_icmp .gt 7, 3) := by decide +kernel
theorem dX12_in_10 : decode cX12_in 10 = .ok (.iconst 1, 1) := by decide +kernel
theorem dX12_in_11 : decode cX12_in 11 = .ok (.goto 4, 3) := by decide +kernel
theorem dX12_in_14 : decode cX12_in 14 = .ok (.iconst 0, 1) := by decide +kernel
theorem dX12_in_15 : decode cX12_in 15 = .ok (.ireturn, 1) := by decide +kernel
theorem dX12_within_0 : decode cX12_within 0 = .ok (.iload_n 0, 1) := by decide +kernel
theorem dX12_within_1 : decode cX12_within 1 = .ok (.iload_n 1, 1) := by decide +kernel
theorem dX12_within_2 : decode cX12_within 2 = .ok (.if_icmp .ge 7, 3) := by decide +kernel
theorem dX12_within_5 : decode cX12_within 5 = .ok (.iload_n 1, 1) := by decide +kernel
theorem dX12_within_6 : decode cX12_within 6 = .ok (.goto 13, 3) := by decide +kernel
theorem dX12_within_9 : decode cX12_within 9 = .ok (.iload_n 0, 1) := by decide +kernel
theorem dX12_within_10 : decode cX12_within 10 = .ok (.iload_n 2, 1) := by decide +kernel
theorem dX12_within_11 : decode cX12_within 11 = .ok (.if_icmp .le 7, 3) := by decide +kernel
theorem dX12_within_14 : decode cX12_within 14 = .ok (.iload_n 2, 1) := by decide +kernel
theorem dX12_within_15 : decode cX12_within 15 = .ok (.goto 4, 3) := by decide +kernel
theorem dX12_within_18 : decode cX12_within 18 = .ok (.iload_n 0, 1) := by decide +kernel
theorem dX12_within_19 : decode cX12_within 19 = .ok (.ireturn, 1) := by decide +kernel
theorem dX12_isFan_0 : decode cX12_isFan 0 = .ok (.iload_n 1, 1) := by decide +kernel
theorem dX12_isFan_1 : decode cX12_isFan 1 = .ok (.iconst 0, 1) := by decide +kernel
theorem dX12_isFan_2 : decode cX12_isFan 2 = .ok (.aload_n 0, 1) := by decide +kernel
theorem dX12_isFan_3 : decode cX12_isFan 3 = .ok (.getfield 9, 3) := by decide +kernel
theorem dX12_isFan_6 : decode cX12_isFan 6 = .ok (.bipush 13, 2) := by decide +kernel
theorem dX12_isFan_8 : decode cX12_isFan 8 = .ok (.iaload, 1) := by decide +kernel
theorem dX12_isFan_9 : decode cX12_isFan 9 = .ok (.iconst 1, 1) := by decide +kernel
theorem dX12_isFan_10 : decode cX12_isFan 10 = .ok (.isub, 1) := by decide +kernel
theorem dX12_isFan_11 : decode cX12_isFan 11 = .ok (.invokestatic 41, 3) := by decide +kernel
theorem dX12_isFan_14 : decode cX12_isFan 14 = .ok (.ireturn, 1) := by decide +kernel
theorem dX12_isSitter_0 : decode cX12_isSitter 0 = .ok (.iload_n 1, 1) := by decide +kernel
theorem dX12_isSitter_1 : decode cX12_isSitter 1 = .ok (.iconst 0, 1) := by decide +kernel
theorem dX12_isSitter_2 : decode cX12_isSitter 2 = .ok (.aload_n 0, 1) := by decide +kernel
theorem dX12_isSitter_3 : decode cX12_isSitter 3 = .ok (.getfield 9, 3) := by decide +kernel
theorem dX12_isSitter_6 : decode cX12_isSitter 6 = .ok (.bipush 14, 2) := by decide +kernel
theorem dX12_isSitter_8 : decode cX12_isSitter 8 = .ok (.iaload, 1) := by decide +kernel
theorem dX12_isSitter_9 : decode cX12_isSitter 9 = .ok (.iconst 1, 1) := by decide +kernel
theorem dX12_isSitter_10 : decode cX12_isSitter 10 = .ok (.isub, 1) := by decide +kernel
theorem dX12_isSitter_11 : decode cX12_isSitter 11 = .ok (.invokestatic 41, 3) := by decide +kernel
theorem dX12_isSitter_14 : decode cX12_isSitter 14 = .ok (.ireturn, 1) := by decide +kernel
theorem dX12_isPlace_0 : decode cX12_isPlace 0 = .ok (.iload_n 0, 1) := by decide +kernel
theorem dX12_isPlace_1 : decode cX12_isPlace 1 = .ok (.iconst 0, 1) := by decide +kernel
theorem dX12_isPlace_2 : decode cX12_isPlace 2 = .ok (.bipush 9, 2) := by decide +kernel
theorem dX12_isPlace_4 : decode cX12_isPlace 4 = .ok (.invokestatic 41, 3) := by decide +kernel
theorem dX12_isPlace_7 : decode cX12_isPlace 7 = .ok (.ireturn, 1) := by decide +kernel
theorem dX12_keeps_0 : decode cX12_keeps 0 = .ok (.iconst 0, 1) := by decide +kernel
theorem dX12_keeps_1 : decode cX12_keeps 1 = .ok (.istore_n 1, 1) := by decide +kernel
theorem dX12_keeps_2 : decode cX12_keeps 2 = .ok (.iload_n 1, 1) := by decide +kernel
theorem dX12_keeps_3 : decode cX12_keeps 3 = .ok (.bipush 13, 2) := by decide +kernel
theorem dX12_keeps_5 : decode cX12_keeps 5 = .ok (.if_icmp .ge 21, 3) := by decide +kernel
theorem dX12_keeps_8 : decode cX12_keeps 8 = .ok (.aload_n 0, 1) := by decide +kernel
theorem dX12_keeps_9 : decode cX12_keeps 9 = .ok (.getfield 18, 3) := by decide +kernel
theorem dX12_keeps_12 : decode cX12_keeps 12 = .ok (.iload_n 1, 1) := by decide +kernel
theorem dX12_keeps_13 : decode cX12_keeps 13 = .ok (.aload_n 0, 1) := by decide +kernel
theorem dX12_keeps_14 : decode cX12_keeps 14 = .ok (.getfield 9, 3) := by decide +kernel
theorem dX12_keeps_17 : decode cX12_keeps 17 = .ok (.iload_n 1, 1) := by decide +kernel
theorem dX12_keeps_18 : decode cX12_keeps 18 = .ok (.iaload, 1) := by decide +kernel
theorem dX12_keeps_19 : decode cX12_keeps 19 = .ok (.iastore, 1) := by decide +kernel
theorem dX12_keeps_20 : decode cX12_keeps 20 = .ok (.iinc 1 1, 3) := by decide +kernel
theorem dX12_keeps_23 : decode cX12_keeps 23 = .ok (.goto (-21), 3) := by decide +kernel
theorem dX12_keeps_26 : decode cX12_keeps 26 = .ok (.return_, 1) := by decide +kernel
theorem dX12_goesBack_0 : decode cX12_goesBack 0 = .ok (.iconst 0, 1) := by decide +kernel
theorem dX12_goesBack_1 : decode cX12_goesBack 1 = .ok (.istore_n 1, 1) := by decide +kernel
theorem dX12_goesBack_2 : decode cX12_goesBack 2 = .ok (.iload_n 1, 1) := by decide +kernel
theorem dX12_goesBack_3 : decode cX12_goesBack 3 = .ok (.bipush 13, 2) := by decide +kernel
theorem dX12_goesBack_5 : decode cX12_goesBack 5 = .ok (.if_icmp .ge 21, 3) := by decide +kernel
theorem dX12_goesBack_8 : decode cX12_goesBack 8 = .ok (.aload_n 0, 1) := by decide +kernel
theorem dX12_goesBack_9 : decode cX12_goesBack 9 = .ok (.getfield 9, 3) := by decide +kernel
theorem dX12_goesBack_12 : decode cX12_goesBack 12 = .ok (.iload_n 1, 1) := by decide +kernel
theorem dX12_goesBack_13 : decode cX12_goesBack 13 = .ok (.aload_n 0, 1) := by decide +kernel
theorem dX12_goesBack_14 : decode cX12_goesBack 14 = .ok (.getfield 18, 3) := by decide +kernel
theorem dX12_goesBack_17 : decode cX12_goesBack 17 = .ok (.iload_n 1, 1) := by decide +kernel
theorem dX12_goesBack_18 : decode cX12_goesBack 18 = .ok (.iaload, 1) := by decide +kernel
theorem dX12_goesBack_19 : decode cX12_goesBack 19 = .ok (.iastore, 1) := by decide +kernel
theorem dX12_goesBack_20 : decode cX12_goesBack 20 = .ok (.iinc 1 1, 3) := by decide +kernel
theorem dX12_goesBack_23 : decode cX12_goesBack 23 = .ok (.goto (-21), 3) := by decide +kernel
theorem dX12_goesBack_26 : decode cX12_goesBack 26 = .ok (.return_, 1) := by decide +kernel
theorem dX12_feed_0 : decode cX12_feed 0 = .ok (.iload_n 1, 1) := by decide +kernel
theorem dX12_feed_1 : decode cX12_feed 1 = .ok (.iconst 0, 1) := by decide +kernel
theorem dX12_feed_2 : decode cX12_feed 2 = .ok (.bipush 127, 2) := by decide +kernel
theorem dX12_feed_4 : decode cX12_feed 4 = .ok (.invokestatic 41, 3) := by decide +kernel
theorem dX12_feed_7 : decode cX12_feed 7 = .ok (.ifCond .ne 6, 3) := by decide +kernel
theorem dX12_feed_10 : decode cX12_feed 10 = .ok (.bipush (-2), 2) := by decide +kernel
theorem dX12_feed_12 : decode cX12_feed 12 = .ok (.ireturn, 1) := by decide +kernel
theorem dX12_feed_13 : decode cX12_feed 13 = .ok (.aload_n 0, 1) := by decide +kernel
theorem dX12_feed_14 : decode cX12_feed 14 = .ok (.getfield 9, 3) := by decide +kernel
theorem dX12_feed_17 : decode cX12_feed 17 = .ok (.bipush 19, 2) := by decide +kernel
theorem dX12_feed_19 : decode cX12_feed 19 = .ok (.iaload, 1) := by decide +kernel
theorem dX12_feed_20 : decode cX12_feed 20 = .ok (.bipush 100, 2) := by decide +kernel
theorem dX12_feed_22 : decode cX12_feed 22 = .ok (.if_icmp .ne 6, 3) := by decide +kernel
theorem dX12_feed_25 : decode cX12_feed 25 = .ok (.bipush (-4), 2) := by decide +kernel
theorem dX12_feed_27 : decode cX12_feed 27 = .ok (.ireturn, 1) := by decide +kernel
theorem dX12_feed_28 : decode cX12_feed 28 = .ok (.aload_n 0, 1) := by decide +kernel
theorem dX12_feed_29 : decode cX12_feed 29 = .ok (.getfield 9, 3) := by decide +kernel
theorem dX12_feed_32 : decode cX12_feed 32 = .ok (.bipush 118, 2) := by decide +kernel
theorem dX12_feed_34 : decode cX12_feed 34 = .ok (.aload_n 0, 1) := by decide +kernel
theorem dX12_feed_35 : decode cX12_feed 35 = .ok (.getfield 9, 3) := by decide +kernel
theorem dX12_feed_38 : decode cX12_feed 38 = .ok (.bipush 19, 2) := by decide +kernel
theorem dX12_feed_40 : decode cX12_feed 40 = .ok (.iaload, 1) := by decide +kernel
theorem dX12_feed_41 : decode cX12_feed 41 = .ok (.iadd, 1) := by decide +kernel
theorem dX12_feed_42 : decode cX12_feed 42 = .ok (.iload_n 1, 1) := by decide +kernel
theorem dX12_feed_43 : decode cX12_feed 43 = .ok (.iastore, 1) := by decide +kernel
theorem dX12_feed_44 : decode cX12_feed 44 = .ok (.aload_n 0, 1) := by decide +kernel
theorem dX12_feed_45 : decode cX12_feed 45 = .ok (.getfield 9, 3) := by decide +kernel
theorem dX12_feed_48 : decode cX12_feed 48 = .ok (.bipush 19, 2) := by decide +kernel
theorem dX12_feed_50 : decode cX12_feed 50 = .ok (.dup2, 1) := by decide +kernel
theorem dX12_feed_51 : decode cX12_feed 51 = .ok (.iaload, 1) := by decide +kernel
theorem dX12_feed_52 : decode cX12_feed 52 = .ok (.iconst 1, 1) := by decide +kernel
theorem dX12_feed_53 : decode cX12_feed 53 = .ok (.iadd, 1) := by decide +kernel
theorem dX12_feed_54 : decode cX12_feed 54 = .ok (.iastore, 1) := by decide +kernel
theorem dX12_feed_55 : decode cX12_feed 55 = .ok (.aload_n 0, 1) := by decide +kernel
theorem dX12_feed_56 : decode cX12_feed 56 = .ok (.getfield 9, 3) := by decide +kernel
theorem dX12_feed_59 : decode cX12_feed 59 = .ok (.bipush 19, 2) := by decide +kernel
theorem dX12_feed_61 : decode cX12_feed 61 = .ok (.iaload, 1) := by decide +kernel
theorem dX12_feed_62 : decode cX12_feed 62 = .ok (.ireturn, 1) := by decide +kernel
theorem dX12_here_0 : decode cX12_here 0 = .ok (.aload_n 0, 1) := by decide +kernel
theorem dX12_here_1 : decode cX12_here 1 = .ok (.getfield 45, 3) := by decide +kernel
theorem dX12_here_4 : decode cX12_here 4 = .ok (.aload_n 0, 1) := by decide +kernel
theorem dX12_here_5 : decode cX12_here 5 = .ok (.getfield 48, 3) := by decide +kernel
theorem dX12_here_8 : decode cX12_here 8 = .ok (.if_icmp .ge 18, 3) := by decide +kernel
theorem dX12_here_11 : decode cX12_here 11 = .ok (.aload_n 0, 1) := by decide +kernel
theorem dX12_here_12 : decode cX12_here 12 = .ok (.getfield 9, 3) := by decide +kernel
theorem dX12_here_15 : decode cX12_here 15 = .ok (.bipush 118, 2) := by decide +kernel
theorem dX12_here_17 : decode cX12_here 17 = .ok (.aload_n 0, 1) := by decide +kernel
theorem dX12_here_18 : decode cX12_here 18 = .ok (.getfield 45, 3) := by decide +kernel
theorem dX12_here_21 : decode cX12_here 21 = .ok (.iadd, 1) := by decide +kernel
theorem dX12_here_22 : decode cX12_here 22 = .ok (.iaload, 1) := by decide +kernel
theorem dX12_here_23 : decode cX12_here 23 = .ok (.goto 4, 3) := by decide +kernel
theorem dX12_here_26 : decode cX12_here 26 = .ok (.iconst (-1), 1) := by decide +kernel
theorem dX12_here_27 : decode cX12_here 27 = .ok (.ireturn, 1) := by decide +kernel
theorem dX12_must_0 : decode cX12_must 0 = .ok (.aload_n 0, 1) := by decide +kernel
theorem dX12_must_1 : decode cX12_must 1 = .ok (.aload_n 0, 1) := by decide +kernel
theorem dX12_must_2 : decode cX12_must 2 = .ok (.getfield 51, 3) := by decide +kernel
theorem dX12_must_5 : decode cX12_must 5 = .ok (.ifCond .ne 11, 3) := by decide +kernel
theorem dX12_must_8 : decode cX12_must 8 = .ok (.aload_n 0, 1) := by decide +kernel
theorem dX12_must_9 : decode cX12_must 9 = .ok (.invokevirtual 55, 3) := by decide +kernel
theorem dX12_must_12 : decode cX12_must 12 = .ok (.iload_n 1, 1) := by decide +kernel
theorem dX12_must_13 : decode cX12_must 13 = .ok (.if_icmp .eq 7, 3) := by decide +kernel
theorem dX12_must_16 : decode cX12_must 16 = .ok (.iconst 1, 1) := by decide +kernel
theorem dX12_must_17 : decode cX12_must 17 = .ok (.goto 4, 3) := by decide +kernel
theorem dX12_must_20 : decode cX12_must 20 = .ok (.iconst 0, 1) := by decide +kernel
theorem dX12_must_21 : decode cX12_must 21 = .ok (.putfield 51, 3) := by decide +kernel
theorem dX12_must_24 : decode cX12_must 24 = .ok (.aload_n 0, 1) := by decide +kernel
theorem dX12_must_25 : decode cX12_must 25 = .ok (.dup, 1) := by decide +kernel
theorem dX12_must_26 : decode cX12_must 26 = .ok (.getfield 45, 3) := by decide +kernel
theorem dX12_must_29 : decode cX12_must 29 = .ok (.aload_n 0, 1) := by decide +kernel
theorem dX12_must_30 : decode cX12_must 30 = .ok (.getfield 51, 3) := by decide +kernel
theorem dX12_must_33 : decode cX12_must 33 = .ok (.ifCond .eq 7, 3) := by decide +kernel
theorem dX12_must_36 : decode cX12_must 36 = .ok (.iconst 0, 1) := by decide +kernel
theorem dX12_must_37 : decode cX12_must 37 = .ok (.goto 4, 3) := by decide +kernel
theorem dX12_must_40 : decode cX12_must 40 = .ok (.iconst 1, 1) := by decide +kernel
theorem dX12_must_41 : decode cX12_must 41 = .ok (.iadd, 1) := by decide +kernel
theorem dX12_must_42 : decode cX12_must 42 = .ok (.putfield 45, 3) := by decide +kernel
theorem dX12_must_45 : decode cX12_must 45 = .ok (.return_, 1) := by decide +kernel
theorem dX12_spells_0 : decode cX12_spells 0 = .ok (.iconst 0, 1) := by decide +kernel
theorem dX12_spells_1 : decode cX12_spells 1 = .ok (.istore_n 2, 1) := by decide +kernel
theorem dX12_spells_2 : decode cX12_spells 2 = .ok (.iload_n 2, 1) := by decide +kernel
theorem dX12_spells_3 : decode cX12_spells 3 = .ok (.aload_n 1, 1) := by decide +kernel
theorem dX12_spells_4 : decode cX12_spells 4 = .ok (.invokevirtual 59, 3) := by decide +kernel
theorem dX12_spells_7 : decode cX12_spells 7 = .ok (.if_icmp .ge 18, 3) := by decide +kernel
theorem dX12_spells_10 : decode cX12_spells 10 = .ok (.aload_n 0, 1) := by decide +kernel
theorem dX12_spells_11 : decode cX12_spells 11 = .ok (.aload_n 1, 1) := by decide +kernel
theorem dX12_spells_12 : decode cX12_spells 12 = .ok (.iload_n 2, 1) := by decide +kernel
theorem dX12_spells_13 : decode cX12_spells 13 = .ok (.invokevirtual 64, 3) := by decide +kernel
theorem dX12_spells_16 : decode cX12_spells 16 = .ok (.invokevirtual 68, 3) := by decide +kernel
theorem dX12_spells_19 : decode cX12_spells 19 = .ok (.iinc 2 1, 3) := by decide +kernel
theorem dX12_spells_22 : decode cX12_spells 22 = .ok (.goto (-20), 3) := by decide +kernel
theorem dX12_spells_25 : decode cX12_spells 25 = .ok (.return_, 1) := by decide +kernel
theorem dX12_figures_0 : decode cX12_figures 0 = .ok (.aload_n 0, 1) := by decide +kernel
theorem dX12_figures_1 : decode cX12_figures 1 = .ok (.aload_n 0, 1) := by decide +kernel
theorem dX12_figures_2 : decode cX12_figures 2 = .ok (.getfield 51, 3) := by decide +kernel
theorem dX12_figures_5 : decode cX12_figures 5 = .ok (.ifCond .ne 17, 3) := by decide +kernel
theorem dX12_figures_8 : decode cX12_figures 8 = .ok (.aload_n 0, 1) := by decide +kernel
theorem dX12_figures_9 : decode cX12_figures 9 = .ok (.invokevirtual 55, 3) := by decide +kernel
theorem dX12_figures_12 : decode cX12_figures 12 = .ok (.bipush 48, 2) := by decide +kernel
theorem dX12_figures_14 : decode cX12_figures 14 = .ok (.bipush 57, 2) := by decide +kernel
theorem dX12_figures_16 : decode cX12_figures 16 = .ok (.invokestatic 41, 3) := by decide +kernel
theorem dX12_figures_19 : decode cX12_figures 19 = .ok (.ifCond .ne 7, 3) := by decide +kernel
theorem dX12_figures_22 : decode cX12_figures 22 = .ok (.iconst 1, 1) := by decide +kernel
theorem dX12_figures_23 : decode cX12_figures 23 = .ok (.goto 4, 3) := by decide +kernel
theorem dX12_figures_26 : decode cX12_figures 26 = .ok (.iconst 0, 1) := by decide +kernel
theorem dX12_figures_27 : decode cX12_figures 27 = .ok (.putfield 51, 3) := by decide +kernel
theorem dX12_figures_30 : decode cX12_figures 30 = .ok (.iconst 0, 1) := by decide +kernel
theorem dX12_figures_31 : decode cX12_figures 31 = .ok (.istore_n 1, 1) := by decide +kernel
theorem dX12_figures_32 : decode cX12_figures 32 = .ok (.iconst 0, 1) := by decide +kernel
theorem dX12_figures_33 : decode cX12_figures 33 = .ok (.istore_n 2, 1) := by decide +kernel
theorem dX12_figures_34 : decode cX12_figures 34 = .ok (.iload_n 2, 1) := by decide +kernel
theorem dX12_figures_35 : decode cX12_figures 35 = .ok (.iconst 2, 1) := by decide +kernel
theorem dX12_figures_36 : decode cX12_figures 36 = .ok (.if_icmp .ge 61, 3) := by decide +kernel
theorem dX12_figures_39 : decode cX12_figures 39 = .ok (.aload_n 0, 1) := by decide +kernel
theorem dX12_figures_40 : decode cX12_figures 40 = .ok (.getfield 51, 3) := by decide +kernel
theorem dX12_figures_43 : decode cX12_figures 43 = .ok (.ifCond .ne 54, 3) := by decide +kernel
theorem dX12_figures_46 : decode cX12_figures 46 = .ok (.aload_n 0, 1) := by decide +kernel
theorem dX12_figures_47 : decode cX12_figures 47 = .ok (.invokevirtual 55, 3) := by decide +kernel
theorem dX12_figures_50 : decode cX12_figures 50 = .ok (.bipush 48, 2) := by decide +kernel
theorem dX12_figures_52 : decode cX12_figures 52 = .ok (.bipush 57, 2) := by decide +kernel
theorem dX12_figures_54 : decode cX12_figures 54 = .ok (.invokestatic 41, 3) := by decide +kernel
theorem dX12_figures_57 : decode cX12_figures 57 = .ok (.ifCond .eq 40, 3) := by decide +kernel
theorem dX12_figures_60 : decode cX12_figures 60 = .ok (.iload_n 2, 1) := by decide +kernel
theorem dX12_figures_61 : decode cX12_figures 61 = .ok (.ifCond .eq 7, 3) := by decide +kernel
theorem dX12_figures_64 : decode cX12_figures 64 = .ok (.iload_n 1, 1) := by decide +kernel
theorem dX12_figures_65 : decode cX12_figures 65 = .ok (.ifCond .le 32, 3) := by decide +kernel
theorem dX12_figures_68 : decode cX12_figures 68 = .ok (.bipush 10, 2) := by decide +kernel
theorem dX12_figures_70 : decode cX12_figures 70 = .ok (.iload_n 1, 1) := by decide +kernel
theorem dX12_figures_71 : decode cX12_figures 71 = .ok (.imul, 1) := by decide +kernel
theorem dX12_figures_72 : decode cX12_figures 72 = .ok (.aload_n 0, 1) := by decide +kernel
theorem dX12_figures_73 : decode cX12_figures 73 = .ok (.invokevirtual 55, 3) := by decide +kernel
theorem dX12_figures_76 : decode cX12_figures 76 = .ok (.iadd, 1) := by decide +kernel
theorem dX12_figures_77 : decode cX12_figures 77 = .ok (.bipush 48, 2) := by decide +kernel
theorem dX12_figures_79 : decode cX12_figures 79 = .ok (.isub, 1) := by decide +kernel
theorem dX12_figures_80 : decode cX12_figures 80 = .ok (.istore_n 1, 1) := by decide +kernel
theorem dX12_figures_81 : decode cX12_figures 81 = .ok (.aload_n 0, 1) := by decide +kernel
theorem dX12_figures_82 : decode cX12_figures 82 = .ok (.dup, 1) := by decide +kernel
theorem dX12_figures_83 : decode cX12_figures 83 = .ok (.getfield 45, 3) := by decide +kernel
theorem dX12_figures_86 : decode cX12_figures 86 = .ok (.iconst 1, 1) := by decide +kernel
theorem dX12_figures_87 : decode cX12_figures 87 = .ok (.iadd, 1) := by decide +kernel
theorem dX12_figures_88 : decode cX12_figures 88 = .ok (.putfield 45, 3) := by decide +kernel
theorem dX12_figures_91 : decode cX12_figures 91 = .ok (.iinc 2 1, 3) := by decide +kernel
theorem dX12_figures_94 : decode cX12_figures 94 = .ok (.goto (-60), 3) := by decide +kernel
theorem dX12_figures_97 : decode cX12_figures 97 = .ok (.iload_n 1, 1) := by decide +kernel
theorem dX12_figures_98 : decode cX12_figures 98 = .ok (.ireturn, 1) := by decide +kernel
theorem dX12_among_0 : decode cX12_among 0 = .ok (.iconst 0, 1) := by decide +kernel
theorem dX12_among_1 : decode cX12_among 1 = .ok (.istore_n 2, 1) := by decide +kernel
theorem dX12_among_2 : decode cX12_among 2 = .ok (.iload_n 2, 1) := by decide +kernel
theorem dX12_among_3 : decode cX12_among 3 = .ok (.aload_n 1, 1) := by decide +kernel
theorem dX12_among_4 : decode cX12_among 4 = .ok (.invokevirtual 59, 3) := by decide +kernel
theorem dX12_among_7 : decode cX12_among 7 = .ok (.if_icmp .ge 33, 3) := by decide +kernel
theorem dX12_among_10 : decode cX12_among 10 = .ok (.aload_n 0, 1) := by decide +kernel
theorem dX12_among_11 : decode cX12_among 11 = .ok (.invokevirtual 55, 3) := by decide +kernel
theorem dX12_among_14 : decode cX12_among 14 = .ok (.aload_n 1, 1) := by decide +kernel
theorem dX12_among_15 : decode cX12_among 15 = .ok (.iload_n 2, 1) := by decide +kernel
theorem dX12_among_16 : decode cX12_among 16 = .ok (.invokevirtual 64, 3) := by decide +kernel
theorem dX12_among_19 : decode cX12_among 19 = .ok (.if_icmp .ne 15, 3) := by decide +kernel
theorem dX12_among_22 : decode cX12_among 22 = .ok (.aload_n 0, 1) := by decide +kernel
theorem dX12_among_23 : decode cX12_among 23 = .ok (.dup, 1) := by decide +kernel
theorem dX12_among_24 : decode cX12_among 24 = .ok (.getfield 45, 3) := by decide +kernel
theorem dX12_among_27 : decode cX12_among 27 = .ok (.iconst 1, 1) := by decide +kernel
theorem dX12_among_28 : decode cX12_among 28 = .ok (.iadd, 1) := by decide +kernel
theorem dX12_among_29 : decode cX12_among 29 = .ok (.putfield 45, 3) := by decide +kernel
theorem dX12_among_32 : decode cX12_among 32 = .ok (.iload_n 2, 1) := by decide +kernel
theorem dX12_among_33 : decode cX12_among 33 = .ok (.ireturn, 1) := by decide +kernel
theorem dX12_among_34 : decode cX12_among 34 = .ok (.iinc 2 1, 3) := by decide +kernel
theorem dX12_among_37 : decode cX12_among 37 = .ok (.goto (-35), 3) := by decide +kernel
theorem dX12_among_40 : decode cX12_among 40 = .ok (.iconst (-1), 1) := by decide +kernel
theorem dX12_among_41 : decode cX12_among 41 = .ok (.ireturn, 1) := by decide +kernel
theorem dX12_emits_0 : decode cX12_emits 0 = .ok (.aload_n 0, 1) := by decide +kernel
theorem dX12_emits_1 : decode cX12_emits 1 = .ok (.getfield 51, 3) := by decide +kernel
theorem dX12_emits_4 : decode cX12_emits 4 = .ok (.ifCond .ne 52, 3) := by decide +kernel
theorem dX12_emits_7 : decode cX12_emits 7 = .ok (.aload_n 0, 1) := by decide +kernel
theorem dX12_emits_8 : decode cX12_emits 8 = .ok (.getfield 9, 3) := by decide +kernel
theorem dX12_emits_11 : decode cX12_emits 11 = .ok (.sipush 243, 3) := by decide +kernel
theorem dX12_emits_14 : decode cX12_emits 14 = .ok (.sipush 140, 3) := by decide +kernel
theorem dX12_emits_17 : decode cX12_emits 17 = .ok (.aload_n 0, 1) := by decide +kernel
theorem dX12_emits_18 : decode cX12_emits 18 = .ok (.getfield 72, 3) := by decide +kernel
theorem dX12_emits_21 : decode cX12_emits 21 = .ok (.imul, 1) := by decide +kernel
theorem dX12_emits_22 : decode cX12_emits 22 = .ok (.iadd, 1) := by decide +kernel
theorem dX12_emits_23 : decode cX12_emits 23 = .ok (.aload_n 0, 1) := by decide +kernel
theorem dX12_emits_24 : decode cX12_emits 24 = .ok (.getfield 9, 3) := by decide +kernel
theorem dX12_emits_27 : decode cX12_emits 27 = .ok (.sipush 228, 3) := by decide +kernel
theorem dX12_emits_30 : decode cX12_emits 30 = .ok (.aload_n 0, 1) := by decide +kernel
theorem dX12_emits_31 : decode cX12_emits 31 = .ok (.getfield 72, 3) := by decide +kernel
theorem dX12_emits_34 : decode cX12_emits 34 = .ok (.iadd, 1) := by decide +kernel
theorem dX12_emits_35 : decode cX12_emits 35 = .ok (.iaload, 1) := by decide +kernel
theorem dX12_emits_36 : decode cX12_emits 36 = .ok (.iadd, 1) := by decide +kernel
theorem dX12_emits_37 : decode cX12_emits 37 = .ok (.iload_n 1, 1) := by decide +kernel
theorem dX12_emits_38 : decode cX12_emits 38 = .ok (.iastore, 1) := by decide +kernel
theorem dX12_emits_39 : decode cX12_emits 39 = .ok (.aload_n 0, 1) := by decide +kernel
theorem dX12_emits_40 : decode cX12_emits 40 = .ok (.getfield 9, 3) := by decide +kernel
theorem dX12_emits_43 : decode cX12_emits 43 = .ok (.sipush 228, 3) := by decide +kernel
theorem dX12_emits_46 : decode cX12_emits 46 = .ok (.aload_n 0, 1) := by decide +kernel
theorem dX12_emits_47 : decode cX12_emits 47 = .ok (.getfield 72, 3) := by decide +kernel
theorem dX12_emits_50 : decode cX12_emits 50 = .ok (.iadd, 1) := by decide +kernel
theorem dX12_emits_51 : decode cX12_emits 51 = .ok (.dup2, 1) := by decide +kernel
theorem dX12_emits_52 : decode cX12_emits 52 = .ok (.iaload, 1) := by decide +kernel
theorem dX12_emits_53 : decode cX12_emits 53 = .ok (.iconst 1, 1) := by decide +kernel
theorem dX12_emits_54 : decode cX12_emits 54 = .ok (.iadd, 1) := by decide +kernel
theorem dX12_emits_55 : decode cX12_emits 55 = .ok (.iastore, 1) := by decide +kernel
theorem dX12_emits_56 : decode cX12_emits 56 = .ok (.return_, 1) := by decide +kernel
theorem dX12_factor_0 : decode cX12_factor 0 = .ok (.aload_n 0, 1) := by decide +kernel
theorem dX12_factor_1 : decode cX12_factor 1 = .ok (.getfield 51, 3) := by decide +kernel
theorem dX12_factor_4 : decode cX12_factor 4 = .ok (.ifCond .eq 4, 3) := by decide +kernel
theorem dX12_factor_7 : decode cX12_factor 7 = .ok (.return_, 1) := by decide +kernel
theorem dX12_factor_8 : decode cX12_factor 8 = .ok (.aload_n 0, 1) := by decide +kernel
theorem dX12_factor_9 : decode cX12_factor 9 = .ok (.invokevirtual 55, 3) := by decide +kernel
theorem dX12_factor_12 : decode cX12_factor 12 = .ok (.istore_n 1, 1) := by decide +kernel
theorem dX12_factor_13 : decode cX12_factor 13 = .ok (.iload_n 1, 1) := by decide +kernel
theorem dX12_factor_14 : decode cX12_factor 14 = .ok (.bipush 33, 2) := by decide +kernel
theorem dX12_factor_16 : decode cX12_factor 16 = .ok (.if_icmp .eq 9, 3) := by decide +kernel
theorem dX12_factor_19 : decode cX12_factor 19 = .ok (.iload_n 1, 1) := by decide +kernel
theorem dX12_factor_20 : decode cX12_factor 20 = .ok (.bipush 40, 2) := by decide +kernel
theorem dX12_factor_22 : decode cX12_factor 22 = .ok (.if_icmp .ne 90, 3) := by decide +kernel
theorem dX12_factor_25 : decode cX12_factor 25 = .ok (.aload_n 0, 1) := by decide +kernel
theorem dX12_factor_26 : decode cX12_factor 26 = .ok (.aload_n 0, 1) := by decide +kernel
theorem dX12_factor_27 : decode cX12_factor 27 = .ok (.getfield 75, 3) := by decide +kernel
theorem dX12_factor_30 : decode cX12_factor 30 = .ok (.iconst 5, 1) := by decide +kernel
theorem dX12_factor_31 : decode cX12_factor 31 = .ok (.if_icmp .ne 7, 3) := by decide +kernel
theorem dX12_factor_34 : decode cX12_factor 34 = .ok (.iconst 1, 1) := by decide +kernel
theorem dX12_factor_35 : decode cX12_factor 35 = .ok (.goto 4, 3) := by decide +kernel
theorem dX12_factor_38 : decode cX12_factor 38 = .ok (.iconst 0, 1) := by decide +kernel
theorem dX12_factor_39 : decode cX12_factor 39 = .ok (.putfield 51, 3) := by decide +kernel
theorem dX12_factor_42 : decode cX12_factor 42 = .ok (.aload_n 0, 1) := by decide +kernel
theorem dX12_factor_43 : decode cX12_factor 43 = .ok (.dup, 1) := by decide +kernel
theorem dX12_factor_44 : decode cX12_factor 44 = .ok (.getfield 75, 3) := by decide +kernel
theorem dX12_factor_47 : decode cX12_factor 47 = .ok (.iconst 1, 1) := by decide +kernel
theorem dX12_factor_48 : decode cX12_factor 48 = .ok (.iadd, 1) := by decide +kernel
theorem dX12_factor_49 : decode cX12_factor 49 = .ok (.putfield 75, 3) := by decide +kernel
theorem dX12_factor_52 : decode cX12_factor 52 = .ok (.aload_n 0, 1) := by decide +kernel
theorem dX12_factor_53 : decode cX12_factor 53 = .ok (.dup, 1) := by decide +kernel
theorem dX12_factor_54 : decode cX12_factor 54 = .ok (.getfield 45, 3) := by decide +kernel
theorem dX12_factor_57 : decode cX12_factor 57 = .ok (.aload_n 0, 1) := by decide +kernel
theorem dX12_factor_58 : decode cX12_factor 58 = .ok (.getfield 51, 3) := by decide +kernel
theorem dX12_factor_61 : decode cX12_factor 61 = .ok (.ifCond .eq 7, 3) := by decide +kernel
theorem dX12_factor_64 : decode cX12_factor 64 = .ok (.iconst 0, 1) := by decide +kernel
theorem dX12_factor_65 : decode cX12_factor 65 = .ok (.goto 4, 3) := by decide +kernel
theorem dX12_factor_68 : decode cX12_factor 68 = .ok (.iconst 1, 1) := by decide +kernel
theorem dX12_factor_69 : decode cX12_factor 69 = .ok (.iadd, 1) := by decide +kernel
theorem dX12_factor_70 : decode cX12_factor 70 = .ok (.putfield 45, 3) := by decide +kernel
theorem dX12_factor_73 : decode cX12_factor 73 = .ok (.iload_n 1, 1) := by decide +kernel
theorem dX12_factor_74 : decode cX12_factor 74 = .ok (.bipush 33, 2) := by decide +kernel
theorem dX12_factor_76 : decode cX12_factor 76 = .ok (.if_icmp .ne 15, 3) := by decide +kernel
theorem dX12_factor_79 : decode cX12_factor 79 = .ok (.aload_n 0, 1) := by decide +kernel
theorem dX12_factor_80 : decode cX12_factor 80 = .ok (.invokevirtual 78, 3) := by decide +kernel
theorem dX12_factor_83 : decode cX12_factor 83 = .ok (.aload_n 0, 1) := by decide +kernel
theorem dX12_factor_84 : decode cX12_factor 84 = .ok (.iconst (-1), 1) := by decide +kernel
theorem dX12_factor_85 : decode cX12_factor 85 = .ok (.invokevirtual 81, 3) := by decide +kernel
theorem dX12_factor_88 : decode cX12_factor 88 = .ok (.goto 13, 3) := by decide +kernel
theorem dX12_factor_91 : decode cX12_factor 91 = .ok (.aload_n 0, 1) := by decide +kernel
theorem dX12_factor_92 : decode cX12_factor 92 = .ok (.invokevirtual 84, 3) := by decide +kernel
theorem dX12_factor_95 : decode cX12_factor 95 = .ok (.aload_n 0, 1) := by decide +kernel
theorem dX12_factor_96 : decode cX12_factor 96 = .ok (.bipush 41, 2) := by decide +kernel
theorem dX12_factor_98 : decode cX12_factor 98 = .ok (.invokevirtual 68, 3) := by decide +kernel
theorem dX12_factor_101 : decode cX12_factor 101 = .ok (.aload_n 0, 1) := by decide +kernel
theorem dX12_factor_102 : decode cX12_factor 102 = .ok (.dup, 1) := by decide +kernel
theorem dX12_factor_103 : decode cX12_factor 103 = .ok (.getfield 75, 3) := by decide +kernel
theorem dX12_factor_106 : decode cX12_factor 106 = .ok (.iconst 1, 1) := by decide +kernel
theorem dX12_factor_107 : decode cX12_factor 107 = .ok (.isub, 1) := by decide +kernel
theorem dX12_factor_108 : decode cX12_factor 108 = .ok (.putfield 75, 3) := by decide +kernel
theorem dX12_factor_111 : decode cX12_factor 111 = .ok (.return_, 1) := by decide +kernel
theorem dX12_factor_112 : decode cX12_factor 112 = .ok (.aload_n 0, 1) := by decide +kernel
theorem dX12_factor_113 : decode cX12_factor 113 = .ok (.ldc 87, 2) := by decide +kernel
theorem dX12_factor_115 : decode cX12_factor 115 = .ok (.invokevirtual 89, 3) := by decide +kernel
theorem dX12_factor_118 : decode cX12_factor 118 = .ok (.istore_n 2, 1) := by decide +kernel
theorem dX12_factor_119 : decode cX12_factor 119 = .ok (.aload_n 0, 1) := by decide +kernel
theorem dX12_factor_120 : decode cX12_factor 120 = .ok (.iload_n 2, 1) := by decide +kernel
theorem dX12_factor_121 : decode cX12_factor 121 = .ok (.iconst (-1), 1) := by decide +kernel
theorem dX12_factor_122 : decode cX12_factor 122 = .ok (.if_icmp .ne 7, 3) := by decide +kernel
theorem dX12_factor_125 : decode cX12_factor 125 = .ok (.iconst 1, 1) := by decide +kernel
theorem dX12_factor_126 : decode cX12_factor 126 = .ok (.goto 4, 3) := by decide +kernel
theorem dX12_factor_129 : decode cX12_factor 129 = .ok (.iconst 0, 1) := by decide +kernel
theorem dX12_factor_130 : decode cX12_factor 130 = .ok (.putfield 51, 3) := by decide +kernel
theorem dX12_factor_133 : decode cX12_factor 133 = .ok (.aload_n 0, 1) := by decide +kernel
theorem dX12_factor_134 : decode cX12_factor 134 = .ok (.getfield 51, 3) := by decide +kernel
theorem dX12_factor_137 : decode cX12_factor 137 = .ok (.ifCond .eq 7, 3) := by decide +kernel
theorem dX12_factor_140 : decode cX12_factor 140 = .ok (.iconst 0, 1) := by decide +kernel
theorem dX12_factor_141 : decode cX12_factor 141 = .ok (.goto 9, 3) := by decide +kernel
theorem dX12_factor_144 : decode cX12_factor 144 = .ok (.aload_n 0, 1) := by decide +kernel
theorem dX12_factor_145 : decode cX12_factor 145 = .ok (.ldc 93, 2) := by decide +kernel
theorem dX12_factor_147 : decode cX12_factor 147 = .ok (.invokevirtual 89, 3) := by decide +kernel
theorem dX12_factor_150 : decode cX12_factor 150 = .ok (.istore_n 3, 1) := by decide +kernel
theorem dX12_factor_151 : decode cX12_factor 151 = .ok (.aload_n 0, 1) := by decide +kernel
theorem dX12_factor_152 : decode cX12_factor 152 = .ok (.aload_n 0, 1) := by decide +kernel
theorem dX12_factor_153 : decode cX12_factor 153 = .ok (.getfield 51, 3) := by decide +kernel
theorem dX12_factor_156 : decode cX12_factor 156 = .ok (.ifCond .ne 8, 3) := by decide +kernel
theorem dX12_factor_159 : decode cX12_factor 159 = .ok (.iload_n 3, 1) := by decide +kernel
theorem dX12_factor_160 : decode cX12_factor 160 = .ok (.iconst (-1), 1) := by decide +kernel
theorem dX12_factor_161 : decode cX12_factor 161 = .ok (.if_icmp .ne 7, 3) := by decide +kernel
theorem dX12_factor_164 : decode cX12_factor 164 = .ok (.iconst 1, 1) := by decide +kernel
theorem dX12_factor_165 : decode cX12_factor 165 = .ok (.goto 4, 3) := by decide +kernel
theorem dX12_factor_168 : decode cX12_factor 168 = .ok (.iconst 0, 1) := by decide +kernel
theorem dX12_factor_169 : decode cX12_factor 169 = .ok (.putfield 51, 3) := by decide +kernel
theorem dX12_factor_172 : decode cX12_factor 172 = .ok (.aload_n 0, 1) := by decide +kernel
theorem dX12_factor_173 : decode cX12_factor 173 = .ok (.invokevirtual 95, 3) := by decide +kernel
theorem dX12_factor_176 : decode cX12_factor 176 = .ok (.istore 4, 2) := by decide +kernel
theorem dX12_factor_178 : decode cX12_factor 178 = .ok (.aload_n 0, 1) := by decide +kernel
theorem dX12_factor_179 : decode cX12_factor 179 = .ok (.iload_n 2, 1) := by decide +kernel
theorem dX12_factor_180 : decode cX12_factor 180 = .ok (.bipush 8, 2) := by decide +kernel
theorem dX12_factor_182 : decode cX12_factor 182 = .ok (.iload_n 3, 1) := by decide +kernel
theorem dX12_factor_183 : decode cX12_factor 183 = .ok (.imul, 1) := by decide +kernel
theorem dX12_factor_184 : decode cX12_factor 184 = .ok (.iadd, 1) := by decide +kernel
theorem dX12_factor_185 : decode cX12_factor 185 = .ok (.bipush 32, 2) := by decide +kernel
theorem dX12_factor_187 : decode cX12_factor 187 = .ok (.iload 4, 2) := by decide +kernel
theorem dX12_factor_189 : decode cX12_factor 189 = .ok (.imul, 1) := by decide +kernel
theorem dX12_factor_190 : decode cX12_factor 190 = .ok (.iadd, 1) := by decide +kernel
theorem dX12_factor_191 : decode cX12_factor 191 = .ok (.invokevirtual 81, 3) := by decide +kernel
theorem dX12_factor_194 : decode cX12_factor 194 = .ok (.return_, 1) := by decide +kernel
theorem dX12_every_0 : decode cX12_every 0 = .ok (.aload_n 0, 1) := by decide +kernel
theorem dX12_every_1 : decode cX12_every 1 = .ok (.invokevirtual 78, 3) := by decide +kernel
theorem dX12_every_4 : decode cX12_every 4 = .ok (.aload_n 0, 1) := by decide +kernel
theorem dX12_every_5 : decode cX12_every 5 = .ok (.getfield 51, 3) := by decide +kernel
theorem dX12_every_8 : decode cX12_every 8 = .ok (.ifCond .ne 35, 3) := by decide +kernel
theorem dX12_every_11 : decode cX12_every 11 = .ok (.aload_n 0, 1) := by decide +kernel
theorem dX12_every_12 : decode cX12_every 12 = .ok (.invokevirtual 55, 3) := by decide +kernel
theorem dX12_every_15 : decode cX12_every 15 = .ok (.bipush 38, 2) := by decide +kernel
theorem dX12_every_17 : decode cX12_every 17 = .ok (.if_icmp .ne 26, 3) := by decide +kernel
theorem dX12_every_20 : decode cX12_every 20 = .ok (.aload_n 0, 1) := by decide +kernel
theorem dX12_every_21 : decode cX12_every 21 = .ok (.dup, 1) := by decide +kernel
theorem dX12_every_22 : decode cX12_every 22 = .ok (.getfield 45, 3) := by decide +kernel
theorem dX12_every_25 : decode cX12_every 25 = .ok (.iconst 1, 1) := by decide +kernel
theorem dX12_every_26 : decode cX12_every 26 = .ok (.iadd, 1) := by decide +kernel
theorem dX12_every_27 : decode cX12_every 27 = .ok (.putfield 45, 3) := by decide +kernel
theorem dX12_every_30 : decode cX12_every 30 = .ok (.aload_n 0, 1) := by decide +kernel
theorem dX12_every_31 : decode cX12_every 31 = .ok (.invokevirtual 78, 3) := by decide +kernel
theorem dX12_every_34 : decode cX12_every 34 = .ok (.aload_n 0, 1) := by decide +kernel
theorem dX12_every_35 : decode cX12_every 35 = .ok (.bipush (-2), 2) := by decide +kernel
theorem dX12_every_37 : decode cX12_every 37 = .ok (.invokevirtual 81, 3) := by decide +kernel
theorem dX12_every_40 : decode cX12_every 40 = .ok (.goto (-36), 3) := by decide +kernel
theorem dX12_every_43 : decode cX12_every 43 = .ok (.return_, 1) := by decide +kernel
theorem dX12_some_0 : decode cX12_some 0 = .ok (.aload_n 0, 1) := by decide +kernel
theorem dX12_some_1 : decode cX12_some 1 = .ok (.invokevirtual 98, 3) := by decide +kernel
theorem dX12_some_4 : decode cX12_some 4 = .ok (.aload_n 0, 1) := by decide +kernel
theorem dX12_some_5 : decode cX12_some 5 = .ok (.getfield 51, 3) := by decide +kernel
theorem dX12_some_8 : decode cX12_some 8 = .ok (.ifCond .ne 35, 3) := by decide +kernel
theorem dX12_some_11 : decode cX12_some 11 = .ok (.aload_n 0, 1) := by decide +kernel
theorem dX12_some_12 : decode cX12_some 12 = .ok (.invokevirtual 55, 3) := by decide +kernel
theorem dX12_some_15 : decode cX12_some 15 = .ok (.bipush 124, 2) := by decide +kernel
theorem dX12_some_17 : decode cX12_some 17 = .ok (.if_icmp .ne 26, 3) := by decide +kernel
theorem dX12_some_20 : decode cX12_some 20 = .ok (.aload_n 0, 1) := by decide +kernel
theorem dX12_some_21 : decode cX12_some 21 = .ok (.dup, 1) := by decide +kernel
theorem dX12_some_22 : decode cX12_some 22 = .ok (.getfield 45, 3) := by decide +kernel
theorem dX12_some_25 : decode cX12_some 25 = .ok (.iconst 1, 1) := by decide +kernel
theorem dX12_some_26 : decode cX12_some 26 = .ok (.iadd, 1) := by decide +kernel
theorem dX12_some_27 : decode cX12_some 27 = .ok (.putfield 45, 3) := by decide +kernel
theorem dX12_some_30 : decode cX12_some 30 = .ok (.aload_n 0, 1) := by decide +kernel
theorem dX12_some_31 : decode cX12_some 31 = .ok (.invokevirtual 98, 3) := by decide +kernel
theorem dX12_some_34 : decode cX12_some 34 = .ok (.aload_n 0, 1) := by decide +kernel
theorem dX12_some_35 : decode cX12_some 35 = .ok (.bipush (-3), 2) := by decide +kernel
theorem dX12_some_37 : decode cX12_some 37 = .ok (.invokevirtual 81, 3) := by decide +kernel
theorem dX12_some_40 : decode cX12_some 40 = .ok (.goto (-36), 3) := by decide +kernel
theorem dX12_some_43 : decode cX12_some 43 = .ok (.return_, 1) := by decide +kernel
theorem dX12_much_0 : decode cX12_much 0 = .ok (.aload_n 0, 1) := by decide +kernel
theorem dX12_much_1 : decode cX12_much 1 = .ok (.aload_n 2, 1) := by decide +kernel
theorem dX12_much_2 : decode cX12_much 2 = .ok (.invokevirtual 101, 3) := by decide +kernel
theorem dX12_much_5 : decode cX12_much 5 = .ok (.aload_n 0, 1) := by decide +kernel
theorem dX12_much_6 : decode cX12_much 6 = .ok (.invokevirtual 95, 3) := by decide +kernel
theorem dX12_much_9 : decode cX12_much 9 = .ok (.istore 4, 2) := by decide +kernel
theorem dX12_much_11 : decode cX12_much 11 = .ok (.aload_n 0, 1) := by decide +kernel
theorem dX12_much_12 : decode cX12_much 12 = .ok (.bipush 32, 2) := by decide +kernel
theorem dX12_much_14 : decode cX12_much 14 = .ok (.invokevirtual 68, 3) := by decide +kernel
theorem dX12_much_17 : decode cX12_much 17 = .ok (.aload_n 0, 1) := by decide +kernel
theorem dX12_much_18 : decode cX12_much 18 = .ok (.invokevirtual 84, 3) := by decide +kernel
theorem dX12_much_21 : decode cX12_much 21 = .ok (.aload_n 0, 1) := by decide +kernel
theorem dX12_much_22 : decode cX12_much 22 = .ok (.iload_n 1, 1) := by decide +kernel
theorem dX12_much_23 : decode cX12_much 23 = .ok (.iload 4, 2) := by decide +kernel
theorem dX12_much_25 : decode cX12_much 25 = .ok (.isub, 1) := by decide +kernel
theorem dX12_much_26 : decode cX12_much 26 = .ok (.invokevirtual 81, 3) := by decide +kernel
theorem dX12_much_29 : decode cX12_much 29 = .ok (.aload_n 0, 1) := by decide +kernel
theorem dX12_much_30 : decode cX12_much 30 = .ok (.getfield 9, 3) := by decide +kernel
theorem dX12_much_33 : decode cX12_much 33 = .ok (.iload_n 3, 1) := by decide +kernel
theorem dX12_much_34 : decode cX12_much 34 = .ok (.aload_n 0, 1) := by decide +kernel
theorem dX12_much_35 : decode cX12_much 35 = .ok (.getfield 72, 3) := by decide +kernel
theorem dX12_much_38 : decode cX12_much 38 = .ok (.iadd, 1) := by decide +kernel
theorem dX12_much_39 : decode cX12_much 39 = .ok (.iconst 1, 1) := by decide +kernel
theorem dX12_much_40 : decode cX12_much 40 = .ok (.iastore, 1) := by decide +kernel
theorem dX12_much_41 : decode cX12_much 41 = .ok (.return_, 1) := by decide +kernel
theorem dX12_tellsHere_0 : decode cX12_tellsHere 0 = .ok (.aload_n 0, 1) := by decide +kernel
theorem dX12_tellsHere_1 : decode cX12_tellsHere 1 = .ok (.aload_n 2, 1) := by decide +kernel
theorem dX12_tellsHere_2 : decode cX12_tellsHere 2 = .ok (.invokevirtual 101, 3) := by decide +kernel
theorem dX12_tellsHere_5 : decode cX12_tellsHere 5 = .ok (.aload_n 0, 1) := by decide +kernel
theorem dX12_tellsHere_6 : decode cX12_tellsHere 6 = .ok (.invokevirtual 95, 3) := by decide +kernel
theorem dX12_tellsHere_9 : decode cX12_tellsHere 9 = .ok (.istore_n 3, 1) := by decide +kernel
theorem dX12_tellsHere_10 : decode cX12_tellsHere 10 = .ok (.aload_n 0, 1) := by decide +kernel
theorem dX12_tellsHere_11 : decode cX12_tellsHere 11 = .ok (.getfield 51, 3) := by decide +kernel
theorem dX12_tellsHere_14 : decode cX12_tellsHere 14 = .ok (.ifCond .ne 15, 3) := by decide +kernel
theorem dX12_tellsHere_17 : decode cX12_tellsHere 17 = .ok (.aload_n 0, 1) := by decide +kernel
theorem dX12_tellsHere_18 : decode cX12_tellsHere 18 = .ok (.getfield 9, 3) := by decide +kernel
theorem dX12_tellsHere_21 : decode cX12_tellsHere 21 = .ok (.iload_n 1, 1) := by decide +kernel
theorem dX12_tellsHere_22 : decode cX12_tellsHere 22 = .ok (.aload_n 0, 1) := by decide +kernel
theorem dX12_tellsHere_23 : decode cX12_tellsHere 23 = .ok (.getfield 72, 3) := by decide +kernel
theorem dX12_tellsHere_26 : decode cX12_tellsHere 26 = .ok (.iadd, 1) := by decide +kernel
theorem dX12_tellsHere_27 : decode cX12_tellsHere 27 = .ok (.iload_n 3, 1) := by decide +kernel
theorem dX12_tellsHere_28 : decode cX12_tellsHere 28 = .ok (.iastore, 1) := by decide +kernel
theorem dX12_tellsHere_29 : decode cX12_tellsHere 29 = .ok (.return_, 1) := by decide +kernel
theorem dX12_clauseHere_0 : decode cX12_clauseHere 0 = .ok (.aload_n 0, 1) := by decide +kernel
theorem dX12_clauseHere_1 : decode cX12_clauseHere 1 = .ok (.invokevirtual 55, 3) := by decide +kernel
theorem dX12_clauseHere_4 : decode cX12_clauseHere 4 = .ok (.lookupswitch 97 #[(99, 82), (102, 56), (104, 44), (119, 68)], 44) := by decide +kernel
theorem dX12_clauseHere_48 : decode cX12_clauseHere 48 = .ok (.aload_n 0, 1) := by decide +kernel
theorem dX12_clauseHere_49 : decode cX12_clauseHere 49 = .ok (.sipush 218, 3) := by decide +kernel
theorem dX12_clauseHere_52 : decode cX12_clauseHere 52 = .ok (.ldc 105, 2) := by decide +kernel
theorem dX12_clauseHere_54 : decode cX12_clauseHere 54 = .ok (.invokevirtual 107, 3) := by decide +kernel
theorem dX12_clauseHere_57 : decode cX12_clauseHere 57 = .ok (.goto 49, 3) := by decide +kernel
theorem dX12_clauseHere_60 : decode cX12_clauseHere 60 = .ok (.aload_n 0, 1) := by decide +kernel
theorem dX12_clauseHere_61 : decode cX12_clauseHere 61 = .ok (.sipush 223, 3) := by decide +kernel
theorem dX12_clauseHere_64 : decode cX12_clauseHere 64 = .ok (.ldc 111, 2) := by decide +kernel
theorem dX12_clauseHere_66 : decode cX12_clauseHere 66 = .ok (.invokevirtual 107, 3) := by decide +kernel
theorem dX12_clauseHere_69 : decode cX12_clauseHere 69 = .ok (.goto 37, 3) := by decide +kernel
theorem dX12_clauseHere_72 : decode cX12_clauseHere 72 = .ok (.aload_n 0, 1) := by decide +kernel
theorem dX12_clauseHere_73 : decode cX12_clauseHere 73 = .ok (.bipush (-10), 2) := by decide +kernel
theorem dX12_clauseHere_75 : decode cX12_clauseHere 75 = .ok (.ldc 113, 2) := by decide +kernel
theorem dX12_clauseHere_77 : decode cX12_clauseHere 77 = .ok (.sipush 233, 3) := by decide +kernel
theorem dX12_clauseHere_80 : decode cX12_clauseHere 80 = .ok (.invokevirtual 115, 3) := by decide +kernel
theorem dX12_clauseHere_83 : decode cX12_clauseHere 83 = .ok (.goto 23, 3) := by decide +kernel
theorem dX12_clauseHere_86 : decode cX12_clauseHere 86 = .ok (.aload_n 0, 1) := by decide +kernel
theorem dX12_clauseHere_87 : decode cX12_clauseHere 87 = .ok (.sipush (-200), 3) := by decide +kernel
theorem dX12_clauseHere_90 : decode cX12_clauseHere 90 = .ok (.ldc 119, 2) := by decide +kernel
theorem dX12_clauseHere_92 : decode cX12_clauseHere 92 = .ok (.sipush 238, 3) := by decide +kernel
theorem dX12_clauseHere_95 : decode cX12_clauseHere 95 = .ok (.invokevirtual 115, 3) := by decide +kernel
theorem dX12_clauseHere_98 : decode cX12_clauseHere 98 = .ok (.goto 8, 3) := by decide +kernel
theorem dX12_clauseHere_101 : decode cX12_clauseHere 101 = .ok (.aload_n 0, 1) := by decide +kernel
theorem dX12_clauseHere_102 : decode cX12_clauseHere 102 = .ok (.iconst 1, 1) := by decide +kernel
theorem dX12_clauseHere_103 : decode cX12_clauseHere 103 = .ok (.putfield 51, 3) := by decide +kernel
theorem dX12_clauseHere_106 : decode cX12_clauseHere 106 = .ok (.return_, 1) := by decide +kernel
theorem dX12_room_0 : decode cX12_room 0 = .ok (.aload_n 0, 1) := by decide +kernel
theorem dX12_room_1 : decode cX12_room 1 = .ok (.getfield 9, 3) := by decide +kernel
theorem dX12_room_4 : decode cX12_room 4 = .ok (.bipush 15, 2) := by decide +kernel
theorem dX12_room_6 : decode cX12_room 6 = .ok (.iaload, 1) := by decide +kernel
theorem dX12_room_7 : decode cX12_room 7 = .ok (.iconst 5, 1) := by decide +kernel
theorem dX12_room_8 : decode cX12_room 8 = .ok (.if_icmp .ne 6, 3) := by decide +kernel
theorem dX12_room_11 : decode cX12_room 11 = .ok (.bipush (-4), 2) := by decide +kernel
theorem dX12_room_13 : decode cX12_room 13 = .ok (.ireturn, 1) := by decide +kernel
theorem dX12_room_14 : decode cX12_room 14 = .ok (.aload_n 0, 1) := by decide +kernel
theorem dX12_room_15 : decode cX12_room 15 = .ok (.aload_n 0, 1) := by decide +kernel
theorem dX12_room_16 : decode cX12_room 16 = .ok (.getfield 9, 3) := by decide +kernel
theorem dX12_room_19 : decode cX12_room 19 = .ok (.bipush 15, 2) := by decide +kernel
theorem dX12_room_21 : decode cX12_room 21 = .ok (.iaload, 1) := by decide +kernel
theorem dX12_room_22 : decode cX12_room 22 = .ok (.putfield 72, 3) := by decide +kernel
theorem dX12_room_25 : decode cX12_room 25 = .ok (.aload_n 0, 1) := by decide +kernel
theorem dX12_room_26 : decode cX12_room 26 = .ok (.aload_n 0, 1) := by decide +kernel
theorem dX12_room_27 : decode cX12_room 27 = .ok (.getfield 9, 3) := by decide +kernel
theorem dX12_room_30 : decode cX12_room 30 = .ok (.bipush 19, 2) := by decide +kernel
theorem dX12_room_32 : decode cX12_room 32 = .ok (.iaload, 1) := by decide +kernel
theorem dX12_room_33 : decode cX12_room 33 = .ok (.putfield 48, 3) := by decide +kernel
theorem dX12_room_36 : decode cX12_room 36 = .ok (.aload_n 0, 1) := by decide +kernel
theorem dX12_room_37 : decode cX12_room 37 = .ok (.getfield 9, 3) := by decide +kernel
theorem dX12_room_40 : decode cX12_room 40 = .ok (.bipush 19, 2) := by decide +kernel
theorem dX12_room_42 : decode cX12_room 42 = .ok (.iconst 0, 1) := by decide +kernel
theorem dX12_room_43 : decode cX12_room 43 = .ok (.iastore, 1) := by decide +kernel
theorem dX12_room_44 : decode cX12_room 44 = .ok (.aload_n 0, 1) := by decide +kernel
theorem dX12_room_45 : decode cX12_room 45 = .ok (.getfield 9, 3) := by decide +kernel
theorem dX12_room_48 : decode cX12_room 48 = .ok (.sipush 218, 3) := by decide +kernel
theorem dX12_room_51 : decode cX12_room 51 = .ok (.aload_n 0, 1) := by decide +kernel
theorem dX12_room_52 : decode cX12_room 52 = .ok (.getfield 72, 3) := by decide +kernel
theorem dX12_room_55 : decode cX12_room 55 = .ok (.iadd, 1) := by decide +kernel
theorem dX12_room_56 : decode cX12_room 56 = .ok (.bipush 80, 2) := by decide +kernel
theorem dX12_room_58 : decode cX12_room 58 = .ok (.iastore, 1) := by decide +kernel
theorem dX12_room_59 : decode cX12_room 59 = .ok (.aload_n 0, 1) := by decide +kernel
theorem dX12_room_60 : decode cX12_room 60 = .ok (.getfield 9, 3) := by decide +kernel
theorem dX12_room_63 : decode cX12_room 63 = .ok (.sipush 223, 3) := by decide +kernel
theorem dX12_room_66 : decode cX12_room 66 = .ok (.aload_n 0, 1) := by decide +kernel
theorem dX12_room_67 : decode cX12_room 67 = .ok (.getfield 72, 3) := by decide +kernel
theorem dX12_room_70 : decode cX12_room 70 = .ok (.iadd, 1) := by decide +kernel
theorem dX12_room_71 : decode cX12_room 71 = .ok (.iconst 3, 1) := by decide +kernel
theorem dX12_room_72 : decode cX12_room 72 = .ok (.iastore, 1) := by decide +kernel
theorem dX12_room_73 : decode cX12_room 73 = .ok (.aload_n 0, 1) := by decide +kernel
theorem dX12_room_74 : decode cX12_room 74 = .ok (.getfield 9, 3) := by decide +kernel
theorem dX12_room_77 : decode cX12_room 77 = .ok (.sipush 228, 3) := by decide +kernel
theorem dX12_room_80 : decode cX12_room 80 = .ok (.aload_n 0, 1) := by decide +kernel
theorem dX12_room_81 : decode cX12_room 81 = .ok (.getfield 72, 3) := by decide +kernel
theorem dX12_room_84 : decode cX12_room 84 = .ok (.iadd, 1) := by decide +kernel
theorem dX12_room_85 : decode cX12_room 85 = .ok (.iconst 0, 1) := by decide +kernel
theorem dX12_room_86 : decode cX12_room 86 = .ok (.iastore, 1) := by decide +kernel
theorem dX12_room_87 : decode cX12_room 87 = .ok (.aload_n 0, 1) := by decide +kernel
theorem dX12_room_88 : decode cX12_room 88 = .ok (.getfield 9, 3) := by decide +kernel
theorem dX12_room_91 : decode cX12_room 91 = .ok (.sipush 233, 3) := by decide +kernel
theorem dX12_room_94 : decode cX12_room 94 = .ok (.aload_n 0, 1) := by decide +kernel
theorem dX12_room_95 : decode cX12_room 95 = .ok (.getfield 72, 3) := by decide +kernel
theorem dX12_room_98 : decode cX12_room 98 = .ok (.iadd, 1) := by decide +kernel
theorem dX12_room_99 : decode cX12_room 99 = .ok (.iconst 0, 1) := by decide +kernel
theorem dX12_room_100 : decode cX12_room 100 = .ok (.iastore, 1) := by decide +kernel
theorem dX12_room_101 : decode cX12_room 101 = .ok (.aload_n 0, 1) := by decide +kernel
theorem dX12_room_102 : decode cX12_room 102 = .ok (.getfield 9, 3) := by decide +kernel
theorem dX12_room_105 : decode cX12_room 105 = .ok (.sipush 238, 3) := by decide +kernel
theorem dX12_room_108 : decode cX12_room 108 = .ok (.aload_n 0, 1) := by decide +kernel
theorem dX12_room_109 : decode cX12_room 109 = .ok (.getfield 72, 3) := by decide +kernel
theorem dX12_room_112 : decode cX12_room 112 = .ok (.iadd, 1) := by decide +kernel
theorem dX12_room_113 : decode cX12_room 113 = .ok (.iconst 0, 1) := by decide +kernel
theorem dX12_room_114 : decode cX12_room 114 = .ok (.iastore, 1) := by decide +kernel
theorem dX12_room_115 : decode cX12_room 115 = .ok (.aload_n 0, 1) := by decide +kernel
theorem dX12_room_116 : decode cX12_room 116 = .ok (.iconst 0, 1) := by decide +kernel
theorem dX12_room_117 : decode cX12_room 117 = .ok (.putfield 45, 3) := by decide +kernel
theorem dX12_room_120 : decode cX12_room 120 = .ok (.aload_n 0, 1) := by decide +kernel
theorem dX12_room_121 : decode cX12_room 121 = .ok (.iconst 0, 1) := by decide +kernel
theorem dX12_room_122 : decode cX12_room 122 = .ok (.putfield 51, 3) := by decide +kernel
theorem dX12_room_125 : decode cX12_room 125 = .ok (.aload_n 0, 1) := by decide +kernel
theorem dX12_room_126 : decode cX12_room 126 = .ok (.iconst 0, 1) := by decide +kernel
theorem dX12_room_127 : decode cX12_room 127 = .ok (.putfield 75, 3) := by decide +kernel
theorem dX12_room_130 : decode cX12_room 130 = .ok (.iconst 1, 1) := by decide +kernel
theorem dX12_room_131 : decode cX12_room 131 = .ok (.istore_n 1, 1) := by decide +kernel
theorem dX12_room_132 : decode cX12_room 132 = .ok (.aload_n 0, 1) := by decide +kernel
theorem dX12_room_133 : decode cX12_room 133 = .ok (.invokevirtual 121, 3) := by decide +kernel
theorem dX12_room_136 : decode cX12_room 136 = .ok (.aload_n 0, 1) := by decide +kernel
theorem dX12_room_137 : decode cX12_room 137 = .ok (.getfield 51, 3) := by decide +kernel
theorem dX12_room_140 : decode cX12_room 140 = .ok (.ifCond .ne 38, 3) := by decide +kernel
theorem dX12_room_143 : decode cX12_room 143 = .ok (.iload_n 1, 1) := by decide +kernel
theorem dX12_room_144 : decode cX12_room 144 = .ok (.bipush 10, 2) := by decide +kernel
theorem dX12_room_146 : decode cX12_room 146 = .ok (.if_icmp .ge 32, 3) := by decide +kernel
theorem dX12_room_149 : decode cX12_room 149 = .ok (.aload_n 0, 1) := by decide +kernel
theorem dX12_room_150 : decode cX12_room 150 = .ok (.invokevirtual 55, 3) := by decide +kernel
theorem dX12_room_153 : decode cX12_room 153 = .ok (.bipush 59, 2) := by decide +kernel
theorem dX12_room_155 : decode cX12_room 155 = .ok (.if_icmp .ne 23, 3) := by decide +kernel
theorem dX12_room_158 : decode cX12_room 158 = .ok (.aload_n 0, 1) := by decide +kernel
theorem dX12_room_159 : decode cX12_room 159 = .ok (.dup, 1) := by decide +kernel
theorem dX12_room_160 : decode cX12_room 160 = .ok (.getfield 45, 3) := by decide +kernel
theorem dX12_room_163 : decode cX12_room 163 = .ok (.iconst 1, 1) := by decide +kernel
theorem dX12_room_164 : decode cX12_room 164 = .ok (.iadd, 1) := by decide +kernel
theorem dX12_room_165 : decode cX12_room 165 = .ok (.putfield 45, 3) := by decide +kernel
theorem dX12_room_168 : decode cX12_room 168 = .ok (.aload_n 0, 1) := by decide +kernel
theorem dX12_room_169 : decode cX12_room 169 = .ok (.invokevirtual 121, 3) := by decide +kernel
theorem dX12_room_172 : decode cX12_room 172 = .ok (.iinc 1 1, 3) := by decide +kernel
theorem dX12_room_175 : decode cX12_room 175 = .ok (.goto (-39), 3) := by decide +kernel
theorem dX12_room_178 : decode cX12_room 178 = .ok (.aload_n 0, 1) := by decide +kernel
theorem dX12_room_179 : decode cX12_room 179 = .ok (.getfield 51, 3) := by decide +kernel
theorem dX12_room_182 : decode cX12_room 182 = .ok (.ifCond .ne 14, 3) := by decide +kernel
theorem dX12_room_185 : decode cX12_room 185 = .ok (.aload_n 0, 1) := by decide +kernel
theorem dX12_room_186 : decode cX12_room 186 = .ok (.getfield 45, 3) := by decide +kernel
theorem dX12_room_189 : decode cX12_room 189 = .ok (.aload_n 0, 1) := by decide +kernel
theorem dX12_room_190 : decode cX12_room 190 = .ok (.getfield 48, 3) := by decide +kernel
theorem dX12_room_193 : decode cX12_room 193 = .ok (.if_icmp .eq 11, 3) := by decide +kernel
theorem dX12_room_196 : decode cX12_room 196 = .ok (.bipush (-10), 2) := by decide +kernel
theorem dX12_room_198 : decode cX12_room 198 = .ok (.aload_n 0, 1) := by decide +kernel
theorem dX12_room_199 : decode cX12_room 199 = .ok (.getfield 45, 3) := by decide +kernel
theorem dX12_room_202 : decode cX12_room 202 = .ok (.isub, 1) := by decide +kernel
theorem dX12_room_203 : decode cX12_room 203 = .ok (.ireturn, 1) := by decide +kernel
theorem dX12_room_204 : decode cX12_room 204 = .ok (.aload_n 0, 1) := by decide +kernel
theorem dX12_room_205 : decode cX12_room 205 = .ok (.getfield 9, 3) := by decide +kernel
theorem dX12_room_208 : decode cX12_room 208 = .ok (.bipush 15, 2) := by decide +kernel
theorem dX12_room_210 : decode cX12_room 210 = .ok (.dup2, 1) := by decide +kernel
theorem dX12_room_211 : decode cX12_room 211 = .ok (.iaload, 1) := by decide +kernel
theorem dX12_room_212 : decode cX12_room 212 = .ok (.iconst 1, 1) := by decide +kernel
theorem dX12_room_213 : decode cX12_room 213 = .ok (.iadd, 1) := by decide +kernel
theorem dX12_room_214 : decode cX12_room 214 = .ok (.iastore, 1) := by decide +kernel
theorem dX12_room_215 : decode cX12_room 215 = .ok (.aload_n 0, 1) := by decide +kernel
theorem dX12_room_216 : decode cX12_room 216 = .ok (.getfield 9, 3) := by decide +kernel
theorem dX12_room_219 : decode cX12_room 219 = .ok (.bipush 20, 2) := by decide +kernel
theorem dX12_room_221 : decode cX12_room 221 = .ok (.aload_n 0, 1) := by decide +kernel
theorem dX12_room_222 : decode cX12_room 222 = .ok (.getfield 72, 3) := by decide +kernel
theorem dX12_room_225 : decode cX12_room 225 = .ok (.iastore, 1) := by decide +kernel
theorem dX12_room_226 : decode cX12_room 226 = .ok (.aload_n 0, 1) := by decide +kernel
theorem dX12_room_227 : decode cX12_room 227 = .ok (.getfield 72, 3) := by decide +kernel
theorem dX12_room_230 : decode cX12_room 230 = .ok (.ireturn, 1) := by decide +kernel
theorem dX12_tellsOf_0 : decode cX12_tellsOf 0 = .ok (.aload_n 0, 1) := by decide +kernel
theorem dX12_tellsOf_1 : decode cX12_tellsOf 1 = .ok (.getfield 9, 3) := by decide +kernel
theorem dX12_tellsOf_4 : decode cX12_tellsOf 4 = .ok (.bipush 20, 2) := by decide +kernel
theorem dX12_tellsOf_6 : decode cX12_tellsOf 6 = .ok (.iaload, 1) := by decide +kernel
theorem dX12_tellsOf_7 : decode cX12_tellsOf 7 = .ok (.iconst (-1), 1) := by decide +kernel
theorem dX12_tellsOf_8 : decode cX12_tellsOf 8 = .ok (.if_icmp .ne 7, 3) := by decide +kernel
theorem dX12_tellsOf_11 : decode cX12_tellsOf 11 = .ok (.iload_n 2, 1) := by decide +kernel
theorem dX12_tellsOf_12 : decode cX12_tellsOf 12 = .ok (.goto 17, 3) := by decide +kernel
theorem dX12_tellsOf_15 : decode cX12_tellsOf 15 = .ok (.aload_n 0, 1) := by decide +kernel
theorem dX12_tellsOf_16 : decode cX12_tellsOf 16 = .ok (.getfield 9, 3) := by decide +kernel
theorem dX12_tellsOf_19 : decode cX12_tellsOf 19 = .ok (.iload_n 1, 1) := by decide +kernel
theorem dX12_tellsOf_20 : decode cX12_tellsOf 20 = .ok (.aload_n 0, 1) := by decide +kernel
theorem dX12_tellsOf_21 : decode cX12_tellsOf 21 = .ok (.getfield 9, 3) := by decide +kernel
theorem dX12_tellsOf_24 : decode cX12_tellsOf 24 = .ok (.bipush 20, 2) := by decide +kernel
theorem dX12_tellsOf_26 : decode cX12_tellsOf 26 = .ok (.iaload, 1) := by decide +kernel
theorem dX12_tellsOf_27 : decode cX12_tellsOf 27 = .ok (.iadd, 1) := by decide +kernel
theorem dX12_tellsOf_28 : decode cX12_tellsOf 28 = .ok (.iaload, 1) := by decide +kernel
theorem dX12_tellsOf_29 : decode cX12_tellsOf 29 = .ok (.ireturn, 1) := by decide +kernel
theorem dX12_looks_0 : decode cX12_looks 0 = .ok (.aload_n 0, 1) := by decide +kernel
theorem dX12_looks_1 : decode cX12_looks 1 = .ok (.getfield 21, 3) := by decide +kernel
theorem dX12_looks_4 : decode cX12_looks 4 = .ok (.iconst 0, 1) := by decide +kernel
theorem dX12_looks_5 : decode cX12_looks 5 = .ok (.iload_n 1, 1) := by decide +kernel
theorem dX12_looks_6 : decode cX12_looks 6 = .ok (.iastore, 1) := by decide +kernel
theorem dX12_looks_7 : decode cX12_looks 7 = .ok (.aload_n 0, 1) := by decide +kernel
theorem dX12_looks_8 : decode cX12_looks 8 = .ok (.getfield 21, 3) := by decide +kernel
theorem dX12_looks_11 : decode cX12_looks 11 = .ok (.iconst 1, 1) := by decide +kernel
theorem dX12_looks_12 : decode cX12_looks 12 = .ok (.aload_n 0, 1) := by decide +kernel
theorem dX12_looks_13 : decode cX12_looks 13 = .ok (.getfield 9, 3) := by decide +kernel
theorem dX12_looks_16 : decode cX12_looks 16 = .ok (.bipush 62, 2) := by decide +kernel
theorem dX12_looks_18 : decode cX12_looks 18 = .ok (.iload_n 1, 1) := by decide +kernel
theorem dX12_looks_19 : decode cX12_looks 19 = .ok (.iadd, 1) := by decide +kernel
theorem dX12_looks_20 : decode cX12_looks 20 = .ok (.iaload, 1) := by decide +kernel
theorem dX12_looks_21 : decode cX12_looks 21 = .ok (.iastore, 1) := by decide +kernel
theorem dX12_looks_22 : decode cX12_looks 22 = .ok (.aload_n 0, 1) := by decide +kernel
theorem dX12_looks_23 : decode cX12_looks 23 = .ok (.getfield 21, 3) := by decide +kernel
theorem dX12_looks_26 : decode cX12_looks 26 = .ok (.iconst 2, 1) := by decide +kernel
theorem dX12_looks_27 : decode cX12_looks 27 = .ok (.aload_n 0, 1) := by decide +kernel
theorem dX12_looks_28 : decode cX12_looks 28 = .ok (.getfield 9, 3) := by decide +kernel
theorem dX12_looks_31 : decode cX12_looks 31 = .ok (.iconst 1, 1) := by decide +kernel
theorem dX12_looks_32 : decode cX12_looks 32 = .ok (.iload_n 1, 1) := by decide +kernel
theorem dX12_looks_33 : decode cX12_looks 33 = .ok (.iadd, 1) := by decide +kernel
theorem dX12_looks_34 : decode cX12_looks 34 = .ok (.iaload, 1) := by decide +kernel
theorem dX12_looks_35 : decode cX12_looks 35 = .ok (.bipush 10, 2) := by decide +kernel
theorem dX12_looks_37 : decode cX12_looks 37 = .ok (.idiv, 1) := by decide +kernel
theorem dX12_looks_38 : decode cX12_looks 38 = .ok (.iastore, 1) := by decide +kernel
theorem dX12_looks_39 : decode cX12_looks 39 = .ok (.aload_n 0, 1) := by decide +kernel
theorem dX12_looks_40 : decode cX12_looks 40 = .ok (.getfield 21, 3) := by decide +kernel
theorem dX12_looks_43 : decode cX12_looks 43 = .ok (.iconst 3, 1) := by decide +kernel
theorem dX12_looks_44 : decode cX12_looks 44 = .ok (.aload_n 0, 1) := by decide +kernel
theorem dX12_looks_45 : decode cX12_looks 45 = .ok (.getfield 9, 3) := by decide +kernel
theorem dX12_looks_48 : decode cX12_looks 48 = .ok (.bipush 7, 2) := by decide +kernel
theorem dX12_looks_50 : decode cX12_looks 50 = .ok (.iload_n 1, 1) := by decide +kernel
theorem dX12_looks_51 : decode cX12_looks 51 = .ok (.iadd, 1) := by decide +kernel
theorem dX12_looks_52 : decode cX12_looks 52 = .ok (.iaload, 1) := by decide +kernel
theorem dX12_looks_53 : decode cX12_looks 53 = .ok (.iastore, 1) := by decide +kernel
theorem dX12_looks_54 : decode cX12_looks 54 = .ok (.aload_n 0, 1) := by decide +kernel
theorem dX12_looks_55 : decode cX12_looks 55 = .ok (.getfield 21, 3) := by decide +kernel
theorem dX12_looks_58 : decode cX12_looks 58 = .ok (.iconst 4, 1) := by decide +kernel
theorem dX12_looks_59 : decode cX12_looks 59 = .ok (.aload_n 0, 1) := by decide +kernel
theorem dX12_looks_60 : decode cX12_looks 60 = .ok (.getfield 9, 3) := by decide +kernel
theorem dX12_looks_63 : decode cX12_looks 63 = .ok (.iconst 0, 1) := by decide +kernel
theorem dX12_looks_64 : decode cX12_looks 64 = .ok (.iaload, 1) := by decide +kernel
theorem dX12_looks_65 : decode cX12_looks 65 = .ok (.bipush 10, 2) := by decide +kernel
theorem dX12_looks_67 : decode cX12_looks 67 = .ok (.irem, 1) := by decide +kernel
theorem dX12_looks_68 : decode cX12_looks 68 = .ok (.iastore, 1) := by decide +kernel
theorem dX12_looks_69 : decode cX12_looks 69 = .ok (.aload_n 0, 1) := by decide +kernel
theorem dX12_looks_70 : decode cX12_looks 70 = .ok (.getfield 21, 3) := by decide +kernel
theorem dX12_looks_73 : decode cX12_looks 73 = .ok (.iconst 5, 1) := by decide +kernel
theorem dX12_looks_74 : decode cX12_looks 74 = .ok (.iload_n 2, 1) := by decide +kernel
theorem dX12_looks_75 : decode cX12_looks 75 = .ok (.iastore, 1) := by decide +kernel
theorem dX12_looks_76 : decode cX12_looks 76 = .ok (.aload_n 0, 1) := by decide +kernel
theorem dX12_looks_77 : decode cX12_looks 77 = .ok (.iconst 0, 1) := by decide +kernel
theorem dX12_looks_78 : decode cX12_looks 78 = .ok (.putfield 124, 3) := by decide +kernel
theorem dX12_looks_81 : decode cX12_looks 81 = .ok (.aload_n 0, 1) := by decide +kernel
theorem dX12_looks_82 : decode cX12_looks 82 = .ok (.iconst 0, 1) := by decide +kernel
theorem dX12_looks_83 : decode cX12_looks 83 = .ok (.putfield 127, 3) := by decide +kernel
theorem dX12_looks_86 : decode cX12_looks 86 = .ok (.aload_n 0, 1) := by decide +kernel
theorem dX12_looks_87 : decode cX12_looks 87 = .ok (.sipush 228, 3) := by decide +kernel
theorem dX12_looks_90 : decode cX12_looks 90 = .ok (.iconst 0, 1) := by decide +kernel
theorem dX12_looks_91 : decode cX12_looks 91 = .ok (.invokevirtual 130, 3) := by decide +kernel
theorem dX12_looks_94 : decode cX12_looks 94 = .ok (.istore_n 3, 1) := by decide +kernel
theorem dX12_looks_95 : decode cX12_looks 95 = .ok (.sipush 243, 3) := by decide +kernel
theorem dX12_looks_98 : decode cX12_looks 98 = .ok (.sipush 140, 3) := by decide +kernel
theorem dX12_looks_101 : decode cX12_looks 101 = .ok (.aload_n 0, 1) := by decide +kernel
theorem dX12_looks_102 : decode cX12_looks 102 = .ok (.getfield 9, 3) := by decide +kernel
theorem dX12_looks_105 : decode cX12_looks 105 = .ok (.bipush 20, 2) := by decide +kernel
theorem dX12_looks_107 : decode cX12_looks 107 = .ok (.iaload, 1) := by decide +kernel
theorem dX12_looks_108 : decode cX12_looks 108 = .ok (.imul, 1) := by decide +kernel
theorem dX12_looks_109 : decode cX12_looks 109 = .ok (.iadd, 1) := by decide +kernel
theorem dX12_looks_110 : decode cX12_looks 110 = .ok (.istore 4, 2) := by decide +kernel
theorem dX12_looks_112 : decode cX12_looks 112 = .ok (.iconst 0, 1) := by decide +kernel
theorem dX12_looks_113 : decode cX12_looks 113 = .ok (.istore 5, 2) := by decide +kernel
theorem dX12_looks_115 : decode cX12_looks 115 = .ok (.iload 4, 2) := by decide +kernel
theorem dX12_looks_117 : decode cX12_looks 117 = .ok (.istore 6, 2) := by decide +kernel
theorem dX12_looks_119 : decode cX12_looks 119 = .ok (.iload 6, 2) := by decide +kernel
theorem dX12_looks_121 : decode cX12_looks 121 = .ok (.iload 4, 2) := by decide +kernel
theorem dX12_looks_123 : decode cX12_looks 123 = .ok (.iload_n 3, 1) := by decide +kernel
theorem dX12_looks_124 : decode cX12_looks 124 = .ok (.iadd, 1) := by decide +kernel
theorem dX12_looks_125 : decode cX12_looks 125 = .ok (.if_icmp .ge 312, 3) := by decide +kernel
theorem dX12_looks_128 : decode cX12_looks 128 = .ok (.aload_n 0, 1) := by decide +kernel
theorem dX12_looks_129 : decode cX12_looks 129 = .ok (.getfield 9, 3) := by decide +kernel
theorem dX12_looks_132 : decode cX12_looks 132 = .ok (.iload 6, 2) := by decide +kernel
theorem dX12_looks_134 : decode cX12_looks 134 = .ok (.iaload, 1) := by decide +kernel
theorem dX12_looks_135 : decode cX12_looks 135 = .ok (.istore 7, 2) := by decide +kernel
theorem dX12_looks_137 : decode cX12_looks 137 = .ok (.iload 7, 2) := by decide +kernel
theorem dX12_looks_139 : decode cX12_looks 139 = .ok (.ifCond .lt 97, 3) := by decide +kernel
theorem dX12_looks_142 : decode cX12_looks 142 = .ok (.aload_n 0, 1) := by decide +kernel
theorem dX12_looks_143 : decode cX12_looks 143 = .ok (.getfield 21, 3) := by decide +kernel
theorem dX12_looks_146 : decode cX12_looks 146 = .ok (.iload 7, 2) := by decide +kernel
theorem dX12_looks_148 : decode cX12_looks 148 = .ok (.bipush 8, 2) := by decide +kernel
theorem dX12_looks_150 : decode cX12_looks 150 = .ok (.irem, 1) := by decide +kernel
theorem dX12_looks_151 : decode cX12_looks 151 = .ok (.iaload, 1) := by decide +kernel
theorem dX12_looks_152 : decode cX12_looks 152 = .ok (.istore 8, 2) := by decide +kernel
theorem dX12_looks_154 : decode cX12_looks 154 = .ok (.iload 7, 2) := by decide +kernel
theorem dX12_looks_156 : decode cX12_looks 156 = .ok (.bipush 8, 2) := by decide +kernel
theorem dX12_looks_158 : decode cX12_looks 158 = .ok (.idiv, 1) := by decide +kernel
theorem dX12_looks_159 : decode cX12_looks 159 = .ok (.iconst 4, 1) := by decide +kernel
theorem dX12_looks_160 : decode cX12_looks 160 = .ok (.irem, 1) := by decide +kernel
theorem dX12_looks_161 : decode cX12_looks 161 = .ok (.istore 9, 2) := by decide +kernel
theorem dX12_looks_163 : decode cX12_looks 163 = .ok (.iload 7, 2) := by decide +kernel
theorem dX12_looks_165 : decode cX12_looks 165 = .ok (.bipush 32, 2) := by decide +kernel
theorem dX12_looks_167 : decode cX12_looks 167 = .ok (.idiv, 1) := by decide +kernel
theorem dX12_looks_168 : decode cX12_looks 168 = .ok (.istore 10, 2) := by decide +kernel
theorem dX12_looks_170 : decode cX12_looks 170 = .ok (.aload_n 0, 1) := by decide +kernel
theorem dX12_looks_171 : decode cX12_looks 171 = .ok (.getfield 24, 3) := by decide +kernel
theorem dX12_looks_174 : decode cX12_looks 174 = .ok (.iload 5, 2) := by decide +kernel
theorem dX12_looks_176 : decode cX12_looks 176 = .ok (.iload 9, 2) := by decide +kernel
theorem dX12_looks_178 : decode cX12_looks 178 = .ok (.ifCond .ne 18, 3) := by decide +kernel
theorem dX12_looks_181 : decode cX12_looks 181 = .ok (.iload 8, 2) := by decide +kernel
theorem dX12_looks_183 : decode cX12_looks 183 = .ok (.iload 10, 2) := by decide +kernel
theorem dX12_looks_185 : decode cX12_looks 185 = .ok (.if_icmp .ge 7, 3) := by decide +kernel
theorem dX12_looks_188 : decode cX12_looks 188 = .ok (.iconst 1, 1) := by decide +kernel
theorem dX12_looks_189 : decode cX12_looks 189 = .ok (.goto 40, 3) := by decide +kernel
theorem dX12_looks_192 : decode cX12_looks 192 = .ok (.iconst 0, 1) := by decide +kernel
theorem dX12_looks_193 : decode cX12_looks 193 = .ok (.goto 36, 3) := by decide +kernel
theorem dX12_looks_196 : decode cX12_looks 196 = .ok (.iload 9, 2) := by decide +kernel
theorem dX12_looks_198 : decode cX12_looks 198 = .ok (.iconst 1, 1) := by decide +kernel
theorem dX12_looks_199 : decode cX12_looks 199 = .ok (.if_icmp .ne 18, 3) := by decide +kernel
theorem dX12_looks_202 : decode cX12_looks 202 = .ok (.iload 8, 2) := by decide +kernel
theorem dX12_looks_204 : decode cX12_looks 204 = .ok (.iload 10, 2) := by decide +kernel
theorem dX12_looks_206 : decode cX12_looks 206 = .ok (.if_icmp .ne 7, 3) := by decide +kernel
theorem dX12_looks_209 : decode cX12_looks 209 = .ok (.iconst 1, 1) := by decide +kernel
theorem dX12_looks_210 : decode cX12_looks 210 = .ok (.goto 19, 3) := by decide +kernel
theorem dX12_looks_213 : decode cX12_looks 213 = .ok (.iconst 0, 1) := by decide +kernel
theorem dX12_looks_214 : decode cX12_looks 214 = .ok (.goto 15, 3) := by decide +kernel
theorem dX12_looks_217 : decode cX12_looks 217 = .ok (.iload 8, 2) := by decide +kernel
theorem dX12_looks_219 : decode cX12_looks 219 = .ok (.iload 10, 2) := by decide +kernel
theorem dX12_looks_221 : decode cX12_looks 221 = .ok (.if_icmp .le 7, 3) := by decide +kernel
theorem dX12_looks_224 : decode cX12_looks 224 = .ok (.iconst 1, 1) := by decide +kernel
theorem dX12_looks_225 : decode cX12_looks 225 = .ok (.goto 4, 3) := by decide +kernel
theorem dX12_looks_228 : decode cX12_looks 228 = .ok (.iconst 0, 1) := by decide +kernel
theorem dX12_looks_229 : decode cX12_looks 229 = .ok (.bastore, 1) := by decide +kernel
theorem dX12_looks_230 : decode cX12_looks 230 = .ok (.iinc 5 1, 3) := by decide +kernel
theorem dX12_looks_233 : decode cX12_looks 233 = .ok (.goto 198, 3) := by decide +kernel
theorem dX12_looks_236 : decode cX12_looks 236 = .ok (.iload 7, 2) := by decide +kernel
theorem dX12_looks_238 : decode cX12_looks 238 = .ok (.iconst (-1), 1) := by decide +kernel
theorem dX12_looks_239 : decode cX12_looks 239 = .ok (.if_icmp .ne 32, 3) := by decide +kernel
theorem dX12_looks_242 : decode cX12_looks 242 = .ok (.aload_n 0, 1) := by decide +kernel
theorem dX12_looks_243 : decode cX12_looks 243 = .ok (.getfield 24, 3) := by decide +kernel
theorem dX12_looks_246 : decode cX12_looks 246 = .ok (.iload 5, 2) := by decide +kernel
theorem dX12_looks_248 : decode cX12_looks 248 = .ok (.iconst 1, 1) := by decide +kernel
theorem dX12_looks_249 : decode cX12_looks 249 = .ok (.isub, 1) := by decide +kernel
theorem dX12_looks_250 : decode cX12_looks 250 = .ok (.aload_n 0, 1) := by decide +kernel
theorem dX12_looks_251 : decode cX12_looks 251 = .ok (.getfield 24, 3) := by decide +kernel
theorem dX12_looks_254 : decode cX12_looks 254 = .ok (.iload 5, 2) := by decide +kernel
theorem dX12_looks_256 : decode cX12_looks 256 = .ok (.iconst 1, 1) := by decide +kernel
theorem dX12_looks_257 : decode cX12_looks 257 = .ok (.isub, 1) := by decide +kernel
theorem dX12_looks_258 : decode cX12_looks 258 = .ok (.baload, 1) := by decide +kernel
theorem dX12_looks_259 : decode cX12_looks 259 = .ok (.ifCond .ne 7, 3) := by decide +kernel
theorem dX12_looks_262 : decode cX12_looks 262 = .ok (.iconst 1, 1) := by decide +kernel
theorem dX12_looks_263 : decode cX12_looks 263 = .ok (.goto 4, 3) := by decide +kernel
theorem dX12_looks_266 : decode cX12_looks 266 = .ok (.iconst 0, 1) := by decide +kernel
theorem dX12_looks_267 : decode cX12_looks 267 = .ok (.bastore, 1) := by decide +kernel
theorem dX12_looks_268 : decode cX12_looks 268 = .ok (.goto 163, 3) := by decide +kernel
theorem dX12_looks_271 : decode cX12_looks 271 = .ok (.iload 7, 2) := by decide +kernel
theorem dX12_looks_273 : decode cX12_looks 273 = .ok (.bipush (-10), 2) := by decide +kernel
theorem dX12_looks_275 : decode cX12_looks 275 = .ok (.if_icmp .le 82, 3) := by decide +kernel
theorem dX12_looks_278 : decode cX12_looks 278 = .ok (.iinc 5 (-1), 3) := by decide +kernel
theorem dX12_looks_281 : decode cX12_looks 281 = .ok (.aload_n 0, 1) := by decide +kernel
theorem dX12_looks_282 : decode cX12_looks 282 = .ok (.getfield 24, 3) := by decide +kernel
theorem dX12_looks_285 : decode cX12_looks 285 = .ok (.iload 5, 2) := by decide +kernel
theorem dX12_looks_287 : decode cX12_looks 287 = .ok (.iconst 1, 1) := by decide +kernel
theorem dX12_looks_288 : decode cX12_looks 288 = .ok (.isub, 1) := by decide +kernel
theorem dX12_looks_289 : decode cX12_looks 289 = .ok (.iload 7, 2) := by decide +kernel
theorem dX12_looks_291 : decode cX12_looks 291 = .ok (.bipush (-2), 2) := by decide +kernel
theorem dX12_looks_293 : decode cX12_looks 293 = .ok (.if_icmp .ne 33, 3) := by decide +kernel
theorem dX12_looks_296 : decode cX12_looks 296 = .ok (.aload_n 0, 1) := by decide +kernel
theorem dX12_looks_297 : decode cX12_looks 297 = .ok (.getfield 24, 3) := by decide +kernel
theorem dX12_looks_300 : decode cX12_looks 300 = .ok (.iload 5, 2) := by decide +kernel
theorem dX12_looks_302 : decode cX12_looks 302 = .ok (.iconst 1, 1) := by decide +kernel
theorem dX12_looks_303 : decode cX12_looks 303 = .ok (.isub, 1) := by decide +kernel
theorem dX12_looks_304 : decode cX12_looks 304 = .ok (.baload, 1) := by decide +kernel
theorem dX12_looks_305 : decode cX12_looks 305 = .ok (.ifCond .eq 17, 3) := by decide +kernel
theorem dX12_looks_308 : decode cX12_looks 308 = .ok (.aload_n 0, 1) := by decide +kernel
theorem dX12_looks_309 : decode cX12_looks 309 = .ok (.getfield 24, 3) := by decide +kernel
theorem dX12_looks_312 : decode cX12_looks 312 = .ok (.iload 5, 2) := by decide +kernel
theorem dX12_looks_314 : decode cX12_looks 314 = .ok (.baload, 1) := by decide +kernel
theorem dX12_looks_315 : decode cX12_looks 315 = .ok (.ifCond .eq 7, 3) := by decide +kernel
theorem dX12_looks_318 : decode cX12_looks 318 = .ok (.iconst 1, 1) := by decide +kernel
theorem dX12_looks_319 : decode cX12_looks 319 = .ok (.goto 34, 3) := by decide +kernel
theorem dX12_looks_322 : decode cX12_looks 322 = .ok (.iconst 0, 1) := by decide +kernel
theorem dX12_looks_323 : decode cX12_looks 323 = .ok (.goto 30, 3) := by decide +kernel
theorem dX12_looks_326 : decode cX12_looks 326 = .ok (.aload_n 0, 1) := by decide +kernel
theorem dX12_looks_327 : decode cX12_looks 327 = .ok (.getfield 24, 3) := by decide +kernel
theorem dX12_looks_330 : decode cX12_looks 330 = .ok (.iload 5, 2) := by decide +kernel
theorem dX12_looks_332 : decode cX12_looks 332 = .ok (.iconst 1, 1) := by decide +kernel
theorem dX12_looks_333 : decode cX12_looks 333 = .ok (.isub, 1) := by decide +kernel
theorem dX12_looks_334 : decode cX12_looks 334 = .ok (.baload, 1) := by decide +kernel
theorem dX12_looks_335 : decode cX12_looks 335 = .ok (.ifCond .ne 13, 3) := by decide +kernel
theorem dX12_looks_338 : decode cX12_looks 338 = .ok (.aload_n 0, 1) := by decide +kernel
theorem dX12_looks_339 : decode cX12_looks 339 = .ok (.getfield 24, 3) := by decide +kernel
theorem dX12_looks_342 : decode cX12_looks 342 = .ok (.iload 5, 2) := by decide +kernel
theorem dX12_looks_344 : decode cX12_looks 344 = .ok (.baload, 1) := by decide +kernel
theorem dX12_looks_345 : decode cX12_looks 345 = .ok (.ifCond .eq 7, 3) := by decide +kernel
theorem dX12_looks_348 : decode cX12_looks 348 = .ok (.iconst 1, 1) := by decide +kernel
theorem dX12_looks_349 : decode cX12_looks 349 = .ok (.goto 4, 3) := by decide +kernel
theorem dX12_looks_352 : decode cX12_looks 352 = .ok (.iconst 0, 1) := by decide +kernel
theorem dX12_looks_353 : decode cX12_looks 353 = .ok (.bastore, 1) := by decide +kernel
theorem dX12_looks_354 : decode cX12_looks 354 = .ok (.goto 77, 3) := by decide +kernel
theorem dX12_looks_357 : decode cX12_looks 357 = .ok (.iconst 0, 1) := by decide +kernel
theorem dX12_looks_358 : decode cX12_looks 358 = .ok (.istore 5, 2) := by decide +kernel
theorem dX12_looks_360 : decode cX12_looks 360 = .ok (.aload_n 0, 1) := by decide +kernel
theorem dX12_looks_361 : decode cX12_looks 361 = .ok (.getfield 24, 3) := by decide +kernel
theorem dX12_looks_364 : decode cX12_looks 364 = .ok (.iconst 0, 1) := by decide +kernel
theorem dX12_looks_365 : decode cX12_looks 365 = .ok (.baload, 1) := by decide +kernel
theorem dX12_looks_366 : decode cX12_looks 366 = .ok (.istore 8, 2) := by decide +kernel
theorem dX12_looks_368 : decode cX12_looks 368 = .ok (.aload_n 0, 1) := by decide +kernel
theorem dX12_looks_369 : decode cX12_looks 369 = .ok (.dup, 1) := by decide +kernel
theorem dX12_looks_370 : decode cX12_looks 370 = .ok (.getfield 124, 3) := by decide +kernel
theorem dX12_looks_373 : decode cX12_looks 373 = .ok (.iload 8, 2) := by decide +kernel
theorem dX12_looks_375 : decode cX12_looks 375 = .ok (.ifCond .eq 19, 3) := by decide +kernel
theorem dX12_looks_378 : decode cX12_looks 378 = .ok (.iload 7, 2) := by decide +kernel
theorem dX12_looks_380 : decode cX12_looks 380 = .ok (.sipush (-200), 3) := by decide +kernel
theorem dX12_looks_383 : decode cX12_looks 383 = .ok (.if_icmp .le 11, 3) := by decide +kernel
theorem dX12_looks_386 : decode cX12_looks 386 = .ok (.bipush (-10), 2) := by decide +kernel
theorem dX12_looks_388 : decode cX12_looks 388 = .ok (.iload 7, 2) := by decide +kernel
theorem dX12_looks_390 : decode cX12_looks 390 = .ok (.isub, 1) := by decide +kernel
theorem dX12_looks_391 : decode cX12_looks 391 = .ok (.goto 4, 3) := by decide +kernel
theorem dX12_looks_394 : decode cX12_looks 394 = .ok (.iconst 0, 1) := by decide +kernel
theorem dX12_looks_395 : decode cX12_looks 395 = .ok (.iadd, 1) := by decide +kernel
theorem dX12_looks_396 : decode cX12_looks 396 = .ok (.putfield 124, 3) := by decide +kernel
theorem dX12_looks_399 : decode cX12_looks 399 = .ok (.aload_n 0, 1) := by decide +kernel
theorem dX12_looks_400 : decode cX12_looks 400 = .ok (.dup, 1) := by decide +kernel
theorem dX12_looks_401 : decode cX12_looks 401 = .ok (.getfield 127, 3) := by decide +kernel
theorem dX12_looks_404 : decode cX12_looks 404 = .ok (.iload 8, 2) := by decide +kernel
theorem dX12_looks_406 : decode cX12_looks 406 = .ok (.ifCond .eq 20, 3) := by decide +kernel
theorem dX12_looks_409 : decode cX12_looks 409 = .ok (.iload 7, 2) := by decide +kernel
theorem dX12_looks_411 : decode cX12_looks 411 = .ok (.sipush (-200), 3) := by decide +kernel
theorem dX12_looks_414 : decode cX12_looks 414 = .ok (.if_icmp .gt 12, 3) := by decide +kernel
theorem dX12_looks_417 : decode cX12_looks 417 = .ok (.sipush (-200), 3) := by decide +kernel
theorem dX12_looks_420 : decode cX12_looks 420 = .ok (.iload 7, 2) := by decide +kernel
theorem dX12_looks_422 : decode cX12_looks 422 = .ok (.isub, 1) := by decide +kernel
theorem dX12_looks_423 : decode cX12_looks 423 = .ok (.goto 4, 3) := by decide +kernel
theorem dX12_looks_426 : decode cX12_looks 426 = .ok (.iconst 0, 1) := by decide +kernel
theorem dX12_looks_427 : decode cX12_looks 427 = .ok (.iadd, 1) := by decide +kernel
theorem dX12_looks_428 : decode cX12_looks 428 = .ok (.putfield 127, 3) := by decide +kernel
theorem dX12_looks_431 : decode cX12_looks 431 = .ok (.iinc 6 1, 3) := by decide +kernel
theorem dX12_looks_434 : decode cX12_looks 434 = .ok (.goto (-315), 3) := by decide +kernel
theorem dX12_looks_437 : decode cX12_looks 437 = .ok (.return_, 1) := by decide +kernel
theorem dX12_areSet_0 : decode cX12_areSet 0 = .ok (.iload_n 0, 1) := by decide +kernel
theorem dX12_areSet_1 : decode cX12_areSet 1 = .ok (.invokestatic 134, 3) := by decide +kernel
theorem dX12_areSet_4 : decode cX12_areSet 4 = .ok (.ifCond .eq 28, 3) := by decide +kernel
theorem dX12_areSet_7 : decode cX12_areSet 7 = .ok (.iload_n 1, 1) := by decide +kernel
theorem dX12_areSet_8 : decode cX12_areSet 8 = .ok (.invokestatic 134, 3) := by decide +kernel
theorem dX12_areSet_11 : decode cX12_areSet 11 = .ok (.ifCond .eq 21, 3) := by decide +kernel
theorem dX12_areSet_14 : decode cX12_areSet 14 = .ok (.iload_n 0, 1) := by decide +kernel
theorem dX12_areSet_15 : decode cX12_areSet 15 = .ok (.iload_n 1, 1) := by decide +kernel
theorem dX12_areSet_16 : decode cX12_areSet 16 = .ok (.if_icmp .gt 16, 3) := by decide +kernel
theorem dX12_areSet_19 : decode cX12_areSet 19 = .ok (.iload_n 2, 1) := by decide +kernel
theorem dX12_areSet_20 : decode cX12_areSet 20 = .ok (.iconst 1, 1) := by decide +kernel
theorem dX12_areSet_21 : decode cX12_areSet 21 = .ok (.iconst 4, 1) := by decide +kernel
theorem dX12_areSet_22 : decode cX12_areSet 22 = .ok (.invokestatic 41, 3) := by decide +kernel
theorem dX12_areSet_25 : decode cX12_areSet 25 = .ok (.ifCond .eq 7, 3) := by decide +kernel
theorem dX12_areSet_28 : decode cX12_areSet 28 = .ok (.iconst 1, 1) := by decide +kernel
theorem dX12_areSet_29 : decode cX12_areSet 29 = .ok (.goto 4, 3) := by decide +kernel
theorem dX12_areSet_32 : decode cX12_areSet 32 = .ok (.iconst 0, 1) := by decide +kernel
theorem dX12_areSet_33 : decode cX12_areSet 33 = .ok (.ireturn, 1) := by decide +kernel
theorem dX12_fan_0 : decode cX12_fan 0 = .ok (.iload_n 1, 1) := by decide +kernel
theorem dX12_fan_1 : decode cX12_fan 1 = .ok (.iconst 0, 1) := by decide +kernel
theorem dX12_fan_2 : decode cX12_fan 2 = .ok (.bipush 6, 2) := by decide +kernel
theorem dX12_fan_4 : decode cX12_fan 4 = .ok (.invokestatic 41, 3) := by decide +kernel
theorem dX12_fan_7 : decode cX12_fan 7 = .ok (.ifCond .ne 5, 3) := by decide +kernel
theorem dX12_fan_10 : decode cX12_fan 10 = .ok (.iconst (-1), 1) := by decide +kernel
theorem dX12_fan_11 : decode cX12_fan 11 = .ok (.ireturn, 1) := by decide +kernel
theorem dX12_fan_12 : decode cX12_fan 12 = .ok (.iload_n 2, 1) := by decide +kernel
theorem dX12_fan_13 : decode cX12_fan 13 = .ok (.iconst 0, 1) := by decide +kernel
theorem dX12_fan_14 : decode cX12_fan 14 = .ok (.bipush 9, 2) := by decide +kernel
theorem dX12_fan_16 : decode cX12_fan 16 = .ok (.invokestatic 41, 3) := by decide +kernel
theorem dX12_fan_19 : decode cX12_fan 19 = .ok (.ifCond .eq 14, 3) := by decide +kernel
theorem dX12_fan_22 : decode cX12_fan 22 = .ok (.iload_n 3, 1) := by decide +kernel
theorem dX12_fan_23 : decode cX12_fan 23 = .ok (.iload 4, 2) := by decide +kernel
theorem dX12_fan_25 : decode cX12_fan 25 = .ok (.iload 5, 2) := by decide +kernel
theorem dX12_fan_27 : decode cX12_fan 27 = .ok (.invokestatic 138, 3) := by decide +kernel
theorem dX12_fan_30 : decode cX12_fan 30 = .ok (.ifCond .ne 6, 3) := by decide +kernel
theorem dX12_fan_33 : decode cX12_fan 33 = .ok (.bipush (-2), 2) := by decide +kernel
theorem dX12_fan_35 : decode cX12_fan 35 = .ok (.ireturn, 1) := by decide +kernel
theorem dX12_fan_36 : decode cX12_fan 36 = .ok (.aload_n 0, 1) := by decide +kernel
theorem dX12_fan_37 : decode cX12_fan 37 = .ok (.getfield 9, 3) := by decide +kernel
theorem dX12_fan_40 : decode cX12_fan 40 = .ok (.bipush 13, 2) := by decide +kernel
theorem dX12_fan_42 : decode cX12_fan 42 = .ok (.iaload, 1) := by decide +kernel
theorem dX12_fan_43 : decode cX12_fan 43 = .ok (.iconst 4, 1) := by decide +kernel
theorem dX12_fan_44 : decode cX12_fan 44 = .ok (.if_icmp .ne 6, 3) := by decide +kernel
theorem dX12_fan_47 : decode cX12_fan 47 = .ok (.bipush (-4), 2) := by decide +kernel
theorem dX12_fan_49 : decode cX12_fan 49 = .ok (.ireturn, 1) := by decide +kernel
theorem dX12_fan_50 : decode cX12_fan 50 = .ok (.aload_n 0, 1) := by decide +kernel
theorem dX12_fan_51 : decode cX12_fan 51 = .ok (.getfield 9, 3) := by decide +kernel
theorem dX12_fan_54 : decode cX12_fan 54 = .ok (.bipush 13, 2) := by decide +kernel
theorem dX12_fan_56 : decode cX12_fan 56 = .ok (.iaload, 1) := by decide +kernel
theorem dX12_fan_57 : decode cX12_fan 57 = .ok (.istore 6, 2) := by decide +kernel
theorem dX12_fan_59 : decode cX12_fan 59 = .ok (.aload_n 0, 1) := by decide +kernel
theorem dX12_fan_60 : decode cX12_fan 60 = .ok (.getfield 9, 3) := by decide +kernel
theorem dX12_fan_63 : decode cX12_fan 63 = .ok (.bipush 22, 2) := by decide +kernel
theorem dX12_fan_65 : decode cX12_fan 65 = .ok (.iload 6, 2) := by decide +kernel
theorem dX12_fan_67 : decode cX12_fan 67 = .ok (.iadd, 1) := by decide +kernel
theorem dX12_fan_68 : decode cX12_fan 68 = .ok (.iload_n 1, 1) := by decide +kernel
theorem dX12_fan_69 : decode cX12_fan 69 = .ok (.iastore, 1) := by decide +kernel
theorem dX12_fan_70 : decode cX12_fan 70 = .ok (.aload_n 0, 1) := by decide +kernel
theorem dX12_fan_71 : decode cX12_fan 71 = .ok (.getfield 9, 3) := by decide +kernel
theorem dX12_fan_74 : decode cX12_fan 74 = .ok (.bipush 26, 2) := by decide +kernel
theorem dX12_fan_76 : decode cX12_fan 76 = .ok (.iload 6, 2) := by decide +kernel
theorem dX12_fan_78 : decode cX12_fan 78 = .ok (.iadd, 1) := by decide +kernel
theorem dX12_fan_79 : decode cX12_fan 79 = .ok (.iload_n 2, 1) := by decide +kernel
theorem dX12_fan_80 : decode cX12_fan 80 = .ok (.iastore, 1) := by decide +kernel
theorem dX12_fan_81 : decode cX12_fan 81 = .ok (.aload_n 0, 1) := by decide +kernel
theorem dX12_fan_82 : decode cX12_fan 82 = .ok (.getfield 9, 3) := by decide +kernel
theorem dX12_fan_85 : decode cX12_fan 85 = .ok (.bipush 30, 2) := by decide +kernel
theorem dX12_fan_87 : decode cX12_fan 87 = .ok (.iload 6, 2) := by decide +kernel
theorem dX12_fan_89 : decode cX12_fan 89 = .ok (.iadd, 1) := by decide +kernel
theorem dX12_fan_90 : decode cX12_fan 90 = .ok (.iload_n 3, 1) := by decide +kernel
theorem dX12_fan_91 : decode cX12_fan 91 = .ok (.iastore, 1) := by decide +kernel
theorem dX12_fan_92 : decode cX12_fan 92 = .ok (.aload_n 0, 1) := by decide +kernel
theorem dX12_fan_93 : decode cX12_fan 93 = .ok (.getfield 9, 3) := by decide +kernel
theorem dX12_fan_96 : decode cX12_fan 96 = .ok (.bipush 34, 2) := by decide +kernel
theorem dX12_fan_98 : decode cX12_fan 98 = .ok (.iload 6, 2) := by decide +kernel
theorem dX12_fan_100 : decode cX12_fan 100 = .ok (.iadd, 1) := by decide +kernel
theorem dX12_fan_101 : decode cX12_fan 101 = .ok (.iload 4, 2) := by decide +kernel
theorem dX12_fan_103 : decode cX12_fan 103 = .ok (.iastore, 1) := by decide +kernel
theorem dX12_fan_104 : decode cX12_fan 104 = .ok (.aload_n 0, 1) := by decide +kernel
theorem dX12_fan_105 : decode cX12_fan 105 = .ok (.getfield 9, 3) := by decide +kernel
theorem dX12_fan_108 : decode cX12_fan 108 = .ok (.bipush 38, 2) := by decide +kernel
theorem dX12_fan_110 : decode cX12_fan 110 = .ok (.iload 6, 2) := by decide +kernel
theorem dX12_fan_112 : decode cX12_fan 112 = .ok (.iadd, 1) := by decide +kernel
theorem dX12_fan_113 : decode cX12_fan 113 = .ok (.iload 5, 2) := by decide +kernel
theorem dX12_fan_115 : decode cX12_fan 115 = .ok (.iastore, 1) := by decide +kernel
theorem dX12_fan_116 : decode cX12_fan 116 = .ok (.aload_n 0, 1) := by decide +kernel
theorem dX12_fan_117 : decode cX12_fan 117 = .ok (.getfield 9, 3) := by decide +kernel
theorem dX12_fan_120 : decode cX12_fan 120 = .ok (.bipush 42, 2) := by decide +kernel
theorem dX12_fan_122 : decode cX12_fan 122 = .ok (.iload 6, 2) := by decide +kernel
theorem dX12_fan_124 : decode cX12_fan 124 = .ok (.iadd, 1) := by decide +kernel
theorem dX12_fan_125 : decode cX12_fan 125 = .ok (.iconst 1, 1) := by decide +kernel
theorem dX12_fan_126 : decode cX12_fan 126 = .ok (.iastore, 1) := by decide +kernel
theorem dX12_fan_127 : decode cX12_fan 127 = .ok (.iconst 0, 1) := by decide +kernel
theorem dX12_fan_128 : decode cX12_fan 128 = .ok (.istore 7, 2) := by decide +kernel
theorem dX12_fan_130 : decode cX12_fan 130 = .ok (.iload 7, 2) := by decide +kernel
theorem dX12_fan_132 : decode cX12_fan 132 = .ok (.iconst 4, 1) := by decide +kernel
theorem dX12_fan_133 : decode cX12_fan 133 = .ok (.if_icmp .ge 25, 3) := by decide +kernel
theorem dX12_fan_136 : decode cX12_fan 136 = .ok (.aload_n 0, 1) := by decide +kernel
theorem dX12_fan_137 : decode cX12_fan 137 = .ok (.getfield 9, 3) := by decide +kernel
theorem dX12_fan_140 : decode cX12_fan 140 = .ok (.bipush 46, 2) := by decide +kernel
theorem dX12_fan_142 : decode cX12_fan 142 = .ok (.iconst 4, 1) := by decide +kernel
theorem dX12_fan_143 : decode cX12_fan 143 = .ok (.iload 6, 2) := by decide +kernel
theorem dX12_fan_145 : decode cX12_fan 145 = .ok (.imul, 1) := by decide +kernel
theorem dX12_fan_146 : decode cX12_fan 146 = .ok (.iadd, 1) := by decide +kernel
theorem dX12_fan_147 : decode cX12_fan 147 = .ok (.iload 7, 2) := by decide +kernel
theorem dX12_fan_149 : decode cX12_fan 149 = .ok (.iadd, 1) := by decide +kernel
theorem dX12_fan_150 : decode cX12_fan 150 = .ok (.iconst 0, 1) := by decide +kernel
theorem dX12_fan_151 : decode cX12_fan 151 = .ok (.iastore, 1) := by decide +kernel
theorem dX12_fan_152 : decode cX12_fan 152 = .ok (.iinc 7 1, 3) := by decide +kernel
theorem dX12_fan_155 : decode cX12_fan 155 = .ok (.goto (-25), 3) := by decide +kernel
theorem dX12_fan_158 : decode cX12_fan 158 = .ok (.aload_n 0, 1) := by decide +kernel
theorem dX12_fan_159 : decode cX12_fan 159 = .ok (.getfield 9, 3) := by decide +kernel
theorem dX12_fan_162 : decode cX12_fan 162 = .ok (.bipush 13, 2) := by decide +kernel
theorem dX12_fan_164 : decode cX12_fan 164 = .ok (.dup2, 1) := by decide +kernel
theorem dX12_fan_165 : decode cX12_fan 165 = .ok (.iaload, 1) := by decide +kernel
theorem dX12_fan_166 : decode cX12_fan 166 = .ok (.iconst 1, 1) := by decide +kernel
theorem dX12_fan_167 : decode cX12_fan 167 = .ok (.iadd, 1) := by decide +kernel
theorem dX12_fan_168 : decode cX12_fan 168 = .ok (.iastore, 1) := by decide +kernel
theorem dX12_fan_169 : decode cX12_fan 169 = .ok (.iload 6, 2) := by decide +kernel
theorem dX12_fan_171 : decode cX12_fan 171 = .ok (.ireturn, 1) := by decide +kernel
theorem dX12_swinging_0 : decode cX12_swinging 0 = .ok (.aload_n 0, 1) := by decide +kernel
theorem dX12_swinging_1 : decode cX12_swinging 1 = .ok (.getfield 9, 3) := by decide +kernel
theorem dX12_swinging_4 : decode cX12_swinging 4 = .ok (.bipush 30, 2) := by decide +kernel
theorem dX12_swinging_6 : decode cX12_swinging 6 = .ok (.iload_n 1, 1) := by decide +kernel
theorem dX12_swinging_7 : decode cX12_swinging 7 = .ok (.iadd, 1) := by decide +kernel
theorem dX12_swinging_8 : decode cX12_swinging 8 = .ok (.iaload, 1) := by decide +kernel
theorem dX12_swinging_9 : decode cX12_swinging 9 = .ok (.istore_n 3, 1) := by decide +kernel
theorem dX12_swinging_10 : decode cX12_swinging 10 = .ok (.aload_n 0, 1) := by decide +kernel
theorem dX12_swinging_11 : decode cX12_swinging 11 = .ok (.getfield 9, 3) := by decide +kernel
theorem dX12_swinging_14 : decode cX12_swinging 14 = .ok (.bipush 34, 2) := by decide +kernel
theorem dX12_swinging_16 : decode cX12_swinging 16 = .ok (.iload_n 1, 1) := by decide +kernel
theorem dX12_swinging_17 : decode cX12_swinging 17 = .ok (.iadd, 1) := by decide +kernel
theorem dX12_swinging_18 : decode cX12_swinging 18 = .ok (.iaload, 1) := by decide +kernel
theorem dX12_swinging_19 : decode cX12_swinging 19 = .ok (.iload_n 3, 1) := by decide +kernel
theorem dX12_swinging_20 : decode cX12_swinging 20 = .ok (.isub, 1) := by decide +kernel
theorem dX12_swinging_21 : decode cX12_swinging 21 = .ok (.istore 4, 2) := by decide +kernel
theorem dX12_swinging_23 : decode cX12_swinging 23 = .ok (.iload 4, 2) := by decide +kernel
theorem dX12_swinging_25 : decode cX12_swinging 25 = .ok (.ifCond .ne 5, 3) := by decide +kernel
theorem dX12_swinging_28 : decode cX12_swinging 28 = .ok (.iload_n 3, 1) := by decide +kernel
theorem dX12_swinging_29 : decode cX12_swinging 29 = .ok (.ireturn, 1) := by decide +kernel
theorem dX12_swinging_30 : decode cX12_swinging 30 = .ok (.aload_n 0, 1) := by decide +kernel
theorem dX12_swinging_31 : decode cX12_swinging 31 = .ok (.getfield 9, 3) := by decide +kernel
theorem dX12_swinging_34 : decode cX12_swinging 34 = .ok (.bipush 38, 2) := by decide +kernel
theorem dX12_swinging_36 : decode cX12_swinging 36 = .ok (.iload_n 1, 1) := by decide +kernel
theorem dX12_swinging_37 : decode cX12_swinging 37 = .ok (.iadd, 1) := by decide +kernel
theorem dX12_swinging_38 : decode cX12_swinging 38 = .ok (.iaload, 1) := by decide +kernel
theorem dX12_swinging_39 : decode cX12_swinging 39 = .ok (.istore 5, 2) := by decide +kernel
theorem dX12_swinging_41 : decode cX12_swinging 41 = .ok (.iload 5, 2) := by decide +kernel
theorem dX12_swinging_43 : decode cX12_swinging 43 = .ok (.aload_n 0, 1) := by decide +kernel
theorem dX12_swinging_44 : decode cX12_swinging 44 = .ok (.getfield 9, 3) := by decide +kernel
theorem dX12_swinging_47 : decode cX12_swinging 47 = .ok (.bipush 26, 2) := by decide +kernel
theorem dX12_swinging_49 : decode cX12_swinging 49 = .ok (.iload_n 1, 1) := by decide +kernel
theorem dX12_swinging_50 : decode cX12_swinging 50 = .ok (.iadd, 1) := by decide +kernel
theorem dX12_swinging_51 : decode cX12_swinging 51 = .ok (.iaload, 1) := by decide +kernel
theorem dX12_swinging_52 : decode cX12_swinging 52 = .ok (.iadd, 1) := by decide +kernel
theorem dX12_swinging_53 : decode cX12_swinging 53 = .ok (.istore 6, 2) := by decide +kernel
theorem dX12_swinging_55 : decode cX12_swinging 55 = .ok (.iload_n 2, 1) := by decide +kernel
theorem dX12_swinging_56 : decode cX12_swinging 56 = .ok (.iconst 2, 1) := by decide +kernel
theorem dX12_swinging_57 : decode cX12_swinging 57 = .ok (.iload 6, 2) := by decide +kernel
theorem dX12_swinging_59 : decode cX12_swinging 59 = .ok (.imul, 1) := by decide +kernel
theorem dX12_swinging_60 : decode cX12_swinging 60 = .ok (.iconst 2, 1) := by decide +kernel
theorem dX12_swinging_61 : decode cX12_swinging 61 = .ok (.iload 4, 2) := by decide +kernel
theorem dX12_swinging_63 : decode cX12_swinging 63 = .ok (.iconst 1, 1) := by decide +kernel
theorem dX12_swinging_64 : decode cX12_swinging 64 = .ok (.isub, 1) := by decide +kernel
theorem dX12_swinging_65 : decode cX12_swinging 65 = .ok (.imul, 1) := by decide +kernel
theorem dX12_swinging_66 : decode cX12_swinging 66 = .ok (.iload 5, 2) := by decide +kernel
theorem dX12_swinging_68 : decode cX12_swinging 68 = .ok (.imul, 1) := by decide +kernel
theorem dX12_swinging_69 : decode cX12_swinging 69 = .ok (.iadd, 1) := by decide +kernel
theorem dX12_swinging_70 : decode cX12_swinging 70 = .ok (.irem, 1) := by decide +kernel
theorem dX12_swinging_71 : decode cX12_swinging 71 = .ok (.istore 7, 2) := by decide +kernel
theorem dX12_swinging_73 : decode cX12_swinging 73 = .ok (.iload 7, 2) := by decide +kernel
theorem dX12_swinging_75 : decode cX12_swinging 75 = .ok (.iload 6, 2) := by decide +kernel
theorem dX12_swinging_77 : decode cX12_swinging 77 = .ok (.if_icmp .ge 5, 3) := by decide +kernel
theorem dX12_swinging_80 : decode cX12_swinging 80 = .ok (.iload_n 3, 1) := by decide +kernel
theorem dX12_swinging_81 : decode cX12_swinging 81 = .ok (.ireturn, 1) := by decide +kernel
theorem dX12_swinging_82 : decode cX12_swinging 82 = .ok (.iload 7, 2) := by decide +kernel
theorem dX12_swinging_84 : decode cX12_swinging 84 = .ok (.iload 6, 2) := by decide +kernel
theorem dX12_swinging_86 : decode cX12_swinging 86 = .ok (.isub, 1) := by decide +kernel
theorem dX12_swinging_87 : decode cX12_swinging 87 = .ok (.istore 7, 2) := by decide +kernel
theorem dX12_swinging_89 : decode cX12_swinging 89 = .ok (.iload 7, 2) := by decide +kernel
theorem dX12_swinging_91 : decode cX12_swinging 91 = .ok (.iload 4, 2) := by decide +kernel
theorem dX12_swinging_93 : decode cX12_swinging 93 = .ok (.iconst 1, 1) := by decide +kernel
theorem dX12_swinging_94 : decode cX12_swinging 94 = .ok (.isub, 1) := by decide +kernel
theorem dX12_swinging_95 : decode cX12_swinging 95 = .ok (.iload 5, 2) := by decide +kernel
theorem dX12_swinging_97 : decode cX12_swinging 97 = .ok (.imul, 1) := by decide +kernel
theorem dX12_swinging_98 : decode cX12_swinging 98 = .ok (.if_icmp .ge 13, 3) := by decide +kernel
theorem dX12_swinging_101 : decode cX12_swinging 101 = .ok (.iload_n 3, 1) := by decide +kernel
theorem dX12_swinging_102 : decode cX12_swinging 102 = .ok (.iconst 1, 1) := by decide +kernel
theorem dX12_swinging_103 : decode cX12_swinging 103 = .ok (.iadd, 1) := by decide +kernel
theorem dX12_swinging_104 : decode cX12_swinging 104 = .ok (.iload 7, 2) := by decide +kernel
theorem dX12_swinging_106 : decode cX12_swinging 106 = .ok (.iload 5, 2) := by decide +kernel
theorem dX12_swinging_108 : decode cX12_swinging 108 = .ok (.idiv, 1) := by decide +kernel
theorem dX12_swinging_109 : decode cX12_swinging 109 = .ok (.iadd, 1) := by decide +kernel
theorem dX12_swinging_110 : decode cX12_swinging 110 = .ok (.ireturn, 1) := by decide +kernel
theorem dX12_swinging_111 : decode cX12_swinging 111 = .ok (.iload 7, 2) := by decide +kernel
theorem dX12_swinging_113 : decode cX12_swinging 113 = .ok (.iload 4, 2) := by decide +kernel
theorem dX12_swinging_115 : decode cX12_swinging 115 = .ok (.iconst 1, 1) := by decide +kernel
theorem dX12_swinging_116 : decode cX12_swinging 116 = .ok (.isub, 1) := by decide +kernel
theorem dX12_swinging_117 : decode cX12_swinging 117 = .ok (.iload 5, 2) := by decide +kernel
theorem dX12_swinging_119 : decode cX12_swinging 119 = .ok (.imul, 1) := by decide +kernel
theorem dX12_swinging_120 : decode cX12_swinging 120 = .ok (.isub, 1) := by decide +kernel
theorem dX12_swinging_121 : decode cX12_swinging 121 = .ok (.istore 7, 2) := by decide +kernel
theorem dX12_swinging_123 : decode cX12_swinging 123 = .ok (.iload 7, 2) := by decide +kernel
theorem dX12_swinging_125 : decode cX12_swinging 125 = .ok (.iload 6, 2) := by decide +kernel
theorem dX12_swinging_127 : decode cX12_swinging 127 = .ok (.if_icmp .ge 10, 3) := by decide +kernel
theorem dX12_swinging_130 : decode cX12_swinging 130 = .ok (.iload_n 3, 1) := by decide +kernel
theorem dX12_swinging_131 : decode cX12_swinging 131 = .ok (.iload 4, 2) := by decide +kernel
theorem dX12_swinging_133 : decode cX12_swinging 133 = .ok (.iadd, 1) := by decide +kernel
theorem dX12_swinging_134 : decode cX12_swinging 134 = .ok (.goto 18, 3) := by decide +kernel
theorem dX12_swinging_137 : decode cX12_swinging 137 = .ok (.iload_n 3, 1) := by decide +kernel
theorem dX12_swinging_138 : decode cX12_swinging 138 = .ok (.iload 4, 2) := by decide +kernel
theorem dX12_swinging_140 : decode cX12_swinging 140 = .ok (.iadd, 1) := by decide +kernel
theorem dX12_swinging_141 : decode cX12_swinging 141 = .ok (.iconst 1, 1) := by decide +kernel
theorem dX12_swinging_142 : decode cX12_swinging 142 = .ok (.isub, 1) := by decide +kernel
theorem dX12_swinging_143 : decode cX12_swinging 143 = .ok (.iload 7, 2) := by decide +kernel
theorem dX12_swinging_145 : decode cX12_swinging 145 = .ok (.iload 6, 2) := by decide +kernel
theorem dX12_swinging_147 : decode cX12_swinging 147 = .ok (.isub, 1) := by decide +kernel
theorem dX12_swinging_148 : decode cX12_swinging 148 = .ok (.iload 5, 2) := by decide +kernel
theorem dX12_swinging_150 : decode cX12_swinging 150 = .ok (.idiv, 1) := by decide +kernel
theorem dX12_swinging_151 : decode cX12_swinging 151 = .ok (.isub, 1) := by decide +kernel
theorem dX12_swinging_152 : decode cX12_swinging 152 = .ok (.ireturn, 1) := by decide +kernel
theorem dX12_isAt_0 : decode cX12_isAt 0 = .ok (.aload_n 0, 1) := by decide +kernel
theorem dX12_isAt_1 : decode cX12_isAt 1 = .ok (.getfield 9, 3) := by decide +kernel
theorem dX12_isAt_4 : decode cX12_isAt 4 = .ok (.bipush 38, 2) := by decide +kernel
theorem dX12_isAt_6 : decode cX12_isAt 6 = .ok (.iload_n 1, 1) := by decide +kernel
theorem dX12_isAt_7 : decode cX12_isAt 7 = .ok (.iadd, 1) := by decide +kernel
theorem dX12_isAt_8 : decode cX12_isAt 8 = .ok (.iaload, 1) := by decide +kernel
theorem dX12_isAt_9 : decode cX12_isAt 9 = .ok (.istore_n 3, 1) := by decide +kernel
theorem dX12_isAt_10 : decode cX12_isAt 10 = .ok (.aload_n 0, 1) := by decide +kernel
theorem dX12_isAt_11 : decode cX12_isAt 11 = .ok (.getfield 9, 3) := by decide +kernel
theorem dX12_isAt_14 : decode cX12_isAt 14 = .ok (.bipush 22, 2) := by decide +kernel
theorem dX12_isAt_16 : decode cX12_isAt 16 = .ok (.iload_n 1, 1) := by decide +kernel
theorem dX12_isAt_17 : decode cX12_isAt 17 = .ok (.iadd, 1) := by decide +kernel
theorem dX12_isAt_18 : decode cX12_isAt 18 = .ok (.iaload, 1) := by decide +kernel
theorem dX12_isAt_19 : decode cX12_isAt 19 = .ok (.tableswitch 151 1 6 #[37, 44, 80, 37, 90, 133], 37) := by decide +kernel
theorem dX12_isAt_56 : decode cX12_isAt 56 = .ok (.aload_n 0, 1) := by decide +kernel
theorem dX12_isAt_57 : decode cX12_isAt 57 = .ok (.iload_n 1, 1) := by decide +kernel
theorem dX12_isAt_58 : decode cX12_isAt 58 = .ok (.iload_n 2, 1) := by decide +kernel
theorem dX12_isAt_59 : decode cX12_isAt 59 = .ok (.invokevirtual 141, 3) := by decide +kernel
theorem dX12_isAt_62 : decode cX12_isAt 62 = .ok (.ireturn, 1) := by decide +kernel
theorem dX12_isAt_63 : decode cX12_isAt 63 = .ok (.aload_n 0, 1) := by decide +kernel
theorem dX12_isAt_64 : decode cX12_isAt 64 = .ok (.getfield 9, 3) := by decide +kernel
theorem dX12_isAt_67 : decode cX12_isAt 67 = .ok (.bipush 30, 2) := by decide +kernel
theorem dX12_isAt_69 : decode cX12_isAt 69 = .ok (.iload_n 1, 1) := by decide +kernel
theorem dX12_isAt_70 : decode cX12_isAt 70 = .ok (.iadd, 1) := by decide +kernel
theorem dX12_isAt_71 : decode cX12_isAt 71 = .ok (.iaload, 1) := by decide +kernel
theorem dX12_isAt_72 : decode cX12_isAt 72 = .ok (.iload_n 2, 1) := by decide +kernel
theorem dX12_isAt_73 : decode cX12_isAt 73 = .ok (.iload_n 3, 1) := by decide +kernel
theorem dX12_isAt_74 : decode cX12_isAt 74 = .ok (.idiv, 1) := by decide +kernel
theorem dX12_isAt_75 : decode cX12_isAt 75 = .ok (.aload_n 0, 1) := by decide +kernel
theorem dX12_isAt_76 : decode cX12_isAt 76 = .ok (.getfield 9, 3) := by decide +kernel
theorem dX12_isAt_79 : decode cX12_isAt 79 = .ok (.bipush 34, 2) := by decide +kernel
theorem dX12_isAt_81 : decode cX12_isAt 81 = .ok (.iload_n 1, 1) := by decide +kernel
theorem dX12_isAt_82 : decode cX12_isAt 82 = .ok (.iadd, 1) := by decide +kernel
theorem dX12_isAt_83 : decode cX12_isAt 83 = .ok (.iaload, 1) := by decide +kernel
theorem dX12_isAt_84 : decode cX12_isAt 84 = .ok (.aload_n 0, 1) := by decide +kernel
theorem dX12_isAt_85 : decode cX12_isAt 85 = .ok (.getfield 9, 3) := by decide +kernel
theorem dX12_isAt_88 : decode cX12_isAt 88 = .ok (.bipush 30, 2) := by decide +kernel
theorem dX12_isAt_90 : decode cX12_isAt 90 = .ok (.iload_n 1, 1) := by decide +kernel
theorem dX12_isAt_91 : decode cX12_isAt 91 = .ok (.iadd, 1) := by decide +kernel
theorem dX12_isAt_92 : decode cX12_isAt 92 = .ok (.iaload, 1) := by decide +kernel
theorem dX12_isAt_93 : decode cX12_isAt 93 = .ok (.isub, 1) := by decide +kernel
theorem dX12_isAt_94 : decode cX12_isAt 94 = .ok (.iconst 1, 1) := by decide +kernel
theorem dX12_isAt_95 : decode cX12_isAt 95 = .ok (.iadd, 1) := by decide +kernel
theorem dX12_isAt_96 : decode cX12_isAt 96 = .ok (.irem, 1) := by decide +kernel
theorem dX12_isAt_97 : decode cX12_isAt 97 = .ok (.iadd, 1) := by decide +kernel
theorem dX12_isAt_98 : decode cX12_isAt 98 = .ok (.ireturn, 1) := by decide +kernel
theorem dX12_isAt_99 : decode cX12_isAt 99 = .ok (.aload_n 0, 1) := by decide +kernel
theorem dX12_isAt_100 : decode cX12_isAt 100 = .ok (.getfield 9, 3) := by decide +kernel
theorem dX12_isAt_103 : decode cX12_isAt 103 = .ok (.bipush 26, 2) := by decide +kernel
theorem dX12_isAt_105 : decode cX12_isAt 105 = .ok (.iload_n 1, 1) := by decide +kernel
theorem dX12_isAt_106 : decode cX12_isAt 106 = .ok (.iadd, 1) := by decide +kernel
theorem dX12_isAt_107 : decode cX12_isAt 107 = .ok (.iaload, 1) := by decide +kernel
theorem dX12_isAt_108 : decode cX12_isAt 108 = .ok (.ireturn, 1) := by decide +kernel
theorem dX12_isAt_109 : decode cX12_isAt 109 = .ok (.aload_n 0, 1) := by decide +kernel
theorem dX12_isAt_110 : decode cX12_isAt 110 = .ok (.getfield 9, 3) := by decide +kernel
theorem dX12_isAt_113 : decode cX12_isAt 113 = .ok (.bipush 14, 2) := by decide +kernel
theorem dX12_isAt_115 : decode cX12_isAt 115 = .ok (.iaload, 1) := by decide +kernel
theorem dX12_isAt_116 : decode cX12_isAt 116 = .ok (.ifCond .ne 15, 3) := by decide +kernel
theorem dX12_isAt_119 : decode cX12_isAt 119 = .ok (.aload_n 0, 1) := by decide +kernel
theorem dX12_isAt_120 : decode cX12_isAt 120 = .ok (.getfield 9, 3) := by decide +kernel
theorem dX12_isAt_123 : decode cX12_isAt 123 = .ok (.bipush 30, 2) := by decide +kernel
theorem dX12_isAt_125 : decode cX12_isAt 125 = .ok (.iload_n 1, 1) := by decide +kernel
theorem dX12_isAt_126 : decode cX12_isAt 126 = .ok (.iadd, 1) := by decide +kernel
theorem dX12_isAt_127 : decode cX12_isAt 127 = .ok (.iaload, 1) := by decide +kernel
theorem dX12_isAt_128 : decode cX12_isAt 128 = .ok (.goto 23, 3) := by decide +kernel
theorem dX12_isAt_131 : decode cX12_isAt 131 = .ok (.aload_n 0, 1) := by decide +kernel
theorem dX12_isAt_132 : decode cX12_isAt 132 = .ok (.getfield 9, 3) := by decide +kernel
theorem dX12_isAt_135 : decode cX12_isAt 135 = .ok (.bipush 62, 2) := by decide +kernel
theorem dX12_isAt_137 : decode cX12_isAt 137 = .ok (.iload_n 2, 1) := by decide +kernel
theorem dX12_isAt_138 : decode cX12_isAt 138 = .ok (.bipush 10, 2) := by decide +kernel
theorem dX12_isAt_140 : decode cX12_isAt 140 = .ok (.idiv, 1) := by decide +kernel
theorem dX12_isAt_141 : decode cX12_isAt 141 = .ok (.aload_n 0, 1) := by decide +kernel
theorem dX12_isAt_142 : decode cX12_isAt 142 = .ok (.getfield 9, 3) := by decide +kernel
theorem dX12_isAt_145 : decode cX12_isAt 145 = .ok (.bipush 14, 2) := by decide +kernel
theorem dX12_isAt_147 : decode cX12_isAt 147 = .ok (.iaload, 1) := by decide +kernel
theorem dX12_isAt_148 : decode cX12_isAt 148 = .ok (.irem, 1) := by decide +kernel
theorem dX12_isAt_149 : decode cX12_isAt 149 = .ok (.iadd, 1) := by decide +kernel
theorem dX12_isAt_150 : decode cX12_isAt 150 = .ok (.iaload, 1) := by decide +kernel
theorem dX12_isAt_151 : decode cX12_isAt 151 = .ok (.ireturn, 1) := by decide +kernel
theorem dX12_isAt_152 : decode cX12_isAt 152 = .ok (.aload_n 0, 1) := by decide +kernel
theorem dX12_isAt_153 : decode cX12_isAt 153 = .ok (.getfield 9, 3) := by decide +kernel
theorem dX12_isAt_156 : decode cX12_isAt 156 = .ok (.bipush 46, 2) := by decide +kernel
theorem dX12_isAt_158 : decode cX12_isAt 158 = .ok (.iconst 4, 1) := by decide +kernel
theorem dX12_isAt_159 : decode cX12_isAt 159 = .ok (.iload_n 1, 1) := by decide +kernel
theorem dX12_isAt_160 : decode cX12_isAt 160 = .ok (.imul, 1) := by decide +kernel
theorem dX12_isAt_161 : decode cX12_isAt 161 = .ok (.iadd, 1) := by decide +kernel
theorem dX12_isAt_162 : decode cX12_isAt 162 = .ok (.iload_n 2, 1) := by decide +kernel
theorem dX12_isAt_163 : decode cX12_isAt 163 = .ok (.iload_n 3, 1) := by decide +kernel
theorem dX12_isAt_164 : decode cX12_isAt 164 = .ok (.idiv, 1) := by decide +kernel
theorem dX12_isAt_165 : decode cX12_isAt 165 = .ok (.iconst 4, 1) := by decide +kernel
theorem dX12_isAt_166 : decode cX12_isAt 166 = .ok (.irem, 1) := by decide +kernel
theorem dX12_isAt_167 : decode cX12_isAt 167 = .ok (.iadd, 1) := by decide +kernel
theorem dX12_isAt_168 : decode cX12_isAt 168 = .ok (.iaload, 1) := by decide +kernel
theorem dX12_isAt_169 : decode cX12_isAt 169 = .ok (.ireturn, 1) := by decide +kernel
theorem dX12_isAt_170 : decode cX12_isAt 170 = .ok (.aload_n 0, 1) := by decide +kernel
theorem dX12_isAt_171 : decode cX12_isAt 171 = .ok (.getfield 9, 3) := by decide +kernel
theorem dX12_isAt_174 : decode cX12_isAt 174 = .ok (.bipush 30, 2) := by decide +kernel
theorem dX12_isAt_176 : decode cX12_isAt 176 = .ok (.iload_n 1, 1) := by decide +kernel
theorem dX12_isAt_177 : decode cX12_isAt 177 = .ok (.iadd, 1) := by decide +kernel
theorem dX12_isAt_178 : decode cX12_isAt 178 = .ok (.iaload, 1) := by decide +kernel
theorem dX12_isAt_179 : decode cX12_isAt 179 = .ok (.ireturn, 1) := by decide +kernel
theorem dX12_reaches_0 : decode cX12_reaches 0 = .ok (.aload_n 0, 1) := by decide +kernel
theorem dX12_reaches_1 : decode cX12_reaches 1 = .ok (.iload_n 1, 1) := by decide +kernel
theorem dX12_reaches_2 : decode cX12_reaches 2 = .ok (.iload_n 2, 1) := by decide +kernel
theorem dX12_reaches_3 : decode cX12_reaches 3 = .ok (.invokevirtual 144, 3) := by decide +kernel
theorem dX12_reaches_6 : decode cX12_reaches 6 = .ok (.istore_n 3, 1) := by decide +kernel
theorem dX12_reaches_7 : decode cX12_reaches 7 = .ok (.iconst 1, 1) := by decide +kernel
theorem dX12_reaches_8 : decode cX12_reaches 8 = .ok (.iload_n 3, 1) := by decide +kernel
theorem dX12_reaches_9 : decode cX12_reaches 9 = .ok (.ishl, 1) := by decide +kernel
theorem dX12_reaches_10 : decode cX12_reaches 10 = .ok (.aload_n 0, 1) := by decide +kernel
theorem dX12_reaches_11 : decode cX12_reaches 11 = .ok (.getfield 9, 3) := by decide +kernel
theorem dX12_reaches_14 : decode cX12_reaches 14 = .ok (.bipush 22, 2) := by decide +kernel
theorem dX12_reaches_16 : decode cX12_reaches 16 = .ok (.iload_n 1, 1) := by decide +kernel
theorem dX12_reaches_17 : decode cX12_reaches 17 = .ok (.iadd, 1) := by decide +kernel
theorem dX12_reaches_18 : decode cX12_reaches 18 = .ok (.iaload, 1) := by decide +kernel
theorem dX12_reaches_19 : decode cX12_reaches 19 = .ok (.iconst 4, 1) := by decide +kernel
theorem dX12_reaches_20 : decode cX12_reaches 20 = .ok (.if_icmp .ne 17, 3) := by decide +kernel
theorem dX12_reaches_23 : decode cX12_reaches 23 = .ok (.iconst 1, 1) := by decide +kernel
theorem dX12_reaches_24 : decode cX12_reaches 24 = .ok (.iload_n 3, 1) := by decide +kernel
theorem dX12_reaches_25 : decode cX12_reaches 25 = .ok (.iconst 1, 1) := by decide +kernel
theorem dX12_reaches_26 : decode cX12_reaches 26 = .ok (.iadd, 1) := by decide +kernel
theorem dX12_reaches_27 : decode cX12_reaches 27 = .ok (.iconst 0, 1) := by decide +kernel
theorem dX12_reaches_28 : decode cX12_reaches 28 = .ok (.bipush 9, 2) := by decide +kernel
theorem dX12_reaches_30 : decode cX12_reaches 30 = .ok (.invokestatic 147, 3) := by decide +kernel
theorem dX12_reaches_33 : decode cX12_reaches 33 = .ok (.ishl, 1) := by decide +kernel
theorem dX12_reaches_34 : decode cX12_reaches 34 = .ok (.goto 4, 3) := by decide +kernel
theorem dX12_reaches_37 : decode cX12_reaches 37 = .ok (.iconst 0, 1) := by decide +kernel
theorem dX12_reaches_38 : decode cX12_reaches 38 = .ok (.ior, 1) := by decide +kernel
theorem dX12_reaches_39 : decode cX12_reaches 39 = .ok (.ireturn, 1) := by decide +kernel
theorem dX12_of_0 : decode cX12_of 0 = .ok (.aload_n 0, 1) := by decide +kernel
theorem dX12_of_1 : decode cX12_of 1 = .ok (.iload_n 1, 1) := by decide +kernel
theorem dX12_of_2 : decode cX12_of 2 = .ok (.invokevirtual 151, 3) := by decide +kernel
theorem dX12_of_5 : decode cX12_of 5 = .ok (.ifCond .eq 13, 3) := by decide +kernel
theorem dX12_of_8 : decode cX12_of 8 = .ok (.iload_n 2, 1) := by decide +kernel
theorem dX12_of_9 : decode cX12_of 9 = .ok (.iconst 0, 1) := by decide +kernel
theorem dX12_of_10 : decode cX12_of 10 = .ok (.bipush 6, 2) := by decide +kernel
theorem dX12_of_12 : decode cX12_of 12 = .ok (.invokestatic 41, 3) := by decide +kernel
theorem dX12_of_15 : decode cX12_of 15 = .ok (.ifCond .ne 5, 3) := by decide +kernel
theorem dX12_of_18 : decode cX12_of 18 = .ok (.iconst (-1), 1) := by decide +kernel
theorem dX12_of_19 : decode cX12_of 19 = .ok (.ireturn, 1) := by decide +kernel
theorem dX12_of_20 : decode cX12_of 20 = .ok (.iload_n 2, 1) := by decide +kernel
theorem dX12_of_21 : decode cX12_of 21 = .ok (.bipush 6, 2) := by decide +kernel
theorem dX12_of_23 : decode cX12_of 23 = .ok (.if_icmp .ne 17, 3) := by decide +kernel
theorem dX12_of_26 : decode cX12_of 26 = .ok (.aload_n 0, 1) := by decide +kernel
theorem dX12_of_27 : decode cX12_of 27 = .ok (.iload_n 1, 1) := by decide +kernel
theorem dX12_of_28 : decode cX12_of 28 = .ok (.aload_n 0, 1) := by decide +kernel
theorem dX12_of_29 : decode cX12_of 29 = .ok (.getfield 9, 3) := by decide +kernel
theorem dX12_of_32 : decode cX12_of 32 = .ok (.iconst 0, 1) := by decide +kernel
theorem dX12_of_33 : decode cX12_of 33 = .ok (.iaload, 1) := by decide +kernel
theorem dX12_of_34 : decode cX12_of 34 = .ok (.invokevirtual 144, 3) := by decide +kernel
theorem dX12_of_37 : decode cX12_of 37 = .ok (.goto 16, 3) := by decide +kernel
theorem dX12_of_40 : decode cX12_of 40 = .ok (.aload_n 0, 1) := by decide +kernel
theorem dX12_of_41 : decode cX12_of 41 = .ok (.getfield 9, 3) := by decide +kernel
theorem dX12_of_44 : decode cX12_of 44 = .ok (.bipush 22, 2) := by decide +kernel
theorem dX12_of_46 : decode cX12_of 46 = .ok (.iconst 4, 1) := by decide +kernel
theorem dX12_of_47 : decode cX12_of 47 = .ok (.iload_n 2, 1) := by decide +kernel
theorem dX12_of_48 : decode cX12_of 48 = .ok (.imul, 1) := by decide +kernel
theorem dX12_of_49 : decode cX12_of 49 = .ok (.iadd, 1) := by decide +kernel
theorem dX12_of_50 : decode cX12_of 50 = .ok (.iload_n 1, 1) := by decide +kernel
theorem dX12_of_51 : decode cX12_of 51 = .ok (.iadd, 1) := by decide +kernel
theorem dX12_of_52 : decode cX12_of 52 = .ok (.iaload, 1) := by decide +kernel
theorem dX12_of_53 : decode cX12_of 53 = .ok (.ireturn, 1) := by decide +kernel
theorem dX12_turn_0 : decode cX12_turn 0 = .ok (.aload_n 0, 1) := by decide +kernel
theorem dX12_turn_1 : decode cX12_turn 1 = .ok (.iload_n 1, 1) := by decide +kernel
theorem dX12_turn_2 : decode cX12_turn 2 = .ok (.invokevirtual 151, 3) := by decide +kernel
theorem dX12_turn_5 : decode cX12_turn 5 = .ok (.ifCond .ne 5, 3) := by decide +kernel
theorem dX12_turn_8 : decode cX12_turn 8 = .ok (.iconst (-1), 1) := by decide +kernel
theorem dX12_turn_9 : decode cX12_turn 9 = .ok (.ireturn, 1) := by decide +kernel
theorem dX12_turn_10 : decode cX12_turn 10 = .ok (.iload_n 2, 1) := by decide +kernel
theorem dX12_turn_11 : decode cX12_turn 11 = .ok (.iload_n 3, 1) := by decide +kernel
theorem dX12_turn_12 : decode cX12_turn 12 = .ok (.iload 4, 2) := by decide +kernel
theorem dX12_turn_14 : decode cX12_turn 14 = .ok (.invokestatic 138, 3) := by decide +kernel
theorem dX12_turn_17 : decode cX12_turn 17 = .ok (.ifCond .ne 6, 3) := by decide +kernel
theorem dX12_turn_20 : decode cX12_turn 20 = .ok (.bipush (-2), 2) := by decide +kernel
theorem dX12_turn_22 : decode cX12_turn 22 = .ok (.ireturn, 1) := by decide +kernel
theorem dX12_turn_23 : decode cX12_turn 23 = .ok (.aload_n 0, 1) := by decide +kernel
theorem dX12_turn_24 : decode cX12_turn 24 = .ok (.getfield 9, 3) := by decide +kernel
theorem dX12_turn_27 : decode cX12_turn 27 = .ok (.bipush 30, 2) := by decide +kernel
theorem dX12_turn_29 : decode cX12_turn 29 = .ok (.iload_n 1, 1) := by decide +kernel
theorem dX12_turn_30 : decode cX12_turn 30 = .ok (.iadd, 1) := by decide +kernel
theorem dX12_turn_31 : decode cX12_turn 31 = .ok (.iload_n 2, 1) := by decide +kernel
theorem dX12_turn_32 : decode cX12_turn 32 = .ok (.iastore, 1) := by decide +kernel
theorem dX12_turn_33 : decode cX12_turn 33 = .ok (.aload_n 0, 1) := by decide +kernel
theorem dX12_turn_34 : decode cX12_turn 34 = .ok (.getfield 9, 3) := by decide +kernel
theorem dX12_turn_37 : decode cX12_turn 37 = .ok (.bipush 34, 2) := by decide +kernel
theorem dX12_turn_39 : decode cX12_turn 39 = .ok (.iload_n 1, 1) := by decide +kernel
theorem dX12_turn_40 : decode cX12_turn 40 = .ok (.iadd, 1) := by decide +kernel
theorem dX12_turn_41 : decode cX12_turn 41 = .ok (.iload_n 3, 1) := by decide +kernel
theorem dX12_turn_42 : decode cX12_turn 42 = .ok (.iastore, 1) := by decide +kernel
theorem dX12_turn_43 : decode cX12_turn 43 = .ok (.aload_n 0, 1) := by decide +kernel
theorem dX12_turn_44 : decode cX12_turn 44 = .ok (.getfield 9, 3) := by decide +kernel
theorem dX12_turn_47 : decode cX12_turn 47 = .ok (.bipush 38, 2) := by decide +kernel
theorem dX12_turn_49 : decode cX12_turn 49 = .ok (.iload_n 1, 1) := by decide +kernel
theorem dX12_turn_50 : decode cX12_turn 50 = .ok (.iadd, 1) := by decide +kernel
theorem dX12_turn_51 : decode cX12_turn 51 = .ok (.iload 4, 2) := by decide +kernel
theorem dX12_turn_53 : decode cX12_turn 53 = .ok (.iastore, 1) := by decide +kernel
theorem dX12_turn_54 : decode cX12_turn 54 = .ok (.aload_n 0, 1) := by decide +kernel
theorem dX12_turn_55 : decode cX12_turn 55 = .ok (.iload_n 1, 1) := by decide +kernel
theorem dX12_turn_56 : decode cX12_turn 56 = .ok (.aload_n 0, 1) := by decide +kernel
theorem dX12_turn_57 : decode cX12_turn 57 = .ok (.getfield 9, 3) := by decide +kernel
theorem dX12_turn_60 : decode cX12_turn 60 = .ok (.iconst 0, 1) := by decide +kernel
theorem dX12_turn_61 : decode cX12_turn 61 = .ok (.iaload, 1) := by decide +kernel
theorem dX12_turn_62 : decode cX12_turn 62 = .ok (.invokevirtual 144, 3) := by decide +kernel
theorem dX12_turn_65 : decode cX12_turn 65 = .ok (.ireturn, 1) := by decide +kernel
theorem dX12_on_0 : decode cX12_on 0 = .ok (.aload_n 0, 1) := by decide +kernel
theorem dX12_on_1 : decode cX12_on 1 = .ok (.iload_n 1, 1) := by decide +kernel
theorem dX12_on_2 : decode cX12_on 2 = .ok (.invokevirtual 151, 3) := by decide +kernel
theorem dX12_on_5 : decode cX12_on 5 = .ok (.ifCond .ne 5, 3) := by decide +kernel
theorem dX12_on_8 : decode cX12_on 8 = .ok (.iconst (-1), 1) := by decide +kernel
theorem dX12_on_9 : decode cX12_on 9 = .ok (.ireturn, 1) := by decide +kernel
theorem dX12_on_10 : decode cX12_on 10 = .ok (.aload_n 0, 1) := by decide +kernel
theorem dX12_on_11 : decode cX12_on 11 = .ok (.getfield 9, 3) := by decide +kernel
theorem dX12_on_14 : decode cX12_on 14 = .ok (.bipush 42, 2) := by decide +kernel
theorem dX12_on_16 : decode cX12_on 16 = .ok (.iload_n 1, 1) := by decide +kernel
theorem dX12_on_17 : decode cX12_on 17 = .ok (.iadd, 1) := by decide +kernel
theorem dX12_on_18 : decode cX12_on 18 = .ok (.iaload, 1) := by decide +kernel
theorem dX12_on_19 : decode cX12_on 19 = .ok (.istore_n 3, 1) := by decide +kernel
theorem dX12_on_20 : decode cX12_on 20 = .ok (.aload_n 0, 1) := by decide +kernel
theorem dX12_on_21 : decode cX12_on 21 = .ok (.getfield 9, 3) := by decide +kernel
theorem dX12_on_24 : decode cX12_on 24 = .ok (.bipush 42, 2) := by decide +kernel
theorem dX12_on_26 : decode cX12_on 26 = .ok (.iload_n 1, 1) := by decide +kernel
theorem dX12_on_27 : decode cX12_on 27 = .ok (.iadd, 1) := by decide +kernel
theorem dX12_on_28 : decode cX12_on 28 = .ok (.iload_n 2, 1) := by decide +kernel
theorem dX12_on_29 : decode cX12_on 29 = .ok (.ifCond .eq 7, 3) := by decide +kernel
theorem dX12_on_32 : decode cX12_on 32 = .ok (.iconst 1, 1) := by decide +kernel
theorem dX12_on_33 : decode cX12_on 33 = .ok (.goto 4, 3) := by decide +kernel
theorem dX12_on_36 : decode cX12_on 36 = .ok (.iconst 0, 1) := by decide +kernel
theorem dX12_on_37 : decode cX12_on 37 = .ok (.iastore, 1) := by decide +kernel
theorem dX12_on_38 : decode cX12_on 38 = .ok (.iload_n 3, 1) := by decide +kernel
theorem dX12_on_39 : decode cX12_on 39 = .ok (.ireturn, 1) := by decide +kernel
theorem dX12_row_0 : decode cX12_row 0 = .ok (.aload_n 0, 1) := by decide +kernel
theorem dX12_row_1 : decode cX12_row 1 = .ok (.iload_n 1, 1) := by decide +kernel
theorem dX12_row_2 : decode cX12_row 2 = .ok (.invokevirtual 151, 3) := by decide +kernel
theorem dX12_row_5 : decode cX12_row 5 = .ok (.ifCond .eq 12, 3) := by decide +kernel
theorem dX12_row_8 : decode cX12_row 8 = .ok (.iload_n 2, 1) := by decide +kernel
theorem dX12_row_9 : decode cX12_row 9 = .ok (.iconst 0, 1) := by decide +kernel
theorem dX12_row_10 : decode cX12_row 10 = .ok (.iconst 3, 1) := by decide +kernel
theorem dX12_row_11 : decode cX12_row 11 = .ok (.invokestatic 41, 3) := by decide +kernel
theorem dX12_row_14 : decode cX12_row 14 = .ok (.ifCond .ne 5, 3) := by decide +kernel
theorem dX12_row_17 : decode cX12_row 17 = .ok (.iconst (-1), 1) := by decide +kernel
theorem dX12_row_18 : decode cX12_row 18 = .ok (.ireturn, 1) := by decide +kernel
theorem dX12_row_19 : decode cX12_row 19 = .ok (.iload_n 3, 1) := by decide +kernel
theorem dX12_row_20 : decode cX12_row 20 = .ok (.invokestatic 134, 3) := by decide +kernel
theorem dX12_row_23 : decode cX12_row 23 = .ok (.ifCond .ne 6, 3) := by decide +kernel
theorem dX12_row_26 : decode cX12_row 26 = .ok (.bipush (-2), 2) := by decide +kernel
theorem dX12_row_28 : decode cX12_row 28 = .ok (.ireturn, 1) := by decide +kernel
theorem dX12_row_29 : decode cX12_row 29 = .ok (.aload_n 0, 1) := by decide +kernel
theorem dX12_row_30 : decode cX12_row 30 = .ok (.getfield 9, 3) := by decide +kernel
theorem dX12_row_33 : decode cX12_row 33 = .ok (.bipush 22, 2) := by decide +kernel
theorem dX12_row_35 : decode cX12_row 35 = .ok (.iload_n 1, 1) := by decide +kernel
theorem dX12_row_36 : decode cX12_row 36 = .ok (.iadd, 1) := by decide +kernel
theorem dX12_row_37 : decode cX12_row 37 = .ok (.iaload, 1) := by decide +kernel
theorem dX12_row_38 : decode cX12_row 38 = .ok (.bipush 6, 2) := by decide +kernel
theorem dX12_row_40 : decode cX12_row 40 = .ok (.if_icmp .eq 6, 3) := by decide +kernel
theorem dX12_row_43 : decode cX12_row 43 = .ok (.bipush (-3), 2) := by decide +kernel
theorem dX12_row_45 : decode cX12_row 45 = .ok (.ireturn, 1) := by decide +kernel
theorem dX12_row_46 : decode cX12_row 46 = .ok (.aload_n 0, 1) := by decide +kernel
theorem dX12_row_47 : decode cX12_row 47 = .ok (.getfield 9, 3) := by decide +kernel
theorem dX12_row_50 : decode cX12_row 50 = .ok (.bipush 46, 2) := by decide +kernel
theorem dX12_row_52 : decode cX12_row 52 = .ok (.iconst 4, 1) := by decide +kernel
theorem dX12_row_53 : decode cX12_row 53 = .ok (.iload_n 1, 1) := by decide +kernel
theorem dX12_row_54 : decode cX12_row 54 = .ok (.imul, 1) := by decide +kernel
theorem dX12_row_55 : decode cX12_row 55 = .ok (.iadd, 1) := by decide +kernel
theorem dX12_row_56 : decode cX12_row 56 = .ok (.iload_n 2, 1) := by decide +kernel
theorem dX12_row_57 : decode cX12_row 57 = .ok (.iadd, 1) := by decide +kernel
theorem dX12_row_58 : decode cX12_row 58 = .ok (.iaload, 1) := by decide +kernel
theorem dX12_row_59 : decode cX12_row 59 = .ok (.istore 4, 2) := by decide +kernel
theorem dX12_row_61 : decode cX12_row 61 = .ok (.aload_n 0, 1) := by decide +kernel
theorem dX12_row_62 : decode cX12_row 62 = .ok (.getfield 9, 3) := by decide +kernel
theorem dX12_row_65 : decode cX12_row 65 = .ok (.bipush 46, 2) := by decide +kernel
theorem dX12_row_67 : decode cX12_row 67 = .ok (.iconst 4, 1) := by decide +kernel
theorem dX12_row_68 : decode cX12_row 68 = .ok (.iload_n 1, 1) := by decide +kernel
theorem dX12_row_69 : decode cX12_row 69 = .ok (.imul, 1) := by decide +kernel
theorem dX12_row_70 : decode cX12_row 70 = .ok (.iadd, 1) := by decide +kernel
theorem dX12_row_71 : decode cX12_row 71 = .ok (.iload_n 2, 1) := by decide +kernel
theorem dX12_row_72 : decode cX12_row 72 = .ok (.iadd, 1) := by decide +kernel
theorem dX12_row_73 : decode cX12_row 73 = .ok (.iload_n 3, 1) := by decide +kernel
theorem dX12_row_74 : decode cX12_row 74 = .ok (.iastore, 1) := by decide +kernel
theorem dX12_row_75 : decode cX12_row 75 = .ok (.iload 4, 2) := by decide +kernel
theorem dX12_row_77 : decode cX12_row 77 = .ok (.ireturn, 1) := by decide +kernel
theorem dX12_sitter_0 : decode cX12_sitter 0 = .ok (.iload_n 1, 1) := by decide +kernel
theorem dX12_sitter_1 : decode cX12_sitter 1 = .ok (.invokestatic 134, 3) := by decide +kernel
theorem dX12_sitter_4 : decode cX12_sitter 4 = .ok (.ifCond .ne 5, 3) := by decide +kernel
theorem dX12_sitter_7 : decode cX12_sitter 7 = .ok (.iconst (-1), 1) := by decide +kernel
theorem dX12_sitter_8 : decode cX12_sitter 8 = .ok (.ireturn, 1) := by decide +kernel
theorem dX12_sitter_9 : decode cX12_sitter 9 = .ok (.iload_n 2, 1) := by decide +kernel
theorem dX12_sitter_10 : decode cX12_sitter 10 = .ok (.iconst 0, 1) := by decide +kernel
theorem dX12_sitter_11 : decode cX12_sitter 11 = .ok (.bipush 99, 2) := by decide +kernel
theorem dX12_sitter_13 : decode cX12_sitter 13 = .ok (.invokestatic 41, 3) := by decide +kernel
theorem dX12_sitter_16 : decode cX12_sitter 16 = .ok (.ifCond .ne 6, 3) := by decide +kernel
theorem dX12_sitter_19 : decode cX12_sitter 19 = .ok (.bipush (-2), 2) := by decide +kernel
theorem dX12_sitter_21 : decode cX12_sitter 21 = .ok (.ireturn, 1) := by decide +kernel
theorem dX12_sitter_22 : decode cX12_sitter 22 = .ok (.aload_n 0, 1) := by decide +kernel
theorem dX12_sitter_23 : decode cX12_sitter 23 = .ok (.getfield 9, 3) := by decide +kernel
theorem dX12_sitter_26 : decode cX12_sitter 26 = .ok (.bipush 14, 2) := by decide +kernel
theorem dX12_sitter_28 : decode cX12_sitter 28 = .ok (.iaload, 1) := by decide +kernel
theorem dX12_sitter_29 : decode cX12_sitter 29 = .ok (.bipush 6, 2) := by decide +kernel
theorem dX12_sitter_31 : decode cX12_sitter 31 = .ok (.if_icmp .ne 6, 3) := by decide +kernel
theorem dX12_sitter_34 : decode cX12_sitter 34 = .ok (.bipush (-4), 2) := by decide +kernel
theorem dX12_sitter_36 : decode cX12_sitter 36 = .ok (.ireturn, 1) := by decide +kernel
theorem dX12_sitter_37 : decode cX12_sitter 37 = .ok (.aload_n 0, 1) := by decide +kernel
theorem dX12_sitter_38 : decode cX12_sitter 38 = .ok (.getfield 9, 3) := by decide +kernel
theorem dX12_sitter_41 : decode cX12_sitter 41 = .ok (.bipush 14, 2) := by decide +kernel
theorem dX12_sitter_43 : decode cX12_sitter 43 = .ok (.iaload, 1) := by decide +kernel
theorem dX12_sitter_44 : decode cX12_sitter 44 = .ok (.istore_n 3, 1) := by decide +kernel
theorem dX12_sitter_45 : decode cX12_sitter 45 = .ok (.aload_n 0, 1) := by decide +kernel
theorem dX12_sitter_46 : decode cX12_sitter 46 = .ok (.getfield 9, 3) := by decide +kernel
theorem dX12_sitter_49 : decode cX12_sitter 49 = .ok (.bipush 62, 2) := by decide +kernel
theorem dX12_sitter_51 : decode cX12_sitter 51 = .ok (.iload_n 3, 1) := by decide +kernel
theorem dX12_sitter_52 : decode cX12_sitter 52 = .ok (.iadd, 1) := by decide +kernel
theorem dX12_sitter_53 : decode cX12_sitter 53 = .ok (.iload_n 1, 1) := by decide +kernel
theorem dX12_sitter_54 : decode cX12_sitter 54 = .ok (.iastore, 1) := by decide +kernel
theorem dX12_sitter_55 : decode cX12_sitter 55 = .ok (.aload_n 0, 1) := by decide +kernel
theorem dX12_sitter_56 : decode cX12_sitter 56 = .ok (.getfield 9, 3) := by decide +kernel
theorem dX12_sitter_59 : decode cX12_sitter 59 = .ok (.iconst 1, 1) := by decide +kernel
theorem dX12_sitter_60 : decode cX12_sitter 60 = .ok (.iload_n 3, 1) := by decide +kernel
theorem dX12_sitter_61 : decode cX12_sitter 61 = .ok (.iadd, 1) := by decide +kernel
theorem dX12_sitter_62 : decode cX12_sitter 62 = .ok (.iload_n 2, 1) := by decide +kernel
theorem dX12_sitter_63 : decode cX12_sitter 63 = .ok (.iastore, 1) := by decide +kernel
theorem dX12_sitter_64 : decode cX12_sitter 64 = .ok (.aload_n 0, 1) := by decide +kernel
theorem dX12_sitter_65 : decode cX12_sitter 65 = .ok (.getfield 9, 3) := by decide +kernel
theorem dX12_sitter_68 : decode cX12_sitter 68 = .ok (.bipush 7, 2) := by decide +kernel
theorem dX12_sitter_70 : decode cX12_sitter 70 = .ok (.iload_n 3, 1) := by decide +kernel
theorem dX12_sitter_71 : decode cX12_sitter 71 = .ok (.iadd, 1) := by decide +kernel
theorem dX12_sitter_72 : decode cX12_sitter 72 = .ok (.iconst 0, 1) := by decide +kernel
theorem dX12_sitter_73 : decode cX12_sitter 73 = .ok (.iastore, 1) := by decide +kernel
theorem dX12_sitter_74 : decode cX12_sitter 74 = .ok (.aload_n 0, 1) := by decide +kernel
theorem dX12_sitter_75 : decode cX12_sitter 75 = .ok (.getfield 9, 3) := by decide +kernel
theorem dX12_sitter_78 : decode cX12_sitter 78 = .ok (.bipush 14, 2) := by decide +kernel
theorem dX12_sitter_80 : decode cX12_sitter 80 = .ok (.dup2, 1) := by decide +kernel
theorem dX12_sitter_81 : decode cX12_sitter 81 = .ok (.iaload, 1) := by decide +kernel
theorem dX12_sitter_82 : decode cX12_sitter 82 = .ok (.iconst 1, 1) := by decide +kernel
theorem dX12_sitter_83 : decode cX12_sitter 83 = .ok (.iadd, 1) := by decide +kernel
theorem dX12_sitter_84 : decode cX12_sitter 84 = .ok (.iastore, 1) := by decide +kernel
theorem dX12_sitter_85 : decode cX12_sitter 85 = .ok (.iload_n 3, 1) := by decide +kernel
theorem dX12_sitter_86 : decode cX12_sitter 86 = .ok (.ireturn, 1) := by decide +kernel
theorem dX12_metBy_0 : decode cX12_metBy 0 = .ok (.iconst 0, 1) := by decide +kernel
theorem dX12_metBy_1 : decode cX12_metBy 1 = .ok (.istore_n 2, 1) := by decide +kernel
theorem dX12_metBy_2 : decode cX12_metBy 2 = .ok (.iconst 0, 1) := by decide +kernel
theorem dX12_metBy_3 : decode cX12_metBy 3 = .ok (.istore_n 3, 1) := by decide +kernel
theorem dX12_metBy_4 : decode cX12_metBy 4 = .ok (.iload_n 3, 1) := by decide +kernel
theorem dX12_metBy_5 : decode cX12_metBy 5 = .ok (.aload_n 0, 1) := by decide +kernel
theorem dX12_metBy_6 : decode cX12_metBy 6 = .ok (.getfield 9, 3) := by decide +kernel
theorem dX12_metBy_9 : decode cX12_metBy 9 = .ok (.bipush 13, 2) := by decide +kernel
theorem dX12_metBy_11 : decode cX12_metBy 11 = .ok (.iaload, 1) := by decide +kernel
theorem dX12_metBy_12 : decode cX12_metBy 12 = .ok (.if_icmp .ge 59, 3) := by decide +kernel
theorem dX12_metBy_15 : decode cX12_metBy 15 = .ok (.iload_n 2, 1) := by decide +kernel
theorem dX12_metBy_16 : decode cX12_metBy 16 = .ok (.aload_n 0, 1) := by decide +kernel
theorem dX12_metBy_17 : decode cX12_metBy 17 = .ok (.getfield 9, 3) := by decide +kernel
theorem dX12_metBy_20 : decode cX12_metBy 20 = .ok (.bipush 42, 2) := by decide +kernel
theorem dX12_metBy_22 : decode cX12_metBy 22 = .ok (.iload_n 3, 1) := by decide +kernel
theorem dX12_metBy_23 : decode cX12_metBy 23 = .ok (.iadd, 1) := by decide +kernel
theorem dX12_metBy_24 : decode cX12_metBy 24 = .ok (.iaload, 1) := by decide +kernel
theorem dX12_metBy_25 : decode cX12_metBy 25 = .ok (.iconst 1, 1) := by decide +kernel
theorem dX12_metBy_26 : decode cX12_metBy 26 = .ok (.if_icmp .ne 36, 3) := by decide +kernel
theorem dX12_metBy_29 : decode cX12_metBy 29 = .ok (.aload_n 0, 1) := by decide +kernel
theorem dX12_metBy_30 : decode cX12_metBy 30 = .ok (.iload_n 3, 1) := by decide +kernel
theorem dX12_metBy_31 : decode cX12_metBy 31 = .ok (.aload_n 0, 1) := by decide +kernel
theorem dX12_metBy_32 : decode cX12_metBy 32 = .ok (.getfield 9, 3) := by decide +kernel
theorem dX12_metBy_35 : decode cX12_metBy 35 = .ok (.iconst 0, 1) := by decide +kernel
theorem dX12_metBy_36 : decode cX12_metBy 36 = .ok (.iaload, 1) := by decide +kernel
theorem dX12_metBy_37 : decode cX12_metBy 37 = .ok (.invokevirtual 154, 3) := by decide +kernel
theorem dX12_metBy_40 : decode cX12_metBy 40 = .ok (.aload_n 0, 1) := by decide +kernel
theorem dX12_metBy_41 : decode cX12_metBy 41 = .ok (.getfield 9, 3) := by decide +kernel
theorem dX12_metBy_44 : decode cX12_metBy 44 = .ok (.bipush 62, 2) := by decide +kernel
theorem dX12_metBy_46 : decode cX12_metBy 46 = .ok (.iload_n 1, 1) := by decide +kernel
theorem dX12_metBy_47 : decode cX12_metBy 47 = .ok (.iadd, 1) := by decide +kernel
theorem dX12_metBy_48 : decode cX12_metBy 48 = .ok (.iaload, 1) := by decide +kernel
theorem dX12_metBy_49 : decode cX12_metBy 49 = .ok (.ishr, 1) := by decide +kernel
theorem dX12_metBy_50 : decode cX12_metBy 50 = .ok (.iconst 1, 1) := by decide +kernel
theorem dX12_metBy_51 : decode cX12_metBy 51 = .ok (.iand, 1) := by decide +kernel
theorem dX12_metBy_52 : decode cX12_metBy 52 = .ok (.iconst 1, 1) := by decide +kernel
theorem dX12_metBy_53 : decode cX12_metBy 53 = .ok (.if_icmp .ne 9, 3) := by decide +kernel
theorem dX12_metBy_56 : decode cX12_metBy 56 = .ok (.iconst 1, 1) := by decide +kernel
theorem dX12_metBy_57 : decode cX12_metBy 57 = .ok (.iload_n 3, 1) := by decide +kernel
theorem dX12_metBy_58 : decode cX12_metBy 58 = .ok (.ishl, 1) := by decide +kernel
theorem dX12_metBy_59 : decode cX12_metBy 59 = .ok (.goto 4, 3) := by decide +kernel
theorem dX12_metBy_62 : decode cX12_metBy 62 = .ok (.iconst 0, 1) := by decide +kernel
theorem dX12_metBy_63 : decode cX12_metBy 63 = .ok (.ior, 1) := by decide +kernel
theorem dX12_metBy_64 : decode cX12_metBy 64 = .ok (.istore_n 2, 1) := by decide +kernel
theorem dX12_metBy_65 : decode cX12_metBy 65 = .ok (.iinc 3 1, 3) := by decide +kernel
theorem dX12_metBy_68 : decode cX12_metBy 68 = .ok (.goto (-64), 3) := by decide +kernel
theorem dX12_metBy_71 : decode cX12_metBy 71 = .ok (.iload_n 2, 1) := by decide +kernel
theorem dX12_metBy_72 : decode cX12_metBy 72 = .ok (.ireturn, 1) := by decide +kernel
theorem dX12_at_0 : decode cX12_at 0 = .ok (.aload_n 0, 1) := by decide +kernel
theorem dX12_at_1 : decode cX12_at 1 = .ok (.iload_n 1, 1) := by decide +kernel
theorem dX12_at_2 : decode cX12_at 2 = .ok (.invokevirtual 157, 3) := by decide +kernel
theorem dX12_at_5 : decode cX12_at 5 = .ok (.ifCond .ne 5, 3) := by decide +kernel
theorem dX12_at_8 : decode cX12_at 8 = .ok (.iconst (-1), 1) := by decide +kernel
theorem dX12_at_9 : decode cX12_at 9 = .ok (.ireturn, 1) := by decide +kernel
theorem dX12_at_10 : decode cX12_at 10 = .ok (.iload_n 2, 1) := by decide +kernel
theorem dX12_at_11 : decode cX12_at 11 = .ok (.ifCond .ne 15, 3) := by decide +kernel
theorem dX12_at_14 : decode cX12_at 14 = .ok (.aload_n 0, 1) := by decide +kernel
theorem dX12_at_15 : decode cX12_at 15 = .ok (.getfield 9, 3) := by decide +kernel
theorem dX12_at_18 : decode cX12_at 18 = .ok (.bipush 62, 2) := by decide +kernel
theorem dX12_at_20 : decode cX12_at 20 = .ok (.iload_n 1, 1) := by decide +kernel
theorem dX12_at_21 : decode cX12_at 21 = .ok (.iadd, 1) := by decide +kernel
theorem dX12_at_22 : decode cX12_at 22 = .ok (.iaload, 1) := by decide +kernel
theorem dX12_at_23 : decode cX12_at 23 = .ok (.goto 50, 3) := by decide +kernel
theorem dX12_at_26 : decode cX12_at 26 = .ok (.iload_n 2, 1) := by decide +kernel
theorem dX12_at_27 : decode cX12_at 27 = .ok (.iconst 1, 1) := by decide +kernel
theorem dX12_at_28 : decode cX12_at 28 = .ok (.if_icmp .ne 14, 3) := by decide +kernel
theorem dX12_at_31 : decode cX12_at 31 = .ok (.aload_n 0, 1) := by decide +kernel
theorem dX12_at_32 : decode cX12_at 32 = .ok (.getfield 9, 3) := by decide +kernel
theorem dX12_at_35 : decode cX12_at 35 = .ok (.iconst 1, 1) := by decide +kernel
theorem dX12_at_36 : decode cX12_at 36 = .ok (.iload_n 1, 1) := by decide +kernel
theorem dX12_at_37 : decode cX12_at 37 = .ok (.iadd, 1) := by decide +kernel
theorem dX12_at_38 : decode cX12_at 38 = .ok (.iaload, 1) := by decide +kernel
theorem dX12_at_39 : decode cX12_at 39 = .ok (.goto 34, 3) := by decide +kernel
theorem dX12_at_42 : decode cX12_at 42 = .ok (.iload_n 2, 1) := by decide +kernel
theorem dX12_at_43 : decode cX12_at 43 = .ok (.iconst 2, 1) := by decide +kernel
theorem dX12_at_44 : decode cX12_at 44 = .ok (.if_icmp .ne 15, 3) := by decide +kernel
theorem dX12_at_47 : decode cX12_at 47 = .ok (.aload_n 0, 1) := by decide +kernel
theorem dX12_at_48 : decode cX12_at 48 = .ok (.getfield 9, 3) := by decide +kernel
theorem dX12_at_51 : decode cX12_at 51 = .ok (.bipush 7, 2) := by decide +kernel
theorem dX12_at_53 : decode cX12_at 53 = .ok (.iload_n 1, 1) := by decide +kernel
theorem dX12_at_54 : decode cX12_at 54 = .ok (.iadd, 1) := by decide +kernel
theorem dX12_at_55 : decode cX12_at 55 = .ok (.iaload, 1) := by decide +kernel
theorem dX12_at_56 : decode cX12_at 56 = .ok (.goto 17, 3) := by decide +kernel
theorem dX12_at_59 : decode cX12_at 59 = .ok (.iload_n 2, 1) := by decide +kernel
theorem dX12_at_60 : decode cX12_at 60 = .ok (.iconst 3, 1) := by decide +kernel
theorem dX12_at_61 : decode cX12_at 61 = .ok (.if_icmp .ne 11, 3) := by decide +kernel
theorem dX12_at_64 : decode cX12_at 64 = .ok (.aload_n 0, 1) := by decide +kernel
theorem dX12_at_65 : decode cX12_at 65 = .ok (.iload_n 1, 1) := by decide +kernel
theorem dX12_at_66 : decode cX12_at 66 = .ok (.invokevirtual 160, 3) := by decide +kernel
theorem dX12_at_69 : decode cX12_at 69 = .ok (.goto 4, 3) := by decide +kernel
theorem dX12_at_72 : decode cX12_at 72 = .ok (.iconst (-1), 1) := by decide +kernel
theorem dX12_at_73 : decode cX12_at 73 = .ok (.ireturn, 1) := by decide +kernel
theorem dX12_move_0 : decode cX12_move 0 = .ok (.aload_n 0, 1) := by decide +kernel
theorem dX12_move_1 : decode cX12_move 1 = .ok (.iload_n 1, 1) := by decide +kernel
theorem dX12_move_2 : decode cX12_move 2 = .ok (.invokevirtual 157, 3) := by decide +kernel
theorem dX12_move_5 : decode cX12_move 5 = .ok (.ifCond .eq 10, 3) := by decide +kernel
theorem dX12_move_8 : decode cX12_move 8 = .ok (.iload_n 2, 1) := by decide +kernel
theorem dX12_move_9 : decode cX12_move 9 = .ok (.invokestatic 134, 3) := by decide +kernel
theorem dX12_move_12 : decode cX12_move 12 = .ok (.ifCond .ne 5, 3) := by decide +kernel
theorem dX12_move_15 : decode cX12_move 15 = .ok (.iconst (-1), 1) := by decide +kernel
theorem dX12_move_16 : decode cX12_move 16 = .ok (.ireturn, 1) := by decide +kernel
theorem dX12_move_17 : decode cX12_move 17 = .ok (.aload_n 0, 1) := by decide +kernel
theorem dX12_move_18 : decode cX12_move 18 = .ok (.getfield 9, 3) := by decide +kernel
theorem dX12_move_21 : decode cX12_move 21 = .ok (.bipush 62, 2) := by decide +kernel
theorem dX12_move_23 : decode cX12_move 23 = .ok (.iload_n 1, 1) := by decide +kernel
theorem dX12_move_24 : decode cX12_move 24 = .ok (.iadd, 1) := by decide +kernel
theorem dX12_move_25 : decode cX12_move 25 = .ok (.iaload, 1) := by decide +kernel
theorem dX12_move_26 : decode cX12_move 26 = .ok (.istore_n 3, 1) := by decide +kernel
theorem dX12_move_27 : decode cX12_move 27 = .ok (.aload_n 0, 1) := by decide +kernel
theorem dX12_move_28 : decode cX12_move 28 = .ok (.getfield 9, 3) := by decide +kernel
theorem dX12_move_31 : decode cX12_move 31 = .ok (.bipush 62, 2) := by decide +kernel
theorem dX12_move_33 : decode cX12_move 33 = .ok (.iload_n 1, 1) := by decide +kernel
theorem dX12_move_34 : decode cX12_move 34 = .ok (.iadd, 1) := by decide +kernel
theorem dX12_move_35 : decode cX12_move 35 = .ok (.iload_n 2, 1) := by decide +kernel
theorem dX12_move_36 : decode cX12_move 36 = .ok (.iastore, 1) := by decide +kernel
theorem dX12_move_37 : decode cX12_move 37 = .ok (.iload_n 3, 1) := by decide +kernel
theorem dX12_move_38 : decode cX12_move 38 = .ok (.ireturn, 1) := by decide +kernel
theorem dX12_heat_0 : decode cX12_heat 0 = .ok (.aload_n 0, 1) := by decide +kernel
theorem dX12_heat_1 : decode cX12_heat 1 = .ok (.iload_n 1, 1) := by decide +kernel
theorem dX12_heat_2 : decode cX12_heat 2 = .ok (.invokevirtual 157, 3) := by decide +kernel
theorem dX12_heat_5 : decode cX12_heat 5 = .ok (.ifCond .ne 5, 3) := by decide +kernel
theorem dX12_heat_8 : decode cX12_heat 8 = .ok (.iconst (-1), 1) := by decide +kernel
theorem dX12_heat_9 : decode cX12_heat 9 = .ok (.ireturn, 1) := by decide +kernel
theorem dX12_heat_10 : decode cX12_heat 10 = .ok (.iload_n 2, 1) := by decide +kernel
theorem dX12_heat_11 : decode cX12_heat 11 = .ok (.iconst 0, 1) := by decide +kernel
theorem dX12_heat_12 : decode cX12_heat 12 = .ok (.bipush 99, 2) := by decide +kernel
theorem dX12_heat_14 : decode cX12_heat 14 = .ok (.invokestatic 41, 3) := by decide +kernel
theorem dX12_heat_17 : decode cX12_heat 17 = .ok (.ifCond .ne 6, 3) := by decide +kernel
theorem dX12_heat_20 : decode cX12_heat 20 = .ok (.bipush (-2), 2) := by decide +kernel
theorem dX12_heat_22 : decode cX12_heat 22 = .ok (.ireturn, 1) := by decide +kernel
theorem dX12_heat_23 : decode cX12_heat 23 = .ok (.aload_n 0, 1) := by decide +kernel
theorem dX12_heat_24 : decode cX12_heat 24 = .ok (.getfield 9, 3) := by decide +kernel
theorem dX12_heat_27 : decode cX12_heat 27 = .ok (.iconst 1, 1) := by decide +kernel
theorem dX12_heat_28 : decode cX12_heat 28 = .ok (.iload_n 1, 1) := by decide +kernel
theorem dX12_heat_29 : decode cX12_heat 29 = .ok (.iadd, 1) := by decide +kernel
theorem dX12_heat_30 : decode cX12_heat 30 = .ok (.iaload, 1) := by decide +kernel
theorem dX12_heat_31 : decode cX12_heat 31 = .ok (.istore_n 3, 1) := by decide +kernel
theorem dX12_heat_32 : decode cX12_heat 32 = .ok (.aload_n 0, 1) := by decide +kernel
theorem dX12_heat_33 : decode cX12_heat 33 = .ok (.getfield 9, 3) := by decide +kernel
theorem dX12_heat_36 : decode cX12_heat 36 = .ok (.iconst 1, 1) := by decide +kernel
theorem dX12_heat_37 : decode cX12_heat 37 = .ok (.iload_n 1, 1) := by decide +kernel
theorem dX12_heat_38 : decode cX12_heat 38 = .ok (.iadd, 1) := by decide +kernel
theorem dX12_heat_39 : decode cX12_heat 39 = .ok (.iload_n 2, 1) := by decide +kernel
theorem dX12_heat_40 : decode cX12_heat 40 = .ok (.iastore, 1) := by decide +kernel
theorem dX12_heat_41 : decode cX12_heat 41 = .ok (.iload_n 3, 1) := by decide +kernel
theorem dX12_heat_42 : decode cX12_heat 42 = .ok (.ireturn, 1) := by decide +kernel
theorem dX12_told_0 : decode cX12_told 0 = .ok (.iload_n 1, 1) := by decide +kernel
theorem dX12_told_1 : decode cX12_told 1 = .ok (.ifCond .ne 12, 3) := by decide +kernel
theorem dX12_told_4 : decode cX12_told 4 = .ok (.aload_n 0, 1) := by decide +kernel
theorem dX12_told_5 : decode cX12_told 5 = .ok (.getfield 9, 3) := by decide +kernel
theorem dX12_told_8 : decode cX12_told 8 = .ok (.iconst 0, 1) := by decide +kernel
theorem dX12_told_9 : decode cX12_told 9 = .ok (.iaload, 1) := by decide +kernel
theorem dX12_told_10 : decode cX12_told 10 = .ok (.goto 33, 3) := by decide +kernel
theorem dX12_told_13 : decode cX12_told 13 = .ok (.iload_n 1, 1) := by decide +kernel
theorem dX12_told_14 : decode cX12_told 14 = .ok (.iconst 1, 1) := by decide +kernel
theorem dX12_told_15 : decode cX12_told 15 = .ok (.if_icmp .ne 15, 3) := by decide +kernel
theorem dX12_told_18 : decode cX12_told 18 = .ok (.aload_n 0, 1) := by decide +kernel
theorem dX12_told_19 : decode cX12_told 19 = .ok (.sipush 218, 3) := by decide +kernel
theorem dX12_told_22 : decode cX12_told 22 = .ok (.bipush 80, 2) := by decide +kernel
theorem dX12_told_24 : decode cX12_told 24 = .ok (.invokevirtual 130, 3) := by decide +kernel
theorem dX12_told_27 : decode cX12_told 27 = .ok (.goto 16, 3) := by decide +kernel
theorem dX12_told_30 : decode cX12_told 30 = .ok (.iload_n 1, 1) := by decide +kernel
theorem dX12_told_31 : decode cX12_told 31 = .ok (.iconst 2, 1) := by decide +kernel
theorem dX12_told_32 : decode cX12_told 32 = .ok (.if_icmp .ne 10, 3) := by decide +kernel
theorem dX12_told_35 : decode cX12_told 35 = .ok (.aload_n 0, 1) := by decide +kernel
theorem dX12_told_36 : decode cX12_told 36 = .ok (.invokevirtual 164, 3) := by decide +kernel
theorem dX12_told_39 : decode cX12_told 39 = .ok (.goto 4, 3) := by decide +kernel
theorem dX12_told_42 : decode cX12_told 42 = .ok (.iconst (-1), 1) := by decide +kernel
theorem dX12_told_43 : decode cX12_told 43 = .ok (.ireturn, 1) := by decide +kernel
theorem dX12_flyNow_0 : decode cX12_flyNow 0 = .ok (.aload_n 0, 1) := by decide +kernel
theorem dX12_flyNow_1 : decode cX12_flyNow 1 = .ok (.sipush 223, 3) := by decide +kernel
theorem dX12_flyNow_4 : decode cX12_flyNow 4 = .ok (.iconst 3, 1) := by decide +kernel
theorem dX12_flyNow_5 : decode cX12_flyNow 5 = .ok (.invokevirtual 130, 3) := by decide +kernel
theorem dX12_flyNow_8 : decode cX12_flyNow 8 = .ok (.istore_n 1, 1) := by decide +kernel
theorem dX12_flyNow_9 : decode cX12_flyNow 9 = .ok (.iload_n 1, 1) := by decide +kernel
theorem dX12_flyNow_10 : decode cX12_flyNow 10 = .ok (.iconst 1, 1) := by decide +kernel
theorem dX12_flyNow_11 : decode cX12_flyNow 11 = .ok (.if_icmp .ge 7, 3) := by decide +kernel
theorem dX12_flyNow_14 : decode cX12_flyNow 14 = .ok (.iconst 1, 1) := by decide +kernel
theorem dX12_flyNow_15 : decode cX12_flyNow 15 = .ok (.goto 4, 3) := by decide +kernel
theorem dX12_flyNow_18 : decode cX12_flyNow 18 = .ok (.iload_n 1, 1) := by decide +kernel
theorem dX12_flyNow_19 : decode cX12_flyNow 19 = .ok (.ireturn, 1) := by decide +kernel
theorem dX12_goes_0 : decode cX12_goes 0 = .ok (.iconst 0, 1) := by decide +kernel
theorem dX12_goes_1 : decode cX12_goes 1 = .ok (.istore_n 3, 1) := by decide +kernel
theorem dX12_goes_2 : decode cX12_goes 2 = .ok (.iload_n 3, 1) := by decide +kernel
theorem dX12_goes_3 : decode cX12_goes 3 = .ok (.aload_n 0, 1) := by decide +kernel
theorem dX12_goes_4 : decode cX12_goes 4 = .ok (.getfield 9, 3) := by decide +kernel
theorem dX12_goes_7 : decode cX12_goes 7 = .ok (.bipush 14, 2) := by decide +kernel
theorem dX12_goes_9 : decode cX12_goes 9 = .ok (.iaload, 1) := by decide +kernel
theorem dX12_goes_10 : decode cX12_goes 10 = .ok (.if_icmp .ge 192, 3) := by decide +kernel
theorem dX12_goes_13 : decode cX12_goes 13 = .ok (.iload_n 1, 1) := by decide +kernel
theorem dX12_goes_14 : decode cX12_goes 14 = .ok (.aload_n 0, 1) := by decide +kernel
theorem dX12_goes_15 : decode cX12_goes 15 = .ok (.getfield 9, 3) := by decide +kernel
theorem dX12_goes_18 : decode cX12_goes 18 = .ok (.bipush 62, 2) := by decide +kernel
theorem dX12_goes_20 : decode cX12_goes 20 = .ok (.iload_n 3, 1) := by decide +kernel
theorem dX12_goes_21 : decode cX12_goes 21 = .ok (.iadd, 1) := by decide +kernel
theorem dX12_goes_22 : decode cX12_goes 22 = .ok (.iaload, 1) := by decide +kernel
theorem dX12_goes_23 : decode cX12_goes 23 = .ok (.ishr, 1) := by decide +kernel
theorem dX12_goes_24 : decode cX12_goes 24 = .ok (.iconst 1, 1) := by decide +kernel
theorem dX12_goes_25 : decode cX12_goes 25 = .ok (.iand, 1) := by decide +kernel
theorem dX12_goes_26 : decode cX12_goes 26 = .ok (.iconst 1, 1) := by decide +kernel
theorem dX12_goes_27 : decode cX12_goes 27 = .ok (.if_icmp .ne 7, 3) := by decide +kernel
theorem dX12_goes_30 : decode cX12_goes 30 = .ok (.iconst 1, 1) := by decide +kernel
theorem dX12_goes_31 : decode cX12_goes 31 = .ok (.goto 4, 3) := by decide +kernel
theorem dX12_goes_34 : decode cX12_goes 34 = .ok (.iconst 0, 1) := by decide +kernel
theorem dX12_goes_35 : decode cX12_goes 35 = .ok (.istore 4, 2) := by decide +kernel
theorem dX12_goes_37 : decode cX12_goes 37 = .ok (.aload_n 0, 1) := by decide +kernel
theorem dX12_goes_38 : decode cX12_goes 38 = .ok (.getfield 9, 3) := by decide +kernel
theorem dX12_goes_41 : decode cX12_goes 41 = .ok (.bipush 7, 2) := by decide +kernel
theorem dX12_goes_43 : decode cX12_goes 43 = .ok (.iload_n 3, 1) := by decide +kernel
theorem dX12_goes_44 : decode cX12_goes 44 = .ok (.iadd, 1) := by decide +kernel
theorem dX12_goes_45 : decode cX12_goes 45 = .ok (.iload 4, 2) := by decide +kernel
theorem dX12_goes_47 : decode cX12_goes 47 = .ok (.ifCond .eq 23, 3) := by decide +kernel
theorem dX12_goes_50 : decode cX12_goes 50 = .ok (.aload_n 0, 1) := by decide +kernel
theorem dX12_goes_51 : decode cX12_goes 51 = .ok (.getfield 9, 3) := by decide +kernel
theorem dX12_goes_54 : decode cX12_goes 54 = .ok (.bipush 7, 2) := by decide +kernel
theorem dX12_goes_56 : decode cX12_goes 56 = .ok (.iload_n 3, 1) := by decide +kernel
theorem dX12_goes_57 : decode cX12_goes 57 = .ok (.iadd, 1) := by decide +kernel
theorem dX12_goes_58 : decode cX12_goes 58 = .ok (.iaload, 1) := by decide +kernel
theorem dX12_goes_59 : decode cX12_goes 59 = .ok (.iconst 1, 1) := by decide +kernel
theorem dX12_goes_60 : decode cX12_goes 60 = .ok (.iadd, 1) := by decide +kernel
theorem dX12_goes_61 : decode cX12_goes 61 = .ok (.iconst 0, 1) := by decide +kernel
theorem dX12_goes_62 : decode cX12_goes 62 = .ok (.bipush 9, 2) := by decide +kernel
theorem dX12_goes_64 : decode cX12_goes 64 = .ok (.invokestatic 147, 3) := by decide +kernel
theorem dX12_goes_67 : decode cX12_goes 67 = .ok (.goto 4, 3) := by decide +kernel
theorem dX12_goes_70 : decode cX12_goes 70 = .ok (.iconst 0, 1) := by decide +kernel
theorem dX12_goes_71 : decode cX12_goes 71 = .ok (.iastore, 1) := by decide +kernel
theorem dX12_goes_72 : decode cX12_goes 72 = .ok (.aload_n 0, 1) := by decide +kernel
theorem dX12_goes_73 : decode cX12_goes 73 = .ok (.getfield 28, 3) := by decide +kernel
theorem dX12_goes_76 : decode cX12_goes 76 = .ok (.iload_n 3, 1) := by decide +kernel
theorem dX12_goes_77 : decode cX12_goes 77 = .ok (.dup2, 1) := by decide +kernel
theorem dX12_goes_78 : decode cX12_goes 78 = .ok (.iaload, 1) := by decide +kernel
theorem dX12_goes_79 : decode cX12_goes 79 = .ok (.iload 4, 2) := by decide +kernel
theorem dX12_goes_81 : decode cX12_goes 81 = .ok (.ifCond .eq 7, 3) := by decide +kernel
theorem dX12_goes_84 : decode cX12_goes 84 = .ok (.iconst 1, 1) := by decide +kernel
theorem dX12_goes_85 : decode cX12_goes 85 = .ok (.goto 4, 3) := by decide +kernel
theorem dX12_goes_88 : decode cX12_goes 88 = .ok (.iconst 0, 1) := by decide +kernel
theorem dX12_goes_89 : decode cX12_goes 89 = .ok (.iadd, 1) := by decide +kernel
theorem dX12_goes_90 : decode cX12_goes 90 = .ok (.iastore, 1) := by decide +kernel
theorem dX12_goes_91 : decode cX12_goes 91 = .ok (.aload_n 0, 1) := by decide +kernel
theorem dX12_goes_92 : decode cX12_goes 92 = .ok (.iload_n 3, 1) := by decide +kernel
theorem dX12_goes_93 : decode cX12_goes 93 = .ok (.iload_n 2, 1) := by decide +kernel
theorem dX12_goes_94 : decode cX12_goes 94 = .ok (.invokevirtual 167, 3) := by decide +kernel
theorem dX12_goes_97 : decode cX12_goes 97 = .ok (.aload_n 0, 1) := by decide +kernel
theorem dX12_goes_98 : decode cX12_goes 98 = .ok (.getfield 9, 3) := by decide +kernel
theorem dX12_goes_101 : decode cX12_goes 101 = .ok (.iconst 1, 1) := by decide +kernel
theorem dX12_goes_102 : decode cX12_goes 102 = .ok (.iload_n 3, 1) := by decide +kernel
theorem dX12_goes_103 : decode cX12_goes 103 = .ok (.iadd, 1) := by decide +kernel
theorem dX12_goes_104 : decode cX12_goes 104 = .ok (.iaload, 1) := by decide +kernel
theorem dX12_goes_105 : decode cX12_goes 105 = .ok (.aload_n 0, 1) := by decide +kernel
theorem dX12_goes_106 : decode cX12_goes 106 = .ok (.sipush 233, 3) := by decide +kernel
theorem dX12_goes_109 : decode cX12_goes 109 = .ok (.iconst 0, 1) := by decide +kernel
theorem dX12_goes_110 : decode cX12_goes 110 = .ok (.invokevirtual 130, 3) := by decide +kernel
theorem dX12_goes_113 : decode cX12_goes 113 = .ok (.iconst 1, 1) := by decide +kernel
theorem dX12_goes_114 : decode cX12_goes 114 = .ok (.if_icmp .ne 10, 3) := by decide +kernel
theorem dX12_goes_117 : decode cX12_goes 117 = .ok (.aload_n 0, 1) := by decide +kernel
theorem dX12_goes_118 : decode cX12_goes 118 = .ok (.getfield 124, 3) := by decide +kernel
theorem dX12_goes_121 : decode cX12_goes 121 = .ok (.goto 4, 3) := by decide +kernel
theorem dX12_goes_124 : decode cX12_goes 124 = .ok (.iconst 2, 1) := by decide +kernel
theorem dX12_goes_125 : decode cX12_goes 125 = .ok (.iadd, 1) := by decide +kernel
theorem dX12_goes_126 : decode cX12_goes 126 = .ok (.istore 5, 2) := by decide +kernel
theorem dX12_goes_128 : decode cX12_goes 128 = .ok (.aload_n 0, 1) := by decide +kernel
theorem dX12_goes_129 : decode cX12_goes 129 = .ok (.sipush 238, 3) := by decide +kernel
theorem dX12_goes_132 : decode cX12_goes 132 = .ok (.iconst 0, 1) := by decide +kernel
theorem dX12_goes_133 : decode cX12_goes 133 = .ok (.invokevirtual 130, 3) := by decide +kernel
theorem dX12_goes_136 : decode cX12_goes 136 = .ok (.iconst 1, 1) := by decide +kernel
theorem dX12_goes_137 : decode cX12_goes 137 = .ok (.if_icmp .ne 10, 3) := by decide +kernel
theorem dX12_goes_140 : decode cX12_goes 140 = .ok (.aload_n 0, 1) := by decide +kernel
theorem dX12_goes_141 : decode cX12_goes 141 = .ok (.getfield 127, 3) := by decide +kernel
theorem dX12_goes_144 : decode cX12_goes 144 = .ok (.goto 21, 3) := by decide +kernel
theorem dX12_goes_147 : decode cX12_goes 147 = .ok (.bipush 6, 2) := by decide +kernel
theorem dX12_goes_149 : decode cX12_goes 149 = .ok (.aload_n 0, 1) := by decide +kernel
theorem dX12_goes_150 : decode cX12_goes 150 = .ok (.getfield 9, 3) := by decide +kernel
theorem dX12_goes_153 : decode cX12_goes 153 = .ok (.bipush 7, 2) := by decide +kernel
theorem dX12_goes_155 : decode cX12_goes 155 = .ok (.iload_n 3, 1) := by decide +kernel
theorem dX12_goes_156 : decode cX12_goes 156 = .ok (.iadd, 1) := by decide +kernel
theorem dX12_goes_157 : decode cX12_goes 157 = .ok (.iaload, 1) := by decide +kernel
theorem dX12_goes_158 : decode cX12_goes 158 = .ok (.isub, 1) := by decide +kernel
theorem dX12_goes_159 : decode cX12_goes 159 = .ok (.iconst 1, 1) := by decide +kernel
theorem dX12_goes_160 : decode cX12_goes 160 = .ok (.bipush 6, 2) := by decide +kernel
theorem dX12_goes_162 : decode cX12_goes 162 = .ok (.invokestatic 147, 3) := by decide +kernel
theorem dX12_goes_165 : decode cX12_goes 165 = .ok (.istore 6, 2) := by decide +kernel
theorem dX12_goes_167 : decode cX12_goes 167 = .ok (.aload_n 0, 1) := by decide +kernel
theorem dX12_goes_168 : decode cX12_goes 168 = .ok (.getfield 9, 3) := by decide +kernel
theorem dX12_goes_171 : decode cX12_goes 171 = .ok (.iconst 1, 1) := by decide +kernel
theorem dX12_goes_172 : decode cX12_goes 172 = .ok (.iload_n 3, 1) := by decide +kernel
theorem dX12_goes_173 : decode cX12_goes 173 = .ok (.iadd, 1) := by decide +kernel
theorem dX12_goes_174 : decode cX12_goes 174 = .ok (.iload 4, 2) := by decide +kernel
theorem dX12_goes_176 : decode cX12_goes 176 = .ok (.ifCond .eq 11, 3) := by decide +kernel
theorem dX12_goes_179 : decode cX12_goes 179 = .ok (.iload 5, 2) := by decide +kernel
theorem dX12_goes_181 : decode cX12_goes 181 = .ok (.iload 6, 2) := by decide +kernel
theorem dX12_goes_183 : decode cX12_goes 183 = .ok (.isub, 1) := by decide +kernel
theorem dX12_goes_184 : decode cX12_goes 184 = .ok (.goto 5, 3) := by decide +kernel
theorem dX12_goes_187 : decode cX12_goes 187 = .ok (.iload 5, 2) := by decide +kernel
theorem dX12_goes_189 : decode cX12_goes 189 = .ok (.iconst 0, 1) := by decide +kernel
theorem dX12_goes_190 : decode cX12_goes 190 = .ok (.bipush 99, 2) := by decide +kernel
theorem dX12_goes_192 : decode cX12_goes 192 = .ok (.invokestatic 147, 3) := by decide +kernel
theorem dX12_goes_195 : decode cX12_goes 195 = .ok (.iastore, 1) := by decide +kernel
theorem dX12_goes_196 : decode cX12_goes 196 = .ok (.iinc 3 1, 3) := by decide +kernel
theorem dX12_goes_199 : decode cX12_goes 199 = .ok (.goto (-197), 3) := by decide +kernel
theorem dX12_goes_202 : decode cX12_goes 202 = .ok (.aload_n 0, 1) := by decide +kernel
theorem dX12_goes_203 : decode cX12_goes 203 = .ok (.getfield 9, 3) := by decide +kernel
theorem dX12_goes_206 : decode cX12_goes 206 = .ok (.iconst 0, 1) := by decide +kernel
theorem dX12_goes_207 : decode cX12_goes 207 = .ok (.dup2, 1) := by decide +kernel
theorem dX12_goes_208 : decode cX12_goes 208 = .ok (.iaload, 1) := by decide +kernel
theorem dX12_goes_209 : decode cX12_goes 209 = .ok (.iconst 1, 1) := by decide +kernel
theorem dX12_goes_210 : decode cX12_goes 210 = .ok (.iadd, 1) := by decide +kernel
theorem dX12_goes_211 : decode cX12_goes 211 = .ok (.iastore, 1) := by decide +kernel
theorem dX12_goes_212 : decode cX12_goes 212 = .ok (.return_, 1) := by decide +kernel
theorem dX12_onMany_0 : decode cX12_onMany 0 = .ok (.iconst 0, 1) := by decide +kernel
theorem dX12_onMany_1 : decode cX12_onMany 1 = .ok (.istore_n 1, 1) := by decide +kernel
theorem dX12_onMany_2 : decode cX12_onMany 2 = .ok (.iconst 0, 1) := by decide +kernel
theorem dX12_onMany_3 : decode cX12_onMany 3 = .ok (.istore_n 2, 1) := by decide +kernel
theorem dX12_onMany_4 : decode cX12_onMany 4 = .ok (.iload_n 2, 1) := by decide +kernel
theorem dX12_onMany_5 : decode cX12_onMany 5 = .ok (.aload_n 0, 1) := by decide +kernel
theorem dX12_onMany_6 : decode cX12_onMany 6 = .ok (.getfield 9, 3) := by decide +kernel
theorem dX12_onMany_9 : decode cX12_onMany 9 = .ok (.bipush 13, 2) := by decide +kernel
theorem dX12_onMany_11 : decode cX12_onMany 11 = .ok (.iaload, 1) := by decide +kernel
theorem dX12_onMany_12 : decode cX12_onMany 12 = .ok (.if_icmp .ge 21, 3) := by decide +kernel
theorem dX12_onMany_15 : decode cX12_onMany 15 = .ok (.iload_n 1, 1) := by decide +kernel
theorem dX12_onMany_16 : decode cX12_onMany 16 = .ok (.aload_n 0, 1) := by decide +kernel
theorem dX12_onMany_17 : decode cX12_onMany 17 = .ok (.getfield 9, 3) := by decide +kernel
theorem dX12_onMany_20 : decode cX12_onMany 20 = .ok (.bipush 42, 2) := by decide +kernel
theorem dX12_onMany_22 : decode cX12_onMany 22 = .ok (.iload_n 2, 1) := by decide +kernel
theorem dX12_onMany_23 : decode cX12_onMany 23 = .ok (.iadd, 1) := by decide +kernel
theorem dX12_onMany_24 : decode cX12_onMany 24 = .ok (.iaload, 1) := by decide +kernel
theorem dX12_onMany_25 : decode cX12_onMany 25 = .ok (.iadd, 1) := by decide +kernel
theorem dX12_onMany_26 : decode cX12_onMany 26 = .ok (.istore_n 1, 1) := by decide +kernel
theorem dX12_onMany_27 : decode cX12_onMany 27 = .ok (.iinc 2 1, 3) := by decide +kernel
theorem dX12_onMany_30 : decode cX12_onMany 30 = .ok (.goto (-26), 3) := by decide +kernel
theorem dX12_onMany_33 : decode cX12_onMany 33 = .ok (.iload_n 1, 1) := by decide +kernel
theorem dX12_onMany_34 : decode cX12_onMany 34 = .ok (.ireturn, 1) := by decide +kernel
theorem dX12_reachedNow_0 : decode cX12_reachedNow 0 = .ok (.iconst 0, 1) := by decide +kernel
theorem dX12_reachedNow_1 : decode cX12_reachedNow 1 = .ok (.istore_n 1, 1) := by decide +kernel
theorem dX12_reachedNow_2 : decode cX12_reachedNow 2 = .ok (.iconst 0, 1) := by decide +kernel
theorem dX12_reachedNow_3 : decode cX12_reachedNow 3 = .ok (.istore_n 2, 1) := by decide +kernel
theorem dX12_reachedNow_4 : decode cX12_reachedNow 4 = .ok (.iload_n 2, 1) := by decide +kernel
theorem dX12_reachedNow_5 : decode cX12_reachedNow 5 = .ok (.aload_n 0, 1) := by decide +kernel
theorem dX12_reachedNow_6 : decode cX12_reachedNow 6 = .ok (.getfield 9, 3) := by decide +kernel
theorem dX12_reachedNow_9 : decode cX12_reachedNow 9 = .ok (.bipush 13, 2) := by decide +kernel
theorem dX12_reachedNow_11 : decode cX12_reachedNow 11 = .ok (.iaload, 1) := by decide +kernel
theorem dX12_reachedNow_12 : decode cX12_reachedNow 12 = .ok (.if_icmp .ge 40, 3) := by decide +kernel
theorem dX12_reachedNow_15 : decode cX12_reachedNow 15 = .ok (.iload_n 1, 1) := by decide +kernel
theorem dX12_reachedNow_16 : decode cX12_reachedNow 16 = .ok (.aload_n 0, 1) := by decide +kernel
theorem dX12_reachedNow_17 : decode cX12_reachedNow 17 = .ok (.getfield 9, 3) := by decide +kernel
theorem dX12_reachedNow_20 : decode cX12_reachedNow 20 = .ok (.bipush 42, 2) := by decide +kernel
theorem dX12_reachedNow_22 : decode cX12_reachedNow 22 = .ok (.iload_n 2, 1) := by decide +kernel
theorem dX12_reachedNow_23 : decode cX12_reachedNow 23 = .ok (.iadd, 1) := by decide +kernel
theorem dX12_reachedNow_24 : decode cX12_reachedNow 24 = .ok (.iaload, 1) := by decide +kernel
theorem dX12_reachedNow_25 : decode cX12_reachedNow 25 = .ok (.iconst 1, 1) := by decide +kernel
theorem dX12_reachedNow_26 : decode cX12_reachedNow 26 = .ok (.if_icmp .ne 17, 3) := by decide +kernel
theorem dX12_reachedNow_29 : decode cX12_reachedNow 29 = .ok (.aload_n 0, 1) := by decide +kernel
theorem dX12_reachedNow_30 : decode cX12_reachedNow 30 = .ok (.iload_n 2, 1) := by decide +kernel
theorem dX12_reachedNow_31 : decode cX12_reachedNow 31 = .ok (.aload_n 0, 1) := by decide +kernel
theorem dX12_reachedNow_32 : decode cX12_reachedNow 32 = .ok (.getfield 9, 3) := by decide +kernel
theorem dX12_reachedNow_35 : decode cX12_reachedNow 35 = .ok (.iconst 0, 1) := by decide +kernel
theorem dX12_reachedNow_36 : decode cX12_reachedNow 36 = .ok (.iaload, 1) := by decide +kernel
theorem dX12_reachedNow_37 : decode cX12_reachedNow 37 = .ok (.invokevirtual 154, 3) := by decide +kernel
theorem dX12_reachedNow_40 : decode cX12_reachedNow 40 = .ok (.goto 4, 3) := by decide +kernel
theorem dX12_reachedNow_43 : decode cX12_reachedNow 43 = .ok (.iconst 0, 1) := by decide +kernel
theorem dX12_reachedNow_44 : decode cX12_reachedNow 44 = .ok (.ior, 1) := by decide +kernel
theorem dX12_reachedNow_45 : decode cX12_reachedNow 45 = .ok (.istore_n 1, 1) := by decide +kernel
theorem dX12_reachedNow_46 : decode cX12_reachedNow 46 = .ok (.iinc 2 1, 3) := by decide +kernel
theorem dX12_reachedNow_49 : decode cX12_reachedNow 49 = .ok (.goto (-45), 3) := by decide +kernel
theorem dX12_reachedNow_52 : decode cX12_reachedNow 52 = .ok (.iload_n 1, 1) := by decide +kernel
theorem dX12_reachedNow_53 : decode cX12_reachedNow 53 = .ok (.ireturn, 1) := by decide +kernel
theorem dX12_goesOn_0 : decode cX12_goesOn 0 = .ok (.iconst 0, 1) := by decide +kernel
theorem dX12_goesOn_1 : decode cX12_goesOn 1 = .ok (.istore_n 2, 1) := by decide +kernel
theorem dX12_goesOn_2 : decode cX12_goesOn 2 = .ok (.iload_n 2, 1) := by decide +kernel
theorem dX12_goesOn_3 : decode cX12_goesOn 3 = .ok (.bipush 6, 2) := by decide +kernel
theorem dX12_goesOn_5 : decode cX12_goesOn 5 = .ok (.if_icmp .ge 16, 3) := by decide +kernel
theorem dX12_goesOn_8 : decode cX12_goesOn 8 = .ok (.aload_n 0, 1) := by decide +kernel
theorem dX12_goesOn_9 : decode cX12_goesOn 9 = .ok (.getfield 28, 3) := by decide +kernel
theorem dX12_goesOn_12 : decode cX12_goesOn 12 = .ok (.iload_n 2, 1) := by decide +kernel
theorem dX12_goesOn_13 : decode cX12_goesOn 13 = .ok (.iconst 0, 1) := by decide +kernel
theorem dX12_goesOn_14 : decode cX12_goesOn 14 = .ok (.iastore, 1) := by decide +kernel
theorem dX12_goesOn_15 : decode cX12_goesOn 15 = .ok (.iinc 2 1, 3) := by decide +kernel
theorem dX12_goesOn_18 : decode cX12_goesOn 18 = .ok (.goto (-16), 3) := by decide +kernel
theorem dX12_goesOn_21 : decode cX12_goesOn 21 = .ok (.iconst 0, 1) := by decide +kernel
theorem dX12_goesOn_22 : decode cX12_goesOn 22 = .ok (.istore_n 2, 1) := by decide +kernel
theorem dX12_goesOn_23 : decode cX12_goesOn 23 = .ok (.iload_n 2, 1) := by decide +kernel
theorem dX12_goesOn_24 : decode cX12_goesOn 24 = .ok (.iload_n 1, 1) := by decide +kernel
theorem dX12_goesOn_25 : decode cX12_goesOn 25 = .ok (.if_icmp .ge 21, 3) := by decide +kernel
theorem dX12_goesOn_28 : decode cX12_goesOn 28 = .ok (.aload_n 0, 1) := by decide +kernel
theorem dX12_goesOn_29 : decode cX12_goesOn 29 = .ok (.aload_n 0, 1) := by decide +kernel
theorem dX12_goesOn_30 : decode cX12_goesOn 30 = .ok (.invokevirtual 171, 3) := by decide +kernel
theorem dX12_goesOn_33 : decode cX12_goesOn 33 = .ok (.aload_n 0, 1) := by decide +kernel
theorem dX12_goesOn_34 : decode cX12_goesOn 34 = .ok (.invokevirtual 174, 3) := by decide +kernel
theorem dX12_goesOn_37 : decode cX12_goesOn 37 = .ok (.invokevirtual 177, 3) := by decide +kernel
theorem dX12_goesOn_40 : decode cX12_goesOn 40 = .ok (.iinc 2 1, 3) := by decide +kernel
theorem dX12_goesOn_43 : decode cX12_goesOn 43 = .ok (.goto (-20), 3) := by decide +kernel
theorem dX12_goesOn_46 : decode cX12_goesOn 46 = .ok (.return_, 1) := by decide +kernel
theorem dX12_go_0 : decode cX12_go 0 = .ok (.iload_n 1, 1) := by decide +kernel
theorem dX12_go_1 : decode cX12_go 1 = .ok (.iconst 0, 1) := by decide +kernel
theorem dX12_go_2 : decode cX12_go 2 = .ok (.bipush 60, 2) := by decide +kernel
theorem dX12_go_4 : decode cX12_go 4 = .ok (.invokestatic 41, 3) := by decide +kernel
theorem dX12_go_7 : decode cX12_go 7 = .ok (.ifCond .ne 6, 3) := by decide +kernel
theorem dX12_go_10 : decode cX12_go 10 = .ok (.bipush (-2), 2) := by decide +kernel
theorem dX12_go_12 : decode cX12_go 12 = .ok (.ireturn, 1) := by decide +kernel
theorem dX12_go_13 : decode cX12_go 13 = .ok (.aload_n 0, 1) := by decide +kernel
theorem dX12_go_14 : decode cX12_go 14 = .ok (.getfield 9, 3) := by decide +kernel
theorem dX12_go_17 : decode cX12_go 17 = .ok (.iconst 0, 1) := by decide +kernel
theorem dX12_go_18 : decode cX12_go 18 = .ok (.iaload, 1) := by decide +kernel
theorem dX12_go_19 : decode cX12_go 19 = .ok (.iload_n 1, 1) := by decide +kernel
theorem dX12_go_20 : decode cX12_go 20 = .ok (.iadd, 1) := by decide +kernel
theorem dX12_go_21 : decode cX12_go 21 = .ok (.ldc 180, 2) := by decide +kernel
theorem dX12_go_23 : decode cX12_go 23 = .ok (.if_icmp .le 6, 3) := by decide +kernel
theorem dX12_go_26 : decode cX12_go 26 = .ok (.bipush (-3), 2) := by decide +kernel
theorem dX12_go_28 : decode cX12_go 28 = .ok (.ireturn, 1) := by decide +kernel
theorem dX12_go_29 : decode cX12_go 29 = .ok (.aload_n 0, 1) := by decide +kernel
theorem dX12_go_30 : decode cX12_go 30 = .ok (.iload_n 1, 1) := by decide +kernel
theorem dX12_go_31 : decode cX12_go 31 = .ok (.invokevirtual 181, 3) := by decide +kernel
theorem dX12_go_34 : decode cX12_go 34 = .ok (.aload_n 0, 1) := by decide +kernel
theorem dX12_go_35 : decode cX12_go 35 = .ok (.getfield 9, 3) := by decide +kernel
theorem dX12_go_38 : decode cX12_go 38 = .ok (.iconst 0, 1) := by decide +kernel
theorem dX12_go_39 : decode cX12_go 39 = .ok (.iaload, 1) := by decide +kernel
theorem dX12_go_40 : decode cX12_go 40 = .ok (.ireturn, 1) := by decide +kernel
theorem dX12_is_0 : decode cX12_is 0 = .ok (.aload_n 0, 1) := by decide +kernel
theorem dX12_is_1 : decode cX12_is 1 = .ok (.iload_n 1, 1) := by decide +kernel
theorem dX12_is_2 : decode cX12_is 2 = .ok (.invokevirtual 151, 3) := by decide +kernel
theorem dX12_is_5 : decode cX12_is 5 = .ok (.ifCond .ne 5, 3) := by decide +kernel
theorem dX12_is_8 : decode cX12_is 8 = .ok (.iconst (-1), 1) := by decide +kernel
theorem dX12_is_9 : decode cX12_is 9 = .ok (.ireturn, 1) := by decide +kernel
theorem dX12_is_10 : decode cX12_is 10 = .ok (.iload_n 2, 1) := by decide +kernel
theorem dX12_is_11 : decode cX12_is 11 = .ok (.iconst 0, 1) := by decide +kernel
theorem dX12_is_12 : decode cX12_is 12 = .ok (.sipush 9999, 3) := by decide +kernel
theorem dX12_is_15 : decode cX12_is 15 = .ok (.invokestatic 41, 3) := by decide +kernel
theorem dX12_is_18 : decode cX12_is 18 = .ok (.ifCond .eq 12, 3) := by decide +kernel
theorem dX12_is_21 : decode cX12_is 21 = .ok (.aload_n 0, 1) := by decide +kernel
theorem dX12_is_22 : decode cX12_is 22 = .ok (.iload_n 1, 1) := by decide +kernel
theorem dX12_is_23 : decode cX12_is 23 = .ok (.iload_n 2, 1) := by decide +kernel
theorem dX12_is_24 : decode cX12_is 24 = .ok (.invokevirtual 144, 3) := by decide +kernel
theorem dX12_is_27 : decode cX12_is 27 = .ok (.goto 5, 3) := by decide +kernel
theorem dX12_is_30 : decode cX12_is 30 = .ok (.bipush (-2), 2) := by decide +kernel
theorem dX12_is_32 : decode cX12_is 32 = .ok (.ireturn, 1) := by decide +kernel
theorem dX12_greatest_0 : decode cX12_greatest 0 = .ok (.iconst 0, 1) := by decide +kernel
theorem dX12_greatest_1 : decode cX12_greatest 1 = .ok (.istore_n 1, 1) := by decide +kernel
theorem dX12_greatest_2 : decode cX12_greatest 2 = .ok (.iconst 0, 1) := by decide +kernel
theorem dX12_greatest_3 : decode cX12_greatest 3 = .ok (.istore_n 2, 1) := by decide +kernel
theorem dX12_greatest_4 : decode cX12_greatest 4 = .ok (.iload_n 2, 1) := by decide +kernel
theorem dX12_greatest_5 : decode cX12_greatest 5 = .ok (.aload_n 0, 1) := by decide +kernel
theorem dX12_greatest_6 : decode cX12_greatest 6 = .ok (.getfield 9, 3) := by decide +kernel
theorem dX12_greatest_9 : decode cX12_greatest 9 = .ok (.bipush 14, 2) := by decide +kernel
theorem dX12_greatest_11 : decode cX12_greatest 11 = .ok (.iaload, 1) := by decide +kernel
theorem dX12_greatest_12 : decode cX12_greatest 12 = .ok (.if_icmp .ge 34, 3) := by decide +kernel
theorem dX12_greatest_15 : decode cX12_greatest 15 = .ok (.aload_n 0, 1) := by decide +kernel
theorem dX12_greatest_16 : decode cX12_greatest 16 = .ok (.getfield 9, 3) := by decide +kernel
theorem dX12_greatest_19 : decode cX12_greatest 19 = .ok (.iconst 1, 1) := by decide +kernel
theorem dX12_greatest_20 : decode cX12_greatest 20 = .ok (.iload_n 2, 1) := by decide +kernel
theorem dX12_greatest_21 : decode cX12_greatest 21 = .ok (.iadd, 1) := by decide +kernel
theorem dX12_greatest_22 : decode cX12_greatest 22 = .ok (.iaload, 1) := by decide +kernel
theorem dX12_greatest_23 : decode cX12_greatest 23 = .ok (.iload_n 1, 1) := by decide +kernel
theorem dX12_greatest_24 : decode cX12_greatest 24 = .ok (.if_icmp .le 14, 3) := by decide +kernel
theorem dX12_greatest_27 : decode cX12_greatest 27 = .ok (.aload_n 0, 1) := by decide +kernel
theorem dX12_greatest_28 : decode cX12_greatest 28 = .ok (.getfield 9, 3) := by decide +kernel
theorem dX12_greatest_31 : decode cX12_greatest 31 = .ok (.iconst 1, 1) := by decide +kernel
theorem dX12_greatest_32 : decode cX12_greatest 32 = .ok (.iload_n 2, 1) := by decide +kernel
theorem dX12_greatest_33 : decode cX12_greatest 33 = .ok (.iadd, 1) := by decide +kernel
theorem dX12_greatest_34 : decode cX12_greatest 34 = .ok (.iaload, 1) := by decide +kernel
theorem dX12_greatest_35 : decode cX12_greatest 35 = .ok (.goto 4, 3) := by decide +kernel
theorem dX12_greatest_38 : decode cX12_greatest 38 = .ok (.iload_n 1, 1) := by decide +kernel
theorem dX12_greatest_39 : decode cX12_greatest 39 = .ok (.istore_n 1, 1) := by decide +kernel
theorem dX12_greatest_40 : decode cX12_greatest 40 = .ok (.iinc 2 1, 3) := by decide +kernel
theorem dX12_greatest_43 : decode cX12_greatest 43 = .ok (.goto (-39), 3) := by decide +kernel
theorem dX12_greatest_46 : decode cX12_greatest 46 = .ok (.iload_n 1, 1) := by decide +kernel
theorem dX12_greatest_47 : decode cX12_greatest 47 = .ok (.ireturn, 1) := by decide +kernel
theorem dX12_allHeat_0 : decode cX12_allHeat 0 = .ok (.iconst 0, 1) := by decide +kernel
theorem dX12_allHeat_1 : decode cX12_allHeat 1 = .ok (.istore_n 1, 1) := by decide +kernel
theorem dX12_allHeat_2 : decode cX12_allHeat 2 = .ok (.iconst 0, 1) := by decide +kernel
theorem dX12_allHeat_3 : decode cX12_allHeat 3 = .ok (.istore_n 2, 1) := by decide +kernel
theorem dX12_allHeat_4 : decode cX12_allHeat 4 = .ok (.iload_n 2, 1) := by decide +kernel
theorem dX12_allHeat_5 : decode cX12_allHeat 5 = .ok (.aload_n 0, 1) := by decide +kernel
theorem dX12_allHeat_6 : decode cX12_allHeat 6 = .ok (.getfield 9, 3) := by decide +kernel
theorem dX12_allHeat_9 : decode cX12_allHeat 9 = .ok (.bipush 14, 2) := by decide +kernel
theorem dX12_allHeat_11 : decode cX12_allHeat 11 = .ok (.iaload, 1) := by decide +kernel
theorem dX12_allHeat_12 : decode cX12_allHeat 12 = .ok (.if_icmp .ge 20, 3) := by decide +kernel
theorem dX12_allHeat_15 : decode cX12_allHeat 15 = .ok (.iload_n 1, 1) := by decide +kernel
theorem dX12_allHeat_16 : decode cX12_allHeat 16 = .ok (.aload_n 0, 1) := by decide +kernel
theorem dX12_allHeat_17 : decode cX12_allHeat 17 = .ok (.getfield 9, 3) := by decide +kernel
theorem dX12_allHeat_20 : decode cX12_allHeat 20 = .ok (.iconst 1, 1) := by decide +kernel
theorem dX12_allHeat_21 : decode cX12_allHeat 21 = .ok (.iload_n 2, 1) := by decide +kernel
theorem dX12_allHeat_22 : decode cX12_allHeat 22 = .ok (.iadd, 1) := by decide +kernel
theorem dX12_allHeat_23 : decode cX12_allHeat 23 = .ok (.iaload, 1) := by decide +kernel
theorem dX12_allHeat_24 : decode cX12_allHeat 24 = .ok (.iadd, 1) := by decide +kernel
theorem dX12_allHeat_25 : decode cX12_allHeat 25 = .ok (.istore_n 1, 1) := by decide +kernel
theorem dX12_allHeat_26 : decode cX12_allHeat 26 = .ok (.iinc 2 1, 3) := by decide +kernel
theorem dX12_allHeat_29 : decode cX12_allHeat 29 = .ok (.goto (-25), 3) := by decide +kernel
theorem dX12_allHeat_32 : decode cX12_allHeat 32 = .ok (.iload_n 1, 1) := by decide +kernel
theorem dX12_allHeat_33 : decode cX12_allHeat 33 = .ok (.ireturn, 1) := by decide +kernel
theorem dX12_then_0 : decode cX12_then 0 = .ok (.iload_n 2, 1) := by decide +kernel
theorem dX12_then_1 : decode cX12_then 1 = .ok (.iconst 0, 1) := by decide +kernel
theorem dX12_then_2 : decode cX12_then 2 = .ok (.iconst 1, 1) := by decide +kernel
theorem dX12_then_3 : decode cX12_then 3 = .ok (.invokestatic 41, 3) := by decide +kernel
theorem dX12_then_6 : decode cX12_then 6 = .ok (.ifCond .ne 27, 3) := by decide +kernel
theorem dX12_then_9 : decode cX12_then 9 = .ok (.aload_n 0, 1) := by decide +kernel
theorem dX12_then_10 : decode cX12_then 10 = .ok (.iload_n 2, 1) := by decide +kernel
theorem dX12_then_11 : decode cX12_then 11 = .ok (.bipush 10, 2) := by decide +kernel
theorem dX12_then_13 : decode cX12_then 13 = .ok (.isub, 1) := by decide +kernel
theorem dX12_then_14 : decode cX12_then 14 = .ok (.invokevirtual 157, 3) := by decide +kernel
theorem dX12_then_17 : decode cX12_then 17 = .ok (.ifCond .ne 16, 3) := by decide +kernel
theorem dX12_then_20 : decode cX12_then 20 = .ok (.aload_n 0, 1) := by decide +kernel
theorem dX12_then_21 : decode cX12_then 21 = .ok (.iload_n 2, 1) := by decide +kernel
theorem dX12_then_22 : decode cX12_then 22 = .ok (.bipush 20, 2) := by decide +kernel
theorem dX12_then_24 : decode cX12_then 24 = .ok (.isub, 1) := by decide +kernel
theorem dX12_then_25 : decode cX12_then 25 = .ok (.invokevirtual 157, 3) := by decide +kernel
theorem dX12_then_28 : decode cX12_then 28 = .ok (.ifCond .ne 5, 3) := by decide +kernel
theorem dX12_then_31 : decode cX12_then 31 = .ok (.iconst (-1), 1) := by decide +kernel
theorem dX12_then_32 : decode cX12_then 32 = .ok (.ireturn, 1) := by decide +kernel
theorem dX12_then_33 : decode cX12_then 33 = .ok (.iload_n 1, 1) := by decide +kernel
theorem dX12_then_34 : decode cX12_then 34 = .ok (.iconst 0, 1) := by decide +kernel
theorem dX12_then_35 : decode cX12_then 35 = .ok (.bipush 60, 2) := by decide +kernel
theorem dX12_then_37 : decode cX12_then 37 = .ok (.invokestatic 41, 3) := by decide +kernel
theorem dX12_then_40 : decode cX12_then 40 = .ok (.ifCond .ne 6, 3) := by decide +kernel
theorem dX12_then_43 : decode cX12_then 43 = .ok (.bipush (-2), 2) := by decide +kernel
theorem dX12_then_45 : decode cX12_then 45 = .ok (.ireturn, 1) := by decide +kernel
theorem dX12_then_46 : decode cX12_then 46 = .ok (.aload_n 0, 1) := by decide +kernel
theorem dX12_then_47 : decode cX12_then 47 = .ok (.invokevirtual 184, 3) := by decide +kernel
theorem dX12_then_50 : decode cX12_then 50 = .ok (.aload_n 0, 1) := by decide +kernel
theorem dX12_then_51 : decode cX12_then 51 = .ok (.iload_n 1, 1) := by decide +kernel
theorem dX12_then_52 : decode cX12_then 52 = .ok (.invokevirtual 181, 3) := by decide +kernel
theorem dX12_then_55 : decode cX12_then 55 = .ok (.iload_n 2, 1) := by decide +kernel
theorem dX12_then_56 : decode cX12_then 56 = .ok (.ifCond .ne 10, 3) := by decide +kernel
theorem dX12_then_59 : decode cX12_then 59 = .ok (.aload_n 0, 1) := by decide +kernel
theorem dX12_then_60 : decode cX12_then 60 = .ok (.invokevirtual 187, 3) := by decide +kernel
theorem dX12_then_63 : decode cX12_then 63 = .ok (.goto 44, 3) := by decide +kernel
theorem dX12_then_66 : decode cX12_then 66 = .ok (.iload_n 2, 1) := by decide +kernel
theorem dX12_then_67 : decode cX12_then 67 = .ok (.iconst 1, 1) := by decide +kernel
theorem dX12_then_68 : decode cX12_then 68 = .ok (.if_icmp .ne 10, 3) := by decide +kernel
theorem dX12_then_71 : decode cX12_then 71 = .ok (.aload_n 0, 1) := by decide +kernel
theorem dX12_then_72 : decode cX12_then 72 = .ok (.invokevirtual 190, 3) := by decide +kernel
theorem dX12_then_75 : decode cX12_then 75 = .ok (.goto 32, 3) := by decide +kernel
theorem dX12_then_78 : decode cX12_then 78 = .ok (.iload_n 2, 1) := by decide +kernel
theorem dX12_then_79 : decode cX12_then 79 = .ok (.bipush 20, 2) := by decide +kernel
theorem dX12_then_81 : decode cX12_then 81 = .ok (.if_icmp .ge 17, 3) := by decide +kernel
theorem dX12_then_84 : decode cX12_then 84 = .ok (.aload_n 0, 1) := by decide +kernel
theorem dX12_then_85 : decode cX12_then 85 = .ok (.getfield 9, 3) := by decide +kernel
theorem dX12_then_88 : decode cX12_then 88 = .ok (.iconst 1, 1) := by decide +kernel
theorem dX12_then_89 : decode cX12_then 89 = .ok (.iload_n 2, 1) := by decide +kernel
theorem dX12_then_90 : decode cX12_then 90 = .ok (.iadd, 1) := by decide +kernel
theorem dX12_then_91 : decode cX12_then 91 = .ok (.bipush 10, 2) := by decide +kernel
theorem dX12_then_93 : decode cX12_then 93 = .ok (.isub, 1) := by decide +kernel
theorem dX12_then_94 : decode cX12_then 94 = .ok (.iaload, 1) := by decide +kernel
theorem dX12_then_95 : decode cX12_then 95 = .ok (.goto 12, 3) := by decide +kernel
theorem dX12_then_98 : decode cX12_then 98 = .ok (.aload_n 0, 1) := by decide +kernel
theorem dX12_then_99 : decode cX12_then 99 = .ok (.getfield 28, 3) := by decide +kernel
theorem dX12_then_102 : decode cX12_then 102 = .ok (.iload_n 2, 1) := by decide +kernel
theorem dX12_then_103 : decode cX12_then 103 = .ok (.bipush 20, 2) := by decide +kernel
theorem dX12_then_105 : decode cX12_then 105 = .ok (.isub, 1) := by decide +kernel
theorem dX12_then_106 : decode cX12_then 106 = .ok (.iaload, 1) := by decide +kernel
theorem dX12_then_107 : decode cX12_then 107 = .ok (.istore_n 3, 1) := by decide +kernel
theorem dX12_then_108 : decode cX12_then 108 = .ok (.aload_n 0, 1) := by decide +kernel
theorem dX12_then_109 : decode cX12_then 109 = .ok (.invokevirtual 193, 3) := by decide +kernel
theorem dX12_then_112 : decode cX12_then 112 = .ok (.iload_n 3, 1) := by decide +kernel
theorem dX12_then_113 : decode cX12_then 113 = .ok (.ireturn, 1) := by decide +kernel
theorem dX12_hottest_0 : decode cX12_hottest 0 = .ok (.iload_n 1, 1) := by decide +kernel
theorem dX12_hottest_1 : decode cX12_hottest 1 = .ok (.iconst 0, 1) := by decide +kernel
theorem dX12_hottest_2 : decode cX12_hottest 2 = .ok (.bipush 60, 2) := by decide +kernel
theorem dX12_hottest_4 : decode cX12_hottest 4 = .ok (.invokestatic 41, 3) := by decide +kernel
theorem dX12_hottest_7 : decode cX12_hottest 7 = .ok (.ifCond .ne 6, 3) := by decide +kernel
theorem dX12_hottest_10 : decode cX12_hottest 10 = .ok (.bipush (-2), 2) := by decide +kernel
theorem dX12_hottest_12 : decode cX12_hottest 12 = .ok (.ireturn, 1) := by decide +kernel
theorem dX12_hottest_13 : decode cX12_hottest 13 = .ok (.aload_n 0, 1) := by decide +kernel
theorem dX12_hottest_14 : decode cX12_hottest 14 = .ok (.invokevirtual 184, 3) := by decide +kernel
theorem dX12_hottest_17 : decode cX12_hottest 17 = .ok (.aload_n 0, 1) := by decide +kernel
theorem dX12_hottest_18 : decode cX12_hottest 18 = .ok (.iload_n 1, 1) := by decide +kernel
theorem dX12_hottest_19 : decode cX12_hottest 19 = .ok (.invokevirtual 181, 3) := by decide +kernel
theorem dX12_hottest_22 : decode cX12_hottest 22 = .ok (.aload_n 0, 1) := by decide +kernel
theorem dX12_hottest_23 : decode cX12_hottest 23 = .ok (.getfield 9, 3) := by decide +kernel
theorem dX12_hottest_26 : decode cX12_hottest 26 = .ok (.bipush 14, 2) := by decide +kernel
theorem dX12_hottest_28 : decode cX12_hottest 28 = .ok (.iaload, 1) := by decide +kernel
theorem dX12_hottest_29 : decode cX12_hottest 29 = .ok (.ifCond .ne 8, 3) := by decide +kernel
theorem dX12_hottest_32 : decode cX12_hottest 32 = .ok (.bipush (-5), 2) := by decide +kernel
theorem dX12_hottest_34 : decode cX12_hottest 34 = .ok (.goto 4, 3) := by decide +kernel
theorem dX12_hottest_37 : decode cX12_hottest 37 = .ok (.iconst 0, 1) := by decide +kernel
theorem dX12_hottest_38 : decode cX12_hottest 38 = .ok (.istore_n 2, 1) := by decide +kernel
theorem dX12_hottest_39 : decode cX12_hottest 39 = .ok (.iconst 1, 1) := by decide +kernel
theorem dX12_hottest_40 : decode cX12_hottest 40 = .ok (.istore_n 3, 1) := by decide +kernel
theorem dX12_hottest_41 : decode cX12_hottest 41 = .ok (.iload_n 3, 1) := by decide +kernel
theorem dX12_hottest_42 : decode cX12_hottest 42 = .ok (.aload_n 0, 1) := by decide +kernel
theorem dX12_hottest_43 : decode cX12_hottest 43 = .ok (.getfield 9, 3) := by decide +kernel
theorem dX12_hottest_46 : decode cX12_hottest 46 = .ok (.bipush 14, 2) := by decide +kernel
theorem dX12_hottest_48 : decode cX12_hottest 48 = .ok (.iaload, 1) := by decide +kernel
theorem dX12_hottest_49 : decode cX12_hottest 49 = .ok (.if_icmp .ge 34, 3) := by decide +kernel
theorem dX12_hottest_52 : decode cX12_hottest 52 = .ok (.aload_n 0, 1) := by decide +kernel
theorem dX12_hottest_53 : decode cX12_hottest 53 = .ok (.getfield 9, 3) := by decide +kernel
theorem dX12_hottest_56 : decode cX12_hottest 56 = .ok (.iconst 1, 1) := by decide +kernel
theorem dX12_hottest_57 : decode cX12_hottest 57 = .ok (.iload_n 3, 1) := by decide +kernel
theorem dX12_hottest_58 : decode cX12_hottest 58 = .ok (.iadd, 1) := by decide +kernel
theorem dX12_hottest_59 : decode cX12_hottest 59 = .ok (.iaload, 1) := by decide +kernel
theorem dX12_hottest_60 : decode cX12_hottest 60 = .ok (.aload_n 0, 1) := by decide +kernel
theorem dX12_hottest_61 : decode cX12_hottest 61 = .ok (.getfield 9, 3) := by decide +kernel
theorem dX12_hottest_64 : decode cX12_hottest 64 = .ok (.iconst 1, 1) := by decide +kernel
theorem dX12_hottest_65 : decode cX12_hottest 65 = .ok (.iload_n 2, 1) := by decide +kernel
theorem dX12_hottest_66 : decode cX12_hottest 66 = .ok (.iadd, 1) := by decide +kernel
theorem dX12_hottest_67 : decode cX12_hottest 67 = .ok (.iaload, 1) := by decide +kernel
theorem dX12_hottest_68 : decode cX12_hottest 68 = .ok (.if_icmp .le 7, 3) := by decide +kernel
theorem dX12_hottest_71 : decode cX12_hottest 71 = .ok (.iload_n 3, 1) := by decide +kernel
theorem dX12_hottest_72 : decode cX12_hottest 72 = .ok (.goto 4, 3) := by decide +kernel
theorem dX12_hottest_75 : decode cX12_hottest 75 = .ok (.iload_n 2, 1) := by decide +kernel
theorem dX12_hottest_76 : decode cX12_hottest 76 = .ok (.istore_n 2, 1) := by decide +kernel
theorem dX12_hottest_77 : decode cX12_hottest 77 = .ok (.iinc 3 1, 3) := by decide +kernel
theorem dX12_hottest_80 : decode cX12_hottest 80 = .ok (.goto (-39), 3) := by decide +kernel
theorem dX12_hottest_83 : decode cX12_hottest 83 = .ok (.aload_n 0, 1) := by decide +kernel
theorem dX12_hottest_84 : decode cX12_hottest 84 = .ok (.invokevirtual 193, 3) := by decide +kernel
theorem dX12_hottest_87 : decode cX12_hottest 87 = .ok (.iload_n 2, 1) := by decide +kernel
theorem dX12_hottest_88 : decode cX12_hottest 88 = .ok (.ireturn, 1) := by decide +kernel
theorem dX12_tooHot_0 : decode cX12_tooHot 0 = .ok (.aload_n 0, 1) := by decide +kernel
theorem dX12_tooHot_1 : decode cX12_tooHot 1 = .ok (.iload_n 1, 1) := by decide +kernel
theorem dX12_tooHot_2 : decode cX12_tooHot 2 = .ok (.invokevirtual 157, 3) := by decide +kernel
theorem dX12_tooHot_5 : decode cX12_tooHot 5 = .ok (.ifCond .ne 5, 3) := by decide +kernel
theorem dX12_tooHot_8 : decode cX12_tooHot 8 = .ok (.iconst (-1), 1) := by decide +kernel
theorem dX12_tooHot_9 : decode cX12_tooHot 9 = .ok (.ireturn, 1) := by decide +kernel
theorem dX12_tooHot_10 : decode cX12_tooHot 10 = .ok (.aload_n 0, 1) := by decide +kernel
theorem dX12_tooHot_11 : decode cX12_tooHot 11 = .ok (.invokevirtual 184, 3) := by decide +kernel
theorem dX12_tooHot_14 : decode cX12_tooHot 14 = .ok (.bipush (-5), 2) := by decide +kernel
theorem dX12_tooHot_16 : decode cX12_tooHot 16 = .ok (.istore_n 2, 1) := by decide +kernel
theorem dX12_tooHot_17 : decode cX12_tooHot 17 = .ok (.iconst 0, 1) := by decide +kernel
theorem dX12_tooHot_18 : decode cX12_tooHot 18 = .ok (.istore_n 3, 1) := by decide +kernel
theorem dX12_tooHot_19 : decode cX12_tooHot 19 = .ok (.iload_n 3, 1) := by decide +kernel
theorem dX12_tooHot_20 : decode cX12_tooHot 20 = .ok (.bipush 60, 2) := by decide +kernel
theorem dX12_tooHot_22 : decode cX12_tooHot 22 = .ok (.if_icmp .gt 54, 3) := by decide +kernel
theorem dX12_tooHot_25 : decode cX12_tooHot 25 = .ok (.iload_n 2, 1) := by decide +kernel
theorem dX12_tooHot_26 : decode cX12_tooHot 26 = .ok (.bipush (-5), 2) := by decide +kernel
theorem dX12_tooHot_28 : decode cX12_tooHot 28 = .ok (.if_icmp .ne 48, 3) := by decide +kernel
theorem dX12_tooHot_31 : decode cX12_tooHot 31 = .ok (.aload_n 0, 1) := by decide +kernel
theorem dX12_tooHot_32 : decode cX12_tooHot 32 = .ok (.getfield 9, 3) := by decide +kernel
theorem dX12_tooHot_35 : decode cX12_tooHot 35 = .ok (.iconst 1, 1) := by decide +kernel
theorem dX12_tooHot_36 : decode cX12_tooHot 36 = .ok (.iload_n 1, 1) := by decide +kernel
theorem dX12_tooHot_37 : decode cX12_tooHot 37 = .ok (.iadd, 1) := by decide +kernel
theorem dX12_tooHot_38 : decode cX12_tooHot 38 = .ok (.iaload, 1) := by decide +kernel
theorem dX12_tooHot_39 : decode cX12_tooHot 39 = .ok (.aload_n 0, 1) := by decide +kernel
theorem dX12_tooHot_40 : decode cX12_tooHot 40 = .ok (.sipush 218, 3) := by decide +kernel
theorem dX12_tooHot_43 : decode cX12_tooHot 43 = .ok (.bipush 80, 2) := by decide +kernel
theorem dX12_tooHot_45 : decode cX12_tooHot 45 = .ok (.invokevirtual 130, 3) := by decide +kernel
theorem dX12_tooHot_48 : decode cX12_tooHot 48 = .ok (.if_icmp .lt 7, 3) := by decide +kernel
theorem dX12_tooHot_51 : decode cX12_tooHot 51 = .ok (.iload_n 3, 1) := by decide +kernel
theorem dX12_tooHot_52 : decode cX12_tooHot 52 = .ok (.goto 5, 3) := by decide +kernel
theorem dX12_tooHot_55 : decode cX12_tooHot 55 = .ok (.bipush (-5), 2) := by decide +kernel
theorem dX12_tooHot_57 : decode cX12_tooHot 57 = .ok (.istore_n 2, 1) := by decide +kernel
theorem dX12_tooHot_58 : decode cX12_tooHot 58 = .ok (.aload_n 0, 1) := by decide +kernel
theorem dX12_tooHot_59 : decode cX12_tooHot 59 = .ok (.aload_n 0, 1) := by decide +kernel
theorem dX12_tooHot_60 : decode cX12_tooHot 60 = .ok (.invokevirtual 171, 3) := by decide +kernel
theorem dX12_tooHot_63 : decode cX12_tooHot 63 = .ok (.aload_n 0, 1) := by decide +kernel
theorem dX12_tooHot_64 : decode cX12_tooHot 64 = .ok (.invokevirtual 174, 3) := by decide +kernel
theorem dX12_tooHot_67 : decode cX12_tooHot 67 = .ok (.invokevirtual 177, 3) := by decide +kernel
theorem dX12_tooHot_70 : decode cX12_tooHot 70 = .ok (.iinc 3 1, 3) := by decide +kernel
theorem dX12_tooHot_73 : decode cX12_tooHot 73 = .ok (.goto (-54), 3) := by decide +kernel
theorem dX12_tooHot_76 : decode cX12_tooHot 76 = .ok (.aload_n 0, 1) := by decide +kernel
theorem dX12_tooHot_77 : decode cX12_tooHot 77 = .ok (.invokevirtual 193, 3) := by decide +kernel
theorem dX12_tooHot_80 : decode cX12_tooHot 80 = .ok (.iload_n 2, 1) := by decide +kernel
theorem dX12_tooHot_81 : decode cX12_tooHot 81 = .ok (.ireturn, 1) := by decide +kernel
theorem dX12_worseBy_0 : decode cX12_worseBy 0 = .ok (.aload_n 0, 1) := by decide +kernel
theorem dX12_worseBy_1 : decode cX12_worseBy 1 = .ok (.invokevirtual 184, 3) := by decide +kernel
theorem dX12_worseBy_4 : decode cX12_worseBy 4 = .ok (.aload_n 0, 1) := by decide +kernel
theorem dX12_worseBy_5 : decode cX12_worseBy 5 = .ok (.iload_n 1, 1) := by decide +kernel
theorem dX12_worseBy_6 : decode cX12_worseBy 6 = .ok (.invokevirtual 181, 3) := by decide +kernel
theorem dX12_worseBy_9 : decode cX12_worseBy 9 = .ok (.sipush 1000, 3) := by decide +kernel
theorem dX12_worseBy_12 : decode cX12_worseBy 12 = .ok (.aload_n 0, 1) := by decide +kernel
theorem dX12_worseBy_13 : decode cX12_worseBy 13 = .ok (.invokevirtual 187, 3) := by decide +kernel
theorem dX12_worseBy_16 : decode cX12_worseBy 16 = .ok (.imul, 1) := by decide +kernel
theorem dX12_worseBy_17 : decode cX12_worseBy 17 = .ok (.aload_n 0, 1) := by decide +kernel
theorem dX12_worseBy_18 : decode cX12_worseBy 18 = .ok (.invokevirtual 190, 3) := by decide +kernel
theorem dX12_worseBy_21 : decode cX12_worseBy 21 = .ok (.iadd, 1) := by decide +kernel
theorem dX12_worseBy_22 : decode cX12_worseBy 22 = .ok (.istore_n 2, 1) := by decide +kernel
theorem dX12_worseBy_23 : decode cX12_worseBy 23 = .ok (.aload_n 0, 1) := by decide +kernel
theorem dX12_worseBy_24 : decode cX12_worseBy 24 = .ok (.invokevirtual 193, 3) := by decide +kernel
theorem dX12_worseBy_27 : decode cX12_worseBy 27 = .ok (.iload_n 2, 1) := by decide +kernel
theorem dX12_worseBy_28 : decode cX12_worseBy 28 = .ok (.ireturn, 1) := by decide +kernel
theorem dX12_set_0 : decode cX12_set 0 = .ok (.aload_n 0, 1) := by decide +kernel
theorem dX12_set_1 : decode cX12_set 1 = .ok (.iload_n 1, 1) := by decide +kernel
theorem dX12_set_2 : decode cX12_set 2 = .ok (.invokevirtual 151, 3) := by decide +kernel
theorem dX12_set_5 : decode cX12_set 5 = .ok (.ifCond .eq 12, 3) := by decide +kernel
theorem dX12_set_8 : decode cX12_set 8 = .ok (.iload_n 3, 1) := by decide +kernel
theorem dX12_set_9 : decode cX12_set 9 = .ok (.iconst 0, 1) := by decide +kernel
theorem dX12_set_10 : decode cX12_set 10 = .ok (.iconst 1, 1) := by decide +kernel
theorem dX12_set_11 : decode cX12_set 11 = .ok (.invokestatic 41, 3) := by decide +kernel
theorem dX12_set_14 : decode cX12_set 14 = .ok (.ifCond .ne 5, 3) := by decide +kernel
theorem dX12_set_17 : decode cX12_set 17 = .ok (.iconst (-1), 1) := by decide +kernel
theorem dX12_set_18 : decode cX12_set 18 = .ok (.ireturn, 1) := by decide +kernel
theorem dX12_set_19 : decode cX12_set 19 = .ok (.iload_n 2, 1) := by decide +kernel
theorem dX12_set_20 : decode cX12_set 20 = .ok (.iconst 1, 1) := by decide +kernel
theorem dX12_set_21 : decode cX12_set 21 = .ok (.bipush 30, 2) := by decide +kernel
theorem dX12_set_23 : decode cX12_set 23 = .ok (.invokestatic 41, 3) := by decide +kernel
theorem dX12_set_26 : decode cX12_set 26 = .ok (.ifCond .ne 6, 3) := by decide +kernel
theorem dX12_set_29 : decode cX12_set 29 = .ok (.bipush (-2), 2) := by decide +kernel
theorem dX12_set_31 : decode cX12_set 31 = .ok (.ireturn, 1) := by decide +kernel
theorem dX12_set_32 : decode cX12_set 32 = .ok (.aload_n 0, 1) := by decide +kernel
theorem dX12_set_33 : decode cX12_set 33 = .ok (.getfield 9, 3) := by decide +kernel
theorem dX12_set_36 : decode cX12_set 36 = .ok (.bipush 30, 2) := by decide +kernel
theorem dX12_set_38 : decode cX12_set 38 = .ok (.iload_n 1, 1) := by decide +kernel
theorem dX12_set_39 : decode cX12_set 39 = .ok (.iadd, 1) := by decide +kernel
theorem dX12_set_40 : decode cX12_set 40 = .ok (.iaload, 1) := by decide +kernel
theorem dX12_set_41 : decode cX12_set 41 = .ok (.istore 4, 2) := by decide +kernel
theorem dX12_set_43 : decode cX12_set 43 = .ok (.aload_n 0, 1) := by decide +kernel
theorem dX12_set_44 : decode cX12_set 44 = .ok (.getfield 9, 3) := by decide +kernel
theorem dX12_set_47 : decode cX12_set 47 = .ok (.bipush 34, 2) := by decide +kernel
theorem dX12_set_49 : decode cX12_set 49 = .ok (.iload_n 1, 1) := by decide +kernel
theorem dX12_set_50 : decode cX12_set 50 = .ok (.iadd, 1) := by decide +kernel
theorem dX12_set_51 : decode cX12_set 51 = .ok (.iaload, 1) := by decide +kernel
theorem dX12_set_52 : decode cX12_set 52 = .ok (.istore 5, 2) := by decide +kernel
theorem dX12_set_54 : decode cX12_set 54 = .ok (.iconst (-1), 1) := by decide +kernel
theorem dX12_set_55 : decode cX12_set 55 = .ok (.istore 6, 2) := by decide +kernel
theorem dX12_set_57 : decode cX12_set 57 = .ok (.ldc 196, 2) := by decide +kernel
theorem dX12_set_59 : decode cX12_set 59 = .ok (.istore 7, 2) := by decide +kernel
theorem dX12_set_61 : decode cX12_set 61 = .ok (.iconst 0, 1) := by decide +kernel
theorem dX12_set_62 : decode cX12_set 62 = .ok (.istore 8, 2) := by decide +kernel
theorem dX12_set_64 : decode cX12_set 64 = .ok (.iload 8, 2) := by decide +kernel
theorem dX12_set_66 : decode cX12_set 66 = .ok (.bipush 100, 2) := by decide +kernel
theorem dX12_set_68 : decode cX12_set 68 = .ok (.if_icmp .ge 89, 3) := by decide +kernel
theorem dX12_set_71 : decode cX12_set 71 = .ok (.iload 8, 2) := by decide +kernel
theorem dX12_set_73 : decode cX12_set 73 = .ok (.bipush 10, 2) := by decide +kernel
theorem dX12_set_75 : decode cX12_set 75 = .ok (.idiv, 1) := by decide +kernel
theorem dX12_set_76 : decode cX12_set 76 = .ok (.iload 8, 2) := by decide +kernel
theorem dX12_set_78 : decode cX12_set 78 = .ok (.bipush 10, 2) := by decide +kernel
theorem dX12_set_80 : decode cX12_set 80 = .ok (.irem, 1) := by decide +kernel
theorem dX12_set_81 : decode cX12_set 81 = .ok (.if_icmp .gt 70, 3) := by decide +kernel
theorem dX12_set_84 : decode cX12_set 84 = .ok (.aload_n 0, 1) := by decide +kernel
theorem dX12_set_85 : decode cX12_set 85 = .ok (.getfield 9, 3) := by decide +kernel
theorem dX12_set_88 : decode cX12_set 88 = .ok (.bipush 30, 2) := by decide +kernel
theorem dX12_set_90 : decode cX12_set 90 = .ok (.iload_n 1, 1) := by decide +kernel
theorem dX12_set_91 : decode cX12_set 91 = .ok (.iadd, 1) := by decide +kernel
theorem dX12_set_92 : decode cX12_set 92 = .ok (.iload 8, 2) := by decide +kernel
theorem dX12_set_94 : decode cX12_set 94 = .ok (.bipush 10, 2) := by decide +kernel
theorem dX12_set_96 : decode cX12_set 96 = .ok (.idiv, 1) := by decide +kernel
theorem dX12_set_97 : decode cX12_set 97 = .ok (.iastore, 1) := by decide +kernel
theorem dX12_set_98 : decode cX12_set 98 = .ok (.aload_n 0, 1) := by decide +kernel
theorem dX12_set_99 : decode cX12_set 99 = .ok (.getfield 9, 3) := by decide +kernel
theorem dX12_set_102 : decode cX12_set 102 = .ok (.bipush 34, 2) := by decide +kernel
theorem dX12_set_104 : decode cX12_set 104 = .ok (.iload_n 1, 1) := by decide +kernel
theorem dX12_set_105 : decode cX12_set 105 = .ok (.iadd, 1) := by decide +kernel
theorem dX12_set_106 : decode cX12_set 106 = .ok (.iload 8, 2) := by decide +kernel
theorem dX12_set_108 : decode cX12_set 108 = .ok (.bipush 10, 2) := by decide +kernel
theorem dX12_set_110 : decode cX12_set 110 = .ok (.irem, 1) := by decide +kernel
theorem dX12_set_111 : decode cX12_set 111 = .ok (.iastore, 1) := by decide +kernel
theorem dX12_set_112 : decode cX12_set 112 = .ok (.aload_n 0, 1) := by decide +kernel
theorem dX12_set_113 : decode cX12_set 113 = .ok (.iload_n 2, 1) := by decide +kernel
theorem dX12_set_114 : decode cX12_set 114 = .ok (.invokevirtual 197, 3) := by decide +kernel
theorem dX12_set_117 : decode cX12_set 117 = .ok (.istore 9, 2) := by decide +kernel
theorem dX12_set_119 : decode cX12_set 119 = .ok (.iload 9, 2) := by decide +kernel
theorem dX12_set_121 : decode cX12_set 121 = .ok (.iload 7, 2) := by decide +kernel
theorem dX12_set_123 : decode cX12_set 123 = .ok (.if_icmp .ge 8, 3) := by decide +kernel
theorem dX12_set_126 : decode cX12_set 126 = .ok (.iload 8, 2) := by decide +kernel
theorem dX12_set_128 : decode cX12_set 128 = .ok (.goto 5, 3) := by decide +kernel
theorem dX12_set_131 : decode cX12_set 131 = .ok (.iload 6, 2) := by decide +kernel
theorem dX12_set_133 : decode cX12_set 133 = .ok (.istore 6, 2) := by decide +kernel
theorem dX12_set_135 : decode cX12_set 135 = .ok (.iload 9, 2) := by decide +kernel
theorem dX12_set_137 : decode cX12_set 137 = .ok (.iload 7, 2) := by decide +kernel
theorem dX12_set_139 : decode cX12_set 139 = .ok (.if_icmp .ge 8, 3) := by decide +kernel
theorem dX12_set_142 : decode cX12_set 142 = .ok (.iload 9, 2) := by decide +kernel
theorem dX12_set_144 : decode cX12_set 144 = .ok (.goto 5, 3) := by decide +kernel
theorem dX12_set_147 : decode cX12_set 147 = .ok (.iload 7, 2) := by decide +kernel
theorem dX12_set_149 : decode cX12_set 149 = .ok (.istore 7, 2) := by decide +kernel
theorem dX12_set_151 : decode cX12_set 151 = .ok (.iinc 8 1, 3) := by decide +kernel
theorem dX12_set_154 : decode cX12_set 154 = .ok (.goto (-90), 3) := by decide +kernel
theorem dX12_set_157 : decode cX12_set 157 = .ok (.aload_n 0, 1) := by decide +kernel
theorem dX12_set_158 : decode cX12_set 158 = .ok (.getfield 9, 3) := by decide +kernel
theorem dX12_set_161 : decode cX12_set 161 = .ok (.bipush 30, 2) := by decide +kernel
theorem dX12_set_163 : decode cX12_set 163 = .ok (.iload_n 1, 1) := by decide +kernel
theorem dX12_set_164 : decode cX12_set 164 = .ok (.iadd, 1) := by decide +kernel
theorem dX12_set_165 : decode cX12_set 165 = .ok (.iload 4, 2) := by decide +kernel
theorem dX12_set_167 : decode cX12_set 167 = .ok (.iastore, 1) := by decide +kernel
theorem dX12_set_168 : decode cX12_set 168 = .ok (.aload_n 0, 1) := by decide +kernel
theorem dX12_set_169 : decode cX12_set 169 = .ok (.getfield 9, 3) := by decide +kernel
theorem dX12_set_172 : decode cX12_set 172 = .ok (.bipush 34, 2) := by decide +kernel
theorem dX12_set_174 : decode cX12_set 174 = .ok (.iload_n 1, 1) := by decide +kernel
theorem dX12_set_175 : decode cX12_set 175 = .ok (.iadd, 1) := by decide +kernel
theorem dX12_set_176 : decode cX12_set 176 = .ok (.iload 5, 2) := by decide +kernel
theorem dX12_set_178 : decode cX12_set 178 = .ok (.iastore, 1) := by decide +kernel
theorem dX12_set_179 : decode cX12_set 179 = .ok (.iload_n 3, 1) := by decide +kernel
theorem dX12_set_180 : decode cX12_set 180 = .ok (.ifCond .ne 8, 3) := by decide +kernel
theorem dX12_set_183 : decode cX12_set 183 = .ok (.iload 6, 2) := by decide +kernel
theorem dX12_set_185 : decode cX12_set 185 = .ok (.goto 9, 3) := by decide +kernel
theorem dX12_set_188 : decode cX12_set 188 = .ok (.iload 7, 2) := by decide +kernel
theorem dX12_set_190 : decode cX12_set 190 = .ok (.sipush 1000, 3) := by decide +kernel
theorem dX12_set_193 : decode cX12_set 193 = .ok (.idiv, 1) := by decide +kernel
theorem dX12_set_194 : decode cX12_set 194 = .ok (.ireturn, 1) := by decide +kernel
theorem dX12_paced_0 : decode cX12_paced 0 = .ok (.aload_n 0, 1) := by decide +kernel
theorem dX12_paced_1 : decode cX12_paced 1 = .ok (.iload_n 1, 1) := by decide +kernel
theorem dX12_paced_2 : decode cX12_paced 2 = .ok (.invokevirtual 151, 3) := by decide +kernel
theorem dX12_paced_5 : decode cX12_paced 5 = .ok (.ifCond .ne 5, 3) := by decide +kernel
theorem dX12_paced_8 : decode cX12_paced 8 = .ok (.iconst (-1), 1) := by decide +kernel
theorem dX12_paced_9 : decode cX12_paced 9 = .ok (.ireturn, 1) := by decide +kernel
theorem dX12_paced_10 : decode cX12_paced 10 = .ok (.iload_n 2, 1) := by decide +kernel
theorem dX12_paced_11 : decode cX12_paced 11 = .ok (.iconst 1, 1) := by decide +kernel
theorem dX12_paced_12 : decode cX12_paced 12 = .ok (.bipush 30, 2) := by decide +kernel
theorem dX12_paced_14 : decode cX12_paced 14 = .ok (.invokestatic 41, 3) := by decide +kernel
theorem dX12_paced_17 : decode cX12_paced 17 = .ok (.ifCond .ne 6, 3) := by decide +kernel
theorem dX12_paced_20 : decode cX12_paced 20 = .ok (.bipush (-2), 2) := by decide +kernel
theorem dX12_paced_22 : decode cX12_paced 22 = .ok (.ireturn, 1) := by decide +kernel
theorem dX12_paced_23 : decode cX12_paced 23 = .ok (.aload_n 0, 1) := by decide +kernel
theorem dX12_paced_24 : decode cX12_paced 24 = .ok (.getfield 9, 3) := by decide +kernel
theorem dX12_paced_27 : decode cX12_paced 27 = .ok (.bipush 38, 2) := by decide +kernel
theorem dX12_paced_29 : decode cX12_paced 29 = .ok (.iload_n 1, 1) := by decide +kernel
theorem dX12_paced_30 : decode cX12_paced 30 = .ok (.iadd, 1) := by decide +kernel
theorem dX12_paced_31 : decode cX12_paced 31 = .ok (.iaload, 1) := by decide +kernel
theorem dX12_paced_32 : decode cX12_paced 32 = .ok (.istore_n 3, 1) := by decide +kernel
theorem dX12_paced_33 : decode cX12_paced 33 = .ok (.iconst (-1), 1) := by decide +kernel
theorem dX12_paced_34 : decode cX12_paced 34 = .ok (.istore 4, 2) := by decide +kernel
theorem dX12_paced_36 : decode cX12_paced 36 = .ok (.ldc 196, 2) := by decide +kernel
theorem dX12_paced_38 : decode cX12_paced 38 = .ok (.istore 5, 2) := by decide +kernel
theorem dX12_paced_40 : decode cX12_paced 40 = .ok (.iconst 1, 1) := by decide +kernel
theorem dX12_paced_41 : decode cX12_paced 41 = .ok (.istore 6, 2) := by decide +kernel
theorem dX12_paced_43 : decode cX12_paced 43 = .ok (.iload 6, 2) := by decide +kernel
theorem dX12_paced_45 : decode cX12_paced 45 = .ok (.iconst 5, 1) := by decide +kernel
theorem dX12_paced_46 : decode cX12_paced 46 = .ok (.if_icmp .ge 59, 3) := by decide +kernel
theorem dX12_paced_49 : decode cX12_paced 49 = .ok (.aload_n 0, 1) := by decide +kernel
theorem dX12_paced_50 : decode cX12_paced 50 = .ok (.getfield 9, 3) := by decide +kernel
theorem dX12_paced_53 : decode cX12_paced 53 = .ok (.bipush 38, 2) := by decide +kernel
theorem dX12_paced_55 : decode cX12_paced 55 = .ok (.iload_n 1, 1) := by decide +kernel
theorem dX12_paced_56 : decode cX12_paced 56 = .ok (.iadd, 1) := by decide +kernel
theorem dX12_paced_57 : decode cX12_paced 57 = .ok (.iload 6, 2) := by decide +kernel
theorem dX12_paced_59 : decode cX12_paced 59 = .ok (.iastore, 1) := by decide +kernel
theorem dX12_paced_60 : decode cX12_paced 60 = .ok (.aload_n 0, 1) := by decide +kernel
theorem dX12_paced_61 : decode cX12_paced 61 = .ok (.iload_n 2, 1) := by decide +kernel
theorem dX12_paced_62 : decode cX12_paced 62 = .ok (.invokevirtual 197, 3) := by decide +kernel
theorem dX12_paced_65 : decode cX12_paced 65 = .ok (.istore 7, 2) := by decide +kernel
theorem dX12_paced_67 : decode cX12_paced 67 = .ok (.iload 7, 2) := by decide +kernel
theorem dX12_paced_69 : decode cX12_paced 69 = .ok (.iload 5, 2) := by decide +kernel
theorem dX12_paced_71 : decode cX12_paced 71 = .ok (.if_icmp .ge 8, 3) := by decide +kernel
theorem dX12_paced_74 : decode cX12_paced 74 = .ok (.iload 6, 2) := by decide +kernel
theorem dX12_paced_76 : decode cX12_paced 76 = .ok (.goto 5, 3) := by decide +kernel
theorem dX12_paced_79 : decode cX12_paced 79 = .ok (.iload 4, 2) := by decide +kernel
theorem dX12_paced_81 : decode cX12_paced 81 = .ok (.istore 4, 2) := by decide +kernel
theorem dX12_paced_83 : decode cX12_paced 83 = .ok (.iload 7, 2) := by decide +kernel
theorem dX12_paced_85 : decode cX12_paced 85 = .ok (.iload 5, 2) := by decide +kernel
theorem dX12_paced_87 : decode cX12_paced 87 = .ok (.if_icmp .ge 8, 3) := by decide +kernel
theorem dX12_paced_90 : decode cX12_paced 90 = .ok (.iload 7, 2) := by decide +kernel
theorem dX12_paced_92 : decode cX12_paced 92 = .ok (.goto 5, 3) := by decide +kernel
theorem dX12_paced_95 : decode cX12_paced 95 = .ok (.iload 5, 2) := by decide +kernel
theorem dX12_paced_97 : decode cX12_paced 97 = .ok (.istore 5, 2) := by decide +kernel
theorem dX12_paced_99 : decode cX12_paced 99 = .ok (.iinc 6 1, 3) := by decide +kernel
theorem dX12_paced_102 : decode cX12_paced 102 = .ok (.goto (-59), 3) := by decide +kernel
theorem dX12_paced_105 : decode cX12_paced 105 = .ok (.aload_n 0, 1) := by decide +kernel
theorem dX12_paced_106 : decode cX12_paced 106 = .ok (.getfield 9, 3) := by decide +kernel
theorem dX12_paced_109 : decode cX12_paced 109 = .ok (.bipush 38, 2) := by decide +kernel
theorem dX12_paced_111 : decode cX12_paced 111 = .ok (.iload_n 1, 1) := by decide +kernel
theorem dX12_paced_112 : decode cX12_paced 112 = .ok (.iadd, 1) := by decide +kernel
theorem dX12_paced_113 : decode cX12_paced 113 = .ok (.iload_n 3, 1) := by decide +kernel
theorem dX12_paced_114 : decode cX12_paced 114 = .ok (.iastore, 1) := by decide +kernel
theorem dX12_paced_115 : decode cX12_paced 115 = .ok (.iload 4, 2) := by decide +kernel
theorem dX12_paced_117 : decode cX12_paced 117 = .ok (.ireturn, 1) := by decide +kernel
theorem dX12_heatIn_0 : decode cX12_heatIn 0 = .ok (.aload_n 0, 1) := by decide +kernel
theorem dX12_heatIn_1 : decode cX12_heatIn 1 = .ok (.getfield 9, 3) := by decide +kernel
theorem dX12_heatIn_4 : decode cX12_heatIn 4 = .ok (.bipush 62, 2) := by decide +kernel
theorem dX12_heatIn_6 : decode cX12_heatIn 6 = .ok (.iload_n 1, 1) := by decide +kernel
theorem dX12_heatIn_7 : decode cX12_heatIn 7 = .ok (.iadd, 1) := by decide +kernel
theorem dX12_heatIn_8 : decode cX12_heatIn 8 = .ok (.iaload, 1) := by decide +kernel
theorem dX12_heatIn_9 : decode cX12_heatIn 9 = .ok (.istore 4, 2) := by decide +kernel
theorem dX12_heatIn_11 : decode cX12_heatIn 11 = .ok (.aload_n 0, 1) := by decide +kernel
theorem dX12_heatIn_12 : decode cX12_heatIn 12 = .ok (.getfield 9, 3) := by decide +kernel
theorem dX12_heatIn_15 : decode cX12_heatIn 15 = .ok (.bipush 62, 2) := by decide +kernel
theorem dX12_heatIn_17 : decode cX12_heatIn 17 = .ok (.iload_n 1, 1) := by decide +kernel
theorem dX12_heatIn_18 : decode cX12_heatIn 18 = .ok (.iadd, 1) := by decide +kernel
theorem dX12_heatIn_19 : decode cX12_heatIn 19 = .ok (.iload_n 2, 1) := by decide +kernel
theorem dX12_heatIn_20 : decode cX12_heatIn 20 = .ok (.iastore, 1) := by decide +kernel
theorem dX12_heatIn_21 : decode cX12_heatIn 21 = .ok (.aload_n 0, 1) := by decide +kernel
theorem dX12_heatIn_22 : decode cX12_heatIn 22 = .ok (.invokevirtual 184, 3) := by decide +kernel
theorem dX12_heatIn_25 : decode cX12_heatIn 25 = .ok (.aload_n 0, 1) := by decide +kernel
theorem dX12_heatIn_26 : decode cX12_heatIn 26 = .ok (.iload_n 3, 1) := by decide +kernel
theorem dX12_heatIn_27 : decode cX12_heatIn 27 = .ok (.invokevirtual 181, 3) := by decide +kernel
theorem dX12_heatIn_30 : decode cX12_heatIn 30 = .ok (.aload_n 0, 1) := by decide +kernel
theorem dX12_heatIn_31 : decode cX12_heatIn 31 = .ok (.getfield 9, 3) := by decide +kernel
theorem dX12_heatIn_34 : decode cX12_heatIn 34 = .ok (.iconst 1, 1) := by decide +kernel
theorem dX12_heatIn_35 : decode cX12_heatIn 35 = .ok (.iload_n 1, 1) := by decide +kernel
theorem dX12_heatIn_36 : decode cX12_heatIn 36 = .ok (.iadd, 1) := by decide +kernel
theorem dX12_heatIn_37 : decode cX12_heatIn 37 = .ok (.iaload, 1) := by decide +kernel
theorem dX12_heatIn_38 : decode cX12_heatIn 38 = .ok (.istore 5, 2) := by decide +kernel
theorem dX12_heatIn_40 : decode cX12_heatIn 40 = .ok (.aload_n 0, 1) := by decide +kernel
theorem dX12_heatIn_41 : decode cX12_heatIn 41 = .ok (.invokevirtual 193, 3) := by decide +kernel
theorem dX12_heatIn_44 : decode cX12_heatIn 44 = .ok (.aload_n 0, 1) := by decide +kernel
theorem dX12_heatIn_45 : decode cX12_heatIn 45 = .ok (.getfield 9, 3) := by decide +kernel
theorem dX12_heatIn_48 : decode cX12_heatIn 48 = .ok (.bipush 62, 2) := by decide +kernel
theorem dX12_heatIn_50 : decode cX12_heatIn 50 = .ok (.iload_n 1, 1) := by decide +kernel
theorem dX12_heatIn_51 : decode cX12_heatIn 51 = .ok (.iadd, 1) := by decide +kernel
theorem dX12_heatIn_52 : decode cX12_heatIn 52 = .ok (.iload 4, 2) := by decide +kernel
theorem dX12_heatIn_54 : decode cX12_heatIn 54 = .ok (.iastore, 1) := by decide +kernel
theorem dX12_heatIn_55 : decode cX12_heatIn 55 = .ok (.iload 5, 2) := by decide +kernel
theorem dX12_heatIn_57 : decode cX12_heatIn 57 = .ok (.ireturn, 1) := by decide +kernel
theorem dX12_seat_0 : decode cX12_seat 0 = .ok (.aload_n 0, 1) := by decide +kernel
theorem dX12_seat_1 : decode cX12_seat 1 = .ok (.iload_n 1, 1) := by decide +kernel
theorem dX12_seat_2 : decode cX12_seat 2 = .ok (.invokevirtual 157, 3) := by decide +kernel
theorem dX12_seat_5 : decode cX12_seat 5 = .ok (.ifCond .eq 12, 3) := by decide +kernel
theorem dX12_seat_8 : decode cX12_seat 8 = .ok (.iload_n 3, 1) := by decide +kernel
theorem dX12_seat_9 : decode cX12_seat 9 = .ok (.iconst 0, 1) := by decide +kernel
theorem dX12_seat_10 : decode cX12_seat 10 = .ok (.iconst 1, 1) := by decide +kernel
theorem dX12_seat_11 : decode cX12_seat 11 = .ok (.invokestatic 41, 3) := by decide +kernel
theorem dX12_seat_14 : decode cX12_seat 14 = .ok (.ifCond .ne 5, 3) := by decide +kernel
theorem dX12_seat_17 : decode cX12_seat 17 = .ok (.iconst (-1), 1) := by decide +kernel
theorem dX12_seat_18 : decode cX12_seat 18 = .ok (.ireturn, 1) := by decide +kernel
theorem dX12_seat_19 : decode cX12_seat 19 = .ok (.iload_n 2, 1) := by decide +kernel
theorem dX12_seat_20 : decode cX12_seat 20 = .ok (.iconst 1, 1) := by decide +kernel
theorem dX12_seat_21 : decode cX12_seat 21 = .ok (.bipush 30, 2) := by decide +kernel
theorem dX12_seat_23 : decode cX12_seat 23 = .ok (.invokestatic 41, 3) := by decide +kernel
theorem dX12_seat_26 : decode cX12_seat 26 = .ok (.ifCond .ne 6, 3) := by decide +kernel
theorem dX12_seat_29 : decode cX12_seat 29 = .ok (.bipush (-2), 2) := by decide +kernel
theorem dX12_seat_31 : decode cX12_seat 31 = .ok (.ireturn, 1) := by decide +kernel
theorem dX12_seat_32 : decode cX12_seat 32 = .ok (.iconst (-1), 1) := by decide +kernel
theorem dX12_seat_33 : decode cX12_seat 33 = .ok (.istore 4, 2) := by decide +kernel
theorem dX12_seat_35 : decode cX12_seat 35 = .ok (.ldc 196, 2) := by decide +kernel
theorem dX12_seat_37 : decode cX12_seat 37 = .ok (.istore 5, 2) := by decide +kernel
theorem dX12_seat_39 : decode cX12_seat 39 = .ok (.iconst 0, 1) := by decide +kernel
theorem dX12_seat_40 : decode cX12_seat 40 = .ok (.istore 6, 2) := by decide +kernel
theorem dX12_seat_42 : decode cX12_seat 42 = .ok (.iload 6, 2) := by decide +kernel
theorem dX12_seat_44 : decode cX12_seat 44 = .ok (.bipush 10, 2) := by decide +kernel
theorem dX12_seat_46 : decode cX12_seat 46 = .ok (.if_icmp .ge 51, 3) := by decide +kernel
theorem dX12_seat_49 : decode cX12_seat 49 = .ok (.aload_n 0, 1) := by decide +kernel
theorem dX12_seat_50 : decode cX12_seat 50 = .ok (.iload_n 1, 1) := by decide +kernel
theorem dX12_seat_51 : decode cX12_seat 51 = .ok (.iload 6, 2) := by decide +kernel
theorem dX12_seat_53 : decode cX12_seat 53 = .ok (.iload_n 2, 1) := by decide +kernel
theorem dX12_seat_54 : decode cX12_seat 54 = .ok (.invokevirtual 200, 3) := by decide +kernel
theorem dX12_seat_57 : decode cX12_seat 57 = .ok (.istore 7, 2) := by decide +kernel
theorem dX12_seat_59 : decode cX12_seat 59 = .ok (.iload 7, 2) := by decide +kernel
theorem dX12_seat_61 : decode cX12_seat 61 = .ok (.iload 5, 2) := by decide +kernel
theorem dX12_seat_63 : decode cX12_seat 63 = .ok (.if_icmp .ge 8, 3) := by decide +kernel
theorem dX12_seat_66 : decode cX12_seat 66 = .ok (.iload 6, 2) := by decide +kernel
theorem dX12_seat_68 : decode cX12_seat 68 = .ok (.goto 5, 3) := by decide +kernel
theorem dX12_seat_71 : decode cX12_seat 71 = .ok (.iload 4, 2) := by decide +kernel
theorem dX12_seat_73 : decode cX12_seat 73 = .ok (.istore 4, 2) := by decide +kernel
theorem dX12_seat_75 : decode cX12_seat 75 = .ok (.iload 7, 2) := by decide +kernel
theorem dX12_seat_77 : decode cX12_seat 77 = .ok (.iload 5, 2) := by decide +kernel
theorem dX12_seat_79 : decode cX12_seat 79 = .ok (.if_icmp .ge 8, 3) := by decide +kernel
theorem dX12_seat_82 : decode cX12_seat 82 = .ok (.iload 7, 2) := by decide +kernel
theorem dX12_seat_84 : decode cX12_seat 84 = .ok (.goto 5, 3) := by decide +kernel
theorem dX12_seat_87 : decode cX12_seat 87 = .ok (.iload 5, 2) := by decide +kernel
theorem dX12_seat_89 : decode cX12_seat 89 = .ok (.istore 5, 2) := by decide +kernel
theorem dX12_seat_91 : decode cX12_seat 91 = .ok (.iinc 6 1, 3) := by decide +kernel
theorem dX12_seat_94 : decode cX12_seat 94 = .ok (.goto (-52), 3) := by decide +kernel
theorem dX12_seat_97 : decode cX12_seat 97 = .ok (.iload_n 3, 1) := by decide +kernel
theorem dX12_seat_98 : decode cX12_seat 98 = .ok (.ifCond .ne 8, 3) := by decide +kernel
theorem dX12_seat_101 : decode cX12_seat 101 = .ok (.iload 4, 2) := by decide +kernel
theorem dX12_seat_103 : decode cX12_seat 103 = .ok (.goto 5, 3) := by decide +kernel
theorem dX12_seat_106 : decode cX12_seat 106 = .ok (.iload 5, 2) := by decide +kernel
theorem dX12_seat_108 : decode cX12_seat 108 = .ok (.ireturn, 1) := by decide +kernel
theorem dX12_greatestBy_0 : decode cX12_greatestBy 0 = .ok (.aload_n 0, 1) := by decide +kernel
theorem dX12_greatestBy_1 : decode cX12_greatestBy 1 = .ok (.iload_n 1, 1) := by decide +kernel
theorem dX12_greatestBy_2 : decode cX12_greatestBy 2 = .ok (.invokevirtual 197, 3) := by decide +kernel
theorem dX12_greatestBy_5 : decode cX12_greatestBy 5 = .ok (.sipush 1000, 3) := by decide +kernel
theorem dX12_greatestBy_8 : decode cX12_greatestBy 8 = .ok (.idiv, 1) := by decide +kernel
theorem dX12_greatestBy_9 : decode cX12_greatestBy 9 = .ok (.ireturn, 1) := by decide +kernel
theorem dX12_changes_0 : decode cX12_changes 0 = .ok (.aload_n 0, 1) := by decide +kernel
theorem dX12_changes_1 : decode cX12_changes 1 = .ok (.getfield 9, 3) := by decide +kernel
theorem dX12_changes_4 : decode cX12_changes 4 = .ok (.bipush 62, 2) := by decide +kernel
theorem dX12_changes_6 : decode cX12_changes 6 = .ok (.iload_n 1, 1) := by decide +kernel
theorem dX12_changes_7 : decode cX12_changes 7 = .ok (.iadd, 1) := by decide +kernel
theorem dX12_changes_8 : decode cX12_changes 8 = .ok (.iaload, 1) := by decide +kernel
theorem dX12_changes_9 : decode cX12_changes 9 = .ok (.istore_n 3, 1) := by decide +kernel
theorem dX12_changes_10 : decode cX12_changes 10 = .ok (.aload_n 0, 1) := by decide +kernel
theorem dX12_changes_11 : decode cX12_changes 11 = .ok (.getfield 9, 3) := by decide +kernel
theorem dX12_changes_14 : decode cX12_changes 14 = .ok (.bipush 62, 2) := by decide +kernel
theorem dX12_changes_16 : decode cX12_changes 16 = .ok (.iload_n 1, 1) := by decide +kernel
theorem dX12_changes_17 : decode cX12_changes 17 = .ok (.iadd, 1) := by decide +kernel
theorem dX12_changes_18 : decode cX12_changes 18 = .ok (.aload_n 0, 1) := by decide +kernel
theorem dX12_changes_19 : decode cX12_changes 19 = .ok (.getfield 9, 3) := by decide +kernel
theorem dX12_changes_22 : decode cX12_changes 22 = .ok (.bipush 62, 2) := by decide +kernel
theorem dX12_changes_24 : decode cX12_changes 24 = .ok (.iload_n 2, 1) := by decide +kernel
theorem dX12_changes_25 : decode cX12_changes 25 = .ok (.iadd, 1) := by decide +kernel
theorem dX12_changes_26 : decode cX12_changes 26 = .ok (.iaload, 1) := by decide +kernel
theorem dX12_changes_27 : decode cX12_changes 27 = .ok (.iastore, 1) := by decide +kernel
theorem dX12_changes_28 : decode cX12_changes 28 = .ok (.aload_n 0, 1) := by decide +kernel
theorem dX12_changes_29 : decode cX12_changes 29 = .ok (.getfield 9, 3) := by decide +kernel
theorem dX12_changes_32 : decode cX12_changes 32 = .ok (.bipush 62, 2) := by decide +kernel
theorem dX12_changes_34 : decode cX12_changes 34 = .ok (.iload_n 2, 1) := by decide +kernel
theorem dX12_changes_35 : decode cX12_changes 35 = .ok (.iadd, 1) := by decide +kernel
theorem dX12_changes_36 : decode cX12_changes 36 = .ok (.iload_n 3, 1) := by decide +kernel
theorem dX12_changes_37 : decode cX12_changes 37 = .ok (.iastore, 1) := by decide +kernel
theorem dX12_changes_38 : decode cX12_changes 38 = .ok (.return_, 1) := by decide +kernel
theorem dX12_change_0 : decode cX12_change 0 = .ok (.iload_n 1, 1) := by decide +kernel
theorem dX12_change_1 : decode cX12_change 1 = .ok (.iconst 1, 1) := by decide +kernel
theorem dX12_change_2 : decode cX12_change 2 = .ok (.bipush 30, 2) := by decide +kernel
theorem dX12_change_4 : decode cX12_change 4 = .ok (.invokestatic 41, 3) := by decide +kernel
theorem dX12_change_7 : decode cX12_change 7 = .ok (.ifCond .ne 6, 3) := by decide +kernel
theorem dX12_change_10 : decode cX12_change 10 = .ok (.bipush (-2), 2) := by decide +kernel
theorem dX12_change_12 : decode cX12_change 12 = .ok (.ireturn, 1) := by decide +kernel
theorem dX12_change_13 : decode cX12_change 13 = .ok (.aload_n 0, 1) := by decide +kernel
theorem dX12_change_14 : decode cX12_change 14 = .ok (.iload_n 1, 1) := by decide +kernel
theorem dX12_change_15 : decode cX12_change 15 = .ok (.invokevirtual 203, 3) := by decide +kernel
theorem dX12_change_18 : decode cX12_change 18 = .ok (.istore_n 2, 1) := by decide +kernel
theorem dX12_change_19 : decode cX12_change 19 = .ok (.bipush (-5), 2) := by decide +kernel
theorem dX12_change_21 : decode cX12_change 21 = .ok (.istore_n 3, 1) := by decide +kernel
theorem dX12_change_22 : decode cX12_change 22 = .ok (.iconst 0, 1) := by decide +kernel
theorem dX12_change_23 : decode cX12_change 23 = .ok (.istore 4, 2) := by decide +kernel
theorem dX12_change_25 : decode cX12_change 25 = .ok (.iload 4, 2) := by decide +kernel
theorem dX12_change_27 : decode cX12_change 27 = .ok (.aload_n 0, 1) := by decide +kernel
theorem dX12_change_28 : decode cX12_change 28 = .ok (.getfield 9, 3) := by decide +kernel
theorem dX12_change_31 : decode cX12_change 31 = .ok (.bipush 14, 2) := by decide +kernel
theorem dX12_change_33 : decode cX12_change 33 = .ok (.iaload, 1) := by decide +kernel
theorem dX12_change_34 : decode cX12_change 34 = .ok (.if_icmp .ge 88, 3) := by decide +kernel
theorem dX12_change_37 : decode cX12_change 37 = .ok (.iload 4, 2) := by decide +kernel
theorem dX12_change_39 : decode cX12_change 39 = .ok (.iconst 1, 1) := by decide +kernel
theorem dX12_change_40 : decode cX12_change 40 = .ok (.iadd, 1) := by decide +kernel
theorem dX12_change_41 : decode cX12_change 41 = .ok (.istore 5, 2) := by decide +kernel
theorem dX12_change_43 : decode cX12_change 43 = .ok (.iload 5, 2) := by decide +kernel
theorem dX12_change_45 : decode cX12_change 45 = .ok (.aload_n 0, 1) := by decide +kernel
theorem dX12_change_46 : decode cX12_change 46 = .ok (.getfield 9, 3) := by decide +kernel
theorem dX12_change_49 : decode cX12_change 49 = .ok (.bipush 14, 2) := by decide +kernel
theorem dX12_change_51 : decode cX12_change 51 = .ok (.iaload, 1) := by decide +kernel
theorem dX12_change_52 : decode cX12_change 52 = .ok (.if_icmp .ge 64, 3) := by decide +kernel
theorem dX12_change_55 : decode cX12_change 55 = .ok (.aload_n 0, 1) := by decide +kernel
theorem dX12_change_56 : decode cX12_change 56 = .ok (.iload 4, 2) := by decide +kernel
theorem dX12_change_58 : decode cX12_change 58 = .ok (.iload 5, 2) := by decide +kernel
theorem dX12_change_60 : decode cX12_change 60 = .ok (.invokevirtual 206, 3) := by decide +kernel
theorem dX12_change_63 : decode cX12_change 63 = .ok (.aload_n 0, 1) := by decide +kernel
theorem dX12_change_64 : decode cX12_change 64 = .ok (.iload_n 1, 1) := by decide +kernel
theorem dX12_change_65 : decode cX12_change 65 = .ok (.invokevirtual 203, 3) := by decide +kernel
theorem dX12_change_68 : decode cX12_change 68 = .ok (.istore 6, 2) := by decide +kernel
theorem dX12_change_70 : decode cX12_change 70 = .ok (.aload_n 0, 1) := by decide +kernel
theorem dX12_change_71 : decode cX12_change 71 = .ok (.iload 4, 2) := by decide +kernel
theorem dX12_change_73 : decode cX12_change 73 = .ok (.iload 5, 2) := by decide +kernel
theorem dX12_change_75 : decode cX12_change 75 = .ok (.invokevirtual 206, 3) := by decide +kernel
theorem dX12_change_78 : decode cX12_change 78 = .ok (.iload 6, 2) := by decide +kernel
theorem dX12_change_80 : decode cX12_change 80 = .ok (.iload_n 2, 1) := by decide +kernel
theorem dX12_change_81 : decode cX12_change 81 = .ok (.if_icmp .ge 14, 3) := by decide +kernel
theorem dX12_change_84 : decode cX12_change 84 = .ok (.bipush 10, 2) := by decide +kernel
theorem dX12_change_86 : decode cX12_change 86 = .ok (.iload 4, 2) := by decide +kernel
theorem dX12_change_88 : decode cX12_change 88 = .ok (.imul, 1) := by decide +kernel
theorem dX12_change_89 : decode cX12_change 89 = .ok (.iload 5, 2) := by decide +kernel
theorem dX12_change_91 : decode cX12_change 91 = .ok (.iadd, 1) := by decide +kernel
theorem dX12_change_92 : decode cX12_change 92 = .ok (.goto 4, 3) := by decide +kernel
theorem dX12_change_95 : decode cX12_change 95 = .ok (.iload_n 3, 1) := by decide +kernel
theorem dX12_change_96 : decode cX12_change 96 = .ok (.istore_n 3, 1) := by decide +kernel
theorem dX12_change_97 : decode cX12_change 97 = .ok (.iload 6, 2) := by decide +kernel
theorem dX12_change_99 : decode cX12_change 99 = .ok (.iload_n 2, 1) := by decide +kernel
theorem dX12_change_100 : decode cX12_change 100 = .ok (.if_icmp .ge 8, 3) := by decide +kernel
theorem dX12_change_103 : decode cX12_change 103 = .ok (.iload 6, 2) := by decide +kernel
theorem dX12_change_105 : decode cX12_change 105 = .ok (.goto 4, 3) := by decide +kernel
theorem dX12_change_108 : decode cX12_change 108 = .ok (.iload_n 2, 1) := by decide +kernel
theorem dX12_change_109 : decode cX12_change 109 = .ok (.istore_n 2, 1) := by decide +kernel
theorem dX12_change_110 : decode cX12_change 110 = .ok (.iinc 5 1, 3) := by decide +kernel
theorem dX12_change_113 : decode cX12_change 113 = .ok (.goto (-70), 3) := by decide +kernel
theorem dX12_change_116 : decode cX12_change 116 = .ok (.iinc 4 1, 3) := by decide +kernel
theorem dX12_change_119 : decode cX12_change 119 = .ok (.goto (-94), 3) := by decide +kernel
theorem dX12_change_122 : decode cX12_change 122 = .ok (.iload_n 3, 1) := by decide +kernel
theorem dX12_change_123 : decode cX12_change 123 = .ok (.ireturn, 1) := by decide +kernel
theorem dX12_worth_0 : decode cX12_worth 0 = .ok (.aload_n 0, 1) := by decide +kernel
theorem dX12_worth_1 : decode cX12_worth 1 = .ok (.iload_n 1, 1) := by decide +kernel
theorem dX12_worth_2 : decode cX12_worth 2 = .ok (.invokevirtual 151, 3) := by decide +kernel
theorem dX12_worth_5 : decode cX12_worth 5 = .ok (.ifCond .ne 7, 3) := by decide +kernel
theorem dX12_worth_8 : decode cX12_worth 8 = .ok (.sipush (-10001), 3) := by decide +kernel
theorem dX12_worth_11 : decode cX12_worth 11 = .ok (.ireturn, 1) := by decide +kernel
theorem dX12_worth_12 : decode cX12_worth 12 = .ok (.iload_n 2, 1) := by decide +kernel
theorem dX12_worth_13 : decode cX12_worth 13 = .ok (.iconst 1, 1) := by decide +kernel
theorem dX12_worth_14 : decode cX12_worth 14 = .ok (.bipush 60, 2) := by decide +kernel
theorem dX12_worth_16 : decode cX12_worth 16 = .ok (.invokestatic 41, 3) := by decide +kernel
theorem dX12_worth_19 : decode cX12_worth 19 = .ok (.ifCond .ne 7, 3) := by decide +kernel
theorem dX12_worth_22 : decode cX12_worth 22 = .ok (.sipush (-10002), 3) := by decide +kernel
theorem dX12_worth_25 : decode cX12_worth 25 = .ok (.ireturn, 1) := by decide +kernel
theorem dX12_worth_26 : decode cX12_worth 26 = .ok (.aload_n 0, 1) := by decide +kernel
theorem dX12_worth_27 : decode cX12_worth 27 = .ok (.getfield 9, 3) := by decide +kernel
theorem dX12_worth_30 : decode cX12_worth 30 = .ok (.bipush 42, 2) := by decide +kernel
theorem dX12_worth_32 : decode cX12_worth 32 = .ok (.iload_n 1, 1) := by decide +kernel
theorem dX12_worth_33 : decode cX12_worth 33 = .ok (.iadd, 1) := by decide +kernel
theorem dX12_worth_34 : decode cX12_worth 34 = .ok (.iaload, 1) := by decide +kernel
theorem dX12_worth_35 : decode cX12_worth 35 = .ok (.istore_n 3, 1) := by decide +kernel
theorem dX12_worth_36 : decode cX12_worth 36 = .ok (.aload_n 0, 1) := by decide +kernel
theorem dX12_worth_37 : decode cX12_worth 37 = .ok (.getfield 9, 3) := by decide +kernel
theorem dX12_worth_40 : decode cX12_worth 40 = .ok (.bipush 42, 2) := by decide +kernel
theorem dX12_worth_42 : decode cX12_worth 42 = .ok (.iload_n 1, 1) := by decide +kernel
theorem dX12_worth_43 : decode cX12_worth 43 = .ok (.iadd, 1) := by decide +kernel
theorem dX12_worth_44 : decode cX12_worth 44 = .ok (.iconst 0, 1) := by decide +kernel
theorem dX12_worth_45 : decode cX12_worth 45 = .ok (.iastore, 1) := by decide +kernel
theorem dX12_worth_46 : decode cX12_worth 46 = .ok (.aload_n 0, 1) := by decide +kernel
theorem dX12_worth_47 : decode cX12_worth 47 = .ok (.iload_n 2, 1) := by decide +kernel
theorem dX12_worth_48 : decode cX12_worth 48 = .ok (.invokevirtual 197, 3) := by decide +kernel
theorem dX12_worth_51 : decode cX12_worth 51 = .ok (.sipush 1000, 3) := by decide +kernel
theorem dX12_worth_54 : decode cX12_worth 54 = .ok (.irem, 1) := by decide +kernel
theorem dX12_worth_55 : decode cX12_worth 55 = .ok (.istore 4, 2) := by decide +kernel
theorem dX12_worth_57 : decode cX12_worth 57 = .ok (.aload_n 0, 1) := by decide +kernel
theorem dX12_worth_58 : decode cX12_worth 58 = .ok (.getfield 9, 3) := by decide +kernel
theorem dX12_worth_61 : decode cX12_worth 61 = .ok (.bipush 42, 2) := by decide +kernel
theorem dX12_worth_63 : decode cX12_worth 63 = .ok (.iload_n 1, 1) := by decide +kernel
theorem dX12_worth_64 : decode cX12_worth 64 = .ok (.iadd, 1) := by decide +kernel
theorem dX12_worth_65 : decode cX12_worth 65 = .ok (.iconst 1, 1) := by decide +kernel
theorem dX12_worth_66 : decode cX12_worth 66 = .ok (.iastore, 1) := by decide +kernel
theorem dX12_worth_67 : decode cX12_worth 67 = .ok (.aload_n 0, 1) := by decide +kernel
theorem dX12_worth_68 : decode cX12_worth 68 = .ok (.iload_n 2, 1) := by decide +kernel
theorem dX12_worth_69 : decode cX12_worth 69 = .ok (.invokevirtual 197, 3) := by decide +kernel
theorem dX12_worth_72 : decode cX12_worth 72 = .ok (.sipush 1000, 3) := by decide +kernel
theorem dX12_worth_75 : decode cX12_worth 75 = .ok (.irem, 1) := by decide +kernel
theorem dX12_worth_76 : decode cX12_worth 76 = .ok (.istore 5, 2) := by decide +kernel
theorem dX12_worth_78 : decode cX12_worth 78 = .ok (.aload_n 0, 1) := by decide +kernel
theorem dX12_worth_79 : decode cX12_worth 79 = .ok (.getfield 9, 3) := by decide +kernel
theorem dX12_worth_82 : decode cX12_worth 82 = .ok (.bipush 42, 2) := by decide +kernel
theorem dX12_worth_84 : decode cX12_worth 84 = .ok (.iload_n 1, 1) := by decide +kernel
theorem dX12_worth_85 : decode cX12_worth 85 = .ok (.iadd, 1) := by decide +kernel
theorem dX12_worth_86 : decode cX12_worth 86 = .ok (.iload_n 3, 1) := by decide +kernel
theorem dX12_worth_87 : decode cX12_worth 87 = .ok (.iastore, 1) := by decide +kernel
theorem dX12_worth_88 : decode cX12_worth 88 = .ok (.iload 4, 2) := by decide +kernel
theorem dX12_worth_90 : decode cX12_worth 90 = .ok (.iload 5, 2) := by decide +kernel
theorem dX12_worth_92 : decode cX12_worth 92 = .ok (.isub, 1) := by decide +kernel
theorem dX12_worth_93 : decode cX12_worth 93 = .ok (.ireturn, 1) := by decide +kernel
theorem dX12_roundBy_0 : decode cX12_roundBy 0 = .ok (.aload_n 0, 1) := by decide +kernel
theorem dX12_roundBy_1 : decode cX12_roundBy 1 = .ok (.invokevirtual 184, 3) := by decide +kernel
theorem dX12_roundBy_4 : decode cX12_roundBy 4 = .ok (.iconst 0, 1) := by decide +kernel
theorem dX12_roundBy_5 : decode cX12_roundBy 5 = .ok (.istore_n 3, 1) := by decide +kernel
theorem dX12_roundBy_6 : decode cX12_roundBy 6 = .ok (.iload_n 3, 1) := by decide +kernel
theorem dX12_roundBy_7 : decode cX12_roundBy 7 = .ok (.iload_n 2, 1) := by decide +kernel
theorem dX12_roundBy_8 : decode cX12_roundBy 8 = .ok (.if_icmp .ge 35, 3) := by decide +kernel
theorem dX12_roundBy_11 : decode cX12_roundBy 11 = .ok (.aload_n 0, 1) := by decide +kernel
theorem dX12_roundBy_12 : decode cX12_roundBy 12 = .ok (.iconst 1, 1) := by decide +kernel
theorem dX12_roundBy_13 : decode cX12_roundBy 13 = .ok (.aload_n 0, 1) := by decide +kernel
theorem dX12_roundBy_14 : decode cX12_roundBy 14 = .ok (.getfield 9, 3) := by decide +kernel
theorem dX12_roundBy_17 : decode cX12_roundBy 17 = .ok (.bipush 62, 2) := by decide +kernel
theorem dX12_roundBy_19 : decode cX12_roundBy 19 = .ok (.iload_n 3, 1) := by decide +kernel
theorem dX12_roundBy_20 : decode cX12_roundBy 20 = .ok (.iload_n 1, 1) := by decide +kernel
theorem dX12_roundBy_21 : decode cX12_roundBy 21 = .ok (.idiv, 1) := by decide +kernel
theorem dX12_roundBy_22 : decode cX12_roundBy 22 = .ok (.aload_n 0, 1) := by decide +kernel
theorem dX12_roundBy_23 : decode cX12_roundBy 23 = .ok (.getfield 9, 3) := by decide +kernel
theorem dX12_roundBy_26 : decode cX12_roundBy 26 = .ok (.bipush 14, 2) := by decide +kernel
theorem dX12_roundBy_28 : decode cX12_roundBy 28 = .ok (.iaload, 1) := by decide +kernel
theorem dX12_roundBy_29 : decode cX12_roundBy 29 = .ok (.irem, 1) := by decide +kernel
theorem dX12_roundBy_30 : decode cX12_roundBy 30 = .ok (.iadd, 1) := by decide +kernel
theorem dX12_roundBy_31 : decode cX12_roundBy 31 = .ok (.iaload, 1) := by decide +kernel
theorem dX12_roundBy_32 : decode cX12_roundBy 32 = .ok (.ishl, 1) := by decide +kernel
theorem dX12_roundBy_33 : decode cX12_roundBy 33 = .ok (.iconst 1, 1) := by decide +kernel
theorem dX12_roundBy_34 : decode cX12_roundBy 34 = .ok (.invokevirtual 177, 3) := by decide +kernel
theorem dX12_roundBy_37 : decode cX12_roundBy 37 = .ok (.iinc 3 1, 3) := by decide +kernel
theorem dX12_roundBy_40 : decode cX12_roundBy 40 = .ok (.goto (-34), 3) := by decide +kernel
theorem dX12_roundBy_43 : decode cX12_roundBy 43 = .ok (.aload_n 0, 1) := by decide +kernel
theorem dX12_roundBy_44 : decode cX12_roundBy 44 = .ok (.invokevirtual 187, 3) := by decide +kernel
theorem dX12_roundBy_47 : decode cX12_roundBy 47 = .ok (.istore_n 3, 1) := by decide +kernel
theorem dX12_roundBy_48 : decode cX12_roundBy 48 = .ok (.aload_n 0, 1) := by decide +kernel
theorem dX12_roundBy_49 : decode cX12_roundBy 49 = .ok (.invokevirtual 193, 3) := by decide +kernel
theorem dX12_roundBy_52 : decode cX12_roundBy 52 = .ok (.iload_n 3, 1) := by decide +kernel
theorem dX12_roundBy_53 : decode cX12_roundBy 53 = .ok (.ireturn, 1) := by decide +kernel
theorem dX12_round_0 : decode cX12_round 0 = .ok (.iload_n 2, 1) := by decide +kernel
theorem dX12_round_1 : decode cX12_round 1 = .ok (.iconst 0, 1) := by decide +kernel
theorem dX12_round_2 : decode cX12_round 2 = .ok (.iconst 1, 1) := by decide +kernel
theorem dX12_round_3 : decode cX12_round 3 = .ok (.invokestatic 41, 3) := by decide +kernel
theorem dX12_round_6 : decode cX12_round 6 = .ok (.ifCond .ne 5, 3) := by decide +kernel
theorem dX12_round_9 : decode cX12_round 9 = .ok (.iconst (-1), 1) := by decide +kernel
theorem dX12_round_10 : decode cX12_round 10 = .ok (.ireturn, 1) := by decide +kernel
theorem dX12_round_11 : decode cX12_round 11 = .ok (.iload_n 1, 1) := by decide +kernel
theorem dX12_round_12 : decode cX12_round 12 = .ok (.iconst 1, 1) := by decide +kernel
theorem dX12_round_13 : decode cX12_round 13 = .ok (.bipush 60, 2) := by decide +kernel
theorem dX12_round_15 : decode cX12_round 15 = .ok (.invokestatic 41, 3) := by decide +kernel
theorem dX12_round_18 : decode cX12_round 18 = .ok (.ifCond .ne 6, 3) := by decide +kernel
theorem dX12_round_21 : decode cX12_round 21 = .ok (.bipush (-2), 2) := by decide +kernel
theorem dX12_round_23 : decode cX12_round 23 = .ok (.ireturn, 1) := by decide +kernel
theorem dX12_round_24 : decode cX12_round 24 = .ok (.bipush (-5), 2) := by decide +kernel
theorem dX12_round_26 : decode cX12_round 26 = .ok (.istore_n 3, 1) := by decide +kernel
theorem dX12_round_27 : decode cX12_round 27 = .ok (.bipush (-5), 2) := by decide +kernel
theorem dX12_round_29 : decode cX12_round 29 = .ok (.istore 4, 2) := by decide +kernel
theorem dX12_round_31 : decode cX12_round 31 = .ok (.iconst 1, 1) := by decide +kernel
theorem dX12_round_32 : decode cX12_round 32 = .ok (.istore 5, 2) := by decide +kernel
theorem dX12_round_34 : decode cX12_round 34 = .ok (.iload 5, 2) := by decide +kernel
theorem dX12_round_36 : decode cX12_round 36 = .ok (.bipush 20, 2) := by decide +kernel
theorem dX12_round_38 : decode cX12_round 38 = .ok (.if_icmp .gt 71, 3) := by decide +kernel
theorem dX12_round_41 : decode cX12_round 41 = .ok (.aload_n 0, 1) := by decide +kernel
theorem dX12_round_42 : decode cX12_round 42 = .ok (.getfield 9, 3) := by decide +kernel
theorem dX12_round_45 : decode cX12_round 45 = .ok (.bipush 14, 2) := by decide +kernel
theorem dX12_round_47 : decode cX12_round 47 = .ok (.iaload, 1) := by decide +kernel
theorem dX12_round_48 : decode cX12_round 48 = .ok (.ifCond .le 61, 3) := by decide +kernel
theorem dX12_round_51 : decode cX12_round 51 = .ok (.aload_n 0, 1) := by decide +kernel
theorem dX12_round_52 : decode cX12_round 52 = .ok (.iload 5, 2) := by decide +kernel
theorem dX12_round_54 : decode cX12_round 54 = .ok (.iload_n 1, 1) := by decide +kernel
theorem dX12_round_55 : decode cX12_round 55 = .ok (.invokevirtual 209, 3) := by decide +kernel
theorem dX12_round_58 : decode cX12_round 58 = .ok (.istore 6, 2) := by decide +kernel
theorem dX12_round_60 : decode cX12_round 60 = .ok (.iload_n 3, 1) := by decide +kernel
theorem dX12_round_61 : decode cX12_round 61 = .ok (.bipush (-5), 2) := by decide +kernel
theorem dX12_round_63 : decode cX12_round 63 = .ok (.if_icmp .eq 10, 3) := by decide +kernel
theorem dX12_round_66 : decode cX12_round 66 = .ok (.iload 6, 2) := by decide +kernel
theorem dX12_round_68 : decode cX12_round 68 = .ok (.iload 4, 2) := by decide +kernel
theorem dX12_round_70 : decode cX12_round 70 = .ok (.if_icmp .ge 8, 3) := by decide +kernel
theorem dX12_round_73 : decode cX12_round 73 = .ok (.iload 5, 2) := by decide +kernel
theorem dX12_round_75 : decode cX12_round 75 = .ok (.goto 4, 3) := by decide +kernel
theorem dX12_round_78 : decode cX12_round 78 = .ok (.iload_n 3, 1) := by decide +kernel
theorem dX12_round_79 : decode cX12_round 79 = .ok (.istore_n 3, 1) := by decide +kernel
theorem dX12_round_80 : decode cX12_round 80 = .ok (.iload 4, 2) := by decide +kernel
theorem dX12_round_82 : decode cX12_round 82 = .ok (.bipush (-5), 2) := by decide +kernel
theorem dX12_round_84 : decode cX12_round 84 = .ok (.if_icmp .eq 10, 3) := by decide +kernel
theorem dX12_round_87 : decode cX12_round 87 = .ok (.iload 6, 2) := by decide +kernel
theorem dX12_round_89 : decode cX12_round 89 = .ok (.iload 4, 2) := by decide +kernel
theorem dX12_round_91 : decode cX12_round 91 = .ok (.if_icmp .ge 8, 3) := by decide +kernel
theorem dX12_round_94 : decode cX12_round 94 = .ok (.iload 6, 2) := by decide +kernel
theorem dX12_round_96 : decode cX12_round 96 = .ok (.goto 5, 3) := by decide +kernel
theorem dX12_round_99 : decode cX12_round 99 = .ok (.iload 4, 2) := by decide +kernel
theorem dX12_round_101 : decode cX12_round 101 = .ok (.istore 4, 2) := by decide +kernel
theorem dX12_round_103 : decode cX12_round 103 = .ok (.iinc 5 1, 3) := by decide +kernel
theorem dX12_round_106 : decode cX12_round 106 = .ok (.goto (-72), 3) := by decide +kernel
theorem dX12_round_109 : decode cX12_round 109 = .ok (.iload_n 2, 1) := by decide +kernel
theorem dX12_round_110 : decode cX12_round 110 = .ok (.ifCond .ne 7, 3) := by decide +kernel
theorem dX12_round_113 : decode cX12_round 113 = .ok (.iload_n 3, 1) := by decide +kernel
theorem dX12_round_114 : decode cX12_round 114 = .ok (.goto 5, 3) := by decide +kernel
theorem dX12_round_117 : decode cX12_round 117 = .ok (.iload 4, 2) := by decide +kernel
theorem dX12_round_119 : decode cX12_round 119 = .ok (.ireturn, 1) := by decide +kernel
theorem dX12_meetsLate_0 : decode cX12_meetsLate 0 = .ok (.iconst 0, 1) := by decide +kernel
theorem dX12_meetsLate_1 : decode cX12_meetsLate 1 = .ok (.istore 5, 2) := by decide +kernel
theorem dX12_meetsLate_3 : decode cX12_meetsLate 3 = .ok (.aload_n 0, 1) := by decide +kernel
theorem dX12_meetsLate_4 : decode cX12_meetsLate 4 = .ok (.getfield 9, 3) := by decide +kernel
theorem dX12_meetsLate_7 : decode cX12_meetsLate 7 = .ok (.iconst 0, 1) := by decide +kernel
theorem dX12_meetsLate_8 : decode cX12_meetsLate 8 = .ok (.iaload, 1) := by decide +kernel
theorem dX12_meetsLate_9 : decode cX12_meetsLate 9 = .ok (.istore 6, 2) := by decide +kernel
theorem dX12_meetsLate_11 : decode cX12_meetsLate 11 = .ok (.iload 6, 2) := by decide +kernel
theorem dX12_meetsLate_13 : decode cX12_meetsLate 13 = .ok (.aload_n 0, 1) := by decide +kernel
theorem dX12_meetsLate_14 : decode cX12_meetsLate 14 = .ok (.getfield 9, 3) := by decide +kernel
theorem dX12_meetsLate_17 : decode cX12_meetsLate 17 = .ok (.iconst 0, 1) := by decide +kernel
theorem dX12_meetsLate_18 : decode cX12_meetsLate 18 = .ok (.iaload, 1) := by decide +kernel
theorem dX12_meetsLate_19 : decode cX12_meetsLate 19 = .ok (.iload_n 3, 1) := by decide +kernel
theorem dX12_meetsLate_20 : decode cX12_meetsLate 20 = .ok (.iadd, 1) := by decide +kernel
theorem dX12_meetsLate_21 : decode cX12_meetsLate 21 = .ok (.if_icmp .ge 39, 3) := by decide +kernel
theorem dX12_meetsLate_24 : decode cX12_meetsLate 24 = .ok (.iload 5, 2) := by decide +kernel
theorem dX12_meetsLate_26 : decode cX12_meetsLate 26 = .ok (.aload_n 0, 1) := by decide +kernel
theorem dX12_meetsLate_27 : decode cX12_meetsLate 27 = .ok (.iload_n 1, 1) := by decide +kernel
theorem dX12_meetsLate_28 : decode cX12_meetsLate 28 = .ok (.iload 6, 2) := by decide +kernel
theorem dX12_meetsLate_30 : decode cX12_meetsLate 30 = .ok (.invokevirtual 144, 3) := by decide +kernel
theorem dX12_meetsLate_33 : decode cX12_meetsLate 33 = .ok (.aload_n 0, 1) := by decide +kernel
theorem dX12_meetsLate_34 : decode cX12_meetsLate 34 = .ok (.iload_n 2, 1) := by decide +kernel
theorem dX12_meetsLate_35 : decode cX12_meetsLate 35 = .ok (.iload 6, 2) := by decide +kernel
theorem dX12_meetsLate_37 : decode cX12_meetsLate 37 = .ok (.iload 4, 2) := by decide +kernel
theorem dX12_meetsLate_39 : decode cX12_meetsLate 39 = .ok (.iadd, 1) := by decide +kernel
theorem dX12_meetsLate_40 : decode cX12_meetsLate 40 = .ok (.invokevirtual 144, 3) := by decide +kernel
theorem dX12_meetsLate_43 : decode cX12_meetsLate 43 = .ok (.if_icmp .ne 7, 3) := by decide +kernel
theorem dX12_meetsLate_46 : decode cX12_meetsLate 46 = .ok (.iconst 1, 1) := by decide +kernel
theorem dX12_meetsLate_47 : decode cX12_meetsLate 47 = .ok (.goto 4, 3) := by decide +kernel
theorem dX12_meetsLate_50 : decode cX12_meetsLate 50 = .ok (.iconst 0, 1) := by decide +kernel
theorem dX12_meetsLate_51 : decode cX12_meetsLate 51 = .ok (.iadd, 1) := by decide +kernel
theorem dX12_meetsLate_52 : decode cX12_meetsLate 52 = .ok (.istore 5, 2) := by decide +kernel
theorem dX12_meetsLate_54 : decode cX12_meetsLate 54 = .ok (.iinc 6 1, 3) := by decide +kernel
theorem dX12_meetsLate_57 : decode cX12_meetsLate 57 = .ok (.goto (-46), 3) := by decide +kernel
theorem dX12_meetsLate_60 : decode cX12_meetsLate 60 = .ok (.iload 5, 2) := by decide +kernel
theorem dX12_meetsLate_62 : decode cX12_meetsLate 62 = .ok (.ireturn, 1) := by decide +kernel
theorem dX12_meets_0 : decode cX12_meets 0 = .ok (.aload_n 0, 1) := by decide +kernel
theorem dX12_meets_1 : decode cX12_meets 1 = .ok (.iload_n 1, 1) := by decide +kernel
theorem dX12_meets_2 : decode cX12_meets 2 = .ok (.invokevirtual 151, 3) := by decide +kernel
theorem dX12_meets_5 : decode cX12_meets 5 = .ok (.ifCond .eq 11, 3) := by decide +kernel
theorem dX12_meets_8 : decode cX12_meets 8 = .ok (.aload_n 0, 1) := by decide +kernel
theorem dX12_meets_9 : decode cX12_meets 9 = .ok (.iload_n 2, 1) := by decide +kernel
theorem dX12_meets_10 : decode cX12_meets 10 = .ok (.invokevirtual 151, 3) := by decide +kernel
theorem dX12_meets_13 : decode cX12_meets 13 = .ok (.ifCond .ne 5, 3) := by decide +kernel
theorem dX12_meets_16 : decode cX12_meets 16 = .ok (.iconst (-1), 1) := by decide +kernel
theorem dX12_meets_17 : decode cX12_meets 17 = .ok (.ireturn, 1) := by decide +kernel
theorem dX12_meets_18 : decode cX12_meets 18 = .ok (.iload_n 1, 1) := by decide +kernel
theorem dX12_meets_19 : decode cX12_meets 19 = .ok (.iload_n 2, 1) := by decide +kernel
theorem dX12_meets_20 : decode cX12_meets 20 = .ok (.if_icmp .eq 13, 3) := by decide +kernel
theorem dX12_meets_23 : decode cX12_meets 23 = .ok (.iload_n 3, 1) := by decide +kernel
theorem dX12_meets_24 : decode cX12_meets 24 = .ok (.iconst 1, 1) := by decide +kernel
theorem dX12_meets_25 : decode cX12_meets 25 = .ok (.bipush 60, 2) := by decide +kernel
theorem dX12_meets_27 : decode cX12_meets 27 = .ok (.invokestatic 41, 3) := by decide +kernel
theorem dX12_meets_30 : decode cX12_meets 30 = .ok (.ifCond .ne 8, 3) := by decide +kernel
theorem dX12_meets_33 : decode cX12_meets 33 = .ok (.bipush (-2), 2) := by decide +kernel
theorem dX12_meets_35 : decode cX12_meets 35 = .ok (.goto 11, 3) := by decide +kernel
theorem dX12_meets_38 : decode cX12_meets 38 = .ok (.aload_n 0, 1) := by decide +kernel
theorem dX12_meets_39 : decode cX12_meets 39 = .ok (.iload_n 1, 1) := by decide +kernel
theorem dX12_meets_40 : decode cX12_meets 40 = .ok (.iload_n 2, 1) := by decide +kernel
theorem dX12_meets_41 : decode cX12_meets 41 = .ok (.iload_n 3, 1) := by decide +kernel
theorem dX12_meets_42 : decode cX12_meets 42 = .ok (.iconst 0, 1) := by decide +kernel
theorem dX12_meets_43 : decode cX12_meets 43 = .ok (.invokevirtual 212, 3) := by decide +kernel
theorem dX12_meets_46 : decode cX12_meets 46 = .ok (.ireturn, 1) := by decide +kernel
theorem dX12_late_0 : decode cX12_late 0 = .ok (.aload_n 0, 1) := by decide +kernel
theorem dX12_late_1 : decode cX12_late 1 = .ok (.iload_n 1, 1) := by decide +kernel
theorem dX12_late_2 : decode cX12_late 2 = .ok (.invokevirtual 151, 3) := by decide +kernel
theorem dX12_late_5 : decode cX12_late 5 = .ok (.ifCond .eq 21, 3) := by decide +kernel
theorem dX12_late_8 : decode cX12_late 8 = .ok (.aload_n 0, 1) := by decide +kernel
theorem dX12_late_9 : decode cX12_late 9 = .ok (.iload_n 2, 1) := by decide +kernel
theorem dX12_late_10 : decode cX12_late 10 = .ok (.invokevirtual 151, 3) := by decide +kernel
theorem dX12_late_13 : decode cX12_late 13 = .ok (.ifCond .eq 13, 3) := by decide +kernel
theorem dX12_late_16 : decode cX12_late 16 = .ok (.iload 4, 2) := by decide +kernel
theorem dX12_late_18 : decode cX12_late 18 = .ok (.iconst 0, 1) := by decide +kernel
theorem dX12_late_19 : decode cX12_late 19 = .ok (.iconst 1, 1) := by decide +kernel
theorem dX12_late_20 : decode cX12_late 20 = .ok (.invokestatic 41, 3) := by decide +kernel
theorem dX12_late_23 : decode cX12_late 23 = .ok (.ifCond .ne 5, 3) := by decide +kernel
theorem dX12_late_26 : decode cX12_late 26 = .ok (.iconst (-1), 1) := by decide +kernel
theorem dX12_late_27 : decode cX12_late 27 = .ok (.ireturn, 1) := by decide +kernel
theorem dX12_late_28 : decode cX12_late 28 = .ok (.iload_n 1, 1) := by decide +kernel
theorem dX12_late_29 : decode cX12_late 29 = .ok (.iload_n 2, 1) := by decide +kernel
theorem dX12_late_30 : decode cX12_late 30 = .ok (.if_icmp .eq 13, 3) := by decide +kernel
theorem dX12_late_33 : decode cX12_late 33 = .ok (.iload_n 3, 1) := by decide +kernel
theorem dX12_late_34 : decode cX12_late 34 = .ok (.iconst 1, 1) := by decide +kernel
theorem dX12_late_35 : decode cX12_late 35 = .ok (.bipush 60, 2) := by decide +kernel
theorem dX12_late_37 : decode cX12_late 37 = .ok (.invokestatic 41, 3) := by decide +kernel
theorem dX12_late_40 : decode cX12_late 40 = .ok (.ifCond .ne 6, 3) := by decide +kernel
theorem dX12_late_43 : decode cX12_late 43 = .ok (.bipush (-2), 2) := by decide +kernel
theorem dX12_late_45 : decode cX12_late 45 = .ok (.ireturn, 1) := by decide +kernel
theorem dX12_late_46 : decode cX12_late 46 = .ok (.iconst 0, 1) := by decide +kernel
theorem dX12_late_47 : decode cX12_late 47 = .ok (.istore 5, 2) := by decide +kernel
theorem dX12_late_49 : decode cX12_late 49 = .ok (.ldc 196, 2) := by decide +kernel
theorem dX12_late_51 : decode cX12_late 51 = .ok (.istore 6, 2) := by decide +kernel
theorem dX12_late_53 : decode cX12_late 53 = .ok (.iconst 0, 1) := by decide +kernel
theorem dX12_late_54 : decode cX12_late 54 = .ok (.istore 7, 2) := by decide +kernel
theorem dX12_late_56 : decode cX12_late 56 = .ok (.iload 7, 2) := by decide +kernel
theorem dX12_late_58 : decode cX12_late 58 = .ok (.bipush 30, 2) := by decide +kernel
theorem dX12_late_60 : decode cX12_late 60 = .ok (.if_icmp .ge 52, 3) := by decide +kernel
theorem dX12_late_63 : decode cX12_late 63 = .ok (.aload_n 0, 1) := by decide +kernel
theorem dX12_late_64 : decode cX12_late 64 = .ok (.iload_n 1, 1) := by decide +kernel
theorem dX12_late_65 : decode cX12_late 65 = .ok (.iload_n 2, 1) := by decide +kernel
theorem dX12_late_66 : decode cX12_late 66 = .ok (.iload_n 3, 1) := by decide +kernel
theorem dX12_late_67 : decode cX12_late 67 = .ok (.iload 7, 2) := by decide +kernel
theorem dX12_late_69 : decode cX12_late 69 = .ok (.invokevirtual 212, 3) := by decide +kernel
theorem dX12_late_72 : decode cX12_late 72 = .ok (.istore 8, 2) := by decide +kernel
theorem dX12_late_74 : decode cX12_late 74 = .ok (.iload 8, 2) := by decide +kernel
theorem dX12_late_76 : decode cX12_late 76 = .ok (.iload 6, 2) := by decide +kernel
theorem dX12_late_78 : decode cX12_late 78 = .ok (.if_icmp .ge 8, 3) := by decide +kernel
theorem dX12_late_81 : decode cX12_late 81 = .ok (.iload 7, 2) := by decide +kernel
theorem dX12_late_83 : decode cX12_late 83 = .ok (.goto 5, 3) := by decide +kernel
theorem dX12_late_86 : decode cX12_late 86 = .ok (.iload 5, 2) := by decide +kernel
theorem dX12_late_88 : decode cX12_late 88 = .ok (.istore 5, 2) := by decide +kernel
theorem dX12_late_90 : decode cX12_late 90 = .ok (.iload 8, 2) := by decide +kernel
theorem dX12_late_92 : decode cX12_late 92 = .ok (.iload 6, 2) := by decide +kernel
theorem dX12_late_94 : decode cX12_late 94 = .ok (.if_icmp .ge 8, 3) := by decide +kernel
theorem dX12_late_97 : decode cX12_late 97 = .ok (.iload 8, 2) := by decide +kernel
theorem dX12_late_99 : decode cX12_late 99 = .ok (.goto 5, 3) := by decide +kernel
theorem dX12_late_102 : decode cX12_late 102 = .ok (.iload 6, 2) := by decide +kernel
theorem dX12_late_104 : decode cX12_late 104 = .ok (.istore 6, 2) := by decide +kernel
theorem dX12_late_106 : decode cX12_late 106 = .ok (.iinc 7 1, 3) := by decide +kernel
theorem dX12_late_109 : decode cX12_late 109 = .ok (.goto (-53), 3) := by decide +kernel
theorem dX12_late_112 : decode cX12_late 112 = .ok (.iload 4, 2) := by decide +kernel
theorem dX12_late_114 : decode cX12_late 114 = .ok (.ifCond .ne 8, 3) := by decide +kernel
theorem dX12_late_117 : decode cX12_late 117 = .ok (.iload 5, 2) := by decide +kernel
theorem dX12_late_119 : decode cX12_late 119 = .ok (.goto 5, 3) := by decide +kernel
theorem dX12_late_122 : decode cX12_late 122 = .ok (.iload 6, 2) := by decide +kernel
theorem dX12_late_124 : decode cX12_late 124 = .ok (.ireturn, 1) := by decide +kernel
theorem dX12_isPeriod_0 : decode cX12_isPeriod 0 = .ok (.iconst 0, 1) := by decide +kernel
theorem dX12_isPeriod_1 : decode cX12_isPeriod 1 = .ok (.istore_n 2, 1) := by decide +kernel
theorem dX12_isPeriod_2 : decode cX12_isPeriod 2 = .ok (.iload_n 2, 1) := by decide +kernel
theorem dX12_isPeriod_3 : decode cX12_isPeriod 3 = .ok (.sipush 200, 3) := by decide +kernel
theorem dX12_isPeriod_6 : decode cX12_isPeriod 6 = .ok (.if_icmp .ge 28, 3) := by decide +kernel
theorem dX12_isPeriod_9 : decode cX12_isPeriod 9 = .ok (.aload_n 0, 1) := by decide +kernel
theorem dX12_isPeriod_10 : decode cX12_isPeriod 10 = .ok (.getfield 31, 3) := by decide +kernel
theorem dX12_isPeriod_13 : decode cX12_isPeriod 13 = .ok (.iload_n 2, 1) := by decide +kernel
theorem dX12_isPeriod_14 : decode cX12_isPeriod 14 = .ok (.iaload, 1) := by decide +kernel
theorem dX12_isPeriod_15 : decode cX12_isPeriod 15 = .ok (.aload_n 0, 1) := by decide +kernel
theorem dX12_isPeriod_16 : decode cX12_isPeriod 16 = .ok (.getfield 31, 3) := by decide +kernel
theorem dX12_isPeriod_19 : decode cX12_isPeriod 19 = .ok (.iload_n 2, 1) := by decide +kernel
theorem dX12_isPeriod_20 : decode cX12_isPeriod 20 = .ok (.iload_n 1, 1) := by decide +kernel
theorem dX12_isPeriod_21 : decode cX12_isPeriod 21 = .ok (.iadd, 1) := by decide +kernel
theorem dX12_isPeriod_22 : decode cX12_isPeriod 22 = .ok (.iaload, 1) := by decide +kernel
theorem dX12_isPeriod_23 : decode cX12_isPeriod 23 = .ok (.if_icmp .eq 5, 3) := by decide +kernel
theorem dX12_isPeriod_26 : decode cX12_isPeriod 26 = .ok (.iconst 0, 1) := by decide +kernel
theorem dX12_isPeriod_27 : decode cX12_isPeriod 27 = .ok (.ireturn, 1) := by decide +kernel
theorem dX12_isPeriod_28 : decode cX12_isPeriod 28 = .ok (.iinc 2 1, 3) := by decide +kernel
theorem dX12_isPeriod_31 : decode cX12_isPeriod 31 = .ok (.goto (-29), 3) := by decide +kernel
theorem dX12_isPeriod_34 : decode cX12_isPeriod 34 = .ok (.iconst 1, 1) := by decide +kernel
theorem dX12_isPeriod_35 : decode cX12_isPeriod 35 = .ok (.ireturn, 1) := by decide +kernel
theorem dX12_period_0 : decode cX12_period 0 = .ok (.aload_n 0, 1) := by decide +kernel
theorem dX12_period_1 : decode cX12_period 1 = .ok (.iload_n 1, 1) := by decide +kernel
theorem dX12_period_2 : decode cX12_period 2 = .ok (.invokevirtual 151, 3) := by decide +kernel
theorem dX12_period_5 : decode cX12_period 5 = .ok (.ifCond .ne 5, 3) := by decide +kernel
theorem dX12_period_8 : decode cX12_period 8 = .ok (.iconst (-1), 1) := by decide +kernel
theorem dX12_period_9 : decode cX12_period 9 = .ok (.ireturn, 1) := by decide +kernel
theorem dX12_period_10 : decode cX12_period 10 = .ok (.iconst 0, 1) := by decide +kernel
theorem dX12_period_11 : decode cX12_period 11 = .ok (.istore_n 2, 1) := by decide +kernel
theorem dX12_period_12 : decode cX12_period 12 = .ok (.iload_n 2, 1) := by decide +kernel
theorem dX12_period_13 : decode cX12_period 13 = .ok (.sipush 400, 3) := by decide +kernel
theorem dX12_period_16 : decode cX12_period 16 = .ok (.if_icmp .ge 21, 3) := by decide +kernel
theorem dX12_period_19 : decode cX12_period 19 = .ok (.aload_n 0, 1) := by decide +kernel
theorem dX12_period_20 : decode cX12_period 20 = .ok (.getfield 31, 3) := by decide +kernel
theorem dX12_period_23 : decode cX12_period 23 = .ok (.iload_n 2, 1) := by decide +kernel
theorem dX12_period_24 : decode cX12_period 24 = .ok (.aload_n 0, 1) := by decide +kernel
theorem dX12_period_25 : decode cX12_period 25 = .ok (.iload_n 1, 1) := by decide +kernel
theorem dX12_period_26 : decode cX12_period 26 = .ok (.iload_n 2, 1) := by decide +kernel
theorem dX12_period_27 : decode cX12_period 27 = .ok (.invokevirtual 144, 3) := by decide +kernel
theorem dX12_period_30 : decode cX12_period 30 = .ok (.iastore, 1) := by decide +kernel
theorem dX12_period_31 : decode cX12_period 31 = .ok (.iinc 2 1, 3) := by decide +kernel
theorem dX12_period_34 : decode cX12_period 34 = .ok (.goto (-22), 3) := by decide +kernel
theorem dX12_period_37 : decode cX12_period 37 = .ok (.iconst 1, 1) := by decide +kernel
theorem dX12_period_38 : decode cX12_period 38 = .ok (.istore_n 2, 1) := by decide +kernel
theorem dX12_period_39 : decode cX12_period 39 = .ok (.iload_n 2, 1) := by decide +kernel
theorem dX12_period_40 : decode cX12_period 40 = .ok (.sipush 200, 3) := by decide +kernel
theorem dX12_period_43 : decode cX12_period 43 = .ok (.if_icmp .ge 19, 3) := by decide +kernel
theorem dX12_period_46 : decode cX12_period 46 = .ok (.aload_n 0, 1) := by decide +kernel
theorem dX12_period_47 : decode cX12_period 47 = .ok (.iload_n 2, 1) := by decide +kernel
theorem dX12_period_48 : decode cX12_period 48 = .ok (.invokevirtual 216, 3) := by decide +kernel
theorem dX12_period_51 : decode cX12_period 51 = .ok (.ifCond .eq 5, 3) := by decide +kernel
theorem dX12_period_54 : decode cX12_period 54 = .ok (.iload_n 2, 1) := by decide +kernel
theorem dX12_period_55 : decode cX12_period 55 = .ok (.ireturn, 1) := by decide +kernel
theorem dX12_period_56 : decode cX12_period 56 = .ok (.iinc 2 1, 3) := by decide +kernel
theorem dX12_period_59 : decode cX12_period 59 = .ok (.goto (-20), 3) := by decide +kernel
theorem dX12_period_62 : decode cX12_period 62 = .ok (.aload_n 0, 1) := by decide +kernel
theorem dX12_period_63 : decode cX12_period 63 = .ok (.iload_n 1, 1) := by decide +kernel
theorem dX12_period_64 : decode cX12_period 64 = .ok (.invokevirtual 219, 3) := by decide +kernel
theorem dX12_period_67 : decode cX12_period 67 = .ok (.ifCond .eq 9, 3) := by decide +kernel
theorem dX12_period_70 : decode cX12_period 70 = .ok (.sipush 200, 3) := by decide +kernel
theorem dX12_period_73 : decode cX12_period 73 = .ok (.goto 5, 3) := by decide +kernel
theorem dX12_period_76 : decode cX12_period 76 = .ok (.bipush (-5), 2) := by decide +kernel
theorem dX12_period_78 : decode cX12_period 78 = .ok (.ireturn, 1) := by decide +kernel
theorem dX12_isLastPeriod_0 : decode cX12_isLastPeriod 0 = .ok (.iconst 0, 1) := by decide +kernel
theorem dX12_isLastPeriod_1 : decode cX12_isLastPeriod 1 = .ok (.istore_n 2, 1) := by decide +kernel
theorem dX12_isLastPeriod_2 : decode cX12_isLastPeriod 2 = .ok (.iload_n 2, 1) := by decide +kernel
theorem dX12_isLastPeriod_3 : decode cX12_isLastPeriod 3 = .ok (.sipush 200, 3) := by decide +kernel
theorem dX12_isLastPeriod_6 : decode cX12_isLastPeriod 6 = .ok (.if_icmp .ge 30, 3) := by decide +kernel
theorem dX12_isLastPeriod_9 : decode cX12_isLastPeriod 9 = .ok (.aload_n 0, 1) := by decide +kernel
theorem dX12_isLastPeriod_10 : decode cX12_isLastPeriod 10 = .ok (.iload_n 1, 1) := by decide +kernel
theorem dX12_isLastPeriod_11 : decode cX12_isLastPeriod 11 = .ok (.iload_n 2, 1) := by decide +kernel
theorem dX12_isLastPeriod_12 : decode cX12_isLastPeriod 12 = .ok (.invokevirtual 144, 3) := by decide +kernel
theorem dX12_isLastPeriod_15 : decode cX12_isLastPeriod 15 = .ok (.aload_n 0, 1) := by decide +kernel
theorem dX12_isLastPeriod_16 : decode cX12_isLastPeriod 16 = .ok (.iload_n 1, 1) := by decide +kernel
theorem dX12_isLastPeriod_17 : decode cX12_isLastPeriod 17 = .ok (.iload_n 2, 1) := by decide +kernel
theorem dX12_isLastPeriod_18 : decode cX12_isLastPeriod 18 = .ok (.sipush 200, 3) := by decide +kernel
theorem dX12_isLastPeriod_21 : decode cX12_isLastPeriod 21 = .ok (.iadd, 1) := by decide +kernel
theorem dX12_isLastPeriod_22 : decode cX12_isLastPeriod 22 = .ok (.invokevirtual 144, 3) := by decide +kernel
theorem dX12_isLastPeriod_25 : decode cX12_isLastPeriod 25 = .ok (.if_icmp .eq 5, 3) := by decide +kernel
theorem dX12_isLastPeriod_28 : decode cX12_isLastPeriod 28 = .ok (.iconst 0, 1) := by decide +kernel
theorem dX12_isLastPeriod_29 : decode cX12_isLastPeriod 29 = .ok (.ireturn, 1) := by decide +kernel
theorem dX12_isLastPeriod_30 : decode cX12_isLastPeriod 30 = .ok (.iinc 2 1, 3) := by decide +kernel
theorem dX12_isLastPeriod_33 : decode cX12_isLastPeriod 33 = .ok (.goto (-31), 3) := by decide +kernel
theorem dX12_isLastPeriod_36 : decode cX12_isLastPeriod 36 = .ok (.iconst 1, 1) := by decide +kernel
theorem dX12_isLastPeriod_37 : decode cX12_isLastPeriod 37 = .ok (.ireturn, 1) := by decide +kernel
theorem dX12_papersBy_0 : decode cX12_papersBy 0 = .ok (.iconst 0, 1) := by decide +kernel
theorem dX12_papersBy_1 : decode cX12_papersBy 1 = .ok (.istore_n 3, 1) := by decide +kernel
theorem dX12_papersBy_2 : decode cX12_papersBy 2 = .ok (.iconst 0, 1) := by decide +kernel
theorem dX12_papersBy_3 : decode cX12_papersBy 3 = .ok (.istore 4, 2) := by decide +kernel
theorem dX12_papersBy_5 : decode cX12_papersBy 5 = .ok (.iload 4, 2) := by decide +kernel
theorem dX12_papersBy_7 : decode cX12_papersBy 7 = .ok (.bipush 10, 2) := by decide +kernel
theorem dX12_papersBy_9 : decode cX12_papersBy 9 = .ok (.if_icmp .ge 137, 3) := by decide +kernel
theorem dX12_papersBy_12 : decode cX12_papersBy 12 = .ok (.iconst 0, 1) := by decide +kernel
theorem dX12_papersBy_13 : decode cX12_papersBy 13 = .ok (.istore 5, 2) := by decide +kernel
theorem dX12_papersBy_15 : decode cX12_papersBy 15 = .ok (.aload_n 0, 1) := by decide +kernel
theorem dX12_papersBy_16 : decode cX12_papersBy 16 = .ok (.getfield 9, 3) := by decide +kernel
theorem dX12_papersBy_19 : decode cX12_papersBy 19 = .ok (.iconst 0, 1) := by decide +kernel
theorem dX12_papersBy_20 : decode cX12_papersBy 20 = .ok (.iaload, 1) := by decide +kernel
theorem dX12_papersBy_21 : decode cX12_papersBy 21 = .ok (.istore 6, 2) := by decide +kernel
theorem dX12_papersBy_23 : decode cX12_papersBy 23 = .ok (.iload 6, 2) := by decide +kernel
theorem dX12_papersBy_25 : decode cX12_papersBy 25 = .ok (.aload_n 0, 1) := by decide +kernel
theorem dX12_papersBy_26 : decode cX12_papersBy 26 = .ok (.getfield 9, 3) := by decide +kernel
theorem dX12_papersBy_29 : decode cX12_papersBy 29 = .ok (.iconst 0, 1) := by decide +kernel
theorem dX12_papersBy_30 : decode cX12_papersBy 30 = .ok (.iaload, 1) := by decide +kernel
theorem dX12_papersBy_31 : decode cX12_papersBy 31 = .ok (.iload_n 2, 1) := by decide +kernel
theorem dX12_papersBy_32 : decode cX12_papersBy 32 = .ok (.iadd, 1) := by decide +kernel
theorem dX12_papersBy_33 : decode cX12_papersBy 33 = .ok (.if_icmp .ge 107, 3) := by decide +kernel
theorem dX12_papersBy_36 : decode cX12_papersBy 36 = .ok (.iconst 0, 1) := by decide +kernel
theorem dX12_papersBy_37 : decode cX12_papersBy 37 = .ok (.istore 7, 2) := by decide +kernel
theorem dX12_papersBy_39 : decode cX12_papersBy 39 = .ok (.iconst 0, 1) := by decide +kernel
theorem dX12_papersBy_40 : decode cX12_papersBy 40 = .ok (.istore 8, 2) := by decide +kernel
theorem dX12_papersBy_42 : decode cX12_papersBy 42 = .ok (.iload 8, 2) := by decide +kernel
theorem dX12_papersBy_44 : decode cX12_papersBy 44 = .ok (.aload_n 0, 1) := by decide +kernel
theorem dX12_papersBy_45 : decode cX12_papersBy 45 = .ok (.getfield 9, 3) := by decide +kernel
theorem dX12_papersBy_48 : decode cX12_papersBy 48 = .ok (.bipush 13, 2) := by decide +kernel
theorem dX12_papersBy_50 : decode cX12_papersBy 50 = .ok (.iaload, 1) := by decide +kernel
theorem dX12_papersBy_51 : decode cX12_papersBy 51 = .ok (.if_icmp .ge 48, 3) := by decide +kernel
theorem dX12_papersBy_54 : decode cX12_papersBy 54 = .ok (.iload 7, 2) := by decide +kernel
theorem dX12_papersBy_56 : decode cX12_papersBy 56 = .ok (.ifCond .ne 30, 3) := by decide +kernel
theorem dX12_papersBy_59 : decode cX12_papersBy 59 = .ok (.iload_n 1, 1) := by decide +kernel
theorem dX12_papersBy_60 : decode cX12_papersBy 60 = .ok (.iload 8, 2) := by decide +kernel
theorem dX12_papersBy_62 : decode cX12_papersBy 62 = .ok (.ishr, 1) := by decide +kernel
theorem dX12_papersBy_63 : decode cX12_papersBy 63 = .ok (.iconst 1, 1) := by decide +kernel
theorem dX12_papersBy_64 : decode cX12_papersBy 64 = .ok (.iand, 1) := by decide +kernel
theorem dX12_papersBy_65 : decode cX12_papersBy 65 = .ok (.iconst 1, 1) := by decide +kernel
theorem dX12_papersBy_66 : decode cX12_papersBy 66 = .ok (.if_icmp .ne 24, 3) := by decide +kernel
theorem dX12_papersBy_69 : decode cX12_papersBy 69 = .ok (.aload_n 0, 1) := by decide +kernel
theorem dX12_papersBy_70 : decode cX12_papersBy 70 = .ok (.iload 8, 2) := by decide +kernel
theorem dX12_papersBy_72 : decode cX12_papersBy 72 = .ok (.iload 6, 2) := by decide +kernel
theorem dX12_papersBy_74 : decode cX12_papersBy 74 = .ok (.invokevirtual 154, 3) := by decide +kernel
theorem dX12_papersBy_77 : decode cX12_papersBy 77 = .ok (.iload 4, 2) := by decide +kernel
theorem dX12_papersBy_79 : decode cX12_papersBy 79 = .ok (.ishr, 1) := by decide +kernel
theorem dX12_papersBy_80 : decode cX12_papersBy 80 = .ok (.iconst 1, 1) := by decide +kernel
theorem dX12_papersBy_81 : decode cX12_papersBy 81 = .ok (.iand, 1) := by decide +kernel
theorem dX12_papersBy_82 : decode cX12_papersBy 82 = .ok (.iconst 1, 1) := by decide +kernel
theorem dX12_papersBy_83 : decode cX12_papersBy 83 = .ok (.if_icmp .ne 7, 3) := by decide +kernel
theorem dX12_papersBy_86 : decode cX12_papersBy 86 = .ok (.iconst 1, 1) := by decide +kernel
theorem dX12_papersBy_87 : decode cX12_papersBy 87 = .ok (.goto 4, 3) := by decide +kernel
theorem dX12_papersBy_90 : decode cX12_papersBy 90 = .ok (.iconst 0, 1) := by decide +kernel
theorem dX12_papersBy_91 : decode cX12_papersBy 91 = .ok (.istore 7, 2) := by decide +kernel
theorem dX12_papersBy_93 : decode cX12_papersBy 93 = .ok (.iinc 8 1, 3) := by decide +kernel
theorem dX12_papersBy_96 : decode cX12_papersBy 96 = .ok (.goto (-54), 3) := by decide +kernel
theorem dX12_papersBy_99 : decode cX12_papersBy 99 = .ok (.iload 7, 2) := by decide +kernel
theorem dX12_papersBy_101 : decode cX12_papersBy 101 = .ok (.ifCond .eq 10, 3) := by decide +kernel
theorem dX12_papersBy_104 : decode cX12_papersBy 104 = .ok (.iload 5, 2) := by decide +kernel
theorem dX12_papersBy_106 : decode cX12_papersBy 106 = .ok (.iconst 1, 1) := by decide +kernel
theorem dX12_papersBy_107 : decode cX12_papersBy 107 = .ok (.iadd, 1) := by decide +kernel
theorem dX12_papersBy_108 : decode cX12_papersBy 108 = .ok (.goto 4, 3) := by decide +kernel
theorem dX12_papersBy_111 : decode cX12_papersBy 111 = .ok (.iconst 0, 1) := by decide +kernel
theorem dX12_papersBy_112 : decode cX12_papersBy 112 = .ok (.istore 5, 2) := by decide +kernel
theorem dX12_papersBy_114 : decode cX12_papersBy 114 = .ok (.iload_n 3, 1) := by decide +kernel
theorem dX12_papersBy_115 : decode cX12_papersBy 115 = .ok (.iload 5, 2) := by decide +kernel
theorem dX12_papersBy_117 : decode cX12_papersBy 117 = .ok (.aload_n 0, 1) := by decide +kernel
theorem dX12_papersBy_118 : decode cX12_papersBy 118 = .ok (.invokevirtual 164, 3) := by decide +kernel
theorem dX12_papersBy_121 : decode cX12_papersBy 121 = .ok (.if_icmp .lt 10, 3) := by decide +kernel
theorem dX12_papersBy_124 : decode cX12_papersBy 124 = .ok (.iconst 1, 1) := by decide +kernel
theorem dX12_papersBy_125 : decode cX12_papersBy 125 = .ok (.iload 4, 2) := by decide +kernel
theorem dX12_papersBy_127 : decode cX12_papersBy 127 = .ok (.ishl, 1) := by decide +kernel
theorem dX12_papersBy_128 : decode cX12_papersBy 128 = .ok (.goto 4, 3) := by decide +kernel
theorem dX12_papersBy_131 : decode cX12_papersBy 131 = .ok (.iconst 0, 1) := by decide +kernel
theorem dX12_papersBy_132 : decode cX12_papersBy 132 = .ok (.ior, 1) := by decide +kernel
theorem dX12_papersBy_133 : decode cX12_papersBy 133 = .ok (.istore_n 3, 1) := by decide +kernel
theorem dX12_papersBy_134 : decode cX12_papersBy 134 = .ok (.iinc 6 1, 3) := by decide +kernel
theorem dX12_papersBy_137 : decode cX12_papersBy 137 = .ok (.goto (-114), 3) := by decide +kernel
theorem dX12_papersBy_140 : decode cX12_papersBy 140 = .ok (.iinc 4 1, 3) := by decide +kernel
theorem dX12_papersBy_143 : decode cX12_papersBy 143 = .ok (.goto (-138), 3) := by decide +kernel
theorem dX12_papersBy_146 : decode cX12_papersBy 146 = .ok (.iload_n 3, 1) := by decide +kernel
theorem dX12_papersBy_147 : decode cX12_papersBy 147 = .ok (.ireturn, 1) := by decide +kernel
theorem dX12_papers_0 : decode cX12_papers 0 = .ok (.iload_n 1, 1) := by decide +kernel
theorem dX12_papers_1 : decode cX12_papers 1 = .ok (.iconst 1, 1) := by decide +kernel
theorem dX12_papers_2 : decode cX12_papers 2 = .ok (.bipush 60, 2) := by decide +kernel
theorem dX12_papers_4 : decode cX12_papers 4 = .ok (.invokestatic 41, 3) := by decide +kernel
theorem dX12_papers_7 : decode cX12_papers 7 = .ok (.ifCond .ne 6, 3) := by decide +kernel
theorem dX12_papers_10 : decode cX12_papers 10 = .ok (.bipush (-2), 2) := by decide +kernel
theorem dX12_papers_12 : decode cX12_papers 12 = .ok (.ireturn, 1) := by decide +kernel
theorem dX12_papers_13 : decode cX12_papers 13 = .ok (.iconst 0, 1) := by decide +kernel
theorem dX12_papers_14 : decode cX12_papers 14 = .ok (.istore_n 2, 1) := by decide +kernel
theorem dX12_papers_15 : decode cX12_papers 15 = .ok (.iconst 0, 1) := by decide +kernel
theorem dX12_papers_16 : decode cX12_papers 16 = .ok (.istore_n 3, 1) := by decide +kernel
theorem dX12_papers_17 : decode cX12_papers 17 = .ok (.iload_n 3, 1) := by decide +kernel
theorem dX12_papers_18 : decode cX12_papers 18 = .ok (.aload_n 0, 1) := by decide +kernel
theorem dX12_papers_19 : decode cX12_papers 19 = .ok (.getfield 9, 3) := by decide +kernel
theorem dX12_papers_22 : decode cX12_papers 22 = .ok (.bipush 13, 2) := by decide +kernel
theorem dX12_papers_24 : decode cX12_papers 24 = .ok (.iaload, 1) := by decide +kernel
theorem dX12_papers_25 : decode cX12_papers 25 = .ok (.if_icmp .ge 23, 3) := by decide +kernel
theorem dX12_papers_28 : decode cX12_papers 28 = .ok (.iload_n 2, 1) := by decide +kernel
theorem dX12_papers_29 : decode cX12_papers 29 = .ok (.aload_n 0, 1) := by decide +kernel
theorem dX12_papers_30 : decode cX12_papers 30 = .ok (.getfield 9, 3) := by decide +kernel
theorem dX12_papers_33 : decode cX12_papers 33 = .ok (.bipush 42, 2) := by decide +kernel
theorem dX12_papers_35 : decode cX12_papers 35 = .ok (.iload_n 3, 1) := by decide +kernel
theorem dX12_papers_36 : decode cX12_papers 36 = .ok (.iadd, 1) := by decide +kernel
theorem dX12_papers_37 : decode cX12_papers 37 = .ok (.iaload, 1) := by decide +kernel
theorem dX12_papers_38 : decode cX12_papers 38 = .ok (.iload_n 3, 1) := by decide +kernel
theorem dX12_papers_39 : decode cX12_papers 39 = .ok (.ishl, 1) := by decide +kernel
theorem dX12_papers_40 : decode cX12_papers 40 = .ok (.ior, 1) := by decide +kernel
theorem dX12_papers_41 : decode cX12_papers 41 = .ok (.istore_n 2, 1) := by decide +kernel
theorem dX12_papers_42 : decode cX12_papers 42 = .ok (.iinc 3 1, 3) := by decide +kernel
theorem dX12_papers_45 : decode cX12_papers 45 = .ok (.goto (-28), 3) := by decide +kernel
theorem dX12_papers_48 : decode cX12_papers 48 = .ok (.aload_n 0, 1) := by decide +kernel
theorem dX12_papers_49 : decode cX12_papers 49 = .ok (.iload_n 2, 1) := by decide +kernel
theorem dX12_papers_50 : decode cX12_papers 50 = .ok (.iload_n 1, 1) := by decide +kernel
theorem dX12_papers_51 : decode cX12_papers 51 = .ok (.invokevirtual 222, 3) := by decide +kernel
theorem dX12_papers_54 : decode cX12_papers 54 = .ok (.ireturn, 1) := by decide +kernel
theorem dX12_flown_0 : decode cX12_flown 0 = .ok (.iload_n 1, 1) := by decide +kernel
theorem dX12_flown_1 : decode cX12_flown 1 = .ok (.iconst 0, 1) := by decide +kernel
theorem dX12_flown_2 : decode cX12_flown 2 = .ok (.sipush 1023, 3) := by decide +kernel
theorem dX12_flown_5 : decode cX12_flown 5 = .ok (.invokestatic 41, 3) := by decide +kernel
theorem dX12_flown_8 : decode cX12_flown 8 = .ok (.ifCond .ne 6, 3) := by decide +kernel
theorem dX12_flown_11 : decode cX12_flown 11 = .ok (.bipush (-2), 2) := by decide +kernel
theorem dX12_flown_13 : decode cX12_flown 13 = .ok (.ireturn, 1) := by decide +kernel
theorem dX12_flown_14 : decode cX12_flown 14 = .ok (.aload_n 0, 1) := by decide +kernel
theorem dX12_flown_15 : decode cX12_flown 15 = .ok (.getfield 9, 3) := by decide +kernel
theorem dX12_flown_18 : decode cX12_flown 18 = .ok (.bipush 21, 2) := by decide +kernel
theorem dX12_flown_20 : decode cX12_flown 20 = .ok (.iaload, 1) := by decide +kernel
theorem dX12_flown_21 : decode cX12_flown 21 = .ok (.istore_n 2, 1) := by decide +kernel
theorem dX12_flown_22 : decode cX12_flown 22 = .ok (.aload_n 0, 1) := by decide +kernel
theorem dX12_flown_23 : decode cX12_flown 23 = .ok (.getfield 9, 3) := by decide +kernel
theorem dX12_flown_26 : decode cX12_flown 26 = .ok (.bipush 21, 2) := by decide +kernel
theorem dX12_flown_28 : decode cX12_flown 28 = .ok (.iload_n 1, 1) := by decide +kernel
theorem dX12_flown_29 : decode cX12_flown 29 = .ok (.iastore, 1) := by decide +kernel
theorem dX12_flown_30 : decode cX12_flown 30 = .ok (.iload_n 2, 1) := by decide +kernel
theorem dX12_flown_31 : decode cX12_flown 31 = .ok (.ireturn, 1) := by decide +kernel
theorem dX12_which_0 : decode cX12_which 0 = .ok (.iload_n 1, 1) := by decide +kernel
theorem dX12_which_1 : decode cX12_which 1 = .ok (.iconst 1, 1) := by decide +kernel
theorem dX12_which_2 : decode cX12_which 2 = .ok (.bipush 60, 2) := by decide +kernel
theorem dX12_which_4 : decode cX12_which 4 = .ok (.invokestatic 41, 3) := by decide +kernel
theorem dX12_which_7 : decode cX12_which 7 = .ok (.ifCond .ne 6, 3) := by decide +kernel
theorem dX12_which_10 : decode cX12_which 10 = .ok (.bipush (-2), 2) := by decide +kernel
theorem dX12_which_12 : decode cX12_which 12 = .ok (.ireturn, 1) := by decide +kernel
theorem dX12_which_13 : decode cX12_which 13 = .ok (.iconst 0, 1) := by decide +kernel
theorem dX12_which_14 : decode cX12_which 14 = .ok (.istore_n 2, 1) := by decide +kernel
theorem dX12_which_15 : decode cX12_which 15 = .ok (.iconst 0, 1) := by decide +kernel
theorem dX12_which_16 : decode cX12_which 16 = .ok (.istore_n 3, 1) := by decide +kernel
theorem dX12_which_17 : decode cX12_which 17 = .ok (.iload_n 3, 1) := by decide +kernel
theorem dX12_which_18 : decode cX12_which 18 = .ok (.aload_n 0, 1) := by decide +kernel
theorem dX12_which_19 : decode cX12_which 19 = .ok (.getfield 9, 3) := by decide +kernel
theorem dX12_which_22 : decode cX12_which 22 = .ok (.bipush 13, 2) := by decide +kernel
theorem dX12_which_24 : decode cX12_which 24 = .ok (.iaload, 1) := by decide +kernel
theorem dX12_which_25 : decode cX12_which 25 = .ok (.if_icmp .ge 37, 3) := by decide +kernel
theorem dX12_which_28 : decode cX12_which 28 = .ok (.iload_n 2, 1) := by decide +kernel
theorem dX12_which_29 : decode cX12_which 29 = .ok (.aload_n 0, 1) := by decide +kernel
theorem dX12_which_30 : decode cX12_which 30 = .ok (.iconst 1, 1) := by decide +kernel
theorem dX12_which_31 : decode cX12_which 31 = .ok (.iload_n 3, 1) := by decide +kernel
theorem dX12_which_32 : decode cX12_which 32 = .ok (.ishl, 1) := by decide +kernel
theorem dX12_which_33 : decode cX12_which 33 = .ok (.iload_n 1, 1) := by decide +kernel
theorem dX12_which_34 : decode cX12_which 34 = .ok (.invokevirtual 222, 3) := by decide +kernel
theorem dX12_which_37 : decode cX12_which 37 = .ok (.aload_n 0, 1) := by decide +kernel
theorem dX12_which_38 : decode cX12_which 38 = .ok (.getfield 9, 3) := by decide +kernel
theorem dX12_which_41 : decode cX12_which 41 = .ok (.bipush 21, 2) := by decide +kernel
theorem dX12_which_43 : decode cX12_which 43 = .ok (.iaload, 1) := by decide +kernel
theorem dX12_which_44 : decode cX12_which 44 = .ok (.if_icmp .ne 9, 3) := by decide +kernel
theorem dX12_which_47 : decode cX12_which 47 = .ok (.iconst 1, 1) := by decide +kernel
theorem dX12_which_48 : decode cX12_which 48 = .ok (.iload_n 3, 1) := by decide +kernel
theorem dX12_which_49 : decode cX12_which 49 = .ok (.ishl, 1) := by decide +kernel
theorem dX12_which_50 : decode cX12_which 50 = .ok (.goto 4, 3) := by decide +kernel
theorem dX12_which_53 : decode cX12_which 53 = .ok (.iconst 0, 1) := by decide +kernel
theorem dX12_which_54 : decode cX12_which 54 = .ok (.ior, 1) := by decide +kernel
theorem dX12_which_55 : decode cX12_which 55 = .ok (.istore_n 2, 1) := by decide +kernel
theorem dX12_which_56 : decode cX12_which 56 = .ok (.iinc 3 1, 3) := by decide +kernel
theorem dX12_which_59 : decode cX12_which 59 = .ok (.goto (-42), 3) := by decide +kernel
theorem dX12_which_62 : decode cX12_which 62 = .ok (.iload_n 2, 1) := by decide +kernel
theorem dX12_which_63 : decode cX12_which 63 = .ok (.ireturn, 1) := by decide +kernel
theorem dX12_see_0 : decode cX12_see 0 = .ok (.iload_n 1, 1) := by decide +kernel
theorem dX12_see_1 : decode cX12_see 1 = .ok (.iconst (-1), 1) := by decide +kernel
theorem dX12_see_2 : decode cX12_see 2 = .ok (.if_icmp .ne 13, 3) := by decide +kernel
theorem dX12_see_5 : decode cX12_see 5 = .ok (.aload_n 0, 1) := by decide +kernel
theorem dX12_see_6 : decode cX12_see 6 = .ok (.getfield 9, 3) := by decide +kernel
theorem dX12_see_9 : decode cX12_see 9 = .ok (.bipush 16, 2) := by decide +kernel
theorem dX12_see_11 : decode cX12_see 11 = .ok (.iconst 0, 1) := by decide +kernel
theorem dX12_see_12 : decode cX12_see 12 = .ok (.iastore, 1) := by decide +kernel
theorem dX12_see_13 : decode cX12_see 13 = .ok (.iconst 0, 1) := by decide +kernel
theorem dX12_see_14 : decode cX12_see 14 = .ok (.ireturn, 1) := by decide +kernel
theorem dX12_see_15 : decode cX12_see 15 = .ok (.aload_n 0, 1) := by decide +kernel
theorem dX12_see_16 : decode cX12_see 16 = .ok (.iload_n 1, 1) := by decide +kernel
theorem dX12_see_17 : decode cX12_see 17 = .ok (.invokevirtual 157, 3) := by decide +kernel
theorem dX12_see_20 : decode cX12_see 20 = .ok (.ifCond .ne 5, 3) := by decide +kernel
theorem dX12_see_23 : decode cX12_see 23 = .ok (.iconst (-1), 1) := by decide +kernel
theorem dX12_see_24 : decode cX12_see 24 = .ok (.ireturn, 1) := by decide +kernel
theorem dX12_see_25 : decode cX12_see 25 = .ok (.iload_n 2, 1) := by decide +kernel
theorem dX12_see_26 : decode cX12_see 26 = .ok (.iconst 0, 1) := by decide +kernel
theorem dX12_see_27 : decode cX12_see 27 = .ok (.bipush 60, 2) := by decide +kernel
theorem dX12_see_29 : decode cX12_see 29 = .ok (.invokestatic 41, 3) := by decide +kernel
theorem dX12_see_32 : decode cX12_see 32 = .ok (.ifCond .eq 13, 3) := by decide +kernel
theorem dX12_see_35 : decode cX12_see 35 = .ok (.iload_n 3, 1) := by decide +kernel
theorem dX12_see_36 : decode cX12_see 36 = .ok (.iconst 0, 1) := by decide +kernel
theorem dX12_see_37 : decode cX12_see 37 = .ok (.bipush 99, 2) := by decide +kernel
theorem dX12_see_39 : decode cX12_see 39 = .ok (.invokestatic 41, 3) := by decide +kernel
theorem dX12_see_42 : decode cX12_see 42 = .ok (.ifCond .ne 6, 3) := by decide +kernel
theorem dX12_see_45 : decode cX12_see 45 = .ok (.bipush (-2), 2) := by decide +kernel
theorem dX12_see_47 : decode cX12_see 47 = .ok (.ireturn, 1) := by decide +kernel
theorem dX12_see_48 : decode cX12_see 48 = .ok (.aload_n 0, 1) := by decide +kernel
theorem dX12_see_49 : decode cX12_see 49 = .ok (.getfield 9, 3) := by decide +kernel
theorem dX12_see_52 : decode cX12_see 52 = .ok (.bipush 16, 2) := by decide +kernel
theorem dX12_see_54 : decode cX12_see 54 = .ok (.iaload, 1) := by decide +kernel
theorem dX12_see_55 : decode cX12_see 55 = .ok (.bipush 6, 2) := by decide +kernel
theorem dX12_see_57 : decode cX12_see 57 = .ok (.if_icmp .ne 6, 3) := by decide +kernel
theorem dX12_see_60 : decode cX12_see 60 = .ok (.bipush (-4), 2) := by decide +kernel
theorem dX12_see_62 : decode cX12_see 62 = .ok (.ireturn, 1) := by decide +kernel
theorem dX12_see_63 : decode cX12_see 63 = .ok (.aload_n 0, 1) := by decide +kernel
theorem dX12_see_64 : decode cX12_see 64 = .ok (.getfield 9, 3) := by decide +kernel
theorem dX12_see_67 : decode cX12_see 67 = .ok (.bipush 68, 2) := by decide +kernel
theorem dX12_see_69 : decode cX12_see 69 = .ok (.aload_n 0, 1) := by decide +kernel
theorem dX12_see_70 : decode cX12_see 70 = .ok (.getfield 9, 3) := by decide +kernel
theorem dX12_see_73 : decode cX12_see 73 = .ok (.bipush 16, 2) := by decide +kernel
theorem dX12_see_75 : decode cX12_see 75 = .ok (.iaload, 1) := by decide +kernel
theorem dX12_see_76 : decode cX12_see 76 = .ok (.iadd, 1) := by decide +kernel
theorem dX12_see_77 : decode cX12_see 77 = .ok (.iload_n 1, 1) := by decide +kernel
theorem dX12_see_78 : decode cX12_see 78 = .ok (.iastore, 1) := by decide +kernel
theorem dX12_see_79 : decode cX12_see 79 = .ok (.aload_n 0, 1) := by decide +kernel
theorem dX12_see_80 : decode cX12_see 80 = .ok (.getfield 9, 3) := by decide +kernel
theorem dX12_see_83 : decode cX12_see 83 = .ok (.bipush 74, 2) := by decide +kernel
theorem dX12_see_85 : decode cX12_see 85 = .ok (.aload_n 0, 1) := by decide +kernel
theorem dX12_see_86 : decode cX12_see 86 = .ok (.getfield 9, 3) := by decide +kernel
theorem dX12_see_89 : decode cX12_see 89 = .ok (.bipush 16, 2) := by decide +kernel
theorem dX12_see_91 : decode cX12_see 91 = .ok (.iaload, 1) := by decide +kernel
theorem dX12_see_92 : decode cX12_see 92 = .ok (.iadd, 1) := by decide +kernel
theorem dX12_see_93 : decode cX12_see 93 = .ok (.iload_n 2, 1) := by decide +kernel
theorem dX12_see_94 : decode cX12_see 94 = .ok (.iastore, 1) := by decide +kernel
theorem dX12_see_95 : decode cX12_see 95 = .ok (.aload_n 0, 1) := by decide +kernel
theorem dX12_see_96 : decode cX12_see 96 = .ok (.getfield 9, 3) := by decide +kernel
theorem dX12_see_99 : decode cX12_see 99 = .ok (.bipush 80, 2) := by decide +kernel
theorem dX12_see_101 : decode cX12_see 101 = .ok (.aload_n 0, 1) := by decide +kernel
theorem dX12_see_102 : decode cX12_see 102 = .ok (.getfield 9, 3) := by decide +kernel
theorem dX12_see_105 : decode cX12_see 105 = .ok (.bipush 16, 2) := by decide +kernel
theorem dX12_see_107 : decode cX12_see 107 = .ok (.iaload, 1) := by decide +kernel
theorem dX12_see_108 : decode cX12_see 108 = .ok (.iadd, 1) := by decide +kernel
theorem dX12_see_109 : decode cX12_see 109 = .ok (.iload_n 3, 1) := by decide +kernel
theorem dX12_see_110 : decode cX12_see 110 = .ok (.iastore, 1) := by decide +kernel
theorem dX12_see_111 : decode cX12_see 111 = .ok (.aload_n 0, 1) := by decide +kernel
theorem dX12_see_112 : decode cX12_see 112 = .ok (.getfield 9, 3) := by decide +kernel
theorem dX12_see_115 : decode cX12_see 115 = .ok (.bipush 16, 2) := by decide +kernel
theorem dX12_see_117 : decode cX12_see 117 = .ok (.dup2, 1) := by decide +kernel
theorem dX12_see_118 : decode cX12_see 118 = .ok (.iaload, 1) := by decide +kernel
theorem dX12_see_119 : decode cX12_see 119 = .ok (.iconst 1, 1) := by decide +kernel
theorem dX12_see_120 : decode cX12_see 120 = .ok (.iadd, 1) := by decide +kernel
theorem dX12_see_121 : decode cX12_see 121 = .ok (.iastore, 1) := by decide +kernel
theorem dX12_see_122 : decode cX12_see 122 = .ok (.aload_n 0, 1) := by decide +kernel
theorem dX12_see_123 : decode cX12_see 123 = .ok (.getfield 9, 3) := by decide +kernel
theorem dX12_see_126 : decode cX12_see 126 = .ok (.bipush 16, 2) := by decide +kernel
theorem dX12_see_128 : decode cX12_see 128 = .ok (.iaload, 1) := by decide +kernel
theorem dX12_see_129 : decode cX12_see 129 = .ok (.ireturn, 1) := by decide +kernel
theorem dX12_isAsSeen_0 : decode cX12_isAsSeen 0 = .ok (.iconst 0, 1) := by decide +kernel
theorem dX12_isAsSeen_1 : decode cX12_isAsSeen 1 = .ok (.istore_n 3, 1) := by decide +kernel
theorem dX12_isAsSeen_2 : decode cX12_isAsSeen 2 = .ok (.iload_n 3, 1) := by decide +kernel
theorem dX12_isAsSeen_3 : decode cX12_isAsSeen 3 = .ok (.aload_n 0, 1) := by decide +kernel
theorem dX12_isAsSeen_4 : decode cX12_isAsSeen 4 = .ok (.getfield 9, 3) := by decide +kernel
theorem dX12_isAsSeen_7 : decode cX12_isAsSeen 7 = .ok (.bipush 16, 2) := by decide +kernel
theorem dX12_isAsSeen_9 : decode cX12_isAsSeen 9 = .ok (.iaload, 1) := by decide +kernel
theorem dX12_isAsSeen_10 : decode cX12_isAsSeen 10 = .ok (.if_icmp .ge 51, 3) := by decide +kernel
theorem dX12_isAsSeen_13 : decode cX12_isAsSeen 13 = .ok (.aload_n 0, 1) := by decide +kernel
theorem dX12_isAsSeen_14 : decode cX12_isAsSeen 14 = .ok (.getfield 9, 3) := by decide +kernel
theorem dX12_isAsSeen_17 : decode cX12_isAsSeen 17 = .ok (.bipush 68, 2) := by decide +kernel
theorem dX12_isAsSeen_19 : decode cX12_isAsSeen 19 = .ok (.iload_n 3, 1) := by decide +kernel
theorem dX12_isAsSeen_20 : decode cX12_isAsSeen 20 = .ok (.iadd, 1) := by decide +kernel
theorem dX12_isAsSeen_21 : decode cX12_isAsSeen 21 = .ok (.iaload, 1) := by decide +kernel
theorem dX12_isAsSeen_22 : decode cX12_isAsSeen 22 = .ok (.iload_n 1, 1) := by decide +kernel
theorem dX12_isAsSeen_23 : decode cX12_isAsSeen 23 = .ok (.if_icmp .ne 32, 3) := by decide +kernel
theorem dX12_isAsSeen_26 : decode cX12_isAsSeen 26 = .ok (.aload_n 0, 1) := by decide +kernel
theorem dX12_isAsSeen_27 : decode cX12_isAsSeen 27 = .ok (.iload_n 1, 1) := by decide +kernel
theorem dX12_isAsSeen_28 : decode cX12_isAsSeen 28 = .ok (.iload_n 2, 1) := by decide +kernel
theorem dX12_isAsSeen_29 : decode cX12_isAsSeen 29 = .ok (.aload_n 0, 1) := by decide +kernel
theorem dX12_isAsSeen_30 : decode cX12_isAsSeen 30 = .ok (.getfield 9, 3) := by decide +kernel
theorem dX12_isAsSeen_33 : decode cX12_isAsSeen 33 = .ok (.bipush 74, 2) := by decide +kernel
theorem dX12_isAsSeen_35 : decode cX12_isAsSeen 35 = .ok (.iload_n 3, 1) := by decide +kernel
theorem dX12_isAsSeen_36 : decode cX12_isAsSeen 36 = .ok (.iadd, 1) := by decide +kernel
theorem dX12_isAsSeen_37 : decode cX12_isAsSeen 37 = .ok (.iaload, 1) := by decide +kernel
theorem dX12_isAsSeen_38 : decode cX12_isAsSeen 38 = .ok (.invokevirtual 200, 3) := by decide +kernel
theorem dX12_isAsSeen_41 : decode cX12_isAsSeen 41 = .ok (.aload_n 0, 1) := by decide +kernel
theorem dX12_isAsSeen_42 : decode cX12_isAsSeen 42 = .ok (.getfield 9, 3) := by decide +kernel
theorem dX12_isAsSeen_45 : decode cX12_isAsSeen 45 = .ok (.bipush 80, 2) := by decide +kernel
theorem dX12_isAsSeen_47 : decode cX12_isAsSeen 47 = .ok (.iload_n 3, 1) := by decide +kernel
theorem dX12_isAsSeen_48 : decode cX12_isAsSeen 48 = .ok (.iadd, 1) := by decide +kernel
theorem dX12_isAsSeen_49 : decode cX12_isAsSeen 49 = .ok (.iaload, 1) := by decide +kernel
theorem dX12_isAsSeen_50 : decode cX12_isAsSeen 50 = .ok (.if_icmp .eq 5, 3) := by decide +kernel
theorem dX12_isAsSeen_53 : decode cX12_isAsSeen 53 = .ok (.iconst 0, 1) := by decide +kernel
theorem dX12_isAsSeen_54 : decode cX12_isAsSeen 54 = .ok (.ireturn, 1) := by decide +kernel
theorem dX12_isAsSeen_55 : decode cX12_isAsSeen 55 = .ok (.iinc 3 1, 3) := by decide +kernel
theorem dX12_isAsSeen_58 : decode cX12_isAsSeen 58 = .ok (.goto (-56), 3) := by decide +kernel
theorem dX12_isAsSeen_61 : decode cX12_isAsSeen 61 = .ok (.iconst 1, 1) := by decide +kernel
theorem dX12_isAsSeen_62 : decode cX12_isAsSeen 62 = .ok (.ireturn, 1) := by decide +kernel
theorem dX12_sat_0 : decode cX12_sat 0 = .ok (.aload_n 0, 1) := by decide +kernel
theorem dX12_sat_1 : decode cX12_sat 1 = .ok (.iload_n 1, 1) := by decide +kernel
theorem dX12_sat_2 : decode cX12_sat 2 = .ok (.invokevirtual 157, 3) := by decide +kernel
theorem dX12_sat_5 : decode cX12_sat 5 = .ok (.ifCond .ne 5, 3) := by decide +kernel
theorem dX12_sat_8 : decode cX12_sat 8 = .ok (.iconst (-1), 1) := by decide +kernel
theorem dX12_sat_9 : decode cX12_sat 9 = .ok (.ireturn, 1) := by decide +kernel
theorem dX12_sat_10 : decode cX12_sat 10 = .ok (.iconst 0, 1) := by decide +kernel
theorem dX12_sat_11 : decode cX12_sat 11 = .ok (.istore_n 2, 1) := by decide +kernel
theorem dX12_sat_12 : decode cX12_sat 12 = .ok (.iconst 0, 1) := by decide +kernel
theorem dX12_sat_13 : decode cX12_sat 13 = .ok (.istore_n 3, 1) := by decide +kernel
theorem dX12_sat_14 : decode cX12_sat 14 = .ok (.iload_n 3, 1) := by decide +kernel
theorem dX12_sat_15 : decode cX12_sat 15 = .ok (.bipush 10, 2) := by decide +kernel
theorem dX12_sat_17 : decode cX12_sat 17 = .ok (.if_icmp .ge 28, 3) := by decide +kernel
theorem dX12_sat_20 : decode cX12_sat 20 = .ok (.iload_n 2, 1) := by decide +kernel
theorem dX12_sat_21 : decode cX12_sat 21 = .ok (.aload_n 0, 1) := by decide +kernel
theorem dX12_sat_22 : decode cX12_sat 22 = .ok (.iload_n 1, 1) := by decide +kernel
theorem dX12_sat_23 : decode cX12_sat 23 = .ok (.iload_n 3, 1) := by decide +kernel
theorem dX12_sat_24 : decode cX12_sat 24 = .ok (.invokevirtual 225, 3) := by decide +kernel
theorem dX12_sat_27 : decode cX12_sat 27 = .ok (.ifCond .eq 9, 3) := by decide +kernel
theorem dX12_sat_30 : decode cX12_sat 30 = .ok (.iconst 1, 1) := by decide +kernel
theorem dX12_sat_31 : decode cX12_sat 31 = .ok (.iload_n 3, 1) := by decide +kernel
theorem dX12_sat_32 : decode cX12_sat 32 = .ok (.ishl, 1) := by decide +kernel
theorem dX12_sat_33 : decode cX12_sat 33 = .ok (.goto 4, 3) := by decide +kernel
theorem dX12_sat_36 : decode cX12_sat 36 = .ok (.iconst 0, 1) := by decide +kernel
theorem dX12_sat_37 : decode cX12_sat 37 = .ok (.ior, 1) := by decide +kernel
theorem dX12_sat_38 : decode cX12_sat 38 = .ok (.istore_n 2, 1) := by decide +kernel
theorem dX12_sat_39 : decode cX12_sat 39 = .ok (.iinc 3 1, 3) := by decide +kernel
theorem dX12_sat_42 : decode cX12_sat 42 = .ok (.goto (-28), 3) := by decide +kernel
theorem dX12_sat_45 : decode cX12_sat 45 = .ok (.iload_n 2, 1) := by decide +kernel
theorem dX12_sat_46 : decode cX12_sat 46 = .ok (.ireturn, 1) := by decide +kernel
theorem dX12_lowest_0 : decode cX12_lowest 0 = .ok (.lload_n 0, 1) := by decide +kernel
theorem dX12_lowest_1 : decode cX12_lowest 1 = .ok (.lstore 5, 2) := by decide +kernel
theorem dX12_lowest_3 : decode cX12_lowest 3 = .ok (.lload_n 2, 1) := by decide +kernel
theorem dX12_lowest_4 : decode cX12_lowest 4 = .ok (.lstore 7, 2) := by decide +kernel
theorem dX12_lowest_6 : decode cX12_lowest 6 = .ok (.lload 7, 2) := by decide +kernel
theorem dX12_lowest_8 : decode cX12_lowest 8 = .ok (.lconst 0, 1) := by decide +kernel
theorem dX12_lowest_9 : decode cX12_lowest 9 = .ok (.lcmp, 1) := by decide +kernel
theorem dX12_lowest_10 : decode cX12_lowest 10 = .ok (.ifCond .eq 21, 3) := by decide +kernel
theorem dX12_lowest_13 : decode cX12_lowest 13 = .ok (.lload 5, 2) := by decide +kernel
theorem dX12_lowest_15 : decode cX12_lowest 15 = .ok (.lload 7, 2) := by decide +kernel
theorem dX12_lowest_17 : decode cX12_lowest 17 = .ok (.lrem, 1) := by decide +kernel
theorem dX12_lowest_18 : decode cX12_lowest 18 = .ok (.lstore 9, 2) := by decide +kernel
theorem dX12_lowest_20 : decode cX12_lowest 20 = .ok (.lload 7, 2) := by decide +kernel
theorem dX12_lowest_22 : decode cX12_lowest 22 = .ok (.lstore 5, 2) := by decide +kernel
theorem dX12_lowest_24 : decode cX12_lowest 24 = .ok (.lload 9, 2) := by decide +kernel
theorem dX12_lowest_26 : decode cX12_lowest 26 = .ok (.lstore 7, 2) := by decide +kernel
theorem dX12_lowest_28 : decode cX12_lowest 28 = .ok (.goto (-22), 3) := by decide +kernel
theorem dX12_lowest_31 : decode cX12_lowest 31 = .ok (.iload 4, 2) := by decide +kernel
theorem dX12_lowest_33 : decode cX12_lowest 33 = .ok (.ifCond .ne 7, 3) := by decide +kernel
theorem dX12_lowest_36 : decode cX12_lowest 36 = .ok (.lload_n 0, 1) := by decide +kernel
theorem dX12_lowest_37 : decode cX12_lowest 37 = .ok (.goto 4, 3) := by decide +kernel
theorem dX12_lowest_40 : decode cX12_lowest 40 = .ok (.lload_n 2, 1) := by decide +kernel
theorem dX12_lowest_41 : decode cX12_lowest 41 = .ok (.lload 5, 2) := by decide +kernel
theorem dX12_lowest_43 : decode cX12_lowest 43 = .ok (.ldiv, 1) := by decide +kernel
theorem dX12_lowest_44 : decode cX12_lowest 44 = .ok (.lreturn, 1) := by decide +kernel
theorem dX12_odds_0 : decode cX12_odds 0 = .ok (.aload_n 0, 1) := by decide +kernel
theorem dX12_odds_1 : decode cX12_odds 1 = .ok (.iload_n 1, 1) := by decide +kernel
theorem dX12_odds_2 : decode cX12_odds 2 = .ok (.invokevirtual 157, 3) := by decide +kernel
theorem dX12_odds_5 : decode cX12_odds 5 = .ok (.ifCond .eq 22, 3) := by decide +kernel
theorem dX12_odds_8 : decode cX12_odds 8 = .ok (.iload_n 2, 1) := by decide +kernel
theorem dX12_odds_9 : decode cX12_odds 9 = .ok (.iconst 1, 1) := by decide +kernel
theorem dX12_odds_10 : decode cX12_odds 10 = .ok (.bipush 30, 2) := by decide +kernel
theorem dX12_odds_12 : decode cX12_odds 12 = .ok (.invokestatic 41, 3) := by decide +kernel
theorem dX12_odds_15 : decode cX12_odds 15 = .ok (.ifCond .eq 12, 3) := by decide +kernel
theorem dX12_odds_18 : decode cX12_odds 18 = .ok (.iload_n 3, 1) := by decide +kernel
theorem dX12_odds_19 : decode cX12_odds 19 = .ok (.iconst 0, 1) := by decide +kernel
theorem dX12_odds_20 : decode cX12_odds 20 = .ok (.iconst 1, 1) := by decide +kernel
theorem dX12_odds_21 : decode cX12_odds 21 = .ok (.invokestatic 41, 3) := by decide +kernel
theorem dX12_odds_24 : decode cX12_odds 24 = .ok (.ifCond .ne 7, 3) := by decide +kernel
theorem dX12_odds_27 : decode cX12_odds 27 = .ok (.ldc2_w 229, 3) := by decide +kernel
theorem dX12_odds_30 : decode cX12_odds 30 = .ok (.lreturn, 1) := by decide +kernel
theorem dX12_odds_31 : decode cX12_odds 31 = .ok (.aload_n 0, 1) := by decide +kernel
theorem dX12_odds_32 : decode cX12_odds 32 = .ok (.getfield 9, 3) := by decide +kernel
theorem dX12_odds_35 : decode cX12_odds 35 = .ok (.iconst 0, 1) := by decide +kernel
theorem dX12_odds_36 : decode cX12_odds 36 = .ok (.iaload, 1) := by decide +kernel
theorem dX12_odds_37 : decode cX12_odds 37 = .ok (.istore 4, 2) := by decide +kernel
theorem dX12_odds_39 : decode cX12_odds 39 = .ok (.lconst 0, 1) := by decide +kernel
theorem dX12_odds_40 : decode cX12_odds 40 = .ok (.lstore 5, 2) := by decide +kernel
theorem dX12_odds_42 : decode cX12_odds 42 = .ok (.iconst 0, 1) := by decide +kernel
theorem dX12_odds_43 : decode cX12_odds 43 = .ok (.istore 7, 2) := by decide +kernel
theorem dX12_odds_45 : decode cX12_odds 45 = .ok (.iload 7, 2) := by decide +kernel
theorem dX12_odds_47 : decode cX12_odds 47 = .ok (.bipush 20, 2) := by decide +kernel
theorem dX12_odds_49 : decode cX12_odds 49 = .ok (.if_icmp .ge 74, 3) := by decide +kernel
theorem dX12_odds_52 : decode cX12_odds 52 = .ok (.iconst 0, 1) := by decide +kernel
theorem dX12_odds_53 : decode cX12_odds 53 = .ok (.istore 8, 2) := by decide +kernel
theorem dX12_odds_55 : decode cX12_odds 55 = .ok (.iload 7, 2) := by decide +kernel
theorem dX12_odds_57 : decode cX12_odds 57 = .ok (.istore 9, 2) := by decide +kernel
theorem dX12_odds_59 : decode cX12_odds 59 = .ok (.iload 9, 2) := by decide +kernel
theorem dX12_odds_61 : decode cX12_odds 61 = .ok (.iload 7, 2) := by decide +kernel
theorem dX12_odds_63 : decode cX12_odds 63 = .ok (.iload_n 2, 1) := by decide +kernel
theorem dX12_odds_64 : decode cX12_odds 64 = .ok (.iadd, 1) := by decide +kernel
theorem dX12_odds_65 : decode cX12_odds 65 = .ok (.if_icmp .ge 37, 3) := by decide +kernel
theorem dX12_odds_68 : decode cX12_odds 68 = .ok (.aload_n 0, 1) := by decide +kernel
theorem dX12_odds_69 : decode cX12_odds 69 = .ok (.getfield 9, 3) := by decide +kernel
theorem dX12_odds_72 : decode cX12_odds 72 = .ok (.iconst 0, 1) := by decide +kernel
theorem dX12_odds_73 : decode cX12_odds 73 = .ok (.iload 9, 2) := by decide +kernel
theorem dX12_odds_75 : decode cX12_odds 75 = .ok (.iastore, 1) := by decide +kernel
theorem dX12_odds_76 : decode cX12_odds 76 = .ok (.iload 8, 2) := by decide +kernel
theorem dX12_odds_78 : decode cX12_odds 78 = .ok (.ifCond .ne 11, 3) := by decide +kernel
theorem dX12_odds_81 : decode cX12_odds 81 = .ok (.aload_n 0, 1) := by decide +kernel
theorem dX12_odds_82 : decode cX12_odds 82 = .ok (.iload_n 1, 1) := by decide +kernel
theorem dX12_odds_83 : decode cX12_odds 83 = .ok (.invokevirtual 160, 3) := by decide +kernel
theorem dX12_odds_86 : decode cX12_odds 86 = .ok (.ifCond .eq 7, 3) := by decide +kernel
theorem dX12_odds_89 : decode cX12_odds 89 = .ok (.iconst 1, 1) := by decide +kernel
theorem dX12_odds_90 : decode cX12_odds 90 = .ok (.goto 4, 3) := by decide +kernel
theorem dX12_odds_93 : decode cX12_odds 93 = .ok (.iconst 0, 1) := by decide +kernel
theorem dX12_odds_94 : decode cX12_odds 94 = .ok (.istore 8, 2) := by decide +kernel
theorem dX12_odds_96 : decode cX12_odds 96 = .ok (.iinc 9 1, 3) := by decide +kernel
theorem dX12_odds_99 : decode cX12_odds 99 = .ok (.goto (-40), 3) := by decide +kernel
theorem dX12_odds_102 : decode cX12_odds 102 = .ok (.lload 5, 2) := by decide +kernel
theorem dX12_odds_104 : decode cX12_odds 104 = .ok (.iload 8, 2) := by decide +kernel
theorem dX12_odds_106 : decode cX12_odds 106 = .ok (.ifCond .eq 7, 3) := by decide +kernel
theorem dX12_odds_109 : decode cX12_odds 109 = .ok (.lconst 1, 1) := by decide +kernel
theorem dX12_odds_110 : decode cX12_odds 110 = .ok (.goto 4, 3) := by decide +kernel
theorem dX12_odds_113 : decode cX12_odds 113 = .ok (.lconst 0, 1) := by decide +kernel
theorem dX12_odds_114 : decode cX12_odds 114 = .ok (.ladd, 1) := by decide +kernel
theorem dX12_odds_115 : decode cX12_odds 115 = .ok (.lstore 5, 2) := by decide +kernel
theorem dX12_odds_117 : decode cX12_odds 117 = .ok (.iinc 7 1, 3) := by decide +kernel
theorem dX12_odds_120 : decode cX12_odds 120 = .ok (.goto (-75), 3) := by decide +kernel
theorem dX12_odds_123 : decode cX12_odds 123 = .ok (.aload_n 0, 1) := by decide +kernel
theorem dX12_odds_124 : decode cX12_odds 124 = .ok (.getfield 9, 3) := by decide +kernel
theorem dX12_odds_127 : decode cX12_odds 127 = .ok (.iconst 0, 1) := by decide +kernel
theorem dX12_odds_128 : decode cX12_odds 128 = .ok (.iload 4, 2) := by decide +kernel
theorem dX12_odds_130 : decode cX12_odds 130 = .ok (.iastore, 1) := by decide +kernel
theorem dX12_odds_131 : decode cX12_odds 131 = .ok (.lload 5, 2) := by decide +kernel
theorem dX12_odds_133 : decode cX12_odds 133 = .ok (.ldc2_w 231, 3) := by decide +kernel
theorem dX12_odds_136 : decode cX12_odds 136 = .ok (.iload_n 3, 1) := by decide +kernel
theorem dX12_odds_137 : decode cX12_odds 137 = .ok (.invokestatic 233, 3) := by decide +kernel
theorem dX12_odds_140 : decode cX12_odds 140 = .ok (.lreturn, 1) := by decide +kernel
theorem dX12_mean_0 : decode cX12_mean 0 = .ok (.aload_n 0, 1) := by decide +kernel
theorem dX12_mean_1 : decode cX12_mean 1 = .ok (.iload_n 1, 1) := by decide +kernel
theorem dX12_mean_2 : decode cX12_mean 2 = .ok (.invokevirtual 151, 3) := by decide +kernel
theorem dX12_mean_5 : decode cX12_mean 5 = .ok (.ifCond .eq 22, 3) := by decide +kernel
theorem dX12_mean_8 : decode cX12_mean 8 = .ok (.iload_n 2, 1) := by decide +kernel
theorem dX12_mean_9 : decode cX12_mean 9 = .ok (.iconst 1, 1) := by decide +kernel
theorem dX12_mean_10 : decode cX12_mean 10 = .ok (.bipush 60, 2) := by decide +kernel
theorem dX12_mean_12 : decode cX12_mean 12 = .ok (.invokestatic 41, 3) := by decide +kernel
theorem dX12_mean_15 : decode cX12_mean 15 = .ok (.ifCond .eq 12, 3) := by decide +kernel
theorem dX12_mean_18 : decode cX12_mean 18 = .ok (.iload_n 3, 1) := by decide +kernel
theorem dX12_mean_19 : decode cX12_mean 19 = .ok (.iconst 0, 1) := by decide +kernel
theorem dX12_mean_20 : decode cX12_mean 20 = .ok (.iconst 1, 1) := by decide +kernel
theorem dX12_mean_21 : decode cX12_mean 21 = .ok (.invokestatic 41, 3) := by decide +kernel
theorem dX12_mean_24 : decode cX12_mean 24 = .ok (.ifCond .ne 7, 3) := by decide +kernel
theorem dX12_mean_27 : decode cX12_mean 27 = .ok (.ldc2_w 229, 3) := by decide +kernel
theorem dX12_mean_30 : decode cX12_mean 30 = .ok (.lreturn, 1) := by decide +kernel
theorem dX12_mean_31 : decode cX12_mean 31 = .ok (.lconst 0, 1) := by decide +kernel
theorem dX12_mean_32 : decode cX12_mean 32 = .ok (.lstore 4, 2) := by decide +kernel
theorem dX12_mean_34 : decode cX12_mean 34 = .ok (.aload_n 0, 1) := by decide +kernel
theorem dX12_mean_35 : decode cX12_mean 35 = .ok (.getfield 9, 3) := by decide +kernel
theorem dX12_mean_38 : decode cX12_mean 38 = .ok (.iconst 0, 1) := by decide +kernel
theorem dX12_mean_39 : decode cX12_mean 39 = .ok (.iaload, 1) := by decide +kernel
theorem dX12_mean_40 : decode cX12_mean 40 = .ok (.istore 6, 2) := by decide +kernel
theorem dX12_mean_42 : decode cX12_mean 42 = .ok (.iload 6, 2) := by decide +kernel
theorem dX12_mean_44 : decode cX12_mean 44 = .ok (.aload_n 0, 1) := by decide +kernel
theorem dX12_mean_45 : decode cX12_mean 45 = .ok (.getfield 9, 3) := by decide +kernel
theorem dX12_mean_48 : decode cX12_mean 48 = .ok (.iconst 0, 1) := by decide +kernel
theorem dX12_mean_49 : decode cX12_mean 49 = .ok (.iaload, 1) := by decide +kernel
theorem dX12_mean_50 : decode cX12_mean 50 = .ok (.iload_n 2, 1) := by decide +kernel
theorem dX12_mean_51 : decode cX12_mean 51 = .ok (.iadd, 1) := by decide +kernel
theorem dX12_mean_52 : decode cX12_mean 52 = .ok (.if_icmp .ge 22, 3) := by decide +kernel
theorem dX12_mean_55 : decode cX12_mean 55 = .ok (.lload 4, 2) := by decide +kernel
theorem dX12_mean_57 : decode cX12_mean 57 = .ok (.aload_n 0, 1) := by decide +kernel
theorem dX12_mean_58 : decode cX12_mean 58 = .ok (.iload_n 1, 1) := by decide +kernel
theorem dX12_mean_59 : decode cX12_mean 59 = .ok (.iload 6, 2) := by decide +kernel
theorem dX12_mean_61 : decode cX12_mean 61 = .ok (.invokevirtual 144, 3) := by decide +kernel
theorem dX12_mean_64 : decode cX12_mean 64 = .ok (.i2l, 1) := by decide +kernel
theorem dX12_mean_65 : decode cX12_mean 65 = .ok (.ladd, 1) := by decide +kernel
theorem dX12_mean_66 : decode cX12_mean 66 = .ok (.lstore 4, 2) := by decide +kernel
theorem dX12_mean_68 : decode cX12_mean 68 = .ok (.iinc 6 1, 3) := by decide +kernel
theorem dX12_mean_71 : decode cX12_mean 71 = .ok (.goto (-29), 3) := by decide +kernel
theorem dX12_mean_74 : decode cX12_mean 74 = .ok (.lload 4, 2) := by decide +kernel
theorem dX12_mean_76 : decode cX12_mean 76 = .ok (.iload_n 2, 1) := by decide +kernel
theorem dX12_mean_77 : decode cX12_mean 77 = .ok (.i2l, 1) := by decide +kernel
theorem dX12_mean_78 : decode cX12_mean 78 = .ok (.iload_n 3, 1) := by decide +kernel
theorem dX12_mean_79 : decode cX12_mean 79 = .ok (.invokestatic 233, 3) := by decide +kernel
theorem dX12_mean_82 : decode cX12_mean 82 = .ok (.lreturn, 1) := by decide +kernel
theorem dX12_even_0 : decode cX12_even 0 = .ok (.iload_n 1, 1) := by decide +kernel
theorem dX12_even_1 : decode cX12_even 1 = .ok (.iconst 0, 1) := by decide +kernel
theorem dX12_even_2 : decode cX12_even 2 = .ok (.bipush 60, 2) := by decide +kernel
theorem dX12_even_4 : decode cX12_even 4 = .ok (.invokestatic 41, 3) := by decide +kernel
theorem dX12_even_7 : decode cX12_even 7 = .ok (.ifCond .ne 6, 3) := by decide +kernel
theorem dX12_even_10 : decode cX12_even 10 = .ok (.bipush (-2), 2) := by decide +kernel
theorem dX12_even_12 : decode cX12_even 12 = .ok (.ireturn, 1) := by decide +kernel
theorem dX12_even_13 : decode cX12_even 13 = .ok (.aload_n 0, 1) := by decide +kernel
theorem dX12_even_14 : decode cX12_even 14 = .ok (.getfield 9, 3) := by decide +kernel
theorem dX12_even_17 : decode cX12_even 17 = .ok (.bipush 14, 2) := by decide +kernel
theorem dX12_even_19 : decode cX12_even 19 = .ok (.iaload, 1) := by decide +kernel
theorem dX12_even_20 : decode cX12_even 20 = .ok (.ifCond .ne 6, 3) := by decide +kernel
theorem dX12_even_23 : decode cX12_even 23 = .ok (.bipush (-5), 2) := by decide +kernel
theorem dX12_even_25 : decode cX12_even 25 = .ok (.ireturn, 1) := by decide +kernel
theorem dX12_even_26 : decode cX12_even 26 = .ok (.aload_n 0, 1) := by decide +kernel
theorem dX12_even_27 : decode cX12_even 27 = .ok (.invokevirtual 184, 3) := by decide +kernel
theorem dX12_even_30 : decode cX12_even 30 = .ok (.aload_n 0, 1) := by decide +kernel
theorem dX12_even_31 : decode cX12_even 31 = .ok (.iload_n 1, 1) := by decide +kernel
theorem dX12_even_32 : decode cX12_even 32 = .ok (.invokevirtual 181, 3) := by decide +kernel
theorem dX12_even_35 : decode cX12_even 35 = .ok (.bipush 99, 2) := by decide +kernel
theorem dX12_even_37 : decode cX12_even 37 = .ok (.istore_n 2, 1) := by decide +kernel
theorem dX12_even_38 : decode cX12_even 38 = .ok (.iconst 0, 1) := by decide +kernel
theorem dX12_even_39 : decode cX12_even 39 = .ok (.istore_n 3, 1) := by decide +kernel
theorem dX12_even_40 : decode cX12_even 40 = .ok (.iload_n 3, 1) := by decide +kernel
theorem dX12_even_41 : decode cX12_even 41 = .ok (.aload_n 0, 1) := by decide +kernel
theorem dX12_even_42 : decode cX12_even 42 = .ok (.getfield 9, 3) := by decide +kernel
theorem dX12_even_45 : decode cX12_even 45 = .ok (.bipush 14, 2) := by decide +kernel
theorem dX12_even_47 : decode cX12_even 47 = .ok (.iaload, 1) := by decide +kernel
theorem dX12_even_48 : decode cX12_even 48 = .ok (.if_icmp .ge 34, 3) := by decide +kernel
theorem dX12_even_51 : decode cX12_even 51 = .ok (.aload_n 0, 1) := by decide +kernel
theorem dX12_even_52 : decode cX12_even 52 = .ok (.getfield 9, 3) := by decide +kernel
theorem dX12_even_55 : decode cX12_even 55 = .ok (.iconst 1, 1) := by decide +kernel
theorem dX12_even_56 : decode cX12_even 56 = .ok (.iload_n 3, 1) := by decide +kernel
theorem dX12_even_57 : decode cX12_even 57 = .ok (.iadd, 1) := by decide +kernel
theorem dX12_even_58 : decode cX12_even 58 = .ok (.iaload, 1) := by decide +kernel
theorem dX12_even_59 : decode cX12_even 59 = .ok (.iload_n 2, 1) := by decide +kernel
theorem dX12_even_60 : decode cX12_even 60 = .ok (.if_icmp .ge 14, 3) := by decide +kernel
theorem dX12_even_63 : decode cX12_even 63 = .ok (.aload_n 0, 1) := by decide +kernel
theorem dX12_even_64 : decode cX12_even 64 = .ok (.getfield 9, 3) := by decide +kernel
theorem dX12_even_67 : decode cX12_even 67 = .ok (.iconst 1, 1) := by decide +kernel
theorem dX12_even_68 : decode cX12_even 68 = .ok (.iload_n 3, 1) := by decide +kernel
theorem dX12_even_69 : decode cX12_even 69 = .ok (.iadd, 1) := by decide +kernel
theorem dX12_even_70 : decode cX12_even 70 = .ok (.iaload, 1) := by decide +kernel
theorem dX12_even_71 : decode cX12_even 71 = .ok (.goto 4, 3) := by decide +kernel
theorem dX12_even_74 : decode cX12_even 74 = .ok (.iload_n 2, 1) := by decide +kernel
theorem dX12_even_75 : decode cX12_even 75 = .ok (.istore_n 2, 1) := by decide +kernel
theorem dX12_even_76 : decode cX12_even 76 = .ok (.iinc 3 1, 3) := by decide +kernel
theorem dX12_even_79 : decode cX12_even 79 = .ok (.goto (-39), 3) := by decide +kernel
theorem dX12_even_82 : decode cX12_even 82 = .ok (.aload_n 0, 1) := by decide +kernel
theorem dX12_even_83 : decode cX12_even 83 = .ok (.invokevirtual 187, 3) := by decide +kernel
theorem dX12_even_86 : decode cX12_even 86 = .ok (.iload_n 2, 1) := by decide +kernel
theorem dX12_even_87 : decode cX12_even 87 = .ok (.isub, 1) := by decide +kernel
theorem dX12_even_88 : decode cX12_even 88 = .ok (.istore_n 3, 1) := by decide +kernel
theorem dX12_even_89 : decode cX12_even 89 = .ok (.aload_n 0, 1) := by decide +kernel
theorem dX12_even_90 : decode cX12_even 90 = .ok (.invokevirtual 193, 3) := by decide +kernel
theorem dX12_even_93 : decode cX12_even 93 = .ok (.iload_n 3, 1) := by decide +kernel
theorem dX12_even_94 : decode cX12_even 94 = .ok (.ireturn, 1) := by decide +kernel
theorem dX12_rule_0 : decode cX12_rule 0 = .ok (.iload_n 2, 1) := by decide +kernel
theorem dX12_rule_1 : decode cX12_rule 1 = .ok (.iconst (-1), 1) := by decide +kernel
theorem dX12_rule_2 : decode cX12_rule 2 = .ok (.if_icmp .ne 13, 3) := by decide +kernel
theorem dX12_rule_5 : decode cX12_rule 5 = .ok (.aload_n 0, 1) := by decide +kernel
theorem dX12_rule_6 : decode cX12_rule 6 = .ok (.getfield 9, 3) := by decide +kernel
theorem dX12_rule_9 : decode cX12_rule 9 = .ok (.bipush 17, 2) := by decide +kernel
theorem dX12_rule_11 : decode cX12_rule 11 = .ok (.iconst 0, 1) := by decide +kernel
theorem dX12_rule_12 : decode cX12_rule 12 = .ok (.iastore, 1) := by decide +kernel
theorem dX12_rule_13 : decode cX12_rule 13 = .ok (.iconst 0, 1) := by decide +kernel
theorem dX12_rule_14 : decode cX12_rule 14 = .ok (.ireturn, 1) := by decide +kernel
theorem dX12_rule_15 : decode cX12_rule 15 = .ok (.iload_n 1, 1) := by decide +kernel
theorem dX12_rule_16 : decode cX12_rule 16 = .ok (.iconst (-1), 1) := by decide +kernel
theorem dX12_rule_17 : decode cX12_rule 17 = .ok (.if_icmp .eq 13, 3) := by decide +kernel
theorem dX12_rule_20 : decode cX12_rule 20 = .ok (.aload_n 0, 1) := by decide +kernel
theorem dX12_rule_21 : decode cX12_rule 21 = .ok (.iload_n 1, 1) := by decide +kernel
theorem dX12_rule_22 : decode cX12_rule 22 = .ok (.invokevirtual 151, 3) := by decide +kernel
theorem dX12_rule_25 : decode cX12_rule 25 = .ok (.ifCond .ne 5, 3) := by decide +kernel
theorem dX12_rule_28 : decode cX12_rule 28 = .ok (.iconst (-1), 1) := by decide +kernel
theorem dX12_rule_29 : decode cX12_rule 29 = .ok (.ireturn, 1) := by decide +kernel
theorem dX12_rule_30 : decode cX12_rule 30 = .ok (.iload_n 2, 1) := by decide +kernel
theorem dX12_rule_31 : decode cX12_rule 31 = .ok (.iconst 1, 1) := by decide +kernel
theorem dX12_rule_32 : decode cX12_rule 32 = .ok (.bipush 20, 2) := by decide +kernel
theorem dX12_rule_34 : decode cX12_rule 34 = .ok (.invokestatic 41, 3) := by decide +kernel
theorem dX12_rule_37 : decode cX12_rule 37 = .ok (.ifCond .ne 6, 3) := by decide +kernel
theorem dX12_rule_40 : decode cX12_rule 40 = .ok (.bipush (-2), 2) := by decide +kernel
theorem dX12_rule_42 : decode cX12_rule 42 = .ok (.ireturn, 1) := by decide +kernel
theorem dX12_rule_43 : decode cX12_rule 43 = .ok (.aload_n 0, 1) := by decide +kernel
theorem dX12_rule_44 : decode cX12_rule 44 = .ok (.getfield 9, 3) := by decide +kernel
theorem dX12_rule_47 : decode cX12_rule 47 = .ok (.bipush 17, 2) := by decide +kernel
theorem dX12_rule_49 : decode cX12_rule 49 = .ok (.iaload, 1) := by decide +kernel
theorem dX12_rule_50 : decode cX12_rule 50 = .ok (.iconst 4, 1) := by decide +kernel
theorem dX12_rule_51 : decode cX12_rule 51 = .ok (.if_icmp .ne 6, 3) := by decide +kernel
theorem dX12_rule_54 : decode cX12_rule 54 = .ok (.bipush (-4), 2) := by decide +kernel
theorem dX12_rule_56 : decode cX12_rule 56 = .ok (.ireturn, 1) := by decide +kernel
theorem dX12_rule_57 : decode cX12_rule 57 = .ok (.aload_n 0, 1) := by decide +kernel
theorem dX12_rule_58 : decode cX12_rule 58 = .ok (.getfield 9, 3) := by decide +kernel
theorem dX12_rule_61 : decode cX12_rule 61 = .ok (.bipush 86, 2) := by decide +kernel
theorem dX12_rule_63 : decode cX12_rule 63 = .ok (.aload_n 0, 1) := by decide +kernel
theorem dX12_rule_64 : decode cX12_rule 64 = .ok (.getfield 9, 3) := by decide +kernel
theorem dX12_rule_67 : decode cX12_rule 67 = .ok (.bipush 17, 2) := by decide +kernel
theorem dX12_rule_69 : decode cX12_rule 69 = .ok (.iaload, 1) := by decide +kernel
theorem dX12_rule_70 : decode cX12_rule 70 = .ok (.iadd, 1) := by decide +kernel
theorem dX12_rule_71 : decode cX12_rule 71 = .ok (.iload_n 1, 1) := by decide +kernel
theorem dX12_rule_72 : decode cX12_rule 72 = .ok (.iastore, 1) := by decide +kernel
theorem dX12_rule_73 : decode cX12_rule 73 = .ok (.aload_n 0, 1) := by decide +kernel
theorem dX12_rule_74 : decode cX12_rule 74 = .ok (.getfield 9, 3) := by decide +kernel
theorem dX12_rule_77 : decode cX12_rule 77 = .ok (.bipush 90, 2) := by decide +kernel
theorem dX12_rule_79 : decode cX12_rule 79 = .ok (.aload_n 0, 1) := by decide +kernel
theorem dX12_rule_80 : decode cX12_rule 80 = .ok (.getfield 9, 3) := by decide +kernel
theorem dX12_rule_83 : decode cX12_rule 83 = .ok (.bipush 17, 2) := by decide +kernel
theorem dX12_rule_85 : decode cX12_rule 85 = .ok (.iaload, 1) := by decide +kernel
theorem dX12_rule_86 : decode cX12_rule 86 = .ok (.iadd, 1) := by decide +kernel
theorem dX12_rule_87 : decode cX12_rule 87 = .ok (.iload_n 2, 1) := by decide +kernel
theorem dX12_rule_88 : decode cX12_rule 88 = .ok (.iastore, 1) := by decide +kernel
theorem dX12_rule_89 : decode cX12_rule 89 = .ok (.aload_n 0, 1) := by decide +kernel
theorem dX12_rule_90 : decode cX12_rule 90 = .ok (.getfield 9, 3) := by decide +kernel
theorem dX12_rule_93 : decode cX12_rule 93 = .ok (.bipush 17, 2) := by decide +kernel
theorem dX12_rule_95 : decode cX12_rule 95 = .ok (.dup2, 1) := by decide +kernel
theorem dX12_rule_96 : decode cX12_rule 96 = .ok (.iaload, 1) := by decide +kernel
theorem dX12_rule_97 : decode cX12_rule 97 = .ok (.iconst 1, 1) := by decide +kernel
theorem dX12_rule_98 : decode cX12_rule 98 = .ok (.iadd, 1) := by decide +kernel
theorem dX12_rule_99 : decode cX12_rule 99 = .ok (.iastore, 1) := by decide +kernel
theorem dX12_rule_100 : decode cX12_rule 100 = .ok (.aload_n 0, 1) := by decide +kernel
theorem dX12_rule_101 : decode cX12_rule 101 = .ok (.getfield 9, 3) := by decide +kernel
theorem dX12_rule_104 : decode cX12_rule 104 = .ok (.bipush 17, 2) := by decide +kernel
theorem dX12_rule_106 : decode cX12_rule 106 = .ok (.iaload, 1) := by decide +kernel
theorem dX12_rule_107 : decode cX12_rule 107 = .ok (.ireturn, 1) := by decide +kernel
theorem dX12_ruledAt_0 : decode cX12_ruledAt 0 = .ok (.iconst 0, 1) := by decide +kernel
theorem dX12_ruledAt_1 : decode cX12_ruledAt 1 = .ok (.istore_n 2, 1) := by decide +kernel
theorem dX12_ruledAt_2 : decode cX12_ruledAt 2 = .ok (.iconst 0, 1) := by decide +kernel
theorem dX12_ruledAt_3 : decode cX12_ruledAt 3 = .ok (.istore_n 3, 1) := by decide +kernel
theorem dX12_ruledAt_4 : decode cX12_ruledAt 4 = .ok (.iload_n 3, 1) := by decide +kernel
theorem dX12_ruledAt_5 : decode cX12_ruledAt 5 = .ok (.aload_n 0, 1) := by decide +kernel
theorem dX12_ruledAt_6 : decode cX12_ruledAt 6 = .ok (.getfield 9, 3) := by decide +kernel
theorem dX12_ruledAt_9 : decode cX12_ruledAt 9 = .ok (.bipush 17, 2) := by decide +kernel
theorem dX12_ruledAt_11 : decode cX12_ruledAt 11 = .ok (.iaload, 1) := by decide +kernel
theorem dX12_ruledAt_12 : decode cX12_ruledAt 12 = .ok (.if_icmp .ge 21, 3) := by decide +kernel
theorem dX12_ruledAt_15 : decode cX12_ruledAt 15 = .ok (.iload_n 2, 1) := by decide +kernel
theorem dX12_ruledAt_16 : decode cX12_ruledAt 16 = .ok (.aload_n 0, 1) := by decide +kernel
theorem dX12_ruledAt_17 : decode cX12_ruledAt 17 = .ok (.getfield 9, 3) := by decide +kernel
theorem dX12_ruledAt_20 : decode cX12_ruledAt 20 = .ok (.bipush 90, 2) := by decide +kernel
theorem dX12_ruledAt_22 : decode cX12_ruledAt 22 = .ok (.iload_n 3, 1) := by decide +kernel
theorem dX12_ruledAt_23 : decode cX12_ruledAt 23 = .ok (.iadd, 1) := by decide +kernel
theorem dX12_ruledAt_24 : decode cX12_ruledAt 24 = .ok (.iaload, 1) := by decide +kernel
theorem dX12_ruledAt_25 : decode cX12_ruledAt 25 = .ok (.iadd, 1) := by decide +kernel
theorem dX12_ruledAt_26 : decode cX12_ruledAt 26 = .ok (.istore_n 2, 1) := by decide +kernel
theorem dX12_ruledAt_27 : decode cX12_ruledAt 27 = .ok (.iinc 3 1, 3) := by decide +kernel
theorem dX12_ruledAt_30 : decode cX12_ruledAt 30 = .ok (.goto (-26), 3) := by decide +kernel
theorem dX12_ruledAt_33 : decode cX12_ruledAt 33 = .ok (.iload_n 1, 1) := by decide +kernel
theorem dX12_ruledAt_34 : decode cX12_ruledAt 34 = .ok (.iload_n 2, 1) := by decide +kernel
theorem dX12_ruledAt_35 : decode cX12_ruledAt 35 = .ok (.irem, 1) := by decide +kernel
theorem dX12_ruledAt_36 : decode cX12_ruledAt 36 = .ok (.istore_n 3, 1) := by decide +kernel
theorem dX12_ruledAt_37 : decode cX12_ruledAt 37 = .ok (.iconst 0, 1) := by decide +kernel
theorem dX12_ruledAt_38 : decode cX12_ruledAt 38 = .ok (.istore 4, 2) := by decide +kernel
theorem dX12_ruledAt_40 : decode cX12_ruledAt 40 = .ok (.iload_n 3, 1) := by decide +kernel
theorem dX12_ruledAt_41 : decode cX12_ruledAt 41 = .ok (.aload_n 0, 1) := by decide +kernel
theorem dX12_ruledAt_42 : decode cX12_ruledAt 42 = .ok (.getfield 9, 3) := by decide +kernel
theorem dX12_ruledAt_45 : decode cX12_ruledAt 45 = .ok (.bipush 90, 2) := by decide +kernel
theorem dX12_ruledAt_47 : decode cX12_ruledAt 47 = .ok (.iload 4, 2) := by decide +kernel
theorem dX12_ruledAt_49 : decode cX12_ruledAt 49 = .ok (.iadd, 1) := by decide +kernel
theorem dX12_ruledAt_50 : decode cX12_ruledAt 50 = .ok (.iaload, 1) := by decide +kernel
theorem dX12_ruledAt_51 : decode cX12_ruledAt 51 = .ok (.if_icmp .lt 22, 3) := by decide +kernel
theorem dX12_ruledAt_54 : decode cX12_ruledAt 54 = .ok (.iload_n 3, 1) := by decide +kernel
theorem dX12_ruledAt_55 : decode cX12_ruledAt 55 = .ok (.aload_n 0, 1) := by decide +kernel
theorem dX12_ruledAt_56 : decode cX12_ruledAt 56 = .ok (.getfield 9, 3) := by decide +kernel
theorem dX12_ruledAt_59 : decode cX12_ruledAt 59 = .ok (.bipush 90, 2) := by decide +kernel
theorem dX12_ruledAt_61 : decode cX12_ruledAt 61 = .ok (.iload 4, 2) := by decide +kernel
theorem dX12_ruledAt_63 : decode cX12_ruledAt 63 = .ok (.iadd, 1) := by decide +kernel
theorem dX12_ruledAt_64 : decode cX12_ruledAt 64 = .ok (.iaload, 1) := by decide +kernel
theorem dX12_ruledAt_65 : decode cX12_ruledAt 65 = .ok (.isub, 1) := by decide +kernel
theorem dX12_ruledAt_66 : decode cX12_ruledAt 66 = .ok (.istore_n 3, 1) := by decide +kernel
theorem dX12_ruledAt_67 : decode cX12_ruledAt 67 = .ok (.iinc 4 1, 3) := by decide +kernel
theorem dX12_ruledAt_70 : decode cX12_ruledAt 70 = .ok (.goto (-30), 3) := by decide +kernel
theorem dX12_ruledAt_73 : decode cX12_ruledAt 73 = .ok (.aload_n 0, 1) := by decide +kernel
theorem dX12_ruledAt_74 : decode cX12_ruledAt 74 = .ok (.getfield 9, 3) := by decide +kernel
theorem dX12_ruledAt_77 : decode cX12_ruledAt 77 = .ok (.bipush 86, 2) := by decide +kernel
theorem dX12_ruledAt_79 : decode cX12_ruledAt 79 = .ok (.iload 4, 2) := by decide +kernel
theorem dX12_ruledAt_81 : decode cX12_ruledAt 81 = .ok (.iadd, 1) := by decide +kernel
theorem dX12_ruledAt_82 : decode cX12_ruledAt 82 = .ok (.iaload, 1) := by decide +kernel
theorem dX12_ruledAt_83 : decode cX12_ruledAt 83 = .ok (.ireturn, 1) := by decide +kernel
theorem dX12_ruled_0 : decode cX12_ruled 0 = .ok (.iload_n 2, 1) := by decide +kernel
theorem dX12_ruled_1 : decode cX12_ruled 1 = .ok (.iconst 0, 1) := by decide +kernel
theorem dX12_ruled_2 : decode cX12_ruled 2 = .ok (.iconst 1, 1) := by decide +kernel
theorem dX12_ruled_3 : decode cX12_ruled 3 = .ok (.invokestatic 41, 3) := by decide +kernel
theorem dX12_ruled_6 : decode cX12_ruled 6 = .ok (.ifCond .ne 5, 3) := by decide +kernel
theorem dX12_ruled_9 : decode cX12_ruled 9 = .ok (.iconst (-1), 1) := by decide +kernel
theorem dX12_ruled_10 : decode cX12_ruled 10 = .ok (.ireturn, 1) := by decide +kernel
theorem dX12_ruled_11 : decode cX12_ruled 11 = .ok (.iload_n 1, 1) := by decide +kernel
theorem dX12_ruled_12 : decode cX12_ruled 12 = .ok (.iconst 1, 1) := by decide +kernel
theorem dX12_ruled_13 : decode cX12_ruled 13 = .ok (.bipush 60, 2) := by decide +kernel
theorem dX12_ruled_15 : decode cX12_ruled 15 = .ok (.invokestatic 41, 3) := by decide +kernel
theorem dX12_ruled_18 : decode cX12_ruled 18 = .ok (.ifCond .ne 6, 3) := by decide +kernel
theorem dX12_ruled_21 : decode cX12_ruled 21 = .ok (.bipush (-2), 2) := by decide +kernel
theorem dX12_ruled_23 : decode cX12_ruled 23 = .ok (.ireturn, 1) := by decide +kernel
theorem dX12_ruled_24 : decode cX12_ruled 24 = .ok (.aload_n 0, 1) := by decide +kernel
theorem dX12_ruled_25 : decode cX12_ruled 25 = .ok (.getfield 9, 3) := by decide +kernel
theorem dX12_ruled_28 : decode cX12_ruled 28 = .ok (.bipush 17, 2) := by decide +kernel
theorem dX12_ruled_30 : decode cX12_ruled 30 = .ok (.iaload, 1) := by decide +kernel
theorem dX12_ruled_31 : decode cX12_ruled 31 = .ok (.ifCond .eq 13, 3) := by decide +kernel
theorem dX12_ruled_34 : decode cX12_ruled 34 = .ok (.aload_n 0, 1) := by decide +kernel
theorem dX12_ruled_35 : decode cX12_ruled 35 = .ok (.getfield 9, 3) := by decide +kernel
theorem dX12_ruled_38 : decode cX12_ruled 38 = .ok (.bipush 14, 2) := by decide +kernel
theorem dX12_ruled_40 : decode cX12_ruled 40 = .ok (.iaload, 1) := by decide +kernel
theorem dX12_ruled_41 : decode cX12_ruled 41 = .ok (.ifCond .ne 6, 3) := by decide +kernel
theorem dX12_ruled_44 : decode cX12_ruled 44 = .ok (.bipush (-5), 2) := by decide +kernel
theorem dX12_ruled_46 : decode cX12_ruled 46 = .ok (.ireturn, 1) := by decide +kernel
theorem dX12_ruled_47 : decode cX12_ruled 47 = .ok (.aload_n 0, 1) := by decide +kernel
theorem dX12_ruled_48 : decode cX12_ruled 48 = .ok (.invokevirtual 184, 3) := by decide +kernel
theorem dX12_ruled_51 : decode cX12_ruled 51 = .ok (.iconst 0, 1) := by decide +kernel
theorem dX12_ruled_52 : decode cX12_ruled 52 = .ok (.istore_n 3, 1) := by decide +kernel
theorem dX12_ruled_53 : decode cX12_ruled 53 = .ok (.iconst 0, 1) := by decide +kernel
theorem dX12_ruled_54 : decode cX12_ruled 54 = .ok (.istore 4, 2) := by decide +kernel
theorem dX12_ruled_56 : decode cX12_ruled 56 = .ok (.iload 4, 2) := by decide +kernel
theorem dX12_ruled_58 : decode cX12_ruled 58 = .ok (.iload_n 1, 1) := by decide +kernel
theorem dX12_ruled_59 : decode cX12_ruled 59 = .ok (.if_icmp .ge 80, 3) := by decide +kernel
theorem dX12_ruled_62 : decode cX12_ruled 62 = .ok (.aload_n 0, 1) := by decide +kernel
theorem dX12_ruled_63 : decode cX12_ruled 63 = .ok (.iload 4, 2) := by decide +kernel
theorem dX12_ruled_65 : decode cX12_ruled 65 = .ok (.invokevirtual 237, 3) := by decide +kernel
theorem dX12_ruled_68 : decode cX12_ruled 68 = .ok (.istore 5, 2) := by decide +kernel
theorem dX12_ruled_70 : decode cX12_ruled 70 = .ok (.iload_n 3, 1) := by decide +kernel
theorem dX12_ruled_71 : decode cX12_ruled 71 = .ok (.iload 4, 2) := by decide +kernel
theorem dX12_ruled_73 : decode cX12_ruled 73 = .ok (.ifCond .le 20, 3) := by decide +kernel
theorem dX12_ruled_76 : decode cX12_ruled 76 = .ok (.aload_n 0, 1) := by decide +kernel
theorem dX12_ruled_77 : decode cX12_ruled 77 = .ok (.iload 4, 2) := by decide +kernel
theorem dX12_ruled_79 : decode cX12_ruled 79 = .ok (.iconst 1, 1) := by decide +kernel
theorem dX12_ruled_80 : decode cX12_ruled 80 = .ok (.isub, 1) := by decide +kernel
theorem dX12_ruled_81 : decode cX12_ruled 81 = .ok (.invokevirtual 237, 3) := by decide +kernel
theorem dX12_ruled_84 : decode cX12_ruled 84 = .ok (.iload 5, 2) := by decide +kernel
theorem dX12_ruled_86 : decode cX12_ruled 86 = .ok (.if_icmp .eq 7, 3) := by decide +kernel
theorem dX12_ruled_89 : decode cX12_ruled 89 = .ok (.iconst 1, 1) := by decide +kernel
theorem dX12_ruled_90 : decode cX12_ruled 90 = .ok (.goto 4, 3) := by decide +kernel
theorem dX12_ruled_93 : decode cX12_ruled 93 = .ok (.iconst 0, 1) := by decide +kernel
theorem dX12_ruled_94 : decode cX12_ruled 94 = .ok (.iadd, 1) := by decide +kernel
theorem dX12_ruled_95 : decode cX12_ruled 95 = .ok (.istore_n 3, 1) := by decide +kernel
theorem dX12_ruled_96 : decode cX12_ruled 96 = .ok (.aload_n 0, 1) := by decide +kernel
theorem dX12_ruled_97 : decode cX12_ruled 97 = .ok (.iload 5, 2) := by decide +kernel
theorem dX12_ruled_99 : decode cX12_ruled 99 = .ok (.iconst (-1), 1) := by decide +kernel
theorem dX12_ruled_100 : decode cX12_ruled 100 = .ok (.if_icmp .ne 7, 3) := by decide +kernel
theorem dX12_ruled_103 : decode cX12_ruled 103 = .ok (.iconst 0, 1) := by decide +kernel
theorem dX12_ruled_104 : decode cX12_ruled 104 = .ok (.goto 15, 3) := by decide +kernel
theorem dX12_ruled_107 : decode cX12_ruled 107 = .ok (.aload_n 0, 1) := by decide +kernel
theorem dX12_ruled_108 : decode cX12_ruled 108 = .ok (.iload 5, 2) := by decide +kernel
theorem dX12_ruled_110 : decode cX12_ruled 110 = .ok (.aload_n 0, 1) := by decide +kernel
theorem dX12_ruled_111 : decode cX12_ruled 111 = .ok (.getfield 9, 3) := by decide +kernel
theorem dX12_ruled_114 : decode cX12_ruled 114 = .ok (.iconst 0, 1) := by decide +kernel
theorem dX12_ruled_115 : decode cX12_ruled 115 = .ok (.iaload, 1) := by decide +kernel
theorem dX12_ruled_116 : decode cX12_ruled 116 = .ok (.invokevirtual 154, 3) := by decide +kernel
theorem dX12_ruled_119 : decode cX12_ruled 119 = .ok (.iload 5, 2) := by decide +kernel
theorem dX12_ruled_121 : decode cX12_ruled 121 = .ok (.iconst (-1), 1) := by decide +kernel
theorem dX12_ruled_122 : decode cX12_ruled 122 = .ok (.if_icmp .ne 7, 3) := by decide +kernel
theorem dX12_ruled_125 : decode cX12_ruled 125 = .ok (.iconst 0, 1) := by decide +kernel
theorem dX12_ruled_126 : decode cX12_ruled 126 = .ok (.goto 4, 3) := by decide +kernel
theorem dX12_ruled_129 : decode cX12_ruled 129 = .ok (.iconst 1, 1) := by decide +kernel
theorem dX12_ruled_130 : decode cX12_ruled 130 = .ok (.invokevirtual 177, 3) := by decide +kernel
theorem dX12_ruled_133 : decode cX12_ruled 133 = .ok (.iinc 4 1, 3) := by decide +kernel
theorem dX12_ruled_136 : decode cX12_ruled 136 = .ok (.goto (-80), 3) := by decide +kernel
theorem dX12_ruled_139 : decode cX12_ruled 139 = .ok (.aload_n 0, 1) := by decide +kernel
theorem dX12_ruled_140 : decode cX12_ruled 140 = .ok (.invokevirtual 187, 3) := by decide +kernel
theorem dX12_ruled_143 : decode cX12_ruled 143 = .ok (.istore 4, 2) := by decide +kernel
theorem dX12_ruled_145 : decode cX12_ruled 145 = .ok (.aload_n 0, 1) := by decide +kernel
theorem dX12_ruled_146 : decode cX12_ruled 146 = .ok (.invokevirtual 193, 3) := by decide +kernel
theorem dX12_ruled_149 : decode cX12_ruled 149 = .ok (.iload_n 2, 1) := by decide +kernel
theorem dX12_ruled_150 : decode cX12_ruled 150 = .ok (.ifCond .ne 8, 3) := by decide +kernel
theorem dX12_ruled_153 : decode cX12_ruled 153 = .ok (.iload 4, 2) := by decide +kernel
theorem dX12_ruled_155 : decode cX12_ruled 155 = .ok (.goto 4, 3) := by decide +kernel
theorem dX12_ruled_158 : decode cX12_ruled 158 = .ok (.iload_n 3, 1) := by decide +kernel
theorem dX12_ruled_159 : decode cX12_ruled 159 = .ok (.ireturn, 1) := by decide +kernel
theorem dX12_book_0 : decode cX12_book 0 = .ok (.iload_n 1, 1) := by decide +kernel
theorem dX12_book_1 : decode cX12_book 1 = .ok (.iconst (-1), 1) := by decide +kernel
theorem dX12_book_2 : decode cX12_book 2 = .ok (.if_icmp .ne 13, 3) := by decide +kernel
theorem dX12_book_5 : decode cX12_book 5 = .ok (.aload_n 0, 1) := by decide +kernel
theorem dX12_book_6 : decode cX12_book 6 = .ok (.getfield 9, 3) := by decide +kernel
theorem dX12_book_9 : decode cX12_book 9 = .ok (.bipush 18, 2) := by decide +kernel
theorem dX12_book_11 : decode cX12_book 11 = .ok (.iconst 0, 1) := by decide +kernel
theorem dX12_book_12 : decode cX12_book 12 = .ok (.iastore, 1) := by decide +kernel
theorem dX12_book_13 : decode cX12_book 13 = .ok (.iconst 0, 1) := by decide +kernel
theorem dX12_book_14 : decode cX12_book 14 = .ok (.ireturn, 1) := by decide +kernel
theorem dX12_book_15 : decode cX12_book 15 = .ok (.aload_n 0, 1) := by decide +kernel
theorem dX12_book_16 : decode cX12_book 16 = .ok (.iload_n 1, 1) := by decide +kernel
theorem dX12_book_17 : decode cX12_book 17 = .ok (.invokevirtual 151, 3) := by decide +kernel
theorem dX12_book_20 : decode cX12_book 20 = .ok (.ifCond .eq 10, 3) := by decide +kernel
theorem dX12_book_23 : decode cX12_book 23 = .ok (.iload_n 3, 1) := by decide +kernel
theorem dX12_book_24 : decode cX12_book 24 = .ok (.invokestatic 134, 3) := by decide +kernel
theorem dX12_book_27 : decode cX12_book 27 = .ok (.ifCond .ne 5, 3) := by decide +kernel
theorem dX12_book_30 : decode cX12_book 30 = .ok (.iconst (-1), 1) := by decide +kernel
theorem dX12_book_31 : decode cX12_book 31 = .ok (.ireturn, 1) := by decide +kernel
theorem dX12_book_32 : decode cX12_book 32 = .ok (.iload_n 2, 1) := by decide +kernel
theorem dX12_book_33 : decode cX12_book 33 = .ok (.iconst 0, 1) := by decide +kernel
theorem dX12_book_34 : decode cX12_book 34 = .ok (.sipush 999, 3) := by decide +kernel
theorem dX12_book_37 : decode cX12_book 37 = .ok (.invokestatic 41, 3) := by decide +kernel
theorem dX12_book_40 : decode cX12_book 40 = .ok (.ifCond .ne 6, 3) := by decide +kernel
theorem dX12_book_43 : decode cX12_book 43 = .ok (.bipush (-2), 2) := by decide +kernel
theorem dX12_book_45 : decode cX12_book 45 = .ok (.ireturn, 1) := by decide +kernel
theorem dX12_book_46 : decode cX12_book 46 = .ok (.aload_n 0, 1) := by decide +kernel
theorem dX12_book_47 : decode cX12_book 47 = .ok (.getfield 9, 3) := by decide +kernel
theorem dX12_book_50 : decode cX12_book 50 = .ok (.bipush 18, 2) := by decide +kernel
theorem dX12_book_52 : decode cX12_book 52 = .ok (.iaload, 1) := by decide +kernel
theorem dX12_book_53 : decode cX12_book 53 = .ok (.bipush 8, 2) := by decide +kernel
theorem dX12_book_55 : decode cX12_book 55 = .ok (.if_icmp .ne 6, 3) := by decide +kernel
theorem dX12_book_58 : decode cX12_book 58 = .ok (.bipush (-4), 2) := by decide +kernel
theorem dX12_book_60 : decode cX12_book 60 = .ok (.ireturn, 1) := by decide +kernel
theorem dX12_book_61 : decode cX12_book 61 = .ok (.aload_n 0, 1) := by decide +kernel
theorem dX12_book_62 : decode cX12_book 62 = .ok (.getfield 9, 3) := by decide +kernel
theorem dX12_book_65 : decode cX12_book 65 = .ok (.bipush 94, 2) := by decide +kernel
theorem dX12_book_67 : decode cX12_book 67 = .ok (.aload_n 0, 1) := by decide +kernel
theorem dX12_book_68 : decode cX12_book 68 = .ok (.getfield 9, 3) := by decide +kernel
theorem dX12_book_71 : decode cX12_book 71 = .ok (.bipush 18, 2) := by decide +kernel
theorem dX12_book_73 : decode cX12_book 73 = .ok (.iaload, 1) := by decide +kernel
theorem dX12_book_74 : decode cX12_book 74 = .ok (.iadd, 1) := by decide +kernel
theorem dX12_book_75 : decode cX12_book 75 = .ok (.iload_n 1, 1) := by decide +kernel
theorem dX12_book_76 : decode cX12_book 76 = .ok (.iastore, 1) := by decide +kernel
theorem dX12_book_77 : decode cX12_book 77 = .ok (.aload_n 0, 1) := by decide +kernel
theorem dX12_book_78 : decode cX12_book 78 = .ok (.getfield 9, 3) := by decide +kernel
theorem dX12_book_81 : decode cX12_book 81 = .ok (.bipush 102, 2) := by decide +kernel
theorem dX12_book_83 : decode cX12_book 83 = .ok (.aload_n 0, 1) := by decide +kernel
theorem dX12_book_84 : decode cX12_book 84 = .ok (.getfield 9, 3) := by decide +kernel
theorem dX12_book_87 : decode cX12_book 87 = .ok (.bipush 18, 2) := by decide +kernel
theorem dX12_book_89 : decode cX12_book 89 = .ok (.iaload, 1) := by decide +kernel
theorem dX12_book_90 : decode cX12_book 90 = .ok (.iadd, 1) := by decide +kernel
theorem dX12_book_91 : decode cX12_book 91 = .ok (.iload_n 2, 1) := by decide +kernel
theorem dX12_book_92 : decode cX12_book 92 = .ok (.iastore, 1) := by decide +kernel
theorem dX12_book_93 : decode cX12_book 93 = .ok (.aload_n 0, 1) := by decide +kernel
theorem dX12_book_94 : decode cX12_book 94 = .ok (.getfield 9, 3) := by decide +kernel
theorem dX12_book_97 : decode cX12_book 97 = .ok (.bipush 110, 2) := by decide +kernel
theorem dX12_book_99 : decode cX12_book 99 = .ok (.aload_n 0, 1) := by decide +kernel
theorem dX12_book_100 : decode cX12_book 100 = .ok (.getfield 9, 3) := by decide +kernel
theorem dX12_book_103 : decode cX12_book 103 = .ok (.bipush 18, 2) := by decide +kernel
theorem dX12_book_105 : decode cX12_book 105 = .ok (.iaload, 1) := by decide +kernel
theorem dX12_book_106 : decode cX12_book 106 = .ok (.iadd, 1) := by decide +kernel
theorem dX12_book_107 : decode cX12_book 107 = .ok (.iload_n 3, 1) := by decide +kernel
theorem dX12_book_108 : decode cX12_book 108 = .ok (.iastore, 1) := by decide +kernel
theorem dX12_book_109 : decode cX12_book 109 = .ok (.aload_n 0, 1) := by decide +kernel
theorem dX12_book_110 : decode cX12_book 110 = .ok (.getfield 9, 3) := by decide +kernel
theorem dX12_book_113 : decode cX12_book 113 = .ok (.bipush 18, 2) := by decide +kernel
theorem dX12_book_115 : decode cX12_book 115 = .ok (.dup2, 1) := by decide +kernel
theorem dX12_book_116 : decode cX12_book 116 = .ok (.iaload, 1) := by decide +kernel
theorem dX12_book_117 : decode cX12_book 117 = .ok (.iconst 1, 1) := by decide +kernel
theorem dX12_book_118 : decode cX12_book 118 = .ok (.iadd, 1) := by decide +kernel
theorem dX12_book_119 : decode cX12_book 119 = .ok (.iastore, 1) := by decide +kernel
theorem dX12_book_120 : decode cX12_book 120 = .ok (.aload_n 0, 1) := by decide +kernel
theorem dX12_book_121 : decode cX12_book 121 = .ok (.getfield 9, 3) := by decide +kernel
theorem dX12_book_124 : decode cX12_book 124 = .ok (.bipush 18, 2) := by decide +kernel
theorem dX12_book_126 : decode cX12_book 126 = .ok (.iaload, 1) := by decide +kernel
theorem dX12_book_127 : decode cX12_book 127 = .ok (.ireturn, 1) := by decide +kernel
theorem dX12_looked_0 : decode cX12_looked 0 = .ok (.iconst 0, 1) := by decide +kernel
theorem dX12_looked_1 : decode cX12_looked 1 = .ok (.istore_n 1, 1) := by decide +kernel
theorem dX12_looked_2 : decode cX12_looked 2 = .ok (.iload_n 1, 1) := by decide +kernel
theorem dX12_looked_3 : decode cX12_looked 3 = .ok (.aload_n 0, 1) := by decide +kernel
theorem dX12_looked_4 : decode cX12_looked 4 = .ok (.getfield 9, 3) := by decide +kernel
theorem dX12_looked_7 : decode cX12_looked 7 = .ok (.bipush 18, 2) := by decide +kernel
theorem dX12_looked_9 : decode cX12_looked 9 = .ok (.iaload, 1) := by decide +kernel
theorem dX12_looked_10 : decode cX12_looked 10 = .ok (.if_icmp .ge 45, 3) := by decide +kernel
theorem dX12_looked_13 : decode cX12_looked 13 = .ok (.aload_n 0, 1) := by decide +kernel
theorem dX12_looked_14 : decode cX12_looked 14 = .ok (.aload_n 0, 1) := by decide +kernel
theorem dX12_looked_15 : decode cX12_looked 15 = .ok (.getfield 9, 3) := by decide +kernel
theorem dX12_looked_18 : decode cX12_looked 18 = .ok (.bipush 94, 2) := by decide +kernel
theorem dX12_looked_20 : decode cX12_looked 20 = .ok (.iload_n 1, 1) := by decide +kernel
theorem dX12_looked_21 : decode cX12_looked 21 = .ok (.iadd, 1) := by decide +kernel
theorem dX12_looked_22 : decode cX12_looked 22 = .ok (.iaload, 1) := by decide +kernel
theorem dX12_looked_23 : decode cX12_looked 23 = .ok (.aload_n 0, 1) := by decide +kernel
theorem dX12_looked_24 : decode cX12_looked 24 = .ok (.getfield 9, 3) := by decide +kernel
theorem dX12_looked_27 : decode cX12_looked 27 = .ok (.bipush 102, 2) := by decide +kernel
theorem dX12_looked_29 : decode cX12_looked 29 = .ok (.iload_n 1, 1) := by decide +kernel
theorem dX12_looked_30 : decode cX12_looked 30 = .ok (.iadd, 1) := by decide +kernel
theorem dX12_looked_31 : decode cX12_looked 31 = .ok (.iaload, 1) := by decide +kernel
theorem dX12_looked_32 : decode cX12_looked 32 = .ok (.invokevirtual 144, 3) := by decide +kernel
theorem dX12_looked_35 : decode cX12_looked 35 = .ok (.aload_n 0, 1) := by decide +kernel
theorem dX12_looked_36 : decode cX12_looked 36 = .ok (.getfield 9, 3) := by decide +kernel
theorem dX12_looked_39 : decode cX12_looked 39 = .ok (.bipush 110, 2) := by decide +kernel
theorem dX12_looked_41 : decode cX12_looked 41 = .ok (.iload_n 1, 1) := by decide +kernel
theorem dX12_looked_42 : decode cX12_looked 42 = .ok (.iadd, 1) := by decide +kernel
theorem dX12_looked_43 : decode cX12_looked 43 = .ok (.iaload, 1) := by decide +kernel
theorem dX12_looked_44 : decode cX12_looked 44 = .ok (.if_icmp .eq 5, 3) := by decide +kernel
theorem dX12_looked_47 : decode cX12_looked 47 = .ok (.iload_n 1, 1) := by decide +kernel
theorem dX12_looked_48 : decode cX12_looked 48 = .ok (.ireturn, 1) := by decide +kernel
theorem dX12_looked_49 : decode cX12_looked 49 = .ok (.iinc 1 1, 3) := by decide +kernel
theorem dX12_looked_52 : decode cX12_looked 52 = .ok (.goto (-50), 3) := by decide +kernel
theorem dX12_looked_55 : decode cX12_looked 55 = .ok (.bipush (-5), 2) := by decide +kernel
theorem dX12_looked_57 : decode cX12_looked 57 = .ok (.ireturn, 1) := by decide +kernel
theorem dX12_ranBody_0 : decode cX12_ranBody 0 = .ok (.aload_n 0, 1) := by decide +kernel
theorem dX12_ranBody_1 : decode cX12_ranBody 1 = .ok (.getfield 240, 3) := by decide +kernel
theorem dX12_ranBody_4 : decode cX12_ranBody 4 = .ok (.bipush 20, 2) := by decide +kernel
theorem dX12_ranBody_6 : decode cX12_ranBody 6 = .ok (.if_icmp .ge 13, 3) := by decide +kernel
theorem dX12_ranBody_9 : decode cX12_ranBody 9 = .ok (.aload_n 0, 1) := by decide +kernel
theorem dX12_ranBody_10 : decode cX12_ranBody 10 = .ok (.getfield 34, 3) := by decide +kernel
theorem dX12_ranBody_13 : decode cX12_ranBody 13 = .ok (.aload_n 0, 1) := by decide +kernel
theorem dX12_ranBody_14 : decode cX12_ranBody 14 = .ok (.getfield 240, 3) := by decide +kernel
theorem dX12_ranBody_17 : decode cX12_ranBody 17 = .ok (.iload_n 1, 1) := by decide +kernel
theorem dX12_ranBody_18 : decode cX12_ranBody 18 = .ok (.iastore, 1) := by decide +kernel
theorem dX12_ranBody_19 : decode cX12_ranBody 19 = .ok (.aload_n 0, 1) := by decide +kernel
theorem dX12_ranBody_20 : decode cX12_ranBody 20 = .ok (.dup, 1) := by decide +kernel
theorem dX12_ranBody_21 : decode cX12_ranBody 21 = .ok (.getfield 240, 3) := by decide +kernel
theorem dX12_ranBody_24 : decode cX12_ranBody 24 = .ok (.iconst 1, 1) := by decide +kernel
theorem dX12_ranBody_25 : decode cX12_ranBody 25 = .ok (.iadd, 1) := by decide +kernel
theorem dX12_ranBody_26 : decode cX12_ranBody 26 = .ok (.putfield 240, 3) := by decide +kernel
theorem dX12_ranBody_29 : decode cX12_ranBody 29 = .ok (.return_, 1) := by decide +kernel
theorem dX12_isUnder_0 : decode cX12_isUnder 0 = .ok (.iload_n 1, 1) := by decide +kernel
theorem dX12_isUnder_1 : decode cX12_isUnder 1 = .ok (.ifCond .eq 39, 3) := by decide +kernel
theorem dX12_isUnder_4 : decode cX12_isUnder 4 = .ok (.iload_n 1, 1) := by decide +kernel
theorem dX12_isUnder_5 : decode cX12_isUnder 5 = .ok (.iload_n 0, 1) := by decide +kernel
theorem dX12_isUnder_6 : decode cX12_isUnder 6 = .ok (.if_icmp .eq 34, 3) := by decide +kernel
theorem dX12_isUnder_9 : decode cX12_isUnder 9 = .ok (.iload_n 0, 1) := by decide +kernel
theorem dX12_isUnder_10 : decode cX12_isUnder 10 = .ok (.iconst 4, 1) := by decide +kernel
theorem dX12_isUnder_11 : decode cX12_isUnder 11 = .ok (.if_icmp .ne 8, 3) := by decide +kernel
theorem dX12_isUnder_14 : decode cX12_isUnder 14 = .ok (.iload_n 1, 1) := by decide +kernel
theorem dX12_isUnder_15 : decode cX12_isUnder 15 = .ok (.iconst 1, 1) := by decide +kernel
theorem dX12_isUnder_16 : decode cX12_isUnder 16 = .ok (.if_icmp .eq 24, 3) := by decide +kernel
theorem dX12_isUnder_19 : decode cX12_isUnder 19 = .ok (.iload_n 0, 1) := by decide +kernel
theorem dX12_isUnder_20 : decode cX12_isUnder 20 = .ok (.iconst 5, 1) := by decide +kernel
theorem dX12_isUnder_21 : decode cX12_isUnder 21 = .ok (.if_icmp .ne 8, 3) := by decide +kernel
theorem dX12_isUnder_24 : decode cX12_isUnder 24 = .ok (.iload_n 1, 1) := by decide +kernel
theorem dX12_isUnder_25 : decode cX12_isUnder 25 = .ok (.iconst 3, 1) := by decide +kernel
theorem dX12_isUnder_26 : decode cX12_isUnder 26 = .ok (.if_icmp .eq 14, 3) := by decide +kernel
theorem dX12_isUnder_29 : decode cX12_isUnder 29 = .ok (.iload_n 0, 1) := by decide +kernel
theorem dX12_isUnder_30 : decode cX12_isUnder 30 = .ok (.bipush 6, 2) := by decide +kernel
theorem dX12_isUnder_32 : decode cX12_isUnder 32 = .ok (.if_icmp .ne 12, 3) := by decide +kernel
theorem dX12_isUnder_35 : decode cX12_isUnder 35 = .ok (.iload_n 1, 1) := by decide +kernel
theorem dX12_isUnder_36 : decode cX12_isUnder 36 = .ok (.iconst 2, 1) := by decide +kernel
theorem dX12_isUnder_37 : decode cX12_isUnder 37 = .ok (.if_icmp .ne 7, 3) := by decide +kernel
theorem dX12_isUnder_40 : decode cX12_isUnder 40 = .ok (.iconst 1, 1) := by decide +kernel
theorem dX12_isUnder_41 : decode cX12_isUnder 41 = .ok (.goto 4, 3) := by decide +kernel
theorem dX12_isUnder_44 : decode cX12_isUnder 44 = .ok (.iconst 0, 1) := by decide +kernel
theorem dX12_isUnder_45 : decode cX12_isUnder 45 = .ok (.ireturn, 1) := by decide +kernel
theorem dX12_plainBlows_0 : decode cX12_plainBlows 0 = .ok (.aload_n 0, 1) := by decide +kernel
theorem dX12_plainBlows_1 : decode cX12_plainBlows 1 = .ok (.iconst 1, 1) := by decide +kernel
theorem dX12_plainBlows_2 : decode cX12_plainBlows 2 = .ok (.invokevirtual 243, 3) := by decide +kernel
theorem dX12_plainBlows_5 : decode cX12_plainBlows 5 = .ok (.iload_n 1, 1) := by decide +kernel
theorem dX12_plainBlows_6 : decode cX12_plainBlows 6 = .ok (.aload_n 0, 1) := by decide +kernel
theorem dX12_plainBlows_7 : decode cX12_plainBlows 7 = .ok (.getfield 246, 3) := by decide +kernel
theorem dX12_plainBlows_10 : decode cX12_plainBlows 10 = .ok (.iadd, 1) := by decide +kernel
theorem dX12_plainBlows_11 : decode cX12_plainBlows 11 = .ok (.ireturn, 1) := by decide +kernel
theorem dX12_blowsActs_0 : decode cX12_blowsActs 0 = .ok (.aload_n 0, 1) := by decide +kernel
theorem dX12_blowsActs_1 : decode cX12_blowsActs 1 = .ok (.getfield 249, 3) := by decide +kernel
theorem dX12_blowsActs_4 : decode cX12_blowsActs 4 = .ok (.iconst 1, 1) := by decide +kernel
theorem dX12_blowsActs_5 : decode cX12_blowsActs 5 = .ok (.invokestatic 252, 3) := by decide +kernel
theorem dX12_blowsActs_8 : decode cX12_blowsActs 8 = .ok (.ifCond .eq 17, 3) := by decide +kernel
theorem dX12_blowsActs_11 : decode cX12_blowsActs 11 = .ok (.aload_n 0, 1) := by decide +kernel
theorem dX12_blowsActs_12 : decode cX12_blowsActs 12 = .ok (.bipush 11, 2) := by decide +kernel
theorem dX12_blowsActs_14 : decode cX12_blowsActs 14 = .ok (.invokevirtual 243, 3) := by decide +kernel
theorem dX12_blowsActs_17 : decode cX12_blowsActs 17 = .ok (.aload_n 0, 1) := by decide +kernel
theorem dX12_blowsActs_18 : decode cX12_blowsActs 18 = .ok (.iload_n 1, 1) := by decide +kernel
theorem dX12_blowsActs_19 : decode cX12_blowsActs 19 = .ok (.iconst 3, 1) := by decide +kernel
theorem dX12_blowsActs_20 : decode cX12_blowsActs 20 = .ok (.imul, 1) := by decide +kernel
theorem dX12_blowsActs_21 : decode cX12_blowsActs 21 = .ok (.invokevirtual 255, 3) := by decide +kernel
theorem dX12_blowsActs_24 : decode cX12_blowsActs 24 = .ok (.ireturn, 1) := by decide +kernel
theorem dX12_blowsActs_25 : decode cX12_blowsActs 25 = .ok (.aload_n 0, 1) := by decide +kernel
theorem dX12_blowsActs_26 : decode cX12_blowsActs 26 = .ok (.getfield 249, 3) := by decide +kernel
theorem dX12_blowsActs_29 : decode cX12_blowsActs 29 = .ok (.iconst 5, 1) := by decide +kernel
theorem dX12_blowsActs_30 : decode cX12_blowsActs 30 = .ok (.if_icmp .ne 20, 3) := by decide +kernel
theorem dX12_blowsActs_33 : decode cX12_blowsActs 33 = .ok (.aload_n 0, 1) := by decide +kernel
theorem dX12_blowsActs_34 : decode cX12_blowsActs 34 = .ok (.bipush 51, 2) := by decide +kernel
theorem dX12_blowsActs_36 : decode cX12_blowsActs 36 = .ok (.invokevirtual 243, 3) := by decide +kernel
theorem dX12_blowsActs_39 : decode cX12_blowsActs 39 = .ok (.aload_n 0, 1) := by decide +kernel
theorem dX12_blowsActs_40 : decode cX12_blowsActs 40 = .ok (.iload_n 1, 1) := by decide +kernel
theorem dX12_blowsActs_41 : decode cX12_blowsActs 41 = .ok (.invokevirtual 255, 3) := by decide +kernel
theorem dX12_blowsActs_44 : decode cX12_blowsActs 44 = .ok (.aload_n 0, 1) := by decide +kernel
theorem dX12_blowsActs_45 : decode cX12_blowsActs 45 = .ok (.getfield 246, 3) := by decide +kernel
theorem dX12_blowsActs_48 : decode cX12_blowsActs 48 = .ok (.ixor, 1) := by decide +kernel
theorem dX12_blowsActs_49 : decode cX12_blowsActs 49 = .ok (.ireturn, 1) := by decide +kernel
theorem dX12_blowsActs_50 : decode cX12_blowsActs 50 = .ok (.aload_n 0, 1) := by decide +kernel
theorem dX12_blowsActs_51 : decode cX12_blowsActs 51 = .ok (.iload_n 1, 1) := by decide +kernel
theorem dX12_blowsActs_52 : decode cX12_blowsActs 52 = .ok (.invokevirtual 255, 3) := by decide +kernel
theorem dX12_blowsActs_55 : decode cX12_blowsActs 55 = .ok (.ireturn, 1) := by decide +kernel
theorem dX12_plainGoes_0 : decode cX12_plainGoes 0 = .ok (.aload_n 0, 1) := by decide +kernel
theorem dX12_plainGoes_1 : decode cX12_plainGoes 1 = .ok (.iconst 2, 1) := by decide +kernel
theorem dX12_plainGoes_2 : decode cX12_plainGoes 2 = .ok (.invokevirtual 243, 3) := by decide +kernel
theorem dX12_plainGoes_5 : decode cX12_plainGoes 5 = .ok (.aload_n 0, 1) := by decide +kernel
theorem dX12_plainGoes_6 : decode cX12_plainGoes 6 = .ok (.iload_n 1, 1) := by decide +kernel
theorem dX12_plainGoes_7 : decode cX12_plainGoes 7 = .ok (.invokevirtual 258, 3) := by decide +kernel
theorem dX12_plainGoes_10 : decode cX12_plainGoes 10 = .ok (.aload_n 0, 1) := by decide +kernel
theorem dX12_plainGoes_11 : decode cX12_plainGoes 11 = .ok (.getfield 261, 3) := by decide +kernel
theorem dX12_plainGoes_14 : decode cX12_plainGoes 14 = .ok (.isub, 1) := by decide +kernel
theorem dX12_plainGoes_15 : decode cX12_plainGoes 15 = .ok (.ireturn, 1) := by decide +kernel
theorem dX12_turnGoes_0 : decode cX12_turnGoes 0 = .ok (.aload_n 0, 1) := by decide +kernel
theorem dX12_turnGoes_1 : decode cX12_turnGoes 1 = .ok (.bipush 21, 2) := by decide +kernel
theorem dX12_turnGoes_3 : decode cX12_turnGoes 3 = .ok (.invokevirtual 243, 3) := by decide +kernel
theorem dX12_turnGoes_6 : decode cX12_turnGoes 6 = .ok (.aload_n 0, 1) := by decide +kernel
theorem dX12_turnGoes_7 : decode cX12_turnGoes 7 = .ok (.iload_n 1, 1) := by decide +kernel
theorem dX12_turnGoes_8 : decode cX12_turnGoes 8 = .ok (.invokevirtual 264, 3) := by decide +kernel
theorem dX12_turnGoes_11 : decode cX12_turnGoes 11 = .ok (.ineg, 1) := by decide +kernel
theorem dX12_turnGoes_12 : decode cX12_turnGoes 12 = .ok (.ireturn, 1) := by decide +kernel
theorem dX12_goesActs_0 : decode cX12_goesActs 0 = .ok (.aload_n 0, 1) := by decide +kernel
theorem dX12_goesActs_1 : decode cX12_goesActs 1 = .ok (.getfield 249, 3) := by decide +kernel
theorem dX12_goesActs_4 : decode cX12_goesActs 4 = .ok (.bipush 6, 2) := by decide +kernel
theorem dX12_goesActs_6 : decode cX12_goesActs 6 = .ok (.if_icmp .ne 20, 3) := by decide +kernel
theorem dX12_goesActs_9 : decode cX12_goesActs 9 = .ok (.aload_n 0, 1) := by decide +kernel
theorem dX12_goesActs_10 : decode cX12_goesActs 10 = .ok (.bipush 61, 2) := by decide +kernel
theorem dX12_goesActs_12 : decode cX12_goesActs 12 = .ok (.invokevirtual 243, 3) := by decide +kernel
theorem dX12_goesActs_15 : decode cX12_goesActs 15 = .ok (.aload_n 0, 1) := by decide +kernel
theorem dX12_goesActs_16 : decode cX12_goesActs 16 = .ok (.iload_n 1, 1) := by decide +kernel
theorem dX12_goesActs_17 : decode cX12_goesActs 17 = .ok (.invokevirtual 267, 3) := by decide +kernel
theorem dX12_goesActs_20 : decode cX12_goesActs 20 = .ok (.aload_n 0, 1) := by decide +kernel
theorem dX12_goesActs_21 : decode cX12_goesActs 21 = .ok (.getfield 261, 3) := by decide +kernel
theorem dX12_goesActs_24 : decode cX12_goesActs 24 = .ok (.iadd, 1) := by decide +kernel
theorem dX12_goesActs_25 : decode cX12_goesActs 25 = .ok (.ireturn, 1) := by decide +kernel
theorem dX12_goesActs_26 : decode cX12_goesActs 26 = .ok (.aload_n 0, 1) := by decide +kernel
theorem dX12_goesActs_27 : decode cX12_goesActs 27 = .ok (.getfield 249, 3) := by decide +kernel
theorem dX12_goesActs_30 : decode cX12_goesActs 30 = .ok (.iconst 2, 1) := by decide +kernel
theorem dX12_goesActs_31 : decode cX12_goesActs 31 = .ok (.if_icmp .ne 11, 3) := by decide +kernel
theorem dX12_goesActs_34 : decode cX12_goesActs 34 = .ok (.aload_n 0, 1) := by decide +kernel
theorem dX12_goesActs_35 : decode cX12_goesActs 35 = .ok (.iload_n 1, 1) := by decide +kernel
theorem dX12_goesActs_36 : decode cX12_goesActs 36 = .ok (.invokevirtual 267, 3) := by decide +kernel
theorem dX12_goesActs_39 : decode cX12_goesActs 39 = .ok (.goto 8, 3) := by decide +kernel
theorem dX12_goesActs_42 : decode cX12_goesActs 42 = .ok (.aload_n 0, 1) := by decide +kernel
theorem dX12_goesActs_43 : decode cX12_goesActs 43 = .ok (.iload_n 1, 1) := by decide +kernel
theorem dX12_goesActs_44 : decode cX12_goesActs 44 = .ok (.invokevirtual 264, 3) := by decide +kernel
theorem dX12_goesActs_47 : decode cX12_goesActs 47 = .ok (.ireturn, 1) := by decide +kernel
theorem dX12_plainTells_0 : decode cX12_plainTells 0 = .ok (.aload_n 0, 1) := by decide +kernel
theorem dX12_plainTells_1 : decode cX12_plainTells 1 = .ok (.iconst 3, 1) := by decide +kernel
theorem dX12_plainTells_2 : decode cX12_plainTells 2 = .ok (.invokevirtual 243, 3) := by decide +kernel
theorem dX12_plainTells_5 : decode cX12_plainTells 5 = .ok (.aload_n 0, 1) := by decide +kernel
theorem dX12_plainTells_6 : decode cX12_plainTells 6 = .ok (.iload_n 1, 1) := by decide +kernel
theorem dX12_plainTells_7 : decode cX12_plainTells 7 = .ok (.invokevirtual 270, 3) := by decide +kernel
theorem dX12_plainTells_10 : decode cX12_plainTells 10 = .ok (.iconst 2, 1) := by decide +kernel
theorem dX12_plainTells_11 : decode cX12_plainTells 11 = .ok (.imul, 1) := by decide +kernel
theorem dX12_plainTells_12 : decode cX12_plainTells 12 = .ok (.ireturn, 1) := by decide +kernel
theorem dX12_tellsActs_0 : decode cX12_tellsActs 0 = .ok (.aload_n 0, 1) := by decide +kernel
theorem dX12_tellsActs_1 : decode cX12_tellsActs 1 = .ok (.getfield 249, 3) := by decide +kernel
theorem dX12_tellsActs_4 : decode cX12_tellsActs 4 = .ok (.iconst 3, 1) := by decide +kernel
theorem dX12_tellsActs_5 : decode cX12_tellsActs 5 = .ok (.invokestatic 252, 3) := by decide +kernel
theorem dX12_tellsActs_8 : decode cX12_tellsActs 8 = .ok (.ifCond .eq 18, 3) := by decide +kernel
theorem dX12_tellsActs_11 : decode cX12_tellsActs 11 = .ok (.aload_n 0, 1) := by decide +kernel
theorem dX12_tellsActs_12 : decode cX12_tellsActs 12 = .ok (.bipush 31, 2) := by decide +kernel
theorem dX12_tellsActs_14 : decode cX12_tellsActs 14 = .ok (.invokevirtual 243, 3) := by decide +kernel
theorem dX12_tellsActs_17 : decode cX12_tellsActs 17 = .ok (.aload_n 0, 1) := by decide +kernel
theorem dX12_tellsActs_18 : decode cX12_tellsActs 18 = .ok (.iload_n 1, 1) := by decide +kernel
theorem dX12_tellsActs_19 : decode cX12_tellsActs 19 = .ok (.invokevirtual 273, 3) := by decide +kernel
theorem dX12_tellsActs_22 : decode cX12_tellsActs 22 = .ok (.bipush 7, 2) := by decide +kernel
theorem dX12_tellsActs_24 : decode cX12_tellsActs 24 = .ok (.ixor, 1) := by decide +kernel
theorem dX12_tellsActs_25 : decode cX12_tellsActs 25 = .ok (.ireturn, 1) := by decide +kernel
theorem dX12_tellsActs_26 : decode cX12_tellsActs 26 = .ok (.aload_n 0, 1) := by decide +kernel
theorem dX12_tellsActs_27 : decode cX12_tellsActs 27 = .ok (.getfield 249, 3) := by decide +kernel
theorem dX12_tellsActs_30 : decode cX12_tellsActs 30 = .ok (.iconst 4, 1) := by decide +kernel
theorem dX12_tellsActs_31 : decode cX12_tellsActs 31 = .ok (.if_icmp .ne 25, 3) := by decide +kernel
theorem dX12_tellsActs_34 : decode cX12_tellsActs 34 = .ok (.aload_n 0, 1) := by decide +kernel
theorem dX12_tellsActs_35 : decode cX12_tellsActs 35 = .ok (.bipush 41, 2) := by decide +kernel
theorem dX12_tellsActs_37 : decode cX12_tellsActs 37 = .ok (.invokevirtual 243, 3) := by decide +kernel
theorem dX12_tellsActs_40 : decode cX12_tellsActs 40 = .ok (.aload_n 0, 1) := by decide +kernel
theorem dX12_tellsActs_41 : decode cX12_tellsActs 41 = .ok (.iload_n 1, 1) := by decide +kernel
theorem dX12_tellsActs_42 : decode cX12_tellsActs 42 = .ok (.iconst 1, 1) := by decide +kernel
theorem dX12_tellsActs_43 : decode cX12_tellsActs 43 = .ok (.isub, 1) := by decide +kernel
theorem dX12_tellsActs_44 : decode cX12_tellsActs 44 = .ok (.invokevirtual 273, 3) := by decide +kernel
theorem dX12_tellsActs_47 : decode cX12_tellsActs 47 = .ok (.istore_n 2, 1) := by decide +kernel
theorem dX12_tellsActs_48 : decode cX12_tellsActs 48 = .ok (.iload_n 2, 1) := by decide +kernel
theorem dX12_tellsActs_49 : decode cX12_tellsActs 49 = .ok (.aload_n 0, 1) := by decide +kernel
theorem dX12_tellsActs_50 : decode cX12_tellsActs 50 = .ok (.iconst 2, 1) := by decide +kernel
theorem dX12_tellsActs_51 : decode cX12_tellsActs 51 = .ok (.invokevirtual 258, 3) := by decide +kernel
theorem dX12_tellsActs_54 : decode cX12_tellsActs 54 = .ok (.iadd, 1) := by decide +kernel
theorem dX12_tellsActs_55 : decode cX12_tellsActs 55 = .ok (.ireturn, 1) := by decide +kernel
theorem dX12_tellsActs_56 : decode cX12_tellsActs 56 = .ok (.aload_n 0, 1) := by decide +kernel
theorem dX12_tellsActs_57 : decode cX12_tellsActs 57 = .ok (.iload_n 1, 1) := by decide +kernel
theorem dX12_tellsActs_58 : decode cX12_tellsActs 58 = .ok (.invokevirtual 273, 3) := by decide +kernel
theorem dX12_tellsActs_61 : decode cX12_tellsActs 61 = .ok (.ireturn, 1) := by decide +kernel
theorem dX12_act_0 : decode cX12_act 0 = .ok (.aload_n 0, 1) := by decide +kernel
theorem dX12_act_1 : decode cX12_act 1 = .ok (.iconst 0, 1) := by decide +kernel
theorem dX12_act_2 : decode cX12_act 2 = .ok (.putfield 240, 3) := by decide +kernel
theorem dX12_act_5 : decode cX12_act 5 = .ok (.aload_n 0, 1) := by decide +kernel
theorem dX12_act_6 : decode cX12_act 6 = .ok (.iload_n 1, 1) := by decide +kernel
theorem dX12_act_7 : decode cX12_act 7 = .ok (.invokevirtual 151, 3) := by decide +kernel
theorem dX12_act_10 : decode cX12_act 10 = .ok (.ifCond .eq 12, 3) := by decide +kernel
theorem dX12_act_13 : decode cX12_act 13 = .ok (.iload_n 2, 1) := by decide +kernel
theorem dX12_act_14 : decode cX12_act 14 = .ok (.iconst 0, 1) := by decide +kernel
theorem dX12_act_15 : decode cX12_act 15 = .ok (.iconst 2, 1) := by decide +kernel
theorem dX12_act_16 : decode cX12_act 16 = .ok (.invokestatic 41, 3) := by decide +kernel
theorem dX12_act_19 : decode cX12_act 19 = .ok (.ifCond .ne 5, 3) := by decide +kernel
theorem dX12_act_22 : decode cX12_act 22 = .ok (.iconst 0, 1) := by decide +kernel
theorem dX12_act_23 : decode cX12_act 23 = .ok (.ireturn, 1) := by decide +kernel
theorem dX12_act_24 : decode cX12_act 24 = .ok (.aload_n 0, 1) := by decide +kernel
theorem dX12_act_25 : decode cX12_act 25 = .ok (.aload_n 0, 1) := by decide +kernel
theorem dX12_act_26 : decode cX12_act 26 = .ok (.getfield 9, 3) := by decide +kernel
theorem dX12_act_29 : decode cX12_act 29 = .ok (.bipush 22, 2) := by decide +kernel
theorem dX12_act_31 : decode cX12_act 31 = .ok (.iload_n 1, 1) := by decide +kernel
theorem dX12_act_32 : decode cX12_act 32 = .ok (.iadd, 1) := by decide +kernel
theorem dX12_act_33 : decode cX12_act 33 = .ok (.iaload, 1) := by decide +kernel
theorem dX12_act_34 : decode cX12_act 34 = .ok (.putfield 249, 3) := by decide +kernel
theorem dX12_act_37 : decode cX12_act 37 = .ok (.aload_n 0, 1) := by decide +kernel
theorem dX12_act_38 : decode cX12_act 38 = .ok (.iload_n 1, 1) := by decide +kernel
theorem dX12_act_39 : decode cX12_act 39 = .ok (.putfield 246, 3) := by decide +kernel
theorem dX12_act_42 : decode cX12_act 42 = .ok (.aload_n 0, 1) := by decide +kernel
theorem dX12_act_43 : decode cX12_act 43 = .ok (.aload_n 0, 1) := by decide +kernel
theorem dX12_act_44 : decode cX12_act 44 = .ok (.getfield 9, 3) := by decide +kernel
theorem dX12_act_47 : decode cX12_act 47 = .ok (.bipush 26, 2) := by decide +kernel
theorem dX12_act_49 : decode cX12_act 49 = .ok (.iload_n 1, 1) := by decide +kernel
theorem dX12_act_50 : decode cX12_act 50 = .ok (.iadd, 1) := by decide +kernel
theorem dX12_act_51 : decode cX12_act 51 = .ok (.iaload, 1) := by decide +kernel
theorem dX12_act_52 : decode cX12_act 52 = .ok (.putfield 261, 3) := by decide +kernel
theorem dX12_act_55 : decode cX12_act 55 = .ok (.iload_n 2, 1) := by decide +kernel
theorem dX12_act_56 : decode cX12_act 56 = .ok (.ifCond .ne 11, 3) := by decide +kernel
theorem dX12_act_59 : decode cX12_act 59 = .ok (.aload_n 0, 1) := by decide +kernel
theorem dX12_act_60 : decode cX12_act 60 = .ok (.iload_n 3, 1) := by decide +kernel
theorem dX12_act_61 : decode cX12_act 61 = .ok (.invokevirtual 258, 3) := by decide +kernel
theorem dX12_act_64 : decode cX12_act 64 = .ok (.goto 21, 3) := by decide +kernel
theorem dX12_act_67 : decode cX12_act 67 = .ok (.iload_n 2, 1) := by decide +kernel
theorem dX12_act_68 : decode cX12_act 68 = .ok (.iconst 1, 1) := by decide +kernel
theorem dX12_act_69 : decode cX12_act 69 = .ok (.if_icmp .ne 11, 3) := by decide +kernel
theorem dX12_act_72 : decode cX12_act 72 = .ok (.aload_n 0, 1) := by decide +kernel
theorem dX12_act_73 : decode cX12_act 73 = .ok (.iload_n 3, 1) := by decide +kernel
theorem dX12_act_74 : decode cX12_act 74 = .ok (.invokevirtual 270, 3) := by decide +kernel
theorem dX12_act_77 : decode cX12_act 77 = .ok (.goto 8, 3) := by decide +kernel
theorem dX12_act_80 : decode cX12_act 80 = .ok (.aload_n 0, 1) := by decide +kernel
theorem dX12_act_81 : decode cX12_act 81 = .ok (.iload_n 3, 1) := by decide +kernel
theorem dX12_act_82 : decode cX12_act 82 = .ok (.invokevirtual 276, 3) := by decide +kernel
theorem dX12_act_85 : decode cX12_act 85 = .ok (.ireturn, 1) := by decide +kernel
theorem dX12_trace_0 : decode cX12_trace 0 = .ok (.iload_n 1, 1) := by decide +kernel
theorem dX12_trace_1 : decode cX12_trace 1 = .ok (.iconst 0, 1) := by decide +kernel
theorem dX12_trace_2 : decode cX12_trace 2 = .ok (.aload_n 0, 1) := by decide +kernel
theorem dX12_trace_3 : decode cX12_trace 3 = .ok (.getfield 240, 3) := by decide +kernel
theorem dX12_trace_6 : decode cX12_trace 6 = .ok (.bipush 20, 2) := by decide +kernel
theorem dX12_trace_8 : decode cX12_trace 8 = .ok (.if_icmp .ge 10, 3) := by decide +kernel
theorem dX12_trace_11 : decode cX12_trace 11 = .ok (.aload_n 0, 1) := by decide +kernel
theorem dX12_trace_12 : decode cX12_trace 12 = .ok (.getfield 240, 3) := by decide +kernel
theorem dX12_trace_15 : decode cX12_trace 15 = .ok (.goto 5, 3) := by decide +kernel
theorem dX12_trace_18 : decode cX12_trace 18 = .ok (.bipush 20, 2) := by decide +kernel
theorem dX12_trace_20 : decode cX12_trace 20 = .ok (.iconst 1, 1) := by decide +kernel
theorem dX12_trace_21 : decode cX12_trace 21 = .ok (.isub, 1) := by decide +kernel
theorem dX12_trace_22 : decode cX12_trace 22 = .ok (.invokestatic 41, 3) := by decide +kernel
theorem dX12_trace_25 : decode cX12_trace 25 = .ok (.ifCond .eq 12, 3) := by decide +kernel
theorem dX12_trace_28 : decode cX12_trace 28 = .ok (.aload_n 0, 1) := by decide +kernel
theorem dX12_trace_29 : decode cX12_trace 29 = .ok (.getfield 34, 3) := by decide +kernel
theorem dX12_trace_32 : decode cX12_trace 32 = .ok (.iload_n 1, 1) := by decide +kernel
theorem dX12_trace_33 : decode cX12_trace 33 = .ok (.iaload, 1) := by decide +kernel
theorem dX12_trace_34 : decode cX12_trace 34 = .ok (.goto 4, 3) := by decide +kernel
theorem dX12_trace_37 : decode cX12_trace 37 = .ok (.iconst (-1), 1) := by decide +kernel
theorem dX12_trace_38 : decode cX12_trace 38 = .ok (.ireturn, 1) := by decide +kernel
theorem dX12_as_0 : decode cX12_as 0 = .ok (.aload_n 0, 1) := by decide +kernel
theorem dX12_as_1 : decode cX12_as 1 = .ok (.iload_n 1, 1) := by decide +kernel
theorem dX12_as_2 : decode cX12_as 2 = .ok (.invokevirtual 151, 3) := by decide +kernel
theorem dX12_as_5 : decode cX12_as 5 = .ok (.ifCond .eq 13, 3) := by decide +kernel
theorem dX12_as_8 : decode cX12_as 8 = .ok (.iload_n 2, 1) := by decide +kernel
theorem dX12_as_9 : decode cX12_as 9 = .ok (.iconst 0, 1) := by decide +kernel
theorem dX12_as_10 : decode cX12_as 10 = .ok (.bipush 6, 2) := by decide +kernel
theorem dX12_as_12 : decode cX12_as 12 = .ok (.invokestatic 41, 3) := by decide +kernel
theorem dX12_as_15 : decode cX12_as 15 = .ok (.ifCond .ne 5, 3) := by decide +kernel
theorem dX12_as_18 : decode cX12_as 18 = .ok (.iconst (-1), 1) := by decide +kernel
theorem dX12_as_19 : decode cX12_as 19 = .ok (.ireturn, 1) := by decide +kernel
theorem dX12_as_20 : decode cX12_as 20 = .ok (.aload_n 0, 1) := by decide +kernel
theorem dX12_as_21 : decode cX12_as 21 = .ok (.getfield 9, 3) := by decide +kernel
theorem dX12_as_24 : decode cX12_as 24 = .ok (.bipush 22, 2) := by decide +kernel
theorem dX12_as_26 : decode cX12_as 26 = .ok (.iload_n 1, 1) := by decide +kernel
theorem dX12_as_27 : decode cX12_as 27 = .ok (.iadd, 1) := by decide +kernel
theorem dX12_as_28 : decode cX12_as 28 = .ok (.iaload, 1) := by decide +kernel
theorem dX12_as_29 : decode cX12_as 29 = .ok (.iload_n 2, 1) := by decide +kernel
theorem dX12_as_30 : decode cX12_as 30 = .ok (.invokestatic 252, 3) := by decide +kernel
theorem dX12_as_33 : decode cX12_as 33 = .ok (.ifCond .eq 15, 3) := by decide +kernel
theorem dX12_as_36 : decode cX12_as 36 = .ok (.aload_n 0, 1) := by decide +kernel
theorem dX12_as_37 : decode cX12_as 37 = .ok (.getfield 9, 3) := by decide +kernel
theorem dX12_as_40 : decode cX12_as 40 = .ok (.bipush 26, 2) := by decide +kernel
theorem dX12_as_42 : decode cX12_as 42 = .ok (.iload_n 1, 1) := by decide +kernel
theorem dX12_as_43 : decode cX12_as 43 = .ok (.iadd, 1) := by decide +kernel
theorem dX12_as_44 : decode cX12_as 44 = .ok (.iaload, 1) := by decide +kernel
theorem dX12_as_45 : decode cX12_as 45 = .ok (.goto 5, 3) := by decide +kernel
theorem dX12_as_48 : decode cX12_as 48 = .ok (.bipush (-6), 2) := by decide +kernel
theorem dX12_as_50 : decode cX12_as 50 = .ok (.ireturn, 1) := by decide +kernel
theorem dX12_image_0 : decode cX12_image 0 = .ok (.iconst 0, 1) := by decide +kernel
theorem dX12_image_1 : decode cX12_image 1 = .ok (.istore_n 1, 1) := by decide +kernel
theorem dX12_image_2 : decode cX12_image 2 = .ok (.iload_n 1, 1) := by decide +kernel
theorem dX12_image_3 : decode cX12_image 3 = .ok (.sipush 943, 3) := by decide +kernel
theorem dX12_image_6 : decode cX12_image 6 = .ok (.if_icmp .ge 21, 3) := by decide +kernel
theorem dX12_image_9 : decode cX12_image 9 = .ok (.aload_n 0, 1) := by decide +kernel
theorem dX12_image_10 : decode cX12_image 10 = .ok (.getfield 15, 3) := by decide +kernel
theorem dX12_image_13 : decode cX12_image 13 = .ok (.iload_n 1, 1) := by decide +kernel
theorem dX12_image_14 : decode cX12_image 14 = .ok (.aload_n 0, 1) := by decide +kernel
theorem dX12_image_15 : decode cX12_image 15 = .ok (.getfield 9, 3) := by decide +kernel
theorem dX12_image_18 : decode cX12_image 18 = .ok (.iload_n 1, 1) := by decide +kernel
theorem dX12_image_19 : decode cX12_image 19 = .ok (.iaload, 1) := by decide +kernel
theorem dX12_image_20 : decode cX12_image 20 = .ok (.iastore, 1) := by decide +kernel
theorem dX12_image_21 : decode cX12_image 21 = .ok (.iinc 1 1, 3) := by decide +kernel
theorem dX12_image_24 : decode cX12_image 24 = .ok (.goto (-22), 3) := by decide +kernel
theorem dX12_image_27 : decode cX12_image 27 = .ok (.aload_n 0, 1) := by decide +kernel
theorem dX12_image_28 : decode cX12_image 28 = .ok (.iconst 1, 1) := by decide +kernel
theorem dX12_image_29 : decode cX12_image 29 = .ok (.putfield 279, 3) := by decide +kernel
theorem dX12_image_32 : decode cX12_image 32 = .ok (.aload_n 0, 1) := by decide +kernel
theorem dX12_image_33 : decode cX12_image 33 = .ok (.getfield 9, 3) := by decide +kernel
theorem dX12_image_36 : decode cX12_image 36 = .ok (.bipush 13, 2) := by decide +kernel
theorem dX12_image_38 : decode cX12_image 38 = .ok (.iaload, 1) := by decide +kernel
theorem dX12_image_39 : decode cX12_image 39 = .ok (.ireturn, 1) := by decide +kernel
theorem dX12_undo_0 : decode cX12_undo 0 = .ok (.aload_n 0, 1) := by decide +kernel
theorem dX12_undo_1 : decode cX12_undo 1 = .ok (.getfield 279, 3) := by decide +kernel
theorem dX12_undo_4 : decode cX12_undo 4 = .ok (.ifCond .ne 6, 3) := by decide +kernel
theorem dX12_undo_7 : decode cX12_undo 7 = .ok (.bipush (-3), 2) := by decide +kernel
theorem dX12_undo_9 : decode cX12_undo 9 = .ok (.ireturn, 1) := by decide +kernel
theorem dX12_undo_10 : decode cX12_undo 10 = .ok (.iconst 0, 1) := by decide +kernel
theorem dX12_undo_11 : decode cX12_undo 11 = .ok (.istore_n 1, 1) := by decide +kernel
theorem dX12_undo_12 : decode cX12_undo 12 = .ok (.iload_n 1, 1) := by decide +kernel
theorem dX12_undo_13 : decode cX12_undo 13 = .ok (.sipush 943, 3) := by decide +kernel
theorem dX12_undo_16 : decode cX12_undo 16 = .ok (.if_icmp .ge 21, 3) := by decide +kernel
theorem dX12_undo_19 : decode cX12_undo 19 = .ok (.aload_n 0, 1) := by decide +kernel
theorem dX12_undo_20 : decode cX12_undo 20 = .ok (.getfield 9, 3) := by decide +kernel
theorem dX12_undo_23 : decode cX12_undo 23 = .ok (.iload_n 1, 1) := by decide +kernel
theorem dX12_undo_24 : decode cX12_undo 24 = .ok (.aload_n 0, 1) := by decide +kernel
theorem dX12_undo_25 : decode cX12_undo 25 = .ok (.getfield 15, 3) := by decide +kernel
theorem dX12_undo_28 : decode cX12_undo 28 = .ok (.iload_n 1, 1) := by decide +kernel
theorem dX12_undo_29 : decode cX12_undo 29 = .ok (.iaload, 1) := by decide +kernel
theorem dX12_undo_30 : decode cX12_undo 30 = .ok (.iastore, 1) := by decide +kernel
theorem dX12_undo_31 : decode cX12_undo 31 = .ok (.iinc 1 1, 3) := by decide +kernel
theorem dX12_undo_34 : decode cX12_undo 34 = .ok (.goto (-22), 3) := by decide +kernel
theorem dX12_undo_37 : decode cX12_undo 37 = .ok (.aload_n 0, 1) := by decide +kernel
theorem dX12_undo_38 : decode cX12_undo 38 = .ok (.getfield 9, 3) := by decide +kernel
theorem dX12_undo_41 : decode cX12_undo 41 = .ok (.bipush 13, 2) := by decide +kernel
theorem dX12_undo_43 : decode cX12_undo 43 = .ok (.iaload, 1) := by decide +kernel
theorem dX12_undo_44 : decode cX12_undo 44 = .ok (.ireturn, 1) := by decide +kernel
theorem dX12_count_0 : decode cX12_count 0 = .ok (.iload_n 1, 1) := by decide +kernel
theorem dX12_count_1 : decode cX12_count 1 = .ok (.bipush 7, 2) := by decide +kernel
theorem dX12_count_3 : decode cX12_count 3 = .ok (.if_icmp .ne 10, 3) := by decide +kernel
theorem dX12_count_6 : decode cX12_count 6 = .ok (.aload_n 0, 1) := by decide +kernel
theorem dX12_count_7 : decode cX12_count 7 = .ok (.getfield 240, 3) := by decide +kernel
theorem dX12_count_10 : decode cX12_count 10 = .ok (.goto 26, 3) := by decide +kernel
theorem dX12_count_13 : decode cX12_count 13 = .ok (.iload_n 1, 1) := by decide +kernel
theorem dX12_count_14 : decode cX12_count 14 = .ok (.iconst 0, 1) := by decide +kernel
theorem dX12_count_15 : decode cX12_count 15 = .ok (.bipush 6, 2) := by decide +kernel
theorem dX12_count_17 : decode cX12_count 17 = .ok (.invokestatic 41, 3) := by decide +kernel
theorem dX12_count_20 : decode cX12_count 20 = .ok (.ifCond .eq 15, 3) := by decide +kernel
theorem dX12_count_23 : decode cX12_count 23 = .ok (.aload_n 0, 1) := by decide +kernel
theorem dX12_count_24 : decode cX12_count 24 = .ok (.getfield 9, 3) := by decide +kernel
theorem dX12_count_27 : decode cX12_count 27 = .ok (.bipush 13, 2) := by decide +kernel
theorem dX12_count_29 : decode cX12_count 29 = .ok (.iload_n 1, 1) := by decide +kernel
theorem dX12_count_30 : decode cX12_count 30 = .ok (.iadd, 1) := by decide +kernel
theorem dX12_count_31 : decode cX12_count 31 = .ok (.iaload, 1) := by decide +kernel
theorem dX12_count_32 : decode cX12_count 32 = .ok (.goto 4, 3) := by decide +kernel
theorem dX12_count_35 : decode cX12_count 35 = .ok (.iconst (-1), 1) := by decide +kernel
theorem dX12_count_36 : decode cX12_count 36 = .ok (.ireturn, 1) := by decide +kernel
