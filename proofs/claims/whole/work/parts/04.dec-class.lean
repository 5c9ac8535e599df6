theorem dX11_init_0 : decode cX11_init 0 = .ok (.aload_n 0, 1) := by decide +kernel
theorem dX11_init_1 : decode cX11_init 1 = .ok (.invokespecial 3, 3) := by decide +kernel
theorem dX11_init_4 : decode cX11_init 4 = .ok (.aload_n 0, 1) := by decide +kernel
theorem dX11_init_5 : decode cX11_init 5 = .ok (.new 9, 3) := by decide +kernel
theorem dX11_init_8 : decode cX11_init 8 = .ok (.dup, 1) := by decide +kernel
theorem dX11_init_9 : decode cX11_init 9 = .ok (.invokespecial 11, 3) := by decide +kernel
theorem dX11_init_12 : decode cX11_init 12 = .ok (.putfield 12, 3) := by decide +kernel
theorem dX11_init_15 : decode cX11_init 15 = .ok (.aload_n 0, 1) := by decide +kernel
theorem dX11_init_16 : decode cX11_init 16 = .ok (.new 9, 3) := by decide +kernel
theorem dX11_init_19 : decode cX11_init 19 = .ok (.dup, 1) := by decide +kernel
theorem dX11_init_20 : decode cX11_init 20 = .ok (.invokespecial 11, 3) := by decide +kernel
theorem dX11_init_23 : decode cX11_init 23 = .ok (.putfield 18, 3) := by decide +kernel
theorem dX11_init_26 : decode cX11_init 26 = .ok (.aload_n 0, 1) := by decide +kernel
theorem dX11_init_27 : decode cX11_init 27 = .ok (.iconst 0, 1) := by decide +kernel
theorem dX11_init_28 : decode cX11_init 28 = .ok (.putfield 21, 3) := by decide +kernel
theorem dX11_init_31 : decode cX11_init 31 = .ok (.aload_n 0, 1) := by decide +kernel
theorem dX11_init_32 : decode cX11_init 32 = .ok (.new 25, 3) := by decide +kernel
theorem dX11_init_35 : decode cX11_init 35 = .ok (.dup, 1) := by decide +kernel
theorem dX11_init_36 : decode cX11_init 36 = .ok (.invokespecial 27, 3) := by decide +kernel
theorem dX11_init_39 : decode cX11_init 39 = .ok (.putfield 28, 3) := by decide +kernel
theorem dX11_init_42 : decode cX11_init 42 = .ok (.aload_n 0, 1) := by decide +kernel
theorem dX11_init_43 : decode cX11_init 43 = .ok (.bipush 10, 2) := by decide +kernel
theorem dX11_init_45 : decode cX11_init 45 = .ok (.newarray .int, 2) := by decide +kernel
theorem dX11_init_47 : decode cX11_init 47 = .ok (.putfield 32, 3) := by decide +kernel
theorem dX11_init_50 : decode cX11_init 50 = .ok (.aload_n 0, 1) := by decide +kernel
theorem dX11_init_51 : decode cX11_init 51 = .ok (.new 36, 3) := by decide +kernel
theorem dX11_init_54 : decode cX11_init 54 = .ok (.dup, 1) := by decide +kernel
theorem dX11_init_55 : decode cX11_init 55 = .ok (.invokespecial 38, 3) := by decide +kernel
theorem dX11_init_58 : decode cX11_init 58 = .ok (.putfield 39, 3) := by decide +kernel
theorem dX11_init_61 : decode cX11_init 61 = .ok (.return_, 1) := by decide +kernel
theorem dX11_feed_0 : decode cX11_feed 0 = .ok (.iload_n 1, 1) := by decide +kernel
theorem dX11_feed_1 : decode cX11_feed 1 = .ok (.ifCond .lt 9, 3) := by decide +kernel
theorem dX11_feed_4 : decode cX11_feed 4 = .ok (.iload_n 1, 1) := by decide +kernel
theorem dX11_feed_5 : decode cX11_feed 5 = .ok (.bipush 127, 2) := by decide +kernel
theorem dX11_feed_7 : decode cX11_feed 7 = .ok (.if_icmp .le 6, 3) := by decide +kernel
theorem dX11_feed_10 : decode cX11_feed 10 = .ok (.bipush (-2), 2) := by decide +kernel
theorem dX11_feed_12 : decode cX11_feed 12 = .ok (.ireturn, 1) := by decide +kernel
theorem dX11_feed_13 : decode cX11_feed 13 = .ok (.aload_n 0, 1) := by decide +kernel
theorem dX11_feed_14 : decode cX11_feed 14 = .ok (.getfield 12, 3) := by decide +kernel
theorem dX11_feed_17 : decode cX11_feed 17 = .ok (.getfield 43, 3) := by decide +kernel
theorem dX11_feed_20 : decode cX11_feed 20 = .ok (.bipush 100, 2) := by decide +kernel
theorem dX11_feed_22 : decode cX11_feed 22 = .ok (.if_icmp .lt 6, 3) := by decide +kernel
theorem dX11_feed_25 : decode cX11_feed 25 = .ok (.bipush (-4), 2) := by decide +kernel
theorem dX11_feed_27 : decode cX11_feed 27 = .ok (.ireturn, 1) := by decide +kernel
theorem dX11_feed_28 : decode cX11_feed 28 = .ok (.aload_n 0, 1) := by decide +kernel
theorem dX11_feed_29 : decode cX11_feed 29 = .ok (.getfield 12, 3) := by decide +kernel
theorem dX11_feed_32 : decode cX11_feed 32 = .ok (.getfield 47, 3) := by decide +kernel
theorem dX11_feed_35 : decode cX11_feed 35 = .ok (.aload_n 0, 1) := by decide +kernel
theorem dX11_feed_36 : decode cX11_feed 36 = .ok (.getfield 12, 3) := by decide +kernel
theorem dX11_feed_39 : decode cX11_feed 39 = .ok (.getfield 43, 3) := by decide +kernel
theorem dX11_feed_42 : decode cX11_feed 42 = .ok (.iload_n 1, 1) := by decide +kernel
theorem dX11_feed_43 : decode cX11_feed 43 = .ok (.iastore, 1) := by decide +kernel
theorem dX11_feed_44 : decode cX11_feed 44 = .ok (.aload_n 0, 1) := by decide +kernel
theorem dX11_feed_45 : decode cX11_feed 45 = .ok (.getfield 12, 3) := by decide +kernel
theorem dX11_feed_48 : decode cX11_feed 48 = .ok (.dup, 1) := by decide +kernel
theorem dX11_feed_49 : decode cX11_feed 49 = .ok (.getfield 43, 3) := by decide +kernel
theorem dX11_feed_52 : decode cX11_feed 52 = .ok (.iconst 1, 1) := by decide +kernel
theorem dX11_feed_53 : decode cX11_feed 53 = .ok (.iadd, 1) := by decide +kernel
theorem dX11_feed_54 : decode cX11_feed 54 = .ok (.putfield 43, 3) := by decide +kernel
theorem dX11_feed_57 : decode cX11_feed 57 = .ok (.aload_n 0, 1) := by decide +kernel
theorem dX11_feed_58 : decode cX11_feed 58 = .ok (.getfield 12, 3) := by decide +kernel
theorem dX11_feed_61 : decode cX11_feed 61 = .ok (.getfield 43, 3) := by decide +kernel
theorem dX11_feed_64 : decode cX11_feed 64 = .ok (.ireturn, 1) := by decide +kernel
theorem dX11_room_0 : decode cX11_room 0 = .ok (.aload_n 0, 1) := by decide +kernel
theorem dX11_room_1 : decode cX11_room 1 = .ok (.getfield 12, 3) := by decide +kernel
theorem dX11_room_4 : decode cX11_room 4 = .ok (.getfield 50, 3) := by decide +kernel
theorem dX11_room_7 : decode cX11_room 7 = .ok (.iconst 5, 1) := by decide +kernel
theorem dX11_room_8 : decode cX11_room 8 = .ok (.if_icmp .lt 6, 3) := by decide +kernel
theorem dX11_room_11 : decode cX11_room 11 = .ok (.bipush (-4), 2) := by decide +kernel
theorem dX11_room_13 : decode cX11_room 13 = .ok (.ireturn, 1) := by decide +kernel
theorem dX11_room_14 : decode cX11_room 14 = .ok (.new 53, 3) := by decide +kernel
theorem dX11_room_17 : decode cX11_room 17 = .ok (.dup, 1) := by decide +kernel
theorem dX11_room_18 : decode cX11_room 18 = .ok (.invokespecial 55, 3) := by decide +kernel
theorem dX11_room_21 : decode cX11_room 21 = .ok (.astore_n 1, 1) := by decide +kernel
theorem dX11_room_22 : decode cX11_room 22 = .ok (.aload_n 1, 1) := by decide +kernel
theorem dX11_room_23 : decode cX11_room 23 = .ok (.aload_n 0, 1) := by decide +kernel
theorem dX11_room_24 : decode cX11_room 24 = .ok (.getfield 12, 3) := by decide +kernel
theorem dX11_room_27 : decode cX11_room 27 = .ok (.getfield 47, 3) := by decide +kernel
theorem dX11_room_30 : decode cX11_room 30 = .ok (.aload_n 0, 1) := by decide +kernel
theorem dX11_room_31 : decode cX11_room 31 = .ok (.getfield 12, 3) := by decide +kernel
theorem dX11_room_34 : decode cX11_room 34 = .ok (.getfield 43, 3) := by decide +kernel
theorem dX11_room_37 : decode cX11_room 37 = .ok (.invokevirtual 56, 3) := by decide +kernel
theorem dX11_room_40 : decode cX11_room 40 = .ok (.istore_n 2, 1) := by decide +kernel
theorem dX11_room_41 : decode cX11_room 41 = .ok (.aload_n 0, 1) := by decide +kernel
theorem dX11_room_42 : decode cX11_room 42 = .ok (.getfield 12, 3) := by decide +kernel
theorem dX11_room_45 : decode cX11_room 45 = .ok (.iconst 0, 1) := by decide +kernel
theorem dX11_room_46 : decode cX11_room 46 = .ok (.putfield 43, 3) := by decide +kernel
theorem dX11_room_49 : decode cX11_room 49 = .ok (.iload_n 2, 1) := by decide +kernel
theorem dX11_room_50 : decode cX11_room 50 = .ok (.ifCond .ne 11, 3) := by decide +kernel
theorem dX11_room_53 : decode cX11_room 53 = .ok (.bipush (-10), 2) := by decide +kernel
theorem dX11_room_55 : decode cX11_room 55 = .ok (.aload_n 1, 1) := by decide +kernel
theorem dX11_room_56 : decode cX11_room 56 = .ok (.getfield 60, 3) := by decide +kernel
theorem dX11_room_59 : decode cX11_room 59 = .ok (.isub, 1) := by decide +kernel
theorem dX11_room_60 : decode cX11_room 60 = .ok (.ireturn, 1) := by decide +kernel
theorem dX11_room_61 : decode cX11_room 61 = .ok (.aload_n 0, 1) := by decide +kernel
theorem dX11_room_62 : decode cX11_room 62 = .ok (.getfield 12, 3) := by decide +kernel
theorem dX11_room_65 : decode cX11_room 65 = .ok (.aload_n 1, 1) := by decide +kernel
theorem dX11_room_66 : decode cX11_room 66 = .ok (.putfield 62, 3) := by decide +kernel
theorem dX11_room_69 : decode cX11_room 69 = .ok (.aload_n 0, 1) := by decide +kernel
theorem dX11_room_70 : decode cX11_room 70 = .ok (.getfield 12, 3) := by decide +kernel
theorem dX11_room_73 : decode cX11_room 73 = .ok (.dup, 1) := by decide +kernel
theorem dX11_room_74 : decode cX11_room 74 = .ok (.getfield 50, 3) := by decide +kernel
theorem dX11_room_77 : decode cX11_room 77 = .ok (.iconst 1, 1) := by decide +kernel
theorem dX11_room_78 : decode cX11_room 78 = .ok (.iadd, 1) := by decide +kernel
theorem dX11_room_79 : decode cX11_room 79 = .ok (.putfield 50, 3) := by decide +kernel
theorem dX11_room_82 : decode cX11_room 82 = .ok (.aload_n 0, 1) := by decide +kernel
theorem dX11_room_83 : decode cX11_room 83 = .ok (.getfield 12, 3) := by decide +kernel
theorem dX11_room_86 : decode cX11_room 86 = .ok (.getfield 50, 3) := by decide +kernel
theorem dX11_room_89 : decode cX11_room 89 = .ok (.iconst 1, 1) := by decide +kernel
theorem dX11_room_90 : decode cX11_room 90 = .ok (.isub, 1) := by decide +kernel
theorem dX11_room_91 : decode cX11_room 91 = .ok (.ireturn, 1) := by decide +kernel
theorem dX11_fan_0 : decode cX11_fan 0 = .ok (.iload_n 1, 1) := by decide +kernel
theorem dX11_fan_1 : decode cX11_fan 1 = .ok (.ifCond .lt 9, 3) := by decide +kernel
theorem dX11_fan_4 : decode cX11_fan 4 = .ok (.iload_n 1, 1) := by decide +kernel
theorem dX11_fan_5 : decode cX11_fan 5 = .ok (.bipush 6, 2) := by decide +kernel
theorem dX11_fan_7 : decode cX11_fan 7 = .ok (.if_icmp .le 5, 3) := by decide +kernel
theorem dX11_fan_10 : decode cX11_fan 10 = .ok (.iconst (-1), 1) := by decide +kernel
theorem dX11_fan_11 : decode cX11_fan 11 = .ok (.ireturn, 1) := by decide +kernel
theorem dX11_fan_12 : decode cX11_fan 12 = .ok (.iload_n 2, 1) := by decide +kernel
theorem dX11_fan_13 : decode cX11_fan 13 = .ok (.ifCond .lt 20, 3) := by decide +kernel
theorem dX11_fan_16 : decode cX11_fan 16 = .ok (.iload_n 2, 1) := by decide +kernel
theorem dX11_fan_17 : decode cX11_fan 17 = .ok (.bipush 9, 2) := by decide +kernel
theorem dX11_fan_19 : decode cX11_fan 19 = .ok (.if_icmp .gt 14, 3) := by decide +kernel
theorem dX11_fan_22 : decode cX11_fan 22 = .ok (.iload_n 3, 1) := by decide +kernel
theorem dX11_fan_23 : decode cX11_fan 23 = .ok (.iload 4, 2) := by decide +kernel
theorem dX11_fan_25 : decode cX11_fan 25 = .ok (.iload 5, 2) := by decide +kernel
theorem dX11_fan_27 : decode cX11_fan 27 = .ok (.invokestatic 66, 3) := by decide +kernel
theorem dX11_fan_30 : decode cX11_fan 30 = .ok (.ifCond .ne 6, 3) := by decide +kernel
theorem dX11_fan_33 : decode cX11_fan 33 = .ok (.bipush (-2), 2) := by decide +kernel
theorem dX11_fan_35 : decode cX11_fan 35 = .ok (.ireturn, 1) := by decide +kernel
theorem dX11_fan_36 : decode cX11_fan 36 = .ok (.aload_n 0, 1) := by decide +kernel
theorem dX11_fan_37 : decode cX11_fan 37 = .ok (.getfield 12, 3) := by decide +kernel
theorem dX11_fan_40 : decode cX11_fan 40 = .ok (.getfield 70, 3) := by decide +kernel
theorem dX11_fan_43 : decode cX11_fan 43 = .ok (.iconst 4, 1) := by decide +kernel
theorem dX11_fan_44 : decode cX11_fan 44 = .ok (.if_icmp .lt 6, 3) := by decide +kernel
theorem dX11_fan_47 : decode cX11_fan 47 = .ok (.bipush (-4), 2) := by decide +kernel
theorem dX11_fan_49 : decode cX11_fan 49 = .ok (.ireturn, 1) := by decide +kernel
theorem dX11_fan_50 : decode cX11_fan 50 = .ok (.aload_n 0, 1) := by decide +kernel
theorem dX11_fan_51 : decode cX11_fan 51 = .ok (.getfield 12, 3) := by decide +kernel
theorem dX11_fan_54 : decode cX11_fan 54 = .ok (.getfield 73, 3) := by decide +kernel
theorem dX11_fan_57 : decode cX11_fan 57 = .ok (.aload_n 0, 1) := by decide +kernel
theorem dX11_fan_58 : decode cX11_fan 58 = .ok (.getfield 12, 3) := by decide +kernel
theorem dX11_fan_61 : decode cX11_fan 61 = .ok (.getfield 70, 3) := by decide +kernel
theorem dX11_fan_64 : decode cX11_fan 64 = .ok (.iload_n 1, 1) := by decide +kernel
theorem dX11_fan_65 : decode cX11_fan 65 = .ok (.aload_n 0, 1) := by decide +kernel
theorem dX11_fan_66 : decode cX11_fan 66 = .ok (.getfield 12, 3) := by decide +kernel
theorem dX11_fan_69 : decode cX11_fan 69 = .ok (.getfield 70, 3) := by decide +kernel
theorem dX11_fan_72 : decode cX11_fan 72 = .ok (.iload_n 2, 1) := by decide +kernel
theorem dX11_fan_73 : decode cX11_fan 73 = .ok (.iload_n 3, 1) := by decide +kernel
theorem dX11_fan_74 : decode cX11_fan 74 = .ok (.iload 4, 2) := by decide +kernel
theorem dX11_fan_76 : decode cX11_fan 76 = .ok (.iload 5, 2) := by decide +kernel
theorem dX11_fan_78 : decode cX11_fan 78 = .ok (.invokestatic 77, 3) := by decide +kernel
theorem dX11_fan_81 : decode cX11_fan 81 = .ok (.aastore, 1) := by decide +kernel
theorem dX11_fan_82 : decode cX11_fan 82 = .ok (.aload_n 0, 1) := by decide +kernel
theorem dX11_fan_83 : decode cX11_fan 83 = .ok (.getfield 12, 3) := by decide +kernel
theorem dX11_fan_86 : decode cX11_fan 86 = .ok (.dup, 1) := by decide +kernel
theorem dX11_fan_87 : decode cX11_fan 87 = .ok (.getfield 70, 3) := by decide +kernel
theorem dX11_fan_90 : decode cX11_fan 90 = .ok (.iconst 1, 1) := by decide +kernel
theorem dX11_fan_91 : decode cX11_fan 91 = .ok (.iadd, 1) := by decide +kernel
theorem dX11_fan_92 : decode cX11_fan 92 = .ok (.putfield 70, 3) := by decide +kernel
theorem dX11_fan_95 : decode cX11_fan 95 = .ok (.aload_n 0, 1) := by decide +kernel
theorem dX11_fan_96 : decode cX11_fan 96 = .ok (.getfield 12, 3) := by decide +kernel
theorem dX11_fan_99 : decode cX11_fan 99 = .ok (.getfield 70, 3) := by decide +kernel
theorem dX11_fan_102 : decode cX11_fan 102 = .ok (.iconst 1, 1) := by decide +kernel
theorem dX11_fan_103 : decode cX11_fan 103 = .ok (.isub, 1) := by decide +kernel
theorem dX11_fan_104 : decode cX11_fan 104 = .ok (.ireturn, 1) := by decide +kernel
theorem dX11_of_0 : decode cX11_of 0 = .ok (.aload_n 0, 1) := by decide +kernel
theorem dX11_of_1 : decode cX11_of 1 = .ok (.getfield 12, 3) := by decide +kernel
theorem dX11_of_4 : decode cX11_of 4 = .ok (.iload_n 1, 1) := by decide +kernel
theorem dX11_of_5 : decode cX11_of 5 = .ok (.invokevirtual 81, 3) := by decide +kernel
theorem dX11_of_8 : decode cX11_of 8 = .ok (.astore_n 3, 1) := by decide +kernel
theorem dX11_of_9 : decode cX11_of 9 = .ok (.aload_n 3, 1) := by decide +kernel
theorem dX11_of_10 : decode cX11_of 10 = .ok (.ifnonnull 5, 3) := by decide +kernel
theorem dX11_of_13 : decode cX11_of 13 = .ok (.iconst (-1), 1) := by decide +kernel
theorem dX11_of_14 : decode cX11_of 14 = .ok (.ireturn, 1) := by decide +kernel
theorem dX11_of_15 : decode cX11_of 15 = .ok (.iload_n 2, 1) := by decide +kernel
theorem dX11_of_16 : decode cX11_of 16 = .ok (.tableswitch 101 0 6 #[44, 49, 54, 59, 64, 69, 82], 44) := by decide +kernel
theorem dX11_of_60 : decode cX11_of 60 = .ok (.aload_n 3, 1) := by decide +kernel
theorem dX11_of_61 : decode cX11_of 61 = .ok (.getfield 85, 3) := by decide +kernel
theorem dX11_of_64 : decode cX11_of 64 = .ok (.ireturn, 1) := by decide +kernel
theorem dX11_of_65 : decode cX11_of 65 = .ok (.aload_n 3, 1) := by decide +kernel
theorem dX11_of_66 : decode cX11_of 66 = .ok (.getfield 90, 3) := by decide +kernel
theorem dX11_of_69 : decode cX11_of 69 = .ok (.ireturn, 1) := by decide +kernel
theorem dX11_of_70 : decode cX11_of 70 = .ok (.aload_n 3, 1) := by decide +kernel
theorem dX11_of_71 : decode cX11_of 71 = .ok (.getfield 93, 3) := by decide +kernel
theorem dX11_of_74 : decode cX11_of 74 = .ok (.ireturn, 1) := by decide +kernel
theorem dX11_of_75 : decode cX11_of 75 = .ok (.aload_n 3, 1) := by decide +kernel
theorem dX11_of_76 : decode cX11_of 76 = .ok (.getfield 96, 3) := by decide +kernel
theorem dX11_of_79 : decode cX11_of 79 = .ok (.ireturn, 1) := by decide +kernel
theorem dX11_of_80 : decode cX11_of 80 = .ok (.aload_n 3, 1) := by decide +kernel
theorem dX11_of_81 : decode cX11_of 81 = .ok (.getfield 99, 3) := by decide +kernel
theorem dX11_of_84 : decode cX11_of 84 = .ok (.ireturn, 1) := by decide +kernel
theorem dX11_of_85 : decode cX11_of 85 = .ok (.aload_n 3, 1) := by decide +kernel
theorem dX11_of_86 : decode cX11_of 86 = .ok (.getfield 102, 3) := by decide +kernel
theorem dX11_of_89 : decode cX11_of 89 = .ok (.ifCond .eq 7, 3) := by decide +kernel
theorem dX11_of_92 : decode cX11_of 92 = .ok (.iconst 1, 1) := by decide +kernel
theorem dX11_of_93 : decode cX11_of 93 = .ok (.goto 4, 3) := by decide +kernel
theorem dX11_of_96 : decode cX11_of 96 = .ok (.iconst 0, 1) := by decide +kernel
theorem dX11_of_97 : decode cX11_of 97 = .ok (.ireturn, 1) := by decide +kernel
theorem dX11_of_98 : decode cX11_of 98 = .ok (.aload_n 3, 1) := by decide +kernel
theorem dX11_of_99 : decode cX11_of 99 = .ok (.aload_n 0, 1) := by decide +kernel
theorem dX11_of_100 : decode cX11_of 100 = .ok (.getfield 12, 3) := by decide +kernel
theorem dX11_of_103 : decode cX11_of 103 = .ok (.getfield 105, 3) := by decide +kernel
theorem dX11_of_106 : decode cX11_of 106 = .ok (.aload_n 0, 1) := by decide +kernel
theorem dX11_of_107 : decode cX11_of 107 = .ok (.getfield 12, 3) := by decide +kernel
theorem dX11_of_110 : decode cX11_of 110 = .ok (.getfield 108, 3) := by decide +kernel
theorem dX11_of_113 : decode cX11_of 113 = .ok (.invokevirtual 111, 3) := by decide +kernel
theorem dX11_of_116 : decode cX11_of 116 = .ok (.ireturn, 1) := by decide +kernel
theorem dX11_of_117 : decode cX11_of 117 = .ok (.iconst (-1), 1) := by decide +kernel
theorem dX11_of_118 : decode cX11_of 118 = .ok (.ireturn, 1) := by decide +kernel
theorem dX11_turn_0 : decode cX11_turn 0 = .ok (.aload_n 0, 1) := by decide +kernel
theorem dX11_turn_1 : decode cX11_turn 1 = .ok (.getfield 12, 3) := by decide +kernel
theorem dX11_turn_4 : decode cX11_turn 4 = .ok (.iload_n 1, 1) := by decide +kernel
theorem dX11_turn_5 : decode cX11_turn 5 = .ok (.invokevirtual 81, 3) := by decide +kernel
theorem dX11_turn_8 : decode cX11_turn 8 = .ok (.astore 5, 2) := by decide +kernel
theorem dX11_turn_10 : decode cX11_turn 10 = .ok (.aload 5, 2) := by decide +kernel
theorem dX11_turn_12 : decode cX11_turn 12 = .ok (.ifnonnull 5, 3) := by decide +kernel
theorem dX11_turn_15 : decode cX11_turn 15 = .ok (.iconst (-1), 1) := by decide +kernel
theorem dX11_turn_16 : decode cX11_turn 16 = .ok (.ireturn, 1) := by decide +kernel
theorem dX11_turn_17 : decode cX11_turn 17 = .ok (.iload_n 2, 1) := by decide +kernel
theorem dX11_turn_18 : decode cX11_turn 18 = .ok (.iload_n 3, 1) := by decide +kernel
theorem dX11_turn_19 : decode cX11_turn 19 = .ok (.iload 4, 2) := by decide +kernel
theorem dX11_turn_21 : decode cX11_turn 21 = .ok (.invokestatic 66, 3) := by decide +kernel
theorem dX11_turn_24 : decode cX11_turn 24 = .ok (.ifCond .ne 6, 3) := by decide +kernel
theorem dX11_turn_27 : decode cX11_turn 27 = .ok (.bipush (-2), 2) := by decide +kernel
theorem dX11_turn_29 : decode cX11_turn 29 = .ok (.ireturn, 1) := by decide +kernel
theorem dX11_turn_30 : decode cX11_turn 30 = .ok (.aload 5, 2) := by decide +kernel
theorem dX11_turn_32 : decode cX11_turn 32 = .ok (.iload_n 2, 1) := by decide +kernel
theorem dX11_turn_33 : decode cX11_turn 33 = .ok (.putfield 93, 3) := by decide +kernel
theorem dX11_turn_36 : decode cX11_turn 36 = .ok (.aload 5, 2) := by decide +kernel
theorem dX11_turn_38 : decode cX11_turn 38 = .ok (.iload_n 3, 1) := by decide +kernel
theorem dX11_turn_39 : decode cX11_turn 39 = .ok (.putfield 96, 3) := by decide +kernel
theorem dX11_turn_42 : decode cX11_turn 42 = .ok (.aload 5, 2) := by decide +kernel
theorem dX11_turn_44 : decode cX11_turn 44 = .ok (.iload 4, 2) := by decide +kernel
theorem dX11_turn_46 : decode cX11_turn 46 = .ok (.putfield 99, 3) := by decide +kernel
theorem dX11_turn_49 : decode cX11_turn 49 = .ok (.aload 5, 2) := by decide +kernel
theorem dX11_turn_51 : decode cX11_turn 51 = .ok (.aload_n 0, 1) := by decide +kernel
theorem dX11_turn_52 : decode cX11_turn 52 = .ok (.getfield 12, 3) := by decide +kernel
theorem dX11_turn_55 : decode cX11_turn 55 = .ok (.getfield 105, 3) := by decide +kernel
theorem dX11_turn_58 : decode cX11_turn 58 = .ok (.aload_n 0, 1) := by decide +kernel
theorem dX11_turn_59 : decode cX11_turn 59 = .ok (.getfield 12, 3) := by decide +kernel
theorem dX11_turn_62 : decode cX11_turn 62 = .ok (.getfield 108, 3) := by decide +kernel
theorem dX11_turn_65 : decode cX11_turn 65 = .ok (.invokevirtual 111, 3) := by decide +kernel
theorem dX11_turn_68 : decode cX11_turn 68 = .ok (.ireturn, 1) := by decide +kernel
theorem dX11_on_0 : decode cX11_on 0 = .ok (.aload_n 0, 1) := by decide +kernel
theorem dX11_on_1 : decode cX11_on 1 = .ok (.getfield 12, 3) := by decide +kernel
theorem dX11_on_4 : decode cX11_on 4 = .ok (.iload_n 1, 1) := by decide +kernel
theorem dX11_on_5 : decode cX11_on 5 = .ok (.invokevirtual 81, 3) := by decide +kernel
theorem dX11_on_8 : decode cX11_on 8 = .ok (.astore_n 3, 1) := by decide +kernel
theorem dX11_on_9 : decode cX11_on 9 = .ok (.aload_n 3, 1) := by decide +kernel
theorem dX11_on_10 : decode cX11_on 10 = .ok (.ifnonnull 5, 3) := by decide +kernel
theorem dX11_on_13 : decode cX11_on 13 = .ok (.iconst (-1), 1) := by decide +kernel
theorem dX11_on_14 : decode cX11_on 14 = .ok (.ireturn, 1) := by decide +kernel
theorem dX11_on_15 : decode cX11_on 15 = .ok (.aload_n 3, 1) := by decide +kernel
theorem dX11_on_16 : decode cX11_on 16 = .ok (.getfield 102, 3) := by decide +kernel
theorem dX11_on_19 : decode cX11_on 19 = .ok (.ifCond .eq 7, 3) := by decide +kernel
theorem dX11_on_22 : decode cX11_on 22 = .ok (.iconst 1, 1) := by decide +kernel
theorem dX11_on_23 : decode cX11_on 23 = .ok (.goto 4, 3) := by decide +kernel
theorem dX11_on_26 : decode cX11_on 26 = .ok (.iconst 0, 1) := by decide +kernel
theorem dX11_on_27 : decode cX11_on 27 = .ok (.istore 4, 2) := by decide +kernel
theorem dX11_on_29 : decode cX11_on 29 = .ok (.aload_n 3, 1) := by decide +kernel
theorem dX11_on_30 : decode cX11_on 30 = .ok (.iload_n 2, 1) := by decide +kernel
theorem dX11_on_31 : decode cX11_on 31 = .ok (.putfield 102, 3) := by decide +kernel
theorem dX11_on_34 : decode cX11_on 34 = .ok (.iload 4, 2) := by decide +kernel
theorem dX11_on_36 : decode cX11_on 36 = .ok (.ireturn, 1) := by decide +kernel
theorem dX11_row_0 : decode cX11_row 0 = .ok (.aload_n 0, 1) := by decide +kernel
theorem dX11_row_1 : decode cX11_row 1 = .ok (.getfield 12, 3) := by decide +kernel
theorem dX11_row_4 : decode cX11_row 4 = .ok (.iload_n 1, 1) := by decide +kernel
theorem dX11_row_5 : decode cX11_row 5 = .ok (.invokevirtual 81, 3) := by decide +kernel
theorem dX11_row_8 : decode cX11_row 8 = .ok (.astore 4, 2) := by decide +kernel
theorem dX11_row_10 : decode cX11_row 10 = .ok (.aload 4, 2) := by decide +kernel
theorem dX11_row_12 : decode cX11_row 12 = .ok (.ifnull 12, 3) := by decide +kernel
theorem dX11_row_15 : decode cX11_row 15 = .ok (.iload_n 2, 1) := by decide +kernel
theorem dX11_row_16 : decode cX11_row 16 = .ok (.ifCond .lt 8, 3) := by decide +kernel
theorem dX11_row_19 : decode cX11_row 19 = .ok (.iload_n 2, 1) := by decide +kernel
theorem dX11_row_20 : decode cX11_row 20 = .ok (.iconst 3, 1) := by decide +kernel
theorem dX11_row_21 : decode cX11_row 21 = .ok (.if_icmp .le 5, 3) := by decide +kernel
theorem dX11_row_24 : decode cX11_row 24 = .ok (.iconst (-1), 1) := by decide +kernel
theorem dX11_row_25 : decode cX11_row 25 = .ok (.ireturn, 1) := by decide +kernel
theorem dX11_row_26 : decode cX11_row 26 = .ok (.iload_n 3, 1) := by decide +kernel
theorem dX11_row_27 : decode cX11_row 27 = .ok (.invokestatic 115, 3) := by decide +kernel
theorem dX11_row_30 : decode cX11_row 30 = .ok (.ifCond .ne 6, 3) := by decide +kernel
theorem dX11_row_33 : decode cX11_row 33 = .ok (.bipush (-2), 2) := by decide +kernel
theorem dX11_row_35 : decode cX11_row 35 = .ok (.ireturn, 1) := by decide +kernel
theorem dX11_row_36 : decode cX11_row 36 = .ok (.aload 4, 2) := by decide +kernel
theorem dX11_row_38 : decode cX11_row 38 = .ok (.instanceof 119, 3) := by decide +kernel
theorem dX11_row_41 : decode cX11_row 41 = .ok (.ifCond .eq 30, 3) := by decide +kernel
theorem dX11_row_44 : decode cX11_row 44 = .ok (.aload 4, 2) := by decide +kernel
theorem dX11_row_46 : decode cX11_row 46 = .ok (.checkcast 119, 3) := by decide +kernel
theorem dX11_row_49 : decode cX11_row 49 = .ok (.astore 5, 2) := by decide +kernel
theorem dX11_row_51 : decode cX11_row 51 = .ok (.aload 5, 2) := by decide +kernel
theorem dX11_row_53 : decode cX11_row 53 = .ok (.getfield 121, 3) := by decide +kernel
theorem dX11_row_56 : decode cX11_row 56 = .ok (.iload_n 2, 1) := by decide +kernel
theorem dX11_row_57 : decode cX11_row 57 = .ok (.iaload, 1) := by decide +kernel
theorem dX11_row_58 : decode cX11_row 58 = .ok (.istore 6, 2) := by decide +kernel
theorem dX11_row_60 : decode cX11_row 60 = .ok (.aload 5, 2) := by decide +kernel
theorem dX11_row_62 : decode cX11_row 62 = .ok (.getfield 121, 3) := by decide +kernel
theorem dX11_row_65 : decode cX11_row 65 = .ok (.iload_n 2, 1) := by decide +kernel
theorem dX11_row_66 : decode cX11_row 66 = .ok (.iload_n 3, 1) := by decide +kernel
theorem dX11_row_67 : decode cX11_row 67 = .ok (.iastore, 1) := by decide +kernel
theorem dX11_row_68 : decode cX11_row 68 = .ok (.iload 6, 2) := by decide +kernel
theorem dX11_row_70 : decode cX11_row 70 = .ok (.ireturn, 1) := by decide +kernel
theorem dX11_row_71 : decode cX11_row 71 = .ok (.bipush (-3), 2) := by decide +kernel
theorem dX11_row_73 : decode cX11_row 73 = .ok (.ireturn, 1) := by decide +kernel
theorem dX11_sitter_0 : decode cX11_sitter 0 = .ok (.iload_n 1, 1) := by decide +kernel
theorem dX11_sitter_1 : decode cX11_sitter 1 = .ok (.invokestatic 115, 3) := by decide +kernel
theorem dX11_sitter_4 : decode cX11_sitter 4 = .ok (.ifCond .ne 5, 3) := by decide +kernel
theorem dX11_sitter_7 : decode cX11_sitter 7 = .ok (.iconst (-1), 1) := by decide +kernel
theorem dX11_sitter_8 : decode cX11_sitter 8 = .ok (.ireturn, 1) := by decide +kernel
theorem dX11_sitter_9 : decode cX11_sitter 9 = .ok (.iload_n 2, 1) := by decide +kernel
theorem dX11_sitter_10 : decode cX11_sitter 10 = .ok (.invokestatic 124, 3) := by decide +kernel
theorem dX11_sitter_13 : decode cX11_sitter 13 = .ok (.ifCond .ne 6, 3) := by decide +kernel
theorem dX11_sitter_16 : decode cX11_sitter 16 = .ok (.bipush (-2), 2) := by decide +kernel
theorem dX11_sitter_18 : decode cX11_sitter 18 = .ok (.ireturn, 1) := by decide +kernel
theorem dX11_sitter_19 : decode cX11_sitter 19 = .ok (.aload_n 0, 1) := by decide +kernel
theorem dX11_sitter_20 : decode cX11_sitter 20 = .ok (.getfield 12, 3) := by decide +kernel
theorem dX11_sitter_23 : decode cX11_sitter 23 = .ok (.getfield 108, 3) := by decide +kernel
theorem dX11_sitter_26 : decode cX11_sitter 26 = .ok (.astore_n 3, 1) := by decide +kernel
theorem dX11_sitter_27 : decode cX11_sitter 27 = .ok (.aload_n 3, 1) := by decide +kernel
theorem dX11_sitter_28 : decode cX11_sitter 28 = .ok (.getfield 127, 3) := by decide +kernel
theorem dX11_sitter_31 : decode cX11_sitter 31 = .ok (.bipush 6, 2) := by decide +kernel
theorem dX11_sitter_33 : decode cX11_sitter 33 = .ok (.if_icmp .lt 6, 3) := by decide +kernel
theorem dX11_sitter_36 : decode cX11_sitter 36 = .ok (.bipush (-4), 2) := by decide +kernel
theorem dX11_sitter_38 : decode cX11_sitter 38 = .ok (.ireturn, 1) := by decide +kernel
theorem dX11_sitter_39 : decode cX11_sitter 39 = .ok (.aload_n 3, 1) := by decide +kernel
theorem dX11_sitter_40 : decode cX11_sitter 40 = .ok (.getfield 130, 3) := by decide +kernel
theorem dX11_sitter_43 : decode cX11_sitter 43 = .ok (.aload_n 3, 1) := by decide +kernel
theorem dX11_sitter_44 : decode cX11_sitter 44 = .ok (.getfield 127, 3) := by decide +kernel
theorem dX11_sitter_47 : decode cX11_sitter 47 = .ok (.iload_n 1, 1) := by decide +kernel
theorem dX11_sitter_48 : decode cX11_sitter 48 = .ok (.iastore, 1) := by decide +kernel
theorem dX11_sitter_49 : decode cX11_sitter 49 = .ok (.aload_n 3, 1) := by decide +kernel
theorem dX11_sitter_50 : decode cX11_sitter 50 = .ok (.getfield 133, 3) := by decide +kernel
theorem dX11_sitter_53 : decode cX11_sitter 53 = .ok (.aload_n 3, 1) := by decide +kernel
theorem dX11_sitter_54 : decode cX11_sitter 54 = .ok (.getfield 127, 3) := by decide +kernel
theorem dX11_sitter_57 : decode cX11_sitter 57 = .ok (.iload_n 2, 1) := by decide +kernel
theorem dX11_sitter_58 : decode cX11_sitter 58 = .ok (.iastore, 1) := by decide +kernel
theorem dX11_sitter_59 : decode cX11_sitter 59 = .ok (.aload_n 3, 1) := by decide +kernel
theorem dX11_sitter_60 : decode cX11_sitter 60 = .ok (.getfield 136, 3) := by decide +kernel
theorem dX11_sitter_63 : decode cX11_sitter 63 = .ok (.aload_n 3, 1) := by decide +kernel
theorem dX11_sitter_64 : decode cX11_sitter 64 = .ok (.getfield 127, 3) := by decide +kernel
theorem dX11_sitter_67 : decode cX11_sitter 67 = .ok (.iconst 0, 1) := by decide +kernel
theorem dX11_sitter_68 : decode cX11_sitter 68 = .ok (.iastore, 1) := by decide +kernel
theorem dX11_sitter_69 : decode cX11_sitter 69 = .ok (.aload_n 3, 1) := by decide +kernel
theorem dX11_sitter_70 : decode cX11_sitter 70 = .ok (.dup, 1) := by decide +kernel
theorem dX11_sitter_71 : decode cX11_sitter 71 = .ok (.getfield 127, 3) := by decide +kernel
theorem dX11_sitter_74 : decode cX11_sitter 74 = .ok (.iconst 1, 1) := by decide +kernel
theorem dX11_sitter_75 : decode cX11_sitter 75 = .ok (.iadd, 1) := by decide +kernel
theorem dX11_sitter_76 : decode cX11_sitter 76 = .ok (.putfield 127, 3) := by decide +kernel
theorem dX11_sitter_79 : decode cX11_sitter 79 = .ok (.aload_n 3, 1) := by decide +kernel
theorem dX11_sitter_80 : decode cX11_sitter 80 = .ok (.getfield 127, 3) := by decide +kernel
theorem dX11_sitter_83 : decode cX11_sitter 83 = .ok (.iconst 1, 1) := by decide +kernel
theorem dX11_sitter_84 : decode cX11_sitter 84 = .ok (.isub, 1) := by decide +kernel
theorem dX11_sitter_85 : decode cX11_sitter 85 = .ok (.ireturn, 1) := by decide +kernel
theorem dX11_at_0 : decode cX11_at 0 = .ok (.aload_n 0, 1) := by decide +kernel
theorem dX11_at_1 : decode cX11_at 1 = .ok (.getfield 12, 3) := by decide +kernel
theorem dX11_at_4 : decode cX11_at 4 = .ok (.getfield 108, 3) := by decide +kernel
theorem dX11_at_7 : decode cX11_at 7 = .ok (.iload_n 1, 1) := by decide +kernel
theorem dX11_at_8 : decode cX11_at 8 = .ok (.invokevirtual 139, 3) := by decide +kernel
theorem dX11_at_11 : decode cX11_at 11 = .ok (.ifCond .ne 5, 3) := by decide +kernel
theorem dX11_at_14 : decode cX11_at 14 = .ok (.iconst (-1), 1) := by decide +kernel
theorem dX11_at_15 : decode cX11_at 15 = .ok (.ireturn, 1) := by decide +kernel
theorem dX11_at_16 : decode cX11_at 16 = .ok (.iload_n 2, 1) := by decide +kernel
theorem dX11_at_17 : decode cX11_at 17 = .ok (.tableswitch 86 0 3 #[31, 44, 57, 70], 31) := by decide +kernel
theorem dX11_at_48 : decode cX11_at 48 = .ok (.aload_n 0, 1) := by decide +kernel
theorem dX11_at_49 : decode cX11_at 49 = .ok (.getfield 12, 3) := by decide +kernel
theorem dX11_at_52 : decode cX11_at 52 = .ok (.getfield 108, 3) := by decide +kernel
theorem dX11_at_55 : decode cX11_at 55 = .ok (.getfield 130, 3) := by decide +kernel
theorem dX11_at_58 : decode cX11_at 58 = .ok (.iload_n 1, 1) := by decide +kernel
theorem dX11_at_59 : decode cX11_at 59 = .ok (.iaload, 1) := by decide +kernel
theorem dX11_at_60 : decode cX11_at 60 = .ok (.ireturn, 1) := by decide +kernel
theorem dX11_at_61 : decode cX11_at 61 = .ok (.aload_n 0, 1) := by decide +kernel
theorem dX11_at_62 : decode cX11_at 62 = .ok (.getfield 12, 3) := by decide +kernel
theorem dX11_at_65 : decode cX11_at 65 = .ok (.getfield 108, 3) := by decide +kernel
theorem dX11_at_68 : decode cX11_at 68 = .ok (.getfield 133, 3) := by decide +kernel
theorem dX11_at_71 : decode cX11_at 71 = .ok (.iload_n 1, 1) := by decide +kernel
theorem dX11_at_72 : decode cX11_at 72 = .ok (.iaload, 1) := by decide +kernel
theorem dX11_at_73 : decode cX11_at 73 = .ok (.ireturn, 1) := by decide +kernel
theorem dX11_at_74 : decode cX11_at 74 = .ok (.aload_n 0, 1) := by decide +kernel
theorem dX11_at_75 : decode cX11_at 75 = .ok (.getfield 12, 3) := by decide +kernel
theorem dX11_at_78 : decode cX11_at 78 = .ok (.getfield 108, 3) := by decide +kernel
theorem dX11_at_81 : decode cX11_at 81 = .ok (.getfield 136, 3) := by decide +kernel
theorem dX11_at_84 : decode cX11_at 84 = .ok (.iload_n 1, 1) := by decide +kernel
theorem dX11_at_85 : decode cX11_at 85 = .ok (.iaload, 1) := by decide +kernel
theorem dX11_at_86 : decode cX11_at 86 = .ok (.ireturn, 1) := by decide +kernel
theorem dX11_at_87 : decode cX11_at 87 = .ok (.aload_n 0, 1) := by decide +kernel
theorem dX11_at_88 : decode cX11_at 88 = .ok (.getfield 12, 3) := by decide +kernel
theorem dX11_at_91 : decode cX11_at 91 = .ok (.iload_n 1, 1) := by decide +kernel
theorem dX11_at_92 : decode cX11_at 92 = .ok (.aload_n 0, 1) := by decide +kernel
theorem dX11_at_93 : decode cX11_at 93 = .ok (.getfield 12, 3) := by decide +kernel
theorem dX11_at_96 : decode cX11_at 96 = .ok (.getfield 105, 3) := by decide +kernel
theorem dX11_at_99 : decode cX11_at 99 = .ok (.invokevirtual 142, 3) := by decide +kernel
theorem dX11_at_102 : decode cX11_at 102 = .ok (.ireturn, 1) := by decide +kernel
theorem dX11_at_103 : decode cX11_at 103 = .ok (.iconst (-1), 1) := by decide +kernel
theorem dX11_at_104 : decode cX11_at 104 = .ok (.ireturn, 1) := by decide +kernel
theorem dX11_move_0 : decode cX11_move 0 = .ok (.aload_n 0, 1) := by decide +kernel
theorem dX11_move_1 : decode cX11_move 1 = .ok (.getfield 12, 3) := by decide +kernel
theorem dX11_move_4 : decode cX11_move 4 = .ok (.getfield 108, 3) := by decide +kernel
theorem dX11_move_7 : decode cX11_move 7 = .ok (.iload_n 1, 1) := by decide +kernel
theorem dX11_move_8 : decode cX11_move 8 = .ok (.invokevirtual 139, 3) := by decide +kernel
theorem dX11_move_11 : decode cX11_move 11 = .ok (.ifCond .eq 10, 3) := by decide +kernel
theorem dX11_move_14 : decode cX11_move 14 = .ok (.iload_n 2, 1) := by decide +kernel
theorem dX11_move_15 : decode cX11_move 15 = .ok (.invokestatic 115, 3) := by decide +kernel
theorem dX11_move_18 : decode cX11_move 18 = .ok (.ifCond .ne 5, 3) := by decide +kernel
theorem dX11_move_21 : decode cX11_move 21 = .ok (.iconst (-1), 1) := by decide +kernel
theorem dX11_move_22 : decode cX11_move 22 = .ok (.ireturn, 1) := by decide +kernel
theorem dX11_move_23 : decode cX11_move 23 = .ok (.aload_n 0, 1) := by decide +kernel
theorem dX11_move_24 : decode cX11_move 24 = .ok (.getfield 12, 3) := by decide +kernel
theorem dX11_move_27 : decode cX11_move 27 = .ok (.getfield 108, 3) := by decide +kernel
theorem dX11_move_30 : decode cX11_move 30 = .ok (.getfield 130, 3) := by decide +kernel
theorem dX11_move_33 : decode cX11_move 33 = .ok (.iload_n 1, 1) := by decide +kernel
theorem dX11_move_34 : decode cX11_move 34 = .ok (.iaload, 1) := by decide +kernel
theorem dX11_move_35 : decode cX11_move 35 = .ok (.istore_n 3, 1) := by decide +kernel
theorem dX11_move_36 : decode cX11_move 36 = .ok (.aload_n 0, 1) := by decide +kernel
theorem dX11_move_37 : decode cX11_move 37 = .ok (.getfield 12, 3) := by decide +kernel
theorem dX11_move_40 : decode cX11_move 40 = .ok (.getfield 108, 3) := by decide +kernel
theorem dX11_move_43 : decode cX11_move 43 = .ok (.getfield 130, 3) := by decide +kernel
theorem dX11_move_46 : decode cX11_move 46 = .ok (.iload_n 1, 1) := by decide +kernel
theorem dX11_move_47 : decode cX11_move 47 = .ok (.iload_n 2, 1) := by decide +kernel
theorem dX11_move_48 : decode cX11_move 48 = .ok (.iastore, 1) := by decide +kernel
theorem dX11_move_49 : decode cX11_move 49 = .ok (.iload_n 3, 1) := by decide +kernel
theorem dX11_move_50 : decode cX11_move 50 = .ok (.ireturn, 1) := by decide +kernel
theorem dX11_heat_0 : decode cX11_heat 0 = .ok (.aload_n 0, 1) := by decide +kernel
theorem dX11_heat_1 : decode cX11_heat 1 = .ok (.getfield 12, 3) := by decide +kernel
theorem dX11_heat_4 : decode cX11_heat 4 = .ok (.getfield 108, 3) := by decide +kernel
theorem dX11_heat_7 : decode cX11_heat 7 = .ok (.iload_n 1, 1) := by decide +kernel
theorem dX11_heat_8 : decode cX11_heat 8 = .ok (.invokevirtual 139, 3) := by decide +kernel
theorem dX11_heat_11 : decode cX11_heat 11 = .ok (.ifCond .ne 5, 3) := by decide +kernel
theorem dX11_heat_14 : decode cX11_heat 14 = .ok (.iconst (-1), 1) := by decide +kernel
theorem dX11_heat_15 : decode cX11_heat 15 = .ok (.ireturn, 1) := by decide +kernel
theorem dX11_heat_16 : decode cX11_heat 16 = .ok (.iload_n 2, 1) := by decide +kernel
theorem dX11_heat_17 : decode cX11_heat 17 = .ok (.invokestatic 124, 3) := by decide +kernel
theorem dX11_heat_20 : decode cX11_heat 20 = .ok (.ifCond .ne 6, 3) := by decide +kernel
theorem dX11_heat_23 : decode cX11_heat 23 = .ok (.bipush (-2), 2) := by decide +kernel
theorem dX11_heat_25 : decode cX11_heat 25 = .ok (.ireturn, 1) := by decide +kernel
theorem dX11_heat_26 : decode cX11_heat 26 = .ok (.aload_n 0, 1) := by decide +kernel
theorem dX11_heat_27 : decode cX11_heat 27 = .ok (.getfield 12, 3) := by decide +kernel
theorem dX11_heat_30 : decode cX11_heat 30 = .ok (.getfield 108, 3) := by decide +kernel
theorem dX11_heat_33 : decode cX11_heat 33 = .ok (.getfield 133, 3) := by decide +kernel
theorem dX11_heat_36 : decode cX11_heat 36 = .ok (.iload_n 1, 1) := by decide +kernel
theorem dX11_heat_37 : decode cX11_heat 37 = .ok (.iaload, 1) := by decide +kernel
theorem dX11_heat_38 : decode cX11_heat 38 = .ok (.istore_n 3, 1) := by decide +kernel
theorem dX11_heat_39 : decode cX11_heat 39 = .ok (.aload_n 0, 1) := by decide +kernel
theorem dX11_heat_40 : decode cX11_heat 40 = .ok (.getfield 12, 3) := by decide +kernel
theorem dX11_heat_43 : decode cX11_heat 43 = .ok (.getfield 108, 3) := by decide +kernel
theorem dX11_heat_46 : decode cX11_heat 46 = .ok (.getfield 133, 3) := by decide +kernel
theorem dX11_heat_49 : decode cX11_heat 49 = .ok (.iload_n 1, 1) := by decide +kernel
theorem dX11_heat_50 : decode cX11_heat 50 = .ok (.iload_n 2, 1) := by decide +kernel
theorem dX11_heat_51 : decode cX11_heat 51 = .ok (.iastore, 1) := by decide +kernel
theorem dX11_heat_52 : decode cX11_heat 52 = .ok (.iload_n 3, 1) := by decide +kernel
theorem dX11_heat_53 : decode cX11_heat 53 = .ok (.ireturn, 1) := by decide +kernel
theorem dX11_told_0 : decode cX11_told 0 = .ok (.iload_n 1, 1) := by decide +kernel
theorem dX11_told_1 : decode cX11_told 1 = .ok (.tableswitch 57 0 2 #[27, 35, 46], 27) := by decide +kernel
theorem dX11_told_28 : decode cX11_told 28 = .ok (.aload_n 0, 1) := by decide +kernel
theorem dX11_told_29 : decode cX11_told 29 = .ok (.getfield 12, 3) := by decide +kernel
theorem dX11_told_32 : decode cX11_told 32 = .ok (.getfield 105, 3) := by decide +kernel
theorem dX11_told_35 : decode cX11_told 35 = .ok (.ireturn, 1) := by decide +kernel
theorem dX11_told_36 : decode cX11_told 36 = .ok (.aload_n 0, 1) := by decide +kernel
theorem dX11_told_37 : decode cX11_told 37 = .ok (.getfield 12, 3) := by decide +kernel
theorem dX11_told_40 : decode cX11_told 40 = .ok (.getfield 62, 3) := by decide +kernel
theorem dX11_told_43 : decode cX11_told 43 = .ok (.getfield 146, 3) := by decide +kernel
theorem dX11_told_46 : decode cX11_told 46 = .ok (.ireturn, 1) := by decide +kernel
theorem dX11_told_47 : decode cX11_told 47 = .ok (.aload_n 0, 1) := by decide +kernel
theorem dX11_told_48 : decode cX11_told 48 = .ok (.getfield 12, 3) := by decide +kernel
theorem dX11_told_51 : decode cX11_told 51 = .ok (.getfield 62, 3) := by decide +kernel
theorem dX11_told_54 : decode cX11_told 54 = .ok (.getfield 149, 3) := by decide +kernel
theorem dX11_told_57 : decode cX11_told 57 = .ok (.ireturn, 1) := by decide +kernel
theorem dX11_told_58 : decode cX11_told 58 = .ok (.iconst (-1), 1) := by decide +kernel
theorem dX11_told_59 : decode cX11_told 59 = .ok (.ireturn, 1) := by decide +kernel
theorem dX11_go_0 : decode cX11_go 0 = .ok (.iload_n 1, 1) := by decide +kernel
theorem dX11_go_1 : decode cX11_go 1 = .ok (.iconst 0, 1) := by decide +kernel
theorem dX11_go_2 : decode cX11_go 2 = .ok (.bipush 60, 2) := by decide +kernel
theorem dX11_go_4 : decode cX11_go 4 = .ok (.invokestatic 152, 3) := by decide +kernel
theorem dX11_go_7 : decode cX11_go 7 = .ok (.ifCond .ne 6, 3) := by decide +kernel
theorem dX11_go_10 : decode cX11_go 10 = .ok (.bipush (-2), 2) := by decide +kernel
theorem dX11_go_12 : decode cX11_go 12 = .ok (.ireturn, 1) := by decide +kernel
theorem dX11_go_13 : decode cX11_go 13 = .ok (.aload_n 0, 1) := by decide +kernel
theorem dX11_go_14 : decode cX11_go 14 = .ok (.getfield 12, 3) := by decide +kernel
theorem dX11_go_17 : decode cX11_go 17 = .ok (.getfield 105, 3) := by decide +kernel
theorem dX11_go_20 : decode cX11_go 20 = .ok (.iload_n 1, 1) := by decide +kernel
theorem dX11_go_21 : decode cX11_go 21 = .ok (.iadd, 1) := by decide +kernel
theorem dX11_go_22 : decode cX11_go 22 = .ok (.ldc 155, 2) := by decide +kernel
theorem dX11_go_24 : decode cX11_go 24 = .ok (.if_icmp .le 6, 3) := by decide +kernel
theorem dX11_go_27 : decode cX11_go 27 = .ok (.bipush (-3), 2) := by decide +kernel
theorem dX11_go_29 : decode cX11_go 29 = .ok (.ireturn, 1) := by decide +kernel
theorem dX11_go_30 : decode cX11_go 30 = .ok (.aload_n 0, 1) := by decide +kernel
theorem dX11_go_31 : decode cX11_go 31 = .ok (.getfield 12, 3) := by decide +kernel
theorem dX11_go_34 : decode cX11_go 34 = .ok (.aload_n 0, 1) := by decide +kernel
theorem dX11_go_35 : decode cX11_go 35 = .ok (.getfield 12, 3) := by decide +kernel
theorem dX11_go_38 : decode cX11_go 38 = .ok (.getfield 108, 3) := by decide +kernel
theorem dX11_go_41 : decode cX11_go 41 = .ok (.aload_n 0, 1) := by decide +kernel
theorem dX11_go_42 : decode cX11_go 42 = .ok (.getfield 12, 3) := by decide +kernel
theorem dX11_go_45 : decode cX11_go 45 = .ok (.invokevirtual 156, 3) := by decide +kernel
theorem dX11_go_48 : decode cX11_go 48 = .ok (.aload_n 0, 1) := by decide +kernel
theorem dX11_go_49 : decode cX11_go 49 = .ok (.getfield 12, 3) := by decide +kernel
theorem dX11_go_52 : decode cX11_go 52 = .ok (.getfield 105, 3) := by decide +kernel
theorem dX11_go_55 : decode cX11_go 55 = .ok (.iload_n 1, 1) := by decide +kernel
theorem dX11_go_56 : decode cX11_go 56 = .ok (.invokevirtual 160, 3) := by decide +kernel
theorem dX11_go_59 : decode cX11_go 59 = .ok (.aload_n 0, 1) := by decide +kernel
theorem dX11_go_60 : decode cX11_go 60 = .ok (.getfield 12, 3) := by decide +kernel
theorem dX11_go_63 : decode cX11_go 63 = .ok (.dup, 1) := by decide +kernel
theorem dX11_go_64 : decode cX11_go 64 = .ok (.getfield 105, 3) := by decide +kernel
theorem dX11_go_67 : decode cX11_go 67 = .ok (.iload_n 1, 1) := by decide +kernel
theorem dX11_go_68 : decode cX11_go 68 = .ok (.iadd, 1) := by decide +kernel
theorem dX11_go_69 : decode cX11_go 69 = .ok (.putfield 105, 3) := by decide +kernel
theorem dX11_go_72 : decode cX11_go 72 = .ok (.aload_n 0, 1) := by decide +kernel
theorem dX11_go_73 : decode cX11_go 73 = .ok (.getfield 12, 3) := by decide +kernel
theorem dX11_go_76 : decode cX11_go 76 = .ok (.getfield 105, 3) := by decide +kernel
theorem dX11_go_79 : decode cX11_go 79 = .ok (.ireturn, 1) := by decide +kernel
theorem dX11_is_0 : decode cX11_is 0 = .ok (.aload_n 0, 1) := by decide +kernel
theorem dX11_is_1 : decode cX11_is 1 = .ok (.getfield 12, 3) := by decide +kernel
theorem dX11_is_4 : decode cX11_is 4 = .ok (.iload_n 1, 1) := by decide +kernel
theorem dX11_is_5 : decode cX11_is 5 = .ok (.invokevirtual 81, 3) := by decide +kernel
theorem dX11_is_8 : decode cX11_is 8 = .ok (.astore_n 3, 1) := by decide +kernel
theorem dX11_is_9 : decode cX11_is 9 = .ok (.aload_n 3, 1) := by decide +kernel
theorem dX11_is_10 : decode cX11_is 10 = .ok (.ifnonnull 5, 3) := by decide +kernel
theorem dX11_is_13 : decode cX11_is 13 = .ok (.iconst (-1), 1) := by decide +kernel
theorem dX11_is_14 : decode cX11_is 14 = .ok (.ireturn, 1) := by decide +kernel
theorem dX11_is_15 : decode cX11_is 15 = .ok (.iload_n 2, 1) := by decide +kernel
theorem dX11_is_16 : decode cX11_is 16 = .ok (.iconst 0, 1) := by decide +kernel
theorem dX11_is_17 : decode cX11_is 17 = .ok (.sipush 9999, 3) := by decide +kernel
theorem dX11_is_20 : decode cX11_is 20 = .ok (.invokestatic 152, 3) := by decide +kernel
theorem dX11_is_23 : decode cX11_is 23 = .ok (.ifCond .ne 6, 3) := by decide +kernel
theorem dX11_is_26 : decode cX11_is 26 = .ok (.bipush (-2), 2) := by decide +kernel
theorem dX11_is_28 : decode cX11_is 28 = .ok (.ireturn, 1) := by decide +kernel
theorem dX11_is_29 : decode cX11_is 29 = .ok (.aload_n 3, 1) := by decide +kernel
theorem dX11_is_30 : decode cX11_is 30 = .ok (.iload_n 2, 1) := by decide +kernel
theorem dX11_is_31 : decode cX11_is 31 = .ok (.aload_n 0, 1) := by decide +kernel
theorem dX11_is_32 : decode cX11_is 32 = .ok (.getfield 12, 3) := by decide +kernel
theorem dX11_is_35 : decode cX11_is 35 = .ok (.getfield 108, 3) := by decide +kernel
theorem dX11_is_38 : decode cX11_is 38 = .ok (.invokevirtual 111, 3) := by decide +kernel
theorem dX11_is_41 : decode cX11_is 41 = .ok (.ireturn, 1) := by decide +kernel
theorem dX11_then_0 : decode cX11_then 0 = .ok (.iload_n 2, 1) := by decide +kernel
theorem dX11_then_1 : decode cX11_then 1 = .ok (.ifCond .eq 8, 3) := by decide +kernel
theorem dX11_then_4 : decode cX11_then 4 = .ok (.iload_n 2, 1) := by decide +kernel
theorem dX11_then_5 : decode cX11_then 5 = .ok (.iconst 1, 1) := by decide +kernel
theorem dX11_then_6 : decode cX11_then 6 = .ok (.if_icmp .ne 7, 3) := by decide +kernel
theorem dX11_then_9 : decode cX11_then 9 = .ok (.iconst 1, 1) := by decide +kernel
theorem dX11_then_10 : decode cX11_then 10 = .ok (.goto 4, 3) := by decide +kernel
theorem dX11_then_13 : decode cX11_then 13 = .ok (.iconst 0, 1) := by decide +kernel
theorem dX11_then_14 : decode cX11_then 14 = .ok (.istore_n 3, 1) := by decide +kernel
theorem dX11_then_15 : decode cX11_then 15 = .ok (.iload_n 2, 1) := by decide +kernel
theorem dX11_then_16 : decode cX11_then 16 = .ok (.bipush 10, 2) := by decide +kernel
theorem dX11_then_18 : decode cX11_then 18 = .ok (.bipush 19, 2) := by decide +kernel
theorem dX11_then_20 : decode cX11_then 20 = .ok (.invokestatic 152, 3) := by decide +kernel
theorem dX11_then_23 : decode cX11_then 23 = .ok (.ifCond .eq 24, 3) := by decide +kernel
theorem dX11_then_26 : decode cX11_then 26 = .ok (.aload_n 0, 1) := by decide +kernel
theorem dX11_then_27 : decode cX11_then 27 = .ok (.getfield 12, 3) := by decide +kernel
theorem dX11_then_30 : decode cX11_then 30 = .ok (.getfield 108, 3) := by decide +kernel
theorem dX11_then_33 : decode cX11_then 33 = .ok (.iload_n 2, 1) := by decide +kernel
theorem dX11_then_34 : decode cX11_then 34 = .ok (.bipush 10, 2) := by decide +kernel
theorem dX11_then_36 : decode cX11_then 36 = .ok (.isub, 1) := by decide +kernel
theorem dX11_then_37 : decode cX11_then 37 = .ok (.invokevirtual 139, 3) := by decide +kernel
theorem dX11_then_40 : decode cX11_then 40 = .ok (.ifCond .eq 7, 3) := by decide +kernel
theorem dX11_then_43 : decode cX11_then 43 = .ok (.iconst 1, 1) := by decide +kernel
theorem dX11_then_44 : decode cX11_then 44 = .ok (.goto 4, 3) := by decide +kernel
theorem dX11_then_47 : decode cX11_then 47 = .ok (.iconst 0, 1) := by decide +kernel
theorem dX11_then_48 : decode cX11_then 48 = .ok (.istore 4, 2) := by decide +kernel
theorem dX11_then_50 : decode cX11_then 50 = .ok (.iload_n 2, 1) := by decide +kernel
theorem dX11_then_51 : decode cX11_then 51 = .ok (.bipush 20, 2) := by decide +kernel
theorem dX11_then_53 : decode cX11_then 53 = .ok (.bipush 29, 2) := by decide +kernel
theorem dX11_then_55 : decode cX11_then 55 = .ok (.invokestatic 152, 3) := by decide +kernel
theorem dX11_then_58 : decode cX11_then 58 = .ok (.ifCond .eq 24, 3) := by decide +kernel
theorem dX11_then_61 : decode cX11_then 61 = .ok (.aload_n 0, 1) := by decide +kernel
theorem dX11_then_62 : decode cX11_then 62 = .ok (.getfield 12, 3) := by decide +kernel
theorem dX11_then_65 : decode cX11_then 65 = .ok (.getfield 108, 3) := by decide +kernel
theorem dX11_then_68 : decode cX11_then 68 = .ok (.iload_n 2, 1) := by decide +kernel
theorem dX11_then_69 : decode cX11_then 69 = .ok (.bipush 20, 2) := by decide +kernel
theorem dX11_then_71 : decode cX11_then 71 = .ok (.isub, 1) := by decide +kernel
theorem dX11_then_72 : decode cX11_then 72 = .ok (.invokevirtual 139, 3) := by decide +kernel
theorem dX11_then_75 : decode cX11_then 75 = .ok (.ifCond .eq 7, 3) := by decide +kernel
theorem dX11_then_78 : decode cX11_then 78 = .ok (.iconst 1, 1) := by decide +kernel
theorem dX11_then_79 : decode cX11_then 79 = .ok (.goto 4, 3) := by decide +kernel
theorem dX11_then_82 : decode cX11_then 82 = .ok (.iconst 0, 1) := by decide +kernel
theorem dX11_then_83 : decode cX11_then 83 = .ok (.istore 5, 2) := by decide +kernel
theorem dX11_then_85 : decode cX11_then 85 = .ok (.iload_n 3, 1) := by decide +kernel
theorem dX11_then_86 : decode cX11_then 86 = .ok (.ifCond .ne 15, 3) := by decide +kernel
theorem dX11_then_89 : decode cX11_then 89 = .ok (.iload 4, 2) := by decide +kernel
theorem dX11_then_91 : decode cX11_then 91 = .ok (.ifCond .ne 10, 3) := by decide +kernel
theorem dX11_then_94 : decode cX11_then 94 = .ok (.iload 5, 2) := by decide +kernel
theorem dX11_then_96 : decode cX11_then 96 = .ok (.ifCond .ne 5, 3) := by decide +kernel
theorem dX11_then_99 : decode cX11_then 99 = .ok (.iconst (-1), 1) := by decide +kernel
theorem dX11_then_100 : decode cX11_then 100 = .ok (.ireturn, 1) := by decide +kernel
theorem dX11_then_101 : decode cX11_then 101 = .ok (.iload_n 1, 1) := by decide +kernel
theorem dX11_then_102 : decode cX11_then 102 = .ok (.iconst 0, 1) := by decide +kernel
theorem dX11_then_103 : decode cX11_then 103 = .ok (.bipush 60, 2) := by decide +kernel
theorem dX11_then_105 : decode cX11_then 105 = .ok (.invokestatic 152, 3) := by decide +kernel
theorem dX11_then_108 : decode cX11_then 108 = .ok (.ifCond .ne 6, 3) := by decide +kernel
theorem dX11_then_111 : decode cX11_then 111 = .ok (.bipush (-2), 2) := by decide +kernel
theorem dX11_then_113 : decode cX11_then 113 = .ok (.ireturn, 1) := by decide +kernel
theorem dX11_then_114 : decode cX11_then 114 = .ok (.aload_n 0, 1) := by decide +kernel
theorem dX11_then_115 : decode cX11_then 115 = .ok (.aload_n 0, 1) := by decide +kernel
theorem dX11_then_116 : decode cX11_then 116 = .ok (.getfield 12, 3) := by decide +kernel
theorem dX11_then_119 : decode cX11_then 119 = .ok (.invokevirtual 156, 3) := by decide +kernel
theorem dX11_then_122 : decode cX11_then 122 = .ok (.iload_n 1, 1) := by decide +kernel
theorem dX11_then_123 : decode cX11_then 123 = .ok (.invokevirtual 164, 3) := by decide +kernel
theorem dX11_then_126 : decode cX11_then 126 = .ok (.astore 6, 2) := by decide +kernel
theorem dX11_then_128 : decode cX11_then 128 = .ok (.iload 4, 2) := by decide +kernel
theorem dX11_then_130 : decode cX11_then 130 = .ok (.ifCond .eq 14, 3) := by decide +kernel
theorem dX11_then_133 : decode cX11_then 133 = .ok (.aload 6, 2) := by decide +kernel
theorem dX11_then_135 : decode cX11_then 135 = .ok (.getfield 133, 3) := by decide +kernel
theorem dX11_then_138 : decode cX11_then 138 = .ok (.iload_n 2, 1) := by decide +kernel
theorem dX11_then_139 : decode cX11_then 139 = .ok (.bipush 10, 2) := by decide +kernel
theorem dX11_then_141 : decode cX11_then 141 = .ok (.isub, 1) := by decide +kernel
theorem dX11_then_142 : decode cX11_then 142 = .ok (.iaload, 1) := by decide +kernel
theorem dX11_then_143 : decode cX11_then 143 = .ok (.ireturn, 1) := by decide +kernel
theorem dX11_then_144 : decode cX11_then 144 = .ok (.iload 5, 2) := by decide +kernel
theorem dX11_then_146 : decode cX11_then 146 = .ok (.ifCond .eq 14, 3) := by decide +kernel
theorem dX11_then_149 : decode cX11_then 149 = .ok (.aload 6, 2) := by decide +kernel
theorem dX11_then_151 : decode cX11_then 151 = .ok (.getfield 168, 3) := by decide +kernel
theorem dX11_then_154 : decode cX11_then 154 = .ok (.iload_n 2, 1) := by decide +kernel
theorem dX11_then_155 : decode cX11_then 155 = .ok (.bipush 20, 2) := by decide +kernel
theorem dX11_then_157 : decode cX11_then 157 = .ok (.isub, 1) := by decide +kernel
theorem dX11_then_158 : decode cX11_then 158 = .ok (.iaload, 1) := by decide +kernel
theorem dX11_then_159 : decode cX11_then 159 = .ok (.ireturn, 1) := by decide +kernel
theorem dX11_then_160 : decode cX11_then 160 = .ok (.iload_n 2, 1) := by decide +kernel
theorem dX11_then_161 : decode cX11_then 161 = .ok (.ifCond .ne 11, 3) := by decide +kernel
theorem dX11_then_164 : decode cX11_then 164 = .ok (.aload 6, 2) := by decide +kernel
theorem dX11_then_166 : decode cX11_then 166 = .ok (.invokevirtual 171, 3) := by decide +kernel
theorem dX11_then_169 : decode cX11_then 169 = .ok (.goto 8, 3) := by decide +kernel
theorem dX11_then_172 : decode cX11_then 172 = .ok (.aload 6, 2) := by decide +kernel
theorem dX11_then_174 : decode cX11_then 174 = .ok (.invokevirtual 174, 3) := by decide +kernel
theorem dX11_then_177 : decode cX11_then 177 = .ok (.ireturn, 1) := by decide +kernel
theorem dX11_hottest_0 : decode cX11_hottest 0 = .ok (.iload_n 1, 1) := by decide +kernel
theorem dX11_hottest_1 : decode cX11_hottest 1 = .ok (.iconst 0, 1) := by decide +kernel
theorem dX11_hottest_2 : decode cX11_hottest 2 = .ok (.bipush 60, 2) := by decide +kernel
theorem dX11_hottest_4 : decode cX11_hottest 4 = .ok (.invokestatic 152, 3) := by decide +kernel
theorem dX11_hottest_7 : decode cX11_hottest 7 = .ok (.ifCond .ne 6, 3) := by decide +kernel
theorem dX11_hottest_10 : decode cX11_hottest 10 = .ok (.bipush (-2), 2) := by decide +kernel
theorem dX11_hottest_12 : decode cX11_hottest 12 = .ok (.ireturn, 1) := by decide +kernel
theorem dX11_hottest_13 : decode cX11_hottest 13 = .ok (.aload_n 0, 1) := by decide +kernel
theorem dX11_hottest_14 : decode cX11_hottest 14 = .ok (.aload_n 0, 1) := by decide +kernel
theorem dX11_hottest_15 : decode cX11_hottest 15 = .ok (.getfield 12, 3) := by decide +kernel
theorem dX11_hottest_18 : decode cX11_hottest 18 = .ok (.invokevirtual 156, 3) := by decide +kernel
theorem dX11_hottest_21 : decode cX11_hottest 21 = .ok (.iload_n 1, 1) := by decide +kernel
theorem dX11_hottest_22 : decode cX11_hottest 22 = .ok (.invokevirtual 164, 3) := by decide +kernel
theorem dX11_hottest_25 : decode cX11_hottest 25 = .ok (.astore_n 2, 1) := by decide +kernel
theorem dX11_hottest_26 : decode cX11_hottest 26 = .ok (.bipush (-5), 2) := by decide +kernel
theorem dX11_hottest_28 : decode cX11_hottest 28 = .ok (.istore_n 3, 1) := by decide +kernel
theorem dX11_hottest_29 : decode cX11_hottest 29 = .ok (.iconst 0, 1) := by decide +kernel
theorem dX11_hottest_30 : decode cX11_hottest 30 = .ok (.istore 4, 2) := by decide +kernel
theorem dX11_hottest_32 : decode cX11_hottest 32 = .ok (.iload 4, 2) := by decide +kernel
theorem dX11_hottest_34 : decode cX11_hottest 34 = .ok (.aload_n 2, 1) := by decide +kernel
theorem dX11_hottest_35 : decode cX11_hottest 35 = .ok (.getfield 127, 3) := by decide +kernel
theorem dX11_hottest_38 : decode cX11_hottest 38 = .ok (.if_icmp .ge 34, 3) := by decide +kernel
theorem dX11_hottest_41 : decode cX11_hottest 41 = .ok (.iload_n 3, 1) := by decide +kernel
theorem dX11_hottest_42 : decode cX11_hottest 42 = .ok (.bipush (-5), 2) := by decide +kernel
theorem dX11_hottest_44 : decode cX11_hottest 44 = .ok (.if_icmp .eq 19, 3) := by decide +kernel
theorem dX11_hottest_47 : decode cX11_hottest 47 = .ok (.aload_n 2, 1) := by decide +kernel
theorem dX11_hottest_48 : decode cX11_hottest 48 = .ok (.getfield 133, 3) := by decide +kernel
theorem dX11_hottest_51 : decode cX11_hottest 51 = .ok (.iload 4, 2) := by decide +kernel
theorem dX11_hottest_53 : decode cX11_hottest 53 = .ok (.iaload, 1) := by decide +kernel
theorem dX11_hottest_54 : decode cX11_hottest 54 = .ok (.aload_n 2, 1) := by decide +kernel
theorem dX11_hottest_55 : decode cX11_hottest 55 = .ok (.getfield 133, 3) := by decide +kernel
theorem dX11_hottest_58 : decode cX11_hottest 58 = .ok (.iload_n 3, 1) := by decide +kernel
theorem dX11_hottest_59 : decode cX11_hottest 59 = .ok (.iaload, 1) := by decide +kernel
theorem dX11_hottest_60 : decode cX11_hottest 60 = .ok (.if_icmp .le 6, 3) := by decide +kernel
theorem dX11_hottest_63 : decode cX11_hottest 63 = .ok (.iload 4, 2) := by decide +kernel
theorem dX11_hottest_65 : decode cX11_hottest 65 = .ok (.istore_n 3, 1) := by decide +kernel
theorem dX11_hottest_66 : decode cX11_hottest 66 = .ok (.iinc 4 1, 3) := by decide +kernel
theorem dX11_hottest_69 : decode cX11_hottest 69 = .ok (.goto (-37), 3) := by decide +kernel
theorem dX11_hottest_72 : decode cX11_hottest 72 = .ok (.iload_n 3, 1) := by decide +kernel
theorem dX11_hottest_73 : decode cX11_hottest 73 = .ok (.ireturn, 1) := by decide +kernel
theorem dX11_tooHot_0 : decode cX11_tooHot 0 = .ok (.aload_n 0, 1) := by decide +kernel
theorem dX11_tooHot_1 : decode cX11_tooHot 1 = .ok (.getfield 12, 3) := by decide +kernel
theorem dX11_tooHot_4 : decode cX11_tooHot 4 = .ok (.getfield 108, 3) := by decide +kernel
theorem dX11_tooHot_7 : decode cX11_tooHot 7 = .ok (.iload_n 1, 1) := by decide +kernel
theorem dX11_tooHot_8 : decode cX11_tooHot 8 = .ok (.invokevirtual 139, 3) := by decide +kernel
theorem dX11_tooHot_11 : decode cX11_tooHot 11 = .ok (.ifCond .ne 5, 3) := by decide +kernel
theorem dX11_tooHot_14 : decode cX11_tooHot 14 = .ok (.iconst (-1), 1) := by decide +kernel
theorem dX11_tooHot_15 : decode cX11_tooHot 15 = .ok (.ireturn, 1) := by decide +kernel
theorem dX11_tooHot_16 : decode cX11_tooHot 16 = .ok (.aload_n 0, 1) := by decide +kernel
theorem dX11_tooHot_17 : decode cX11_tooHot 17 = .ok (.getfield 12, 3) := by decide +kernel
theorem dX11_tooHot_20 : decode cX11_tooHot 20 = .ok (.invokevirtual 156, 3) := by decide +kernel
theorem dX11_tooHot_23 : decode cX11_tooHot 23 = .ok (.istore_n 2, 1) := by decide +kernel
theorem dX11_tooHot_24 : decode cX11_tooHot 24 = .ok (.aload_n 0, 1) := by decide +kernel
theorem dX11_tooHot_25 : decode cX11_tooHot 25 = .ok (.getfield 28, 3) := by decide +kernel
theorem dX11_tooHot_28 : decode cX11_tooHot 28 = .ok (.aload_n 0, 1) := by decide +kernel
theorem dX11_tooHot_29 : decode cX11_tooHot 29 = .ok (.getfield 12, 3) := by decide +kernel
theorem dX11_tooHot_32 : decode cX11_tooHot 32 = .ok (.getfield 108, 3) := by decide +kernel
theorem dX11_tooHot_35 : decode cX11_tooHot 35 = .ok (.invokevirtual 177, 3) := by decide +kernel
theorem dX11_tooHot_38 : decode cX11_tooHot 38 = .ok (.iconst 0, 1) := by decide +kernel
theorem dX11_tooHot_39 : decode cX11_tooHot 39 = .ok (.istore_n 3, 1) := by decide +kernel
theorem dX11_tooHot_40 : decode cX11_tooHot 40 = .ok (.iload_n 3, 1) := by decide +kernel
theorem dX11_tooHot_41 : decode cX11_tooHot 41 = .ok (.bipush 60, 2) := by decide +kernel
theorem dX11_tooHot_43 : decode cX11_tooHot 43 = .ok (.if_icmp .gt 55, 3) := by decide +kernel
theorem dX11_tooHot_46 : decode cX11_tooHot 46 = .ok (.aload_n 0, 1) := by decide +kernel
theorem dX11_tooHot_47 : decode cX11_tooHot 47 = .ok (.getfield 28, 3) := by decide +kernel
theorem dX11_tooHot_50 : decode cX11_tooHot 50 = .ok (.getfield 133, 3) := by decide +kernel
theorem dX11_tooHot_53 : decode cX11_tooHot 53 = .ok (.iload_n 1, 1) := by decide +kernel
theorem dX11_tooHot_54 : decode cX11_tooHot 54 = .ok (.iaload, 1) := by decide +kernel
theorem dX11_tooHot_55 : decode cX11_tooHot 55 = .ok (.aload_n 0, 1) := by decide +kernel
theorem dX11_tooHot_56 : decode cX11_tooHot 56 = .ok (.getfield 12, 3) := by decide +kernel
theorem dX11_tooHot_59 : decode cX11_tooHot 59 = .ok (.getfield 62, 3) := by decide +kernel
theorem dX11_tooHot_62 : decode cX11_tooHot 62 = .ok (.getfield 146, 3) := by decide +kernel
theorem dX11_tooHot_65 : decode cX11_tooHot 65 = .ok (.if_icmp .lt 5, 3) := by decide +kernel
theorem dX11_tooHot_68 : decode cX11_tooHot 68 = .ok (.iload_n 3, 1) := by decide +kernel
theorem dX11_tooHot_69 : decode cX11_tooHot 69 = .ok (.ireturn, 1) := by decide +kernel
theorem dX11_tooHot_70 : decode cX11_tooHot 70 = .ok (.aload_n 0, 1) := by decide +kernel
theorem dX11_tooHot_71 : decode cX11_tooHot 71 = .ok (.getfield 12, 3) := by decide +kernel
theorem dX11_tooHot_74 : decode cX11_tooHot 74 = .ok (.aload_n 0, 1) := by decide +kernel
theorem dX11_tooHot_75 : decode cX11_tooHot 75 = .ok (.getfield 28, 3) := by decide +kernel
theorem dX11_tooHot_78 : decode cX11_tooHot 78 = .ok (.iload_n 2, 1) := by decide +kernel
theorem dX11_tooHot_79 : decode cX11_tooHot 79 = .ok (.aload_n 0, 1) := by decide +kernel
theorem dX11_tooHot_80 : decode cX11_tooHot 80 = .ok (.getfield 12, 3) := by decide +kernel
theorem dX11_tooHot_83 : decode cX11_tooHot 83 = .ok (.getfield 105, 3) := by decide +kernel
theorem dX11_tooHot_86 : decode cX11_tooHot 86 = .ok (.iload_n 3, 1) := by decide +kernel
theorem dX11_tooHot_87 : decode cX11_tooHot 87 = .ok (.iadd, 1) := by decide +kernel
theorem dX11_tooHot_88 : decode cX11_tooHot 88 = .ok (.iconst 1, 1) := by decide +kernel
theorem dX11_tooHot_89 : decode cX11_tooHot 89 = .ok (.invokevirtual 160, 3) := by decide +kernel
theorem dX11_tooHot_92 : decode cX11_tooHot 92 = .ok (.iinc 3 1, 3) := by decide +kernel
theorem dX11_tooHot_95 : decode cX11_tooHot 95 = .ok (.goto (-55), 3) := by decide +kernel
theorem dX11_tooHot_98 : decode cX11_tooHot 98 = .ok (.bipush (-5), 2) := by decide +kernel
theorem dX11_tooHot_100 : decode cX11_tooHot 100 = .ok (.ireturn, 1) := by decide +kernel
theorem dX11_set_0 : decode cX11_set 0 = .ok (.aload_n 0, 1) := by decide +kernel
theorem dX11_set_1 : decode cX11_set 1 = .ok (.getfield 12, 3) := by decide +kernel
theorem dX11_set_4 : decode cX11_set 4 = .ok (.iload_n 1, 1) := by decide +kernel
theorem dX11_set_5 : decode cX11_set 5 = .ok (.invokevirtual 81, 3) := by decide +kernel
theorem dX11_set_8 : decode cX11_set 8 = .ok (.astore 4, 2) := by decide +kernel
theorem dX11_set_10 : decode cX11_set 10 = .ok (.aload 4, 2) := by decide +kernel
theorem dX11_set_12 : decode cX11_set 12 = .ok (.ifnull 10, 3) := by decide +kernel
theorem dX11_set_15 : decode cX11_set 15 = .ok (.iload_n 3, 1) := by decide +kernel
theorem dX11_set_16 : decode cX11_set 16 = .ok (.invokestatic 181, 3) := by decide +kernel
theorem dX11_set_19 : decode cX11_set 19 = .ok (.ifCond .ne 5, 3) := by decide +kernel
theorem dX11_set_22 : decode cX11_set 22 = .ok (.iconst (-1), 1) := by decide +kernel
theorem dX11_set_23 : decode cX11_set 23 = .ok (.ireturn, 1) := by decide +kernel
theorem dX11_set_24 : decode cX11_set 24 = .ok (.iload_n 2, 1) := by decide +kernel
theorem dX11_set_25 : decode cX11_set 25 = .ok (.iconst 1, 1) := by decide +kernel
theorem dX11_set_26 : decode cX11_set 26 = .ok (.bipush 30, 2) := by decide +kernel
theorem dX11_set_28 : decode cX11_set 28 = .ok (.invokestatic 152, 3) := by decide +kernel
theorem dX11_set_31 : decode cX11_set 31 = .ok (.ifCond .ne 6, 3) := by decide +kernel
theorem dX11_set_34 : decode cX11_set 34 = .ok (.bipush (-2), 2) := by decide +kernel
theorem dX11_set_36 : decode cX11_set 36 = .ok (.ireturn, 1) := by decide +kernel
theorem dX11_set_37 : decode cX11_set 37 = .ok (.aload 4, 2) := by decide +kernel
theorem dX11_set_39 : decode cX11_set 39 = .ok (.getfield 93, 3) := by decide +kernel
theorem dX11_set_42 : decode cX11_set 42 = .ok (.istore 5, 2) := by decide +kernel
theorem dX11_set_44 : decode cX11_set 44 = .ok (.aload 4, 2) := by decide +kernel
theorem dX11_set_46 : decode cX11_set 46 = .ok (.getfield 96, 3) := by decide +kernel
theorem dX11_set_49 : decode cX11_set 49 = .ok (.istore 6, 2) := by decide +kernel
theorem dX11_set_51 : decode cX11_set 51 = .ok (.ldc 184, 2) := by decide +kernel
theorem dX11_set_53 : decode cX11_set 53 = .ok (.istore 7, 2) := by decide +kernel
theorem dX11_set_55 : decode cX11_set 55 = .ok (.iconst 0, 1) := by decide +kernel
theorem dX11_set_56 : decode cX11_set 56 = .ok (.istore 8, 2) := by decide +kernel
theorem dX11_set_58 : decode cX11_set 58 = .ok (.iconst 0, 1) := by decide +kernel
theorem dX11_set_59 : decode cX11_set 59 = .ok (.istore 9, 2) := by decide +kernel
theorem dX11_set_61 : decode cX11_set 61 = .ok (.iload 9, 2) := by decide +kernel
theorem dX11_set_63 : decode cX11_set 63 = .ok (.bipush 10, 2) := by decide +kernel
theorem dX11_set_65 : decode cX11_set 65 = .ok (.if_icmp .ge 78, 3) := by decide +kernel
theorem dX11_set_68 : decode cX11_set 68 = .ok (.iload 9, 2) := by decide +kernel
theorem dX11_set_70 : decode cX11_set 70 = .ok (.istore 10, 2) := by decide +kernel
theorem dX11_set_72 : decode cX11_set 72 = .ok (.iload 10, 2) := by decide +kernel
theorem dX11_set_74 : decode cX11_set 74 = .ok (.bipush 10, 2) := by decide +kernel
theorem dX11_set_76 : decode cX11_set 76 = .ok (.if_icmp .ge 61, 3) := by decide +kernel
theorem dX11_set_79 : decode cX11_set 79 = .ok (.aload 4, 2) := by decide +kernel
theorem dX11_set_81 : decode cX11_set 81 = .ok (.iload 9, 2) := by decide +kernel
theorem dX11_set_83 : decode cX11_set 83 = .ok (.putfield 93, 3) := by decide +kernel
theorem dX11_set_86 : decode cX11_set 86 = .ok (.aload 4, 2) := by decide +kernel
theorem dX11_set_88 : decode cX11_set 88 = .ok (.iload 10, 2) := by decide +kernel
theorem dX11_set_90 : decode cX11_set 90 = .ok (.putfield 96, 3) := by decide +kernel
theorem dX11_set_93 : decode cX11_set 93 = .ok (.aload_n 0, 1) := by decide +kernel
theorem dX11_set_94 : decode cX11_set 94 = .ok (.aload_n 0, 1) := by decide +kernel
theorem dX11_set_95 : decode cX11_set 95 = .ok (.getfield 12, 3) := by decide +kernel
theorem dX11_set_98 : decode cX11_set 98 = .ok (.invokevirtual 156, 3) := by decide +kernel
theorem dX11_set_101 : decode cX11_set 101 = .ok (.iload_n 2, 1) := by decide +kernel
theorem dX11_set_102 : decode cX11_set 102 = .ok (.invokevirtual 164, 3) := by decide +kernel
theorem dX11_set_105 : decode cX11_set 105 = .ok (.invokevirtual 185, 3) := by decide +kernel
theorem dX11_set_108 : decode cX11_set 108 = .ok (.istore 11, 2) := by decide +kernel
theorem dX11_set_110 : decode cX11_set 110 = .ok (.iload 11, 2) := by decide +kernel
theorem dX11_set_112 : decode cX11_set 112 = .ok (.iload 7, 2) := by decide +kernel
theorem dX11_set_114 : decode cX11_set 114 = .ok (.if_icmp .ge 17, 3) := by decide +kernel
theorem dX11_set_117 : decode cX11_set 117 = .ok (.iload 11, 2) := by decide +kernel
theorem dX11_set_119 : decode cX11_set 119 = .ok (.istore 7, 2) := by decide +kernel
theorem dX11_set_121 : decode cX11_set 121 = .ok (.iload 9, 2) := by decide +kernel
theorem dX11_set_123 : decode cX11_set 123 = .ok (.bipush 10, 2) := by decide +kernel
theorem dX11_set_125 : decode cX11_set 125 = .ok (.imul, 1) := by decide +kernel
theorem dX11_set_126 : decode cX11_set 126 = .ok (.iload 10, 2) := by decide +kernel
theorem dX11_set_128 : decode cX11_set 128 = .ok (.iadd, 1) := by decide +kernel
theorem dX11_set_129 : decode cX11_set 129 = .ok (.istore 8, 2) := by decide +kernel
theorem dX11_set_131 : decode cX11_set 131 = .ok (.iinc 10 1, 3) := by decide +kernel
theorem dX11_set_134 : decode cX11_set 134 = .ok (.goto (-62), 3) := by decide +kernel
theorem dX11_set_137 : decode cX11_set 137 = .ok (.iinc 9 1, 3) := by decide +kernel
theorem dX11_set_140 : decode cX11_set 140 = .ok (.goto (-79), 3) := by decide +kernel
theorem dX11_set_143 : decode cX11_set 143 = .ok (.aload 4, 2) := by decide +kernel
theorem dX11_set_145 : decode cX11_set 145 = .ok (.iload 5, 2) := by decide +kernel
theorem dX11_set_147 : decode cX11_set 147 = .ok (.putfield 93, 3) := by decide +kernel
theorem dX11_set_150 : decode cX11_set 150 = .ok (.aload 4, 2) := by decide +kernel
theorem dX11_set_152 : decode cX11_set 152 = .ok (.iload 6, 2) := by decide +kernel
theorem dX11_set_154 : decode cX11_set 154 = .ok (.putfield 96, 3) := by decide +kernel
theorem dX11_set_157 : decode cX11_set 157 = .ok (.iload_n 3, 1) := by decide +kernel
theorem dX11_set_158 : decode cX11_set 158 = .ok (.ifCond .ne 8, 3) := by decide +kernel
theorem dX11_set_161 : decode cX11_set 161 = .ok (.iload 8, 2) := by decide +kernel
theorem dX11_set_163 : decode cX11_set 163 = .ok (.goto 9, 3) := by decide +kernel
theorem dX11_set_166 : decode cX11_set 166 = .ok (.iload 7, 2) := by decide +kernel
theorem dX11_set_168 : decode cX11_set 168 = .ok (.sipush 1000, 3) := by decide +kernel
theorem dX11_set_171 : decode cX11_set 171 = .ok (.idiv, 1) := by decide +kernel
theorem dX11_set_172 : decode cX11_set 172 = .ok (.ireturn, 1) := by decide +kernel
theorem dX11_paced_0 : decode cX11_paced 0 = .ok (.aload_n 0, 1) := by decide +kernel
theorem dX11_paced_1 : decode cX11_paced 1 = .ok (.getfield 12, 3) := by decide +kernel
theorem dX11_paced_4 : decode cX11_paced 4 = .ok (.iload_n 1, 1) := by decide +kernel
theorem dX11_paced_5 : decode cX11_paced 5 = .ok (.invokevirtual 81, 3) := by decide +kernel
theorem dX11_paced_8 : decode cX11_paced 8 = .ok (.astore_n 3, 1) := by decide +kernel
theorem dX11_paced_9 : decode cX11_paced 9 = .ok (.aload_n 3, 1) := by decide +kernel
theorem dX11_paced_10 : decode cX11_paced 10 = .ok (.ifnonnull 5, 3) := by decide +kernel
theorem dX11_paced_13 : decode cX11_paced 13 = .ok (.iconst (-1), 1) := by decide +kernel
theorem dX11_paced_14 : decode cX11_paced 14 = .ok (.ireturn, 1) := by decide +kernel
theorem dX11_paced_15 : decode cX11_paced 15 = .ok (.iload_n 2, 1) := by decide +kernel
theorem dX11_paced_16 : decode cX11_paced 16 = .ok (.iconst 1, 1) := by decide +kernel
theorem dX11_paced_17 : decode cX11_paced 17 = .ok (.bipush 30, 2) := by decide +kernel
theorem dX11_paced_19 : decode cX11_paced 19 = .ok (.invokestatic 152, 3) := by decide +kernel
theorem dX11_paced_22 : decode cX11_paced 22 = .ok (.ifCond .ne 6, 3) := by decide +kernel
theorem dX11_paced_25 : decode cX11_paced 25 = .ok (.bipush (-2), 2) := by decide +kernel
theorem dX11_paced_27 : decode cX11_paced 27 = .ok (.ireturn, 1) := by decide +kernel
theorem dX11_paced_28 : decode cX11_paced 28 = .ok (.aload_n 3, 1) := by decide +kernel
theorem dX11_paced_29 : decode cX11_paced 29 = .ok (.getfield 99, 3) := by decide +kernel
theorem dX11_paced_32 : decode cX11_paced 32 = .ok (.istore 4, 2) := by decide +kernel
theorem dX11_paced_34 : decode cX11_paced 34 = .ok (.ldc 184, 2) := by decide +kernel
theorem dX11_paced_36 : decode cX11_paced 36 = .ok (.istore 5, 2) := by decide +kernel
theorem dX11_paced_38 : decode cX11_paced 38 = .ok (.iconst 1, 1) := by decide +kernel
theorem dX11_paced_39 : decode cX11_paced 39 = .ok (.istore 6, 2) := by decide +kernel
theorem dX11_paced_41 : decode cX11_paced 41 = .ok (.iconst 1, 1) := by decide +kernel
theorem dX11_paced_42 : decode cX11_paced 42 = .ok (.istore 7, 2) := by decide +kernel
theorem dX11_paced_44 : decode cX11_paced 44 = .ok (.iload 7, 2) := by decide +kernel
theorem dX11_paced_46 : decode cX11_paced 46 = .ok (.iconst 4, 1) := by decide +kernel
theorem dX11_paced_47 : decode cX11_paced 47 = .ok (.if_icmp .gt 47, 3) := by decide +kernel
theorem dX11_paced_50 : decode cX11_paced 50 = .ok (.aload_n 3, 1) := by decide +kernel
theorem dX11_paced_51 : decode cX11_paced 51 = .ok (.iload 7, 2) := by decide +kernel
theorem dX11_paced_53 : decode cX11_paced 53 = .ok (.putfield 99, 3) := by decide +kernel
theorem dX11_paced_56 : decode cX11_paced 56 = .ok (.aload_n 0, 1) := by decide +kernel
theorem dX11_paced_57 : decode cX11_paced 57 = .ok (.aload_n 0, 1) := by decide +kernel
theorem dX11_paced_58 : decode cX11_paced 58 = .ok (.getfield 12, 3) := by decide +kernel
theorem dX11_paced_61 : decode cX11_paced 61 = .ok (.invokevirtual 156, 3) := by decide +kernel
theorem dX11_paced_64 : decode cX11_paced 64 = .ok (.iload_n 2, 1) := by decide +kernel
theorem dX11_paced_65 : decode cX11_paced 65 = .ok (.invokevirtual 164, 3) := by decide +kernel
theorem dX11_paced_68 : decode cX11_paced 68 = .ok (.invokevirtual 185, 3) := by decide +kernel
theorem dX11_paced_71 : decode cX11_paced 71 = .ok (.istore 8, 2) := by decide +kernel
theorem dX11_paced_73 : decode cX11_paced 73 = .ok (.iload 8, 2) := by decide +kernel
theorem dX11_paced_75 : decode cX11_paced 75 = .ok (.iload 5, 2) := by decide +kernel
theorem dX11_paced_77 : decode cX11_paced 77 = .ok (.if_icmp .ge 11, 3) := by decide +kernel
theorem dX11_paced_80 : decode cX11_paced 80 = .ok (.iload 8, 2) := by decide +kernel
theorem dX11_paced_82 : decode cX11_paced 82 = .ok (.istore 5, 2) := by decide +kernel
theorem dX11_paced_84 : decode cX11_paced 84 = .ok (.iload 7, 2) := by decide +kernel
theorem dX11_paced_86 : decode cX11_paced 86 = .ok (.istore 6, 2) := by decide +kernel
theorem dX11_paced_88 : decode cX11_paced 88 = .ok (.iinc 7 1, 3) := by decide +kernel
theorem dX11_paced_91 : decode cX11_paced 91 = .ok (.goto (-47), 3) := by decide +kernel
theorem dX11_paced_94 : decode cX11_paced 94 = .ok (.aload_n 3, 1) := by decide +kernel
theorem dX11_paced_95 : decode cX11_paced 95 = .ok (.iload 4, 2) := by decide +kernel
theorem dX11_paced_97 : decode cX11_paced 97 = .ok (.putfield 99, 3) := by decide +kernel
theorem dX11_paced_100 : decode cX11_paced 100 = .ok (.iload 6, 2) := by decide +kernel
theorem dX11_paced_102 : decode cX11_paced 102 = .ok (.ireturn, 1) := by decide +kernel
theorem dX11_seat_0 : decode cX11_seat 0 = .ok (.aload_n 0, 1) := by decide +kernel
theorem dX11_seat_1 : decode cX11_seat 1 = .ok (.getfield 12, 3) := by decide +kernel
theorem dX11_seat_4 : decode cX11_seat 4 = .ok (.getfield 108, 3) := by decide +kernel
theorem dX11_seat_7 : decode cX11_seat 7 = .ok (.iload_n 1, 1) := by decide +kernel
theorem dX11_seat_8 : decode cX11_seat 8 = .ok (.invokevirtual 139, 3) := by decide +kernel
theorem dX11_seat_11 : decode cX11_seat 11 = .ok (.ifCond .eq 10, 3) := by decide +kernel
theorem dX11_seat_14 : decode cX11_seat 14 = .ok (.iload_n 3, 1) := by decide +kernel
theorem dX11_seat_15 : decode cX11_seat 15 = .ok (.invokestatic 181, 3) := by decide +kernel
theorem dX11_seat_18 : decode cX11_seat 18 = .ok (.ifCond .ne 5, 3) := by decide +kernel
theorem dX11_seat_21 : decode cX11_seat 21 = .ok (.iconst (-1), 1) := by decide +kernel
theorem dX11_seat_22 : decode cX11_seat 22 = .ok (.ireturn, 1) := by decide +kernel
theorem dX11_seat_23 : decode cX11_seat 23 = .ok (.iload_n 2, 1) := by decide +kernel
theorem dX11_seat_24 : decode cX11_seat 24 = .ok (.iconst 1, 1) := by decide +kernel
theorem dX11_seat_25 : decode cX11_seat 25 = .ok (.bipush 30, 2) := by decide +kernel
theorem dX11_seat_27 : decode cX11_seat 27 = .ok (.invokestatic 152, 3) := by decide +kernel
theorem dX11_seat_30 : decode cX11_seat 30 = .ok (.ifCond .ne 6, 3) := by decide +kernel
theorem dX11_seat_33 : decode cX11_seat 33 = .ok (.bipush (-2), 2) := by decide +kernel
theorem dX11_seat_35 : decode cX11_seat 35 = .ok (.ireturn, 1) := by decide +kernel
theorem dX11_seat_36 : decode cX11_seat 36 = .ok (.ldc 184, 2) := by decide +kernel
theorem dX11_seat_38 : decode cX11_seat 38 = .ok (.istore 4, 2) := by decide +kernel
theorem dX11_seat_40 : decode cX11_seat 40 = .ok (.iconst 0, 1) := by decide +kernel
theorem dX11_seat_41 : decode cX11_seat 41 = .ok (.istore 5, 2) := by decide +kernel
theorem dX11_seat_43 : decode cX11_seat 43 = .ok (.iconst 0, 1) := by decide +kernel
theorem dX11_seat_44 : decode cX11_seat 44 = .ok (.istore 6, 2) := by decide +kernel
theorem dX11_seat_46 : decode cX11_seat 46 = .ok (.iload 6, 2) := by decide +kernel
theorem dX11_seat_48 : decode cX11_seat 48 = .ok (.bipush 10, 2) := by decide +kernel
theorem dX11_seat_50 : decode cX11_seat 50 = .ok (.if_icmp .ge 34, 3) := by decide +kernel
theorem dX11_seat_53 : decode cX11_seat 53 = .ok (.aload_n 0, 1) := by decide +kernel
theorem dX11_seat_54 : decode cX11_seat 54 = .ok (.iload_n 1, 1) := by decide +kernel
theorem dX11_seat_55 : decode cX11_seat 55 = .ok (.iload 6, 2) := by decide +kernel
theorem dX11_seat_57 : decode cX11_seat 57 = .ok (.iload_n 2, 1) := by decide +kernel
theorem dX11_seat_58 : decode cX11_seat 58 = .ok (.invokevirtual 188, 3) := by decide +kernel
theorem dX11_seat_61 : decode cX11_seat 61 = .ok (.istore 7, 2) := by decide +kernel
theorem dX11_seat_63 : decode cX11_seat 63 = .ok (.iload 7, 2) := by decide +kernel
theorem dX11_seat_65 : decode cX11_seat 65 = .ok (.iload 4, 2) := by decide +kernel
theorem dX11_seat_67 : decode cX11_seat 67 = .ok (.if_icmp .ge 11, 3) := by decide +kernel
theorem dX11_seat_70 : decode cX11_seat 70 = .ok (.iload 7, 2) := by decide +kernel
theorem dX11_seat_72 : decode cX11_seat 72 = .ok (.istore 4, 2) := by decide +kernel
theorem dX11_seat_74 : decode cX11_seat 74 = .ok (.iload 6, 2) := by decide +kernel
theorem dX11_seat_76 : decode cX11_seat 76 = .ok (.istore 5, 2) := by decide +kernel
theorem dX11_seat_78 : decode cX11_seat 78 = .ok (.iinc 6 1, 3) := by decide +kernel
theorem dX11_seat_81 : decode cX11_seat 81 = .ok (.goto (-35), 3) := by decide +kernel
theorem dX11_seat_84 : decode cX11_seat 84 = .ok (.iload_n 3, 1) := by decide +kernel
theorem dX11_seat_85 : decode cX11_seat 85 = .ok (.ifCond .ne 8, 3) := by decide +kernel
theorem dX11_seat_88 : decode cX11_seat 88 = .ok (.iload 5, 2) := by decide +kernel
theorem dX11_seat_90 : decode cX11_seat 90 = .ok (.goto 5, 3) := by decide +kernel
theorem dX11_seat_93 : decode cX11_seat 93 = .ok (.iload 4, 2) := by decide +kernel
theorem dX11_seat_95 : decode cX11_seat 95 = .ok (.ireturn, 1) := by decide +kernel
theorem dX11_change_0 : decode cX11_change 0 = .ok (.iload_n 1, 1) := by decide +kernel
theorem dX11_change_1 : decode cX11_change 1 = .ok (.iconst 1, 1) := by decide +kernel
theorem dX11_change_2 : decode cX11_change 2 = .ok (.bipush 30, 2) := by decide +kernel
theorem dX11_change_4 : decode cX11_change 4 = .ok (.invokestatic 152, 3) := by decide +kernel
theorem dX11_change_7 : decode cX11_change 7 = .ok (.ifCond .ne 6, 3) := by decide +kernel
theorem dX11_change_10 : decode cX11_change 10 = .ok (.bipush (-2), 2) := by decide +kernel
theorem dX11_change_12 : decode cX11_change 12 = .ok (.ireturn, 1) := by decide +kernel
theorem dX11_change_13 : decode cX11_change 13 = .ok (.aload_n 0, 1) := by decide +kernel
theorem dX11_change_14 : decode cX11_change 14 = .ok (.aload_n 0, 1) := by decide +kernel
theorem dX11_change_15 : decode cX11_change 15 = .ok (.getfield 12, 3) := by decide +kernel
theorem dX11_change_18 : decode cX11_change 18 = .ok (.invokevirtual 156, 3) := by decide +kernel
theorem dX11_change_21 : decode cX11_change 21 = .ok (.iload_n 1, 1) := by decide +kernel
theorem dX11_change_22 : decode cX11_change 22 = .ok (.invokevirtual 164, 3) := by decide +kernel
theorem dX11_change_25 : decode cX11_change 25 = .ok (.invokevirtual 171, 3) := by decide +kernel
theorem dX11_change_28 : decode cX11_change 28 = .ok (.istore_n 2, 1) := by decide +kernel
theorem dX11_change_29 : decode cX11_change 29 = .ok (.bipush (-5), 2) := by decide +kernel
theorem dX11_change_31 : decode cX11_change 31 = .ok (.istore_n 3, 1) := by decide +kernel
theorem dX11_change_32 : decode cX11_change 32 = .ok (.iconst 0, 1) := by decide +kernel
theorem dX11_change_33 : decode cX11_change 33 = .ok (.istore 4, 2) := by decide +kernel
theorem dX11_change_35 : decode cX11_change 35 = .ok (.iload 4, 2) := by decide +kernel
theorem dX11_change_37 : decode cX11_change 37 = .ok (.aload_n 0, 1) := by decide +kernel
theorem dX11_change_38 : decode cX11_change 38 = .ok (.getfield 12, 3) := by decide +kernel
theorem dX11_change_41 : decode cX11_change 41 = .ok (.getfield 108, 3) := by decide +kernel
theorem dX11_change_44 : decode cX11_change 44 = .ok (.getfield 127, 3) := by decide +kernel
theorem dX11_change_47 : decode cX11_change 47 = .ok (.if_icmp .ge 65, 3) := by decide +kernel
theorem dX11_change_50 : decode cX11_change 50 = .ok (.iload 4, 2) := by decide +kernel
theorem dX11_change_52 : decode cX11_change 52 = .ok (.iconst 1, 1) := by decide +kernel
theorem dX11_change_53 : decode cX11_change 53 = .ok (.iadd, 1) := by decide +kernel
theorem dX11_change_54 : decode cX11_change 54 = .ok (.istore 5, 2) := by decide +kernel
theorem dX11_change_56 : decode cX11_change 56 = .ok (.iload 5, 2) := by decide +kernel
theorem dX11_change_58 : decode cX11_change 58 = .ok (.aload_n 0, 1) := by decide +kernel
theorem dX11_change_59 : decode cX11_change 59 = .ok (.getfield 12, 3) := by decide +kernel
theorem dX11_change_62 : decode cX11_change 62 = .ok (.getfield 108, 3) := by decide +kernel
theorem dX11_change_65 : decode cX11_change 65 = .ok (.getfield 127, 3) := by decide +kernel
theorem dX11_change_68 : decode cX11_change 68 = .ok (.if_icmp .ge 38, 3) := by decide +kernel
theorem dX11_change_71 : decode cX11_change 71 = .ok (.aload_n 0, 1) := by decide +kernel
theorem dX11_change_72 : decode cX11_change 72 = .ok (.iload 4, 2) := by decide +kernel
theorem dX11_change_74 : decode cX11_change 74 = .ok (.iload 5, 2) := by decide +kernel
theorem dX11_change_76 : decode cX11_change 76 = .ok (.iload_n 1, 1) := by decide +kernel
theorem dX11_change_77 : decode cX11_change 77 = .ok (.invokevirtual 192, 3) := by decide +kernel
theorem dX11_change_80 : decode cX11_change 80 = .ok (.istore 6, 2) := by decide +kernel
theorem dX11_change_82 : decode cX11_change 82 = .ok (.iload 6, 2) := by decide +kernel
theorem dX11_change_84 : decode cX11_change 84 = .ok (.iload_n 2, 1) := by decide +kernel
theorem dX11_change_85 : decode cX11_change 85 = .ok (.if_icmp .ge 15, 3) := by decide +kernel
theorem dX11_change_88 : decode cX11_change 88 = .ok (.iload 6, 2) := by decide +kernel
theorem dX11_change_90 : decode cX11_change 90 = .ok (.istore_n 2, 1) := by decide +kernel
theorem dX11_change_91 : decode cX11_change 91 = .ok (.iload 4, 2) := by decide +kernel
theorem dX11_change_93 : decode cX11_change 93 = .ok (.bipush 10, 2) := by decide +kernel
theorem dX11_change_95 : decode cX11_change 95 = .ok (.imul, 1) := by decide +kernel
theorem dX11_change_96 : decode cX11_change 96 = .ok (.iload 5, 2) := by decide +kernel
theorem dX11_change_98 : decode cX11_change 98 = .ok (.iadd, 1) := by decide +kernel
theorem dX11_change_99 : decode cX11_change 99 = .ok (.istore_n 3, 1) := by decide +kernel
theorem dX11_change_100 : decode cX11_change 100 = .ok (.iinc 5 1, 3) := by decide +kernel
theorem dX11_change_103 : decode cX11_change 103 = .ok (.goto (-47), 3) := by decide +kernel
theorem dX11_change_106 : decode cX11_change 106 = .ok (.iinc 4 1, 3) := by decide +kernel
theorem dX11_change_109 : decode cX11_change 109 = .ok (.goto (-74), 3) := by decide +kernel
theorem dX11_change_112 : decode cX11_change 112 = .ok (.iload_n 3, 1) := by decide +kernel
theorem dX11_change_113 : decode cX11_change 113 = .ok (.ireturn, 1) := by decide +kernel
theorem dX11_worth_0 : decode cX11_worth 0 = .ok (.aload_n 0, 1) := by decide +kernel
theorem dX11_worth_1 : decode cX11_worth 1 = .ok (.getfield 12, 3) := by decide +kernel
theorem dX11_worth_4 : decode cX11_worth 4 = .ok (.iload_n 1, 1) := by decide +kernel
theorem dX11_worth_5 : decode cX11_worth 5 = .ok (.invokevirtual 81, 3) := by decide +kernel
theorem dX11_worth_8 : decode cX11_worth 8 = .ok (.ifnonnull 7, 3) := by decide +kernel
theorem dX11_worth_11 : decode cX11_worth 11 = .ok (.sipush (-10001), 3) := by decide +kernel
theorem dX11_worth_14 : decode cX11_worth 14 = .ok (.ireturn, 1) := by decide +kernel
theorem dX11_worth_15 : decode cX11_worth 15 = .ok (.iload_n 2, 1) := by decide +kernel
theorem dX11_worth_16 : decode cX11_worth 16 = .ok (.iconst 1, 1) := by decide +kernel
theorem dX11_worth_17 : decode cX11_worth 17 = .ok (.bipush 60, 2) := by decide +kernel
theorem dX11_worth_19 : decode cX11_worth 19 = .ok (.invokestatic 152, 3) := by decide +kernel
theorem dX11_worth_22 : decode cX11_worth 22 = .ok (.ifCond .ne 7, 3) := by decide +kernel
theorem dX11_worth_25 : decode cX11_worth 25 = .ok (.sipush (-10002), 3) := by decide +kernel
theorem dX11_worth_28 : decode cX11_worth 28 = .ok (.ireturn, 1) := by decide +kernel
theorem dX11_worth_29 : decode cX11_worth 29 = .ok (.aload_n 0, 1) := by decide +kernel
theorem dX11_worth_30 : decode cX11_worth 30 = .ok (.aload_n 0, 1) := by decide +kernel
theorem dX11_worth_31 : decode cX11_worth 31 = .ok (.getfield 12, 3) := by decide +kernel
theorem dX11_worth_34 : decode cX11_worth 34 = .ok (.invokevirtual 156, 3) := by decide +kernel
theorem dX11_worth_37 : decode cX11_worth 37 = .ok (.iconst 1, 1) := by decide +kernel
theorem dX11_worth_38 : decode cX11_worth 38 = .ok (.iload_n 1, 1) := by decide +kernel
theorem dX11_worth_39 : decode cX11_worth 39 = .ok (.ishl, 1) := by decide +kernel
theorem dX11_worth_40 : decode cX11_worth 40 = .ok (.ior, 1) := by decide +kernel
theorem dX11_worth_41 : decode cX11_worth 41 = .ok (.iload_n 2, 1) := by decide +kernel
theorem dX11_worth_42 : decode cX11_worth 42 = .ok (.invokevirtual 164, 3) := by decide +kernel
theorem dX11_worth_45 : decode cX11_worth 45 = .ok (.invokevirtual 174, 3) := by decide +kernel
theorem dX11_worth_48 : decode cX11_worth 48 = .ok (.istore_n 3, 1) := by decide +kernel
theorem dX11_worth_49 : decode cX11_worth 49 = .ok (.aload_n 0, 1) := by decide +kernel
theorem dX11_worth_50 : decode cX11_worth 50 = .ok (.aload_n 0, 1) := by decide +kernel
theorem dX11_worth_51 : decode cX11_worth 51 = .ok (.getfield 12, 3) := by decide +kernel
theorem dX11_worth_54 : decode cX11_worth 54 = .ok (.invokevirtual 156, 3) := by decide +kernel
theorem dX11_worth_57 : decode cX11_worth 57 = .ok (.iconst 1, 1) := by decide +kernel
theorem dX11_worth_58 : decode cX11_worth 58 = .ok (.iload_n 1, 1) := by decide +kernel
theorem dX11_worth_59 : decode cX11_worth 59 = .ok (.ishl, 1) := by decide +kernel
theorem dX11_worth_60 : decode cX11_worth 60 = .ok (.iconst (-1), 1) := by decide +kernel
theorem dX11_worth_61 : decode cX11_worth 61 = .ok (.ixor, 1) := by decide +kernel
theorem dX11_worth_62 : decode cX11_worth 62 = .ok (.iand, 1) := by decide +kernel
theorem dX11_worth_63 : decode cX11_worth 63 = .ok (.iload_n 2, 1) := by decide +kernel
theorem dX11_worth_64 : decode cX11_worth 64 = .ok (.invokevirtual 164, 3) := by decide +kernel
theorem dX11_worth_67 : decode cX11_worth 67 = .ok (.invokevirtual 174, 3) := by decide +kernel
theorem dX11_worth_70 : decode cX11_worth 70 = .ok (.istore 4, 2) := by decide +kernel
theorem dX11_worth_72 : decode cX11_worth 72 = .ok (.iload 4, 2) := by decide +kernel
theorem dX11_worth_74 : decode cX11_worth 74 = .ok (.iload_n 3, 1) := by decide +kernel
theorem dX11_worth_75 : decode cX11_worth 75 = .ok (.isub, 1) := by decide +kernel
theorem dX11_worth_76 : decode cX11_worth 76 = .ok (.ireturn, 1) := by decide +kernel
theorem dX11_round_0 : decode cX11_round 0 = .ok (.iload_n 2, 1) := by decide +kernel
theorem dX11_round_1 : decode cX11_round 1 = .ok (.invokestatic 181, 3) := by decide +kernel
theorem dX11_round_4 : decode cX11_round 4 = .ok (.ifCond .ne 5, 3) := by decide +kernel
theorem dX11_round_7 : decode cX11_round 7 = .ok (.iconst (-1), 1) := by decide +kernel
theorem dX11_round_8 : decode cX11_round 8 = .ok (.ireturn, 1) := by decide +kernel
theorem dX11_round_9 : decode cX11_round 9 = .ok (.iload_n 1, 1) := by decide +kernel
theorem dX11_round_10 : decode cX11_round 10 = .ok (.iconst 1, 1) := by decide +kernel
theorem dX11_round_11 : decode cX11_round 11 = .ok (.bipush 60, 2) := by decide +kernel
theorem dX11_round_13 : decode cX11_round 13 = .ok (.invokestatic 152, 3) := by decide +kernel
theorem dX11_round_16 : decode cX11_round 16 = .ok (.ifCond .ne 6, 3) := by decide +kernel
theorem dX11_round_19 : decode cX11_round 19 = .ok (.bipush (-2), 2) := by decide +kernel
theorem dX11_round_21 : decode cX11_round 21 = .ok (.ireturn, 1) := by decide +kernel
theorem dX11_round_22 : decode cX11_round 22 = .ok (.aload_n 0, 1) := by decide +kernel
theorem dX11_round_23 : decode cX11_round 23 = .ok (.getfield 12, 3) := by decide +kernel
theorem dX11_round_26 : decode cX11_round 26 = .ok (.getfield 108, 3) := by decide +kernel
theorem dX11_round_29 : decode cX11_round 29 = .ok (.getfield 127, 3) := by decide +kernel
theorem dX11_round_32 : decode cX11_round 32 = .ok (.ifCond .ne 6, 3) := by decide +kernel
theorem dX11_round_35 : decode cX11_round 35 = .ok (.bipush (-5), 2) := by decide +kernel
theorem dX11_round_37 : decode cX11_round 37 = .ok (.ireturn, 1) := by decide +kernel
theorem dX11_round_38 : decode cX11_round 38 = .ok (.ldc 184, 2) := by decide +kernel
theorem dX11_round_40 : decode cX11_round 40 = .ok (.istore_n 3, 1) := by decide +kernel
theorem dX11_round_41 : decode cX11_round 41 = .ok (.iconst 1, 1) := by decide +kernel
theorem dX11_round_42 : decode cX11_round 42 = .ok (.istore 4, 2) := by decide +kernel
theorem dX11_round_44 : decode cX11_round 44 = .ok (.iconst 1, 1) := by decide +kernel
theorem dX11_round_45 : decode cX11_round 45 = .ok (.istore 5, 2) := by decide +kernel
theorem dX11_round_47 : decode cX11_round 47 = .ok (.iload 5, 2) := by decide +kernel
theorem dX11_round_49 : decode cX11_round 49 = .ok (.bipush 20, 2) := by decide +kernel
theorem dX11_round_51 : decode cX11_round 51 = .ok (.if_icmp .gt 31, 3) := by decide +kernel
theorem dX11_round_54 : decode cX11_round 54 = .ok (.aload_n 0, 1) := by decide +kernel
theorem dX11_round_55 : decode cX11_round 55 = .ok (.iload 5, 2) := by decide +kernel
theorem dX11_round_57 : decode cX11_round 57 = .ok (.iload_n 1, 1) := by decide +kernel
theorem dX11_round_58 : decode cX11_round 58 = .ok (.invokevirtual 195, 3) := by decide +kernel
theorem dX11_round_61 : decode cX11_round 61 = .ok (.istore 6, 2) := by decide +kernel
theorem dX11_round_63 : decode cX11_round 63 = .ok (.iload 6, 2) := by decide +kernel
theorem dX11_round_65 : decode cX11_round 65 = .ok (.iload_n 3, 1) := by decide +kernel
theorem dX11_round_66 : decode cX11_round 66 = .ok (.if_icmp .ge 10, 3) := by decide +kernel
theorem dX11_round_69 : decode cX11_round 69 = .ok (.iload 6, 2) := by decide +kernel
theorem dX11_round_71 : decode cX11_round 71 = .ok (.istore_n 3, 1) := by decide +kernel
theorem dX11_round_72 : decode cX11_round 72 = .ok (.iload 5, 2) := by decide +kernel
theorem dX11_round_74 : decode cX11_round 74 = .ok (.istore 4, 2) := by decide +kernel
theorem dX11_round_76 : decode cX11_round 76 = .ok (.iinc 5 1, 3) := by decide +kernel
theorem dX11_round_79 : decode cX11_round 79 = .ok (.goto (-32), 3) := by decide +kernel
theorem dX11_round_82 : decode cX11_round 82 = .ok (.iload_n 2, 1) := by decide +kernel
theorem dX11_round_83 : decode cX11_round 83 = .ok (.ifCond .ne 8, 3) := by decide +kernel
theorem dX11_round_86 : decode cX11_round 86 = .ok (.iload 4, 2) := by decide +kernel
theorem dX11_round_88 : decode cX11_round 88 = .ok (.goto 4, 3) := by decide +kernel
theorem dX11_round_91 : decode cX11_round 91 = .ok (.iload_n 3, 1) := by decide +kernel
theorem dX11_round_92 : decode cX11_round 92 = .ok (.ireturn, 1) := by decide +kernel
theorem dX11_meets_0 : decode cX11_meets 0 = .ok (.aload_n 0, 1) := by decide +kernel
theorem dX11_meets_1 : decode cX11_meets 1 = .ok (.getfield 12, 3) := by decide +kernel
theorem dX11_meets_4 : decode cX11_meets 4 = .ok (.iload_n 1, 1) := by decide +kernel
theorem dX11_meets_5 : decode cX11_meets 5 = .ok (.invokevirtual 81, 3) := by decide +kernel
theorem dX11_meets_8 : decode cX11_meets 8 = .ok (.astore 4, 2) := by decide +kernel
theorem dX11_meets_10 : decode cX11_meets 10 = .ok (.aload_n 0, 1) := by decide +kernel
theorem dX11_meets_11 : decode cX11_meets 11 = .ok (.getfield 12, 3) := by decide +kernel
theorem dX11_meets_14 : decode cX11_meets 14 = .ok (.iload_n 2, 1) := by decide +kernel
theorem dX11_meets_15 : decode cX11_meets 15 = .ok (.invokevirtual 81, 3) := by decide +kernel
theorem dX11_meets_18 : decode cX11_meets 18 = .ok (.astore 5, 2) := by decide +kernel
theorem dX11_meets_20 : decode cX11_meets 20 = .ok (.aload 4, 2) := by decide +kernel
theorem dX11_meets_22 : decode cX11_meets 22 = .ok (.ifnull 8, 3) := by decide +kernel
theorem dX11_meets_25 : decode cX11_meets 25 = .ok (.aload 5, 2) := by decide +kernel
theorem dX11_meets_27 : decode cX11_meets 27 = .ok (.ifnonnull 5, 3) := by decide +kernel
theorem dX11_meets_30 : decode cX11_meets 30 = .ok (.iconst (-1), 1) := by decide +kernel
theorem dX11_meets_31 : decode cX11_meets 31 = .ok (.ireturn, 1) := by decide +kernel
theorem dX11_meets_32 : decode cX11_meets 32 = .ok (.iload_n 1, 1) := by decide +kernel
theorem dX11_meets_33 : decode cX11_meets 33 = .ok (.iload_n 2, 1) := by decide +kernel
theorem dX11_meets_34 : decode cX11_meets 34 = .ok (.if_icmp .eq 13, 3) := by decide +kernel
theorem dX11_meets_37 : decode cX11_meets 37 = .ok (.iload_n 3, 1) := by decide +kernel
theorem dX11_meets_38 : decode cX11_meets 38 = .ok (.iconst 1, 1) := by decide +kernel
theorem dX11_meets_39 : decode cX11_meets 39 = .ok (.bipush 60, 2) := by decide +kernel
theorem dX11_meets_41 : decode cX11_meets 41 = .ok (.invokestatic 152, 3) := by decide +kernel
theorem dX11_meets_44 : decode cX11_meets 44 = .ok (.ifCond .ne 6, 3) := by decide +kernel
theorem dX11_meets_47 : decode cX11_meets 47 = .ok (.bipush (-2), 2) := by decide +kernel
theorem dX11_meets_49 : decode cX11_meets 49 = .ok (.ireturn, 1) := by decide +kernel
theorem dX11_meets_50 : decode cX11_meets 50 = .ok (.aload_n 0, 1) := by decide +kernel
theorem dX11_meets_51 : decode cX11_meets 51 = .ok (.aload 4, 2) := by decide +kernel
theorem dX11_meets_53 : decode cX11_meets 53 = .ok (.aload 5, 2) := by decide +kernel
theorem dX11_meets_55 : decode cX11_meets 55 = .ok (.iload_n 3, 1) := by decide +kernel
theorem dX11_meets_56 : decode cX11_meets 56 = .ok (.iconst 0, 1) := by decide +kernel
theorem dX11_meets_57 : decode cX11_meets 57 = .ok (.invokevirtual 198, 3) := by decide +kernel
theorem dX11_meets_60 : decode cX11_meets 60 = .ok (.ireturn, 1) := by decide +kernel
theorem dX11_late_0 : decode cX11_late 0 = .ok (.aload_n 0, 1) := by decide +kernel
theorem dX11_late_1 : decode cX11_late 1 = .ok (.getfield 12, 3) := by decide +kernel
theorem dX11_late_4 : decode cX11_late 4 = .ok (.iload_n 1, 1) := by decide +kernel
theorem dX11_late_5 : decode cX11_late 5 = .ok (.invokevirtual 81, 3) := by decide +kernel
theorem dX11_late_8 : decode cX11_late 8 = .ok (.astore 5, 2) := by decide +kernel
theorem dX11_late_10 : decode cX11_late 10 = .ok (.aload_n 0, 1) := by decide +kernel
theorem dX11_late_11 : decode cX11_late 11 = .ok (.getfield 12, 3) := by decide +kernel
theorem dX11_late_14 : decode cX11_late 14 = .ok (.iload_n 2, 1) := by decide +kernel
theorem dX11_late_15 : decode cX11_late 15 = .ok (.invokevirtual 81, 3) := by decide +kernel
theorem dX11_late_18 : decode cX11_late 18 = .ok (.astore 6, 2) := by decide +kernel
theorem dX11_late_20 : decode cX11_late 20 = .ok (.aload 5, 2) := by decide +kernel
theorem dX11_late_22 : decode cX11_late 22 = .ok (.ifnull 16, 3) := by decide +kernel
theorem dX11_late_25 : decode cX11_late 25 = .ok (.aload 6, 2) := by decide +kernel
theorem dX11_late_27 : decode cX11_late 27 = .ok (.ifnull 11, 3) := by decide +kernel
theorem dX11_late_30 : decode cX11_late 30 = .ok (.iload 4, 2) := by decide +kernel
theorem dX11_late_32 : decode cX11_late 32 = .ok (.invokestatic 181, 3) := by decide +kernel
theorem dX11_late_35 : decode cX11_late 35 = .ok (.ifCond .ne 5, 3) := by decide +kernel
theorem dX11_late_38 : decode cX11_late 38 = .ok (.iconst (-1), 1) := by decide +kernel
theorem dX11_late_39 : decode cX11_late 39 = .ok (.ireturn, 1) := by decide +kernel
theorem dX11_late_40 : decode cX11_late 40 = .ok (.iload_n 1, 1) := by decide +kernel
theorem dX11_late_41 : decode cX11_late 41 = .ok (.iload_n 2, 1) := by decide +kernel
theorem dX11_late_42 : decode cX11_late 42 = .ok (.if_icmp .eq 13, 3) := by decide +kernel
theorem dX11_late_45 : decode cX11_late 45 = .ok (.iload_n 3, 1) := by decide +kernel
theorem dX11_late_46 : decode cX11_late 46 = .ok (.iconst 1, 1) := by decide +kernel
theorem dX11_late_47 : decode cX11_late 47 = .ok (.bipush 60, 2) := by decide +kernel
theorem dX11_late_49 : decode cX11_late 49 = .ok (.invokestatic 152, 3) := by decide +kernel
theorem dX11_late_52 : decode cX11_late 52 = .ok (.ifCond .ne 6, 3) := by decide +kernel
theorem dX11_late_55 : decode cX11_late 55 = .ok (.bipush (-2), 2) := by decide +kernel
theorem dX11_late_57 : decode cX11_late 57 = .ok (.ireturn, 1) := by decide +kernel
theorem dX11_late_58 : decode cX11_late 58 = .ok (.ldc 184, 2) := by decide +kernel
theorem dX11_late_60 : decode cX11_late 60 = .ok (.istore 7, 2) := by decide +kernel
theorem dX11_late_62 : decode cX11_late 62 = .ok (.iconst 0, 1) := by decide +kernel
theorem dX11_late_63 : decode cX11_late 63 = .ok (.istore 8, 2) := by decide +kernel
theorem dX11_late_65 : decode cX11_late 65 = .ok (.iconst 0, 1) := by decide +kernel
theorem dX11_late_66 : decode cX11_late 66 = .ok (.istore 9, 2) := by decide +kernel
theorem dX11_late_68 : decode cX11_late 68 = .ok (.iload 9, 2) := by decide +kernel
theorem dX11_late_70 : decode cX11_late 70 = .ok (.bipush 30, 2) := by decide +kernel
theorem dX11_late_72 : decode cX11_late 72 = .ok (.if_icmp .ge 37, 3) := by decide +kernel
theorem dX11_late_75 : decode cX11_late 75 = .ok (.aload_n 0, 1) := by decide +kernel
theorem dX11_late_76 : decode cX11_late 76 = .ok (.aload 5, 2) := by decide +kernel
theorem dX11_late_78 : decode cX11_late 78 = .ok (.aload 6, 2) := by decide +kernel
theorem dX11_late_80 : decode cX11_late 80 = .ok (.iload_n 3, 1) := by decide +kernel
theorem dX11_late_81 : decode cX11_late 81 = .ok (.iload 9, 2) := by decide +kernel
theorem dX11_late_83 : decode cX11_late 83 = .ok (.invokevirtual 198, 3) := by decide +kernel
theorem dX11_late_86 : decode cX11_late 86 = .ok (.istore 10, 2) := by decide +kernel
theorem dX11_late_88 : decode cX11_late 88 = .ok (.iload 10, 2) := by decide +kernel
theorem dX11_late_90 : decode cX11_late 90 = .ok (.iload 7, 2) := by decide +kernel
theorem dX11_late_92 : decode cX11_late 92 = .ok (.if_icmp .ge 11, 3) := by decide +kernel
theorem dX11_late_95 : decode cX11_late 95 = .ok (.iload 10, 2) := by decide +kernel
theorem dX11_late_97 : decode cX11_late 97 = .ok (.istore 7, 2) := by decide +kernel
theorem dX11_late_99 : decode cX11_late 99 = .ok (.iload 9, 2) := by decide +kernel
theorem dX11_late_101 : decode cX11_late 101 = .ok (.istore 8, 2) := by decide +kernel
theorem dX11_late_103 : decode cX11_late 103 = .ok (.iinc 9 1, 3) := by decide +kernel
theorem dX11_late_106 : decode cX11_late 106 = .ok (.goto (-38), 3) := by decide +kernel
theorem dX11_late_109 : decode cX11_late 109 = .ok (.iload 4, 2) := by decide +kernel
theorem dX11_late_111 : decode cX11_late 111 = .ok (.ifCond .ne 8, 3) := by decide +kernel
theorem dX11_late_114 : decode cX11_late 114 = .ok (.iload 8, 2) := by decide +kernel
theorem dX11_late_116 : decode cX11_late 116 = .ok (.goto 5, 3) := by decide +kernel
theorem dX11_late_119 : decode cX11_late 119 = .ok (.iload 7, 2) := by decide +kernel
theorem dX11_late_121 : decode cX11_late 121 = .ok (.ireturn, 1) := by decide +kernel
theorem dX11_period_0 : decode cX11_period 0 = .ok (.aload_n 0, 1) := by decide +kernel
theorem dX11_period_1 : decode cX11_period 1 = .ok (.getfield 12, 3) := by decide +kernel
theorem dX11_period_4 : decode cX11_period 4 = .ok (.iload_n 1, 1) := by decide +kernel
theorem dX11_period_5 : decode cX11_period 5 = .ok (.invokevirtual 81, 3) := by decide +kernel
theorem dX11_period_8 : decode cX11_period 8 = .ok (.astore_n 2, 1) := by decide +kernel
theorem dX11_period_9 : decode cX11_period 9 = .ok (.aload_n 2, 1) := by decide +kernel
theorem dX11_period_10 : decode cX11_period 10 = .ok (.ifnonnull 5, 3) := by decide +kernel
theorem dX11_period_13 : decode cX11_period 13 = .ok (.iconst (-1), 1) := by decide +kernel
theorem dX11_period_14 : decode cX11_period 14 = .ok (.ireturn, 1) := by decide +kernel
theorem dX11_period_15 : decode cX11_period 15 = .ok (.iconst 1, 1) := by decide +kernel
theorem dX11_period_16 : decode cX11_period 16 = .ok (.istore_n 3, 1) := by decide +kernel
theorem dX11_period_17 : decode cX11_period 17 = .ok (.iload_n 3, 1) := by decide +kernel
theorem dX11_period_18 : decode cX11_period 18 = .ok (.sipush 200, 3) := by decide +kernel
theorem dX11_period_21 : decode cX11_period 21 = .ok (.if_icmp .gt 20, 3) := by decide +kernel
theorem dX11_period_24 : decode cX11_period 24 = .ok (.aload_n 0, 1) := by decide +kernel
theorem dX11_period_25 : decode cX11_period 25 = .ok (.aload_n 2, 1) := by decide +kernel
theorem dX11_period_26 : decode cX11_period 26 = .ok (.iload_n 3, 1) := by decide +kernel
theorem dX11_period_27 : decode cX11_period 27 = .ok (.invokevirtual 202, 3) := by decide +kernel
theorem dX11_period_30 : decode cX11_period 30 = .ok (.ifCond .eq 5, 3) := by decide +kernel
theorem dX11_period_33 : decode cX11_period 33 = .ok (.iload_n 3, 1) := by decide +kernel
theorem dX11_period_34 : decode cX11_period 34 = .ok (.ireturn, 1) := by decide +kernel
theorem dX11_period_35 : decode cX11_period 35 = .ok (.iinc 3 1, 3) := by decide +kernel
theorem dX11_period_38 : decode cX11_period 38 = .ok (.goto (-21), 3) := by decide +kernel
theorem dX11_period_41 : decode cX11_period 41 = .ok (.bipush (-5), 2) := by decide +kernel
theorem dX11_period_43 : decode cX11_period 43 = .ok (.ireturn, 1) := by decide +kernel
theorem dX11_papers_0 : decode cX11_papers 0 = .ok (.iload_n 1, 1) := by decide +kernel
theorem dX11_papers_1 : decode cX11_papers 1 = .ok (.iconst 1, 1) := by decide +kernel
theorem dX11_papers_2 : decode cX11_papers 2 = .ok (.bipush 60, 2) := by decide +kernel
theorem dX11_papers_4 : decode cX11_papers 4 = .ok (.invokestatic 152, 3) := by decide +kernel
theorem dX11_papers_7 : decode cX11_papers 7 = .ok (.ifCond .eq 18, 3) := by decide +kernel
theorem dX11_papers_10 : decode cX11_papers 10 = .ok (.aload_n 0, 1) := by decide +kernel
theorem dX11_papers_11 : decode cX11_papers 11 = .ok (.aload_n 0, 1) := by decide +kernel
theorem dX11_papers_12 : decode cX11_papers 12 = .ok (.getfield 12, 3) := by decide +kernel
theorem dX11_papers_15 : decode cX11_papers 15 = .ok (.invokevirtual 156, 3) := by decide +kernel
theorem dX11_papers_18 : decode cX11_papers 18 = .ok (.iload_n 1, 1) := by decide +kernel
theorem dX11_papers_19 : decode cX11_papers 19 = .ok (.invokevirtual 206, 3) := by decide +kernel
theorem dX11_papers_22 : decode cX11_papers 22 = .ok (.goto 5, 3) := by decide +kernel
theorem dX11_papers_25 : decode cX11_papers 25 = .ok (.bipush (-2), 2) := by decide +kernel
theorem dX11_papers_27 : decode cX11_papers 27 = .ok (.ireturn, 1) := by decide +kernel
theorem dX11_flown_0 : decode cX11_flown 0 = .ok (.iload_n 1, 1) := by decide +kernel
theorem dX11_flown_1 : decode cX11_flown 1 = .ok (.iconst 0, 1) := by decide +kernel
theorem dX11_flown_2 : decode cX11_flown 2 = .ok (.sipush 1023, 3) := by decide +kernel
theorem dX11_flown_5 : decode cX11_flown 5 = .ok (.invokestatic 152, 3) := by decide +kernel
theorem dX11_flown_8 : decode cX11_flown 8 = .ok (.ifCond .ne 6, 3) := by decide +kernel
theorem dX11_flown_11 : decode cX11_flown 11 = .ok (.bipush (-2), 2) := by decide +kernel
theorem dX11_flown_13 : decode cX11_flown 13 = .ok (.ireturn, 1) := by decide +kernel
theorem dX11_flown_14 : decode cX11_flown 14 = .ok (.aload_n 0, 1) := by decide +kernel
theorem dX11_flown_15 : decode cX11_flown 15 = .ok (.getfield 12, 3) := by decide +kernel
theorem dX11_flown_18 : decode cX11_flown 18 = .ok (.getfield 209, 3) := by decide +kernel
theorem dX11_flown_21 : decode cX11_flown 21 = .ok (.istore_n 2, 1) := by decide +kernel
theorem dX11_flown_22 : decode cX11_flown 22 = .ok (.aload_n 0, 1) := by decide +kernel
theorem dX11_flown_23 : decode cX11_flown 23 = .ok (.getfield 12, 3) := by decide +kernel
theorem dX11_flown_26 : decode cX11_flown 26 = .ok (.iload_n 1, 1) := by decide +kernel
theorem dX11_flown_27 : decode cX11_flown 27 = .ok (.putfield 209, 3) := by decide +kernel
theorem dX11_flown_30 : decode cX11_flown 30 = .ok (.iload_n 2, 1) := by decide +kernel
theorem dX11_flown_31 : decode cX11_flown 31 = .ok (.ireturn, 1) := by decide +kernel
theorem dX11_which_0 : decode cX11_which 0 = .ok (.iload_n 1, 1) := by decide +kernel
theorem dX11_which_1 : decode cX11_which 1 = .ok (.iconst 1, 1) := by decide +kernel
theorem dX11_which_2 : decode cX11_which 2 = .ok (.bipush 60, 2) := by decide +kernel
theorem dX11_which_4 : decode cX11_which 4 = .ok (.invokestatic 152, 3) := by decide +kernel
theorem dX11_which_7 : decode cX11_which 7 = .ok (.ifCond .ne 6, 3) := by decide +kernel
theorem dX11_which_10 : decode cX11_which 10 = .ok (.bipush (-2), 2) := by decide +kernel
theorem dX11_which_12 : decode cX11_which 12 = .ok (.ireturn, 1) := by decide +kernel
theorem dX11_which_13 : decode cX11_which 13 = .ok (.iconst 0, 1) := by decide +kernel
theorem dX11_which_14 : decode cX11_which 14 = .ok (.istore_n 2, 1) := by decide +kernel
theorem dX11_which_15 : decode cX11_which 15 = .ok (.iconst 0, 1) := by decide +kernel
theorem dX11_which_16 : decode cX11_which 16 = .ok (.istore_n 3, 1) := by decide +kernel
theorem dX11_which_17 : decode cX11_which 17 = .ok (.iload_n 3, 1) := by decide +kernel
theorem dX11_which_18 : decode cX11_which 18 = .ok (.aload_n 0, 1) := by decide +kernel
theorem dX11_which_19 : decode cX11_which 19 = .ok (.getfield 12, 3) := by decide +kernel
theorem dX11_which_22 : decode cX11_which 22 = .ok (.getfield 70, 3) := by decide +kernel
theorem dX11_which_25 : decode cX11_which 25 = .ok (.if_icmp .ge 33, 3) := by decide +kernel
theorem dX11_which_28 : decode cX11_which 28 = .ok (.aload_n 0, 1) := by decide +kernel
theorem dX11_which_29 : decode cX11_which 29 = .ok (.iconst 1, 1) := by decide +kernel
theorem dX11_which_30 : decode cX11_which 30 = .ok (.iload_n 3, 1) := by decide +kernel
theorem dX11_which_31 : decode cX11_which 31 = .ok (.ishl, 1) := by decide +kernel
theorem dX11_which_32 : decode cX11_which 32 = .ok (.iload_n 1, 1) := by decide +kernel
theorem dX11_which_33 : decode cX11_which 33 = .ok (.invokevirtual 206, 3) := by decide +kernel
theorem dX11_which_36 : decode cX11_which 36 = .ok (.aload_n 0, 1) := by decide +kernel
theorem dX11_which_37 : decode cX11_which 37 = .ok (.getfield 12, 3) := by decide +kernel
theorem dX11_which_40 : decode cX11_which 40 = .ok (.getfield 209, 3) := by decide +kernel
theorem dX11_which_43 : decode cX11_which 43 = .ok (.if_icmp .ne 9, 3) := by decide +kernel
theorem dX11_which_46 : decode cX11_which 46 = .ok (.iload_n 2, 1) := by decide +kernel
theorem dX11_which_47 : decode cX11_which 47 = .ok (.iconst 1, 1) := by decide +kernel
theorem dX11_which_48 : decode cX11_which 48 = .ok (.iload_n 3, 1) := by decide +kernel
theorem dX11_which_49 : decode cX11_which 49 = .ok (.ishl, 1) := by decide +kernel
theorem dX11_which_50 : decode cX11_which 50 = .ok (.ior, 1) := by decide +kernel
theorem dX11_which_51 : decode cX11_which 51 = .ok (.istore_n 2, 1) := by decide +kernel
theorem dX11_which_52 : decode cX11_which 52 = .ok (.iinc 3 1, 3) := by decide +kernel
theorem dX11_which_55 : decode cX11_which 55 = .ok (.goto (-38), 3) := by decide +kernel
theorem dX11_which_58 : decode cX11_which 58 = .ok (.iload_n 2, 1) := by decide +kernel
theorem dX11_which_59 : decode cX11_which 59 = .ok (.ireturn, 1) := by decide +kernel
theorem dX11_see_0 : decode cX11_see 0 = .ok (.iload_n 1, 1) := by decide +kernel
theorem dX11_see_1 : decode cX11_see 1 = .ok (.iconst (-1), 1) := by decide +kernel
theorem dX11_see_2 : decode cX11_see 2 = .ok (.if_icmp .ne 13, 3) := by decide +kernel
theorem dX11_see_5 : decode cX11_see 5 = .ok (.aload_n 0, 1) := by decide +kernel
theorem dX11_see_6 : decode cX11_see 6 = .ok (.getfield 12, 3) := by decide +kernel
theorem dX11_see_9 : decode cX11_see 9 = .ok (.iconst 0, 1) := by decide +kernel
theorem dX11_see_10 : decode cX11_see 10 = .ok (.putfield 212, 3) := by decide +kernel
theorem dX11_see_13 : decode cX11_see 13 = .ok (.iconst 0, 1) := by decide +kernel
theorem dX11_see_14 : decode cX11_see 14 = .ok (.ireturn, 1) := by decide +kernel
theorem dX11_see_15 : decode cX11_see 15 = .ok (.aload_n 0, 1) := by decide +kernel
theorem dX11_see_16 : decode cX11_see 16 = .ok (.getfield 12, 3) := by decide +kernel
theorem dX11_see_19 : decode cX11_see 19 = .ok (.getfield 108, 3) := by decide +kernel
theorem dX11_see_22 : decode cX11_see 22 = .ok (.iload_n 1, 1) := by decide +kernel
theorem dX11_see_23 : decode cX11_see 23 = .ok (.invokevirtual 139, 3) := by decide +kernel
theorem dX11_see_26 : decode cX11_see 26 = .ok (.ifCond .ne 5, 3) := by decide +kernel
theorem dX11_see_29 : decode cX11_see 29 = .ok (.iconst (-1), 1) := by decide +kernel
theorem dX11_see_30 : decode cX11_see 30 = .ok (.ireturn, 1) := by decide +kernel
theorem dX11_see_31 : decode cX11_see 31 = .ok (.iload_n 2, 1) := by decide +kernel
theorem dX11_see_32 : decode cX11_see 32 = .ok (.iconst 0, 1) := by decide +kernel
theorem dX11_see_33 : decode cX11_see 33 = .ok (.bipush 60, 2) := by decide +kernel
theorem dX11_see_35 : decode cX11_see 35 = .ok (.invokestatic 152, 3) := by decide +kernel
theorem dX11_see_38 : decode cX11_see 38 = .ok (.ifCond .eq 10, 3) := by decide +kernel
theorem dX11_see_41 : decode cX11_see 41 = .ok (.iload_n 3, 1) := by decide +kernel
theorem dX11_see_42 : decode cX11_see 42 = .ok (.invokestatic 124, 3) := by decide +kernel
theorem dX11_see_45 : decode cX11_see 45 = .ok (.ifCond .ne 6, 3) := by decide +kernel
theorem dX11_see_48 : decode cX11_see 48 = .ok (.bipush (-2), 2) := by decide +kernel
theorem dX11_see_50 : decode cX11_see 50 = .ok (.ireturn, 1) := by decide +kernel
theorem dX11_see_51 : decode cX11_see 51 = .ok (.aload_n 0, 1) := by decide +kernel
theorem dX11_see_52 : decode cX11_see 52 = .ok (.getfield 12, 3) := by decide +kernel
theorem dX11_see_55 : decode cX11_see 55 = .ok (.getfield 212, 3) := by decide +kernel
theorem dX11_see_58 : decode cX11_see 58 = .ok (.bipush 6, 2) := by decide +kernel
theorem dX11_see_60 : decode cX11_see 60 = .ok (.if_icmp .lt 6, 3) := by decide +kernel
theorem dX11_see_63 : decode cX11_see 63 = .ok (.bipush (-4), 2) := by decide +kernel
theorem dX11_see_65 : decode cX11_see 65 = .ok (.ireturn, 1) := by decide +kernel
theorem dX11_see_66 : decode cX11_see 66 = .ok (.aload_n 0, 1) := by decide +kernel
theorem dX11_see_67 : decode cX11_see 67 = .ok (.getfield 12, 3) := by decide +kernel
theorem dX11_see_70 : decode cX11_see 70 = .ok (.getfield 215, 3) := by decide +kernel
theorem dX11_see_73 : decode cX11_see 73 = .ok (.aload_n 0, 1) := by decide +kernel
theorem dX11_see_74 : decode cX11_see 74 = .ok (.getfield 12, 3) := by decide +kernel
theorem dX11_see_77 : decode cX11_see 77 = .ok (.getfield 212, 3) := by decide +kernel
theorem dX11_see_80 : decode cX11_see 80 = .ok (.iload_n 1, 1) := by decide +kernel
theorem dX11_see_81 : decode cX11_see 81 = .ok (.iload_n 2, 1) := by decide +kernel
theorem dX11_see_82 : decode cX11_see 82 = .ok (.iload_n 3, 1) := by decide +kernel
theorem dX11_see_83 : decode cX11_see 83 = .ok (.invokestatic 218, 3) := by decide +kernel
theorem dX11_see_86 : decode cX11_see 86 = .ok (.aload_n 0, 1) := by decide +kernel
theorem dX11_see_87 : decode cX11_see 87 = .ok (.getfield 12, 3) := by decide +kernel
theorem dX11_see_90 : decode cX11_see 90 = .ok (.dup, 1) := by decide +kernel
theorem dX11_see_91 : decode cX11_see 91 = .ok (.getfield 212, 3) := by decide +kernel
theorem dX11_see_94 : decode cX11_see 94 = .ok (.iconst 1, 1) := by decide +kernel
theorem dX11_see_95 : decode cX11_see 95 = .ok (.iadd, 1) := by decide +kernel
theorem dX11_see_96 : decode cX11_see 96 = .ok (.putfield 212, 3) := by decide +kernel
theorem dX11_see_99 : decode cX11_see 99 = .ok (.aload_n 0, 1) := by decide +kernel
theorem dX11_see_100 : decode cX11_see 100 = .ok (.getfield 12, 3) := by decide +kernel
theorem dX11_see_103 : decode cX11_see 103 = .ok (.getfield 212, 3) := by decide +kernel
theorem dX11_see_106 : decode cX11_see 106 = .ok (.ireturn, 1) := by decide +kernel
theorem dX11_sat_0 : decode cX11_sat 0 = .ok (.aload_n 0, 1) := by decide +kernel
theorem dX11_sat_1 : decode cX11_sat 1 = .ok (.getfield 12, 3) := by decide +kernel
theorem dX11_sat_4 : decode cX11_sat 4 = .ok (.getfield 108, 3) := by decide +kernel
theorem dX11_sat_7 : decode cX11_sat 7 = .ok (.iload_n 1, 1) := by decide +kernel
theorem dX11_sat_8 : decode cX11_sat 8 = .ok (.invokevirtual 139, 3) := by decide +kernel
theorem dX11_sat_11 : decode cX11_sat 11 = .ok (.ifCond .ne 5, 3) := by decide +kernel
theorem dX11_sat_14 : decode cX11_sat 14 = .ok (.iconst (-1), 1) := by decide +kernel
theorem dX11_sat_15 : decode cX11_sat 15 = .ok (.ireturn, 1) := by decide +kernel
theorem dX11_sat_16 : decode cX11_sat 16 = .ok (.sipush 1023, 3) := by decide +kernel
theorem dX11_sat_19 : decode cX11_sat 19 = .ok (.istore_n 2, 1) := by decide +kernel
theorem dX11_sat_20 : decode cX11_sat 20 = .ok (.iconst 0, 1) := by decide +kernel
theorem dX11_sat_21 : decode cX11_sat 21 = .ok (.istore_n 3, 1) := by decide +kernel
theorem dX11_sat_22 : decode cX11_sat 22 = .ok (.iload_n 3, 1) := by decide +kernel
theorem dX11_sat_23 : decode cX11_sat 23 = .ok (.aload_n 0, 1) := by decide +kernel
theorem dX11_sat_24 : decode cX11_sat 24 = .ok (.getfield 12, 3) := by decide +kernel
theorem dX11_sat_27 : decode cX11_sat 27 = .ok (.getfield 212, 3) := by decide +kernel
theorem dX11_sat_30 : decode cX11_sat 30 = .ok (.if_icmp .ge 85, 3) := by decide +kernel
theorem dX11_sat_33 : decode cX11_sat 33 = .ok (.iconst 0, 1) := by decide +kernel
theorem dX11_sat_34 : decode cX11_sat 34 = .ok (.istore 4, 2) := by decide +kernel
theorem dX11_sat_36 : decode cX11_sat 36 = .ok (.iload 4, 2) := by decide +kernel
theorem dX11_sat_38 : decode cX11_sat 38 = .ok (.bipush 10, 2) := by decide +kernel
theorem dX11_sat_40 : decode cX11_sat 40 = .ok (.if_icmp .ge 69, 3) := by decide +kernel
theorem dX11_sat_43 : decode cX11_sat 43 = .ok (.aload_n 0, 1) := by decide +kernel
theorem dX11_sat_44 : decode cX11_sat 44 = .ok (.getfield 12, 3) := by decide +kernel
theorem dX11_sat_47 : decode cX11_sat 47 = .ok (.getfield 215, 3) := by decide +kernel
theorem dX11_sat_50 : decode cX11_sat 50 = .ok (.iload_n 3, 1) := by decide +kernel
theorem dX11_sat_51 : decode cX11_sat 51 = .ok (.iconst 3, 1) := by decide +kernel
theorem dX11_sat_52 : decode cX11_sat 52 = .ok (.imul, 1) := by decide +kernel
theorem dX11_sat_53 : decode cX11_sat 53 = .ok (.iaload, 1) := by decide +kernel
theorem dX11_sat_54 : decode cX11_sat 54 = .ok (.iload_n 1, 1) := by decide +kernel
theorem dX11_sat_55 : decode cX11_sat 55 = .ok (.if_icmp .ne 54, 3) := by decide +kernel
theorem dX11_sat_58 : decode cX11_sat 58 = .ok (.aload_n 0, 1) := by decide +kernel
theorem dX11_sat_59 : decode cX11_sat 59 = .ok (.iload_n 1, 1) := by decide +kernel
theorem dX11_sat_60 : decode cX11_sat 60 = .ok (.iload 4, 2) := by decide +kernel
theorem dX11_sat_62 : decode cX11_sat 62 = .ok (.aload_n 0, 1) := by decide +kernel
theorem dX11_sat_63 : decode cX11_sat 63 = .ok (.getfield 12, 3) := by decide +kernel
theorem dX11_sat_66 : decode cX11_sat 66 = .ok (.getfield 215, 3) := by decide +kernel
theorem dX11_sat_69 : decode cX11_sat 69 = .ok (.iload_n 3, 1) := by decide +kernel
theorem dX11_sat_70 : decode cX11_sat 70 = .ok (.iconst 3, 1) := by decide +kernel
theorem dX11_sat_71 : decode cX11_sat 71 = .ok (.imul, 1) := by decide +kernel
theorem dX11_sat_72 : decode cX11_sat 72 = .ok (.iconst 1, 1) := by decide +kernel
theorem dX11_sat_73 : decode cX11_sat 73 = .ok (.iadd, 1) := by decide +kernel
theorem dX11_sat_74 : decode cX11_sat 74 = .ok (.iaload, 1) := by decide +kernel
theorem dX11_sat_75 : decode cX11_sat 75 = .ok (.invokevirtual 188, 3) := by decide +kernel
theorem dX11_sat_78 : decode cX11_sat 78 = .ok (.aload_n 0, 1) := by decide +kernel
theorem dX11_sat_79 : decode cX11_sat 79 = .ok (.getfield 12, 3) := by decide +kernel
theorem dX11_sat_82 : decode cX11_sat 82 = .ok (.getfield 215, 3) := by decide +kernel
theorem dX11_sat_85 : decode cX11_sat 85 = .ok (.iload_n 3, 1) := by decide +kernel
theorem dX11_sat_86 : decode cX11_sat 86 = .ok (.iconst 3, 1) := by decide +kernel
theorem dX11_sat_87 : decode cX11_sat 87 = .ok (.imul, 1) := by decide +kernel
theorem dX11_sat_88 : decode cX11_sat 88 = .ok (.iconst 2, 1) := by decide +kernel
theorem dX11_sat_89 : decode cX11_sat 89 = .ok (.iadd, 1) := by decide +kernel
theorem dX11_sat_90 : decode cX11_sat 90 = .ok (.iaload, 1) := by decide +kernel
theorem dX11_sat_91 : decode cX11_sat 91 = .ok (.if_icmp .eq 12, 3) := by decide +kernel
theorem dX11_sat_94 : decode cX11_sat 94 = .ok (.iload_n 2, 1) := by decide +kernel
theorem dX11_sat_95 : decode cX11_sat 95 = .ok (.iconst 1, 1) := by decide +kernel
theorem dX11_sat_96 : decode cX11_sat 96 = .ok (.iload 4, 2) := by decide +kernel
theorem dX11_sat_98 : decode cX11_sat 98 = .ok (.ishl, 1) := by decide +kernel
theorem dX11_sat_99 : decode cX11_sat 99 = .ok (.iconst (-1), 1) := by decide +kernel
theorem dX11_sat_100 : decode cX11_sat 100 = .ok (.ixor, 1) := by decide +kernel
theorem dX11_sat_101 : decode cX11_sat 101 = .ok (.iand, 1) := by decide +kernel
theorem dX11_sat_102 : decode cX11_sat 102 = .ok (.istore_n 2, 1) := by decide +kernel
theorem dX11_sat_103 : decode cX11_sat 103 = .ok (.iinc 4 1, 3) := by decide +kernel
theorem dX11_sat_106 : decode cX11_sat 106 = .ok (.goto (-70), 3) := by decide +kernel
theorem dX11_sat_109 : decode cX11_sat 109 = .ok (.iinc 3 1, 3) := by decide +kernel
theorem dX11_sat_112 : decode cX11_sat 112 = .ok (.goto (-90), 3) := by decide +kernel
theorem dX11_sat_115 : decode cX11_sat 115 = .ok (.iload_n 2, 1) := by decide +kernel
theorem dX11_sat_116 : decode cX11_sat 116 = .ok (.ireturn, 1) := by decide +kernel
theorem dX11_odds_0 : decode cX11_odds 0 = .ok (.aload_n 0, 1) := by decide +kernel
theorem dX11_odds_1 : decode cX11_odds 1 = .ok (.getfield 12, 3) := by decide +kernel
theorem dX11_odds_4 : decode cX11_odds 4 = .ok (.getfield 108, 3) := by decide +kernel
theorem dX11_odds_7 : decode cX11_odds 7 = .ok (.iload_n 1, 1) := by decide +kernel
theorem dX11_odds_8 : decode cX11_odds 8 = .ok (.invokevirtual 139, 3) := by decide +kernel
theorem dX11_odds_11 : decode cX11_odds 11 = .ok (.ifCond .eq 20, 3) := by decide +kernel
theorem dX11_odds_14 : decode cX11_odds 14 = .ok (.iload_n 2, 1) := by decide +kernel
theorem dX11_odds_15 : decode cX11_odds 15 = .ok (.iconst 1, 1) := by decide +kernel
theorem dX11_odds_16 : decode cX11_odds 16 = .ok (.bipush 30, 2) := by decide +kernel
theorem dX11_odds_18 : decode cX11_odds 18 = .ok (.invokestatic 152, 3) := by decide +kernel
theorem dX11_odds_21 : decode cX11_odds 21 = .ok (.ifCond .eq 10, 3) := by decide +kernel
theorem dX11_odds_24 : decode cX11_odds 24 = .ok (.iload_n 3, 1) := by decide +kernel
theorem dX11_odds_25 : decode cX11_odds 25 = .ok (.invokestatic 181, 3) := by decide +kernel
theorem dX11_odds_28 : decode cX11_odds 28 = .ok (.ifCond .ne 7, 3) := by decide +kernel
theorem dX11_odds_31 : decode cX11_odds 31 = .ok (.ldc2_w 222, 3) := by decide +kernel
theorem dX11_odds_34 : decode cX11_odds 34 = .ok (.lreturn, 1) := by decide +kernel
theorem dX11_odds_35 : decode cX11_odds 35 = .ok (.iconst 0, 1) := by decide +kernel
theorem dX11_odds_36 : decode cX11_odds 36 = .ok (.istore 4, 2) := by decide +kernel
theorem dX11_odds_38 : decode cX11_odds 38 = .ok (.iconst 0, 1) := by decide +kernel
theorem dX11_odds_39 : decode cX11_odds 39 = .ok (.istore 5, 2) := by decide +kernel
theorem dX11_odds_41 : decode cX11_odds 41 = .ok (.iload 5, 2) := by decide +kernel
theorem dX11_odds_43 : decode cX11_odds 43 = .ok (.bipush 20, 2) := by decide +kernel
theorem dX11_odds_45 : decode cX11_odds 45 = .ok (.if_icmp .ge 23, 3) := by decide +kernel
theorem dX11_odds_48 : decode cX11_odds 48 = .ok (.aload_n 0, 1) := by decide +kernel
theorem dX11_odds_49 : decode cX11_odds 49 = .ok (.iload_n 1, 1) := by decide +kernel
theorem dX11_odds_50 : decode cX11_odds 50 = .ok (.iload 5, 2) := by decide +kernel
theorem dX11_odds_52 : decode cX11_odds 52 = .ok (.iload_n 2, 1) := by decide +kernel
theorem dX11_odds_53 : decode cX11_odds 53 = .ok (.invokevirtual 224, 3) := by decide +kernel
theorem dX11_odds_56 : decode cX11_odds 56 = .ok (.ifCond .eq 6, 3) := by decide +kernel
theorem dX11_odds_59 : decode cX11_odds 59 = .ok (.iinc 4 1, 3) := by decide +kernel
theorem dX11_odds_62 : decode cX11_odds 62 = .ok (.iinc 5 1, 3) := by decide +kernel
theorem dX11_odds_65 : decode cX11_odds 65 = .ok (.goto (-24), 3) := by decide +kernel
theorem dX11_odds_68 : decode cX11_odds 68 = .ok (.iload 4, 2) := by decide +kernel
theorem dX11_odds_70 : decode cX11_odds 70 = .ok (.bipush 20, 2) := by decide +kernel
theorem dX11_odds_72 : decode cX11_odds 72 = .ok (.iload_n 3, 1) := by decide +kernel
theorem dX11_odds_73 : decode cX11_odds 73 = .ok (.invokestatic 227, 3) := by decide +kernel
theorem dX11_odds_76 : decode cX11_odds 76 = .ok (.lreturn, 1) := by decide +kernel
theorem dX11_mean_0 : decode cX11_mean 0 = .ok (.aload_n 0, 1) := by decide +kernel
theorem dX11_mean_1 : decode cX11_mean 1 = .ok (.getfield 12, 3) := by decide +kernel
theorem dX11_mean_4 : decode cX11_mean 4 = .ok (.iload_n 1, 1) := by decide +kernel
theorem dX11_mean_5 : decode cX11_mean 5 = .ok (.invokevirtual 81, 3) := by decide +kernel
theorem dX11_mean_8 : decode cX11_mean 8 = .ok (.astore 4, 2) := by decide +kernel
theorem dX11_mean_10 : decode cX11_mean 10 = .ok (.aload 4, 2) := by decide +kernel
theorem dX11_mean_12 : decode cX11_mean 12 = .ok (.ifnull 20, 3) := by decide +kernel
theorem dX11_mean_15 : decode cX11_mean 15 = .ok (.iload_n 2, 1) := by decide +kernel
theorem dX11_mean_16 : decode cX11_mean 16 = .ok (.iconst 1, 1) := by decide +kernel
theorem dX11_mean_17 : decode cX11_mean 17 = .ok (.bipush 60, 2) := by decide +kernel
theorem dX11_mean_19 : decode cX11_mean 19 = .ok (.invokestatic 152, 3) := by decide +kernel
theorem dX11_mean_22 : decode cX11_mean 22 = .ok (.ifCond .eq 10, 3) := by decide +kernel
theorem dX11_mean_25 : decode cX11_mean 25 = .ok (.iload_n 3, 1) := by decide +kernel
theorem dX11_mean_26 : decode cX11_mean 26 = .ok (.invokestatic 181, 3) := by decide +kernel
theorem dX11_mean_29 : decode cX11_mean 29 = .ok (.ifCond .ne 7, 3) := by decide +kernel
theorem dX11_mean_32 : decode cX11_mean 32 = .ok (.ldc2_w 222, 3) := by decide +kernel
theorem dX11_mean_35 : decode cX11_mean 35 = .ok (.lreturn, 1) := by decide +kernel
theorem dX11_mean_36 : decode cX11_mean 36 = .ok (.iconst 0, 1) := by decide +kernel
theorem dX11_mean_37 : decode cX11_mean 37 = .ok (.istore 5, 2) := by decide +kernel
theorem dX11_mean_39 : decode cX11_mean 39 = .ok (.iconst 0, 1) := by decide +kernel
theorem dX11_mean_40 : decode cX11_mean 40 = .ok (.istore 6, 2) := by decide +kernel
theorem dX11_mean_42 : decode cX11_mean 42 = .ok (.iload 6, 2) := by decide +kernel
theorem dX11_mean_44 : decode cX11_mean 44 = .ok (.iload_n 2, 1) := by decide +kernel
theorem dX11_mean_45 : decode cX11_mean 45 = .ok (.if_icmp .ge 36, 3) := by decide +kernel
theorem dX11_mean_48 : decode cX11_mean 48 = .ok (.iload 5, 2) := by decide +kernel
theorem dX11_mean_50 : decode cX11_mean 50 = .ok (.aload 4, 2) := by decide +kernel
theorem dX11_mean_52 : decode cX11_mean 52 = .ok (.aload_n 0, 1) := by decide +kernel
theorem dX11_mean_53 : decode cX11_mean 53 = .ok (.getfield 12, 3) := by decide +kernel
theorem dX11_mean_56 : decode cX11_mean 56 = .ok (.getfield 105, 3) := by decide +kernel
theorem dX11_mean_59 : decode cX11_mean 59 = .ok (.iload 6, 2) := by decide +kernel
theorem dX11_mean_61 : decode cX11_mean 61 = .ok (.iadd, 1) := by decide +kernel
theorem dX11_mean_62 : decode cX11_mean 62 = .ok (.aload_n 0, 1) := by decide +kernel
theorem dX11_mean_63 : decode cX11_mean 63 = .ok (.getfield 12, 3) := by decide +kernel
theorem dX11_mean_66 : decode cX11_mean 66 = .ok (.getfield 108, 3) := by decide +kernel
theorem dX11_mean_69 : decode cX11_mean 69 = .ok (.invokevirtual 111, 3) := by decide +kernel
theorem dX11_mean_72 : decode cX11_mean 72 = .ok (.iadd, 1) := by decide +kernel
theorem dX11_mean_73 : decode cX11_mean 73 = .ok (.istore 5, 2) := by decide +kernel
theorem dX11_mean_75 : decode cX11_mean 75 = .ok (.iinc 6 1, 3) := by decide +kernel
theorem dX11_mean_78 : decode cX11_mean 78 = .ok (.goto (-36), 3) := by decide +kernel
theorem dX11_mean_81 : decode cX11_mean 81 = .ok (.iload 5, 2) := by decide +kernel
theorem dX11_mean_83 : decode cX11_mean 83 = .ok (.iload_n 2, 1) := by decide +kernel
theorem dX11_mean_84 : decode cX11_mean 84 = .ok (.iload_n 3, 1) := by decide +kernel
theorem dX11_mean_85 : decode cX11_mean 85 = .ok (.invokestatic 227, 3) := by decide +kernel
theorem dX11_mean_88 : decode cX11_mean 88 = .ok (.lreturn, 1) := by decide +kernel
theorem dX11_even_0 : decode cX11_even 0 = .ok (.iload_n 1, 1) := by decide +kernel
theorem dX11_even_1 : decode cX11_even 1 = .ok (.iconst 0, 1) := by decide +kernel
theorem dX11_even_2 : decode cX11_even 2 = .ok (.bipush 60, 2) := by decide +kernel
theorem dX11_even_4 : decode cX11_even 4 = .ok (.invokestatic 152, 3) := by decide +kernel
theorem dX11_even_7 : decode cX11_even 7 = .ok (.ifCond .ne 6, 3) := by decide +kernel
theorem dX11_even_10 : decode cX11_even 10 = .ok (.bipush (-2), 2) := by decide +kernel
theorem dX11_even_12 : decode cX11_even 12 = .ok (.ireturn, 1) := by decide +kernel
theorem dX11_even_13 : decode cX11_even 13 = .ok (.aload_n 0, 1) := by decide +kernel
theorem dX11_even_14 : decode cX11_even 14 = .ok (.getfield 12, 3) := by decide +kernel
theorem dX11_even_17 : decode cX11_even 17 = .ok (.getfield 108, 3) := by decide +kernel
theorem dX11_even_20 : decode cX11_even 20 = .ok (.getfield 127, 3) := by decide +kernel
theorem dX11_even_23 : decode cX11_even 23 = .ok (.ifCond .ne 6, 3) := by decide +kernel
theorem dX11_even_26 : decode cX11_even 26 = .ok (.bipush (-5), 2) := by decide +kernel
theorem dX11_even_28 : decode cX11_even 28 = .ok (.ireturn, 1) := by decide +kernel
theorem dX11_even_29 : decode cX11_even 29 = .ok (.aload_n 0, 1) := by decide +kernel
theorem dX11_even_30 : decode cX11_even 30 = .ok (.aload_n 0, 1) := by decide +kernel
theorem dX11_even_31 : decode cX11_even 31 = .ok (.getfield 12, 3) := by decide +kernel
theorem dX11_even_34 : decode cX11_even 34 = .ok (.invokevirtual 156, 3) := by decide +kernel
theorem dX11_even_37 : decode cX11_even 37 = .ok (.iload_n 1, 1) := by decide +kernel
theorem dX11_even_38 : decode cX11_even 38 = .ok (.invokevirtual 164, 3) := by decide +kernel
theorem dX11_even_41 : decode cX11_even 41 = .ok (.astore_n 2, 1) := by decide +kernel
theorem dX11_even_42 : decode cX11_even 42 = .ok (.aload_n 2, 1) := by decide +kernel
theorem dX11_even_43 : decode cX11_even 43 = .ok (.invokevirtual 171, 3) := by decide +kernel
theorem dX11_even_46 : decode cX11_even 46 = .ok (.aload_n 2, 1) := by decide +kernel
theorem dX11_even_47 : decode cX11_even 47 = .ok (.invokevirtual 231, 3) := by decide +kernel
theorem dX11_even_50 : decode cX11_even 50 = .ok (.isub, 1) := by decide +kernel
theorem dX11_even_51 : decode cX11_even 51 = .ok (.ireturn, 1) := by decide +kernel
theorem dX11_rule_0 : decode cX11_rule 0 = .ok (.iload_n 2, 1) := by decide +kernel
theorem dX11_rule_1 : decode cX11_rule 1 = .ok (.iconst (-1), 1) := by decide +kernel
theorem dX11_rule_2 : decode cX11_rule 2 = .ok (.if_icmp .ne 13, 3) := by decide +kernel
theorem dX11_rule_5 : decode cX11_rule 5 = .ok (.aload_n 0, 1) := by decide +kernel
theorem dX11_rule_6 : decode cX11_rule 6 = .ok (.getfield 12, 3) := by decide +kernel
theorem dX11_rule_9 : decode cX11_rule 9 = .ok (.iconst 0, 1) := by decide +kernel
theorem dX11_rule_10 : decode cX11_rule 10 = .ok (.putfield 234, 3) := by decide +kernel
theorem dX11_rule_13 : decode cX11_rule 13 = .ok (.iconst 0, 1) := by decide +kernel
theorem dX11_rule_14 : decode cX11_rule 14 = .ok (.ireturn, 1) := by decide +kernel
theorem dX11_rule_15 : decode cX11_rule 15 = .ok (.iload_n 1, 1) := by decide +kernel
theorem dX11_rule_16 : decode cX11_rule 16 = .ok (.iconst (-1), 1) := by decide +kernel
theorem dX11_rule_17 : decode cX11_rule 17 = .ok (.if_icmp .eq 16, 3) := by decide +kernel
theorem dX11_rule_20 : decode cX11_rule 20 = .ok (.aload_n 0, 1) := by decide +kernel
theorem dX11_rule_21 : decode cX11_rule 21 = .ok (.getfield 12, 3) := by decide +kernel
theorem dX11_rule_24 : decode cX11_rule 24 = .ok (.iload_n 1, 1) := by decide +kernel
theorem dX11_rule_25 : decode cX11_rule 25 = .ok (.invokevirtual 81, 3) := by decide +kernel
theorem dX11_rule_28 : decode cX11_rule 28 = .ok (.ifnonnull 5, 3) := by decide +kernel
theorem dX11_rule_31 : decode cX11_rule 31 = .ok (.iconst (-1), 1) := by decide +kernel
theorem dX11_rule_32 : decode cX11_rule 32 = .ok (.ireturn, 1) := by decide +kernel
theorem dX11_rule_33 : decode cX11_rule 33 = .ok (.iload_n 2, 1) := by decide +kernel
theorem dX11_rule_34 : decode cX11_rule 34 = .ok (.iconst 1, 1) := by decide +kernel
theorem dX11_rule_35 : decode cX11_rule 35 = .ok (.bipush 20, 2) := by decide +kernel
theorem dX11_rule_37 : decode cX11_rule 37 = .ok (.invokestatic 152, 3) := by decide +kernel
theorem dX11_rule_40 : decode cX11_rule 40 = .ok (.ifCond .ne 6, 3) := by decide +kernel
theorem dX11_rule_43 : decode cX11_rule 43 = .ok (.bipush (-2), 2) := by decide +kernel
theorem dX11_rule_45 : decode cX11_rule 45 = .ok (.ireturn, 1) := by decide +kernel
theorem dX11_rule_46 : decode cX11_rule 46 = .ok (.aload_n 0, 1) := by decide +kernel
theorem dX11_rule_47 : decode cX11_rule 47 = .ok (.getfield 12, 3) := by decide +kernel
theorem dX11_rule_50 : decode cX11_rule 50 = .ok (.getfield 234, 3) := by decide +kernel
theorem dX11_rule_53 : decode cX11_rule 53 = .ok (.iconst 4, 1) := by decide +kernel
theorem dX11_rule_54 : decode cX11_rule 54 = .ok (.if_icmp .lt 6, 3) := by decide +kernel
theorem dX11_rule_57 : decode cX11_rule 57 = .ok (.bipush (-4), 2) := by decide +kernel
theorem dX11_rule_59 : decode cX11_rule 59 = .ok (.ireturn, 1) := by decide +kernel
theorem dX11_rule_60 : decode cX11_rule 60 = .ok (.aload_n 0, 1) := by decide +kernel
theorem dX11_rule_61 : decode cX11_rule 61 = .ok (.getfield 12, 3) := by decide +kernel
theorem dX11_rule_64 : decode cX11_rule 64 = .ok (.getfield 237, 3) := by decide +kernel
theorem dX11_rule_67 : decode cX11_rule 67 = .ok (.aload_n 0, 1) := by decide +kernel
theorem dX11_rule_68 : decode cX11_rule 68 = .ok (.getfield 12, 3) := by decide +kernel
theorem dX11_rule_71 : decode cX11_rule 71 = .ok (.getfield 234, 3) := by decide +kernel
theorem dX11_rule_74 : decode cX11_rule 74 = .ok (.iload_n 1, 1) := by decide +kernel
theorem dX11_rule_75 : decode cX11_rule 75 = .ok (.iload_n 2, 1) := by decide +kernel
theorem dX11_rule_76 : decode cX11_rule 76 = .ok (.iconst 0, 1) := by decide +kernel
theorem dX11_rule_77 : decode cX11_rule 77 = .ok (.invokestatic 218, 3) := by decide +kernel
theorem dX11_rule_80 : decode cX11_rule 80 = .ok (.aload_n 0, 1) := by decide +kernel
theorem dX11_rule_81 : decode cX11_rule 81 = .ok (.getfield 12, 3) := by decide +kernel
theorem dX11_rule_84 : decode cX11_rule 84 = .ok (.dup, 1) := by decide +kernel
theorem dX11_rule_85 : decode cX11_rule 85 = .ok (.getfield 234, 3) := by decide +kernel
theorem dX11_rule_88 : decode cX11_rule 88 = .ok (.iconst 1, 1) := by decide +kernel
theorem dX11_rule_89 : decode cX11_rule 89 = .ok (.iadd, 1) := by decide +kernel
theorem dX11_rule_90 : decode cX11_rule 90 = .ok (.putfield 234, 3) := by decide +kernel
theorem dX11_rule_93 : decode cX11_rule 93 = .ok (.aload_n 0, 1) := by decide +kernel
theorem dX11_rule_94 : decode cX11_rule 94 = .ok (.getfield 12, 3) := by decide +kernel
theorem dX11_rule_97 : decode cX11_rule 97 = .ok (.getfield 234, 3) := by decide +kernel
theorem dX11_rule_100 : decode cX11_rule 100 = .ok (.ireturn, 1) := by decide +kernel
theorem dX11_ruled_0 : decode cX11_ruled 0 = .ok (.iload_n 2, 1) := by decide +kernel
theorem dX11_ruled_1 : decode cX11_ruled 1 = .ok (.invokestatic 181, 3) := by decide +kernel
theorem dX11_ruled_4 : decode cX11_ruled 4 = .ok (.ifCond .ne 5, 3) := by decide +kernel
theorem dX11_ruled_7 : decode cX11_ruled 7 = .ok (.iconst (-1), 1) := by decide +kernel
theorem dX11_ruled_8 : decode cX11_ruled 8 = .ok (.ireturn, 1) := by decide +kernel
theorem dX11_ruled_9 : decode cX11_ruled 9 = .ok (.iload_n 1, 1) := by decide +kernel
theorem dX11_ruled_10 : decode cX11_ruled 10 = .ok (.iconst 1, 1) := by decide +kernel
theorem dX11_ruled_11 : decode cX11_ruled 11 = .ok (.bipush 60, 2) := by decide +kernel
theorem dX11_ruled_13 : decode cX11_ruled 13 = .ok (.invokestatic 152, 3) := by decide +kernel
theorem dX11_ruled_16 : decode cX11_ruled 16 = .ok (.ifCond .ne 6, 3) := by decide +kernel
theorem dX11_ruled_19 : decode cX11_ruled 19 = .ok (.bipush (-2), 2) := by decide +kernel
theorem dX11_ruled_21 : decode cX11_ruled 21 = .ok (.ireturn, 1) := by decide +kernel
theorem dX11_ruled_22 : decode cX11_ruled 22 = .ok (.aload_n 0, 1) := by decide +kernel
theorem dX11_ruled_23 : decode cX11_ruled 23 = .ok (.getfield 12, 3) := by decide +kernel
theorem dX11_ruled_26 : decode cX11_ruled 26 = .ok (.getfield 234, 3) := by decide +kernel
theorem dX11_ruled_29 : decode cX11_ruled 29 = .ok (.ifCond .eq 16, 3) := by decide +kernel
theorem dX11_ruled_32 : decode cX11_ruled 32 = .ok (.aload_n 0, 1) := by decide +kernel
theorem dX11_ruled_33 : decode cX11_ruled 33 = .ok (.getfield 12, 3) := by decide +kernel
theorem dX11_ruled_36 : decode cX11_ruled 36 = .ok (.getfield 108, 3) := by decide +kernel
theorem dX11_ruled_39 : decode cX11_ruled 39 = .ok (.getfield 127, 3) := by decide +kernel
theorem dX11_ruled_42 : decode cX11_ruled 42 = .ok (.ifCond .ne 6, 3) := by decide +kernel
theorem dX11_ruled_45 : decode cX11_ruled 45 = .ok (.bipush (-5), 2) := by decide +kernel
theorem dX11_ruled_47 : decode cX11_ruled 47 = .ok (.ireturn, 1) := by decide +kernel
theorem dX11_ruled_48 : decode cX11_ruled 48 = .ok (.aload_n 0, 1) := by decide +kernel
theorem dX11_ruled_49 : decode cX11_ruled 49 = .ok (.getfield 28, 3) := by decide +kernel
theorem dX11_ruled_52 : decode cX11_ruled 52 = .ok (.aload_n 0, 1) := by decide +kernel
theorem dX11_ruled_53 : decode cX11_ruled 53 = .ok (.getfield 12, 3) := by decide +kernel
theorem dX11_ruled_56 : decode cX11_ruled 56 = .ok (.getfield 108, 3) := by decide +kernel
theorem dX11_ruled_59 : decode cX11_ruled 59 = .ok (.invokevirtual 177, 3) := by decide +kernel
theorem dX11_ruled_62 : decode cX11_ruled 62 = .ok (.iconst 0, 1) := by decide +kernel
theorem dX11_ruled_63 : decode cX11_ruled 63 = .ok (.istore_n 3, 1) := by decide +kernel
theorem dX11_ruled_64 : decode cX11_ruled 64 = .ok (.iconst 0, 1) := by decide +kernel
theorem dX11_ruled_65 : decode cX11_ruled 65 = .ok (.istore 4, 2) := by decide +kernel
theorem dX11_ruled_67 : decode cX11_ruled 67 = .ok (.iload 4, 2) := by decide +kernel
theorem dX11_ruled_69 : decode cX11_ruled 69 = .ok (.iload_n 1, 1) := by decide +kernel
theorem dX11_ruled_70 : decode cX11_ruled 70 = .ok (.if_icmp .ge 79, 3) := by decide +kernel
theorem dX11_ruled_73 : decode cX11_ruled 73 = .ok (.aload_n 0, 1) := by decide +kernel
theorem dX11_ruled_74 : decode cX11_ruled 74 = .ok (.getfield 12, 3) := by decide +kernel
theorem dX11_ruled_77 : decode cX11_ruled 77 = .ok (.iload 4, 2) := by decide +kernel
theorem dX11_ruled_79 : decode cX11_ruled 79 = .ok (.invokevirtual 240, 3) := by decide +kernel
theorem dX11_ruled_82 : decode cX11_ruled 82 = .ok (.istore 5, 2) := by decide +kernel
theorem dX11_ruled_84 : decode cX11_ruled 84 = .ok (.iload 4, 2) := by decide +kernel
theorem dX11_ruled_86 : decode cX11_ruled 86 = .ok (.ifCond .le 22, 3) := by decide +kernel
theorem dX11_ruled_89 : decode cX11_ruled 89 = .ok (.iload 5, 2) := by decide +kernel
theorem dX11_ruled_91 : decode cX11_ruled 91 = .ok (.aload_n 0, 1) := by decide +kernel
theorem dX11_ruled_92 : decode cX11_ruled 92 = .ok (.getfield 12, 3) := by decide +kernel
theorem dX11_ruled_95 : decode cX11_ruled 95 = .ok (.iload 4, 2) := by decide +kernel
theorem dX11_ruled_97 : decode cX11_ruled 97 = .ok (.iconst 1, 1) := by decide +kernel
theorem dX11_ruled_98 : decode cX11_ruled 98 = .ok (.isub, 1) := by decide +kernel
theorem dX11_ruled_99 : decode cX11_ruled 99 = .ok (.invokevirtual 240, 3) := by decide +kernel
theorem dX11_ruled_102 : decode cX11_ruled 102 = .ok (.if_icmp .eq 6, 3) := by decide +kernel
theorem dX11_ruled_105 : decode cX11_ruled 105 = .ok (.iinc 3 1, 3) := by decide +kernel
theorem dX11_ruled_108 : decode cX11_ruled 108 = .ok (.aload_n 0, 1) := by decide +kernel
theorem dX11_ruled_109 : decode cX11_ruled 109 = .ok (.getfield 12, 3) := by decide +kernel
theorem dX11_ruled_112 : decode cX11_ruled 112 = .ok (.aload_n 0, 1) := by decide +kernel
theorem dX11_ruled_113 : decode cX11_ruled 113 = .ok (.getfield 28, 3) := by decide +kernel
theorem dX11_ruled_116 : decode cX11_ruled 116 = .ok (.iload 5, 2) := by decide +kernel
theorem dX11_ruled_118 : decode cX11_ruled 118 = .ok (.ifCond .ge 7, 3) := by decide +kernel
theorem dX11_ruled_121 : decode cX11_ruled 121 = .ok (.iconst 0, 1) := by decide +kernel
theorem dX11_ruled_122 : decode cX11_ruled 122 = .ok (.goto 7, 3) := by decide +kernel
theorem dX11_ruled_125 : decode cX11_ruled 125 = .ok (.iconst 1, 1) := by decide +kernel
theorem dX11_ruled_126 : decode cX11_ruled 126 = .ok (.iload 5, 2) := by decide +kernel
theorem dX11_ruled_128 : decode cX11_ruled 128 = .ok (.ishl, 1) := by decide +kernel
theorem dX11_ruled_129 : decode cX11_ruled 129 = .ok (.aload_n 0, 1) := by decide +kernel
theorem dX11_ruled_130 : decode cX11_ruled 130 = .ok (.getfield 12, 3) := by decide +kernel
theorem dX11_ruled_133 : decode cX11_ruled 133 = .ok (.getfield 105, 3) := by decide +kernel
theorem dX11_ruled_136 : decode cX11_ruled 136 = .ok (.iload 4, 2) := by decide +kernel
theorem dX11_ruled_138 : decode cX11_ruled 138 = .ok (.iadd, 1) := by decide +kernel
theorem dX11_ruled_139 : decode cX11_ruled 139 = .ok (.iconst 1, 1) := by decide +kernel
theorem dX11_ruled_140 : decode cX11_ruled 140 = .ok (.invokevirtual 160, 3) := by decide +kernel
theorem dX11_ruled_143 : decode cX11_ruled 143 = .ok (.iinc 4 1, 3) := by decide +kernel
theorem dX11_ruled_146 : decode cX11_ruled 146 = .ok (.goto (-79), 3) := by decide +kernel
theorem dX11_ruled_149 : decode cX11_ruled 149 = .ok (.iload_n 2, 1) := by decide +kernel
theorem dX11_ruled_150 : decode cX11_ruled 150 = .ok (.ifCond .ne 13, 3) := by decide +kernel
theorem dX11_ruled_153 : decode cX11_ruled 153 = .ok (.aload_n 0, 1) := by decide +kernel
theorem dX11_ruled_154 : decode cX11_ruled 154 = .ok (.getfield 28, 3) := by decide +kernel
theorem dX11_ruled_157 : decode cX11_ruled 157 = .ok (.invokevirtual 171, 3) := by decide +kernel
theorem dX11_ruled_160 : decode cX11_ruled 160 = .ok (.goto 4, 3) := by decide +kernel
theorem dX11_ruled_163 : decode cX11_ruled 163 = .ok (.iload_n 3, 1) := by decide +kernel
theorem dX11_ruled_164 : decode cX11_ruled 164 = .ok (.ireturn, 1) := by decide +kernel
theorem dX11_book_0 : decode cX11_book 0 = .ok (.iload_n 1, 1) := by decide +kernel
theorem dX11_book_1 : decode cX11_book 1 = .ok (.iconst (-1), 1) := by decide +kernel
theorem dX11_book_2 : decode cX11_book 2 = .ok (.if_icmp .ne 13, 3) := by decide +kernel
theorem dX11_book_5 : decode cX11_book 5 = .ok (.aload_n 0, 1) := by decide +kernel
theorem dX11_book_6 : decode cX11_book 6 = .ok (.getfield 12, 3) := by decide +kernel
theorem dX11_book_9 : decode cX11_book 9 = .ok (.iconst 0, 1) := by decide +kernel
theorem dX11_book_10 : decode cX11_book 10 = .ok (.putfield 244, 3) := by decide +kernel
theorem dX11_book_13 : decode cX11_book 13 = .ok (.iconst 0, 1) := by decide +kernel
theorem dX11_book_14 : decode cX11_book 14 = .ok (.ireturn, 1) := by decide +kernel
theorem dX11_book_15 : decode cX11_book 15 = .ok (.aload_n 0, 1) := by decide +kernel
theorem dX11_book_16 : decode cX11_book 16 = .ok (.getfield 12, 3) := by decide +kernel
theorem dX11_book_19 : decode cX11_book 19 = .ok (.iload_n 1, 1) := by decide +kernel
theorem dX11_book_20 : decode cX11_book 20 = .ok (.invokevirtual 81, 3) := by decide +kernel
theorem dX11_book_23 : decode cX11_book 23 = .ok (.ifnull 10, 3) := by decide +kernel
theorem dX11_book_26 : decode cX11_book 26 = .ok (.iload_n 3, 1) := by decide +kernel
theorem dX11_book_27 : decode cX11_book 27 = .ok (.invokestatic 115, 3) := by decide +kernel
theorem dX11_book_30 : decode cX11_book 30 = .ok (.ifCond .ne 5, 3) := by decide +kernel
theorem dX11_book_33 : decode cX11_book 33 = .ok (.iconst (-1), 1) := by decide +kernel
theorem dX11_book_34 : decode cX11_book 34 = .ok (.ireturn, 1) := by decide +kernel
theorem dX11_book_35 : decode cX11_book 35 = .ok (.iload_n 2, 1) := by decide +kernel
theorem dX11_book_36 : decode cX11_book 36 = .ok (.iconst 0, 1) := by decide +kernel
theorem dX11_book_37 : decode cX11_book 37 = .ok (.sipush 999, 3) := by decide +kernel
theorem dX11_book_40 : decode cX11_book 40 = .ok (.invokestatic 152, 3) := by decide +kernel
theorem dX11_book_43 : decode cX11_book 43 = .ok (.ifCond .ne 6, 3) := by decide +kernel
theorem dX11_book_46 : decode cX11_book 46 = .ok (.bipush (-2), 2) := by decide +kernel
theorem dX11_book_48 : decode cX11_book 48 = .ok (.ireturn, 1) := by decide +kernel
theorem dX11_book_49 : decode cX11_book 49 = .ok (.aload_n 0, 1) := by decide +kernel
theorem dX11_book_50 : decode cX11_book 50 = .ok (.getfield 12, 3) := by decide +kernel
theorem dX11_book_53 : decode cX11_book 53 = .ok (.getfield 244, 3) := by decide +kernel
theorem dX11_book_56 : decode cX11_book 56 = .ok (.bipush 8, 2) := by decide +kernel
theorem dX11_book_58 : decode cX11_book 58 = .ok (.if_icmp .lt 6, 3) := by decide +kernel
theorem dX11_book_61 : decode cX11_book 61 = .ok (.bipush (-4), 2) := by decide +kernel
theorem dX11_book_63 : decode cX11_book 63 = .ok (.ireturn, 1) := by decide +kernel
theorem dX11_book_64 : decode cX11_book 64 = .ok (.aload_n 0, 1) := by decide +kernel
theorem dX11_book_65 : decode cX11_book 65 = .ok (.getfield 12, 3) := by decide +kernel
theorem dX11_book_68 : decode cX11_book 68 = .ok (.getfield 247, 3) := by decide +kernel
theorem dX11_book_71 : decode cX11_book 71 = .ok (.aload_n 0, 1) := by decide +kernel
theorem dX11_book_72 : decode cX11_book 72 = .ok (.getfield 12, 3) := by decide +kernel
theorem dX11_book_75 : decode cX11_book 75 = .ok (.getfield 244, 3) := by decide +kernel
theorem dX11_book_78 : decode cX11_book 78 = .ok (.iload_n 1, 1) := by decide +kernel
theorem dX11_book_79 : decode cX11_book 79 = .ok (.iload_n 2, 1) := by decide +kernel
theorem dX11_book_80 : decode cX11_book 80 = .ok (.iload_n 3, 1) := by decide +kernel
theorem dX11_book_81 : decode cX11_book 81 = .ok (.invokestatic 218, 3) := by decide +kernel
theorem dX11_book_84 : decode cX11_book 84 = .ok (.aload_n 0, 1) := by decide +kernel
theorem dX11_book_85 : decode cX11_book 85 = .ok (.getfield 12, 3) := by decide +kernel
theorem dX11_book_88 : decode cX11_book 88 = .ok (.dup, 1) := by decide +kernel
theorem dX11_book_89 : decode cX11_book 89 = .ok (.getfield 244, 3) := by decide +kernel
theorem dX11_book_92 : decode cX11_book 92 = .ok (.iconst 1, 1) := by decide +kernel
theorem dX11_book_93 : decode cX11_book 93 = .ok (.iadd, 1) := by decide +kernel
theorem dX11_book_94 : decode cX11_book 94 = .ok (.putfield 244, 3) := by decide +kernel
theorem dX11_book_97 : decode cX11_book 97 = .ok (.aload_n 0, 1) := by decide +kernel
theorem dX11_book_98 : decode cX11_book 98 = .ok (.getfield 12, 3) := by decide +kernel
theorem dX11_book_101 : decode cX11_book 101 = .ok (.getfield 244, 3) := by decide +kernel
theorem dX11_book_104 : decode cX11_book 104 = .ok (.ireturn, 1) := by decide +kernel
theorem dX11_looked_0 : decode cX11_looked 0 = .ok (.iconst 0, 1) := by decide +kernel
theorem dX11_looked_1 : decode cX11_looked 1 = .ok (.istore_n 1, 1) := by decide +kernel
theorem dX11_looked_2 : decode cX11_looked 2 = .ok (.iload_n 1, 1) := by decide +kernel
theorem dX11_looked_3 : decode cX11_looked 3 = .ok (.aload_n 0, 1) := by decide +kernel
theorem dX11_looked_4 : decode cX11_looked 4 = .ok (.getfield 12, 3) := by decide +kernel
theorem dX11_looked_7 : decode cX11_looked 7 = .ok (.getfield 244, 3) := by decide +kernel
theorem dX11_looked_10 : decode cX11_looked 10 = .ok (.if_icmp .ge 74, 3) := by decide +kernel
theorem dX11_looked_13 : decode cX11_looked 13 = .ok (.aload_n 0, 1) := by decide +kernel
theorem dX11_looked_14 : decode cX11_looked 14 = .ok (.getfield 12, 3) := by decide +kernel
theorem dX11_looked_17 : decode cX11_looked 17 = .ok (.aload_n 0, 1) := by decide +kernel
theorem dX11_looked_18 : decode cX11_looked 18 = .ok (.getfield 12, 3) := by decide +kernel
theorem dX11_looked_21 : decode cX11_looked 21 = .ok (.getfield 247, 3) := by decide +kernel
theorem dX11_looked_24 : decode cX11_looked 24 = .ok (.iload_n 1, 1) := by decide +kernel
theorem dX11_looked_25 : decode cX11_looked 25 = .ok (.iconst 3, 1) := by decide +kernel
theorem dX11_looked_26 : decode cX11_looked 26 = .ok (.imul, 1) := by decide +kernel
theorem dX11_looked_27 : decode cX11_looked 27 = .ok (.iaload, 1) := by decide +kernel
theorem dX11_looked_28 : decode cX11_looked 28 = .ok (.invokevirtual 81, 3) := by decide +kernel
theorem dX11_looked_31 : decode cX11_looked 31 = .ok (.astore_n 2, 1) := by decide +kernel
theorem dX11_looked_32 : decode cX11_looked 32 = .ok (.aload_n 2, 1) := by decide +kernel
theorem dX11_looked_33 : decode cX11_looked 33 = .ok (.ifnull 45, 3) := by decide +kernel
theorem dX11_looked_36 : decode cX11_looked 36 = .ok (.aload_n 2, 1) := by decide +kernel
theorem dX11_looked_37 : decode cX11_looked 37 = .ok (.aload_n 0, 1) := by decide +kernel
theorem dX11_looked_38 : decode cX11_looked 38 = .ok (.getfield 12, 3) := by decide +kernel
theorem dX11_looked_41 : decode cX11_looked 41 = .ok (.getfield 247, 3) := by decide +kernel
theorem dX11_looked_44 : decode cX11_looked 44 = .ok (.iload_n 1, 1) := by decide +kernel
theorem dX11_looked_45 : decode cX11_looked 45 = .ok (.iconst 3, 1) := by decide +kernel
theorem dX11_looked_46 : decode cX11_looked 46 = .ok (.imul, 1) := by decide +kernel
theorem dX11_looked_47 : decode cX11_looked 47 = .ok (.iconst 1, 1) := by decide +kernel
theorem dX11_looked_48 : decode cX11_looked 48 = .ok (.iadd, 1) := by decide +kernel
theorem dX11_looked_49 : decode cX11_looked 49 = .ok (.iaload, 1) := by decide +kernel
theorem dX11_looked_50 : decode cX11_looked 50 = .ok (.aload_n 0, 1) := by decide +kernel
theorem dX11_looked_51 : decode cX11_looked 51 = .ok (.getfield 12, 3) := by decide +kernel
theorem dX11_looked_54 : decode cX11_looked 54 = .ok (.getfield 108, 3) := by decide +kernel
theorem dX11_looked_57 : decode cX11_looked 57 = .ok (.invokevirtual 111, 3) := by decide +kernel
theorem dX11_looked_60 : decode cX11_looked 60 = .ok (.aload_n 0, 1) := by decide +kernel
theorem dX11_looked_61 : decode cX11_looked 61 = .ok (.getfield 12, 3) := by decide +kernel
theorem dX11_looked_64 : decode cX11_looked 64 = .ok (.getfield 247, 3) := by decide +kernel
theorem dX11_looked_67 : decode cX11_looked 67 = .ok (.iload_n 1, 1) := by decide +kernel
theorem dX11_looked_68 : decode cX11_looked 68 = .ok (.iconst 3, 1) := by decide +kernel
theorem dX11_looked_69 : decode cX11_looked 69 = .ok (.imul, 1) := by decide +kernel
theorem dX11_looked_70 : decode cX11_looked 70 = .ok (.iconst 2, 1) := by decide +kernel
theorem dX11_looked_71 : decode cX11_looked 71 = .ok (.iadd, 1) := by decide +kernel
theorem dX11_looked_72 : decode cX11_looked 72 = .ok (.iaload, 1) := by decide +kernel
theorem dX11_looked_73 : decode cX11_looked 73 = .ok (.if_icmp .eq 5, 3) := by decide +kernel
theorem dX11_looked_76 : decode cX11_looked 76 = .ok (.iload_n 1, 1) := by decide +kernel
theorem dX11_looked_77 : decode cX11_looked 77 = .ok (.ireturn, 1) := by decide +kernel
theorem dX11_looked_78 : decode cX11_looked 78 = .ok (.iinc 1 1, 3) := by decide +kernel
theorem dX11_looked_81 : decode cX11_looked 81 = .ok (.goto (-79), 3) := by decide +kernel
theorem dX11_looked_84 : decode cX11_looked 84 = .ok (.bipush (-5), 2) := by decide +kernel
theorem dX11_looked_86 : decode cX11_looked 86 = .ok (.ireturn, 1) := by decide +kernel
theorem dX11_act_0 : decode cX11_act 0 = .ok (.aload_n 0, 1) := by decide +kernel
theorem dX11_act_1 : decode cX11_act 1 = .ok (.getfield 39, 3) := by decide +kernel
theorem dX11_act_4 : decode cX11_act 4 = .ok (.invokevirtual 250, 3) := by decide +kernel
theorem dX11_act_7 : decode cX11_act 7 = .ok (.aload_n 0, 1) := by decide +kernel
theorem dX11_act_8 : decode cX11_act 8 = .ok (.getfield 12, 3) := by decide +kernel
theorem dX11_act_11 : decode cX11_act 11 = .ok (.iload_n 1, 1) := by decide +kernel
theorem dX11_act_12 : decode cX11_act 12 = .ok (.invokevirtual 81, 3) := by decide +kernel
theorem dX11_act_15 : decode cX11_act 15 = .ok (.astore 4, 2) := by decide +kernel
theorem dX11_act_17 : decode cX11_act 17 = .ok (.aload 4, 2) := by decide +kernel
theorem dX11_act_19 : decode cX11_act 19 = .ok (.ifnonnull 5, 3) := by decide +kernel
theorem dX11_act_22 : decode cX11_act 22 = .ok (.iconst 0, 1) := by decide +kernel
theorem dX11_act_23 : decode cX11_act 23 = .ok (.ireturn, 1) := by decide +kernel
theorem dX11_act_24 : decode cX11_act 24 = .ok (.iload_n 2, 1) := by decide +kernel
theorem dX11_act_25 : decode cX11_act 25 = .ok (.tableswitch 60 0 2 #[27, 38, 49], 27) := by decide +kernel
theorem dX11_act_52 : decode cX11_act 52 = .ok (.aload 4, 2) := by decide +kernel
theorem dX11_act_54 : decode cX11_act 54 = .ok (.iload_n 3, 1) := by decide +kernel
theorem dX11_act_55 : decode cX11_act 55 = .ok (.aload_n 0, 1) := by decide +kernel
theorem dX11_act_56 : decode cX11_act 56 = .ok (.getfield 39, 3) := by decide +kernel
theorem dX11_act_59 : decode cX11_act 59 = .ok (.invokevirtual 253, 3) := by decide +kernel
theorem dX11_act_62 : decode cX11_act 62 = .ok (.ireturn, 1) := by decide +kernel
theorem dX11_act_63 : decode cX11_act 63 = .ok (.aload 4, 2) := by decide +kernel
theorem dX11_act_65 : decode cX11_act 65 = .ok (.iload_n 3, 1) := by decide +kernel
theorem dX11_act_66 : decode cX11_act 66 = .ok (.aload_n 0, 1) := by decide +kernel
theorem dX11_act_67 : decode cX11_act 67 = .ok (.getfield 39, 3) := by decide +kernel
theorem dX11_act_70 : decode cX11_act 70 = .ok (.invokevirtual 257, 3) := by decide +kernel
theorem dX11_act_73 : decode cX11_act 73 = .ok (.ireturn, 1) := by decide +kernel
theorem dX11_act_74 : decode cX11_act 74 = .ok (.aload 4, 2) := by decide +kernel
theorem dX11_act_76 : decode cX11_act 76 = .ok (.iload_n 3, 1) := by decide +kernel
theorem dX11_act_77 : decode cX11_act 77 = .ok (.aload_n 0, 1) := by decide +kernel
theorem dX11_act_78 : decode cX11_act 78 = .ok (.getfield 39, 3) := by decide +kernel
theorem dX11_act_81 : decode cX11_act 81 = .ok (.invokevirtual 260, 3) := by decide +kernel
theorem dX11_act_84 : decode cX11_act 84 = .ok (.ireturn, 1) := by decide +kernel
theorem dX11_act_85 : decode cX11_act 85 = .ok (.iconst 0, 1) := by decide +kernel
theorem dX11_act_86 : decode cX11_act 86 = .ok (.ireturn, 1) := by decide +kernel
theorem dX11_trace_0 : decode cX11_trace 0 = .ok (.iload_n 1, 1) := by decide +kernel
theorem dX11_trace_1 : decode cX11_trace 1 = .ok (.ifCond .lt 38, 3) := by decide +kernel
theorem dX11_trace_4 : decode cX11_trace 4 = .ok (.iload_n 1, 1) := by decide +kernel
theorem dX11_trace_5 : decode cX11_trace 5 = .ok (.aload_n 0, 1) := by decide +kernel
theorem dX11_trace_6 : decode cX11_trace 6 = .ok (.getfield 39, 3) := by decide +kernel
theorem dX11_trace_9 : decode cX11_trace 9 = .ok (.getfield 263, 3) := by decide +kernel
theorem dX11_trace_12 : decode cX11_trace 12 = .ok (.if_icmp .ge 27, 3) := by decide +kernel
theorem dX11_trace_15 : decode cX11_trace 15 = .ok (.iload_n 1, 1) := by decide +kernel
theorem dX11_trace_16 : decode cX11_trace 16 = .ok (.aload_n 0, 1) := by decide +kernel
theorem dX11_trace_17 : decode cX11_trace 17 = .ok (.getfield 39, 3) := by decide +kernel
theorem dX11_trace_20 : decode cX11_trace 20 = .ok (.getfield 266, 3) := by decide +kernel
theorem dX11_trace_23 : decode cX11_trace 23 = .ok (.arraylength, 1) := by decide +kernel
theorem dX11_trace_24 : decode cX11_trace 24 = .ok (.if_icmp .ge 15, 3) := by decide +kernel
theorem dX11_trace_27 : decode cX11_trace 27 = .ok (.aload_n 0, 1) := by decide +kernel
theorem dX11_trace_28 : decode cX11_trace 28 = .ok (.getfield 39, 3) := by decide +kernel
theorem dX11_trace_31 : decode cX11_trace 31 = .ok (.getfield 266, 3) := by decide +kernel
theorem dX11_trace_34 : decode cX11_trace 34 = .ok (.iload_n 1, 1) := by decide +kernel
theorem dX11_trace_35 : decode cX11_trace 35 = .ok (.iaload, 1) := by decide +kernel
theorem dX11_trace_36 : decode cX11_trace 36 = .ok (.goto 4, 3) := by decide +kernel
theorem dX11_trace_39 : decode cX11_trace 39 = .ok (.iconst (-1), 1) := by decide +kernel
theorem dX11_trace_40 : decode cX11_trace 40 = .ok (.ireturn, 1) := by decide +kernel
theorem dX11_as_0 : decode cX11_as 0 = .ok (.aload_n 0, 1) := by decide +kernel
theorem dX11_as_1 : decode cX11_as 1 = .ok (.getfield 12, 3) := by decide +kernel
theorem dX11_as_4 : decode cX11_as 4 = .ok (.iload_n 1, 1) := by decide +kernel
theorem dX11_as_5 : decode cX11_as 5 = .ok (.invokevirtual 81, 3) := by decide +kernel
theorem dX11_as_8 : decode cX11_as 8 = .ok (.astore_n 3, 1) := by decide +kernel
theorem dX11_as_9 : decode cX11_as 9 = .ok (.aload_n 3, 1) := by decide +kernel
theorem dX11_as_10 : decode cX11_as 10 = .ok (.ifnull 13, 3) := by decide +kernel
theorem dX11_as_13 : decode cX11_as 13 = .ok (.iload_n 2, 1) := by decide +kernel
theorem dX11_as_14 : decode cX11_as 14 = .ok (.ifCond .lt 9, 3) := by decide +kernel
theorem dX11_as_17 : decode cX11_as 17 = .ok (.iload_n 2, 1) := by decide +kernel
theorem dX11_as_18 : decode cX11_as 18 = .ok (.bipush 6, 2) := by decide +kernel
theorem dX11_as_20 : decode cX11_as 20 = .ok (.if_icmp .le 5, 3) := by decide +kernel
theorem dX11_as_23 : decode cX11_as 23 = .ok (.iconst (-1), 1) := by decide +kernel
theorem dX11_as_24 : decode cX11_as 24 = .ok (.ireturn, 1) := by decide +kernel
theorem dX11_as_25 : decode cX11_as 25 = .ok (.aload_n 3, 1) := by decide +kernel
theorem dX11_as_26 : decode cX11_as 26 = .ok (.iload_n 2, 1) := by decide +kernel
theorem dX11_as_27 : decode cX11_as 27 = .ok (.invokevirtual 269, 3) := by decide +kernel
theorem dX11_as_30 : decode cX11_as 30 = .ok (.ifCond .eq 10, 3) := by decide +kernel
theorem dX11_as_33 : decode cX11_as 33 = .ok (.aload_n 3, 1) := by decide +kernel
theorem dX11_as_34 : decode cX11_as 34 = .ok (.getfield 90, 3) := by decide +kernel
theorem dX11_as_37 : decode cX11_as 37 = .ok (.goto 5, 3) := by decide +kernel
theorem dX11_as_40 : decode cX11_as 40 = .ok (.bipush (-6), 2) := by decide +kernel
theorem dX11_as_42 : decode cX11_as 42 = .ok (.ireturn, 1) := by decide +kernel
theorem dX11_image_0 : decode cX11_image 0 = .ok (.aload_n 0, 1) := by decide +kernel
theorem dX11_image_1 : decode cX11_image 1 = .ok (.getfield 18, 3) := by decide +kernel
theorem dX11_image_4 : decode cX11_image 4 = .ok (.aload_n 0, 1) := by decide +kernel
theorem dX11_image_5 : decode cX11_image 5 = .ok (.getfield 12, 3) := by decide +kernel
theorem dX11_image_8 : decode cX11_image 8 = .ok (.invokevirtual 272, 3) := by decide +kernel
theorem dX11_image_11 : decode cX11_image 11 = .ok (.aload_n 0, 1) := by decide +kernel
theorem dX11_image_12 : decode cX11_image 12 = .ok (.iconst 1, 1) := by decide +kernel
theorem dX11_image_13 : decode cX11_image 13 = .ok (.putfield 21, 3) := by decide +kernel
theorem dX11_image_16 : decode cX11_image 16 = .ok (.aload_n 0, 1) := by decide +kernel
theorem dX11_image_17 : decode cX11_image 17 = .ok (.getfield 12, 3) := by decide +kernel
theorem dX11_image_20 : decode cX11_image 20 = .ok (.getfield 70, 3) := by decide +kernel
theorem dX11_image_23 : decode cX11_image 23 = .ok (.ireturn, 1) := by decide +kernel
theorem dX11_undo_0 : decode cX11_undo 0 = .ok (.aload_n 0, 1) := by decide +kernel
theorem dX11_undo_1 : decode cX11_undo 1 = .ok (.getfield 21, 3) := by decide +kernel
theorem dX11_undo_4 : decode cX11_undo 4 = .ok (.ifCond .ne 6, 3) := by decide +kernel
theorem dX11_undo_7 : decode cX11_undo 7 = .ok (.bipush (-3), 2) := by decide +kernel
theorem dX11_undo_9 : decode cX11_undo 9 = .ok (.ireturn, 1) := by decide +kernel
theorem dX11_undo_10 : decode cX11_undo 10 = .ok (.aload_n 0, 1) := by decide +kernel
theorem dX11_undo_11 : decode cX11_undo 11 = .ok (.getfield 12, 3) := by decide +kernel
theorem dX11_undo_14 : decode cX11_undo 14 = .ok (.aload_n 0, 1) := by decide +kernel
theorem dX11_undo_15 : decode cX11_undo 15 = .ok (.getfield 18, 3) := by decide +kernel
theorem dX11_undo_18 : decode cX11_undo 18 = .ok (.invokevirtual 272, 3) := by decide +kernel
theorem dX11_undo_21 : decode cX11_undo 21 = .ok (.aload_n 0, 1) := by decide +kernel
theorem dX11_undo_22 : decode cX11_undo 22 = .ok (.getfield 12, 3) := by decide +kernel
theorem dX11_undo_25 : decode cX11_undo 25 = .ok (.getfield 70, 3) := by decide +kernel
theorem dX11_undo_28 : decode cX11_undo 28 = .ok (.ireturn, 1) := by decide +kernel
theorem dX11_count_0 : decode cX11_count 0 = .ok (.iload_n 1, 1) := by decide +kernel
theorem dX11_count_1 : decode cX11_count 1 = .ok (.tableswitch 114 0 7 #[47, 55, 66, 74, 82, 90, 98, 106], 47) := by decide +kernel
theorem dX11_count_48 : decode cX11_count 48 = .ok (.aload_n 0, 1) := by decide +kernel
theorem dX11_count_49 : decode cX11_count 49 = .ok (.getfield 12, 3) := by decide +kernel
theorem dX11_count_52 : decode cX11_count 52 = .ok (.getfield 70, 3) := by decide +kernel
theorem dX11_count_55 : decode cX11_count 55 = .ok (.ireturn, 1) := by decide +kernel
theorem dX11_count_56 : decode cX11_count 56 = .ok (.aload_n 0, 1) := by decide +kernel
theorem dX11_count_57 : decode cX11_count 57 = .ok (.getfield 12, 3) := by decide +kernel
theorem dX11_count_60 : decode cX11_count 60 = .ok (.getfield 108, 3) := by decide +kernel
theorem dX11_count_63 : decode cX11_count 63 = .ok (.getfield 127, 3) := by decide +kernel
theorem dX11_count_66 : decode cX11_count 66 = .ok (.ireturn, 1) := by decide +kernel
theorem dX11_count_67 : decode cX11_count 67 = .ok (.aload_n 0, 1) := by decide +kernel
theorem dX11_count_68 : decode cX11_count 68 = .ok (.getfield 12, 3) := by decide +kernel
theorem dX11_count_71 : decode cX11_count 71 = .ok (.getfield 50, 3) := by decide +kernel
theorem dX11_count_74 : decode cX11_count 74 = .ok (.ireturn, 1) := by decide +kernel
theorem dX11_count_75 : decode cX11_count 75 = .ok (.aload_n 0, 1) := by decide +kernel
theorem dX11_count_76 : decode cX11_count 76 = .ok (.getfield 12, 3) := by decide +kernel
theorem dX11_count_79 : decode cX11_count 79 = .ok (.getfield 212, 3) := by decide +kernel
theorem dX11_count_82 : decode cX11_count 82 = .ok (.ireturn, 1) := by decide +kernel
theorem dX11_count_83 : decode cX11_count 83 = .ok (.aload_n 0, 1) := by decide +kernel
theorem dX11_count_84 : decode cX11_count 84 = .ok (.getfield 12, 3) := by decide +kernel
theorem dX11_count_87 : decode cX11_count 87 = .ok (.getfield 234, 3) := by decide +kernel
theorem dX11_count_90 : decode cX11_count 90 = .ok (.ireturn, 1) := by decide +kernel
theorem dX11_count_91 : decode cX11_count 91 = .ok (.aload_n 0, 1) := by decide +kernel
theorem dX11_count_92 : decode cX11_count 92 = .ok (.getfield 12, 3) := by decide +kernel
theorem dX11_count_95 : decode cX11_count 95 = .ok (.getfield 244, 3) := by decide +kernel
theorem dX11_count_98 : decode cX11_count 98 = .ok (.ireturn, 1) := by decide +kernel
theorem dX11_count_99 : decode cX11_count 99 = .ok (.aload_n 0, 1) := by decide +kernel
theorem dX11_count_100 : decode cX11_count 100 = .ok (.getfield 12, 3) := by decide +kernel
theorem dX11_count_103 : decode cX11_count 103 = .ok (.getfield 43, 3) := by decide +kernel
theorem dX11_count_106 : decode cX11_count 106 = .ok (.ireturn, 1) := by decide +kernel
theorem dX11_count_107 : decode cX11_count 107 = .ok (.aload_n 0, 1) := by decide +kernel
theorem dX11_count_108 : decode cX11_count 108 = .ok (.getfield 39, 3) := by decide +kernel
theorem dX11_count_111 : decode cX11_count 111 = .ok (.getfield 263, 3) := by decide +kernel
theorem dX11_count_114 : decode cX11_count 114 = .ok (.ireturn, 1) := by decide +kernel
theorem dX11_count_115 : decode cX11_count 115 = .ok (.iconst (-1), 1) := by decide +kernel
theorem dX11_count_116 : decode cX11_count 116 = .ok (.ireturn, 1) := by decide +kernel
theorem dX11_isIn_0 : decode cX11_isIn 0 = .ok (.iload_n 0, 1) := by decide +kernel
theorem dX11_isIn_1 : decode cX11_isIn 1 = .ok (.iload_n 1, 1) := by decide +kernel
theorem dX11_isIn_2 : decode cX11_isIn 2 = .ok (.if_icmp .lt 12, 3) := by decide +kernel
theorem dX11_isIn_5 : decode cX11_isIn 5 = .ok (.iload_n 0, 1) := by decide +kernel
theorem dX11_isIn_6 : decode cX11_isIn 6 = .ok (.iload_n 2, 1) := by decide +kernel
theorem dX11_isIn_7 : decode cX11_isIn 7 = .ok (.if_icmp .gt 7, 3) := by decide +kernel
theorem dX11_isIn_10 : decode cX11_isIn 10 = .ok (.iconst 1, 1) := by decide +kernel
theorem dX11_isIn_11 : decode cX11_isIn 11 = .ok (.goto 4, 3) := by decide +kernel
theorem dX11_isIn_14 : decode cX11_isIn 14 = .ok (.iconst 0, 1) := by decide +kernel
theorem dX11_isIn_15 : decode cX11_isIn 15 = .ok (.ireturn, 1) := by decide +kernel
theorem dX11_isEither_0 : decode cX11_isEither 0 = .ok (.iload_n 0, 1) := by decide +kernel
theorem dX11_isEither_1 : decode cX11_isEither 1 = .ok (.ifCond .eq 8, 3) := by decide +kernel
theorem dX11_isEither_4 : decode cX11_isEither 4 = .ok (.iload_n 0, 1) := by decide +kernel
theorem dX11_isEither_5 : decode cX11_isEither 5 = .ok (.iconst 1, 1) := by decide +kernel
theorem dX11_isEither_6 : decode cX11_isEither 6 = .ok (.if_icmp .ne 7, 3) := by decide +kernel
theorem dX11_isEither_9 : decode cX11_isEither 9 = .ok (.iconst 1, 1) := by decide +kernel
theorem dX11_isEither_10 : decode cX11_isEither 10 = .ok (.goto 4, 3) := by decide +kernel
theorem dX11_isEither_13 : decode cX11_isEither 13 = .ok (.iconst 0, 1) := by decide +kernel
theorem dX11_isEither_14 : decode cX11_isEither 14 = .ok (.ireturn, 1) := by decide +kernel
theorem dX11_isPlace_0 : decode cX11_isPlace 0 = .ok (.iload_n 0, 1) := by decide +kernel
theorem dX11_isPlace_1 : decode cX11_isPlace 1 = .ok (.ifCond .lt 13, 3) := by decide +kernel
theorem dX11_isPlace_4 : decode cX11_isPlace 4 = .ok (.iload_n 0, 1) := by decide +kernel
theorem dX11_isPlace_5 : decode cX11_isPlace 5 = .ok (.bipush 10, 2) := by decide +kernel
theorem dX11_isPlace_7 : decode cX11_isPlace 7 = .ok (.if_icmp .ge 7, 3) := by decide +kernel
theorem dX11_isPlace_10 : decode cX11_isPlace 10 = .ok (.iconst 1, 1) := by decide +kernel
theorem dX11_isPlace_11 : decode cX11_isPlace 11 = .ok (.goto 4, 3) := by decide +kernel
theorem dX11_isPlace_14 : decode cX11_isPlace 14 = .ok (.iconst 0, 1) := by decide +kernel
theorem dX11_isPlace_15 : decode cX11_isPlace 15 = .ok (.ireturn, 1) := by decide +kernel
theorem dX11_isHeat_0 : decode cX11_isHeat 0 = .ok (.iload_n 0, 1) := by decide +kernel
theorem dX11_isHeat_1 : decode cX11_isHeat 1 = .ok (.ifCond .lt 13, 3) := by decide +kernel
theorem dX11_isHeat_4 : decode cX11_isHeat 4 = .ok (.iload_n 0, 1) := by decide +kernel
theorem dX11_isHeat_5 : decode cX11_isHeat 5 = .ok (.bipush 99, 2) := by decide +kernel
theorem dX11_isHeat_7 : decode cX11_isHeat 7 = .ok (.if_icmp .gt 7, 3) := by decide +kernel
theorem dX11_isHeat_10 : decode cX11_isHeat 10 = .ok (.iconst 1, 1) := by decide +kernel
theorem dX11_isHeat_11 : decode cX11_isHeat 11 = .ok (.goto 4, 3) := by decide +kernel
theorem dX11_isHeat_14 : decode cX11_isHeat 14 = .ok (.iconst 0, 1) := by decide +kernel
theorem dX11_isHeat_15 : decode cX11_isHeat 15 = .ok (.ireturn, 1) := by decide +kernel
theorem dX11_isSetting_0 : decode cX11_isSetting 0 = .ok (.iload_n 0, 1) := by decide +kernel
theorem dX11_isSetting_1 : decode cX11_isSetting 1 = .ok (.invokestatic 115, 3) := by decide +kernel
theorem dX11_isSetting_4 : decode cX11_isSetting 4 = .ok (.ifCond .eq 29, 3) := by decide +kernel
theorem dX11_isSetting_7 : decode cX11_isSetting 7 = .ok (.iload_n 1, 1) := by decide +kernel
theorem dX11_isSetting_8 : decode cX11_isSetting 8 = .ok (.invokestatic 115, 3) := by decide +kernel
theorem dX11_isSetting_11 : decode cX11_isSetting 11 = .ok (.ifCond .eq 22, 3) := by decide +kernel
theorem dX11_isSetting_14 : decode cX11_isSetting 14 = .ok (.iload_n 0, 1) := by decide +kernel
theorem dX11_isSetting_15 : decode cX11_isSetting 15 = .ok (.iload_n 1, 1) := by decide +kernel
theorem dX11_isSetting_16 : decode cX11_isSetting 16 = .ok (.if_icmp .gt 17, 3) := by decide +kernel
theorem dX11_isSetting_19 : decode cX11_isSetting 19 = .ok (.iload_n 2, 1) := by decide +kernel
theorem dX11_isSetting_20 : decode cX11_isSetting 20 = .ok (.iconst 1, 1) := by decide +kernel
theorem dX11_isSetting_21 : decode cX11_isSetting 21 = .ok (.if_icmp .lt 12, 3) := by decide +kernel
theorem dX11_isSetting_24 : decode cX11_isSetting 24 = .ok (.iload_n 2, 1) := by decide +kernel
theorem dX11_isSetting_25 : decode cX11_isSetting 25 = .ok (.iconst 4, 1) := by decide +kernel
theorem dX11_isSetting_26 : decode cX11_isSetting 26 = .ok (.if_icmp .gt 7, 3) := by decide +kernel
theorem dX11_isSetting_29 : decode cX11_isSetting 29 = .ok (.iconst 1, 1) := by decide +kernel
theorem dX11_isSetting_30 : decode cX11_isSetting 30 = .ok (.goto 4, 3) := by decide +kernel
theorem dX11_isSetting_33 : decode cX11_isSetting 33 = .ok (.iconst 0, 1) := by decide +kernel
theorem dX11_isSetting_34 : decode cX11_isSetting 34 = .ok (.ireturn, 1) := by decide +kernel
theorem dX11_newFan_0 : decode cX11_newFan 0 = .ok (.iload_n 0, 1) := by decide +kernel
theorem dX11_newFan_1 : decode cX11_newFan 1 = .ok (.tableswitch 135 1 6 #[39, 55, 71, 87, 103, 119], 39) := by decide +kernel
theorem dX11_newFan_40 : decode cX11_newFan 40 = .ok (.new 275, 3) := by decide +kernel
theorem dX11_newFan_43 : decode cX11_newFan 43 = .ok (.dup, 1) := by decide +kernel
theorem dX11_newFan_44 : decode cX11_newFan 44 = .ok (.iload_n 0, 1) := by decide +kernel
theorem dX11_newFan_45 : decode cX11_newFan 45 = .ok (.iload_n 1, 1) := by decide +kernel
theorem dX11_newFan_46 : decode cX11_newFan 46 = .ok (.iload_n 2, 1) := by decide +kernel
theorem dX11_newFan_47 : decode cX11_newFan 47 = .ok (.iload_n 3, 1) := by decide +kernel
theorem dX11_newFan_48 : decode cX11_newFan 48 = .ok (.iload 4, 2) := by decide +kernel
theorem dX11_newFan_50 : decode cX11_newFan 50 = .ok (.iload 5, 2) := by decide +kernel
theorem dX11_newFan_52 : decode cX11_newFan 52 = .ok (.invokespecial 277, 3) := by decide +kernel
theorem dX11_newFan_55 : decode cX11_newFan 55 = .ok (.areturn, 1) := by decide +kernel
theorem dX11_newFan_56 : decode cX11_newFan 56 = .ok (.new 280, 3) := by decide +kernel
theorem dX11_newFan_59 : decode cX11_newFan 59 = .ok (.dup, 1) := by decide +kernel
theorem dX11_newFan_60 : decode cX11_newFan 60 = .ok (.iload_n 0, 1) := by decide +kernel
theorem dX11_newFan_61 : decode cX11_newFan 61 = .ok (.iload_n 1, 1) := by decide +kernel
theorem dX11_newFan_62 : decode cX11_newFan 62 = .ok (.iload_n 2, 1) := by decide +kernel
theorem dX11_newFan_63 : decode cX11_newFan 63 = .ok (.iload_n 3, 1) := by decide +kernel
theorem dX11_newFan_64 : decode cX11_newFan 64 = .ok (.iload 4, 2) := by decide +kernel
theorem dX11_newFan_66 : decode cX11_newFan 66 = .ok (.iload 5, 2) := by decide +kernel
theorem dX11_newFan_68 : decode cX11_newFan 68 = .ok (.invokespecial 282, 3) := by decide +kernel
theorem dX11_newFan_71 : decode cX11_newFan 71 = .ok (.areturn, 1) := by decide +kernel
theorem dX11_newFan_72 : decode cX11_newFan 72 = .ok (.new 283, 3) := by decide +kernel
theorem dX11_newFan_75 : decode cX11_newFan 75 = .ok (.dup, 1) := by decide +kernel
theorem dX11_newFan_76 : decode cX11_newFan 76 = .ok (.iload_n 0, 1) := by decide +kernel
theorem dX11_newFan_77 : decode cX11_newFan 77 = .ok (.iload_n 1, 1) := by decide +kernel
theorem dX11_newFan_78 : decode cX11_newFan 78 = .ok (.iload_n 2, 1) := by decide +kernel
theorem dX11_newFan_79 : decode cX11_newFan 79 = .ok (.iload_n 3, 1) := by decide +kernel
theorem dX11_newFan_80 : decode cX11_newFan 80 = .ok (.iload 4, 2) := by decide +kernel
theorem dX11_newFan_82 : decode cX11_newFan 82 = .ok (.iload 5, 2) := by decide +kernel
theorem dX11_newFan_84 : decode cX11_newFan 84 = .ok (.invokespecial 285, 3) := by decide +kernel
theorem dX11_newFan_87 : decode cX11_newFan 87 = .ok (.areturn, 1) := by decide +kernel
theorem dX11_newFan_88 : decode cX11_newFan 88 = .ok (.new 286, 3) := by decide +kernel
theorem dX11_newFan_91 : decode cX11_newFan 91 = .ok (.dup, 1) := by decide +kernel
theorem dX11_newFan_92 : decode cX11_newFan 92 = .ok (.iload_n 0, 1) := by decide +kernel
theorem dX11_newFan_93 : decode cX11_newFan 93 = .ok (.iload_n 1, 1) := by decide +kernel
theorem dX11_newFan_94 : decode cX11_newFan 94 = .ok (.iload_n 2, 1) := by decide +kernel
theorem dX11_newFan_95 : decode cX11_newFan 95 = .ok (.iload_n 3, 1) := by decide +kernel
theorem dX11_newFan_96 : decode cX11_newFan 96 = .ok (.iload 4, 2) := by decide +kernel
theorem dX11_newFan_98 : decode cX11_newFan 98 = .ok (.iload 5, 2) := by decide +kernel
theorem dX11_newFan_100 : decode cX11_newFan 100 = .ok (.invokespecial 288, 3) := by decide +kernel
theorem dX11_newFan_103 : decode cX11_newFan 103 = .ok (.areturn, 1) := by decide +kernel
theorem dX11_newFan_104 : decode cX11_newFan 104 = .ok (.new 289, 3) := by decide +kernel
theorem dX11_newFan_107 : decode cX11_newFan 107 = .ok (.dup, 1) := by decide +kernel
theorem dX11_newFan_108 : decode cX11_newFan 108 = .ok (.iload_n 0, 1) := by decide +kernel
theorem dX11_newFan_109 : decode cX11_newFan 109 = .ok (.iload_n 1, 1) := by decide +kernel
theorem dX11_newFan_110 : decode cX11_newFan 110 = .ok (.iload_n 2, 1) := by decide +kernel
theorem dX11_newFan_111 : decode cX11_newFan 111 = .ok (.iload_n 3, 1) := by decide +kernel
theorem dX11_newFan_112 : decode cX11_newFan 112 = .ok (.iload 4, 2) := by decide +kernel
theorem dX11_newFan_114 : decode cX11_newFan 114 = .ok (.iload 5, 2) := by decide +kernel
theorem dX11_newFan_116 : decode cX11_newFan 116 = .ok (.invokespecial 291, 3) := by decide +kernel
theorem dX11_newFan_119 : decode cX11_newFan 119 = .ok (.areturn, 1) := by decide +kernel
theorem dX11_newFan_120 : decode cX11_newFan 120 = .ok (.new 119, 3) := by decide +kernel
theorem dX11_newFan_123 : decode cX11_newFan 123 = .ok (.dup, 1) := by decide +kernel
theorem dX11_newFan_124 : decode cX11_newFan 124 = .ok (.iload_n 0, 1) := by decide +kernel
theorem dX11_newFan_125 : decode cX11_newFan 125 = .ok (.iload_n 1, 1) := by decide +kernel
theorem dX11_newFan_126 : decode cX11_newFan 126 = .ok (.iload_n 2, 1) := by decide +kernel
theorem dX11_newFan_127 : decode cX11_newFan 127 = .ok (.iload_n 3, 1) := by decide +kernel
theorem dX11_newFan_128 : decode cX11_newFan 128 = .ok (.iload 4, 2) := by decide +kernel
theorem dX11_newFan_130 : decode cX11_newFan 130 = .ok (.iload 5, 2) := by decide +kernel
theorem dX11_newFan_132 : decode cX11_newFan 132 = .ok (.invokespecial 292, 3) := by decide +kernel
theorem dX11_newFan_135 : decode cX11_newFan 135 = .ok (.areturn, 1) := by decide +kernel
theorem dX11_newFan_136 : decode cX11_newFan 136 = .ok (.new 86, 3) := by decide +kernel
theorem dX11_newFan_139 : decode cX11_newFan 139 = .ok (.dup, 1) := by decide +kernel
theorem dX11_newFan_140 : decode cX11_newFan 140 = .ok (.iload_n 0, 1) := by decide +kernel
theorem dX11_newFan_141 : decode cX11_newFan 141 = .ok (.iload_n 1, 1) := by decide +kernel
theorem dX11_newFan_142 : decode cX11_newFan 142 = .ok (.iload_n 2, 1) := by decide +kernel
theorem dX11_newFan_143 : decode cX11_newFan 143 = .ok (.iload_n 3, 1) := by decide +kernel
theorem dX11_newFan_144 : decode cX11_newFan 144 = .ok (.iload 4, 2) := by decide +kernel
theorem dX11_newFan_146 : decode cX11_newFan 146 = .ok (.iload 5, 2) := by decide +kernel
theorem dX11_newFan_148 : decode cX11_newFan 148 = .ok (.invokespecial 293, 3) := by decide +kernel
theorem dX11_newFan_151 : decode cX11_newFan 151 = .ok (.areturn, 1) := by decide +kernel
theorem dX11_putRow_0 : decode cX11_putRow 0 = .ok (.iload_n 1, 1) := by decide +kernel
theorem dX11_putRow_1 : decode cX11_putRow 1 = .ok (.ifCond .lt 36, 3) := by decide +kernel
theorem dX11_putRow_4 : decode cX11_putRow 4 = .ok (.iload_n 1, 1) := by decide +kernel
theorem dX11_putRow_5 : decode cX11_putRow 5 = .ok (.iconst 3, 1) := by decide +kernel
theorem dX11_putRow_6 : decode cX11_putRow 6 = .ok (.imul, 1) := by decide +kernel
theorem dX11_putRow_7 : decode cX11_putRow 7 = .ok (.iconst 2, 1) := by decide +kernel
theorem dX11_putRow_8 : decode cX11_putRow 8 = .ok (.iadd, 1) := by decide +kernel
theorem dX11_putRow_9 : decode cX11_putRow 9 = .ok (.aload_n 0, 1) := by decide +kernel
theorem dX11_putRow_10 : decode cX11_putRow 10 = .ok (.arraylength, 1) := by decide +kernel
theorem dX11_putRow_11 : decode cX11_putRow 11 = .ok (.if_icmp .ge 26, 3) := by decide +kernel
theorem dX11_putRow_14 : decode cX11_putRow 14 = .ok (.aload_n 0, 1) := by decide +kernel
theorem dX11_putRow_15 : decode cX11_putRow 15 = .ok (.iload_n 1, 1) := by decide +kernel
theorem dX11_putRow_16 : decode cX11_putRow 16 = .ok (.iconst 3, 1) := by decide +kernel
theorem dX11_putRow_17 : decode cX11_putRow 17 = .ok (.imul, 1) := by decide +kernel
theorem dX11_putRow_18 : decode cX11_putRow 18 = .ok (.iload_n 2, 1) := by decide +kernel
theorem dX11_putRow_19 : decode cX11_putRow 19 = .ok (.iastore, 1) := by decide +kernel
theorem dX11_putRow_20 : decode cX11_putRow 20 = .ok (.aload_n 0, 1) := by decide +kernel
theorem dX11_putRow_21 : decode cX11_putRow 21 = .ok (.iload_n 1, 1) := by decide +kernel
theorem dX11_putRow_22 : decode cX11_putRow 22 = .ok (.iconst 3, 1) := by decide +kernel
theorem dX11_putRow_23 : decode cX11_putRow 23 = .ok (.imul, 1) := by decide +kernel
theorem dX11_putRow_24 : decode cX11_putRow 24 = .ok (.iconst 1, 1) := by decide +kernel
theorem dX11_putRow_25 : decode cX11_putRow 25 = .ok (.iadd, 1) := by decide +kernel
theorem dX11_putRow_26 : decode cX11_putRow 26 = .ok (.iload_n 3, 1) := by decide +kernel
theorem dX11_putRow_27 : decode cX11_putRow 27 = .ok (.iastore, 1) := by decide +kernel
theorem dX11_putRow_28 : decode cX11_putRow 28 = .ok (.aload_n 0, 1) := by decide +kernel
theorem dX11_putRow_29 : decode cX11_putRow 29 = .ok (.iload_n 1, 1) := by decide +kernel
theorem dX11_putRow_30 : decode cX11_putRow 30 = .ok (.iconst 3, 1) := by decide +kernel
theorem dX11_putRow_31 : decode cX11_putRow 31 = .ok (.imul, 1) := by decide +kernel
theorem dX11_putRow_32 : decode cX11_putRow 32 = .ok (.iconst 2, 1) := by decide +kernel
theorem dX11_putRow_33 : decode cX11_putRow 33 = .ok (.iadd, 1) := by decide +kernel
theorem dX11_putRow_34 : decode cX11_putRow 34 = .ok (.iload 4, 2) := by decide +kernel
theorem dX11_putRow_36 : decode cX11_putRow 36 = .ok (.iastore, 1) := by decide +kernel
theorem dX11_putRow_37 : decode cX11_putRow 37 = .ok (.return_, 1) := by decide +kernel
theorem dX11_lowest_0 : decode cX11_lowest 0 = .ok (.iconst 1, 1) := by decide +kernel
theorem dX11_lowest_1 : decode cX11_lowest 1 = .ok (.istore_n 3, 1) := by decide +kernel
theorem dX11_lowest_2 : decode cX11_lowest 2 = .ok (.iconst 2, 1) := by decide +kernel
theorem dX11_lowest_3 : decode cX11_lowest 3 = .ok (.istore 4, 2) := by decide +kernel
theorem dX11_lowest_5 : decode cX11_lowest 5 = .ok (.iload 4, 2) := by decide +kernel
theorem dX11_lowest_7 : decode cX11_lowest 7 = .ok (.iload_n 1, 1) := by decide +kernel
theorem dX11_lowest_8 : decode cX11_lowest 8 = .ok (.if_icmp .gt 26, 3) := by decide +kernel
theorem dX11_lowest_11 : decode cX11_lowest 11 = .ok (.iload_n 0, 1) := by decide +kernel
theorem dX11_lowest_12 : decode cX11_lowest 12 = .ok (.iload 4, 2) := by decide +kernel
theorem dX11_lowest_14 : decode cX11_lowest 14 = .ok (.irem, 1) := by decide +kernel
theorem dX11_lowest_15 : decode cX11_lowest 15 = .ok (.ifCond .ne 13, 3) := by decide +kernel
theorem dX11_lowest_18 : decode cX11_lowest 18 = .ok (.iload_n 1, 1) := by decide +kernel
theorem dX11_lowest_19 : decode cX11_lowest 19 = .ok (.iload 4, 2) := by decide +kernel
theorem dX11_lowest_21 : decode cX11_lowest 21 = .ok (.irem, 1) := by decide +kernel
theorem dX11_lowest_22 : decode cX11_lowest 22 = .ok (.ifCond .ne 6, 3) := by decide +kernel
theorem dX11_lowest_25 : decode cX11_lowest 25 = .ok (.iload 4, 2) := by decide +kernel
theorem dX11_lowest_27 : decode cX11_lowest 27 = .ok (.istore_n 3, 1) := by decide +kernel
theorem dX11_lowest_28 : decode cX11_lowest 28 = .ok (.iinc 4 1, 3) := by decide +kernel
theorem dX11_lowest_31 : decode cX11_lowest 31 = .ok (.goto (-26), 3) := by decide +kernel
theorem dX11_lowest_34 : decode cX11_lowest 34 = .ok (.iload_n 2, 1) := by decide +kernel
theorem dX11_lowest_35 : decode cX11_lowest 35 = .ok (.ifCond .ne 10, 3) := by decide +kernel
theorem dX11_lowest_38 : decode cX11_lowest 38 = .ok (.iload_n 0, 1) := by decide +kernel
theorem dX11_lowest_39 : decode cX11_lowest 39 = .ok (.iload_n 3, 1) := by decide +kernel
theorem dX11_lowest_40 : decode cX11_lowest 40 = .ok (.idiv, 1) := by decide +kernel
theorem dX11_lowest_41 : decode cX11_lowest 41 = .ok (.i2l, 1) := by decide +kernel
theorem dX11_lowest_42 : decode cX11_lowest 42 = .ok (.goto 7, 3) := by decide +kernel
theorem dX11_lowest_45 : decode cX11_lowest 45 = .ok (.iload_n 1, 1) := by decide +kernel
theorem dX11_lowest_46 : decode cX11_lowest 46 = .ok (.iload_n 3, 1) := by decide +kernel
theorem dX11_lowest_47 : decode cX11_lowest 47 = .ok (.idiv, 1) := by decide +kernel
theorem dX11_lowest_48 : decode cX11_lowest 48 = .ok (.i2l, 1) := by decide +kernel
theorem dX11_lowest_49 : decode cX11_lowest 49 = .ok (.lreturn, 1) := by decide +kernel
theorem dX11_after_0 : decode cX11_after 0 = .ok (.aload_n 0, 1) := by decide +kernel
theorem dX11_after_1 : decode cX11_after 1 = .ok (.getfield 28, 3) := by decide +kernel
theorem dX11_after_4 : decode cX11_after 4 = .ok (.aload_n 0, 1) := by decide +kernel
theorem dX11_after_5 : decode cX11_after 5 = .ok (.getfield 12, 3) := by decide +kernel
theorem dX11_after_8 : decode cX11_after 8 = .ok (.getfield 108, 3) := by decide +kernel
theorem dX11_after_11 : decode cX11_after 11 = .ok (.invokevirtual 177, 3) := by decide +kernel
theorem dX11_after_14 : decode cX11_after 14 = .ok (.aload_n 0, 1) := by decide +kernel
theorem dX11_after_15 : decode cX11_after 15 = .ok (.getfield 12, 3) := by decide +kernel
theorem dX11_after_18 : decode cX11_after 18 = .ok (.aload_n 0, 1) := by decide +kernel
theorem dX11_after_19 : decode cX11_after 19 = .ok (.getfield 28, 3) := by decide +kernel
theorem dX11_after_22 : decode cX11_after 22 = .ok (.iload_n 1, 1) := by decide +kernel
theorem dX11_after_23 : decode cX11_after 23 = .ok (.aload_n 0, 1) := by decide +kernel
theorem dX11_after_24 : decode cX11_after 24 = .ok (.getfield 12, 3) := by decide +kernel
theorem dX11_after_27 : decode cX11_after 27 = .ok (.getfield 105, 3) := by decide +kernel
theorem dX11_after_30 : decode cX11_after 30 = .ok (.iload_n 2, 1) := by decide +kernel
theorem dX11_after_31 : decode cX11_after 31 = .ok (.invokevirtual 160, 3) := by decide +kernel
theorem dX11_after_34 : decode cX11_after 34 = .ok (.aload_n 0, 1) := by decide +kernel
theorem dX11_after_35 : decode cX11_after 35 = .ok (.getfield 28, 3) := by decide +kernel
theorem dX11_after_38 : decode cX11_after 38 = .ok (.areturn, 1) := by decide +kernel
theorem dX11_heatSeated_0 : decode cX11_heatSeated 0 = .ok (.aload_n 0, 1) := by decide +kernel
theorem dX11_heatSeated_1 : decode cX11_heatSeated 1 = .ok (.getfield 28, 3) := by decide +kernel
theorem dX11_heatSeated_4 : decode cX11_heatSeated 4 = .ok (.aload_n 0, 1) := by decide +kernel
theorem dX11_heatSeated_5 : decode cX11_heatSeated 5 = .ok (.getfield 12, 3) := by decide +kernel
theorem dX11_heatSeated_8 : decode cX11_heatSeated 8 = .ok (.getfield 108, 3) := by decide +kernel
theorem dX11_heatSeated_11 : decode cX11_heatSeated 11 = .ok (.invokevirtual 177, 3) := by decide +kernel
theorem dX11_heatSeated_14 : decode cX11_heatSeated 14 = .ok (.aload_n 0, 1) := by decide +kernel
theorem dX11_heatSeated_15 : decode cX11_heatSeated 15 = .ok (.getfield 28, 3) := by decide +kernel
theorem dX11_heatSeated_18 : decode cX11_heatSeated 18 = .ok (.getfield 130, 3) := by decide +kernel
theorem dX11_heatSeated_21 : decode cX11_heatSeated 21 = .ok (.iload_n 1, 1) := by decide +kernel
theorem dX11_heatSeated_22 : decode cX11_heatSeated 22 = .ok (.iload_n 2, 1) := by decide +kernel
theorem dX11_heatSeated_23 : decode cX11_heatSeated 23 = .ok (.iastore, 1) := by decide +kernel
theorem dX11_heatSeated_24 : decode cX11_heatSeated 24 = .ok (.aload_n 0, 1) := by decide +kernel
theorem dX11_heatSeated_25 : decode cX11_heatSeated 25 = .ok (.getfield 12, 3) := by decide +kernel
theorem dX11_heatSeated_28 : decode cX11_heatSeated 28 = .ok (.aload_n 0, 1) := by decide +kernel
theorem dX11_heatSeated_29 : decode cX11_heatSeated 29 = .ok (.getfield 28, 3) := by decide +kernel
theorem dX11_heatSeated_32 : decode cX11_heatSeated 32 = .ok (.aload_n 0, 1) := by decide +kernel
theorem dX11_heatSeated_33 : decode cX11_heatSeated 33 = .ok (.getfield 12, 3) := by decide +kernel
theorem dX11_heatSeated_36 : decode cX11_heatSeated 36 = .ok (.invokevirtual 156, 3) := by decide +kernel
theorem dX11_heatSeated_39 : decode cX11_heatSeated 39 = .ok (.aload_n 0, 1) := by decide +kernel
theorem dX11_heatSeated_40 : decode cX11_heatSeated 40 = .ok (.getfield 12, 3) := by decide +kernel
theorem dX11_heatSeated_43 : decode cX11_heatSeated 43 = .ok (.getfield 105, 3) := by decide +kernel
theorem dX11_heatSeated_46 : decode cX11_heatSeated 46 = .ok (.iload_n 3, 1) := by decide +kernel
theorem dX11_heatSeated_47 : decode cX11_heatSeated 47 = .ok (.invokevirtual 160, 3) := by decide +kernel
theorem dX11_heatSeated_50 : decode cX11_heatSeated 50 = .ok (.aload_n 0, 1) := by decide +kernel
theorem dX11_heatSeated_51 : decode cX11_heatSeated 51 = .ok (.getfield 28, 3) := by decide +kernel
theorem dX11_heatSeated_54 : decode cX11_heatSeated 54 = .ok (.getfield 133, 3) := by decide +kernel
theorem dX11_heatSeated_57 : decode cX11_heatSeated 57 = .ok (.iload_n 1, 1) := by decide +kernel
theorem dX11_heatSeated_58 : decode cX11_heatSeated 58 = .ok (.iaload, 1) := by decide +kernel
theorem dX11_heatSeated_59 : decode cX11_heatSeated 59 = .ok (.ireturn, 1) := by decide +kernel
theorem dX11_greatestChanged_0 : decode cX11_greatestChanged 0 = .ok (.aload_n 0, 1) := by decide +kernel
theorem dX11_greatestChanged_1 : decode cX11_greatestChanged 1 = .ok (.getfield 28, 3) := by decide +kernel
theorem dX11_greatestChanged_4 : decode cX11_greatestChanged 4 = .ok (.aload_n 0, 1) := by decide +kernel
theorem dX11_greatestChanged_5 : decode cX11_greatestChanged 5 = .ok (.getfield 12, 3) := by decide +kernel
theorem dX11_greatestChanged_8 : decode cX11_greatestChanged 8 = .ok (.getfield 108, 3) := by decide +kernel
theorem dX11_greatestChanged_11 : decode cX11_greatestChanged 11 = .ok (.invokevirtual 177, 3) := by decide +kernel
theorem dX11_greatestChanged_14 : decode cX11_greatestChanged 14 = .ok (.aload_n 0, 1) := by decide +kernel
theorem dX11_greatestChanged_15 : decode cX11_greatestChanged 15 = .ok (.getfield 28, 3) := by decide +kernel
theorem dX11_greatestChanged_18 : decode cX11_greatestChanged 18 = .ok (.getfield 130, 3) := by decide +kernel
theorem dX11_greatestChanged_21 : decode cX11_greatestChanged 21 = .ok (.iload_n 1, 1) := by decide +kernel
theorem dX11_greatestChanged_22 : decode cX11_greatestChanged 22 = .ok (.aload_n 0, 1) := by decide +kernel
theorem dX11_greatestChanged_23 : decode cX11_greatestChanged 23 = .ok (.getfield 12, 3) := by decide +kernel
theorem dX11_greatestChanged_26 : decode cX11_greatestChanged 26 = .ok (.getfield 108, 3) := by decide +kernel
theorem dX11_greatestChanged_29 : decode cX11_greatestChanged 29 = .ok (.getfield 130, 3) := by decide +kernel
theorem dX11_greatestChanged_32 : decode cX11_greatestChanged 32 = .ok (.iload_n 2, 1) := by decide +kernel
theorem dX11_greatestChanged_33 : decode cX11_greatestChanged 33 = .ok (.iaload, 1) := by decide +kernel
theorem dX11_greatestChanged_34 : decode cX11_greatestChanged 34 = .ok (.iastore, 1) := by decide +kernel
theorem dX11_greatestChanged_35 : decode cX11_greatestChanged 35 = .ok (.aload_n 0, 1) := by decide +kernel
theorem dX11_greatestChanged_36 : decode cX11_greatestChanged 36 = .ok (.getfield 28, 3) := by decide +kernel
theorem dX11_greatestChanged_39 : decode cX11_greatestChanged 39 = .ok (.getfield 130, 3) := by decide +kernel
theorem dX11_greatestChanged_42 : decode cX11_greatestChanged 42 = .ok (.iload_n 2, 1) := by decide +kernel
theorem dX11_greatestChanged_43 : decode cX11_greatestChanged 43 = .ok (.aload_n 0, 1) := by decide +kernel
theorem dX11_greatestChanged_44 : decode cX11_greatestChanged 44 = .ok (.getfield 12, 3) := by decide +kernel
theorem dX11_greatestChanged_47 : decode cX11_greatestChanged 47 = .ok (.getfield 108, 3) := by decide +kernel
theorem dX11_greatestChanged_50 : decode cX11_greatestChanged 50 = .ok (.getfield 130, 3) := by decide +kernel
theorem dX11_greatestChanged_53 : decode cX11_greatestChanged 53 = .ok (.iload_n 1, 1) := by decide +kernel
theorem dX11_greatestChanged_54 : decode cX11_greatestChanged 54 = .ok (.iaload, 1) := by decide +kernel
theorem dX11_greatestChanged_55 : decode cX11_greatestChanged 55 = .ok (.iastore, 1) := by decide +kernel
theorem dX11_greatestChanged_56 : decode cX11_greatestChanged 56 = .ok (.aload_n 0, 1) := by decide +kernel
theorem dX11_greatestChanged_57 : decode cX11_greatestChanged 57 = .ok (.getfield 12, 3) := by decide +kernel
theorem dX11_greatestChanged_60 : decode cX11_greatestChanged 60 = .ok (.aload_n 0, 1) := by decide +kernel
theorem dX11_greatestChanged_61 : decode cX11_greatestChanged 61 = .ok (.getfield 28, 3) := by decide +kernel
theorem dX11_greatestChanged_64 : decode cX11_greatestChanged 64 = .ok (.aload_n 0, 1) := by decide +kernel
theorem dX11_greatestChanged_65 : decode cX11_greatestChanged 65 = .ok (.getfield 12, 3) := by decide +kernel
theorem dX11_greatestChanged_68 : decode cX11_greatestChanged 68 = .ok (.invokevirtual 156, 3) := by decide +kernel
theorem dX11_greatestChanged_71 : decode cX11_greatestChanged 71 = .ok (.aload_n 0, 1) := by decide +kernel
theorem dX11_greatestChanged_72 : decode cX11_greatestChanged 72 = .ok (.getfield 12, 3) := by decide +kernel
theorem dX11_greatestChanged_75 : decode cX11_greatestChanged 75 = .ok (.getfield 105, 3) := by decide +kernel
theorem dX11_greatestChanged_78 : decode cX11_greatestChanged 78 = .ok (.iload_n 3, 1) := by decide +kernel
theorem dX11_greatestChanged_79 : decode cX11_greatestChanged 79 = .ok (.invokevirtual 160, 3) := by decide +kernel
theorem dX11_greatestChanged_82 : decode cX11_greatestChanged 82 = .ok (.aload_n 0, 1) := by decide +kernel
theorem dX11_greatestChanged_83 : decode cX11_greatestChanged 83 = .ok (.getfield 28, 3) := by decide +kernel
theorem dX11_greatestChanged_86 : decode cX11_greatestChanged 86 = .ok (.invokevirtual 171, 3) := by decide +kernel
theorem dX11_greatestChanged_89 : decode cX11_greatestChanged 89 = .ok (.ireturn, 1) := by decide +kernel
theorem dX11_greatestRound_0 : decode cX11_greatestRound 0 = .ok (.aload_n 0, 1) := by decide +kernel
theorem dX11_greatestRound_1 : decode cX11_greatestRound 1 = .ok (.getfield 28, 3) := by decide +kernel
theorem dX11_greatestRound_4 : decode cX11_greatestRound 4 = .ok (.aload_n 0, 1) := by decide +kernel
theorem dX11_greatestRound_5 : decode cX11_greatestRound 5 = .ok (.getfield 12, 3) := by decide +kernel
theorem dX11_greatestRound_8 : decode cX11_greatestRound 8 = .ok (.getfield 108, 3) := by decide +kernel
theorem dX11_greatestRound_11 : decode cX11_greatestRound 11 = .ok (.invokevirtual 177, 3) := by decide +kernel
theorem dX11_greatestRound_14 : decode cX11_greatestRound 14 = .ok (.iconst 0, 1) := by decide +kernel
theorem dX11_greatestRound_15 : decode cX11_greatestRound 15 = .ok (.istore_n 3, 1) := by decide +kernel
theorem dX11_greatestRound_16 : decode cX11_greatestRound 16 = .ok (.iload_n 3, 1) := by decide +kernel
theorem dX11_greatestRound_17 : decode cX11_greatestRound 17 = .ok (.iload_n 2, 1) := by decide +kernel
theorem dX11_greatestRound_18 : decode cX11_greatestRound 18 = .ok (.if_icmp .ge 58, 3) := by decide +kernel
theorem dX11_greatestRound_21 : decode cX11_greatestRound 21 = .ok (.iload_n 3, 1) := by decide +kernel
theorem dX11_greatestRound_22 : decode cX11_greatestRound 22 = .ok (.iload_n 1, 1) := by decide +kernel
theorem dX11_greatestRound_23 : decode cX11_greatestRound 23 = .ok (.idiv, 1) := by decide +kernel
theorem dX11_greatestRound_24 : decode cX11_greatestRound 24 = .ok (.aload_n 0, 1) := by decide +kernel
theorem dX11_greatestRound_25 : decode cX11_greatestRound 25 = .ok (.getfield 28, 3) := by decide +kernel
theorem dX11_greatestRound_28 : decode cX11_greatestRound 28 = .ok (.getfield 127, 3) := by decide +kernel
theorem dX11_greatestRound_31 : decode cX11_greatestRound 31 = .ok (.irem, 1) := by decide +kernel
theorem dX11_greatestRound_32 : decode cX11_greatestRound 32 = .ok (.istore 4, 2) := by decide +kernel
theorem dX11_greatestRound_34 : decode cX11_greatestRound 34 = .ok (.aload_n 0, 1) := by decide +kernel
theorem dX11_greatestRound_35 : decode cX11_greatestRound 35 = .ok (.getfield 28, 3) := by decide +kernel
theorem dX11_greatestRound_38 : decode cX11_greatestRound 38 = .ok (.aload_n 0, 1) := by decide +kernel
theorem dX11_greatestRound_39 : decode cX11_greatestRound 39 = .ok (.getfield 12, 3) := by decide +kernel
theorem dX11_greatestRound_42 : decode cX11_greatestRound 42 = .ok (.getfield 62, 3) := by decide +kernel
theorem dX11_greatestRound_45 : decode cX11_greatestRound 45 = .ok (.iconst 1, 1) := by decide +kernel
theorem dX11_greatestRound_46 : decode cX11_greatestRound 46 = .ok (.aload_n 0, 1) := by decide +kernel
theorem dX11_greatestRound_47 : decode cX11_greatestRound 47 = .ok (.getfield 28, 3) := by decide +kernel
theorem dX11_greatestRound_50 : decode cX11_greatestRound 50 = .ok (.getfield 130, 3) := by decide +kernel
theorem dX11_greatestRound_53 : decode cX11_greatestRound 53 = .ok (.iload 4, 2) := by decide +kernel
theorem dX11_greatestRound_55 : decode cX11_greatestRound 55 = .ok (.iaload, 1) := by decide +kernel
theorem dX11_greatestRound_56 : decode cX11_greatestRound 56 = .ok (.ishl, 1) := by decide +kernel
theorem dX11_greatestRound_57 : decode cX11_greatestRound 57 = .ok (.iconst 1, 1) := by decide +kernel
theorem dX11_greatestRound_58 : decode cX11_greatestRound 58 = .ok (.aload_n 0, 1) := by decide +kernel
theorem dX11_greatestRound_59 : decode cX11_greatestRound 59 = .ok (.getfield 12, 3) := by decide +kernel
theorem dX11_greatestRound_62 : decode cX11_greatestRound 62 = .ok (.getfield 105, 3) := by decide +kernel
theorem dX11_greatestRound_65 : decode cX11_greatestRound 65 = .ok (.iload_n 3, 1) := by decide +kernel
theorem dX11_greatestRound_66 : decode cX11_greatestRound 66 = .ok (.iadd, 1) := by decide +kernel
theorem dX11_greatestRound_67 : decode cX11_greatestRound 67 = .ok (.invokevirtual 294, 3) := by decide +kernel
theorem dX11_greatestRound_70 : decode cX11_greatestRound 70 = .ok (.iinc 3 1, 3) := by decide +kernel
theorem dX11_greatestRound_73 : decode cX11_greatestRound 73 = .ok (.goto (-57), 3) := by decide +kernel
theorem dX11_greatestRound_76 : decode cX11_greatestRound 76 = .ok (.aload_n 0, 1) := by decide +kernel
theorem dX11_greatestRound_77 : decode cX11_greatestRound 77 = .ok (.getfield 28, 3) := by decide +kernel
theorem dX11_greatestRound_80 : decode cX11_greatestRound 80 = .ok (.invokevirtual 171, 3) := by decide +kernel
theorem dX11_greatestRound_83 : decode cX11_greatestRound 83 = .ok (.ireturn, 1) := by decide +kernel
theorem dX11_meetings_0 : decode cX11_meetings 0 = .ok (.iconst 0, 1) := by decide +kernel
theorem dX11_meetings_1 : decode cX11_meetings 1 = .ok (.istore 5, 2) := by decide +kernel
theorem dX11_meetings_3 : decode cX11_meetings 3 = .ok (.iconst 0, 1) := by decide +kernel
theorem dX11_meetings_4 : decode cX11_meetings 4 = .ok (.istore 6, 2) := by decide +kernel
theorem dX11_meetings_6 : decode cX11_meetings 6 = .ok (.iload 6, 2) := by decide +kernel
theorem dX11_meetings_8 : decode cX11_meetings 8 = .ok (.iload_n 3, 1) := by decide +kernel
theorem dX11_meetings_9 : decode cX11_meetings 9 = .ok (.if_icmp .ge 56, 3) := by decide +kernel
theorem dX11_meetings_12 : decode cX11_meetings 12 = .ok (.aload_n 0, 1) := by decide +kernel
theorem dX11_meetings_13 : decode cX11_meetings 13 = .ok (.getfield 12, 3) := by decide +kernel
theorem dX11_meetings_16 : decode cX11_meetings 16 = .ok (.getfield 105, 3) := by decide +kernel
theorem dX11_meetings_19 : decode cX11_meetings 19 = .ok (.iload 6, 2) := by decide +kernel
theorem dX11_meetings_21 : decode cX11_meetings 21 = .ok (.iadd, 1) := by decide +kernel
theorem dX11_meetings_22 : decode cX11_meetings 22 = .ok (.istore 7, 2) := by decide +kernel
theorem dX11_meetings_24 : decode cX11_meetings 24 = .ok (.aload_n 1, 1) := by decide +kernel
theorem dX11_meetings_25 : decode cX11_meetings 25 = .ok (.iload 7, 2) := by decide +kernel
theorem dX11_meetings_27 : decode cX11_meetings 27 = .ok (.aload_n 0, 1) := by decide +kernel
theorem dX11_meetings_28 : decode cX11_meetings 28 = .ok (.getfield 12, 3) := by decide +kernel
theorem dX11_meetings_31 : decode cX11_meetings 31 = .ok (.getfield 108, 3) := by decide +kernel
theorem dX11_meetings_34 : decode cX11_meetings 34 = .ok (.invokevirtual 111, 3) := by decide +kernel
theorem dX11_meetings_37 : decode cX11_meetings 37 = .ok (.aload_n 2, 1) := by decide +kernel
theorem dX11_meetings_38 : decode cX11_meetings 38 = .ok (.iload 7, 2) := by decide +kernel
theorem dX11_meetings_40 : decode cX11_meetings 40 = .ok (.iload 4, 2) := by decide +kernel
theorem dX11_meetings_42 : decode cX11_meetings 42 = .ok (.iadd, 1) := by decide +kernel
theorem dX11_meetings_43 : decode cX11_meetings 43 = .ok (.aload_n 0, 1) := by decide +kernel
theorem dX11_meetings_44 : decode cX11_meetings 44 = .ok (.getfield 12, 3) := by decide +kernel
theorem dX11_meetings_47 : decode cX11_meetings 47 = .ok (.getfield 108, 3) := by decide +kernel
theorem dX11_meetings_50 : decode cX11_meetings 50 = .ok (.invokevirtual 111, 3) := by decide +kernel
theorem dX11_meetings_53 : decode cX11_meetings 53 = .ok (.if_icmp .ne 6, 3) := by decide +kernel
theorem dX11_meetings_56 : decode cX11_meetings 56 = .ok (.iinc 5 1, 3) := by decide +kernel
theorem dX11_meetings_59 : decode cX11_meetings 59 = .ok (.iinc 6 1, 3) := by decide +kernel
theorem dX11_meetings_62 : decode cX11_meetings 62 = .ok (.goto (-56), 3) := by decide +kernel
theorem dX11_meetings_65 : decode cX11_meetings 65 = .ok (.iload 5, 2) := by decide +kernel
theorem dX11_meetings_67 : decode cX11_meetings 67 = .ok (.ireturn, 1) := by decide +kernel
theorem dX11_comesAgain_0 : decode cX11_comesAgain 0 = .ok (.iconst 0, 1) := by decide +kernel
theorem dX11_comesAgain_1 : decode cX11_comesAgain 1 = .ok (.istore_n 3, 1) := by decide +kernel
theorem dX11_comesAgain_2 : decode cX11_comesAgain 2 = .ok (.iload_n 3, 1) := by decide +kernel
theorem dX11_comesAgain_3 : decode cX11_comesAgain 3 = .ok (.sipush 200, 3) := by decide +kernel
theorem dX11_comesAgain_6 : decode cX11_comesAgain 6 = .ok (.if_icmp .ge 40, 3) := by decide +kernel
theorem dX11_comesAgain_9 : decode cX11_comesAgain 9 = .ok (.aload_n 1, 1) := by decide +kernel
theorem dX11_comesAgain_10 : decode cX11_comesAgain 10 = .ok (.iload_n 3, 1) := by decide +kernel
theorem dX11_comesAgain_11 : decode cX11_comesAgain 11 = .ok (.aload_n 0, 1) := by decide +kernel
theorem dX11_comesAgain_12 : decode cX11_comesAgain 12 = .ok (.getfield 12, 3) := by decide +kernel
theorem dX11_comesAgain_15 : decode cX11_comesAgain 15 = .ok (.getfield 108, 3) := by decide +kernel
theorem dX11_comesAgain_18 : decode cX11_comesAgain 18 = .ok (.invokevirtual 111, 3) := by decide +kernel
theorem dX11_comesAgain_21 : decode cX11_comesAgain 21 = .ok (.aload_n 1, 1) := by decide +kernel
theorem dX11_comesAgain_22 : decode cX11_comesAgain 22 = .ok (.iload_n 3, 1) := by decide +kernel
theorem dX11_comesAgain_23 : decode cX11_comesAgain 23 = .ok (.iload_n 2, 1) := by decide +kernel
theorem dX11_comesAgain_24 : decode cX11_comesAgain 24 = .ok (.iadd, 1) := by decide +kernel
theorem dX11_comesAgain_25 : decode cX11_comesAgain 25 = .ok (.aload_n 0, 1) := by decide +kernel
theorem dX11_comesAgain_26 : decode cX11_comesAgain 26 = .ok (.getfield 12, 3) := by decide +kernel
theorem dX11_comesAgain_29 : decode cX11_comesAgain 29 = .ok (.getfield 108, 3) := by decide +kernel
theorem dX11_comesAgain_32 : decode cX11_comesAgain 32 = .ok (.invokevirtual 111, 3) := by decide +kernel
theorem dX11_comesAgain_35 : decode cX11_comesAgain 35 = .ok (.if_icmp .eq 5, 3) := by decide +kernel
theorem dX11_comesAgain_38 : decode cX11_comesAgain 38 = .ok (.iconst 0, 1) := by decide +kernel
theorem dX11_comesAgain_39 : decode cX11_comesAgain 39 = .ok (.ireturn, 1) := by decide +kernel
theorem dX11_comesAgain_40 : decode cX11_comesAgain 40 = .ok (.iinc 3 1, 3) := by decide +kernel
theorem dX11_comesAgain_43 : decode cX11_comesAgain 43 = .ok (.goto (-41), 3) := by decide +kernel
theorem dX11_comesAgain_46 : decode cX11_comesAgain 46 = .ok (.iconst 1, 1) := by decide +kernel
theorem dX11_comesAgain_47 : decode cX11_comesAgain 47 = .ok (.ireturn, 1) := by decide +kernel
theorem dX11_papersOf_0 : decode cX11_papersOf 0 = .ok (.iconst 0, 1) := by decide +kernel
theorem dX11_papersOf_1 : decode cX11_papersOf 1 = .ok (.istore_n 3, 1) := by decide +kernel
theorem dX11_papersOf_2 : decode cX11_papersOf 2 = .ok (.iload_n 3, 1) := by decide +kernel
theorem dX11_papersOf_3 : decode cX11_papersOf 3 = .ok (.bipush 10, 2) := by decide +kernel
theorem dX11_papersOf_5 : decode cX11_papersOf 5 = .ok (.if_icmp .ge 16, 3) := by decide +kernel
theorem dX11_papersOf_8 : decode cX11_papersOf 8 = .ok (.aload_n 0, 1) := by decide +kernel
theorem dX11_papersOf_9 : decode cX11_papersOf 9 = .ok (.getfield 32, 3) := by decide +kernel
theorem dX11_papersOf_12 : decode cX11_papersOf 12 = .ok (.iload_n 3, 1) := by decide +kernel
theorem dX11_papersOf_13 : decode cX11_papersOf 13 = .ok (.iconst 0, 1) := by decide +kernel
theorem dX11_papersOf_14 : decode cX11_papersOf 14 = .ok (.iastore, 1) := by decide +kernel
theorem dX11_papersOf_15 : decode cX11_papersOf 15 = .ok (.iinc 3 1, 3) := by decide +kernel
theorem dX11_papersOf_18 : decode cX11_papersOf 18 = .ok (.goto (-16), 3) := by decide +kernel
theorem dX11_papersOf_21 : decode cX11_papersOf 21 = .ok (.iconst 0, 1) := by decide +kernel
theorem dX11_papersOf_22 : decode cX11_papersOf 22 = .ok (.istore_n 3, 1) := by decide +kernel
theorem dX11_papersOf_23 : decode cX11_papersOf 23 = .ok (.iconst 0, 1) := by decide +kernel
theorem dX11_papersOf_24 : decode cX11_papersOf 24 = .ok (.istore 4, 2) := by decide +kernel
theorem dX11_papersOf_26 : decode cX11_papersOf 26 = .ok (.iload 4, 2) := by decide +kernel
theorem dX11_papersOf_28 : decode cX11_papersOf 28 = .ok (.iload_n 2, 1) := by decide +kernel
theorem dX11_papersOf_29 : decode cX11_papersOf 29 = .ok (.if_icmp .ge 110, 3) := by decide +kernel
theorem dX11_papersOf_32 : decode cX11_papersOf 32 = .ok (.aload_n 0, 1) := by decide +kernel
theorem dX11_papersOf_33 : decode cX11_papersOf 33 = .ok (.getfield 12, 3) := by decide +kernel
theorem dX11_papersOf_36 : decode cX11_papersOf 36 = .ok (.iload_n 1, 1) := by decide +kernel
theorem dX11_papersOf_37 : decode cX11_papersOf 37 = .ok (.aload_n 0, 1) := by decide +kernel
theorem dX11_papersOf_38 : decode cX11_papersOf 38 = .ok (.getfield 12, 3) := by decide +kernel
theorem dX11_papersOf_41 : decode cX11_papersOf 41 = .ok (.getfield 105, 3) := by decide +kernel
theorem dX11_papersOf_44 : decode cX11_papersOf 44 = .ok (.iload 4, 2) := by decide +kernel
theorem dX11_papersOf_46 : decode cX11_papersOf 46 = .ok (.iadd, 1) := by decide +kernel
theorem dX11_papersOf_47 : decode cX11_papersOf 47 = .ok (.aload_n 0, 1) := by decide +kernel
theorem dX11_papersOf_48 : decode cX11_papersOf 48 = .ok (.getfield 12, 3) := by decide +kernel
theorem dX11_papersOf_51 : decode cX11_papersOf 51 = .ok (.getfield 108, 3) := by decide +kernel
theorem dX11_papersOf_54 : decode cX11_papersOf 54 = .ok (.invokevirtual 298, 3) := by decide +kernel
theorem dX11_papersOf_57 : decode cX11_papersOf 57 = .ok (.istore 5, 2) := by decide +kernel
theorem dX11_papersOf_59 : decode cX11_papersOf 59 = .ok (.iconst 0, 1) := by decide +kernel
theorem dX11_papersOf_60 : decode cX11_papersOf 60 = .ok (.istore 6, 2) := by decide +kernel
theorem dX11_papersOf_62 : decode cX11_papersOf 62 = .ok (.iload 6, 2) := by decide +kernel
theorem dX11_papersOf_64 : decode cX11_papersOf 64 = .ok (.bipush 10, 2) := by decide +kernel
theorem dX11_papersOf_66 : decode cX11_papersOf 66 = .ok (.if_icmp .ge 67, 3) := by decide +kernel
theorem dX11_papersOf_69 : decode cX11_papersOf 69 = .ok (.aload_n 0, 1) := by decide +kernel
theorem dX11_papersOf_70 : decode cX11_papersOf 70 = .ok (.getfield 32, 3) := by decide +kernel
theorem dX11_papersOf_73 : decode cX11_papersOf 73 = .ok (.iload 6, 2) := by decide +kernel
theorem dX11_papersOf_75 : decode cX11_papersOf 75 = .ok (.iload 5, 2) := by decide +kernel
theorem dX11_papersOf_77 : decode cX11_papersOf 77 = .ok (.iload 6, 2) := by decide +kernel
theorem dX11_papersOf_79 : decode cX11_papersOf 79 = .ok (.ishr, 1) := by decide +kernel
theorem dX11_papersOf_80 : decode cX11_papersOf 80 = .ok (.iconst 1, 1) := by decide +kernel
theorem dX11_papersOf_81 : decode cX11_papersOf 81 = .ok (.iand, 1) := by decide +kernel
theorem dX11_papersOf_82 : decode cX11_papersOf 82 = .ok (.iconst 1, 1) := by decide +kernel
theorem dX11_papersOf_83 : decode cX11_papersOf 83 = .ok (.if_icmp .ne 15, 3) := by decide +kernel
theorem dX11_papersOf_86 : decode cX11_papersOf 86 = .ok (.aload_n 0, 1) := by decide +kernel
theorem dX11_papersOf_87 : decode cX11_papersOf 87 = .ok (.getfield 32, 3) := by decide +kernel
theorem dX11_papersOf_90 : decode cX11_papersOf 90 = .ok (.iload 6, 2) := by decide +kernel
theorem dX11_papersOf_92 : decode cX11_papersOf 92 = .ok (.iaload, 1) := by decide +kernel
theorem dX11_papersOf_93 : decode cX11_papersOf 93 = .ok (.iconst 1, 1) := by decide +kernel
theorem dX11_papersOf_94 : decode cX11_papersOf 94 = .ok (.iadd, 1) := by decide +kernel
theorem dX11_papersOf_95 : decode cX11_papersOf 95 = .ok (.goto 4, 3) := by decide +kernel
theorem dX11_papersOf_98 : decode cX11_papersOf 98 = .ok (.iconst 0, 1) := by decide +kernel
theorem dX11_papersOf_99 : decode cX11_papersOf 99 = .ok (.iastore, 1) := by decide +kernel
theorem dX11_papersOf_100 : decode cX11_papersOf 100 = .ok (.aload_n 0, 1) := by decide +kernel
theorem dX11_papersOf_101 : decode cX11_papersOf 101 = .ok (.getfield 32, 3) := by decide +kernel
theorem dX11_papersOf_104 : decode cX11_papersOf 104 = .ok (.iload 6, 2) := by decide +kernel
theorem dX11_papersOf_106 : decode cX11_papersOf 106 = .ok (.iaload, 1) := by decide +kernel
theorem dX11_papersOf_107 : decode cX11_papersOf 107 = .ok (.aload_n 0, 1) := by decide +kernel
theorem dX11_papersOf_108 : decode cX11_papersOf 108 = .ok (.getfield 12, 3) := by decide +kernel
theorem dX11_papersOf_111 : decode cX11_papersOf 111 = .ok (.getfield 62, 3) := by decide +kernel
theorem dX11_papersOf_114 : decode cX11_papersOf 114 = .ok (.getfield 149, 3) := by decide +kernel
theorem dX11_papersOf_117 : decode cX11_papersOf 117 = .ok (.if_icmp .lt 10, 3) := by decide +kernel
theorem dX11_papersOf_120 : decode cX11_papersOf 120 = .ok (.iload_n 3, 1) := by decide +kernel
theorem dX11_papersOf_121 : decode cX11_papersOf 121 = .ok (.iconst 1, 1) := by decide +kernel
theorem dX11_papersOf_122 : decode cX11_papersOf 122 = .ok (.iload 6, 2) := by decide +kernel
theorem dX11_papersOf_124 : decode cX11_papersOf 124 = .ok (.ishl, 1) := by decide +kernel
theorem dX11_papersOf_125 : decode cX11_papersOf 125 = .ok (.ior, 1) := by decide +kernel
theorem dX11_papersOf_126 : decode cX11_papersOf 126 = .ok (.istore_n 3, 1) := by decide +kernel
theorem dX11_papersOf_127 : decode cX11_papersOf 127 = .ok (.iinc 6 1, 3) := by decide +kernel
theorem dX11_papersOf_130 : decode cX11_papersOf 130 = .ok (.goto (-68), 3) := by decide +kernel
theorem dX11_papersOf_133 : decode cX11_papersOf 133 = .ok (.iinc 4 1, 3) := by decide +kernel
theorem dX11_papersOf_136 : decode cX11_papersOf 136 = .ok (.goto (-110), 3) := by decide +kernel
theorem dX11_papersOf_139 : decode cX11_papersOf 139 = .ok (.iload_n 3, 1) := by decide +kernel
theorem dX11_papersOf_140 : decode cX11_papersOf 140 = .ok (.ireturn, 1) := by decide +kernel
theorem dX11_isMetFrom_0 : decode cX11_isMetFrom 0 = .ok (.iconst 0, 1) := by decide +kernel
theorem dX11_isMetFrom_1 : decode cX11_isMetFrom 1 = .ok (.istore 4, 2) := by decide +kernel
theorem dX11_isMetFrom_3 : decode cX11_isMetFrom 3 = .ok (.iload 4, 2) := by decide +kernel
theorem dX11_isMetFrom_5 : decode cX11_isMetFrom 5 = .ok (.iload_n 3, 1) := by decide +kernel
theorem dX11_isMetFrom_6 : decode cX11_isMetFrom 6 = .ok (.if_icmp .ge 26, 3) := by decide +kernel
theorem dX11_isMetFrom_9 : decode cX11_isMetFrom 9 = .ok (.aload_n 0, 1) := by decide +kernel
theorem dX11_isMetFrom_10 : decode cX11_isMetFrom 10 = .ok (.getfield 12, 3) := by decide +kernel
theorem dX11_isMetFrom_13 : decode cX11_isMetFrom 13 = .ok (.iload_n 1, 1) := by decide +kernel
theorem dX11_isMetFrom_14 : decode cX11_isMetFrom 14 = .ok (.iload_n 2, 1) := by decide +kernel
theorem dX11_isMetFrom_15 : decode cX11_isMetFrom 15 = .ok (.iload 4, 2) := by decide +kernel
theorem dX11_isMetFrom_17 : decode cX11_isMetFrom 17 = .ok (.iadd, 1) := by decide +kernel
theorem dX11_isMetFrom_18 : decode cX11_isMetFrom 18 = .ok (.invokevirtual 142, 3) := by decide +kernel
theorem dX11_isMetFrom_21 : decode cX11_isMetFrom 21 = .ok (.ifCond .eq 5, 3) := by decide +kernel
theorem dX11_isMetFrom_24 : decode cX11_isMetFrom 24 = .ok (.iconst 1, 1) := by decide +kernel
theorem dX11_isMetFrom_25 : decode cX11_isMetFrom 25 = .ok (.ireturn, 1) := by decide +kernel
theorem dX11_isMetFrom_26 : decode cX11_isMetFrom 26 = .ok (.iinc 4 1, 3) := by decide +kernel
theorem dX11_isMetFrom_29 : decode cX11_isMetFrom 29 = .ok (.goto (-26), 3) := by decide +kernel
theorem dX11_isMetFrom_32 : decode cX11_isMetFrom 32 = .ok (.iconst 0, 1) := by decide +kernel
theorem dX11_isMetFrom_33 : decode cX11_isMetFrom 33 = .ok (.ireturn, 1) := by decide +kernel
