theorem dX6_init_0 : decode cX6_init 0 = .ok (.aload_n 0, 1) := by decide +kernel
theorem dX6_init_1 : decode cX6_init 1 = .ok (.invokespecial 5, 3) := by decide +kernel
theorem dX6_init_4 : decode cX6_init 4 = .ok (.aload_n 0, 1) := by decide +kernel
theorem dX6_init_5 : decode cX6_init 5 = .ok (.bipush 80, 2) := by decide +kernel
theorem dX6_init_7 : decode cX6_init 7 = .ok (.newarray .int, 2) := by decide +kernel
theorem dX6_init_9 : decode cX6_init 9 = .ok (.putfield 11, 3) := by decide +kernel
theorem dX6_init_12 : decode cX6_init 12 = .ok (.return_, 1) := by decide +kernel
theorem dX2_init_0 : decode cX2_init 0 = .ok (.aload_n 0, 1) := by decide +kernel
theorem dX2_init_1 : decode cX2_init 1 = .ok (.invokespecial 3, 3) := by decide +kernel
theorem dX2_init_4 : decode cX2_init 4 = .ok (.aload_n 0, 1) := by decide +kernel
theorem dX2_init_5 : decode cX2_init 5 = .ok (.bipush 24, 2) := by decide +kernel
theorem dX2_init_7 : decode cX2_init 7 = .ok (.newarray .int, 2) := by decide +kernel
theorem dX2_init_9 : decode cX2_init 9 = .ok (.putfield 9, 3) := by decide +kernel
theorem dX2_init_12 : decode cX2_init 12 = .ok (.aload_n 0, 1) := by decide +kernel
theorem dX2_init_13 : decode cX2_init 13 = .ok (.bipush 24, 2) := by decide +kernel
theorem dX2_init_15 : decode cX2_init 15 = .ok (.newarray .int, 2) := by decide +kernel
theorem dX2_init_17 : decode cX2_init 17 = .ok (.putfield 15, 3) := by decide +kernel
theorem dX2_init_20 : decode cX2_init 20 = .ok (.aload_n 0, 1) := by decide +kernel
theorem dX2_init_21 : decode cX2_init 21 = .ok (.sipush 640, 3) := by decide +kernel
theorem dX2_init_24 : decode cX2_init 24 = .ok (.newarray .int, 2) := by decide +kernel
theorem dX2_init_26 : decode cX2_init 26 = .ok (.putfield 18, 3) := by decide +kernel
theorem dX2_init_29 : decode cX2_init 29 = .ok (.aload_n 0, 1) := by decide +kernel
theorem dX2_init_30 : decode cX2_init 30 = .ok (.bipush 8, 2) := by decide +kernel
theorem dX2_init_32 : decode cX2_init 32 = .ok (.newarray .int, 2) := by decide +kernel
theorem dX2_init_34 : decode cX2_init 34 = .ok (.putfield 21, 3) := by decide +kernel
theorem dX2_init_37 : decode cX2_init 37 = .ok (.aload_n 0, 1) := by decide +kernel
theorem dX2_init_38 : decode cX2_init 38 = .ok (.bipush 8, 2) := by decide +kernel
theorem dX2_init_40 : decode cX2_init 40 = .ok (.newarray .int, 2) := by decide +kernel
theorem dX2_init_42 : decode cX2_init 42 = .ok (.putfield 24, 3) := by decide +kernel
theorem dX2_init_45 : decode cX2_init 45 = .ok (.aload_n 0, 1) := by decide +kernel
theorem dX2_init_46 : decode cX2_init 46 = .ok (.bipush 8, 2) := by decide +kernel
theorem dX2_init_48 : decode cX2_init 48 = .ok (.newarray .int, 2) := by decide +kernel
theorem dX2_init_50 : decode cX2_init 50 = .ok (.putfield 27, 3) := by decide +kernel
theorem dX2_init_53 : decode cX2_init 53 = .ok (.aload_n 0, 1) := by decide +kernel
theorem dX2_init_54 : decode cX2_init 54 = .ok (.bipush 8, 2) := by decide +kernel
theorem dX2_init_56 : decode cX2_init 56 = .ok (.newarray .int, 2) := by decide +kernel
theorem dX2_init_58 : decode cX2_init 58 = .ok (.putfield 30, 3) := by decide +kernel
theorem dX2_init_61 : decode cX2_init 61 = .ok (.aload_n 0, 1) := by decide +kernel
theorem dX2_init_62 : decode cX2_init 62 = .ok (.bipush 8, 2) := by decide +kernel
theorem dX2_init_64 : decode cX2_init 64 = .ok (.newarray .int, 2) := by decide +kernel
theorem dX2_init_66 : decode cX2_init 66 = .ok (.putfield 33, 3) := by decide +kernel
theorem dX2_init_69 : decode cX2_init 69 = .ok (.aload_n 0, 1) := by decide +kernel
theorem dX2_init_70 : decode cX2_init 70 = .ok (.bipush 8, 2) := by decide +kernel
theorem dX2_init_72 : decode cX2_init 72 = .ok (.newarray .int, 2) := by decide +kernel
theorem dX2_init_74 : decode cX2_init 74 = .ok (.putfield 36, 3) := by decide +kernel
theorem dX2_init_77 : decode cX2_init 77 = .ok (.return_, 1) := by decide +kernel
theorem dX1_init_0 : decode cX1_init 0 = .ok (.aload_n 0, 1) := by decide +kernel
theorem dX1_init_1 : decode cX1_init 1 = .ok (.invokespecial 3, 3) := by decide +kernel
theorem dX1_init_4 : decode cX1_init 4 = .ok (.aload_n 0, 1) := by decide +kernel
theorem dX1_init_5 : decode cX1_init 5 = .ok (.bipush 8, 2) := by decide +kernel
theorem dX1_init_7 : decode cX1_init 7 = .ok (.newarray .int, 2) := by decide +kernel
theorem dX1_init_9 : decode cX1_init 9 = .ok (.putfield 9, 3) := by decide +kernel
theorem dX1_init_12 : decode cX1_init 12 = .ok (.aload_n 0, 1) := by decide +kernel
theorem dX1_init_13 : decode cX1_init 13 = .ok (.bipush 8, 2) := by decide +kernel
theorem dX1_init_15 : decode cX1_init 15 = .ok (.newarray .int, 2) := by decide +kernel
theorem dX1_init_17 : decode cX1_init 17 = .ok (.putfield 15, 3) := by decide +kernel
theorem dX1_init_20 : decode cX1_init 20 = .ok (.aload_n 0, 1) := by decide +kernel
theorem dX1_init_21 : decode cX1_init 21 = .ok (.bipush 8, 2) := by decide +kernel
theorem dX1_init_23 : decode cX1_init 23 = .ok (.newarray .int, 2) := by decide +kernel
theorem dX1_init_25 : decode cX1_init 25 = .ok (.putfield 18, 3) := by decide +kernel
theorem dX1_init_28 : decode cX1_init 28 = .ok (.return_, 1) := by decide +kernel
theorem dX4_init_0 : decode cX4_init 0 = .ok (.aload_n 0, 1) := by decide +kernel
theorem dX4_init_1 : decode cX4_init 1 = .ok (.invokespecial 3, 3) := by decide +kernel
theorem dX4_init_4 : decode cX4_init 4 = .ok (.aload_n 0, 1) := by decide +kernel
theorem dX4_init_5 : decode cX4_init 5 = .ok (.bipush 64, 2) := by decide +kernel
theorem dX4_init_7 : decode cX4_init 7 = .ok (.newarray .int, 2) := by decide +kernel
theorem dX4_init_9 : decode cX4_init 9 = .ok (.putfield 9, 3) := by decide +kernel
theorem dX4_init_12 : decode cX4_init 12 = .ok (.aload_n 0, 1) := by decide +kernel
theorem dX4_init_13 : decode cX4_init 13 = .ok (.bipush 8, 2) := by decide +kernel
theorem dX4_init_15 : decode cX4_init 15 = .ok (.newarray .int, 2) := by decide +kernel
theorem dX4_init_17 : decode cX4_init 17 = .ok (.putfield 15, 3) := by decide +kernel
theorem dX4_init_20 : decode cX4_init 20 = .ok (.aload_n 0, 1) := by decide +kernel
theorem dX4_init_21 : decode cX4_init 21 = .ok (.sipush 256, 3) := by decide +kernel
theorem dX4_init_24 : decode cX4_init 24 = .ok (.newarray .long, 2) := by decide +kernel
theorem dX4_init_26 : decode cX4_init 26 = .ok (.putfield 18, 3) := by decide +kernel
theorem dX4_init_29 : decode cX4_init 29 = .ok (.aload_n 0, 1) := by decide +kernel
theorem dX4_init_30 : decode cX4_init 30 = .ok (.sipush 256, 3) := by decide +kernel
theorem dX4_init_33 : decode cX4_init 33 = .ok (.newarray .long, 2) := by decide +kernel
theorem dX4_init_35 : decode cX4_init 35 = .ok (.putfield 22, 3) := by decide +kernel
theorem dX4_init_38 : decode cX4_init 38 = .ok (.return_, 1) := by decide +kernel
theorem dX3_init_0 : decode cX3_init 0 = .ok (.aload_n 0, 1) := by decide +kernel
theorem dX3_init_1 : decode cX3_init 1 = .ok (.invokespecial 3, 3) := by decide +kernel
theorem dX3_init_4 : decode cX3_init 4 = .ok (.aload_n 0, 1) := by decide +kernel
theorem dX3_init_5 : decode cX3_init 5 = .ok (.bipush 8, 2) := by decide +kernel
theorem dX3_init_7 : decode cX3_init 7 = .ok (.newarray .int, 2) := by decide +kernel
theorem dX3_init_9 : decode cX3_init 9 = .ok (.putfield 9, 3) := by decide +kernel
theorem dX3_init_12 : decode cX3_init 12 = .ok (.aload_n 0, 1) := by decide +kernel
theorem dX3_init_13 : decode cX3_init 13 = .ok (.bipush 8, 2) := by decide +kernel
theorem dX3_init_15 : decode cX3_init 15 = .ok (.newarray .int, 2) := by decide +kernel
theorem dX3_init_17 : decode cX3_init 17 = .ok (.putfield 15, 3) := by decide +kernel
theorem dX3_init_20 : decode cX3_init 20 = .ok (.aload_n 0, 1) := by decide +kernel
theorem dX3_init_21 : decode cX3_init 21 = .ok (.bipush 8, 2) := by decide +kernel
theorem dX3_init_23 : decode cX3_init 23 = .ok (.newarray .int, 2) := by decide +kernel
theorem dX3_init_25 : decode cX3_init 25 = .ok (.putfield 18, 3) := by decide +kernel
theorem dX3_init_28 : decode cX3_init 28 = .ok (.aload_n 0, 1) := by decide +kernel
theorem dX3_init_29 : decode cX3_init 29 = .ok (.bipush 8, 2) := by decide +kernel
theorem dX3_init_31 : decode cX3_init 31 = .ok (.newarray .long, 2) := by decide +kernel
theorem dX3_init_33 : decode cX3_init 33 = .ok (.putfield 21, 3) := by decide +kernel
theorem dX3_init_36 : decode cX3_init 36 = .ok (.aload_n 0, 1) := by decide +kernel
theorem dX3_init_37 : decode cX3_init 37 = .ok (.bipush 8, 2) := by decide +kernel
theorem dX3_init_39 : decode cX3_init 39 = .ok (.newarray .int, 2) := by decide +kernel
theorem dX3_init_41 : decode cX3_init 41 = .ok (.putfield 25, 3) := by decide +kernel
theorem dX3_init_44 : decode cX3_init 44 = .ok (.return_, 1) := by decide +kernel
theorem dX5_init_0 : decode cX5_init 0 = .ok (.aload_n 0, 1) := by decide +kernel
theorem dX5_init_1 : decode cX5_init 1 = .ok (.invokespecial 5, 3) := by decide +kernel
theorem dX5_init_4 : decode cX5_init 4 = .ok (.aload_n 0, 1) := by decide +kernel
theorem dX5_init_5 : decode cX5_init 5 = .ok (.sipush 500, 3) := by decide +kernel
theorem dX5_init_8 : decode cX5_init 8 = .ok (.newarray .long, 2) := by decide +kernel
theorem dX5_init_10 : decode cX5_init 10 = .ok (.putfield 11, 3) := by decide +kernel
theorem dX5_init_13 : decode cX5_init 13 = .ok (.aload_n 0, 1) := by decide +kernel
theorem dX5_init_14 : decode cX5_init 14 = .ok (.sipush 500, 3) := by decide +kernel
theorem dX5_init_17 : decode cX5_init 17 = .ok (.newarray .long, 2) := by decide +kernel
theorem dX5_init_19 : decode cX5_init 19 = .ok (.putfield 15, 3) := by decide +kernel
theorem dX5_init_22 : decode cX5_init 22 = .ok (.return_, 1) := by decide +kernel
theorem dX0_init_0 : decode cX0_init 0 = .ok (.aload_n 0, 1) := by decide +kernel
theorem dX0_init_1 : decode cX0_init 1 = .ok (.invokespecial 3, 3) := by decide +kernel
theorem dX0_init_4 : decode cX0_init 4 = .ok (.aload_n 0, 1) := by decide +kernel
theorem dX0_init_5 : decode cX0_init 5 = .ok (.new 9, 3) := by decide +kernel
theorem dX0_init_8 : decode cX0_init 8 = .ok (.dup, 1) := by decide +kernel
theorem dX0_init_9 : decode cX0_init 9 = .ok (.invokespecial 11, 3) := by decide +kernel
theorem dX0_init_12 : decode cX0_init 12 = .ok (.putfield 12, 3) := by decide +kernel
theorem dX0_init_15 : decode cX0_init 15 = .ok (.aload_n 0, 1) := by decide +kernel
theorem dX0_init_16 : decode cX0_init 16 = .ok (.new 16, 3) := by decide +kernel
theorem dX0_init_19 : decode cX0_init 19 = .ok (.dup, 1) := by decide +kernel
theorem dX0_init_20 : decode cX0_init 20 = .ok (.invokespecial 18, 3) := by decide +kernel
theorem dX0_init_23 : decode cX0_init 23 = .ok (.putfield 19, 3) := by decide +kernel
theorem dX0_init_26 : decode cX0_init 26 = .ok (.aload_n 0, 1) := by decide +kernel
theorem dX0_init_27 : decode cX0_init 27 = .ok (.new 23, 3) := by decide +kernel
theorem dX0_init_30 : decode cX0_init 30 = .ok (.dup, 1) := by decide +kernel
theorem dX0_init_31 : decode cX0_init 31 = .ok (.invokespecial 25, 3) := by decide +kernel
theorem dX0_init_34 : decode cX0_init 34 = .ok (.putfield 26, 3) := by decide +kernel
theorem dX0_init_37 : decode cX0_init 37 = .ok (.aload_n 0, 1) := by decide +kernel
theorem dX0_init_38 : decode cX0_init 38 = .ok (.new 30, 3) := by decide +kernel
theorem dX0_init_41 : decode cX0_init 41 = .ok (.dup, 1) := by decide +kernel
theorem dX0_init_42 : decode cX0_init 42 = .ok (.invokespecial 32, 3) := by decide +kernel
theorem dX0_init_45 : decode cX0_init 45 = .ok (.putfield 33, 3) := by decide +kernel
theorem dX0_init_48 : decode cX0_init 48 = .ok (.aload_n 0, 1) := by decide +kernel
theorem dX0_init_49 : decode cX0_init 49 = .ok (.new 37, 3) := by decide +kernel
theorem dX0_init_52 : decode cX0_init 52 = .ok (.dup, 1) := by decide +kernel
theorem dX0_init_53 : decode cX0_init 53 = .ok (.invokespecial 39, 3) := by decide +kernel
theorem dX0_init_56 : decode cX0_init 56 = .ok (.putfield 40, 3) := by decide +kernel
theorem dX0_init_59 : decode cX0_init 59 = .ok (.aload_n 0, 1) := by decide +kernel
theorem dX0_init_60 : decode cX0_init 60 = .ok (.new 44, 3) := by decide +kernel
theorem dX0_init_63 : decode cX0_init 63 = .ok (.dup, 1) := by decide +kernel
theorem dX0_init_64 : decode cX0_init 64 = .ok (.invokespecial 46, 3) := by decide +kernel
theorem dX0_init_67 : decode cX0_init 67 = .ok (.putfield 47, 3) := by decide +kernel
theorem dX0_init_70 : decode cX0_init 70 = .ok (.aload_n 0, 1) := by decide +kernel
theorem dX0_init_71 : decode cX0_init 71 = .ok (.bipush 8, 2) := by decide +kernel
theorem dX0_init_73 : decode cX0_init 73 = .ok (.newarray .int, 2) := by decide +kernel
theorem dX0_init_75 : decode cX0_init 75 = .ok (.putfield 51, 3) := by decide +kernel
theorem dX0_init_78 : decode cX0_init 78 = .ok (.aload_n 0, 1) := by decide +kernel
theorem dX0_init_79 : decode cX0_init 79 = .ok (.new 44, 3) := by decide +kernel
theorem dX0_init_82 : decode cX0_init 82 = .ok (.dup, 1) := by decide +kernel
theorem dX0_init_83 : decode cX0_init 83 = .ok (.invokespecial 46, 3) := by decide +kernel
theorem dX0_init_86 : decode cX0_init 86 = .ok (.putfield 55, 3) := by decide +kernel
theorem dX0_init_89 : decode cX0_init 89 = .ok (.return_, 1) := by decide +kernel
theorem dX0_isTerm_0 : decode cX0_isTerm 0 = .ok (.iload_n 0, 1) := by decide +kernel
theorem dX0_isTerm_1 : decode cX0_isTerm 1 = .ok (.ifCond .lt 13, 3) := by decide +kernel
theorem dX0_isTerm_14 : decode cX0_isTerm 14 = .ok (.iconst 0, 1) := by decide +kernel
theorem dX0_isTerm_15 : decode cX0_isTerm 15 = .ok (.ireturn, 1) := by decide +kernel
theorem dX0_isTerm_4 : decode cX0_isTerm 4 = .ok (.iload_n 0, 1) := by decide +kernel
theorem dX0_isTerm_5 : decode cX0_isTerm 5 = .ok (.bipush 32, 2) := by decide +kernel
theorem dX0_isTerm_7 : decode cX0_isTerm 7 = .ok (.if_icmp .ge 7, 3) := by decide +kernel
theorem dX0_isTerm_10 : decode cX0_isTerm 10 = .ok (.iconst 1, 1) := by decide +kernel
theorem dX0_isTerm_11 : decode cX0_isTerm 11 = .ok (.goto 4, 3) := by decide +kernel
theorem dX6_at_0 : decode cX6_at 0 = .ok (.iload_n 0, 1) := by decide +kernel
theorem dX6_at_1 : decode cX6_at 1 = .ok (.iload_n 1, 1) := by decide +kernel
theorem dX6_at_2 : decode cX6_at 2 = .ok (.iconst 5, 1) := by decide +kernel
theorem dX6_at_3 : decode cX6_at 3 = .ok (.imul, 1) := by decide +kernel
theorem dX6_at_4 : decode cX6_at 4 = .ok (.ishl, 1) := by decide +kernel
theorem dX6_at_5 : decode cX6_at 5 = .ok (.ireturn, 1) := by decide +kernel
theorem dX6_pack_0 : decode cX6_pack 0 = .ok (.iload_n 0, 1) := by decide +kernel
theorem dX6_pack_1 : decode cX6_pack 1 = .ok (.iconst 0, 1) := by decide +kernel
theorem dX6_pack_2 : decode cX6_pack 2 = .ok (.invokestatic 15, 3) := by decide +kernel
theorem dX6_pack_5 : decode cX6_pack 5 = .ok (.iload_n 1, 1) := by decide +kernel
theorem dX6_pack_6 : decode cX6_pack 6 = .ok (.iconst 1, 1) := by decide +kernel
theorem dX6_pack_7 : decode cX6_pack 7 = .ok (.invokestatic 15, 3) := by decide +kernel
theorem dX6_pack_10 : decode cX6_pack 10 = .ok (.ior, 1) := by decide +kernel
theorem dX6_pack_11 : decode cX6_pack 11 = .ok (.iload_n 2, 1) := by decide +kernel
theorem dX6_pack_12 : decode cX6_pack 12 = .ok (.iconst 2, 1) := by decide +kernel
theorem dX6_pack_13 : decode cX6_pack 13 = .ok (.invokestatic 15, 3) := by decide +kernel
theorem dX6_pack_16 : decode cX6_pack 16 = .ok (.ior, 1) := by decide +kernel
theorem dX6_pack_17 : decode cX6_pack 17 = .ok (.ireturn, 1) := by decide +kernel
theorem dX6_has_0 : decode cX6_has 0 = .ok (.iconst 0, 1) := by decide +kernel
theorem dX6_has_1 : decode cX6_has 1 = .ok (.istore_n 2, 1) := by decide +kernel
theorem dX6_has_2 : decode cX6_has 2 = .ok (.iload_n 2, 1) := by decide +kernel
theorem dX6_has_3 : decode cX6_has 3 = .ok (.aload_n 0, 1) := by decide +kernel
theorem dX6_has_4 : decode cX6_has 4 = .ok (.getfield 19, 3) := by decide +kernel
theorem dX6_has_7 : decode cX6_has 7 = .ok (.if_icmp .ge 21, 3) := by decide +kernel
theorem dX6_has_10 : decode cX6_has 10 = .ok (.aload_n 0, 1) := by decide +kernel
theorem dX6_has_11 : decode cX6_has 11 = .ok (.getfield 11, 3) := by decide +kernel
theorem dX6_has_14 : decode cX6_has 14 = .ok (.iload_n 2, 1) := by decide +kernel
theorem dX6_has_15 : decode cX6_has 15 = .ok (.iaload, 1) := by decide +kernel
theorem dX6_has_16 : decode cX6_has 16 = .ok (.iload_n 1, 1) := by decide +kernel
theorem dX6_has_17 : decode cX6_has 17 = .ok (.if_icmp .ne 5, 3) := by decide +kernel
theorem dX6_has_22 : decode cX6_has 22 = .ok (.iinc 2 1, 3) := by decide +kernel
theorem dX6_has_25 : decode cX6_has 25 = .ok (.goto (-23), 3) := by decide +kernel
theorem dX6_has_20 : decode cX6_has 20 = .ok (.iconst 1, 1) := by decide +kernel
theorem dX6_has_21 : decode cX6_has 21 = .ok (.ireturn, 1) := by decide +kernel
theorem dX6_has_28 : decode cX6_has 28 = .ok (.iconst 0, 1) := by decide +kernel
theorem dX6_has_29 : decode cX6_has 29 = .ok (.ireturn, 1) := by decide +kernel
theorem dX6_add_0 : decode cX6_add 0 = .ok (.aload_n 0, 1) := by decide +kernel
theorem dX6_add_1 : decode cX6_add 1 = .ok (.getfield 11, 3) := by decide +kernel
theorem dX6_add_4 : decode cX6_add 4 = .ok (.aload_n 0, 1) := by decide +kernel
theorem dX6_add_5 : decode cX6_add 5 = .ok (.getfield 19, 3) := by decide +kernel
theorem dX6_add_8 : decode cX6_add 8 = .ok (.iload_n 1, 1) := by decide +kernel
theorem dX6_add_9 : decode cX6_add 9 = .ok (.iastore, 1) := by decide +kernel
theorem dX6_add_10 : decode cX6_add 10 = .ok (.aload_n 0, 1) := by decide +kernel
theorem dX6_add_11 : decode cX6_add 11 = .ok (.dup, 1) := by decide +kernel
theorem dX6_add_12 : decode cX6_add 12 = .ok (.getfield 19, 3) := by decide +kernel
theorem dX6_add_15 : decode cX6_add 15 = .ok (.iconst 1, 1) := by decide +kernel
theorem dX6_add_16 : decode cX6_add 16 = .ok (.iadd, 1) := by decide +kernel
theorem dX6_add_17 : decode cX6_add 17 = .ok (.putfield 19, 3) := by decide +kernel
theorem dX6_add_20 : decode cX6_add 20 = .ok (.return_, 1) := by decide +kernel
theorem dX2_slot_0 : decode cX2_slot 0 = .ok (.aload_n 0, 1) := by decide +kernel
theorem dX2_slot_1 : decode cX2_slot 1 = .ok (.getfield 9, 3) := by decide +kernel
theorem dX2_slot_4 : decode cX2_slot 4 = .ok (.iload_n 1, 1) := by decide +kernel
theorem dX2_slot_5 : decode cX2_slot 5 = .ok (.iconst 3, 1) := by decide +kernel
theorem dX2_slot_6 : decode cX2_slot 6 = .ok (.imul, 1) := by decide +kernel
theorem dX2_slot_7 : decode cX2_slot 7 = .ok (.iload_n 2, 1) := by decide +kernel
theorem dX2_slot_8 : decode cX2_slot 8 = .ok (.iadd, 1) := by decide +kernel
theorem dX2_slot_9 : decode cX2_slot 9 = .ok (.iaload, 1) := by decide +kernel
theorem dX2_slot_10 : decode cX2_slot 10 = .ok (.ireturn, 1) := by decide +kernel
theorem dX6_part_0 : decode cX6_part 0 = .ok (.iload_n 0, 1) := by decide +kernel
theorem dX6_part_1 : decode cX6_part 1 = .ok (.iload_n 1, 1) := by decide +kernel
theorem dX6_part_2 : decode cX6_part 2 = .ok (.iconst 5, 1) := by decide +kernel
theorem dX6_part_3 : decode cX6_part 3 = .ok (.imul, 1) := by decide +kernel
theorem dX6_part_4 : decode cX6_part 4 = .ok (.ishr, 1) := by decide +kernel
theorem dX6_part_5 : decode cX6_part 5 = .ok (.bipush 31, 2) := by decide +kernel
theorem dX6_part_7 : decode cX6_part 7 = .ok (.iand, 1) := by decide +kernel
theorem dX6_part_8 : decode cX6_part 8 = .ok (.ireturn, 1) := by decide +kernel
theorem dX2_agrees_0 : decode cX2_agrees 0 = .ok (.iconst 0, 1) := by decide +kernel
theorem dX2_agrees_1 : decode cX2_agrees 1 = .ok (.istore 4, 2) := by decide +kernel
theorem dX2_agrees_3 : decode cX2_agrees 3 = .ok (.iload 4, 2) := by decide +kernel
theorem dX2_agrees_5 : decode cX2_agrees 5 = .ok (.iload_n 3, 1) := by decide +kernel
theorem dX2_agrees_6 : decode cX2_agrees 6 = .ok (.if_icmp .ge 41, 3) := by decide +kernel
theorem dX2_agrees_9 : decode cX2_agrees 9 = .ok (.aload_n 0, 1) := by decide +kernel
theorem dX2_agrees_10 : decode cX2_agrees 10 = .ok (.iload_n 1, 1) := by decide +kernel
theorem dX2_agrees_11 : decode cX2_agrees 11 = .ok (.iload 4, 2) := by decide +kernel
theorem dX2_agrees_13 : decode cX2_agrees 13 = .ok (.invokevirtual 88, 3) := by decide +kernel
theorem dX2_agrees_16 : decode cX2_agrees 16 = .ok (.aload_n 0, 1) := by decide +kernel
theorem dX2_agrees_17 : decode cX2_agrees 17 = .ok (.iload_n 1, 1) := by decide +kernel
theorem dX2_agrees_18 : decode cX2_agrees 18 = .ok (.iload_n 3, 1) := by decide +kernel
theorem dX2_agrees_19 : decode cX2_agrees 19 = .ok (.invokevirtual 88, 3) := by decide +kernel
theorem dX2_agrees_22 : decode cX2_agrees 22 = .ok (.if_icmp .ne 19, 3) := by decide +kernel
theorem dX2_agrees_41 : decode cX2_agrees 41 = .ok (.iinc 4 1, 3) := by decide +kernel
theorem dX2_agrees_44 : decode cX2_agrees 44 = .ok (.goto (-41), 3) := by decide +kernel
theorem dX2_agrees_25 : decode cX2_agrees 25 = .ok (.iload_n 2, 1) := by decide +kernel
theorem dX2_agrees_26 : decode cX2_agrees 26 = .ok (.iload 4, 2) := by decide +kernel
theorem dX2_agrees_28 : decode cX2_agrees 28 = .ok (.invokestatic 85, 3) := by decide +kernel
theorem dX2_agrees_31 : decode cX2_agrees 31 = .ok (.iload_n 2, 1) := by decide +kernel
theorem dX2_agrees_32 : decode cX2_agrees 32 = .ok (.iload_n 3, 1) := by decide +kernel
theorem dX2_agrees_33 : decode cX2_agrees 33 = .ok (.invokestatic 85, 3) := by decide +kernel
theorem dX2_agrees_36 : decode cX2_agrees 36 = .ok (.if_icmp .eq 5, 3) := by decide +kernel
theorem dX2_agrees_39 : decode cX2_agrees 39 = .ok (.iconst 0, 1) := by decide +kernel
theorem dX2_agrees_40 : decode cX2_agrees 40 = .ok (.ireturn, 1) := by decide +kernel
theorem dX2_agrees_47 : decode cX2_agrees 47 = .ok (.iconst 1, 1) := by decide +kernel
theorem dX2_agrees_48 : decode cX2_agrees 48 = .ok (.ireturn, 1) := by decide +kernel
theorem dX2_fits_0 : decode cX2_fits 0 = .ok (.iconst 0, 1) := by decide +kernel
theorem dX2_fits_1 : decode cX2_fits 1 = .ok (.istore_n 3, 1) := by decide +kernel
theorem dX2_fits_2 : decode cX2_fits 2 = .ok (.iload_n 3, 1) := by decide +kernel
theorem dX2_fits_3 : decode cX2_fits 3 = .ok (.iconst 3, 1) := by decide +kernel
theorem dX2_fits_4 : decode cX2_fits 4 = .ok (.if_icmp .ge 51, 3) := by decide +kernel
theorem dX2_fits_7 : decode cX2_fits 7 = .ok (.aload_n 0, 1) := by decide +kernel
theorem dX2_fits_8 : decode cX2_fits 8 = .ok (.iload_n 1, 1) := by decide +kernel
theorem dX2_fits_9 : decode cX2_fits 9 = .ok (.iload_n 3, 1) := by decide +kernel
theorem dX2_fits_10 : decode cX2_fits 10 = .ok (.invokevirtual 88, 3) := by decide +kernel
theorem dX2_fits_13 : decode cX2_fits 13 = .ok (.istore 4, 2) := by decide +kernel
theorem dX2_fits_15 : decode cX2_fits 15 = .ok (.iload_n 2, 1) := by decide +kernel
theorem dX2_fits_16 : decode cX2_fits 16 = .ok (.iload_n 3, 1) := by decide +kernel
theorem dX2_fits_17 : decode cX2_fits 17 = .ok (.invokestatic 85, 3) := by decide +kernel
theorem dX2_fits_20 : decode cX2_fits 20 = .ok (.istore 5, 2) := by decide +kernel
theorem dX2_fits_22 : decode cX2_fits 22 = .ok (.iload 4, 2) := by decide +kernel
theorem dX2_fits_24 : decode cX2_fits 24 = .ok (.ifCond .lt 13, 3) := by decide +kernel
theorem dX2_fits_37 : decode cX2_fits 37 = .ok (.aload_n 0, 1) := by decide +kernel
theorem dX2_fits_38 : decode cX2_fits 38 = .ok (.iload_n 1, 1) := by decide +kernel
theorem dX2_fits_39 : decode cX2_fits 39 = .ok (.iload_n 2, 1) := by decide +kernel
theorem dX2_fits_40 : decode cX2_fits 40 = .ok (.iload_n 3, 1) := by decide +kernel
theorem dX2_fits_41 : decode cX2_fits 41 = .ok (.invokevirtual 91, 3) := by decide +kernel
theorem dX2_fits_44 : decode cX2_fits 44 = .ok (.ifCond .ne 5, 3) := by decide +kernel
theorem dX2_fits_49 : decode cX2_fits 49 = .ok (.iinc 3 1, 3) := by decide +kernel
theorem dX2_fits_52 : decode cX2_fits 52 = .ok (.goto (-50), 3) := by decide +kernel
theorem dX2_fits_47 : decode cX2_fits 47 = .ok (.iconst 0, 1) := by decide +kernel
theorem dX2_fits_48 : decode cX2_fits 48 = .ok (.ireturn, 1) := by decide +kernel
theorem dX2_fits_27 : decode cX2_fits 27 = .ok (.iload 5, 2) := by decide +kernel
theorem dX2_fits_29 : decode cX2_fits 29 = .ok (.iload 4, 2) := by decide +kernel
theorem dX2_fits_31 : decode cX2_fits 31 = .ok (.if_icmp .eq 18, 3) := by decide +kernel
theorem dX2_fits_34 : decode cX2_fits 34 = .ok (.goto 13, 3) := by decide +kernel
theorem dX2_fits_55 : decode cX2_fits 55 = .ok (.iconst 1, 1) := by decide +kernel
theorem dX2_fits_56 : decode cX2_fits 56 = .ok (.ireturn, 1) := by decide +kernel
theorem dX2_meet_0 : decode cX2_meet 0 = .ok (.aload_n 0, 1) := by decide +kernel
theorem dX2_meet_1 : decode cX2_meet 1 = .ok (.getfield 21, 3) := by decide +kernel
theorem dX2_meet_4 : decode cX2_meet 4 = .ok (.iload_n 1, 1) := by decide +kernel
theorem dX2_meet_5 : decode cX2_meet 5 = .ok (.iaload, 1) := by decide +kernel
theorem dX2_meet_6 : decode cX2_meet 6 = .ok (.bipush 80, 2) := by decide +kernel
theorem dX2_meet_8 : decode cX2_meet 8 = .ok (.if_icmp .ge 12, 3) := by decide +kernel
theorem dX2_meet_20 : decode cX2_meet 20 = .ok (.return_, 1) := by decide +kernel
theorem dX2_meet_11 : decode cX2_meet 11 = .ok (.aload_n 0, 1) := by decide +kernel
theorem dX2_meet_12 : decode cX2_meet 12 = .ok (.iload_n 1, 1) := by decide +kernel
theorem dX2_meet_13 : decode cX2_meet 13 = .ok (.iload_n 2, 1) := by decide +kernel
theorem dX2_meet_14 : decode cX2_meet 14 = .ok (.invokevirtual 82, 3) := by decide +kernel
theorem dX2_meet_17 : decode cX2_meet 17 = .ok (.ifCond .ne 4, 3) := by decide +kernel
theorem dX2_meet_21 : decode cX2_meet 21 = .ok (.aload_n 0, 1) := by decide +kernel
theorem dX2_meet_22 : decode cX2_meet 22 = .ok (.getfield 18, 3) := by decide +kernel
theorem dX2_meet_25 : decode cX2_meet 25 = .ok (.iload_n 1, 1) := by decide +kernel
theorem dX2_meet_26 : decode cX2_meet 26 = .ok (.bipush 80, 2) := by decide +kernel
theorem dX2_meet_28 : decode cX2_meet 28 = .ok (.imul, 1) := by decide +kernel
theorem dX2_meet_29 : decode cX2_meet 29 = .ok (.aload_n 0, 1) := by decide +kernel
theorem dX2_meet_30 : decode cX2_meet 30 = .ok (.getfield 21, 3) := by decide +kernel
theorem dX2_meet_33 : decode cX2_meet 33 = .ok (.iload_n 1, 1) := by decide +kernel
theorem dX2_meet_34 : decode cX2_meet 34 = .ok (.iaload, 1) := by decide +kernel
theorem dX2_meet_35 : decode cX2_meet 35 = .ok (.iadd, 1) := by decide +kernel
theorem dX2_meet_36 : decode cX2_meet 36 = .ok (.iload_n 2, 1) := by decide +kernel
theorem dX2_meet_37 : decode cX2_meet 37 = .ok (.iastore, 1) := by decide +kernel
theorem dX2_meet_38 : decode cX2_meet 38 = .ok (.aload_n 0, 1) := by decide +kernel
theorem dX2_meet_39 : decode cX2_meet 39 = .ok (.getfield 21, 3) := by decide +kernel
theorem dX2_meet_42 : decode cX2_meet 42 = .ok (.iload_n 1, 1) := by decide +kernel
theorem dX2_meet_43 : decode cX2_meet 43 = .ok (.dup2, 1) := by decide +kernel
theorem dX2_meet_44 : decode cX2_meet 44 = .ok (.iaload, 1) := by decide +kernel
theorem dX2_meet_45 : decode cX2_meet 45 = .ok (.iconst 1, 1) := by decide +kernel
theorem dX2_meet_46 : decode cX2_meet 46 = .ok (.iadd, 1) := by decide +kernel
theorem dX2_meet_47 : decode cX2_meet 47 = .ok (.iastore, 1) := by decide +kernel
theorem dX2_meet_48 : decode cX2_meet 48 = .ok (.iconst 0, 1) := by decide +kernel
theorem dX2_meet_49 : decode cX2_meet 49 = .ok (.istore_n 3, 1) := by decide +kernel
theorem dX2_meet_50 : decode cX2_meet 50 = .ok (.iload_n 3, 1) := by decide +kernel
theorem dX2_meet_51 : decode cX2_meet 51 = .ok (.iconst 3, 1) := by decide +kernel
theorem dX2_meet_52 : decode cX2_meet 52 = .ok (.if_icmp .ge 29, 3) := by decide +kernel
theorem dX2_meet_55 : decode cX2_meet 55 = .ok (.aload_n 0, 1) := by decide +kernel
theorem dX2_meet_56 : decode cX2_meet 56 = .ok (.getfield 15, 3) := by decide +kernel
theorem dX2_meet_59 : decode cX2_meet 59 = .ok (.iload_n 1, 1) := by decide +kernel
theorem dX2_meet_60 : decode cX2_meet 60 = .ok (.iconst 3, 1) := by decide +kernel
theorem dX2_meet_61 : decode cX2_meet 61 = .ok (.imul, 1) := by decide +kernel
theorem dX2_meet_62 : decode cX2_meet 62 = .ok (.iload_n 3, 1) := by decide +kernel
theorem dX2_meet_63 : decode cX2_meet 63 = .ok (.iadd, 1) := by decide +kernel
theorem dX2_meet_64 : decode cX2_meet 64 = .ok (.dup2, 1) := by decide +kernel
theorem dX2_meet_65 : decode cX2_meet 65 = .ok (.iaload, 1) := by decide +kernel
theorem dX2_meet_66 : decode cX2_meet 66 = .ok (.iconst 1, 1) := by decide +kernel
theorem dX2_meet_67 : decode cX2_meet 67 = .ok (.iload_n 2, 1) := by decide +kernel
theorem dX2_meet_68 : decode cX2_meet 68 = .ok (.iload_n 3, 1) := by decide +kernel
theorem dX2_meet_69 : decode cX2_meet 69 = .ok (.invokestatic 85, 3) := by decide +kernel
theorem dX2_meet_72 : decode cX2_meet 72 = .ok (.ishl, 1) := by decide +kernel
theorem dX2_meet_73 : decode cX2_meet 73 = .ok (.ior, 1) := by decide +kernel
theorem dX2_meet_74 : decode cX2_meet 74 = .ok (.iastore, 1) := by decide +kernel
theorem dX2_meet_75 : decode cX2_meet 75 = .ok (.iinc 3 1, 3) := by decide +kernel
theorem dX2_meet_78 : decode cX2_meet 78 = .ok (.goto (-28), 3) := by decide +kernel
theorem dX2_meet_81 : decode cX2_meet 81 = .ok (.return_, 1) := by decide +kernel
theorem dX2_meetAll_0 : decode cX2_meetAll 0 = .ok (.iconst 0, 1) := by decide +kernel
theorem dX2_meetAll_1 : decode cX2_meetAll 1 = .ok (.istore_n 2, 1) := by decide +kernel
theorem dX2_meetAll_2 : decode cX2_meetAll 2 = .ok (.iload_n 2, 1) := by decide +kernel
theorem dX2_meetAll_3 : decode cX2_meetAll 3 = .ok (.aload_n 0, 1) := by decide +kernel
theorem dX2_meetAll_4 : decode cX2_meetAll 4 = .ok (.getfield 39, 3) := by decide +kernel
theorem dX2_meetAll_7 : decode cX2_meetAll 7 = .ok (.if_icmp .ge 15, 3) := by decide +kernel
theorem dX2_meetAll_10 : decode cX2_meetAll 10 = .ok (.aload_n 0, 1) := by decide +kernel
theorem dX2_meetAll_11 : decode cX2_meetAll 11 = .ok (.iload_n 2, 1) := by decide +kernel
theorem dX2_meetAll_12 : decode cX2_meetAll 12 = .ok (.iload_n 1, 1) := by decide +kernel
theorem dX2_meetAll_13 : decode cX2_meetAll 13 = .ok (.invokevirtual 75, 3) := by decide +kernel
theorem dX2_meetAll_16 : decode cX2_meetAll 16 = .ok (.iinc 2 1, 3) := by decide +kernel
theorem dX2_meetAll_19 : decode cX2_meetAll 19 = .ok (.goto (-17), 3) := by decide +kernel
theorem dX2_meetAll_22 : decode cX2_meetAll 22 = .ok (.return_, 1) := by decide +kernel
theorem dX0_triple_0 : decode cX0_triple 0 = .ok (.iload_n 1, 1) := by decide +kernel
theorem dX0_triple_1 : decode cX0_triple 1 = .ok (.invokestatic 58, 3) := by decide +kernel
theorem dX0_triple_4 : decode cX0_triple 4 = .ok (.ifCond .eq 17, 3) := by decide +kernel
theorem dX0_triple_21 : decode cX0_triple 21 = .ok (.bipush (-2), 2) := by decide +kernel
theorem dX0_triple_23 : decode cX0_triple 23 = .ok (.ireturn, 1) := by decide +kernel
theorem dX0_triple_7 : decode cX0_triple 7 = .ok (.iload_n 2, 1) := by decide +kernel
theorem dX0_triple_8 : decode cX0_triple 8 = .ok (.invokestatic 58, 3) := by decide +kernel
theorem dX0_triple_11 : decode cX0_triple 11 = .ok (.ifCond .eq 10, 3) := by decide +kernel
theorem dX0_triple_14 : decode cX0_triple 14 = .ok (.iload_n 3, 1) := by decide +kernel
theorem dX0_triple_15 : decode cX0_triple 15 = .ok (.invokestatic 58, 3) := by decide +kernel
theorem dX0_triple_18 : decode cX0_triple 18 = .ok (.ifCond .ne 6, 3) := by decide +kernel
theorem dX0_triple_24 : decode cX0_triple 24 = .ok (.iload_n 1, 1) := by decide +kernel
theorem dX0_triple_25 : decode cX0_triple 25 = .ok (.iload_n 2, 1) := by decide +kernel
theorem dX0_triple_26 : decode cX0_triple 26 = .ok (.iload_n 3, 1) := by decide +kernel
theorem dX0_triple_27 : decode cX0_triple 27 = .ok (.invokestatic 62, 3) := by decide +kernel
theorem dX0_triple_30 : decode cX0_triple 30 = .ok (.istore 4, 2) := by decide +kernel
theorem dX0_triple_32 : decode cX0_triple 32 = .ok (.aload_n 0, 1) := by decide +kernel
theorem dX0_triple_33 : decode cX0_triple 33 = .ok (.getfield 12, 3) := by decide +kernel
theorem dX0_triple_36 : decode cX0_triple 36 = .ok (.iload 4, 2) := by decide +kernel
theorem dX0_triple_38 : decode cX0_triple 38 = .ok (.invokevirtual 66, 3) := by decide +kernel
theorem dX0_triple_41 : decode cX0_triple 41 = .ok (.ifCond .eq 11, 3) := by decide +kernel
theorem dX0_triple_52 : decode cX0_triple 52 = .ok (.aload_n 0, 1) := by decide +kernel
theorem dX0_triple_53 : decode cX0_triple 53 = .ok (.getfield 12, 3) := by decide +kernel
theorem dX0_triple_56 : decode cX0_triple 56 = .ok (.getfield 69, 3) := by decide +kernel
theorem dX0_triple_59 : decode cX0_triple 59 = .ok (.bipush 80, 2) := by decide +kernel
theorem dX0_triple_61 : decode cX0_triple 61 = .ok (.if_icmp .lt 6, 3) := by decide +kernel
theorem dX0_triple_67 : decode cX0_triple 67 = .ok (.aload_n 0, 1) := by decide +kernel
theorem dX0_triple_68 : decode cX0_triple 68 = .ok (.getfield 12, 3) := by decide +kernel
theorem dX0_triple_71 : decode cX0_triple 71 = .ok (.iload 4, 2) := by decide +kernel
theorem dX0_triple_73 : decode cX0_triple 73 = .ok (.invokevirtual 73, 3) := by decide +kernel
theorem dX0_triple_76 : decode cX0_triple 76 = .ok (.aload_n 0, 1) := by decide +kernel
theorem dX0_triple_77 : decode cX0_triple 77 = .ok (.getfield 19, 3) := by decide +kernel
theorem dX0_triple_80 : decode cX0_triple 80 = .ok (.iload 4, 2) := by decide +kernel
theorem dX0_triple_82 : decode cX0_triple 82 = .ok (.invokevirtual 77, 3) := by decide +kernel
theorem dX0_triple_85 : decode cX0_triple 85 = .ok (.aload_n 0, 1) := by decide +kernel
theorem dX0_triple_86 : decode cX0_triple 86 = .ok (.getfield 12, 3) := by decide +kernel
theorem dX0_triple_89 : decode cX0_triple 89 = .ok (.getfield 69, 3) := by decide +kernel
theorem dX0_triple_92 : decode cX0_triple 92 = .ok (.ireturn, 1) := by decide +kernel
theorem dX0_triple_64 : decode cX0_triple 64 = .ok (.bipush (-4), 2) := by decide +kernel
theorem dX0_triple_66 : decode cX0_triple 66 = .ok (.ireturn, 1) := by decide +kernel
theorem dX0_triple_44 : decode cX0_triple 44 = .ok (.aload_n 0, 1) := by decide +kernel
theorem dX0_triple_45 : decode cX0_triple 45 = .ok (.getfield 12, 3) := by decide +kernel
theorem dX0_triple_48 : decode cX0_triple 48 = .ok (.getfield 69, 3) := by decide +kernel
theorem dX0_triple_51 : decode cX0_triple 51 = .ok (.ireturn, 1) := by decide +kernel
theorem dX0_isVariable_0 : decode cX0_isVariable 0 = .ok (.iload_n 0, 1) := by decide +kernel
theorem dX0_isVariable_1 : decode cX0_isVariable 1 = .ok (.ifCond .ge 13, 3) := by decide +kernel
theorem dX0_isVariable_14 : decode cX0_isVariable 14 = .ok (.iconst 0, 1) := by decide +kernel
theorem dX0_isVariable_15 : decode cX0_isVariable 15 = .ok (.ireturn, 1) := by decide +kernel
theorem dX0_isVariable_4 : decode cX0_isVariable 4 = .ok (.iload_n 0, 1) := by decide +kernel
theorem dX0_isVariable_5 : decode cX0_isVariable 5 = .ok (.bipush (-8), 2) := by decide +kernel
theorem dX0_isVariable_7 : decode cX0_isVariable 7 = .ok (.if_icmp .lt 7, 3) := by decide +kernel
theorem dX0_isVariable_10 : decode cX0_isVariable 10 = .ok (.iconst 1, 1) := by decide +kernel
theorem dX0_isVariable_11 : decode cX0_isVariable 11 = .ok (.goto 4, 3) := by decide +kernel
theorem dX0_isSlot_0 : decode cX0_isSlot 0 = .ok (.iload_n 0, 1) := by decide +kernel
theorem dX0_isSlot_1 : decode cX0_isSlot 1 = .ok (.invokestatic 58, 3) := by decide +kernel
theorem dX0_isSlot_4 : decode cX0_isSlot 4 = .ok (.ifCond .ne 10, 3) := by decide +kernel
theorem dX0_isSlot_14 : decode cX0_isSlot 14 = .ok (.iconst 1, 1) := by decide +kernel
theorem dX0_isSlot_15 : decode cX0_isSlot 15 = .ok (.goto 4, 3) := by decide +kernel
theorem dX0_isSlot_19 : decode cX0_isSlot 19 = .ok (.ireturn, 1) := by decide +kernel
theorem dX0_isSlot_7 : decode cX0_isSlot 7 = .ok (.iload_n 0, 1) := by decide +kernel
theorem dX0_isSlot_8 : decode cX0_isSlot 8 = .ok (.invokestatic 102, 3) := by decide +kernel
theorem dX0_isSlot_11 : decode cX0_isSlot 11 = .ok (.ifCond .eq 7, 3) := by decide +kernel
theorem dX0_isSlot_18 : decode cX0_isSlot 18 = .ok (.iconst 0, 1) := by decide +kernel
theorem dX0_indexOf_0 : decode cX0_indexOf 0 = .ok (.iconst (-1), 1) := by decide +kernel
theorem dX0_indexOf_1 : decode cX0_indexOf 1 = .ok (.iload_n 0, 1) := by decide +kernel
theorem dX0_indexOf_2 : decode cX0_indexOf 2 = .ok (.isub, 1) := by decide +kernel
theorem dX0_indexOf_3 : decode cX0_indexOf 3 = .ok (.ireturn, 1) := by decide +kernel
theorem dX2_putSlot_0 : decode cX2_putSlot 0 = .ok (.aload_n 0, 1) := by decide +kernel
theorem dX2_putSlot_1 : decode cX2_putSlot 1 = .ok (.getfield 9, 3) := by decide +kernel
theorem dX2_putSlot_4 : decode cX2_putSlot 4 = .ok (.iload_n 1, 1) := by decide +kernel
theorem dX2_putSlot_5 : decode cX2_putSlot 5 = .ok (.iconst 3, 1) := by decide +kernel
theorem dX2_putSlot_6 : decode cX2_putSlot 6 = .ok (.imul, 1) := by decide +kernel
theorem dX2_putSlot_7 : decode cX2_putSlot 7 = .ok (.iload_n 2, 1) := by decide +kernel
theorem dX2_putSlot_8 : decode cX2_putSlot 8 = .ok (.iadd, 1) := by decide +kernel
theorem dX2_putSlot_9 : decode cX2_putSlot 9 = .ok (.iload_n 3, 1) := by decide +kernel
theorem dX2_putSlot_10 : decode cX2_putSlot 10 = .ok (.iastore, 1) := by decide +kernel
theorem dX2_putSlot_11 : decode cX2_putSlot 11 = .ok (.iload_n 3, 1) := by decide +kernel
theorem dX2_putSlot_12 : decode cX2_putSlot 12 = .ok (.ifCond .ge 33, 3) := by decide +kernel
theorem dX2_putSlot_45 : decode cX2_putSlot 45 = .ok (.return_, 1) := by decide +kernel
theorem dX2_putSlot_15 : decode cX2_putSlot 15 = .ok (.aload_n 0, 1) := by decide +kernel
theorem dX2_putSlot_16 : decode cX2_putSlot 16 = .ok (.getfield 24, 3) := by decide +kernel
theorem dX2_putSlot_19 : decode cX2_putSlot 19 = .ok (.iload_n 1, 1) := by decide +kernel
theorem dX2_putSlot_20 : decode cX2_putSlot 20 = .ok (.dup2, 1) := by decide +kernel
theorem dX2_putSlot_21 : decode cX2_putSlot 21 = .ok (.iaload, 1) := by decide +kernel
theorem dX2_putSlot_22 : decode cX2_putSlot 22 = .ok (.iconst 1, 1) := by decide +kernel
theorem dX2_putSlot_23 : decode cX2_putSlot 23 = .ok (.iload_n 3, 1) := by decide +kernel
theorem dX2_putSlot_24 : decode cX2_putSlot 24 = .ok (.invokestatic 79, 3) := by decide +kernel
theorem dX2_putSlot_27 : decode cX2_putSlot 27 = .ok (.ishl, 1) := by decide +kernel
theorem dX2_putSlot_28 : decode cX2_putSlot 28 = .ok (.ior, 1) := by decide +kernel
theorem dX2_putSlot_29 : decode cX2_putSlot 29 = .ok (.iastore, 1) := by decide +kernel
theorem dX2_putSlot_30 : decode cX2_putSlot 30 = .ok (.aload_n 0, 1) := by decide +kernel
theorem dX2_putSlot_31 : decode cX2_putSlot 31 = .ok (.getfield 27, 3) := by decide +kernel
theorem dX2_putSlot_34 : decode cX2_putSlot 34 = .ok (.iload_n 3, 1) := by decide +kernel
theorem dX2_putSlot_35 : decode cX2_putSlot 35 = .ok (.invokestatic 79, 3) := by decide +kernel
theorem dX2_putSlot_38 : decode cX2_putSlot 38 = .ok (.dup2, 1) := by decide +kernel
theorem dX2_putSlot_39 : decode cX2_putSlot 39 = .ok (.iaload, 1) := by decide +kernel
theorem dX2_putSlot_40 : decode cX2_putSlot 40 = .ok (.iconst 1, 1) := by decide +kernel
theorem dX2_putSlot_41 : decode cX2_putSlot 41 = .ok (.iload_n 1, 1) := by decide +kernel
theorem dX2_putSlot_42 : decode cX2_putSlot 42 = .ok (.ishl, 1) := by decide +kernel
theorem dX2_putSlot_43 : decode cX2_putSlot 43 = .ok (.ior, 1) := by decide +kernel
theorem dX2_putSlot_44 : decode cX2_putSlot 44 = .ok (.iastore, 1) := by decide +kernel
theorem dX2_add_0 : decode cX2_add 0 = .ok (.aload_n 0, 1) := by decide +kernel
theorem dX2_add_1 : decode cX2_add 1 = .ok (.getfield 39, 3) := by decide +kernel
theorem dX2_add_4 : decode cX2_add 4 = .ok (.istore 5, 2) := by decide +kernel
theorem dX2_add_6 : decode cX2_add 6 = .ok (.aload_n 0, 1) := by decide +kernel
theorem dX2_add_7 : decode cX2_add 7 = .ok (.dup, 1) := by decide +kernel
theorem dX2_add_8 : decode cX2_add 8 = .ok (.getfield 39, 3) := by decide +kernel
theorem dX2_add_11 : decode cX2_add 11 = .ok (.iconst 1, 1) := by decide +kernel
theorem dX2_add_12 : decode cX2_add 12 = .ok (.iadd, 1) := by decide +kernel
theorem dX2_add_13 : decode cX2_add 13 = .ok (.putfield 39, 3) := by decide +kernel
theorem dX2_add_16 : decode cX2_add 16 = .ok (.aload_n 0, 1) := by decide +kernel
theorem dX2_add_17 : decode cX2_add 17 = .ok (.iload 5, 2) := by decide +kernel
theorem dX2_add_19 : decode cX2_add 19 = .ok (.iconst 0, 1) := by decide +kernel
theorem dX2_add_20 : decode cX2_add 20 = .ok (.iload_n 1, 1) := by decide +kernel
theorem dX2_add_21 : decode cX2_add 21 = .ok (.invokevirtual 65, 3) := by decide +kernel
theorem dX2_add_24 : decode cX2_add 24 = .ok (.aload_n 0, 1) := by decide +kernel
theorem dX2_add_25 : decode cX2_add 25 = .ok (.iload 5, 2) := by decide +kernel
theorem dX2_add_27 : decode cX2_add 27 = .ok (.iconst 1, 1) := by decide +kernel
theorem dX2_add_28 : decode cX2_add 28 = .ok (.iload_n 2, 1) := by decide +kernel
theorem dX2_add_29 : decode cX2_add 29 = .ok (.invokevirtual 65, 3) := by decide +kernel
theorem dX2_add_32 : decode cX2_add 32 = .ok (.aload_n 0, 1) := by decide +kernel
theorem dX2_add_33 : decode cX2_add 33 = .ok (.iload 5, 2) := by decide +kernel
theorem dX2_add_35 : decode cX2_add 35 = .ok (.iconst 2, 1) := by decide +kernel
theorem dX2_add_36 : decode cX2_add 36 = .ok (.iload_n 3, 1) := by decide +kernel
theorem dX2_add_37 : decode cX2_add 37 = .ok (.invokevirtual 65, 3) := by decide +kernel
theorem dX2_add_40 : decode cX2_add 40 = .ok (.aload_n 0, 1) := by decide +kernel
theorem dX2_add_41 : decode cX2_add 41 = .ok (.getfield 30, 3) := by decide +kernel
theorem dX2_add_44 : decode cX2_add 44 = .ok (.iload 5, 2) := by decide +kernel
theorem dX2_add_46 : decode cX2_add 46 = .ok (.iconst (-1), 1) := by decide +kernel
theorem dX2_add_47 : decode cX2_add 47 = .ok (.iastore, 1) := by decide +kernel
theorem dX2_add_48 : decode cX2_add 48 = .ok (.aload_n 0, 1) := by decide +kernel
theorem dX2_add_49 : decode cX2_add 49 = .ok (.getfield 33, 3) := by decide +kernel
theorem dX2_add_52 : decode cX2_add 52 = .ok (.iload 5, 2) := by decide +kernel
theorem dX2_add_54 : decode cX2_add 54 = .ok (.iconst (-1), 1) := by decide +kernel
theorem dX2_add_55 : decode cX2_add 55 = .ok (.iastore, 1) := by decide +kernel
theorem dX2_add_56 : decode cX2_add 56 = .ok (.aload_n 0, 1) := by decide +kernel
theorem dX2_add_57 : decode cX2_add 57 = .ok (.dup, 1) := by decide +kernel
theorem dX2_add_58 : decode cX2_add 58 = .ok (.getfield 43, 3) := by decide +kernel
theorem dX2_add_61 : decode cX2_add 61 = .ok (.iconst 1, 1) := by decide +kernel
theorem dX2_add_62 : decode cX2_add 62 = .ok (.iload 5, 2) := by decide +kernel
theorem dX2_add_64 : decode cX2_add 64 = .ok (.ishl, 1) := by decide +kernel
theorem dX2_add_65 : decode cX2_add 65 = .ok (.ior, 1) := by decide +kernel
theorem dX2_add_66 : decode cX2_add 66 = .ok (.putfield 43, 3) := by decide +kernel
theorem dX2_add_69 : decode cX2_add 69 = .ok (.iconst 0, 1) := by decide +kernel
theorem dX2_add_70 : decode cX2_add 70 = .ok (.istore 6, 2) := by decide +kernel
theorem dX2_add_72 : decode cX2_add 72 = .ok (.iload 6, 2) := by decide +kernel
theorem dX2_add_74 : decode cX2_add 74 = .ok (.aload 4, 2) := by decide +kernel
theorem dX2_add_76 : decode cX2_add 76 = .ok (.getfield 69, 3) := by decide +kernel
theorem dX2_add_79 : decode cX2_add 79 = .ok (.if_icmp .ge 23, 3) := by decide +kernel
theorem dX2_add_82 : decode cX2_add 82 = .ok (.aload_n 0, 1) := by decide +kernel
theorem dX2_add_83 : decode cX2_add 83 = .ok (.iload 5, 2) := by decide +kernel
theorem dX2_add_85 : decode cX2_add 85 = .ok (.aload 4, 2) := by decide +kernel
theorem dX2_add_87 : decode cX2_add 87 = .ok (.getfield 72, 3) := by decide +kernel
theorem dX2_add_90 : decode cX2_add 90 = .ok (.iload 6, 2) := by decide +kernel
theorem dX2_add_92 : decode cX2_add 92 = .ok (.iaload, 1) := by decide +kernel
theorem dX2_add_93 : decode cX2_add 93 = .ok (.invokevirtual 75, 3) := by decide +kernel
theorem dX2_add_96 : decode cX2_add 96 = .ok (.iinc 6 1, 3) := by decide +kernel
theorem dX2_add_99 : decode cX2_add 99 = .ok (.goto (-27), 3) := by decide +kernel
theorem dX2_add_102 : decode cX2_add 102 = .ok (.iload 5, 2) := by decide +kernel
theorem dX2_add_104 : decode cX2_add 104 = .ok (.ireturn, 1) := by decide +kernel
theorem dX0_pattern_0 : decode cX0_pattern 0 = .ok (.iload_n 1, 1) := by decide +kernel
theorem dX0_pattern_1 : decode cX0_pattern 1 = .ok (.invokestatic 80, 3) := by decide +kernel
theorem dX0_pattern_4 : decode cX0_pattern 4 = .ok (.ifCond .eq 17, 3) := by decide +kernel
theorem dX0_pattern_21 : decode cX0_pattern 21 = .ok (.bipush (-2), 2) := by decide +kernel
theorem dX0_pattern_23 : decode cX0_pattern 23 = .ok (.ireturn, 1) := by decide +kernel
theorem dX0_pattern_7 : decode cX0_pattern 7 = .ok (.iload_n 2, 1) := by decide +kernel
theorem dX0_pattern_8 : decode cX0_pattern 8 = .ok (.invokestatic 80, 3) := by decide +kernel
theorem dX0_pattern_11 : decode cX0_pattern 11 = .ok (.ifCond .eq 10, 3) := by decide +kernel
theorem dX0_pattern_14 : decode cX0_pattern 14 = .ok (.iload_n 3, 1) := by decide +kernel
theorem dX0_pattern_15 : decode cX0_pattern 15 = .ok (.invokestatic 80, 3) := by decide +kernel
theorem dX0_pattern_18 : decode cX0_pattern 18 = .ok (.ifCond .ne 6, 3) := by decide +kernel
theorem dX0_pattern_24 : decode cX0_pattern 24 = .ok (.aload_n 0, 1) := by decide +kernel
theorem dX0_pattern_25 : decode cX0_pattern 25 = .ok (.getfield 19, 3) := by decide +kernel
theorem dX0_pattern_28 : decode cX0_pattern 28 = .ok (.getfield 83, 3) := by decide +kernel
theorem dX0_pattern_31 : decode cX0_pattern 31 = .ok (.bipush 8, 2) := by decide +kernel
theorem dX0_pattern_33 : decode cX0_pattern 33 = .ok (.if_icmp .lt 6, 3) := by decide +kernel
theorem dX0_pattern_39 : decode cX0_pattern 39 = .ok (.aload_n 0, 1) := by decide +kernel
theorem dX0_pattern_40 : decode cX0_pattern 40 = .ok (.getfield 19, 3) := by decide +kernel
theorem dX0_pattern_43 : decode cX0_pattern 43 = .ok (.iload_n 1, 1) := by decide +kernel
theorem dX0_pattern_44 : decode cX0_pattern 44 = .ok (.iload_n 2, 1) := by decide +kernel
theorem dX0_pattern_45 : decode cX0_pattern 45 = .ok (.iload_n 3, 1) := by decide +kernel
theorem dX0_pattern_46 : decode cX0_pattern 46 = .ok (.aload_n 0, 1) := by decide +kernel
theorem dX0_pattern_47 : decode cX0_pattern 47 = .ok (.getfield 12, 3) := by decide +kernel
theorem dX0_pattern_50 : decode cX0_pattern 50 = .ok (.invokevirtual 84, 3) := by decide +kernel
theorem dX0_pattern_53 : decode cX0_pattern 53 = .ok (.ireturn, 1) := by decide +kernel
theorem dX0_pattern_36 : decode cX0_pattern 36 = .ok (.bipush (-4), 2) := by decide +kernel
theorem dX0_pattern_38 : decode cX0_pattern 38 = .ok (.ireturn, 1) := by decide +kernel
theorem dX2_has_0 : decode cX2_has 0 = .ok (.iload_n 1, 1) := by decide +kernel
theorem dX2_has_1 : decode cX2_has 1 = .ok (.ifCond .lt 15, 3) := by decide +kernel
theorem dX2_has_16 : decode cX2_has 16 = .ok (.iconst 0, 1) := by decide +kernel
theorem dX2_has_17 : decode cX2_has 17 = .ok (.ireturn, 1) := by decide +kernel
theorem dX2_has_4 : decode cX2_has 4 = .ok (.iload_n 1, 1) := by decide +kernel
theorem dX2_has_5 : decode cX2_has 5 = .ok (.aload_n 0, 1) := by decide +kernel
theorem dX2_has_6 : decode cX2_has 6 = .ok (.getfield 39, 3) := by decide +kernel
theorem dX2_has_9 : decode cX2_has 9 = .ok (.if_icmp .ge 7, 3) := by decide +kernel
theorem dX2_has_12 : decode cX2_has 12 = .ok (.iconst 1, 1) := by decide +kernel
theorem dX2_has_13 : decode cX2_has 13 = .ok (.goto 4, 3) := by decide +kernel
theorem dX0_inSet_0 : decode cX0_inSet 0 = .ok (.iload_n 0, 1) := by decide +kernel
theorem dX0_inSet_1 : decode cX0_inSet 1 = .ok (.iload_n 1, 1) := by decide +kernel
theorem dX0_inSet_2 : decode cX0_inSet 2 = .ok (.ishr, 1) := by decide +kernel
theorem dX0_inSet_3 : decode cX0_inSet 3 = .ok (.iconst 1, 1) := by decide +kernel
theorem dX0_inSet_4 : decode cX0_inSet 4 = .ok (.iand, 1) := by decide +kernel
theorem dX0_inSet_5 : decode cX0_inSet 5 = .ok (.ifCond .eq 7, 3) := by decide +kernel
theorem dX0_inSet_12 : decode cX0_inSet 12 = .ok (.iconst 0, 1) := by decide +kernel
theorem dX0_inSet_13 : decode cX0_inSet 13 = .ok (.ireturn, 1) := by decide +kernel
theorem dX0_inSet_8 : decode cX0_inSet 8 = .ok (.iconst 1, 1) := by decide +kernel
theorem dX0_inSet_9 : decode cX0_inSet 9 = .ok (.goto 4, 3) := by decide +kernel
theorem dX2_isRequired_0 : decode cX2_isRequired 0 = .ok (.aload_n 0, 1) := by decide +kernel
theorem dX2_isRequired_1 : decode cX2_isRequired 1 = .ok (.getfield 43, 3) := by decide +kernel
theorem dX2_isRequired_4 : decode cX2_isRequired 4 = .ok (.iload_n 1, 1) := by decide +kernel
theorem dX2_isRequired_5 : decode cX2_isRequired 5 = .ok (.invokestatic 46, 3) := by decide +kernel
theorem dX2_isRequired_8 : decode cX2_isRequired 8 = .ok (.ireturn, 1) := by decide +kernel
theorem dX2_isHinted_0 : decode cX2_isHinted 0 = .ok (.aload_n 0, 1) := by decide +kernel
theorem dX2_isHinted_1 : decode cX2_isHinted 1 = .ok (.getfield 50, 3) := by decide +kernel
theorem dX2_isHinted_4 : decode cX2_isHinted 4 = .ok (.iload_n 1, 1) := by decide +kernel
theorem dX2_isHinted_5 : decode cX2_isHinted 5 = .ok (.invokestatic 46, 3) := by decide +kernel
theorem dX2_isHinted_8 : decode cX2_isHinted 8 = .ok (.ireturn, 1) := by decide +kernel
theorem dX2_hangsOn_0 : decode cX2_hangsOn 0 = .ok (.iload_n 1, 1) := by decide +kernel
theorem dX2_hangsOn_1 : decode cX2_hangsOn 1 = .ok (.istore_n 3, 1) := by decide +kernel
theorem dX2_hangsOn_2 : decode cX2_hangsOn 2 = .ok (.iconst 0, 1) := by decide +kernel
theorem dX2_hangsOn_3 : decode cX2_hangsOn 3 = .ok (.istore 4, 2) := by decide +kernel
theorem dX2_hangsOn_5 : decode cX2_hangsOn 5 = .ok (.iload 4, 2) := by decide +kernel
theorem dX2_hangsOn_7 : decode cX2_hangsOn 7 = .ok (.aload_n 0, 1) := by decide +kernel
theorem dX2_hangsOn_8 : decode cX2_hangsOn 8 = .ok (.getfield 39, 3) := by decide +kernel
theorem dX2_hangsOn_11 : decode cX2_hangsOn 11 = .ok (.if_icmp .ge 28, 3) := by decide +kernel
theorem dX2_hangsOn_14 : decode cX2_hangsOn 14 = .ok (.iload_n 3, 1) := by decide +kernel
theorem dX2_hangsOn_15 : decode cX2_hangsOn 15 = .ok (.iconst (-1), 1) := by decide +kernel
theorem dX2_hangsOn_16 : decode cX2_hangsOn 16 = .ok (.if_icmp .eq 23, 3) := by decide +kernel
theorem dX2_hangsOn_19 : decode cX2_hangsOn 19 = .ok (.iload_n 3, 1) := by decide +kernel
theorem dX2_hangsOn_20 : decode cX2_hangsOn 20 = .ok (.iload_n 2, 1) := by decide +kernel
theorem dX2_hangsOn_21 : decode cX2_hangsOn 21 = .ok (.if_icmp .ne 5, 3) := by decide +kernel
theorem dX2_hangsOn_26 : decode cX2_hangsOn 26 = .ok (.aload_n 0, 1) := by decide +kernel
theorem dX2_hangsOn_27 : decode cX2_hangsOn 27 = .ok (.getfield 33, 3) := by decide +kernel
theorem dX2_hangsOn_30 : decode cX2_hangsOn 30 = .ok (.iload_n 3, 1) := by decide +kernel
theorem dX2_hangsOn_31 : decode cX2_hangsOn 31 = .ok (.iaload, 1) := by decide +kernel
theorem dX2_hangsOn_32 : decode cX2_hangsOn 32 = .ok (.istore_n 3, 1) := by decide +kernel
theorem dX2_hangsOn_33 : decode cX2_hangsOn 33 = .ok (.iinc 4 1, 3) := by decide +kernel
theorem dX2_hangsOn_36 : decode cX2_hangsOn 36 = .ok (.goto (-31), 3) := by decide +kernel
theorem dX2_hangsOn_24 : decode cX2_hangsOn 24 = .ok (.iconst 1, 1) := by decide +kernel
theorem dX2_hangsOn_25 : decode cX2_hangsOn 25 = .ok (.ireturn, 1) := by decide +kernel
theorem dX2_hangsOn_39 : decode cX2_hangsOn 39 = .ok (.iconst 0, 1) := by decide +kernel
theorem dX2_hangsOn_40 : decode cX2_hangsOn 40 = .ok (.ireturn, 1) := by decide +kernel
theorem dX2_hang_0 : decode cX2_hang 0 = .ok (.aload_n 0, 1) := by decide +kernel
theorem dX2_hang_1 : decode cX2_hang 1 = .ok (.getfield 33, 3) := by decide +kernel
theorem dX2_hang_4 : decode cX2_hang 4 = .ok (.iload_n 1, 1) := by decide +kernel
theorem dX2_hang_5 : decode cX2_hang 5 = .ok (.iload_n 2, 1) := by decide +kernel
theorem dX2_hang_6 : decode cX2_hang 6 = .ok (.iastore, 1) := by decide +kernel
theorem dX2_hang_7 : decode cX2_hang 7 = .ok (.aload_n 0, 1) := by decide +kernel
theorem dX2_hang_8 : decode cX2_hang 8 = .ok (.dup, 1) := by decide +kernel
theorem dX2_hang_9 : decode cX2_hang 9 = .ok (.getfield 43, 3) := by decide +kernel
theorem dX2_hang_12 : decode cX2_hang 12 = .ok (.iconst 1, 1) := by decide +kernel
theorem dX2_hang_13 : decode cX2_hang 13 = .ok (.iload_n 1, 1) := by decide +kernel
theorem dX2_hang_14 : decode cX2_hang 14 = .ok (.ishl, 1) := by decide +kernel
theorem dX2_hang_15 : decode cX2_hang 15 = .ok (.iconst (-1), 1) := by decide +kernel
theorem dX2_hang_16 : decode cX2_hang 16 = .ok (.ixor, 1) := by decide +kernel
theorem dX2_hang_17 : decode cX2_hang 17 = .ok (.iand, 1) := by decide +kernel
theorem dX2_hang_18 : decode cX2_hang 18 = .ok (.putfield 43, 3) := by decide +kernel
theorem dX2_hang_21 : decode cX2_hang 21 = .ok (.return_, 1) := by decide +kernel
theorem dX0_optional_0 : decode cX0_optional 0 = .ok (.aload_n 0, 1) := by decide +kernel
theorem dX0_optional_1 : decode cX0_optional 1 = .ok (.getfield 19, 3) := by decide +kernel
theorem dX0_optional_4 : decode cX0_optional 4 = .ok (.iload_n 1, 1) := by decide +kernel
theorem dX0_optional_5 : decode cX0_optional 5 = .ok (.invokevirtual 87, 3) := by decide +kernel
theorem dX0_optional_8 : decode cX0_optional 8 = .ok (.ifCond .eq 14, 3) := by decide +kernel
theorem dX0_optional_22 : decode cX0_optional 22 = .ok (.iconst (-1), 1) := by decide +kernel
theorem dX0_optional_23 : decode cX0_optional 23 = .ok (.ireturn, 1) := by decide +kernel
theorem dX0_optional_11 : decode cX0_optional 11 = .ok (.aload_n 0, 1) := by decide +kernel
theorem dX0_optional_12 : decode cX0_optional 12 = .ok (.getfield 19, 3) := by decide +kernel
theorem dX0_optional_15 : decode cX0_optional 15 = .ok (.iload_n 2, 1) := by decide +kernel
theorem dX0_optional_16 : decode cX0_optional 16 = .ok (.invokevirtual 87, 3) := by decide +kernel
theorem dX0_optional_19 : decode cX0_optional 19 = .ok (.ifCond .ne 5, 3) := by decide +kernel
theorem dX0_optional_24 : decode cX0_optional 24 = .ok (.aload_n 0, 1) := by decide +kernel
theorem dX0_optional_25 : decode cX0_optional 25 = .ok (.getfield 19, 3) := by decide +kernel
theorem dX0_optional_28 : decode cX0_optional 28 = .ok (.iload_n 1, 1) := by decide +kernel
theorem dX0_optional_29 : decode cX0_optional 29 = .ok (.invokevirtual 88, 3) := by decide +kernel
theorem dX0_optional_32 : decode cX0_optional 32 = .ok (.ifCond .eq 26, 3) := by decide +kernel
theorem dX0_optional_58 : decode cX0_optional 58 = .ok (.bipush (-3), 2) := by decide +kernel
theorem dX0_optional_60 : decode cX0_optional 60 = .ok (.ireturn, 1) := by decide +kernel
theorem dX0_optional_35 : decode cX0_optional 35 = .ok (.aload_n 0, 1) := by decide +kernel
theorem dX0_optional_36 : decode cX0_optional 36 = .ok (.getfield 19, 3) := by decide +kernel
theorem dX0_optional_39 : decode cX0_optional 39 = .ok (.iload_n 1, 1) := by decide +kernel
theorem dX0_optional_40 : decode cX0_optional 40 = .ok (.invokevirtual 91, 3) := by decide +kernel
theorem dX0_optional_43 : decode cX0_optional 43 = .ok (.ifCond .ne 15, 3) := by decide +kernel
theorem dX0_optional_46 : decode cX0_optional 46 = .ok (.aload_n 0, 1) := by decide +kernel
theorem dX0_optional_47 : decode cX0_optional 47 = .ok (.getfield 19, 3) := by decide +kernel
theorem dX0_optional_50 : decode cX0_optional 50 = .ok (.iload_n 2, 1) := by decide +kernel
theorem dX0_optional_51 : decode cX0_optional 51 = .ok (.iload_n 1, 1) := by decide +kernel
theorem dX0_optional_52 : decode cX0_optional 52 = .ok (.invokevirtual 94, 3) := by decide +kernel
theorem dX0_optional_55 : decode cX0_optional 55 = .ok (.ifCond .eq 6, 3) := by decide +kernel
theorem dX0_optional_61 : decode cX0_optional 61 = .ok (.aload_n 0, 1) := by decide +kernel
theorem dX0_optional_62 : decode cX0_optional 62 = .ok (.getfield 19, 3) := by decide +kernel
theorem dX0_optional_65 : decode cX0_optional 65 = .ok (.iload_n 1, 1) := by decide +kernel
theorem dX0_optional_66 : decode cX0_optional 66 = .ok (.iload_n 2, 1) := by decide +kernel
theorem dX0_optional_67 : decode cX0_optional 67 = .ok (.invokevirtual 98, 3) := by decide +kernel
theorem dX0_optional_70 : decode cX0_optional 70 = .ok (.iconst 1, 1) := by decide +kernel
theorem dX0_optional_71 : decode cX0_optional 71 = .ok (.ireturn, 1) := by decide +kernel
theorem dX1_add_0 : decode cX1_add 0 = .ok (.aload_n 0, 1) := by decide +kernel
theorem dX1_add_1 : decode cX1_add 1 = .ok (.getfield 21, 3) := by decide +kernel
theorem dX1_add_4 : decode cX1_add 4 = .ok (.istore 5, 2) := by decide +kernel
theorem dX1_add_6 : decode cX1_add 6 = .ok (.aload_n 0, 1) := by decide +kernel
theorem dX1_add_7 : decode cX1_add 7 = .ok (.dup, 1) := by decide +kernel
theorem dX1_add_8 : decode cX1_add 8 = .ok (.getfield 21, 3) := by decide +kernel
theorem dX1_add_11 : decode cX1_add 11 = .ok (.iconst 1, 1) := by decide +kernel
theorem dX1_add_12 : decode cX1_add 12 = .ok (.iadd, 1) := by decide +kernel
theorem dX1_add_13 : decode cX1_add 13 = .ok (.putfield 21, 3) := by decide +kernel
theorem dX1_add_16 : decode cX1_add 16 = .ok (.aload_n 0, 1) := by decide +kernel
theorem dX1_add_17 : decode cX1_add 17 = .ok (.getfield 9, 3) := by decide +kernel
theorem dX1_add_20 : decode cX1_add 20 = .ok (.iload 5, 2) := by decide +kernel
theorem dX1_add_22 : decode cX1_add 22 = .ok (.iload_n 1, 1) := by decide +kernel
theorem dX1_add_23 : decode cX1_add 23 = .ok (.iastore, 1) := by decide +kernel
theorem dX1_add_24 : decode cX1_add 24 = .ok (.aload_n 0, 1) := by decide +kernel
theorem dX1_add_25 : decode cX1_add 25 = .ok (.getfield 15, 3) := by decide +kernel
theorem dX1_add_28 : decode cX1_add 28 = .ok (.iload 5, 2) := by decide +kernel
theorem dX1_add_30 : decode cX1_add 30 = .ok (.iload_n 2, 1) := by decide +kernel
theorem dX1_add_31 : decode cX1_add 31 = .ok (.iastore, 1) := by decide +kernel
theorem dX1_add_32 : decode cX1_add 32 = .ok (.aload_n 0, 1) := by decide +kernel
theorem dX1_add_33 : decode cX1_add 33 = .ok (.getfield 18, 3) := by decide +kernel
theorem dX1_add_36 : decode cX1_add 36 = .ok (.iload 5, 2) := by decide +kernel
theorem dX1_add_38 : decode cX1_add 38 = .ok (.iload_n 3, 1) := by decide +kernel
theorem dX1_add_39 : decode cX1_add 39 = .ok (.iastore, 1) := by decide +kernel
theorem dX1_add_40 : decode cX1_add 40 = .ok (.iload 4, 2) := by decide +kernel
theorem dX1_add_42 : decode cX1_add 42 = .ok (.ifCond .eq 16, 3) := by decide +kernel
theorem dX1_add_58 : decode cX1_add 58 = .ok (.iload 5, 2) := by decide +kernel
theorem dX1_add_60 : decode cX1_add 60 = .ok (.ireturn, 1) := by decide +kernel
theorem dX1_add_45 : decode cX1_add 45 = .ok (.aload_n 0, 1) := by decide +kernel
theorem dX1_add_46 : decode cX1_add 46 = .ok (.dup, 1) := by decide +kernel
theorem dX1_add_47 : decode cX1_add 47 = .ok (.getfield 25, 3) := by decide +kernel
theorem dX1_add_50 : decode cX1_add 50 = .ok (.iconst 1, 1) := by decide +kernel
theorem dX1_add_51 : decode cX1_add 51 = .ok (.iload 5, 2) := by decide +kernel
theorem dX1_add_53 : decode cX1_add 53 = .ok (.ishl, 1) := by decide +kernel
theorem dX1_add_54 : decode cX1_add 54 = .ok (.ior, 1) := by decide +kernel
theorem dX1_add_55 : decode cX1_add 55 = .ok (.putfield 25, 3) := by decide +kernel
theorem dX0_filter_0 : decode cX0_filter 0 = .ok (.iload_n 1, 1) := by decide +kernel
theorem dX0_filter_1 : decode cX0_filter 1 = .ok (.invokestatic 102, 3) := by decide +kernel
theorem dX0_filter_4 : decode cX0_filter 4 = .ok (.ifCond .eq 19, 3) := by decide +kernel
theorem dX0_filter_23 : decode cX0_filter 23 = .ok (.bipush (-2), 2) := by decide +kernel
theorem dX0_filter_25 : decode cX0_filter 25 = .ok (.ireturn, 1) := by decide +kernel
theorem dX0_filter_7 : decode cX0_filter 7 = .ok (.iload_n 2, 1) := by decide +kernel
theorem dX0_filter_8 : decode cX0_filter 8 = .ok (.ifCond .lt 15, 3) := by decide +kernel
theorem dX0_filter_11 : decode cX0_filter 11 = .ok (.iload_n 2, 1) := by decide +kernel
theorem dX0_filter_12 : decode cX0_filter 12 = .ok (.iconst 4, 1) := by decide +kernel
theorem dX0_filter_13 : decode cX0_filter 13 = .ok (.if_icmp .ge 10, 3) := by decide +kernel
theorem dX0_filter_16 : decode cX0_filter 16 = .ok (.iload_n 3, 1) := by decide +kernel
theorem dX0_filter_17 : decode cX0_filter 17 = .ok (.invokestatic 58, 3) := by decide +kernel
theorem dX0_filter_20 : decode cX0_filter 20 = .ok (.ifCond .ne 6, 3) := by decide +kernel
theorem dX0_filter_26 : decode cX0_filter 26 = .ok (.aload_n 0, 1) := by decide +kernel
theorem dX0_filter_27 : decode cX0_filter 27 = .ok (.getfield 26, 3) := by decide +kernel
theorem dX0_filter_30 : decode cX0_filter 30 = .ok (.getfield 105, 3) := by decide +kernel
theorem dX0_filter_33 : decode cX0_filter 33 = .ok (.bipush 8, 2) := by decide +kernel
theorem dX0_filter_35 : decode cX0_filter 35 = .ok (.if_icmp .lt 6, 3) := by decide +kernel
theorem dX0_filter_41 : decode cX0_filter 41 = .ok (.aload_n 0, 1) := by decide +kernel
theorem dX0_filter_42 : decode cX0_filter 42 = .ok (.getfield 26, 3) := by decide +kernel
theorem dX0_filter_45 : decode cX0_filter 45 = .ok (.iload_n 1, 1) := by decide +kernel
theorem dX0_filter_46 : decode cX0_filter 46 = .ok (.invokestatic 106, 3) := by decide +kernel
theorem dX0_filter_49 : decode cX0_filter 49 = .ok (.iload_n 2, 1) := by decide +kernel
theorem dX0_filter_50 : decode cX0_filter 50 = .ok (.iload_n 3, 1) := by decide +kernel
theorem dX0_filter_51 : decode cX0_filter 51 = .ok (.iload 4, 2) := by decide +kernel
theorem dX0_filter_53 : decode cX0_filter 53 = .ok (.invokevirtual 110, 3) := by decide +kernel
theorem dX0_filter_56 : decode cX0_filter 56 = .ok (.ireturn, 1) := by decide +kernel
theorem dX0_filter_38 : decode cX0_filter 38 = .ok (.bipush (-4), 2) := by decide +kernel
theorem dX0_filter_40 : decode cX0_filter 40 = .ok (.ireturn, 1) := by decide +kernel
theorem dX0_cost_0 : decode cX0_cost 0 = .ok (.aload_n 0, 1) := by decide +kernel
theorem dX0_cost_1 : decode cX0_cost 1 = .ok (.getfield 19, 3) := by decide +kernel
theorem dX0_cost_4 : decode cX0_cost 4 = .ok (.iload_n 1, 1) := by decide +kernel
theorem dX0_cost_5 : decode cX0_cost 5 = .ok (.invokevirtual 87, 3) := by decide +kernel
theorem dX0_cost_8 : decode cX0_cost 8 = .ok (.ifCond .ne 5, 3) := by decide +kernel
theorem dX0_cost_13 : decode cX0_cost 13 = .ok (.iload_n 2, 1) := by decide +kernel
theorem dX0_cost_14 : decode cX0_cost 14 = .ok (.iconst (-1), 1) := by decide +kernel
theorem dX0_cost_15 : decode cX0_cost 15 = .ok (.if_icmp .lt 9, 3) := by decide +kernel
theorem dX0_cost_24 : decode cX0_cost 24 = .ok (.bipush (-2), 2) := by decide +kernel
theorem dX0_cost_26 : decode cX0_cost 26 = .ok (.ireturn, 1) := by decide +kernel
theorem dX0_cost_18 : decode cX0_cost 18 = .ok (.iload_n 2, 1) := by decide +kernel
theorem dX0_cost_19 : decode cX0_cost 19 = .ok (.bipush 100, 2) := by decide +kernel
theorem dX0_cost_21 : decode cX0_cost 21 = .ok (.if_icmp .le 6, 3) := by decide +kernel
theorem dX0_cost_27 : decode cX0_cost 27 = .ok (.aload_n 0, 1) := by decide +kernel
theorem dX0_cost_28 : decode cX0_cost 28 = .ok (.getfield 19, 3) := by decide +kernel
theorem dX0_cost_31 : decode cX0_cost 31 = .ok (.getfield 113, 3) := by decide +kernel
theorem dX0_cost_34 : decode cX0_cost 34 = .ok (.iload_n 1, 1) := by decide +kernel
theorem dX0_cost_35 : decode cX0_cost 35 = .ok (.iload_n 2, 1) := by decide +kernel
theorem dX0_cost_36 : decode cX0_cost 36 = .ok (.iastore, 1) := by decide +kernel
theorem dX0_cost_37 : decode cX0_cost 37 = .ok (.iconst 1, 1) := by decide +kernel
theorem dX0_cost_38 : decode cX0_cost 38 = .ok (.ireturn, 1) := by decide +kernel
theorem dX0_cost_11 : decode cX0_cost 11 = .ok (.iconst (-1), 1) := by decide +kernel
theorem dX0_cost_12 : decode cX0_cost 12 = .ok (.ireturn, 1) := by decide +kernel
theorem dX2_isBefore_0 : decode cX2_isBefore 0 = .ok (.aload_n 0, 1) := by decide +kernel
theorem dX2_isBefore_1 : decode cX2_isBefore 1 = .ok (.getfield 36, 3) := by decide +kernel
theorem dX2_isBefore_4 : decode cX2_isBefore 4 = .ok (.iload_n 2, 1) := by decide +kernel
theorem dX2_isBefore_5 : decode cX2_isBefore 5 = .ok (.iaload, 1) := by decide +kernel
theorem dX2_isBefore_6 : decode cX2_isBefore 6 = .ok (.iload_n 1, 1) := by decide +kernel
theorem dX2_isBefore_7 : decode cX2_isBefore 7 = .ok (.invokestatic 46, 3) := by decide +kernel
theorem dX2_isBefore_10 : decode cX2_isBefore 10 = .ok (.ireturn, 1) := by decide +kernel
theorem dX2_putBefore_0 : decode cX2_putBefore 0 = .ok (.aload_n 0, 1) := by decide +kernel
theorem dX2_putBefore_1 : decode cX2_putBefore 1 = .ok (.getfield 36, 3) := by decide +kernel
theorem dX2_putBefore_4 : decode cX2_putBefore 4 = .ok (.iload_n 1, 1) := by decide +kernel
theorem dX2_putBefore_5 : decode cX2_putBefore 5 = .ok (.iaload, 1) := by decide +kernel
theorem dX2_putBefore_6 : decode cX2_putBefore 6 = .ok (.iconst 1, 1) := by decide +kernel
theorem dX2_putBefore_7 : decode cX2_putBefore 7 = .ok (.iload_n 1, 1) := by decide +kernel
theorem dX2_putBefore_8 : decode cX2_putBefore 8 = .ok (.ishl, 1) := by decide +kernel
theorem dX2_putBefore_9 : decode cX2_putBefore 9 = .ok (.ior, 1) := by decide +kernel
theorem dX2_putBefore_10 : decode cX2_putBefore 10 = .ok (.istore_n 3, 1) := by decide +kernel
theorem dX2_putBefore_11 : decode cX2_putBefore 11 = .ok (.iconst 0, 1) := by decide +kernel
theorem dX2_putBefore_12 : decode cX2_putBefore 12 = .ok (.istore 4, 2) := by decide +kernel
theorem dX2_putBefore_14 : decode cX2_putBefore 14 = .ok (.iload 4, 2) := by decide +kernel
theorem dX2_putBefore_16 : decode cX2_putBefore 16 = .ok (.aload_n 0, 1) := by decide +kernel
theorem dX2_putBefore_17 : decode cX2_putBefore 17 = .ok (.getfield 39, 3) := by decide +kernel
theorem dX2_putBefore_20 : decode cX2_putBefore 20 = .ok (.if_icmp .ge 36, 3) := by decide +kernel
theorem dX2_putBefore_23 : decode cX2_putBefore 23 = .ok (.iload 4, 2) := by decide +kernel
theorem dX2_putBefore_25 : decode cX2_putBefore 25 = .ok (.iload_n 2, 1) := by decide +kernel
theorem dX2_putBefore_26 : decode cX2_putBefore 26 = .ok (.if_icmp .eq 13, 3) := by decide +kernel
theorem dX2_putBefore_39 : decode cX2_putBefore 39 = .ok (.aload_n 0, 1) := by decide +kernel
theorem dX2_putBefore_40 : decode cX2_putBefore 40 = .ok (.getfield 36, 3) := by decide +kernel
theorem dX2_putBefore_43 : decode cX2_putBefore 43 = .ok (.iload 4, 2) := by decide +kernel
theorem dX2_putBefore_45 : decode cX2_putBefore 45 = .ok (.dup2, 1) := by decide +kernel
theorem dX2_putBefore_46 : decode cX2_putBefore 46 = .ok (.iaload, 1) := by decide +kernel
theorem dX2_putBefore_47 : decode cX2_putBefore 47 = .ok (.iload_n 3, 1) := by decide +kernel
theorem dX2_putBefore_48 : decode cX2_putBefore 48 = .ok (.ior, 1) := by decide +kernel
theorem dX2_putBefore_49 : decode cX2_putBefore 49 = .ok (.iastore, 1) := by decide +kernel
theorem dX2_putBefore_50 : decode cX2_putBefore 50 = .ok (.iinc 4 1, 3) := by decide +kernel
theorem dX2_putBefore_53 : decode cX2_putBefore 53 = .ok (.goto (-39), 3) := by decide +kernel
theorem dX2_putBefore_29 : decode cX2_putBefore 29 = .ok (.aload_n 0, 1) := by decide +kernel
theorem dX2_putBefore_30 : decode cX2_putBefore 30 = .ok (.iload_n 2, 1) := by decide +kernel
theorem dX2_putBefore_31 : decode cX2_putBefore 31 = .ok (.iload 4, 2) := by decide +kernel
theorem dX2_putBefore_33 : decode cX2_putBefore 33 = .ok (.invokevirtual 95, 3) := by decide +kernel
theorem dX2_putBefore_36 : decode cX2_putBefore 36 = .ok (.ifCond .eq 14, 3) := by decide +kernel
theorem dX2_putBefore_56 : decode cX2_putBefore 56 = .ok (.aload_n 0, 1) := by decide +kernel
theorem dX2_putBefore_57 : decode cX2_putBefore 57 = .ok (.dup, 1) := by decide +kernel
theorem dX2_putBefore_58 : decode cX2_putBefore 58 = .ok (.getfield 50, 3) := by decide +kernel
theorem dX2_putBefore_61 : decode cX2_putBefore 61 = .ok (.iconst 1, 1) := by decide +kernel
theorem dX2_putBefore_62 : decode cX2_putBefore 62 = .ok (.iload_n 1, 1) := by decide +kernel
theorem dX2_putBefore_63 : decode cX2_putBefore 63 = .ok (.ishl, 1) := by decide +kernel
theorem dX2_putBefore_64 : decode cX2_putBefore 64 = .ok (.iconst 1, 1) := by decide +kernel
theorem dX2_putBefore_65 : decode cX2_putBefore 65 = .ok (.iload_n 2, 1) := by decide +kernel
theorem dX2_putBefore_66 : decode cX2_putBefore 66 = .ok (.ishl, 1) := by decide +kernel
theorem dX2_putBefore_67 : decode cX2_putBefore 67 = .ok (.ior, 1) := by decide +kernel
theorem dX2_putBefore_68 : decode cX2_putBefore 68 = .ok (.ior, 1) := by decide +kernel
theorem dX2_putBefore_69 : decode cX2_putBefore 69 = .ok (.putfield 50, 3) := by decide +kernel
theorem dX2_putBefore_72 : decode cX2_putBefore 72 = .ok (.return_, 1) := by decide +kernel
theorem dX0_hint_0 : decode cX0_hint 0 = .ok (.aload_n 0, 1) := by decide +kernel
theorem dX0_hint_1 : decode cX0_hint 1 = .ok (.getfield 19, 3) := by decide +kernel
theorem dX0_hint_4 : decode cX0_hint 4 = .ok (.iload_n 1, 1) := by decide +kernel
theorem dX0_hint_5 : decode cX0_hint 5 = .ok (.invokevirtual 87, 3) := by decide +kernel
theorem dX0_hint_8 : decode cX0_hint 8 = .ok (.ifCond .eq 14, 3) := by decide +kernel
theorem dX0_hint_22 : decode cX0_hint 22 = .ok (.iconst (-1), 1) := by decide +kernel
theorem dX0_hint_23 : decode cX0_hint 23 = .ok (.ireturn, 1) := by decide +kernel
theorem dX0_hint_11 : decode cX0_hint 11 = .ok (.aload_n 0, 1) := by decide +kernel
theorem dX0_hint_12 : decode cX0_hint 12 = .ok (.getfield 19, 3) := by decide +kernel
theorem dX0_hint_15 : decode cX0_hint 15 = .ok (.iload_n 2, 1) := by decide +kernel
theorem dX0_hint_16 : decode cX0_hint 16 = .ok (.invokevirtual 87, 3) := by decide +kernel
theorem dX0_hint_19 : decode cX0_hint 19 = .ok (.ifCond .ne 5, 3) := by decide +kernel
theorem dX0_hint_24 : decode cX0_hint 24 = .ok (.aload_n 0, 1) := by decide +kernel
theorem dX0_hint_25 : decode cX0_hint 25 = .ok (.getfield 19, 3) := by decide +kernel
theorem dX0_hint_28 : decode cX0_hint 28 = .ok (.iload_n 1, 1) := by decide +kernel
theorem dX0_hint_29 : decode cX0_hint 29 = .ok (.invokevirtual 88, 3) := by decide +kernel
theorem dX0_hint_32 : decode cX0_hint 32 = .ok (.ifCond .eq 14, 3) := by decide +kernel
theorem dX0_hint_46 : decode cX0_hint 46 = .ok (.bipush (-3), 2) := by decide +kernel
theorem dX0_hint_48 : decode cX0_hint 48 = .ok (.ireturn, 1) := by decide +kernel
theorem dX0_hint_35 : decode cX0_hint 35 = .ok (.aload_n 0, 1) := by decide +kernel
theorem dX0_hint_36 : decode cX0_hint 36 = .ok (.getfield 19, 3) := by decide +kernel
theorem dX0_hint_39 : decode cX0_hint 39 = .ok (.iload_n 2, 1) := by decide +kernel
theorem dX0_hint_40 : decode cX0_hint 40 = .ok (.invokevirtual 88, 3) := by decide +kernel
theorem dX0_hint_43 : decode cX0_hint 43 = .ok (.ifCond .ne 6, 3) := by decide +kernel
theorem dX0_hint_49 : decode cX0_hint 49 = .ok (.iload_n 1, 1) := by decide +kernel
theorem dX0_hint_50 : decode cX0_hint 50 = .ok (.iload_n 2, 1) := by decide +kernel
theorem dX0_hint_51 : decode cX0_hint 51 = .ok (.if_icmp .eq 15, 3) := by decide +kernel
theorem dX0_hint_66 : decode cX0_hint 66 = .ok (.bipush (-3), 2) := by decide +kernel
theorem dX0_hint_68 : decode cX0_hint 68 = .ok (.ireturn, 1) := by decide +kernel
theorem dX0_hint_54 : decode cX0_hint 54 = .ok (.aload_n 0, 1) := by decide +kernel
theorem dX0_hint_55 : decode cX0_hint 55 = .ok (.getfield 19, 3) := by decide +kernel
theorem dX0_hint_58 : decode cX0_hint 58 = .ok (.iload_n 2, 1) := by decide +kernel
theorem dX0_hint_59 : decode cX0_hint 59 = .ok (.iload_n 1, 1) := by decide +kernel
theorem dX0_hint_60 : decode cX0_hint 60 = .ok (.invokevirtual 116, 3) := by decide +kernel
theorem dX0_hint_63 : decode cX0_hint 63 = .ok (.ifCond .eq 6, 3) := by decide +kernel
theorem dX0_hint_69 : decode cX0_hint 69 = .ok (.aload_n 0, 1) := by decide +kernel
theorem dX0_hint_70 : decode cX0_hint 70 = .ok (.getfield 19, 3) := by decide +kernel
theorem dX0_hint_73 : decode cX0_hint 73 = .ok (.iload_n 1, 1) := by decide +kernel
theorem dX0_hint_74 : decode cX0_hint 74 = .ok (.iload_n 2, 1) := by decide +kernel
theorem dX0_hint_75 : decode cX0_hint 75 = .ok (.invokevirtual 119, 3) := by decide +kernel
theorem dX0_hint_78 : decode cX0_hint 78 = .ok (.iconst 1, 1) := by decide +kernel
theorem dX0_hint_79 : decode cX0_hint 79 = .ok (.ireturn, 1) := by decide +kernel
theorem dX2_size_0 : decode cX2_size 0 = .ok (.aload_n 0, 1) := by decide +kernel
theorem dX2_size_1 : decode cX2_size 1 = .ok (.getfield 30, 3) := by decide +kernel
theorem dX2_size_4 : decode cX2_size 4 = .ok (.iload_n 1, 1) := by decide +kernel
theorem dX2_size_5 : decode cX2_size 5 = .ok (.iaload, 1) := by decide +kernel
theorem dX2_size_6 : decode cX2_size 6 = .ok (.iconst (-1), 1) := by decide +kernel
theorem dX2_size_7 : decode cX2_size 7 = .ok (.if_icmp .eq 12, 3) := by decide +kernel
theorem dX2_size_19 : decode cX2_size 19 = .ok (.aload_n 0, 1) := by decide +kernel
theorem dX2_size_20 : decode cX2_size 20 = .ok (.getfield 21, 3) := by decide +kernel
theorem dX2_size_23 : decode cX2_size 23 = .ok (.iload_n 1, 1) := by decide +kernel
theorem dX2_size_24 : decode cX2_size 24 = .ok (.iaload, 1) := by decide +kernel
theorem dX2_size_25 : decode cX2_size 25 = .ok (.ireturn, 1) := by decide +kernel
theorem dX2_size_10 : decode cX2_size 10 = .ok (.aload_n 0, 1) := by decide +kernel
theorem dX2_size_11 : decode cX2_size 11 = .ok (.getfield 30, 3) := by decide +kernel
theorem dX2_size_14 : decode cX2_size 14 = .ok (.iload_n 1, 1) := by decide +kernel
theorem dX2_size_15 : decode cX2_size 15 = .ok (.iaload, 1) := by decide +kernel
theorem dX2_size_16 : decode cX2_size 16 = .ok (.goto 9, 3) := by decide +kernel
theorem dJI_bitCount_0 : decode cJI_bitCount 0 = .ok (.iload_n 0, 1) := by decide +kernel
theorem dJI_bitCount_1 : decode cJI_bitCount 1 = .ok (.iload_n 0, 1) := by decide +kernel
theorem dJI_bitCount_2 : decode cJI_bitCount 2 = .ok (.iconst 1, 1) := by decide +kernel
theorem dJI_bitCount_3 : decode cJI_bitCount 3 = .ok (.iushr, 1) := by decide +kernel
theorem dJI_bitCount_4 : decode cJI_bitCount 4 = .ok (.ldc_w 265, 3) := by decide +kernel
theorem dJI_bitCount_7 : decode cJI_bitCount 7 = .ok (.iand, 1) := by decide +kernel
theorem dJI_bitCount_8 : decode cJI_bitCount 8 = .ok (.isub, 1) := by decide +kernel
theorem dJI_bitCount_9 : decode cJI_bitCount 9 = .ok (.istore_n 0, 1) := by decide +kernel
theorem dJI_bitCount_10 : decode cJI_bitCount 10 = .ok (.iload_n 0, 1) := by decide +kernel
theorem dJI_bitCount_11 : decode cJI_bitCount 11 = .ok (.ldc_w 266, 3) := by decide +kernel
theorem dJI_bitCount_14 : decode cJI_bitCount 14 = .ok (.iand, 1) := by decide +kernel
theorem dJI_bitCount_15 : decode cJI_bitCount 15 = .ok (.iload_n 0, 1) := by decide +kernel
theorem dJI_bitCount_16 : decode cJI_bitCount 16 = .ok (.iconst 2, 1) := by decide +kernel
theorem dJI_bitCount_17 : decode cJI_bitCount 17 = .ok (.iushr, 1) := by decide +kernel
theorem dJI_bitCount_18 : decode cJI_bitCount 18 = .ok (.ldc_w 266, 3) := by decide +kernel
theorem dJI_bitCount_21 : decode cJI_bitCount 21 = .ok (.iand, 1) := by decide +kernel
theorem dJI_bitCount_22 : decode cJI_bitCount 22 = .ok (.iadd, 1) := by decide +kernel
theorem dJI_bitCount_23 : decode cJI_bitCount 23 = .ok (.istore_n 0, 1) := by decide +kernel
theorem dJI_bitCount_24 : decode cJI_bitCount 24 = .ok (.iload_n 0, 1) := by decide +kernel
theorem dJI_bitCount_25 : decode cJI_bitCount 25 = .ok (.iload_n 0, 1) := by decide +kernel
theorem dJI_bitCount_26 : decode cJI_bitCount 26 = .ok (.iconst 4, 1) := by decide +kernel
theorem dJI_bitCount_27 : decode cJI_bitCount 27 = .ok (.iushr, 1) := by decide +kernel
theorem dJI_bitCount_28 : decode cJI_bitCount 28 = .ok (.iadd, 1) := by decide +kernel
theorem dJI_bitCount_29 : decode cJI_bitCount 29 = .ok (.ldc_w 267, 3) := by decide +kernel
theorem dJI_bitCount_32 : decode cJI_bitCount 32 = .ok (.iand, 1) := by decide +kernel
theorem dJI_bitCount_33 : decode cJI_bitCount 33 = .ok (.istore_n 0, 1) := by decide +kernel
theorem dJI_bitCount_34 : decode cJI_bitCount 34 = .ok (.iload_n 0, 1) := by decide +kernel
theorem dJI_bitCount_35 : decode cJI_bitCount 35 = .ok (.iload_n 0, 1) := by decide +kernel
theorem dJI_bitCount_36 : decode cJI_bitCount 36 = .ok (.bipush 8, 2) := by decide +kernel
theorem dJI_bitCount_38 : decode cJI_bitCount 38 = .ok (.iushr, 1) := by decide +kernel
theorem dJI_bitCount_39 : decode cJI_bitCount 39 = .ok (.iadd, 1) := by decide +kernel
theorem dJI_bitCount_40 : decode cJI_bitCount 40 = .ok (.istore_n 0, 1) := by decide +kernel
theorem dJI_bitCount_41 : decode cJI_bitCount 41 = .ok (.iload_n 0, 1) := by decide +kernel
theorem dJI_bitCount_42 : decode cJI_bitCount 42 = .ok (.iload_n 0, 1) := by decide +kernel
theorem dJI_bitCount_43 : decode cJI_bitCount 43 = .ok (.bipush 16, 2) := by decide +kernel
theorem dJI_bitCount_45 : decode cJI_bitCount 45 = .ok (.iushr, 1) := by decide +kernel
theorem dJI_bitCount_46 : decode cJI_bitCount 46 = .ok (.iadd, 1) := by decide +kernel
theorem dJI_bitCount_47 : decode cJI_bitCount 47 = .ok (.istore_n 0, 1) := by decide +kernel
theorem dJI_bitCount_48 : decode cJI_bitCount 48 = .ok (.iload_n 0, 1) := by decide +kernel
theorem dJI_bitCount_49 : decode cJI_bitCount 49 = .ok (.bipush 63, 2) := by decide +kernel
theorem dJI_bitCount_51 : decode cJI_bitCount 51 = .ok (.iand, 1) := by decide +kernel
theorem dJI_bitCount_52 : decode cJI_bitCount 52 = .ok (.ireturn, 1) := by decide +kernel
theorem dX2_spreadAt_0 : decode cX2_spreadAt 0 = .ok (.iconst 1, 1) := by decide +kernel
theorem dX2_spreadAt_1 : decode cX2_spreadAt 1 = .ok (.aload_n 0, 1) := by decide +kernel
theorem dX2_spreadAt_2 : decode cX2_spreadAt 2 = .ok (.getfield 15, 3) := by decide +kernel
theorem dX2_spreadAt_5 : decode cX2_spreadAt 5 = .ok (.iload_n 1, 1) := by decide +kernel
theorem dX2_spreadAt_6 : decode cX2_spreadAt 6 = .ok (.iconst 3, 1) := by decide +kernel
theorem dX2_spreadAt_7 : decode cX2_spreadAt 7 = .ok (.imul, 1) := by decide +kernel
theorem dX2_spreadAt_8 : decode cX2_spreadAt 8 = .ok (.iload_n 2, 1) := by decide +kernel
theorem dX2_spreadAt_9 : decode cX2_spreadAt 9 = .ok (.iadd, 1) := by decide +kernel
theorem dX2_spreadAt_10 : decode cX2_spreadAt 10 = .ok (.iaload, 1) := by decide +kernel
theorem dX2_spreadAt_11 : decode cX2_spreadAt 11 = .ok (.invokestatic 53, 3) := by decide +kernel
theorem dX2_spreadAt_14 : decode cX2_spreadAt 14 = .ok (.invokestatic 59, 3) := by decide +kernel
theorem dX2_spreadAt_17 : decode cX2_spreadAt 17 = .ok (.ireturn, 1) := by decide +kernel
theorem dX4_measure_0 : decode cX4_measure 0 = .ok (.iconst 0, 1) := by decide +kernel
theorem dX4_measure_1 : decode cX4_measure 1 = .ok (.istore_n 2, 1) := by decide +kernel
theorem dX4_measure_2 : decode cX4_measure 2 = .ok (.iload_n 2, 1) := by decide +kernel
theorem dX4_measure_3 : decode cX4_measure 3 = .ok (.aload_n 1, 1) := by decide +kernel
theorem dX4_measure_4 : decode cX4_measure 4 = .ok (.getfield 32, 3) := by decide +kernel
theorem dX4_measure_7 : decode cX4_measure 7 = .ok (.if_icmp .ge 67, 3) := by decide +kernel
theorem dX4_measure_10 : decode cX4_measure 10 = .ok (.aload_n 0, 1) := by decide +kernel
theorem dX4_measure_11 : decode cX4_measure 11 = .ok (.getfield 15, 3) := by decide +kernel
theorem dX4_measure_14 : decode cX4_measure 14 = .ok (.iload_n 2, 1) := by decide +kernel
theorem dX4_measure_15 : decode cX4_measure 15 = .ok (.aload_n 1, 1) := by decide +kernel
theorem dX4_measure_16 : decode cX4_measure 16 = .ok (.iload_n 2, 1) := by decide +kernel
theorem dX4_measure_17 : decode cX4_measure 17 = .ok (.invokevirtual 65, 3) := by decide +kernel
theorem dX4_measure_20 : decode cX4_measure 20 = .ok (.iastore, 1) := by decide +kernel
theorem dX4_measure_21 : decode cX4_measure 21 = .ok (.iconst 0, 1) := by decide +kernel
theorem dX4_measure_22 : decode cX4_measure 22 = .ok (.istore_n 3, 1) := by decide +kernel
theorem dX4_measure_23 : decode cX4_measure 23 = .ok (.iload_n 3, 1) := by decide +kernel
theorem dX4_measure_24 : decode cX4_measure 24 = .ok (.iconst 3, 1) := by decide +kernel
theorem dX4_measure_25 : decode cX4_measure 25 = .ok (.if_icmp .ge 43, 3) := by decide +kernel
theorem dX4_measure_28 : decode cX4_measure 28 = .ok (.aload_n 1, 1) := by decide +kernel
theorem dX4_measure_29 : decode cX4_measure 29 = .ok (.iload_n 2, 1) := by decide +kernel
theorem dX4_measure_30 : decode cX4_measure 30 = .ok (.iload_n 3, 1) := by decide +kernel
theorem dX4_measure_31 : decode cX4_measure 31 = .ok (.invokevirtual 69, 3) := by decide +kernel
theorem dX4_measure_34 : decode cX4_measure 34 = .ok (.istore 4, 2) := by decide +kernel
theorem dX4_measure_36 : decode cX4_measure 36 = .ok (.iload 4, 2) := by decide +kernel
theorem dX4_measure_38 : decode cX4_measure 38 = .ok (.ifCond .ge 24, 3) := by decide +kernel
theorem dX4_measure_62 : decode cX4_measure 62 = .ok (.iinc 3 1, 3) := by decide +kernel
theorem dX4_measure_65 : decode cX4_measure 65 = .ok (.goto (-42), 3) := by decide +kernel
theorem dX4_measure_41 : decode cX4_measure 41 = .ok (.aload_n 0, 1) := by decide +kernel
theorem dX4_measure_42 : decode cX4_measure 42 = .ok (.getfield 9, 3) := by decide +kernel
theorem dX4_measure_45 : decode cX4_measure 45 = .ok (.iload_n 2, 1) := by decide +kernel
theorem dX4_measure_46 : decode cX4_measure 46 = .ok (.bipush 8, 2) := by decide +kernel
theorem dX4_measure_48 : decode cX4_measure 48 = .ok (.imul, 1) := by decide +kernel
theorem dX4_measure_49 : decode cX4_measure 49 = .ok (.iload 4, 2) := by decide +kernel
theorem dX4_measure_51 : decode cX4_measure 51 = .ok (.invokestatic 73, 3) := by decide +kernel
theorem dX4_measure_54 : decode cX4_measure 54 = .ok (.iadd, 1) := by decide +kernel
theorem dX4_measure_55 : decode cX4_measure 55 = .ok (.aload_n 1, 1) := by decide +kernel
theorem dX4_measure_56 : decode cX4_measure 56 = .ok (.iload_n 2, 1) := by decide +kernel
theorem dX4_measure_57 : decode cX4_measure 57 = .ok (.iload_n 3, 1) := by decide +kernel
theorem dX4_measure_58 : decode cX4_measure 58 = .ok (.invokevirtual 76, 3) := by decide +kernel
theorem dX4_measure_61 : decode cX4_measure 61 = .ok (.iastore, 1) := by decide +kernel
theorem dX4_measure_68 : decode cX4_measure 68 = .ok (.iinc 2 1, 3) := by decide +kernel
theorem dX4_measure_71 : decode cX4_measure 71 = .ok (.goto (-69), 3) := by decide +kernel
theorem dX4_measure_74 : decode cX4_measure 74 = .ok (.return_, 1) := by decide +kernel
theorem dX4_dividedUp_0 : decode cX4_dividedUp 0 = .ok (.iload_n 2, 1) := by decide +kernel
theorem dX4_dividedUp_1 : decode cX4_dividedUp 1 = .ok (.iconst 1, 1) := by decide +kernel
theorem dX4_dividedUp_2 : decode cX4_dividedUp 2 = .ok (.if_icmp .le 15, 3) := by decide +kernel
theorem dX4_dividedUp_17 : decode cX4_dividedUp 17 = .ok (.lload_n 0, 1) := by decide +kernel
theorem dX4_dividedUp_18 : decode cX4_dividedUp 18 = .ok (.lreturn, 1) := by decide +kernel
theorem dX4_dividedUp_5 : decode cX4_dividedUp 5 = .ok (.lload_n 0, 1) := by decide +kernel
theorem dX4_dividedUp_6 : decode cX4_dividedUp 6 = .ok (.iload_n 2, 1) := by decide +kernel
theorem dX4_dividedUp_7 : decode cX4_dividedUp 7 = .ok (.i2l, 1) := by decide +kernel
theorem dX4_dividedUp_8 : decode cX4_dividedUp 8 = .ok (.ladd, 1) := by decide +kernel
theorem dX4_dividedUp_9 : decode cX4_dividedUp 9 = .ok (.lconst 1, 1) := by decide +kernel
theorem dX4_dividedUp_10 : decode cX4_dividedUp 10 = .ok (.lsub, 1) := by decide +kernel
theorem dX4_dividedUp_11 : decode cX4_dividedUp 11 = .ok (.iload_n 2, 1) := by decide +kernel
theorem dX4_dividedUp_12 : decode cX4_dividedUp 12 = .ok (.i2l, 1) := by decide +kernel
theorem dX4_dividedUp_13 : decode cX4_dividedUp 13 = .ok (.ldiv, 1) := by decide +kernel
theorem dX4_dividedUp_14 : decode cX4_dividedUp 14 = .ok (.goto 4, 3) := by decide +kernel
theorem dX4_dividedBySpreads_0 : decode cX4_dividedBySpreads 0 = .ok (.lload_n 1, 1) := by decide +kernel
theorem dX4_dividedBySpreads_1 : decode cX4_dividedBySpreads 1 = .ok (.lstore 5, 2) := by decide +kernel
theorem dX4_dividedBySpreads_3 : decode cX4_dividedBySpreads 3 = .ok (.iconst 0, 1) := by decide +kernel
theorem dX4_dividedBySpreads_4 : decode cX4_dividedBySpreads 4 = .ok (.istore 7, 2) := by decide +kernel
theorem dX4_dividedBySpreads_6 : decode cX4_dividedBySpreads 6 = .ok (.iconst 0, 1) := by decide +kernel
theorem dX4_dividedBySpreads_7 : decode cX4_dividedBySpreads 7 = .ok (.istore 8, 2) := by decide +kernel
theorem dX4_dividedBySpreads_9 : decode cX4_dividedBySpreads 9 = .ok (.iload 8, 2) := by decide +kernel
theorem dX4_dividedBySpreads_11 : decode cX4_dividedBySpreads 11 = .ok (.bipush 8, 2) := by decide +kernel
theorem dX4_dividedBySpreads_13 : decode cX4_dividedBySpreads 13 = .ok (.if_icmp .ge 76, 3) := by decide +kernel
theorem dX4_dividedBySpreads_16 : decode cX4_dividedBySpreads 16 = .ok (.iload 4, 2) := by decide +kernel
theorem dX4_dividedBySpreads_18 : decode cX4_dividedBySpreads 18 = .ok (.iload 8, 2) := by decide +kernel
theorem dX4_dividedBySpreads_20 : decode cX4_dividedBySpreads 20 = .ok (.ishr, 1) := by decide +kernel
theorem dX4_dividedBySpreads_21 : decode cX4_dividedBySpreads 21 = .ok (.ifCond .eq 68, 3) := by decide +kernel
theorem dX4_dividedBySpreads_24 : decode cX4_dividedBySpreads 24 = .ok (.iload 4, 2) := by decide +kernel
theorem dX4_dividedBySpreads_26 : decode cX4_dividedBySpreads 26 = .ok (.iload 8, 2) := by decide +kernel
theorem dX4_dividedBySpreads_28 : decode cX4_dividedBySpreads 28 = .ok (.invokestatic 86, 3) := by decide +kernel
theorem dX4_dividedBySpreads_31 : decode cX4_dividedBySpreads 31 = .ok (.ifCond .eq 52, 3) := by decide +kernel
theorem dX4_dividedBySpreads_83 : decode cX4_dividedBySpreads 83 = .ok (.iinc 8 1, 3) := by decide +kernel
theorem dX4_dividedBySpreads_86 : decode cX4_dividedBySpreads 86 = .ok (.goto (-77), 3) := by decide +kernel
theorem dX4_dividedBySpreads_34 : decode cX4_dividedBySpreads 34 = .ok (.aload_n 0, 1) := by decide +kernel
theorem dX4_dividedBySpreads_35 : decode cX4_dividedBySpreads 35 = .ok (.getfield 9, 3) := by decide +kernel
theorem dX4_dividedBySpreads_38 : decode cX4_dividedBySpreads 38 = .ok (.iload 8, 2) := by decide +kernel
theorem dX4_dividedBySpreads_40 : decode cX4_dividedBySpreads 40 = .ok (.bipush 8, 2) := by decide +kernel
theorem dX4_dividedBySpreads_42 : decode cX4_dividedBySpreads 42 = .ok (.imul, 1) := by decide +kernel
theorem dX4_dividedBySpreads_43 : decode cX4_dividedBySpreads 43 = .ok (.iload_n 3, 1) := by decide +kernel
theorem dX4_dividedBySpreads_44 : decode cX4_dividedBySpreads 44 = .ok (.iadd, 1) := by decide +kernel
theorem dX4_dividedBySpreads_45 : decode cX4_dividedBySpreads 45 = .ok (.iaload, 1) := by decide +kernel
theorem dX4_dividedBySpreads_46 : decode cX4_dividedBySpreads 46 = .ok (.istore 9, 2) := by decide +kernel
theorem dX4_dividedBySpreads_48 : decode cX4_dividedBySpreads 48 = .ok (.iload 7, 2) := by decide +kernel
theorem dX4_dividedBySpreads_50 : decode cX4_dividedBySpreads 50 = .ok (.ifCond .ne 10, 3) := by decide +kernel
theorem dX4_dividedBySpreads_60 : decode cX4_dividedBySpreads 60 = .ok (.lload 5, 2) := by decide +kernel
theorem dX4_dividedBySpreads_62 : decode cX4_dividedBySpreads 62 = .ok (.iload 7, 2) := by decide +kernel
theorem dX4_dividedBySpreads_64 : decode cX4_dividedBySpreads 64 = .ok (.iload 9, 2) := by decide +kernel
theorem dX4_dividedBySpreads_66 : decode cX4_dividedBySpreads 66 = .ok (.invokestatic 97, 3) := by decide +kernel
theorem dX4_dividedBySpreads_69 : decode cX4_dividedBySpreads 69 = .ok (.invokestatic 102, 3) := by decide +kernel
theorem dX4_dividedBySpreads_72 : decode cX4_dividedBySpreads 72 = .ok (.lstore 5, 2) := by decide +kernel
theorem dX4_dividedBySpreads_74 : decode cX4_dividedBySpreads 74 = .ok (.iload 7, 2) := by decide +kernel
theorem dX4_dividedBySpreads_76 : decode cX4_dividedBySpreads 76 = .ok (.iload 9, 2) := by decide +kernel
theorem dX4_dividedBySpreads_78 : decode cX4_dividedBySpreads 78 = .ok (.invokestatic 106, 3) := by decide +kernel
theorem dX4_dividedBySpreads_81 : decode cX4_dividedBySpreads 81 = .ok (.istore 7, 2) := by decide +kernel
theorem dX4_dividedBySpreads_53 : decode cX4_dividedBySpreads 53 = .ok (.iload 9, 2) := by decide +kernel
theorem dX4_dividedBySpreads_55 : decode cX4_dividedBySpreads 55 = .ok (.istore 7, 2) := by decide +kernel
theorem dX4_dividedBySpreads_57 : decode cX4_dividedBySpreads 57 = .ok (.goto 26, 3) := by decide +kernel
theorem dX4_dividedBySpreads_89 : decode cX4_dividedBySpreads 89 = .ok (.lload 5, 2) := by decide +kernel
theorem dX4_dividedBySpreads_91 : decode cX4_dividedBySpreads 91 = .ok (.lreturn, 1) := by decide +kernel
theorem dX4_estimateOf_0 : decode cX4_estimateOf 0 = .ok (.lconst 1, 1) := by decide +kernel
theorem dX4_estimateOf_1 : decode cX4_estimateOf 1 = .ok (.lstore_n 3, 1) := by decide +kernel
theorem dX4_estimateOf_2 : decode cX4_estimateOf 2 = .ok (.iconst 0, 1) := by decide +kernel
theorem dX4_estimateOf_3 : decode cX4_estimateOf 3 = .ok (.istore 5, 2) := by decide +kernel
theorem dX4_estimateOf_5 : decode cX4_estimateOf 5 = .ok (.iload 5, 2) := by decide +kernel
theorem dX4_estimateOf_7 : decode cX4_estimateOf 7 = .ok (.bipush 8, 2) := by decide +kernel
theorem dX4_estimateOf_9 : decode cX4_estimateOf 9 = .ok (.if_icmp .ge 29, 3) := by decide +kernel
theorem dX4_estimateOf_12 : decode cX4_estimateOf 12 = .ok (.iload_n 1, 1) := by decide +kernel
theorem dX4_estimateOf_13 : decode cX4_estimateOf 13 = .ok (.iload 5, 2) := by decide +kernel
theorem dX4_estimateOf_15 : decode cX4_estimateOf 15 = .ok (.invokestatic 86, 3) := by decide +kernel
theorem dX4_estimateOf_18 : decode cX4_estimateOf 18 = .ok (.ifCond .eq 14, 3) := by decide +kernel
theorem dX4_estimateOf_32 : decode cX4_estimateOf 32 = .ok (.iinc 5 1, 3) := by decide +kernel
theorem dX4_estimateOf_35 : decode cX4_estimateOf 35 = .ok (.goto (-30), 3) := by decide +kernel
theorem dX4_estimateOf_21 : decode cX4_estimateOf 21 = .ok (.lload_n 3, 1) := by decide +kernel
theorem dX4_estimateOf_22 : decode cX4_estimateOf 22 = .ok (.aload_n 0, 1) := by decide +kernel
theorem dX4_estimateOf_23 : decode cX4_estimateOf 23 = .ok (.getfield 15, 3) := by decide +kernel
theorem dX4_estimateOf_26 : decode cX4_estimateOf 26 = .ok (.iload 5, 2) := by decide +kernel
theorem dX4_estimateOf_28 : decode cX4_estimateOf 28 = .ok (.iaload, 1) := by decide +kernel
theorem dX4_estimateOf_29 : decode cX4_estimateOf 29 = .ok (.i2l, 1) := by decide +kernel
theorem dX4_estimateOf_30 : decode cX4_estimateOf 30 = .ok (.lmul, 1) := by decide +kernel
theorem dX4_estimateOf_31 : decode cX4_estimateOf 31 = .ok (.lstore_n 3, 1) := by decide +kernel
theorem dX4_estimateOf_38 : decode cX4_estimateOf 38 = .ok (.iconst 0, 1) := by decide +kernel
theorem dX4_estimateOf_39 : decode cX4_estimateOf 39 = .ok (.istore 5, 2) := by decide +kernel
theorem dX4_estimateOf_41 : decode cX4_estimateOf 41 = .ok (.iload 5, 2) := by decide +kernel
theorem dX4_estimateOf_43 : decode cX4_estimateOf 43 = .ok (.bipush 8, 2) := by decide +kernel
theorem dX4_estimateOf_45 : decode cX4_estimateOf 45 = .ok (.if_icmp .ge 26, 3) := by decide +kernel
theorem dX4_estimateOf_48 : decode cX4_estimateOf 48 = .ok (.aload_n 0, 1) := by decide +kernel
theorem dX4_estimateOf_49 : decode cX4_estimateOf 49 = .ok (.lload_n 3, 1) := by decide +kernel
theorem dX4_estimateOf_50 : decode cX4_estimateOf 50 = .ok (.iload 5, 2) := by decide +kernel
theorem dX4_estimateOf_52 : decode cX4_estimateOf 52 = .ok (.iload_n 1, 1) := by decide +kernel
theorem dX4_estimateOf_53 : decode cX4_estimateOf 53 = .ok (.aload_n 2, 1) := by decide +kernel
theorem dX4_estimateOf_54 : decode cX4_estimateOf 54 = .ok (.getfield 90, 3) := by decide +kernel
theorem dX4_estimateOf_57 : decode cX4_estimateOf 57 = .ok (.iload 5, 2) := by decide +kernel
theorem dX4_estimateOf_59 : decode cX4_estimateOf 59 = .ok (.iaload, 1) := by decide +kernel
theorem dX4_estimateOf_60 : decode cX4_estimateOf 60 = .ok (.iand, 1) := by decide +kernel
theorem dX4_estimateOf_61 : decode cX4_estimateOf 61 = .ok (.invokevirtual 93, 3) := by decide +kernel
theorem dX4_estimateOf_64 : decode cX4_estimateOf 64 = .ok (.lstore_n 3, 1) := by decide +kernel
theorem dX4_estimateOf_65 : decode cX4_estimateOf 65 = .ok (.iinc 5 1, 3) := by decide +kernel
theorem dX4_estimateOf_68 : decode cX4_estimateOf 68 = .ok (.goto (-27), 3) := by decide +kernel
theorem dX4_estimateOf_71 : decode cX4_estimateOf 71 = .ok (.lload_n 3, 1) := by decide +kernel
theorem dX4_estimateOf_72 : decode cX4_estimateOf 72 = .ok (.lreturn, 1) := by decide +kernel
theorem dX4_variablesOf_0 : decode cX4_variablesOf 0 = .ok (.iconst 0, 1) := by decide +kernel
theorem dX4_variablesOf_1 : decode cX4_variablesOf 1 = .ok (.istore_n 2, 1) := by decide +kernel
theorem dX4_variablesOf_2 : decode cX4_variablesOf 2 = .ok (.iconst 0, 1) := by decide +kernel
theorem dX4_variablesOf_3 : decode cX4_variablesOf 3 = .ok (.istore_n 3, 1) := by decide +kernel
theorem dX4_variablesOf_4 : decode cX4_variablesOf 4 = .ok (.iload_n 3, 1) := by decide +kernel
theorem dX4_variablesOf_5 : decode cX4_variablesOf 5 = .ok (.aload_n 1, 1) := by decide +kernel
theorem dX4_variablesOf_6 : decode cX4_variablesOf 6 = .ok (.getfield 32, 3) := by decide +kernel
theorem dX4_variablesOf_9 : decode cX4_variablesOf 9 = .ok (.if_icmp .ge 26, 3) := by decide +kernel
theorem dX4_variablesOf_12 : decode cX4_variablesOf 12 = .ok (.iload_n 0, 1) := by decide +kernel
theorem dX4_variablesOf_13 : decode cX4_variablesOf 13 = .ok (.iload_n 3, 1) := by decide +kernel
theorem dX4_variablesOf_14 : decode cX4_variablesOf 14 = .ok (.invokestatic 86, 3) := by decide +kernel
theorem dX4_variablesOf_17 : decode cX4_variablesOf 17 = .ok (.ifCond .eq 12, 3) := by decide +kernel
theorem dX4_variablesOf_29 : decode cX4_variablesOf 29 = .ok (.iinc 3 1, 3) := by decide +kernel
theorem dX4_variablesOf_32 : decode cX4_variablesOf 32 = .ok (.goto (-28), 3) := by decide +kernel
theorem dX4_variablesOf_20 : decode cX4_variablesOf 20 = .ok (.iload_n 2, 1) := by decide +kernel
theorem dX4_variablesOf_21 : decode cX4_variablesOf 21 = .ok (.aload_n 1, 1) := by decide +kernel
theorem dX4_variablesOf_22 : decode cX4_variablesOf 22 = .ok (.getfield 126, 3) := by decide +kernel
theorem dX4_variablesOf_25 : decode cX4_variablesOf 25 = .ok (.iload_n 3, 1) := by decide +kernel
theorem dX4_variablesOf_26 : decode cX4_variablesOf 26 = .ok (.iaload, 1) := by decide +kernel
theorem dX4_variablesOf_27 : decode cX4_variablesOf 27 = .ok (.ior, 1) := by decide +kernel
theorem dX4_variablesOf_28 : decode cX4_variablesOf 28 = .ok (.istore_n 2, 1) := by decide +kernel
theorem dX4_variablesOf_35 : decode cX4_variablesOf 35 = .ok (.iload_n 2, 1) := by decide +kernel
theorem dX4_variablesOf_36 : decode cX4_variablesOf 36 = .ok (.ireturn, 1) := by decide +kernel
theorem dX4_nextOnes_0 : decode cX4_nextOnes 0 = .ok (.iload_n 0, 1) := by decide +kernel
theorem dX4_nextOnes_1 : decode cX4_nextOnes 1 = .ok (.aload_n 1, 1) := by decide +kernel
theorem dX4_nextOnes_2 : decode cX4_nextOnes 2 = .ok (.invokestatic 120, 3) := by decide +kernel
theorem dX4_nextOnes_5 : decode cX4_nextOnes 5 = .ok (.istore_n 2, 1) := by decide +kernel
theorem dX4_nextOnes_6 : decode cX4_nextOnes 6 = .ok (.iconst 0, 1) := by decide +kernel
theorem dX4_nextOnes_7 : decode cX4_nextOnes 7 = .ok (.istore_n 3, 1) := by decide +kernel
theorem dX4_nextOnes_8 : decode cX4_nextOnes 8 = .ok (.iconst 0, 1) := by decide +kernel
theorem dX4_nextOnes_9 : decode cX4_nextOnes 9 = .ok (.istore 4, 2) := by decide +kernel
theorem dX4_nextOnes_11 : decode cX4_nextOnes 11 = .ok (.iconst 0, 1) := by decide +kernel
theorem dX4_nextOnes_12 : decode cX4_nextOnes 12 = .ok (.istore 5, 2) := by decide +kernel
theorem dX4_nextOnes_14 : decode cX4_nextOnes 14 = .ok (.iload 5, 2) := by decide +kernel
theorem dX4_nextOnes_16 : decode cX4_nextOnes 16 = .ok (.aload_n 1, 1) := by decide +kernel
theorem dX4_nextOnes_17 : decode cX4_nextOnes 17 = .ok (.getfield 32, 3) := by decide +kernel
theorem dX4_nextOnes_20 : decode cX4_nextOnes 20 = .ok (.if_icmp .ge 71, 3) := by decide +kernel
theorem dX4_nextOnes_23 : decode cX4_nextOnes 23 = .ok (.aload_n 1, 1) := by decide +kernel
theorem dX4_nextOnes_24 : decode cX4_nextOnes 24 = .ok (.getfield 58, 3) := by decide +kernel
theorem dX4_nextOnes_27 : decode cX4_nextOnes 27 = .ok (.iload_n 0, 1) := by decide +kernel
theorem dX4_nextOnes_28 : decode cX4_nextOnes 28 = .ok (.iconst (-1), 1) := by decide +kernel
theorem dX4_nextOnes_29 : decode cX4_nextOnes 29 = .ok (.ixor, 1) := by decide +kernel
theorem dX4_nextOnes_30 : decode cX4_nextOnes 30 = .ok (.iand, 1) := by decide +kernel
theorem dX4_nextOnes_31 : decode cX4_nextOnes 31 = .ok (.iload 5, 2) := by decide +kernel
theorem dX4_nextOnes_33 : decode cX4_nextOnes 33 = .ok (.invokestatic 86, 3) := by decide +kernel
theorem dX4_nextOnes_36 : decode cX4_nextOnes 36 = .ok (.istore 6, 2) := by decide +kernel
theorem dX4_nextOnes_38 : decode cX4_nextOnes 38 = .ok (.iload 6, 2) := by decide +kernel
theorem dX4_nextOnes_40 : decode cX4_nextOnes 40 = .ok (.ifCond .eq 45, 3) := by decide +kernel
theorem dX4_nextOnes_85 : decode cX4_nextOnes 85 = .ok (.iinc 5 1, 3) := by decide +kernel
theorem dX4_nextOnes_88 : decode cX4_nextOnes 88 = .ok (.goto (-74), 3) := by decide +kernel
theorem dX4_nextOnes_43 : decode cX4_nextOnes 43 = .ok (.aload_n 1, 1) := by decide +kernel
theorem dX4_nextOnes_44 : decode cX4_nextOnes 44 = .ok (.getfield 123, 3) := by decide +kernel
theorem dX4_nextOnes_47 : decode cX4_nextOnes 47 = .ok (.iload 5, 2) := by decide +kernel
theorem dX4_nextOnes_49 : decode cX4_nextOnes 49 = .ok (.iaload, 1) := by decide +kernel
theorem dX4_nextOnes_50 : decode cX4_nextOnes 50 = .ok (.iload_n 0, 1) := by decide +kernel
theorem dX4_nextOnes_51 : decode cX4_nextOnes 51 = .ok (.iconst (-1), 1) := by decide +kernel
theorem dX4_nextOnes_52 : decode cX4_nextOnes 52 = .ok (.ixor, 1) := by decide +kernel
theorem dX4_nextOnes_53 : decode cX4_nextOnes 53 = .ok (.iand, 1) := by decide +kernel
theorem dX4_nextOnes_54 : decode cX4_nextOnes 54 = .ok (.ifCond .ne 31, 3) := by decide +kernel
theorem dX4_nextOnes_57 : decode cX4_nextOnes 57 = .ok (.iload_n 3, 1) := by decide +kernel
theorem dX4_nextOnes_58 : decode cX4_nextOnes 58 = .ok (.iconst 1, 1) := by decide +kernel
theorem dX4_nextOnes_59 : decode cX4_nextOnes 59 = .ok (.iload 5, 2) := by decide +kernel
theorem dX4_nextOnes_61 : decode cX4_nextOnes 61 = .ok (.ishl, 1) := by decide +kernel
theorem dX4_nextOnes_62 : decode cX4_nextOnes 62 = .ok (.ior, 1) := by decide +kernel
theorem dX4_nextOnes_63 : decode cX4_nextOnes 63 = .ok (.istore_n 3, 1) := by decide +kernel
theorem dX4_nextOnes_64 : decode cX4_nextOnes 64 = .ok (.aload_n 1, 1) := by decide +kernel
theorem dX4_nextOnes_65 : decode cX4_nextOnes 65 = .ok (.getfield 126, 3) := by decide +kernel
theorem dX4_nextOnes_68 : decode cX4_nextOnes 68 = .ok (.iload 5, 2) := by decide +kernel
theorem dX4_nextOnes_70 : decode cX4_nextOnes 70 = .ok (.iaload, 1) := by decide +kernel
theorem dX4_nextOnes_71 : decode cX4_nextOnes 71 = .ok (.iload_n 2, 1) := by decide +kernel
theorem dX4_nextOnes_72 : decode cX4_nextOnes 72 = .ok (.iand, 1) := by decide +kernel
theorem dX4_nextOnes_73 : decode cX4_nextOnes 73 = .ok (.ifCond .eq 12, 3) := by decide +kernel
theorem dX4_nextOnes_76 : decode cX4_nextOnes 76 = .ok (.iload 4, 2) := by decide +kernel
theorem dX4_nextOnes_78 : decode cX4_nextOnes 78 = .ok (.iconst 1, 1) := by decide +kernel
theorem dX4_nextOnes_79 : decode cX4_nextOnes 79 = .ok (.iload 5, 2) := by decide +kernel
theorem dX4_nextOnes_81 : decode cX4_nextOnes 81 = .ok (.ishl, 1) := by decide +kernel
theorem dX4_nextOnes_82 : decode cX4_nextOnes 82 = .ok (.ior, 1) := by decide +kernel
theorem dX4_nextOnes_83 : decode cX4_nextOnes 83 = .ok (.istore 4, 2) := by decide +kernel
theorem dX4_nextOnes_91 : decode cX4_nextOnes 91 = .ok (.iload 4, 2) := by decide +kernel
theorem dX4_nextOnes_93 : decode cX4_nextOnes 93 = .ok (.ifCond .eq 8, 3) := by decide +kernel
theorem dX4_nextOnes_101 : decode cX4_nextOnes 101 = .ok (.iload_n 3, 1) := by decide +kernel
theorem dX4_nextOnes_102 : decode cX4_nextOnes 102 = .ok (.ireturn, 1) := by decide +kernel
theorem dX4_nextOnes_96 : decode cX4_nextOnes 96 = .ok (.iload 4, 2) := by decide +kernel
theorem dX4_nextOnes_98 : decode cX4_nextOnes 98 = .ok (.goto 4, 3) := by decide +kernel
theorem dX4_costThrough_0 : decode cX4_costThrough 0 = .ok (.iload_n 1, 1) := by decide +kernel
theorem dX4_costThrough_1 : decode cX4_costThrough 1 = .ok (.iconst 1, 1) := by decide +kernel
theorem dX4_costThrough_2 : decode cX4_costThrough 2 = .ok (.iload_n 2, 1) := by decide +kernel
theorem dX4_costThrough_3 : decode cX4_costThrough 3 = .ok (.ishl, 1) := by decide +kernel
theorem dX4_costThrough_4 : decode cX4_costThrough 4 = .ok (.ior, 1) := by decide +kernel
theorem dX4_costThrough_5 : decode cX4_costThrough 5 = .ok (.istore_n 3, 1) := by decide +kernel
theorem dX4_costThrough_6 : decode cX4_costThrough 6 = .ok (.aload_n 0, 1) := by decide +kernel
theorem dX4_costThrough_7 : decode cX4_costThrough 7 = .ok (.getfield 18, 3) := by decide +kernel
theorem dX4_costThrough_10 : decode cX4_costThrough 10 = .ok (.iload_n 3, 1) := by decide +kernel
theorem dX4_costThrough_11 : decode cX4_costThrough 11 = .ok (.laload, 1) := by decide +kernel
theorem dX4_costThrough_12 : decode cX4_costThrough 12 = .ok (.aload_n 0, 1) := by decide +kernel
theorem dX4_costThrough_13 : decode cX4_costThrough 13 = .ok (.getfield 22, 3) := by decide +kernel
theorem dX4_costThrough_16 : decode cX4_costThrough 16 = .ok (.iload_n 3, 1) := by decide +kernel
theorem dX4_costThrough_17 : decode cX4_costThrough 17 = .ok (.laload, 1) := by decide +kernel
theorem dX4_costThrough_18 : decode cX4_costThrough 18 = .ok (.ladd, 1) := by decide +kernel
theorem dX4_costThrough_19 : decode cX4_costThrough 19 = .ok (.lreturn, 1) := by decide +kernel
theorem dX4_leastCostAhead_0 : decode cX4_leastCostAhead 0 = .ok (.iload_n 1, 1) := by decide +kernel
theorem dX4_leastCostAhead_1 : decode cX4_leastCostAhead 1 = .ok (.aload_n 2, 1) := by decide +kernel
theorem dX4_leastCostAhead_2 : decode cX4_leastCostAhead 2 = .ok (.invokestatic 109, 3) := by decide +kernel
theorem dX4_leastCostAhead_5 : decode cX4_leastCostAhead 5 = .ok (.istore_n 3, 1) := by decide +kernel
theorem dX4_leastCostAhead_6 : decode cX4_leastCostAhead 6 = .ok (.lconst 0, 1) := by decide +kernel
theorem dX4_leastCostAhead_7 : decode cX4_leastCostAhead 7 = .ok (.lstore 4, 2) := by decide +kernel
theorem dX4_leastCostAhead_9 : decode cX4_leastCostAhead 9 = .ok (.iconst 0, 1) := by decide +kernel
theorem dX4_leastCostAhead_10 : decode cX4_leastCostAhead 10 = .ok (.istore 6, 2) := by decide +kernel
theorem dX4_leastCostAhead_12 : decode cX4_leastCostAhead 12 = .ok (.iconst 0, 1) := by decide +kernel
theorem dX4_leastCostAhead_13 : decode cX4_leastCostAhead 13 = .ok (.istore 7, 2) := by decide +kernel
theorem dX4_leastCostAhead_15 : decode cX4_leastCostAhead 15 = .ok (.iload 7, 2) := by decide +kernel
theorem dX4_leastCostAhead_17 : decode cX4_leastCostAhead 17 = .ok (.bipush 8, 2) := by decide +kernel
theorem dX4_leastCostAhead_19 : decode cX4_leastCostAhead 19 = .ok (.if_icmp .ge 49, 3) := by decide +kernel
theorem dX4_leastCostAhead_22 : decode cX4_leastCostAhead 22 = .ok (.iload_n 3, 1) := by decide +kernel
theorem dX4_leastCostAhead_23 : decode cX4_leastCostAhead 23 = .ok (.iload 7, 2) := by decide +kernel
theorem dX4_leastCostAhead_25 : decode cX4_leastCostAhead 25 = .ok (.invokestatic 86, 3) := by decide +kernel
theorem dX4_leastCostAhead_28 : decode cX4_leastCostAhead 28 = .ok (.ifCond .eq 34, 3) := by decide +kernel
theorem dX4_leastCostAhead_62 : decode cX4_leastCostAhead 62 = .ok (.iinc 7 1, 3) := by decide +kernel
theorem dX4_leastCostAhead_65 : decode cX4_leastCostAhead 65 = .ok (.goto (-50), 3) := by decide +kernel
theorem dX4_leastCostAhead_31 : decode cX4_leastCostAhead 31 = .ok (.aload_n 0, 1) := by decide +kernel
theorem dX4_leastCostAhead_32 : decode cX4_leastCostAhead 32 = .ok (.iload_n 1, 1) := by decide +kernel
theorem dX4_leastCostAhead_33 : decode cX4_leastCostAhead 33 = .ok (.iload 7, 2) := by decide +kernel
theorem dX4_leastCostAhead_35 : decode cX4_leastCostAhead 35 = .ok (.invokevirtual 113, 3) := by decide +kernel
theorem dX4_leastCostAhead_38 : decode cX4_leastCostAhead 38 = .ok (.lstore 8, 2) := by decide +kernel
theorem dX4_leastCostAhead_40 : decode cX4_leastCostAhead 40 = .ok (.iload 6, 2) := by decide +kernel
theorem dX4_leastCostAhead_42 : decode cX4_leastCostAhead 42 = .ok (.ifCond .eq 13, 3) := by decide +kernel
theorem dX4_leastCostAhead_55 : decode cX4_leastCostAhead 55 = .ok (.lload 8, 2) := by decide +kernel
theorem dX4_leastCostAhead_45 : decode cX4_leastCostAhead 45 = .ok (.lload 4, 2) := by decide +kernel
theorem dX4_leastCostAhead_47 : decode cX4_leastCostAhead 47 = .ok (.lload 8, 2) := by decide +kernel
theorem dX4_leastCostAhead_49 : decode cX4_leastCostAhead 49 = .ok (.invokestatic 117, 3) := by decide +kernel
theorem dX4_leastCostAhead_52 : decode cX4_leastCostAhead 52 = .ok (.goto 5, 3) := by decide +kernel
theorem dX4_leastCostAhead_57 : decode cX4_leastCostAhead 57 = .ok (.lstore 4, 2) := by decide +kernel
theorem dX4_leastCostAhead_59 : decode cX4_leastCostAhead 59 = .ok (.iconst 1, 1) := by decide +kernel
theorem dX4_leastCostAhead_60 : decode cX4_leastCostAhead 60 = .ok (.istore 6, 2) := by decide +kernel
theorem dX4_leastCostAhead_68 : decode cX4_leastCostAhead 68 = .ok (.lload 4, 2) := by decide +kernel
theorem dX4_leastCostAhead_70 : decode cX4_leastCostAhead 70 = .ok (.lreturn, 1) := by decide +kernel
theorem dX4_weighSets_0 : decode cX4_weighSets 0 = .ok (.aload_n 1, 1) := by decide +kernel
theorem dX4_weighSets_1 : decode cX4_weighSets 1 = .ok (.getfield 58, 3) := by decide +kernel
theorem dX4_weighSets_4 : decode cX4_weighSets 4 = .ok (.istore_n 2, 1) := by decide +kernel
theorem dX4_weighSets_5 : decode cX4_weighSets 5 = .ok (.iload_n 2, 1) := by decide +kernel
theorem dX4_weighSets_6 : decode cX4_weighSets 6 = .ok (.istore_n 3, 1) := by decide +kernel
theorem dX4_weighSets_7 : decode cX4_weighSets 7 = .ok (.iload_n 3, 1) := by decide +kernel
theorem dX4_weighSets_8 : decode cX4_weighSets 8 = .ok (.ifCond .lt 41, 3) := by decide +kernel
theorem dX4_weighSets_11 : decode cX4_weighSets 11 = .ok (.iload_n 3, 1) := by decide +kernel
theorem dX4_weighSets_12 : decode cX4_weighSets 12 = .ok (.iload_n 2, 1) := by decide +kernel
theorem dX4_weighSets_13 : decode cX4_weighSets 13 = .ok (.iconst (-1), 1) := by decide +kernel
theorem dX4_weighSets_14 : decode cX4_weighSets 14 = .ok (.ixor, 1) := by decide +kernel
theorem dX4_weighSets_15 : decode cX4_weighSets 15 = .ok (.iand, 1) := by decide +kernel
theorem dX4_weighSets_16 : decode cX4_weighSets 16 = .ok (.ifCond .ne 27, 3) := by decide +kernel
theorem dX4_weighSets_43 : decode cX4_weighSets 43 = .ok (.iinc 3 (-1), 3) := by decide +kernel
theorem dX4_weighSets_46 : decode cX4_weighSets 46 = .ok (.goto (-39), 3) := by decide +kernel
theorem dX4_weighSets_19 : decode cX4_weighSets 19 = .ok (.aload_n 0, 1) := by decide +kernel
theorem dX4_weighSets_20 : decode cX4_weighSets 20 = .ok (.getfield 18, 3) := by decide +kernel
theorem dX4_weighSets_23 : decode cX4_weighSets 23 = .ok (.iload_n 3, 1) := by decide +kernel
theorem dX4_weighSets_24 : decode cX4_weighSets 24 = .ok (.aload_n 0, 1) := by decide +kernel
theorem dX4_weighSets_25 : decode cX4_weighSets 25 = .ok (.iload_n 3, 1) := by decide +kernel
theorem dX4_weighSets_26 : decode cX4_weighSets 26 = .ok (.aload_n 1, 1) := by decide +kernel
theorem dX4_weighSets_27 : decode cX4_weighSets 27 = .ok (.invokevirtual 79, 3) := by decide +kernel
theorem dX4_weighSets_30 : decode cX4_weighSets 30 = .ok (.lastore, 1) := by decide +kernel
theorem dX4_weighSets_31 : decode cX4_weighSets 31 = .ok (.aload_n 0, 1) := by decide +kernel
theorem dX4_weighSets_32 : decode cX4_weighSets 32 = .ok (.getfield 22, 3) := by decide +kernel
theorem dX4_weighSets_35 : decode cX4_weighSets 35 = .ok (.iload_n 3, 1) := by decide +kernel
theorem dX4_weighSets_36 : decode cX4_weighSets 36 = .ok (.aload_n 0, 1) := by decide +kernel
theorem dX4_weighSets_37 : decode cX4_weighSets 37 = .ok (.iload_n 3, 1) := by decide +kernel
theorem dX4_weighSets_38 : decode cX4_weighSets 38 = .ok (.aload_n 1, 1) := by decide +kernel
theorem dX4_weighSets_39 : decode cX4_weighSets 39 = .ok (.invokevirtual 83, 3) := by decide +kernel
theorem dX4_weighSets_42 : decode cX4_weighSets 42 = .ok (.lastore, 1) := by decide +kernel
theorem dX4_weighSets_49 : decode cX4_weighSets 49 = .ok (.return_, 1) := by decide +kernel
theorem dX4_cheapestNext_0 : decode cX4_cheapestNext 0 = .ok (.iload_n 1, 1) := by decide +kernel
theorem dX4_cheapestNext_1 : decode cX4_cheapestNext 1 = .ok (.aload_n 2, 1) := by decide +kernel
theorem dX4_cheapestNext_2 : decode cX4_cheapestNext 2 = .ok (.invokestatic 109, 3) := by decide +kernel
theorem dX4_cheapestNext_5 : decode cX4_cheapestNext 5 = .ok (.istore_n 3, 1) := by decide +kernel
theorem dX4_cheapestNext_6 : decode cX4_cheapestNext 6 = .ok (.iconst 0, 1) := by decide +kernel
theorem dX4_cheapestNext_7 : decode cX4_cheapestNext 7 = .ok (.istore 4, 2) := by decide +kernel
theorem dX4_cheapestNext_9 : decode cX4_cheapestNext 9 = .ok (.iload 4, 2) := by decide +kernel
theorem dX4_cheapestNext_11 : decode cX4_cheapestNext 11 = .ok (.bipush 8, 2) := by decide +kernel
theorem dX4_cheapestNext_13 : decode cX4_cheapestNext 13 = .ok (.if_icmp .ge 38, 3) := by decide +kernel
theorem dX4_cheapestNext_16 : decode cX4_cheapestNext 16 = .ok (.iload_n 3, 1) := by decide +kernel
theorem dX4_cheapestNext_17 : decode cX4_cheapestNext 17 = .ok (.iload 4, 2) := by decide +kernel
theorem dX4_cheapestNext_19 : decode cX4_cheapestNext 19 = .ok (.invokestatic 86, 3) := by decide +kernel
theorem dX4_cheapestNext_22 : decode cX4_cheapestNext 22 = .ok (.ifCond .eq 23, 3) := by decide +kernel
theorem dX4_cheapestNext_45 : decode cX4_cheapestNext 45 = .ok (.iinc 4 1, 3) := by decide +kernel
theorem dX4_cheapestNext_48 : decode cX4_cheapestNext 48 = .ok (.goto (-39), 3) := by decide +kernel
theorem dX4_cheapestNext_25 : decode cX4_cheapestNext 25 = .ok (.aload_n 0, 1) := by decide +kernel
theorem dX4_cheapestNext_26 : decode cX4_cheapestNext 26 = .ok (.iload_n 1, 1) := by decide +kernel
theorem dX4_cheapestNext_27 : decode cX4_cheapestNext 27 = .ok (.iload 4, 2) := by decide +kernel
theorem dX4_cheapestNext_29 : decode cX4_cheapestNext 29 = .ok (.invokevirtual 113, 3) := by decide +kernel
theorem dX4_cheapestNext_32 : decode cX4_cheapestNext 32 = .ok (.aload_n 0, 1) := by decide +kernel
theorem dX4_cheapestNext_33 : decode cX4_cheapestNext 33 = .ok (.getfield 22, 3) := by decide +kernel
theorem dX4_cheapestNext_36 : decode cX4_cheapestNext 36 = .ok (.iload_n 1, 1) := by decide +kernel
theorem dX4_cheapestNext_37 : decode cX4_cheapestNext 37 = .ok (.laload, 1) := by decide +kernel
theorem dX4_cheapestNext_38 : decode cX4_cheapestNext 38 = .ok (.lcmp, 1) := by decide +kernel
theorem dX4_cheapestNext_39 : decode cX4_cheapestNext 39 = .ok (.ifCond .ne 6, 3) := by decide +kernel
theorem dX4_cheapestNext_42 : decode cX4_cheapestNext 42 = .ok (.iload 4, 2) := by decide +kernel
theorem dX4_cheapestNext_44 : decode cX4_cheapestNext 44 = .ok (.ireturn, 1) := by decide +kernel
theorem dX4_cheapestNext_51 : decode cX4_cheapestNext 51 = .ok (.iconst 0, 1) := by decide +kernel
theorem dX4_cheapestNext_52 : decode cX4_cheapestNext 52 = .ok (.ireturn, 1) := by decide +kernel
theorem dX4_joinOf_0 : decode cX4_joinOf 0 = .ok (.iload_n 2, 1) := by decide +kernel
theorem dX4_joinOf_1 : decode cX4_joinOf 1 = .ok (.ifCond .ne 5, 3) := by decide +kernel
theorem dX4_joinOf_6 : decode cX4_joinOf 6 = .ok (.aload_n 3, 1) := by decide +kernel
theorem dX4_joinOf_7 : decode cX4_joinOf 7 = .ok (.getfield 126, 3) := by decide +kernel
theorem dX4_joinOf_10 : decode cX4_joinOf 10 = .ok (.iload_n 1, 1) := by decide +kernel
theorem dX4_joinOf_11 : decode cX4_joinOf 11 = .ok (.iaload, 1) := by decide +kernel
theorem dX4_joinOf_12 : decode cX4_joinOf 12 = .ok (.iload_n 2, 1) := by decide +kernel
theorem dX4_joinOf_13 : decode cX4_joinOf 13 = .ok (.aload_n 3, 1) := by decide +kernel
theorem dX4_joinOf_14 : decode cX4_joinOf 14 = .ok (.invokestatic 120, 3) := by decide +kernel
theorem dX4_joinOf_17 : decode cX4_joinOf 17 = .ok (.iand, 1) := by decide +kernel
theorem dX4_joinOf_18 : decode cX4_joinOf 18 = .ok (.ifCond .ne 5, 3) := by decide +kernel
theorem dX4_joinOf_23 : decode cX4_joinOf 23 = .ok (.aload_n 0, 1) := by decide +kernel
theorem dX4_joinOf_24 : decode cX4_joinOf 24 = .ok (.getfield 18, 3) := by decide +kernel
theorem dX4_joinOf_27 : decode cX4_joinOf 27 = .ok (.iload_n 2, 1) := by decide +kernel
theorem dX4_joinOf_28 : decode cX4_joinOf 28 = .ok (.laload, 1) := by decide +kernel
theorem dX4_joinOf_29 : decode cX4_joinOf 29 = .ok (.aload_n 0, 1) := by decide +kernel
theorem dX4_joinOf_30 : decode cX4_joinOf 30 = .ok (.getfield 15, 3) := by decide +kernel
theorem dX4_joinOf_33 : decode cX4_joinOf 33 = .ok (.iload_n 1, 1) := by decide +kernel
theorem dX4_joinOf_34 : decode cX4_joinOf 34 = .ok (.iaload, 1) := by decide +kernel
theorem dX4_joinOf_35 : decode cX4_joinOf 35 = .ok (.i2l, 1) := by decide +kernel
theorem dX4_joinOf_36 : decode cX4_joinOf 36 = .ok (.lcmp, 1) := by decide +kernel
theorem dX4_joinOf_37 : decode cX4_joinOf 37 = .ok (.ifCond .gt 7, 3) := by decide +kernel
theorem dX4_joinOf_44 : decode cX4_joinOf 44 = .ok (.iconst 3, 1) := by decide +kernel
theorem dX4_joinOf_45 : decode cX4_joinOf 45 = .ok (.ireturn, 1) := by decide +kernel
theorem dX4_joinOf_40 : decode cX4_joinOf 40 = .ok (.iconst 2, 1) := by decide +kernel
theorem dX4_joinOf_41 : decode cX4_joinOf 41 = .ok (.goto 4, 3) := by decide +kernel
theorem dX4_joinOf_21 : decode cX4_joinOf 21 = .ok (.iconst 1, 1) := by decide +kernel
theorem dX4_joinOf_22 : decode cX4_joinOf 22 = .ok (.ireturn, 1) := by decide +kernel
theorem dX4_joinOf_4 : decode cX4_joinOf 4 = .ok (.iconst 0, 1) := by decide +kernel
theorem dX4_joinOf_5 : decode cX4_joinOf 5 = .ok (.ireturn, 1) := by decide +kernel
theorem dX4_orderRequired_0 : decode cX4_orderRequired 0 = .ok (.aload_n 1, 1) := by decide +kernel
theorem dX4_orderRequired_1 : decode cX4_orderRequired 1 = .ok (.getfield 58, 3) := by decide +kernel
theorem dX4_orderRequired_4 : decode cX4_orderRequired 4 = .ok (.invokestatic 129, 3) := by decide +kernel
theorem dX4_orderRequired_7 : decode cX4_orderRequired 7 = .ok (.istore_n 3, 1) := by decide +kernel
theorem dX4_orderRequired_8 : decode cX4_orderRequired 8 = .ok (.iconst 0, 1) := by decide +kernel
theorem dX4_orderRequired_9 : decode cX4_orderRequired 9 = .ok (.istore 4, 2) := by decide +kernel
theorem dX4_orderRequired_11 : decode cX4_orderRequired 11 = .ok (.iconst 0, 1) := by decide +kernel
theorem dX4_orderRequired_12 : decode cX4_orderRequired 12 = .ok (.istore 5, 2) := by decide +kernel
theorem dX4_orderRequired_14 : decode cX4_orderRequired 14 = .ok (.iload 5, 2) := by decide +kernel
theorem dX4_orderRequired_16 : decode cX4_orderRequired 16 = .ok (.iload_n 3, 1) := by decide +kernel
theorem dX4_orderRequired_17 : decode cX4_orderRequired 17 = .ok (.if_icmp .ge 66, 3) := by decide +kernel
theorem dX4_orderRequired_20 : decode cX4_orderRequired 20 = .ok (.aload_n 0, 1) := by decide +kernel
theorem dX4_orderRequired_21 : decode cX4_orderRequired 21 = .ok (.iload 4, 2) := by decide +kernel
theorem dX4_orderRequired_23 : decode cX4_orderRequired 23 = .ok (.aload_n 1, 1) := by decide +kernel
theorem dX4_orderRequired_24 : decode cX4_orderRequired 24 = .ok (.invokevirtual 134, 3) := by decide +kernel
theorem dX4_orderRequired_27 : decode cX4_orderRequired 27 = .ok (.istore 6, 2) := by decide +kernel
theorem dX4_orderRequired_29 : decode cX4_orderRequired 29 = .ok (.aload_n 2, 1) := by decide +kernel
theorem dX4_orderRequired_30 : decode cX4_orderRequired 30 = .ok (.getfield 47, 3) := by decide +kernel
theorem dX4_orderRequired_33 : decode cX4_orderRequired 33 = .ok (.iload 5, 2) := by decide +kernel
theorem dX4_orderRequired_35 : decode cX4_orderRequired 35 = .ok (.iload 6, 2) := by decide +kernel
theorem dX4_orderRequired_37 : decode cX4_orderRequired 37 = .ok (.iastore, 1) := by decide +kernel
theorem dX4_orderRequired_38 : decode cX4_orderRequired 38 = .ok (.aload_n 2, 1) := by decide +kernel
theorem dX4_orderRequired_39 : decode cX4_orderRequired 39 = .ok (.getfield 54, 3) := by decide +kernel
theorem dX4_orderRequired_42 : decode cX4_orderRequired 42 = .ok (.iload 5, 2) := by decide +kernel
theorem dX4_orderRequired_44 : decode cX4_orderRequired 44 = .ok (.aload_n 0, 1) := by decide +kernel
theorem dX4_orderRequired_45 : decode cX4_orderRequired 45 = .ok (.iload 6, 2) := by decide +kernel
theorem dX4_orderRequired_47 : decode cX4_orderRequired 47 = .ok (.iload 4, 2) := by decide +kernel
theorem dX4_orderRequired_49 : decode cX4_orderRequired 49 = .ok (.aload_n 1, 1) := by decide +kernel
theorem dX4_orderRequired_50 : decode cX4_orderRequired 50 = .ok (.invokevirtual 137, 3) := by decide +kernel
theorem dX4_orderRequired_53 : decode cX4_orderRequired 53 = .ok (.iastore, 1) := by decide +kernel
theorem dX4_orderRequired_54 : decode cX4_orderRequired 54 = .ok (.iload 4, 2) := by decide +kernel
theorem dX4_orderRequired_56 : decode cX4_orderRequired 56 = .ok (.iconst 1, 1) := by decide +kernel
theorem dX4_orderRequired_57 : decode cX4_orderRequired 57 = .ok (.iload 6, 2) := by decide +kernel
theorem dX4_orderRequired_59 : decode cX4_orderRequired 59 = .ok (.ishl, 1) := by decide +kernel
theorem dX4_orderRequired_60 : decode cX4_orderRequired 60 = .ok (.ior, 1) := by decide +kernel
theorem dX4_orderRequired_61 : decode cX4_orderRequired 61 = .ok (.istore 4, 2) := by decide +kernel
theorem dX4_orderRequired_63 : decode cX4_orderRequired 63 = .ok (.aload_n 2, 1) := by decide +kernel
theorem dX4_orderRequired_64 : decode cX4_orderRequired 64 = .ok (.getfield 57, 3) := by decide +kernel
theorem dX4_orderRequired_67 : decode cX4_orderRequired 67 = .ok (.iload 5, 2) := by decide +kernel
theorem dX4_orderRequired_69 : decode cX4_orderRequired 69 = .ok (.aload_n 0, 1) := by decide +kernel
theorem dX4_orderRequired_70 : decode cX4_orderRequired 70 = .ok (.getfield 18, 3) := by decide +kernel
theorem dX4_orderRequired_73 : decode cX4_orderRequired 73 = .ok (.iload 4, 2) := by decide +kernel
theorem dX4_orderRequired_75 : decode cX4_orderRequired 75 = .ok (.laload, 1) := by decide +kernel
theorem dX4_orderRequired_76 : decode cX4_orderRequired 76 = .ok (.lastore, 1) := by decide +kernel
theorem dX4_orderRequired_77 : decode cX4_orderRequired 77 = .ok (.iinc 5 1, 3) := by decide +kernel
theorem dX4_orderRequired_80 : decode cX4_orderRequired 80 = .ok (.goto (-66), 3) := by decide +kernel
theorem dX4_orderRequired_83 : decode cX4_orderRequired 83 = .ok (.iload_n 3, 1) := by decide +kernel
theorem dX4_orderRequired_84 : decode cX4_orderRequired 84 = .ok (.ireturn, 1) := by decide +kernel
theorem dX2_nextOptional_0 : decode cX2_nextOptional 0 = .ok (.iconst 0, 1) := by decide +kernel
theorem dX2_nextOptional_1 : decode cX2_nextOptional 1 = .ok (.istore_n 2, 1) := by decide +kernel
theorem dX2_nextOptional_2 : decode cX2_nextOptional 2 = .ok (.iload_n 2, 1) := by decide +kernel
theorem dX2_nextOptional_3 : decode cX2_nextOptional 3 = .ok (.aload_n 0, 1) := by decide +kernel
theorem dX2_nextOptional_4 : decode cX2_nextOptional 4 = .ok (.getfield 39, 3) := by decide +kernel
theorem dX2_nextOptional_7 : decode cX2_nextOptional 7 = .ok (.if_icmp .ge 32, 3) := by decide +kernel
theorem dX2_nextOptional_10 : decode cX2_nextOptional 10 = .ok (.iload_n 1, 1) := by decide +kernel
theorem dX2_nextOptional_11 : decode cX2_nextOptional 11 = .ok (.iload_n 2, 1) := by decide +kernel
theorem dX2_nextOptional_12 : decode cX2_nextOptional 12 = .ok (.invokestatic 46, 3) := by decide +kernel
theorem dX2_nextOptional_15 : decode cX2_nextOptional 15 = .ok (.ifCond .ne 18, 3) := by decide +kernel
theorem dX2_nextOptional_33 : decode cX2_nextOptional 33 = .ok (.iinc 2 1, 3) := by decide +kernel
theorem dX2_nextOptional_36 : decode cX2_nextOptional 36 = .ok (.goto (-34), 3) := by decide +kernel
theorem dX2_nextOptional_18 : decode cX2_nextOptional 18 = .ok (.iload_n 1, 1) := by decide +kernel
theorem dX2_nextOptional_19 : decode cX2_nextOptional 19 = .ok (.aload_n 0, 1) := by decide +kernel
theorem dX2_nextOptional_20 : decode cX2_nextOptional 20 = .ok (.getfield 33, 3) := by decide +kernel
theorem dX2_nextOptional_23 : decode cX2_nextOptional 23 = .ok (.iload_n 2, 1) := by decide +kernel
theorem dX2_nextOptional_24 : decode cX2_nextOptional 24 = .ok (.iaload, 1) := by decide +kernel
theorem dX2_nextOptional_25 : decode cX2_nextOptional 25 = .ok (.invokestatic 46, 3) := by decide +kernel
theorem dX2_nextOptional_28 : decode cX2_nextOptional 28 = .ok (.ifCond .eq 5, 3) := by decide +kernel
theorem dX2_nextOptional_31 : decode cX2_nextOptional 31 = .ok (.iload_n 2, 1) := by decide +kernel
theorem dX2_nextOptional_32 : decode cX2_nextOptional 32 = .ok (.ireturn, 1) := by decide +kernel
theorem dX2_nextOptional_39 : decode cX2_nextOptional 39 = .ok (.iconst 0, 1) := by decide +kernel
theorem dX2_nextOptional_40 : decode cX2_nextOptional 40 = .ok (.ireturn, 1) := by decide +kernel
theorem dX2_orderOptional_0 : decode cX2_orderOptional 0 = .ok (.aload_n 0, 1) := by decide +kernel
theorem dX2_orderOptional_1 : decode cX2_orderOptional 1 = .ok (.getfield 43, 3) := by decide +kernel
theorem dX2_orderOptional_4 : decode cX2_orderOptional 4 = .ok (.istore_n 3, 1) := by decide +kernel
theorem dX2_orderOptional_5 : decode cX2_orderOptional 5 = .ok (.iload_n 2, 1) := by decide +kernel
theorem dX2_orderOptional_6 : decode cX2_orderOptional 6 = .ok (.istore 4, 2) := by decide +kernel
theorem dX2_orderOptional_8 : decode cX2_orderOptional 8 = .ok (.iload 4, 2) := by decide +kernel
theorem dX2_orderOptional_10 : decode cX2_orderOptional 10 = .ok (.aload_n 0, 1) := by decide +kernel
theorem dX2_orderOptional_11 : decode cX2_orderOptional 11 = .ok (.getfield 39, 3) := by decide +kernel
theorem dX2_orderOptional_14 : decode cX2_orderOptional 14 = .ok (.if_icmp .ge 29, 3) := by decide +kernel
theorem dX2_orderOptional_17 : decode cX2_orderOptional 17 = .ok (.aload_n 0, 1) := by decide +kernel
theorem dX2_orderOptional_18 : decode cX2_orderOptional 18 = .ok (.iload_n 3, 1) := by decide +kernel
theorem dX2_orderOptional_19 : decode cX2_orderOptional 19 = .ok (.invokevirtual 106, 3) := by decide +kernel
theorem dX2_orderOptional_22 : decode cX2_orderOptional 22 = .ok (.istore 5, 2) := by decide +kernel
theorem dX2_orderOptional_24 : decode cX2_orderOptional 24 = .ok (.aload_n 1, 1) := by decide +kernel
theorem dX2_orderOptional_25 : decode cX2_orderOptional 25 = .ok (.iload 4, 2) := by decide +kernel
theorem dX2_orderOptional_27 : decode cX2_orderOptional 27 = .ok (.iload 5, 2) := by decide +kernel
theorem dX2_orderOptional_29 : decode cX2_orderOptional 29 = .ok (.iastore, 1) := by decide +kernel
theorem dX2_orderOptional_30 : decode cX2_orderOptional 30 = .ok (.iload_n 3, 1) := by decide +kernel
theorem dX2_orderOptional_31 : decode cX2_orderOptional 31 = .ok (.iconst 1, 1) := by decide +kernel
theorem dX2_orderOptional_32 : decode cX2_orderOptional 32 = .ok (.iload 5, 2) := by decide +kernel
theorem dX2_orderOptional_34 : decode cX2_orderOptional 34 = .ok (.ishl, 1) := by decide +kernel
theorem dX2_orderOptional_35 : decode cX2_orderOptional 35 = .ok (.ior, 1) := by decide +kernel
theorem dX2_orderOptional_36 : decode cX2_orderOptional 36 = .ok (.istore_n 3, 1) := by decide +kernel
theorem dX2_orderOptional_37 : decode cX2_orderOptional 37 = .ok (.iinc 4 1, 3) := by decide +kernel
theorem dX2_orderOptional_40 : decode cX2_orderOptional 40 = .ok (.goto (-32), 3) := by decide +kernel
theorem dX2_orderOptional_43 : decode cX2_orderOptional 43 = .ok (.return_, 1) := by decide +kernel
theorem dX3_firstBinding_0 : decode cX3_firstBinding 0 = .ok (.iconst 0, 1) := by decide +kernel
theorem dX3_firstBinding_1 : decode cX3_firstBinding 1 = .ok (.istore_n 3, 1) := by decide +kernel
theorem dX3_firstBinding_2 : decode cX3_firstBinding 2 = .ok (.iload_n 3, 1) := by decide +kernel
theorem dX3_firstBinding_3 : decode cX3_firstBinding 3 = .ok (.aload_n 0, 1) := by decide +kernel
theorem dX3_firstBinding_4 : decode cX3_firstBinding 4 = .ok (.getfield 28, 3) := by decide +kernel
theorem dX3_firstBinding_7 : decode cX3_firstBinding 7 = .ok (.if_icmp .ge 42, 3) := by decide +kernel
theorem dX3_firstBinding_10 : decode cX3_firstBinding 10 = .ok (.aload_n 0, 1) := by decide +kernel
theorem dX3_firstBinding_11 : decode cX3_firstBinding 11 = .ok (.getfield 9, 3) := by decide +kernel
theorem dX3_firstBinding_14 : decode cX3_firstBinding 14 = .ok (.iload_n 3, 1) := by decide +kernel
theorem dX3_firstBinding_15 : decode cX3_firstBinding 15 = .ok (.iaload, 1) := by decide +kernel
theorem dX3_firstBinding_16 : decode cX3_firstBinding 16 = .ok (.istore 4, 2) := by decide +kernel
theorem dX3_firstBinding_18 : decode cX3_firstBinding 18 = .ok (.aload_n 2, 1) := by decide +kernel
theorem dX3_firstBinding_19 : decode cX3_firstBinding 19 = .ok (.iload 4, 2) := by decide +kernel
theorem dX3_firstBinding_21 : decode cX3_firstBinding 21 = .ok (.invokevirtual 54, 3) := by decide +kernel
theorem dX3_firstBinding_24 : decode cX3_firstBinding 24 = .ok (.ifCond .eq 19, 3) := by decide +kernel
theorem dX3_firstBinding_43 : decode cX3_firstBinding 43 = .ok (.iinc 3 1, 3) := by decide +kernel
theorem dX3_firstBinding_46 : decode cX3_firstBinding 46 = .ok (.goto (-44), 3) := by decide +kernel
theorem dX3_firstBinding_27 : decode cX3_firstBinding 27 = .ok (.aload_n 2, 1) := by decide +kernel
theorem dX3_firstBinding_28 : decode cX3_firstBinding 28 = .ok (.getfield 60, 3) := by decide +kernel
theorem dX3_firstBinding_31 : decode cX3_firstBinding 31 = .ok (.iload 4, 2) := by decide +kernel
theorem dX3_firstBinding_33 : decode cX3_firstBinding 33 = .ok (.iaload, 1) := by decide +kernel
theorem dX3_firstBinding_34 : decode cX3_firstBinding 34 = .ok (.iload_n 1, 1) := by decide +kernel
theorem dX3_firstBinding_35 : decode cX3_firstBinding 35 = .ok (.invokestatic 43, 3) := by decide +kernel
theorem dX3_firstBinding_38 : decode cX3_firstBinding 38 = .ok (.ifCond .eq 5, 3) := by decide +kernel
theorem dX3_firstBinding_41 : decode cX3_firstBinding 41 = .ok (.iload_n 3, 1) := by decide +kernel
theorem dX3_firstBinding_42 : decode cX3_firstBinding 42 = .ok (.ireturn, 1) := by decide +kernel
theorem dX3_firstBinding_49 : decode cX3_firstBinding 49 = .ok (.aload_n 0, 1) := by decide +kernel
theorem dX3_firstBinding_50 : decode cX3_firstBinding 50 = .ok (.getfield 28, 3) := by decide +kernel
theorem dX3_firstBinding_53 : decode cX3_firstBinding 53 = .ok (.iconst 1, 1) := by decide +kernel
theorem dX3_firstBinding_54 : decode cX3_firstBinding 54 = .ok (.isub, 1) := by decide +kernel
theorem dX3_firstBinding_55 : decode cX3_firstBinding 55 = .ok (.ireturn, 1) := by decide +kernel
theorem dX3_placeFilters_0 : decode cX3_placeFilters 0 = .ok (.aload_n 0, 1) := by decide +kernel
theorem dX3_placeFilters_1 : decode cX3_placeFilters 1 = .ok (.aload_n 1, 1) := by decide +kernel
theorem dX3_placeFilters_2 : decode cX3_placeFilters 2 = .ok (.getfield 32, 3) := by decide +kernel
theorem dX3_placeFilters_5 : decode cX3_placeFilters 5 = .ok (.putfield 37, 3) := by decide +kernel
theorem dX3_placeFilters_8 : decode cX3_placeFilters 8 = .ok (.iconst 0, 1) := by decide +kernel
theorem dX3_placeFilters_9 : decode cX3_placeFilters 9 = .ok (.istore_n 3, 1) := by decide +kernel
theorem dX3_placeFilters_10 : decode cX3_placeFilters 10 = .ok (.iload_n 3, 1) := by decide +kernel
theorem dX3_placeFilters_11 : decode cX3_placeFilters 11 = .ok (.aload_n 0, 1) := by decide +kernel
theorem dX3_placeFilters_12 : decode cX3_placeFilters 12 = .ok (.getfield 28, 3) := by decide +kernel
theorem dX3_placeFilters_15 : decode cX3_placeFilters 15 = .ok (.if_icmp .ge 16, 3) := by decide +kernel
theorem dX3_placeFilters_18 : decode cX3_placeFilters 18 = .ok (.aload_n 0, 1) := by decide +kernel
theorem dX3_placeFilters_19 : decode cX3_placeFilters 19 = .ok (.getfield 18, 3) := by decide +kernel
theorem dX3_placeFilters_22 : decode cX3_placeFilters 22 = .ok (.iload_n 3, 1) := by decide +kernel
theorem dX3_placeFilters_23 : decode cX3_placeFilters 23 = .ok (.iconst 0, 1) := by decide +kernel
theorem dX3_placeFilters_24 : decode cX3_placeFilters 24 = .ok (.iastore, 1) := by decide +kernel
theorem dX3_placeFilters_25 : decode cX3_placeFilters 25 = .ok (.iinc 3 1, 3) := by decide +kernel
theorem dX3_placeFilters_28 : decode cX3_placeFilters 28 = .ok (.goto (-18), 3) := by decide +kernel
theorem dX3_placeFilters_31 : decode cX3_placeFilters 31 = .ok (.aload_n 0, 1) := by decide +kernel
theorem dX3_placeFilters_32 : decode cX3_placeFilters 32 = .ok (.getfield 28, 3) := by decide +kernel
theorem dX3_placeFilters_35 : decode cX3_placeFilters 35 = .ok (.ifCond .ne 4, 3) := by decide +kernel
theorem dX3_placeFilters_39 : decode cX3_placeFilters 39 = .ok (.iconst 0, 1) := by decide +kernel
theorem dX3_placeFilters_40 : decode cX3_placeFilters 40 = .ok (.istore_n 3, 1) := by decide +kernel
theorem dX3_placeFilters_41 : decode cX3_placeFilters 41 = .ok (.iload_n 3, 1) := by decide +kernel
theorem dX3_placeFilters_42 : decode cX3_placeFilters 42 = .ok (.aload_n 0, 1) := by decide +kernel
theorem dX3_placeFilters_43 : decode cX3_placeFilters 43 = .ok (.getfield 37, 3) := by decide +kernel
theorem dX3_placeFilters_46 : decode cX3_placeFilters 46 = .ok (.if_icmp .ge 63, 3) := by decide +kernel
theorem dX3_placeFilters_49 : decode cX3_placeFilters 49 = .ok (.aload_n 1, 1) := by decide +kernel
theorem dX3_placeFilters_50 : decode cX3_placeFilters 50 = .ok (.getfield 40, 3) := by decide +kernel
theorem dX3_placeFilters_53 : decode cX3_placeFilters 53 = .ok (.iload_n 3, 1) := by decide +kernel
theorem dX3_placeFilters_54 : decode cX3_placeFilters 54 = .ok (.invokestatic 43, 3) := by decide +kernel
theorem dX3_placeFilters_57 : decode cX3_placeFilters 57 = .ok (.ifCond .eq 17, 3) := by decide +kernel
theorem dX3_placeFilters_74 : decode cX3_placeFilters 74 = .ok (.aload_n 0, 1) := by decide +kernel
theorem dX3_placeFilters_75 : decode cX3_placeFilters 75 = .ok (.getfield 28, 3) := by decide +kernel
theorem dX3_placeFilters_78 : decode cX3_placeFilters 78 = .ok (.iconst 1, 1) := by decide +kernel
theorem dX3_placeFilters_79 : decode cX3_placeFilters 79 = .ok (.isub, 1) := by decide +kernel
theorem dX3_placeFilters_60 : decode cX3_placeFilters 60 = .ok (.aload_n 0, 1) := by decide +kernel
theorem dX3_placeFilters_61 : decode cX3_placeFilters 61 = .ok (.aload_n 1, 1) := by decide +kernel
theorem dX3_placeFilters_62 : decode cX3_placeFilters 62 = .ok (.getfield 47, 3) := by decide +kernel
theorem dX3_placeFilters_65 : decode cX3_placeFilters 65 = .ok (.iload_n 3, 1) := by decide +kernel
theorem dX3_placeFilters_66 : decode cX3_placeFilters 66 = .ok (.iaload, 1) := by decide +kernel
theorem dX3_placeFilters_67 : decode cX3_placeFilters 67 = .ok (.aload_n 2, 1) := by decide +kernel
theorem dX3_placeFilters_68 : decode cX3_placeFilters 68 = .ok (.invokevirtual 50, 3) := by decide +kernel
theorem dX3_placeFilters_71 : decode cX3_placeFilters 71 = .ok (.goto 9, 3) := by decide +kernel
theorem dX3_placeFilters_80 : decode cX3_placeFilters 80 = .ok (.istore 4, 2) := by decide +kernel
theorem dX3_placeFilters_82 : decode cX3_placeFilters 82 = .ok (.aload_n 0, 1) := by decide +kernel
theorem dX3_placeFilters_83 : decode cX3_placeFilters 83 = .ok (.getfield 25, 3) := by decide +kernel
theorem dX3_placeFilters_86 : decode cX3_placeFilters 86 = .ok (.iload_n 3, 1) := by decide +kernel
theorem dX3_placeFilters_87 : decode cX3_placeFilters 87 = .ok (.iload 4, 2) := by decide +kernel
theorem dX3_placeFilters_89 : decode cX3_placeFilters 89 = .ok (.iastore, 1) := by decide +kernel
theorem dX3_placeFilters_90 : decode cX3_placeFilters 90 = .ok (.aload_n 0, 1) := by decide +kernel
theorem dX3_placeFilters_91 : decode cX3_placeFilters 91 = .ok (.getfield 18, 3) := by decide +kernel
theorem dX3_placeFilters_94 : decode cX3_placeFilters 94 = .ok (.iload 4, 2) := by decide +kernel
theorem dX3_placeFilters_96 : decode cX3_placeFilters 96 = .ok (.dup2, 1) := by decide +kernel
theorem dX3_placeFilters_97 : decode cX3_placeFilters 97 = .ok (.iaload, 1) := by decide +kernel
theorem dX3_placeFilters_98 : decode cX3_placeFilters 98 = .ok (.iconst 1, 1) := by decide +kernel
theorem dX3_placeFilters_99 : decode cX3_placeFilters 99 = .ok (.iload_n 3, 1) := by decide +kernel
theorem dX3_placeFilters_100 : decode cX3_placeFilters 100 = .ok (.ishl, 1) := by decide +kernel
theorem dX3_placeFilters_101 : decode cX3_placeFilters 101 = .ok (.ior, 1) := by decide +kernel
theorem dX3_placeFilters_102 : decode cX3_placeFilters 102 = .ok (.iastore, 1) := by decide +kernel
theorem dX3_placeFilters_103 : decode cX3_placeFilters 103 = .ok (.iinc 3 1, 3) := by decide +kernel
theorem dX3_placeFilters_106 : decode cX3_placeFilters 106 = .ok (.goto (-65), 3) := by decide +kernel
theorem dX3_placeFilters_109 : decode cX3_placeFilters 109 = .ok (.return_, 1) := by decide +kernel
theorem dX3_placeFilters_38 : decode cX3_placeFilters 38 = .ok (.return_, 1) := by decide +kernel
theorem dX4_arrange_0 : decode cX4_arrange 0 = .ok (.aload_n 0, 1) := by decide +kernel
theorem dX4_arrange_1 : decode cX4_arrange 1 = .ok (.aload_n 1, 1) := by decide +kernel
theorem dX4_arrange_2 : decode cX4_arrange 2 = .ok (.invokevirtual 25, 3) := by decide +kernel
theorem dX4_arrange_5 : decode cX4_arrange 5 = .ok (.aload_n 0, 1) := by decide +kernel
theorem dX4_arrange_6 : decode cX4_arrange 6 = .ok (.aload_n 1, 1) := by decide +kernel
theorem dX4_arrange_7 : decode cX4_arrange 7 = .ok (.invokevirtual 29, 3) := by decide +kernel
theorem dX4_arrange_10 : decode cX4_arrange 10 = .ok (.aload_n 3, 1) := by decide +kernel
theorem dX4_arrange_11 : decode cX4_arrange 11 = .ok (.aload_n 1, 1) := by decide +kernel
theorem dX4_arrange_12 : decode cX4_arrange 12 = .ok (.getfield 32, 3) := by decide +kernel
theorem dX4_arrange_15 : decode cX4_arrange 15 = .ok (.putfield 38, 3) := by decide +kernel
theorem dX4_arrange_18 : decode cX4_arrange 18 = .ok (.aload_n 0, 1) := by decide +kernel
theorem dX4_arrange_19 : decode cX4_arrange 19 = .ok (.aload_n 1, 1) := by decide +kernel
theorem dX4_arrange_20 : decode cX4_arrange 20 = .ok (.aload_n 3, 1) := by decide +kernel
theorem dX4_arrange_21 : decode cX4_arrange 21 = .ok (.invokevirtual 43, 3) := by decide +kernel
theorem dX4_arrange_24 : decode cX4_arrange 24 = .ok (.istore 4, 2) := by decide +kernel
theorem dX4_arrange_26 : decode cX4_arrange 26 = .ok (.aload_n 1, 1) := by decide +kernel
theorem dX4_arrange_27 : decode cX4_arrange 27 = .ok (.aload_n 3, 1) := by decide +kernel
theorem dX4_arrange_28 : decode cX4_arrange 28 = .ok (.getfield 47, 3) := by decide +kernel
theorem dX4_arrange_31 : decode cX4_arrange 31 = .ok (.iload 4, 2) := by decide +kernel
theorem dX4_arrange_33 : decode cX4_arrange 33 = .ok (.invokevirtual 50, 3) := by decide +kernel
theorem dX4_arrange_36 : decode cX4_arrange 36 = .ok (.iload 4, 2) := by decide +kernel
theorem dX4_arrange_38 : decode cX4_arrange 38 = .ok (.istore 5, 2) := by decide +kernel
theorem dX4_arrange_40 : decode cX4_arrange 40 = .ok (.iload 5, 2) := by decide +kernel
theorem dX4_arrange_42 : decode cX4_arrange 42 = .ok (.aload_n 3, 1) := by decide +kernel
theorem dX4_arrange_43 : decode cX4_arrange 43 = .ok (.getfield 38, 3) := by decide +kernel
theorem dX4_arrange_46 : decode cX4_arrange 46 = .ok (.if_icmp .ge 33, 3) := by decide +kernel
theorem dX4_arrange_49 : decode cX4_arrange 49 = .ok (.aload_n 3, 1) := by decide +kernel
theorem dX4_arrange_50 : decode cX4_arrange 50 = .ok (.getfield 54, 3) := by decide +kernel
theorem dX4_arrange_53 : decode cX4_arrange 53 = .ok (.iload 5, 2) := by decide +kernel
theorem dX4_arrange_55 : decode cX4_arrange 55 = .ok (.iconst 4, 1) := by decide +kernel
theorem dX4_arrange_56 : decode cX4_arrange 56 = .ok (.iastore, 1) := by decide +kernel
theorem dX4_arrange_57 : decode cX4_arrange 57 = .ok (.aload_n 3, 1) := by decide +kernel
theorem dX4_arrange_58 : decode cX4_arrange 58 = .ok (.getfield 57, 3) := by decide +kernel
theorem dX4_arrange_61 : decode cX4_arrange 61 = .ok (.iload 5, 2) := by decide +kernel
theorem dX4_arrange_63 : decode cX4_arrange 63 = .ok (.aload_n 0, 1) := by decide +kernel
theorem dX4_arrange_64 : decode cX4_arrange 64 = .ok (.getfield 18, 3) := by decide +kernel
theorem dX4_arrange_67 : decode cX4_arrange 67 = .ok (.aload_n 1, 1) := by decide +kernel
theorem dX4_arrange_68 : decode cX4_arrange 68 = .ok (.getfield 58, 3) := by decide +kernel
theorem dX4_arrange_71 : decode cX4_arrange 71 = .ok (.laload, 1) := by decide +kernel
theorem dX4_arrange_72 : decode cX4_arrange 72 = .ok (.lastore, 1) := by decide +kernel
theorem dX4_arrange_73 : decode cX4_arrange 73 = .ok (.iinc 5 1, 3) := by decide +kernel
theorem dX4_arrange_76 : decode cX4_arrange 76 = .ok (.goto (-36), 3) := by decide +kernel
theorem dX4_arrange_79 : decode cX4_arrange 79 = .ok (.aload_n 3, 1) := by decide +kernel
theorem dX4_arrange_80 : decode cX4_arrange 80 = .ok (.aload_n 2, 1) := by decide +kernel
theorem dX4_arrange_81 : decode cX4_arrange 81 = .ok (.aload_n 1, 1) := by decide +kernel
theorem dX4_arrange_82 : decode cX4_arrange 82 = .ok (.invokevirtual 61, 3) := by decide +kernel
theorem dX4_arrange_85 : decode cX4_arrange 85 = .ok (.return_, 1) := by decide +kernel
theorem dX0_plan_0 : decode cX0_plan 0 = .ok (.aload_n 0, 1) := by decide +kernel
theorem dX0_plan_1 : decode cX0_plan 1 = .ok (.getfield 33, 3) := by decide +kernel
theorem dX0_plan_4 : decode cX0_plan 4 = .ok (.aload_n 0, 1) := by decide +kernel
theorem dX0_plan_5 : decode cX0_plan 5 = .ok (.getfield 19, 3) := by decide +kernel
theorem dX0_plan_8 : decode cX0_plan 8 = .ok (.aload_n 0, 1) := by decide +kernel
theorem dX0_plan_9 : decode cX0_plan 9 = .ok (.getfield 26, 3) := by decide +kernel
theorem dX0_plan_12 : decode cX0_plan 12 = .ok (.aload_n 0, 1) := by decide +kernel
theorem dX0_plan_13 : decode cX0_plan 13 = .ok (.getfield 40, 3) := by decide +kernel
theorem dX0_plan_16 : decode cX0_plan 16 = .ok (.invokevirtual 122, 3) := by decide +kernel
theorem dX0_plan_19 : decode cX0_plan 19 = .ok (.aload_n 0, 1) := by decide +kernel
theorem dX0_plan_20 : decode cX0_plan 20 = .ok (.getfield 40, 3) := by decide +kernel
theorem dX0_plan_23 : decode cX0_plan 23 = .ok (.getfield 126, 3) := by decide +kernel
theorem dX0_plan_26 : decode cX0_plan 26 = .ok (.ireturn, 1) := by decide +kernel
theorem dX3_has_0 : decode cX3_has 0 = .ok (.iload_n 1, 1) := by decide +kernel
theorem dX3_has_1 : decode cX3_has 1 = .ok (.ifCond .lt 15, 3) := by decide +kernel
theorem dX3_has_16 : decode cX3_has 16 = .ok (.iconst 0, 1) := by decide +kernel
theorem dX3_has_17 : decode cX3_has 17 = .ok (.ireturn, 1) := by decide +kernel
theorem dX3_has_4 : decode cX3_has 4 = .ok (.iload_n 1, 1) := by decide +kernel
theorem dX3_has_5 : decode cX3_has 5 = .ok (.aload_n 0, 1) := by decide +kernel
theorem dX3_has_6 : decode cX3_has 6 = .ok (.getfield 28, 3) := by decide +kernel
theorem dX3_has_9 : decode cX3_has 9 = .ok (.if_icmp .ge 7, 3) := by decide +kernel
theorem dX3_has_12 : decode cX3_has 12 = .ok (.iconst 1, 1) := by decide +kernel
theorem dX3_has_13 : decode cX3_has 13 = .ok (.goto 4, 3) := by decide +kernel
theorem dX0_step_0 : decode cX0_step 0 = .ok (.aload_n 0, 1) := by decide +kernel
theorem dX0_step_1 : decode cX0_step 1 = .ok (.getfield 40, 3) := by decide +kernel
theorem dX0_step_4 : decode cX0_step 4 = .ok (.iload_n 1, 1) := by decide +kernel
theorem dX0_step_5 : decode cX0_step 5 = .ok (.invokevirtual 129, 3) := by decide +kernel
theorem dX0_step_8 : decode cX0_step 8 = .ok (.ifCond .ne 5, 3) := by decide +kernel
theorem dX0_step_13 : decode cX0_step 13 = .ok (.iload_n 2, 1) := by decide +kernel
theorem dX0_step_14 : decode cX0_step 14 = .ok (.tableswitch 59 0 2 #[26, 36, 46], 26) := by decide +kernel
theorem dX0_step_40 : decode cX0_step 40 = .ok (.aload_n 0, 1) := by decide +kernel
theorem dX0_step_41 : decode cX0_step 41 = .ok (.getfield 40, 3) := by decide +kernel
theorem dX0_step_44 : decode cX0_step 44 = .ok (.getfield 130, 3) := by decide +kernel
theorem dX0_step_47 : decode cX0_step 47 = .ok (.iload_n 1, 1) := by decide +kernel
theorem dX0_step_48 : decode cX0_step 48 = .ok (.iaload, 1) := by decide +kernel
theorem dX0_step_49 : decode cX0_step 49 = .ok (.ireturn, 1) := by decide +kernel
theorem dX0_step_50 : decode cX0_step 50 = .ok (.aload_n 0, 1) := by decide +kernel
theorem dX0_step_51 : decode cX0_step 51 = .ok (.getfield 40, 3) := by decide +kernel
theorem dX0_step_54 : decode cX0_step 54 = .ok (.getfield 133, 3) := by decide +kernel
theorem dX0_step_57 : decode cX0_step 57 = .ok (.iload_n 1, 1) := by decide +kernel
theorem dX0_step_58 : decode cX0_step 58 = .ok (.iaload, 1) := by decide +kernel
theorem dX0_step_59 : decode cX0_step 59 = .ok (.ireturn, 1) := by decide +kernel
theorem dX0_step_60 : decode cX0_step 60 = .ok (.aload_n 0, 1) := by decide +kernel
theorem dX0_step_61 : decode cX0_step 61 = .ok (.getfield 40, 3) := by decide +kernel
theorem dX0_step_64 : decode cX0_step 64 = .ok (.getfield 136, 3) := by decide +kernel
theorem dX0_step_67 : decode cX0_step 67 = .ok (.iload_n 1, 1) := by decide +kernel
theorem dX0_step_68 : decode cX0_step 68 = .ok (.iaload, 1) := by decide +kernel
theorem dX0_step_69 : decode cX0_step 69 = .ok (.invokestatic 139, 3) := by decide +kernel
theorem dX0_step_72 : decode cX0_step 72 = .ok (.ireturn, 1) := by decide +kernel
theorem dX0_step_73 : decode cX0_step 73 = .ok (.bipush (-2), 2) := by decide +kernel
theorem dX0_step_75 : decode cX0_step 75 = .ok (.ireturn, 1) := by decide +kernel
theorem dX0_step_11 : decode cX0_step 11 = .ok (.iconst (-1), 1) := by decide +kernel
theorem dX0_step_12 : decode cX0_step 12 = .ok (.ireturn, 1) := by decide +kernel
theorem dX0_estimate_0 : decode cX0_estimate 0 = .ok (.aload_n 0, 1) := by decide +kernel
theorem dX0_estimate_1 : decode cX0_estimate 1 = .ok (.getfield 40, 3) := by decide +kernel
theorem dX0_estimate_4 : decode cX0_estimate 4 = .ok (.iload_n 1, 1) := by decide +kernel
theorem dX0_estimate_5 : decode cX0_estimate 5 = .ok (.invokevirtual 129, 3) := by decide +kernel
theorem dX0_estimate_8 : decode cX0_estimate 8 = .ok (.ifCond .eq 15, 3) := by decide +kernel
theorem dX0_estimate_23 : decode cX0_estimate 23 = .ok (.ldc2_w 148, 3) := by decide +kernel
theorem dX0_estimate_26 : decode cX0_estimate 26 = .ok (.lreturn, 1) := by decide +kernel
theorem dX0_estimate_11 : decode cX0_estimate 11 = .ok (.aload_n 0, 1) := by decide +kernel
theorem dX0_estimate_12 : decode cX0_estimate 12 = .ok (.getfield 40, 3) := by decide +kernel
theorem dX0_estimate_15 : decode cX0_estimate 15 = .ok (.getfield 144, 3) := by decide +kernel
theorem dX0_estimate_18 : decode cX0_estimate 18 = .ok (.iload_n 1, 1) := by decide +kernel
theorem dX0_estimate_19 : decode cX0_estimate 19 = .ok (.laload, 1) := by decide +kernel
theorem dX0_estimate_20 : decode cX0_estimate 20 = .ok (.goto 6, 3) := by decide +kernel
theorem dX0_move_0 : decode cX0_move 0 = .ok (.iload_n 1, 1) := by decide +kernel
theorem dX0_move_1 : decode cX0_move 1 = .ok (.ifCond .lt 14, 3) := by decide +kernel
theorem dX0_move_15 : decode cX0_move 15 = .ok (.iconst (-1), 1) := by decide +kernel
theorem dX0_move_16 : decode cX0_move 16 = .ok (.ireturn, 1) := by decide +kernel
theorem dX0_move_4 : decode cX0_move 4 = .ok (.iload_n 1, 1) := by decide +kernel
theorem dX0_move_5 : decode cX0_move 5 = .ok (.aload_n 0, 1) := by decide +kernel
theorem dX0_move_6 : decode cX0_move 6 = .ok (.getfield 40, 3) := by decide +kernel
theorem dX0_move_9 : decode cX0_move 9 = .ok (.getfield 150, 3) := by decide +kernel
theorem dX0_move_12 : decode cX0_move 12 = .ok (.if_icmp .lt 5, 3) := by decide +kernel
theorem dX0_move_17 : decode cX0_move 17 = .ok (.aload_n 0, 1) := by decide +kernel
theorem dX0_move_18 : decode cX0_move 18 = .ok (.getfield 40, 3) := by decide +kernel
theorem dX0_move_21 : decode cX0_move 21 = .ok (.getfield 126, 3) := by decide +kernel
theorem dX0_move_24 : decode cX0_move 24 = .ok (.ifCond .ne 8, 3) := by decide +kernel
theorem dX0_move_32 : decode cX0_move 32 = .ok (.aload_n 0, 1) := by decide +kernel
theorem dX0_move_33 : decode cX0_move 33 = .ok (.getfield 40, 3) := by decide +kernel
theorem dX0_move_36 : decode cX0_move 36 = .ok (.getfield 152, 3) := by decide +kernel
theorem dX0_move_39 : decode cX0_move 39 = .ok (.iload_n 1, 1) := by decide +kernel
theorem dX0_move_40 : decode cX0_move 40 = .ok (.iaload, 1) := by decide +kernel
theorem dX0_move_41 : decode cX0_move 41 = .ok (.ireturn, 1) := by decide +kernel
theorem dX0_move_27 : decode cX0_move 27 = .ok (.bipush (-3), 2) := by decide +kernel
theorem dX0_move_29 : decode cX0_move 29 = .ok (.goto 12, 3) := by decide +kernel
theorem dX5_start_0 : decode cX5_start 0 = .ok (.aload_n 0, 1) := by decide +kernel
theorem dX5_start_1 : decode cX5_start 1 = .ok (.getfield 11, 3) := by decide +kernel
theorem dX5_start_4 : decode cX5_start 4 = .ok (.iconst 0, 1) := by decide +kernel
theorem dX5_start_5 : decode cX5_start 5 = .ok (.lconst 0, 1) := by decide +kernel
theorem dX5_start_6 : decode cX5_start 6 = .ok (.lastore, 1) := by decide +kernel
theorem dX5_start_7 : decode cX5_start 7 = .ok (.aload_n 0, 1) := by decide +kernel
theorem dX5_start_8 : decode cX5_start 8 = .ok (.iconst 1, 1) := by decide +kernel
theorem dX5_start_9 : decode cX5_start 9 = .ok (.putfield 20, 3) := by decide +kernel
theorem dX5_start_12 : decode cX5_start 12 = .ok (.aload_n 0, 1) := by decide +kernel
theorem dX5_start_13 : decode cX5_start 13 = .ok (.iconst 0, 1) := by decide +kernel
theorem dX5_start_14 : decode cX5_start 14 = .ok (.putfield 24, 3) := by decide +kernel
theorem dX5_start_17 : decode cX5_start 17 = .ok (.return_, 1) := by decide +kernel
theorem dX5_missing_0 : decode cX5_missing 0 = .ok (.lconst 1, 1) := by decide +kernel
theorem dX5_missing_1 : decode cX5_missing 1 = .ok (.bipush 48, 2) := by decide +kernel
theorem dX5_missing_3 : decode cX5_missing 3 = .ok (.iload_n 0, 1) := by decide +kernel
theorem dX5_missing_4 : decode cX5_missing 4 = .ok (.iadd, 1) := by decide +kernel
theorem dX5_missing_5 : decode cX5_missing 5 = .ok (.lshl, 1) := by decide +kernel
theorem dX5_missing_6 : decode cX5_missing 6 = .ok (.lreturn, 1) := by decide +kernel
theorem dX5_missed_0 : decode cX5_missed 0 = .ok (.lload_n 0, 1) := by decide +kernel
theorem dX5_missed_1 : decode cX5_missed 1 = .ok (.iload_n 2, 1) := by decide +kernel
theorem dX5_missed_2 : decode cX5_missed 2 = .ok (.invokestatic 45, 3) := by decide +kernel
theorem dX5_missed_5 : decode cX5_missed 5 = .ok (.land, 1) := by decide +kernel
theorem dX5_missed_6 : decode cX5_missed 6 = .ok (.lconst 0, 1) := by decide +kernel
theorem dX5_missed_7 : decode cX5_missed 7 = .ok (.lcmp, 1) := by decide +kernel
theorem dX5_missed_8 : decode cX5_missed 8 = .ok (.ifCond .eq 7, 3) := by decide +kernel
theorem dX5_missed_15 : decode cX5_missed 15 = .ok (.iconst 0, 1) := by decide +kernel
theorem dX5_missed_16 : decode cX5_missed 16 = .ok (.ireturn, 1) := by decide +kernel
theorem dX5_missed_11 : decode cX5_missed 11 = .ok (.iconst 1, 1) := by decide +kernel
theorem dX5_missed_12 : decode cX5_missed 12 = .ok (.goto 4, 3) := by decide +kernel
theorem dX5_put_0 : decode cX5_put 0 = .ok (.aload_n 0, 1) := by decide +kernel
theorem dX5_put_1 : decode cX5_put 1 = .ok (.getfield 28, 3) := by decide +kernel
theorem dX5_put_4 : decode cX5_put 4 = .ok (.sipush 500, 3) := by decide +kernel
theorem dX5_put_7 : decode cX5_put 7 = .ok (.if_icmp .lt 9, 3) := by decide +kernel
theorem dX5_put_16 : decode cX5_put 16 = .ok (.aload_n 0, 1) := by decide +kernel
theorem dX5_put_17 : decode cX5_put 17 = .ok (.getfield 15, 3) := by decide +kernel
theorem dX5_put_20 : decode cX5_put 20 = .ok (.aload_n 0, 1) := by decide +kernel
theorem dX5_put_21 : decode cX5_put 21 = .ok (.getfield 28, 3) := by decide +kernel
theorem dX5_put_24 : decode cX5_put 24 = .ok (.lload_n 1, 1) := by decide +kernel
theorem dX5_put_25 : decode cX5_put 25 = .ok (.lastore, 1) := by decide +kernel
theorem dX5_put_26 : decode cX5_put 26 = .ok (.aload_n 0, 1) := by decide +kernel
theorem dX5_put_27 : decode cX5_put 27 = .ok (.dup, 1) := by decide +kernel
theorem dX5_put_28 : decode cX5_put 28 = .ok (.getfield 28, 3) := by decide +kernel
theorem dX5_put_31 : decode cX5_put 31 = .ok (.iconst 1, 1) := by decide +kernel
theorem dX5_put_32 : decode cX5_put 32 = .ok (.iadd, 1) := by decide +kernel
theorem dX5_put_33 : decode cX5_put 33 = .ok (.putfield 28, 3) := by decide +kernel
theorem dX5_put_36 : decode cX5_put 36 = .ok (.return_, 1) := by decide +kernel
theorem dX5_put_10 : decode cX5_put 10 = .ok (.aload_n 0, 1) := by decide +kernel
theorem dX5_put_11 : decode cX5_put 11 = .ok (.iconst 1, 1) := by decide +kernel
theorem dX5_put_12 : decode cX5_put 12 = .ok (.putfield 24, 3) := by decide +kernel
theorem dX5_put_15 : decode cX5_put 15 = .ok (.return_, 1) := by decide +kernel
theorem dX5_termOf_0 : decode cX5_termOf 0 = .ok (.lload_n 0, 1) := by decide +kernel
theorem dX5_termOf_1 : decode cX5_termOf 1 = .ok (.iload_n 2, 1) := by decide +kernel
theorem dX5_termOf_2 : decode cX5_termOf 2 = .ok (.bipush 6, 2) := by decide +kernel
theorem dX5_termOf_4 : decode cX5_termOf 4 = .ok (.imul, 1) := by decide +kernel
theorem dX5_termOf_5 : decode cX5_termOf 5 = .ok (.lshr, 1) := by decide +kernel
theorem dX5_termOf_6 : decode cX5_termOf 6 = .ok (.ldc2_w 18, 3) := by decide +kernel
theorem dX5_termOf_9 : decode cX5_termOf 9 = .ok (.land, 1) := by decide +kernel
theorem dX5_termOf_10 : decode cX5_termOf 10 = .ok (.l2i, 1) := by decide +kernel
theorem dX5_termOf_11 : decode cX5_termOf 11 = .ok (.iconst 1, 1) := by decide +kernel
theorem dX5_termOf_12 : decode cX5_termOf 12 = .ok (.isub, 1) := by decide +kernel
theorem dX5_termOf_13 : decode cX5_termOf 13 = .ok (.ireturn, 1) := by decide +kernel
theorem dX5_bindings_0 : decode cX5_bindings 0 = .ok (.lconst 0, 1) := by decide +kernel
theorem dX5_bindings_1 : decode cX5_bindings 1 = .ok (.lstore_n 3, 1) := by decide +kernel
theorem dX5_bindings_2 : decode cX5_bindings 2 = .ok (.iconst 0, 1) := by decide +kernel
theorem dX5_bindings_3 : decode cX5_bindings 3 = .ok (.istore 5, 2) := by decide +kernel
theorem dX5_bindings_5 : decode cX5_bindings 5 = .ok (.iload 5, 2) := by decide +kernel
theorem dX5_bindings_7 : decode cX5_bindings 7 = .ok (.iconst 3, 1) := by decide +kernel
theorem dX5_bindings_8 : decode cX5_bindings 8 = .ok (.if_icmp .ge 44, 3) := by decide +kernel
theorem dX5_bindings_11 : decode cX5_bindings 11 = .ok (.aload_n 1, 1) := by decide +kernel
theorem dX5_bindings_12 : decode cX5_bindings 12 = .ok (.iload_n 2, 1) := by decide +kernel
theorem dX5_bindings_13 : decode cX5_bindings 13 = .ok (.iload 5, 2) := by decide +kernel
theorem dX5_bindings_15 : decode cX5_bindings 15 = .ok (.invokevirtual 56, 3) := by decide +kernel
theorem dX5_bindings_18 : decode cX5_bindings 18 = .ok (.istore 6, 2) := by decide +kernel
theorem dX5_bindings_20 : decode cX5_bindings 20 = .ok (.iload 6, 2) := by decide +kernel
theorem dX5_bindings_22 : decode cX5_bindings 22 = .ok (.ifCond .ge 24, 3) := by decide +kernel
theorem dX5_bindings_46 : decode cX5_bindings 46 = .ok (.iinc 5 1, 3) := by decide +kernel
theorem dX5_bindings_49 : decode cX5_bindings 49 = .ok (.goto (-44), 3) := by decide +kernel
theorem dX5_bindings_25 : decode cX5_bindings 25 = .ok (.lload_n 3, 1) := by decide +kernel
theorem dX5_bindings_26 : decode cX5_bindings 26 = .ok (.iload_n 0, 1) := by decide +kernel
theorem dX5_bindings_27 : decode cX5_bindings 27 = .ok (.iload 5, 2) := by decide +kernel
theorem dX5_bindings_29 : decode cX5_bindings 29 = .ok (.invokestatic 83, 3) := by decide +kernel
theorem dX5_bindings_32 : decode cX5_bindings 32 = .ok (.iconst 1, 1) := by decide +kernel
theorem dX5_bindings_33 : decode cX5_bindings 33 = .ok (.iadd, 1) := by decide +kernel
theorem dX5_bindings_34 : decode cX5_bindings 34 = .ok (.i2l, 1) := by decide +kernel
theorem dX5_bindings_35 : decode cX5_bindings 35 = .ok (.iload 6, 2) := by decide +kernel
theorem dX5_bindings_37 : decode cX5_bindings 37 = .ok (.invokestatic 60, 3) := by decide +kernel
theorem dX5_bindings_40 : decode cX5_bindings 40 = .ok (.bipush 6, 2) := by decide +kernel
theorem dX5_bindings_42 : decode cX5_bindings 42 = .ok (.imul, 1) := by decide +kernel
theorem dX5_bindings_43 : decode cX5_bindings 43 = .ok (.lshl, 1) := by decide +kernel
theorem dX5_bindings_44 : decode cX5_bindings 44 = .ok (.lor, 1) := by decide +kernel
theorem dX5_bindings_45 : decode cX5_bindings 45 = .ok (.lstore_n 3, 1) := by decide +kernel
theorem dX5_bindings_52 : decode cX5_bindings 52 = .ok (.lload_n 3, 1) := by decide +kernel
theorem dX5_bindings_53 : decode cX5_bindings 53 = .ok (.lreturn, 1) := by decide +kernel
theorem dX5_putMatches_0 : decode cX5_putMatches 0 = .ok (.iconst 0, 1) := by decide +kernel
theorem dX5_putMatches_1 : decode cX5_putMatches 1 = .ok (.istore 5, 2) := by decide +kernel
theorem dX5_putMatches_3 : decode cX5_putMatches 3 = .ok (.iconst 0, 1) := by decide +kernel
theorem dX5_putMatches_4 : decode cX5_putMatches 4 = .ok (.istore 6, 2) := by decide +kernel
theorem dX5_putMatches_6 : decode cX5_putMatches 6 = .ok (.iconst 0, 1) := by decide +kernel
theorem dX5_putMatches_7 : decode cX5_putMatches 7 = .ok (.istore 7, 2) := by decide +kernel
theorem dX5_putMatches_9 : decode cX5_putMatches 9 = .ok (.iload 7, 2) := by decide +kernel
theorem dX5_putMatches_11 : decode cX5_putMatches 11 = .ok (.iconst 3, 1) := by decide +kernel
theorem dX5_putMatches_12 : decode cX5_putMatches 12 = .ok (.if_icmp .ge 69, 3) := by decide +kernel
theorem dX5_putMatches_15 : decode cX5_putMatches 15 = .ok (.aload_n 3, 1) := by decide +kernel
theorem dX5_putMatches_16 : decode cX5_putMatches 16 = .ok (.iload 4, 2) := by decide +kernel
theorem dX5_putMatches_18 : decode cX5_putMatches 18 = .ok (.iload 7, 2) := by decide +kernel
theorem dX5_putMatches_20 : decode cX5_putMatches 20 = .ok (.invokevirtual 56, 3) := by decide +kernel
theorem dX5_putMatches_23 : decode cX5_putMatches 23 = .ok (.istore 8, 2) := by decide +kernel
theorem dX5_putMatches_25 : decode cX5_putMatches 25 = .ok (.iload 8, 2) := by decide +kernel
theorem dX5_putMatches_27 : decode cX5_putMatches 27 = .ok (.ifCond .ge 15, 3) := by decide +kernel
theorem dX5_putMatches_42 : decode cX5_putMatches 42 = .ok (.iconst (-1), 1) := by decide +kernel
theorem dX5_putMatches_30 : decode cX5_putMatches 30 = .ok (.lload_n 1, 1) := by decide +kernel
theorem dX5_putMatches_31 : decode cX5_putMatches 31 = .ok (.iload 8, 2) := by decide +kernel
theorem dX5_putMatches_33 : decode cX5_putMatches 33 = .ok (.invokestatic 60, 3) := by decide +kernel
theorem dX5_putMatches_36 : decode cX5_putMatches 36 = .ok (.invokestatic 64, 3) := by decide +kernel
theorem dX5_putMatches_39 : decode cX5_putMatches 39 = .ok (.goto 4, 3) := by decide +kernel
theorem dX5_putMatches_43 : decode cX5_putMatches 43 = .ok (.istore 9, 2) := by decide +kernel
theorem dX5_putMatches_45 : decode cX5_putMatches 45 = .ok (.iload 9, 2) := by decide +kernel
theorem dX5_putMatches_47 : decode cX5_putMatches 47 = .ok (.iconst (-1), 1) := by decide +kernel
theorem dX5_putMatches_48 : decode cX5_putMatches 48 = .ok (.if_icmp .eq 27, 3) := by decide +kernel
theorem dX5_putMatches_75 : decode cX5_putMatches 75 = .ok (.iinc 7 1, 3) := by decide +kernel
theorem dX5_putMatches_78 : decode cX5_putMatches 78 = .ok (.goto (-69), 3) := by decide +kernel
theorem dX5_putMatches_51 : decode cX5_putMatches 51 = .ok (.iload 5, 2) := by decide +kernel
theorem dX5_putMatches_53 : decode cX5_putMatches 53 = .ok (.bipush 31, 2) := by decide +kernel
theorem dX5_putMatches_55 : decode cX5_putMatches 55 = .ok (.iload 7, 2) := by decide +kernel
theorem dX5_putMatches_57 : decode cX5_putMatches 57 = .ok (.invokestatic 70, 3) := by decide +kernel
theorem dX5_putMatches_60 : decode cX5_putMatches 60 = .ok (.ior, 1) := by decide +kernel
theorem dX5_putMatches_61 : decode cX5_putMatches 61 = .ok (.istore 5, 2) := by decide +kernel
theorem dX5_putMatches_63 : decode cX5_putMatches 63 = .ok (.iload 6, 2) := by decide +kernel
theorem dX5_putMatches_65 : decode cX5_putMatches 65 = .ok (.iload 9, 2) := by decide +kernel
theorem dX5_putMatches_67 : decode cX5_putMatches 67 = .ok (.iload 7, 2) := by decide +kernel
theorem dX5_putMatches_69 : decode cX5_putMatches 69 = .ok (.invokestatic 70, 3) := by decide +kernel
theorem dX5_putMatches_72 : decode cX5_putMatches 72 = .ok (.ior, 1) := by decide +kernel
theorem dX5_putMatches_73 : decode cX5_putMatches 73 = .ok (.istore 6, 2) := by decide +kernel
theorem dX5_putMatches_81 : decode cX5_putMatches 81 = .ok (.iload 4, 2) := by decide +kernel
theorem dX5_putMatches_83 : decode cX5_putMatches 83 = .ok (.bipush 80, 2) := by decide +kernel
theorem dX5_putMatches_85 : decode cX5_putMatches 85 = .ok (.imul, 1) := by decide +kernel
theorem dX5_putMatches_86 : decode cX5_putMatches 86 = .ok (.istore 7, 2) := by decide +kernel
theorem dX5_putMatches_88 : decode cX5_putMatches 88 = .ok (.iload 7, 2) := by decide +kernel
theorem dX5_putMatches_90 : decode cX5_putMatches 90 = .ok (.istore 8, 2) := by decide +kernel
theorem dX5_putMatches_92 : decode cX5_putMatches 92 = .ok (.iload 8, 2) := by decide +kernel
theorem dX5_putMatches_94 : decode cX5_putMatches 94 = .ok (.iload 7, 2) := by decide +kernel
theorem dX5_putMatches_96 : decode cX5_putMatches 96 = .ok (.aload_n 3, 1) := by decide +kernel
theorem dX5_putMatches_97 : decode cX5_putMatches 97 = .ok (.getfield 73, 3) := by decide +kernel
theorem dX5_putMatches_100 : decode cX5_putMatches 100 = .ok (.iload 4, 2) := by decide +kernel
theorem dX5_putMatches_102 : decode cX5_putMatches 102 = .ok (.iaload, 1) := by decide +kernel
theorem dX5_putMatches_103 : decode cX5_putMatches 103 = .ok (.iadd, 1) := by decide +kernel
theorem dX5_putMatches_104 : decode cX5_putMatches 104 = .ok (.if_icmp .ge 42, 3) := by decide +kernel
theorem dX5_putMatches_107 : decode cX5_putMatches 107 = .ok (.aload_n 3, 1) := by decide +kernel
theorem dX5_putMatches_108 : decode cX5_putMatches 108 = .ok (.getfield 76, 3) := by decide +kernel
theorem dX5_putMatches_111 : decode cX5_putMatches 111 = .ok (.iload 8, 2) := by decide +kernel
theorem dX5_putMatches_113 : decode cX5_putMatches 113 = .ok (.iaload, 1) := by decide +kernel
theorem dX5_putMatches_114 : decode cX5_putMatches 114 = .ok (.istore 9, 2) := by decide +kernel
theorem dX5_putMatches_116 : decode cX5_putMatches 116 = .ok (.iload 9, 2) := by decide +kernel
theorem dX5_putMatches_118 : decode cX5_putMatches 118 = .ok (.iload 5, 2) := by decide +kernel
theorem dX5_putMatches_120 : decode cX5_putMatches 120 = .ok (.iand, 1) := by decide +kernel
theorem dX5_putMatches_121 : decode cX5_putMatches 121 = .ok (.iload 6, 2) := by decide +kernel
theorem dX5_putMatches_123 : decode cX5_putMatches 123 = .ok (.if_icmp .ne 17, 3) := by decide +kernel
theorem dX5_putMatches_140 : decode cX5_putMatches 140 = .ok (.iinc 8 1, 3) := by decide +kernel
theorem dX5_putMatches_143 : decode cX5_putMatches 143 = .ok (.goto (-51), 3) := by decide +kernel
theorem dX5_putMatches_126 : decode cX5_putMatches 126 = .ok (.aload_n 0, 1) := by decide +kernel
theorem dX5_putMatches_127 : decode cX5_putMatches 127 = .ok (.lload_n 1, 1) := by decide +kernel
theorem dX5_putMatches_128 : decode cX5_putMatches 128 = .ok (.iload 9, 2) := by decide +kernel
theorem dX5_putMatches_130 : decode cX5_putMatches 130 = .ok (.aload_n 3, 1) := by decide +kernel
theorem dX5_putMatches_131 : decode cX5_putMatches 131 = .ok (.iload 4, 2) := by decide +kernel
theorem dX5_putMatches_133 : decode cX5_putMatches 133 = .ok (.invokestatic 79, 3) := by decide +kernel
theorem dX5_putMatches_136 : decode cX5_putMatches 136 = .ok (.lor, 1) := by decide +kernel
theorem dX5_putMatches_137 : decode cX5_putMatches 137 = .ok (.invokevirtual 49, 3) := by decide +kernel
theorem dX5_putMatches_146 : decode cX5_putMatches 146 = .ok (.return_, 1) := by decide +kernel
theorem dX5_extend_0 : decode cX5_extend 0 = .ok (.aload_n 3, 1) := by decide +kernel
theorem dX5_extend_1 : decode cX5_extend 1 = .ok (.getfield 35, 3) := by decide +kernel
theorem dX5_extend_4 : decode cX5_extend 4 = .ok (.iload 4, 2) := by decide +kernel
theorem dX5_extend_6 : decode cX5_extend 6 = .ok (.iaload, 1) := by decide +kernel
theorem dX5_extend_7 : decode cX5_extend 7 = .ok (.istore 5, 2) := by decide +kernel
theorem dX5_extend_9 : decode cX5_extend 9 = .ok (.iload 5, 2) := by decide +kernel
theorem dX5_extend_11 : decode cX5_extend 11 = .ok (.iconst (-1), 1) := by decide +kernel
theorem dX5_extend_12 : decode cX5_extend 12 = .ok (.if_icmp .eq 24, 3) := by decide +kernel
theorem dX5_extend_15 : decode cX5_extend 15 = .ok (.lload_n 1, 1) := by decide +kernel
theorem dX5_extend_16 : decode cX5_extend 16 = .ok (.iload 5, 2) := by decide +kernel
theorem dX5_extend_18 : decode cX5_extend 18 = .ok (.invokestatic 41, 3) := by decide +kernel
theorem dX5_extend_21 : decode cX5_extend 21 = .ok (.ifCond .eq 15, 3) := by decide +kernel
theorem dX5_extend_24 : decode cX5_extend 24 = .ok (.aload_n 0, 1) := by decide +kernel
theorem dX5_extend_25 : decode cX5_extend 25 = .ok (.lload_n 1, 1) := by decide +kernel
theorem dX5_extend_26 : decode cX5_extend 26 = .ok (.iload 4, 2) := by decide +kernel
theorem dX5_extend_28 : decode cX5_extend 28 = .ok (.invokestatic 45, 3) := by decide +kernel
theorem dX5_extend_31 : decode cX5_extend 31 = .ok (.lor, 1) := by decide +kernel
theorem dX5_extend_32 : decode cX5_extend 32 = .ok (.invokevirtual 49, 3) := by decide +kernel
theorem dX5_extend_35 : decode cX5_extend 35 = .ok (.return_, 1) := by decide +kernel
theorem dX5_extend_36 : decode cX5_extend 36 = .ok (.aload_n 0, 1) := by decide +kernel
theorem dX5_extend_37 : decode cX5_extend 37 = .ok (.getfield 28, 3) := by decide +kernel
theorem dX5_extend_40 : decode cX5_extend 40 = .ok (.istore 6, 2) := by decide +kernel
theorem dX5_extend_42 : decode cX5_extend 42 = .ok (.aload_n 0, 1) := by decide +kernel
theorem dX5_extend_43 : decode cX5_extend 43 = .ok (.lload_n 1, 1) := by decide +kernel
theorem dX5_extend_44 : decode cX5_extend 44 = .ok (.aload_n 3, 1) := by decide +kernel
theorem dX5_extend_45 : decode cX5_extend 45 = .ok (.iload 4, 2) := by decide +kernel
theorem dX5_extend_47 : decode cX5_extend 47 = .ok (.invokevirtual 53, 3) := by decide +kernel
theorem dX5_extend_50 : decode cX5_extend 50 = .ok (.iload 5, 2) := by decide +kernel
theorem dX5_extend_52 : decode cX5_extend 52 = .ok (.iconst (-1), 1) := by decide +kernel
theorem dX5_extend_53 : decode cX5_extend 53 = .ok (.if_icmp .eq 23, 3) := by decide +kernel
theorem dX5_extend_76 : decode cX5_extend 76 = .ok (.return_, 1) := by decide +kernel
theorem dX5_extend_56 : decode cX5_extend 56 = .ok (.aload_n 0, 1) := by decide +kernel
theorem dX5_extend_57 : decode cX5_extend 57 = .ok (.getfield 28, 3) := by decide +kernel
theorem dX5_extend_60 : decode cX5_extend 60 = .ok (.iload 6, 2) := by decide +kernel
theorem dX5_extend_62 : decode cX5_extend 62 = .ok (.if_icmp .ne 14, 3) := by decide +kernel
theorem dX5_extend_65 : decode cX5_extend 65 = .ok (.aload_n 0, 1) := by decide +kernel
theorem dX5_extend_66 : decode cX5_extend 66 = .ok (.lload_n 1, 1) := by decide +kernel
theorem dX5_extend_67 : decode cX5_extend 67 = .ok (.iload 4, 2) := by decide +kernel
theorem dX5_extend_69 : decode cX5_extend 69 = .ok (.invokestatic 45, 3) := by decide +kernel
theorem dX5_extend_72 : decode cX5_extend 72 = .ok (.lor, 1) := by decide +kernel
theorem dX5_extend_73 : decode cX5_extend 73 = .ok (.invokevirtual 49, 3) := by decide +kernel
theorem dX5_join_0 : decode cX5_join 0 = .ok (.aload_n 0, 1) := by decide +kernel
theorem dX5_join_1 : decode cX5_join 1 = .ok (.iconst 0, 1) := by decide +kernel
theorem dX5_join_2 : decode cX5_join 2 = .ok (.putfield 28, 3) := by decide +kernel
theorem dX5_join_5 : decode cX5_join 5 = .ok (.iconst 0, 1) := by decide +kernel
theorem dX5_join_6 : decode cX5_join 6 = .ok (.istore_n 3, 1) := by decide +kernel
theorem dX5_join_7 : decode cX5_join 7 = .ok (.iload_n 3, 1) := by decide +kernel
theorem dX5_join_8 : decode cX5_join 8 = .ok (.aload_n 0, 1) := by decide +kernel
theorem dX5_join_9 : decode cX5_join 9 = .ok (.getfield 20, 3) := by decide +kernel
theorem dX5_join_12 : decode cX5_join 12 = .ok (.if_icmp .ge 28, 3) := by decide +kernel
theorem dX5_join_15 : decode cX5_join 15 = .ok (.aload_n 0, 1) := by decide +kernel
theorem dX5_join_16 : decode cX5_join 16 = .ok (.getfield 24, 3) := by decide +kernel
theorem dX5_join_19 : decode cX5_join 19 = .ok (.ifCond .ne 21, 3) := by decide +kernel
theorem dX5_join_22 : decode cX5_join 22 = .ok (.aload_n 0, 1) := by decide +kernel
theorem dX5_join_23 : decode cX5_join 23 = .ok (.aload_n 0, 1) := by decide +kernel
theorem dX5_join_24 : decode cX5_join 24 = .ok (.getfield 11, 3) := by decide +kernel
theorem dX5_join_27 : decode cX5_join 27 = .ok (.iload_n 3, 1) := by decide +kernel
theorem dX5_join_28 : decode cX5_join 28 = .ok (.laload, 1) := by decide +kernel
theorem dX5_join_29 : decode cX5_join 29 = .ok (.aload_n 1, 1) := by decide +kernel
theorem dX5_join_30 : decode cX5_join 30 = .ok (.iload_n 2, 1) := by decide +kernel
theorem dX5_join_31 : decode cX5_join 31 = .ok (.invokevirtual 31, 3) := by decide +kernel
theorem dX5_join_34 : decode cX5_join 34 = .ok (.iinc 3 1, 3) := by decide +kernel
theorem dX5_join_37 : decode cX5_join 37 = .ok (.goto (-30), 3) := by decide +kernel
theorem dX5_join_40 : decode cX5_join 40 = .ok (.aload_n 0, 1) := by decide +kernel
theorem dX5_join_41 : decode cX5_join 41 = .ok (.getfield 11, 3) := by decide +kernel
theorem dX5_join_44 : decode cX5_join 44 = .ok (.astore_n 3, 1) := by decide +kernel
theorem dX5_join_45 : decode cX5_join 45 = .ok (.aload_n 0, 1) := by decide +kernel
theorem dX5_join_46 : decode cX5_join 46 = .ok (.aload_n 0, 1) := by decide +kernel
theorem dX5_join_47 : decode cX5_join 47 = .ok (.getfield 15, 3) := by decide +kernel
theorem dX5_join_50 : decode cX5_join 50 = .ok (.putfield 11, 3) := by decide +kernel
theorem dX5_join_53 : decode cX5_join 53 = .ok (.aload_n 0, 1) := by decide +kernel
theorem dX5_join_54 : decode cX5_join 54 = .ok (.aload_n 3, 1) := by decide +kernel
theorem dX5_join_55 : decode cX5_join 55 = .ok (.putfield 15, 3) := by decide +kernel
theorem dX5_join_58 : decode cX5_join 58 = .ok (.aload_n 0, 1) := by decide +kernel
theorem dX5_join_59 : decode cX5_join 59 = .ok (.aload_n 0, 1) := by decide +kernel
theorem dX5_join_60 : decode cX5_join 60 = .ok (.getfield 24, 3) := by decide +kernel
theorem dX5_join_63 : decode cX5_join 63 = .ok (.ifCond .eq 7, 3) := by decide +kernel
theorem dX5_join_70 : decode cX5_join 70 = .ok (.aload_n 0, 1) := by decide +kernel
theorem dX5_join_71 : decode cX5_join 71 = .ok (.getfield 28, 3) := by decide +kernel
theorem dX5_join_74 : decode cX5_join 74 = .ok (.putfield 20, 3) := by decide +kernel
theorem dX5_join_77 : decode cX5_join 77 = .ok (.return_, 1) := by decide +kernel
theorem dX5_join_66 : decode cX5_join 66 = .ok (.iconst 0, 1) := by decide +kernel
theorem dX5_join_67 : decode cX5_join 67 = .ok (.goto 7, 3) := by decide +kernel
theorem dX1_holds_0 : decode cX1_holds 0 = .ok (.iload_n 2, 1) := by decide +kernel
theorem dX1_holds_1 : decode cX1_holds 1 = .ok (.iconst (-1), 1) := by decide +kernel
theorem dX1_holds_2 : decode cX1_holds 2 = .ok (.if_icmp .ne 5, 3) := by decide +kernel
theorem dX1_holds_7 : decode cX1_holds 7 = .ok (.aload_n 0, 1) := by decide +kernel
theorem dX1_holds_8 : decode cX1_holds 8 = .ok (.getfield 15, 3) := by decide +kernel
theorem dX1_holds_11 : decode cX1_holds 11 = .ok (.iload_n 1, 1) := by decide +kernel
theorem dX1_holds_12 : decode cX1_holds 12 = .ok (.iaload, 1) := by decide +kernel
theorem dX1_holds_13 : decode cX1_holds 13 = .ok (.tableswitch 75 0 2 #[27, 43, 59], 27) := by decide +kernel
theorem dX1_holds_40 : decode cX1_holds 40 = .ok (.iload_n 2, 1) := by decide +kernel
theorem dX1_holds_41 : decode cX1_holds 41 = .ok (.aload_n 0, 1) := by decide +kernel
theorem dX1_holds_42 : decode cX1_holds 42 = .ok (.getfield 18, 3) := by decide +kernel
theorem dX1_holds_45 : decode cX1_holds 45 = .ok (.iload_n 1, 1) := by decide +kernel
theorem dX1_holds_46 : decode cX1_holds 46 = .ok (.iaload, 1) := by decide +kernel
theorem dX1_holds_47 : decode cX1_holds 47 = .ok (.if_icmp .ne 7, 3) := by decide +kernel
theorem dX1_holds_54 : decode cX1_holds 54 = .ok (.iconst 0, 1) := by decide +kernel
theorem dX1_holds_55 : decode cX1_holds 55 = .ok (.ireturn, 1) := by decide +kernel
theorem dX1_holds_50 : decode cX1_holds 50 = .ok (.iconst 1, 1) := by decide +kernel
theorem dX1_holds_51 : decode cX1_holds 51 = .ok (.goto 4, 3) := by decide +kernel
theorem dX1_holds_56 : decode cX1_holds 56 = .ok (.iload_n 2, 1) := by decide +kernel
theorem dX1_holds_57 : decode cX1_holds 57 = .ok (.aload_n 0, 1) := by decide +kernel
theorem dX1_holds_58 : decode cX1_holds 58 = .ok (.getfield 18, 3) := by decide +kernel
theorem dX1_holds_61 : decode cX1_holds 61 = .ok (.iload_n 1, 1) := by decide +kernel
theorem dX1_holds_62 : decode cX1_holds 62 = .ok (.iaload, 1) := by decide +kernel
theorem dX1_holds_63 : decode cX1_holds 63 = .ok (.if_icmp .eq 7, 3) := by decide +kernel
theorem dX1_holds_70 : decode cX1_holds 70 = .ok (.iconst 0, 1) := by decide +kernel
theorem dX1_holds_71 : decode cX1_holds 71 = .ok (.ireturn, 1) := by decide +kernel
theorem dX1_holds_66 : decode cX1_holds 66 = .ok (.iconst 1, 1) := by decide +kernel
theorem dX1_holds_67 : decode cX1_holds 67 = .ok (.goto 4, 3) := by decide +kernel
theorem dX1_holds_72 : decode cX1_holds 72 = .ok (.iload_n 2, 1) := by decide +kernel
theorem dX1_holds_73 : decode cX1_holds 73 = .ok (.aload_n 0, 1) := by decide +kernel
theorem dX1_holds_74 : decode cX1_holds 74 = .ok (.getfield 18, 3) := by decide +kernel
theorem dX1_holds_77 : decode cX1_holds 77 = .ok (.iload_n 1, 1) := by decide +kernel
theorem dX1_holds_78 : decode cX1_holds 78 = .ok (.iaload, 1) := by decide +kernel
theorem dX1_holds_79 : decode cX1_holds 79 = .ok (.if_icmp .ge 7, 3) := by decide +kernel
theorem dX1_holds_86 : decode cX1_holds 86 = .ok (.iconst 0, 1) := by decide +kernel
theorem dX1_holds_87 : decode cX1_holds 87 = .ok (.ireturn, 1) := by decide +kernel
theorem dX1_holds_82 : decode cX1_holds 82 = .ok (.iconst 1, 1) := by decide +kernel
theorem dX1_holds_83 : decode cX1_holds 83 = .ok (.goto 4, 3) := by decide +kernel
theorem dX1_holds_88 : decode cX1_holds 88 = .ok (.iload_n 2, 1) := by decide +kernel
theorem dX1_holds_89 : decode cX1_holds 89 = .ok (.aload_n 0, 1) := by decide +kernel
theorem dX1_holds_90 : decode cX1_holds 90 = .ok (.getfield 18, 3) := by decide +kernel
theorem dX1_holds_93 : decode cX1_holds 93 = .ok (.iload_n 1, 1) := by decide +kernel
theorem dX1_holds_94 : decode cX1_holds 94 = .ok (.iaload, 1) := by decide +kernel
theorem dX1_holds_95 : decode cX1_holds 95 = .ok (.if_icmp .le 7, 3) := by decide +kernel
theorem dX1_holds_102 : decode cX1_holds 102 = .ok (.iconst 0, 1) := by decide +kernel
theorem dX1_holds_103 : decode cX1_holds 103 = .ok (.ireturn, 1) := by decide +kernel
theorem dX1_holds_98 : decode cX1_holds 98 = .ok (.iconst 1, 1) := by decide +kernel
theorem dX1_holds_99 : decode cX1_holds 99 = .ok (.goto 4, 3) := by decide +kernel
theorem dX1_holds_5 : decode cX1_holds 5 = .ok (.iconst 0, 1) := by decide +kernel
theorem dX1_holds_6 : decode cX1_holds 6 = .ok (.ireturn, 1) := by decide +kernel
theorem dX1_allHold_0 : decode cX1_allHold 0 = .ok (.iconst 0, 1) := by decide +kernel
theorem dX1_allHold_1 : decode cX1_allHold 1 = .ok (.istore 4, 2) := by decide +kernel
theorem dX1_allHold_3 : decode cX1_allHold 3 = .ok (.iload 4, 2) := by decide +kernel
theorem dX1_allHold_5 : decode cX1_allHold 5 = .ok (.aload_n 0, 1) := by decide +kernel
theorem dX1_allHold_6 : decode cX1_allHold 6 = .ok (.getfield 21, 3) := by decide +kernel
theorem dX1_allHold_9 : decode cX1_allHold 9 = .ok (.if_icmp .ge 40, 3) := by decide +kernel
theorem dX1_allHold_12 : decode cX1_allHold 12 = .ok (.iload_n 1, 1) := by decide +kernel
theorem dX1_allHold_13 : decode cX1_allHold 13 = .ok (.iload 4, 2) := by decide +kernel
theorem dX1_allHold_15 : decode cX1_allHold 15 = .ok (.invokestatic 28, 3) := by decide +kernel
theorem dX1_allHold_18 : decode cX1_allHold 18 = .ok (.ifCond .eq 25, 3) := by decide +kernel
theorem dX1_allHold_43 : decode cX1_allHold 43 = .ok (.iinc 4 1, 3) := by decide +kernel
theorem dX1_allHold_46 : decode cX1_allHold 46 = .ok (.goto (-43), 3) := by decide +kernel
theorem dX1_allHold_21 : decode cX1_allHold 21 = .ok (.aload_n 0, 1) := by decide +kernel
theorem dX1_allHold_22 : decode cX1_allHold 22 = .ok (.iload 4, 2) := by decide +kernel
theorem dX1_allHold_24 : decode cX1_allHold 24 = .ok (.lload_n 2, 1) := by decide +kernel
theorem dX1_allHold_25 : decode cX1_allHold 25 = .ok (.aload_n 0, 1) := by decide +kernel
theorem dX1_allHold_26 : decode cX1_allHold 26 = .ok (.getfield 9, 3) := by decide +kernel
theorem dX1_allHold_29 : decode cX1_allHold 29 = .ok (.iload 4, 2) := by decide +kernel
theorem dX1_allHold_31 : decode cX1_allHold 31 = .ok (.iaload, 1) := by decide +kernel
theorem dX1_allHold_32 : decode cX1_allHold 32 = .ok (.invokestatic 32, 3) := by decide +kernel
theorem dX1_allHold_35 : decode cX1_allHold 35 = .ok (.invokevirtual 38, 3) := by decide +kernel
theorem dX1_allHold_38 : decode cX1_allHold 38 = .ok (.ifCond .ne 5, 3) := by decide +kernel
theorem dX1_allHold_41 : decode cX1_allHold 41 = .ok (.iconst 0, 1) := by decide +kernel
theorem dX1_allHold_42 : decode cX1_allHold 42 = .ok (.ireturn, 1) := by decide +kernel
theorem dX1_allHold_49 : decode cX1_allHold 49 = .ok (.iconst 1, 1) := by decide +kernel
theorem dX1_allHold_50 : decode cX1_allHold 50 = .ok (.ireturn, 1) := by decide +kernel
theorem dX5_sift_0 : decode cX5_sift 0 = .ok (.iload_n 2, 1) := by decide +kernel
theorem dX5_sift_1 : decode cX5_sift 1 = .ok (.ifCond .ne 4, 3) := by decide +kernel
theorem dX5_sift_5 : decode cX5_sift 5 = .ok (.iconst 0, 1) := by decide +kernel
theorem dX5_sift_6 : decode cX5_sift 6 = .ok (.istore_n 3, 1) := by decide +kernel
theorem dX5_sift_7 : decode cX5_sift 7 = .ok (.iconst 0, 1) := by decide +kernel
theorem dX5_sift_8 : decode cX5_sift 8 = .ok (.istore 4, 2) := by decide +kernel
theorem dX5_sift_10 : decode cX5_sift 10 = .ok (.iload 4, 2) := by decide +kernel
theorem dX5_sift_12 : decode cX5_sift 12 = .ok (.aload_n 0, 1) := by decide +kernel
theorem dX5_sift_13 : decode cX5_sift 13 = .ok (.getfield 20, 3) := by decide +kernel
theorem dX5_sift_16 : decode cX5_sift 16 = .ok (.if_icmp .ge 40, 3) := by decide +kernel
theorem dX5_sift_19 : decode cX5_sift 19 = .ok (.aload_n 1, 1) := by decide +kernel
theorem dX5_sift_20 : decode cX5_sift 20 = .ok (.iload_n 2, 1) := by decide +kernel
theorem dX5_sift_21 : decode cX5_sift 21 = .ok (.aload_n 0, 1) := by decide +kernel
theorem dX5_sift_22 : decode cX5_sift 22 = .ok (.getfield 11, 3) := by decide +kernel
theorem dX5_sift_25 : decode cX5_sift 25 = .ok (.iload 4, 2) := by decide +kernel
theorem dX5_sift_27 : decode cX5_sift 27 = .ok (.laload, 1) := by decide +kernel
theorem dX5_sift_28 : decode cX5_sift 28 = .ok (.invokevirtual 86, 3) := by decide +kernel
theorem dX5_sift_31 : decode cX5_sift 31 = .ok (.ifCond .eq 19, 3) := by decide +kernel
theorem dX5_sift_50 : decode cX5_sift 50 = .ok (.iinc 4 1, 3) := by decide +kernel
theorem dX5_sift_53 : decode cX5_sift 53 = .ok (.goto (-43), 3) := by decide +kernel
theorem dX5_sift_34 : decode cX5_sift 34 = .ok (.aload_n 0, 1) := by decide +kernel
theorem dX5_sift_35 : decode cX5_sift 35 = .ok (.getfield 11, 3) := by decide +kernel
theorem dX5_sift_38 : decode cX5_sift 38 = .ok (.iload_n 3, 1) := by decide +kernel
theorem dX5_sift_39 : decode cX5_sift 39 = .ok (.aload_n 0, 1) := by decide +kernel
theorem dX5_sift_40 : decode cX5_sift 40 = .ok (.getfield 11, 3) := by decide +kernel
theorem dX5_sift_43 : decode cX5_sift 43 = .ok (.iload 4, 2) := by decide +kernel
theorem dX5_sift_45 : decode cX5_sift 45 = .ok (.laload, 1) := by decide +kernel
theorem dX5_sift_46 : decode cX5_sift 46 = .ok (.lastore, 1) := by decide +kernel
theorem dX5_sift_47 : decode cX5_sift 47 = .ok (.iinc 3 1, 3) := by decide +kernel
theorem dX5_sift_56 : decode cX5_sift 56 = .ok (.aload_n 0, 1) := by decide +kernel
theorem dX5_sift_57 : decode cX5_sift 57 = .ok (.iload_n 3, 1) := by decide +kernel
theorem dX5_sift_58 : decode cX5_sift 58 = .ok (.putfield 20, 3) := by decide +kernel
theorem dX5_sift_61 : decode cX5_sift 61 = .ok (.return_, 1) := by decide +kernel
theorem dX5_sift_4 : decode cX5_sift 4 = .ok (.return_, 1) := by decide +kernel
theorem dX1_all_0 : decode cX1_all 0 = .ok (.iconst 1, 1) := by decide +kernel
theorem dX1_all_1 : decode cX1_all 1 = .ok (.aload_n 0, 1) := by decide +kernel
theorem dX1_all_2 : decode cX1_all 2 = .ok (.getfield 21, 3) := by decide +kernel
theorem dX1_all_5 : decode cX1_all 5 = .ok (.ishl, 1) := by decide +kernel
theorem dX1_all_6 : decode cX1_all 6 = .ok (.iconst 1, 1) := by decide +kernel
theorem dX1_all_7 : decode cX1_all 7 = .ok (.isub, 1) := by decide +kernel
theorem dX1_all_8 : decode cX1_all 8 = .ok (.ireturn, 1) := by decide +kernel
theorem dX5_answer_0 : decode cX5_answer 0 = .ok (.aload_n 0, 1) := by decide +kernel
theorem dX5_answer_1 : decode cX5_answer 1 = .ok (.getfield 24, 3) := by decide +kernel
theorem dX5_answer_4 : decode cX5_answer 4 = .ok (.ifCond .eq 8, 3) := by decide +kernel
theorem dX5_answer_12 : decode cX5_answer 12 = .ok (.aload_n 0, 1) := by decide +kernel
theorem dX5_answer_13 : decode cX5_answer 13 = .ok (.getfield 20, 3) := by decide +kernel
theorem dX5_answer_16 : decode cX5_answer 16 = .ok (.ireturn, 1) := by decide +kernel
theorem dX5_answer_7 : decode cX5_answer 7 = .ok (.bipush (-4), 2) := by decide +kernel
theorem dX5_answer_9 : decode cX5_answer 9 = .ok (.goto 7, 3) := by decide +kernel
theorem dX0_run_0 : decode cX0_run 0 = .ok (.aload_n 0, 1) := by decide +kernel
theorem dX0_run_1 : decode cX0_run 1 = .ok (.getfield 33, 3) := by decide +kernel
theorem dX0_run_4 : decode cX0_run 4 = .ok (.aload_n 0, 1) := by decide +kernel
theorem dX0_run_5 : decode cX0_run 5 = .ok (.getfield 19, 3) := by decide +kernel
theorem dX0_run_8 : decode cX0_run 8 = .ok (.aload_n 0, 1) := by decide +kernel
theorem dX0_run_9 : decode cX0_run 9 = .ok (.getfield 26, 3) := by decide +kernel
theorem dX0_run_12 : decode cX0_run 12 = .ok (.aload_n 0, 1) := by decide +kernel
theorem dX0_run_13 : decode cX0_run 13 = .ok (.getfield 40, 3) := by decide +kernel
theorem dX0_run_16 : decode cX0_run 16 = .ok (.invokevirtual 122, 3) := by decide +kernel
theorem dX0_run_19 : decode cX0_run 19 = .ok (.aload_n 0, 1) := by decide +kernel
theorem dX0_run_20 : decode cX0_run 20 = .ok (.iconst 1, 1) := by decide +kernel
theorem dX0_run_21 : decode cX0_run 21 = .ok (.putfield 155, 3) := by decide +kernel
theorem dX0_run_24 : decode cX0_run 24 = .ok (.aload_n 0, 1) := by decide +kernel
theorem dX0_run_25 : decode cX0_run 25 = .ok (.getfield 47, 3) := by decide +kernel
theorem dX0_run_28 : decode cX0_run 28 = .ok (.invokevirtual 159, 3) := by decide +kernel
theorem dX0_run_31 : decode cX0_run 31 = .ok (.iconst 0, 1) := by decide +kernel
theorem dX0_run_32 : decode cX0_run 32 = .ok (.istore_n 1, 1) := by decide +kernel
theorem dX0_run_33 : decode cX0_run 33 = .ok (.iload_n 1, 1) := by decide +kernel
theorem dX0_run_34 : decode cX0_run 34 = .ok (.aload_n 0, 1) := by decide +kernel
theorem dX0_run_35 : decode cX0_run 35 = .ok (.getfield 40, 3) := by decide +kernel
theorem dX0_run_38 : decode cX0_run 38 = .ok (.getfield 126, 3) := by decide +kernel
theorem dX0_run_41 : decode cX0_run 41 = .ok (.if_icmp .ge 49, 3) := by decide +kernel
theorem dX0_run_44 : decode cX0_run 44 = .ok (.aload_n 0, 1) := by decide +kernel
theorem dX0_run_45 : decode cX0_run 45 = .ok (.getfield 47, 3) := by decide +kernel
theorem dX0_run_48 : decode cX0_run 48 = .ok (.aload_n 0, 1) := by decide +kernel
theorem dX0_run_49 : decode cX0_run 49 = .ok (.getfield 19, 3) := by decide +kernel
theorem dX0_run_52 : decode cX0_run 52 = .ok (.aload_n 0, 1) := by decide +kernel
theorem dX0_run_53 : decode cX0_run 53 = .ok (.getfield 40, 3) := by decide +kernel
theorem dX0_run_56 : decode cX0_run 56 = .ok (.getfield 130, 3) := by decide +kernel
theorem dX0_run_59 : decode cX0_run 59 = .ok (.iload_n 1, 1) := by decide +kernel
theorem dX0_run_60 : decode cX0_run 60 = .ok (.iaload, 1) := by decide +kernel
theorem dX0_run_61 : decode cX0_run 61 = .ok (.invokevirtual 162, 3) := by decide +kernel
theorem dX0_run_64 : decode cX0_run 64 = .ok (.aload_n 0, 1) := by decide +kernel
theorem dX0_run_65 : decode cX0_run 65 = .ok (.getfield 47, 3) := by decide +kernel
theorem dX0_run_68 : decode cX0_run 68 = .ok (.aload_n 0, 1) := by decide +kernel
theorem dX0_run_69 : decode cX0_run 69 = .ok (.getfield 26, 3) := by decide +kernel
theorem dX0_run_72 : decode cX0_run 72 = .ok (.aload_n 0, 1) := by decide +kernel
theorem dX0_run_73 : decode cX0_run 73 = .ok (.getfield 40, 3) := by decide +kernel
theorem dX0_run_76 : decode cX0_run 76 = .ok (.getfield 136, 3) := by decide +kernel
theorem dX0_run_79 : decode cX0_run 79 = .ok (.iload_n 1, 1) := by decide +kernel
theorem dX0_run_80 : decode cX0_run 80 = .ok (.iaload, 1) := by decide +kernel
theorem dX0_run_81 : decode cX0_run 81 = .ok (.invokevirtual 166, 3) := by decide +kernel
theorem dX0_run_84 : decode cX0_run 84 = .ok (.iinc 1 1, 3) := by decide +kernel
theorem dX0_run_87 : decode cX0_run 87 = .ok (.goto (-54), 3) := by decide +kernel
theorem dX0_run_90 : decode cX0_run 90 = .ok (.aload_n 0, 1) := by decide +kernel
theorem dX0_run_91 : decode cX0_run 91 = .ok (.getfield 40, 3) := by decide +kernel
theorem dX0_run_94 : decode cX0_run 94 = .ok (.getfield 126, 3) := by decide +kernel
theorem dX0_run_97 : decode cX0_run 97 = .ok (.ifCond .ne 21, 3) := by decide +kernel
theorem dX0_run_100 : decode cX0_run 100 = .ok (.aload_n 0, 1) := by decide +kernel
theorem dX0_run_101 : decode cX0_run 101 = .ok (.getfield 47, 3) := by decide +kernel
theorem dX0_run_104 : decode cX0_run 104 = .ok (.aload_n 0, 1) := by decide +kernel
theorem dX0_run_105 : decode cX0_run 105 = .ok (.getfield 26, 3) := by decide +kernel
theorem dX0_run_108 : decode cX0_run 108 = .ok (.aload_n 0, 1) := by decide +kernel
theorem dX0_run_109 : decode cX0_run 109 = .ok (.getfield 26, 3) := by decide +kernel
theorem dX0_run_112 : decode cX0_run 112 = .ok (.invokevirtual 170, 3) := by decide +kernel
theorem dX0_run_115 : decode cX0_run 115 = .ok (.invokevirtual 166, 3) := by decide +kernel
theorem dX0_run_118 : decode cX0_run 118 = .ok (.aload_n 0, 1) := by decide +kernel
theorem dX0_run_119 : decode cX0_run 119 = .ok (.getfield 47, 3) := by decide +kernel
theorem dX0_run_122 : decode cX0_run 122 = .ok (.invokevirtual 174, 3) := by decide +kernel
theorem dX0_run_125 : decode cX0_run 125 = .ok (.ireturn, 1) := by decide +kernel
theorem dX0_row_0 : decode cX0_row 0 = .ok (.iload_n 1, 1) := by decide +kernel
theorem dX0_row_1 : decode cX0_row 1 = .ok (.ifCond .lt 14, 3) := by decide +kernel
theorem dX0_row_15 : decode cX0_row 15 = .ok (.iconst (-1), 1) := by decide +kernel
theorem dX0_row_16 : decode cX0_row 16 = .ok (.ireturn, 1) := by decide +kernel
theorem dX0_row_4 : decode cX0_row 4 = .ok (.iload_n 1, 1) := by decide +kernel
theorem dX0_row_5 : decode cX0_row 5 = .ok (.aload_n 0, 1) := by decide +kernel
theorem dX0_row_6 : decode cX0_row 6 = .ok (.getfield 47, 3) := by decide +kernel
theorem dX0_row_9 : decode cX0_row 9 = .ok (.getfield 177, 3) := by decide +kernel
theorem dX0_row_12 : decode cX0_row 12 = .ok (.if_icmp .lt 5, 3) := by decide +kernel
theorem dX0_row_17 : decode cX0_row 17 = .ok (.iload_n 2, 1) := by decide +kernel
theorem dX0_row_18 : decode cX0_row 18 = .ok (.invokestatic 102, 3) := by decide +kernel
theorem dX0_row_21 : decode cX0_row 21 = .ok (.ifCond .ne 6, 3) := by decide +kernel
theorem dX0_row_27 : decode cX0_row 27 = .ok (.aload_n 0, 1) := by decide +kernel
theorem dX0_row_28 : decode cX0_row 28 = .ok (.getfield 47, 3) := by decide +kernel
theorem dX0_row_31 : decode cX0_row 31 = .ok (.getfield 178, 3) := by decide +kernel
theorem dX0_row_34 : decode cX0_row 34 = .ok (.iload_n 1, 1) := by decide +kernel
theorem dX0_row_35 : decode cX0_row 35 = .ok (.laload, 1) := by decide +kernel
theorem dX0_row_36 : decode cX0_row 36 = .ok (.iload_n 2, 1) := by decide +kernel
theorem dX0_row_37 : decode cX0_row 37 = .ok (.invokestatic 106, 3) := by decide +kernel
theorem dX0_row_40 : decode cX0_row 40 = .ok (.invokestatic 181, 3) := by decide +kernel
theorem dX0_row_43 : decode cX0_row 43 = .ok (.ireturn, 1) := by decide +kernel
theorem dX0_row_24 : decode cX0_row 24 = .ok (.bipush (-2), 2) := by decide +kernel
theorem dX0_row_26 : decode cX0_row 26 = .ok (.ireturn, 1) := by decide +kernel
theorem dX2_orderByNumbers_0 : decode cX2_orderByNumbers 0 = .ok (.iconst 0, 1) := by decide +kernel
theorem dX2_orderByNumbers_1 : decode cX2_orderByNumbers 1 = .ok (.istore_n 2, 1) := by decide +kernel
theorem dX2_orderByNumbers_2 : decode cX2_orderByNumbers 2 = .ok (.iconst 0, 1) := by decide +kernel
theorem dX2_orderByNumbers_3 : decode cX2_orderByNumbers 3 = .ok (.istore_n 3, 1) := by decide +kernel
theorem dX2_orderByNumbers_4 : decode cX2_orderByNumbers 4 = .ok (.iload_n 3, 1) := by decide +kernel
theorem dX2_orderByNumbers_5 : decode cX2_orderByNumbers 5 = .ok (.aload_n 0, 1) := by decide +kernel
theorem dX2_orderByNumbers_6 : decode cX2_orderByNumbers 6 = .ok (.getfield 39, 3) := by decide +kernel
theorem dX2_orderByNumbers_9 : decode cX2_orderByNumbers 9 = .ok (.if_icmp .ge 24, 3) := by decide +kernel
theorem dX2_orderByNumbers_12 : decode cX2_orderByNumbers 12 = .ok (.aload_n 0, 1) := by decide +kernel
theorem dX2_orderByNumbers_13 : decode cX2_orderByNumbers 13 = .ok (.iload_n 3, 1) := by decide +kernel
theorem dX2_orderByNumbers_14 : decode cX2_orderByNumbers 14 = .ok (.invokevirtual 98, 3) := by decide +kernel
theorem dX2_orderByNumbers_17 : decode cX2_orderByNumbers 17 = .ok (.ifCond .eq 10, 3) := by decide +kernel
theorem dX2_orderByNumbers_27 : decode cX2_orderByNumbers 27 = .ok (.iinc 3 1, 3) := by decide +kernel
theorem dX2_orderByNumbers_30 : decode cX2_orderByNumbers 30 = .ok (.goto (-26), 3) := by decide +kernel
theorem dX2_orderByNumbers_20 : decode cX2_orderByNumbers 20 = .ok (.aload_n 1, 1) := by decide +kernel
theorem dX2_orderByNumbers_21 : decode cX2_orderByNumbers 21 = .ok (.iload_n 2, 1) := by decide +kernel
theorem dX2_orderByNumbers_22 : decode cX2_orderByNumbers 22 = .ok (.iload_n 3, 1) := by decide +kernel
theorem dX2_orderByNumbers_23 : decode cX2_orderByNumbers 23 = .ok (.iastore, 1) := by decide +kernel
theorem dX2_orderByNumbers_24 : decode cX2_orderByNumbers 24 = .ok (.iinc 2 1, 3) := by decide +kernel
theorem dX2_orderByNumbers_33 : decode cX2_orderByNumbers 33 = .ok (.aload_n 0, 1) := by decide +kernel
theorem dX2_orderByNumbers_34 : decode cX2_orderByNumbers 34 = .ok (.aload_n 1, 1) := by decide +kernel
theorem dX2_orderByNumbers_35 : decode cX2_orderByNumbers 35 = .ok (.iload_n 2, 1) := by decide +kernel
theorem dX2_orderByNumbers_36 : decode cX2_orderByNumbers 36 = .ok (.invokevirtual 102, 3) := by decide +kernel
theorem dX2_orderByNumbers_39 : decode cX2_orderByNumbers 39 = .ok (.aload_n 0, 1) := by decide +kernel
theorem dX2_orderByNumbers_40 : decode cX2_orderByNumbers 40 = .ok (.getfield 39, 3) := by decide +kernel
theorem dX2_orderByNumbers_43 : decode cX2_orderByNumbers 43 = .ok (.ireturn, 1) := by decide +kernel
theorem dX0_makePlainOnes_0 : decode cX0_makePlainOnes 0 = .ok (.aload_n 0, 1) := by decide +kernel
theorem dX0_makePlainOnes_1 : decode cX0_makePlainOnes 1 = .ok (.getfield 19, 3) := by decide +kernel
theorem dX0_makePlainOnes_4 : decode cX0_makePlainOnes 4 = .ok (.aload_n 0, 1) := by decide +kernel
theorem dX0_makePlainOnes_5 : decode cX0_makePlainOnes 5 = .ok (.getfield 51, 3) := by decide +kernel
theorem dX0_makePlainOnes_8 : decode cX0_makePlainOnes 8 = .ok (.invokevirtual 195, 3) := by decide +kernel
theorem dX0_makePlainOnes_11 : decode cX0_makePlainOnes 11 = .ok (.istore_n 1, 1) := by decide +kernel
theorem dX0_makePlainOnes_12 : decode cX0_makePlainOnes 12 = .ok (.aload_n 0, 1) := by decide +kernel
theorem dX0_makePlainOnes_13 : decode cX0_makePlainOnes 13 = .ok (.getfield 55, 3) := by decide +kernel
theorem dX0_makePlainOnes_16 : decode cX0_makePlainOnes 16 = .ok (.invokevirtual 159, 3) := by decide +kernel
theorem dX0_makePlainOnes_19 : decode cX0_makePlainOnes 19 = .ok (.iconst 0, 1) := by decide +kernel
theorem dX0_makePlainOnes_20 : decode cX0_makePlainOnes 20 = .ok (.istore_n 2, 1) := by decide +kernel
theorem dX0_makePlainOnes_21 : decode cX0_makePlainOnes 21 = .ok (.iload_n 2, 1) := by decide +kernel
theorem dX0_makePlainOnes_22 : decode cX0_makePlainOnes 22 = .ok (.iload_n 1, 1) := by decide +kernel
theorem dX0_makePlainOnes_23 : decode cX0_makePlainOnes 23 = .ok (.if_icmp .ge 26, 3) := by decide +kernel
theorem dX0_makePlainOnes_26 : decode cX0_makePlainOnes 26 = .ok (.aload_n 0, 1) := by decide +kernel
theorem dX0_makePlainOnes_27 : decode cX0_makePlainOnes 27 = .ok (.getfield 55, 3) := by decide +kernel
theorem dX0_makePlainOnes_30 : decode cX0_makePlainOnes 30 = .ok (.aload_n 0, 1) := by decide +kernel
theorem dX0_makePlainOnes_31 : decode cX0_makePlainOnes 31 = .ok (.getfield 19, 3) := by decide +kernel
theorem dX0_makePlainOnes_34 : decode cX0_makePlainOnes 34 = .ok (.aload_n 0, 1) := by decide +kernel
theorem dX0_makePlainOnes_35 : decode cX0_makePlainOnes 35 = .ok (.getfield 51, 3) := by decide +kernel
theorem dX0_makePlainOnes_38 : decode cX0_makePlainOnes 38 = .ok (.iload_n 2, 1) := by decide +kernel
theorem dX0_makePlainOnes_39 : decode cX0_makePlainOnes 39 = .ok (.iaload, 1) := by decide +kernel
theorem dX0_makePlainOnes_40 : decode cX0_makePlainOnes 40 = .ok (.invokevirtual 162, 3) := by decide +kernel
theorem dX0_makePlainOnes_43 : decode cX0_makePlainOnes 43 = .ok (.iinc 2 1, 3) := by decide +kernel
theorem dX0_makePlainOnes_46 : decode cX0_makePlainOnes 46 = .ok (.goto (-25), 3) := by decide +kernel
theorem dX0_makePlainOnes_49 : decode cX0_makePlainOnes 49 = .ok (.aload_n 0, 1) := by decide +kernel
theorem dX0_makePlainOnes_50 : decode cX0_makePlainOnes 50 = .ok (.getfield 55, 3) := by decide +kernel
theorem dX0_makePlainOnes_53 : decode cX0_makePlainOnes 53 = .ok (.aload_n 0, 1) := by decide +kernel
theorem dX0_makePlainOnes_54 : decode cX0_makePlainOnes 54 = .ok (.getfield 26, 3) := by decide +kernel
theorem dX0_makePlainOnes_57 : decode cX0_makePlainOnes 57 = .ok (.aload_n 0, 1) := by decide +kernel
theorem dX0_makePlainOnes_58 : decode cX0_makePlainOnes 58 = .ok (.getfield 26, 3) := by decide +kernel
theorem dX0_makePlainOnes_61 : decode cX0_makePlainOnes 61 = .ok (.invokevirtual 170, 3) := by decide +kernel
theorem dX0_makePlainOnes_64 : decode cX0_makePlainOnes 64 = .ok (.invokevirtual 166, 3) := by decide +kernel
theorem dX0_makePlainOnes_67 : decode cX0_makePlainOnes 67 = .ok (.return_, 1) := by decide +kernel
theorem dX0_plain_0 : decode cX0_plain 0 = .ok (.aload_n 0, 1) := by decide +kernel
theorem dX0_plain_1 : decode cX0_plain 1 = .ok (.invokevirtual 185, 3) := by decide +kernel
theorem dX0_plain_4 : decode cX0_plain 4 = .ok (.aload_n 0, 1) := by decide +kernel
theorem dX0_plain_5 : decode cX0_plain 5 = .ok (.getfield 55, 3) := by decide +kernel
theorem dX0_plain_8 : decode cX0_plain 8 = .ok (.invokevirtual 174, 3) := by decide +kernel
theorem dX0_plain_11 : decode cX0_plain 11 = .ok (.ireturn, 1) := by decide +kernel
theorem dX5_sort_0 : decode cX5_sort 0 = .ok (.iload_n 1, 1) := by decide +kernel
theorem dX5_sort_1 : decode cX5_sort 1 = .ok (.iconst 2, 1) := by decide +kernel
theorem dX5_sort_2 : decode cX5_sort 2 = .ok (.idiv, 1) := by decide +kernel
theorem dX5_sort_3 : decode cX5_sort 3 = .ok (.istore_n 2, 1) := by decide +kernel
theorem dX5_sort_4 : decode cX5_sort 4 = .ok (.iload_n 2, 1) := by decide +kernel
theorem dX5_sort_5 : decode cX5_sort 5 = .ok (.ifCond .le 74, 3) := by decide +kernel
theorem dX5_sort_8 : decode cX5_sort 8 = .ok (.iload_n 2, 1) := by decide +kernel
theorem dX5_sort_9 : decode cX5_sort 9 = .ok (.istore_n 3, 1) := by decide +kernel
theorem dX5_sort_10 : decode cX5_sort 10 = .ok (.iload_n 3, 1) := by decide +kernel
theorem dX5_sort_11 : decode cX5_sort 11 = .ok (.iload_n 1, 1) := by decide +kernel
theorem dX5_sort_12 : decode cX5_sort 12 = .ok (.if_icmp .ge 60, 3) := by decide +kernel
theorem dX5_sort_15 : decode cX5_sort 15 = .ok (.aload_n 0, 1) := by decide +kernel
theorem dX5_sort_16 : decode cX5_sort 16 = .ok (.iload_n 3, 1) := by decide +kernel
theorem dX5_sort_17 : decode cX5_sort 17 = .ok (.laload, 1) := by decide +kernel
theorem dX5_sort_18 : decode cX5_sort 18 = .ok (.lstore 4, 2) := by decide +kernel
theorem dX5_sort_20 : decode cX5_sort 20 = .ok (.iload_n 3, 1) := by decide +kernel
theorem dX5_sort_21 : decode cX5_sort 21 = .ok (.istore 6, 2) := by decide +kernel
theorem dX5_sort_23 : decode cX5_sort 23 = .ok (.iload 6, 2) := by decide +kernel
theorem dX5_sort_25 : decode cX5_sort 25 = .ok (.iload_n 2, 1) := by decide +kernel
theorem dX5_sort_26 : decode cX5_sort 26 = .ok (.if_icmp .lt 34, 3) := by decide +kernel
theorem dX5_sort_29 : decode cX5_sort 29 = .ok (.aload_n 0, 1) := by decide +kernel
theorem dX5_sort_30 : decode cX5_sort 30 = .ok (.iload 6, 2) := by decide +kernel
theorem dX5_sort_32 : decode cX5_sort 32 = .ok (.iload_n 2, 1) := by decide +kernel
theorem dX5_sort_33 : decode cX5_sort 33 = .ok (.isub, 1) := by decide +kernel
theorem dX5_sort_34 : decode cX5_sort 34 = .ok (.laload, 1) := by decide +kernel
theorem dX5_sort_35 : decode cX5_sort 35 = .ok (.lload 4, 2) := by decide +kernel
theorem dX5_sort_37 : decode cX5_sort 37 = .ok (.lcmp, 1) := by decide +kernel
theorem dX5_sort_38 : decode cX5_sort 38 = .ok (.ifCond .le 22, 3) := by decide +kernel
theorem dX5_sort_41 : decode cX5_sort 41 = .ok (.aload_n 0, 1) := by decide +kernel
theorem dX5_sort_42 : decode cX5_sort 42 = .ok (.iload 6, 2) := by decide +kernel
theorem dX5_sort_44 : decode cX5_sort 44 = .ok (.aload_n 0, 1) := by decide +kernel
theorem dX5_sort_45 : decode cX5_sort 45 = .ok (.iload 6, 2) := by decide +kernel
theorem dX5_sort_47 : decode cX5_sort 47 = .ok (.iload_n 2, 1) := by decide +kernel
theorem dX5_sort_48 : decode cX5_sort 48 = .ok (.isub, 1) := by decide +kernel
theorem dX5_sort_49 : decode cX5_sort 49 = .ok (.laload, 1) := by decide +kernel
theorem dX5_sort_50 : decode cX5_sort 50 = .ok (.lastore, 1) := by decide +kernel
theorem dX5_sort_51 : decode cX5_sort 51 = .ok (.iload 6, 2) := by decide +kernel
theorem dX5_sort_53 : decode cX5_sort 53 = .ok (.iload_n 2, 1) := by decide +kernel
theorem dX5_sort_54 : decode cX5_sort 54 = .ok (.isub, 1) := by decide +kernel
theorem dX5_sort_55 : decode cX5_sort 55 = .ok (.istore 6, 2) := by decide +kernel
theorem dX5_sort_57 : decode cX5_sort 57 = .ok (.goto (-34), 3) := by decide +kernel
theorem dX5_sort_60 : decode cX5_sort 60 = .ok (.aload_n 0, 1) := by decide +kernel
theorem dX5_sort_61 : decode cX5_sort 61 = .ok (.iload 6, 2) := by decide +kernel
theorem dX5_sort_63 : decode cX5_sort 63 = .ok (.lload 4, 2) := by decide +kernel
theorem dX5_sort_65 : decode cX5_sort 65 = .ok (.lastore, 1) := by decide +kernel
theorem dX5_sort_66 : decode cX5_sort 66 = .ok (.iinc 3 1, 3) := by decide +kernel
theorem dX5_sort_69 : decode cX5_sort 69 = .ok (.goto (-59), 3) := by decide +kernel
theorem dX5_sort_72 : decode cX5_sort 72 = .ok (.iload_n 2, 1) := by decide +kernel
theorem dX5_sort_73 : decode cX5_sort 73 = .ok (.iconst 2, 1) := by decide +kernel
theorem dX5_sort_74 : decode cX5_sort 74 = .ok (.idiv, 1) := by decide +kernel
theorem dX5_sort_75 : decode cX5_sort 75 = .ok (.istore_n 2, 1) := by decide +kernel
theorem dX5_sort_76 : decode cX5_sort 76 = .ok (.goto (-72), 3) := by decide +kernel
theorem dX5_sort_79 : decode cX5_sort 79 = .ok (.return_, 1) := by decide +kernel
theorem dX5_bindsTheSame_0 : decode cX5_bindsTheSame 0 = .ok (.aload_n 0, 1) := by decide +kernel
theorem dX5_bindsTheSame_1 : decode cX5_bindsTheSame 1 = .ok (.getfield 20, 3) := by decide +kernel
theorem dX5_bindsTheSame_4 : decode cX5_bindsTheSame 4 = .ok (.aload_n 1, 1) := by decide +kernel
theorem dX5_bindsTheSame_5 : decode cX5_bindsTheSame 5 = .ok (.getfield 20, 3) := by decide +kernel
theorem dX5_bindsTheSame_8 : decode cX5_bindsTheSame 8 = .ok (.if_icmp .eq 5, 3) := by decide +kernel
theorem dX5_bindsTheSame_13 : decode cX5_bindsTheSame 13 = .ok (.iconst 0, 1) := by decide +kernel
theorem dX5_bindsTheSame_14 : decode cX5_bindsTheSame 14 = .ok (.istore_n 2, 1) := by decide +kernel
theorem dX5_bindsTheSame_15 : decode cX5_bindsTheSame 15 = .ok (.iload_n 2, 1) := by decide +kernel
theorem dX5_bindsTheSame_16 : decode cX5_bindsTheSame 16 = .ok (.aload_n 0, 1) := by decide +kernel
theorem dX5_bindsTheSame_17 : decode cX5_bindsTheSame 17 = .ok (.getfield 20, 3) := by decide +kernel
theorem dX5_bindsTheSame_20 : decode cX5_bindsTheSame 20 = .ok (.if_icmp .ge 37, 3) := by decide +kernel
theorem dX5_bindsTheSame_23 : decode cX5_bindsTheSame 23 = .ok (.aload_n 0, 1) := by decide +kernel
theorem dX5_bindsTheSame_24 : decode cX5_bindsTheSame 24 = .ok (.getfield 11, 3) := by decide +kernel
theorem dX5_bindsTheSame_27 : decode cX5_bindsTheSame 27 = .ok (.iload_n 2, 1) := by decide +kernel
theorem dX5_bindsTheSame_28 : decode cX5_bindsTheSame 28 = .ok (.dup2, 1) := by decide +kernel
theorem dX5_bindsTheSame_29 : decode cX5_bindsTheSame 29 = .ok (.laload, 1) := by decide +kernel
theorem dX5_bindsTheSame_30 : decode cX5_bindsTheSame 30 = .ok (.ldc2_w 92, 3) := by decide +kernel
theorem dX5_bindsTheSame_33 : decode cX5_bindsTheSame 33 = .ok (.land, 1) := by decide +kernel
theorem dX5_bindsTheSame_34 : decode cX5_bindsTheSame 34 = .ok (.lastore, 1) := by decide +kernel
theorem dX5_bindsTheSame_35 : decode cX5_bindsTheSame 35 = .ok (.aload_n 0, 1) := by decide +kernel
theorem dX5_bindsTheSame_36 : decode cX5_bindsTheSame 36 = .ok (.getfield 15, 3) := by decide +kernel
theorem dX5_bindsTheSame_39 : decode cX5_bindsTheSame 39 = .ok (.iload_n 2, 1) := by decide +kernel
theorem dX5_bindsTheSame_40 : decode cX5_bindsTheSame 40 = .ok (.aload_n 1, 1) := by decide +kernel
theorem dX5_bindsTheSame_41 : decode cX5_bindsTheSame 41 = .ok (.getfield 11, 3) := by decide +kernel
theorem dX5_bindsTheSame_44 : decode cX5_bindsTheSame 44 = .ok (.iload_n 2, 1) := by decide +kernel
theorem dX5_bindsTheSame_45 : decode cX5_bindsTheSame 45 = .ok (.laload, 1) := by decide +kernel
theorem dX5_bindsTheSame_46 : decode cX5_bindsTheSame 46 = .ok (.ldc2_w 92, 3) := by decide +kernel
theorem dX5_bindsTheSame_49 : decode cX5_bindsTheSame 49 = .ok (.land, 1) := by decide +kernel
theorem dX5_bindsTheSame_50 : decode cX5_bindsTheSame 50 = .ok (.lastore, 1) := by decide +kernel
theorem dX5_bindsTheSame_51 : decode cX5_bindsTheSame 51 = .ok (.iinc 2 1, 3) := by decide +kernel
theorem dX5_bindsTheSame_54 : decode cX5_bindsTheSame 54 = .ok (.goto (-39), 3) := by decide +kernel
theorem dX5_bindsTheSame_57 : decode cX5_bindsTheSame 57 = .ok (.aload_n 0, 1) := by decide +kernel
theorem dX5_bindsTheSame_58 : decode cX5_bindsTheSame 58 = .ok (.getfield 11, 3) := by decide +kernel
theorem dX5_bindsTheSame_61 : decode cX5_bindsTheSame 61 = .ok (.aload_n 0, 1) := by decide +kernel
theorem dX5_bindsTheSame_62 : decode cX5_bindsTheSame 62 = .ok (.getfield 20, 3) := by decide +kernel
theorem dX5_bindsTheSame_65 : decode cX5_bindsTheSame 65 = .ok (.invokestatic 94, 3) := by decide +kernel
theorem dX5_bindsTheSame_68 : decode cX5_bindsTheSame 68 = .ok (.aload_n 0, 1) := by decide +kernel
theorem dX5_bindsTheSame_69 : decode cX5_bindsTheSame 69 = .ok (.getfield 15, 3) := by decide +kernel
theorem dX5_bindsTheSame_72 : decode cX5_bindsTheSame 72 = .ok (.aload_n 0, 1) := by decide +kernel
theorem dX5_bindsTheSame_73 : decode cX5_bindsTheSame 73 = .ok (.getfield 20, 3) := by decide +kernel
theorem dX5_bindsTheSame_76 : decode cX5_bindsTheSame 76 = .ok (.invokestatic 94, 3) := by decide +kernel
theorem dX5_bindsTheSame_79 : decode cX5_bindsTheSame 79 = .ok (.iconst 0, 1) := by decide +kernel
theorem dX5_bindsTheSame_80 : decode cX5_bindsTheSame 80 = .ok (.istore_n 2, 1) := by decide +kernel
theorem dX5_bindsTheSame_81 : decode cX5_bindsTheSame 81 = .ok (.iload_n 2, 1) := by decide +kernel
theorem dX5_bindsTheSame_82 : decode cX5_bindsTheSame 82 = .ok (.aload_n 0, 1) := by decide +kernel
theorem dX5_bindsTheSame_83 : decode cX5_bindsTheSame 83 = .ok (.getfield 20, 3) := by decide +kernel
theorem dX5_bindsTheSame_86 : decode cX5_bindsTheSame 86 = .ok (.if_icmp .ge 27, 3) := by decide +kernel
theorem dX5_bindsTheSame_89 : decode cX5_bindsTheSame 89 = .ok (.aload_n 0, 1) := by decide +kernel
theorem dX5_bindsTheSame_90 : decode cX5_bindsTheSame 90 = .ok (.getfield 11, 3) := by decide +kernel
theorem dX5_bindsTheSame_93 : decode cX5_bindsTheSame 93 = .ok (.iload_n 2, 1) := by decide +kernel
theorem dX5_bindsTheSame_94 : decode cX5_bindsTheSame 94 = .ok (.laload, 1) := by decide +kernel
theorem dX5_bindsTheSame_95 : decode cX5_bindsTheSame 95 = .ok (.aload_n 0, 1) := by decide +kernel
theorem dX5_bindsTheSame_96 : decode cX5_bindsTheSame 96 = .ok (.getfield 15, 3) := by decide +kernel
theorem dX5_bindsTheSame_99 : decode cX5_bindsTheSame 99 = .ok (.iload_n 2, 1) := by decide +kernel
theorem dX5_bindsTheSame_100 : decode cX5_bindsTheSame 100 = .ok (.laload, 1) := by decide +kernel
theorem dX5_bindsTheSame_101 : decode cX5_bindsTheSame 101 = .ok (.lcmp, 1) := by decide +kernel
theorem dX5_bindsTheSame_102 : decode cX5_bindsTheSame 102 = .ok (.ifCond .eq 5, 3) := by decide +kernel
theorem dX5_bindsTheSame_107 : decode cX5_bindsTheSame 107 = .ok (.iinc 2 1, 3) := by decide +kernel
theorem dX5_bindsTheSame_110 : decode cX5_bindsTheSame 110 = .ok (.goto (-29), 3) := by decide +kernel
theorem dX5_bindsTheSame_105 : decode cX5_bindsTheSame 105 = .ok (.iconst 0, 1) := by decide +kernel
theorem dX5_bindsTheSame_106 : decode cX5_bindsTheSame 106 = .ok (.ireturn, 1) := by decide +kernel
theorem dX5_bindsTheSame_113 : decode cX5_bindsTheSame 113 = .ok (.iconst 1, 1) := by decide +kernel
theorem dX5_bindsTheSame_114 : decode cX5_bindsTheSame 114 = .ok (.ireturn, 1) := by decide +kernel
theorem dX5_bindsTheSame_11 : decode cX5_bindsTheSame 11 = .ok (.iconst 0, 1) := by decide +kernel
theorem dX5_bindsTheSame_12 : decode cX5_bindsTheSame 12 = .ok (.ireturn, 1) := by decide +kernel
theorem dX0_keeps_0 : decode cX0_keeps 0 = .ok (.aload_n 0, 1) := by decide +kernel
theorem dX0_keeps_1 : decode cX0_keeps 1 = .ok (.getfield 155, 3) := by decide +kernel
theorem dX0_keeps_4 : decode cX0_keeps 4 = .ok (.ifCond .eq 13, 3) := by decide +kernel
theorem dX0_keeps_17 : decode cX0_keeps 17 = .ok (.iconst 0, 1) := by decide +kernel
theorem dX0_keeps_18 : decode cX0_keeps 18 = .ok (.ireturn, 1) := by decide +kernel
theorem dX0_keeps_7 : decode cX0_keeps 7 = .ok (.aload_n 0, 1) := by decide +kernel
theorem dX0_keeps_8 : decode cX0_keeps 8 = .ok (.getfield 47, 3) := by decide +kernel
theorem dX0_keeps_11 : decode cX0_keeps 11 = .ok (.getfield 188, 3) := by decide +kernel
theorem dX0_keeps_14 : decode cX0_keeps 14 = .ok (.ifCond .eq 5, 3) := by decide +kernel
theorem dX0_keeps_19 : decode cX0_keeps 19 = .ok (.aload_n 0, 1) := by decide +kernel
theorem dX0_keeps_20 : decode cX0_keeps 20 = .ok (.invokevirtual 185, 3) := by decide +kernel
theorem dX0_keeps_23 : decode cX0_keeps 23 = .ok (.aload_n 0, 1) := by decide +kernel
theorem dX0_keeps_24 : decode cX0_keeps 24 = .ok (.getfield 55, 3) := by decide +kernel
theorem dX0_keeps_27 : decode cX0_keeps 27 = .ok (.getfield 188, 3) := by decide +kernel
theorem dX0_keeps_30 : decode cX0_keeps 30 = .ok (.ifCond .ne 21, 3) := by decide +kernel
theorem dX0_keeps_51 : decode cX0_keeps 51 = .ok (.iconst 0, 1) := by decide +kernel
theorem dX0_keeps_52 : decode cX0_keeps 52 = .ok (.ireturn, 1) := by decide +kernel
theorem dX0_keeps_33 : decode cX0_keeps 33 = .ok (.aload_n 0, 1) := by decide +kernel
theorem dX0_keeps_34 : decode cX0_keeps 34 = .ok (.getfield 55, 3) := by decide +kernel
theorem dX0_keeps_37 : decode cX0_keeps 37 = .ok (.aload_n 0, 1) := by decide +kernel
theorem dX0_keeps_38 : decode cX0_keeps 38 = .ok (.getfield 47, 3) := by decide +kernel
theorem dX0_keeps_41 : decode cX0_keeps 41 = .ok (.invokevirtual 191, 3) := by decide +kernel
theorem dX0_keeps_44 : decode cX0_keeps 44 = .ok (.ifCond .eq 7, 3) := by decide +kernel
theorem dX0_keeps_47 : decode cX0_keeps 47 = .ok (.iconst 1, 1) := by decide +kernel
theorem dX0_keeps_48 : decode cX0_keeps 48 = .ok (.goto 4, 3) := by decide +kernel
