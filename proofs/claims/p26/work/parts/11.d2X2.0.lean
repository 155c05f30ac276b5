theorem dX2_init_0 : decode cX2_init 0 = .ok (.aload_n 0, 1) := by decide +kernel
theorem dX2_init_1 : decode cX2_init 1 = .ok (.invokespecial 3, 3) := by decide +kernel
theorem dX2_init_4 : decode cX2_init 4 = .ok (.aload_n 0, 1) := by decide +kernel
theorem dX2_init_5 : decode cX2_init 5 = .ok (.bipush 10, 2) := by decide +kernel
theorem dX2_init_7 : decode cX2_init 7 = .ok (.newarray .int, 2) := by decide +kernel
theorem dX2_init_9 : decode cX2_init 9 = .ok (.putfield 9, 3) := by decide +kernel
theorem dX2_init_12 : decode cX2_init 12 = .ok (.aload_n 0, 1) := by decide +kernel
theorem dX2_init_13 : decode cX2_init 13 = .ok (.bipush 10, 2) := by decide +kernel
theorem dX2_init_15 : decode cX2_init 15 = .ok (.newarray .int, 2) := by decide +kernel
theorem dX2_init_17 : decode cX2_init 17 = .ok (.putfield 15, 3) := by decide +kernel
theorem dX2_init_20 : decode cX2_init 20 = .ok (.aload_n 0, 1) := by decide +kernel
theorem dX2_init_21 : decode cX2_init 21 = .ok (.bipush 10, 2) := by decide +kernel
theorem dX2_init_23 : decode cX2_init 23 = .ok (.newarray .int, 2) := by decide +kernel
theorem dX2_init_25 : decode cX2_init 25 = .ok (.putfield 18, 3) := by decide +kernel
theorem dX2_init_28 : decode cX2_init 28 = .ok (.return_, 1) := by decide +kernel
theorem dX2_enter_0 : decode cX2_enter 0 = .ok (.aload_n 0, 1) := by decide +kernel
theorem dX2_enter_1 : decode cX2_enter 1 = .ok (.getfield 9, 3) := by decide +kernel
theorem dX2_enter_4 : decode cX2_enter 4 = .ok (.iload_n 1, 1) := by decide +kernel
theorem dX2_enter_5 : decode cX2_enter 5 = .ok (.iload_n 2, 1) := by decide +kernel
theorem dX2_enter_6 : decode cX2_enter 6 = .ok (.iastore, 1) := by decide +kernel
theorem dX2_enter_7 : decode cX2_enter 7 = .ok (.aload_n 0, 1) := by decide +kernel
theorem dX2_enter_8 : decode cX2_enter 8 = .ok (.getfield 15, 3) := by decide +kernel
theorem dX2_enter_11 : decode cX2_enter 11 = .ok (.iload_n 1, 1) := by decide +kernel
theorem dX2_enter_12 : decode cX2_enter 12 = .ok (.iload_n 3, 1) := by decide +kernel
theorem dX2_enter_13 : decode cX2_enter 13 = .ok (.iastore, 1) := by decide +kernel
theorem dX2_enter_14 : decode cX2_enter 14 = .ok (.return_, 1) := by decide +kernel
theorem dX2_partOf_0 : decode cX2_partOf 0 = .ok (.aload_n 0, 1) := by decide +kernel
theorem dX2_partOf_1 : decode cX2_partOf 1 = .ok (.getfield 18, 3) := by decide +kernel
theorem dX2_partOf_4 : decode cX2_partOf 4 = .ok (.iload_n 1, 1) := by decide +kernel
theorem dX2_partOf_5 : decode cX2_partOf 5 = .ok (.iaload, 1) := by decide +kernel
theorem dX2_partOf_6 : decode cX2_partOf 6 = .ok (.ireturn, 1) := by decide +kernel
theorem dX2_part_0 : decode cX2_part 0 = .ok (.iconst 0, 1) := by decide +kernel
theorem dX2_part_1 : decode cX2_part 1 = .ok (.istore_n 2, 1) := by decide +kernel
theorem dX2_part_2 : decode cX2_part 2 = .ok (.iconst 0, 1) := by decide +kernel
theorem dX2_part_3 : decode cX2_part 3 = .ok (.istore_n 3, 1) := by decide +kernel
theorem dX2_part_4 : decode cX2_part 4 = .ok (.iload_n 3, 1) := by decide +kernel
theorem dX2_part_5 : decode cX2_part 5 = .ok (.bipush 10, 2) := by decide +kernel
theorem dX2_part_7 : decode cX2_part 7 = .ok (.if_icmp .ge 25, 3) := by decide +kernel
theorem dX2_part_10 : decode cX2_part 10 = .ok (.iload_n 2, 1) := by decide +kernel
theorem dX2_part_11 : decode cX2_part 11 = .ok (.aload_n 0, 1) := by decide +kernel
theorem dX2_part_12 : decode cX2_part 12 = .ok (.getfield 9, 3) := by decide +kernel
theorem dX2_part_15 : decode cX2_part 15 = .ok (.iload_n 3, 1) := by decide +kernel
theorem dX2_part_16 : decode cX2_part 16 = .ok (.iaload, 1) := by decide +kernel
theorem dX2_part_17 : decode cX2_part 17 = .ok (.iadd, 1) := by decide +kernel
theorem dX2_part_18 : decode cX2_part 18 = .ok (.istore_n 2, 1) := by decide +kernel
theorem dX2_part_19 : decode cX2_part 19 = .ok (.aload_n 0, 1) := by decide +kernel
theorem dX2_part_20 : decode cX2_part 20 = .ok (.getfield 18, 3) := by decide +kernel
theorem dX2_part_23 : decode cX2_part 23 = .ok (.iload_n 3, 1) := by decide +kernel
theorem dX2_part_24 : decode cX2_part 24 = .ok (.iconst 0, 1) := by decide +kernel
theorem dX2_part_25 : decode cX2_part 25 = .ok (.iastore, 1) := by decide +kernel
theorem dX2_part_26 : decode cX2_part 26 = .ok (.iinc 3 1, 3) := by decide +kernel
theorem dX2_part_29 : decode cX2_part 29 = .ok (.goto (-25), 3) := by decide +kernel
theorem dX2_part_32 : decode cX2_part 32 = .ok (.iload_n 2, 1) := by decide +kernel
theorem dX2_part_33 : decode cX2_part 33 = .ok (.ifCond .gt 5, 3) := by decide +kernel
theorem dX2_part_36 : decode cX2_part 36 = .ok (.iload_n 1, 1) := by decide +kernel
theorem dX2_part_37 : decode cX2_part 37 = .ok (.ireturn, 1) := by decide +kernel
theorem dX2_part_38 : decode cX2_part 38 = .ok (.iload_n 1, 1) := by decide +kernel
theorem dX2_part_39 : decode cX2_part 39 = .ok (.istore_n 3, 1) := by decide +kernel
theorem dX2_part_40 : decode cX2_part 40 = .ok (.iconst 0, 1) := by decide +kernel
theorem dX2_part_41 : decode cX2_part 41 = .ok (.istore 4, 2) := by decide +kernel
theorem dX2_part_43 : decode cX2_part 43 = .ok (.iload 4, 2) := by decide +kernel
theorem dX2_part_45 : decode cX2_part 45 = .ok (.bipush 10, 2) := by decide +kernel
theorem dX2_part_47 : decode cX2_part 47 = .ok (.if_icmp .ge 55, 3) := by decide +kernel
theorem dX2_part_50 : decode cX2_part 50 = .ok (.iload_n 1, 1) := by decide +kernel
theorem dX2_part_51 : decode cX2_part 51 = .ok (.i2l, 1) := by decide +kernel
theorem dX2_part_52 : decode cX2_part 52 = .ok (.aload_n 0, 1) := by decide +kernel
theorem dX2_part_53 : decode cX2_part 53 = .ok (.getfield 9, 3) := by decide +kernel
theorem dX2_part_56 : decode cX2_part 56 = .ok (.iload 4, 2) := by decide +kernel
theorem dX2_part_58 : decode cX2_part 58 = .ok (.iaload, 1) := by decide +kernel
theorem dX2_part_59 : decode cX2_part 59 = .ok (.i2l, 1) := by decide +kernel
theorem dX2_part_60 : decode cX2_part 60 = .ok (.lmul, 1) := by decide +kernel
theorem dX2_part_61 : decode cX2_part 61 = .ok (.iload_n 2, 1) := by decide +kernel
theorem dX2_part_62 : decode cX2_part 62 = .ok (.i2l, 1) := by decide +kernel
theorem dX2_part_63 : decode cX2_part 63 = .ok (.ldiv, 1) := by decide +kernel
theorem dX2_part_64 : decode cX2_part 64 = .ok (.l2i, 1) := by decide +kernel
theorem dX2_part_65 : decode cX2_part 65 = .ok (.istore 5, 2) := by decide +kernel
theorem dX2_part_67 : decode cX2_part 67 = .ok (.aload_n 0, 1) := by decide +kernel
theorem dX2_part_68 : decode cX2_part 68 = .ok (.getfield 18, 3) := by decide +kernel
theorem dX2_part_71 : decode cX2_part 71 = .ok (.iload 4, 2) := by decide +kernel
theorem dX2_part_73 : decode cX2_part 73 = .ok (.iload 5, 2) := by decide +kernel
theorem dX2_part_75 : decode cX2_part 75 = .ok (.aload_n 0, 1) := by decide +kernel
theorem dX2_part_76 : decode cX2_part 76 = .ok (.getfield 15, 3) := by decide +kernel
theorem dX2_part_79 : decode cX2_part 79 = .ok (.iload 4, 2) := by decide +kernel
theorem dX2_part_81 : decode cX2_part 81 = .ok (.iaload, 1) := by decide +kernel
theorem dX2_part_82 : decode cX2_part 82 = .ok (.invokestatic 21, 3) := by decide +kernel
theorem dX2_part_85 : decode cX2_part 85 = .ok (.iastore, 1) := by decide +kernel
theorem dX2_part_86 : decode cX2_part 86 = .ok (.iload_n 3, 1) := by decide +kernel
theorem dX2_part_87 : decode cX2_part 87 = .ok (.aload_n 0, 1) := by decide +kernel
theorem dX2_part_88 : decode cX2_part 88 = .ok (.getfield 18, 3) := by decide +kernel
theorem dX2_part_91 : decode cX2_part 91 = .ok (.iload 4, 2) := by decide +kernel
theorem dX2_part_93 : decode cX2_part 93 = .ok (.iaload, 1) := by decide +kernel
theorem dX2_part_94 : decode cX2_part 94 = .ok (.isub, 1) := by decide +kernel
theorem dX2_part_95 : decode cX2_part 95 = .ok (.istore_n 3, 1) := by decide +kernel
theorem dX2_part_96 : decode cX2_part 96 = .ok (.iinc 4 1, 3) := by decide +kernel
theorem dX2_part_99 : decode cX2_part 99 = .ok (.goto (-56), 3) := by decide +kernel
theorem dX2_part_102 : decode cX2_part 102 = .ok (.aload_n 0, 1) := by decide +kernel
theorem dX2_part_103 : decode cX2_part 103 = .ok (.iload_n 3, 1) := by decide +kernel
theorem dX2_part_104 : decode cX2_part 104 = .ok (.invokevirtual 27, 3) := by decide +kernel
theorem dX2_part_107 : decode cX2_part 107 = .ok (.ireturn, 1) := by decide +kernel
theorem dX2_giveCoins_0 : decode cX2_giveCoins 0 = .ok (.iload_n 1, 1) := by decide +kernel
theorem dX2_giveCoins_1 : decode cX2_giveCoins 1 = .ok (.istore_n 2, 1) := by decide +kernel
theorem dX2_giveCoins_2 : decode cX2_giveCoins 2 = .ok (.iconst 0, 1) := by decide +kernel
theorem dX2_giveCoins_3 : decode cX2_giveCoins 3 = .ok (.istore_n 3, 1) := by decide +kernel
theorem dX2_giveCoins_4 : decode cX2_giveCoins 4 = .ok (.iload_n 3, 1) := by decide +kernel
theorem dX2_giveCoins_5 : decode cX2_giveCoins 5 = .ok (.bipush 12, 2) := by decide +kernel
theorem dX2_giveCoins_7 : decode cX2_giveCoins 7 = .ok (.if_icmp .ge 68, 3) := by decide +kernel
theorem dX2_giveCoins_10 : decode cX2_giveCoins 10 = .ok (.iload_n 2, 1) := by decide +kernel
theorem dX2_giveCoins_11 : decode cX2_giveCoins 11 = .ok (.ifCond .le 64, 3) := by decide +kernel
theorem dX2_giveCoins_14 : decode cX2_giveCoins 14 = .ok (.aload_n 0, 1) := by decide +kernel
theorem dX2_giveCoins_15 : decode cX2_giveCoins 15 = .ok (.iload_n 2, 1) := by decide +kernel
theorem dX2_giveCoins_16 : decode cX2_giveCoins 16 = .ok (.invokevirtual 31, 3) := by decide +kernel
theorem dX2_giveCoins_19 : decode cX2_giveCoins 19 = .ok (.istore 4, 2) := by decide +kernel
theorem dX2_giveCoins_21 : decode cX2_giveCoins 21 = .ok (.iconst 0, 1) := by decide +kernel
theorem dX2_giveCoins_22 : decode cX2_giveCoins 22 = .ok (.istore 5, 2) := by decide +kernel
theorem dX2_giveCoins_24 : decode cX2_giveCoins 24 = .ok (.iload 5, 2) := by decide +kernel
theorem dX2_giveCoins_26 : decode cX2_giveCoins 26 = .ok (.bipush 10, 2) := by decide +kernel
theorem dX2_giveCoins_28 : decode cX2_giveCoins 28 = .ok (.if_icmp .ge 41, 3) := by decide +kernel
theorem dX2_giveCoins_31 : decode cX2_giveCoins 31 = .ok (.aload_n 0, 1) := by decide +kernel
theorem dX2_giveCoins_32 : decode cX2_giveCoins 32 = .ok (.iload 5, 2) := by decide +kernel
theorem dX2_giveCoins_34 : decode cX2_giveCoins 34 = .ok (.invokevirtual 34, 3) := by decide +kernel
theorem dX2_giveCoins_37 : decode cX2_giveCoins 37 = .ok (.ifCond .eq 26, 3) := by decide +kernel
theorem dX2_giveCoins_40 : decode cX2_giveCoins 40 = .ok (.iload 4, 2) := by decide +kernel
theorem dX2_giveCoins_42 : decode cX2_giveCoins 42 = .ok (.iload_n 2, 1) := by decide +kernel
theorem dX2_giveCoins_43 : decode cX2_giveCoins 43 = .ok (.if_icmp .gt 20, 3) := by decide +kernel
theorem dX2_giveCoins_46 : decode cX2_giveCoins 46 = .ok (.aload_n 0, 1) := by decide +kernel
theorem dX2_giveCoins_47 : decode cX2_giveCoins 47 = .ok (.getfield 18, 3) := by decide +kernel
theorem dX2_giveCoins_50 : decode cX2_giveCoins 50 = .ok (.iload 5, 2) := by decide +kernel
theorem dX2_giveCoins_52 : decode cX2_giveCoins 52 = .ok (.dup2, 1) := by decide +kernel
theorem dX2_giveCoins_53 : decode cX2_giveCoins 53 = .ok (.iaload, 1) := by decide +kernel
theorem dX2_giveCoins_54 : decode cX2_giveCoins 54 = .ok (.iload 4, 2) := by decide +kernel
theorem dX2_giveCoins_56 : decode cX2_giveCoins 56 = .ok (.iadd, 1) := by decide +kernel
theorem dX2_giveCoins_57 : decode cX2_giveCoins 57 = .ok (.iastore, 1) := by decide +kernel
theorem dX2_giveCoins_58 : decode cX2_giveCoins 58 = .ok (.iload_n 2, 1) := by decide +kernel
theorem dX2_giveCoins_59 : decode cX2_giveCoins 59 = .ok (.iload 4, 2) := by decide +kernel
theorem dX2_giveCoins_61 : decode cX2_giveCoins 61 = .ok (.isub, 1) := by decide +kernel
theorem dX2_giveCoins_62 : decode cX2_giveCoins 62 = .ok (.istore_n 2, 1) := by decide +kernel
theorem dX2_giveCoins_63 : decode cX2_giveCoins 63 = .ok (.iinc 5 1, 3) := by decide +kernel
theorem dX2_giveCoins_66 : decode cX2_giveCoins 66 = .ok (.goto (-42), 3) := by decide +kernel
theorem dX2_giveCoins_69 : decode cX2_giveCoins 69 = .ok (.iinc 3 1, 3) := by decide +kernel
theorem dX2_giveCoins_72 : decode cX2_giveCoins 72 = .ok (.goto (-68), 3) := by decide +kernel
theorem dX2_giveCoins_75 : decode cX2_giveCoins 75 = .ok (.iload_n 2, 1) := by decide +kernel
theorem dX2_giveCoins_76 : decode cX2_giveCoins 76 = .ok (.ireturn, 1) := by decide +kernel
theorem dX2_roundsAtAStroke_0 : decode cX2_roundsAtAStroke 0 = .ok (.iconst 0, 1) := by decide +kernel
theorem dX2_roundsAtAStroke_1 : decode cX2_roundsAtAStroke 1 = .ok (.istore_n 2, 1) := by decide +kernel
theorem dX2_roundsAtAStroke_2 : decode cX2_roundsAtAStroke 2 = .ok (.iload_n 1, 1) := by decide +kernel
theorem dX2_roundsAtAStroke_3 : decode cX2_roundsAtAStroke 3 = .ok (.istore_n 3, 1) := by decide +kernel
theorem dX2_roundsAtAStroke_4 : decode cX2_roundsAtAStroke 4 = .ok (.iconst 0, 1) := by decide +kernel
theorem dX2_roundsAtAStroke_5 : decode cX2_roundsAtAStroke 5 = .ok (.istore 4, 2) := by decide +kernel
theorem dX2_roundsAtAStroke_7 : decode cX2_roundsAtAStroke 7 = .ok (.iload 4, 2) := by decide +kernel
theorem dX2_roundsAtAStroke_9 : decode cX2_roundsAtAStroke 9 = .ok (.bipush 10, 2) := by decide +kernel
theorem dX2_roundsAtAStroke_11 : decode cX2_roundsAtAStroke 11 = .ok (.if_icmp .ge 41, 3) := by decide +kernel
theorem dX2_roundsAtAStroke_14 : decode cX2_roundsAtAStroke 14 = .ok (.aload_n 0, 1) := by decide +kernel
theorem dX2_roundsAtAStroke_15 : decode cX2_roundsAtAStroke 15 = .ok (.iload 4, 2) := by decide +kernel
theorem dX2_roundsAtAStroke_17 : decode cX2_roundsAtAStroke 17 = .ok (.invokevirtual 34, 3) := by decide +kernel
theorem dX2_roundsAtAStroke_20 : decode cX2_roundsAtAStroke 20 = .ok (.ifCond .eq 26, 3) := by decide +kernel
theorem dX2_roundsAtAStroke_23 : decode cX2_roundsAtAStroke 23 = .ok (.iinc 2 1, 3) := by decide +kernel
theorem dX2_roundsAtAStroke_26 : decode cX2_roundsAtAStroke 26 = .ok (.iload_n 3, 1) := by decide +kernel
theorem dX2_roundsAtAStroke_27 : decode cX2_roundsAtAStroke 27 = .ok (.aload_n 0, 1) := by decide +kernel
theorem dX2_roundsAtAStroke_28 : decode cX2_roundsAtAStroke 28 = .ok (.getfield 15, 3) := by decide +kernel
theorem dX2_roundsAtAStroke_31 : decode cX2_roundsAtAStroke 31 = .ok (.iload 4, 2) := by decide +kernel
theorem dX2_roundsAtAStroke_33 : decode cX2_roundsAtAStroke 33 = .ok (.iaload, 1) := by decide +kernel
theorem dX2_roundsAtAStroke_34 : decode cX2_roundsAtAStroke 34 = .ok (.aload_n 0, 1) := by decide +kernel
theorem dX2_roundsAtAStroke_35 : decode cX2_roundsAtAStroke 35 = .ok (.getfield 18, 3) := by decide +kernel
theorem dX2_roundsAtAStroke_38 : decode cX2_roundsAtAStroke 38 = .ok (.iload 4, 2) := by decide +kernel
theorem dX2_roundsAtAStroke_40 : decode cX2_roundsAtAStroke 40 = .ok (.iaload, 1) := by decide +kernel
theorem dX2_roundsAtAStroke_41 : decode cX2_roundsAtAStroke 41 = .ok (.isub, 1) := by decide +kernel
theorem dX2_roundsAtAStroke_42 : decode cX2_roundsAtAStroke 42 = .ok (.invokestatic 21, 3) := by decide +kernel
theorem dX2_roundsAtAStroke_45 : decode cX2_roundsAtAStroke 45 = .ok (.istore_n 3, 1) := by decide +kernel
theorem dX2_roundsAtAStroke_46 : decode cX2_roundsAtAStroke 46 = .ok (.iinc 4 1, 3) := by decide +kernel
theorem dX2_roundsAtAStroke_49 : decode cX2_roundsAtAStroke 49 = .ok (.goto (-42), 3) := by decide +kernel
theorem dX2_roundsAtAStroke_52 : decode cX2_roundsAtAStroke 52 = .ok (.iload_n 2, 1) := by decide +kernel
theorem dX2_roundsAtAStroke_53 : decode cX2_roundsAtAStroke 53 = .ok (.ifCond .ne 5, 3) := by decide +kernel
theorem dX2_roundsAtAStroke_56 : decode cX2_roundsAtAStroke 56 = .ok (.iconst 0, 1) := by decide +kernel
theorem dX2_roundsAtAStroke_57 : decode cX2_roundsAtAStroke 57 = .ok (.ireturn, 1) := by decide +kernel
theorem dX2_roundsAtAStroke_58 : decode cX2_roundsAtAStroke 58 = .ok (.iconst 1, 1) := by decide +kernel
theorem dX2_roundsAtAStroke_59 : decode cX2_roundsAtAStroke 59 = .ok (.iload_n 3, 1) := by decide +kernel
theorem dX2_roundsAtAStroke_60 : decode cX2_roundsAtAStroke 60 = .ok (.iload_n 1, 1) := by decide +kernel
theorem dX2_roundsAtAStroke_61 : decode cX2_roundsAtAStroke 61 = .ok (.iload_n 2, 1) := by decide +kernel
theorem dX2_roundsAtAStroke_62 : decode cX2_roundsAtAStroke 62 = .ok (.idiv, 1) := by decide +kernel
theorem dX2_roundsAtAStroke_63 : decode cX2_roundsAtAStroke 63 = .ok (.invokestatic 21, 3) := by decide +kernel
theorem dX2_roundsAtAStroke_66 : decode cX2_roundsAtAStroke 66 = .ok (.invokestatic 38, 3) := by decide +kernel
theorem dX2_roundsAtAStroke_69 : decode cX2_roundsAtAStroke 69 = .ok (.ireturn, 1) := by decide +kernel
theorem dX2_canTake_0 : decode cX2_canTake 0 = .ok (.aload_n 0, 1) := by decide +kernel
theorem dX2_canTake_1 : decode cX2_canTake 1 = .ok (.getfield 9, 3) := by decide +kernel
theorem dX2_canTake_4 : decode cX2_canTake 4 = .ok (.iload_n 1, 1) := by decide +kernel
theorem dX2_canTake_5 : decode cX2_canTake 5 = .ok (.iaload, 1) := by decide +kernel
theorem dX2_canTake_6 : decode cX2_canTake 6 = .ok (.ifCond .le 22, 3) := by decide +kernel
theorem dX2_canTake_9 : decode cX2_canTake 9 = .ok (.aload_n 0, 1) := by decide +kernel
theorem dX2_canTake_10 : decode cX2_canTake 10 = .ok (.getfield 18, 3) := by decide +kernel
theorem dX2_canTake_13 : decode cX2_canTake 13 = .ok (.iload_n 1, 1) := by decide +kernel
theorem dX2_canTake_14 : decode cX2_canTake 14 = .ok (.iaload, 1) := by decide +kernel
theorem dX2_canTake_15 : decode cX2_canTake 15 = .ok (.aload_n 0, 1) := by decide +kernel
theorem dX2_canTake_16 : decode cX2_canTake 16 = .ok (.getfield 15, 3) := by decide +kernel
theorem dX2_canTake_19 : decode cX2_canTake 19 = .ok (.iload_n 1, 1) := by decide +kernel
theorem dX2_canTake_20 : decode cX2_canTake 20 = .ok (.iaload, 1) := by decide +kernel
theorem dX2_canTake_21 : decode cX2_canTake 21 = .ok (.if_icmp .ge 7, 3) := by decide +kernel
theorem dX2_canTake_24 : decode cX2_canTake 24 = .ok (.iconst 1, 1) := by decide +kernel
theorem dX2_canTake_25 : decode cX2_canTake 25 = .ok (.goto 4, 3) := by decide +kernel
theorem dX2_canTake_28 : decode cX2_canTake 28 = .ok (.iconst 0, 1) := by decide +kernel
theorem dX2_canTake_29 : decode cX2_canTake 29 = .ok (.ireturn, 1) := by decide +kernel
