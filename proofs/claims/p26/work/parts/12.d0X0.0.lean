theorem dX0_init_0 : decode cX0_init 0 = .ok (.aload_n 0, 1) := by decide +kernel
theorem dX0_init_1 : decode cX0_init 1 = .ok (.invokespecial 3, 3) := by decide +kernel
theorem dX0_init_4 : decode cX0_init 4 = .ok (.aload_n 0, 1) := by decide +kernel
theorem dX0_init_5 : decode cX0_init 5 = .ok (.bipush 10, 2) := by decide +kernel
theorem dX0_init_7 : decode cX0_init 7 = .ok (.bipush 120, 2) := by decide +kernel
theorem dX0_init_9 : decode cX0_init 9 = .ok (.multianewarray 9 2, 4) := by decide +kernel
theorem dX0_init_13 : decode cX0_init 13 = .ok (.putfield 11, 3) := by decide +kernel
theorem dX0_init_16 : decode cX0_init 16 = .ok (.aload_n 0, 1) := by decide +kernel
theorem dX0_init_17 : decode cX0_init 17 = .ok (.iconst 0, 1) := by decide +kernel
theorem dX0_init_18 : decode cX0_init 18 = .ok (.putfield 16, 3) := by decide +kernel
theorem dX0_init_21 : decode cX0_init 21 = .ok (.return_, 1) := by decide +kernel
theorem dX0_open_0 : decode cX0_open 0 = .ok (.aload_n 0, 1) := by decide +kernel
theorem dX0_open_1 : decode cX0_open 1 = .ok (.iload_n 1, 1) := by decide +kernel
theorem dX0_open_2 : decode cX0_open 2 = .ok (.bipush 120, 2) := by decide +kernel
theorem dX0_open_4 : decode cX0_open 4 = .ok (.invokestatic 20, 3) := by decide +kernel
theorem dX0_open_7 : decode cX0_open 7 = .ok (.putfield 16, 3) := by decide +kernel
theorem dX0_open_10 : decode cX0_open 10 = .ok (.iconst 0, 1) := by decide +kernel
theorem dX0_open_11 : decode cX0_open 11 = .ok (.istore_n 2, 1) := by decide +kernel
theorem dX0_open_12 : decode cX0_open 12 = .ok (.iload_n 2, 1) := by decide +kernel
theorem dX0_open_13 : decode cX0_open 13 = .ok (.bipush 10, 2) := by decide +kernel
theorem dX0_open_15 : decode cX0_open 15 = .ok (.if_icmp .ge 36, 3) := by decide +kernel
theorem dX0_open_18 : decode cX0_open 18 = .ok (.iconst 0, 1) := by decide +kernel
theorem dX0_open_19 : decode cX0_open 19 = .ok (.istore_n 3, 1) := by decide +kernel
theorem dX0_open_20 : decode cX0_open 20 = .ok (.iload_n 3, 1) := by decide +kernel
theorem dX0_open_21 : decode cX0_open 21 = .ok (.aload_n 0, 1) := by decide +kernel
theorem dX0_open_22 : decode cX0_open 22 = .ok (.getfield 16, 3) := by decide +kernel
theorem dX0_open_25 : decode cX0_open 25 = .ok (.if_icmp .ge 20, 3) := by decide +kernel
theorem dX0_open_28 : decode cX0_open 28 = .ok (.aload_n 0, 1) := by decide +kernel
theorem dX0_open_29 : decode cX0_open 29 = .ok (.getfield 11, 3) := by decide +kernel
theorem dX0_open_32 : decode cX0_open 32 = .ok (.iload_n 2, 1) := by decide +kernel
theorem dX0_open_33 : decode cX0_open 33 = .ok (.aaload, 1) := by decide +kernel
theorem dX0_open_34 : decode cX0_open 34 = .ok (.iload_n 3, 1) := by decide +kernel
theorem dX0_open_35 : decode cX0_open 35 = .ok (.sipush (-1001), 3) := by decide +kernel
theorem dX0_open_38 : decode cX0_open 38 = .ok (.iastore, 1) := by decide +kernel
theorem dX0_open_39 : decode cX0_open 39 = .ok (.iinc 3 1, 3) := by decide +kernel
theorem dX0_open_42 : decode cX0_open 42 = .ok (.goto (-22), 3) := by decide +kernel
theorem dX0_open_45 : decode cX0_open 45 = .ok (.iinc 2 1, 3) := by decide +kernel
theorem dX0_open_48 : decode cX0_open 48 = .ok (.goto (-36), 3) := by decide +kernel
theorem dX0_open_51 : decode cX0_open 51 = .ok (.return_, 1) := by decide +kernel
theorem dX0_hasLot_0 : decode cX0_hasLot 0 = .ok (.iload_n 1, 1) := by decide +kernel
theorem dX0_hasLot_1 : decode cX0_hasLot 1 = .ok (.ifCond .lt 15, 3) := by decide +kernel
theorem dX0_hasLot_4 : decode cX0_hasLot 4 = .ok (.iload_n 1, 1) := by decide +kernel
theorem dX0_hasLot_5 : decode cX0_hasLot 5 = .ok (.aload_n 0, 1) := by decide +kernel
theorem dX0_hasLot_6 : decode cX0_hasLot 6 = .ok (.getfield 16, 3) := by decide +kernel
theorem dX0_hasLot_9 : decode cX0_hasLot 9 = .ok (.if_icmp .ge 7, 3) := by decide +kernel
theorem dX0_hasLot_12 : decode cX0_hasLot 12 = .ok (.iconst 1, 1) := by decide +kernel
theorem dX0_hasLot_13 : decode cX0_hasLot 13 = .ok (.goto 4, 3) := by decide +kernel
theorem dX0_hasLot_16 : decode cX0_hasLot 16 = .ok (.iconst 0, 1) := by decide +kernel
theorem dX0_hasLot_17 : decode cX0_hasLot 17 = .ok (.ireturn, 1) := by decide +kernel
theorem dX0_bidOf_0 : decode cX0_bidOf 0 = .ok (.aload_n 0, 1) := by decide +kernel
theorem dX0_bidOf_1 : decode cX0_bidOf 1 = .ok (.getfield 11, 3) := by decide +kernel
theorem dX0_bidOf_4 : decode cX0_bidOf 4 = .ok (.iload_n 1, 1) := by decide +kernel
theorem dX0_bidOf_5 : decode cX0_bidOf 5 = .ok (.aaload, 1) := by decide +kernel
theorem dX0_bidOf_6 : decode cX0_bidOf 6 = .ok (.iload_n 2, 1) := by decide +kernel
theorem dX0_bidOf_7 : decode cX0_bidOf 7 = .ok (.iaload, 1) := by decide +kernel
theorem dX0_bidOf_8 : decode cX0_bidOf 8 = .ok (.ireturn, 1) := by decide +kernel
theorem dX0_enter_0 : decode cX0_enter 0 = .ok (.aload_n 0, 1) := by decide +kernel
theorem dX0_enter_1 : decode cX0_enter 1 = .ok (.getfield 11, 3) := by decide +kernel
theorem dX0_enter_4 : decode cX0_enter 4 = .ok (.iload_n 1, 1) := by decide +kernel
theorem dX0_enter_5 : decode cX0_enter 5 = .ok (.aaload, 1) := by decide +kernel
theorem dX0_enter_6 : decode cX0_enter 6 = .ok (.iload_n 2, 1) := by decide +kernel
theorem dX0_enter_7 : decode cX0_enter 7 = .ok (.iload_n 3, 1) := by decide +kernel
theorem dX0_enter_8 : decode cX0_enter 8 = .ok (.iastore, 1) := by decide +kernel
theorem dX0_enter_9 : decode cX0_enter 9 = .ok (.return_, 1) := by decide +kernel
theorem dX0_winnerOf_0 : decode cX0_winnerOf 0 = .ok (.iconst (-1), 1) := by decide +kernel
theorem dX0_winnerOf_1 : decode cX0_winnerOf 1 = .ok (.istore_n 2, 1) := by decide +kernel
theorem dX0_winnerOf_2 : decode cX0_winnerOf 2 = .ok (.sipush (-1001), 3) := by decide +kernel
theorem dX0_winnerOf_5 : decode cX0_winnerOf 5 = .ok (.istore_n 3, 1) := by decide +kernel
theorem dX0_winnerOf_6 : decode cX0_winnerOf 6 = .ok (.iconst 0, 1) := by decide +kernel
theorem dX0_winnerOf_7 : decode cX0_winnerOf 7 = .ok (.istore 4, 2) := by decide +kernel
theorem dX0_winnerOf_9 : decode cX0_winnerOf 9 = .ok (.iload 4, 2) := by decide +kernel
theorem dX0_winnerOf_11 : decode cX0_winnerOf 11 = .ok (.bipush 10, 2) := by decide +kernel
theorem dX0_winnerOf_13 : decode cX0_winnerOf 13 = .ok (.if_icmp .ge 35, 3) := by decide +kernel
theorem dX0_winnerOf_16 : decode cX0_winnerOf 16 = .ok (.aload_n 0, 1) := by decide +kernel
theorem dX0_winnerOf_17 : decode cX0_winnerOf 17 = .ok (.getfield 11, 3) := by decide +kernel
theorem dX0_winnerOf_20 : decode cX0_winnerOf 20 = .ok (.iload 4, 2) := by decide +kernel
theorem dX0_winnerOf_22 : decode cX0_winnerOf 22 = .ok (.aaload, 1) := by decide +kernel
theorem dX0_winnerOf_23 : decode cX0_winnerOf 23 = .ok (.iload_n 1, 1) := by decide +kernel
theorem dX0_winnerOf_24 : decode cX0_winnerOf 24 = .ok (.iaload, 1) := by decide +kernel
theorem dX0_winnerOf_25 : decode cX0_winnerOf 25 = .ok (.iload_n 3, 1) := by decide +kernel
theorem dX0_winnerOf_26 : decode cX0_winnerOf 26 = .ok (.if_icmp .le 16, 3) := by decide +kernel
theorem dX0_winnerOf_29 : decode cX0_winnerOf 29 = .ok (.aload_n 0, 1) := by decide +kernel
theorem dX0_winnerOf_30 : decode cX0_winnerOf 30 = .ok (.getfield 11, 3) := by decide +kernel
theorem dX0_winnerOf_33 : decode cX0_winnerOf 33 = .ok (.iload 4, 2) := by decide +kernel
theorem dX0_winnerOf_35 : decode cX0_winnerOf 35 = .ok (.aaload, 1) := by decide +kernel
theorem dX0_winnerOf_36 : decode cX0_winnerOf 36 = .ok (.iload_n 1, 1) := by decide +kernel
theorem dX0_winnerOf_37 : decode cX0_winnerOf 37 = .ok (.iaload, 1) := by decide +kernel
theorem dX0_winnerOf_38 : decode cX0_winnerOf 38 = .ok (.istore_n 3, 1) := by decide +kernel
theorem dX0_winnerOf_39 : decode cX0_winnerOf 39 = .ok (.iload 4, 2) := by decide +kernel
theorem dX0_winnerOf_41 : decode cX0_winnerOf 41 = .ok (.istore_n 2, 1) := by decide +kernel
theorem dX0_winnerOf_42 : decode cX0_winnerOf 42 = .ok (.iinc 4 1, 3) := by decide +kernel
theorem dX0_winnerOf_45 : decode cX0_winnerOf 45 = .ok (.goto (-36), 3) := by decide +kernel
theorem dX0_winnerOf_48 : decode cX0_winnerOf 48 = .ok (.iload_n 2, 1) := by decide +kernel
theorem dX0_winnerOf_49 : decode cX0_winnerOf 49 = .ok (.ireturn, 1) := by decide +kernel
theorem dX0_bidPoorly_0 : decode cX0_bidPoorly 0 = .ok (.iconst 0, 1) := by decide +kernel
theorem dX0_bidPoorly_1 : decode cX0_bidPoorly 1 = .ok (.istore_n 2, 1) := by decide +kernel
theorem dX0_bidPoorly_2 : decode cX0_bidPoorly 2 = .ok (.iconst 0, 1) := by decide +kernel
theorem dX0_bidPoorly_3 : decode cX0_bidPoorly 3 = .ok (.istore_n 3, 1) := by decide +kernel
theorem dX0_bidPoorly_4 : decode cX0_bidPoorly 4 = .ok (.iconst 0, 1) := by decide +kernel
theorem dX0_bidPoorly_5 : decode cX0_bidPoorly 5 = .ok (.istore 4, 2) := by decide +kernel
theorem dX0_bidPoorly_7 : decode cX0_bidPoorly 7 = .ok (.iload 4, 2) := by decide +kernel
theorem dX0_bidPoorly_9 : decode cX0_bidPoorly 9 = .ok (.aload_n 0, 1) := by decide +kernel
theorem dX0_bidPoorly_10 : decode cX0_bidPoorly 10 = .ok (.getfield 16, 3) := by decide +kernel
theorem dX0_bidPoorly_13 : decode cX0_bidPoorly 13 = .ok (.if_icmp .ge 45, 3) := by decide +kernel
theorem dX0_bidPoorly_16 : decode cX0_bidPoorly 16 = .ok (.aload_n 0, 1) := by decide +kernel
theorem dX0_bidPoorly_17 : decode cX0_bidPoorly 17 = .ok (.getfield 11, 3) := by decide +kernel
theorem dX0_bidPoorly_20 : decode cX0_bidPoorly 20 = .ok (.iload_n 1, 1) := by decide +kernel
theorem dX0_bidPoorly_21 : decode cX0_bidPoorly 21 = .ok (.aaload, 1) := by decide +kernel
theorem dX0_bidPoorly_22 : decode cX0_bidPoorly 22 = .ok (.iload 4, 2) := by decide +kernel
theorem dX0_bidPoorly_24 : decode cX0_bidPoorly 24 = .ok (.iaload, 1) := by decide +kernel
theorem dX0_bidPoorly_25 : decode cX0_bidPoorly 25 = .ok (.sipush (-1001), 3) := by decide +kernel
theorem dX0_bidPoorly_28 : decode cX0_bidPoorly 28 = .ok (.if_icmp .eq 24, 3) := by decide +kernel
theorem dX0_bidPoorly_31 : decode cX0_bidPoorly 31 = .ok (.iinc 2 1, 3) := by decide +kernel
theorem dX0_bidPoorly_34 : decode cX0_bidPoorly 34 = .ok (.iload_n 3, 1) := by decide +kernel
theorem dX0_bidPoorly_35 : decode cX0_bidPoorly 35 = .ok (.aload_n 0, 1) := by decide +kernel
theorem dX0_bidPoorly_36 : decode cX0_bidPoorly 36 = .ok (.iload_n 1, 1) := by decide +kernel
theorem dX0_bidPoorly_37 : decode cX0_bidPoorly 37 = .ok (.iload 4, 2) := by decide +kernel
theorem dX0_bidPoorly_39 : decode cX0_bidPoorly 39 = .ok (.invokevirtual 26, 3) := by decide +kernel
theorem dX0_bidPoorly_42 : decode cX0_bidPoorly 42 = .ok (.ifCond .eq 7, 3) := by decide +kernel
theorem dX0_bidPoorly_45 : decode cX0_bidPoorly 45 = .ok (.iconst 1, 1) := by decide +kernel
theorem dX0_bidPoorly_46 : decode cX0_bidPoorly 46 = .ok (.goto 4, 3) := by decide +kernel
theorem dX0_bidPoorly_49 : decode cX0_bidPoorly 49 = .ok (.iconst 0, 1) := by decide +kernel
theorem dX0_bidPoorly_50 : decode cX0_bidPoorly 50 = .ok (.iadd, 1) := by decide +kernel
theorem dX0_bidPoorly_51 : decode cX0_bidPoorly 51 = .ok (.istore_n 3, 1) := by decide +kernel
theorem dX0_bidPoorly_52 : decode cX0_bidPoorly 52 = .ok (.iinc 4 1, 3) := by decide +kernel
theorem dX0_bidPoorly_55 : decode cX0_bidPoorly 55 = .ok (.goto (-48), 3) := by decide +kernel
theorem dX0_bidPoorly_58 : decode cX0_bidPoorly 58 = .ok (.iconst 2, 1) := by decide +kernel
theorem dX0_bidPoorly_59 : decode cX0_bidPoorly 59 = .ok (.iload_n 2, 1) := by decide +kernel
theorem dX0_bidPoorly_60 : decode cX0_bidPoorly 60 = .ok (.imul, 1) := by decide +kernel
theorem dX0_bidPoorly_61 : decode cX0_bidPoorly 61 = .ok (.aload_n 0, 1) := by decide +kernel
theorem dX0_bidPoorly_62 : decode cX0_bidPoorly 62 = .ok (.getfield 16, 3) := by decide +kernel
theorem dX0_bidPoorly_65 : decode cX0_bidPoorly 65 = .ok (.if_icmp .lt 10, 3) := by decide +kernel
theorem dX0_bidPoorly_68 : decode cX0_bidPoorly 68 = .ok (.iconst 2, 1) := by decide +kernel
theorem dX0_bidPoorly_69 : decode cX0_bidPoorly 69 = .ok (.iload_n 3, 1) := by decide +kernel
theorem dX0_bidPoorly_70 : decode cX0_bidPoorly 70 = .ok (.imul, 1) := by decide +kernel
theorem dX0_bidPoorly_71 : decode cX0_bidPoorly 71 = .ok (.iload_n 2, 1) := by decide +kernel
theorem dX0_bidPoorly_72 : decode cX0_bidPoorly 72 = .ok (.if_icmp .le 7, 3) := by decide +kernel
theorem dX0_bidPoorly_75 : decode cX0_bidPoorly 75 = .ok (.iconst 1, 1) := by decide +kernel
theorem dX0_bidPoorly_76 : decode cX0_bidPoorly 76 = .ok (.goto 4, 3) := by decide +kernel
theorem dX0_bidPoorly_79 : decode cX0_bidPoorly 79 = .ok (.iconst 0, 1) := by decide +kernel
theorem dX0_bidPoorly_80 : decode cX0_bidPoorly 80 = .ok (.ireturn, 1) := by decide +kernel
theorem dX0_isLow_0 : decode cX0_isLow 0 = .ok (.aload_n 0, 1) := by decide +kernel
theorem dX0_isLow_1 : decode cX0_isLow 1 = .ok (.iload_n 2, 1) := by decide +kernel
theorem dX0_isLow_2 : decode cX0_isLow 2 = .ok (.invokevirtual 30, 3) := by decide +kernel
theorem dX0_isLow_5 : decode cX0_isLow 5 = .ok (.istore_n 3, 1) := by decide +kernel
theorem dX0_isLow_6 : decode cX0_isLow 6 = .ok (.iload_n 3, 1) := by decide +kernel
theorem dX0_isLow_7 : decode cX0_isLow 7 = .ok (.iconst (-1), 1) := by decide +kernel
theorem dX0_isLow_8 : decode cX0_isLow 8 = .ok (.if_icmp .eq 29, 3) := by decide +kernel
theorem dX0_isLow_11 : decode cX0_isLow 11 = .ok (.aload_n 0, 1) := by decide +kernel
theorem dX0_isLow_12 : decode cX0_isLow 12 = .ok (.getfield 11, 3) := by decide +kernel
theorem dX0_isLow_15 : decode cX0_isLow 15 = .ok (.iload_n 3, 1) := by decide +kernel
theorem dX0_isLow_16 : decode cX0_isLow 16 = .ok (.aaload, 1) := by decide +kernel
theorem dX0_isLow_17 : decode cX0_isLow 17 = .ok (.iload_n 2, 1) := by decide +kernel
theorem dX0_isLow_18 : decode cX0_isLow 18 = .ok (.iaload, 1) := by decide +kernel
theorem dX0_isLow_19 : decode cX0_isLow 19 = .ok (.aload_n 0, 1) := by decide +kernel
theorem dX0_isLow_20 : decode cX0_isLow 20 = .ok (.getfield 11, 3) := by decide +kernel
theorem dX0_isLow_23 : decode cX0_isLow 23 = .ok (.iload_n 1, 1) := by decide +kernel
theorem dX0_isLow_24 : decode cX0_isLow 24 = .ok (.aaload, 1) := by decide +kernel
theorem dX0_isLow_25 : decode cX0_isLow 25 = .ok (.iload_n 2, 1) := by decide +kernel
theorem dX0_isLow_26 : decode cX0_isLow 26 = .ok (.iaload, 1) := by decide +kernel
theorem dX0_isLow_27 : decode cX0_isLow 27 = .ok (.isub, 1) := by decide +kernel
theorem dX0_isLow_28 : decode cX0_isLow 28 = .ok (.bipush 100, 2) := by decide +kernel
theorem dX0_isLow_30 : decode cX0_isLow 30 = .ok (.if_icmp .le 7, 3) := by decide +kernel
theorem dX0_isLow_33 : decode cX0_isLow 33 = .ok (.iconst 1, 1) := by decide +kernel
theorem dX0_isLow_34 : decode cX0_isLow 34 = .ok (.goto 4, 3) := by decide +kernel
theorem dX0_isLow_37 : decode cX0_isLow 37 = .ok (.iconst 0, 1) := by decide +kernel
theorem dX0_isLow_38 : decode cX0_isLow 38 = .ok (.ireturn, 1) := by decide +kernel
