theorem dX1_init_0 : decode cX1_init 0 = .ok (.aload_n 0, 1) := by decide +kernel
theorem dX1_init_1 : decode cX1_init 1 = .ok (.invokespecial 3, 3) := by decide +kernel
theorem dX1_init_4 : decode cX1_init 4 = .ok (.aload_n 0, 1) := by decide +kernel
theorem dX1_init_5 : decode cX1_init 5 = .ok (.bipush 100, 2) := by decide +kernel
theorem dX1_init_7 : decode cX1_init 7 = .ok (.newarray .int, 2) := by decide +kernel
theorem dX1_init_9 : decode cX1_init 9 = .ok (.putfield 9, 3) := by decide +kernel
theorem dX1_init_12 : decode cX1_init 12 = .ok (.aload_n 0, 1) := by decide +kernel
theorem dX1_init_13 : decode cX1_init 13 = .ok (.iconst 0, 1) := by decide +kernel
theorem dX1_init_14 : decode cX1_init 14 = .ok (.putfield 15, 3) := by decide +kernel
theorem dX1_init_17 : decode cX1_init 17 = .ok (.aload_n 0, 1) := by decide +kernel
theorem dX1_init_18 : decode cX1_init 18 = .ok (.iconst 0, 1) := by decide +kernel
theorem dX1_init_19 : decode cX1_init 19 = .ok (.putfield 19, 3) := by decide +kernel
theorem dX1_init_22 : decode cX1_init 22 = .ok (.aload_n 0, 1) := by decide +kernel
theorem dX1_init_23 : decode cX1_init 23 = .ok (.iconst 0, 1) := by decide +kernel
theorem dX1_init_24 : decode cX1_init 24 = .ok (.putfield 22, 3) := by decide +kernel
theorem dX1_init_27 : decode cX1_init 27 = .ok (.aload_n 0, 1) := by decide +kernel
theorem dX1_init_28 : decode cX1_init 28 = .ok (.iconst 0, 1) := by decide +kernel
theorem dX1_init_29 : decode cX1_init 29 = .ok (.putfield 25, 3) := by decide +kernel
theorem dX1_init_32 : decode cX1_init 32 = .ok (.aload_n 0, 1) := by decide +kernel
theorem dX1_init_33 : decode cX1_init 33 = .ok (.iconst 0, 1) := by decide +kernel
theorem dX1_init_34 : decode cX1_init 34 = .ok (.putfield 28, 3) := by decide +kernel
theorem dX1_init_37 : decode cX1_init 37 = .ok (.aload_n 0, 1) := by decide +kernel
theorem dX1_init_38 : decode cX1_init 38 = .ok (.iconst 0, 1) := by decide +kernel
theorem dX1_init_39 : decode cX1_init 39 = .ok (.putfield 31, 3) := by decide +kernel
theorem dX1_init_42 : decode cX1_init 42 = .ok (.aload_n 0, 1) := by decide +kernel
theorem dX1_init_43 : decode cX1_init 43 = .ok (.iconst 0, 1) := by decide +kernel
theorem dX1_init_44 : decode cX1_init 44 = .ok (.putfield 34, 3) := by decide +kernel
theorem dX1_init_47 : decode cX1_init 47 = .ok (.aload_n 0, 1) := by decide +kernel
theorem dX1_init_48 : decode cX1_init 48 = .ok (.iconst 0, 1) := by decide +kernel
theorem dX1_init_49 : decode cX1_init 49 = .ok (.putfield 37, 3) := by decide +kernel
theorem dX1_init_52 : decode cX1_init 52 = .ok (.aload_n 0, 1) := by decide +kernel
theorem dX1_init_53 : decode cX1_init 53 = .ok (.iconst 0, 1) := by decide +kernel
theorem dX1_init_54 : decode cX1_init 54 = .ok (.putfield 40, 3) := by decide +kernel
theorem dX1_init_57 : decode cX1_init 57 = .ok (.aload_n 0, 1) := by decide +kernel
theorem dX1_init_58 : decode cX1_init 58 = .ok (.iconst 0, 1) := by decide +kernel
theorem dX1_init_59 : decode cX1_init 59 = .ok (.putfield 44, 3) := by decide +kernel
theorem dX1_init_62 : decode cX1_init 62 = .ok (.aload_n 0, 1) := by decide +kernel
theorem dX1_init_63 : decode cX1_init 63 = .ok (.iconst 0, 1) := by decide +kernel
theorem dX1_init_64 : decode cX1_init 64 = .ok (.putfield 47, 3) := by decide +kernel
theorem dX1_init_67 : decode cX1_init 67 = .ok (.aload_n 0, 1) := by decide +kernel
theorem dX1_init_68 : decode cX1_init 68 = .ok (.iconst 0, 1) := by decide +kernel
theorem dX1_init_69 : decode cX1_init 69 = .ok (.putfield 50, 3) := by decide +kernel
theorem dX1_init_72 : decode cX1_init 72 = .ok (.return_, 1) := by decide +kernel
theorem dX1_join_0 : decode cX1_join 0 = .ok (.aload_n 0, 1) := by decide +kernel
theorem dX1_join_1 : decode cX1_join 1 = .ok (.iload_n 1, 1) := by decide +kernel
theorem dX1_join_2 : decode cX1_join 2 = .ok (.putfield 25, 3) := by decide +kernel
theorem dX1_join_5 : decode cX1_join 5 = .ok (.aload_n 0, 1) := by decide +kernel
theorem dX1_join_6 : decode cX1_join 6 = .ok (.iload_n 2, 1) := by decide +kernel
theorem dX1_join_7 : decode cX1_join 7 = .ok (.putfield 28, 3) := by decide +kernel
theorem dX1_join_10 : decode cX1_join 10 = .ok (.aload_n 0, 1) := by decide +kernel
theorem dX1_join_11 : decode cX1_join 11 = .ok (.iload_n 3, 1) := by decide +kernel
theorem dX1_join_12 : decode cX1_join 12 = .ok (.putfield 31, 3) := by decide +kernel
theorem dX1_join_15 : decode cX1_join 15 = .ok (.return_, 1) := by decide +kernel
theorem dX1_isActive_0 : decode cX1_isActive 0 = .ok (.aload_n 0, 1) := by decide +kernel
theorem dX1_isActive_1 : decode cX1_isActive 1 = .ok (.getfield 22, 3) := by decide +kernel
theorem dX1_isActive_4 : decode cX1_isActive 4 = .ok (.ifCond .eq 11, 3) := by decide +kernel
theorem dX1_isActive_7 : decode cX1_isActive 7 = .ok (.aload_n 0, 1) := by decide +kernel
theorem dX1_isActive_8 : decode cX1_isActive 8 = .ok (.getfield 22, 3) := by decide +kernel
theorem dX1_isActive_11 : decode cX1_isActive 11 = .ok (.iconst 1, 1) := by decide +kernel
theorem dX1_isActive_12 : decode cX1_isActive 12 = .ok (.if_icmp .ne 7, 3) := by decide +kernel
theorem dX1_isActive_15 : decode cX1_isActive 15 = .ok (.iconst 1, 1) := by decide +kernel
theorem dX1_isActive_16 : decode cX1_isActive 16 = .ok (.goto 4, 3) := by decide +kernel
theorem dX1_isActive_19 : decode cX1_isActive 19 = .ok (.iconst 0, 1) := by decide +kernel
theorem dX1_isActive_20 : decode cX1_isActive 20 = .ok (.ireturn, 1) := by decide +kernel
theorem dX1_freeRoom_0 : decode cX1_freeRoom 0 = .ok (.aload_n 0, 1) := by decide +kernel
theorem dX1_freeRoom_1 : decode cX1_freeRoom 1 = .ok (.getfield 31, 3) := by decide +kernel
theorem dX1_freeRoom_4 : decode cX1_freeRoom 4 = .ok (.aload_n 0, 1) := by decide +kernel
theorem dX1_freeRoom_5 : decode cX1_freeRoom 5 = .ok (.getfield 19, 3) := by decide +kernel
theorem dX1_freeRoom_8 : decode cX1_freeRoom 8 = .ok (.isub, 1) := by decide +kernel
theorem dX1_freeRoom_9 : decode cX1_freeRoom 9 = .ok (.ireturn, 1) := by decide +kernel
theorem dX1_takesClient_0 : decode cX1_takesClient 0 = .ok (.iload_n 1, 1) := by decide +kernel
theorem dX1_takesClient_1 : decode cX1_takesClient 1 = .ok (.aload_n 0, 1) := by decide +kernel
theorem dX1_takesClient_2 : decode cX1_takesClient 2 = .ok (.invokevirtual 53, 3) := by decide +kernel
theorem dX1_takesClient_5 : decode cX1_takesClient 5 = .ok (.if_icmp .gt 12, 3) := by decide +kernel
theorem dX1_takesClient_8 : decode cX1_takesClient 8 = .ok (.aload_n 0, 1) := by decide +kernel
theorem dX1_takesClient_9 : decode cX1_takesClient 9 = .ok (.getfield 15, 3) := by decide +kernel
theorem dX1_takesClient_12 : decode cX1_takesClient 12 = .ok (.bipush 100, 2) := by decide +kernel
theorem dX1_takesClient_14 : decode cX1_takesClient 14 = .ok (.if_icmp .lt 5, 3) := by decide +kernel
theorem dX1_takesClient_17 : decode cX1_takesClient 17 = .ok (.iconst 0, 1) := by decide +kernel
theorem dX1_takesClient_18 : decode cX1_takesClient 18 = .ok (.ireturn, 1) := by decide +kernel
theorem dX1_takesClient_19 : decode cX1_takesClient 19 = .ok (.aload_n 0, 1) := by decide +kernel
theorem dX1_takesClient_20 : decode cX1_takesClient 20 = .ok (.getfield 9, 3) := by decide +kernel
theorem dX1_takesClient_23 : decode cX1_takesClient 23 = .ok (.aload_n 0, 1) := by decide +kernel
theorem dX1_takesClient_24 : decode cX1_takesClient 24 = .ok (.getfield 15, 3) := by decide +kernel
theorem dX1_takesClient_27 : decode cX1_takesClient 27 = .ok (.iload_n 1, 1) := by decide +kernel
theorem dX1_takesClient_28 : decode cX1_takesClient 28 = .ok (.iastore, 1) := by decide +kernel
theorem dX1_takesClient_29 : decode cX1_takesClient 29 = .ok (.aload_n 0, 1) := by decide +kernel
theorem dX1_takesClient_30 : decode cX1_takesClient 30 = .ok (.dup, 1) := by decide +kernel
theorem dX1_takesClient_31 : decode cX1_takesClient 31 = .ok (.getfield 15, 3) := by decide +kernel
theorem dX1_takesClient_34 : decode cX1_takesClient 34 = .ok (.iconst 1, 1) := by decide +kernel
theorem dX1_takesClient_35 : decode cX1_takesClient 35 = .ok (.iadd, 1) := by decide +kernel
theorem dX1_takesClient_36 : decode cX1_takesClient 36 = .ok (.putfield 15, 3) := by decide +kernel
theorem dX1_takesClient_39 : decode cX1_takesClient 39 = .ok (.aload_n 0, 1) := by decide +kernel
theorem dX1_takesClient_40 : decode cX1_takesClient 40 = .ok (.dup, 1) := by decide +kernel
theorem dX1_takesClient_41 : decode cX1_takesClient 41 = .ok (.getfield 19, 3) := by decide +kernel
theorem dX1_takesClient_44 : decode cX1_takesClient 44 = .ok (.iload_n 1, 1) := by decide +kernel
theorem dX1_takesClient_45 : decode cX1_takesClient 45 = .ok (.iadd, 1) := by decide +kernel
theorem dX1_takesClient_46 : decode cX1_takesClient 46 = .ok (.putfield 19, 3) := by decide +kernel
theorem dX1_takesClient_49 : decode cX1_takesClient 49 = .ok (.iconst 1, 1) := by decide +kernel
theorem dX1_takesClient_50 : decode cX1_takesClient 50 = .ok (.ireturn, 1) := by decide +kernel
theorem dX1_dropClients_0 : decode cX1_dropClients 0 = .ok (.aload_n 0, 1) := by decide +kernel
theorem dX1_dropClients_1 : decode cX1_dropClients 1 = .ok (.iconst 0, 1) := by decide +kernel
theorem dX1_dropClients_2 : decode cX1_dropClients 2 = .ok (.putfield 15, 3) := by decide +kernel
theorem dX1_dropClients_5 : decode cX1_dropClients 5 = .ok (.aload_n 0, 1) := by decide +kernel
theorem dX1_dropClients_6 : decode cX1_dropClients 6 = .ok (.iconst 0, 1) := by decide +kernel
theorem dX1_dropClients_7 : decode cX1_dropClients 7 = .ok (.putfield 19, 3) := by decide +kernel
theorem dX1_dropClients_10 : decode cX1_dropClients 10 = .ok (.return_, 1) := by decide +kernel
theorem dX1_raiseShare_0 : decode cX1_raiseShare 0 = .ok (.iconst 0, 1) := by decide +kernel
theorem dX1_raiseShare_1 : decode cX1_raiseShare 1 = .ok (.iload_n 1, 1) := by decide +kernel
theorem dX1_raiseShare_2 : decode cX1_raiseShare 2 = .ok (.aload_n 0, 1) := by decide +kernel
theorem dX1_raiseShare_3 : decode cX1_raiseShare 3 = .ok (.getfield 28, 3) := by decide +kernel
theorem dX1_raiseShare_6 : decode cX1_raiseShare 6 = .ok (.isub, 1) := by decide +kernel
theorem dX1_raiseShare_7 : decode cX1_raiseShare 7 = .ok (.invokestatic 57, 3) := by decide +kernel
theorem dX1_raiseShare_10 : decode cX1_raiseShare 10 = .ok (.istore_n 2, 1) := by decide +kernel
theorem dX1_raiseShare_11 : decode cX1_raiseShare 11 = .ok (.aload_n 0, 1) := by decide +kernel
theorem dX1_raiseShare_12 : decode cX1_raiseShare 12 = .ok (.dup, 1) := by decide +kernel
theorem dX1_raiseShare_13 : decode cX1_raiseShare 13 = .ok (.getfield 28, 3) := by decide +kernel
theorem dX1_raiseShare_16 : decode cX1_raiseShare 16 = .ok (.iload_n 2, 1) := by decide +kernel
theorem dX1_raiseShare_17 : decode cX1_raiseShare 17 = .ok (.iadd, 1) := by decide +kernel
theorem dX1_raiseShare_18 : decode cX1_raiseShare 18 = .ok (.putfield 28, 3) := by decide +kernel
theorem dX1_raiseShare_21 : decode cX1_raiseShare 21 = .ok (.iload_n 2, 1) := by decide +kernel
theorem dX1_raiseShare_22 : decode cX1_raiseShare 22 = .ok (.ireturn, 1) := by decide +kernel
theorem dX1_loseAll_0 : decode cX1_loseAll 0 = .ok (.aload_n 0, 1) := by decide +kernel
theorem dX1_loseAll_1 : decode cX1_loseAll 1 = .ok (.iconst 0, 1) := by decide +kernel
theorem dX1_loseAll_2 : decode cX1_loseAll 2 = .ok (.putfield 25, 3) := by decide +kernel
theorem dX1_loseAll_5 : decode cX1_loseAll 5 = .ok (.aload_n 0, 1) := by decide +kernel
theorem dX1_loseAll_6 : decode cX1_loseAll 6 = .ok (.iconst 0, 1) := by decide +kernel
theorem dX1_loseAll_7 : decode cX1_loseAll 7 = .ok (.putfield 28, 3) := by decide +kernel
theorem dX1_loseAll_10 : decode cX1_loseAll 10 = .ok (.aload_n 0, 1) := by decide +kernel
theorem dX1_loseAll_11 : decode cX1_loseAll 11 = .ok (.iconst 0, 1) := by decide +kernel
theorem dX1_loseAll_12 : decode cX1_loseAll 12 = .ok (.putfield 34, 3) := by decide +kernel
theorem dX1_loseAll_15 : decode cX1_loseAll 15 = .ok (.aload_n 0, 1) := by decide +kernel
theorem dX1_loseAll_16 : decode cX1_loseAll 16 = .ok (.invokevirtual 63, 3) := by decide +kernel
theorem dX1_loseAll_19 : decode cX1_loseAll 19 = .ok (.return_, 1) := by decide +kernel
