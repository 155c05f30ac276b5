theorem dX3_init_0 : decode cX3_init 0 = .ok (.aload_n 0, 1) := by decide +kernel
theorem dX3_init_1 : decode cX3_init 1 = .ok (.invokespecial 3, 3) := by decide +kernel
theorem dX3_init_4 : decode cX3_init 4 = .ok (.aload_n 0, 1) := by decide +kernel
theorem dX3_init_5 : decode cX3_init 5 = .ok (.bipush 10, 2) := by decide +kernel
theorem dX3_init_7 : decode cX3_init 7 = .ok (.anewarray 9, 3) := by decide +kernel
theorem dX3_init_10 : decode cX3_init 10 = .ok (.putfield 11, 3) := by decide +kernel
theorem dX3_init_13 : decode cX3_init 13 = .ok (.aload_n 0, 1) := by decide +kernel
theorem dX3_init_14 : decode cX3_init 14 = .ok (.new 15, 3) := by decide +kernel
theorem dX3_init_17 : decode cX3_init 17 = .ok (.dup, 1) := by decide +kernel
theorem dX3_init_18 : decode cX3_init 18 = .ok (.invokespecial 17, 3) := by decide +kernel
theorem dX3_init_21 : decode cX3_init 21 = .ok (.putfield 18, 3) := by decide +kernel
theorem dX3_init_24 : decode cX3_init 24 = .ok (.aload_n 0, 1) := by decide +kernel
theorem dX3_init_25 : decode cX3_init 25 = .ok (.new 22, 3) := by decide +kernel
theorem dX3_init_28 : decode cX3_init 28 = .ok (.dup, 1) := by decide +kernel
theorem dX3_init_29 : decode cX3_init 29 = .ok (.invokespecial 24, 3) := by decide +kernel
theorem dX3_init_32 : decode cX3_init 32 = .ok (.putfield 25, 3) := by decide +kernel
theorem dX3_init_35 : decode cX3_init 35 = .ok (.aload_n 0, 1) := by decide +kernel
theorem dX3_init_36 : decode cX3_init 36 = .ok (.iconst 0, 1) := by decide +kernel
theorem dX3_init_37 : decode cX3_init 37 = .ok (.putfield 29, 3) := by decide +kernel
theorem dX3_init_40 : decode cX3_init 40 = .ok (.aload_n 0, 1) := by decide +kernel
theorem dX3_init_41 : decode cX3_init 41 = .ok (.iconst 0, 1) := by decide +kernel
theorem dX3_init_42 : decode cX3_init 42 = .ok (.putfield 33, 3) := by decide +kernel
theorem dX3_init_45 : decode cX3_init 45 = .ok (.aload_n 0, 1) := by decide +kernel
theorem dX3_init_46 : decode cX3_init 46 = .ok (.iconst 0, 1) := by decide +kernel
theorem dX3_init_47 : decode cX3_init 47 = .ok (.putfield 36, 3) := by decide +kernel
theorem dX3_init_50 : decode cX3_init 50 = .ok (.aload_n 0, 1) := by decide +kernel
theorem dX3_init_51 : decode cX3_init 51 = .ok (.iconst 0, 1) := by decide +kernel
theorem dX3_init_52 : decode cX3_init 52 = .ok (.putfield 39, 3) := by decide +kernel
theorem dX3_init_55 : decode cX3_init 55 = .ok (.aload_n 0, 1) := by decide +kernel
theorem dX3_init_56 : decode cX3_init 56 = .ok (.iconst (-1), 1) := by decide +kernel
theorem dX3_init_57 : decode cX3_init 57 = .ok (.putfield 42, 3) := by decide +kernel
theorem dX3_init_60 : decode cX3_init 60 = .ok (.iconst 0, 1) := by decide +kernel
theorem dX3_init_61 : decode cX3_init 61 = .ok (.istore_n 1, 1) := by decide +kernel
theorem dX3_init_62 : decode cX3_init 62 = .ok (.iload_n 1, 1) := by decide +kernel
theorem dX3_init_63 : decode cX3_init 63 = .ok (.bipush 10, 2) := by decide +kernel
theorem dX3_init_65 : decode cX3_init 65 = .ok (.if_icmp .ge 22, 3) := by decide +kernel
theorem dX3_init_68 : decode cX3_init 68 = .ok (.aload_n 0, 1) := by decide +kernel
theorem dX3_init_69 : decode cX3_init 69 = .ok (.getfield 11, 3) := by decide +kernel
theorem dX3_init_72 : decode cX3_init 72 = .ok (.iload_n 1, 1) := by decide +kernel
theorem dX3_init_73 : decode cX3_init 73 = .ok (.new 9, 3) := by decide +kernel
theorem dX3_init_76 : decode cX3_init 76 = .ok (.dup, 1) := by decide +kernel
theorem dX3_init_77 : decode cX3_init 77 = .ok (.invokespecial 45, 3) := by decide +kernel
theorem dX3_init_80 : decode cX3_init 80 = .ok (.aastore, 1) := by decide +kernel
theorem dX3_init_81 : decode cX3_init 81 = .ok (.iinc 1 1, 3) := by decide +kernel
theorem dX3_init_84 : decode cX3_init 84 = .ok (.goto (-22), 3) := by decide +kernel
theorem dX3_init_87 : decode cX3_init 87 = .ok (.return_, 1) := by decide +kernel
theorem dX3_addMember_0 : decode cX3_addMember 0 = .ok (.iload_n 1, 1) := by decide +kernel
theorem dX3_addMember_1 : decode cX3_addMember 1 = .ok (.iconst 0, 1) := by decide +kernel
theorem dX3_addMember_2 : decode cX3_addMember 2 = .ok (.ldc 46, 2) := by decide +kernel
theorem dX3_addMember_4 : decode cX3_addMember 4 = .ok (.invokestatic 47, 3) := by decide +kernel
theorem dX3_addMember_7 : decode cX3_addMember 7 = .ok (.iload_n 2, 1) := by decide +kernel
theorem dX3_addMember_8 : decode cX3_addMember 8 = .ok (.iconst 0, 1) := by decide +kernel
theorem dX3_addMember_9 : decode cX3_addMember 9 = .ok (.ldc 46, 2) := by decide +kernel
theorem dX3_addMember_11 : decode cX3_addMember 11 = .ok (.invokestatic 47, 3) := by decide +kernel
theorem dX3_addMember_14 : decode cX3_addMember 14 = .ok (.iload_n 3, 1) := by decide +kernel
theorem dX3_addMember_15 : decode cX3_addMember 15 = .ok (.iconst 0, 1) := by decide +kernel
theorem dX3_addMember_16 : decode cX3_addMember 16 = .ok (.bipush 100, 2) := by decide +kernel
theorem dX3_addMember_18 : decode cX3_addMember 18 = .ok (.invokestatic 47, 3) := by decide +kernel
theorem dX3_addMember_21 : decode cX3_addMember 21 = .ok (.aload_n 0, 1) := by decide +kernel
theorem dX3_addMember_22 : decode cX3_addMember 22 = .ok (.getfield 29, 3) := by decide +kernel
theorem dX3_addMember_25 : decode cX3_addMember 25 = .ok (.bipush 10, 2) := by decide +kernel
theorem dX3_addMember_27 : decode cX3_addMember 27 = .ok (.if_icmp .lt 13, 3) := by decide +kernel
theorem dX3_addMember_30 : decode cX3_addMember 30 = .ok (.new 51, 3) := by decide +kernel
theorem dX3_addMember_33 : decode cX3_addMember 33 = .ok (.dup, 1) := by decide +kernel
theorem dX3_addMember_34 : decode cX3_addMember 34 = .ok (.ldc 53, 2) := by decide +kernel
theorem dX3_addMember_36 : decode cX3_addMember 36 = .ok (.invokespecial 55, 3) := by decide +kernel
theorem dX3_addMember_39 : decode cX3_addMember 39 = .ok (.athrow, 1) := by decide +kernel
theorem dX3_addMember_40 : decode cX3_addMember 40 = .ok (.aload_n 0, 1) := by decide +kernel
theorem dX3_addMember_41 : decode cX3_addMember 41 = .ok (.getfield 11, 3) := by decide +kernel
theorem dX3_addMember_44 : decode cX3_addMember 44 = .ok (.aload_n 0, 1) := by decide +kernel
theorem dX3_addMember_45 : decode cX3_addMember 45 = .ok (.getfield 29, 3) := by decide +kernel
theorem dX3_addMember_48 : decode cX3_addMember 48 = .ok (.aaload, 1) := by decide +kernel
theorem dX3_addMember_49 : decode cX3_addMember 49 = .ok (.iload_n 1, 1) := by decide +kernel
theorem dX3_addMember_50 : decode cX3_addMember 50 = .ok (.iload_n 2, 1) := by decide +kernel
theorem dX3_addMember_51 : decode cX3_addMember 51 = .ok (.iload_n 3, 1) := by decide +kernel
theorem dX3_addMember_52 : decode cX3_addMember 52 = .ok (.invokevirtual 58, 3) := by decide +kernel
theorem dX3_addMember_55 : decode cX3_addMember 55 = .ok (.aload_n 0, 1) := by decide +kernel
theorem dX3_addMember_56 : decode cX3_addMember 56 = .ok (.dup, 1) := by decide +kernel
theorem dX3_addMember_57 : decode cX3_addMember 57 = .ok (.getfield 29, 3) := by decide +kernel
theorem dX3_addMember_60 : decode cX3_addMember 60 = .ok (.iconst 1, 1) := by decide +kernel
theorem dX3_addMember_61 : decode cX3_addMember 61 = .ok (.iadd, 1) := by decide +kernel
theorem dX3_addMember_62 : decode cX3_addMember 62 = .ok (.putfield 29, 3) := by decide +kernel
theorem dX3_addMember_65 : decode cX3_addMember 65 = .ok (.aload_n 0, 1) := by decide +kernel
theorem dX3_addMember_66 : decode cX3_addMember 66 = .ok (.getfield 29, 3) := by decide +kernel
theorem dX3_addMember_69 : decode cX3_addMember 69 = .ok (.iconst 1, 1) := by decide +kernel
theorem dX3_addMember_70 : decode cX3_addMember 70 = .ok (.isub, 1) := by decide +kernel
theorem dX3_addMember_71 : decode cX3_addMember 71 = .ok (.ireturn, 1) := by decide +kernel
theorem dX3_addClient_0 : decode cX3_addClient 0 = .ok (.aload_n 0, 1) := by decide +kernel
theorem dX3_addClient_1 : decode cX3_addClient 1 = .ok (.iload_n 1, 1) := by decide +kernel
theorem dX3_addClient_2 : decode cX3_addClient 2 = .ok (.invokevirtual 61, 3) := by decide +kernel
theorem dX3_addClient_5 : decode cX3_addClient 5 = .ok (.astore_n 3, 1) := by decide +kernel
theorem dX3_addClient_6 : decode cX3_addClient 6 = .ok (.iload_n 2, 1) := by decide +kernel
theorem dX3_addClient_7 : decode cX3_addClient 7 = .ok (.iconst 1, 1) := by decide +kernel
theorem dX3_addClient_8 : decode cX3_addClient 8 = .ok (.bipush 20, 2) := by decide +kernel
theorem dX3_addClient_10 : decode cX3_addClient 10 = .ok (.invokestatic 47, 3) := by decide +kernel
theorem dX3_addClient_13 : decode cX3_addClient 13 = .ok (.aload_n 3, 1) := by decide +kernel
theorem dX3_addClient_14 : decode cX3_addClient 14 = .ok (.invokestatic 65, 3) := by decide +kernel
theorem dX3_addClient_17 : decode cX3_addClient 17 = .ok (.aload_n 3, 1) := by decide +kernel
theorem dX3_addClient_18 : decode cX3_addClient 18 = .ok (.iload_n 2, 1) := by decide +kernel
theorem dX3_addClient_19 : decode cX3_addClient 19 = .ok (.invokevirtual 69, 3) := by decide +kernel
theorem dX3_addClient_22 : decode cX3_addClient 22 = .ok (.ifCond .ne 13, 3) := by decide +kernel
theorem dX3_addClient_25 : decode cX3_addClient 25 = .ok (.new 51, 3) := by decide +kernel
theorem dX3_addClient_28 : decode cX3_addClient 28 = .ok (.dup, 1) := by decide +kernel
theorem dX3_addClient_29 : decode cX3_addClient 29 = .ok (.ldc 73, 2) := by decide +kernel
theorem dX3_addClient_31 : decode cX3_addClient 31 = .ok (.invokespecial 55, 3) := by decide +kernel
theorem dX3_addClient_34 : decode cX3_addClient 34 = .ok (.athrow, 1) := by decide +kernel
theorem dX3_addClient_35 : decode cX3_addClient 35 = .ok (.aload_n 3, 1) := by decide +kernel
theorem dX3_addClient_36 : decode cX3_addClient 36 = .ok (.invokevirtual 75, 3) := by decide +kernel
theorem dX3_addClient_39 : decode cX3_addClient 39 = .ok (.ireturn, 1) := by decide +kernel
theorem dX3_setGain_0 : decode cX3_setGain 0 = .ok (.aload_n 0, 1) := by decide +kernel
theorem dX3_setGain_1 : decode cX3_setGain 1 = .ok (.iload_n 1, 1) := by decide +kernel
theorem dX3_setGain_2 : decode cX3_setGain 2 = .ok (.invokevirtual 61, 3) := by decide +kernel
theorem dX3_setGain_5 : decode cX3_setGain 5 = .ok (.astore_n 3, 1) := by decide +kernel
theorem dX3_setGain_6 : decode cX3_setGain 6 = .ok (.iload_n 2, 1) := by decide +kernel
theorem dX3_setGain_7 : decode cX3_setGain 7 = .ok (.iconst 0, 1) := by decide +kernel
theorem dX3_setGain_8 : decode cX3_setGain 8 = .ok (.ldc 46, 2) := by decide +kernel
theorem dX3_setGain_10 : decode cX3_setGain 10 = .ok (.invokestatic 47, 3) := by decide +kernel
theorem dX3_setGain_13 : decode cX3_setGain 13 = .ok (.aload_n 3, 1) := by decide +kernel
theorem dX3_setGain_14 : decode cX3_setGain 14 = .ok (.invokestatic 65, 3) := by decide +kernel
theorem dX3_setGain_17 : decode cX3_setGain 17 = .ok (.aload_n 3, 1) := by decide +kernel
theorem dX3_setGain_18 : decode cX3_setGain 18 = .ok (.getfield 79, 3) := by decide +kernel
theorem dX3_setGain_21 : decode cX3_setGain 21 = .ok (.istore 4, 2) := by decide +kernel
theorem dX3_setGain_23 : decode cX3_setGain 23 = .ok (.aload_n 3, 1) := by decide +kernel
theorem dX3_setGain_24 : decode cX3_setGain 24 = .ok (.iload_n 2, 1) := by decide +kernel
theorem dX3_setGain_25 : decode cX3_setGain 25 = .ok (.putfield 79, 3) := by decide +kernel
theorem dX3_setGain_28 : decode cX3_setGain 28 = .ok (.iload 4, 2) := by decide +kernel
theorem dX3_setGain_30 : decode cX3_setGain 30 = .ok (.ireturn, 1) := by decide +kernel
theorem dX3_setTested_0 : decode cX3_setTested 0 = .ok (.aload_n 0, 1) := by decide +kernel
theorem dX3_setTested_1 : decode cX3_setTested 1 = .ok (.iload_n 1, 1) := by decide +kernel
theorem dX3_setTested_2 : decode cX3_setTested 2 = .ok (.invokevirtual 61, 3) := by decide +kernel
theorem dX3_setTested_5 : decode cX3_setTested 5 = .ok (.astore_n 3, 1) := by decide +kernel
theorem dX3_setTested_6 : decode cX3_setTested 6 = .ok (.iload_n 2, 1) := by decide +kernel
theorem dX3_setTested_7 : decode cX3_setTested 7 = .ok (.iconst 0, 1) := by decide +kernel
theorem dX3_setTested_8 : decode cX3_setTested 8 = .ok (.ldc 46, 2) := by decide +kernel
theorem dX3_setTested_10 : decode cX3_setTested 10 = .ok (.invokestatic 47, 3) := by decide +kernel
theorem dX3_setTested_13 : decode cX3_setTested 13 = .ok (.aload_n 3, 1) := by decide +kernel
theorem dX3_setTested_14 : decode cX3_setTested 14 = .ok (.invokestatic 65, 3) := by decide +kernel
theorem dX3_setTested_17 : decode cX3_setTested 17 = .ok (.aload_n 3, 1) := by decide +kernel
theorem dX3_setTested_18 : decode cX3_setTested 18 = .ok (.getfield 82, 3) := by decide +kernel
theorem dX3_setTested_21 : decode cX3_setTested 21 = .ok (.istore 4, 2) := by decide +kernel
theorem dX3_setTested_23 : decode cX3_setTested 23 = .ok (.aload_n 3, 1) := by decide +kernel
theorem dX3_setTested_24 : decode cX3_setTested 24 = .ok (.iload_n 2, 1) := by decide +kernel
theorem dX3_setTested_25 : decode cX3_setTested 25 = .ok (.putfield 82, 3) := by decide +kernel
theorem dX3_setTested_28 : decode cX3_setTested 28 = .ok (.iload 4, 2) := by decide +kernel
theorem dX3_setTested_30 : decode cX3_setTested 30 = .ok (.ireturn, 1) := by decide +kernel
theorem dX3_setCapital_0 : decode cX3_setCapital 0 = .ok (.iload_n 1, 1) := by decide +kernel
theorem dX3_setCapital_1 : decode cX3_setCapital 1 = .ok (.iconst 0, 1) := by decide +kernel
theorem dX3_setCapital_2 : decode cX3_setCapital 2 = .ok (.ldc 46, 2) := by decide +kernel
theorem dX3_setCapital_4 : decode cX3_setCapital 4 = .ok (.invokestatic 47, 3) := by decide +kernel
theorem dX3_setCapital_7 : decode cX3_setCapital 7 = .ok (.aload_n 0, 1) := by decide +kernel
theorem dX3_setCapital_8 : decode cX3_setCapital 8 = .ok (.getfield 33, 3) := by decide +kernel
theorem dX3_setCapital_11 : decode cX3_setCapital 11 = .ok (.istore_n 2, 1) := by decide +kernel
theorem dX3_setCapital_12 : decode cX3_setCapital 12 = .ok (.aload_n 0, 1) := by decide +kernel
theorem dX3_setCapital_13 : decode cX3_setCapital 13 = .ok (.iload_n 1, 1) := by decide +kernel
theorem dX3_setCapital_14 : decode cX3_setCapital 14 = .ok (.putfield 33, 3) := by decide +kernel
theorem dX3_setCapital_17 : decode cX3_setCapital 17 = .ok (.iload_n 2, 1) := by decide +kernel
theorem dX3_setCapital_18 : decode cX3_setCapital 18 = .ok (.ireturn, 1) := by decide +kernel
theorem dX3_giveNotice_0 : decode cX3_giveNotice 0 = .ok (.aload_n 0, 1) := by decide +kernel
theorem dX3_giveNotice_1 : decode cX3_giveNotice 1 = .ok (.iload_n 1, 1) := by decide +kernel
theorem dX3_giveNotice_2 : decode cX3_giveNotice 2 = .ok (.invokevirtual 61, 3) := by decide +kernel
theorem dX3_giveNotice_5 : decode cX3_giveNotice 5 = .ok (.astore_n 2, 1) := by decide +kernel
theorem dX3_giveNotice_6 : decode cX3_giveNotice 6 = .ok (.aload_n 2, 1) := by decide +kernel
theorem dX3_giveNotice_7 : decode cX3_giveNotice 7 = .ok (.getfield 85, 3) := by decide +kernel
theorem dX3_giveNotice_10 : decode cX3_giveNotice 10 = .ok (.ifCond .eq 13, 3) := by decide +kernel
theorem dX3_giveNotice_13 : decode cX3_giveNotice 13 = .ok (.new 51, 3) := by decide +kernel
theorem dX3_giveNotice_16 : decode cX3_giveNotice 16 = .ok (.dup, 1) := by decide +kernel
theorem dX3_giveNotice_17 : decode cX3_giveNotice 17 = .ok (.ldc 88, 2) := by decide +kernel
theorem dX3_giveNotice_19 : decode cX3_giveNotice 19 = .ok (.invokespecial 55, 3) := by decide +kernel
theorem dX3_giveNotice_22 : decode cX3_giveNotice 22 = .ok (.athrow, 1) := by decide +kernel
theorem dX3_giveNotice_23 : decode cX3_giveNotice 23 = .ok (.aload_n 0, 1) := by decide +kernel
theorem dX3_giveNotice_24 : decode cX3_giveNotice 24 = .ok (.invokevirtual 90, 3) := by decide +kernel
theorem dX3_giveNotice_27 : decode cX3_giveNotice 27 = .ok (.aload_n 2, 1) := by decide +kernel
theorem dX3_giveNotice_28 : decode cX3_giveNotice 28 = .ok (.iconst 1, 1) := by decide +kernel
theorem dX3_giveNotice_29 : decode cX3_giveNotice 29 = .ok (.putfield 85, 3) := by decide +kernel
theorem dX3_giveNotice_32 : decode cX3_giveNotice 32 = .ok (.return_, 1) := by decide +kernel
theorem dX3_size_0 : decode cX3_size 0 = .ok (.aload_n 0, 1) := by decide +kernel
theorem dX3_size_1 : decode cX3_size 1 = .ok (.invokevirtual 90, 3) := by decide +kernel
theorem dX3_size_4 : decode cX3_size 4 = .ok (.aload_n 0, 1) := by decide +kernel
theorem dX3_size_5 : decode cX3_size 5 = .ok (.invokevirtual 93, 3) := by decide +kernel
theorem dX3_size_8 : decode cX3_size 8 = .ok (.istore_n 1, 1) := by decide +kernel
theorem dX3_size_9 : decode cX3_size 9 = .ok (.iconst 0, 1) := by decide +kernel
theorem dX3_size_10 : decode cX3_size 10 = .ok (.istore_n 2, 1) := by decide +kernel
theorem dX3_size_11 : decode cX3_size 11 = .ok (.iload_n 2, 1) := by decide +kernel
theorem dX3_size_12 : decode cX3_size 12 = .ok (.aload_n 0, 1) := by decide +kernel
theorem dX3_size_13 : decode cX3_size 13 = .ok (.getfield 29, 3) := by decide +kernel
theorem dX3_size_16 : decode cX3_size 16 = .ok (.if_icmp .ge 40, 3) := by decide +kernel
theorem dX3_size_19 : decode cX3_size 19 = .ok (.aload_n 0, 1) := by decide +kernel
theorem dX3_size_20 : decode cX3_size 20 = .ok (.getfield 11, 3) := by decide +kernel
theorem dX3_size_23 : decode cX3_size 23 = .ok (.iload_n 2, 1) := by decide +kernel
theorem dX3_size_24 : decode cX3_size 24 = .ok (.aaload, 1) := by decide +kernel
theorem dX3_size_25 : decode cX3_size 25 = .ok (.astore_n 3, 1) := by decide +kernel
theorem dX3_size_26 : decode cX3_size 26 = .ok (.aload_n 0, 1) := by decide +kernel
theorem dX3_size_27 : decode cX3_size 27 = .ok (.getfield 25, 3) := by decide +kernel
theorem dX3_size_30 : decode cX3_size 30 = .ok (.iload_n 2, 1) := by decide +kernel
theorem dX3_size_31 : decode cX3_size 31 = .ok (.aload_n 3, 1) := by decide +kernel
theorem dX3_size_32 : decode cX3_size 32 = .ok (.invokevirtual 96, 3) := by decide +kernel
theorem dX3_size_35 : decode cX3_size 35 = .ok (.ifCond .eq 10, 3) := by decide +kernel
theorem dX3_size_38 : decode cX3_size 38 = .ok (.aload_n 3, 1) := by decide +kernel
theorem dX3_size_39 : decode cX3_size 39 = .ok (.getfield 100, 3) := by decide +kernel
theorem dX3_size_42 : decode cX3_size 42 = .ok (.goto 4, 3) := by decide +kernel
theorem dX3_size_45 : decode cX3_size 45 = .ok (.iconst 0, 1) := by decide +kernel
theorem dX3_size_46 : decode cX3_size 46 = .ok (.iload_n 1, 1) := by decide +kernel
theorem dX3_size_47 : decode cX3_size 47 = .ok (.invokevirtual 103, 3) := by decide +kernel
theorem dX3_size_50 : decode cX3_size 50 = .ok (.iinc 2 1, 3) := by decide +kernel
theorem dX3_size_53 : decode cX3_size 53 = .ok (.goto (-42), 3) := by decide +kernel
theorem dX3_size_56 : decode cX3_size 56 = .ok (.aload_n 0, 1) := by decide +kernel
theorem dX3_size_57 : decode cX3_size 57 = .ok (.getfield 25, 3) := by decide +kernel
theorem dX3_size_60 : decode cX3_size 60 = .ok (.iload_n 1, 1) := by decide +kernel
theorem dX3_size_61 : decode cX3_size 61 = .ok (.invokevirtual 106, 3) := by decide +kernel
theorem dX3_size_64 : decode cX3_size 64 = .ok (.pop, 1) := by decide +kernel
theorem dX3_size_65 : decode cX3_size 65 = .ok (.iconst 0, 1) := by decide +kernel
theorem dX3_size_66 : decode cX3_size 66 = .ok (.istore_n 2, 1) := by decide +kernel
theorem dX3_size_67 : decode cX3_size 67 = .ok (.iconst 0, 1) := by decide +kernel
theorem dX3_size_68 : decode cX3_size 68 = .ok (.istore_n 3, 1) := by decide +kernel
theorem dX3_size_69 : decode cX3_size 69 = .ok (.iload_n 3, 1) := by decide +kernel
theorem dX3_size_70 : decode cX3_size 70 = .ok (.aload_n 0, 1) := by decide +kernel
theorem dX3_size_71 : decode cX3_size 71 = .ok (.getfield 29, 3) := by decide +kernel
theorem dX3_size_74 : decode cX3_size 74 = .ok (.if_icmp .ge 29, 3) := by decide +kernel
theorem dX3_size_77 : decode cX3_size 77 = .ok (.iload_n 2, 1) := by decide +kernel
theorem dX3_size_78 : decode cX3_size 78 = .ok (.aload_n 0, 1) := by decide +kernel
theorem dX3_size_79 : decode cX3_size 79 = .ok (.getfield 11, 3) := by decide +kernel
theorem dX3_size_82 : decode cX3_size 82 = .ok (.iload_n 3, 1) := by decide +kernel
theorem dX3_size_83 : decode cX3_size 83 = .ok (.aaload, 1) := by decide +kernel
theorem dX3_size_84 : decode cX3_size 84 = .ok (.aload_n 0, 1) := by decide +kernel
theorem dX3_size_85 : decode cX3_size 85 = .ok (.getfield 25, 3) := by decide +kernel
theorem dX3_size_88 : decode cX3_size 88 = .ok (.iload_n 3, 1) := by decide +kernel
theorem dX3_size_89 : decode cX3_size 89 = .ok (.invokevirtual 110, 3) := by decide +kernel
theorem dX3_size_92 : decode cX3_size 92 = .ok (.invokevirtual 113, 3) := by decide +kernel
theorem dX3_size_95 : decode cX3_size 95 = .ok (.iadd, 1) := by decide +kernel
theorem dX3_size_96 : decode cX3_size 96 = .ok (.istore_n 2, 1) := by decide +kernel
theorem dX3_size_97 : decode cX3_size 97 = .ok (.iinc 3 1, 3) := by decide +kernel
theorem dX3_size_100 : decode cX3_size 100 = .ok (.goto (-31), 3) := by decide +kernel
theorem dX3_size_103 : decode cX3_size 103 = .ok (.iload_n 2, 1) := by decide +kernel
theorem dX3_size_104 : decode cX3_size 104 = .ok (.ireturn, 1) := by decide +kernel
theorem dX3_fail_0 : decode cX3_fail 0 = .ok (.aload_n 0, 1) := by decide +kernel
theorem dX3_fail_1 : decode cX3_fail 1 = .ok (.iload_n 1, 1) := by decide +kernel
theorem dX3_fail_2 : decode cX3_fail 2 = .ok (.invokevirtual 61, 3) := by decide +kernel
theorem dX3_fail_5 : decode cX3_fail 5 = .ok (.astore_n 3, 1) := by decide +kernel
theorem dX3_fail_6 : decode cX3_fail 6 = .ok (.iload_n 2, 1) := by decide +kernel
theorem dX3_fail_7 : decode cX3_fail 7 = .ok (.iconst 1, 1) := by decide +kernel
theorem dX3_fail_8 : decode cX3_fail 8 = .ok (.bipush 20, 2) := by decide +kernel
theorem dX3_fail_10 : decode cX3_fail 10 = .ok (.invokestatic 47, 3) := by decide +kernel
theorem dX3_fail_13 : decode cX3_fail 13 = .ok (.aload_n 3, 1) := by decide +kernel
theorem dX3_fail_14 : decode cX3_fail 14 = .ok (.invokestatic 65, 3) := by decide +kernel
theorem dX3_fail_17 : decode cX3_fail 17 = .ok (.aload_n 0, 1) := by decide +kernel
theorem dX3_fail_18 : decode cX3_fail 18 = .ok (.invokevirtual 90, 3) := by decide +kernel
theorem dX3_fail_21 : decode cX3_fail 21 = .ok (.iconst 0, 1) := by decide +kernel
theorem dX3_fail_22 : decode cX3_fail 22 = .ok (.istore 4, 2) := by decide +kernel
theorem dX3_fail_24 : decode cX3_fail 24 = .ok (.iload 4, 2) := by decide +kernel
theorem dX3_fail_26 : decode cX3_fail 26 = .ok (.aload_n 0, 1) := by decide +kernel
theorem dX3_fail_27 : decode cX3_fail 27 = .ok (.getfield 29, 3) := by decide +kernel
theorem dX3_fail_30 : decode cX3_fail 30 = .ok (.if_icmp .ge 29, 3) := by decide +kernel
theorem dX3_fail_33 : decode cX3_fail 33 = .ok (.aload_n 0, 1) := by decide +kernel
theorem dX3_fail_34 : decode cX3_fail 34 = .ok (.getfield 11, 3) := by decide +kernel
theorem dX3_fail_37 : decode cX3_fail 37 = .ok (.iload 4, 2) := by decide +kernel
theorem dX3_fail_39 : decode cX3_fail 39 = .ok (.aaload, 1) := by decide +kernel
theorem dX3_fail_40 : decode cX3_fail 40 = .ok (.aload_n 0, 1) := by decide +kernel
theorem dX3_fail_41 : decode cX3_fail 41 = .ok (.getfield 11, 3) := by decide +kernel
theorem dX3_fail_44 : decode cX3_fail 44 = .ok (.iload 4, 2) := by decide +kernel
theorem dX3_fail_46 : decode cX3_fail 46 = .ok (.aaload, 1) := by decide +kernel
theorem dX3_fail_47 : decode cX3_fail 47 = .ok (.getfield 116, 3) := by decide +kernel
theorem dX3_fail_50 : decode cX3_fail 50 = .ok (.putfield 119, 3) := by decide +kernel
theorem dX3_fail_53 : decode cX3_fail 53 = .ok (.iinc 4 1, 3) := by decide +kernel
theorem dX3_fail_56 : decode cX3_fail 56 = .ok (.goto (-32), 3) := by decide +kernel
theorem dX3_fail_59 : decode cX3_fail 59 = .ok (.aload_n 0, 1) := by decide +kernel
theorem dX3_fail_60 : decode cX3_fail 60 = .ok (.iload_n 1, 1) := by decide +kernel
theorem dX3_fail_61 : decode cX3_fail 61 = .ok (.putfield 42, 3) := by decide +kernel
theorem dX3_fail_64 : decode cX3_fail 64 = .ok (.aload_n 3, 1) := by decide +kernel
theorem dX3_fail_65 : decode cX3_fail 65 = .ok (.iconst 2, 1) := by decide +kernel
theorem dX3_fail_66 : decode cX3_fail 66 = .ok (.putfield 85, 3) := by decide +kernel
theorem dX3_fail_69 : decode cX3_fail 69 = .ok (.iload_n 2, 1) := by decide +kernel
theorem dX3_fail_70 : decode cX3_fail 70 = .ok (.aload_n 0, 1) := by decide +kernel
theorem dX3_fail_71 : decode cX3_fail 71 = .ok (.aload_n 3, 1) := by decide +kernel
theorem dX3_fail_72 : decode cX3_fail 72 = .ok (.invokevirtual 122, 3) := by decide +kernel
theorem dX3_fail_75 : decode cX3_fail 75 = .ok (.iadd, 1) := by decide +kernel
theorem dX3_fail_76 : decode cX3_fail 76 = .ok (.istore 4, 2) := by decide +kernel
theorem dX3_fail_78 : decode cX3_fail 78 = .ok (.aload_n 0, 1) := by decide +kernel
theorem dX3_fail_79 : decode cX3_fail 79 = .ok (.getfield 18, 3) := by decide +kernel
theorem dX3_fail_82 : decode cX3_fail 82 = .ok (.iload 4, 2) := by decide +kernel
theorem dX3_fail_84 : decode cX3_fail 84 = .ok (.invokevirtual 126, 3) := by decide +kernel
theorem dX3_fail_87 : decode cX3_fail 87 = .ok (.iload 4, 2) := by decide +kernel
theorem dX3_fail_89 : decode cX3_fail 89 = .ok (.ireturn, 1) := by decide +kernel
theorem dX3_bid_0 : decode cX3_bid 0 = .ok (.aload_n 0, 1) := by decide +kernel
theorem dX3_bid_1 : decode cX3_bid 1 = .ok (.iload_n 1, 1) := by decide +kernel
theorem dX3_bid_2 : decode cX3_bid 2 = .ok (.invokevirtual 61, 3) := by decide +kernel
theorem dX3_bid_5 : decode cX3_bid 5 = .ok (.astore 4, 2) := by decide +kernel
theorem dX3_bid_7 : decode cX3_bid 7 = .ok (.aload_n 0, 1) := by decide +kernel
theorem dX3_bid_8 : decode cX3_bid 8 = .ok (.getfield 42, 3) := by decide +kernel
theorem dX3_bid_11 : decode cX3_bid 11 = .ok (.iconst (-1), 1) := by decide +kernel
theorem dX3_bid_12 : decode cX3_bid 12 = .ok (.if_icmp .eq 14, 3) := by decide +kernel
theorem dX3_bid_15 : decode cX3_bid 15 = .ok (.aload_n 0, 1) := by decide +kernel
theorem dX3_bid_16 : decode cX3_bid 16 = .ok (.getfield 18, 3) := by decide +kernel
theorem dX3_bid_19 : decode cX3_bid 19 = .ok (.iload_n 2, 1) := by decide +kernel
theorem dX3_bid_20 : decode cX3_bid 20 = .ok (.invokevirtual 130, 3) := by decide +kernel
theorem dX3_bid_23 : decode cX3_bid 23 = .ok (.ifCond .ne 13, 3) := by decide +kernel
theorem dX3_bid_26 : decode cX3_bid 26 = .ok (.new 133, 3) := by decide +kernel
theorem dX3_bid_29 : decode cX3_bid 29 = .ok (.dup, 1) := by decide +kernel
theorem dX3_bid_30 : decode cX3_bid 30 = .ok (.ldc 135, 2) := by decide +kernel
theorem dX3_bid_32 : decode cX3_bid 32 = .ok (.invokespecial 137, 3) := by decide +kernel
theorem dX3_bid_35 : decode cX3_bid 35 = .ok (.athrow, 1) := by decide +kernel
theorem dX3_bid_36 : decode cX3_bid 36 = .ok (.iload_n 3, 1) := by decide +kernel
theorem dX3_bid_37 : decode cX3_bid 37 = .ok (.sipush (-1000), 3) := by decide +kernel
theorem dX3_bid_40 : decode cX3_bid 40 = .ok (.sipush 1000, 3) := by decide +kernel
theorem dX3_bid_43 : decode cX3_bid 43 = .ok (.invokestatic 47, 3) := by decide +kernel
theorem dX3_bid_46 : decode cX3_bid 46 = .ok (.aload 4, 2) := by decide +kernel
theorem dX3_bid_48 : decode cX3_bid 48 = .ok (.invokestatic 65, 3) := by decide +kernel
theorem dX3_bid_51 : decode cX3_bid 51 = .ok (.aload_n 0, 1) := by decide +kernel
theorem dX3_bid_52 : decode cX3_bid 52 = .ok (.getfield 18, 3) := by decide +kernel
theorem dX3_bid_55 : decode cX3_bid 55 = .ok (.iload_n 1, 1) := by decide +kernel
theorem dX3_bid_56 : decode cX3_bid 56 = .ok (.iload_n 2, 1) := by decide +kernel
theorem dX3_bid_57 : decode cX3_bid 57 = .ok (.invokevirtual 138, 3) := by decide +kernel
theorem dX3_bid_60 : decode cX3_bid 60 = .ok (.sipush (-1001), 3) := by decide +kernel
theorem dX3_bid_63 : decode cX3_bid 63 = .ok (.if_icmp .eq 13, 3) := by decide +kernel
theorem dX3_bid_66 : decode cX3_bid 66 = .ok (.new 51, 3) := by decide +kernel
theorem dX3_bid_69 : decode cX3_bid 69 = .ok (.dup, 1) := by decide +kernel
theorem dX3_bid_70 : decode cX3_bid 70 = .ok (.ldc 142, 2) := by decide +kernel
theorem dX3_bid_72 : decode cX3_bid 72 = .ok (.invokespecial 55, 3) := by decide +kernel
theorem dX3_bid_75 : decode cX3_bid 75 = .ok (.athrow, 1) := by decide +kernel
theorem dX3_bid_76 : decode cX3_bid 76 = .ok (.aload_n 0, 1) := by decide +kernel
theorem dX3_bid_77 : decode cX3_bid 77 = .ok (.getfield 18, 3) := by decide +kernel
theorem dX3_bid_80 : decode cX3_bid 80 = .ok (.iload_n 1, 1) := by decide +kernel
theorem dX3_bid_81 : decode cX3_bid 81 = .ok (.iload_n 2, 1) := by decide +kernel
theorem dX3_bid_82 : decode cX3_bid 82 = .ok (.iload_n 3, 1) := by decide +kernel
theorem dX3_bid_83 : decode cX3_bid 83 = .ok (.invokevirtual 144, 3) := by decide +kernel
theorem dX3_bid_86 : decode cX3_bid 86 = .ok (.return_, 1) := by decide +kernel
theorem dX3_close_0 : decode cX3_close 0 = .ok (.aload_n 0, 1) := by decide +kernel
theorem dX3_close_1 : decode cX3_close 1 = .ok (.getfield 42, 3) := by decide +kernel
theorem dX3_close_4 : decode cX3_close 4 = .ok (.iconst (-1), 1) := by decide +kernel
theorem dX3_close_5 : decode cX3_close 5 = .ok (.if_icmp .ne 13, 3) := by decide +kernel
theorem dX3_close_8 : decode cX3_close 8 = .ok (.new 51, 3) := by decide +kernel
theorem dX3_close_11 : decode cX3_close 11 = .ok (.dup, 1) := by decide +kernel
theorem dX3_close_12 : decode cX3_close 12 = .ok (.ldc 145, 2) := by decide +kernel
theorem dX3_close_14 : decode cX3_close 14 = .ok (.invokespecial 55, 3) := by decide +kernel
theorem dX3_close_17 : decode cX3_close 17 = .ok (.athrow, 1) := by decide +kernel
theorem dX3_close_18 : decode cX3_close 18 = .ok (.aload_n 0, 1) := by decide +kernel
theorem dX3_close_19 : decode cX3_close 19 = .ok (.iconst 0, 1) := by decide +kernel
theorem dX3_close_20 : decode cX3_close 20 = .ok (.aload_n 0, 1) := by decide +kernel
theorem dX3_close_21 : decode cX3_close 21 = .ok (.invokevirtual 147, 3) := by decide +kernel
theorem dX3_close_24 : decode cX3_close 24 = .ok (.invokestatic 150, 3) := by decide +kernel
theorem dX3_close_27 : decode cX3_close 27 = .ok (.putfield 36, 3) := by decide +kernel
theorem dX3_close_30 : decode cX3_close 30 = .ok (.aload_n 0, 1) := by decide +kernel
theorem dX3_close_31 : decode cX3_close 31 = .ok (.invokevirtual 155, 3) := by decide +kernel
theorem dX3_close_34 : decode cX3_close 34 = .ok (.aload_n 0, 1) := by decide +kernel
theorem dX3_close_35 : decode cX3_close 35 = .ok (.aload_n 0, 1) := by decide +kernel
theorem dX3_close_36 : decode cX3_close 36 = .ok (.getfield 11, 3) := by decide +kernel
theorem dX3_close_39 : decode cX3_close 39 = .ok (.aload_n 0, 1) := by decide +kernel
theorem dX3_close_40 : decode cX3_close 40 = .ok (.getfield 42, 3) := by decide +kernel
theorem dX3_close_43 : decode cX3_close 43 = .ok (.aaload, 1) := by decide +kernel
theorem dX3_close_44 : decode cX3_close 44 = .ok (.invokevirtual 158, 3) := by decide +kernel
theorem dX3_close_47 : decode cX3_close 47 = .ok (.istore_n 1, 1) := by decide +kernel
theorem dX3_close_48 : decode cX3_close 48 = .ok (.aload_n 0, 1) := by decide +kernel
theorem dX3_close_49 : decode cX3_close 49 = .ok (.dup, 1) := by decide +kernel
theorem dX3_close_50 : decode cX3_close 50 = .ok (.getfield 39, 3) := by decide +kernel
theorem dX3_close_53 : decode cX3_close 53 = .ok (.iload_n 1, 1) := by decide +kernel
theorem dX3_close_54 : decode cX3_close 54 = .ok (.iadd, 1) := by decide +kernel
theorem dX3_close_55 : decode cX3_close 55 = .ok (.putfield 39, 3) := by decide +kernel
theorem dX3_close_58 : decode cX3_close 58 = .ok (.aload_n 0, 1) := by decide +kernel
theorem dX3_close_59 : decode cX3_close 59 = .ok (.aload_n 0, 1) := by decide +kernel
theorem dX3_close_60 : decode cX3_close 60 = .ok (.getfield 11, 3) := by decide +kernel
theorem dX3_close_63 : decode cX3_close 63 = .ok (.aload_n 0, 1) := by decide +kernel
theorem dX3_close_64 : decode cX3_close 64 = .ok (.getfield 42, 3) := by decide +kernel
theorem dX3_close_67 : decode cX3_close 67 = .ok (.aaload, 1) := by decide +kernel
theorem dX3_close_68 : decode cX3_close 68 = .ok (.invokevirtual 161, 3) := by decide +kernel
theorem dX3_close_71 : decode cX3_close 71 = .ok (.iload_n 1, 1) := by decide +kernel
theorem dX3_close_72 : decode cX3_close 72 = .ok (.ireturn, 1) := by decide +kernel
theorem dX3_members_0 : decode cX3_members 0 = .ok (.aload_n 0, 1) := by decide +kernel
theorem dX3_members_1 : decode cX3_members 1 = .ok (.getfield 29, 3) := by decide +kernel
theorem dX3_members_4 : decode cX3_members 4 = .ok (.ireturn, 1) := by decide +kernel
theorem dX3_state_0 : decode cX3_state 0 = .ok (.aload_n 0, 1) := by decide +kernel
theorem dX3_state_1 : decode cX3_state 1 = .ok (.iload_n 1, 1) := by decide +kernel
theorem dX3_state_2 : decode cX3_state 2 = .ok (.invokevirtual 61, 3) := by decide +kernel
theorem dX3_state_5 : decode cX3_state 5 = .ok (.getfield 85, 3) := by decide +kernel
theorem dX3_state_8 : decode cX3_state 8 = .ok (.ireturn, 1) := by decide +kernel
theorem dX3_margin_0 : decode cX3_margin 0 = .ok (.aload_n 0, 1) := by decide +kernel
theorem dX3_margin_1 : decode cX3_margin 1 = .ok (.iload_n 1, 1) := by decide +kernel
theorem dX3_margin_2 : decode cX3_margin 2 = .ok (.invokevirtual 61, 3) := by decide +kernel
theorem dX3_margin_5 : decode cX3_margin 5 = .ok (.getfield 100, 3) := by decide +kernel
theorem dX3_margin_8 : decode cX3_margin 8 = .ok (.ireturn, 1) := by decide +kernel
theorem dX3_share_0 : decode cX3_share 0 = .ok (.aload_n 0, 1) := by decide +kernel
theorem dX3_share_1 : decode cX3_share 1 = .ok (.iload_n 1, 1) := by decide +kernel
theorem dX3_share_2 : decode cX3_share 2 = .ok (.invokevirtual 61, 3) := by decide +kernel
theorem dX3_share_5 : decode cX3_share 5 = .ok (.getfield 116, 3) := by decide +kernel
theorem dX3_share_8 : decode cX3_share 8 = .ok (.ireturn, 1) := by decide +kernel
theorem dX3_gain_0 : decode cX3_gain 0 = .ok (.aload_n 0, 1) := by decide +kernel
theorem dX3_gain_1 : decode cX3_gain 1 = .ok (.iload_n 1, 1) := by decide +kernel
theorem dX3_gain_2 : decode cX3_gain 2 = .ok (.invokevirtual 61, 3) := by decide +kernel
theorem dX3_gain_5 : decode cX3_gain 5 = .ok (.getfield 79, 3) := by decide +kernel
theorem dX3_gain_8 : decode cX3_gain 8 = .ok (.ireturn, 1) := by decide +kernel
theorem dX3_assessed_0 : decode cX3_assessed 0 = .ok (.aload_n 0, 1) := by decide +kernel
theorem dX3_assessed_1 : decode cX3_assessed 1 = .ok (.iload_n 1, 1) := by decide +kernel
theorem dX3_assessed_2 : decode cX3_assessed 2 = .ok (.invokevirtual 61, 3) := by decide +kernel
theorem dX3_assessed_5 : decode cX3_assessed 5 = .ok (.getfield 168, 3) := by decide +kernel
theorem dX3_assessed_8 : decode cX3_assessed 8 = .ok (.ireturn, 1) := by decide +kernel
theorem dX3_clientLots_0 : decode cX3_clientLots 0 = .ok (.aload_n 0, 1) := by decide +kernel
theorem dX3_clientLots_1 : decode cX3_clientLots 1 = .ok (.iload_n 1, 1) := by decide +kernel
theorem dX3_clientLots_2 : decode cX3_clientLots 2 = .ok (.invokevirtual 61, 3) := by decide +kernel
theorem dX3_clientLots_5 : decode cX3_clientLots 5 = .ok (.getfield 171, 3) := by decide +kernel
theorem dX3_clientLots_8 : decode cX3_clientLots 8 = .ok (.ireturn, 1) := by decide +kernel
theorem dX3_won_0 : decode cX3_won 0 = .ok (.aload_n 0, 1) := by decide +kernel
theorem dX3_won_1 : decode cX3_won 1 = .ok (.iload_n 1, 1) := by decide +kernel
theorem dX3_won_2 : decode cX3_won 2 = .ok (.invokevirtual 61, 3) := by decide +kernel
theorem dX3_won_5 : decode cX3_won 5 = .ok (.getfield 174, 3) := by decide +kernel
theorem dX3_won_8 : decode cX3_won 8 = .ok (.ireturn, 1) := by decide +kernel
theorem dX3_capital_0 : decode cX3_capital 0 = .ok (.aload_n 0, 1) := by decide +kernel
theorem dX3_capital_1 : decode cX3_capital 1 = .ok (.getfield 33, 3) := by decide +kernel
theorem dX3_capital_4 : decode cX3_capital 4 = .ok (.ireturn, 1) := by decide +kernel
theorem dX3_loss_0 : decode cX3_loss 0 = .ok (.aload_n 0, 1) := by decide +kernel
theorem dX3_loss_1 : decode cX3_loss 1 = .ok (.getfield 36, 3) := by decide +kernel
theorem dX3_loss_4 : decode cX3_loss 4 = .ok (.ireturn, 1) := by decide +kernel
theorem dX3_uncovered_0 : decode cX3_uncovered 0 = .ok (.aload_n 0, 1) := by decide +kernel
theorem dX3_uncovered_1 : decode cX3_uncovered 1 = .ok (.getfield 39, 3) := by decide +kernel
theorem dX3_uncovered_4 : decode cX3_uncovered 4 = .ok (.ireturn, 1) := by decide +kernel
theorem dX3_failing_0 : decode cX3_failing 0 = .ok (.aload_n 0, 1) := by decide +kernel
theorem dX3_failing_1 : decode cX3_failing 1 = .ok (.getfield 42, 3) := by decide +kernel
theorem dX3_failing_4 : decode cX3_failing 4 = .ok (.ireturn, 1) := by decide +kernel
theorem dX3_existing_0 : decode cX3_existing 0 = .ok (.iload_n 1, 1) := by decide +kernel
theorem dX3_existing_1 : decode cX3_existing 1 = .ok (.ifCond .lt 11, 3) := by decide +kernel
theorem dX3_existing_4 : decode cX3_existing 4 = .ok (.iload_n 1, 1) := by decide +kernel
theorem dX3_existing_5 : decode cX3_existing 5 = .ok (.aload_n 0, 1) := by decide +kernel
theorem dX3_existing_6 : decode cX3_existing 6 = .ok (.getfield 29, 3) := by decide +kernel
theorem dX3_existing_9 : decode cX3_existing 9 = .ok (.if_icmp .lt 13, 3) := by decide +kernel
theorem dX3_existing_12 : decode cX3_existing 12 = .ok (.new 133, 3) := by decide +kernel
theorem dX3_existing_15 : decode cX3_existing 15 = .ok (.dup, 1) := by decide +kernel
theorem dX3_existing_16 : decode cX3_existing 16 = .ok (.ldc 177, 2) := by decide +kernel
theorem dX3_existing_18 : decode cX3_existing 18 = .ok (.invokespecial 137, 3) := by decide +kernel
theorem dX3_existing_21 : decode cX3_existing 21 = .ok (.athrow, 1) := by decide +kernel
theorem dX3_existing_22 : decode cX3_existing 22 = .ok (.aload_n 0, 1) := by decide +kernel
theorem dX3_existing_23 : decode cX3_existing 23 = .ok (.getfield 11, 3) := by decide +kernel
theorem dX3_existing_26 : decode cX3_existing 26 = .ok (.iload_n 1, 1) := by decide +kernel
theorem dX3_existing_27 : decode cX3_existing 27 = .ok (.aaload, 1) := by decide +kernel
theorem dX3_existing_28 : decode cX3_existing 28 = .ok (.areturn, 1) := by decide +kernel
theorem dX3_requireBetween_0 : decode cX3_requireBetween 0 = .ok (.iload_n 0, 1) := by decide +kernel
theorem dX3_requireBetween_1 : decode cX3_requireBetween 1 = .ok (.iload_n 1, 1) := by decide +kernel
theorem dX3_requireBetween_2 : decode cX3_requireBetween 2 = .ok (.if_icmp .lt 8, 3) := by decide +kernel
theorem dX3_requireBetween_5 : decode cX3_requireBetween 5 = .ok (.iload_n 0, 1) := by decide +kernel
theorem dX3_requireBetween_6 : decode cX3_requireBetween 6 = .ok (.iload_n 2, 1) := by decide +kernel
theorem dX3_requireBetween_7 : decode cX3_requireBetween 7 = .ok (.if_icmp .le 13, 3) := by decide +kernel
theorem dX3_requireBetween_10 : decode cX3_requireBetween 10 = .ok (.new 179, 3) := by decide +kernel
theorem dX3_requireBetween_13 : decode cX3_requireBetween 13 = .ok (.dup, 1) := by decide +kernel
theorem dX3_requireBetween_14 : decode cX3_requireBetween 14 = .ok (.ldc 181, 2) := by decide +kernel
theorem dX3_requireBetween_16 : decode cX3_requireBetween 16 = .ok (.invokespecial 183, 3) := by decide +kernel
theorem dX3_requireBetween_19 : decode cX3_requireBetween 19 = .ok (.athrow, 1) := by decide +kernel
theorem dX3_requireBetween_20 : decode cX3_requireBetween 20 = .ok (.return_, 1) := by decide +kernel
theorem dX3_requireActive_0 : decode cX3_requireActive 0 = .ok (.aload_n 0, 1) := by decide +kernel
theorem dX3_requireActive_1 : decode cX3_requireActive 1 = .ok (.invokevirtual 96, 3) := by decide +kernel
theorem dX3_requireActive_4 : decode cX3_requireActive 4 = .ok (.ifCond .ne 13, 3) := by decide +kernel
theorem dX3_requireActive_7 : decode cX3_requireActive 7 = .ok (.new 51, 3) := by decide +kernel
theorem dX3_requireActive_10 : decode cX3_requireActive 10 = .ok (.dup, 1) := by decide +kernel
theorem dX3_requireActive_11 : decode cX3_requireActive 11 = .ok (.ldc 184, 2) := by decide +kernel
theorem dX3_requireActive_13 : decode cX3_requireActive 13 = .ok (.invokespecial 55, 3) := by decide +kernel
theorem dX3_requireActive_16 : decode cX3_requireActive 16 = .ok (.athrow, 1) := by decide +kernel
theorem dX3_requireActive_17 : decode cX3_requireActive 17 = .ok (.return_, 1) := by decide +kernel
theorem dX3_requireNoFailure_0 : decode cX3_requireNoFailure 0 = .ok (.aload_n 0, 1) := by decide +kernel
theorem dX3_requireNoFailure_1 : decode cX3_requireNoFailure 1 = .ok (.getfield 42, 3) := by decide +kernel
theorem dX3_requireNoFailure_4 : decode cX3_requireNoFailure 4 = .ok (.iconst (-1), 1) := by decide +kernel
theorem dX3_requireNoFailure_5 : decode cX3_requireNoFailure 5 = .ok (.if_icmp .eq 13, 3) := by decide +kernel
theorem dX3_requireNoFailure_8 : decode cX3_requireNoFailure 8 = .ok (.new 51, 3) := by decide +kernel
theorem dX3_requireNoFailure_11 : decode cX3_requireNoFailure 11 = .ok (.dup, 1) := by decide +kernel
theorem dX3_requireNoFailure_12 : decode cX3_requireNoFailure 12 = .ok (.ldc 186, 2) := by decide +kernel
theorem dX3_requireNoFailure_14 : decode cX3_requireNoFailure 14 = .ok (.invokespecial 55, 3) := by decide +kernel
theorem dX3_requireNoFailure_17 : decode cX3_requireNoFailure 17 = .ok (.athrow, 1) := by decide +kernel
theorem dX3_requireNoFailure_18 : decode cX3_requireNoFailure 18 = .ok (.return_, 1) := by decide +kernel
theorem dX3_neededFund_0 : decode cX3_neededFund 0 = .ok (.iconst 0, 1) := by decide +kernel
theorem dX3_neededFund_1 : decode cX3_neededFund 1 = .ok (.istore_n 1, 1) := by decide +kernel
theorem dX3_neededFund_2 : decode cX3_neededFund 2 = .ok (.iconst 0, 1) := by decide +kernel
theorem dX3_neededFund_3 : decode cX3_neededFund 3 = .ok (.istore_n 2, 1) := by decide +kernel
theorem dX3_neededFund_4 : decode cX3_neededFund 4 = .ok (.iconst 0, 1) := by decide +kernel
theorem dX3_neededFund_5 : decode cX3_neededFund 5 = .ok (.istore_n 3, 1) := by decide +kernel
theorem dX3_neededFund_6 : decode cX3_neededFund 6 = .ok (.iload_n 3, 1) := by decide +kernel
theorem dX3_neededFund_7 : decode cX3_neededFund 7 = .ok (.aload_n 0, 1) := by decide +kernel
theorem dX3_neededFund_8 : decode cX3_neededFund 8 = .ok (.getfield 29, 3) := by decide +kernel
theorem dX3_neededFund_11 : decode cX3_neededFund 11 = .ok (.if_icmp .ge 54, 3) := by decide +kernel
theorem dX3_neededFund_14 : decode cX3_neededFund 14 = .ok (.aload_n 0, 1) := by decide +kernel
theorem dX3_neededFund_15 : decode cX3_neededFund 15 = .ok (.getfield 11, 3) := by decide +kernel
theorem dX3_neededFund_18 : decode cX3_neededFund 18 = .ok (.iload_n 3, 1) := by decide +kernel
theorem dX3_neededFund_19 : decode cX3_neededFund 19 = .ok (.aaload, 1) := by decide +kernel
theorem dX3_neededFund_20 : decode cX3_neededFund 20 = .ok (.invokevirtual 96, 3) := by decide +kernel
theorem dX3_neededFund_23 : decode cX3_neededFund 23 = .ok (.ifCond .eq 15, 3) := by decide +kernel
theorem dX3_neededFund_26 : decode cX3_neededFund 26 = .ok (.aload_n 0, 1) := by decide +kernel
theorem dX3_neededFund_27 : decode cX3_neededFund 27 = .ok (.getfield 11, 3) := by decide +kernel
theorem dX3_neededFund_30 : decode cX3_neededFund 30 = .ok (.iload_n 3, 1) := by decide +kernel
theorem dX3_neededFund_31 : decode cX3_neededFund 31 = .ok (.aaload, 1) := by decide +kernel
theorem dX3_neededFund_32 : decode cX3_neededFund 32 = .ok (.getfield 82, 3) := by decide +kernel
theorem dX3_neededFund_35 : decode cX3_neededFund 35 = .ok (.goto 4, 3) := by decide +kernel
theorem dX3_neededFund_38 : decode cX3_neededFund 38 = .ok (.iconst 0, 1) := by decide +kernel
theorem dX3_neededFund_39 : decode cX3_neededFund 39 = .ok (.istore 4, 2) := by decide +kernel
theorem dX3_neededFund_41 : decode cX3_neededFund 41 = .ok (.iload_n 2, 1) := by decide +kernel
theorem dX3_neededFund_42 : decode cX3_neededFund 42 = .ok (.iload 4, 2) := by decide +kernel
theorem dX3_neededFund_44 : decode cX3_neededFund 44 = .ok (.iload_n 1, 1) := by decide +kernel
theorem dX3_neededFund_45 : decode cX3_neededFund 45 = .ok (.invokestatic 188, 3) := by decide +kernel
theorem dX3_neededFund_48 : decode cX3_neededFund 48 = .ok (.invokestatic 150, 3) := by decide +kernel
theorem dX3_neededFund_51 : decode cX3_neededFund 51 = .ok (.istore_n 2, 1) := by decide +kernel
theorem dX3_neededFund_52 : decode cX3_neededFund 52 = .ok (.iload_n 1, 1) := by decide +kernel
theorem dX3_neededFund_53 : decode cX3_neededFund 53 = .ok (.iload 4, 2) := by decide +kernel
theorem dX3_neededFund_55 : decode cX3_neededFund 55 = .ok (.invokestatic 150, 3) := by decide +kernel
theorem dX3_neededFund_58 : decode cX3_neededFund 58 = .ok (.istore_n 1, 1) := by decide +kernel
theorem dX3_neededFund_59 : decode cX3_neededFund 59 = .ok (.iinc 3 1, 3) := by decide +kernel
theorem dX3_neededFund_62 : decode cX3_neededFund 62 = .ok (.goto (-56), 3) := by decide +kernel
theorem dX3_neededFund_65 : decode cX3_neededFund 65 = .ok (.iload_n 1, 1) := by decide +kernel
theorem dX3_neededFund_66 : decode cX3_neededFund 66 = .ok (.iload_n 2, 1) := by decide +kernel
theorem dX3_neededFund_67 : decode cX3_neededFund 67 = .ok (.iadd, 1) := by decide +kernel
theorem dX3_neededFund_68 : decode cX3_neededFund 68 = .ok (.ireturn, 1) := by decide +kernel
theorem dX3_moveClients_0 : decode cX3_moveClients 0 = .ok (.iconst 0, 1) := by decide +kernel
theorem dX3_moveClients_1 : decode cX3_moveClients 1 = .ok (.istore_n 2, 1) := by decide +kernel
theorem dX3_moveClients_2 : decode cX3_moveClients 2 = .ok (.iconst 0, 1) := by decide +kernel
theorem dX3_moveClients_3 : decode cX3_moveClients 3 = .ok (.istore_n 3, 1) := by decide +kernel
theorem dX3_moveClients_4 : decode cX3_moveClients 4 = .ok (.iload_n 3, 1) := by decide +kernel
theorem dX3_moveClients_5 : decode cX3_moveClients 5 = .ok (.aload_n 1, 1) := by decide +kernel
theorem dX3_moveClients_6 : decode cX3_moveClients 6 = .ok (.getfield 191, 3) := by decide +kernel
theorem dX3_moveClients_9 : decode cX3_moveClients 9 = .ok (.if_icmp .ge 31, 3) := by decide +kernel
theorem dX3_moveClients_12 : decode cX3_moveClients 12 = .ok (.aload_n 1, 1) := by decide +kernel
theorem dX3_moveClients_13 : decode cX3_moveClients 13 = .ok (.getfield 194, 3) := by decide +kernel
theorem dX3_moveClients_16 : decode cX3_moveClients 16 = .ok (.iload_n 3, 1) := by decide +kernel
theorem dX3_moveClients_17 : decode cX3_moveClients 17 = .ok (.iaload, 1) := by decide +kernel
theorem dX3_moveClients_18 : decode cX3_moveClients 18 = .ok (.istore 4, 2) := by decide +kernel
theorem dX3_moveClients_20 : decode cX3_moveClients 20 = .ok (.aload_n 0, 1) := by decide +kernel
theorem dX3_moveClients_21 : decode cX3_moveClients 21 = .ok (.iload 4, 2) := by decide +kernel
theorem dX3_moveClients_23 : decode cX3_moveClients 23 = .ok (.invokevirtual 198, 3) := by decide +kernel
theorem dX3_moveClients_26 : decode cX3_moveClients 26 = .ok (.ifCond .ne 8, 3) := by decide +kernel
theorem dX3_moveClients_29 : decode cX3_moveClients 29 = .ok (.iload_n 2, 1) := by decide +kernel
theorem dX3_moveClients_30 : decode cX3_moveClients 30 = .ok (.iload 4, 2) := by decide +kernel
theorem dX3_moveClients_32 : decode cX3_moveClients 32 = .ok (.iadd, 1) := by decide +kernel
theorem dX3_moveClients_33 : decode cX3_moveClients 33 = .ok (.istore_n 2, 1) := by decide +kernel
theorem dX3_moveClients_34 : decode cX3_moveClients 34 = .ok (.iinc 3 1, 3) := by decide +kernel
theorem dX3_moveClients_37 : decode cX3_moveClients 37 = .ok (.goto (-33), 3) := by decide +kernel
theorem dX3_moveClients_40 : decode cX3_moveClients 40 = .ok (.aload_n 1, 1) := by decide +kernel
theorem dX3_moveClients_41 : decode cX3_moveClients 41 = .ok (.invokevirtual 201, 3) := by decide +kernel
theorem dX3_moveClients_44 : decode cX3_moveClients 44 = .ok (.iload_n 2, 1) := by decide +kernel
theorem dX3_moveClients_45 : decode cX3_moveClients 45 = .ok (.ireturn, 1) := by decide +kernel
theorem dX3_findsHost_0 : decode cX3_findsHost 0 = .ok (.iconst 0, 1) := by decide +kernel
theorem dX3_findsHost_1 : decode cX3_findsHost 1 = .ok (.istore_n 2, 1) := by decide +kernel
theorem dX3_findsHost_2 : decode cX3_findsHost 2 = .ok (.iload_n 2, 1) := by decide +kernel
theorem dX3_findsHost_3 : decode cX3_findsHost 3 = .ok (.aload_n 0, 1) := by decide +kernel
theorem dX3_findsHost_4 : decode cX3_findsHost 4 = .ok (.getfield 29, 3) := by decide +kernel
theorem dX3_findsHost_7 : decode cX3_findsHost 7 = .ok (.if_icmp .ge 36, 3) := by decide +kernel
theorem dX3_findsHost_10 : decode cX3_findsHost 10 = .ok (.aload_n 0, 1) := by decide +kernel
theorem dX3_findsHost_11 : decode cX3_findsHost 11 = .ok (.getfield 11, 3) := by decide +kernel
theorem dX3_findsHost_14 : decode cX3_findsHost 14 = .ok (.iload_n 2, 1) := by decide +kernel
theorem dX3_findsHost_15 : decode cX3_findsHost 15 = .ok (.aaload, 1) := by decide +kernel
theorem dX3_findsHost_16 : decode cX3_findsHost 16 = .ok (.invokevirtual 96, 3) := by decide +kernel
theorem dX3_findsHost_19 : decode cX3_findsHost 19 = .ok (.ifCond .eq 18, 3) := by decide +kernel
theorem dX3_findsHost_22 : decode cX3_findsHost 22 = .ok (.aload_n 0, 1) := by decide +kernel
theorem dX3_findsHost_23 : decode cX3_findsHost 23 = .ok (.getfield 11, 3) := by decide +kernel
theorem dX3_findsHost_26 : decode cX3_findsHost 26 = .ok (.iload_n 2, 1) := by decide +kernel
theorem dX3_findsHost_27 : decode cX3_findsHost 27 = .ok (.aaload, 1) := by decide +kernel
theorem dX3_findsHost_28 : decode cX3_findsHost 28 = .ok (.iload_n 1, 1) := by decide +kernel
theorem dX3_findsHost_29 : decode cX3_findsHost 29 = .ok (.invokevirtual 69, 3) := by decide +kernel
theorem dX3_findsHost_32 : decode cX3_findsHost 32 = .ok (.ifCond .eq 5, 3) := by decide +kernel
theorem dX3_findsHost_35 : decode cX3_findsHost 35 = .ok (.iconst 1, 1) := by decide +kernel
theorem dX3_findsHost_36 : decode cX3_findsHost 36 = .ok (.ireturn, 1) := by decide +kernel
theorem dX3_findsHost_37 : decode cX3_findsHost 37 = .ok (.iinc 2 1, 3) := by decide +kernel
theorem dX3_findsHost_40 : decode cX3_findsHost 40 = .ok (.goto (-38), 3) := by decide +kernel
theorem dX3_findsHost_43 : decode cX3_findsHost 43 = .ok (.iconst 0, 1) := by decide +kernel
theorem dX3_findsHost_44 : decode cX3_findsHost 44 = .ok (.ireturn, 1) := by decide +kernel
theorem dX3_awardLots_0 : decode cX3_awardLots 0 = .ok (.iconst 0, 1) := by decide +kernel
theorem dX3_awardLots_1 : decode cX3_awardLots 1 = .ok (.istore_n 1, 1) := by decide +kernel
theorem dX3_awardLots_2 : decode cX3_awardLots 2 = .ok (.iconst 0, 1) := by decide +kernel
theorem dX3_awardLots_3 : decode cX3_awardLots 3 = .ok (.istore_n 2, 1) := by decide +kernel
theorem dX3_awardLots_4 : decode cX3_awardLots 4 = .ok (.iload_n 2, 1) := by decide +kernel
theorem dX3_awardLots_5 : decode cX3_awardLots 5 = .ok (.aload_n 0, 1) := by decide +kernel
theorem dX3_awardLots_6 : decode cX3_awardLots 6 = .ok (.getfield 18, 3) := by decide +kernel
theorem dX3_awardLots_9 : decode cX3_awardLots 9 = .ok (.getfield 204, 3) := by decide +kernel
theorem dX3_awardLots_12 : decode cX3_awardLots 12 = .ok (.if_icmp .ge 59, 3) := by decide +kernel
theorem dX3_awardLots_15 : decode cX3_awardLots 15 = .ok (.aload_n 0, 1) := by decide +kernel
theorem dX3_awardLots_16 : decode cX3_awardLots 16 = .ok (.getfield 18, 3) := by decide +kernel
theorem dX3_awardLots_19 : decode cX3_awardLots 19 = .ok (.iload_n 2, 1) := by decide +kernel
theorem dX3_awardLots_20 : decode cX3_awardLots 20 = .ok (.invokevirtual 207, 3) := by decide +kernel
theorem dX3_awardLots_23 : decode cX3_awardLots 23 = .ok (.istore_n 3, 1) := by decide +kernel
theorem dX3_awardLots_24 : decode cX3_awardLots 24 = .ok (.iload_n 3, 1) := by decide +kernel
theorem dX3_awardLots_25 : decode cX3_awardLots 25 = .ok (.iconst (-1), 1) := by decide +kernel
theorem dX3_awardLots_26 : decode cX3_awardLots 26 = .ok (.if_icmp .ne 12, 3) := by decide +kernel
theorem dX3_awardLots_29 : decode cX3_awardLots 29 = .ok (.iinc 1 1000, 6) := by decide +kernel
theorem dX3_awardLots_35 : decode cX3_awardLots 35 = .ok (.goto 30, 3) := by decide +kernel
theorem dX3_awardLots_38 : decode cX3_awardLots 38 = .ok (.iload_n 1, 1) := by decide +kernel
theorem dX3_awardLots_39 : decode cX3_awardLots 39 = .ok (.aload_n 0, 1) := by decide +kernel
theorem dX3_awardLots_40 : decode cX3_awardLots 40 = .ok (.getfield 18, 3) := by decide +kernel
theorem dX3_awardLots_43 : decode cX3_awardLots 43 = .ok (.iload_n 3, 1) := by decide +kernel
theorem dX3_awardLots_44 : decode cX3_awardLots 44 = .ok (.iload_n 2, 1) := by decide +kernel
theorem dX3_awardLots_45 : decode cX3_awardLots 45 = .ok (.invokevirtual 138, 3) := by decide +kernel
theorem dX3_awardLots_48 : decode cX3_awardLots 48 = .ok (.isub, 1) := by decide +kernel
theorem dX3_awardLots_49 : decode cX3_awardLots 49 = .ok (.istore_n 1, 1) := by decide +kernel
theorem dX3_awardLots_50 : decode cX3_awardLots 50 = .ok (.aload_n 0, 1) := by decide +kernel
theorem dX3_awardLots_51 : decode cX3_awardLots 51 = .ok (.getfield 11, 3) := by decide +kernel
theorem dX3_awardLots_54 : decode cX3_awardLots 54 = .ok (.iload_n 3, 1) := by decide +kernel
theorem dX3_awardLots_55 : decode cX3_awardLots 55 = .ok (.aaload, 1) := by decide +kernel
theorem dX3_awardLots_56 : decode cX3_awardLots 56 = .ok (.dup, 1) := by decide +kernel
theorem dX3_awardLots_57 : decode cX3_awardLots 57 = .ok (.getfield 174, 3) := by decide +kernel
theorem dX3_awardLots_60 : decode cX3_awardLots 60 = .ok (.iconst 1, 1) := by decide +kernel
theorem dX3_awardLots_61 : decode cX3_awardLots 61 = .ok (.iadd, 1) := by decide +kernel
theorem dX3_awardLots_62 : decode cX3_awardLots 62 = .ok (.putfield 174, 3) := by decide +kernel
theorem dX3_awardLots_65 : decode cX3_awardLots 65 = .ok (.iinc 2 1, 3) := by decide +kernel
theorem dX3_awardLots_68 : decode cX3_awardLots 68 = .ok (.goto (-64), 3) := by decide +kernel
theorem dX3_awardLots_71 : decode cX3_awardLots 71 = .ok (.iload_n 1, 1) := by decide +kernel
theorem dX3_awardLots_72 : decode cX3_awardLots 72 = .ok (.ireturn, 1) := by decide +kernel
theorem dX3_rankBidders_0 : decode cX3_rankBidders 0 = .ok (.iconst 0, 1) := by decide +kernel
theorem dX3_rankBidders_1 : decode cX3_rankBidders 1 = .ok (.istore_n 1, 1) := by decide +kernel
theorem dX3_rankBidders_2 : decode cX3_rankBidders 2 = .ok (.iload_n 1, 1) := by decide +kernel
theorem dX3_rankBidders_3 : decode cX3_rankBidders 3 = .ok (.aload_n 0, 1) := by decide +kernel
theorem dX3_rankBidders_4 : decode cX3_rankBidders 4 = .ok (.getfield 29, 3) := by decide +kernel
theorem dX3_rankBidders_7 : decode cX3_rankBidders 7 = .ok (.if_icmp .ge 38, 3) := by decide +kernel
theorem dX3_rankBidders_10 : decode cX3_rankBidders 10 = .ok (.aload_n 0, 1) := by decide +kernel
theorem dX3_rankBidders_11 : decode cX3_rankBidders 11 = .ok (.getfield 11, 3) := by decide +kernel
theorem dX3_rankBidders_14 : decode cX3_rankBidders 14 = .ok (.iload_n 1, 1) := by decide +kernel
theorem dX3_rankBidders_15 : decode cX3_rankBidders 15 = .ok (.aaload, 1) := by decide +kernel
theorem dX3_rankBidders_16 : decode cX3_rankBidders 16 = .ok (.invokevirtual 96, 3) := by decide +kernel
theorem dX3_rankBidders_19 : decode cX3_rankBidders 19 = .ok (.ifCond .eq 20, 3) := by decide +kernel
theorem dX3_rankBidders_22 : decode cX3_rankBidders 22 = .ok (.aload_n 0, 1) := by decide +kernel
theorem dX3_rankBidders_23 : decode cX3_rankBidders 23 = .ok (.getfield 11, 3) := by decide +kernel
theorem dX3_rankBidders_26 : decode cX3_rankBidders 26 = .ok (.iload_n 1, 1) := by decide +kernel
theorem dX3_rankBidders_27 : decode cX3_rankBidders 27 = .ok (.aaload, 1) := by decide +kernel
theorem dX3_rankBidders_28 : decode cX3_rankBidders 28 = .ok (.aload_n 0, 1) := by decide +kernel
theorem dX3_rankBidders_29 : decode cX3_rankBidders 29 = .ok (.getfield 18, 3) := by decide +kernel
theorem dX3_rankBidders_32 : decode cX3_rankBidders 32 = .ok (.iload_n 1, 1) := by decide +kernel
theorem dX3_rankBidders_33 : decode cX3_rankBidders 33 = .ok (.invokevirtual 210, 3) := by decide +kernel
theorem dX3_rankBidders_36 : decode cX3_rankBidders 36 = .ok (.putfield 164, 3) := by decide +kernel
theorem dX3_rankBidders_39 : decode cX3_rankBidders 39 = .ok (.iinc 1 1, 3) := by decide +kernel
theorem dX3_rankBidders_42 : decode cX3_rankBidders 42 = .ok (.goto (-40), 3) := by decide +kernel
theorem dX3_rankBidders_45 : decode cX3_rankBidders 45 = .ok (.return_, 1) := by decide +kernel
theorem dX3_endFailure_0 : decode cX3_endFailure 0 = .ok (.aload_n 1, 1) := by decide +kernel
theorem dX3_endFailure_1 : decode cX3_endFailure 1 = .ok (.invokevirtual 213, 3) := by decide +kernel
theorem dX3_endFailure_4 : decode cX3_endFailure 4 = .ok (.iconst 0, 1) := by decide +kernel
theorem dX3_endFailure_5 : decode cX3_endFailure 5 = .ok (.istore_n 2, 1) := by decide +kernel
theorem dX3_endFailure_6 : decode cX3_endFailure 6 = .ok (.iload_n 2, 1) := by decide +kernel
theorem dX3_endFailure_7 : decode cX3_endFailure 7 = .ok (.aload_n 0, 1) := by decide +kernel
theorem dX3_endFailure_8 : decode cX3_endFailure 8 = .ok (.getfield 29, 3) := by decide +kernel
theorem dX3_endFailure_11 : decode cX3_endFailure 11 = .ok (.if_icmp .ge 41, 3) := by decide +kernel
theorem dX3_endFailure_14 : decode cX3_endFailure 14 = .ok (.aload_n 0, 1) := by decide +kernel
theorem dX3_endFailure_15 : decode cX3_endFailure 15 = .ok (.getfield 11, 3) := by decide +kernel
theorem dX3_endFailure_18 : decode cX3_endFailure 18 = .ok (.iload_n 2, 1) := by decide +kernel
theorem dX3_endFailure_19 : decode cX3_endFailure 19 = .ok (.aaload, 1) := by decide +kernel
theorem dX3_endFailure_20 : decode cX3_endFailure 20 = .ok (.getfield 85, 3) := by decide +kernel
theorem dX3_endFailure_23 : decode cX3_endFailure 23 = .ok (.iconst 1, 1) := by decide +kernel
theorem dX3_endFailure_24 : decode cX3_endFailure 24 = .ok (.if_icmp .ne 22, 3) := by decide +kernel
theorem dX3_endFailure_27 : decode cX3_endFailure 27 = .ok (.aload_n 0, 1) := by decide +kernel
theorem dX3_endFailure_28 : decode cX3_endFailure 28 = .ok (.getfield 11, 3) := by decide +kernel
theorem dX3_endFailure_31 : decode cX3_endFailure 31 = .ok (.iload_n 2, 1) := by decide +kernel
theorem dX3_endFailure_32 : decode cX3_endFailure 32 = .ok (.aaload, 1) := by decide +kernel
theorem dX3_endFailure_33 : decode cX3_endFailure 33 = .ok (.iconst 3, 1) := by decide +kernel
theorem dX3_endFailure_34 : decode cX3_endFailure 34 = .ok (.putfield 85, 3) := by decide +kernel
theorem dX3_endFailure_37 : decode cX3_endFailure 37 = .ok (.aload_n 0, 1) := by decide +kernel
theorem dX3_endFailure_38 : decode cX3_endFailure 38 = .ok (.getfield 11, 3) := by decide +kernel
theorem dX3_endFailure_41 : decode cX3_endFailure 41 = .ok (.iload_n 2, 1) := by decide +kernel
theorem dX3_endFailure_42 : decode cX3_endFailure 42 = .ok (.aaload, 1) := by decide +kernel
theorem dX3_endFailure_43 : decode cX3_endFailure 43 = .ok (.invokevirtual 213, 3) := by decide +kernel
theorem dX3_endFailure_46 : decode cX3_endFailure 46 = .ok (.iinc 2 1, 3) := by decide +kernel
theorem dX3_endFailure_49 : decode cX3_endFailure 49 = .ok (.goto (-43), 3) := by decide +kernel
theorem dX3_endFailure_52 : decode cX3_endFailure 52 = .ok (.aload_n 0, 1) := by decide +kernel
theorem dX3_endFailure_53 : decode cX3_endFailure 53 = .ok (.iconst (-1), 1) := by decide +kernel
theorem dX3_endFailure_54 : decode cX3_endFailure 54 = .ok (.putfield 42, 3) := by decide +kernel
theorem dX3_endFailure_57 : decode cX3_endFailure 57 = .ok (.return_, 1) := by decide +kernel
theorem dX3_eatLoss_0 : decode cX3_eatLoss 0 = .ok (.aload_n 0, 1) := by decide +kernel
theorem dX3_eatLoss_1 : decode cX3_eatLoss 1 = .ok (.getfield 36, 3) := by decide +kernel
theorem dX3_eatLoss_4 : decode cX3_eatLoss 4 = .ok (.istore_n 2, 1) := by decide +kernel
theorem dX3_eatLoss_5 : decode cX3_eatLoss 5 = .ok (.iload_n 2, 1) := by decide +kernel
theorem dX3_eatLoss_6 : decode cX3_eatLoss 6 = .ok (.iload_n 2, 1) := by decide +kernel
theorem dX3_eatLoss_7 : decode cX3_eatLoss 7 = .ok (.aload_n 1, 1) := by decide +kernel
theorem dX3_eatLoss_8 : decode cX3_eatLoss 8 = .ok (.getfield 100, 3) := by decide +kernel
theorem dX3_eatLoss_11 : decode cX3_eatLoss 11 = .ok (.invokestatic 188, 3) := by decide +kernel
theorem dX3_eatLoss_14 : decode cX3_eatLoss 14 = .ok (.isub, 1) := by decide +kernel
theorem dX3_eatLoss_15 : decode cX3_eatLoss 15 = .ok (.istore_n 2, 1) := by decide +kernel
theorem dX3_eatLoss_16 : decode cX3_eatLoss 16 = .ok (.iload_n 2, 1) := by decide +kernel
theorem dX3_eatLoss_17 : decode cX3_eatLoss 17 = .ok (.iload_n 2, 1) := by decide +kernel
theorem dX3_eatLoss_18 : decode cX3_eatLoss 18 = .ok (.aload_n 1, 1) := by decide +kernel
theorem dX3_eatLoss_19 : decode cX3_eatLoss 19 = .ok (.getfield 116, 3) := by decide +kernel
theorem dX3_eatLoss_22 : decode cX3_eatLoss 22 = .ok (.invokestatic 188, 3) := by decide +kernel
theorem dX3_eatLoss_25 : decode cX3_eatLoss 25 = .ok (.isub, 1) := by decide +kernel
theorem dX3_eatLoss_26 : decode cX3_eatLoss 26 = .ok (.istore_n 2, 1) := by decide +kernel
theorem dX3_eatLoss_27 : decode cX3_eatLoss 27 = .ok (.iload_n 2, 1) := by decide +kernel
theorem dX3_eatLoss_28 : decode cX3_eatLoss 28 = .ok (.aload_n 0, 1) := by decide +kernel
theorem dX3_eatLoss_29 : decode cX3_eatLoss 29 = .ok (.getfield 33, 3) := by decide +kernel
theorem dX3_eatLoss_32 : decode cX3_eatLoss 32 = .ok (.invokestatic 188, 3) := by decide +kernel
theorem dX3_eatLoss_35 : decode cX3_eatLoss 35 = .ok (.istore_n 3, 1) := by decide +kernel
theorem dX3_eatLoss_36 : decode cX3_eatLoss 36 = .ok (.aload_n 0, 1) := by decide +kernel
theorem dX3_eatLoss_37 : decode cX3_eatLoss 37 = .ok (.dup, 1) := by decide +kernel
theorem dX3_eatLoss_38 : decode cX3_eatLoss 38 = .ok (.getfield 33, 3) := by decide +kernel
theorem dX3_eatLoss_41 : decode cX3_eatLoss 41 = .ok (.iload_n 3, 1) := by decide +kernel
theorem dX3_eatLoss_42 : decode cX3_eatLoss 42 = .ok (.isub, 1) := by decide +kernel
theorem dX3_eatLoss_43 : decode cX3_eatLoss 43 = .ok (.putfield 33, 3) := by decide +kernel
theorem dX3_eatLoss_46 : decode cX3_eatLoss 46 = .ok (.iload_n 2, 1) := by decide +kernel
theorem dX3_eatLoss_47 : decode cX3_eatLoss 47 = .ok (.iload_n 3, 1) := by decide +kernel
theorem dX3_eatLoss_48 : decode cX3_eatLoss 48 = .ok (.isub, 1) := by decide +kernel
theorem dX3_eatLoss_49 : decode cX3_eatLoss 49 = .ok (.istore_n 2, 1) := by decide +kernel
theorem dX3_eatLoss_50 : decode cX3_eatLoss 50 = .ok (.aload_n 0, 1) := by decide +kernel
theorem dX3_eatLoss_51 : decode cX3_eatLoss 51 = .ok (.iload_n 2, 1) := by decide +kernel
theorem dX3_eatLoss_52 : decode cX3_eatLoss 52 = .ok (.iconst 1, 1) := by decide +kernel
theorem dX3_eatLoss_53 : decode cX3_eatLoss 53 = .ok (.invokevirtual 216, 3) := by decide +kernel
theorem dX3_eatLoss_56 : decode cX3_eatLoss 56 = .ok (.istore_n 2, 1) := by decide +kernel
theorem dX3_eatLoss_57 : decode cX3_eatLoss 57 = .ok (.aload_n 0, 1) := by decide +kernel
theorem dX3_eatLoss_58 : decode cX3_eatLoss 58 = .ok (.iload_n 2, 1) := by decide +kernel
theorem dX3_eatLoss_59 : decode cX3_eatLoss 59 = .ok (.iconst 0, 1) := by decide +kernel
theorem dX3_eatLoss_60 : decode cX3_eatLoss 60 = .ok (.invokevirtual 216, 3) := by decide +kernel
theorem dX3_eatLoss_63 : decode cX3_eatLoss 63 = .ok (.istore_n 2, 1) := by decide +kernel
theorem dX3_eatLoss_64 : decode cX3_eatLoss 64 = .ok (.aload_n 0, 1) := by decide +kernel
theorem dX3_eatLoss_65 : decode cX3_eatLoss 65 = .ok (.iload_n 2, 1) := by decide +kernel
theorem dX3_eatLoss_66 : decode cX3_eatLoss 66 = .ok (.invokevirtual 220, 3) := by decide +kernel
theorem dX3_eatLoss_69 : decode cX3_eatLoss 69 = .ok (.istore_n 2, 1) := by decide +kernel
theorem dX3_eatLoss_70 : decode cX3_eatLoss 70 = .ok (.aload_n 0, 1) := by decide +kernel
theorem dX3_eatLoss_71 : decode cX3_eatLoss 71 = .ok (.iload_n 2, 1) := by decide +kernel
theorem dX3_eatLoss_72 : decode cX3_eatLoss 72 = .ok (.invokevirtual 223, 3) := by decide +kernel
theorem dX3_eatLoss_75 : decode cX3_eatLoss 75 = .ok (.ireturn, 1) := by decide +kernel
