theorem dX4_init_0 : decode cX4_init 0 = .ok (.aload_n 0, 1) := by decide +kernel
theorem dX4_init_1 : decode cX4_init 1 = .ok (.invokespecial 1, 3) := by decide +kernel
theorem dX4_init_4 : decode cX4_init 4 = .ok (.aload_n 0, 1) := by decide +kernel
theorem dX4_init_5 : decode cX4_init 5 = .ok (.bipush 10, 2) := by decide +kernel
theorem dX4_init_7 : decode cX4_init 7 = .ok (.newarray .int, 2) := by decide +kernel
theorem dX4_init_9 : decode cX4_init 9 = .ok (.putfield 7, 3) := by decide +kernel
theorem dX4_init_12 : decode cX4_init 12 = .ok (.aload_n 0, 1) := by decide +kernel
theorem dX4_init_13 : decode cX4_init 13 = .ok (.bipush 10, 2) := by decide +kernel
theorem dX4_init_15 : decode cX4_init 15 = .ok (.newarray .int, 2) := by decide +kernel
theorem dX4_init_17 : decode cX4_init 17 = .ok (.putfield 13, 3) := by decide +kernel
theorem dX4_init_20 : decode cX4_init 20 = .ok (.aload_n 0, 1) := by decide +kernel
theorem dX4_init_21 : decode cX4_init 21 = .ok (.bipush 10, 2) := by decide +kernel
theorem dX4_init_23 : decode cX4_init 23 = .ok (.newarray .int, 2) := by decide +kernel
theorem dX4_init_25 : decode cX4_init 25 = .ok (.putfield 16, 3) := by decide +kernel
theorem dX4_init_28 : decode cX4_init 28 = .ok (.aload_n 0, 1) := by decide +kernel
theorem dX4_init_29 : decode cX4_init 29 = .ok (.bipush 10, 2) := by decide +kernel
theorem dX4_init_31 : decode cX4_init 31 = .ok (.newarray .int, 2) := by decide +kernel
theorem dX4_init_33 : decode cX4_init 33 = .ok (.putfield 19, 3) := by decide +kernel
theorem dX4_init_36 : decode cX4_init 36 = .ok (.aload_n 0, 1) := by decide +kernel
theorem dX4_init_37 : decode cX4_init 37 = .ok (.bipush 10, 2) := by decide +kernel
theorem dX4_init_39 : decode cX4_init 39 = .ok (.newarray .int, 2) := by decide +kernel
theorem dX4_init_41 : decode cX4_init 41 = .ok (.putfield 22, 3) := by decide +kernel
theorem dX4_init_44 : decode cX4_init 44 = .ok (.aload_n 0, 1) := by decide +kernel
theorem dX4_init_45 : decode cX4_init 45 = .ok (.bipush 10, 2) := by decide +kernel
theorem dX4_init_47 : decode cX4_init 47 = .ok (.newarray .int, 2) := by decide +kernel
theorem dX4_init_49 : decode cX4_init 49 = .ok (.putfield 25, 3) := by decide +kernel
theorem dX4_init_52 : decode cX4_init 52 = .ok (.aload_n 0, 1) := by decide +kernel
theorem dX4_init_53 : decode cX4_init 53 = .ok (.bipush 10, 2) := by decide +kernel
theorem dX4_init_55 : decode cX4_init 55 = .ok (.newarray .int, 2) := by decide +kernel
theorem dX4_init_57 : decode cX4_init 57 = .ok (.putfield 28, 3) := by decide +kernel
theorem dX4_init_60 : decode cX4_init 60 = .ok (.aload_n 0, 1) := by decide +kernel
theorem dX4_init_61 : decode cX4_init 61 = .ok (.bipush 10, 2) := by decide +kernel
theorem dX4_init_63 : decode cX4_init 63 = .ok (.newarray .int, 2) := by decide +kernel
theorem dX4_init_65 : decode cX4_init 65 = .ok (.putfield 31, 3) := by decide +kernel
theorem dX4_init_68 : decode cX4_init 68 = .ok (.aload_n 0, 1) := by decide +kernel
theorem dX4_init_69 : decode cX4_init 69 = .ok (.bipush 10, 2) := by decide +kernel
theorem dX4_init_71 : decode cX4_init 71 = .ok (.newarray .int, 2) := by decide +kernel
theorem dX4_init_73 : decode cX4_init 73 = .ok (.putfield 34, 3) := by decide +kernel
theorem dX4_init_76 : decode cX4_init 76 = .ok (.aload_n 0, 1) := by decide +kernel
theorem dX4_init_77 : decode cX4_init 77 = .ok (.sipush 1000, 3) := by decide +kernel
theorem dX4_init_80 : decode cX4_init 80 = .ok (.newarray .int, 2) := by decide +kernel
theorem dX4_init_82 : decode cX4_init 82 = .ok (.putfield 37, 3) := by decide +kernel
theorem dX4_init_85 : decode cX4_init 85 = .ok (.aload_n 0, 1) := by decide +kernel
theorem dX4_init_86 : decode cX4_init 86 = .ok (.sipush 1000, 3) := by decide +kernel
theorem dX4_init_89 : decode cX4_init 89 = .ok (.newarray .int, 2) := by decide +kernel
theorem dX4_init_91 : decode cX4_init 91 = .ok (.putfield 40, 3) := by decide +kernel
theorem dX4_init_94 : decode cX4_init 94 = .ok (.aload_n 0, 1) := by decide +kernel
theorem dX4_init_95 : decode cX4_init 95 = .ok (.sipush 1000, 3) := by decide +kernel
theorem dX4_init_98 : decode cX4_init 98 = .ok (.newarray .int, 2) := by decide +kernel
theorem dX4_init_100 : decode cX4_init 100 = .ok (.putfield 43, 3) := by decide +kernel
theorem dX4_init_103 : decode cX4_init 103 = .ok (.aload_n 0, 1) := by decide +kernel
theorem dX4_init_104 : decode cX4_init 104 = .ok (.iconst (-1), 1) := by decide +kernel
theorem dX4_init_105 : decode cX4_init 105 = .ok (.putfield 46, 3) := by decide +kernel
theorem dX4_init_108 : decode cX4_init 108 = .ok (.aload_n 0, 1) := by decide +kernel
theorem dX4_init_109 : decode cX4_init 109 = .ok (.sipush 1200, 3) := by decide +kernel
theorem dX4_init_112 : decode cX4_init 112 = .ok (.newarray .int, 2) := by decide +kernel
theorem dX4_init_114 : decode cX4_init 114 = .ok (.putfield 50, 3) := by decide +kernel
theorem dX4_init_117 : decode cX4_init 117 = .ok (.aload_n 0, 1) := by decide +kernel
theorem dX4_init_118 : decode cX4_init 118 = .ok (.bipush 10, 2) := by decide +kernel
theorem dX4_init_120 : decode cX4_init 120 = .ok (.newarray .int, 2) := by decide +kernel
theorem dX4_init_122 : decode cX4_init 122 = .ok (.putfield 53, 3) := by decide +kernel
theorem dX4_init_125 : decode cX4_init 125 = .ok (.aload_n 0, 1) := by decide +kernel
theorem dX4_init_126 : decode cX4_init 126 = .ok (.bipush 10, 2) := by decide +kernel
theorem dX4_init_128 : decode cX4_init 128 = .ok (.newarray .int, 2) := by decide +kernel
theorem dX4_init_130 : decode cX4_init 130 = .ok (.putfield 56, 3) := by decide +kernel
theorem dX4_init_133 : decode cX4_init 133 = .ok (.aload_n 0, 1) := by decide +kernel
theorem dX4_init_134 : decode cX4_init 134 = .ok (.bipush 10, 2) := by decide +kernel
theorem dX4_init_136 : decode cX4_init 136 = .ok (.newarray .int, 2) := by decide +kernel
theorem dX4_init_138 : decode cX4_init 138 = .ok (.putfield 59, 3) := by decide +kernel
theorem dX4_init_141 : decode cX4_init 141 = .ok (.aload_n 0, 1) := by decide +kernel
theorem dX4_init_142 : decode cX4_init 142 = .ok (.bipush 10, 2) := by decide +kernel
theorem dX4_init_144 : decode cX4_init 144 = .ok (.newarray .int, 2) := by decide +kernel
theorem dX4_init_146 : decode cX4_init 146 = .ok (.putfield 62, 3) := by decide +kernel
theorem dX4_init_149 : decode cX4_init 149 = .ok (.return_, 1) := by decide +kernel
theorem dX4_thrown_0 : decode cX4_thrown 0 = .ok (.aload_n 0, 1) := by decide +kernel
theorem dX4_thrown_1 : decode cX4_thrown 1 = .ok (.getfield 65, 3) := by decide +kernel
theorem dX4_thrown_4 : decode cX4_thrown 4 = .ok (.ireturn, 1) := by decide +kernel
theorem dX4_fails_0 : decode cX4_fails 0 = .ok (.aload_n 0, 1) := by decide +kernel
theorem dX4_fails_1 : decode cX4_fails 1 = .ok (.iload_n 1, 1) := by decide +kernel
theorem dX4_fails_2 : decode cX4_fails 2 = .ok (.putfield 65, 3) := by decide +kernel
theorem dX4_fails_5 : decode cX4_fails 5 = .ok (.iconst 0, 1) := by decide +kernel
theorem dX4_fails_6 : decode cX4_fails 6 = .ok (.ireturn, 1) := by decide +kernel
theorem dX4_in_0 : decode cX4_in 0 = .ok (.iload_n 0, 1) := by decide +kernel
theorem dX4_in_1 : decode cX4_in 1 = .ok (.iload_n 1, 1) := by decide +kernel
theorem dX4_in_2 : decode cX4_in 2 = .ok (.if_icmp .lt 12, 3) := by decide +kernel
theorem dX4_in_5 : decode cX4_in 5 = .ok (.iload_n 0, 1) := by decide +kernel
theorem dX4_in_6 : decode cX4_in 6 = .ok (.iload_n 2, 1) := by decide +kernel
theorem dX4_in_7 : decode cX4_in 7 = .ok (.if_icmp .gt 7, 3) := by decide +kernel
theorem dX4_in_10 : decode cX4_in 10 = .ok (.iconst 1, 1) := by decide +kernel
theorem dX4_in_11 : decode cX4_in 11 = .ok (.goto 4, 3) := by decide +kernel
theorem dX4_in_14 : decode cX4_in 14 = .ok (.iconst 0, 1) := by decide +kernel
theorem dX4_in_15 : decode cX4_in 15 = .ok (.ireturn, 1) := by decide +kernel
theorem dX4_isMember_0 : decode cX4_isMember 0 = .ok (.iload_n 1, 1) := by decide +kernel
theorem dX4_isMember_1 : decode cX4_isMember 1 = .ok (.iconst 0, 1) := by decide +kernel
theorem dX4_isMember_2 : decode cX4_isMember 2 = .ok (.aload_n 0, 1) := by decide +kernel
theorem dX4_isMember_3 : decode cX4_isMember 3 = .ok (.getfield 68, 3) := by decide +kernel
theorem dX4_isMember_6 : decode cX4_isMember 6 = .ok (.iconst 1, 1) := by decide +kernel
theorem dX4_isMember_7 : decode cX4_isMember 7 = .ok (.isub, 1) := by decide +kernel
theorem dX4_isMember_8 : decode cX4_isMember 8 = .ok (.invokestatic 71, 3) := by decide +kernel
theorem dX4_isMember_11 : decode cX4_isMember 11 = .ok (.ireturn, 1) := by decide +kernel
theorem dX4_isActive_0 : decode cX4_isActive 0 = .ok (.aload_n 0, 1) := by decide +kernel
theorem dX4_isActive_1 : decode cX4_isActive 1 = .ok (.getfield 25, 3) := by decide +kernel
theorem dX4_isActive_4 : decode cX4_isActive 4 = .ok (.iload_n 1, 1) := by decide +kernel
theorem dX4_isActive_5 : decode cX4_isActive 5 = .ok (.iaload, 1) := by decide +kernel
theorem dX4_isActive_6 : decode cX4_isActive 6 = .ok (.ifCond .eq 13, 3) := by decide +kernel
theorem dX4_isActive_9 : decode cX4_isActive 9 = .ok (.aload_n 0, 1) := by decide +kernel
theorem dX4_isActive_10 : decode cX4_isActive 10 = .ok (.getfield 25, 3) := by decide +kernel
theorem dX4_isActive_13 : decode cX4_isActive 13 = .ok (.iload_n 1, 1) := by decide +kernel
theorem dX4_isActive_14 : decode cX4_isActive 14 = .ok (.iaload, 1) := by decide +kernel
theorem dX4_isActive_15 : decode cX4_isActive 15 = .ok (.iconst 1, 1) := by decide +kernel
theorem dX4_isActive_16 : decode cX4_isActive 16 = .ok (.if_icmp .ne 7, 3) := by decide +kernel
theorem dX4_isActive_19 : decode cX4_isActive 19 = .ok (.iconst 1, 1) := by decide +kernel
theorem dX4_isActive_20 : decode cX4_isActive 20 = .ok (.goto 4, 3) := by decide +kernel
theorem dX4_isActive_23 : decode cX4_isActive 23 = .ok (.iconst 0, 1) := by decide +kernel
theorem dX4_isActive_24 : decode cX4_isActive 24 = .ok (.ireturn, 1) := by decide +kernel
theorem dX4_addMember_0 : decode cX4_addMember 0 = .ok (.aload_n 0, 1) := by decide +kernel
theorem dX4_addMember_1 : decode cX4_addMember 1 = .ok (.iconst 0, 1) := by decide +kernel
theorem dX4_addMember_2 : decode cX4_addMember 2 = .ok (.putfield 65, 3) := by decide +kernel
theorem dX4_addMember_5 : decode cX4_addMember 5 = .ok (.iload_n 1, 1) := by decide +kernel
theorem dX4_addMember_6 : decode cX4_addMember 6 = .ok (.iconst 0, 1) := by decide +kernel
theorem dX4_addMember_7 : decode cX4_addMember 7 = .ok (.ldc 75, 2) := by decide +kernel
theorem dX4_addMember_9 : decode cX4_addMember 9 = .ok (.invokestatic 71, 3) := by decide +kernel
theorem dX4_addMember_12 : decode cX4_addMember 12 = .ok (.ifCond .eq 23, 3) := by decide +kernel
theorem dX4_addMember_15 : decode cX4_addMember 15 = .ok (.iload_n 2, 1) := by decide +kernel
theorem dX4_addMember_16 : decode cX4_addMember 16 = .ok (.iconst 0, 1) := by decide +kernel
theorem dX4_addMember_17 : decode cX4_addMember 17 = .ok (.ldc 75, 2) := by decide +kernel
theorem dX4_addMember_19 : decode cX4_addMember 19 = .ok (.invokestatic 71, 3) := by decide +kernel
theorem dX4_addMember_22 : decode cX4_addMember 22 = .ok (.ifCond .eq 13, 3) := by decide +kernel
theorem dX4_addMember_25 : decode cX4_addMember 25 = .ok (.iload_n 3, 1) := by decide +kernel
theorem dX4_addMember_26 : decode cX4_addMember 26 = .ok (.iconst 0, 1) := by decide +kernel
theorem dX4_addMember_27 : decode cX4_addMember 27 = .ok (.bipush 100, 2) := by decide +kernel
theorem dX4_addMember_29 : decode cX4_addMember 29 = .ok (.invokestatic 71, 3) := by decide +kernel
theorem dX4_addMember_32 : decode cX4_addMember 32 = .ok (.ifCond .ne 9, 3) := by decide +kernel
theorem dX4_addMember_35 : decode cX4_addMember 35 = .ok (.aload_n 0, 1) := by decide +kernel
theorem dX4_addMember_36 : decode cX4_addMember 36 = .ok (.iconst 1, 1) := by decide +kernel
theorem dX4_addMember_37 : decode cX4_addMember 37 = .ok (.invokevirtual 76, 3) := by decide +kernel
theorem dX4_addMember_40 : decode cX4_addMember 40 = .ok (.ireturn, 1) := by decide +kernel
theorem dX4_addMember_41 : decode cX4_addMember 41 = .ok (.aload_n 0, 1) := by decide +kernel
theorem dX4_addMember_42 : decode cX4_addMember 42 = .ok (.getfield 68, 3) := by decide +kernel
theorem dX4_addMember_45 : decode cX4_addMember 45 = .ok (.bipush 10, 2) := by decide +kernel
theorem dX4_addMember_47 : decode cX4_addMember 47 = .ok (.if_icmp .ne 9, 3) := by decide +kernel
theorem dX4_addMember_50 : decode cX4_addMember 50 = .ok (.aload_n 0, 1) := by decide +kernel
theorem dX4_addMember_51 : decode cX4_addMember 51 = .ok (.iconst 2, 1) := by decide +kernel
theorem dX4_addMember_52 : decode cX4_addMember 52 = .ok (.invokevirtual 76, 3) := by decide +kernel
theorem dX4_addMember_55 : decode cX4_addMember 55 = .ok (.ireturn, 1) := by decide +kernel
theorem dX4_addMember_56 : decode cX4_addMember 56 = .ok (.aload_n 0, 1) := by decide +kernel
theorem dX4_addMember_57 : decode cX4_addMember 57 = .ok (.getfield 7, 3) := by decide +kernel
theorem dX4_addMember_60 : decode cX4_addMember 60 = .ok (.aload_n 0, 1) := by decide +kernel
theorem dX4_addMember_61 : decode cX4_addMember 61 = .ok (.getfield 68, 3) := by decide +kernel
theorem dX4_addMember_64 : decode cX4_addMember 64 = .ok (.iload_n 1, 1) := by decide +kernel
theorem dX4_addMember_65 : decode cX4_addMember 65 = .ok (.iastore, 1) := by decide +kernel
theorem dX4_addMember_66 : decode cX4_addMember 66 = .ok (.aload_n 0, 1) := by decide +kernel
theorem dX4_addMember_67 : decode cX4_addMember 67 = .ok (.getfield 13, 3) := by decide +kernel
theorem dX4_addMember_70 : decode cX4_addMember 70 = .ok (.aload_n 0, 1) := by decide +kernel
theorem dX4_addMember_71 : decode cX4_addMember 71 = .ok (.getfield 68, 3) := by decide +kernel
theorem dX4_addMember_74 : decode cX4_addMember 74 = .ok (.iload_n 2, 1) := by decide +kernel
theorem dX4_addMember_75 : decode cX4_addMember 75 = .ok (.iastore, 1) := by decide +kernel
theorem dX4_addMember_76 : decode cX4_addMember 76 = .ok (.aload_n 0, 1) := by decide +kernel
theorem dX4_addMember_77 : decode cX4_addMember 77 = .ok (.getfield 16, 3) := by decide +kernel
theorem dX4_addMember_80 : decode cX4_addMember 80 = .ok (.aload_n 0, 1) := by decide +kernel
theorem dX4_addMember_81 : decode cX4_addMember 81 = .ok (.getfield 68, 3) := by decide +kernel
theorem dX4_addMember_84 : decode cX4_addMember 84 = .ok (.iload_n 3, 1) := by decide +kernel
theorem dX4_addMember_85 : decode cX4_addMember 85 = .ok (.iastore, 1) := by decide +kernel
theorem dX4_addMember_86 : decode cX4_addMember 86 = .ok (.aload_n 0, 1) := by decide +kernel
theorem dX4_addMember_87 : decode cX4_addMember 87 = .ok (.dup, 1) := by decide +kernel
theorem dX4_addMember_88 : decode cX4_addMember 88 = .ok (.getfield 68, 3) := by decide +kernel
theorem dX4_addMember_91 : decode cX4_addMember 91 = .ok (.iconst 1, 1) := by decide +kernel
theorem dX4_addMember_92 : decode cX4_addMember 92 = .ok (.iadd, 1) := by decide +kernel
theorem dX4_addMember_93 : decode cX4_addMember 93 = .ok (.putfield 68, 3) := by decide +kernel
theorem dX4_addMember_96 : decode cX4_addMember 96 = .ok (.aload_n 0, 1) := by decide +kernel
theorem dX4_addMember_97 : decode cX4_addMember 97 = .ok (.getfield 68, 3) := by decide +kernel
theorem dX4_addMember_100 : decode cX4_addMember 100 = .ok (.iconst 1, 1) := by decide +kernel
theorem dX4_addMember_101 : decode cX4_addMember 101 = .ok (.isub, 1) := by decide +kernel
theorem dX4_addMember_102 : decode cX4_addMember 102 = .ok (.ireturn, 1) := by decide +kernel
theorem dX4_lotsWith_0 : decode cX4_lotsWith 0 = .ok (.iconst 0, 1) := by decide +kernel
theorem dX4_lotsWith_1 : decode cX4_lotsWith 1 = .ok (.istore_n 2, 1) := by decide +kernel
theorem dX4_lotsWith_2 : decode cX4_lotsWith 2 = .ok (.iconst 0, 1) := by decide +kernel
theorem dX4_lotsWith_3 : decode cX4_lotsWith 3 = .ok (.istore_n 3, 1) := by decide +kernel
theorem dX4_lotsWith_4 : decode cX4_lotsWith 4 = .ok (.iload_n 3, 1) := by decide +kernel
theorem dX4_lotsWith_5 : decode cX4_lotsWith 5 = .ok (.aload_n 0, 1) := by decide +kernel
theorem dX4_lotsWith_6 : decode cX4_lotsWith 6 = .ok (.getfield 80, 3) := by decide +kernel
theorem dX4_lotsWith_9 : decode cX4_lotsWith 9 = .ok (.if_icmp .ge 32, 3) := by decide +kernel
theorem dX4_lotsWith_12 : decode cX4_lotsWith 12 = .ok (.iload_n 2, 1) := by decide +kernel
theorem dX4_lotsWith_13 : decode cX4_lotsWith 13 = .ok (.aload_n 0, 1) := by decide +kernel
theorem dX4_lotsWith_14 : decode cX4_lotsWith 14 = .ok (.getfield 37, 3) := by decide +kernel
theorem dX4_lotsWith_17 : decode cX4_lotsWith 17 = .ok (.iload_n 3, 1) := by decide +kernel
theorem dX4_lotsWith_18 : decode cX4_lotsWith 18 = .ok (.iaload, 1) := by decide +kernel
theorem dX4_lotsWith_19 : decode cX4_lotsWith 19 = .ok (.iload_n 1, 1) := by decide +kernel
theorem dX4_lotsWith_20 : decode cX4_lotsWith 20 = .ok (.if_icmp .ne 12, 3) := by decide +kernel
theorem dX4_lotsWith_23 : decode cX4_lotsWith 23 = .ok (.aload_n 0, 1) := by decide +kernel
theorem dX4_lotsWith_24 : decode cX4_lotsWith 24 = .ok (.getfield 40, 3) := by decide +kernel
theorem dX4_lotsWith_27 : decode cX4_lotsWith 27 = .ok (.iload_n 3, 1) := by decide +kernel
theorem dX4_lotsWith_28 : decode cX4_lotsWith 28 = .ok (.iaload, 1) := by decide +kernel
theorem dX4_lotsWith_29 : decode cX4_lotsWith 29 = .ok (.goto 4, 3) := by decide +kernel
theorem dX4_lotsWith_32 : decode cX4_lotsWith 32 = .ok (.iconst 0, 1) := by decide +kernel
theorem dX4_lotsWith_33 : decode cX4_lotsWith 33 = .ok (.iadd, 1) := by decide +kernel
theorem dX4_lotsWith_34 : decode cX4_lotsWith 34 = .ok (.istore_n 2, 1) := by decide +kernel
theorem dX4_lotsWith_35 : decode cX4_lotsWith 35 = .ok (.iinc 3 1, 3) := by decide +kernel
theorem dX4_lotsWith_38 : decode cX4_lotsWith 38 = .ok (.goto (-34), 3) := by decide +kernel
theorem dX4_lotsWith_41 : decode cX4_lotsWith 41 = .ok (.iload_n 2, 1) := by decide +kernel
theorem dX4_lotsWith_42 : decode cX4_lotsWith 42 = .ok (.ireturn, 1) := by decide +kernel
theorem dX4_roomOf_0 : decode cX4_roomOf 0 = .ok (.aload_n 0, 1) := by decide +kernel
theorem dX4_roomOf_1 : decode cX4_roomOf 1 = .ok (.getfield 16, 3) := by decide +kernel
theorem dX4_roomOf_4 : decode cX4_roomOf 4 = .ok (.iload_n 1, 1) := by decide +kernel
theorem dX4_roomOf_5 : decode cX4_roomOf 5 = .ok (.iaload, 1) := by decide +kernel
theorem dX4_roomOf_6 : decode cX4_roomOf 6 = .ok (.aload_n 0, 1) := by decide +kernel
theorem dX4_roomOf_7 : decode cX4_roomOf 7 = .ok (.iload_n 1, 1) := by decide +kernel
theorem dX4_roomOf_8 : decode cX4_roomOf 8 = .ok (.invokevirtual 83, 3) := by decide +kernel
theorem dX4_roomOf_11 : decode cX4_roomOf 11 = .ok (.isub, 1) := by decide +kernel
theorem dX4_roomOf_12 : decode cX4_roomOf 12 = .ok (.ireturn, 1) := by decide +kernel
theorem dX4_addClient_0 : decode cX4_addClient 0 = .ok (.aload_n 0, 1) := by decide +kernel
theorem dX4_addClient_1 : decode cX4_addClient 1 = .ok (.iconst 0, 1) := by decide +kernel
theorem dX4_addClient_2 : decode cX4_addClient 2 = .ok (.putfield 65, 3) := by decide +kernel
theorem dX4_addClient_5 : decode cX4_addClient 5 = .ok (.aload_n 0, 1) := by decide +kernel
theorem dX4_addClient_6 : decode cX4_addClient 6 = .ok (.iload_n 1, 1) := by decide +kernel
theorem dX4_addClient_7 : decode cX4_addClient 7 = .ok (.invokevirtual 86, 3) := by decide +kernel
theorem dX4_addClient_10 : decode cX4_addClient 10 = .ok (.ifCond .ne 9, 3) := by decide +kernel
theorem dX4_addClient_13 : decode cX4_addClient 13 = .ok (.aload_n 0, 1) := by decide +kernel
theorem dX4_addClient_14 : decode cX4_addClient 14 = .ok (.iconst 1, 1) := by decide +kernel
theorem dX4_addClient_15 : decode cX4_addClient 15 = .ok (.invokevirtual 76, 3) := by decide +kernel
theorem dX4_addClient_18 : decode cX4_addClient 18 = .ok (.ireturn, 1) := by decide +kernel
theorem dX4_addClient_19 : decode cX4_addClient 19 = .ok (.iload_n 2, 1) := by decide +kernel
theorem dX4_addClient_20 : decode cX4_addClient 20 = .ok (.iconst 1, 1) := by decide +kernel
theorem dX4_addClient_21 : decode cX4_addClient 21 = .ok (.bipush 20, 2) := by decide +kernel
theorem dX4_addClient_23 : decode cX4_addClient 23 = .ok (.invokestatic 71, 3) := by decide +kernel
theorem dX4_addClient_26 : decode cX4_addClient 26 = .ok (.ifCond .ne 9, 3) := by decide +kernel
theorem dX4_addClient_29 : decode cX4_addClient 29 = .ok (.aload_n 0, 1) := by decide +kernel
theorem dX4_addClient_30 : decode cX4_addClient 30 = .ok (.iconst 2, 1) := by decide +kernel
theorem dX4_addClient_31 : decode cX4_addClient 31 = .ok (.invokevirtual 76, 3) := by decide +kernel
theorem dX4_addClient_34 : decode cX4_addClient 34 = .ok (.ireturn, 1) := by decide +kernel
theorem dX4_addClient_35 : decode cX4_addClient 35 = .ok (.aload_n 0, 1) := by decide +kernel
theorem dX4_addClient_36 : decode cX4_addClient 36 = .ok (.iload_n 1, 1) := by decide +kernel
theorem dX4_addClient_37 : decode cX4_addClient 37 = .ok (.invokevirtual 90, 3) := by decide +kernel
theorem dX4_addClient_40 : decode cX4_addClient 40 = .ok (.ifCond .eq 12, 3) := by decide +kernel
theorem dX4_addClient_43 : decode cX4_addClient 43 = .ok (.aload_n 0, 1) := by decide +kernel
theorem dX4_addClient_44 : decode cX4_addClient 44 = .ok (.iload_n 1, 1) := by decide +kernel
theorem dX4_addClient_45 : decode cX4_addClient 45 = .ok (.invokevirtual 93, 3) := by decide +kernel
theorem dX4_addClient_48 : decode cX4_addClient 48 = .ok (.iload_n 2, 1) := by decide +kernel
theorem dX4_addClient_49 : decode cX4_addClient 49 = .ok (.if_icmp .ge 9, 3) := by decide +kernel
theorem dX4_addClient_52 : decode cX4_addClient 52 = .ok (.aload_n 0, 1) := by decide +kernel
theorem dX4_addClient_53 : decode cX4_addClient 53 = .ok (.iconst 3, 1) := by decide +kernel
theorem dX4_addClient_54 : decode cX4_addClient 54 = .ok (.invokevirtual 76, 3) := by decide +kernel
theorem dX4_addClient_57 : decode cX4_addClient 57 = .ok (.ireturn, 1) := by decide +kernel
theorem dX4_addClient_58 : decode cX4_addClient 58 = .ok (.aload_n 0, 1) := by decide +kernel
theorem dX4_addClient_59 : decode cX4_addClient 59 = .ok (.getfield 37, 3) := by decide +kernel
theorem dX4_addClient_62 : decode cX4_addClient 62 = .ok (.aload_n 0, 1) := by decide +kernel
theorem dX4_addClient_63 : decode cX4_addClient 63 = .ok (.getfield 80, 3) := by decide +kernel
theorem dX4_addClient_66 : decode cX4_addClient 66 = .ok (.iload_n 1, 1) := by decide +kernel
theorem dX4_addClient_67 : decode cX4_addClient 67 = .ok (.iastore, 1) := by decide +kernel
theorem dX4_addClient_68 : decode cX4_addClient 68 = .ok (.aload_n 0, 1) := by decide +kernel
theorem dX4_addClient_69 : decode cX4_addClient 69 = .ok (.getfield 40, 3) := by decide +kernel
theorem dX4_addClient_72 : decode cX4_addClient 72 = .ok (.aload_n 0, 1) := by decide +kernel
theorem dX4_addClient_73 : decode cX4_addClient 73 = .ok (.getfield 80, 3) := by decide +kernel
theorem dX4_addClient_76 : decode cX4_addClient 76 = .ok (.iload_n 2, 1) := by decide +kernel
theorem dX4_addClient_77 : decode cX4_addClient 77 = .ok (.iastore, 1) := by decide +kernel
theorem dX4_addClient_78 : decode cX4_addClient 78 = .ok (.aload_n 0, 1) := by decide +kernel
theorem dX4_addClient_79 : decode cX4_addClient 79 = .ok (.getfield 43, 3) := by decide +kernel
theorem dX4_addClient_82 : decode cX4_addClient 82 = .ok (.aload_n 0, 1) := by decide +kernel
theorem dX4_addClient_83 : decode cX4_addClient 83 = .ok (.getfield 80, 3) := by decide +kernel
theorem dX4_addClient_86 : decode cX4_addClient 86 = .ok (.aload_n 0, 1) := by decide +kernel
theorem dX4_addClient_87 : decode cX4_addClient 87 = .ok (.getfield 96, 3) := by decide +kernel
theorem dX4_addClient_90 : decode cX4_addClient 90 = .ok (.iastore, 1) := by decide +kernel
theorem dX4_addClient_91 : decode cX4_addClient 91 = .ok (.aload_n 0, 1) := by decide +kernel
theorem dX4_addClient_92 : decode cX4_addClient 92 = .ok (.dup, 1) := by decide +kernel
theorem dX4_addClient_93 : decode cX4_addClient 93 = .ok (.getfield 96, 3) := by decide +kernel
theorem dX4_addClient_96 : decode cX4_addClient 96 = .ok (.iconst 1, 1) := by decide +kernel
theorem dX4_addClient_97 : decode cX4_addClient 97 = .ok (.iadd, 1) := by decide +kernel
theorem dX4_addClient_98 : decode cX4_addClient 98 = .ok (.putfield 96, 3) := by decide +kernel
theorem dX4_addClient_101 : decode cX4_addClient 101 = .ok (.aload_n 0, 1) := by decide +kernel
theorem dX4_addClient_102 : decode cX4_addClient 102 = .ok (.dup, 1) := by decide +kernel
theorem dX4_addClient_103 : decode cX4_addClient 103 = .ok (.getfield 80, 3) := by decide +kernel
theorem dX4_addClient_106 : decode cX4_addClient 106 = .ok (.iconst 1, 1) := by decide +kernel
theorem dX4_addClient_107 : decode cX4_addClient 107 = .ok (.iadd, 1) := by decide +kernel
theorem dX4_addClient_108 : decode cX4_addClient 108 = .ok (.putfield 80, 3) := by decide +kernel
theorem dX4_addClient_111 : decode cX4_addClient 111 = .ok (.aload_n 0, 1) := by decide +kernel
theorem dX4_addClient_112 : decode cX4_addClient 112 = .ok (.iload_n 1, 1) := by decide +kernel
theorem dX4_addClient_113 : decode cX4_addClient 113 = .ok (.invokevirtual 93, 3) := by decide +kernel
theorem dX4_addClient_116 : decode cX4_addClient 116 = .ok (.ireturn, 1) := by decide +kernel
theorem dX4_setGain_0 : decode cX4_setGain 0 = .ok (.aload_n 0, 1) := by decide +kernel
theorem dX4_setGain_1 : decode cX4_setGain 1 = .ok (.iconst 0, 1) := by decide +kernel
theorem dX4_setGain_2 : decode cX4_setGain 2 = .ok (.putfield 65, 3) := by decide +kernel
theorem dX4_setGain_5 : decode cX4_setGain 5 = .ok (.aload_n 0, 1) := by decide +kernel
theorem dX4_setGain_6 : decode cX4_setGain 6 = .ok (.iload_n 1, 1) := by decide +kernel
theorem dX4_setGain_7 : decode cX4_setGain 7 = .ok (.invokevirtual 86, 3) := by decide +kernel
theorem dX4_setGain_10 : decode cX4_setGain 10 = .ok (.ifCond .ne 9, 3) := by decide +kernel
theorem dX4_setGain_13 : decode cX4_setGain 13 = .ok (.aload_n 0, 1) := by decide +kernel
theorem dX4_setGain_14 : decode cX4_setGain 14 = .ok (.iconst 1, 1) := by decide +kernel
theorem dX4_setGain_15 : decode cX4_setGain 15 = .ok (.invokevirtual 76, 3) := by decide +kernel
theorem dX4_setGain_18 : decode cX4_setGain 18 = .ok (.ireturn, 1) := by decide +kernel
theorem dX4_setGain_19 : decode cX4_setGain 19 = .ok (.iload_n 2, 1) := by decide +kernel
theorem dX4_setGain_20 : decode cX4_setGain 20 = .ok (.iconst 0, 1) := by decide +kernel
theorem dX4_setGain_21 : decode cX4_setGain 21 = .ok (.ldc 75, 2) := by decide +kernel
theorem dX4_setGain_23 : decode cX4_setGain 23 = .ok (.invokestatic 71, 3) := by decide +kernel
theorem dX4_setGain_26 : decode cX4_setGain 26 = .ok (.ifCond .ne 9, 3) := by decide +kernel
theorem dX4_setGain_29 : decode cX4_setGain 29 = .ok (.aload_n 0, 1) := by decide +kernel
theorem dX4_setGain_30 : decode cX4_setGain 30 = .ok (.iconst 2, 1) := by decide +kernel
theorem dX4_setGain_31 : decode cX4_setGain 31 = .ok (.invokevirtual 76, 3) := by decide +kernel
theorem dX4_setGain_34 : decode cX4_setGain 34 = .ok (.ireturn, 1) := by decide +kernel
theorem dX4_setGain_35 : decode cX4_setGain 35 = .ok (.aload_n 0, 1) := by decide +kernel
theorem dX4_setGain_36 : decode cX4_setGain 36 = .ok (.iload_n 1, 1) := by decide +kernel
theorem dX4_setGain_37 : decode cX4_setGain 37 = .ok (.invokevirtual 90, 3) := by decide +kernel
theorem dX4_setGain_40 : decode cX4_setGain 40 = .ok (.ifCond .ne 9, 3) := by decide +kernel
theorem dX4_setGain_43 : decode cX4_setGain 43 = .ok (.aload_n 0, 1) := by decide +kernel
theorem dX4_setGain_44 : decode cX4_setGain 44 = .ok (.iconst 3, 1) := by decide +kernel
theorem dX4_setGain_45 : decode cX4_setGain 45 = .ok (.invokevirtual 76, 3) := by decide +kernel
theorem dX4_setGain_48 : decode cX4_setGain 48 = .ok (.ireturn, 1) := by decide +kernel
theorem dX4_setGain_49 : decode cX4_setGain 49 = .ok (.aload_n 0, 1) := by decide +kernel
theorem dX4_setGain_50 : decode cX4_setGain 50 = .ok (.getfield 19, 3) := by decide +kernel
theorem dX4_setGain_53 : decode cX4_setGain 53 = .ok (.iload_n 1, 1) := by decide +kernel
theorem dX4_setGain_54 : decode cX4_setGain 54 = .ok (.iaload, 1) := by decide +kernel
theorem dX4_setGain_55 : decode cX4_setGain 55 = .ok (.istore_n 3, 1) := by decide +kernel
theorem dX4_setGain_56 : decode cX4_setGain 56 = .ok (.aload_n 0, 1) := by decide +kernel
theorem dX4_setGain_57 : decode cX4_setGain 57 = .ok (.getfield 19, 3) := by decide +kernel
theorem dX4_setGain_60 : decode cX4_setGain 60 = .ok (.iload_n 1, 1) := by decide +kernel
theorem dX4_setGain_61 : decode cX4_setGain 61 = .ok (.iload_n 2, 1) := by decide +kernel
theorem dX4_setGain_62 : decode cX4_setGain 62 = .ok (.iastore, 1) := by decide +kernel
theorem dX4_setGain_63 : decode cX4_setGain 63 = .ok (.iload_n 3, 1) := by decide +kernel
theorem dX4_setGain_64 : decode cX4_setGain 64 = .ok (.ireturn, 1) := by decide +kernel
theorem dX4_setTested_0 : decode cX4_setTested 0 = .ok (.aload_n 0, 1) := by decide +kernel
theorem dX4_setTested_1 : decode cX4_setTested 1 = .ok (.iconst 0, 1) := by decide +kernel
theorem dX4_setTested_2 : decode cX4_setTested 2 = .ok (.putfield 65, 3) := by decide +kernel
theorem dX4_setTested_5 : decode cX4_setTested 5 = .ok (.aload_n 0, 1) := by decide +kernel
theorem dX4_setTested_6 : decode cX4_setTested 6 = .ok (.iload_n 1, 1) := by decide +kernel
theorem dX4_setTested_7 : decode cX4_setTested 7 = .ok (.invokevirtual 86, 3) := by decide +kernel
theorem dX4_setTested_10 : decode cX4_setTested 10 = .ok (.ifCond .ne 9, 3) := by decide +kernel
theorem dX4_setTested_13 : decode cX4_setTested 13 = .ok (.aload_n 0, 1) := by decide +kernel
theorem dX4_setTested_14 : decode cX4_setTested 14 = .ok (.iconst 1, 1) := by decide +kernel
theorem dX4_setTested_15 : decode cX4_setTested 15 = .ok (.invokevirtual 76, 3) := by decide +kernel
theorem dX4_setTested_18 : decode cX4_setTested 18 = .ok (.ireturn, 1) := by decide +kernel
theorem dX4_setTested_19 : decode cX4_setTested 19 = .ok (.iload_n 2, 1) := by decide +kernel
theorem dX4_setTested_20 : decode cX4_setTested 20 = .ok (.iconst 0, 1) := by decide +kernel
theorem dX4_setTested_21 : decode cX4_setTested 21 = .ok (.ldc 75, 2) := by decide +kernel
theorem dX4_setTested_23 : decode cX4_setTested 23 = .ok (.invokestatic 71, 3) := by decide +kernel
theorem dX4_setTested_26 : decode cX4_setTested 26 = .ok (.ifCond .ne 9, 3) := by decide +kernel
theorem dX4_setTested_29 : decode cX4_setTested 29 = .ok (.aload_n 0, 1) := by decide +kernel
theorem dX4_setTested_30 : decode cX4_setTested 30 = .ok (.iconst 2, 1) := by decide +kernel
theorem dX4_setTested_31 : decode cX4_setTested 31 = .ok (.invokevirtual 76, 3) := by decide +kernel
theorem dX4_setTested_34 : decode cX4_setTested 34 = .ok (.ireturn, 1) := by decide +kernel
theorem dX4_setTested_35 : decode cX4_setTested 35 = .ok (.aload_n 0, 1) := by decide +kernel
theorem dX4_setTested_36 : decode cX4_setTested 36 = .ok (.iload_n 1, 1) := by decide +kernel
theorem dX4_setTested_37 : decode cX4_setTested 37 = .ok (.invokevirtual 90, 3) := by decide +kernel
theorem dX4_setTested_40 : decode cX4_setTested 40 = .ok (.ifCond .ne 9, 3) := by decide +kernel
theorem dX4_setTested_43 : decode cX4_setTested 43 = .ok (.aload_n 0, 1) := by decide +kernel
theorem dX4_setTested_44 : decode cX4_setTested 44 = .ok (.iconst 3, 1) := by decide +kernel
theorem dX4_setTested_45 : decode cX4_setTested 45 = .ok (.invokevirtual 76, 3) := by decide +kernel
theorem dX4_setTested_48 : decode cX4_setTested 48 = .ok (.ireturn, 1) := by decide +kernel
theorem dX4_setTested_49 : decode cX4_setTested 49 = .ok (.aload_n 0, 1) := by decide +kernel
theorem dX4_setTested_50 : decode cX4_setTested 50 = .ok (.getfield 22, 3) := by decide +kernel
theorem dX4_setTested_53 : decode cX4_setTested 53 = .ok (.iload_n 1, 1) := by decide +kernel
theorem dX4_setTested_54 : decode cX4_setTested 54 = .ok (.iaload, 1) := by decide +kernel
theorem dX4_setTested_55 : decode cX4_setTested 55 = .ok (.istore_n 3, 1) := by decide +kernel
theorem dX4_setTested_56 : decode cX4_setTested 56 = .ok (.aload_n 0, 1) := by decide +kernel
theorem dX4_setTested_57 : decode cX4_setTested 57 = .ok (.getfield 22, 3) := by decide +kernel
theorem dX4_setTested_60 : decode cX4_setTested 60 = .ok (.iload_n 1, 1) := by decide +kernel
theorem dX4_setTested_61 : decode cX4_setTested 61 = .ok (.iload_n 2, 1) := by decide +kernel
theorem dX4_setTested_62 : decode cX4_setTested 62 = .ok (.iastore, 1) := by decide +kernel
theorem dX4_setTested_63 : decode cX4_setTested 63 = .ok (.iload_n 3, 1) := by decide +kernel
theorem dX4_setTested_64 : decode cX4_setTested 64 = .ok (.ireturn, 1) := by decide +kernel
theorem dX4_setCapital_0 : decode cX4_setCapital 0 = .ok (.aload_n 0, 1) := by decide +kernel
theorem dX4_setCapital_1 : decode cX4_setCapital 1 = .ok (.iconst 0, 1) := by decide +kernel
theorem dX4_setCapital_2 : decode cX4_setCapital 2 = .ok (.putfield 65, 3) := by decide +kernel
theorem dX4_setCapital_5 : decode cX4_setCapital 5 = .ok (.iload_n 1, 1) := by decide +kernel
theorem dX4_setCapital_6 : decode cX4_setCapital 6 = .ok (.iconst 0, 1) := by decide +kernel
theorem dX4_setCapital_7 : decode cX4_setCapital 7 = .ok (.ldc 75, 2) := by decide +kernel
theorem dX4_setCapital_9 : decode cX4_setCapital 9 = .ok (.invokestatic 71, 3) := by decide +kernel
theorem dX4_setCapital_12 : decode cX4_setCapital 12 = .ok (.ifCond .ne 9, 3) := by decide +kernel
theorem dX4_setCapital_15 : decode cX4_setCapital 15 = .ok (.aload_n 0, 1) := by decide +kernel
theorem dX4_setCapital_16 : decode cX4_setCapital 16 = .ok (.iconst 1, 1) := by decide +kernel
theorem dX4_setCapital_17 : decode cX4_setCapital 17 = .ok (.invokevirtual 76, 3) := by decide +kernel
theorem dX4_setCapital_20 : decode cX4_setCapital 20 = .ok (.ireturn, 1) := by decide +kernel
theorem dX4_setCapital_21 : decode cX4_setCapital 21 = .ok (.aload_n 0, 1) := by decide +kernel
theorem dX4_setCapital_22 : decode cX4_setCapital 22 = .ok (.getfield 99, 3) := by decide +kernel
theorem dX4_setCapital_25 : decode cX4_setCapital 25 = .ok (.istore_n 2, 1) := by decide +kernel
theorem dX4_setCapital_26 : decode cX4_setCapital 26 = .ok (.aload_n 0, 1) := by decide +kernel
theorem dX4_setCapital_27 : decode cX4_setCapital 27 = .ok (.iload_n 1, 1) := by decide +kernel
theorem dX4_setCapital_28 : decode cX4_setCapital 28 = .ok (.putfield 99, 3) := by decide +kernel
theorem dX4_setCapital_31 : decode cX4_setCapital 31 = .ok (.iload_n 2, 1) := by decide +kernel
theorem dX4_setCapital_32 : decode cX4_setCapital 32 = .ok (.ireturn, 1) := by decide +kernel
theorem dX4_giveNotice_0 : decode cX4_giveNotice 0 = .ok (.aload_n 0, 1) := by decide +kernel
theorem dX4_giveNotice_1 : decode cX4_giveNotice 1 = .ok (.iconst 0, 1) := by decide +kernel
theorem dX4_giveNotice_2 : decode cX4_giveNotice 2 = .ok (.putfield 65, 3) := by decide +kernel
theorem dX4_giveNotice_5 : decode cX4_giveNotice 5 = .ok (.aload_n 0, 1) := by decide +kernel
theorem dX4_giveNotice_6 : decode cX4_giveNotice 6 = .ok (.iload_n 1, 1) := by decide +kernel
theorem dX4_giveNotice_7 : decode cX4_giveNotice 7 = .ok (.invokevirtual 86, 3) := by decide +kernel
theorem dX4_giveNotice_10 : decode cX4_giveNotice 10 = .ok (.ifCond .ne 10, 3) := by decide +kernel
theorem dX4_giveNotice_13 : decode cX4_giveNotice 13 = .ok (.aload_n 0, 1) := by decide +kernel
theorem dX4_giveNotice_14 : decode cX4_giveNotice 14 = .ok (.iconst 1, 1) := by decide +kernel
theorem dX4_giveNotice_15 : decode cX4_giveNotice 15 = .ok (.invokevirtual 76, 3) := by decide +kernel
theorem dX4_giveNotice_18 : decode cX4_giveNotice 18 = .ok (.pop, 1) := by decide +kernel
theorem dX4_giveNotice_19 : decode cX4_giveNotice 19 = .ok (.return_, 1) := by decide +kernel
theorem dX4_giveNotice_20 : decode cX4_giveNotice 20 = .ok (.aload_n 0, 1) := by decide +kernel
theorem dX4_giveNotice_21 : decode cX4_giveNotice 21 = .ok (.getfield 25, 3) := by decide +kernel
theorem dX4_giveNotice_24 : decode cX4_giveNotice 24 = .ok (.iload_n 1, 1) := by decide +kernel
theorem dX4_giveNotice_25 : decode cX4_giveNotice 25 = .ok (.iaload, 1) := by decide +kernel
theorem dX4_giveNotice_26 : decode cX4_giveNotice 26 = .ok (.ifCond .ne 11, 3) := by decide +kernel
theorem dX4_giveNotice_29 : decode cX4_giveNotice 29 = .ok (.aload_n 0, 1) := by decide +kernel
theorem dX4_giveNotice_30 : decode cX4_giveNotice 30 = .ok (.getfield 46, 3) := by decide +kernel
theorem dX4_giveNotice_33 : decode cX4_giveNotice 33 = .ok (.iconst (-1), 1) := by decide +kernel
theorem dX4_giveNotice_34 : decode cX4_giveNotice 34 = .ok (.if_icmp .eq 10, 3) := by decide +kernel
theorem dX4_giveNotice_37 : decode cX4_giveNotice 37 = .ok (.aload_n 0, 1) := by decide +kernel
theorem dX4_giveNotice_38 : decode cX4_giveNotice 38 = .ok (.iconst 2, 1) := by decide +kernel
theorem dX4_giveNotice_39 : decode cX4_giveNotice 39 = .ok (.invokevirtual 76, 3) := by decide +kernel
theorem dX4_giveNotice_42 : decode cX4_giveNotice 42 = .ok (.pop, 1) := by decide +kernel
theorem dX4_giveNotice_43 : decode cX4_giveNotice 43 = .ok (.return_, 1) := by decide +kernel
theorem dX4_giveNotice_44 : decode cX4_giveNotice 44 = .ok (.aload_n 0, 1) := by decide +kernel
theorem dX4_giveNotice_45 : decode cX4_giveNotice 45 = .ok (.getfield 25, 3) := by decide +kernel
theorem dX4_giveNotice_48 : decode cX4_giveNotice 48 = .ok (.iload_n 1, 1) := by decide +kernel
theorem dX4_giveNotice_49 : decode cX4_giveNotice 49 = .ok (.iconst 1, 1) := by decide +kernel
theorem dX4_giveNotice_50 : decode cX4_giveNotice 50 = .ok (.iastore, 1) := by decide +kernel
theorem dX4_giveNotice_51 : decode cX4_giveNotice 51 = .ok (.return_, 1) := by decide +kernel
theorem dX4_part_0 : decode cX4_part 0 = .ok (.lconst 0, 1) := by decide +kernel
theorem dX4_part_1 : decode cX4_part 1 = .ok (.lstore_n 3, 1) := by decide +kernel
theorem dX4_part_2 : decode cX4_part 2 = .ok (.lconst 0, 1) := by decide +kernel
theorem dX4_part_3 : decode cX4_part 3 = .ok (.lstore 5, 2) := by decide +kernel
theorem dX4_part_5 : decode cX4_part 5 = .ok (.iconst 0, 1) := by decide +kernel
theorem dX4_part_6 : decode cX4_part 6 = .ok (.istore 7, 2) := by decide +kernel
theorem dX4_part_8 : decode cX4_part 8 = .ok (.iload 7, 2) := by decide +kernel
theorem dX4_part_10 : decode cX4_part 10 = .ok (.aload_n 0, 1) := by decide +kernel
theorem dX4_part_11 : decode cX4_part 11 = .ok (.getfield 68, 3) := by decide +kernel
theorem dX4_part_14 : decode cX4_part 14 = .ok (.if_icmp .ge 55, 3) := by decide +kernel
theorem dX4_part_17 : decode cX4_part 17 = .ok (.lload_n 3, 1) := by decide +kernel
theorem dX4_part_18 : decode cX4_part 18 = .ok (.aload_n 0, 1) := by decide +kernel
theorem dX4_part_19 : decode cX4_part 19 = .ok (.getfield 56, 3) := by decide +kernel
theorem dX4_part_22 : decode cX4_part 22 = .ok (.iload 7, 2) := by decide +kernel
theorem dX4_part_24 : decode cX4_part 24 = .ok (.iaload, 1) := by decide +kernel
theorem dX4_part_25 : decode cX4_part 25 = .ok (.i2l, 1) := by decide +kernel
theorem dX4_part_26 : decode cX4_part 26 = .ok (.ladd, 1) := by decide +kernel
theorem dX4_part_27 : decode cX4_part 27 = .ok (.lstore_n 3, 1) := by decide +kernel
theorem dX4_part_28 : decode cX4_part 28 = .ok (.lload 5, 2) := by decide +kernel
theorem dX4_part_30 : decode cX4_part 30 = .ok (.aload_n 0, 1) := by decide +kernel
theorem dX4_part_31 : decode cX4_part 31 = .ok (.getfield 56, 3) := by decide +kernel
theorem dX4_part_34 : decode cX4_part 34 = .ok (.iload 7, 2) := by decide +kernel
theorem dX4_part_36 : decode cX4_part 36 = .ok (.iaload, 1) := by decide +kernel
theorem dX4_part_37 : decode cX4_part 37 = .ok (.ifCond .le 14, 3) := by decide +kernel
theorem dX4_part_40 : decode cX4_part 40 = .ok (.aload_n 0, 1) := by decide +kernel
theorem dX4_part_41 : decode cX4_part 41 = .ok (.getfield 59, 3) := by decide +kernel
theorem dX4_part_44 : decode cX4_part 44 = .ok (.iload 7, 2) := by decide +kernel
theorem dX4_part_46 : decode cX4_part 46 = .ok (.iaload, 1) := by decide +kernel
theorem dX4_part_47 : decode cX4_part 47 = .ok (.i2l, 1) := by decide +kernel
theorem dX4_part_48 : decode cX4_part 48 = .ok (.goto 4, 3) := by decide +kernel
theorem dX4_part_51 : decode cX4_part 51 = .ok (.lconst 0, 1) := by decide +kernel
theorem dX4_part_52 : decode cX4_part 52 = .ok (.ladd, 1) := by decide +kernel
theorem dX4_part_53 : decode cX4_part 53 = .ok (.lstore 5, 2) := by decide +kernel
theorem dX4_part_55 : decode cX4_part 55 = .ok (.aload_n 0, 1) := by decide +kernel
theorem dX4_part_56 : decode cX4_part 56 = .ok (.getfield 62, 3) := by decide +kernel
theorem dX4_part_59 : decode cX4_part 59 = .ok (.iload 7, 2) := by decide +kernel
theorem dX4_part_61 : decode cX4_part 61 = .ok (.iconst 0, 1) := by decide +kernel
theorem dX4_part_62 : decode cX4_part 62 = .ok (.iastore, 1) := by decide +kernel
theorem dX4_part_63 : decode cX4_part 63 = .ok (.iinc 7 1, 3) := by decide +kernel
theorem dX4_part_66 : decode cX4_part 66 = .ok (.goto (-58), 3) := by decide +kernel
theorem dX4_part_69 : decode cX4_part 69 = .ok (.lload_n 1, 1) := by decide +kernel
theorem dX4_part_70 : decode cX4_part 70 = .ok (.lload 5, 2) := by decide +kernel
theorem dX4_part_72 : decode cX4_part 72 = .ok (.lcmp, 1) := by decide +kernel
theorem dX4_part_73 : decode cX4_part 73 = .ok (.ifCond .ge 7, 3) := by decide +kernel
theorem dX4_part_76 : decode cX4_part 76 = .ok (.lload_n 1, 1) := by decide +kernel
theorem dX4_part_77 : decode cX4_part 77 = .ok (.goto 5, 3) := by decide +kernel
theorem dX4_part_80 : decode cX4_part 80 = .ok (.lload 5, 2) := by decide +kernel
theorem dX4_part_82 : decode cX4_part 82 = .ok (.lstore 7, 2) := by decide +kernel
theorem dX4_part_84 : decode cX4_part 84 = .ok (.lload 7, 2) := by decide +kernel
theorem dX4_part_86 : decode cX4_part 86 = .ok (.lstore 9, 2) := by decide +kernel
theorem dX4_part_88 : decode cX4_part 88 = .ok (.iconst 0, 1) := by decide +kernel
theorem dX4_part_89 : decode cX4_part 89 = .ok (.istore 11, 2) := by decide +kernel
theorem dX4_part_91 : decode cX4_part 91 = .ok (.iload 11, 2) := by decide +kernel
theorem dX4_part_93 : decode cX4_part 93 = .ok (.aload_n 0, 1) := by decide +kernel
theorem dX4_part_94 : decode cX4_part 94 = .ok (.getfield 68, 3) := by decide +kernel
theorem dX4_part_97 : decode cX4_part 97 = .ok (.if_icmp .ge 78, 3) := by decide +kernel
theorem dX4_part_100 : decode cX4_part 100 = .ok (.lload_n 3, 1) := by decide +kernel
theorem dX4_part_101 : decode cX4_part 101 = .ok (.lconst 0, 1) := by decide +kernel
theorem dX4_part_102 : decode cX4_part 102 = .ok (.lcmp, 1) := by decide +kernel
theorem dX4_part_103 : decode cX4_part 103 = .ok (.ifCond .le 72, 3) := by decide +kernel
theorem dX4_part_106 : decode cX4_part 106 = .ok (.lload 9, 2) := by decide +kernel
theorem dX4_part_108 : decode cX4_part 108 = .ok (.aload_n 0, 1) := by decide +kernel
theorem dX4_part_109 : decode cX4_part 109 = .ok (.getfield 56, 3) := by decide +kernel
theorem dX4_part_112 : decode cX4_part 112 = .ok (.iload 11, 2) := by decide +kernel
theorem dX4_part_114 : decode cX4_part 114 = .ok (.iaload, 1) := by decide +kernel
theorem dX4_part_115 : decode cX4_part 115 = .ok (.i2l, 1) := by decide +kernel
theorem dX4_part_116 : decode cX4_part 116 = .ok (.lmul, 1) := by decide +kernel
theorem dX4_part_117 : decode cX4_part 117 = .ok (.lload_n 3, 1) := by decide +kernel
theorem dX4_part_118 : decode cX4_part 118 = .ok (.ldiv, 1) := by decide +kernel
theorem dX4_part_119 : decode cX4_part 119 = .ok (.lstore 12, 2) := by decide +kernel
theorem dX4_part_121 : decode cX4_part 121 = .ok (.aload_n 0, 1) := by decide +kernel
theorem dX4_part_122 : decode cX4_part 122 = .ok (.getfield 62, 3) := by decide +kernel
theorem dX4_part_125 : decode cX4_part 125 = .ok (.iload 11, 2) := by decide +kernel
theorem dX4_part_127 : decode cX4_part 127 = .ok (.lload 12, 2) := by decide +kernel
theorem dX4_part_129 : decode cX4_part 129 = .ok (.aload_n 0, 1) := by decide +kernel
theorem dX4_part_130 : decode cX4_part 130 = .ok (.getfield 59, 3) := by decide +kernel
theorem dX4_part_133 : decode cX4_part 133 = .ok (.iload 11, 2) := by decide +kernel
theorem dX4_part_135 : decode cX4_part 135 = .ok (.iaload, 1) := by decide +kernel
theorem dX4_part_136 : decode cX4_part 136 = .ok (.i2l, 1) := by decide +kernel
theorem dX4_part_137 : decode cX4_part 137 = .ok (.lcmp, 1) := by decide +kernel
theorem dX4_part_138 : decode cX4_part 138 = .ok (.ifCond .ge 8, 3) := by decide +kernel
theorem dX4_part_141 : decode cX4_part 141 = .ok (.lload 12, 2) := by decide +kernel
theorem dX4_part_143 : decode cX4_part 143 = .ok (.goto 11, 3) := by decide +kernel
theorem dX4_part_146 : decode cX4_part 146 = .ok (.aload_n 0, 1) := by decide +kernel
theorem dX4_part_147 : decode cX4_part 147 = .ok (.getfield 59, 3) := by decide +kernel
theorem dX4_part_150 : decode cX4_part 150 = .ok (.iload 11, 2) := by decide +kernel
theorem dX4_part_152 : decode cX4_part 152 = .ok (.iaload, 1) := by decide +kernel
theorem dX4_part_153 : decode cX4_part 153 = .ok (.i2l, 1) := by decide +kernel
theorem dX4_part_154 : decode cX4_part 154 = .ok (.l2i, 1) := by decide +kernel
theorem dX4_part_155 : decode cX4_part 155 = .ok (.iastore, 1) := by decide +kernel
theorem dX4_part_156 : decode cX4_part 156 = .ok (.lload 7, 2) := by decide +kernel
theorem dX4_part_158 : decode cX4_part 158 = .ok (.aload_n 0, 1) := by decide +kernel
theorem dX4_part_159 : decode cX4_part 159 = .ok (.getfield 62, 3) := by decide +kernel
theorem dX4_part_162 : decode cX4_part 162 = .ok (.iload 11, 2) := by decide +kernel
theorem dX4_part_164 : decode cX4_part 164 = .ok (.iaload, 1) := by decide +kernel
theorem dX4_part_165 : decode cX4_part 165 = .ok (.i2l, 1) := by decide +kernel
theorem dX4_part_166 : decode cX4_part 166 = .ok (.lsub, 1) := by decide +kernel
theorem dX4_part_167 : decode cX4_part 167 = .ok (.lstore 7, 2) := by decide +kernel
theorem dX4_part_169 : decode cX4_part 169 = .ok (.iinc 11 1, 3) := by decide +kernel
theorem dX4_part_172 : decode cX4_part 172 = .ok (.goto (-81), 3) := by decide +kernel
theorem dX4_part_175 : decode cX4_part 175 = .ok (.lload 7, 2) := by decide +kernel
theorem dX4_part_177 : decode cX4_part 177 = .ok (.lconst 0, 1) := by decide +kernel
theorem dX4_part_178 : decode cX4_part 178 = .ok (.lcmp, 1) := by decide +kernel
theorem dX4_part_179 : decode cX4_part 179 = .ok (.ifCond .le 75, 3) := by decide +kernel
theorem dX4_part_182 : decode cX4_part 182 = .ok (.iconst 0, 1) := by decide +kernel
theorem dX4_part_183 : decode cX4_part 183 = .ok (.istore 11, 2) := by decide +kernel
theorem dX4_part_185 : decode cX4_part 185 = .ok (.iload 11, 2) := by decide +kernel
theorem dX4_part_187 : decode cX4_part 187 = .ok (.aload_n 0, 1) := by decide +kernel
theorem dX4_part_188 : decode cX4_part 188 = .ok (.getfield 68, 3) := by decide +kernel
theorem dX4_part_191 : decode cX4_part 191 = .ok (.if_icmp .ge 60, 3) := by decide +kernel
theorem dX4_part_194 : decode cX4_part 194 = .ok (.lload 7, 2) := by decide +kernel
theorem dX4_part_196 : decode cX4_part 196 = .ok (.lconst 0, 1) := by decide +kernel
theorem dX4_part_197 : decode cX4_part 197 = .ok (.lcmp, 1) := by decide +kernel
theorem dX4_part_198 : decode cX4_part 198 = .ok (.ifCond .le 47, 3) := by decide +kernel
theorem dX4_part_201 : decode cX4_part 201 = .ok (.aload_n 0, 1) := by decide +kernel
theorem dX4_part_202 : decode cX4_part 202 = .ok (.getfield 56, 3) := by decide +kernel
theorem dX4_part_205 : decode cX4_part 205 = .ok (.iload 11, 2) := by decide +kernel
theorem dX4_part_207 : decode cX4_part 207 = .ok (.iaload, 1) := by decide +kernel
theorem dX4_part_208 : decode cX4_part 208 = .ok (.ifCond .le 37, 3) := by decide +kernel
theorem dX4_part_211 : decode cX4_part 211 = .ok (.aload_n 0, 1) := by decide +kernel
theorem dX4_part_212 : decode cX4_part 212 = .ok (.getfield 62, 3) := by decide +kernel
theorem dX4_part_215 : decode cX4_part 215 = .ok (.iload 11, 2) := by decide +kernel
theorem dX4_part_217 : decode cX4_part 217 = .ok (.iaload, 1) := by decide +kernel
theorem dX4_part_218 : decode cX4_part 218 = .ok (.aload_n 0, 1) := by decide +kernel
theorem dX4_part_219 : decode cX4_part 219 = .ok (.getfield 59, 3) := by decide +kernel
theorem dX4_part_222 : decode cX4_part 222 = .ok (.iload 11, 2) := by decide +kernel
theorem dX4_part_224 : decode cX4_part 224 = .ok (.iaload, 1) := by decide +kernel
theorem dX4_part_225 : decode cX4_part 225 = .ok (.if_icmp .ge 20, 3) := by decide +kernel
theorem dX4_part_228 : decode cX4_part 228 = .ok (.aload_n 0, 1) := by decide +kernel
theorem dX4_part_229 : decode cX4_part 229 = .ok (.getfield 62, 3) := by decide +kernel
theorem dX4_part_232 : decode cX4_part 232 = .ok (.iload 11, 2) := by decide +kernel
theorem dX4_part_234 : decode cX4_part 234 = .ok (.dup2, 1) := by decide +kernel
theorem dX4_part_235 : decode cX4_part 235 = .ok (.iaload, 1) := by decide +kernel
theorem dX4_part_236 : decode cX4_part 236 = .ok (.iconst 1, 1) := by decide +kernel
theorem dX4_part_237 : decode cX4_part 237 = .ok (.iadd, 1) := by decide +kernel
theorem dX4_part_238 : decode cX4_part 238 = .ok (.iastore, 1) := by decide +kernel
theorem dX4_part_239 : decode cX4_part 239 = .ok (.lload 7, 2) := by decide +kernel
theorem dX4_part_241 : decode cX4_part 241 = .ok (.lconst 1, 1) := by decide +kernel
theorem dX4_part_242 : decode cX4_part 242 = .ok (.lsub, 1) := by decide +kernel
theorem dX4_part_243 : decode cX4_part 243 = .ok (.lstore 7, 2) := by decide +kernel
theorem dX4_part_245 : decode cX4_part 245 = .ok (.iinc 11 1, 3) := by decide +kernel
theorem dX4_part_248 : decode cX4_part 248 = .ok (.goto (-63), 3) := by decide +kernel
theorem dX4_part_251 : decode cX4_part 251 = .ok (.goto (-76), 3) := by decide +kernel
theorem dX4_part_254 : decode cX4_part 254 = .ok (.lload 9, 2) := by decide +kernel
theorem dX4_part_256 : decode cX4_part 256 = .ok (.l2i, 1) := by decide +kernel
theorem dX4_part_257 : decode cX4_part 257 = .ok (.ireturn, 1) := by decide +kernel
theorem dX4_size_0 : decode cX4_size 0 = .ok (.aload_n 0, 1) := by decide +kernel
theorem dX4_size_1 : decode cX4_size 1 = .ok (.iconst 0, 1) := by decide +kernel
theorem dX4_size_2 : decode cX4_size 2 = .ok (.putfield 65, 3) := by decide +kernel
theorem dX4_size_5 : decode cX4_size 5 = .ok (.aload_n 0, 1) := by decide +kernel
theorem dX4_size_6 : decode cX4_size 6 = .ok (.getfield 46, 3) := by decide +kernel
theorem dX4_size_9 : decode cX4_size 9 = .ok (.iconst (-1), 1) := by decide +kernel
theorem dX4_size_10 : decode cX4_size 10 = .ok (.if_icmp .eq 9, 3) := by decide +kernel
theorem dX4_size_13 : decode cX4_size 13 = .ok (.aload_n 0, 1) := by decide +kernel
theorem dX4_size_14 : decode cX4_size 14 = .ok (.iconst 1, 1) := by decide +kernel
theorem dX4_size_15 : decode cX4_size 15 = .ok (.invokevirtual 76, 3) := by decide +kernel
theorem dX4_size_18 : decode cX4_size 18 = .ok (.ireturn, 1) := by decide +kernel
theorem dX4_size_19 : decode cX4_size 19 = .ok (.iconst 0, 1) := by decide +kernel
theorem dX4_size_20 : decode cX4_size 20 = .ok (.istore_n 1, 1) := by decide +kernel
theorem dX4_size_21 : decode cX4_size 21 = .ok (.iconst 0, 1) := by decide +kernel
theorem dX4_size_22 : decode cX4_size 22 = .ok (.istore_n 2, 1) := by decide +kernel
theorem dX4_size_23 : decode cX4_size 23 = .ok (.iconst 0, 1) := by decide +kernel
theorem dX4_size_24 : decode cX4_size 24 = .ok (.istore_n 3, 1) := by decide +kernel
theorem dX4_size_25 : decode cX4_size 25 = .ok (.iload_n 3, 1) := by decide +kernel
theorem dX4_size_26 : decode cX4_size 26 = .ok (.aload_n 0, 1) := by decide +kernel
theorem dX4_size_27 : decode cX4_size 27 = .ok (.getfield 68, 3) := by decide +kernel
theorem dX4_size_30 : decode cX4_size 30 = .ok (.if_icmp .ge 97, 3) := by decide +kernel
theorem dX4_size_33 : decode cX4_size 33 = .ok (.aload_n 0, 1) := by decide +kernel
theorem dX4_size_34 : decode cX4_size 34 = .ok (.iload_n 3, 1) := by decide +kernel
theorem dX4_size_35 : decode cX4_size 35 = .ok (.invokevirtual 90, 3) := by decide +kernel
theorem dX4_size_38 : decode cX4_size 38 = .ok (.ifCond .eq 12, 3) := by decide +kernel
theorem dX4_size_41 : decode cX4_size 41 = .ok (.aload_n 0, 1) := by decide +kernel
theorem dX4_size_42 : decode cX4_size 42 = .ok (.getfield 22, 3) := by decide +kernel
theorem dX4_size_45 : decode cX4_size 45 = .ok (.iload_n 3, 1) := by decide +kernel
theorem dX4_size_46 : decode cX4_size 46 = .ok (.iaload, 1) := by decide +kernel
theorem dX4_size_47 : decode cX4_size 47 = .ok (.goto 4, 3) := by decide +kernel
theorem dX4_size_50 : decode cX4_size 50 = .ok (.iconst 0, 1) := by decide +kernel
theorem dX4_size_51 : decode cX4_size 51 = .ok (.istore 4, 2) := by decide +kernel
theorem dX4_size_53 : decode cX4_size 53 = .ok (.iload 4, 2) := by decide +kernel
theorem dX4_size_55 : decode cX4_size 55 = .ok (.iload_n 1, 1) := by decide +kernel
theorem dX4_size_56 : decode cX4_size 56 = .ok (.if_icmp .le 7, 3) := by decide +kernel
theorem dX4_size_59 : decode cX4_size 59 = .ok (.iload_n 1, 1) := by decide +kernel
theorem dX4_size_60 : decode cX4_size 60 = .ok (.goto 15, 3) := by decide +kernel
theorem dX4_size_63 : decode cX4_size 63 = .ok (.iload 4, 2) := by decide +kernel
theorem dX4_size_65 : decode cX4_size 65 = .ok (.iload_n 2, 1) := by decide +kernel
theorem dX4_size_66 : decode cX4_size 66 = .ok (.if_icmp .le 8, 3) := by decide +kernel
theorem dX4_size_69 : decode cX4_size 69 = .ok (.iload 4, 2) := by decide +kernel
theorem dX4_size_71 : decode cX4_size 71 = .ok (.goto 4, 3) := by decide +kernel
theorem dX4_size_74 : decode cX4_size 74 = .ok (.iload_n 2, 1) := by decide +kernel
theorem dX4_size_75 : decode cX4_size 75 = .ok (.istore_n 2, 1) := by decide +kernel
theorem dX4_size_76 : decode cX4_size 76 = .ok (.iload 4, 2) := by decide +kernel
theorem dX4_size_78 : decode cX4_size 78 = .ok (.iload_n 1, 1) := by decide +kernel
theorem dX4_size_79 : decode cX4_size 79 = .ok (.if_icmp .le 8, 3) := by decide +kernel
theorem dX4_size_82 : decode cX4_size 82 = .ok (.iload 4, 2) := by decide +kernel
theorem dX4_size_84 : decode cX4_size 84 = .ok (.goto 4, 3) := by decide +kernel
theorem dX4_size_87 : decode cX4_size 87 = .ok (.iload_n 1, 1) := by decide +kernel
theorem dX4_size_88 : decode cX4_size 88 = .ok (.istore_n 1, 1) := by decide +kernel
theorem dX4_size_89 : decode cX4_size 89 = .ok (.aload_n 0, 1) := by decide +kernel
theorem dX4_size_90 : decode cX4_size 90 = .ok (.getfield 56, 3) := by decide +kernel
theorem dX4_size_93 : decode cX4_size 93 = .ok (.iload_n 3, 1) := by decide +kernel
theorem dX4_size_94 : decode cX4_size 94 = .ok (.aload_n 0, 1) := by decide +kernel
theorem dX4_size_95 : decode cX4_size 95 = .ok (.iload_n 3, 1) := by decide +kernel
theorem dX4_size_96 : decode cX4_size 96 = .ok (.invokevirtual 90, 3) := by decide +kernel
theorem dX4_size_99 : decode cX4_size 99 = .ok (.ifCond .eq 12, 3) := by decide +kernel
theorem dX4_size_102 : decode cX4_size 102 = .ok (.aload_n 0, 1) := by decide +kernel
theorem dX4_size_103 : decode cX4_size 103 = .ok (.getfield 7, 3) := by decide +kernel
theorem dX4_size_106 : decode cX4_size 106 = .ok (.iload_n 3, 1) := by decide +kernel
theorem dX4_size_107 : decode cX4_size 107 = .ok (.iaload, 1) := by decide +kernel
theorem dX4_size_108 : decode cX4_size 108 = .ok (.goto 4, 3) := by decide +kernel
theorem dX4_size_111 : decode cX4_size 111 = .ok (.iconst 0, 1) := by decide +kernel
theorem dX4_size_112 : decode cX4_size 112 = .ok (.iastore, 1) := by decide +kernel
theorem dX4_size_113 : decode cX4_size 113 = .ok (.aload_n 0, 1) := by decide +kernel
theorem dX4_size_114 : decode cX4_size 114 = .ok (.getfield 59, 3) := by decide +kernel
theorem dX4_size_117 : decode cX4_size 117 = .ok (.iload_n 3, 1) := by decide +kernel
theorem dX4_size_118 : decode cX4_size 118 = .ok (.ldc 102, 2) := by decide +kernel
theorem dX4_size_120 : decode cX4_size 120 = .ok (.iastore, 1) := by decide +kernel
theorem dX4_size_121 : decode cX4_size 121 = .ok (.iinc 3 1, 3) := by decide +kernel
theorem dX4_size_124 : decode cX4_size 124 = .ok (.goto (-99), 3) := by decide +kernel
theorem dX4_size_127 : decode cX4_size 127 = .ok (.aload_n 0, 1) := by decide +kernel
theorem dX4_size_128 : decode cX4_size 128 = .ok (.iload_n 1, 1) := by decide +kernel
theorem dX4_size_129 : decode cX4_size 129 = .ok (.i2l, 1) := by decide +kernel
theorem dX4_size_130 : decode cX4_size 130 = .ok (.iload_n 2, 1) := by decide +kernel
theorem dX4_size_131 : decode cX4_size 131 = .ok (.i2l, 1) := by decide +kernel
theorem dX4_size_132 : decode cX4_size 132 = .ok (.ladd, 1) := by decide +kernel
theorem dX4_size_133 : decode cX4_size 133 = .ok (.invokevirtual 103, 3) := by decide +kernel
theorem dX4_size_136 : decode cX4_size 136 = .ok (.pop, 1) := by decide +kernel
theorem dX4_size_137 : decode cX4_size 137 = .ok (.iconst 0, 1) := by decide +kernel
theorem dX4_size_138 : decode cX4_size 138 = .ok (.istore_n 3, 1) := by decide +kernel
theorem dX4_size_139 : decode cX4_size 139 = .ok (.iconst 0, 1) := by decide +kernel
theorem dX4_size_140 : decode cX4_size 140 = .ok (.istore 4, 2) := by decide +kernel
theorem dX4_size_142 : decode cX4_size 142 = .ok (.iload 4, 2) := by decide +kernel
theorem dX4_size_144 : decode cX4_size 144 = .ok (.aload_n 0, 1) := by decide +kernel
theorem dX4_size_145 : decode cX4_size 145 = .ok (.getfield 68, 3) := by decide +kernel
theorem dX4_size_148 : decode cX4_size 148 = .ok (.if_icmp .ge 64, 3) := by decide +kernel
theorem dX4_size_151 : decode cX4_size 151 = .ok (.aload_n 0, 1) := by decide +kernel
theorem dX4_size_152 : decode cX4_size 152 = .ok (.getfield 62, 3) := by decide +kernel
theorem dX4_size_155 : decode cX4_size 155 = .ok (.iload 4, 2) := by decide +kernel
theorem dX4_size_157 : decode cX4_size 157 = .ok (.iaload, 1) := by decide +kernel
theorem dX4_size_158 : decode cX4_size 158 = .ok (.aload_n 0, 1) := by decide +kernel
theorem dX4_size_159 : decode cX4_size 159 = .ok (.getfield 13, 3) := by decide +kernel
theorem dX4_size_162 : decode cX4_size 162 = .ok (.iload 4, 2) := by decide +kernel
theorem dX4_size_164 : decode cX4_size 164 = .ok (.iaload, 1) := by decide +kernel
theorem dX4_size_165 : decode cX4_size 165 = .ok (.if_icmp .le 21, 3) := by decide +kernel
theorem dX4_size_168 : decode cX4_size 168 = .ok (.aload_n 0, 1) := by decide +kernel
theorem dX4_size_169 : decode cX4_size 169 = .ok (.getfield 62, 3) := by decide +kernel
theorem dX4_size_172 : decode cX4_size 172 = .ok (.iload 4, 2) := by decide +kernel
theorem dX4_size_174 : decode cX4_size 174 = .ok (.iaload, 1) := by decide +kernel
theorem dX4_size_175 : decode cX4_size 175 = .ok (.aload_n 0, 1) := by decide +kernel
theorem dX4_size_176 : decode cX4_size 176 = .ok (.getfield 13, 3) := by decide +kernel
theorem dX4_size_179 : decode cX4_size 179 = .ok (.iload 4, 2) := by decide +kernel
theorem dX4_size_181 : decode cX4_size 181 = .ok (.iaload, 1) := by decide +kernel
theorem dX4_size_182 : decode cX4_size 182 = .ok (.isub, 1) := by decide +kernel
theorem dX4_size_183 : decode cX4_size 183 = .ok (.goto 4, 3) := by decide +kernel
theorem dX4_size_186 : decode cX4_size 186 = .ok (.iconst 0, 1) := by decide +kernel
theorem dX4_size_187 : decode cX4_size 187 = .ok (.istore 5, 2) := by decide +kernel
theorem dX4_size_189 : decode cX4_size 189 = .ok (.iload_n 3, 1) := by decide +kernel
theorem dX4_size_190 : decode cX4_size 190 = .ok (.iload 5, 2) := by decide +kernel
theorem dX4_size_192 : decode cX4_size 192 = .ok (.iadd, 1) := by decide +kernel
theorem dX4_size_193 : decode cX4_size 193 = .ok (.istore_n 3, 1) := by decide +kernel
theorem dX4_size_194 : decode cX4_size 194 = .ok (.aload_n 0, 1) := by decide +kernel
theorem dX4_size_195 : decode cX4_size 195 = .ok (.getfield 13, 3) := by decide +kernel
theorem dX4_size_198 : decode cX4_size 198 = .ok (.iload 4, 2) := by decide +kernel
theorem dX4_size_200 : decode cX4_size 200 = .ok (.dup2, 1) := by decide +kernel
theorem dX4_size_201 : decode cX4_size 201 = .ok (.iaload, 1) := by decide +kernel
theorem dX4_size_202 : decode cX4_size 202 = .ok (.iload 5, 2) := by decide +kernel
theorem dX4_size_204 : decode cX4_size 204 = .ok (.iadd, 1) := by decide +kernel
theorem dX4_size_205 : decode cX4_size 205 = .ok (.iastore, 1) := by decide +kernel
theorem dX4_size_206 : decode cX4_size 206 = .ok (.iinc 4 1, 3) := by decide +kernel
theorem dX4_size_209 : decode cX4_size 209 = .ok (.goto (-67), 3) := by decide +kernel
theorem dX4_size_212 : decode cX4_size 212 = .ok (.iload_n 3, 1) := by decide +kernel
theorem dX4_size_213 : decode cX4_size 213 = .ok (.ireturn, 1) := by decide +kernel
theorem dX4_newOwner_0 : decode cX4_newOwner 0 = .ok (.iconst 0, 1) := by decide +kernel
theorem dX4_newOwner_1 : decode cX4_newOwner 1 = .ok (.istore_n 2, 1) := by decide +kernel
theorem dX4_newOwner_2 : decode cX4_newOwner 2 = .ok (.iload_n 2, 1) := by decide +kernel
theorem dX4_newOwner_3 : decode cX4_newOwner 3 = .ok (.aload_n 0, 1) := by decide +kernel
theorem dX4_newOwner_4 : decode cX4_newOwner 4 = .ok (.getfield 68, 3) := by decide +kernel
theorem dX4_newOwner_7 : decode cX4_newOwner 7 = .ok (.if_icmp .ge 28, 3) := by decide +kernel
theorem dX4_newOwner_10 : decode cX4_newOwner 10 = .ok (.aload_n 0, 1) := by decide +kernel
theorem dX4_newOwner_11 : decode cX4_newOwner 11 = .ok (.iload_n 2, 1) := by decide +kernel
theorem dX4_newOwner_12 : decode cX4_newOwner 12 = .ok (.invokevirtual 90, 3) := by decide +kernel
theorem dX4_newOwner_15 : decode cX4_newOwner 15 = .ok (.ifCond .eq 14, 3) := by decide +kernel
theorem dX4_newOwner_18 : decode cX4_newOwner 18 = .ok (.aload_n 0, 1) := by decide +kernel
theorem dX4_newOwner_19 : decode cX4_newOwner 19 = .ok (.iload_n 2, 1) := by decide +kernel
theorem dX4_newOwner_20 : decode cX4_newOwner 20 = .ok (.invokevirtual 93, 3) := by decide +kernel
theorem dX4_newOwner_23 : decode cX4_newOwner 23 = .ok (.iload_n 1, 1) := by decide +kernel
theorem dX4_newOwner_24 : decode cX4_newOwner 24 = .ok (.if_icmp .lt 5, 3) := by decide +kernel
theorem dX4_newOwner_27 : decode cX4_newOwner 27 = .ok (.iload_n 2, 1) := by decide +kernel
theorem dX4_newOwner_28 : decode cX4_newOwner 28 = .ok (.ireturn, 1) := by decide +kernel
theorem dX4_newOwner_29 : decode cX4_newOwner 29 = .ok (.iinc 2 1, 3) := by decide +kernel
theorem dX4_newOwner_32 : decode cX4_newOwner 32 = .ok (.goto (-30), 3) := by decide +kernel
