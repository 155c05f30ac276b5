theorem dX3_eatShares_0 : decode cX3_eatShares 0 = .ok (.iconst 0, 1) := by decide +kernel
theorem dX3_eatShares_1 : decode cX3_eatShares 1 = .ok (.istore_n 3, 1) := by decide +kernel
theorem dX3_eatShares_2 : decode cX3_eatShares 2 = .ok (.iload_n 3, 1) := by decide +kernel
theorem dX3_eatShares_3 : decode cX3_eatShares 3 = .ok (.aload_n 0, 1) := by decide +kernel
theorem dX3_eatShares_4 : decode cX3_eatShares 4 = .ok (.getfield 29, 3) := by decide +kernel
theorem dX3_eatShares_7 : decode cX3_eatShares 7 = .ok (.if_icmp .ge 68, 3) := by decide +kernel
theorem dX3_eatShares_10 : decode cX3_eatShares 10 = .ok (.aload_n 0, 1) := by decide +kernel
theorem dX3_eatShares_11 : decode cX3_eatShares 11 = .ok (.getfield 11, 3) := by decide +kernel
theorem dX3_eatShares_14 : decode cX3_eatShares 14 = .ok (.iload_n 3, 1) := by decide +kernel
theorem dX3_eatShares_15 : decode cX3_eatShares 15 = .ok (.aaload, 1) := by decide +kernel
theorem dX3_eatShares_16 : decode cX3_eatShares 16 = .ok (.astore 4, 2) := by decide +kernel
theorem dX3_eatShares_18 : decode cX3_eatShares 18 = .ok (.aload 4, 2) := by decide +kernel
theorem dX3_eatShares_20 : decode cX3_eatShares 20 = .ok (.invokevirtual 96, 3) := by decide +kernel
theorem dX3_eatShares_23 : decode cX3_eatShares 23 = .ok (.ifCond .eq 16, 3) := by decide +kernel
theorem dX3_eatShares_26 : decode cX3_eatShares 26 = .ok (.aload 4, 2) := by decide +kernel
theorem dX3_eatShares_28 : decode cX3_eatShares 28 = .ok (.getfield 164, 3) := by decide +kernel
theorem dX3_eatShares_31 : decode cX3_eatShares 31 = .ok (.iload_n 2, 1) := by decide +kernel
theorem dX3_eatShares_32 : decode cX3_eatShares 32 = .ok (.if_icmp .ne 7, 3) := by decide +kernel
theorem dX3_eatShares_35 : decode cX3_eatShares 35 = .ok (.iconst 1, 1) := by decide +kernel
theorem dX3_eatShares_36 : decode cX3_eatShares 36 = .ok (.goto 4, 3) := by decide +kernel
theorem dX3_eatShares_39 : decode cX3_eatShares 39 = .ok (.iconst 0, 1) := by decide +kernel
theorem dX3_eatShares_40 : decode cX3_eatShares 40 = .ok (.istore 5, 2) := by decide +kernel
theorem dX3_eatShares_42 : decode cX3_eatShares 42 = .ok (.aload_n 0, 1) := by decide +kernel
theorem dX3_eatShares_43 : decode cX3_eatShares 43 = .ok (.getfield 25, 3) := by decide +kernel
theorem dX3_eatShares_46 : decode cX3_eatShares 46 = .ok (.iload_n 3, 1) := by decide +kernel
theorem dX3_eatShares_47 : decode cX3_eatShares 47 = .ok (.iload 5, 2) := by decide +kernel
theorem dX3_eatShares_49 : decode cX3_eatShares 49 = .ok (.ifCond .eq 11, 3) := by decide +kernel
theorem dX3_eatShares_52 : decode cX3_eatShares 52 = .ok (.aload 4, 2) := by decide +kernel
theorem dX3_eatShares_54 : decode cX3_eatShares 54 = .ok (.getfield 116, 3) := by decide +kernel
theorem dX3_eatShares_57 : decode cX3_eatShares 57 = .ok (.goto 4, 3) := by decide +kernel
theorem dX3_eatShares_60 : decode cX3_eatShares 60 = .ok (.iconst 0, 1) := by decide +kernel
theorem dX3_eatShares_61 : decode cX3_eatShares 61 = .ok (.aload 4, 2) := by decide +kernel
theorem dX3_eatShares_63 : decode cX3_eatShares 63 = .ok (.getfield 116, 3) := by decide +kernel
theorem dX3_eatShares_66 : decode cX3_eatShares 66 = .ok (.invokevirtual 103, 3) := by decide +kernel
theorem dX3_eatShares_69 : decode cX3_eatShares 69 = .ok (.iinc 3 1, 3) := by decide +kernel
theorem dX3_eatShares_72 : decode cX3_eatShares 72 = .ok (.goto (-70), 3) := by decide +kernel
theorem dX3_eatShares_75 : decode cX3_eatShares 75 = .ok (.aload_n 0, 1) := by decide +kernel
theorem dX3_eatShares_76 : decode cX3_eatShares 76 = .ok (.getfield 25, 3) := by decide +kernel
theorem dX3_eatShares_79 : decode cX3_eatShares 79 = .ok (.iload_n 1, 1) := by decide +kernel
theorem dX3_eatShares_80 : decode cX3_eatShares 80 = .ok (.invokevirtual 106, 3) := by decide +kernel
theorem dX3_eatShares_83 : decode cX3_eatShares 83 = .ok (.istore_n 3, 1) := by decide +kernel
theorem dX3_eatShares_84 : decode cX3_eatShares 84 = .ok (.iconst 0, 1) := by decide +kernel
theorem dX3_eatShares_85 : decode cX3_eatShares 85 = .ok (.istore 4, 2) := by decide +kernel
theorem dX3_eatShares_87 : decode cX3_eatShares 87 = .ok (.iload 4, 2) := by decide +kernel
theorem dX3_eatShares_89 : decode cX3_eatShares 89 = .ok (.aload_n 0, 1) := by decide +kernel
theorem dX3_eatShares_90 : decode cX3_eatShares 90 = .ok (.getfield 29, 3) := by decide +kernel
theorem dX3_eatShares_93 : decode cX3_eatShares 93 = .ok (.if_icmp .ge 33, 3) := by decide +kernel
theorem dX3_eatShares_96 : decode cX3_eatShares 96 = .ok (.aload_n 0, 1) := by decide +kernel
theorem dX3_eatShares_97 : decode cX3_eatShares 97 = .ok (.getfield 11, 3) := by decide +kernel
theorem dX3_eatShares_100 : decode cX3_eatShares 100 = .ok (.iload 4, 2) := by decide +kernel
theorem dX3_eatShares_102 : decode cX3_eatShares 102 = .ok (.aaload, 1) := by decide +kernel
theorem dX3_eatShares_103 : decode cX3_eatShares 103 = .ok (.dup, 1) := by decide +kernel
theorem dX3_eatShares_104 : decode cX3_eatShares 104 = .ok (.getfield 116, 3) := by decide +kernel
theorem dX3_eatShares_107 : decode cX3_eatShares 107 = .ok (.aload_n 0, 1) := by decide +kernel
theorem dX3_eatShares_108 : decode cX3_eatShares 108 = .ok (.getfield 25, 3) := by decide +kernel
theorem dX3_eatShares_111 : decode cX3_eatShares 111 = .ok (.iload 4, 2) := by decide +kernel
theorem dX3_eatShares_113 : decode cX3_eatShares 113 = .ok (.invokevirtual 110, 3) := by decide +kernel
theorem dX3_eatShares_116 : decode cX3_eatShares 116 = .ok (.isub, 1) := by decide +kernel
theorem dX3_eatShares_117 : decode cX3_eatShares 117 = .ok (.putfield 116, 3) := by decide +kernel
theorem dX3_eatShares_120 : decode cX3_eatShares 120 = .ok (.iinc 4 1, 3) := by decide +kernel
theorem dX3_eatShares_123 : decode cX3_eatShares 123 = .ok (.goto (-36), 3) := by decide +kernel
theorem dX3_eatShares_126 : decode cX3_eatShares 126 = .ok (.iload_n 3, 1) := by decide +kernel
theorem dX3_eatShares_127 : decode cX3_eatShares 127 = .ok (.ireturn, 1) := by decide +kernel
theorem dX3_eatAssessments_0 : decode cX3_eatAssessments 0 = .ok (.iconst 0, 1) := by decide +kernel
theorem dX3_eatAssessments_1 : decode cX3_eatAssessments 1 = .ok (.istore_n 2, 1) := by decide +kernel
theorem dX3_eatAssessments_2 : decode cX3_eatAssessments 2 = .ok (.iload_n 2, 1) := by decide +kernel
theorem dX3_eatAssessments_3 : decode cX3_eatAssessments 3 = .ok (.aload_n 0, 1) := by decide +kernel
theorem dX3_eatAssessments_4 : decode cX3_eatAssessments 4 = .ok (.getfield 29, 3) := by decide +kernel
theorem dX3_eatAssessments_7 : decode cX3_eatAssessments 7 = .ok (.if_icmp .ge 60, 3) := by decide +kernel
theorem dX3_eatAssessments_10 : decode cX3_eatAssessments 10 = .ok (.aload_n 0, 1) := by decide +kernel
theorem dX3_eatAssessments_11 : decode cX3_eatAssessments 11 = .ok (.getfield 11, 3) := by decide +kernel
theorem dX3_eatAssessments_14 : decode cX3_eatAssessments 14 = .ok (.iload_n 2, 1) := by decide +kernel
theorem dX3_eatAssessments_15 : decode cX3_eatAssessments 15 = .ok (.aaload, 1) := by decide +kernel
theorem dX3_eatAssessments_16 : decode cX3_eatAssessments 16 = .ok (.astore_n 3, 1) := by decide +kernel
theorem dX3_eatAssessments_17 : decode cX3_eatAssessments 17 = .ok (.aload_n 3, 1) := by decide +kernel
theorem dX3_eatAssessments_18 : decode cX3_eatAssessments 18 = .ok (.invokevirtual 96, 3) := by decide +kernel
theorem dX3_eatAssessments_21 : decode cX3_eatAssessments 21 = .ok (.ifCond .eq 10, 3) := by decide +kernel
theorem dX3_eatAssessments_24 : decode cX3_eatAssessments 24 = .ok (.aload_n 3, 1) := by decide +kernel
theorem dX3_eatAssessments_25 : decode cX3_eatAssessments 25 = .ok (.getfield 119, 3) := by decide +kernel
theorem dX3_eatAssessments_28 : decode cX3_eatAssessments 28 = .ok (.goto 4, 3) := by decide +kernel
theorem dX3_eatAssessments_31 : decode cX3_eatAssessments 31 = .ok (.iconst 0, 1) := by decide +kernel
theorem dX3_eatAssessments_32 : decode cX3_eatAssessments 32 = .ok (.istore 4, 2) := by decide +kernel
theorem dX3_eatAssessments_34 : decode cX3_eatAssessments 34 = .ok (.aload_n 0, 1) := by decide +kernel
theorem dX3_eatAssessments_35 : decode cX3_eatAssessments 35 = .ok (.getfield 25, 3) := by decide +kernel
theorem dX3_eatAssessments_38 : decode cX3_eatAssessments 38 = .ok (.iload_n 2, 1) := by decide +kernel
theorem dX3_eatAssessments_39 : decode cX3_eatAssessments 39 = .ok (.iload 4, 2) := by decide +kernel
theorem dX3_eatAssessments_41 : decode cX3_eatAssessments 41 = .ok (.aload_n 3, 1) := by decide +kernel
theorem dX3_eatAssessments_42 : decode cX3_eatAssessments 42 = .ok (.getfield 85, 3) := by decide +kernel
theorem dX3_eatAssessments_45 : decode cX3_eatAssessments 45 = .ok (.iconst 1, 1) := by decide +kernel
theorem dX3_eatAssessments_46 : decode cX3_eatAssessments 46 = .ok (.if_icmp .ne 10, 3) := by decide +kernel
theorem dX3_eatAssessments_49 : decode cX3_eatAssessments 49 = .ok (.iload 4, 2) := by decide +kernel
theorem dX3_eatAssessments_51 : decode cX3_eatAssessments 51 = .ok (.iconst 2, 1) := by decide +kernel
theorem dX3_eatAssessments_52 : decode cX3_eatAssessments 52 = .ok (.idiv, 1) := by decide +kernel
theorem dX3_eatAssessments_53 : decode cX3_eatAssessments 53 = .ok (.goto 5, 3) := by decide +kernel
theorem dX3_eatAssessments_56 : decode cX3_eatAssessments 56 = .ok (.iload 4, 2) := by decide +kernel
theorem dX3_eatAssessments_58 : decode cX3_eatAssessments 58 = .ok (.invokevirtual 103, 3) := by decide +kernel
theorem dX3_eatAssessments_61 : decode cX3_eatAssessments 61 = .ok (.iinc 2 1, 3) := by decide +kernel
theorem dX3_eatAssessments_64 : decode cX3_eatAssessments 64 = .ok (.goto (-62), 3) := by decide +kernel
theorem dX3_eatAssessments_67 : decode cX3_eatAssessments 67 = .ok (.aload_n 0, 1) := by decide +kernel
theorem dX3_eatAssessments_68 : decode cX3_eatAssessments 68 = .ok (.getfield 25, 3) := by decide +kernel
theorem dX3_eatAssessments_71 : decode cX3_eatAssessments 71 = .ok (.iload_n 1, 1) := by decide +kernel
theorem dX3_eatAssessments_72 : decode cX3_eatAssessments 72 = .ok (.invokevirtual 106, 3) := by decide +kernel
theorem dX3_eatAssessments_75 : decode cX3_eatAssessments 75 = .ok (.istore_n 2, 1) := by decide +kernel
theorem dX3_eatAssessments_76 : decode cX3_eatAssessments 76 = .ok (.iconst 0, 1) := by decide +kernel
theorem dX3_eatAssessments_77 : decode cX3_eatAssessments 77 = .ok (.istore_n 3, 1) := by decide +kernel
theorem dX3_eatAssessments_78 : decode cX3_eatAssessments 78 = .ok (.iload_n 3, 1) := by decide +kernel
theorem dX3_eatAssessments_79 : decode cX3_eatAssessments 79 = .ok (.aload_n 0, 1) := by decide +kernel
theorem dX3_eatAssessments_80 : decode cX3_eatAssessments 80 = .ok (.getfield 29, 3) := by decide +kernel
theorem dX3_eatAssessments_83 : decode cX3_eatAssessments 83 = .ok (.if_icmp .ge 31, 3) := by decide +kernel
theorem dX3_eatAssessments_86 : decode cX3_eatAssessments 86 = .ok (.aload_n 0, 1) := by decide +kernel
theorem dX3_eatAssessments_87 : decode cX3_eatAssessments 87 = .ok (.getfield 11, 3) := by decide +kernel
theorem dX3_eatAssessments_90 : decode cX3_eatAssessments 90 = .ok (.iload_n 3, 1) := by decide +kernel
theorem dX3_eatAssessments_91 : decode cX3_eatAssessments 91 = .ok (.aaload, 1) := by decide +kernel
theorem dX3_eatAssessments_92 : decode cX3_eatAssessments 92 = .ok (.dup, 1) := by decide +kernel
theorem dX3_eatAssessments_93 : decode cX3_eatAssessments 93 = .ok (.getfield 168, 3) := by decide +kernel
theorem dX3_eatAssessments_96 : decode cX3_eatAssessments 96 = .ok (.aload_n 0, 1) := by decide +kernel
theorem dX3_eatAssessments_97 : decode cX3_eatAssessments 97 = .ok (.getfield 25, 3) := by decide +kernel
theorem dX3_eatAssessments_100 : decode cX3_eatAssessments 100 = .ok (.iload_n 3, 1) := by decide +kernel
theorem dX3_eatAssessments_101 : decode cX3_eatAssessments 101 = .ok (.invokevirtual 110, 3) := by decide +kernel
theorem dX3_eatAssessments_104 : decode cX3_eatAssessments 104 = .ok (.iadd, 1) := by decide +kernel
theorem dX3_eatAssessments_105 : decode cX3_eatAssessments 105 = .ok (.putfield 168, 3) := by decide +kernel
theorem dX3_eatAssessments_108 : decode cX3_eatAssessments 108 = .ok (.iinc 3 1, 3) := by decide +kernel
theorem dX3_eatAssessments_111 : decode cX3_eatAssessments 111 = .ok (.goto (-33), 3) := by decide +kernel
theorem dX3_eatAssessments_114 : decode cX3_eatAssessments 114 = .ok (.iload_n 2, 1) := by decide +kernel
theorem dX3_eatAssessments_115 : decode cX3_eatAssessments 115 = .ok (.ireturn, 1) := by decide +kernel
theorem dX3_eatGains_0 : decode cX3_eatGains 0 = .ok (.iconst 0, 1) := by decide +kernel
theorem dX3_eatGains_1 : decode cX3_eatGains 1 = .ok (.istore_n 2, 1) := by decide +kernel
theorem dX3_eatGains_2 : decode cX3_eatGains 2 = .ok (.iload_n 2, 1) := by decide +kernel
theorem dX3_eatGains_3 : decode cX3_eatGains 3 = .ok (.aload_n 0, 1) := by decide +kernel
theorem dX3_eatGains_4 : decode cX3_eatGains 4 = .ok (.getfield 29, 3) := by decide +kernel
theorem dX3_eatGains_7 : decode cX3_eatGains 7 = .ok (.if_icmp .ge 43, 3) := by decide +kernel
theorem dX3_eatGains_10 : decode cX3_eatGains 10 = .ok (.aload_n 0, 1) := by decide +kernel
theorem dX3_eatGains_11 : decode cX3_eatGains 11 = .ok (.getfield 11, 3) := by decide +kernel
theorem dX3_eatGains_14 : decode cX3_eatGains 14 = .ok (.iload_n 2, 1) := by decide +kernel
theorem dX3_eatGains_15 : decode cX3_eatGains 15 = .ok (.aaload, 1) := by decide +kernel
theorem dX3_eatGains_16 : decode cX3_eatGains 16 = .ok (.astore_n 3, 1) := by decide +kernel
theorem dX3_eatGains_17 : decode cX3_eatGains 17 = .ok (.aload_n 0, 1) := by decide +kernel
theorem dX3_eatGains_18 : decode cX3_eatGains 18 = .ok (.getfield 25, 3) := by decide +kernel
theorem dX3_eatGains_21 : decode cX3_eatGains 21 = .ok (.iload_n 2, 1) := by decide +kernel
theorem dX3_eatGains_22 : decode cX3_eatGains 22 = .ok (.aload_n 3, 1) := by decide +kernel
theorem dX3_eatGains_23 : decode cX3_eatGains 23 = .ok (.invokevirtual 96, 3) := by decide +kernel
theorem dX3_eatGains_26 : decode cX3_eatGains 26 = .ok (.ifCond .eq 10, 3) := by decide +kernel
theorem dX3_eatGains_29 : decode cX3_eatGains 29 = .ok (.aload_n 3, 1) := by decide +kernel
theorem dX3_eatGains_30 : decode cX3_eatGains 30 = .ok (.getfield 79, 3) := by decide +kernel
theorem dX3_eatGains_33 : decode cX3_eatGains 33 = .ok (.goto 4, 3) := by decide +kernel
theorem dX3_eatGains_36 : decode cX3_eatGains 36 = .ok (.iconst 0, 1) := by decide +kernel
theorem dX3_eatGains_37 : decode cX3_eatGains 37 = .ok (.aload_n 3, 1) := by decide +kernel
theorem dX3_eatGains_38 : decode cX3_eatGains 38 = .ok (.getfield 79, 3) := by decide +kernel
theorem dX3_eatGains_41 : decode cX3_eatGains 41 = .ok (.invokevirtual 103, 3) := by decide +kernel
theorem dX3_eatGains_44 : decode cX3_eatGains 44 = .ok (.iinc 2 1, 3) := by decide +kernel
theorem dX3_eatGains_47 : decode cX3_eatGains 47 = .ok (.goto (-45), 3) := by decide +kernel
theorem dX3_eatGains_50 : decode cX3_eatGains 50 = .ok (.aload_n 0, 1) := by decide +kernel
theorem dX3_eatGains_51 : decode cX3_eatGains 51 = .ok (.getfield 25, 3) := by decide +kernel
theorem dX3_eatGains_54 : decode cX3_eatGains 54 = .ok (.iload_n 1, 1) := by decide +kernel
theorem dX3_eatGains_55 : decode cX3_eatGains 55 = .ok (.invokevirtual 106, 3) := by decide +kernel
theorem dX3_eatGains_58 : decode cX3_eatGains 58 = .ok (.istore_n 2, 1) := by decide +kernel
theorem dX3_eatGains_59 : decode cX3_eatGains 59 = .ok (.iconst 0, 1) := by decide +kernel
theorem dX3_eatGains_60 : decode cX3_eatGains 60 = .ok (.istore_n 3, 1) := by decide +kernel
theorem dX3_eatGains_61 : decode cX3_eatGains 61 = .ok (.iload_n 3, 1) := by decide +kernel
theorem dX3_eatGains_62 : decode cX3_eatGains 62 = .ok (.aload_n 0, 1) := by decide +kernel
theorem dX3_eatGains_63 : decode cX3_eatGains 63 = .ok (.getfield 29, 3) := by decide +kernel
theorem dX3_eatGains_66 : decode cX3_eatGains 66 = .ok (.if_icmp .ge 31, 3) := by decide +kernel
theorem dX3_eatGains_69 : decode cX3_eatGains 69 = .ok (.aload_n 0, 1) := by decide +kernel
theorem dX3_eatGains_70 : decode cX3_eatGains 70 = .ok (.getfield 11, 3) := by decide +kernel
theorem dX3_eatGains_73 : decode cX3_eatGains 73 = .ok (.iload_n 3, 1) := by decide +kernel
theorem dX3_eatGains_74 : decode cX3_eatGains 74 = .ok (.aaload, 1) := by decide +kernel
theorem dX3_eatGains_75 : decode cX3_eatGains 75 = .ok (.dup, 1) := by decide +kernel
theorem dX3_eatGains_76 : decode cX3_eatGains 76 = .ok (.getfield 79, 3) := by decide +kernel
theorem dX3_eatGains_79 : decode cX3_eatGains 79 = .ok (.aload_n 0, 1) := by decide +kernel
theorem dX3_eatGains_80 : decode cX3_eatGains 80 = .ok (.getfield 25, 3) := by decide +kernel
theorem dX3_eatGains_83 : decode cX3_eatGains 83 = .ok (.iload_n 3, 1) := by decide +kernel
theorem dX3_eatGains_84 : decode cX3_eatGains 84 = .ok (.invokevirtual 110, 3) := by decide +kernel
theorem dX3_eatGains_87 : decode cX3_eatGains 87 = .ok (.isub, 1) := by decide +kernel
theorem dX3_eatGains_88 : decode cX3_eatGains 88 = .ok (.putfield 79, 3) := by decide +kernel
theorem dX3_eatGains_91 : decode cX3_eatGains 91 = .ok (.iinc 3 1, 3) := by decide +kernel
theorem dX3_eatGains_94 : decode cX3_eatGains 94 = .ok (.goto (-33), 3) := by decide +kernel
theorem dX3_eatGains_97 : decode cX3_eatGains 97 = .ok (.iload_n 2, 1) := by decide +kernel
theorem dX3_eatGains_98 : decode cX3_eatGains 98 = .ok (.ireturn, 1) := by decide +kernel
