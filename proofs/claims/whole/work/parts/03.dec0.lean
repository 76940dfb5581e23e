theorem dX0_init_0 : decode cX0_init 0 = .ok (.aload_n 0, 1) := by decide +kernel
theorem dX0_init_1 : decode cX0_init 1 = .ok (.invokespecial 5, 3) := by decide +kernel
theorem dX0_init_4 : decode cX0_init 4 = .ok (.aload_n 0, 1) := by decide +kernel
theorem dX0_init_5 : decode cX0_init 5 = .ok (.new 1, 3) := by decide +kernel
theorem dX0_init_8 : decode cX0_init 8 = .ok (.dup, 1) := by decide +kernel
theorem dX0_init_9 : decode cX0_init 9 = .ok (.invokespecial 11, 3) := by decide +kernel
theorem dX0_init_12 : decode cX0_init 12 = .ok (.putfield 12, 3) := by decide +kernel
theorem dX0_init_15 : decode cX0_init 15 = .ok (.aload_n 0, 1) := by decide +kernel
theorem dX0_init_16 : decode cX0_init 16 = .ok (.bipush 99, 2) := by decide +kernel
theorem dX0_init_18 : decode cX0_init 18 = .ok (.newarray .int, 2) := by decide +kernel
theorem dX0_init_20 : decode cX0_init 20 = .ok (.putfield 18, 3) := by decide +kernel
theorem dX0_init_23 : decode cX0_init 23 = .ok (.aload_n 0, 1) := by decide +kernel
theorem dX0_init_24 : decode cX0_init 24 = .ok (.bipush 99, 2) := by decide +kernel
theorem dX0_init_26 : decode cX0_init 26 = .ok (.newarray .int, 2) := by decide +kernel
theorem dX0_init_28 : decode cX0_init 28 = .ok (.putfield 22, 3) := by decide +kernel
theorem dX0_init_31 : decode cX0_init 31 = .ok (.aload_n 0, 1) := by decide +kernel
theorem dX0_init_32 : decode cX0_init 32 = .ok (.bipush 99, 2) := by decide +kernel
theorem dX0_init_34 : decode cX0_init 34 = .ok (.newarray .int, 2) := by decide +kernel
theorem dX0_init_36 : decode cX0_init 36 = .ok (.putfield 25, 3) := by decide +kernel
theorem dX0_init_39 : decode cX0_init 39 = .ok (.aload_n 0, 1) := by decide +kernel
theorem dX0_init_40 : decode cX0_init 40 = .ok (.bipush 99, 2) := by decide +kernel
theorem dX0_init_42 : decode cX0_init 42 = .ok (.newarray .int, 2) := by decide +kernel
theorem dX0_init_44 : decode cX0_init 44 = .ok (.putfield 28, 3) := by decide +kernel
theorem dX0_init_47 : decode cX0_init 47 = .ok (.aload_n 0, 1) := by decide +kernel
theorem dX0_init_48 : decode cX0_init 48 = .ok (.iconst 0, 1) := by decide +kernel
theorem dX0_init_49 : decode cX0_init 49 = .ok (.putfield 31, 3) := by decide +kernel
theorem dX0_init_52 : decode cX0_init 52 = .ok (.aload_n 0, 1) := by decide +kernel
theorem dX0_init_53 : decode cX0_init 53 = .ok (.aload_n 1, 1) := by decide +kernel
theorem dX0_init_54 : decode cX0_init 54 = .ok (.putfield 35, 3) := by decide +kernel
theorem dX0_init_57 : decode cX0_init 57 = .ok (.aload_n 0, 1) := by decide +kernel
theorem dX0_init_58 : decode cX0_init 58 = .ok (.aload_n 2, 1) := by decide +kernel
theorem dX0_init_59 : decode cX0_init 59 = .ok (.putfield 38, 3) := by decide +kernel
theorem dX0_init_62 : decode cX0_init 62 = .ok (.return_, 1) := by decide +kernel
theorem dX0_canBeSaid_0 : decode cX0_canBeSaid 0 = .ok (.aload_n 0, 1) := by decide +kernel
theorem dX0_canBeSaid_1 : decode cX0_canBeSaid 1 = .ok (.getfield 35, 3) := by decide +kernel
theorem dX0_canBeSaid_4 : decode cX0_canBeSaid 4 = .ok (.iload_n 1, 1) := by decide +kernel
theorem dX0_canBeSaid_5 : decode cX0_canBeSaid 5 = .ok (.iconst 2, 1) := by decide +kernel
theorem dX0_canBeSaid_6 : decode cX0_canBeSaid 6 = .ok (.idiv, 1) := by decide +kernel
theorem dX0_canBeSaid_7 : decode cX0_canBeSaid 7 = .ok (.iload_n 2, 1) := by decide +kernel
theorem dX0_canBeSaid_8 : decode cX0_canBeSaid 8 = .ok (.invokevirtual 42, 3) := by decide +kernel
theorem dX0_canBeSaid_11 : decode cX0_canBeSaid 11 = .ok (.ireturn, 1) := by decide +kernel
theorem dX0_ageBehind_0 : decode cX0_ageBehind 0 = .ok (.iload_n 3, 1) := by decide +kernel
theorem dX0_ageBehind_1 : decode cX0_ageBehind 1 = .ok (.iconst 2, 1) := by decide +kernel
theorem dX0_ageBehind_2 : decode cX0_ageBehind 2 = .ok (.irem, 1) := by decide +kernel
theorem dX0_ageBehind_3 : decode cX0_ageBehind 3 = .ok (.iconst 1, 1) := by decide +kernel
theorem dX0_ageBehind_4 : decode cX0_ageBehind 4 = .ok (.if_icmp .ne 7, 3) := by decide +kernel
theorem dX0_ageBehind_7 : decode cX0_ageBehind 7 = .ok (.iconst 1, 1) := by decide +kernel
theorem dX0_ageBehind_8 : decode cX0_ageBehind 8 = .ok (.goto 4, 3) := by decide +kernel
theorem dX0_ageBehind_11 : decode cX0_ageBehind 11 = .ok (.iconst 0, 1) := by decide +kernel
theorem dX0_ageBehind_12 : decode cX0_ageBehind 12 = .ok (.istore 4, 2) := by decide +kernel
theorem dX0_ageBehind_14 : decode cX0_ageBehind 14 = .ok (.aload_n 0, 1) := by decide +kernel
theorem dX0_ageBehind_15 : decode cX0_ageBehind 15 = .ok (.getfield 12, 3) := by decide +kernel
theorem dX0_ageBehind_18 : decode cX0_ageBehind 18 = .ok (.iload_n 1, 1) := by decide +kernel
theorem dX0_ageBehind_19 : decode cX0_ageBehind 19 = .ok (.invokevirtual 46, 3) := by decide +kernel
theorem dX0_ageBehind_22 : decode cX0_ageBehind 22 = .ok (.iload_n 2, 1) := by decide +kernel
theorem dX0_ageBehind_23 : decode cX0_ageBehind 23 = .ok (.putfield 50, 3) := by decide +kernel
theorem dX0_ageBehind_26 : decode cX0_ageBehind 26 = .ok (.aload_n 0, 1) := by decide +kernel
theorem dX0_ageBehind_27 : decode cX0_ageBehind 27 = .ok (.getfield 12, 3) := by decide +kernel
theorem dX0_ageBehind_30 : decode cX0_ageBehind 30 = .ok (.iload_n 2, 1) := by decide +kernel
theorem dX0_ageBehind_31 : decode cX0_ageBehind 31 = .ok (.aload_n 0, 1) := by decide +kernel
theorem dX0_ageBehind_32 : decode cX0_ageBehind 32 = .ok (.getfield 38, 3) := by decide +kernel
theorem dX0_ageBehind_35 : decode cX0_ageBehind 35 = .ok (.aload_n 0, 1) := by decide +kernel
theorem dX0_ageBehind_36 : decode cX0_ageBehind 36 = .ok (.getfield 12, 3) := by decide +kernel
theorem dX0_ageBehind_39 : decode cX0_ageBehind 39 = .ok (.iload_n 3, 1) := by decide +kernel
theorem dX0_ageBehind_40 : decode cX0_ageBehind 40 = .ok (.iconst 2, 1) := by decide +kernel
theorem dX0_ageBehind_41 : decode cX0_ageBehind 41 = .ok (.idiv, 1) := by decide +kernel
theorem dX0_ageBehind_42 : decode cX0_ageBehind 42 = .ok (.iload_n 1, 1) := by decide +kernel
theorem dX0_ageBehind_43 : decode cX0_ageBehind 43 = .ok (.iload 4, 2) := by decide +kernel
theorem dX0_ageBehind_45 : decode cX0_ageBehind 45 = .ok (.invokevirtual 55, 3) := by decide +kernel
theorem dX0_ageBehind_48 : decode cX0_ageBehind 48 = .ok (.iload 4, 2) := by decide +kernel
theorem dX0_ageBehind_50 : decode cX0_ageBehind 50 = .ok (.invokevirtual 61, 3) := by decide +kernel
theorem dX0_ageBehind_53 : decode cX0_ageBehind 53 = .ok (.ireturn, 1) := by decide +kernel
theorem dX0_isPlace_0 : decode cX0_isPlace 0 = .ok (.iload_n 0, 1) := by decide +kernel
theorem dX0_isPlace_1 : decode cX0_isPlace 1 = .ok (.ifCond .lt 13, 3) := by decide +kernel
theorem dX0_isPlace_4 : decode cX0_isPlace 4 = .ok (.iload_n 0, 1) := by decide +kernel
theorem dX0_isPlace_5 : decode cX0_isPlace 5 = .ok (.bipush 99, 2) := by decide +kernel
theorem dX0_isPlace_7 : decode cX0_isPlace 7 = .ok (.if_icmp .ge 7, 3) := by decide +kernel
theorem dX0_isPlace_10 : decode cX0_isPlace 10 = .ok (.iconst 1, 1) := by decide +kernel
theorem dX0_isPlace_11 : decode cX0_isPlace 11 = .ok (.goto 4, 3) := by decide +kernel
theorem dX0_isPlace_14 : decode cX0_isPlace 14 = .ok (.iconst 0, 1) := by decide +kernel
theorem dX0_isPlace_15 : decode cX0_isPlace 15 = .ok (.ireturn, 1) := by decide +kernel
theorem dX0_reachFrom_0 : decode cX0_reachFrom 0 = .ok (.aload_n 0, 1) := by decide +kernel
theorem dX0_reachFrom_1 : decode cX0_reachFrom 1 = .ok (.getfield 12, 3) := by decide +kernel
theorem dX0_reachFrom_4 : decode cX0_reachFrom 4 = .ok (.aload_n 0, 1) := by decide +kernel
theorem dX0_reachFrom_5 : decode cX0_reachFrom 5 = .ok (.getfield 35, 3) := by decide +kernel
theorem dX0_reachFrom_8 : decode cX0_reachFrom 8 = .ok (.invokevirtual 65, 3) := by decide +kernel
theorem dX0_reachFrom_11 : decode cX0_reachFrom 11 = .ok (.aload_n 0, 1) := by decide +kernel
theorem dX0_reachFrom_12 : decode cX0_reachFrom 12 = .ok (.getfield 18, 3) := by decide +kernel
theorem dX0_reachFrom_15 : decode cX0_reachFrom 15 = .ok (.iconst (-1), 1) := by decide +kernel
theorem dX0_reachFrom_16 : decode cX0_reachFrom 16 = .ok (.invokestatic 69, 3) := by decide +kernel
theorem dX0_reachFrom_19 : decode cX0_reachFrom 19 = .ok (.aload_n 0, 1) := by decide +kernel
theorem dX0_reachFrom_20 : decode cX0_reachFrom 20 = .ok (.iconst 0, 1) := by decide +kernel
theorem dX0_reachFrom_21 : decode cX0_reachFrom 21 = .ok (.putfield 31, 3) := by decide +kernel
theorem dX0_reachFrom_24 : decode cX0_reachFrom 24 = .ok (.aload_n 0, 1) := by decide +kernel
theorem dX0_reachFrom_25 : decode cX0_reachFrom 25 = .ok (.aload_n 0, 1) := by decide +kernel
theorem dX0_reachFrom_26 : decode cX0_reachFrom 26 = .ok (.getfield 35, 3) := by decide +kernel
theorem dX0_reachFrom_29 : decode cX0_reachFrom 29 = .ok (.iload_n 1, 1) := by decide +kernel
theorem dX0_reachFrom_30 : decode cX0_reachFrom 30 = .ok (.invokevirtual 46, 3) := by decide +kernel
theorem dX0_reachFrom_33 : decode cX0_reachFrom 33 = .ok (.getfield 50, 3) := by decide +kernel
theorem dX0_reachFrom_36 : decode cX0_reachFrom 36 = .ok (.iconst 0, 1) := by decide +kernel
theorem dX0_reachFrom_37 : decode cX0_reachFrom 37 = .ok (.iconst (-1), 1) := by decide +kernel
theorem dX0_reachFrom_38 : decode cX0_reachFrom 38 = .ok (.invokevirtual 75, 3) := by decide +kernel
theorem dX0_reachFrom_41 : decode cX0_reachFrom 41 = .ok (.iconst 0, 1) := by decide +kernel
theorem dX0_reachFrom_42 : decode cX0_reachFrom 42 = .ok (.istore_n 2, 1) := by decide +kernel
theorem dX0_reachFrom_43 : decode cX0_reachFrom 43 = .ok (.iload_n 2, 1) := by decide +kernel
theorem dX0_reachFrom_44 : decode cX0_reachFrom 44 = .ok (.aload_n 0, 1) := by decide +kernel
theorem dX0_reachFrom_45 : decode cX0_reachFrom 45 = .ok (.getfield 31, 3) := by decide +kernel
theorem dX0_reachFrom_48 : decode cX0_reachFrom 48 = .ok (.if_icmp .ge 93, 3) := by decide +kernel
theorem dX0_reachFrom_51 : decode cX0_reachFrom 51 = .ok (.iload_n 2, 1) := by decide +kernel
theorem dX0_reachFrom_52 : decode cX0_reachFrom 52 = .ok (.aload_n 0, 1) := by decide +kernel
theorem dX0_reachFrom_53 : decode cX0_reachFrom 53 = .ok (.getfield 25, 3) := by decide +kernel
theorem dX0_reachFrom_56 : decode cX0_reachFrom 56 = .ok (.arraylength, 1) := by decide +kernel
theorem dX0_reachFrom_57 : decode cX0_reachFrom 57 = .ok (.if_icmp .ge 84, 3) := by decide +kernel
theorem dX0_reachFrom_60 : decode cX0_reachFrom 60 = .ok (.aload_n 0, 1) := by decide +kernel
theorem dX0_reachFrom_61 : decode cX0_reachFrom 61 = .ok (.getfield 25, 3) := by decide +kernel
theorem dX0_reachFrom_64 : decode cX0_reachFrom 64 = .ok (.iload_n 2, 1) := by decide +kernel
theorem dX0_reachFrom_65 : decode cX0_reachFrom 65 = .ok (.iaload, 1) := by decide +kernel
theorem dX0_reachFrom_66 : decode cX0_reachFrom 66 = .ok (.istore_n 3, 1) := by decide +kernel
theorem dX0_reachFrom_67 : decode cX0_reachFrom 67 = .ok (.iconst 0, 1) := by decide +kernel
theorem dX0_reachFrom_68 : decode cX0_reachFrom 68 = .ok (.istore 4, 2) := by decide +kernel
theorem dX0_reachFrom_70 : decode cX0_reachFrom 70 = .ok (.iload 4, 2) := by decide +kernel
theorem dX0_reachFrom_72 : decode cX0_reachFrom 72 = .ok (.bipush 16, 2) := by decide +kernel
theorem dX0_reachFrom_74 : decode cX0_reachFrom 74 = .ok (.if_icmp .ge 61, 3) := by decide +kernel
theorem dX0_reachFrom_77 : decode cX0_reachFrom 77 = .ok (.iload_n 3, 1) := by decide +kernel
theorem dX0_reachFrom_78 : decode cX0_reachFrom 78 = .ok (.invokestatic 79, 3) := by decide +kernel
theorem dX0_reachFrom_81 : decode cX0_reachFrom 81 = .ok (.ifCond .eq 54, 3) := by decide +kernel
theorem dX0_reachFrom_84 : decode cX0_reachFrom 84 = .ok (.aload_n 0, 1) := by decide +kernel
theorem dX0_reachFrom_85 : decode cX0_reachFrom 85 = .ok (.iload 4, 2) := by decide +kernel
theorem dX0_reachFrom_87 : decode cX0_reachFrom 87 = .ok (.iload_n 1, 1) := by decide +kernel
theorem dX0_reachFrom_88 : decode cX0_reachFrom 88 = .ok (.invokevirtual 83, 3) := by decide +kernel
theorem dX0_reachFrom_91 : decode cX0_reachFrom 91 = .ok (.ifCond .eq 38, 3) := by decide +kernel
theorem dX0_reachFrom_94 : decode cX0_reachFrom 94 = .ok (.aload_n 0, 1) := by decide +kernel
theorem dX0_reachFrom_95 : decode cX0_reachFrom 95 = .ok (.aload_n 0, 1) := by decide +kernel
theorem dX0_reachFrom_96 : decode cX0_reachFrom 96 = .ok (.iload_n 1, 1) := by decide +kernel
theorem dX0_reachFrom_97 : decode cX0_reachFrom 97 = .ok (.iload_n 3, 1) := by decide +kernel
theorem dX0_reachFrom_98 : decode cX0_reachFrom 98 = .ok (.iload 4, 2) := by decide +kernel
theorem dX0_reachFrom_100 : decode cX0_reachFrom 100 = .ok (.invokevirtual 86, 3) := by decide +kernel
theorem dX0_reachFrom_103 : decode cX0_reachFrom 103 = .ok (.aload_n 0, 1) := by decide +kernel
theorem dX0_reachFrom_104 : decode cX0_reachFrom 104 = .ok (.getfield 18, 3) := by decide +kernel
theorem dX0_reachFrom_107 : decode cX0_reachFrom 107 = .ok (.iload_n 3, 1) := by decide +kernel
theorem dX0_reachFrom_108 : decode cX0_reachFrom 108 = .ok (.iaload, 1) := by decide +kernel
theorem dX0_reachFrom_109 : decode cX0_reachFrom 109 = .ok (.iconst 1, 1) := by decide +kernel
theorem dX0_reachFrom_110 : decode cX0_reachFrom 110 = .ok (.iadd, 1) := by decide +kernel
theorem dX0_reachFrom_111 : decode cX0_reachFrom 111 = .ok (.iload_n 2, 1) := by decide +kernel
theorem dX0_reachFrom_112 : decode cX0_reachFrom 112 = .ok (.ifCond .ne 8, 3) := by decide +kernel
theorem dX0_reachFrom_115 : decode cX0_reachFrom 115 = .ok (.iload 4, 2) := by decide +kernel
theorem dX0_reachFrom_117 : decode cX0_reachFrom 117 = .ok (.goto 9, 3) := by decide +kernel
theorem dX0_reachFrom_120 : decode cX0_reachFrom 120 = .ok (.aload_n 0, 1) := by decide +kernel
theorem dX0_reachFrom_121 : decode cX0_reachFrom 121 = .ok (.getfield 22, 3) := by decide +kernel
theorem dX0_reachFrom_124 : decode cX0_reachFrom 124 = .ok (.iload_n 3, 1) := by decide +kernel
theorem dX0_reachFrom_125 : decode cX0_reachFrom 125 = .ok (.iaload, 1) := by decide +kernel
theorem dX0_reachFrom_126 : decode cX0_reachFrom 126 = .ok (.invokevirtual 75, 3) := by decide +kernel
theorem dX0_reachFrom_129 : decode cX0_reachFrom 129 = .ok (.iinc 4 1, 3) := by decide +kernel
theorem dX0_reachFrom_132 : decode cX0_reachFrom 132 = .ok (.goto (-62), 3) := by decide +kernel
theorem dX0_reachFrom_135 : decode cX0_reachFrom 135 = .ok (.iinc 2 1, 3) := by decide +kernel
theorem dX0_reachFrom_138 : decode cX0_reachFrom 138 = .ok (.goto (-95), 3) := by decide +kernel
theorem dX0_reachFrom_141 : decode cX0_reachFrom 141 = .ok (.return_, 1) := by decide +kernel
theorem dX0_reach_0 : decode cX0_reach 0 = .ok (.iload_n 1, 1) := by decide +kernel
theorem dX0_reach_1 : decode cX0_reach 1 = .ok (.invokestatic 79, 3) := by decide +kernel
theorem dX0_reach_4 : decode cX0_reach 4 = .ok (.ifCond .ne 4, 3) := by decide +kernel
theorem dX0_reach_7 : decode cX0_reach 7 = .ok (.return_, 1) := by decide +kernel
theorem dX0_reach_8 : decode cX0_reach 8 = .ok (.aload_n 0, 1) := by decide +kernel
theorem dX0_reach_9 : decode cX0_reach 9 = .ok (.getfield 18, 3) := by decide +kernel
theorem dX0_reach_12 : decode cX0_reach 12 = .ok (.iload_n 1, 1) := by decide +kernel
theorem dX0_reach_13 : decode cX0_reach 13 = .ok (.iaload, 1) := by decide +kernel
theorem dX0_reach_14 : decode cX0_reach 14 = .ok (.iconst (-1), 1) := by decide +kernel
theorem dX0_reach_15 : decode cX0_reach 15 = .ok (.if_icmp .ne 59, 3) := by decide +kernel
theorem dX0_reach_18 : decode cX0_reach 18 = .ok (.aload_n 0, 1) := by decide +kernel
theorem dX0_reach_19 : decode cX0_reach 19 = .ok (.getfield 31, 3) := by decide +kernel
theorem dX0_reach_22 : decode cX0_reach 22 = .ok (.ifCond .lt 52, 3) := by decide +kernel
theorem dX0_reach_25 : decode cX0_reach 25 = .ok (.aload_n 0, 1) := by decide +kernel
theorem dX0_reach_26 : decode cX0_reach 26 = .ok (.getfield 31, 3) := by decide +kernel
theorem dX0_reach_29 : decode cX0_reach 29 = .ok (.aload_n 0, 1) := by decide +kernel
theorem dX0_reach_30 : decode cX0_reach 30 = .ok (.getfield 25, 3) := by decide +kernel
theorem dX0_reach_33 : decode cX0_reach 33 = .ok (.arraylength, 1) := by decide +kernel
theorem dX0_reach_34 : decode cX0_reach 34 = .ok (.if_icmp .ge 40, 3) := by decide +kernel
theorem dX0_reach_37 : decode cX0_reach 37 = .ok (.aload_n 0, 1) := by decide +kernel
theorem dX0_reach_38 : decode cX0_reach 38 = .ok (.getfield 18, 3) := by decide +kernel
theorem dX0_reach_41 : decode cX0_reach 41 = .ok (.iload_n 1, 1) := by decide +kernel
theorem dX0_reach_42 : decode cX0_reach 42 = .ok (.iload_n 2, 1) := by decide +kernel
theorem dX0_reach_43 : decode cX0_reach 43 = .ok (.iastore, 1) := by decide +kernel
theorem dX0_reach_44 : decode cX0_reach 44 = .ok (.aload_n 0, 1) := by decide +kernel
theorem dX0_reach_45 : decode cX0_reach 45 = .ok (.getfield 22, 3) := by decide +kernel
theorem dX0_reach_48 : decode cX0_reach 48 = .ok (.iload_n 1, 1) := by decide +kernel
theorem dX0_reach_49 : decode cX0_reach 49 = .ok (.iload_n 3, 1) := by decide +kernel
theorem dX0_reach_50 : decode cX0_reach 50 = .ok (.iastore, 1) := by decide +kernel
theorem dX0_reach_51 : decode cX0_reach 51 = .ok (.aload_n 0, 1) := by decide +kernel
theorem dX0_reach_52 : decode cX0_reach 52 = .ok (.getfield 25, 3) := by decide +kernel
theorem dX0_reach_55 : decode cX0_reach 55 = .ok (.aload_n 0, 1) := by decide +kernel
theorem dX0_reach_56 : decode cX0_reach 56 = .ok (.getfield 31, 3) := by decide +kernel
theorem dX0_reach_59 : decode cX0_reach 59 = .ok (.iload_n 1, 1) := by decide +kernel
theorem dX0_reach_60 : decode cX0_reach 60 = .ok (.iastore, 1) := by decide +kernel
theorem dX0_reach_61 : decode cX0_reach 61 = .ok (.aload_n 0, 1) := by decide +kernel
theorem dX0_reach_62 : decode cX0_reach 62 = .ok (.dup, 1) := by decide +kernel
theorem dX0_reach_63 : decode cX0_reach 63 = .ok (.getfield 31, 3) := by decide +kernel
theorem dX0_reach_66 : decode cX0_reach 66 = .ok (.iconst 1, 1) := by decide +kernel
theorem dX0_reach_67 : decode cX0_reach 67 = .ok (.iadd, 1) := by decide +kernel
theorem dX0_reach_68 : decode cX0_reach 68 = .ok (.putfield 31, 3) := by decide +kernel
theorem dX0_reach_71 : decode cX0_reach 71 = .ok (.goto 29, 3) := by decide +kernel
theorem dX0_reach_74 : decode cX0_reach 74 = .ok (.aload_n 0, 1) := by decide +kernel
theorem dX0_reach_75 : decode cX0_reach 75 = .ok (.getfield 18, 3) := by decide +kernel
theorem dX0_reach_78 : decode cX0_reach 78 = .ok (.iload_n 1, 1) := by decide +kernel
theorem dX0_reach_79 : decode cX0_reach 79 = .ok (.iaload, 1) := by decide +kernel
theorem dX0_reach_80 : decode cX0_reach 80 = .ok (.iload_n 2, 1) := by decide +kernel
theorem dX0_reach_81 : decode cX0_reach 81 = .ok (.if_icmp .ne 19, 3) := by decide +kernel
theorem dX0_reach_84 : decode cX0_reach 84 = .ok (.aload_n 0, 1) := by decide +kernel
theorem dX0_reach_85 : decode cX0_reach 85 = .ok (.getfield 22, 3) := by decide +kernel
theorem dX0_reach_88 : decode cX0_reach 88 = .ok (.iload_n 1, 1) := by decide +kernel
theorem dX0_reach_89 : decode cX0_reach 89 = .ok (.aload_n 0, 1) := by decide +kernel
theorem dX0_reach_90 : decode cX0_reach 90 = .ok (.getfield 22, 3) := by decide +kernel
theorem dX0_reach_93 : decode cX0_reach 93 = .ok (.iload_n 1, 1) := by decide +kernel
theorem dX0_reach_94 : decode cX0_reach 94 = .ok (.iaload, 1) := by decide +kernel
theorem dX0_reach_95 : decode cX0_reach 95 = .ok (.iload_n 3, 1) := by decide +kernel
theorem dX0_reach_96 : decode cX0_reach 96 = .ok (.invokestatic 90, 3) := by decide +kernel
theorem dX0_reach_99 : decode cX0_reach 99 = .ok (.iastore, 1) := by decide +kernel
theorem dX0_reach_100 : decode cX0_reach 100 = .ok (.return_, 1) := by decide +kernel
theorem dX0_stepsTo_0 : decode cX0_stepsTo 0 = .ok (.aload_n 0, 1) := by decide +kernel
theorem dX0_stepsTo_1 : decode cX0_stepsTo 1 = .ok (.iload_n 1, 1) := by decide +kernel
theorem dX0_stepsTo_2 : decode cX0_stepsTo 2 = .ok (.invokevirtual 96, 3) := by decide +kernel
theorem dX0_stepsTo_5 : decode cX0_stepsTo 5 = .ok (.iload_n 2, 1) := by decide +kernel
theorem dX0_stepsTo_6 : decode cX0_stepsTo 6 = .ok (.invokestatic 79, 3) := by decide +kernel
theorem dX0_stepsTo_9 : decode cX0_stepsTo 9 = .ok (.ifCond .eq 12, 3) := by decide +kernel
theorem dX0_stepsTo_12 : decode cX0_stepsTo 12 = .ok (.aload_n 0, 1) := by decide +kernel
theorem dX0_stepsTo_13 : decode cX0_stepsTo 13 = .ok (.getfield 18, 3) := by decide +kernel
theorem dX0_stepsTo_16 : decode cX0_stepsTo 16 = .ok (.iload_n 2, 1) := by decide +kernel
theorem dX0_stepsTo_17 : decode cX0_stepsTo 17 = .ok (.iaload, 1) := by decide +kernel
theorem dX0_stepsTo_18 : decode cX0_stepsTo 18 = .ok (.goto 4, 3) := by decide +kernel
theorem dX0_stepsTo_21 : decode cX0_stepsTo 21 = .ok (.iconst (-1), 1) := by decide +kernel
theorem dX0_stepsTo_22 : decode cX0_stepsTo 22 = .ok (.ireturn, 1) := by decide +kernel
theorem dX0_firstTo_0 : decode cX0_firstTo 0 = .ok (.aload_n 0, 1) := by decide +kernel
theorem dX0_firstTo_1 : decode cX0_firstTo 1 = .ok (.iload_n 1, 1) := by decide +kernel
theorem dX0_firstTo_2 : decode cX0_firstTo 2 = .ok (.invokevirtual 96, 3) := by decide +kernel
theorem dX0_firstTo_5 : decode cX0_firstTo 5 = .ok (.iload_n 2, 1) := by decide +kernel
theorem dX0_firstTo_6 : decode cX0_firstTo 6 = .ok (.invokestatic 79, 3) := by decide +kernel
theorem dX0_firstTo_9 : decode cX0_firstTo 9 = .ok (.ifCond .eq 21, 3) := by decide +kernel
theorem dX0_firstTo_12 : decode cX0_firstTo 12 = .ok (.aload_n 0, 1) := by decide +kernel
theorem dX0_firstTo_13 : decode cX0_firstTo 13 = .ok (.getfield 18, 3) := by decide +kernel
theorem dX0_firstTo_16 : decode cX0_firstTo 16 = .ok (.iload_n 2, 1) := by decide +kernel
theorem dX0_firstTo_17 : decode cX0_firstTo 17 = .ok (.iaload, 1) := by decide +kernel
theorem dX0_firstTo_18 : decode cX0_firstTo 18 = .ok (.ifCond .le 12, 3) := by decide +kernel
theorem dX0_firstTo_21 : decode cX0_firstTo 21 = .ok (.aload_n 0, 1) := by decide +kernel
theorem dX0_firstTo_22 : decode cX0_firstTo 22 = .ok (.getfield 22, 3) := by decide +kernel
theorem dX0_firstTo_25 : decode cX0_firstTo 25 = .ok (.iload_n 2, 1) := by decide +kernel
theorem dX0_firstTo_26 : decode cX0_firstTo 26 = .ok (.iaload, 1) := by decide +kernel
theorem dX0_firstTo_27 : decode cX0_firstTo 27 = .ok (.goto 4, 3) := by decide +kernel
theorem dX0_firstTo_30 : decode cX0_firstTo 30 = .ok (.iconst (-1), 1) := by decide +kernel
theorem dX0_firstTo_31 : decode cX0_firstTo 31 = .ok (.ireturn, 1) := by decide +kernel
theorem dX0_within_0 : decode cX0_within 0 = .ok (.aload_n 0, 1) := by decide +kernel
theorem dX0_within_1 : decode cX0_within 1 = .ok (.iload_n 1, 1) := by decide +kernel
theorem dX0_within_2 : decode cX0_within 2 = .ok (.invokevirtual 96, 3) := by decide +kernel
theorem dX0_within_5 : decode cX0_within 5 = .ok (.iconst 0, 1) := by decide +kernel
theorem dX0_within_6 : decode cX0_within 6 = .ok (.istore_n 3, 1) := by decide +kernel
theorem dX0_within_7 : decode cX0_within 7 = .ok (.iconst 0, 1) := by decide +kernel
theorem dX0_within_8 : decode cX0_within 8 = .ok (.istore 4, 2) := by decide +kernel
theorem dX0_within_10 : decode cX0_within 10 = .ok (.iload 4, 2) := by decide +kernel
theorem dX0_within_12 : decode cX0_within 12 = .ok (.aload_n 0, 1) := by decide +kernel
theorem dX0_within_13 : decode cX0_within 13 = .ok (.getfield 18, 3) := by decide +kernel
theorem dX0_within_16 : decode cX0_within 16 = .ok (.arraylength, 1) := by decide +kernel
theorem dX0_within_17 : decode cX0_within 17 = .ok (.if_icmp .ge 34, 3) := by decide +kernel
theorem dX0_within_20 : decode cX0_within 20 = .ok (.aload_n 0, 1) := by decide +kernel
theorem dX0_within_21 : decode cX0_within 21 = .ok (.getfield 18, 3) := by decide +kernel
theorem dX0_within_24 : decode cX0_within 24 = .ok (.iload 4, 2) := by decide +kernel
theorem dX0_within_26 : decode cX0_within 26 = .ok (.iaload, 1) := by decide +kernel
theorem dX0_within_27 : decode cX0_within 27 = .ok (.iconst (-1), 1) := by decide +kernel
theorem dX0_within_28 : decode cX0_within 28 = .ok (.if_icmp .eq 17, 3) := by decide +kernel
theorem dX0_within_31 : decode cX0_within 31 = .ok (.aload_n 0, 1) := by decide +kernel
theorem dX0_within_32 : decode cX0_within 32 = .ok (.getfield 18, 3) := by decide +kernel
theorem dX0_within_35 : decode cX0_within 35 = .ok (.iload 4, 2) := by decide +kernel
theorem dX0_within_37 : decode cX0_within 37 = .ok (.iaload, 1) := by decide +kernel
theorem dX0_within_38 : decode cX0_within 38 = .ok (.iload_n 2, 1) := by decide +kernel
theorem dX0_within_39 : decode cX0_within 39 = .ok (.if_icmp .gt 6, 3) := by decide +kernel
theorem dX0_within_42 : decode cX0_within 42 = .ok (.iinc 3 1, 3) := by decide +kernel
theorem dX0_within_45 : decode cX0_within 45 = .ok (.iinc 4 1, 3) := by decide +kernel
theorem dX0_within_48 : decode cX0_within 48 = .ok (.goto (-38), 3) := by decide +kernel
theorem dX0_within_51 : decode cX0_within 51 = .ok (.iload_n 3, 1) := by decide +kernel
theorem dX0_within_52 : decode cX0_within 52 = .ok (.ireturn, 1) := by decide +kernel
theorem dX0_heaviest_0 : decode cX0_heaviest 0 = .ok (.iconst (-1), 1) := by decide +kernel
theorem dX0_heaviest_1 : decode cX0_heaviest 1 = .ok (.istore_n 3, 1) := by decide +kernel
theorem dX0_heaviest_2 : decode cX0_heaviest 2 = .ok (.iconst (-1), 1) := by decide +kernel
theorem dX0_heaviest_3 : decode cX0_heaviest 3 = .ok (.istore 4, 2) := by decide +kernel
theorem dX0_heaviest_5 : decode cX0_heaviest 5 = .ok (.iconst 0, 1) := by decide +kernel
theorem dX0_heaviest_6 : decode cX0_heaviest 6 = .ok (.istore 5, 2) := by decide +kernel
theorem dX0_heaviest_8 : decode cX0_heaviest 8 = .ok (.iload 5, 2) := by decide +kernel
theorem dX0_heaviest_10 : decode cX0_heaviest 10 = .ok (.aload_n 0, 1) := by decide +kernel
theorem dX0_heaviest_11 : decode cX0_heaviest 11 = .ok (.getfield 35, 3) := by decide +kernel
theorem dX0_heaviest_14 : decode cX0_heaviest 14 = .ok (.getfield 100, 3) := by decide +kernel
theorem dX0_heaviest_17 : decode cX0_heaviest 17 = .ok (.if_icmp .ge 53, 3) := by decide +kernel
theorem dX0_heaviest_20 : decode cX0_heaviest 20 = .ok (.aload_n 0, 1) := by decide +kernel
theorem dX0_heaviest_21 : decode cX0_heaviest 21 = .ok (.getfield 35, 3) := by decide +kernel
theorem dX0_heaviest_24 : decode cX0_heaviest 24 = .ok (.iload 5, 2) := by decide +kernel
theorem dX0_heaviest_26 : decode cX0_heaviest 26 = .ok (.iload_n 1, 1) := by decide +kernel
theorem dX0_heaviest_27 : decode cX0_heaviest 27 = .ok (.invokevirtual 42, 3) := by decide +kernel
theorem dX0_heaviest_30 : decode cX0_heaviest 30 = .ok (.ifCond .eq 34, 3) := by decide +kernel
theorem dX0_heaviest_33 : decode cX0_heaviest 33 = .ok (.aload_n 0, 1) := by decide +kernel
theorem dX0_heaviest_34 : decode cX0_heaviest 34 = .ok (.getfield 38, 3) := by decide +kernel
theorem dX0_heaviest_37 : decode cX0_heaviest 37 = .ok (.aload_n 0, 1) := by decide +kernel
theorem dX0_heaviest_38 : decode cX0_heaviest 38 = .ok (.getfield 35, 3) := by decide +kernel
theorem dX0_heaviest_41 : decode cX0_heaviest 41 = .ok (.iload 5, 2) := by decide +kernel
theorem dX0_heaviest_43 : decode cX0_heaviest 43 = .ok (.iload_n 1, 1) := by decide +kernel
theorem dX0_heaviest_44 : decode cX0_heaviest 44 = .ok (.iload_n 2, 1) := by decide +kernel
theorem dX0_heaviest_45 : decode cX0_heaviest 45 = .ok (.invokevirtual 55, 3) := by decide +kernel
theorem dX0_heaviest_48 : decode cX0_heaviest 48 = .ok (.istore 6, 2) := by decide +kernel
theorem dX0_heaviest_50 : decode cX0_heaviest 50 = .ok (.iload 6, 2) := by decide +kernel
theorem dX0_heaviest_52 : decode cX0_heaviest 52 = .ok (.iload 4, 2) := by decide +kernel
theorem dX0_heaviest_54 : decode cX0_heaviest 54 = .ok (.if_icmp .le 10, 3) := by decide +kernel
theorem dX0_heaviest_57 : decode cX0_heaviest 57 = .ok (.iload 6, 2) := by decide +kernel
theorem dX0_heaviest_59 : decode cX0_heaviest 59 = .ok (.istore 4, 2) := by decide +kernel
theorem dX0_heaviest_61 : decode cX0_heaviest 61 = .ok (.iload 5, 2) := by decide +kernel
theorem dX0_heaviest_63 : decode cX0_heaviest 63 = .ok (.istore_n 3, 1) := by decide +kernel
theorem dX0_heaviest_64 : decode cX0_heaviest 64 = .ok (.iinc 5 1, 3) := by decide +kernel
theorem dX0_heaviest_67 : decode cX0_heaviest 67 = .ok (.goto (-59), 3) := by decide +kernel
theorem dX0_heaviest_70 : decode cX0_heaviest 70 = .ok (.iload_n 3, 1) := by decide +kernel
theorem dX0_heaviest_71 : decode cX0_heaviest 71 = .ok (.ireturn, 1) := by decide +kernel
theorem dX0_fitting_0 : decode cX0_fitting 0 = .ok (.aload_n 0, 1) := by decide +kernel
theorem dX0_fitting_1 : decode cX0_fitting 1 = .ok (.getfield 12, 3) := by decide +kernel
theorem dX0_fitting_4 : decode cX0_fitting 4 = .ok (.aload_n 0, 1) := by decide +kernel
theorem dX0_fitting_5 : decode cX0_fitting 5 = .ok (.getfield 35, 3) := by decide +kernel
theorem dX0_fitting_8 : decode cX0_fitting 8 = .ok (.invokevirtual 65, 3) := by decide +kernel
theorem dX0_fitting_11 : decode cX0_fitting 11 = .ok (.iconst 0, 1) := by decide +kernel
theorem dX0_fitting_12 : decode cX0_fitting 12 = .ok (.istore 4, 2) := by decide +kernel
theorem dX0_fitting_14 : decode cX0_fitting 14 = .ok (.iconst 0, 1) := by decide +kernel
theorem dX0_fitting_15 : decode cX0_fitting 15 = .ok (.istore 5, 2) := by decide +kernel
theorem dX0_fitting_17 : decode cX0_fitting 17 = .ok (.iload 5, 2) := by decide +kernel
theorem dX0_fitting_19 : decode cX0_fitting 19 = .ok (.bipush 16, 2) := by decide +kernel
theorem dX0_fitting_21 : decode cX0_fitting 21 = .ok (.if_icmp .ge 40, 3) := by decide +kernel
theorem dX0_fitting_24 : decode cX0_fitting 24 = .ok (.aload_n 0, 1) := by decide +kernel
theorem dX0_fitting_25 : decode cX0_fitting 25 = .ok (.iload 5, 2) := by decide +kernel
theorem dX0_fitting_27 : decode cX0_fitting 27 = .ok (.iload_n 1, 1) := by decide +kernel
theorem dX0_fitting_28 : decode cX0_fitting 28 = .ok (.invokevirtual 83, 3) := by decide +kernel
theorem dX0_fitting_31 : decode cX0_fitting 31 = .ok (.ifCond .eq 24, 3) := by decide +kernel
theorem dX0_fitting_34 : decode cX0_fitting 34 = .ok (.aload_n 0, 1) := by decide +kernel
theorem dX0_fitting_35 : decode cX0_fitting 35 = .ok (.iload_n 1, 1) := by decide +kernel
theorem dX0_fitting_36 : decode cX0_fitting 36 = .ok (.iload 5, 2) := by decide +kernel
theorem dX0_fitting_38 : decode cX0_fitting 38 = .ok (.aload_n 2, 1) := by decide +kernel
theorem dX0_fitting_39 : decode cX0_fitting 39 = .ok (.iload_n 3, 1) := by decide +kernel
theorem dX0_fitting_40 : decode cX0_fitting 40 = .ok (.invokevirtual 103, 3) := by decide +kernel
theorem dX0_fitting_43 : decode cX0_fitting 43 = .ok (.ifCond .eq 12, 3) := by decide +kernel
theorem dX0_fitting_46 : decode cX0_fitting 46 = .ok (.iload 4, 2) := by decide +kernel
theorem dX0_fitting_48 : decode cX0_fitting 48 = .ok (.iconst 1, 1) := by decide +kernel
theorem dX0_fitting_49 : decode cX0_fitting 49 = .ok (.iload 5, 2) := by decide +kernel
theorem dX0_fitting_51 : decode cX0_fitting 51 = .ok (.ishl, 1) := by decide +kernel
theorem dX0_fitting_52 : decode cX0_fitting 52 = .ok (.ior, 1) := by decide +kernel
theorem dX0_fitting_53 : decode cX0_fitting 53 = .ok (.istore 4, 2) := by decide +kernel
theorem dX0_fitting_55 : decode cX0_fitting 55 = .ok (.iinc 5 1, 3) := by decide +kernel
theorem dX0_fitting_58 : decode cX0_fitting 58 = .ok (.goto (-41), 3) := by decide +kernel
theorem dX0_fitting_61 : decode cX0_fitting 61 = .ok (.iload 4, 2) := by decide +kernel
theorem dX0_fitting_63 : decode cX0_fitting 63 = .ok (.ireturn, 1) := by decide +kernel
theorem dX0_fits_0 : decode cX0_fits 0 = .ok (.iconst 0, 1) := by decide +kernel
theorem dX0_fits_1 : decode cX0_fits 1 = .ok (.istore 5, 2) := by decide +kernel
theorem dX0_fits_3 : decode cX0_fits 3 = .ok (.iload 5, 2) := by decide +kernel
theorem dX0_fits_5 : decode cX0_fits 5 = .ok (.iconst 1, 1) := by decide +kernel
theorem dX0_fits_6 : decode cX0_fits 6 = .ok (.iadd, 1) := by decide +kernel
theorem dX0_fits_7 : decode cX0_fits 7 = .ok (.iload 4, 2) := by decide +kernel
theorem dX0_fits_9 : decode cX0_fits 9 = .ok (.if_icmp .ge 39, 3) := by decide +kernel
theorem dX0_fits_12 : decode cX0_fits 12 = .ok (.iload 5, 2) := by decide +kernel
theorem dX0_fits_14 : decode cX0_fits 14 = .ok (.iconst 1, 1) := by decide +kernel
theorem dX0_fits_15 : decode cX0_fits 15 = .ok (.iadd, 1) := by decide +kernel
theorem dX0_fits_16 : decode cX0_fits 16 = .ok (.aload_n 3, 1) := by decide +kernel
theorem dX0_fits_17 : decode cX0_fits 17 = .ok (.arraylength, 1) := by decide +kernel
theorem dX0_fits_18 : decode cX0_fits 18 = .ok (.if_icmp .ge 30, 3) := by decide +kernel
theorem dX0_fits_21 : decode cX0_fits 21 = .ok (.aload_n 0, 1) := by decide +kernel
theorem dX0_fits_22 : decode cX0_fits 22 = .ok (.iload_n 1, 1) := by decide +kernel
theorem dX0_fits_23 : decode cX0_fits 23 = .ok (.aload_n 3, 1) := by decide +kernel
theorem dX0_fits_24 : decode cX0_fits 24 = .ok (.iload 5, 2) := by decide +kernel
theorem dX0_fits_26 : decode cX0_fits 26 = .ok (.iaload, 1) := by decide +kernel
theorem dX0_fits_27 : decode cX0_fits 27 = .ok (.iload_n 2, 1) := by decide +kernel
theorem dX0_fits_28 : decode cX0_fits 28 = .ok (.invokevirtual 86, 3) := by decide +kernel
theorem dX0_fits_31 : decode cX0_fits 31 = .ok (.aload_n 3, 1) := by decide +kernel
theorem dX0_fits_32 : decode cX0_fits 32 = .ok (.iload 5, 2) := by decide +kernel
theorem dX0_fits_34 : decode cX0_fits 34 = .ok (.iconst 1, 1) := by decide +kernel
theorem dX0_fits_35 : decode cX0_fits 35 = .ok (.iadd, 1) := by decide +kernel
theorem dX0_fits_36 : decode cX0_fits 36 = .ok (.iaload, 1) := by decide +kernel
theorem dX0_fits_37 : decode cX0_fits 37 = .ok (.if_icmp .eq 5, 3) := by decide +kernel
theorem dX0_fits_40 : decode cX0_fits 40 = .ok (.iconst 0, 1) := by decide +kernel
theorem dX0_fits_41 : decode cX0_fits 41 = .ok (.ireturn, 1) := by decide +kernel
theorem dX0_fits_42 : decode cX0_fits 42 = .ok (.iinc 5 2, 3) := by decide +kernel
theorem dX0_fits_45 : decode cX0_fits 45 = .ok (.goto (-42), 3) := by decide +kernel
theorem dX0_fits_48 : decode cX0_fits 48 = .ok (.iconst 1, 1) := by decide +kernel
theorem dX0_fits_49 : decode cX0_fits 49 = .ok (.ireturn, 1) := by decide +kernel
theorem dX0_bestToAsk_0 : decode cX0_bestToAsk 0 = .ok (.aload_n 0, 1) := by decide +kernel
theorem dX0_bestToAsk_1 : decode cX0_bestToAsk 1 = .ok (.iload_n 1, 1) := by decide +kernel
theorem dX0_bestToAsk_2 : decode cX0_bestToAsk 2 = .ok (.aload_n 2, 1) := by decide +kernel
theorem dX0_bestToAsk_3 : decode cX0_bestToAsk 3 = .ok (.iload_n 3, 1) := by decide +kernel
theorem dX0_bestToAsk_4 : decode cX0_bestToAsk 4 = .ok (.invokevirtual 107, 3) := by decide +kernel
theorem dX0_bestToAsk_7 : decode cX0_bestToAsk 7 = .ok (.istore 4, 2) := by decide +kernel
theorem dX0_bestToAsk_9 : decode cX0_bestToAsk 9 = .ok (.iload 4, 2) := by decide +kernel
theorem dX0_bestToAsk_11 : decode cX0_bestToAsk 11 = .ok (.invokestatic 111, 3) := by decide +kernel
theorem dX0_bestToAsk_14 : decode cX0_bestToAsk 14 = .ok (.iconst 2, 1) := by decide +kernel
theorem dX0_bestToAsk_15 : decode cX0_bestToAsk 15 = .ok (.if_icmp .ge 5, 3) := by decide +kernel
theorem dX0_bestToAsk_18 : decode cX0_bestToAsk 18 = .ok (.iconst (-1), 1) := by decide +kernel
theorem dX0_bestToAsk_19 : decode cX0_bestToAsk 19 = .ok (.ireturn, 1) := by decide +kernel
theorem dX0_bestToAsk_20 : decode cX0_bestToAsk 20 = .ok (.iconst (-1), 1) := by decide +kernel
theorem dX0_bestToAsk_21 : decode cX0_bestToAsk 21 = .ok (.istore 5, 2) := by decide +kernel
theorem dX0_bestToAsk_23 : decode cX0_bestToAsk 23 = .ok (.bipush 17, 2) := by decide +kernel
theorem dX0_bestToAsk_25 : decode cX0_bestToAsk 25 = .ok (.istore 6, 2) := by decide +kernel
theorem dX0_bestToAsk_27 : decode cX0_bestToAsk 27 = .ok (.iconst 0, 1) := by decide +kernel
theorem dX0_bestToAsk_28 : decode cX0_bestToAsk 28 = .ok (.istore 7, 2) := by decide +kernel
theorem dX0_bestToAsk_30 : decode cX0_bestToAsk 30 = .ok (.iload 7, 2) := by decide +kernel
theorem dX0_bestToAsk_32 : decode cX0_bestToAsk 32 = .ok (.aload_n 0, 1) := by decide +kernel
theorem dX0_bestToAsk_33 : decode cX0_bestToAsk 33 = .ok (.getfield 35, 3) := by decide +kernel
theorem dX0_bestToAsk_36 : decode cX0_bestToAsk 36 = .ok (.getfield 117, 3) := by decide +kernel
theorem dX0_bestToAsk_39 : decode cX0_bestToAsk 39 = .ok (.if_icmp .ge 35, 3) := by decide +kernel
theorem dX0_bestToAsk_42 : decode cX0_bestToAsk 42 = .ok (.aload_n 0, 1) := by decide +kernel
theorem dX0_bestToAsk_43 : decode cX0_bestToAsk 43 = .ok (.iload_n 1, 1) := by decide +kernel
theorem dX0_bestToAsk_44 : decode cX0_bestToAsk 44 = .ok (.iload 7, 2) := by decide +kernel
theorem dX0_bestToAsk_46 : decode cX0_bestToAsk 46 = .ok (.iload 4, 2) := by decide +kernel
theorem dX0_bestToAsk_48 : decode cX0_bestToAsk 48 = .ok (.invokevirtual 120, 3) := by decide +kernel
theorem dX0_bestToAsk_51 : decode cX0_bestToAsk 51 = .ok (.istore 8, 2) := by decide +kernel
theorem dX0_bestToAsk_53 : decode cX0_bestToAsk 53 = .ok (.iload 8, 2) := by decide +kernel
theorem dX0_bestToAsk_55 : decode cX0_bestToAsk 55 = .ok (.iload 6, 2) := by decide +kernel
theorem dX0_bestToAsk_57 : decode cX0_bestToAsk 57 = .ok (.if_icmp .ge 11, 3) := by decide +kernel
theorem dX0_bestToAsk_60 : decode cX0_bestToAsk 60 = .ok (.iload 8, 2) := by decide +kernel
theorem dX0_bestToAsk_62 : decode cX0_bestToAsk 62 = .ok (.istore 6, 2) := by decide +kernel
theorem dX0_bestToAsk_64 : decode cX0_bestToAsk 64 = .ok (.iload 7, 2) := by decide +kernel
theorem dX0_bestToAsk_66 : decode cX0_bestToAsk 66 = .ok (.istore 5, 2) := by decide +kernel
theorem dX0_bestToAsk_68 : decode cX0_bestToAsk 68 = .ok (.iinc 7 1, 3) := by decide +kernel
theorem dX0_bestToAsk_71 : decode cX0_bestToAsk 71 = .ok (.goto (-41), 3) := by decide +kernel
theorem dX0_bestToAsk_74 : decode cX0_bestToAsk 74 = .ok (.iload 5, 2) := by decide +kernel
theorem dX0_bestToAsk_76 : decode cX0_bestToAsk 76 = .ok (.ireturn, 1) := by decide +kernel
theorem dX0_greatestPart_0 : decode cX0_greatestPart 0 = .ok (.aload_n 0, 1) := by decide +kernel
theorem dX0_greatestPart_1 : decode cX0_greatestPart 1 = .ok (.getfield 28, 3) := by decide +kernel
theorem dX0_greatestPart_4 : decode cX0_greatestPart 4 = .ok (.iconst 0, 1) := by decide +kernel
theorem dX0_greatestPart_5 : decode cX0_greatestPart 5 = .ok (.invokestatic 69, 3) := by decide +kernel
theorem dX0_greatestPart_8 : decode cX0_greatestPart 8 = .ok (.iconst 0, 1) := by decide +kernel
theorem dX0_greatestPart_9 : decode cX0_greatestPart 9 = .ok (.istore 4, 2) := by decide +kernel
theorem dX0_greatestPart_11 : decode cX0_greatestPart 11 = .ok (.iconst 0, 1) := by decide +kernel
theorem dX0_greatestPart_12 : decode cX0_greatestPart 12 = .ok (.istore 5, 2) := by decide +kernel
theorem dX0_greatestPart_14 : decode cX0_greatestPart 14 = .ok (.iload 5, 2) := by decide +kernel
theorem dX0_greatestPart_16 : decode cX0_greatestPart 16 = .ok (.bipush 16, 2) := by decide +kernel
theorem dX0_greatestPart_18 : decode cX0_greatestPart 18 = .ok (.if_icmp .ge 62, 3) := by decide +kernel
theorem dX0_greatestPart_21 : decode cX0_greatestPart 21 = .ok (.iload_n 3, 1) := by decide +kernel
theorem dX0_greatestPart_22 : decode cX0_greatestPart 22 = .ok (.iload 5, 2) := by decide +kernel
theorem dX0_greatestPart_24 : decode cX0_greatestPart 24 = .ok (.ishr, 1) := by decide +kernel
theorem dX0_greatestPart_25 : decode cX0_greatestPart 25 = .ok (.iconst 1, 1) := by decide +kernel
theorem dX0_greatestPart_26 : decode cX0_greatestPart 26 = .ok (.iand, 1) := by decide +kernel
theorem dX0_greatestPart_27 : decode cX0_greatestPart 27 = .ok (.iconst 1, 1) := by decide +kernel
theorem dX0_greatestPart_28 : decode cX0_greatestPart 28 = .ok (.if_icmp .ne 46, 3) := by decide +kernel
theorem dX0_greatestPart_31 : decode cX0_greatestPart 31 = .ok (.aload_n 0, 1) := by decide +kernel
theorem dX0_greatestPart_32 : decode cX0_greatestPart 32 = .ok (.iload_n 1, 1) := by decide +kernel
theorem dX0_greatestPart_33 : decode cX0_greatestPart 33 = .ok (.iload_n 2, 1) := by decide +kernel
theorem dX0_greatestPart_34 : decode cX0_greatestPart 34 = .ok (.iload 5, 2) := by decide +kernel
theorem dX0_greatestPart_36 : decode cX0_greatestPart 36 = .ok (.invokevirtual 86, 3) := by decide +kernel
theorem dX0_greatestPart_39 : decode cX0_greatestPart 39 = .ok (.istore 6, 2) := by decide +kernel
theorem dX0_greatestPart_41 : decode cX0_greatestPart 41 = .ok (.iload 6, 2) := by decide +kernel
theorem dX0_greatestPart_43 : decode cX0_greatestPart 43 = .ok (.invokestatic 79, 3) := by decide +kernel
theorem dX0_greatestPart_46 : decode cX0_greatestPart 46 = .ok (.ifCond .eq 28, 3) := by decide +kernel
theorem dX0_greatestPart_49 : decode cX0_greatestPart 49 = .ok (.aload_n 0, 1) := by decide +kernel
theorem dX0_greatestPart_50 : decode cX0_greatestPart 50 = .ok (.getfield 28, 3) := by decide +kernel
theorem dX0_greatestPart_53 : decode cX0_greatestPart 53 = .ok (.iload 6, 2) := by decide +kernel
theorem dX0_greatestPart_55 : decode cX0_greatestPart 55 = .ok (.dup2, 1) := by decide +kernel
theorem dX0_greatestPart_56 : decode cX0_greatestPart 56 = .ok (.iaload, 1) := by decide +kernel
theorem dX0_greatestPart_57 : decode cX0_greatestPart 57 = .ok (.iconst 1, 1) := by decide +kernel
theorem dX0_greatestPart_58 : decode cX0_greatestPart 58 = .ok (.iadd, 1) := by decide +kernel
theorem dX0_greatestPart_59 : decode cX0_greatestPart 59 = .ok (.iastore, 1) := by decide +kernel
theorem dX0_greatestPart_60 : decode cX0_greatestPart 60 = .ok (.iload 4, 2) := by decide +kernel
theorem dX0_greatestPart_62 : decode cX0_greatestPart 62 = .ok (.aload_n 0, 1) := by decide +kernel
theorem dX0_greatestPart_63 : decode cX0_greatestPart 63 = .ok (.getfield 28, 3) := by decide +kernel
theorem dX0_greatestPart_66 : decode cX0_greatestPart 66 = .ok (.iload 6, 2) := by decide +kernel
theorem dX0_greatestPart_68 : decode cX0_greatestPart 68 = .ok (.iaload, 1) := by decide +kernel
theorem dX0_greatestPart_69 : decode cX0_greatestPart 69 = .ok (.invokestatic 123, 3) := by decide +kernel
theorem dX0_greatestPart_72 : decode cX0_greatestPart 72 = .ok (.istore 4, 2) := by decide +kernel
theorem dX0_greatestPart_74 : decode cX0_greatestPart 74 = .ok (.iinc 5 1, 3) := by decide +kernel
theorem dX0_greatestPart_77 : decode cX0_greatestPart 77 = .ok (.goto (-63), 3) := by decide +kernel
theorem dX0_greatestPart_80 : decode cX0_greatestPart 80 = .ok (.iload 4, 2) := by decide +kernel
theorem dX0_greatestPart_82 : decode cX0_greatestPart 82 = .ok (.ireturn, 1) := by decide +kernel
theorem dX1_init_0 : decode cX1_init 0 = .ok (.aload_n 0, 1) := by decide +kernel
theorem dX1_init_1 : decode cX1_init 1 = .ok (.invokespecial 3, 3) := by decide +kernel
theorem dX1_init_4 : decode cX1_init 4 = .ok (.aload_n 0, 1) := by decide +kernel
theorem dX1_init_5 : decode cX1_init 5 = .ok (.new 9, 3) := by decide +kernel
theorem dX1_init_8 : decode cX1_init 8 = .ok (.dup, 1) := by decide +kernel
theorem dX1_init_9 : decode cX1_init 9 = .ok (.invokespecial 11, 3) := by decide +kernel
theorem dX1_init_12 : decode cX1_init 12 = .ok (.putfield 12, 3) := by decide +kernel
theorem dX1_init_15 : decode cX1_init 15 = .ok (.aload_n 0, 1) := by decide +kernel
theorem dX1_init_16 : decode cX1_init 16 = .ok (.aload_n 1, 1) := by decide +kernel
theorem dX1_init_17 : decode cX1_init 17 = .ok (.putfield 18, 3) := by decide +kernel
theorem dX1_init_20 : decode cX1_init 20 = .ok (.aload_n 0, 1) := by decide +kernel
theorem dX1_init_21 : decode cX1_init 21 = .ok (.aload_n 2, 1) := by decide +kernel
theorem dX1_init_22 : decode cX1_init 22 = .ok (.putfield 21, 3) := by decide +kernel
theorem dX1_init_25 : decode cX1_init 25 = .ok (.return_, 1) := by decide +kernel
theorem dX1_pass_0 : decode cX1_pass 0 = .ok (.iconst 0, 1) := by decide +kernel
theorem dX1_pass_1 : decode cX1_pass 1 = .ok (.istore_n 3, 1) := by decide +kernel
theorem dX1_pass_2 : decode cX1_pass 2 = .ok (.iconst 0, 1) := by decide +kernel
theorem dX1_pass_3 : decode cX1_pass 3 = .ok (.istore 4, 2) := by decide +kernel
theorem dX1_pass_5 : decode cX1_pass 5 = .ok (.iload 4, 2) := by decide +kernel
theorem dX1_pass_7 : decode cX1_pass 7 = .ok (.iload_n 2, 1) := by decide +kernel
theorem dX1_pass_8 : decode cX1_pass 8 = .ok (.if_icmp .ge 17, 3) := by decide +kernel
theorem dX1_pass_11 : decode cX1_pass 11 = .ok (.iload_n 3, 1) := by decide +kernel
theorem dX1_pass_12 : decode cX1_pass 12 = .ok (.aload_n 0, 1) := by decide +kernel
theorem dX1_pass_13 : decode cX1_pass 13 = .ok (.aload_n 1, 1) := by decide +kernel
theorem dX1_pass_14 : decode cX1_pass 14 = .ok (.invokevirtual 25, 3) := by decide +kernel
theorem dX1_pass_17 : decode cX1_pass 17 = .ok (.iadd, 1) := by decide +kernel
theorem dX1_pass_18 : decode cX1_pass 18 = .ok (.istore_n 3, 1) := by decide +kernel
theorem dX1_pass_19 : decode cX1_pass 19 = .ok (.iinc 4 1, 3) := by decide +kernel
theorem dX1_pass_22 : decode cX1_pass 22 = .ok (.goto (-17), 3) := by decide +kernel
theorem dX1_pass_25 : decode cX1_pass 25 = .ok (.iload_n 3, 1) := by decide +kernel
theorem dX1_pass_26 : decode cX1_pass 26 = .ok (.ireturn, 1) := by decide +kernel
theorem dX1_passDay_0 : decode cX1_passDay 0 = .ok (.iconst 0, 1) := by decide +kernel
theorem dX1_passDay_1 : decode cX1_passDay 1 = .ok (.istore_n 2, 1) := by decide +kernel
theorem dX1_passDay_2 : decode cX1_passDay 2 = .ok (.iconst 0, 1) := by decide +kernel
theorem dX1_passDay_3 : decode cX1_passDay 3 = .ok (.istore_n 3, 1) := by decide +kernel
theorem dX1_passDay_4 : decode cX1_passDay 4 = .ok (.iload_n 3, 1) := by decide +kernel
theorem dX1_passDay_5 : decode cX1_passDay 5 = .ok (.aload_n 1, 1) := by decide +kernel
theorem dX1_passDay_6 : decode cX1_passDay 6 = .ok (.getfield 29, 3) := by decide +kernel
theorem dX1_passDay_9 : decode cX1_passDay 9 = .ok (.if_icmp .ge 121, 3) := by decide +kernel
theorem dX1_passDay_12 : decode cX1_passDay 12 = .ok (.aload_n 1, 1) := by decide +kernel
theorem dX1_passDay_13 : decode cX1_passDay 13 = .ok (.iload_n 3, 1) := by decide +kernel
theorem dX1_passDay_14 : decode cX1_passDay 14 = .ok (.invokevirtual 33, 3) := by decide +kernel
theorem dX1_passDay_17 : decode cX1_passDay 17 = .ok (.getfield 37, 3) := by decide +kernel
theorem dX1_passDay_20 : decode cX1_passDay 20 = .ok (.invokestatic 42, 3) := by decide +kernel
theorem dX1_passDay_23 : decode cX1_passDay 23 = .ok (.istore 4, 2) := by decide +kernel
theorem dX1_passDay_25 : decode cX1_passDay 25 = .ok (.iload 4, 2) := by decide +kernel
theorem dX1_passDay_27 : decode cX1_passDay 27 = .ok (.ifCond .le 97, 3) := by decide +kernel
theorem dX1_passDay_30 : decode cX1_passDay 30 = .ok (.aload_n 1, 1) := by decide +kernel
theorem dX1_passDay_31 : decode cX1_passDay 31 = .ok (.invokevirtual 48, 3) := by decide +kernel
theorem dX1_passDay_34 : decode cX1_passDay 34 = .ok (.bipush 100, 2) := by decide +kernel
theorem dX1_passDay_36 : decode cX1_passDay 36 = .ok (.irem, 1) := by decide +kernel
theorem dX1_passDay_37 : decode cX1_passDay 37 = .ok (.aload_n 1, 1) := by decide +kernel
theorem dX1_passDay_38 : decode cX1_passDay 38 = .ok (.iload_n 3, 1) := by decide +kernel
theorem dX1_passDay_39 : decode cX1_passDay 39 = .ok (.invokevirtual 33, 3) := by decide +kernel
theorem dX1_passDay_42 : decode cX1_passDay 42 = .ok (.getfield 52, 3) := by decide +kernel
theorem dX1_passDay_45 : decode cX1_passDay 45 = .ok (.if_icmp .ge 79, 3) := by decide +kernel
theorem dX1_passDay_48 : decode cX1_passDay 48 = .ok (.aload_n 1, 1) := by decide +kernel
theorem dX1_passDay_49 : decode cX1_passDay 49 = .ok (.iload_n 3, 1) := by decide +kernel
theorem dX1_passDay_50 : decode cX1_passDay 50 = .ok (.aload_n 1, 1) := by decide +kernel
theorem dX1_passDay_51 : decode cX1_passDay 51 = .ok (.invokevirtual 48, 3) := by decide +kernel
theorem dX1_passDay_54 : decode cX1_passDay 54 = .ok (.iload 4, 2) := by decide +kernel
theorem dX1_passDay_56 : decode cX1_passDay 56 = .ok (.irem, 1) := by decide +kernel
theorem dX1_passDay_57 : decode cX1_passDay 57 = .ok (.invokevirtual 55, 3) := by decide +kernel
theorem dX1_passDay_60 : decode cX1_passDay 60 = .ok (.istore 5, 2) := by decide +kernel
theorem dX1_passDay_62 : decode cX1_passDay 62 = .ok (.aload_n 1, 1) := by decide +kernel
theorem dX1_passDay_63 : decode cX1_passDay 63 = .ok (.invokevirtual 48, 3) := by decide +kernel
theorem dX1_passDay_66 : decode cX1_passDay 66 = .ok (.bipush 100, 2) := by decide +kernel
theorem dX1_passDay_68 : decode cX1_passDay 68 = .ok (.irem, 1) := by decide +kernel
theorem dX1_passDay_69 : decode cX1_passDay 69 = .ok (.aload_n 1, 1) := by decide +kernel
theorem dX1_passDay_70 : decode cX1_passDay 70 = .ok (.iload 5, 2) := by decide +kernel
theorem dX1_passDay_72 : decode cX1_passDay 72 = .ok (.invokevirtual 33, 3) := by decide +kernel
theorem dX1_passDay_75 : decode cX1_passDay 75 = .ok (.getfield 59, 3) := by decide +kernel
theorem dX1_passDay_78 : decode cX1_passDay 78 = .ok (.if_icmp .lt 7, 3) := by decide +kernel
theorem dX1_passDay_81 : decode cX1_passDay 81 = .ok (.iconst 1, 1) := by decide +kernel
theorem dX1_passDay_82 : decode cX1_passDay 82 = .ok (.goto 4, 3) := by decide +kernel
theorem dX1_passDay_85 : decode cX1_passDay 85 = .ok (.iconst 0, 1) := by decide +kernel
theorem dX1_passDay_86 : decode cX1_passDay 86 = .ok (.istore 6, 2) := by decide +kernel
theorem dX1_passDay_88 : decode cX1_passDay 88 = .ok (.aload_n 1, 1) := by decide +kernel
theorem dX1_passDay_89 : decode cX1_passDay 89 = .ok (.iload 5, 2) := by decide +kernel
theorem dX1_passDay_91 : decode cX1_passDay 91 = .ok (.iload_n 3, 1) := by decide +kernel
theorem dX1_passDay_92 : decode cX1_passDay 92 = .ok (.iload 6, 2) := by decide +kernel
theorem dX1_passDay_94 : decode cX1_passDay 94 = .ok (.aload_n 0, 1) := by decide +kernel
theorem dX1_passDay_95 : decode cX1_passDay 95 = .ok (.getfield 21, 3) := by decide +kernel
theorem dX1_passDay_98 : decode cX1_passDay 98 = .ok (.aload_n 1, 1) := by decide +kernel
theorem dX1_passDay_99 : decode cX1_passDay 99 = .ok (.iload 5, 2) := by decide +kernel
theorem dX1_passDay_101 : decode cX1_passDay 101 = .ok (.iload_n 3, 1) := by decide +kernel
theorem dX1_passDay_102 : decode cX1_passDay 102 = .ok (.iload 6, 2) := by decide +kernel
theorem dX1_passDay_104 : decode cX1_passDay 104 = .ok (.invokevirtual 62, 3) := by decide +kernel
theorem dX1_passDay_107 : decode cX1_passDay 107 = .ok (.invokevirtual 68, 3) := by decide +kernel
theorem dX1_passDay_110 : decode cX1_passDay 110 = .ok (.pop, 1) := by decide +kernel
theorem dX1_passDay_111 : decode cX1_passDay 111 = .ok (.iload_n 2, 1) := by decide +kernel
theorem dX1_passDay_112 : decode cX1_passDay 112 = .ok (.iload 6, 2) := by decide +kernel
theorem dX1_passDay_114 : decode cX1_passDay 114 = .ok (.ifCond .eq 7, 3) := by decide +kernel
theorem dX1_passDay_117 : decode cX1_passDay 117 = .ok (.iconst 0, 1) := by decide +kernel
theorem dX1_passDay_118 : decode cX1_passDay 118 = .ok (.goto 4, 3) := by decide +kernel
theorem dX1_passDay_121 : decode cX1_passDay 121 = .ok (.iconst 1, 1) := by decide +kernel
theorem dX1_passDay_122 : decode cX1_passDay 122 = .ok (.iadd, 1) := by decide +kernel
theorem dX1_passDay_123 : decode cX1_passDay 123 = .ok (.istore_n 2, 1) := by decide +kernel
theorem dX1_passDay_124 : decode cX1_passDay 124 = .ok (.iinc 3 1, 3) := by decide +kernel
theorem dX1_passDay_127 : decode cX1_passDay 127 = .ok (.goto (-123), 3) := by decide +kernel
theorem dX1_passDay_130 : decode cX1_passDay 130 = .ok (.aload_n 1, 1) := by decide +kernel
theorem dX1_passDay_131 : decode cX1_passDay 131 = .ok (.invokevirtual 72, 3) := by decide +kernel
theorem dX1_passDay_134 : decode cX1_passDay 134 = .ok (.iload_n 2, 1) := by decide +kernel
theorem dX1_passDay_135 : decode cX1_passDay 135 = .ok (.ireturn, 1) := by decide +kernel
theorem dX1_passAhead_0 : decode cX1_passAhead 0 = .ok (.iconst 0, 1) := by decide +kernel
theorem dX1_passAhead_1 : decode cX1_passAhead 1 = .ok (.istore_n 3, 1) := by decide +kernel
theorem dX1_passAhead_2 : decode cX1_passAhead 2 = .ok (.iload_n 3, 1) := by decide +kernel
theorem dX1_passAhead_3 : decode cX1_passAhead 3 = .ok (.aload_n 1, 1) := by decide +kernel
theorem dX1_passAhead_4 : decode cX1_passAhead 4 = .ok (.getfield 29, 3) := by decide +kernel
theorem dX1_passAhead_7 : decode cX1_passAhead 7 = .ok (.if_icmp .ge 49, 3) := by decide +kernel
theorem dX1_passAhead_10 : decode cX1_passAhead 10 = .ok (.aload_n 1, 1) := by decide +kernel
theorem dX1_passAhead_11 : decode cX1_passAhead 11 = .ok (.iload_n 3, 1) := by decide +kernel
theorem dX1_passAhead_12 : decode cX1_passAhead 12 = .ok (.invokevirtual 33, 3) := by decide +kernel
theorem dX1_passAhead_15 : decode cX1_passAhead 15 = .ok (.getfield 37, 3) := by decide +kernel
theorem dX1_passAhead_18 : decode cX1_passAhead 18 = .ok (.ifCond .eq 32, 3) := by decide +kernel
theorem dX1_passAhead_21 : decode cX1_passAhead 21 = .ok (.aload_n 1, 1) := by decide +kernel
theorem dX1_passAhead_22 : decode cX1_passAhead 22 = .ok (.iload_n 3, 1) := by decide +kernel
theorem dX1_passAhead_23 : decode cX1_passAhead 23 = .ok (.iconst 0, 1) := by decide +kernel
theorem dX1_passAhead_24 : decode cX1_passAhead 24 = .ok (.invokevirtual 55, 3) := by decide +kernel
theorem dX1_passAhead_27 : decode cX1_passAhead 27 = .ok (.istore 4, 2) := by decide +kernel
theorem dX1_passAhead_29 : decode cX1_passAhead 29 = .ok (.aload_n 1, 1) := by decide +kernel
theorem dX1_passAhead_30 : decode cX1_passAhead 30 = .ok (.iload 4, 2) := by decide +kernel
theorem dX1_passAhead_32 : decode cX1_passAhead 32 = .ok (.iload_n 3, 1) := by decide +kernel
theorem dX1_passAhead_33 : decode cX1_passAhead 33 = .ok (.iload_n 2, 1) := by decide +kernel
theorem dX1_passAhead_34 : decode cX1_passAhead 34 = .ok (.aload_n 0, 1) := by decide +kernel
theorem dX1_passAhead_35 : decode cX1_passAhead 35 = .ok (.getfield 21, 3) := by decide +kernel
theorem dX1_passAhead_38 : decode cX1_passAhead 38 = .ok (.aload_n 1, 1) := by decide +kernel
theorem dX1_passAhead_39 : decode cX1_passAhead 39 = .ok (.iload 4, 2) := by decide +kernel
theorem dX1_passAhead_41 : decode cX1_passAhead 41 = .ok (.iload_n 3, 1) := by decide +kernel
theorem dX1_passAhead_42 : decode cX1_passAhead 42 = .ok (.iload_n 2, 1) := by decide +kernel
theorem dX1_passAhead_43 : decode cX1_passAhead 43 = .ok (.invokevirtual 62, 3) := by decide +kernel
theorem dX1_passAhead_46 : decode cX1_passAhead 46 = .ok (.invokevirtual 68, 3) := by decide +kernel
theorem dX1_passAhead_49 : decode cX1_passAhead 49 = .ok (.pop, 1) := by decide +kernel
theorem dX1_passAhead_50 : decode cX1_passAhead 50 = .ok (.iinc 3 1, 3) := by decide +kernel
theorem dX1_passAhead_53 : decode cX1_passAhead 53 = .ok (.goto (-51), 3) := by decide +kernel
theorem dX1_passAhead_56 : decode cX1_passAhead 56 = .ok (.aload_n 1, 1) := by decide +kernel
theorem dX1_passAhead_57 : decode cX1_passAhead 57 = .ok (.invokevirtual 72, 3) := by decide +kernel
theorem dX1_passAhead_60 : decode cX1_passAhead 60 = .ok (.return_, 1) := by decide +kernel
theorem dX1_ageAhead_0 : decode cX1_ageAhead 0 = .ok (.aload_n 0, 1) := by decide +kernel
theorem dX1_ageAhead_1 : decode cX1_ageAhead 1 = .ok (.getfield 12, 3) := by decide +kernel
theorem dX1_ageAhead_4 : decode cX1_ageAhead 4 = .ok (.aload_n 0, 1) := by decide +kernel
theorem dX1_ageAhead_5 : decode cX1_ageAhead 5 = .ok (.getfield 18, 3) := by decide +kernel
theorem dX1_ageAhead_8 : decode cX1_ageAhead 8 = .ok (.invokevirtual 75, 3) := by decide +kernel
theorem dX1_ageAhead_11 : decode cX1_ageAhead 11 = .ok (.iconst 0, 1) := by decide +kernel
theorem dX1_ageAhead_12 : decode cX1_ageAhead 12 = .ok (.istore 4, 2) := by decide +kernel
theorem dX1_ageAhead_14 : decode cX1_ageAhead 14 = .ok (.iload 4, 2) := by decide +kernel
theorem dX1_ageAhead_16 : decode cX1_ageAhead 16 = .ok (.iload_n 2, 1) := by decide +kernel
theorem dX1_ageAhead_17 : decode cX1_ageAhead 17 = .ok (.if_icmp .ge 18, 3) := by decide +kernel
theorem dX1_ageAhead_20 : decode cX1_ageAhead 20 = .ok (.aload_n 0, 1) := by decide +kernel
theorem dX1_ageAhead_21 : decode cX1_ageAhead 21 = .ok (.aload_n 0, 1) := by decide +kernel
theorem dX1_ageAhead_22 : decode cX1_ageAhead 22 = .ok (.getfield 12, 3) := by decide +kernel
theorem dX1_ageAhead_25 : decode cX1_ageAhead 25 = .ok (.iload_n 3, 1) := by decide +kernel
theorem dX1_ageAhead_26 : decode cX1_ageAhead 26 = .ok (.invokevirtual 79, 3) := by decide +kernel
theorem dX1_ageAhead_29 : decode cX1_ageAhead 29 = .ok (.iinc 4 1, 3) := by decide +kernel
theorem dX1_ageAhead_32 : decode cX1_ageAhead 32 = .ok (.goto (-18), 3) := by decide +kernel
theorem dX1_ageAhead_35 : decode cX1_ageAhead 35 = .ok (.aload_n 0, 1) := by decide +kernel
theorem dX1_ageAhead_36 : decode cX1_ageAhead 36 = .ok (.getfield 12, 3) := by decide +kernel
theorem dX1_ageAhead_39 : decode cX1_ageAhead 39 = .ok (.iload_n 1, 1) := by decide +kernel
theorem dX1_ageAhead_40 : decode cX1_ageAhead 40 = .ok (.invokevirtual 33, 3) := by decide +kernel
theorem dX1_ageAhead_43 : decode cX1_ageAhead 43 = .ok (.getfield 83, 3) := by decide +kernel
theorem dX1_ageAhead_46 : decode cX1_ageAhead 46 = .ok (.ireturn, 1) := by decide +kernel
theorem dX1_firstInCrib_0 : decode cX1_firstInCrib 0 = .ok (.aload_n 0, 1) := by decide +kernel
theorem dX1_firstInCrib_1 : decode cX1_firstInCrib 1 = .ok (.getfield 12, 3) := by decide +kernel
theorem dX1_firstInCrib_4 : decode cX1_firstInCrib 4 = .ok (.aload_n 0, 1) := by decide +kernel
theorem dX1_firstInCrib_5 : decode cX1_firstInCrib 5 = .ok (.getfield 18, 3) := by decide +kernel
theorem dX1_firstInCrib_8 : decode cX1_firstInCrib 8 = .ok (.invokevirtual 75, 3) := by decide +kernel
theorem dX1_firstInCrib_11 : decode cX1_firstInCrib 11 = .ok (.iconst 0, 1) := by decide +kernel
theorem dX1_firstInCrib_12 : decode cX1_firstInCrib 12 = .ok (.istore_n 3, 1) := by decide +kernel
theorem dX1_firstInCrib_13 : decode cX1_firstInCrib 13 = .ok (.iload_n 3, 1) := by decide +kernel
theorem dX1_firstInCrib_14 : decode cX1_firstInCrib 14 = .ok (.bipush 100, 2) := by decide +kernel
theorem dX1_firstInCrib_16 : decode cX1_firstInCrib 16 = .ok (.if_icmp .gt 46, 3) := by decide +kernel
theorem dX1_firstInCrib_19 : decode cX1_firstInCrib 19 = .ok (.aload_n 0, 1) := by decide +kernel
theorem dX1_firstInCrib_20 : decode cX1_firstInCrib 20 = .ok (.getfield 12, 3) := by decide +kernel
theorem dX1_firstInCrib_23 : decode cX1_firstInCrib 23 = .ok (.invokevirtual 86, 3) := by decide +kernel
theorem dX1_firstInCrib_26 : decode cX1_firstInCrib 26 = .ok (.istore 4, 2) := by decide +kernel
theorem dX1_firstInCrib_28 : decode cX1_firstInCrib 28 = .ok (.iload 4, 2) := by decide +kernel
theorem dX1_firstInCrib_30 : decode cX1_firstInCrib 30 = .ok (.ifCond .eq 17, 3) := by decide +kernel
theorem dX1_firstInCrib_33 : decode cX1_firstInCrib 33 = .ok (.iload_n 2, 1) := by decide +kernel
theorem dX1_firstInCrib_34 : decode cX1_firstInCrib 34 = .ok (.ifCond .eq 11, 3) := by decide +kernel
theorem dX1_firstInCrib_37 : decode cX1_firstInCrib 37 = .ok (.iload 4, 2) := by decide +kernel
theorem dX1_firstInCrib_39 : decode cX1_firstInCrib 39 = .ok (.invokestatic 89, 3) := by decide +kernel
theorem dX1_firstInCrib_42 : decode cX1_firstInCrib 42 = .ok (.goto 4, 3) := by decide +kernel
theorem dX1_firstInCrib_45 : decode cX1_firstInCrib 45 = .ok (.iload_n 3, 1) := by decide +kernel
theorem dX1_firstInCrib_46 : decode cX1_firstInCrib 46 = .ok (.ireturn, 1) := by decide +kernel
theorem dX1_firstInCrib_47 : decode cX1_firstInCrib 47 = .ok (.aload_n 0, 1) := by decide +kernel
theorem dX1_firstInCrib_48 : decode cX1_firstInCrib 48 = .ok (.aload_n 0, 1) := by decide +kernel
theorem dX1_firstInCrib_49 : decode cX1_firstInCrib 49 = .ok (.getfield 12, 3) := by decide +kernel
theorem dX1_firstInCrib_52 : decode cX1_firstInCrib 52 = .ok (.iload_n 1, 1) := by decide +kernel
theorem dX1_firstInCrib_53 : decode cX1_firstInCrib 53 = .ok (.invokevirtual 79, 3) := by decide +kernel
theorem dX1_firstInCrib_56 : decode cX1_firstInCrib 56 = .ok (.iinc 3 1, 3) := by decide +kernel
theorem dX1_firstInCrib_59 : decode cX1_firstInCrib 59 = .ok (.goto (-46), 3) := by decide +kernel
theorem dX1_firstInCrib_62 : decode cX1_firstInCrib 62 = .ok (.iconst (-1), 1) := by decide +kernel
theorem dX1_firstInCrib_63 : decode cX1_firstInCrib 63 = .ok (.ireturn, 1) := by decide +kernel
theorem dX1_firstAsNow_0 : decode cX1_firstAsNow 0 = .ok (.aload_n 0, 1) := by decide +kernel
theorem dX1_firstAsNow_1 : decode cX1_firstAsNow 1 = .ok (.getfield 12, 3) := by decide +kernel
theorem dX1_firstAsNow_4 : decode cX1_firstAsNow 4 = .ok (.aload_n 0, 1) := by decide +kernel
theorem dX1_firstAsNow_5 : decode cX1_firstAsNow 5 = .ok (.getfield 18, 3) := by decide +kernel
theorem dX1_firstAsNow_8 : decode cX1_firstAsNow 8 = .ok (.invokevirtual 75, 3) := by decide +kernel
theorem dX1_firstAsNow_11 : decode cX1_firstAsNow 11 = .ok (.iconst 1, 1) := by decide +kernel
theorem dX1_firstAsNow_12 : decode cX1_firstAsNow 12 = .ok (.istore_n 2, 1) := by decide +kernel
theorem dX1_firstAsNow_13 : decode cX1_firstAsNow 13 = .ok (.iload_n 2, 1) := by decide +kernel
theorem dX1_firstAsNow_14 : decode cX1_firstAsNow 14 = .ok (.bipush 100, 2) := by decide +kernel
theorem dX1_firstAsNow_16 : decode cX1_firstAsNow 16 = .ok (.if_icmp .gt 31, 3) := by decide +kernel
theorem dX1_firstAsNow_19 : decode cX1_firstAsNow 19 = .ok (.aload_n 0, 1) := by decide +kernel
theorem dX1_firstAsNow_20 : decode cX1_firstAsNow 20 = .ok (.aload_n 0, 1) := by decide +kernel
theorem dX1_firstAsNow_21 : decode cX1_firstAsNow 21 = .ok (.getfield 12, 3) := by decide +kernel
theorem dX1_firstAsNow_24 : decode cX1_firstAsNow 24 = .ok (.iload_n 1, 1) := by decide +kernel
theorem dX1_firstAsNow_25 : decode cX1_firstAsNow 25 = .ok (.invokevirtual 79, 3) := by decide +kernel
theorem dX1_firstAsNow_28 : decode cX1_firstAsNow 28 = .ok (.aload_n 0, 1) := by decide +kernel
theorem dX1_firstAsNow_29 : decode cX1_firstAsNow 29 = .ok (.aload_n 0, 1) := by decide +kernel
theorem dX1_firstAsNow_30 : decode cX1_firstAsNow 30 = .ok (.getfield 12, 3) := by decide +kernel
theorem dX1_firstAsNow_33 : decode cX1_firstAsNow 33 = .ok (.invokevirtual 92, 3) := by decide +kernel
theorem dX1_firstAsNow_36 : decode cX1_firstAsNow 36 = .ok (.ifCond .eq 5, 3) := by decide +kernel
theorem dX1_firstAsNow_39 : decode cX1_firstAsNow 39 = .ok (.iload_n 2, 1) := by decide +kernel
theorem dX1_firstAsNow_40 : decode cX1_firstAsNow 40 = .ok (.ireturn, 1) := by decide +kernel
theorem dX1_firstAsNow_41 : decode cX1_firstAsNow 41 = .ok (.iinc 2 1, 3) := by decide +kernel
theorem dX1_firstAsNow_44 : decode cX1_firstAsNow 44 = .ok (.goto (-31), 3) := by decide +kernel
theorem dX1_firstAsNow_47 : decode cX1_firstAsNow 47 = .ok (.iconst (-1), 1) := by decide +kernel
theorem dX1_firstAsNow_48 : decode cX1_firstAsNow 48 = .ok (.ireturn, 1) := by decide +kernel
theorem dX1_areAsNow_0 : decode cX1_areAsNow 0 = .ok (.iconst 0, 1) := by decide +kernel
theorem dX1_areAsNow_1 : decode cX1_areAsNow 1 = .ok (.istore_n 2, 1) := by decide +kernel
theorem dX1_areAsNow_2 : decode cX1_areAsNow 2 = .ok (.iload_n 2, 1) := by decide +kernel
theorem dX1_areAsNow_3 : decode cX1_areAsNow 3 = .ok (.aload_n 0, 1) := by decide +kernel
theorem dX1_areAsNow_4 : decode cX1_areAsNow 4 = .ok (.getfield 18, 3) := by decide +kernel
theorem dX1_areAsNow_7 : decode cX1_areAsNow 7 = .ok (.getfield 29, 3) := by decide +kernel
theorem dX1_areAsNow_10 : decode cX1_areAsNow 10 = .ok (.if_icmp .ge 33, 3) := by decide +kernel
theorem dX1_areAsNow_13 : decode cX1_areAsNow 13 = .ok (.aload_n 1, 1) := by decide +kernel
theorem dX1_areAsNow_14 : decode cX1_areAsNow 14 = .ok (.iload_n 2, 1) := by decide +kernel
theorem dX1_areAsNow_15 : decode cX1_areAsNow 15 = .ok (.invokevirtual 33, 3) := by decide +kernel
theorem dX1_areAsNow_18 : decode cX1_areAsNow 18 = .ok (.getfield 83, 3) := by decide +kernel
theorem dX1_areAsNow_21 : decode cX1_areAsNow 21 = .ok (.aload_n 0, 1) := by decide +kernel
theorem dX1_areAsNow_22 : decode cX1_areAsNow 22 = .ok (.getfield 18, 3) := by decide +kernel
theorem dX1_areAsNow_25 : decode cX1_areAsNow 25 = .ok (.iload_n 2, 1) := by decide +kernel
theorem dX1_areAsNow_26 : decode cX1_areAsNow 26 = .ok (.invokevirtual 33, 3) := by decide +kernel
theorem dX1_areAsNow_29 : decode cX1_areAsNow 29 = .ok (.getfield 83, 3) := by decide +kernel
theorem dX1_areAsNow_32 : decode cX1_areAsNow 32 = .ok (.if_icmp .eq 5, 3) := by decide +kernel
theorem dX1_areAsNow_35 : decode cX1_areAsNow 35 = .ok (.iconst 0, 1) := by decide +kernel
theorem dX1_areAsNow_36 : decode cX1_areAsNow 36 = .ok (.ireturn, 1) := by decide +kernel
theorem dX1_areAsNow_37 : decode cX1_areAsNow 37 = .ok (.iinc 2 1, 3) := by decide +kernel
theorem dX1_areAsNow_40 : decode cX1_areAsNow 40 = .ok (.goto (-38), 3) := by decide +kernel
theorem dX1_areAsNow_43 : decode cX1_areAsNow 43 = .ok (.iconst 1, 1) := by decide +kernel
theorem dX1_areAsNow_44 : decode cX1_areAsNow 44 = .ok (.ireturn, 1) := by decide +kernel
theorem dX1_firstTurn_0 : decode cX1_firstTurn 0 = .ok (.aload_n 0, 1) := by decide +kernel
theorem dX1_firstTurn_1 : decode cX1_firstTurn 1 = .ok (.getfield 12, 3) := by decide +kernel
theorem dX1_firstTurn_4 : decode cX1_firstTurn 4 = .ok (.aload_n 0, 1) := by decide +kernel
theorem dX1_firstTurn_5 : decode cX1_firstTurn 5 = .ok (.getfield 18, 3) := by decide +kernel
theorem dX1_firstTurn_8 : decode cX1_firstTurn 8 = .ok (.invokevirtual 75, 3) := by decide +kernel
theorem dX1_firstTurn_11 : decode cX1_firstTurn 11 = .ok (.iconst 1, 1) := by decide +kernel
theorem dX1_firstTurn_12 : decode cX1_firstTurn 12 = .ok (.istore_n 2, 1) := by decide +kernel
theorem dX1_firstTurn_13 : decode cX1_firstTurn 13 = .ok (.iload_n 2, 1) := by decide +kernel
theorem dX1_firstTurn_14 : decode cX1_firstTurn 14 = .ok (.bipush 100, 2) := by decide +kernel
theorem dX1_firstTurn_16 : decode cX1_firstTurn 16 = .ok (.if_icmp .gt 45, 3) := by decide +kernel
theorem dX1_firstTurn_19 : decode cX1_firstTurn 19 = .ok (.aload_n 0, 1) := by decide +kernel
theorem dX1_firstTurn_20 : decode cX1_firstTurn 20 = .ok (.aload_n 0, 1) := by decide +kernel
theorem dX1_firstTurn_21 : decode cX1_firstTurn 21 = .ok (.getfield 12, 3) := by decide +kernel
theorem dX1_firstTurn_24 : decode cX1_firstTurn 24 = .ok (.iconst 0, 1) := by decide +kernel
theorem dX1_firstTurn_25 : decode cX1_firstTurn 25 = .ok (.invokevirtual 79, 3) := by decide +kernel
theorem dX1_firstTurn_28 : decode cX1_firstTurn 28 = .ok (.aload_n 0, 1) := by decide +kernel
theorem dX1_firstTurn_29 : decode cX1_firstTurn 29 = .ok (.getfield 12, 3) := by decide +kernel
theorem dX1_firstTurn_32 : decode cX1_firstTurn 32 = .ok (.iload_n 1, 1) := by decide +kernel
theorem dX1_firstTurn_33 : decode cX1_firstTurn 33 = .ok (.invokevirtual 33, 3) := by decide +kernel
theorem dX1_firstTurn_36 : decode cX1_firstTurn 36 = .ok (.getfield 96, 3) := by decide +kernel
theorem dX1_firstTurn_39 : decode cX1_firstTurn 39 = .ok (.aload_n 0, 1) := by decide +kernel
theorem dX1_firstTurn_40 : decode cX1_firstTurn 40 = .ok (.getfield 18, 3) := by decide +kernel
theorem dX1_firstTurn_43 : decode cX1_firstTurn 43 = .ok (.iload_n 1, 1) := by decide +kernel
theorem dX1_firstTurn_44 : decode cX1_firstTurn 44 = .ok (.invokevirtual 33, 3) := by decide +kernel
theorem dX1_firstTurn_47 : decode cX1_firstTurn 47 = .ok (.getfield 96, 3) := by decide +kernel
theorem dX1_firstTurn_50 : decode cX1_firstTurn 50 = .ok (.if_icmp .le 5, 3) := by decide +kernel
theorem dX1_firstTurn_53 : decode cX1_firstTurn 53 = .ok (.iload_n 2, 1) := by decide +kernel
theorem dX1_firstTurn_54 : decode cX1_firstTurn 54 = .ok (.ireturn, 1) := by decide +kernel
theorem dX1_firstTurn_55 : decode cX1_firstTurn 55 = .ok (.iinc 2 1, 3) := by decide +kernel
theorem dX1_firstTurn_58 : decode cX1_firstTurn 58 = .ok (.goto (-45), 3) := by decide +kernel
theorem dX1_firstTurn_61 : decode cX1_firstTurn 61 = .ok (.iconst (-1), 1) := by decide +kernel
theorem dX1_firstTurn_62 : decode cX1_firstTurn 62 = .ok (.ireturn, 1) := by decide +kernel
theorem dX1_mildest_0 : decode cX1_mildest 0 = .ok (.bipush 20, 2) := by decide +kernel
theorem dX1_mildest_2 : decode cX1_mildest 2 = .ok (.istore_n 2, 1) := by decide +kernel
theorem dX1_mildest_3 : decode cX1_mildest 3 = .ok (.iload_n 2, 1) := by decide +kernel
theorem dX1_mildest_4 : decode cX1_mildest 4 = .ok (.ifCond .lt 20, 3) := by decide +kernel
theorem dX1_mildest_7 : decode cX1_mildest 7 = .ok (.aload_n 0, 1) := by decide +kernel
theorem dX1_mildest_8 : decode cX1_mildest 8 = .ok (.iload_n 2, 1) := by decide +kernel
theorem dX1_mildest_9 : decode cX1_mildest 9 = .ok (.iload_n 1, 1) := by decide +kernel
theorem dX1_mildest_10 : decode cX1_mildest 10 = .ok (.invokevirtual 99, 3) := by decide +kernel
theorem dX1_mildest_13 : decode cX1_mildest 13 = .ok (.ifCond .eq 5, 3) := by decide +kernel
theorem dX1_mildest_16 : decode cX1_mildest 16 = .ok (.iload_n 2, 1) := by decide +kernel
theorem dX1_mildest_17 : decode cX1_mildest 17 = .ok (.ireturn, 1) := by decide +kernel
theorem dX1_mildest_18 : decode cX1_mildest 18 = .ok (.iinc 2 (-1), 3) := by decide +kernel
theorem dX1_mildest_21 : decode cX1_mildest 21 = .ok (.goto (-18), 3) := by decide +kernel
theorem dX1_mildest_24 : decode cX1_mildest 24 = .ok (.iconst (-1), 1) := by decide +kernel
theorem dX1_mildest_25 : decode cX1_mildest 25 = .ok (.ireturn, 1) := by decide +kernel
theorem dX1_isMild_0 : decode cX1_isMild 0 = .ok (.aload_n 0, 1) := by decide +kernel
theorem dX1_isMild_1 : decode cX1_isMild 1 = .ok (.getfield 12, 3) := by decide +kernel
theorem dX1_isMild_4 : decode cX1_isMild 4 = .ok (.aload_n 0, 1) := by decide +kernel
theorem dX1_isMild_5 : decode cX1_isMild 5 = .ok (.getfield 18, 3) := by decide +kernel
theorem dX1_isMild_8 : decode cX1_isMild 8 = .ok (.invokevirtual 75, 3) := by decide +kernel
theorem dX1_isMild_11 : decode cX1_isMild 11 = .ok (.aload_n 0, 1) := by decide +kernel
theorem dX1_isMild_12 : decode cX1_isMild 12 = .ok (.getfield 12, 3) := by decide +kernel
theorem dX1_isMild_15 : decode cX1_isMild 15 = .ok (.iload_n 1, 1) := by decide +kernel
theorem dX1_isMild_16 : decode cX1_isMild 16 = .ok (.putfield 103, 3) := by decide +kernel
theorem dX1_isMild_19 : decode cX1_isMild 19 = .ok (.iconst 0, 1) := by decide +kernel
theorem dX1_isMild_20 : decode cX1_isMild 20 = .ok (.istore_n 3, 1) := by decide +kernel
theorem dX1_isMild_21 : decode cX1_isMild 21 = .ok (.iload_n 3, 1) := by decide +kernel
theorem dX1_isMild_22 : decode cX1_isMild 22 = .ok (.iload_n 2, 1) := by decide +kernel
theorem dX1_isMild_23 : decode cX1_isMild 23 = .ok (.if_icmp .ge 30, 3) := by decide +kernel
theorem dX1_isMild_26 : decode cX1_isMild 26 = .ok (.aload_n 0, 1) := by decide +kernel
theorem dX1_isMild_27 : decode cX1_isMild 27 = .ok (.aload_n 0, 1) := by decide +kernel
theorem dX1_isMild_28 : decode cX1_isMild 28 = .ok (.getfield 12, 3) := by decide +kernel
theorem dX1_isMild_31 : decode cX1_isMild 31 = .ok (.iconst 0, 1) := by decide +kernel
theorem dX1_isMild_32 : decode cX1_isMild 32 = .ok (.invokevirtual 79, 3) := by decide +kernel
theorem dX1_isMild_35 : decode cX1_isMild 35 = .ok (.aload_n 0, 1) := by decide +kernel
theorem dX1_isMild_36 : decode cX1_isMild 36 = .ok (.getfield 12, 3) := by decide +kernel
theorem dX1_isMild_39 : decode cX1_isMild 39 = .ok (.invokevirtual 86, 3) := by decide +kernel
theorem dX1_isMild_42 : decode cX1_isMild 42 = .ok (.ifCond .eq 5, 3) := by decide +kernel
theorem dX1_isMild_45 : decode cX1_isMild 45 = .ok (.iconst 0, 1) := by decide +kernel
theorem dX1_isMild_46 : decode cX1_isMild 46 = .ok (.ireturn, 1) := by decide +kernel
theorem dX1_isMild_47 : decode cX1_isMild 47 = .ok (.iinc 3 1, 3) := by decide +kernel
theorem dX1_isMild_50 : decode cX1_isMild 50 = .ok (.goto (-29), 3) := by decide +kernel
theorem dX1_isMild_53 : decode cX1_isMild 53 = .ok (.iconst 1, 1) := by decide +kernel
theorem dX1_isMild_54 : decode cX1_isMild 54 = .ok (.ireturn, 1) := by decide +kernel
theorem dX1_tried_0 : decode cX1_tried 0 = .ok (.aload_n 0, 1) := by decide +kernel
theorem dX1_tried_1 : decode cX1_tried 1 = .ok (.getfield 12, 3) := by decide +kernel
theorem dX1_tried_4 : decode cX1_tried 4 = .ok (.aload_n 0, 1) := by decide +kernel
theorem dX1_tried_5 : decode cX1_tried 5 = .ok (.getfield 18, 3) := by decide +kernel
theorem dX1_tried_8 : decode cX1_tried 8 = .ok (.invokevirtual 75, 3) := by decide +kernel
theorem dX1_tried_11 : decode cX1_tried 11 = .ok (.aload_n 0, 1) := by decide +kernel
theorem dX1_tried_12 : decode cX1_tried 12 = .ok (.aload_n 0, 1) := by decide +kernel
theorem dX1_tried_13 : decode cX1_tried 13 = .ok (.getfield 12, 3) := by decide +kernel
theorem dX1_tried_16 : decode cX1_tried 16 = .ok (.iload_n 1, 1) := by decide +kernel
theorem dX1_tried_17 : decode cX1_tried 17 = .ok (.invokevirtual 106, 3) := by decide +kernel
theorem dX1_tried_20 : decode cX1_tried 20 = .ok (.pop, 1) := by decide +kernel
theorem dX1_tried_21 : decode cX1_tried 21 = .ok (.iload_n 2, 1) := by decide +kernel
theorem dX1_tried_22 : decode cX1_tried 22 = .ok (.ifCond .eq 13, 3) := by decide +kernel
theorem dX1_tried_25 : decode cX1_tried 25 = .ok (.aload_n 0, 1) := by decide +kernel
theorem dX1_tried_26 : decode cX1_tried 26 = .ok (.getfield 12, 3) := by decide +kernel
theorem dX1_tried_29 : decode cX1_tried 29 = .ok (.invokevirtual 86, 3) := by decide +kernel
theorem dX1_tried_32 : decode cX1_tried 32 = .ok (.goto 10, 3) := by decide +kernel
theorem dX1_tried_35 : decode cX1_tried 35 = .ok (.aload_n 0, 1) := by decide +kernel
theorem dX1_tried_36 : decode cX1_tried 36 = .ok (.getfield 12, 3) := by decide +kernel
theorem dX1_tried_39 : decode cX1_tried 39 = .ok (.invokevirtual 110, 3) := by decide +kernel
theorem dX1_tried_42 : decode cX1_tried 42 = .ok (.ireturn, 1) := by decide +kernel
theorem dX1_spanned_0 : decode cX1_spanned 0 = .ok (.iconst (-1), 1) := by decide +kernel
theorem dX1_spanned_1 : decode cX1_spanned 1 = .ok (.istore_n 3, 1) := by decide +kernel
theorem dX1_spanned_2 : decode cX1_spanned 2 = .ok (.iconst 1, 1) := by decide +kernel
theorem dX1_spanned_3 : decode cX1_spanned 3 = .ok (.istore 4, 2) := by decide +kernel
theorem dX1_spanned_5 : decode cX1_spanned 5 = .ok (.iload 4, 2) := by decide +kernel
theorem dX1_spanned_7 : decode cX1_spanned 7 = .ok (.bipush 6, 2) := by decide +kernel
theorem dX1_spanned_9 : decode cX1_spanned 9 = .ok (.if_icmp .gt 75, 3) := by decide +kernel
theorem dX1_spanned_12 : decode cX1_spanned 12 = .ok (.aload_n 0, 1) := by decide +kernel
theorem dX1_spanned_13 : decode cX1_spanned 13 = .ok (.getfield 12, 3) := by decide +kernel
theorem dX1_spanned_16 : decode cX1_spanned 16 = .ok (.aload_n 0, 1) := by decide +kernel
theorem dX1_spanned_17 : decode cX1_spanned 17 = .ok (.getfield 18, 3) := by decide +kernel
theorem dX1_spanned_20 : decode cX1_spanned 20 = .ok (.invokevirtual 75, 3) := by decide +kernel
theorem dX1_spanned_23 : decode cX1_spanned 23 = .ok (.aload_n 0, 1) := by decide +kernel
theorem dX1_spanned_24 : decode cX1_spanned 24 = .ok (.getfield 12, 3) := by decide +kernel
theorem dX1_spanned_27 : decode cX1_spanned 27 = .ok (.iload 4, 2) := by decide +kernel
theorem dX1_spanned_29 : decode cX1_spanned 29 = .ok (.putfield 113, 3) := by decide +kernel
theorem dX1_spanned_32 : decode cX1_spanned 32 = .ok (.aload_n 0, 1) := by decide +kernel
theorem dX1_spanned_33 : decode cX1_spanned 33 = .ok (.aload_n 0, 1) := by decide +kernel
theorem dX1_spanned_34 : decode cX1_spanned 34 = .ok (.getfield 12, 3) := by decide +kernel
theorem dX1_spanned_37 : decode cX1_spanned 37 = .ok (.iload_n 1, 1) := by decide +kernel
theorem dX1_spanned_38 : decode cX1_spanned 38 = .ok (.invokevirtual 106, 3) := by decide +kernel
theorem dX1_spanned_41 : decode cX1_spanned 41 = .ok (.pop, 1) := by decide +kernel
theorem dX1_spanned_42 : decode cX1_spanned 42 = .ok (.aload_n 0, 1) := by decide +kernel
theorem dX1_spanned_43 : decode cX1_spanned 43 = .ok (.getfield 12, 3) := by decide +kernel
theorem dX1_spanned_46 : decode cX1_spanned 46 = .ok (.invokevirtual 110, 3) := by decide +kernel
theorem dX1_spanned_49 : decode cX1_spanned 49 = .ok (.istore 5, 2) := by decide +kernel
theorem dX1_spanned_51 : decode cX1_spanned 51 = .ok (.iload_n 3, 1) := by decide +kernel
theorem dX1_spanned_52 : decode cX1_spanned 52 = .ok (.iconst (-1), 1) := by decide +kernel
theorem dX1_spanned_53 : decode cX1_spanned 53 = .ok (.if_icmp .eq 22, 3) := by decide +kernel
theorem dX1_spanned_56 : decode cX1_spanned 56 = .ok (.iload_n 2, 1) := by decide +kernel
theorem dX1_spanned_57 : decode cX1_spanned 57 = .ok (.ifCond .eq 12, 3) := by decide +kernel
theorem dX1_spanned_60 : decode cX1_spanned 60 = .ok (.iload 5, 2) := by decide +kernel
theorem dX1_spanned_62 : decode cX1_spanned 62 = .ok (.iload_n 3, 1) := by decide +kernel
theorem dX1_spanned_63 : decode cX1_spanned 63 = .ok (.if_icmp .le 15, 3) := by decide +kernel
theorem dX1_spanned_66 : decode cX1_spanned 66 = .ok (.goto 9, 3) := by decide +kernel
theorem dX1_spanned_69 : decode cX1_spanned 69 = .ok (.iload 5, 2) := by decide +kernel
theorem dX1_spanned_71 : decode cX1_spanned 71 = .ok (.iload_n 3, 1) := by decide +kernel
theorem dX1_spanned_72 : decode cX1_spanned 72 = .ok (.if_icmp .ge 6, 3) := by decide +kernel
theorem dX1_spanned_75 : decode cX1_spanned 75 = .ok (.iload 5, 2) := by decide +kernel
theorem dX1_spanned_77 : decode cX1_spanned 77 = .ok (.istore_n 3, 1) := by decide +kernel
theorem dX1_spanned_78 : decode cX1_spanned 78 = .ok (.iinc 4 1, 3) := by decide +kernel
theorem dX1_spanned_81 : decode cX1_spanned 81 = .ok (.goto (-76), 3) := by decide +kernel
theorem dX1_spanned_84 : decode cX1_spanned 84 = .ok (.iload_n 3, 1) := by decide +kernel
theorem dX1_spanned_85 : decode cX1_spanned 85 = .ok (.ireturn, 1) := by decide +kernel
theorem dX2_init_0 : decode cX2_init 0 = .ok (.aload_n 0, 1) := by decide +kernel
theorem dX2_init_1 : decode cX2_init 1 = .ok (.invokespecial 3, 3) := by decide +kernel
theorem dX2_init_4 : decode cX2_init 4 = .ok (.aload_n 0, 1) := by decide +kernel
theorem dX2_init_5 : decode cX2_init 5 = .ok (.bipush 8, 2) := by decide +kernel
theorem dX2_init_7 : decode cX2_init 7 = .ok (.anewarray 11, 3) := by decide +kernel
theorem dX2_init_10 : decode cX2_init 10 = .ok (.putfield 13, 3) := by decide +kernel
theorem dX2_init_13 : decode cX2_init 13 = .ok (.aload_n 0, 1) := by decide +kernel
theorem dX2_init_14 : decode cX2_init 14 = .ok (.new 11, 3) := by decide +kernel
theorem dX2_init_17 : decode cX2_init 17 = .ok (.dup, 1) := by decide +kernel
theorem dX2_init_18 : decode cX2_init 18 = .ok (.invokespecial 17, 3) := by decide +kernel
theorem dX2_init_21 : decode cX2_init 21 = .ok (.putfield 18, 3) := by decide +kernel
theorem dX2_init_24 : decode cX2_init 24 = .ok (.aload_n 0, 1) := by decide +kernel
theorem dX2_init_25 : decode cX2_init 25 = .ok (.bipush 64, 2) := by decide +kernel
theorem dX2_init_27 : decode cX2_init 27 = .ok (.newarray .int, 2) := by decide +kernel
theorem dX2_init_29 : decode cX2_init 29 = .ok (.putfield 22, 3) := by decide +kernel
theorem dX2_init_32 : decode cX2_init 32 = .ok (.aload_n 0, 1) := by decide +kernel
theorem dX2_init_33 : decode cX2_init 33 = .ok (.new 26, 3) := by decide +kernel
theorem dX2_init_36 : decode cX2_init 36 = .ok (.dup, 1) := by decide +kernel
theorem dX2_init_37 : decode cX2_init 37 = .ok (.invokespecial 28, 3) := by decide +kernel
theorem dX2_init_40 : decode cX2_init 40 = .ok (.putfield 29, 3) := by decide +kernel
theorem dX2_init_43 : decode cX2_init 43 = .ok (.aload_n 0, 1) := by decide +kernel
theorem dX2_init_44 : decode cX2_init 44 = .ok (.iconst 0, 1) := by decide +kernel
theorem dX2_init_45 : decode cX2_init 45 = .ok (.putfield 33, 3) := by decide +kernel
theorem dX2_init_48 : decode cX2_init 48 = .ok (.aload_n 0, 1) := by decide +kernel
theorem dX2_init_49 : decode cX2_init 49 = .ok (.bipush 90, 2) := by decide +kernel
theorem dX2_init_51 : decode cX2_init 51 = .ok (.putfield 37, 3) := by decide +kernel
theorem dX2_init_54 : decode cX2_init 54 = .ok (.aload_n 0, 1) := by decide +kernel
theorem dX2_init_55 : decode cX2_init 55 = .ok (.iconst 5, 1) := by decide +kernel
theorem dX2_init_56 : decode cX2_init 56 = .ok (.putfield 40, 3) := by decide +kernel
theorem dX2_init_59 : decode cX2_init 59 = .ok (.aload_n 0, 1) := by decide +kernel
theorem dX2_init_60 : decode cX2_init 60 = .ok (.iconst 1, 1) := by decide +kernel
theorem dX2_init_61 : decode cX2_init 61 = .ok (.putfield 43, 3) := by decide +kernel
theorem dX2_init_64 : decode cX2_init 64 = .ok (.aload_n 0, 1) := by decide +kernel
theorem dX2_init_65 : decode cX2_init 65 = .ok (.iconst 0, 1) := by decide +kernel
theorem dX2_init_66 : decode cX2_init 66 = .ok (.putfield 46, 3) := by decide +kernel
theorem dX2_init_69 : decode cX2_init 69 = .ok (.aload_n 0, 1) := by decide +kernel
theorem dX2_init_70 : decode cX2_init 70 = .ok (.iconst 1, 1) := by decide +kernel
theorem dX2_init_71 : decode cX2_init 71 = .ok (.putfield 49, 3) := by decide +kernel
theorem dX2_init_74 : decode cX2_init 74 = .ok (.aload_n 0, 1) := by decide +kernel
theorem dX2_init_75 : decode cX2_init 75 = .ok (.iconst 0, 1) := by decide +kernel
theorem dX2_init_76 : decode cX2_init 76 = .ok (.putfield 52, 3) := by decide +kernel
theorem dX2_init_79 : decode cX2_init 79 = .ok (.iconst 0, 1) := by decide +kernel
theorem dX2_init_80 : decode cX2_init 80 = .ok (.istore_n 1, 1) := by decide +kernel
theorem dX2_init_81 : decode cX2_init 81 = .ok (.iload_n 1, 1) := by decide +kernel
theorem dX2_init_82 : decode cX2_init 82 = .ok (.aload_n 0, 1) := by decide +kernel
theorem dX2_init_83 : decode cX2_init 83 = .ok (.getfield 13, 3) := by decide +kernel
theorem dX2_init_86 : decode cX2_init 86 = .ok (.arraylength, 1) := by decide +kernel
theorem dX2_init_87 : decode cX2_init 87 = .ok (.if_icmp .ge 22, 3) := by decide +kernel
theorem dX2_init_90 : decode cX2_init 90 = .ok (.aload_n 0, 1) := by decide +kernel
theorem dX2_init_91 : decode cX2_init 91 = .ok (.getfield 13, 3) := by decide +kernel
theorem dX2_init_94 : decode cX2_init 94 = .ok (.iload_n 1, 1) := by decide +kernel
theorem dX2_init_95 : decode cX2_init 95 = .ok (.new 11, 3) := by decide +kernel
theorem dX2_init_98 : decode cX2_init 98 = .ok (.dup, 1) := by decide +kernel
theorem dX2_init_99 : decode cX2_init 99 = .ok (.invokespecial 17, 3) := by decide +kernel
theorem dX2_init_102 : decode cX2_init 102 = .ok (.aastore, 1) := by decide +kernel
theorem dX2_init_103 : decode cX2_init 103 = .ok (.iinc 1 1, 3) := by decide +kernel
theorem dX2_init_106 : decode cX2_init 106 = .ok (.goto (-25), 3) := by decide +kernel
theorem dX2_init_109 : decode cX2_init 109 = .ok (.return_, 1) := by decide +kernel
theorem dX2_take_0 : decode cX2_take 0 = .ok (.iconst 0, 1) := by decide +kernel
theorem dX2_take_1 : decode cX2_take 1 = .ok (.istore_n 2, 1) := by decide +kernel
theorem dX2_take_2 : decode cX2_take 2 = .ok (.iload_n 2, 1) := by decide +kernel
theorem dX2_take_3 : decode cX2_take 3 = .ok (.aload_n 0, 1) := by decide +kernel
theorem dX2_take_4 : decode cX2_take 4 = .ok (.getfield 13, 3) := by decide +kernel
theorem dX2_take_7 : decode cX2_take 7 = .ok (.arraylength, 1) := by decide +kernel
theorem dX2_take_8 : decode cX2_take 8 = .ok (.if_icmp .ge 23, 3) := by decide +kernel
theorem dX2_take_11 : decode cX2_take 11 = .ok (.aload_n 0, 1) := by decide +kernel
theorem dX2_take_12 : decode cX2_take 12 = .ok (.getfield 13, 3) := by decide +kernel
theorem dX2_take_15 : decode cX2_take 15 = .ok (.iload_n 2, 1) := by decide +kernel
theorem dX2_take_16 : decode cX2_take 16 = .ok (.aaload, 1) := by decide +kernel
theorem dX2_take_17 : decode cX2_take 17 = .ok (.aload_n 1, 1) := by decide +kernel
theorem dX2_take_18 : decode cX2_take 18 = .ok (.iload_n 2, 1) := by decide +kernel
theorem dX2_take_19 : decode cX2_take 19 = .ok (.invokevirtual 55, 3) := by decide +kernel
theorem dX2_take_22 : decode cX2_take 22 = .ok (.invokevirtual 59, 3) := by decide +kernel
theorem dX2_take_25 : decode cX2_take 25 = .ok (.iinc 2 1, 3) := by decide +kernel
theorem dX2_take_28 : decode cX2_take 28 = .ok (.goto (-26), 3) := by decide +kernel
theorem dX2_take_31 : decode cX2_take 31 = .ok (.aload_n 1, 1) := by decide +kernel
theorem dX2_take_32 : decode cX2_take 32 = .ok (.getfield 22, 3) := by decide +kernel
theorem dX2_take_35 : decode cX2_take 35 = .ok (.iconst 0, 1) := by decide +kernel
theorem dX2_take_36 : decode cX2_take 36 = .ok (.aload_n 0, 1) := by decide +kernel
theorem dX2_take_37 : decode cX2_take 37 = .ok (.getfield 22, 3) := by decide +kernel
theorem dX2_take_40 : decode cX2_take 40 = .ok (.iconst 0, 1) := by decide +kernel
theorem dX2_take_41 : decode cX2_take 41 = .ok (.aload_n 0, 1) := by decide +kernel
theorem dX2_take_42 : decode cX2_take 42 = .ok (.getfield 22, 3) := by decide +kernel
theorem dX2_take_45 : decode cX2_take 45 = .ok (.arraylength, 1) := by decide +kernel
theorem dX2_take_46 : decode cX2_take 46 = .ok (.invokestatic 63, 3) := by decide +kernel
theorem dX2_take_49 : decode cX2_take 49 = .ok (.aload_n 0, 1) := by decide +kernel
theorem dX2_take_50 : decode cX2_take 50 = .ok (.getfield 29, 3) := by decide +kernel
theorem dX2_take_53 : decode cX2_take 53 = .ok (.aload_n 1, 1) := by decide +kernel
theorem dX2_take_54 : decode cX2_take 54 = .ok (.getfield 29, 3) := by decide +kernel
theorem dX2_take_57 : decode cX2_take 57 = .ok (.invokevirtual 69, 3) := by decide +kernel
theorem dX2_take_60 : decode cX2_take 60 = .ok (.aload_n 0, 1) := by decide +kernel
theorem dX2_take_61 : decode cX2_take 61 = .ok (.aload_n 1, 1) := by decide +kernel
theorem dX2_take_62 : decode cX2_take 62 = .ok (.getfield 33, 3) := by decide +kernel
theorem dX2_take_65 : decode cX2_take 65 = .ok (.putfield 33, 3) := by decide +kernel
theorem dX2_take_68 : decode cX2_take 68 = .ok (.aload_n 0, 1) := by decide +kernel
theorem dX2_take_69 : decode cX2_take 69 = .ok (.aload_n 1, 1) := by decide +kernel
theorem dX2_take_70 : decode cX2_take 70 = .ok (.getfield 37, 3) := by decide +kernel
theorem dX2_take_73 : decode cX2_take 73 = .ok (.putfield 37, 3) := by decide +kernel
theorem dX2_take_76 : decode cX2_take 76 = .ok (.aload_n 0, 1) := by decide +kernel
theorem dX2_take_77 : decode cX2_take 77 = .ok (.aload_n 1, 1) := by decide +kernel
theorem dX2_take_78 : decode cX2_take 78 = .ok (.getfield 40, 3) := by decide +kernel
theorem dX2_take_81 : decode cX2_take 81 = .ok (.putfield 40, 3) := by decide +kernel
theorem dX2_take_84 : decode cX2_take 84 = .ok (.aload_n 0, 1) := by decide +kernel
theorem dX2_take_85 : decode cX2_take 85 = .ok (.aload_n 1, 1) := by decide +kernel
theorem dX2_take_86 : decode cX2_take 86 = .ok (.getfield 43, 3) := by decide +kernel
theorem dX2_take_89 : decode cX2_take 89 = .ok (.putfield 43, 3) := by decide +kernel
theorem dX2_take_92 : decode cX2_take 92 = .ok (.aload_n 0, 1) := by decide +kernel
theorem dX2_take_93 : decode cX2_take 93 = .ok (.aload_n 1, 1) := by decide +kernel
theorem dX2_take_94 : decode cX2_take 94 = .ok (.getfield 46, 3) := by decide +kernel
theorem dX2_take_97 : decode cX2_take 97 = .ok (.putfield 46, 3) := by decide +kernel
theorem dX2_take_100 : decode cX2_take 100 = .ok (.aload_n 0, 1) := by decide +kernel
theorem dX2_take_101 : decode cX2_take 101 = .ok (.aload_n 1, 1) := by decide +kernel
theorem dX2_take_102 : decode cX2_take 102 = .ok (.getfield 49, 3) := by decide +kernel
theorem dX2_take_105 : decode cX2_take 105 = .ok (.putfield 49, 3) := by decide +kernel
theorem dX2_take_108 : decode cX2_take 108 = .ok (.aload_n 0, 1) := by decide +kernel
theorem dX2_take_109 : decode cX2_take 109 = .ok (.aload_n 1, 1) := by decide +kernel
theorem dX2_take_110 : decode cX2_take 110 = .ok (.getfield 52, 3) := by decide +kernel
theorem dX2_take_113 : decode cX2_take 113 = .ok (.putfield 52, 3) := by decide +kernel
theorem dX2_take_116 : decode cX2_take 116 = .ok (.return_, 1) := by decide +kernel
theorem dX2_has_0 : decode cX2_has 0 = .ok (.iload_n 1, 1) := by decide +kernel
theorem dX2_has_1 : decode cX2_has 1 = .ok (.ifCond .lt 15, 3) := by decide +kernel
theorem dX2_has_4 : decode cX2_has 4 = .ok (.iload_n 1, 1) := by decide +kernel
theorem dX2_has_5 : decode cX2_has 5 = .ok (.aload_n 0, 1) := by decide +kernel
theorem dX2_has_6 : decode cX2_has 6 = .ok (.getfield 33, 3) := by decide +kernel
theorem dX2_has_9 : decode cX2_has 9 = .ok (.if_icmp .ge 7, 3) := by decide +kernel
theorem dX2_has_12 : decode cX2_has 12 = .ok (.iconst 1, 1) := by decide +kernel
theorem dX2_has_13 : decode cX2_has 13 = .ok (.goto 4, 3) := by decide +kernel
theorem dX2_has_16 : decode cX2_has 16 = .ok (.iconst 0, 1) := by decide +kernel
theorem dX2_has_17 : decode cX2_has 17 = .ok (.ireturn, 1) := by decide +kernel
theorem dX2_at_0 : decode cX2_at 0 = .ok (.iload_n 1, 1) := by decide +kernel
theorem dX2_at_1 : decode cX2_at 1 = .ok (.ifCond .lt 21, 3) := by decide +kernel
theorem dX2_at_4 : decode cX2_at 4 = .ok (.iload_n 1, 1) := by decide +kernel
theorem dX2_at_5 : decode cX2_at 5 = .ok (.aload_n 0, 1) := by decide +kernel
theorem dX2_at_6 : decode cX2_at 6 = .ok (.getfield 13, 3) := by decide +kernel
theorem dX2_at_9 : decode cX2_at 9 = .ok (.arraylength, 1) := by decide +kernel
theorem dX2_at_10 : decode cX2_at 10 = .ok (.if_icmp .ge 12, 3) := by decide +kernel
theorem dX2_at_13 : decode cX2_at 13 = .ok (.aload_n 0, 1) := by decide +kernel
theorem dX2_at_14 : decode cX2_at 14 = .ok (.getfield 13, 3) := by decide +kernel
theorem dX2_at_17 : decode cX2_at 17 = .ok (.iload_n 1, 1) := by decide +kernel
theorem dX2_at_18 : decode cX2_at 18 = .ok (.aaload, 1) := by decide +kernel
theorem dX2_at_19 : decode cX2_at 19 = .ok (.goto 7, 3) := by decide +kernel
theorem dX2_at_22 : decode cX2_at 22 = .ok (.aload_n 0, 1) := by decide +kernel
theorem dX2_at_23 : decode cX2_at 23 = .ok (.getfield 18, 3) := by decide +kernel
theorem dX2_at_26 : decode cX2_at 26 = .ok (.areturn, 1) := by decide +kernel
theorem dX2_add_0 : decode cX2_add 0 = .ok (.aload_n 0, 1) := by decide +kernel
theorem dX2_add_1 : decode cX2_add 1 = .ok (.aload_n 0, 1) := by decide +kernel
theorem dX2_add_2 : decode cX2_add 2 = .ok (.getfield 33, 3) := by decide +kernel
theorem dX2_add_5 : decode cX2_add 5 = .ok (.invokevirtual 55, 3) := by decide +kernel
theorem dX2_add_8 : decode cX2_add 8 = .ok (.astore 4, 2) := by decide +kernel
theorem dX2_add_10 : decode cX2_add 10 = .ok (.aload 4, 2) := by decide +kernel
theorem dX2_add_12 : decode cX2_add 12 = .ok (.aload_n 0, 1) := by decide +kernel
theorem dX2_add_13 : decode cX2_add 13 = .ok (.getfield 18, 3) := by decide +kernel
theorem dX2_add_16 : decode cX2_add 16 = .ok (.invokevirtual 59, 3) := by decide +kernel
theorem dX2_add_19 : decode cX2_add 19 = .ok (.aload 4, 2) := by decide +kernel
theorem dX2_add_21 : decode cX2_add 21 = .ok (.iload_n 1, 1) := by decide +kernel
theorem dX2_add_22 : decode cX2_add 22 = .ok (.putfield 72, 3) := by decide +kernel
theorem dX2_add_25 : decode cX2_add 25 = .ok (.aload 4, 2) := by decide +kernel
theorem dX2_add_27 : decode cX2_add 27 = .ok (.iload_n 2, 1) := by decide +kernel
theorem dX2_add_28 : decode cX2_add 28 = .ok (.putfield 75, 3) := by decide +kernel
theorem dX2_add_31 : decode cX2_add 31 = .ok (.aload 4, 2) := by decide +kernel
theorem dX2_add_33 : decode cX2_add 33 = .ok (.iload_n 3, 1) := by decide +kernel
theorem dX2_add_34 : decode cX2_add 34 = .ok (.putfield 78, 3) := by decide +kernel
theorem dX2_add_37 : decode cX2_add 37 = .ok (.aload_n 0, 1) := by decide +kernel
theorem dX2_add_38 : decode cX2_add 38 = .ok (.dup, 1) := by decide +kernel
theorem dX2_add_39 : decode cX2_add 39 = .ok (.getfield 33, 3) := by decide +kernel
theorem dX2_add_42 : decode cX2_add 42 = .ok (.iconst 1, 1) := by decide +kernel
theorem dX2_add_43 : decode cX2_add 43 = .ok (.iadd, 1) := by decide +kernel
theorem dX2_add_44 : decode cX2_add 44 = .ok (.putfield 33, 3) := by decide +kernel
theorem dX2_add_47 : decode cX2_add 47 = .ok (.aload_n 0, 1) := by decide +kernel
theorem dX2_add_48 : decode cX2_add 48 = .ok (.getfield 33, 3) := by decide +kernel
theorem dX2_add_51 : decode cX2_add 51 = .ok (.iconst 1, 1) := by decide +kernel
theorem dX2_add_52 : decode cX2_add 52 = .ok (.isub, 1) := by decide +kernel
theorem dX2_add_53 : decode cX2_add 53 = .ok (.ireturn, 1) := by decide +kernel
theorem dX2_gapOf_0 : decode cX2_gapOf 0 = .ok (.aload_n 0, 1) := by decide +kernel
theorem dX2_gapOf_1 : decode cX2_gapOf 1 = .ok (.iload_n 1, 1) := by decide +kernel
theorem dX2_gapOf_2 : decode cX2_gapOf 2 = .ok (.invokevirtual 55, 3) := by decide +kernel
theorem dX2_gapOf_5 : decode cX2_gapOf 5 = .ok (.getfield 75, 3) := by decide +kernel
theorem dX2_gapOf_8 : decode cX2_gapOf 8 = .ok (.aload_n 0, 1) := by decide +kernel
theorem dX2_gapOf_9 : decode cX2_gapOf 9 = .ok (.iload_n 2, 1) := by decide +kernel
theorem dX2_gapOf_10 : decode cX2_gapOf 10 = .ok (.invokevirtual 55, 3) := by decide +kernel
theorem dX2_gapOf_13 : decode cX2_gapOf 13 = .ok (.getfield 75, 3) := by decide +kernel
theorem dX2_gapOf_16 : decode cX2_gapOf 16 = .ok (.isub, 1) := by decide +kernel
theorem dX2_gapOf_17 : decode cX2_gapOf 17 = .ok (.istore_n 3, 1) := by decide +kernel
theorem dX2_gapOf_18 : decode cX2_gapOf 18 = .ok (.iload_n 3, 1) := by decide +kernel
theorem dX2_gapOf_19 : decode cX2_gapOf 19 = .ok (.ifCond .ge 8, 3) := by decide +kernel
theorem dX2_gapOf_22 : decode cX2_gapOf 22 = .ok (.iload_n 3, 1) := by decide +kernel
theorem dX2_gapOf_23 : decode cX2_gapOf 23 = .ok (.ineg, 1) := by decide +kernel
theorem dX2_gapOf_24 : decode cX2_gapOf 24 = .ok (.goto 4, 3) := by decide +kernel
theorem dX2_gapOf_27 : decode cX2_gapOf 27 = .ok (.iload_n 3, 1) := by decide +kernel
theorem dX2_gapOf_28 : decode cX2_gapOf 28 = .ok (.istore_n 3, 1) := by decide +kernel
theorem dX2_gapOf_29 : decode cX2_gapOf 29 = .ok (.iload_n 3, 1) := by decide +kernel
theorem dX2_gapOf_30 : decode cX2_gapOf 30 = .ok (.aload_n 0, 1) := by decide +kernel
theorem dX2_gapOf_31 : decode cX2_gapOf 31 = .ok (.getfield 37, 3) := by decide +kernel
theorem dX2_gapOf_34 : decode cX2_gapOf 34 = .ok (.iload_n 3, 1) := by decide +kernel
theorem dX2_gapOf_35 : decode cX2_gapOf 35 = .ok (.isub, 1) := by decide +kernel
theorem dX2_gapOf_36 : decode cX2_gapOf 36 = .ok (.invokestatic 81, 3) := by decide +kernel
theorem dX2_gapOf_39 : decode cX2_gapOf 39 = .ok (.ireturn, 1) := by decide +kernel
theorem dX2_leftByRound_0 : decode cX2_leftByRound 0 = .ok (.aload_n 0, 1) := by decide +kernel
theorem dX2_leftByRound_1 : decode cX2_leftByRound 1 = .ok (.getfield 37, 3) := by decide +kernel
theorem dX2_leftByRound_4 : decode cX2_leftByRound 4 = .ok (.ifCond .le 12, 3) := by decide +kernel
theorem dX2_leftByRound_7 : decode cX2_leftByRound 7 = .ok (.iload_n 1, 1) := by decide +kernel
theorem dX2_leftByRound_8 : decode cX2_leftByRound 8 = .ok (.aload_n 0, 1) := by decide +kernel
theorem dX2_leftByRound_9 : decode cX2_leftByRound 9 = .ok (.getfield 37, 3) := by decide +kernel
theorem dX2_leftByRound_12 : decode cX2_leftByRound 12 = .ok (.irem, 1) := by decide +kernel
theorem dX2_leftByRound_13 : decode cX2_leftByRound 13 = .ok (.goto 4, 3) := by decide +kernel
theorem dX2_leftByRound_16 : decode cX2_leftByRound 16 = .ok (.iconst 0, 1) := by decide +kernel
theorem dX2_leftByRound_17 : decode cX2_leftByRound 17 = .ok (.ireturn, 1) := by decide +kernel
theorem dX2_moved_0 : decode cX2_moved 0 = .ok (.iload_n 3, 1) := by decide +kernel
theorem dX2_moved_1 : decode cX2_moved 1 = .ok (.ifCond .eq 9, 3) := by decide +kernel
theorem dX2_moved_4 : decode cX2_moved 4 = .ok (.iload_n 1, 1) := by decide +kernel
theorem dX2_moved_5 : decode cX2_moved 5 = .ok (.iload_n 2, 1) := by decide +kernel
theorem dX2_moved_6 : decode cX2_moved 6 = .ok (.iadd, 1) := by decide +kernel
theorem dX2_moved_7 : decode cX2_moved 7 = .ok (.goto 6, 3) := by decide +kernel
theorem dX2_moved_10 : decode cX2_moved 10 = .ok (.iload_n 1, 1) := by decide +kernel
theorem dX2_moved_11 : decode cX2_moved 11 = .ok (.iload_n 2, 1) := by decide +kernel
theorem dX2_moved_12 : decode cX2_moved 12 = .ok (.isub, 1) := by decide +kernel
theorem dX2_moved_13 : decode cX2_moved 13 = .ok (.istore 4, 2) := by decide +kernel
theorem dX2_moved_15 : decode cX2_moved 15 = .ok (.iload 4, 2) := by decide +kernel
theorem dX2_moved_17 : decode cX2_moved 17 = .ok (.ifCond .ge 11, 3) := by decide +kernel
theorem dX2_moved_20 : decode cX2_moved 20 = .ok (.iload 4, 2) := by decide +kernel
theorem dX2_moved_22 : decode cX2_moved 22 = .ok (.aload_n 0, 1) := by decide +kernel
theorem dX2_moved_23 : decode cX2_moved 23 = .ok (.getfield 37, 3) := by decide +kernel
theorem dX2_moved_26 : decode cX2_moved 26 = .ok (.iadd, 1) := by decide +kernel
theorem dX2_moved_27 : decode cX2_moved 27 = .ok (.ireturn, 1) := by decide +kernel
theorem dX2_moved_28 : decode cX2_moved 28 = .ok (.iload 4, 2) := by decide +kernel
theorem dX2_moved_30 : decode cX2_moved 30 = .ok (.aload_n 0, 1) := by decide +kernel
theorem dX2_moved_31 : decode cX2_moved 31 = .ok (.getfield 37, 3) := by decide +kernel
theorem dX2_moved_34 : decode cX2_moved 34 = .ok (.if_icmp .lt 13, 3) := by decide +kernel
theorem dX2_moved_37 : decode cX2_moved 37 = .ok (.iload 4, 2) := by decide +kernel
theorem dX2_moved_39 : decode cX2_moved 39 = .ok (.aload_n 0, 1) := by decide +kernel
theorem dX2_moved_40 : decode cX2_moved 40 = .ok (.getfield 37, 3) := by decide +kernel
theorem dX2_moved_43 : decode cX2_moved 43 = .ok (.isub, 1) := by decide +kernel
theorem dX2_moved_44 : decode cX2_moved 44 = .ok (.goto 5, 3) := by decide +kernel
theorem dX2_moved_47 : decode cX2_moved 47 = .ok (.iload 4, 2) := by decide +kernel
theorem dX2_moved_49 : decode cX2_moved 49 = .ok (.ireturn, 1) := by decide +kernel
theorem dX2_tell_0 : decode cX2_tell 0 = .ok (.aload_n 0, 1) := by decide +kernel
theorem dX2_tell_1 : decode cX2_tell 1 = .ok (.iload_n 2, 1) := by decide +kernel
theorem dX2_tell_2 : decode cX2_tell 2 = .ok (.invokevirtual 55, 3) := by decide +kernel
theorem dX2_tell_5 : decode cX2_tell 5 = .ok (.astore 5, 2) := by decide +kernel
theorem dX2_tell_7 : decode cX2_tell 7 = .ok (.iload_n 3, 1) := by decide +kernel
theorem dX2_tell_8 : decode cX2_tell 8 = .ok (.ifCond .eq 35, 3) := by decide +kernel
theorem dX2_tell_11 : decode cX2_tell 11 = .ok (.aload 5, 2) := by decide +kernel
theorem dX2_tell_13 : decode cX2_tell 13 = .ok (.getfield 75, 3) := by decide +kernel
theorem dX2_tell_16 : decode cX2_tell 16 = .ok (.iload 4, 2) := by decide +kernel
theorem dX2_tell_18 : decode cX2_tell 18 = .ok (.iadd, 1) := by decide +kernel
theorem dX2_tell_19 : decode cX2_tell 19 = .ok (.aload_n 0, 1) := by decide +kernel
theorem dX2_tell_20 : decode cX2_tell 20 = .ok (.getfield 37, 3) := by decide +kernel
theorem dX2_tell_23 : decode cX2_tell 23 = .ok (.if_icmp .lt 20, 3) := by decide +kernel
theorem dX2_tell_26 : decode cX2_tell 26 = .ok (.aload 5, 2) := by decide +kernel
theorem dX2_tell_28 : decode cX2_tell 28 = .ok (.bipush (-99), 2) := by decide +kernel
theorem dX2_tell_30 : decode cX2_tell 30 = .ok (.aload 5, 2) := by decide +kernel
theorem dX2_tell_32 : decode cX2_tell 32 = .ok (.getfield 87, 3) := by decide +kernel
theorem dX2_tell_35 : decode cX2_tell 35 = .ok (.iconst 1, 1) := by decide +kernel
theorem dX2_tell_36 : decode cX2_tell 36 = .ok (.isub, 1) := by decide +kernel
theorem dX2_tell_37 : decode cX2_tell 37 = .ok (.invokestatic 90, 3) := by decide +kernel
theorem dX2_tell_40 : decode cX2_tell 40 = .ok (.putfield 87, 3) := by decide +kernel
theorem dX2_tell_43 : decode cX2_tell 43 = .ok (.iload_n 3, 1) := by decide +kernel
theorem dX2_tell_44 : decode cX2_tell 44 = .ok (.ifCond .ne 31, 3) := by decide +kernel
theorem dX2_tell_47 : decode cX2_tell 47 = .ok (.aload 5, 2) := by decide +kernel
theorem dX2_tell_49 : decode cX2_tell 49 = .ok (.getfield 75, 3) := by decide +kernel
theorem dX2_tell_52 : decode cX2_tell 52 = .ok (.iload 4, 2) := by decide +kernel
theorem dX2_tell_54 : decode cX2_tell 54 = .ok (.isub, 1) := by decide +kernel
theorem dX2_tell_55 : decode cX2_tell 55 = .ok (.ifCond .ge 20, 3) := by decide +kernel
theorem dX2_tell_58 : decode cX2_tell 58 = .ok (.aload 5, 2) := by decide +kernel
theorem dX2_tell_60 : decode cX2_tell 60 = .ok (.bipush 99, 2) := by decide +kernel
theorem dX2_tell_62 : decode cX2_tell 62 = .ok (.aload 5, 2) := by decide +kernel
theorem dX2_tell_64 : decode cX2_tell 64 = .ok (.getfield 87, 3) := by decide +kernel
theorem dX2_tell_67 : decode cX2_tell 67 = .ok (.iconst 1, 1) := by decide +kernel
theorem dX2_tell_68 : decode cX2_tell 68 = .ok (.iadd, 1) := by decide +kernel
theorem dX2_tell_69 : decode cX2_tell 69 = .ok (.invokestatic 81, 3) := by decide +kernel
theorem dX2_tell_72 : decode cX2_tell 72 = .ok (.putfield 87, 3) := by decide +kernel
theorem dX2_tell_75 : decode cX2_tell 75 = .ok (.aload 5, 2) := by decide +kernel
theorem dX2_tell_77 : decode cX2_tell 77 = .ok (.aload_n 0, 1) := by decide +kernel
theorem dX2_tell_78 : decode cX2_tell 78 = .ok (.aload 5, 2) := by decide +kernel
theorem dX2_tell_80 : decode cX2_tell 80 = .ok (.getfield 75, 3) := by decide +kernel
theorem dX2_tell_83 : decode cX2_tell 83 = .ok (.iload 4, 2) := by decide +kernel
theorem dX2_tell_85 : decode cX2_tell 85 = .ok (.iload_n 3, 1) := by decide +kernel
theorem dX2_tell_86 : decode cX2_tell 86 = .ok (.invokevirtual 93, 3) := by decide +kernel
theorem dX2_tell_89 : decode cX2_tell 89 = .ok (.putfield 75, 3) := by decide +kernel
theorem dX2_tell_92 : decode cX2_tell 92 = .ok (.aload_n 0, 1) := by decide +kernel
theorem dX2_tell_93 : decode cX2_tell 93 = .ok (.getfield 29, 3) := by decide +kernel
theorem dX2_tell_96 : decode cX2_tell 96 = .ok (.aload_n 0, 1) := by decide +kernel
theorem dX2_tell_97 : decode cX2_tell 97 = .ok (.getfield 46, 3) := by decide +kernel
theorem dX2_tell_100 : decode cX2_tell 100 = .ok (.iload_n 1, 1) := by decide +kernel
theorem dX2_tell_101 : decode cX2_tell 101 = .ok (.iload_n 2, 1) := by decide +kernel
theorem dX2_tell_102 : decode cX2_tell 102 = .ok (.iload_n 3, 1) := by decide +kernel
theorem dX2_tell_103 : decode cX2_tell 103 = .ok (.aload 5, 2) := by decide +kernel
theorem dX2_tell_105 : decode cX2_tell 105 = .ok (.getfield 75, 3) := by decide +kernel
theorem dX2_tell_108 : decode cX2_tell 108 = .ok (.invokevirtual 97, 3) := by decide +kernel
theorem dX2_tell_111 : decode cX2_tell 111 = .ok (.aload 5, 2) := by decide +kernel
theorem dX2_tell_113 : decode cX2_tell 113 = .ok (.getfield 75, 3) := by decide +kernel
theorem dX2_tell_116 : decode cX2_tell 116 = .ok (.ireturn, 1) := by decide +kernel
theorem dX2_endDay_0 : decode cX2_endDay 0 = .ok (.aload_n 0, 1) := by decide +kernel
theorem dX2_endDay_1 : decode cX2_endDay 1 = .ok (.sipush 9999, 3) := by decide +kernel
theorem dX2_endDay_4 : decode cX2_endDay 4 = .ok (.aload_n 0, 1) := by decide +kernel
theorem dX2_endDay_5 : decode cX2_endDay 5 = .ok (.getfield 46, 3) := by decide +kernel
theorem dX2_endDay_8 : decode cX2_endDay 8 = .ok (.iconst 1, 1) := by decide +kernel
theorem dX2_endDay_9 : decode cX2_endDay 9 = .ok (.iadd, 1) := by decide +kernel
theorem dX2_endDay_10 : decode cX2_endDay 10 = .ok (.invokestatic 81, 3) := by decide +kernel
theorem dX2_endDay_13 : decode cX2_endDay 13 = .ok (.putfield 46, 3) := by decide +kernel
theorem dX2_endDay_16 : decode cX2_endDay 16 = .ok (.return_, 1) := by decide +kernel
theorem dX2_draw_0 : decode cX2_draw 0 = .ok (.aload_n 0, 1) := by decide +kernel
theorem dX2_draw_1 : decode cX2_draw 1 = .ok (.ldc 101, 2) := by decide +kernel
theorem dX2_draw_3 : decode cX2_draw 3 = .ok (.aload_n 0, 1) := by decide +kernel
theorem dX2_draw_4 : decode cX2_draw 4 = .ok (.getfield 49, 3) := by decide +kernel
theorem dX2_draw_7 : decode cX2_draw 7 = .ok (.imul, 1) := by decide +kernel
theorem dX2_draw_8 : decode cX2_draw 8 = .ok (.sipush 12345, 3) := by decide +kernel
theorem dX2_draw_11 : decode cX2_draw 11 = .ok (.iadd, 1) := by decide +kernel
theorem dX2_draw_12 : decode cX2_draw 12 = .ok (.putfield 49, 3) := by decide +kernel
theorem dX2_draw_15 : decode cX2_draw 15 = .ok (.aload_n 0, 1) := by decide +kernel
theorem dX2_draw_16 : decode cX2_draw 16 = .ok (.getfield 49, 3) := by decide +kernel
theorem dX2_draw_19 : decode cX2_draw 19 = .ok (.bipush 16, 2) := by decide +kernel
theorem dX2_draw_21 : decode cX2_draw 21 = .ok (.iushr, 1) := by decide +kernel
theorem dX2_draw_22 : decode cX2_draw 22 = .ok (.sipush 32767, 3) := by decide +kernel
theorem dX2_draw_25 : decode cX2_draw 25 = .ok (.iand, 1) := by decide +kernel
theorem dX2_draw_26 : decode cX2_draw 26 = .ok (.ireturn, 1) := by decide +kernel
theorem dX2_governs_0 : decode cX2_governs 0 = .ok (.aload_n 0, 1) := by decide +kernel
theorem dX2_governs_1 : decode cX2_governs 1 = .ok (.iload_n 1, 1) := by decide +kernel
theorem dX2_governs_2 : decode cX2_governs 2 = .ok (.invokevirtual 102, 3) := by decide +kernel
theorem dX2_governs_5 : decode cX2_governs 5 = .ok (.ifCond .eq 23, 3) := by decide +kernel
theorem dX2_governs_8 : decode cX2_governs 8 = .ok (.aload_n 0, 1) := by decide +kernel
theorem dX2_governs_9 : decode cX2_governs 9 = .ok (.iload_n 2, 1) := by decide +kernel
theorem dX2_governs_10 : decode cX2_governs 10 = .ok (.invokevirtual 55, 3) := by decide +kernel
theorem dX2_governs_13 : decode cX2_governs 13 = .ok (.getfield 106, 3) := by decide +kernel
theorem dX2_governs_16 : decode cX2_governs 16 = .ok (.iload_n 1, 1) := by decide +kernel
theorem dX2_governs_17 : decode cX2_governs 17 = .ok (.ishr, 1) := by decide +kernel
theorem dX2_governs_18 : decode cX2_governs 18 = .ok (.iconst 1, 1) := by decide +kernel
theorem dX2_governs_19 : decode cX2_governs 19 = .ok (.iand, 1) := by decide +kernel
theorem dX2_governs_20 : decode cX2_governs 20 = .ok (.iconst 1, 1) := by decide +kernel
theorem dX2_governs_21 : decode cX2_governs 21 = .ok (.if_icmp .ne 7, 3) := by decide +kernel
theorem dX2_governs_24 : decode cX2_governs 24 = .ok (.iconst 1, 1) := by decide +kernel
theorem dX2_governs_25 : decode cX2_governs 25 = .ok (.goto 4, 3) := by decide +kernel
theorem dX2_governs_28 : decode cX2_governs 28 = .ok (.iconst 0, 1) := by decide +kernel
theorem dX2_governs_29 : decode cX2_governs 29 = .ok (.ireturn, 1) := by decide +kernel
theorem dX2_setGoverns_0 : decode cX2_setGoverns 0 = .ok (.aload_n 0, 1) := by decide +kernel
theorem dX2_setGoverns_1 : decode cX2_setGoverns 1 = .ok (.iload_n 1, 1) := by decide +kernel
theorem dX2_setGoverns_2 : decode cX2_setGoverns 2 = .ok (.invokevirtual 102, 3) := by decide +kernel
theorem dX2_setGoverns_5 : decode cX2_setGoverns 5 = .ok (.ifCond .eq 50, 3) := by decide +kernel
theorem dX2_setGoverns_8 : decode cX2_setGoverns 8 = .ok (.aload_n 0, 1) := by decide +kernel
theorem dX2_setGoverns_9 : decode cX2_setGoverns 9 = .ok (.iload_n 2, 1) := by decide +kernel
theorem dX2_setGoverns_10 : decode cX2_setGoverns 10 = .ok (.invokevirtual 102, 3) := by decide +kernel
theorem dX2_setGoverns_13 : decode cX2_setGoverns 13 = .ok (.ifCond .eq 42, 3) := by decide +kernel
theorem dX2_setGoverns_16 : decode cX2_setGoverns 16 = .ok (.aload_n 0, 1) := by decide +kernel
theorem dX2_setGoverns_17 : decode cX2_setGoverns 17 = .ok (.iload_n 2, 1) := by decide +kernel
theorem dX2_setGoverns_18 : decode cX2_setGoverns 18 = .ok (.invokevirtual 55, 3) := by decide +kernel
theorem dX2_setGoverns_21 : decode cX2_setGoverns 21 = .ok (.astore 4, 2) := by decide +kernel
theorem dX2_setGoverns_23 : decode cX2_setGoverns 23 = .ok (.aload 4, 2) := by decide +kernel
theorem dX2_setGoverns_25 : decode cX2_setGoverns 25 = .ok (.iload_n 3, 1) := by decide +kernel
theorem dX2_setGoverns_26 : decode cX2_setGoverns 26 = .ok (.ifCond .eq 15, 3) := by decide +kernel
theorem dX2_setGoverns_29 : decode cX2_setGoverns 29 = .ok (.aload 4, 2) := by decide +kernel
theorem dX2_setGoverns_31 : decode cX2_setGoverns 31 = .ok (.getfield 106, 3) := by decide +kernel
theorem dX2_setGoverns_34 : decode cX2_setGoverns 34 = .ok (.iconst 1, 1) := by decide +kernel
theorem dX2_setGoverns_35 : decode cX2_setGoverns 35 = .ok (.iload_n 1, 1) := by decide +kernel
theorem dX2_setGoverns_36 : decode cX2_setGoverns 36 = .ok (.ishl, 1) := by decide +kernel
theorem dX2_setGoverns_37 : decode cX2_setGoverns 37 = .ok (.ior, 1) := by decide +kernel
theorem dX2_setGoverns_38 : decode cX2_setGoverns 38 = .ok (.goto 14, 3) := by decide +kernel
theorem dX2_setGoverns_41 : decode cX2_setGoverns 41 = .ok (.aload 4, 2) := by decide +kernel
theorem dX2_setGoverns_43 : decode cX2_setGoverns 43 = .ok (.getfield 106, 3) := by decide +kernel
theorem dX2_setGoverns_46 : decode cX2_setGoverns 46 = .ok (.iconst 1, 1) := by decide +kernel
theorem dX2_setGoverns_47 : decode cX2_setGoverns 47 = .ok (.iload_n 1, 1) := by decide +kernel
theorem dX2_setGoverns_48 : decode cX2_setGoverns 48 = .ok (.ishl, 1) := by decide +kernel
theorem dX2_setGoverns_49 : decode cX2_setGoverns 49 = .ok (.iconst (-1), 1) := by decide +kernel
theorem dX2_setGoverns_50 : decode cX2_setGoverns 50 = .ok (.ixor, 1) := by decide +kernel
theorem dX2_setGoverns_51 : decode cX2_setGoverns 51 = .ok (.iand, 1) := by decide +kernel
theorem dX2_setGoverns_52 : decode cX2_setGoverns 52 = .ok (.putfield 106, 3) := by decide +kernel
theorem dX2_setGoverns_55 : decode cX2_setGoverns 55 = .ok (.return_, 1) := by decide +kernel
theorem dX2_governedBy_0 : decode cX2_governedBy 0 = .ok (.iconst 0, 1) := by decide +kernel
theorem dX2_governedBy_1 : decode cX2_governedBy 1 = .ok (.istore_n 2, 1) := by decide +kernel
theorem dX2_governedBy_2 : decode cX2_governedBy 2 = .ok (.iconst 0, 1) := by decide +kernel
theorem dX2_governedBy_3 : decode cX2_governedBy 3 = .ok (.istore_n 3, 1) := by decide +kernel
theorem dX2_governedBy_4 : decode cX2_governedBy 4 = .ok (.iload_n 3, 1) := by decide +kernel
theorem dX2_governedBy_5 : decode cX2_governedBy 5 = .ok (.aload_n 0, 1) := by decide +kernel
theorem dX2_governedBy_6 : decode cX2_governedBy 6 = .ok (.getfield 33, 3) := by decide +kernel
theorem dX2_governedBy_9 : decode cX2_governedBy 9 = .ok (.if_icmp .ge 24, 3) := by decide +kernel
theorem dX2_governedBy_12 : decode cX2_governedBy 12 = .ok (.aload_n 0, 1) := by decide +kernel
theorem dX2_governedBy_13 : decode cX2_governedBy 13 = .ok (.iload_n 1, 1) := by decide +kernel
theorem dX2_governedBy_14 : decode cX2_governedBy 14 = .ok (.iload_n 3, 1) := by decide +kernel
theorem dX2_governedBy_15 : decode cX2_governedBy 15 = .ok (.invokevirtual 109, 3) := by decide +kernel
theorem dX2_governedBy_18 : decode cX2_governedBy 18 = .ok (.ifCond .eq 9, 3) := by decide +kernel
theorem dX2_governedBy_21 : decode cX2_governedBy 21 = .ok (.iload_n 2, 1) := by decide +kernel
theorem dX2_governedBy_22 : decode cX2_governedBy 22 = .ok (.iconst 1, 1) := by decide +kernel
theorem dX2_governedBy_23 : decode cX2_governedBy 23 = .ok (.iload_n 3, 1) := by decide +kernel
theorem dX2_governedBy_24 : decode cX2_governedBy 24 = .ok (.ishl, 1) := by decide +kernel
theorem dX2_governedBy_25 : decode cX2_governedBy 25 = .ok (.ior, 1) := by decide +kernel
theorem dX2_governedBy_26 : decode cX2_governedBy 26 = .ok (.istore_n 2, 1) := by decide +kernel
theorem dX2_governedBy_27 : decode cX2_governedBy 27 = .ok (.iinc 3 1, 3) := by decide +kernel
theorem dX2_governedBy_30 : decode cX2_governedBy 30 = .ok (.goto (-26), 3) := by decide +kernel
theorem dX2_governedBy_33 : decode cX2_governedBy 33 = .ok (.iload_n 2, 1) := by decide +kernel
theorem dX2_governedBy_34 : decode cX2_governedBy 34 = .ok (.ireturn, 1) := by decide +kernel
theorem dX2_governorAt_0 : decode cX2_governorAt 0 = .ok (.iconst 0, 1) := by decide +kernel
theorem dX2_governorAt_1 : decode cX2_governorAt 1 = .ok (.istore_n 3, 1) := by decide +kernel
theorem dX2_governorAt_2 : decode cX2_governorAt 2 = .ok (.iconst 0, 1) := by decide +kernel
theorem dX2_governorAt_3 : decode cX2_governorAt 3 = .ok (.istore 4, 2) := by decide +kernel
theorem dX2_governorAt_5 : decode cX2_governorAt 5 = .ok (.iload 4, 2) := by decide +kernel
theorem dX2_governorAt_7 : decode cX2_governorAt 7 = .ok (.aload_n 0, 1) := by decide +kernel
theorem dX2_governorAt_8 : decode cX2_governorAt 8 = .ok (.getfield 33, 3) := by decide +kernel
theorem dX2_governorAt_11 : decode cX2_governorAt 11 = .ok (.if_icmp .ge 30, 3) := by decide +kernel
theorem dX2_governorAt_14 : decode cX2_governorAt 14 = .ok (.aload_n 0, 1) := by decide +kernel
theorem dX2_governorAt_15 : decode cX2_governorAt 15 = .ok (.iload 4, 2) := by decide +kernel
theorem dX2_governorAt_17 : decode cX2_governorAt 17 = .ok (.iload_n 1, 1) := by decide +kernel
theorem dX2_governorAt_18 : decode cX2_governorAt 18 = .ok (.invokevirtual 109, 3) := by decide +kernel
theorem dX2_governorAt_21 : decode cX2_governorAt 21 = .ok (.ifCond .eq 14, 3) := by decide +kernel
theorem dX2_governorAt_24 : decode cX2_governorAt 24 = .ok (.iload_n 3, 1) := by decide +kernel
theorem dX2_governorAt_25 : decode cX2_governorAt 25 = .ok (.iload_n 2, 1) := by decide +kernel
theorem dX2_governorAt_26 : decode cX2_governorAt 26 = .ok (.if_icmp .ne 6, 3) := by decide +kernel
theorem dX2_governorAt_29 : decode cX2_governorAt 29 = .ok (.iload 4, 2) := by decide +kernel
theorem dX2_governorAt_31 : decode cX2_governorAt 31 = .ok (.ireturn, 1) := by decide +kernel
theorem dX2_governorAt_32 : decode cX2_governorAt 32 = .ok (.iinc 3 1, 3) := by decide +kernel
theorem dX2_governorAt_35 : decode cX2_governorAt 35 = .ok (.iinc 4 1, 3) := by decide +kernel
theorem dX2_governorAt_38 : decode cX2_governorAt 38 = .ok (.goto (-33), 3) := by decide +kernel
theorem dX2_governorAt_41 : decode cX2_governorAt 41 = .ok (.iconst (-1), 1) := by decide +kernel
theorem dX2_governorAt_42 : decode cX2_governorAt 42 = .ok (.ireturn, 1) := by decide +kernel
theorem dX2_areParentAndChild_0 : decode cX2_areParentAndChild 0 = .ok (.aload_n 0, 1) := by decide +kernel
theorem dX2_areParentAndChild_1 : decode cX2_areParentAndChild 1 = .ok (.iload_n 1, 1) := by decide +kernel
theorem dX2_areParentAndChild_2 : decode cX2_areParentAndChild 2 = .ok (.invokevirtual 55, 3) := by decide +kernel
theorem dX2_areParentAndChild_5 : decode cX2_areParentAndChild 5 = .ok (.getfield 78, 3) := by decide +kernel
theorem dX2_areParentAndChild_8 : decode cX2_areParentAndChild 8 = .ok (.iload_n 2, 1) := by decide +kernel
theorem dX2_areParentAndChild_9 : decode cX2_areParentAndChild 9 = .ok (.if_icmp .eq 15, 3) := by decide +kernel
theorem dX2_areParentAndChild_12 : decode cX2_areParentAndChild 12 = .ok (.aload_n 0, 1) := by decide +kernel
theorem dX2_areParentAndChild_13 : decode cX2_areParentAndChild 13 = .ok (.iload_n 2, 1) := by decide +kernel
theorem dX2_areParentAndChild_14 : decode cX2_areParentAndChild 14 = .ok (.invokevirtual 55, 3) := by decide +kernel
theorem dX2_areParentAndChild_17 : decode cX2_areParentAndChild 17 = .ok (.getfield 78, 3) := by decide +kernel
theorem dX2_areParentAndChild_20 : decode cX2_areParentAndChild 20 = .ok (.iload_n 1, 1) := by decide +kernel
theorem dX2_areParentAndChild_21 : decode cX2_areParentAndChild 21 = .ok (.if_icmp .ne 7, 3) := by decide +kernel
theorem dX2_areParentAndChild_24 : decode cX2_areParentAndChild 24 = .ok (.iconst 1, 1) := by decide +kernel
theorem dX2_areParentAndChild_25 : decode cX2_areParentAndChild 25 = .ok (.goto 4, 3) := by decide +kernel
theorem dX2_areParentAndChild_28 : decode cX2_areParentAndChild 28 = .ok (.iconst 0, 1) := by decide +kernel
theorem dX2_areParentAndChild_29 : decode cX2_areParentAndChild 29 = .ok (.ireturn, 1) := by decide +kernel
theorem dX2_mayWed_0 : decode cX2_mayWed 0 = .ok (.aload_n 0, 1) := by decide +kernel
theorem dX2_mayWed_1 : decode cX2_mayWed 1 = .ok (.iload_n 1, 1) := by decide +kernel
theorem dX2_mayWed_2 : decode cX2_mayWed 2 = .ok (.invokevirtual 55, 3) := by decide +kernel
theorem dX2_mayWed_5 : decode cX2_mayWed 5 = .ok (.getfield 72, 3) := by decide +kernel
theorem dX2_mayWed_8 : decode cX2_mayWed 8 = .ok (.aload_n 0, 1) := by decide +kernel
theorem dX2_mayWed_9 : decode cX2_mayWed 9 = .ok (.iload_n 2, 1) := by decide +kernel
theorem dX2_mayWed_10 : decode cX2_mayWed 10 = .ok (.invokevirtual 55, 3) := by decide +kernel
theorem dX2_mayWed_13 : decode cX2_mayWed 13 = .ok (.getfield 72, 3) := by decide +kernel
theorem dX2_mayWed_16 : decode cX2_mayWed 16 = .ok (.if_icmp .eq 40, 3) := by decide +kernel
theorem dX2_mayWed_19 : decode cX2_mayWed 19 = .ok (.aload_n 0, 1) := by decide +kernel
theorem dX2_mayWed_20 : decode cX2_mayWed 20 = .ok (.iload_n 1, 1) := by decide +kernel
theorem dX2_mayWed_21 : decode cX2_mayWed 21 = .ok (.invokevirtual 55, 3) := by decide +kernel
theorem dX2_mayWed_24 : decode cX2_mayWed 24 = .ok (.getfield 113, 3) := by decide +kernel
theorem dX2_mayWed_27 : decode cX2_mayWed 27 = .ok (.iconst (-1), 1) := by decide +kernel
theorem dX2_mayWed_28 : decode cX2_mayWed 28 = .ok (.if_icmp .ne 28, 3) := by decide +kernel
theorem dX2_mayWed_31 : decode cX2_mayWed 31 = .ok (.aload_n 0, 1) := by decide +kernel
theorem dX2_mayWed_32 : decode cX2_mayWed 32 = .ok (.iload_n 2, 1) := by decide +kernel
theorem dX2_mayWed_33 : decode cX2_mayWed 33 = .ok (.invokevirtual 55, 3) := by decide +kernel
theorem dX2_mayWed_36 : decode cX2_mayWed 36 = .ok (.getfield 113, 3) := by decide +kernel
theorem dX2_mayWed_39 : decode cX2_mayWed 39 = .ok (.iconst (-1), 1) := by decide +kernel
theorem dX2_mayWed_40 : decode cX2_mayWed 40 = .ok (.if_icmp .ne 16, 3) := by decide +kernel
theorem dX2_mayWed_43 : decode cX2_mayWed 43 = .ok (.aload_n 0, 1) := by decide +kernel
theorem dX2_mayWed_44 : decode cX2_mayWed 44 = .ok (.iload_n 1, 1) := by decide +kernel
theorem dX2_mayWed_45 : decode cX2_mayWed 45 = .ok (.iload_n 2, 1) := by decide +kernel
theorem dX2_mayWed_46 : decode cX2_mayWed 46 = .ok (.invokevirtual 116, 3) := by decide +kernel
theorem dX2_mayWed_49 : decode cX2_mayWed 49 = .ok (.ifCond .ne 7, 3) := by decide +kernel
theorem dX2_mayWed_52 : decode cX2_mayWed 52 = .ok (.iconst 1, 1) := by decide +kernel
theorem dX2_mayWed_53 : decode cX2_mayWed 53 = .ok (.goto 4, 3) := by decide +kernel
theorem dX2_mayWed_56 : decode cX2_mayWed 56 = .ok (.iconst 0, 1) := by decide +kernel
theorem dX2_mayWed_57 : decode cX2_mayWed 57 = .ok (.ireturn, 1) := by decide +kernel
theorem dX2_join_0 : decode cX2_join 0 = .ok (.aload_n 0, 1) := by decide +kernel
theorem dX2_join_1 : decode cX2_join 1 = .ok (.iload_n 1, 1) := by decide +kernel
theorem dX2_join_2 : decode cX2_join 2 = .ok (.invokevirtual 55, 3) := by decide +kernel
theorem dX2_join_5 : decode cX2_join 5 = .ok (.iload_n 2, 1) := by decide +kernel
theorem dX2_join_6 : decode cX2_join 6 = .ok (.putfield 113, 3) := by decide +kernel
theorem dX2_join_9 : decode cX2_join 9 = .ok (.aload_n 0, 1) := by decide +kernel
theorem dX2_join_10 : decode cX2_join 10 = .ok (.iload_n 2, 1) := by decide +kernel
theorem dX2_join_11 : decode cX2_join 11 = .ok (.invokevirtual 55, 3) := by decide +kernel
theorem dX2_join_14 : decode cX2_join 14 = .ok (.iload_n 1, 1) := by decide +kernel
theorem dX2_join_15 : decode cX2_join 15 = .ok (.putfield 113, 3) := by decide +kernel
theorem dX2_join_18 : decode cX2_join 18 = .ok (.return_, 1) := by decide +kernel
theorem dX2_lentBy_0 : decode cX2_lentBy 0 = .ok (.aload_n 0, 1) := by decide +kernel
theorem dX2_lentBy_1 : decode cX2_lentBy 1 = .ok (.iload_n 1, 1) := by decide +kernel
theorem dX2_lentBy_2 : decode cX2_lentBy 2 = .ok (.invokevirtual 102, 3) := by decide +kernel
theorem dX2_lentBy_5 : decode cX2_lentBy 5 = .ok (.ifCond .eq 25, 3) := by decide +kernel
theorem dX2_lentBy_8 : decode cX2_lentBy 8 = .ok (.aload_n 0, 1) := by decide +kernel
theorem dX2_lentBy_9 : decode cX2_lentBy 9 = .ok (.iload_n 2, 1) := by decide +kernel
theorem dX2_lentBy_10 : decode cX2_lentBy 10 = .ok (.invokevirtual 102, 3) := by decide +kernel
theorem dX2_lentBy_13 : decode cX2_lentBy 13 = .ok (.ifCond .eq 17, 3) := by decide +kernel
theorem dX2_lentBy_16 : decode cX2_lentBy 16 = .ok (.aload_n 0, 1) := by decide +kernel
theorem dX2_lentBy_17 : decode cX2_lentBy 17 = .ok (.getfield 22, 3) := by decide +kernel
theorem dX2_lentBy_20 : decode cX2_lentBy 20 = .ok (.iload_n 1, 1) := by decide +kernel
theorem dX2_lentBy_21 : decode cX2_lentBy 21 = .ok (.bipush 8, 2) := by decide +kernel
theorem dX2_lentBy_23 : decode cX2_lentBy 23 = .ok (.imul, 1) := by decide +kernel
theorem dX2_lentBy_24 : decode cX2_lentBy 24 = .ok (.iload_n 2, 1) := by decide +kernel
theorem dX2_lentBy_25 : decode cX2_lentBy 25 = .ok (.iadd, 1) := by decide +kernel
theorem dX2_lentBy_26 : decode cX2_lentBy 26 = .ok (.iaload, 1) := by decide +kernel
theorem dX2_lentBy_27 : decode cX2_lentBy 27 = .ok (.goto 4, 3) := by decide +kernel
theorem dX2_lentBy_30 : decode cX2_lentBy 30 = .ok (.iconst 0, 1) := by decide +kernel
theorem dX2_lentBy_31 : decode cX2_lentBy 31 = .ok (.ireturn, 1) := by decide +kernel
theorem dX2_lendOne_0 : decode cX2_lendOne 0 = .ok (.aload_n 0, 1) := by decide +kernel
theorem dX2_lendOne_1 : decode cX2_lendOne 1 = .ok (.iload_n 1, 1) := by decide +kernel
theorem dX2_lendOne_2 : decode cX2_lendOne 2 = .ok (.invokevirtual 102, 3) := by decide +kernel
theorem dX2_lendOne_5 : decode cX2_lendOne 5 = .ok (.ifCond .eq 54, 3) := by decide +kernel
theorem dX2_lendOne_8 : decode cX2_lendOne 8 = .ok (.aload_n 0, 1) := by decide +kernel
theorem dX2_lendOne_9 : decode cX2_lendOne 9 = .ok (.iload_n 2, 1) := by decide +kernel
theorem dX2_lendOne_10 : decode cX2_lendOne 10 = .ok (.invokevirtual 102, 3) := by decide +kernel
theorem dX2_lendOne_13 : decode cX2_lendOne 13 = .ok (.ifCond .eq 46, 3) := by decide +kernel
theorem dX2_lendOne_16 : decode cX2_lendOne 16 = .ok (.aload_n 0, 1) := by decide +kernel
theorem dX2_lendOne_17 : decode cX2_lendOne 17 = .ok (.getfield 22, 3) := by decide +kernel
theorem dX2_lendOne_20 : decode cX2_lendOne 20 = .ok (.iload_n 1, 1) := by decide +kernel
theorem dX2_lendOne_21 : decode cX2_lendOne 21 = .ok (.bipush 8, 2) := by decide +kernel
theorem dX2_lendOne_23 : decode cX2_lendOne 23 = .ok (.imul, 1) := by decide +kernel
theorem dX2_lendOne_24 : decode cX2_lendOne 24 = .ok (.iload_n 2, 1) := by decide +kernel
theorem dX2_lendOne_25 : decode cX2_lendOne 25 = .ok (.iadd, 1) := by decide +kernel
theorem dX2_lendOne_26 : decode cX2_lendOne 26 = .ok (.dup2, 1) := by decide +kernel
theorem dX2_lendOne_27 : decode cX2_lendOne 27 = .ok (.iaload, 1) := by decide +kernel
theorem dX2_lendOne_28 : decode cX2_lendOne 28 = .ok (.iconst 1, 1) := by decide +kernel
theorem dX2_lendOne_29 : decode cX2_lendOne 29 = .ok (.iadd, 1) := by decide +kernel
theorem dX2_lendOne_30 : decode cX2_lendOne 30 = .ok (.iastore, 1) := by decide +kernel
theorem dX2_lendOne_31 : decode cX2_lendOne 31 = .ok (.aload_n 0, 1) := by decide +kernel
theorem dX2_lendOne_32 : decode cX2_lendOne 32 = .ok (.iload_n 1, 1) := by decide +kernel
theorem dX2_lendOne_33 : decode cX2_lendOne 33 = .ok (.invokevirtual 55, 3) := by decide +kernel
theorem dX2_lendOne_36 : decode cX2_lendOne 36 = .ok (.dup, 1) := by decide +kernel
theorem dX2_lendOne_37 : decode cX2_lendOne 37 = .ok (.getfield 119, 3) := by decide +kernel
theorem dX2_lendOne_40 : decode cX2_lendOne 40 = .ok (.iconst 1, 1) := by decide +kernel
theorem dX2_lendOne_41 : decode cX2_lendOne 41 = .ok (.isub, 1) := by decide +kernel
theorem dX2_lendOne_42 : decode cX2_lendOne 42 = .ok (.putfield 119, 3) := by decide +kernel
theorem dX2_lendOne_45 : decode cX2_lendOne 45 = .ok (.aload_n 0, 1) := by decide +kernel
theorem dX2_lendOne_46 : decode cX2_lendOne 46 = .ok (.iload_n 2, 1) := by decide +kernel
theorem dX2_lendOne_47 : decode cX2_lendOne 47 = .ok (.invokevirtual 55, 3) := by decide +kernel
theorem dX2_lendOne_50 : decode cX2_lendOne 50 = .ok (.dup, 1) := by decide +kernel
theorem dX2_lendOne_51 : decode cX2_lendOne 51 = .ok (.getfield 119, 3) := by decide +kernel
theorem dX2_lendOne_54 : decode cX2_lendOne 54 = .ok (.iconst 1, 1) := by decide +kernel
theorem dX2_lendOne_55 : decode cX2_lendOne 55 = .ok (.iadd, 1) := by decide +kernel
theorem dX2_lendOne_56 : decode cX2_lendOne 56 = .ok (.putfield 119, 3) := by decide +kernel
theorem dX2_lendOne_59 : decode cX2_lendOne 59 = .ok (.return_, 1) := by decide +kernel
theorem dX2_agesTogether_0 : decode cX2_agesTogether 0 = .ok (.iconst 0, 1) := by decide +kernel
theorem dX2_agesTogether_1 : decode cX2_agesTogether 1 = .ok (.istore_n 1, 1) := by decide +kernel
theorem dX2_agesTogether_2 : decode cX2_agesTogether 2 = .ok (.iconst 0, 1) := by decide +kernel
theorem dX2_agesTogether_3 : decode cX2_agesTogether 3 = .ok (.istore_n 2, 1) := by decide +kernel
theorem dX2_agesTogether_4 : decode cX2_agesTogether 4 = .ok (.iload_n 2, 1) := by decide +kernel
theorem dX2_agesTogether_5 : decode cX2_agesTogether 5 = .ok (.aload_n 0, 1) := by decide +kernel
theorem dX2_agesTogether_6 : decode cX2_agesTogether 6 = .ok (.getfield 33, 3) := by decide +kernel
theorem dX2_agesTogether_9 : decode cX2_agesTogether 9 = .ok (.if_icmp .ge 20, 3) := by decide +kernel
theorem dX2_agesTogether_12 : decode cX2_agesTogether 12 = .ok (.iload_n 1, 1) := by decide +kernel
theorem dX2_agesTogether_13 : decode cX2_agesTogether 13 = .ok (.aload_n 0, 1) := by decide +kernel
theorem dX2_agesTogether_14 : decode cX2_agesTogether 14 = .ok (.iload_n 2, 1) := by decide +kernel
theorem dX2_agesTogether_15 : decode cX2_agesTogether 15 = .ok (.invokevirtual 55, 3) := by decide +kernel
theorem dX2_agesTogether_18 : decode cX2_agesTogether 18 = .ok (.getfield 75, 3) := by decide +kernel
theorem dX2_agesTogether_21 : decode cX2_agesTogether 21 = .ok (.iadd, 1) := by decide +kernel
theorem dX2_agesTogether_22 : decode cX2_agesTogether 22 = .ok (.istore_n 1, 1) := by decide +kernel
theorem dX2_agesTogether_23 : decode cX2_agesTogether 23 = .ok (.iinc 2 1, 3) := by decide +kernel
theorem dX2_agesTogether_26 : decode cX2_agesTogether 26 = .ok (.goto (-22), 3) := by decide +kernel
theorem dX2_agesTogether_29 : decode cX2_agesTogether 29 = .ok (.iload_n 1, 1) := by decide +kernel
theorem dX2_agesTogether_30 : decode cX2_agesTogether 30 = .ok (.ireturn, 1) := by decide +kernel
theorem dX2_turnsTogether_0 : decode cX2_turnsTogether 0 = .ok (.iconst 0, 1) := by decide +kernel
theorem dX2_turnsTogether_1 : decode cX2_turnsTogether 1 = .ok (.istore_n 1, 1) := by decide +kernel
theorem dX2_turnsTogether_2 : decode cX2_turnsTogether 2 = .ok (.iconst 0, 1) := by decide +kernel
theorem dX2_turnsTogether_3 : decode cX2_turnsTogether 3 = .ok (.istore_n 2, 1) := by decide +kernel
theorem dX2_turnsTogether_4 : decode cX2_turnsTogether 4 = .ok (.iload_n 2, 1) := by decide +kernel
theorem dX2_turnsTogether_5 : decode cX2_turnsTogether 5 = .ok (.aload_n 0, 1) := by decide +kernel
theorem dX2_turnsTogether_6 : decode cX2_turnsTogether 6 = .ok (.getfield 33, 3) := by decide +kernel
theorem dX2_turnsTogether_9 : decode cX2_turnsTogether 9 = .ok (.if_icmp .ge 20, 3) := by decide +kernel
theorem dX2_turnsTogether_12 : decode cX2_turnsTogether 12 = .ok (.iload_n 1, 1) := by decide +kernel
theorem dX2_turnsTogether_13 : decode cX2_turnsTogether 13 = .ok (.aload_n 0, 1) := by decide +kernel
theorem dX2_turnsTogether_14 : decode cX2_turnsTogether 14 = .ok (.iload_n 2, 1) := by decide +kernel
theorem dX2_turnsTogether_15 : decode cX2_turnsTogether 15 = .ok (.invokevirtual 55, 3) := by decide +kernel
theorem dX2_turnsTogether_18 : decode cX2_turnsTogether 18 = .ok (.getfield 87, 3) := by decide +kernel
theorem dX2_turnsTogether_21 : decode cX2_turnsTogether 21 = .ok (.iadd, 1) := by decide +kernel
theorem dX2_turnsTogether_22 : decode cX2_turnsTogether 22 = .ok (.istore_n 1, 1) := by decide +kernel
theorem dX2_turnsTogether_23 : decode cX2_turnsTogether 23 = .ok (.iinc 2 1, 3) := by decide +kernel
theorem dX2_turnsTogether_26 : decode cX2_turnsTogether 26 = .ok (.goto (-22), 3) := by decide +kernel
theorem dX2_turnsTogether_29 : decode cX2_turnsTogether 29 = .ok (.iload_n 1, 1) := by decide +kernel
theorem dX2_turnsTogether_30 : decode cX2_turnsTogether 30 = .ok (.ireturn, 1) := by decide +kernel
theorem dX2_inCrib_0 : decode cX2_inCrib 0 = .ok (.iconst 0, 1) := by decide +kernel
theorem dX2_inCrib_1 : decode cX2_inCrib 1 = .ok (.istore_n 1, 1) := by decide +kernel
theorem dX2_inCrib_2 : decode cX2_inCrib 2 = .ok (.iconst 0, 1) := by decide +kernel
theorem dX2_inCrib_3 : decode cX2_inCrib 3 = .ok (.istore_n 2, 1) := by decide +kernel
theorem dX2_inCrib_4 : decode cX2_inCrib 4 = .ok (.iload_n 2, 1) := by decide +kernel
theorem dX2_inCrib_5 : decode cX2_inCrib 5 = .ok (.aload_n 0, 1) := by decide +kernel
theorem dX2_inCrib_6 : decode cX2_inCrib 6 = .ok (.getfield 33, 3) := by decide +kernel
theorem dX2_inCrib_9 : decode cX2_inCrib 9 = .ok (.if_icmp .ge 30, 3) := by decide +kernel
theorem dX2_inCrib_12 : decode cX2_inCrib 12 = .ok (.aload_n 0, 1) := by decide +kernel
theorem dX2_inCrib_13 : decode cX2_inCrib 13 = .ok (.iload_n 2, 1) := by decide +kernel
theorem dX2_inCrib_14 : decode cX2_inCrib 14 = .ok (.invokevirtual 55, 3) := by decide +kernel
theorem dX2_inCrib_17 : decode cX2_inCrib 17 = .ok (.getfield 75, 3) := by decide +kernel
theorem dX2_inCrib_20 : decode cX2_inCrib 20 = .ok (.aload_n 0, 1) := by decide +kernel
theorem dX2_inCrib_21 : decode cX2_inCrib 21 = .ok (.getfield 40, 3) := by decide +kernel
theorem dX2_inCrib_24 : decode cX2_inCrib 24 = .ok (.if_icmp .ge 9, 3) := by decide +kernel
theorem dX2_inCrib_27 : decode cX2_inCrib 27 = .ok (.iload_n 1, 1) := by decide +kernel
theorem dX2_inCrib_28 : decode cX2_inCrib 28 = .ok (.iconst 1, 1) := by decide +kernel
theorem dX2_inCrib_29 : decode cX2_inCrib 29 = .ok (.iload_n 2, 1) := by decide +kernel
theorem dX2_inCrib_30 : decode cX2_inCrib 30 = .ok (.ishl, 1) := by decide +kernel
theorem dX2_inCrib_31 : decode cX2_inCrib 31 = .ok (.ior, 1) := by decide +kernel
theorem dX2_inCrib_32 : decode cX2_inCrib 32 = .ok (.istore_n 1, 1) := by decide +kernel
theorem dX2_inCrib_33 : decode cX2_inCrib 33 = .ok (.iinc 2 1, 3) := by decide +kernel
theorem dX2_inCrib_36 : decode cX2_inCrib 36 = .ok (.goto (-32), 3) := by decide +kernel
theorem dX2_inCrib_39 : decode cX2_inCrib 39 = .ok (.iload_n 1, 1) := by decide +kernel
theorem dX2_inCrib_40 : decode cX2_inCrib 40 = .ok (.ireturn, 1) := by decide +kernel
theorem dX2_boys_0 : decode cX2_boys 0 = .ok (.iconst 0, 1) := by decide +kernel
theorem dX2_boys_1 : decode cX2_boys 1 = .ok (.istore_n 1, 1) := by decide +kernel
theorem dX2_boys_2 : decode cX2_boys 2 = .ok (.iconst 0, 1) := by decide +kernel
theorem dX2_boys_3 : decode cX2_boys 3 = .ok (.istore_n 2, 1) := by decide +kernel
theorem dX2_boys_4 : decode cX2_boys 4 = .ok (.iload_n 2, 1) := by decide +kernel
theorem dX2_boys_5 : decode cX2_boys 5 = .ok (.aload_n 0, 1) := by decide +kernel
theorem dX2_boys_6 : decode cX2_boys 6 = .ok (.getfield 33, 3) := by decide +kernel
theorem dX2_boys_9 : decode cX2_boys 9 = .ok (.if_icmp .ge 26, 3) := by decide +kernel
theorem dX2_boys_12 : decode cX2_boys 12 = .ok (.aload_n 0, 1) := by decide +kernel
theorem dX2_boys_13 : decode cX2_boys 13 = .ok (.iload_n 2, 1) := by decide +kernel
theorem dX2_boys_14 : decode cX2_boys 14 = .ok (.invokevirtual 55, 3) := by decide +kernel
theorem dX2_boys_17 : decode cX2_boys 17 = .ok (.getfield 72, 3) := by decide +kernel
theorem dX2_boys_20 : decode cX2_boys 20 = .ok (.ifCond .ne 9, 3) := by decide +kernel
theorem dX2_boys_23 : decode cX2_boys 23 = .ok (.iload_n 1, 1) := by decide +kernel
theorem dX2_boys_24 : decode cX2_boys 24 = .ok (.iconst 1, 1) := by decide +kernel
theorem dX2_boys_25 : decode cX2_boys 25 = .ok (.iload_n 2, 1) := by decide +kernel
theorem dX2_boys_26 : decode cX2_boys 26 = .ok (.ishl, 1) := by decide +kernel
theorem dX2_boys_27 : decode cX2_boys 27 = .ok (.ior, 1) := by decide +kernel
theorem dX2_boys_28 : decode cX2_boys 28 = .ok (.istore_n 1, 1) := by decide +kernel
theorem dX2_boys_29 : decode cX2_boys 29 = .ok (.iinc 2 1, 3) := by decide +kernel
theorem dX2_boys_32 : decode cX2_boys 32 = .ok (.goto (-28), 3) := by decide +kernel
theorem dX2_boys_35 : decode cX2_boys 35 = .ok (.iload_n 1, 1) := by decide +kernel
theorem dX2_boys_36 : decode cX2_boys 36 = .ok (.ireturn, 1) := by decide +kernel
theorem dX2_wedded_0 : decode cX2_wedded 0 = .ok (.iconst 0, 1) := by decide +kernel
theorem dX2_wedded_1 : decode cX2_wedded 1 = .ok (.istore_n 1, 1) := by decide +kernel
theorem dX2_wedded_2 : decode cX2_wedded 2 = .ok (.iconst 0, 1) := by decide +kernel
theorem dX2_wedded_3 : decode cX2_wedded 3 = .ok (.istore_n 2, 1) := by decide +kernel
theorem dX2_wedded_4 : decode cX2_wedded 4 = .ok (.iload_n 2, 1) := by decide +kernel
theorem dX2_wedded_5 : decode cX2_wedded 5 = .ok (.aload_n 0, 1) := by decide +kernel
theorem dX2_wedded_6 : decode cX2_wedded 6 = .ok (.getfield 33, 3) := by decide +kernel
theorem dX2_wedded_9 : decode cX2_wedded 9 = .ok (.if_icmp .ge 27, 3) := by decide +kernel
theorem dX2_wedded_12 : decode cX2_wedded 12 = .ok (.aload_n 0, 1) := by decide +kernel
theorem dX2_wedded_13 : decode cX2_wedded 13 = .ok (.iload_n 2, 1) := by decide +kernel
theorem dX2_wedded_14 : decode cX2_wedded 14 = .ok (.invokevirtual 55, 3) := by decide +kernel
theorem dX2_wedded_17 : decode cX2_wedded 17 = .ok (.getfield 113, 3) := by decide +kernel
theorem dX2_wedded_20 : decode cX2_wedded 20 = .ok (.iconst (-1), 1) := by decide +kernel
theorem dX2_wedded_21 : decode cX2_wedded 21 = .ok (.if_icmp .eq 9, 3) := by decide +kernel
theorem dX2_wedded_24 : decode cX2_wedded 24 = .ok (.iload_n 1, 1) := by decide +kernel
theorem dX2_wedded_25 : decode cX2_wedded 25 = .ok (.iconst 1, 1) := by decide +kernel
theorem dX2_wedded_26 : decode cX2_wedded 26 = .ok (.iload_n 2, 1) := by decide +kernel
theorem dX2_wedded_27 : decode cX2_wedded 27 = .ok (.ishl, 1) := by decide +kernel
theorem dX2_wedded_28 : decode cX2_wedded 28 = .ok (.ior, 1) := by decide +kernel
theorem dX2_wedded_29 : decode cX2_wedded 29 = .ok (.istore_n 1, 1) := by decide +kernel
theorem dX2_wedded_30 : decode cX2_wedded 30 = .ok (.iinc 2 1, 3) := by decide +kernel
theorem dX2_wedded_33 : decode cX2_wedded 33 = .ok (.goto (-29), 3) := by decide +kernel
theorem dX2_wedded_36 : decode cX2_wedded 36 = .ok (.iload_n 1, 1) := by decide +kernel
theorem dX2_wedded_37 : decode cX2_wedded 37 = .ok (.ireturn, 1) := by decide +kernel
theorem dX3_init_0 : decode cX3_init 0 = .ok (.aload_n 0, 1) := by decide +kernel
theorem dX3_init_1 : decode cX3_init 1 = .ok (.bipush 14, 2) := by decide +kernel
theorem dX3_init_3 : decode cX3_init 3 = .ok (.invokespecial 3, 3) := by decide +kernel
theorem dX3_init_6 : decode cX3_init 6 = .ok (.aload_n 0, 1) := by decide +kernel
theorem dX3_init_7 : decode cX3_init 7 = .ok (.aload_n 1, 1) := by decide +kernel
theorem dX3_init_8 : decode cX3_init 8 = .ok (.putfield 9, 3) := by decide +kernel
theorem dX3_init_11 : decode cX3_init 11 = .ok (.return_, 1) := by decide +kernel
theorem dX3_readLine_0 : decode cX3_readLine 0 = .ok (.aload_n 0, 1) := by decide +kernel
theorem dX3_readLine_1 : decode cX3_readLine 1 = .ok (.invokevirtual 15, 3) := by decide +kernel
theorem dX3_readLine_4 : decode cX3_readLine 4 = .ok (.tableswitch 198 3 16 #[72, 198, 198, 198, 198, 198, 198, 198, 77, 82, 87, 92, 127, 162], 72) := by decide +kernel
theorem dX3_readLine_76 : decode cX3_readLine 76 = .ok (.aload_n 0, 1) := by decide +kernel
theorem dX3_readLine_77 : decode cX3_readLine 77 = .ok (.invokevirtual 19, 3) := by decide +kernel
theorem dX3_readLine_80 : decode cX3_readLine 80 = .ok (.ireturn, 1) := by decide +kernel
theorem dX3_readLine_81 : decode cX3_readLine 81 = .ok (.aload_n 0, 1) := by decide +kernel
theorem dX3_readLine_82 : decode cX3_readLine 82 = .ok (.invokevirtual 23, 3) := by decide +kernel
theorem dX3_readLine_85 : decode cX3_readLine 85 = .ok (.ireturn, 1) := by decide +kernel
theorem dX3_readLine_86 : decode cX3_readLine 86 = .ok (.aload_n 0, 1) := by decide +kernel
theorem dX3_readLine_87 : decode cX3_readLine 87 = .ok (.invokevirtual 26, 3) := by decide +kernel
theorem dX3_readLine_90 : decode cX3_readLine 90 = .ok (.ireturn, 1) := by decide +kernel
theorem dX3_readLine_91 : decode cX3_readLine 91 = .ok (.aload_n 0, 1) := by decide +kernel
theorem dX3_readLine_92 : decode cX3_readLine 92 = .ok (.invokevirtual 29, 3) := by decide +kernel
theorem dX3_readLine_95 : decode cX3_readLine 95 = .ok (.ireturn, 1) := by decide +kernel
theorem dX3_readLine_96 : decode cX3_readLine 96 = .ok (.aload_n 0, 1) := by decide +kernel
theorem dX3_readLine_97 : decode cX3_readLine 97 = .ok (.dup, 1) := by decide +kernel
theorem dX3_readLine_98 : decode cX3_readLine 98 = .ok (.getfield 32, 3) := by decide +kernel
theorem dX3_readLine_101 : decode cX3_readLine 101 = .ok (.iconst 1, 1) := by decide +kernel
theorem dX3_readLine_102 : decode cX3_readLine 102 = .ok (.iadd, 1) := by decide +kernel
theorem dX3_readLine_103 : decode cX3_readLine 103 = .ok (.putfield 32, 3) := by decide +kernel
theorem dX3_readLine_106 : decode cX3_readLine 106 = .ok (.aload_n 0, 1) := by decide +kernel
theorem dX3_readLine_107 : decode cX3_readLine 107 = .ok (.iconst 0, 1) := by decide +kernel
theorem dX3_readLine_108 : decode cX3_readLine 108 = .ok (.bipush 99, 2) := by decide +kernel
theorem dX3_readLine_110 : decode cX3_readLine 110 = .ok (.invokevirtual 36, 3) := by decide +kernel
theorem dX3_readLine_113 : decode cX3_readLine 113 = .ok (.ifCond .ne 5, 3) := by decide +kernel
theorem dX3_readLine_116 : decode cX3_readLine 116 = .ok (.iconst 0, 1) := by decide +kernel
theorem dX3_readLine_117 : decode cX3_readLine 117 = .ok (.ireturn, 1) := by decide +kernel
theorem dX3_readLine_118 : decode cX3_readLine 118 = .ok (.aload_n 0, 1) := by decide +kernel
theorem dX3_readLine_119 : decode cX3_readLine 119 = .ok (.getfield 9, 3) := by decide +kernel
theorem dX3_readLine_122 : decode cX3_readLine 122 = .ok (.aload_n 0, 1) := by decide +kernel
theorem dX3_readLine_123 : decode cX3_readLine 123 = .ok (.getfield 40, 3) := by decide +kernel
theorem dX3_readLine_126 : decode cX3_readLine 126 = .ok (.putfield 43, 3) := by decide +kernel
theorem dX3_readLine_129 : decode cX3_readLine 129 = .ok (.iconst 1, 1) := by decide +kernel
theorem dX3_readLine_130 : decode cX3_readLine 130 = .ok (.ireturn, 1) := by decide +kernel
theorem dX3_readLine_131 : decode cX3_readLine 131 = .ok (.aload_n 0, 1) := by decide +kernel
theorem dX3_readLine_132 : decode cX3_readLine 132 = .ok (.dup, 1) := by decide +kernel
theorem dX3_readLine_133 : decode cX3_readLine 133 = .ok (.getfield 32, 3) := by decide +kernel
theorem dX3_readLine_136 : decode cX3_readLine 136 = .ok (.iconst 1, 1) := by decide +kernel
theorem dX3_readLine_137 : decode cX3_readLine 137 = .ok (.iadd, 1) := by decide +kernel
theorem dX3_readLine_138 : decode cX3_readLine 138 = .ok (.putfield 32, 3) := by decide +kernel
theorem dX3_readLine_141 : decode cX3_readLine 141 = .ok (.aload_n 0, 1) := by decide +kernel
theorem dX3_readLine_142 : decode cX3_readLine 142 = .ok (.iconst 0, 1) := by decide +kernel
theorem dX3_readLine_143 : decode cX3_readLine 143 = .ok (.bipush 20, 2) := by decide +kernel
theorem dX3_readLine_145 : decode cX3_readLine 145 = .ok (.invokevirtual 36, 3) := by decide +kernel
theorem dX3_readLine_148 : decode cX3_readLine 148 = .ok (.ifCond .ne 5, 3) := by decide +kernel
theorem dX3_readLine_151 : decode cX3_readLine 151 = .ok (.iconst 0, 1) := by decide +kernel
theorem dX3_readLine_152 : decode cX3_readLine 152 = .ok (.ireturn, 1) := by decide +kernel
theorem dX3_readLine_153 : decode cX3_readLine 153 = .ok (.aload_n 0, 1) := by decide +kernel
theorem dX3_readLine_154 : decode cX3_readLine 154 = .ok (.getfield 9, 3) := by decide +kernel
theorem dX3_readLine_157 : decode cX3_readLine 157 = .ok (.aload_n 0, 1) := by decide +kernel
theorem dX3_readLine_158 : decode cX3_readLine 158 = .ok (.getfield 40, 3) := by decide +kernel
theorem dX3_readLine_161 : decode cX3_readLine 161 = .ok (.putfield 48, 3) := by decide +kernel
theorem dX3_readLine_164 : decode cX3_readLine 164 = .ok (.iconst 1, 1) := by decide +kernel
theorem dX3_readLine_165 : decode cX3_readLine 165 = .ok (.ireturn, 1) := by decide +kernel
theorem dX3_readLine_166 : decode cX3_readLine 166 = .ok (.aload_n 0, 1) := by decide +kernel
theorem dX3_readLine_167 : decode cX3_readLine 167 = .ok (.dup, 1) := by decide +kernel
theorem dX3_readLine_168 : decode cX3_readLine 168 = .ok (.getfield 32, 3) := by decide +kernel
theorem dX3_readLine_171 : decode cX3_readLine 171 = .ok (.iconst 1, 1) := by decide +kernel
theorem dX3_readLine_172 : decode cX3_readLine 172 = .ok (.iadd, 1) := by decide +kernel
theorem dX3_readLine_173 : decode cX3_readLine 173 = .ok (.putfield 32, 3) := by decide +kernel
theorem dX3_readLine_176 : decode cX3_readLine 176 = .ok (.aload_n 0, 1) := by decide +kernel
theorem dX3_readLine_177 : decode cX3_readLine 177 = .ok (.iconst 0, 1) := by decide +kernel
theorem dX3_readLine_178 : decode cX3_readLine 178 = .ok (.sipush 999, 3) := by decide +kernel
theorem dX3_readLine_181 : decode cX3_readLine 181 = .ok (.invokevirtual 36, 3) := by decide +kernel
theorem dX3_readLine_184 : decode cX3_readLine 184 = .ok (.ifCond .ne 5, 3) := by decide +kernel
theorem dX3_readLine_187 : decode cX3_readLine 187 = .ok (.iconst 0, 1) := by decide +kernel
theorem dX3_readLine_188 : decode cX3_readLine 188 = .ok (.ireturn, 1) := by decide +kernel
theorem dX3_readLine_189 : decode cX3_readLine 189 = .ok (.aload_n 0, 1) := by decide +kernel
theorem dX3_readLine_190 : decode cX3_readLine 190 = .ok (.getfield 9, 3) := by decide +kernel
theorem dX3_readLine_193 : decode cX3_readLine 193 = .ok (.aload_n 0, 1) := by decide +kernel
theorem dX3_readLine_194 : decode cX3_readLine 194 = .ok (.getfield 40, 3) := by decide +kernel
theorem dX3_readLine_197 : decode cX3_readLine 197 = .ok (.putfield 51, 3) := by decide +kernel
theorem dX3_readLine_200 : decode cX3_readLine 200 = .ok (.iconst 1, 1) := by decide +kernel
theorem dX3_readLine_201 : decode cX3_readLine 201 = .ok (.ireturn, 1) := by decide +kernel
theorem dX3_readLine_202 : decode cX3_readLine 202 = .ok (.iconst 0, 1) := by decide +kernel
theorem dX3_readLine_203 : decode cX3_readLine 203 = .ok (.ireturn, 1) := by decide +kernel
theorem dX3_readPerson_0 : decode cX3_readPerson 0 = .ok (.aload_n 0, 1) := by decide +kernel
theorem dX3_readPerson_1 : decode cX3_readPerson 1 = .ok (.getfield 9, 3) := by decide +kernel
theorem dX3_readPerson_4 : decode cX3_readPerson 4 = .ok (.getfield 54, 3) := by decide +kernel
theorem dX3_readPerson_7 : decode cX3_readPerson 7 = .ok (.bipush 8, 2) := by decide +kernel
theorem dX3_readPerson_9 : decode cX3_readPerson 9 = .ok (.if_icmp .lt 5, 3) := by decide +kernel
theorem dX3_readPerson_12 : decode cX3_readPerson 12 = .ok (.iconst 0, 1) := by decide +kernel
theorem dX3_readPerson_13 : decode cX3_readPerson 13 = .ok (.ireturn, 1) := by decide +kernel
theorem dX3_readPerson_14 : decode cX3_readPerson 14 = .ok (.aload_n 0, 1) := by decide +kernel
theorem dX3_readPerson_15 : decode cX3_readPerson 15 = .ok (.dup, 1) := by decide +kernel
theorem dX3_readPerson_16 : decode cX3_readPerson 16 = .ok (.getfield 32, 3) := by decide +kernel
theorem dX3_readPerson_19 : decode cX3_readPerson 19 = .ok (.iconst 1, 1) := by decide +kernel
theorem dX3_readPerson_20 : decode cX3_readPerson 20 = .ok (.iadd, 1) := by decide +kernel
theorem dX3_readPerson_21 : decode cX3_readPerson 21 = .ok (.putfield 32, 3) := by decide +kernel
theorem dX3_readPerson_24 : decode cX3_readPerson 24 = .ok (.aload_n 0, 1) := by decide +kernel
theorem dX3_readPerson_25 : decode cX3_readPerson 25 = .ok (.iconst 4, 1) := by decide +kernel
theorem dX3_readPerson_26 : decode cX3_readPerson 26 = .ok (.invokevirtual 57, 3) := by decide +kernel
theorem dX3_readPerson_29 : decode cX3_readPerson 29 = .ok (.istore_n 1, 1) := by decide +kernel
theorem dX3_readPerson_30 : decode cX3_readPerson 30 = .ok (.iload_n 1, 1) := by decide +kernel
theorem dX3_readPerson_31 : decode cX3_readPerson 31 = .ok (.ifCond .ne 11, 3) := by decide +kernel
theorem dX3_readPerson_34 : decode cX3_readPerson 34 = .ok (.aload_n 0, 1) := by decide +kernel
theorem dX3_readPerson_35 : decode cX3_readPerson 35 = .ok (.iconst 5, 1) := by decide +kernel
theorem dX3_readPerson_36 : decode cX3_readPerson 36 = .ok (.invokevirtual 57, 3) := by decide +kernel
theorem dX3_readPerson_39 : decode cX3_readPerson 39 = .ok (.ifCond .eq 29, 3) := by decide +kernel
theorem dX3_readPerson_42 : decode cX3_readPerson 42 = .ok (.aload_n 0, 1) := by decide +kernel
theorem dX3_readPerson_43 : decode cX3_readPerson 43 = .ok (.bipush 6, 2) := by decide +kernel
theorem dX3_readPerson_45 : decode cX3_readPerson 45 = .ok (.invokevirtual 57, 3) := by decide +kernel
theorem dX3_readPerson_48 : decode cX3_readPerson 48 = .ok (.ifCond .eq 20, 3) := by decide +kernel
theorem dX3_readPerson_51 : decode cX3_readPerson 51 = .ok (.aload_n 0, 1) := by decide +kernel
theorem dX3_readPerson_52 : decode cX3_readPerson 52 = .ok (.iconst 0, 1) := by decide +kernel
theorem dX3_readPerson_53 : decode cX3_readPerson 53 = .ok (.aload_n 0, 1) := by decide +kernel
theorem dX3_readPerson_54 : decode cX3_readPerson 54 = .ok (.getfield 9, 3) := by decide +kernel
theorem dX3_readPerson_57 : decode cX3_readPerson 57 = .ok (.getfield 61, 3) := by decide +kernel
theorem dX3_readPerson_60 : decode cX3_readPerson 60 = .ok (.iconst 1, 1) := by decide +kernel
theorem dX3_readPerson_61 : decode cX3_readPerson 61 = .ok (.isub, 1) := by decide +kernel
theorem dX3_readPerson_62 : decode cX3_readPerson 62 = .ok (.invokevirtual 36, 3) := by decide +kernel
theorem dX3_readPerson_65 : decode cX3_readPerson 65 = .ok (.ifCond .ne 5, 3) := by decide +kernel
theorem dX3_readPerson_68 : decode cX3_readPerson 68 = .ok (.iconst 0, 1) := by decide +kernel
theorem dX3_readPerson_69 : decode cX3_readPerson 69 = .ok (.ireturn, 1) := by decide +kernel
theorem dX3_readPerson_70 : decode cX3_readPerson 70 = .ok (.aload_n 0, 1) := by decide +kernel
theorem dX3_readPerson_71 : decode cX3_readPerson 71 = .ok (.getfield 40, 3) := by decide +kernel
theorem dX3_readPerson_74 : decode cX3_readPerson 74 = .ok (.istore_n 2, 1) := by decide +kernel
theorem dX3_readPerson_75 : decode cX3_readPerson 75 = .ok (.iconst (-1), 1) := by decide +kernel
theorem dX3_readPerson_76 : decode cX3_readPerson 76 = .ok (.istore_n 3, 1) := by decide +kernel
theorem dX3_readPerson_77 : decode cX3_readPerson 77 = .ok (.aload_n 0, 1) := by decide +kernel
theorem dX3_readPerson_78 : decode cX3_readPerson 78 = .ok (.bipush 7, 2) := by decide +kernel
theorem dX3_readPerson_80 : decode cX3_readPerson 80 = .ok (.invokevirtual 57, 3) := by decide +kernel
theorem dX3_readPerson_83 : decode cX3_readPerson 83 = .ok (.ifCond .eq 17, 3) := by decide +kernel
theorem dX3_readPerson_86 : decode cX3_readPerson 86 = .ok (.aload_n 0, 1) := by decide +kernel
theorem dX3_readPerson_87 : decode cX3_readPerson 87 = .ok (.invokevirtual 64, 3) := by decide +kernel
theorem dX3_readPerson_90 : decode cX3_readPerson 90 = .ok (.ifCond .ne 5, 3) := by decide +kernel
theorem dX3_readPerson_93 : decode cX3_readPerson 93 = .ok (.iconst 0, 1) := by decide +kernel
theorem dX3_readPerson_94 : decode cX3_readPerson 94 = .ok (.ireturn, 1) := by decide +kernel
theorem dX3_readPerson_95 : decode cX3_readPerson 95 = .ok (.aload_n 0, 1) := by decide +kernel
theorem dX3_readPerson_96 : decode cX3_readPerson 96 = .ok (.getfield 40, 3) := by decide +kernel
theorem dX3_readPerson_99 : decode cX3_readPerson 99 = .ok (.istore_n 3, 1) := by decide +kernel
theorem dX3_readPerson_100 : decode cX3_readPerson 100 = .ok (.aload_n 0, 1) := by decide +kernel
theorem dX3_readPerson_101 : decode cX3_readPerson 101 = .ok (.aload_n 0, 1) := by decide +kernel
theorem dX3_readPerson_102 : decode cX3_readPerson 102 = .ok (.getfield 9, 3) := by decide +kernel
theorem dX3_readPerson_105 : decode cX3_readPerson 105 = .ok (.aload_n 0, 1) := by decide +kernel
theorem dX3_readPerson_106 : decode cX3_readPerson 106 = .ok (.getfield 9, 3) := by decide +kernel
theorem dX3_readPerson_109 : decode cX3_readPerson 109 = .ok (.iload_n 1, 1) := by decide +kernel
theorem dX3_readPerson_110 : decode cX3_readPerson 110 = .ok (.ifCond .eq 7, 3) := by decide +kernel
theorem dX3_readPerson_113 : decode cX3_readPerson 113 = .ok (.iconst 0, 1) := by decide +kernel
theorem dX3_readPerson_114 : decode cX3_readPerson 114 = .ok (.goto 4, 3) := by decide +kernel
theorem dX3_readPerson_117 : decode cX3_readPerson 117 = .ok (.iconst 1, 1) := by decide +kernel
theorem dX3_readPerson_118 : decode cX3_readPerson 118 = .ok (.iload_n 2, 1) := by decide +kernel
theorem dX3_readPerson_119 : decode cX3_readPerson 119 = .ok (.iload_n 3, 1) := by decide +kernel
theorem dX3_readPerson_120 : decode cX3_readPerson 120 = .ok (.invokevirtual 69, 3) := by decide +kernel
theorem dX3_readPerson_123 : decode cX3_readPerson 123 = .ok (.invokevirtual 73, 3) := by decide +kernel
theorem dX3_readPerson_126 : decode cX3_readPerson 126 = .ok (.invokevirtual 76, 3) := by decide +kernel
theorem dX3_readPerson_129 : decode cX3_readPerson 129 = .ok (.ireturn, 1) := by decide +kernel
theorem dX3_readRest_0 : decode cX3_readRest 0 = .ok (.aload_n 0, 1) := by decide +kernel
theorem dX3_readRest_1 : decode cX3_readRest 1 = .ok (.bipush 8, 2) := by decide +kernel
theorem dX3_readRest_3 : decode cX3_readRest 3 = .ok (.invokevirtual 57, 3) := by decide +kernel
theorem dX3_readRest_6 : decode cX3_readRest 6 = .ok (.ifCond .eq 23, 3) := by decide +kernel
theorem dX3_readRest_9 : decode cX3_readRest 9 = .ok (.aload_n 0, 1) := by decide +kernel
theorem dX3_readRest_10 : decode cX3_readRest 10 = .ok (.iconst 0, 1) := by decide +kernel
theorem dX3_readRest_11 : decode cX3_readRest 11 = .ok (.bipush 100, 2) := by decide +kernel
theorem dX3_readRest_13 : decode cX3_readRest 13 = .ok (.invokevirtual 36, 3) := by decide +kernel
theorem dX3_readRest_16 : decode cX3_readRest 16 = .ok (.ifCond .ne 5, 3) := by decide +kernel
theorem dX3_readRest_19 : decode cX3_readRest 19 = .ok (.iconst 0, 1) := by decide +kernel
theorem dX3_readRest_20 : decode cX3_readRest 20 = .ok (.ireturn, 1) := by decide +kernel
theorem dX3_readRest_21 : decode cX3_readRest 21 = .ok (.aload_n 1, 1) := by decide +kernel
theorem dX3_readRest_22 : decode cX3_readRest 22 = .ok (.aload_n 0, 1) := by decide +kernel
theorem dX3_readRest_23 : decode cX3_readRest 23 = .ok (.getfield 40, 3) := by decide +kernel
theorem dX3_readRest_26 : decode cX3_readRest 26 = .ok (.putfield 80, 3) := by decide +kernel
theorem dX3_readRest_29 : decode cX3_readRest 29 = .ok (.aload_n 0, 1) := by decide +kernel
theorem dX3_readRest_30 : decode cX3_readRest 30 = .ok (.bipush 9, 2) := by decide +kernel
theorem dX3_readRest_32 : decode cX3_readRest 32 = .ok (.invokevirtual 57, 3) := by decide +kernel
theorem dX3_readRest_35 : decode cX3_readRest 35 = .ok (.ifCond .eq 23, 3) := by decide +kernel
theorem dX3_readRest_38 : decode cX3_readRest 38 = .ok (.aload_n 0, 1) := by decide +kernel
theorem dX3_readRest_39 : decode cX3_readRest 39 = .ok (.iconst 0, 1) := by decide +kernel
theorem dX3_readRest_40 : decode cX3_readRest 40 = .ok (.bipush 100, 2) := by decide +kernel
theorem dX3_readRest_42 : decode cX3_readRest 42 = .ok (.invokevirtual 36, 3) := by decide +kernel
theorem dX3_readRest_45 : decode cX3_readRest 45 = .ok (.ifCond .ne 5, 3) := by decide +kernel
theorem dX3_readRest_48 : decode cX3_readRest 48 = .ok (.iconst 0, 1) := by decide +kernel
theorem dX3_readRest_49 : decode cX3_readRest 49 = .ok (.ireturn, 1) := by decide +kernel
theorem dX3_readRest_50 : decode cX3_readRest 50 = .ok (.aload_n 1, 1) := by decide +kernel
theorem dX3_readRest_51 : decode cX3_readRest 51 = .ok (.aload_n 0, 1) := by decide +kernel
theorem dX3_readRest_52 : decode cX3_readRest 52 = .ok (.getfield 40, 3) := by decide +kernel
theorem dX3_readRest_55 : decode cX3_readRest 55 = .ok (.putfield 83, 3) := by decide +kernel
theorem dX3_readRest_58 : decode cX3_readRest 58 = .ok (.aload_n 0, 1) := by decide +kernel
theorem dX3_readRest_59 : decode cX3_readRest 59 = .ok (.bipush 10, 2) := by decide +kernel
theorem dX3_readRest_61 : decode cX3_readRest 61 = .ok (.invokevirtual 57, 3) := by decide +kernel
theorem dX3_readRest_64 : decode cX3_readRest 64 = .ok (.ifCond .eq 23, 3) := by decide +kernel
theorem dX3_readRest_67 : decode cX3_readRest 67 = .ok (.aload_n 0, 1) := by decide +kernel
theorem dX3_readRest_68 : decode cX3_readRest 68 = .ok (.iconst 0, 1) := by decide +kernel
theorem dX3_readRest_69 : decode cX3_readRest 69 = .ok (.bipush 9, 2) := by decide +kernel
theorem dX3_readRest_71 : decode cX3_readRest 71 = .ok (.invokevirtual 36, 3) := by decide +kernel
theorem dX3_readRest_74 : decode cX3_readRest 74 = .ok (.ifCond .ne 5, 3) := by decide +kernel
theorem dX3_readRest_77 : decode cX3_readRest 77 = .ok (.iconst 0, 1) := by decide +kernel
theorem dX3_readRest_78 : decode cX3_readRest 78 = .ok (.ireturn, 1) := by decide +kernel
theorem dX3_readRest_79 : decode cX3_readRest 79 = .ok (.aload_n 1, 1) := by decide +kernel
theorem dX3_readRest_80 : decode cX3_readRest 80 = .ok (.aload_n 0, 1) := by decide +kernel
theorem dX3_readRest_81 : decode cX3_readRest 81 = .ok (.getfield 40, 3) := by decide +kernel
theorem dX3_readRest_84 : decode cX3_readRest 84 = .ok (.putfield 86, 3) := by decide +kernel
theorem dX3_readRest_87 : decode cX3_readRest 87 = .ok (.iconst 1, 1) := by decide +kernel
theorem dX3_readRest_88 : decode cX3_readRest 88 = .ok (.ireturn, 1) := by decide +kernel
theorem dX3_tookPerson_0 : decode cX3_tookPerson 0 = .ok (.aload_n 0, 1) := by decide +kernel
theorem dX3_tookPerson_1 : decode cX3_tookPerson 1 = .ok (.iconst 0, 1) := by decide +kernel
theorem dX3_tookPerson_2 : decode cX3_tookPerson 2 = .ok (.aload_n 0, 1) := by decide +kernel
theorem dX3_tookPerson_3 : decode cX3_tookPerson 3 = .ok (.getfield 9, 3) := by decide +kernel
theorem dX3_tookPerson_6 : decode cX3_tookPerson 6 = .ok (.getfield 54, 3) := by decide +kernel
theorem dX3_tookPerson_9 : decode cX3_tookPerson 9 = .ok (.iconst 1, 1) := by decide +kernel
theorem dX3_tookPerson_10 : decode cX3_tookPerson 10 = .ok (.isub, 1) := by decide +kernel
theorem dX3_tookPerson_11 : decode cX3_tookPerson 11 = .ok (.invokevirtual 36, 3) := by decide +kernel
theorem dX3_tookPerson_14 : decode cX3_tookPerson 14 = .ok (.ireturn, 1) := by decide +kernel
theorem dX3_readGoverns_0 : decode cX3_readGoverns 0 = .ok (.aload_n 0, 1) := by decide +kernel
theorem dX3_readGoverns_1 : decode cX3_readGoverns 1 = .ok (.dup, 1) := by decide +kernel
theorem dX3_readGoverns_2 : decode cX3_readGoverns 2 = .ok (.getfield 32, 3) := by decide +kernel
theorem dX3_readGoverns_5 : decode cX3_readGoverns 5 = .ok (.iconst 1, 1) := by decide +kernel
theorem dX3_readGoverns_6 : decode cX3_readGoverns 6 = .ok (.iadd, 1) := by decide +kernel
theorem dX3_readGoverns_7 : decode cX3_readGoverns 7 = .ok (.putfield 32, 3) := by decide +kernel
theorem dX3_readGoverns_10 : decode cX3_readGoverns 10 = .ok (.aload_n 0, 1) := by decide +kernel
theorem dX3_readGoverns_11 : decode cX3_readGoverns 11 = .ok (.invokevirtual 64, 3) := by decide +kernel
theorem dX3_readGoverns_14 : decode cX3_readGoverns 14 = .ok (.ifCond .ne 5, 3) := by decide +kernel
theorem dX3_readGoverns_17 : decode cX3_readGoverns 17 = .ok (.iconst 0, 1) := by decide +kernel
theorem dX3_readGoverns_18 : decode cX3_readGoverns 18 = .ok (.ireturn, 1) := by decide +kernel
theorem dX3_readGoverns_19 : decode cX3_readGoverns 19 = .ok (.aload_n 0, 1) := by decide +kernel
theorem dX3_readGoverns_20 : decode cX3_readGoverns 20 = .ok (.getfield 40, 3) := by decide +kernel
theorem dX3_readGoverns_23 : decode cX3_readGoverns 23 = .ok (.istore_n 1, 1) := by decide +kernel
theorem dX3_readGoverns_24 : decode cX3_readGoverns 24 = .ok (.aload_n 0, 1) := by decide +kernel
theorem dX3_readGoverns_25 : decode cX3_readGoverns 25 = .ok (.invokevirtual 64, 3) := by decide +kernel
theorem dX3_readGoverns_28 : decode cX3_readGoverns 28 = .ok (.ifCond .ne 5, 3) := by decide +kernel
theorem dX3_readGoverns_31 : decode cX3_readGoverns 31 = .ok (.iconst 0, 1) := by decide +kernel
theorem dX3_readGoverns_32 : decode cX3_readGoverns 32 = .ok (.ireturn, 1) := by decide +kernel
theorem dX3_readGoverns_33 : decode cX3_readGoverns 33 = .ok (.aload_n 0, 1) := by decide +kernel
theorem dX3_readGoverns_34 : decode cX3_readGoverns 34 = .ok (.getfield 40, 3) := by decide +kernel
theorem dX3_readGoverns_37 : decode cX3_readGoverns 37 = .ok (.iload_n 1, 1) := by decide +kernel
theorem dX3_readGoverns_38 : decode cX3_readGoverns 38 = .ok (.if_icmp .ne 15, 3) := by decide +kernel
theorem dX3_readGoverns_41 : decode cX3_readGoverns 41 = .ok (.aload_n 0, 1) := by decide +kernel
theorem dX3_readGoverns_42 : decode cX3_readGoverns 42 = .ok (.dup, 1) := by decide +kernel
theorem dX3_readGoverns_43 : decode cX3_readGoverns 43 = .ok (.getfield 32, 3) := by decide +kernel
theorem dX3_readGoverns_46 : decode cX3_readGoverns 46 = .ok (.iconst 1, 1) := by decide +kernel
theorem dX3_readGoverns_47 : decode cX3_readGoverns 47 = .ok (.isub, 1) := by decide +kernel
theorem dX3_readGoverns_48 : decode cX3_readGoverns 48 = .ok (.putfield 32, 3) := by decide +kernel
theorem dX3_readGoverns_51 : decode cX3_readGoverns 51 = .ok (.iconst 0, 1) := by decide +kernel
theorem dX3_readGoverns_52 : decode cX3_readGoverns 52 = .ok (.ireturn, 1) := by decide +kernel
theorem dX3_readGoverns_53 : decode cX3_readGoverns 53 = .ok (.aload_n 0, 1) := by decide +kernel
theorem dX3_readGoverns_54 : decode cX3_readGoverns 54 = .ok (.getfield 9, 3) := by decide +kernel
theorem dX3_readGoverns_57 : decode cX3_readGoverns 57 = .ok (.iload_n 1, 1) := by decide +kernel
theorem dX3_readGoverns_58 : decode cX3_readGoverns 58 = .ok (.aload_n 0, 1) := by decide +kernel
theorem dX3_readGoverns_59 : decode cX3_readGoverns 59 = .ok (.getfield 40, 3) := by decide +kernel
theorem dX3_readGoverns_62 : decode cX3_readGoverns 62 = .ok (.iconst 1, 1) := by decide +kernel
theorem dX3_readGoverns_63 : decode cX3_readGoverns 63 = .ok (.invokevirtual 89, 3) := by decide +kernel
theorem dX3_readGoverns_66 : decode cX3_readGoverns 66 = .ok (.iconst 1, 1) := by decide +kernel
theorem dX3_readGoverns_67 : decode cX3_readGoverns 67 = .ok (.ireturn, 1) := by decide +kernel
theorem dX3_readWed_0 : decode cX3_readWed 0 = .ok (.aload_n 0, 1) := by decide +kernel
theorem dX3_readWed_1 : decode cX3_readWed 1 = .ok (.dup, 1) := by decide +kernel
theorem dX3_readWed_2 : decode cX3_readWed 2 = .ok (.getfield 32, 3) := by decide +kernel
theorem dX3_readWed_5 : decode cX3_readWed 5 = .ok (.iconst 1, 1) := by decide +kernel
theorem dX3_readWed_6 : decode cX3_readWed 6 = .ok (.iadd, 1) := by decide +kernel
theorem dX3_readWed_7 : decode cX3_readWed 7 = .ok (.putfield 32, 3) := by decide +kernel
theorem dX3_readWed_10 : decode cX3_readWed 10 = .ok (.aload_n 0, 1) := by decide +kernel
theorem dX3_readWed_11 : decode cX3_readWed 11 = .ok (.invokevirtual 64, 3) := by decide +kernel
theorem dX3_readWed_14 : decode cX3_readWed 14 = .ok (.ifCond .ne 5, 3) := by decide +kernel
theorem dX3_readWed_17 : decode cX3_readWed 17 = .ok (.iconst 0, 1) := by decide +kernel
theorem dX3_readWed_18 : decode cX3_readWed 18 = .ok (.ireturn, 1) := by decide +kernel
theorem dX3_readWed_19 : decode cX3_readWed 19 = .ok (.aload_n 0, 1) := by decide +kernel
theorem dX3_readWed_20 : decode cX3_readWed 20 = .ok (.getfield 40, 3) := by decide +kernel
theorem dX3_readWed_23 : decode cX3_readWed 23 = .ok (.istore_n 1, 1) := by decide +kernel
theorem dX3_readWed_24 : decode cX3_readWed 24 = .ok (.aload_n 0, 1) := by decide +kernel
theorem dX3_readWed_25 : decode cX3_readWed 25 = .ok (.invokevirtual 64, 3) := by decide +kernel
theorem dX3_readWed_28 : decode cX3_readWed 28 = .ok (.ifCond .ne 5, 3) := by decide +kernel
theorem dX3_readWed_31 : decode cX3_readWed 31 = .ok (.iconst 0, 1) := by decide +kernel
theorem dX3_readWed_32 : decode cX3_readWed 32 = .ok (.ireturn, 1) := by decide +kernel
theorem dX3_readWed_33 : decode cX3_readWed 33 = .ok (.aload_n 0, 1) := by decide +kernel
theorem dX3_readWed_34 : decode cX3_readWed 34 = .ok (.getfield 9, 3) := by decide +kernel
theorem dX3_readWed_37 : decode cX3_readWed 37 = .ok (.iload_n 1, 1) := by decide +kernel
theorem dX3_readWed_38 : decode cX3_readWed 38 = .ok (.aload_n 0, 1) := by decide +kernel
theorem dX3_readWed_39 : decode cX3_readWed 39 = .ok (.getfield 40, 3) := by decide +kernel
theorem dX3_readWed_42 : decode cX3_readWed 42 = .ok (.invokevirtual 93, 3) := by decide +kernel
theorem dX3_readWed_45 : decode cX3_readWed 45 = .ok (.ifCond .ne 15, 3) := by decide +kernel
theorem dX3_readWed_48 : decode cX3_readWed 48 = .ok (.aload_n 0, 1) := by decide +kernel
theorem dX3_readWed_49 : decode cX3_readWed 49 = .ok (.dup, 1) := by decide +kernel
theorem dX3_readWed_50 : decode cX3_readWed 50 = .ok (.getfield 32, 3) := by decide +kernel
theorem dX3_readWed_53 : decode cX3_readWed 53 = .ok (.iconst 1, 1) := by decide +kernel
theorem dX3_readWed_54 : decode cX3_readWed 54 = .ok (.isub, 1) := by decide +kernel
theorem dX3_readWed_55 : decode cX3_readWed 55 = .ok (.putfield 32, 3) := by decide +kernel
theorem dX3_readWed_58 : decode cX3_readWed 58 = .ok (.iconst 0, 1) := by decide +kernel
theorem dX3_readWed_59 : decode cX3_readWed 59 = .ok (.ireturn, 1) := by decide +kernel
theorem dX3_readWed_60 : decode cX3_readWed 60 = .ok (.aload_n 0, 1) := by decide +kernel
theorem dX3_readWed_61 : decode cX3_readWed 61 = .ok (.getfield 9, 3) := by decide +kernel
theorem dX3_readWed_64 : decode cX3_readWed 64 = .ok (.iload_n 1, 1) := by decide +kernel
theorem dX3_readWed_65 : decode cX3_readWed 65 = .ok (.aload_n 0, 1) := by decide +kernel
theorem dX3_readWed_66 : decode cX3_readWed 66 = .ok (.getfield 40, 3) := by decide +kernel
theorem dX3_readWed_69 : decode cX3_readWed 69 = .ok (.invokevirtual 96, 3) := by decide +kernel
theorem dX3_readWed_72 : decode cX3_readWed 72 = .ok (.iconst 1, 1) := by decide +kernel
theorem dX3_readWed_73 : decode cX3_readWed 73 = .ok (.ireturn, 1) := by decide +kernel
theorem dX3_readRound_0 : decode cX3_readRound 0 = .ok (.aload_n 0, 1) := by decide +kernel
theorem dX3_readRound_1 : decode cX3_readRound 1 = .ok (.dup, 1) := by decide +kernel
theorem dX3_readRound_2 : decode cX3_readRound 2 = .ok (.getfield 32, 3) := by decide +kernel
theorem dX3_readRound_5 : decode cX3_readRound 5 = .ok (.iconst 1, 1) := by decide +kernel
theorem dX3_readRound_6 : decode cX3_readRound 6 = .ok (.iadd, 1) := by decide +kernel
theorem dX3_readRound_7 : decode cX3_readRound 7 = .ok (.putfield 32, 3) := by decide +kernel
theorem dX3_readRound_10 : decode cX3_readRound 10 = .ok (.iconst 2, 1) := by decide +kernel
theorem dX3_readRound_11 : decode cX3_readRound 11 = .ok (.istore_n 1, 1) := by decide +kernel
theorem dX3_readRound_12 : decode cX3_readRound 12 = .ok (.iconst 0, 1) := by decide +kernel
theorem dX3_readRound_13 : decode cX3_readRound 13 = .ok (.istore_n 2, 1) := by decide +kernel
theorem dX3_readRound_14 : decode cX3_readRound 14 = .ok (.iload_n 2, 1) := by decide +kernel
theorem dX3_readRound_15 : decode cX3_readRound 15 = .ok (.aload_n 0, 1) := by decide +kernel
theorem dX3_readRound_16 : decode cX3_readRound 16 = .ok (.getfield 9, 3) := by decide +kernel
theorem dX3_readRound_19 : decode cX3_readRound 19 = .ok (.getfield 54, 3) := by decide +kernel
theorem dX3_readRound_22 : decode cX3_readRound 22 = .ok (.if_icmp .ge 27, 3) := by decide +kernel
theorem dX3_readRound_25 : decode cX3_readRound 25 = .ok (.iload_n 1, 1) := by decide +kernel
theorem dX3_readRound_26 : decode cX3_readRound 26 = .ok (.aload_n 0, 1) := by decide +kernel
theorem dX3_readRound_27 : decode cX3_readRound 27 = .ok (.getfield 9, 3) := by decide +kernel
theorem dX3_readRound_30 : decode cX3_readRound 30 = .ok (.iload_n 2, 1) := by decide +kernel
theorem dX3_readRound_31 : decode cX3_readRound 31 = .ok (.invokevirtual 73, 3) := by decide +kernel
theorem dX3_readRound_34 : decode cX3_readRound 34 = .ok (.getfield 100, 3) := by decide +kernel
theorem dX3_readRound_37 : decode cX3_readRound 37 = .ok (.iconst 1, 1) := by decide +kernel
theorem dX3_readRound_38 : decode cX3_readRound 38 = .ok (.iadd, 1) := by decide +kernel
theorem dX3_readRound_39 : decode cX3_readRound 39 = .ok (.invokestatic 103, 3) := by decide +kernel
theorem dX3_readRound_42 : decode cX3_readRound 42 = .ok (.istore_n 1, 1) := by decide +kernel
theorem dX3_readRound_43 : decode cX3_readRound 43 = .ok (.iinc 2 1, 3) := by decide +kernel
theorem dX3_readRound_46 : decode cX3_readRound 46 = .ok (.goto (-32), 3) := by decide +kernel
theorem dX3_readRound_49 : decode cX3_readRound 49 = .ok (.aload_n 0, 1) := by decide +kernel
theorem dX3_readRound_50 : decode cX3_readRound 50 = .ok (.iload_n 1, 1) := by decide +kernel
theorem dX3_readRound_51 : decode cX3_readRound 51 = .ok (.bipush 99, 2) := by decide +kernel
theorem dX3_readRound_53 : decode cX3_readRound 53 = .ok (.invokevirtual 36, 3) := by decide +kernel
theorem dX3_readRound_56 : decode cX3_readRound 56 = .ok (.ifCond .ne 5, 3) := by decide +kernel
theorem dX3_readRound_59 : decode cX3_readRound 59 = .ok (.iconst 0, 1) := by decide +kernel
theorem dX3_readRound_60 : decode cX3_readRound 60 = .ok (.ireturn, 1) := by decide +kernel
theorem dX3_readRound_61 : decode cX3_readRound 61 = .ok (.aload_n 0, 1) := by decide +kernel
theorem dX3_readRound_62 : decode cX3_readRound 62 = .ok (.getfield 9, 3) := by decide +kernel
theorem dX3_readRound_65 : decode cX3_readRound 65 = .ok (.aload_n 0, 1) := by decide +kernel
theorem dX3_readRound_66 : decode cX3_readRound 66 = .ok (.getfield 40, 3) := by decide +kernel
theorem dX3_readRound_69 : decode cX3_readRound 69 = .ok (.putfield 61, 3) := by decide +kernel
theorem dX3_readRound_72 : decode cX3_readRound 72 = .ok (.iconst 1, 1) := by decide +kernel
theorem dX3_readRound_73 : decode cX3_readRound 73 = .ok (.ireturn, 1) := by decide +kernel
theorem dX4_init_0 : decode cX4_init 0 = .ok (.aload_n 0, 1) := by decide +kernel
theorem dX4_init_1 : decode cX4_init 1 = .ok (.invokespecial 3, 3) := by decide +kernel
theorem dX4_init_4 : decode cX4_init 4 = .ok (.aload_n 0, 1) := by decide +kernel
theorem dX4_init_5 : decode cX4_init 5 = .ok (.bipush 12, 2) := by decide +kernel
theorem dX4_init_7 : decode cX4_init 7 = .ok (.newarray .int, 2) := by decide +kernel
theorem dX4_init_9 : decode cX4_init 9 = .ok (.putfield 11, 3) := by decide +kernel
theorem dX4_init_12 : decode cX4_init 12 = .ok (.aload_n 0, 1) := by decide +kernel
theorem dX4_init_13 : decode cX4_init 13 = .ok (.bipush 12, 2) := by decide +kernel
theorem dX4_init_15 : decode cX4_init 15 = .ok (.newarray .int, 2) := by decide +kernel
theorem dX4_init_17 : decode cX4_init 17 = .ok (.putfield 15, 3) := by decide +kernel
theorem dX4_init_20 : decode cX4_init 20 = .ok (.aload_n 0, 1) := by decide +kernel
theorem dX4_init_21 : decode cX4_init 21 = .ok (.bipush 12, 2) := by decide +kernel
theorem dX4_init_23 : decode cX4_init 23 = .ok (.newarray .int, 2) := by decide +kernel
theorem dX4_init_25 : decode cX4_init 25 = .ok (.putfield 18, 3) := by decide +kernel
theorem dX4_init_28 : decode cX4_init 28 = .ok (.aload_n 0, 1) := by decide +kernel
theorem dX4_init_29 : decode cX4_init 29 = .ok (.bipush 12, 2) := by decide +kernel
theorem dX4_init_31 : decode cX4_init 31 = .ok (.newarray .int, 2) := by decide +kernel
theorem dX4_init_33 : decode cX4_init 33 = .ok (.putfield 21, 3) := by decide +kernel
theorem dX4_init_36 : decode cX4_init 36 = .ok (.aload_n 0, 1) := by decide +kernel
theorem dX4_init_37 : decode cX4_init 37 = .ok (.sipush 400, 3) := by decide +kernel
theorem dX4_init_40 : decode cX4_init 40 = .ok (.newarray .int, 2) := by decide +kernel
theorem dX4_init_42 : decode cX4_init 42 = .ok (.putfield 24, 3) := by decide +kernel
theorem dX4_init_45 : decode cX4_init 45 = .ok (.aload_n 0, 1) := by decide +kernel
theorem dX4_init_46 : decode cX4_init 46 = .ok (.sipush 400, 3) := by decide +kernel
theorem dX4_init_49 : decode cX4_init 49 = .ok (.newarray .int, 2) := by decide +kernel
theorem dX4_init_51 : decode cX4_init 51 = .ok (.putfield 27, 3) := by decide +kernel
theorem dX4_init_54 : decode cX4_init 54 = .ok (.aload_n 0, 1) := by decide +kernel
theorem dX4_init_55 : decode cX4_init 55 = .ok (.bipush 30, 2) := by decide +kernel
theorem dX4_init_57 : decode cX4_init 57 = .ok (.newarray .int, 2) := by decide +kernel
theorem dX4_init_59 : decode cX4_init 59 = .ok (.putfield 32, 3) := by decide +kernel
theorem dX4_init_62 : decode cX4_init 62 = .ok (.aload_n 0, 1) := by decide +kernel
theorem dX4_init_63 : decode cX4_init 63 = .ok (.sipush 400, 3) := by decide +kernel
theorem dX4_init_66 : decode cX4_init 66 = .ok (.newarray .int, 2) := by decide +kernel
theorem dX4_init_68 : decode cX4_init 68 = .ok (.putfield 35, 3) := by decide +kernel
theorem dX4_init_71 : decode cX4_init 71 = .ok (.aload_n 0, 1) := by decide +kernel
theorem dX4_init_72 : decode cX4_init 72 = .ok (.iconst 0, 1) := by decide +kernel
theorem dX4_init_73 : decode cX4_init 73 = .ok (.putfield 38, 3) := by decide +kernel
theorem dX4_init_76 : decode cX4_init 76 = .ok (.aload_n 0, 1) := by decide +kernel
theorem dX4_init_77 : decode cX4_init 77 = .ok (.iconst (-1), 1) := by decide +kernel
theorem dX4_init_78 : decode cX4_init 78 = .ok (.putfield 42, 3) := by decide +kernel
theorem dX4_init_81 : decode cX4_init 81 = .ok (.return_, 1) := by decide +kernel
theorem dX4_begin_0 : decode cX4_begin 0 = .ok (.aload_n 0, 1) := by decide +kernel
theorem dX4_begin_1 : decode cX4_begin 1 = .ok (.iconst 0, 1) := by decide +kernel
theorem dX4_begin_2 : decode cX4_begin 2 = .ok (.putfield 38, 3) := by decide +kernel
theorem dX4_begin_5 : decode cX4_begin 5 = .ok (.aload_n 0, 1) := by decide +kernel
theorem dX4_begin_6 : decode cX4_begin 6 = .ok (.iconst 0, 1) := by decide +kernel
theorem dX4_begin_7 : decode cX4_begin 7 = .ok (.putfield 42, 3) := by decide +kernel
theorem dX4_begin_10 : decode cX4_begin 10 = .ok (.return_, 1) := by decide +kernel
theorem dX4_take_0 : decode cX4_take 0 = .ok (.aload_n 1, 1) := by decide +kernel
theorem dX4_take_1 : decode cX4_take 1 = .ok (.getfield 11, 3) := by decide +kernel
theorem dX4_take_4 : decode cX4_take 4 = .ok (.iconst 0, 1) := by decide +kernel
theorem dX4_take_5 : decode cX4_take 5 = .ok (.aload_n 0, 1) := by decide +kernel
theorem dX4_take_6 : decode cX4_take 6 = .ok (.getfield 11, 3) := by decide +kernel
theorem dX4_take_9 : decode cX4_take 9 = .ok (.iconst 0, 1) := by decide +kernel
theorem dX4_take_10 : decode cX4_take 10 = .ok (.aload_n 0, 1) := by decide +kernel
theorem dX4_take_11 : decode cX4_take 11 = .ok (.getfield 11, 3) := by decide +kernel
theorem dX4_take_14 : decode cX4_take 14 = .ok (.arraylength, 1) := by decide +kernel
theorem dX4_take_15 : decode cX4_take 15 = .ok (.invokestatic 45, 3) := by decide +kernel
theorem dX4_take_18 : decode cX4_take 18 = .ok (.aload_n 1, 1) := by decide +kernel
theorem dX4_take_19 : decode cX4_take 19 = .ok (.getfield 15, 3) := by decide +kernel
theorem dX4_take_22 : decode cX4_take 22 = .ok (.iconst 0, 1) := by decide +kernel
theorem dX4_take_23 : decode cX4_take 23 = .ok (.aload_n 0, 1) := by decide +kernel
theorem dX4_take_24 : decode cX4_take 24 = .ok (.getfield 15, 3) := by decide +kernel
theorem dX4_take_27 : decode cX4_take 27 = .ok (.iconst 0, 1) := by decide +kernel
theorem dX4_take_28 : decode cX4_take 28 = .ok (.aload_n 0, 1) := by decide +kernel
theorem dX4_take_29 : decode cX4_take 29 = .ok (.getfield 15, 3) := by decide +kernel
theorem dX4_take_32 : decode cX4_take 32 = .ok (.arraylength, 1) := by decide +kernel
theorem dX4_take_33 : decode cX4_take 33 = .ok (.invokestatic 45, 3) := by decide +kernel
theorem dX4_take_36 : decode cX4_take 36 = .ok (.aload_n 1, 1) := by decide +kernel
theorem dX4_take_37 : decode cX4_take 37 = .ok (.getfield 18, 3) := by decide +kernel
theorem dX4_take_40 : decode cX4_take 40 = .ok (.iconst 0, 1) := by decide +kernel
theorem dX4_take_41 : decode cX4_take 41 = .ok (.aload_n 0, 1) := by decide +kernel
theorem dX4_take_42 : decode cX4_take 42 = .ok (.getfield 18, 3) := by decide +kernel
theorem dX4_take_45 : decode cX4_take 45 = .ok (.iconst 0, 1) := by decide +kernel
theorem dX4_take_46 : decode cX4_take 46 = .ok (.aload_n 0, 1) := by decide +kernel
theorem dX4_take_47 : decode cX4_take 47 = .ok (.getfield 18, 3) := by decide +kernel
theorem dX4_take_50 : decode cX4_take 50 = .ok (.arraylength, 1) := by decide +kernel
theorem dX4_take_51 : decode cX4_take 51 = .ok (.invokestatic 45, 3) := by decide +kernel
theorem dX4_take_54 : decode cX4_take 54 = .ok (.aload_n 1, 1) := by decide +kernel
theorem dX4_take_55 : decode cX4_take 55 = .ok (.getfield 21, 3) := by decide +kernel
theorem dX4_take_58 : decode cX4_take 58 = .ok (.iconst 0, 1) := by decide +kernel
theorem dX4_take_59 : decode cX4_take 59 = .ok (.aload_n 0, 1) := by decide +kernel
theorem dX4_take_60 : decode cX4_take 60 = .ok (.getfield 21, 3) := by decide +kernel
theorem dX4_take_63 : decode cX4_take 63 = .ok (.iconst 0, 1) := by decide +kernel
theorem dX4_take_64 : decode cX4_take 64 = .ok (.aload_n 0, 1) := by decide +kernel
theorem dX4_take_65 : decode cX4_take 65 = .ok (.getfield 21, 3) := by decide +kernel
theorem dX4_take_68 : decode cX4_take 68 = .ok (.arraylength, 1) := by decide +kernel
theorem dX4_take_69 : decode cX4_take 69 = .ok (.invokestatic 45, 3) := by decide +kernel
theorem dX4_take_72 : decode cX4_take 72 = .ok (.aload_n 1, 1) := by decide +kernel
theorem dX4_take_73 : decode cX4_take 73 = .ok (.getfield 24, 3) := by decide +kernel
theorem dX4_take_76 : decode cX4_take 76 = .ok (.iconst 0, 1) := by decide +kernel
theorem dX4_take_77 : decode cX4_take 77 = .ok (.aload_n 0, 1) := by decide +kernel
theorem dX4_take_78 : decode cX4_take 78 = .ok (.getfield 24, 3) := by decide +kernel
theorem dX4_take_81 : decode cX4_take 81 = .ok (.iconst 0, 1) := by decide +kernel
theorem dX4_take_82 : decode cX4_take 82 = .ok (.aload_n 0, 1) := by decide +kernel
theorem dX4_take_83 : decode cX4_take 83 = .ok (.getfield 24, 3) := by decide +kernel
theorem dX4_take_86 : decode cX4_take 86 = .ok (.arraylength, 1) := by decide +kernel
theorem dX4_take_87 : decode cX4_take 87 = .ok (.invokestatic 45, 3) := by decide +kernel
theorem dX4_take_90 : decode cX4_take 90 = .ok (.aload_n 1, 1) := by decide +kernel
theorem dX4_take_91 : decode cX4_take 91 = .ok (.getfield 27, 3) := by decide +kernel
theorem dX4_take_94 : decode cX4_take 94 = .ok (.iconst 0, 1) := by decide +kernel
theorem dX4_take_95 : decode cX4_take 95 = .ok (.aload_n 0, 1) := by decide +kernel
theorem dX4_take_96 : decode cX4_take 96 = .ok (.getfield 27, 3) := by decide +kernel
theorem dX4_take_99 : decode cX4_take 99 = .ok (.iconst 0, 1) := by decide +kernel
theorem dX4_take_100 : decode cX4_take 100 = .ok (.aload_n 0, 1) := by decide +kernel
theorem dX4_take_101 : decode cX4_take 101 = .ok (.getfield 27, 3) := by decide +kernel
theorem dX4_take_104 : decode cX4_take 104 = .ok (.arraylength, 1) := by decide +kernel
theorem dX4_take_105 : decode cX4_take 105 = .ok (.invokestatic 45, 3) := by decide +kernel
theorem dX4_take_108 : decode cX4_take 108 = .ok (.aload_n 0, 1) := by decide +kernel
theorem dX4_take_109 : decode cX4_take 109 = .ok (.aload_n 1, 1) := by decide +kernel
theorem dX4_take_110 : decode cX4_take 110 = .ok (.getfield 38, 3) := by decide +kernel
theorem dX4_take_113 : decode cX4_take 113 = .ok (.putfield 38, 3) := by decide +kernel
theorem dX4_take_116 : decode cX4_take 116 = .ok (.aload_n 0, 1) := by decide +kernel
theorem dX4_take_117 : decode cX4_take 117 = .ok (.aload_n 1, 1) := by decide +kernel
theorem dX4_take_118 : decode cX4_take 118 = .ok (.getfield 42, 3) := by decide +kernel
theorem dX4_take_121 : decode cX4_take 121 = .ok (.putfield 42, 3) := by decide +kernel
theorem dX4_take_124 : decode cX4_take 124 = .ok (.return_, 1) := by decide +kernel
theorem dX4_put_0 : decode cX4_put 0 = .ok (.aload_n 0, 1) := by decide +kernel
theorem dX4_put_1 : decode cX4_put 1 = .ok (.getfield 38, 3) := by decide +kernel
theorem dX4_put_4 : decode cX4_put 4 = .ok (.ifCond .lt 45, 3) := by decide +kernel
theorem dX4_put_7 : decode cX4_put 7 = .ok (.aload_n 0, 1) := by decide +kernel
theorem dX4_put_8 : decode cX4_put 8 = .ok (.getfield 38, 3) := by decide +kernel
theorem dX4_put_11 : decode cX4_put 11 = .ok (.aload_n 0, 1) := by decide +kernel
theorem dX4_put_12 : decode cX4_put 12 = .ok (.getfield 24, 3) := by decide +kernel
theorem dX4_put_15 : decode cX4_put 15 = .ok (.arraylength, 1) := by decide +kernel
theorem dX4_put_16 : decode cX4_put 16 = .ok (.if_icmp .ge 33, 3) := by decide +kernel
theorem dX4_put_19 : decode cX4_put 19 = .ok (.aload_n 0, 1) := by decide +kernel
theorem dX4_put_20 : decode cX4_put 20 = .ok (.getfield 24, 3) := by decide +kernel
theorem dX4_put_23 : decode cX4_put 23 = .ok (.aload_n 0, 1) := by decide +kernel
theorem dX4_put_24 : decode cX4_put 24 = .ok (.getfield 38, 3) := by decide +kernel
theorem dX4_put_27 : decode cX4_put 27 = .ok (.iload_n 1, 1) := by decide +kernel
theorem dX4_put_28 : decode cX4_put 28 = .ok (.iastore, 1) := by decide +kernel
theorem dX4_put_29 : decode cX4_put 29 = .ok (.aload_n 0, 1) := by decide +kernel
theorem dX4_put_30 : decode cX4_put 30 = .ok (.getfield 27, 3) := by decide +kernel
theorem dX4_put_33 : decode cX4_put 33 = .ok (.aload_n 0, 1) := by decide +kernel
theorem dX4_put_34 : decode cX4_put 34 = .ok (.getfield 38, 3) := by decide +kernel
theorem dX4_put_37 : decode cX4_put 37 = .ok (.iload_n 2, 1) := by decide +kernel
theorem dX4_put_38 : decode cX4_put 38 = .ok (.iastore, 1) := by decide +kernel
theorem dX4_put_39 : decode cX4_put 39 = .ok (.aload_n 0, 1) := by decide +kernel
theorem dX4_put_40 : decode cX4_put 40 = .ok (.dup, 1) := by decide +kernel
theorem dX4_put_41 : decode cX4_put 41 = .ok (.getfield 38, 3) := by decide +kernel
theorem dX4_put_44 : decode cX4_put 44 = .ok (.iconst 1, 1) := by decide +kernel
theorem dX4_put_45 : decode cX4_put 45 = .ok (.iadd, 1) := by decide +kernel
theorem dX4_put_46 : decode cX4_put 46 = .ok (.putfield 38, 3) := by decide +kernel
theorem dX4_put_49 : decode cX4_put 49 = .ok (.return_, 1) := by decide +kernel
theorem dX4_addLine_0 : decode cX4_addLine 0 = .ok (.aload_n 0, 1) := by decide +kernel
theorem dX4_addLine_1 : decode cX4_addLine 1 = .ok (.getfield 42, 3) := by decide +kernel
theorem dX4_addLine_4 : decode cX4_addLine 4 = .ok (.ifCond .lt 65, 3) := by decide +kernel
theorem dX4_addLine_7 : decode cX4_addLine 7 = .ok (.aload_n 0, 1) := by decide +kernel
theorem dX4_addLine_8 : decode cX4_addLine 8 = .ok (.getfield 42, 3) := by decide +kernel
theorem dX4_addLine_11 : decode cX4_addLine 11 = .ok (.bipush 12, 2) := by decide +kernel
theorem dX4_addLine_13 : decode cX4_addLine 13 = .ok (.if_icmp .ge 56, 3) := by decide +kernel
theorem dX4_addLine_16 : decode cX4_addLine 16 = .ok (.aload_n 0, 1) := by decide +kernel
theorem dX4_addLine_17 : decode cX4_addLine 17 = .ok (.getfield 11, 3) := by decide +kernel
theorem dX4_addLine_20 : decode cX4_addLine 20 = .ok (.aload_n 0, 1) := by decide +kernel
theorem dX4_addLine_21 : decode cX4_addLine 21 = .ok (.getfield 42, 3) := by decide +kernel
theorem dX4_addLine_24 : decode cX4_addLine 24 = .ok (.iload_n 1, 1) := by decide +kernel
theorem dX4_addLine_25 : decode cX4_addLine 25 = .ok (.iastore, 1) := by decide +kernel
theorem dX4_addLine_26 : decode cX4_addLine 26 = .ok (.aload_n 0, 1) := by decide +kernel
theorem dX4_addLine_27 : decode cX4_addLine 27 = .ok (.getfield 15, 3) := by decide +kernel
theorem dX4_addLine_30 : decode cX4_addLine 30 = .ok (.aload_n 0, 1) := by decide +kernel
theorem dX4_addLine_31 : decode cX4_addLine 31 = .ok (.getfield 42, 3) := by decide +kernel
theorem dX4_addLine_34 : decode cX4_addLine 34 = .ok (.iload_n 2, 1) := by decide +kernel
theorem dX4_addLine_35 : decode cX4_addLine 35 = .ok (.iastore, 1) := by decide +kernel
theorem dX4_addLine_36 : decode cX4_addLine 36 = .ok (.aload_n 0, 1) := by decide +kernel
theorem dX4_addLine_37 : decode cX4_addLine 37 = .ok (.getfield 18, 3) := by decide +kernel
theorem dX4_addLine_40 : decode cX4_addLine 40 = .ok (.aload_n 0, 1) := by decide +kernel
theorem dX4_addLine_41 : decode cX4_addLine 41 = .ok (.getfield 42, 3) := by decide +kernel
theorem dX4_addLine_44 : decode cX4_addLine 44 = .ok (.iload_n 3, 1) := by decide +kernel
theorem dX4_addLine_45 : decode cX4_addLine 45 = .ok (.iastore, 1) := by decide +kernel
theorem dX4_addLine_46 : decode cX4_addLine 46 = .ok (.aload_n 0, 1) := by decide +kernel
theorem dX4_addLine_47 : decode cX4_addLine 47 = .ok (.getfield 21, 3) := by decide +kernel
theorem dX4_addLine_50 : decode cX4_addLine 50 = .ok (.aload_n 0, 1) := by decide +kernel
theorem dX4_addLine_51 : decode cX4_addLine 51 = .ok (.getfield 42, 3) := by decide +kernel
theorem dX4_addLine_54 : decode cX4_addLine 54 = .ok (.aload_n 0, 1) := by decide +kernel
theorem dX4_addLine_55 : decode cX4_addLine 55 = .ok (.getfield 38, 3) := by decide +kernel
theorem dX4_addLine_58 : decode cX4_addLine 58 = .ok (.iastore, 1) := by decide +kernel
theorem dX4_addLine_59 : decode cX4_addLine 59 = .ok (.aload_n 0, 1) := by decide +kernel
theorem dX4_addLine_60 : decode cX4_addLine 60 = .ok (.dup, 1) := by decide +kernel
theorem dX4_addLine_61 : decode cX4_addLine 61 = .ok (.getfield 42, 3) := by decide +kernel
theorem dX4_addLine_64 : decode cX4_addLine 64 = .ok (.iconst 1, 1) := by decide +kernel
theorem dX4_addLine_65 : decode cX4_addLine 65 = .ok (.iadd, 1) := by decide +kernel
theorem dX4_addLine_66 : decode cX4_addLine 66 = .ok (.putfield 42, 3) := by decide +kernel
theorem dX4_addLine_69 : decode cX4_addLine 69 = .ok (.return_, 1) := by decide +kernel
theorem dX4_weight_0 : decode cX4_weight 0 = .ok (.iload 4, 2) := by decide +kernel
theorem dX4_weight_2 : decode cX4_weight 2 = .ok (.ifCond .eq 8, 3) := by decide +kernel
theorem dX4_weight_5 : decode cX4_weight 5 = .ok (.bipush 18, 2) := by decide +kernel
theorem dX4_weight_7 : decode cX4_weight 7 = .ok (.goto 5, 3) := by decide +kernel
theorem dX4_weight_10 : decode cX4_weight 10 = .ok (.bipush 17, 2) := by decide +kernel
theorem dX4_weight_12 : decode cX4_weight 12 = .ok (.istore 5, 2) := by decide +kernel
theorem dX4_weight_14 : decode cX4_weight 14 = .ok (.aload_n 1, 1) := by decide +kernel
theorem dX4_weight_15 : decode cX4_weight 15 = .ok (.getfield 51, 3) := by decide +kernel
theorem dX4_weight_18 : decode cX4_weight 18 = .ok (.istore 6, 2) := by decide +kernel
theorem dX4_weight_20 : decode cX4_weight 20 = .ok (.aload_n 0, 1) := by decide +kernel
theorem dX4_weight_21 : decode cX4_weight 21 = .ok (.getfield 42, 3) := by decide +kernel
theorem dX4_weight_24 : decode cX4_weight 24 = .ok (.ifCond .le 10, 3) := by decide +kernel
theorem dX4_weight_27 : decode cX4_weight 27 = .ok (.aload_n 0, 1) := by decide +kernel
theorem dX4_weight_28 : decode cX4_weight 28 = .ok (.aload_n 1, 1) := by decide +kernel
theorem dX4_weight_29 : decode cX4_weight 29 = .ok (.iload_n 2, 1) := by decide +kernel
theorem dX4_weight_30 : decode cX4_weight 30 = .ok (.iload_n 3, 1) := by decide +kernel
theorem dX4_weight_31 : decode cX4_weight 31 = .ok (.invokevirtual 56, 3) := by decide +kernel
theorem dX4_weight_34 : decode cX4_weight 34 = .ok (.iconst 0, 1) := by decide +kernel
theorem dX4_weight_35 : decode cX4_weight 35 = .ok (.istore 7, 2) := by decide +kernel
theorem dX4_weight_37 : decode cX4_weight 37 = .ok (.iload 7, 2) := by decide +kernel
theorem dX4_weight_39 : decode cX4_weight 39 = .ok (.aload_n 0, 1) := by decide +kernel
theorem dX4_weight_40 : decode cX4_weight 40 = .ok (.getfield 42, 3) := by decide +kernel
theorem dX4_weight_43 : decode cX4_weight 43 = .ok (.if_icmp .ge 90, 3) := by decide +kernel
theorem dX4_weight_46 : decode cX4_weight 46 = .ok (.iload 7, 2) := by decide +kernel
theorem dX4_weight_48 : decode cX4_weight 48 = .ok (.bipush 12, 2) := by decide +kernel
theorem dX4_weight_50 : decode cX4_weight 50 = .ok (.if_icmp .ge 83, 3) := by decide +kernel
theorem dX4_weight_53 : decode cX4_weight 53 = .ok (.aload_n 0, 1) := by decide +kernel
theorem dX4_weight_54 : decode cX4_weight 54 = .ok (.getfield 11, 3) := by decide +kernel
theorem dX4_weight_57 : decode cX4_weight 57 = .ok (.iload 7, 2) := by decide +kernel
theorem dX4_weight_59 : decode cX4_weight 59 = .ok (.iaload, 1) := by decide +kernel
theorem dX4_weight_60 : decode cX4_weight 60 = .ok (.bipush 19, 2) := by decide +kernel
theorem dX4_weight_62 : decode cX4_weight 62 = .ok (.if_icmp .eq 15, 3) := by decide +kernel
theorem dX4_weight_65 : decode cX4_weight 65 = .ok (.aload_n 0, 1) := by decide +kernel
theorem dX4_weight_66 : decode cX4_weight 66 = .ok (.getfield 11, 3) := by decide +kernel
theorem dX4_weight_69 : decode cX4_weight 69 = .ok (.iload 7, 2) := by decide +kernel
theorem dX4_weight_71 : decode cX4_weight 71 = .ok (.iaload, 1) := by decide +kernel
theorem dX4_weight_72 : decode cX4_weight 72 = .ok (.iload 5, 2) := by decide +kernel
theorem dX4_weight_74 : decode cX4_weight 74 = .ok (.if_icmp .ne 53, 3) := by decide +kernel
theorem dX4_weight_77 : decode cX4_weight 77 = .ok (.aload_n 0, 1) := by decide +kernel
theorem dX4_weight_78 : decode cX4_weight 78 = .ok (.aload_n 0, 1) := by decide +kernel
theorem dX4_weight_79 : decode cX4_weight 79 = .ok (.getfield 18, 3) := by decide +kernel
theorem dX4_weight_82 : decode cX4_weight 82 = .ok (.iload 7, 2) := by decide +kernel
theorem dX4_weight_84 : decode cX4_weight 84 = .ok (.iaload, 1) := by decide +kernel
theorem dX4_weight_85 : decode cX4_weight 85 = .ok (.aload_n 0, 1) := by decide +kernel
theorem dX4_weight_86 : decode cX4_weight 86 = .ok (.getfield 21, 3) := by decide +kernel
theorem dX4_weight_89 : decode cX4_weight 89 = .ok (.iload 7, 2) := by decide +kernel
theorem dX4_weight_91 : decode cX4_weight 91 = .ok (.iaload, 1) := by decide +kernel
theorem dX4_weight_92 : decode cX4_weight 92 = .ok (.invokevirtual 60, 3) := by decide +kernel
theorem dX4_weight_95 : decode cX4_weight 95 = .ok (.ifCond .ne 6, 3) := by decide +kernel
theorem dX4_weight_98 : decode cX4_weight 98 = .ok (.goto 29, 3) := by decide +kernel
theorem dX4_weight_101 : decode cX4_weight 101 = .ok (.aload_n 0, 1) := by decide +kernel
theorem dX4_weight_102 : decode cX4_weight 102 = .ok (.getfield 11, 3) := by decide +kernel
theorem dX4_weight_105 : decode cX4_weight 105 = .ok (.iload 7, 2) := by decide +kernel
theorem dX4_weight_107 : decode cX4_weight 107 = .ok (.iaload, 1) := by decide +kernel
theorem dX4_weight_108 : decode cX4_weight 108 = .ok (.bipush 19, 2) := by decide +kernel
theorem dX4_weight_110 : decode cX4_weight 110 = .ok (.if_icmp .ne 5, 3) := by decide +kernel
theorem dX4_weight_113 : decode cX4_weight 113 = .ok (.iconst 0, 1) := by decide +kernel
theorem dX4_weight_114 : decode cX4_weight 114 = .ok (.ireturn, 1) := by decide +kernel
theorem dX4_weight_115 : decode cX4_weight 115 = .ok (.iload 6, 2) := by decide +kernel
theorem dX4_weight_117 : decode cX4_weight 117 = .ok (.aload_n 0, 1) := by decide +kernel
theorem dX4_weight_118 : decode cX4_weight 118 = .ok (.getfield 15, 3) := by decide +kernel
theorem dX4_weight_121 : decode cX4_weight 121 = .ok (.iload 7, 2) := by decide +kernel
theorem dX4_weight_123 : decode cX4_weight 123 = .ok (.iaload, 1) := by decide +kernel
theorem dX4_weight_124 : decode cX4_weight 124 = .ok (.iadd, 1) := by decide +kernel
theorem dX4_weight_125 : decode cX4_weight 125 = .ok (.istore 6, 2) := by decide +kernel
theorem dX4_weight_127 : decode cX4_weight 127 = .ok (.iinc 7 1, 3) := by decide +kernel
theorem dX4_weight_130 : decode cX4_weight 130 = .ok (.goto (-93), 3) := by decide +kernel
theorem dX4_weight_133 : decode cX4_weight 133 = .ok (.aload_n 1, 1) := by decide +kernel
theorem dX4_weight_134 : decode cX4_weight 134 = .ok (.iload 6, 2) := by decide +kernel
theorem dX4_weight_136 : decode cX4_weight 136 = .ok (.invokevirtual 64, 3) := by decide +kernel
theorem dX4_weight_139 : decode cX4_weight 139 = .ok (.ireturn, 1) := by decide +kernel
theorem dX4_gatherFacts_0 : decode cX4_gatherFacts 0 = .ok (.aload_n 1, 1) := by decide +kernel
theorem dX4_gatherFacts_1 : decode cX4_gatherFacts 1 = .ok (.iload_n 3, 1) := by decide +kernel
theorem dX4_gatherFacts_2 : decode cX4_gatherFacts 2 = .ok (.invokevirtual 68, 3) := by decide +kernel
theorem dX4_gatherFacts_5 : decode cX4_gatherFacts 5 = .ok (.astore 4, 2) := by decide +kernel
theorem dX4_gatherFacts_7 : decode cX4_gatherFacts 7 = .ok (.aload_n 0, 1) := by decide +kernel
theorem dX4_gatherFacts_8 : decode cX4_gatherFacts 8 = .ok (.getfield 32, 3) := by decide +kernel
theorem dX4_gatherFacts_11 : decode cX4_gatherFacts 11 = .ok (.bipush 26, 2) := by decide +kernel
theorem dX4_gatherFacts_13 : decode cX4_gatherFacts 13 = .ok (.iload_n 2, 1) := by decide +kernel
theorem dX4_gatherFacts_14 : decode cX4_gatherFacts 14 = .ok (.iastore, 1) := by decide +kernel
theorem dX4_gatherFacts_15 : decode cX4_gatherFacts 15 = .ok (.aload_n 0, 1) := by decide +kernel
theorem dX4_gatherFacts_16 : decode cX4_gatherFacts 16 = .ok (.getfield 32, 3) := by decide +kernel
theorem dX4_gatherFacts_19 : decode cX4_gatherFacts 19 = .ok (.bipush 27, 2) := by decide +kernel
theorem dX4_gatherFacts_21 : decode cX4_gatherFacts 21 = .ok (.iload_n 3, 1) := by decide +kernel
theorem dX4_gatherFacts_22 : decode cX4_gatherFacts 22 = .ok (.iastore, 1) := by decide +kernel
theorem dX4_gatherFacts_23 : decode cX4_gatherFacts 23 = .ok (.aload_n 0, 1) := by decide +kernel
theorem dX4_gatherFacts_24 : decode cX4_gatherFacts 24 = .ok (.getfield 32, 3) := by decide +kernel
theorem dX4_gatherFacts_27 : decode cX4_gatherFacts 27 = .ok (.bipush 6, 2) := by decide +kernel
theorem dX4_gatherFacts_29 : decode cX4_gatherFacts 29 = .ok (.aload 4, 2) := by decide +kernel
theorem dX4_gatherFacts_31 : decode cX4_gatherFacts 31 = .ok (.getfield 72, 3) := by decide +kernel
theorem dX4_gatherFacts_34 : decode cX4_gatherFacts 34 = .ok (.iastore, 1) := by decide +kernel
theorem dX4_gatherFacts_35 : decode cX4_gatherFacts 35 = .ok (.aload_n 0, 1) := by decide +kernel
theorem dX4_gatherFacts_36 : decode cX4_gatherFacts 36 = .ok (.getfield 32, 3) := by decide +kernel
theorem dX4_gatherFacts_39 : decode cX4_gatherFacts 39 = .ok (.bipush 28, 2) := by decide +kernel
theorem dX4_gatherFacts_41 : decode cX4_gatherFacts 41 = .ok (.aload_n 1, 1) := by decide +kernel
theorem dX4_gatherFacts_42 : decode cX4_gatherFacts 42 = .ok (.iload_n 2, 1) := by decide +kernel
theorem dX4_gatherFacts_43 : decode cX4_gatherFacts 43 = .ok (.invokevirtual 68, 3) := by decide +kernel
theorem dX4_gatherFacts_46 : decode cX4_gatherFacts 46 = .ok (.getfield 72, 3) := by decide +kernel
theorem dX4_gatherFacts_49 : decode cX4_gatherFacts 49 = .ok (.iastore, 1) := by decide +kernel
theorem dX4_gatherFacts_50 : decode cX4_gatherFacts 50 = .ok (.aload_n 0, 1) := by decide +kernel
theorem dX4_gatherFacts_51 : decode cX4_gatherFacts 51 = .ok (.getfield 32, 3) := by decide +kernel
theorem dX4_gatherFacts_54 : decode cX4_gatherFacts 54 = .ok (.bipush 29, 2) := by decide +kernel
theorem dX4_gatherFacts_56 : decode cX4_gatherFacts 56 = .ok (.iconst 0, 1) := by decide +kernel
theorem dX4_gatherFacts_57 : decode cX4_gatherFacts 57 = .ok (.aload 4, 2) := by decide +kernel
theorem dX4_gatherFacts_59 : decode cX4_gatherFacts 59 = .ok (.getfield 77, 3) := by decide +kernel
theorem dX4_gatherFacts_62 : decode cX4_gatherFacts 62 = .ok (.invokestatic 80, 3) := by decide +kernel
theorem dX4_gatherFacts_65 : decode cX4_gatherFacts 65 = .ok (.iastore, 1) := by decide +kernel
theorem dX4_gatherFacts_66 : decode cX4_gatherFacts 66 = .ok (.aload_n 0, 1) := by decide +kernel
theorem dX4_gatherFacts_67 : decode cX4_gatherFacts 67 = .ok (.getfield 32, 3) := by decide +kernel
theorem dX4_gatherFacts_70 : decode cX4_gatherFacts 70 = .ok (.bipush 16, 2) := by decide +kernel
theorem dX4_gatherFacts_72 : decode cX4_gatherFacts 72 = .ok (.aload_n 1, 1) := by decide +kernel
theorem dX4_gatherFacts_73 : decode cX4_gatherFacts 73 = .ok (.getfield 86, 3) := by decide +kernel
theorem dX4_gatherFacts_76 : decode cX4_gatherFacts 76 = .ok (.iastore, 1) := by decide +kernel
theorem dX4_gatherFacts_77 : decode cX4_gatherFacts 77 = .ok (.aload_n 0, 1) := by decide +kernel
theorem dX4_gatherFacts_78 : decode cX4_gatherFacts 78 = .ok (.getfield 32, 3) := by decide +kernel
theorem dX4_gatherFacts_81 : decode cX4_gatherFacts 81 = .ok (.bipush 12, 2) := by decide +kernel
theorem dX4_gatherFacts_83 : decode cX4_gatherFacts 83 = .ok (.aload 4, 2) := by decide +kernel
theorem dX4_gatherFacts_85 : decode cX4_gatherFacts 85 = .ok (.getfield 89, 3) := by decide +kernel
theorem dX4_gatherFacts_88 : decode cX4_gatherFacts 88 = .ok (.iconst (-1), 1) := by decide +kernel
theorem dX4_gatherFacts_89 : decode cX4_gatherFacts 89 = .ok (.if_icmp .eq 7, 3) := by decide +kernel
theorem dX4_gatherFacts_92 : decode cX4_gatherFacts 92 = .ok (.iconst 1, 1) := by decide +kernel
theorem dX4_gatherFacts_93 : decode cX4_gatherFacts 93 = .ok (.goto 4, 3) := by decide +kernel
theorem dX4_gatherFacts_96 : decode cX4_gatherFacts 96 = .ok (.iconst 0, 1) := by decide +kernel
theorem dX4_gatherFacts_97 : decode cX4_gatherFacts 97 = .ok (.iastore, 1) := by decide +kernel
theorem dX4_gatherFacts_98 : decode cX4_gatherFacts 98 = .ok (.aload_n 0, 1) := by decide +kernel
theorem dX4_gatherFacts_99 : decode cX4_gatherFacts 99 = .ok (.getfield 32, 3) := by decide +kernel
theorem dX4_gatherFacts_102 : decode cX4_gatherFacts 102 = .ok (.bipush 24, 2) := by decide +kernel
theorem dX4_gatherFacts_104 : decode cX4_gatherFacts 104 = .ok (.aload 4, 2) := by decide +kernel
theorem dX4_gatherFacts_106 : decode cX4_gatherFacts 106 = .ok (.getfield 92, 3) := by decide +kernel
theorem dX4_gatherFacts_109 : decode cX4_gatherFacts 109 = .ok (.iload_n 2, 1) := by decide +kernel
theorem dX4_gatherFacts_110 : decode cX4_gatherFacts 110 = .ok (.if_icmp .ne 7, 3) := by decide +kernel
theorem dX4_gatherFacts_113 : decode cX4_gatherFacts 113 = .ok (.iconst 1, 1) := by decide +kernel
theorem dX4_gatherFacts_114 : decode cX4_gatherFacts 114 = .ok (.goto 4, 3) := by decide +kernel
theorem dX4_gatherFacts_117 : decode cX4_gatherFacts 117 = .ok (.iconst 0, 1) := by decide +kernel
theorem dX4_gatherFacts_118 : decode cX4_gatherFacts 118 = .ok (.iastore, 1) := by decide +kernel
theorem dX4_gatherFacts_119 : decode cX4_gatherFacts 119 = .ok (.aload_n 0, 1) := by decide +kernel
theorem dX4_gatherFacts_120 : decode cX4_gatherFacts 120 = .ok (.getfield 32, 3) := by decide +kernel
theorem dX4_gatherFacts_123 : decode cX4_gatherFacts 123 = .ok (.bipush 25, 2) := by decide +kernel
theorem dX4_gatherFacts_125 : decode cX4_gatherFacts 125 = .ok (.aload 4, 2) := by decide +kernel
theorem dX4_gatherFacts_127 : decode cX4_gatherFacts 127 = .ok (.getfield 72, 3) := by decide +kernel
theorem dX4_gatherFacts_130 : decode cX4_gatherFacts 130 = .ok (.aload_n 1, 1) := by decide +kernel
theorem dX4_gatherFacts_131 : decode cX4_gatherFacts 131 = .ok (.getfield 95, 3) := by decide +kernel
theorem dX4_gatherFacts_134 : decode cX4_gatherFacts 134 = .ok (.if_icmp .ge 7, 3) := by decide +kernel
theorem dX4_gatherFacts_137 : decode cX4_gatherFacts 137 = .ok (.iconst 1, 1) := by decide +kernel
theorem dX4_gatherFacts_138 : decode cX4_gatherFacts 138 = .ok (.goto 4, 3) := by decide +kernel
theorem dX4_gatherFacts_141 : decode cX4_gatherFacts 141 = .ok (.iconst 0, 1) := by decide +kernel
theorem dX4_gatherFacts_142 : decode cX4_gatherFacts 142 = .ok (.iastore, 1) := by decide +kernel
theorem dX4_gatherFacts_143 : decode cX4_gatherFacts 143 = .ok (.return_, 1) := by decide +kernel
theorem dX4_holds_0 : decode cX4_holds 0 = .ok (.iconst 0, 1) := by decide +kernel
theorem dX4_holds_1 : decode cX4_holds 1 = .ok (.istore_n 3, 1) := by decide +kernel
theorem dX4_holds_2 : decode cX4_holds 2 = .ok (.iload_n 1, 1) := by decide +kernel
theorem dX4_holds_3 : decode cX4_holds 3 = .ok (.istore 4, 2) := by decide +kernel
theorem dX4_holds_5 : decode cX4_holds 5 = .ok (.iload 4, 2) := by decide +kernel
theorem dX4_holds_7 : decode cX4_holds 7 = .ok (.iload_n 2, 1) := by decide +kernel
theorem dX4_holds_8 : decode cX4_holds 8 = .ok (.if_icmp .ge 184, 3) := by decide +kernel
theorem dX4_holds_11 : decode cX4_holds 11 = .ok (.iload 4, 2) := by decide +kernel
theorem dX4_holds_13 : decode cX4_holds 13 = .ok (.ifCond .lt 179, 3) := by decide +kernel
theorem dX4_holds_16 : decode cX4_holds 16 = .ok (.iload 4, 2) := by decide +kernel
theorem dX4_holds_18 : decode cX4_holds 18 = .ok (.aload_n 0, 1) := by decide +kernel
theorem dX4_holds_19 : decode cX4_holds 19 = .ok (.getfield 24, 3) := by decide +kernel
theorem dX4_holds_22 : decode cX4_holds 22 = .ok (.arraylength, 1) := by decide +kernel
theorem dX4_holds_23 : decode cX4_holds 23 = .ok (.if_icmp .ge 169, 3) := by decide +kernel
theorem dX4_holds_26 : decode cX4_holds 26 = .ok (.aload_n 0, 1) := by decide +kernel
theorem dX4_holds_27 : decode cX4_holds 27 = .ok (.getfield 24, 3) := by decide +kernel
theorem dX4_holds_30 : decode cX4_holds 30 = .ok (.iload 4, 2) := by decide +kernel
theorem dX4_holds_32 : decode cX4_holds 32 = .ok (.iaload, 1) := by decide +kernel
theorem dX4_holds_33 : decode cX4_holds 33 = .ok (.istore 5, 2) := by decide +kernel
theorem dX4_holds_35 : decode cX4_holds 35 = .ok (.iload 5, 2) := by decide +kernel
theorem dX4_holds_37 : decode cX4_holds 37 = .ok (.bipush 23, 2) := by decide +kernel
theorem dX4_holds_39 : decode cX4_holds 39 = .ok (.if_icmp .ne 37, 3) := by decide +kernel
theorem dX4_holds_42 : decode cX4_holds 42 = .ok (.iload_n 3, 1) := by decide +kernel
theorem dX4_holds_43 : decode cX4_holds 43 = .ok (.ifCond .le 143, 3) := by decide +kernel
theorem dX4_holds_46 : decode cX4_holds 46 = .ok (.iload_n 3, 1) := by decide +kernel
theorem dX4_holds_47 : decode cX4_holds 47 = .ok (.aload_n 0, 1) := by decide +kernel
theorem dX4_holds_48 : decode cX4_holds 48 = .ok (.getfield 35, 3) := by decide +kernel
theorem dX4_holds_51 : decode cX4_holds 51 = .ok (.arraylength, 1) := by decide +kernel
theorem dX4_holds_52 : decode cX4_holds 52 = .ok (.if_icmp .gt 134, 3) := by decide +kernel
theorem dX4_holds_55 : decode cX4_holds 55 = .ok (.aload_n 0, 1) := by decide +kernel
theorem dX4_holds_56 : decode cX4_holds 56 = .ok (.getfield 35, 3) := by decide +kernel
theorem dX4_holds_59 : decode cX4_holds 59 = .ok (.iload_n 3, 1) := by decide +kernel
theorem dX4_holds_60 : decode cX4_holds 60 = .ok (.iconst 1, 1) := by decide +kernel
theorem dX4_holds_61 : decode cX4_holds 61 = .ok (.isub, 1) := by decide +kernel
theorem dX4_holds_62 : decode cX4_holds 62 = .ok (.iconst 1, 1) := by decide +kernel
theorem dX4_holds_63 : decode cX4_holds 63 = .ok (.aload_n 0, 1) := by decide +kernel
theorem dX4_holds_64 : decode cX4_holds 64 = .ok (.getfield 35, 3) := by decide +kernel
theorem dX4_holds_67 : decode cX4_holds 67 = .ok (.iload_n 3, 1) := by decide +kernel
theorem dX4_holds_68 : decode cX4_holds 68 = .ok (.iconst 1, 1) := by decide +kernel
theorem dX4_holds_69 : decode cX4_holds 69 = .ok (.isub, 1) := by decide +kernel
theorem dX4_holds_70 : decode cX4_holds 70 = .ok (.iaload, 1) := by decide +kernel
theorem dX4_holds_71 : decode cX4_holds 71 = .ok (.isub, 1) := by decide +kernel
theorem dX4_holds_72 : decode cX4_holds 72 = .ok (.iastore, 1) := by decide +kernel
theorem dX4_holds_73 : decode cX4_holds 73 = .ok (.goto 113, 3) := by decide +kernel
theorem dX4_holds_76 : decode cX4_holds 76 = .ok (.iload 5, 2) := by decide +kernel
theorem dX4_holds_78 : decode cX4_holds 78 = .ok (.invokestatic 98, 3) := by decide +kernel
theorem dX4_holds_81 : decode cX4_holds 81 = .ok (.ifCond .eq 50, 3) := by decide +kernel
theorem dX4_holds_84 : decode cX4_holds 84 = .ok (.iload_n 3, 1) := by decide +kernel
theorem dX4_holds_85 : decode cX4_holds 85 = .ok (.iconst 1, 1) := by decide +kernel
theorem dX4_holds_86 : decode cX4_holds 86 = .ok (.if_icmp .le 100, 3) := by decide +kernel
theorem dX4_holds_89 : decode cX4_holds 89 = .ok (.iload_n 3, 1) := by decide +kernel
theorem dX4_holds_90 : decode cX4_holds 90 = .ok (.aload_n 0, 1) := by decide +kernel
theorem dX4_holds_91 : decode cX4_holds 91 = .ok (.getfield 35, 3) := by decide +kernel
theorem dX4_holds_94 : decode cX4_holds 94 = .ok (.arraylength, 1) := by decide +kernel
theorem dX4_holds_95 : decode cX4_holds 95 = .ok (.if_icmp .gt 91, 3) := by decide +kernel
theorem dX4_holds_98 : decode cX4_holds 98 = .ok (.iinc 3 (-1), 3) := by decide +kernel
theorem dX4_holds_101 : decode cX4_holds 101 = .ok (.aload_n 0, 1) := by decide +kernel
theorem dX4_holds_102 : decode cX4_holds 102 = .ok (.getfield 35, 3) := by decide +kernel
theorem dX4_holds_105 : decode cX4_holds 105 = .ok (.iload_n 3, 1) := by decide +kernel
theorem dX4_holds_106 : decode cX4_holds 106 = .ok (.iconst 1, 1) := by decide +kernel
theorem dX4_holds_107 : decode cX4_holds 107 = .ok (.isub, 1) := by decide +kernel
theorem dX4_holds_108 : decode cX4_holds 108 = .ok (.iload 5, 2) := by decide +kernel
theorem dX4_holds_110 : decode cX4_holds 110 = .ok (.aload_n 0, 1) := by decide +kernel
theorem dX4_holds_111 : decode cX4_holds 111 = .ok (.getfield 35, 3) := by decide +kernel
theorem dX4_holds_114 : decode cX4_holds 114 = .ok (.iload_n 3, 1) := by decide +kernel
theorem dX4_holds_115 : decode cX4_holds 115 = .ok (.iconst 1, 1) := by decide +kernel
theorem dX4_holds_116 : decode cX4_holds 116 = .ok (.isub, 1) := by decide +kernel
theorem dX4_holds_117 : decode cX4_holds 117 = .ok (.iaload, 1) := by decide +kernel
theorem dX4_holds_118 : decode cX4_holds 118 = .ok (.aload_n 0, 1) := by decide +kernel
theorem dX4_holds_119 : decode cX4_holds 119 = .ok (.getfield 35, 3) := by decide +kernel
theorem dX4_holds_122 : decode cX4_holds 122 = .ok (.iload_n 3, 1) := by decide +kernel
theorem dX4_holds_123 : decode cX4_holds 123 = .ok (.iaload, 1) := by decide +kernel
theorem dX4_holds_124 : decode cX4_holds 124 = .ok (.invokestatic 102, 3) := by decide +kernel
theorem dX4_holds_127 : decode cX4_holds 127 = .ok (.iastore, 1) := by decide +kernel
theorem dX4_holds_128 : decode cX4_holds 128 = .ok (.goto 58, 3) := by decide +kernel
theorem dX4_holds_131 : decode cX4_holds 131 = .ok (.iload_n 3, 1) := by decide +kernel
theorem dX4_holds_132 : decode cX4_holds 132 = .ok (.ifCond .lt 54, 3) := by decide +kernel
theorem dX4_holds_135 : decode cX4_holds 135 = .ok (.iload_n 3, 1) := by decide +kernel
theorem dX4_holds_136 : decode cX4_holds 136 = .ok (.aload_n 0, 1) := by decide +kernel
theorem dX4_holds_137 : decode cX4_holds 137 = .ok (.getfield 35, 3) := by decide +kernel
theorem dX4_holds_140 : decode cX4_holds 140 = .ok (.arraylength, 1) := by decide +kernel
theorem dX4_holds_141 : decode cX4_holds 141 = .ok (.if_icmp .ge 45, 3) := by decide +kernel
theorem dX4_holds_144 : decode cX4_holds 144 = .ok (.aload_n 0, 1) := by decide +kernel
theorem dX4_holds_145 : decode cX4_holds 145 = .ok (.getfield 35, 3) := by decide +kernel
theorem dX4_holds_148 : decode cX4_holds 148 = .ok (.iload_n 3, 1) := by decide +kernel
theorem dX4_holds_149 : decode cX4_holds 149 = .ok (.iload 5, 2) := by decide +kernel
theorem dX4_holds_151 : decode cX4_holds 151 = .ok (.iconst 2, 1) := by decide +kernel
theorem dX4_holds_152 : decode cX4_holds 152 = .ok (.if_icmp .le 23, 3) := by decide +kernel
theorem dX4_holds_155 : decode cX4_holds 155 = .ok (.iload 5, 2) := by decide +kernel
theorem dX4_holds_157 : decode cX4_holds 157 = .ok (.aload_n 0, 1) := by decide +kernel
theorem dX4_holds_158 : decode cX4_holds 158 = .ok (.getfield 32, 3) := by decide +kernel
theorem dX4_holds_161 : decode cX4_holds 161 = .ok (.arraylength, 1) := by decide +kernel
theorem dX4_holds_162 : decode cX4_holds 162 = .ok (.if_icmp .ge 13, 3) := by decide +kernel
theorem dX4_holds_165 : decode cX4_holds 165 = .ok (.aload_n 0, 1) := by decide +kernel
theorem dX4_holds_166 : decode cX4_holds 166 = .ok (.getfield 32, 3) := by decide +kernel
theorem dX4_holds_169 : decode cX4_holds 169 = .ok (.iload 5, 2) := by decide +kernel
theorem dX4_holds_171 : decode cX4_holds 171 = .ok (.iaload, 1) := by decide +kernel
theorem dX4_holds_172 : decode cX4_holds 172 = .ok (.goto 10, 3) := by decide +kernel
theorem dX4_holds_175 : decode cX4_holds 175 = .ok (.aload_n 0, 1) := by decide +kernel
theorem dX4_holds_176 : decode cX4_holds 176 = .ok (.getfield 27, 3) := by decide +kernel
theorem dX4_holds_179 : decode cX4_holds 179 = .ok (.iload 4, 2) := by decide +kernel
theorem dX4_holds_181 : decode cX4_holds 181 = .ok (.iaload, 1) := by decide +kernel
theorem dX4_holds_182 : decode cX4_holds 182 = .ok (.iastore, 1) := by decide +kernel
theorem dX4_holds_183 : decode cX4_holds 183 = .ok (.iinc 3 1, 3) := by decide +kernel
theorem dX4_holds_186 : decode cX4_holds 186 = .ok (.iinc 4 1, 3) := by decide +kernel
theorem dX4_holds_189 : decode cX4_holds 189 = .ok (.goto (-184), 3) := by decide +kernel
theorem dX4_holds_192 : decode cX4_holds 192 = .ok (.iload_n 3, 1) := by decide +kernel
theorem dX4_holds_193 : decode cX4_holds 193 = .ok (.ifCond .le 12, 3) := by decide +kernel
theorem dX4_holds_196 : decode cX4_holds 196 = .ok (.aload_n 0, 1) := by decide +kernel
theorem dX4_holds_197 : decode cX4_holds 197 = .ok (.getfield 35, 3) := by decide +kernel
theorem dX4_holds_200 : decode cX4_holds 200 = .ok (.iconst 0, 1) := by decide +kernel
theorem dX4_holds_201 : decode cX4_holds 201 = .ok (.iaload, 1) := by decide +kernel
theorem dX4_holds_202 : decode cX4_holds 202 = .ok (.ifCond .eq 7, 3) := by decide +kernel
theorem dX4_holds_205 : decode cX4_holds 205 = .ok (.iconst 1, 1) := by decide +kernel
theorem dX4_holds_206 : decode cX4_holds 206 = .ok (.goto 4, 3) := by decide +kernel
theorem dX4_holds_209 : decode cX4_holds 209 = .ok (.iconst 0, 1) := by decide +kernel
theorem dX4_holds_210 : decode cX4_holds 210 = .ok (.ireturn, 1) := by decide +kernel
theorem dX4_joins_0 : decode cX4_joins 0 = .ok (.iload_n 0, 1) := by decide +kernel
theorem dX4_joins_1 : decode cX4_joins 1 = .ok (.bipush 43, 2) := by decide +kernel
theorem dX4_joins_3 : decode cX4_joins 3 = .ok (.if_icmp .eq 27, 3) := by decide +kernel
theorem dX4_joins_6 : decode cX4_joins 6 = .ok (.iload_n 0, 1) := by decide +kernel
theorem dX4_joins_7 : decode cX4_joins 7 = .ok (.bipush 60, 2) := by decide +kernel
theorem dX4_joins_9 : decode cX4_joins 9 = .ok (.if_icmp .eq 21, 3) := by decide +kernel
theorem dX4_joins_12 : decode cX4_joins 12 = .ok (.iload_n 0, 1) := by decide +kernel
theorem dX4_joins_13 : decode cX4_joins 13 = .ok (.bipush 62, 2) := by decide +kernel
theorem dX4_joins_15 : decode cX4_joins 15 = .ok (.if_icmp .eq 15, 3) := by decide +kernel
theorem dX4_joins_18 : decode cX4_joins 18 = .ok (.iload_n 0, 1) := by decide +kernel
theorem dX4_joins_19 : decode cX4_joins 19 = .ok (.bipush 22, 2) := by decide +kernel
theorem dX4_joins_21 : decode cX4_joins 21 = .ok (.if_icmp .eq 9, 3) := by decide +kernel
theorem dX4_joins_24 : decode cX4_joins 24 = .ok (.iload_n 0, 1) := by decide +kernel
theorem dX4_joins_25 : decode cX4_joins 25 = .ok (.bipush 21, 2) := by decide +kernel
theorem dX4_joins_27 : decode cX4_joins 27 = .ok (.if_icmp .ne 7, 3) := by decide +kernel
theorem dX4_joins_30 : decode cX4_joins 30 = .ok (.iconst 1, 1) := by decide +kernel
theorem dX4_joins_31 : decode cX4_joins 31 = .ok (.goto 4, 3) := by decide +kernel
theorem dX4_joins_34 : decode cX4_joins 34 = .ok (.iconst 0, 1) := by decide +kernel
theorem dX4_joins_35 : decode cX4_joins 35 = .ok (.ireturn, 1) := by decide +kernel
theorem dX4_joined_0 : decode cX4_joined 0 = .ok (.iload_n 0, 1) := by decide +kernel
theorem dX4_joined_1 : decode cX4_joined 1 = .ok (.lookupswitch 73 #[(22, 69), (43, 43), (60, 47), (62, 58)], 43) := by decide +kernel
theorem dX4_joined_44 : decode cX4_joined 44 = .ok (.iload_n 1, 1) := by decide +kernel
theorem dX4_joined_45 : decode cX4_joined 45 = .ok (.iload_n 2, 1) := by decide +kernel
theorem dX4_joined_46 : decode cX4_joined 46 = .ok (.iadd, 1) := by decide +kernel
theorem dX4_joined_47 : decode cX4_joined 47 = .ok (.ireturn, 1) := by decide +kernel
theorem dX4_joined_48 : decode cX4_joined 48 = .ok (.iload_n 1, 1) := by decide +kernel
theorem dX4_joined_49 : decode cX4_joined 49 = .ok (.iload_n 2, 1) := by decide +kernel
theorem dX4_joined_50 : decode cX4_joined 50 = .ok (.if_icmp .ge 7, 3) := by decide +kernel
theorem dX4_joined_53 : decode cX4_joined 53 = .ok (.iconst 1, 1) := by decide +kernel
theorem dX4_joined_54 : decode cX4_joined 54 = .ok (.goto 4, 3) := by decide +kernel
theorem dX4_joined_57 : decode cX4_joined 57 = .ok (.iconst 0, 1) := by decide +kernel
theorem dX4_joined_58 : decode cX4_joined 58 = .ok (.ireturn, 1) := by decide +kernel
theorem dX4_joined_59 : decode cX4_joined 59 = .ok (.iload_n 1, 1) := by decide +kernel
theorem dX4_joined_60 : decode cX4_joined 60 = .ok (.iload_n 2, 1) := by decide +kernel
theorem dX4_joined_61 : decode cX4_joined 61 = .ok (.if_icmp .le 7, 3) := by decide +kernel
theorem dX4_joined_64 : decode cX4_joined 64 = .ok (.iconst 1, 1) := by decide +kernel
theorem dX4_joined_65 : decode cX4_joined 65 = .ok (.goto 4, 3) := by decide +kernel
theorem dX4_joined_68 : decode cX4_joined 68 = .ok (.iconst 0, 1) := by decide +kernel
theorem dX4_joined_69 : decode cX4_joined 69 = .ok (.ireturn, 1) := by decide +kernel
theorem dX4_joined_70 : decode cX4_joined 70 = .ok (.iload_n 1, 1) := by decide +kernel
theorem dX4_joined_71 : decode cX4_joined 71 = .ok (.iload_n 2, 1) := by decide +kernel
theorem dX4_joined_72 : decode cX4_joined 72 = .ok (.iand, 1) := by decide +kernel
theorem dX4_joined_73 : decode cX4_joined 73 = .ok (.ireturn, 1) := by decide +kernel
theorem dX4_joined_74 : decode cX4_joined 74 = .ok (.iload_n 1, 1) := by decide +kernel
theorem dX4_joined_75 : decode cX4_joined 75 = .ok (.iload_n 2, 1) := by decide +kernel
theorem dX4_joined_76 : decode cX4_joined 76 = .ok (.ior, 1) := by decide +kernel
theorem dX4_joined_77 : decode cX4_joined 77 = .ok (.ireturn, 1) := by decide +kernel
theorem dX5_init_0 : decode cX5_init 0 = .ok (.aload_n 0, 1) := by decide +kernel
theorem dX5_init_1 : decode cX5_init 1 = .ok (.bipush 12, 2) := by decide +kernel
theorem dX5_init_3 : decode cX5_init 3 = .ok (.invokespecial 5, 3) := by decide +kernel
theorem dX5_init_6 : decode cX5_init 6 = .ok (.aload_n 0, 1) := by decide +kernel
theorem dX5_init_7 : decode cX5_init 7 = .ok (.aload_n 1, 1) := by decide +kernel
theorem dX5_init_8 : decode cX5_init 8 = .ok (.putfield 11, 3) := by decide +kernel
theorem dX5_init_11 : decode cX5_init 11 = .ok (.return_, 1) := by decide +kernel
theorem dX5_readLine_0 : decode cX5_readLine 0 = .ok (.aload_n 0, 1) := by decide +kernel
theorem dX5_readLine_1 : decode cX5_readLine 1 = .ok (.invokevirtual 17, 3) := by decide +kernel
theorem dX5_readLine_4 : decode cX5_readLine 4 = .ok (.istore_n 1, 1) := by decide +kernel
theorem dX5_readLine_5 : decode cX5_readLine 5 = .ok (.iload_n 1, 1) := by decide +kernel
theorem dX5_readLine_6 : decode cX5_readLine 6 = .ok (.bipush 17, 2) := by decide +kernel
theorem dX5_readLine_8 : decode cX5_readLine 8 = .ok (.if_icmp .eq 17, 3) := by decide +kernel
theorem dX5_readLine_11 : decode cX5_readLine 11 = .ok (.iload_n 1, 1) := by decide +kernel
theorem dX5_readLine_12 : decode cX5_readLine 12 = .ok (.bipush 18, 2) := by decide +kernel
theorem dX5_readLine_14 : decode cX5_readLine 14 = .ok (.if_icmp .eq 11, 3) := by decide +kernel
theorem dX5_readLine_17 : decode cX5_readLine 17 = .ok (.iload_n 1, 1) := by decide +kernel
theorem dX5_readLine_18 : decode cX5_readLine 18 = .ok (.bipush 19, 2) := by decide +kernel
theorem dX5_readLine_20 : decode cX5_readLine 20 = .ok (.if_icmp .eq 5, 3) := by decide +kernel
theorem dX5_readLine_23 : decode cX5_readLine 23 = .ok (.iconst 0, 1) := by decide +kernel
theorem dX5_readLine_24 : decode cX5_readLine 24 = .ok (.ireturn, 1) := by decide +kernel
theorem dX5_readLine_25 : decode cX5_readLine 25 = .ok (.aload_n 0, 1) := by decide +kernel
theorem dX5_readLine_26 : decode cX5_readLine 26 = .ok (.dup, 1) := by decide +kernel
theorem dX5_readLine_27 : decode cX5_readLine 27 = .ok (.getfield 21, 3) := by decide +kernel
theorem dX5_readLine_30 : decode cX5_readLine 30 = .ok (.iconst 1, 1) := by decide +kernel
theorem dX5_readLine_31 : decode cX5_readLine 31 = .ok (.iadd, 1) := by decide +kernel
theorem dX5_readLine_32 : decode cX5_readLine 32 = .ok (.putfield 21, 3) := by decide +kernel
theorem dX5_readLine_35 : decode cX5_readLine 35 = .ok (.iload_n 1, 1) := by decide +kernel
theorem dX5_readLine_36 : decode cX5_readLine 36 = .ok (.bipush 19, 2) := by decide +kernel
theorem dX5_readLine_38 : decode cX5_readLine 38 = .ok (.if_icmp .eq 15, 3) := by decide +kernel
theorem dX5_readLine_41 : decode cX5_readLine 41 = .ok (.aload_n 0, 1) := by decide +kernel
theorem dX5_readLine_42 : decode cX5_readLine 42 = .ok (.iconst 0, 1) := by decide +kernel
theorem dX5_readLine_43 : decode cX5_readLine 43 = .ok (.bipush 60, 2) := by decide +kernel
theorem dX5_readLine_45 : decode cX5_readLine 45 = .ok (.invokevirtual 25, 3) := by decide +kernel
theorem dX5_readLine_48 : decode cX5_readLine 48 = .ok (.ifCond .ne 5, 3) := by decide +kernel
theorem dX5_readLine_51 : decode cX5_readLine 51 = .ok (.iconst 0, 1) := by decide +kernel
theorem dX5_readLine_52 : decode cX5_readLine 52 = .ok (.ireturn, 1) := by decide +kernel
theorem dX5_readLine_53 : decode cX5_readLine 53 = .ok (.iload_n 1, 1) := by decide +kernel
theorem dX5_readLine_54 : decode cX5_readLine 54 = .ok (.bipush 19, 2) := by decide +kernel
theorem dX5_readLine_56 : decode cX5_readLine 56 = .ok (.if_icmp .ne 7, 3) := by decide +kernel
theorem dX5_readLine_59 : decode cX5_readLine 59 = .ok (.iconst 0, 1) := by decide +kernel
theorem dX5_readLine_60 : decode cX5_readLine 60 = .ok (.goto 7, 3) := by decide +kernel
theorem dX5_readLine_63 : decode cX5_readLine 63 = .ok (.aload_n 0, 1) := by decide +kernel
theorem dX5_readLine_64 : decode cX5_readLine 64 = .ok (.getfield 29, 3) := by decide +kernel
theorem dX5_readLine_67 : decode cX5_readLine 67 = .ok (.istore_n 2, 1) := by decide +kernel
theorem dX5_readLine_68 : decode cX5_readLine 68 = .ok (.aload_n 0, 1) := by decide +kernel
theorem dX5_readLine_69 : decode cX5_readLine 69 = .ok (.getfield 11, 3) := by decide +kernel
theorem dX5_readLine_72 : decode cX5_readLine 72 = .ok (.getfield 32, 3) := by decide +kernel
theorem dX5_readLine_75 : decode cX5_readLine 75 = .ok (.istore_n 3, 1) := by decide +kernel
theorem dX5_readLine_76 : decode cX5_readLine 76 = .ok (.aload_n 0, 1) := by decide +kernel
theorem dX5_readLine_77 : decode cX5_readLine 77 = .ok (.bipush 20, 2) := by decide +kernel
theorem dX5_readLine_79 : decode cX5_readLine 79 = .ok (.invokevirtual 35, 3) := by decide +kernel
theorem dX5_readLine_82 : decode cX5_readLine 82 = .ok (.ifCond .eq 13, 3) := by decide +kernel
theorem dX5_readLine_85 : decode cX5_readLine 85 = .ok (.aload_n 0, 1) := by decide +kernel
theorem dX5_readLine_86 : decode cX5_readLine 86 = .ok (.iconst 0, 1) := by decide +kernel
theorem dX5_readLine_87 : decode cX5_readLine 87 = .ok (.invokevirtual 39, 3) := by decide +kernel
theorem dX5_readLine_90 : decode cX5_readLine 90 = .ok (.ifCond .ne 5, 3) := by decide +kernel
theorem dX5_readLine_93 : decode cX5_readLine 93 = .ok (.iconst 0, 1) := by decide +kernel
theorem dX5_readLine_94 : decode cX5_readLine 94 = .ok (.ireturn, 1) := by decide +kernel
theorem dX5_readLine_95 : decode cX5_readLine 95 = .ok (.aload_n 0, 1) := by decide +kernel
theorem dX5_readLine_96 : decode cX5_readLine 96 = .ok (.getfield 11, 3) := by decide +kernel
theorem dX5_readLine_99 : decode cX5_readLine 99 = .ok (.iload_n 1, 1) := by decide +kernel
theorem dX5_readLine_100 : decode cX5_readLine 100 = .ok (.iload_n 2, 1) := by decide +kernel
theorem dX5_readLine_101 : decode cX5_readLine 101 = .ok (.iload_n 3, 1) := by decide +kernel
theorem dX5_readLine_102 : decode cX5_readLine 102 = .ok (.invokevirtual 42, 3) := by decide +kernel
theorem dX5_readLine_105 : decode cX5_readLine 105 = .ok (.iconst 1, 1) := by decide +kernel
theorem dX5_readLine_106 : decode cX5_readLine 106 = .ok (.ireturn, 1) := by decide +kernel
theorem dX5_readAny_0 : decode cX5_readAny 0 = .ok (.aload_n 0, 1) := by decide +kernel
theorem dX5_readAny_1 : decode cX5_readAny 1 = .ok (.iload_n 1, 1) := by decide +kernel
theorem dX5_readAny_2 : decode cX5_readAny 2 = .ok (.invokevirtual 46, 3) := by decide +kernel
theorem dX5_readAny_5 : decode cX5_readAny 5 = .ok (.ifCond .ne 5, 3) := by decide +kernel
theorem dX5_readAny_8 : decode cX5_readAny 8 = .ok (.iconst 0, 1) := by decide +kernel
theorem dX5_readAny_9 : decode cX5_readAny 9 = .ok (.ireturn, 1) := by decide +kernel
theorem dX5_readAny_10 : decode cX5_readAny 10 = .ok (.iconst 0, 1) := by decide +kernel
theorem dX5_readAny_11 : decode cX5_readAny 11 = .ok (.istore_n 2, 1) := by decide +kernel
theorem dX5_readAny_12 : decode cX5_readAny 12 = .ok (.iload_n 2, 1) := by decide +kernel
theorem dX5_readAny_13 : decode cX5_readAny 13 = .ok (.sipush 400, 3) := by decide +kernel
theorem dX5_readAny_16 : decode cX5_readAny 16 = .ok (.if_icmp .ge 38, 3) := by decide +kernel
theorem dX5_readAny_19 : decode cX5_readAny 19 = .ok (.aload_n 0, 1) := by decide +kernel
theorem dX5_readAny_20 : decode cX5_readAny 20 = .ok (.bipush 21, 2) := by decide +kernel
theorem dX5_readAny_22 : decode cX5_readAny 22 = .ok (.invokevirtual 35, 3) := by decide +kernel
theorem dX5_readAny_25 : decode cX5_readAny 25 = .ok (.ifCond .eq 29, 3) := by decide +kernel
theorem dX5_readAny_28 : decode cX5_readAny 28 = .ok (.aload_n 0, 1) := by decide +kernel
theorem dX5_readAny_29 : decode cX5_readAny 29 = .ok (.iload_n 1, 1) := by decide +kernel
theorem dX5_readAny_30 : decode cX5_readAny 30 = .ok (.invokevirtual 46, 3) := by decide +kernel
theorem dX5_readAny_33 : decode cX5_readAny 33 = .ok (.ifCond .ne 5, 3) := by decide +kernel
theorem dX5_readAny_36 : decode cX5_readAny 36 = .ok (.iconst 0, 1) := by decide +kernel
theorem dX5_readAny_37 : decode cX5_readAny 37 = .ok (.ireturn, 1) := by decide +kernel
theorem dX5_readAny_38 : decode cX5_readAny 38 = .ok (.aload_n 0, 1) := by decide +kernel
theorem dX5_readAny_39 : decode cX5_readAny 39 = .ok (.getfield 11, 3) := by decide +kernel
theorem dX5_readAny_42 : decode cX5_readAny 42 = .ok (.bipush 21, 2) := by decide +kernel
theorem dX5_readAny_44 : decode cX5_readAny 44 = .ok (.iconst 0, 1) := by decide +kernel
theorem dX5_readAny_45 : decode cX5_readAny 45 = .ok (.invokevirtual 49, 3) := by decide +kernel
theorem dX5_readAny_48 : decode cX5_readAny 48 = .ok (.iinc 2 1, 3) := by decide +kernel
theorem dX5_readAny_51 : decode cX5_readAny 51 = .ok (.goto (-39), 3) := by decide +kernel
theorem dX5_readAny_54 : decode cX5_readAny 54 = .ok (.iconst 1, 1) := by decide +kernel
theorem dX5_readAny_55 : decode cX5_readAny 55 = .ok (.ireturn, 1) := by decide +kernel
theorem dX5_readAll_0 : decode cX5_readAll 0 = .ok (.aload_n 0, 1) := by decide +kernel
theorem dX5_readAll_1 : decode cX5_readAll 1 = .ok (.iload_n 1, 1) := by decide +kernel
theorem dX5_readAll_2 : decode cX5_readAll 2 = .ok (.invokevirtual 53, 3) := by decide +kernel
theorem dX5_readAll_5 : decode cX5_readAll 5 = .ok (.ifCond .ne 5, 3) := by decide +kernel
theorem dX5_readAll_8 : decode cX5_readAll 8 = .ok (.iconst 0, 1) := by decide +kernel
theorem dX5_readAll_9 : decode cX5_readAll 9 = .ok (.ireturn, 1) := by decide +kernel
theorem dX5_readAll_10 : decode cX5_readAll 10 = .ok (.iconst 0, 1) := by decide +kernel
theorem dX5_readAll_11 : decode cX5_readAll 11 = .ok (.istore_n 2, 1) := by decide +kernel
theorem dX5_readAll_12 : decode cX5_readAll 12 = .ok (.iload_n 2, 1) := by decide +kernel
theorem dX5_readAll_13 : decode cX5_readAll 13 = .ok (.sipush 400, 3) := by decide +kernel
theorem dX5_readAll_16 : decode cX5_readAll 16 = .ok (.if_icmp .ge 38, 3) := by decide +kernel
theorem dX5_readAll_19 : decode cX5_readAll 19 = .ok (.aload_n 0, 1) := by decide +kernel
theorem dX5_readAll_20 : decode cX5_readAll 20 = .ok (.bipush 22, 2) := by decide +kernel
theorem dX5_readAll_22 : decode cX5_readAll 22 = .ok (.invokevirtual 35, 3) := by decide +kernel
theorem dX5_readAll_25 : decode cX5_readAll 25 = .ok (.ifCond .eq 29, 3) := by decide +kernel
theorem dX5_readAll_28 : decode cX5_readAll 28 = .ok (.aload_n 0, 1) := by decide +kernel
theorem dX5_readAll_29 : decode cX5_readAll 29 = .ok (.iload_n 1, 1) := by decide +kernel
theorem dX5_readAll_30 : decode cX5_readAll 30 = .ok (.invokevirtual 53, 3) := by decide +kernel
theorem dX5_readAll_33 : decode cX5_readAll 33 = .ok (.ifCond .ne 5, 3) := by decide +kernel
theorem dX5_readAll_36 : decode cX5_readAll 36 = .ok (.iconst 0, 1) := by decide +kernel
theorem dX5_readAll_37 : decode cX5_readAll 37 = .ok (.ireturn, 1) := by decide +kernel
theorem dX5_readAll_38 : decode cX5_readAll 38 = .ok (.aload_n 0, 1) := by decide +kernel
theorem dX5_readAll_39 : decode cX5_readAll 39 = .ok (.getfield 11, 3) := by decide +kernel
theorem dX5_readAll_42 : decode cX5_readAll 42 = .ok (.bipush 22, 2) := by decide +kernel
theorem dX5_readAll_44 : decode cX5_readAll 44 = .ok (.iconst 0, 1) := by decide +kernel
theorem dX5_readAll_45 : decode cX5_readAll 45 = .ok (.invokevirtual 49, 3) := by decide +kernel
theorem dX5_readAll_48 : decode cX5_readAll 48 = .ok (.iinc 2 1, 3) := by decide +kernel
theorem dX5_readAll_51 : decode cX5_readAll 51 = .ok (.goto (-39), 3) := by decide +kernel
theorem dX5_readAll_54 : decode cX5_readAll 54 = .ok (.iconst 1, 1) := by decide +kernel
theorem dX5_readAll_55 : decode cX5_readAll 55 = .ok (.ireturn, 1) := by decide +kernel
theorem dX5_readAtom_0 : decode cX5_readAtom 0 = .ok (.aload_n 0, 1) := by decide +kernel
theorem dX5_readAtom_1 : decode cX5_readAtom 1 = .ok (.invokevirtual 17, 3) := by decide +kernel
theorem dX5_readAtom_4 : decode cX5_readAtom 4 = .ok (.istore_n 2, 1) := by decide +kernel
theorem dX5_readAtom_5 : decode cX5_readAtom 5 = .ok (.iload_n 2, 1) := by decide +kernel
theorem dX5_readAtom_6 : decode cX5_readAtom 6 = .ok (.bipush 40, 2) := by decide +kernel
theorem dX5_readAtom_8 : decode cX5_readAtom 8 = .ok (.if_icmp .eq 9, 3) := by decide +kernel
theorem dX5_readAtom_11 : decode cX5_readAtom 11 = .ok (.iload_n 2, 1) := by decide +kernel
theorem dX5_readAtom_12 : decode cX5_readAtom 12 = .ok (.bipush 23, 2) := by decide +kernel
theorem dX5_readAtom_14 : decode cX5_readAtom 14 = .ok (.if_icmp .ne 76, 3) := by decide +kernel
theorem dX5_readAtom_17 : decode cX5_readAtom 17 = .ok (.iload_n 1, 1) := by decide +kernel
theorem dX5_readAtom_18 : decode cX5_readAtom 18 = .ok (.bipush 6, 2) := by decide +kernel
theorem dX5_readAtom_20 : decode cX5_readAtom 20 = .ok (.if_icmp .lt 5, 3) := by decide +kernel
theorem dX5_readAtom_23 : decode cX5_readAtom 23 = .ok (.iconst 0, 1) := by decide +kernel
theorem dX5_readAtom_24 : decode cX5_readAtom 24 = .ok (.ireturn, 1) := by decide +kernel
theorem dX5_readAtom_25 : decode cX5_readAtom 25 = .ok (.aload_n 0, 1) := by decide +kernel
theorem dX5_readAtom_26 : decode cX5_readAtom 26 = .ok (.dup, 1) := by decide +kernel
theorem dX5_readAtom_27 : decode cX5_readAtom 27 = .ok (.getfield 21, 3) := by decide +kernel
theorem dX5_readAtom_30 : decode cX5_readAtom 30 = .ok (.iconst 1, 1) := by decide +kernel
theorem dX5_readAtom_31 : decode cX5_readAtom 31 = .ok (.iadd, 1) := by decide +kernel
theorem dX5_readAtom_32 : decode cX5_readAtom 32 = .ok (.putfield 21, 3) := by decide +kernel
theorem dX5_readAtom_35 : decode cX5_readAtom 35 = .ok (.iload_n 2, 1) := by decide +kernel
theorem dX5_readAtom_36 : decode cX5_readAtom 36 = .ok (.bipush 40, 2) := by decide +kernel
theorem dX5_readAtom_38 : decode cX5_readAtom 38 = .ok (.if_icmp .ne 28, 3) := by decide +kernel
theorem dX5_readAtom_41 : decode cX5_readAtom 41 = .ok (.aload_n 0, 1) := by decide +kernel
theorem dX5_readAtom_42 : decode cX5_readAtom 42 = .ok (.iload_n 1, 1) := by decide +kernel
theorem dX5_readAtom_43 : decode cX5_readAtom 43 = .ok (.iconst 1, 1) := by decide +kernel
theorem dX5_readAtom_44 : decode cX5_readAtom 44 = .ok (.iadd, 1) := by decide +kernel
theorem dX5_readAtom_45 : decode cX5_readAtom 45 = .ok (.invokevirtual 39, 3) := by decide +kernel
theorem dX5_readAtom_48 : decode cX5_readAtom 48 = .ok (.ifCond .eq 16, 3) := by decide +kernel
theorem dX5_readAtom_51 : decode cX5_readAtom 51 = .ok (.aload_n 0, 1) := by decide +kernel
theorem dX5_readAtom_52 : decode cX5_readAtom 52 = .ok (.bipush 41, 2) := by decide +kernel
theorem dX5_readAtom_54 : decode cX5_readAtom 54 = .ok (.invokevirtual 35, 3) := by decide +kernel
theorem dX5_readAtom_57 : decode cX5_readAtom 57 = .ok (.ifCond .eq 7, 3) := by decide +kernel
theorem dX5_readAtom_60 : decode cX5_readAtom 60 = .ok (.iconst 1, 1) := by decide +kernel
theorem dX5_readAtom_61 : decode cX5_readAtom 61 = .ok (.goto 4, 3) := by decide +kernel
theorem dX5_readAtom_64 : decode cX5_readAtom 64 = .ok (.iconst 0, 1) := by decide +kernel
theorem dX5_readAtom_65 : decode cX5_readAtom 65 = .ok (.ireturn, 1) := by decide +kernel
theorem dX5_readAtom_66 : decode cX5_readAtom 66 = .ok (.aload_n 0, 1) := by decide +kernel
theorem dX5_readAtom_67 : decode cX5_readAtom 67 = .ok (.iload_n 1, 1) := by decide +kernel
theorem dX5_readAtom_68 : decode cX5_readAtom 68 = .ok (.iconst 1, 1) := by decide +kernel
theorem dX5_readAtom_69 : decode cX5_readAtom 69 = .ok (.iadd, 1) := by decide +kernel
theorem dX5_readAtom_70 : decode cX5_readAtom 70 = .ok (.invokevirtual 53, 3) := by decide +kernel
theorem dX5_readAtom_73 : decode cX5_readAtom 73 = .ok (.ifCond .ne 5, 3) := by decide +kernel
theorem dX5_readAtom_76 : decode cX5_readAtom 76 = .ok (.iconst 0, 1) := by decide +kernel
theorem dX5_readAtom_77 : decode cX5_readAtom 77 = .ok (.ireturn, 1) := by decide +kernel
theorem dX5_readAtom_78 : decode cX5_readAtom 78 = .ok (.aload_n 0, 1) := by decide +kernel
theorem dX5_readAtom_79 : decode cX5_readAtom 79 = .ok (.getfield 11, 3) := by decide +kernel
theorem dX5_readAtom_82 : decode cX5_readAtom 82 = .ok (.bipush 23, 2) := by decide +kernel
theorem dX5_readAtom_84 : decode cX5_readAtom 84 = .ok (.iconst 0, 1) := by decide +kernel
theorem dX5_readAtom_85 : decode cX5_readAtom 85 = .ok (.invokevirtual 49, 3) := by decide +kernel
theorem dX5_readAtom_88 : decode cX5_readAtom 88 = .ok (.iconst 1, 1) := by decide +kernel
theorem dX5_readAtom_89 : decode cX5_readAtom 89 = .ok (.ireturn, 1) := by decide +kernel
theorem dX5_readAtom_90 : decode cX5_readAtom 90 = .ok (.iload_n 2, 1) := by decide +kernel
theorem dX5_readAtom_91 : decode cX5_readAtom 91 = .ok (.bipush 12, 2) := by decide +kernel
theorem dX5_readAtom_93 : decode cX5_readAtom 93 = .ok (.if_icmp .eq 15, 3) := by decide +kernel
theorem dX5_readAtom_96 : decode cX5_readAtom 96 = .ok (.iload_n 2, 1) := by decide +kernel
theorem dX5_readAtom_97 : decode cX5_readAtom 97 = .ok (.bipush 24, 2) := by decide +kernel
theorem dX5_readAtom_99 : decode cX5_readAtom 99 = .ok (.if_icmp .eq 9, 3) := by decide +kernel
theorem dX5_readAtom_102 : decode cX5_readAtom 102 = .ok (.iload_n 2, 1) := by decide +kernel
theorem dX5_readAtom_103 : decode cX5_readAtom 103 = .ok (.bipush 25, 2) := by decide +kernel
theorem dX5_readAtom_105 : decode cX5_readAtom 105 = .ok (.if_icmp .ne 24, 3) := by decide +kernel
theorem dX5_readAtom_108 : decode cX5_readAtom 108 = .ok (.aload_n 0, 1) := by decide +kernel
theorem dX5_readAtom_109 : decode cX5_readAtom 109 = .ok (.dup, 1) := by decide +kernel
theorem dX5_readAtom_110 : decode cX5_readAtom 110 = .ok (.getfield 21, 3) := by decide +kernel
theorem dX5_readAtom_113 : decode cX5_readAtom 113 = .ok (.iconst 1, 1) := by decide +kernel
theorem dX5_readAtom_114 : decode cX5_readAtom 114 = .ok (.iadd, 1) := by decide +kernel
theorem dX5_readAtom_115 : decode cX5_readAtom 115 = .ok (.putfield 21, 3) := by decide +kernel
theorem dX5_readAtom_118 : decode cX5_readAtom 118 = .ok (.aload_n 0, 1) := by decide +kernel
theorem dX5_readAtom_119 : decode cX5_readAtom 119 = .ok (.getfield 11, 3) := by decide +kernel
theorem dX5_readAtom_122 : decode cX5_readAtom 122 = .ok (.iload_n 2, 1) := by decide +kernel
theorem dX5_readAtom_123 : decode cX5_readAtom 123 = .ok (.iconst 0, 1) := by decide +kernel
theorem dX5_readAtom_124 : decode cX5_readAtom 124 = .ok (.invokevirtual 49, 3) := by decide +kernel
theorem dX5_readAtom_127 : decode cX5_readAtom 127 = .ok (.iconst 1, 1) := by decide +kernel
theorem dX5_readAtom_128 : decode cX5_readAtom 128 = .ok (.ireturn, 1) := by decide +kernel
theorem dX5_readAtom_129 : decode cX5_readAtom 129 = .ok (.aload_n 0, 1) := by decide +kernel
theorem dX5_readAtom_130 : decode cX5_readAtom 130 = .ok (.invokevirtual 56, 3) := by decide +kernel
theorem dX5_readAtom_133 : decode cX5_readAtom 133 = .ok (.ireturn, 1) := by decide +kernel
