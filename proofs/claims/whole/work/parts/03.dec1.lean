theorem dX5_readComparison_0 : decode cX5_readComparison 0 = .ok (.aload_n 0, 1) := by decide +kernel
theorem dX5_readComparison_1 : decode cX5_readComparison 1 = .ok (.invokevirtual 60, 3) := by decide +kernel
theorem dX5_readComparison_4 : decode cX5_readComparison 4 = .ok (.ifCond .ne 5, 3) := by decide +kernel
theorem dX5_readComparison_7 : decode cX5_readComparison 7 = .ok (.iconst 0, 1) := by decide +kernel
theorem dX5_readComparison_8 : decode cX5_readComparison 8 = .ok (.ireturn, 1) := by decide +kernel
theorem dX5_readComparison_9 : decode cX5_readComparison 9 = .ok (.aload_n 0, 1) := by decide +kernel
theorem dX5_readComparison_10 : decode cX5_readComparison 10 = .ok (.invokevirtual 17, 3) := by decide +kernel
theorem dX5_readComparison_13 : decode cX5_readComparison 13 = .ok (.istore_n 1, 1) := by decide +kernel
theorem dX5_readComparison_14 : decode cX5_readComparison 14 = .ok (.iload_n 1, 1) := by decide +kernel
theorem dX5_readComparison_15 : decode cX5_readComparison 15 = .ok (.bipush 60, 2) := by decide +kernel
theorem dX5_readComparison_17 : decode cX5_readComparison 17 = .ok (.if_icmp .eq 11, 3) := by decide +kernel
theorem dX5_readComparison_20 : decode cX5_readComparison 20 = .ok (.iload_n 1, 1) := by decide +kernel
theorem dX5_readComparison_21 : decode cX5_readComparison 21 = .ok (.bipush 62, 2) := by decide +kernel
theorem dX5_readComparison_23 : decode cX5_readComparison 23 = .ok (.if_icmp .eq 5, 3) := by decide +kernel
theorem dX5_readComparison_26 : decode cX5_readComparison 26 = .ok (.iconst 0, 1) := by decide +kernel
theorem dX5_readComparison_27 : decode cX5_readComparison 27 = .ok (.ireturn, 1) := by decide +kernel
theorem dX5_readComparison_28 : decode cX5_readComparison 28 = .ok (.aload_n 0, 1) := by decide +kernel
theorem dX5_readComparison_29 : decode cX5_readComparison 29 = .ok (.dup, 1) := by decide +kernel
theorem dX5_readComparison_30 : decode cX5_readComparison 30 = .ok (.getfield 21, 3) := by decide +kernel
theorem dX5_readComparison_33 : decode cX5_readComparison 33 = .ok (.iconst 1, 1) := by decide +kernel
theorem dX5_readComparison_34 : decode cX5_readComparison 34 = .ok (.iadd, 1) := by decide +kernel
theorem dX5_readComparison_35 : decode cX5_readComparison 35 = .ok (.putfield 21, 3) := by decide +kernel
theorem dX5_readComparison_38 : decode cX5_readComparison 38 = .ok (.aload_n 0, 1) := by decide +kernel
theorem dX5_readComparison_39 : decode cX5_readComparison 39 = .ok (.invokevirtual 60, 3) := by decide +kernel
theorem dX5_readComparison_42 : decode cX5_readComparison 42 = .ok (.ifCond .ne 5, 3) := by decide +kernel
theorem dX5_readComparison_45 : decode cX5_readComparison 45 = .ok (.iconst 0, 1) := by decide +kernel
theorem dX5_readComparison_46 : decode cX5_readComparison 46 = .ok (.ireturn, 1) := by decide +kernel
theorem dX5_readComparison_47 : decode cX5_readComparison 47 = .ok (.aload_n 0, 1) := by decide +kernel
theorem dX5_readComparison_48 : decode cX5_readComparison 48 = .ok (.getfield 11, 3) := by decide +kernel
theorem dX5_readComparison_51 : decode cX5_readComparison 51 = .ok (.iload_n 1, 1) := by decide +kernel
theorem dX5_readComparison_52 : decode cX5_readComparison 52 = .ok (.iconst 0, 1) := by decide +kernel
theorem dX5_readComparison_53 : decode cX5_readComparison 53 = .ok (.invokevirtual 49, 3) := by decide +kernel
theorem dX5_readComparison_56 : decode cX5_readComparison 56 = .ok (.iconst 1, 1) := by decide +kernel
theorem dX5_readComparison_57 : decode cX5_readComparison 57 = .ok (.ireturn, 1) := by decide +kernel
theorem dX5_readSum_0 : decode cX5_readSum 0 = .ok (.iconst 0, 1) := by decide +kernel
theorem dX5_readSum_1 : decode cX5_readSum 1 = .ok (.istore_n 1, 1) := by decide +kernel
theorem dX5_readSum_2 : decode cX5_readSum 2 = .ok (.iload_n 1, 1) := by decide +kernel
theorem dX5_readSum_3 : decode cX5_readSum 3 = .ok (.sipush 400, 3) := by decide +kernel
theorem dX5_readSum_6 : decode cX5_readSum 6 = .ok (.if_icmp .ge 70, 3) := by decide +kernel
theorem dX5_readSum_9 : decode cX5_readSum 9 = .ok (.aload_n 0, 1) := by decide +kernel
theorem dX5_readSum_10 : decode cX5_readSum 10 = .ok (.invokevirtual 17, 3) := by decide +kernel
theorem dX5_readSum_13 : decode cX5_readSum 13 = .ok (.istore_n 2, 1) := by decide +kernel
theorem dX5_readSum_14 : decode cX5_readSum 14 = .ok (.iload_n 2, 1) := by decide +kernel
theorem dX5_readSum_15 : decode cX5_readSum 15 = .ok (.invokestatic 63, 3) := by decide +kernel
theorem dX5_readSum_18 : decode cX5_readSum 18 = .ok (.ifCond .ne 5, 3) := by decide +kernel
theorem dX5_readSum_21 : decode cX5_readSum 21 = .ok (.iconst 0, 1) := by decide +kernel
theorem dX5_readSum_22 : decode cX5_readSum 22 = .ok (.ireturn, 1) := by decide +kernel
theorem dX5_readSum_23 : decode cX5_readSum 23 = .ok (.aload_n 0, 1) := by decide +kernel
theorem dX5_readSum_24 : decode cX5_readSum 24 = .ok (.getfield 11, 3) := by decide +kernel
theorem dX5_readSum_27 : decode cX5_readSum 27 = .ok (.iload_n 2, 1) := by decide +kernel
theorem dX5_readSum_28 : decode cX5_readSum 28 = .ok (.aload_n 0, 1) := by decide +kernel
theorem dX5_readSum_29 : decode cX5_readSum 29 = .ok (.invokevirtual 66, 3) := by decide +kernel
theorem dX5_readSum_32 : decode cX5_readSum 32 = .ok (.invokevirtual 49, 3) := by decide +kernel
theorem dX5_readSum_35 : decode cX5_readSum 35 = .ok (.aload_n 0, 1) := by decide +kernel
theorem dX5_readSum_36 : decode cX5_readSum 36 = .ok (.dup, 1) := by decide +kernel
theorem dX5_readSum_37 : decode cX5_readSum 37 = .ok (.getfield 21, 3) := by decide +kernel
theorem dX5_readSum_40 : decode cX5_readSum 40 = .ok (.iconst 1, 1) := by decide +kernel
theorem dX5_readSum_41 : decode cX5_readSum 41 = .ok (.iadd, 1) := by decide +kernel
theorem dX5_readSum_42 : decode cX5_readSum 42 = .ok (.putfield 21, 3) := by decide +kernel
theorem dX5_readSum_45 : decode cX5_readSum 45 = .ok (.iload_n 1, 1) := by decide +kernel
theorem dX5_readSum_46 : decode cX5_readSum 46 = .ok (.ifCond .le 13, 3) := by decide +kernel
theorem dX5_readSum_49 : decode cX5_readSum 49 = .ok (.aload_n 0, 1) := by decide +kernel
theorem dX5_readSum_50 : decode cX5_readSum 50 = .ok (.getfield 11, 3) := by decide +kernel
theorem dX5_readSum_53 : decode cX5_readSum 53 = .ok (.bipush 43, 2) := by decide +kernel
theorem dX5_readSum_55 : decode cX5_readSum 55 = .ok (.iconst 0, 1) := by decide +kernel
theorem dX5_readSum_56 : decode cX5_readSum 56 = .ok (.invokevirtual 49, 3) := by decide +kernel
theorem dX5_readSum_59 : decode cX5_readSum 59 = .ok (.aload_n 0, 1) := by decide +kernel
theorem dX5_readSum_60 : decode cX5_readSum 60 = .ok (.bipush 43, 2) := by decide +kernel
theorem dX5_readSum_62 : decode cX5_readSum 62 = .ok (.invokevirtual 35, 3) := by decide +kernel
theorem dX5_readSum_65 : decode cX5_readSum 65 = .ok (.ifCond .ne 5, 3) := by decide +kernel
theorem dX5_readSum_68 : decode cX5_readSum 68 = .ok (.iconst 1, 1) := by decide +kernel
theorem dX5_readSum_69 : decode cX5_readSum 69 = .ok (.ireturn, 1) := by decide +kernel
theorem dX5_readSum_70 : decode cX5_readSum 70 = .ok (.iinc 1 1, 3) := by decide +kernel
theorem dX5_readSum_73 : decode cX5_readSum 73 = .ok (.goto (-71), 3) := by decide +kernel
theorem dX5_readSum_76 : decode cX5_readSum 76 = .ok (.iconst 0, 1) := by decide +kernel
theorem dX5_readSum_77 : decode cX5_readSum 77 = .ok (.ireturn, 1) := by decide +kernel
theorem dX5_isPart_0 : decode cX5_isPart 0 = .ok (.iload_n 0, 1) := by decide +kernel
theorem dX5_isPart_1 : decode cX5_isPart 1 = .ok (.iconst 2, 1) := by decide +kernel
theorem dX5_isPart_2 : decode cX5_isPart 2 = .ok (.if_icmp .eq 39, 3) := by decide +kernel
theorem dX5_isPart_5 : decode cX5_isPart 5 = .ok (.iload_n 0, 1) := by decide +kernel
theorem dX5_isPart_6 : decode cX5_isPart 6 = .ok (.bipush 26, 2) := by decide +kernel
theorem dX5_isPart_8 : decode cX5_isPart 8 = .ok (.if_icmp .eq 33, 3) := by decide +kernel
theorem dX5_isPart_11 : decode cX5_isPart 11 = .ok (.iload_n 0, 1) := by decide +kernel
theorem dX5_isPart_12 : decode cX5_isPart 12 = .ok (.bipush 27, 2) := by decide +kernel
theorem dX5_isPart_14 : decode cX5_isPart 14 = .ok (.if_icmp .eq 27, 3) := by decide +kernel
theorem dX5_isPart_17 : decode cX5_isPart 17 = .ok (.iload_n 0, 1) := by decide +kernel
theorem dX5_isPart_18 : decode cX5_isPart 18 = .ok (.bipush 6, 2) := by decide +kernel
theorem dX5_isPart_20 : decode cX5_isPart 20 = .ok (.if_icmp .eq 21, 3) := by decide +kernel
theorem dX5_isPart_23 : decode cX5_isPart 23 = .ok (.iload_n 0, 1) := by decide +kernel
theorem dX5_isPart_24 : decode cX5_isPart 24 = .ok (.bipush 28, 2) := by decide +kernel
theorem dX5_isPart_26 : decode cX5_isPart 26 = .ok (.if_icmp .eq 15, 3) := by decide +kernel
theorem dX5_isPart_29 : decode cX5_isPart 29 = .ok (.iload_n 0, 1) := by decide +kernel
theorem dX5_isPart_30 : decode cX5_isPart 30 = .ok (.bipush 29, 2) := by decide +kernel
theorem dX5_isPart_32 : decode cX5_isPart 32 = .ok (.if_icmp .eq 9, 3) := by decide +kernel
theorem dX5_isPart_35 : decode cX5_isPart 35 = .ok (.iload_n 0, 1) := by decide +kernel
theorem dX5_isPart_36 : decode cX5_isPart 36 = .ok (.bipush 16, 2) := by decide +kernel
theorem dX5_isPart_38 : decode cX5_isPart 38 = .ok (.if_icmp .ne 7, 3) := by decide +kernel
theorem dX5_isPart_41 : decode cX5_isPart 41 = .ok (.iconst 1, 1) := by decide +kernel
theorem dX5_isPart_42 : decode cX5_isPart 42 = .ok (.goto 4, 3) := by decide +kernel
theorem dX5_isPart_45 : decode cX5_isPart 45 = .ok (.iconst 0, 1) := by decide +kernel
theorem dX5_isPart_46 : decode cX5_isPart 46 = .ok (.ireturn, 1) := by decide +kernel
theorem dX6_init_0 : decode cX6_init 0 = .ok (.aload_n 0, 1) := by decide +kernel
theorem dX6_init_1 : decode cX6_init 1 = .ok (.invokespecial 3, 3) := by decide +kernel
theorem dX6_init_4 : decode cX6_init 4 = .ok (.aload_n 0, 1) := by decide +kernel
theorem dX6_init_5 : decode cX6_init 5 = .ok (.sipush 300, 3) := by decide +kernel
theorem dX6_init_8 : decode cX6_init 8 = .ok (.newarray .int, 2) := by decide +kernel
theorem dX6_init_10 : decode cX6_init 10 = .ok (.putfield 11, 3) := by decide +kernel
theorem dX6_init_13 : decode cX6_init 13 = .ok (.aload_n 0, 1) := by decide +kernel
theorem dX6_init_14 : decode cX6_init 14 = .ok (.iconst 0, 1) := by decide +kernel
theorem dX6_init_15 : decode cX6_init 15 = .ok (.putfield 15, 3) := by decide +kernel
theorem dX6_init_18 : decode cX6_init 18 = .ok (.aload_n 0, 1) := by decide +kernel
theorem dX6_init_19 : decode cX6_init 19 = .ok (.iconst 0, 1) := by decide +kernel
theorem dX6_init_20 : decode cX6_init 20 = .ok (.putfield 19, 3) := by decide +kernel
theorem dX6_init_23 : decode cX6_init 23 = .ok (.return_, 1) := by decide +kernel
theorem dX6_take_0 : decode cX6_take 0 = .ok (.aload_n 1, 1) := by decide +kernel
theorem dX6_take_1 : decode cX6_take 1 = .ok (.getfield 11, 3) := by decide +kernel
theorem dX6_take_4 : decode cX6_take 4 = .ok (.iconst 0, 1) := by decide +kernel
theorem dX6_take_5 : decode cX6_take 5 = .ok (.aload_n 0, 1) := by decide +kernel
theorem dX6_take_6 : decode cX6_take 6 = .ok (.getfield 11, 3) := by decide +kernel
theorem dX6_take_9 : decode cX6_take 9 = .ok (.iconst 0, 1) := by decide +kernel
theorem dX6_take_10 : decode cX6_take 10 = .ok (.aload_n 0, 1) := by decide +kernel
theorem dX6_take_11 : decode cX6_take 11 = .ok (.getfield 11, 3) := by decide +kernel
theorem dX6_take_14 : decode cX6_take 14 = .ok (.arraylength, 1) := by decide +kernel
theorem dX6_take_15 : decode cX6_take 15 = .ok (.invokestatic 22, 3) := by decide +kernel
theorem dX6_take_18 : decode cX6_take 18 = .ok (.aload_n 0, 1) := by decide +kernel
theorem dX6_take_19 : decode cX6_take 19 = .ok (.aload_n 1, 1) := by decide +kernel
theorem dX6_take_20 : decode cX6_take 20 = .ok (.getfield 15, 3) := by decide +kernel
theorem dX6_take_23 : decode cX6_take 23 = .ok (.putfield 15, 3) := by decide +kernel
theorem dX6_take_26 : decode cX6_take 26 = .ok (.aload_n 0, 1) := by decide +kernel
theorem dX6_take_27 : decode cX6_take 27 = .ok (.aload_n 1, 1) := by decide +kernel
theorem dX6_take_28 : decode cX6_take 28 = .ok (.getfield 19, 3) := by decide +kernel
theorem dX6_take_31 : decode cX6_take 31 = .ok (.putfield 19, 3) := by decide +kernel
theorem dX6_take_34 : decode cX6_take 34 = .ok (.return_, 1) := by decide +kernel
theorem dX6_add_0 : decode cX6_add 0 = .ok (.aload_n 0, 1) := by decide +kernel
theorem dX6_add_1 : decode cX6_add 1 = .ok (.getfield 15, 3) := by decide +kernel
theorem dX6_add_4 : decode cX6_add 4 = .ok (.iconst 5, 1) := by decide +kernel
theorem dX6_add_5 : decode cX6_add 5 = .ok (.imul, 1) := by decide +kernel
theorem dX6_add_6 : decode cX6_add 6 = .ok (.istore 6, 2) := by decide +kernel
theorem dX6_add_8 : decode cX6_add 8 = .ok (.iload 6, 2) := by decide +kernel
theorem dX6_add_10 : decode cX6_add 10 = .ok (.ifCond .lt 15, 3) := by decide +kernel
theorem dX6_add_13 : decode cX6_add 13 = .ok (.iload 6, 2) := by decide +kernel
theorem dX6_add_15 : decode cX6_add 15 = .ok (.iconst 4, 1) := by decide +kernel
theorem dX6_add_16 : decode cX6_add 16 = .ok (.iadd, 1) := by decide +kernel
theorem dX6_add_17 : decode cX6_add 17 = .ok (.aload_n 0, 1) := by decide +kernel
theorem dX6_add_18 : decode cX6_add 18 = .ok (.getfield 11, 3) := by decide +kernel
theorem dX6_add_21 : decode cX6_add 21 = .ok (.arraylength, 1) := by decide +kernel
theorem dX6_add_22 : decode cX6_add 22 = .ok (.if_icmp .lt 4, 3) := by decide +kernel
theorem dX6_add_25 : decode cX6_add 25 = .ok (.return_, 1) := by decide +kernel
theorem dX6_add_26 : decode cX6_add 26 = .ok (.aload_n 0, 1) := by decide +kernel
theorem dX6_add_27 : decode cX6_add 27 = .ok (.getfield 11, 3) := by decide +kernel
theorem dX6_add_30 : decode cX6_add 30 = .ok (.iload 6, 2) := by decide +kernel
theorem dX6_add_32 : decode cX6_add 32 = .ok (.iconst 0, 1) := by decide +kernel
theorem dX6_add_33 : decode cX6_add 33 = .ok (.iadd, 1) := by decide +kernel
theorem dX6_add_34 : decode cX6_add 34 = .ok (.iload_n 1, 1) := by decide +kernel
theorem dX6_add_35 : decode cX6_add 35 = .ok (.iastore, 1) := by decide +kernel
theorem dX6_add_36 : decode cX6_add 36 = .ok (.aload_n 0, 1) := by decide +kernel
theorem dX6_add_37 : decode cX6_add 37 = .ok (.getfield 11, 3) := by decide +kernel
theorem dX6_add_40 : decode cX6_add 40 = .ok (.iload 6, 2) := by decide +kernel
theorem dX6_add_42 : decode cX6_add 42 = .ok (.iconst 1, 1) := by decide +kernel
theorem dX6_add_43 : decode cX6_add 43 = .ok (.iadd, 1) := by decide +kernel
theorem dX6_add_44 : decode cX6_add 44 = .ok (.iload_n 2, 1) := by decide +kernel
theorem dX6_add_45 : decode cX6_add 45 = .ok (.iastore, 1) := by decide +kernel
theorem dX6_add_46 : decode cX6_add 46 = .ok (.aload_n 0, 1) := by decide +kernel
theorem dX6_add_47 : decode cX6_add 47 = .ok (.getfield 11, 3) := by decide +kernel
theorem dX6_add_50 : decode cX6_add 50 = .ok (.iload 6, 2) := by decide +kernel
theorem dX6_add_52 : decode cX6_add 52 = .ok (.iconst 2, 1) := by decide +kernel
theorem dX6_add_53 : decode cX6_add 53 = .ok (.iadd, 1) := by decide +kernel
theorem dX6_add_54 : decode cX6_add 54 = .ok (.iload_n 3, 1) := by decide +kernel
theorem dX6_add_55 : decode cX6_add 55 = .ok (.iastore, 1) := by decide +kernel
theorem dX6_add_56 : decode cX6_add 56 = .ok (.aload_n 0, 1) := by decide +kernel
theorem dX6_add_57 : decode cX6_add 57 = .ok (.getfield 11, 3) := by decide +kernel
theorem dX6_add_60 : decode cX6_add 60 = .ok (.iload 6, 2) := by decide +kernel
theorem dX6_add_62 : decode cX6_add 62 = .ok (.iconst 3, 1) := by decide +kernel
theorem dX6_add_63 : decode cX6_add 63 = .ok (.iadd, 1) := by decide +kernel
theorem dX6_add_64 : decode cX6_add 64 = .ok (.iload 4, 2) := by decide +kernel
theorem dX6_add_66 : decode cX6_add 66 = .ok (.ifCond .eq 7, 3) := by decide +kernel
theorem dX6_add_69 : decode cX6_add 69 = .ok (.iconst 1, 1) := by decide +kernel
theorem dX6_add_70 : decode cX6_add 70 = .ok (.goto 4, 3) := by decide +kernel
theorem dX6_add_73 : decode cX6_add 73 = .ok (.iconst 0, 1) := by decide +kernel
theorem dX6_add_74 : decode cX6_add 74 = .ok (.iastore, 1) := by decide +kernel
theorem dX6_add_75 : decode cX6_add 75 = .ok (.aload_n 0, 1) := by decide +kernel
theorem dX6_add_76 : decode cX6_add 76 = .ok (.getfield 11, 3) := by decide +kernel
theorem dX6_add_79 : decode cX6_add 79 = .ok (.iload 6, 2) := by decide +kernel
theorem dX6_add_81 : decode cX6_add 81 = .ok (.iconst 4, 1) := by decide +kernel
theorem dX6_add_82 : decode cX6_add 82 = .ok (.iadd, 1) := by decide +kernel
theorem dX6_add_83 : decode cX6_add 83 = .ok (.iload 5, 2) := by decide +kernel
theorem dX6_add_85 : decode cX6_add 85 = .ok (.iastore, 1) := by decide +kernel
theorem dX6_add_86 : decode cX6_add 86 = .ok (.aload_n 0, 1) := by decide +kernel
theorem dX6_add_87 : decode cX6_add 87 = .ok (.aload_n 0, 1) := by decide +kernel
theorem dX6_add_88 : decode cX6_add 88 = .ok (.getfield 15, 3) := by decide +kernel
theorem dX6_add_91 : decode cX6_add 91 = .ok (.iconst 1, 1) := by decide +kernel
theorem dX6_add_92 : decode cX6_add 92 = .ok (.iadd, 1) := by decide +kernel
theorem dX6_add_93 : decode cX6_add 93 = .ok (.bipush 60, 2) := by decide +kernel
theorem dX6_add_95 : decode cX6_add 95 = .ok (.if_icmp .ge 12, 3) := by decide +kernel
theorem dX6_add_98 : decode cX6_add 98 = .ok (.aload_n 0, 1) := by decide +kernel
theorem dX6_add_99 : decode cX6_add 99 = .ok (.getfield 15, 3) := by decide +kernel
theorem dX6_add_102 : decode cX6_add 102 = .ok (.iconst 1, 1) := by decide +kernel
theorem dX6_add_103 : decode cX6_add 103 = .ok (.iadd, 1) := by decide +kernel
theorem dX6_add_104 : decode cX6_add 104 = .ok (.goto 4, 3) := by decide +kernel
theorem dX6_add_107 : decode cX6_add 107 = .ok (.iconst 0, 1) := by decide +kernel
theorem dX6_add_108 : decode cX6_add 108 = .ok (.putfield 15, 3) := by decide +kernel
theorem dX6_add_111 : decode cX6_add 111 = .ok (.aload_n 0, 1) := by decide +kernel
theorem dX6_add_112 : decode cX6_add 112 = .ok (.bipush 60, 2) := by decide +kernel
theorem dX6_add_114 : decode cX6_add 114 = .ok (.aload_n 0, 1) := by decide +kernel
theorem dX6_add_115 : decode cX6_add 115 = .ok (.getfield 19, 3) := by decide +kernel
theorem dX6_add_118 : decode cX6_add 118 = .ok (.iconst 1, 1) := by decide +kernel
theorem dX6_add_119 : decode cX6_add 119 = .ok (.iadd, 1) := by decide +kernel
theorem dX6_add_120 : decode cX6_add 120 = .ok (.invokestatic 28, 3) := by decide +kernel
theorem dX6_add_123 : decode cX6_add 123 = .ok (.putfield 19, 3) := by decide +kernel
theorem dX6_add_126 : decode cX6_add 126 = .ok (.return_, 1) := by decide +kernel
theorem dX6_cell_0 : decode cX6_cell 0 = .ok (.iload_n 1, 1) := by decide +kernel
theorem dX6_cell_1 : decode cX6_cell 1 = .ok (.ifCond .lt 20, 3) := by decide +kernel
theorem dX6_cell_4 : decode cX6_cell 4 = .ok (.iload_n 1, 1) := by decide +kernel
theorem dX6_cell_5 : decode cX6_cell 5 = .ok (.aload_n 0, 1) := by decide +kernel
theorem dX6_cell_6 : decode cX6_cell 6 = .ok (.getfield 19, 3) := by decide +kernel
theorem dX6_cell_9 : decode cX6_cell 9 = .ok (.if_icmp .ge 12, 3) := by decide +kernel
theorem dX6_cell_12 : decode cX6_cell 12 = .ok (.iload_n 2, 1) := by decide +kernel
theorem dX6_cell_13 : decode cX6_cell 13 = .ok (.ifCond .lt 8, 3) := by decide +kernel
theorem dX6_cell_16 : decode cX6_cell 16 = .ok (.iload_n 2, 1) := by decide +kernel
theorem dX6_cell_17 : decode cX6_cell 17 = .ok (.iconst 5, 1) := by decide +kernel
theorem dX6_cell_18 : decode cX6_cell 18 = .ok (.if_icmp .lt 5, 3) := by decide +kernel
theorem dX6_cell_21 : decode cX6_cell 21 = .ok (.iconst (-1), 1) := by decide +kernel
theorem dX6_cell_22 : decode cX6_cell 22 = .ok (.ireturn, 1) := by decide +kernel
theorem dX6_cell_23 : decode cX6_cell 23 = .ok (.aload_n 0, 1) := by decide +kernel
theorem dX6_cell_24 : decode cX6_cell 24 = .ok (.getfield 15, 3) := by decide +kernel
theorem dX6_cell_27 : decode cX6_cell 27 = .ok (.iconst 1, 1) := by decide +kernel
theorem dX6_cell_28 : decode cX6_cell 28 = .ok (.isub, 1) := by decide +kernel
theorem dX6_cell_29 : decode cX6_cell 29 = .ok (.iload_n 1, 1) := by decide +kernel
theorem dX6_cell_30 : decode cX6_cell 30 = .ok (.isub, 1) := by decide +kernel
theorem dX6_cell_31 : decode cX6_cell 31 = .ok (.istore_n 3, 1) := by decide +kernel
theorem dX6_cell_32 : decode cX6_cell 32 = .ok (.iload_n 3, 1) := by decide +kernel
theorem dX6_cell_33 : decode cX6_cell 33 = .ok (.ifCond .ge 10, 3) := by decide +kernel
theorem dX6_cell_36 : decode cX6_cell 36 = .ok (.iload_n 3, 1) := by decide +kernel
theorem dX6_cell_37 : decode cX6_cell 37 = .ok (.bipush 60, 2) := by decide +kernel
theorem dX6_cell_39 : decode cX6_cell 39 = .ok (.iadd, 1) := by decide +kernel
theorem dX6_cell_40 : decode cX6_cell 40 = .ok (.goto 4, 3) := by decide +kernel
theorem dX6_cell_43 : decode cX6_cell 43 = .ok (.iload_n 3, 1) := by decide +kernel
theorem dX6_cell_44 : decode cX6_cell 44 = .ok (.iconst 5, 1) := by decide +kernel
theorem dX6_cell_45 : decode cX6_cell 45 = .ok (.imul, 1) := by decide +kernel
theorem dX6_cell_46 : decode cX6_cell 46 = .ok (.iload_n 2, 1) := by decide +kernel
theorem dX6_cell_47 : decode cX6_cell 47 = .ok (.iadd, 1) := by decide +kernel
theorem dX6_cell_48 : decode cX6_cell 48 = .ok (.istore 4, 2) := by decide +kernel
theorem dX6_cell_50 : decode cX6_cell 50 = .ok (.iload 4, 2) := by decide +kernel
theorem dX6_cell_52 : decode cX6_cell 52 = .ok (.ifCond .lt 23, 3) := by decide +kernel
theorem dX6_cell_55 : decode cX6_cell 55 = .ok (.iload 4, 2) := by decide +kernel
theorem dX6_cell_57 : decode cX6_cell 57 = .ok (.aload_n 0, 1) := by decide +kernel
theorem dX6_cell_58 : decode cX6_cell 58 = .ok (.getfield 11, 3) := by decide +kernel
theorem dX6_cell_61 : decode cX6_cell 61 = .ok (.arraylength, 1) := by decide +kernel
theorem dX6_cell_62 : decode cX6_cell 62 = .ok (.if_icmp .ge 13, 3) := by decide +kernel
theorem dX6_cell_65 : decode cX6_cell 65 = .ok (.aload_n 0, 1) := by decide +kernel
theorem dX6_cell_66 : decode cX6_cell 66 = .ok (.getfield 11, 3) := by decide +kernel
theorem dX6_cell_69 : decode cX6_cell 69 = .ok (.iload 4, 2) := by decide +kernel
theorem dX6_cell_71 : decode cX6_cell 71 = .ok (.iaload, 1) := by decide +kernel
theorem dX6_cell_72 : decode cX6_cell 72 = .ok (.goto 4, 3) := by decide +kernel
theorem dX6_cell_75 : decode cX6_cell 75 = .ok (.iconst (-1), 1) := by decide +kernel
theorem dX6_cell_76 : decode cX6_cell 76 = .ok (.ireturn, 1) := by decide +kernel
theorem dX6_shareOf_0 : decode cX6_shareOf 0 = .ok (.iconst 0, 1) := by decide +kernel
theorem dX6_shareOf_1 : decode cX6_shareOf 1 = .ok (.istore_n 2, 1) := by decide +kernel
theorem dX6_shareOf_2 : decode cX6_shareOf 2 = .ok (.iconst 0, 1) := by decide +kernel
theorem dX6_shareOf_3 : decode cX6_shareOf 3 = .ok (.istore_n 3, 1) := by decide +kernel
theorem dX6_shareOf_4 : decode cX6_shareOf 4 = .ok (.iconst 0, 1) := by decide +kernel
theorem dX6_shareOf_5 : decode cX6_shareOf 5 = .ok (.istore 4, 2) := by decide +kernel
theorem dX6_shareOf_7 : decode cX6_shareOf 7 = .ok (.iload 4, 2) := by decide +kernel
theorem dX6_shareOf_9 : decode cX6_shareOf 9 = .ok (.aload_n 0, 1) := by decide +kernel
theorem dX6_shareOf_10 : decode cX6_shareOf 10 = .ok (.getfield 19, 3) := by decide +kernel
theorem dX6_shareOf_13 : decode cX6_shareOf 13 = .ok (.if_icmp .ge 41, 3) := by decide +kernel
theorem dX6_shareOf_16 : decode cX6_shareOf 16 = .ok (.aload_n 0, 1) := by decide +kernel
theorem dX6_shareOf_17 : decode cX6_shareOf 17 = .ok (.iload 4, 2) := by decide +kernel
theorem dX6_shareOf_19 : decode cX6_shareOf 19 = .ok (.iconst 3, 1) := by decide +kernel
theorem dX6_shareOf_20 : decode cX6_shareOf 20 = .ok (.invokevirtual 34, 3) := by decide +kernel
theorem dX6_shareOf_23 : decode cX6_shareOf 23 = .ok (.ifCond .ne 25, 3) := by decide +kernel
theorem dX6_shareOf_26 : decode cX6_shareOf 26 = .ok (.iinc 2 1, 3) := by decide +kernel
theorem dX6_shareOf_29 : decode cX6_shareOf 29 = .ok (.iload_n 3, 1) := by decide +kernel
theorem dX6_shareOf_30 : decode cX6_shareOf 30 = .ok (.aload_n 0, 1) := by decide +kernel
theorem dX6_shareOf_31 : decode cX6_shareOf 31 = .ok (.iload 4, 2) := by decide +kernel
theorem dX6_shareOf_33 : decode cX6_shareOf 33 = .ok (.iconst 2, 1) := by decide +kernel
theorem dX6_shareOf_34 : decode cX6_shareOf 34 = .ok (.invokevirtual 34, 3) := by decide +kernel
theorem dX6_shareOf_37 : decode cX6_shareOf 37 = .ok (.iload_n 1, 1) := by decide +kernel
theorem dX6_shareOf_38 : decode cX6_shareOf 38 = .ok (.if_icmp .ne 7, 3) := by decide +kernel
theorem dX6_shareOf_41 : decode cX6_shareOf 41 = .ok (.iconst 1, 1) := by decide +kernel
theorem dX6_shareOf_42 : decode cX6_shareOf 42 = .ok (.goto 4, 3) := by decide +kernel
theorem dX6_shareOf_45 : decode cX6_shareOf 45 = .ok (.iconst 0, 1) := by decide +kernel
theorem dX6_shareOf_46 : decode cX6_shareOf 46 = .ok (.iadd, 1) := by decide +kernel
theorem dX6_shareOf_47 : decode cX6_shareOf 47 = .ok (.istore_n 3, 1) := by decide +kernel
theorem dX6_shareOf_48 : decode cX6_shareOf 48 = .ok (.iinc 4 1, 3) := by decide +kernel
theorem dX6_shareOf_51 : decode cX6_shareOf 51 = .ok (.goto (-44), 3) := by decide +kernel
theorem dX6_shareOf_54 : decode cX6_shareOf 54 = .ok (.iload_n 2, 1) := by decide +kernel
theorem dX6_shareOf_55 : decode cX6_shareOf 55 = .ok (.ifCond .le 12, 3) := by decide +kernel
theorem dX6_shareOf_58 : decode cX6_shareOf 58 = .ok (.bipush 100, 2) := by decide +kernel
theorem dX6_shareOf_60 : decode cX6_shareOf 60 = .ok (.iload_n 3, 1) := by decide +kernel
theorem dX6_shareOf_61 : decode cX6_shareOf 61 = .ok (.imul, 1) := by decide +kernel
theorem dX6_shareOf_62 : decode cX6_shareOf 62 = .ok (.iload_n 2, 1) := by decide +kernel
theorem dX6_shareOf_63 : decode cX6_shareOf 63 = .ok (.idiv, 1) := by decide +kernel
theorem dX6_shareOf_64 : decode cX6_shareOf 64 = .ok (.goto 4, 3) := by decide +kernel
theorem dX6_shareOf_67 : decode cX6_shareOf 67 = .ok (.iconst 0, 1) := by decide +kernel
theorem dX6_shareOf_68 : decode cX6_shareOf 68 = .ok (.ireturn, 1) := by decide +kernel
theorem dX6_rowsTo_0 : decode cX6_rowsTo 0 = .ok (.iconst 0, 1) := by decide +kernel
theorem dX6_rowsTo_1 : decode cX6_rowsTo 1 = .ok (.istore_n 2, 1) := by decide +kernel
theorem dX6_rowsTo_2 : decode cX6_rowsTo 2 = .ok (.iconst 0, 1) := by decide +kernel
theorem dX6_rowsTo_3 : decode cX6_rowsTo 3 = .ok (.istore_n 3, 1) := by decide +kernel
theorem dX6_rowsTo_4 : decode cX6_rowsTo 4 = .ok (.iload_n 3, 1) := by decide +kernel
theorem dX6_rowsTo_5 : decode cX6_rowsTo 5 = .ok (.aload_n 0, 1) := by decide +kernel
theorem dX6_rowsTo_6 : decode cX6_rowsTo 6 = .ok (.getfield 19, 3) := by decide +kernel
theorem dX6_rowsTo_9 : decode cX6_rowsTo 9 = .ok (.if_icmp .ge 22, 3) := by decide +kernel
theorem dX6_rowsTo_12 : decode cX6_rowsTo 12 = .ok (.aload_n 0, 1) := by decide +kernel
theorem dX6_rowsTo_13 : decode cX6_rowsTo 13 = .ok (.iload_n 3, 1) := by decide +kernel
theorem dX6_rowsTo_14 : decode cX6_rowsTo 14 = .ok (.iconst 2, 1) := by decide +kernel
theorem dX6_rowsTo_15 : decode cX6_rowsTo 15 = .ok (.invokevirtual 34, 3) := by decide +kernel
theorem dX6_rowsTo_18 : decode cX6_rowsTo 18 = .ok (.iload_n 1, 1) := by decide +kernel
theorem dX6_rowsTo_19 : decode cX6_rowsTo 19 = .ok (.if_icmp .ne 6, 3) := by decide +kernel
theorem dX6_rowsTo_22 : decode cX6_rowsTo 22 = .ok (.iinc 2 1, 3) := by decide +kernel
theorem dX6_rowsTo_25 : decode cX6_rowsTo 25 = .ok (.iinc 3 1, 3) := by decide +kernel
theorem dX6_rowsTo_28 : decode cX6_rowsTo 28 = .ok (.goto (-24), 3) := by decide +kernel
theorem dX6_rowsTo_31 : decode cX6_rowsTo 31 = .ok (.iload_n 2, 1) := by decide +kernel
theorem dX6_rowsTo_32 : decode cX6_rowsTo 32 = .ok (.ireturn, 1) := by decide +kernel
theorem dX6_latestDayTo_0 : decode cX6_latestDayTo 0 = .ok (.iconst 0, 1) := by decide +kernel
theorem dX6_latestDayTo_1 : decode cX6_latestDayTo 1 = .ok (.istore_n 2, 1) := by decide +kernel
theorem dX6_latestDayTo_2 : decode cX6_latestDayTo 2 = .ok (.iload_n 2, 1) := by decide +kernel
theorem dX6_latestDayTo_3 : decode cX6_latestDayTo 3 = .ok (.aload_n 0, 1) := by decide +kernel
theorem dX6_latestDayTo_4 : decode cX6_latestDayTo 4 = .ok (.getfield 19, 3) := by decide +kernel
theorem dX6_latestDayTo_7 : decode cX6_latestDayTo 7 = .ok (.if_icmp .ge 26, 3) := by decide +kernel
theorem dX6_latestDayTo_10 : decode cX6_latestDayTo 10 = .ok (.aload_n 0, 1) := by decide +kernel
theorem dX6_latestDayTo_11 : decode cX6_latestDayTo 11 = .ok (.iload_n 2, 1) := by decide +kernel
theorem dX6_latestDayTo_12 : decode cX6_latestDayTo 12 = .ok (.iconst 2, 1) := by decide +kernel
theorem dX6_latestDayTo_13 : decode cX6_latestDayTo 13 = .ok (.invokevirtual 34, 3) := by decide +kernel
theorem dX6_latestDayTo_16 : decode cX6_latestDayTo 16 = .ok (.iload_n 1, 1) := by decide +kernel
theorem dX6_latestDayTo_17 : decode cX6_latestDayTo 17 = .ok (.if_icmp .ne 10, 3) := by decide +kernel
theorem dX6_latestDayTo_20 : decode cX6_latestDayTo 20 = .ok (.aload_n 0, 1) := by decide +kernel
theorem dX6_latestDayTo_21 : decode cX6_latestDayTo 21 = .ok (.iload_n 2, 1) := by decide +kernel
theorem dX6_latestDayTo_22 : decode cX6_latestDayTo 22 = .ok (.iconst 0, 1) := by decide +kernel
theorem dX6_latestDayTo_23 : decode cX6_latestDayTo 23 = .ok (.invokevirtual 34, 3) := by decide +kernel
theorem dX6_latestDayTo_26 : decode cX6_latestDayTo 26 = .ok (.ireturn, 1) := by decide +kernel
theorem dX6_latestDayTo_27 : decode cX6_latestDayTo 27 = .ok (.iinc 2 1, 3) := by decide +kernel
theorem dX6_latestDayTo_30 : decode cX6_latestDayTo 30 = .ok (.goto (-28), 3) := by decide +kernel
theorem dX6_latestDayTo_33 : decode cX6_latestDayTo 33 = .ok (.iconst (-1), 1) := by decide +kernel
theorem dX6_latestDayTo_34 : decode cX6_latestDayTo 34 = .ok (.ireturn, 1) := by decide +kernel
theorem dX7_init_0 : decode cX7_init 0 = .ok (.aload_n 0, 1) := by decide +kernel
theorem dX7_init_1 : decode cX7_init 1 = .ok (.invokespecial 3, 3) := by decide +kernel
theorem dX7_init_4 : decode cX7_init 4 = .ok (.aload_n 0, 1) := by decide +kernel
theorem dX7_init_5 : decode cX7_init 5 = .ok (.bipush 8, 2) := by decide +kernel
theorem dX7_init_7 : decode cX7_init 7 = .ok (.newarray .int, 2) := by decide +kernel
theorem dX7_init_9 : decode cX7_init 9 = .ok (.putfield 11, 3) := by decide +kernel
theorem dX7_init_12 : decode cX7_init 12 = .ok (.aload_n 0, 1) := by decide +kernel
theorem dX7_init_13 : decode cX7_init 13 = .ok (.bipush 8, 2) := by decide +kernel
theorem dX7_init_15 : decode cX7_init 15 = .ok (.newarray .int, 2) := by decide +kernel
theorem dX7_init_17 : decode cX7_init 17 = .ok (.putfield 17, 3) := by decide +kernel
theorem dX7_init_20 : decode cX7_init 20 = .ok (.aload_n 0, 1) := by decide +kernel
theorem dX7_init_21 : decode cX7_init 21 = .ok (.bipush 8, 2) := by decide +kernel
theorem dX7_init_23 : decode cX7_init 23 = .ok (.newarray .int, 2) := by decide +kernel
theorem dX7_init_25 : decode cX7_init 25 = .ok (.putfield 20, 3) := by decide +kernel
theorem dX7_init_28 : decode cX7_init 28 = .ok (.aload_n 0, 1) := by decide +kernel
theorem dX7_init_29 : decode cX7_init 29 = .ok (.iconst 0, 1) := by decide +kernel
theorem dX7_init_30 : decode cX7_init 30 = .ok (.putfield 23, 3) := by decide +kernel
theorem dX7_init_33 : decode cX7_init 33 = .ok (.aload_n 0, 1) := by decide +kernel
theorem dX7_init_34 : decode cX7_init 34 = .ok (.iconst 0, 1) := by decide +kernel
theorem dX7_init_35 : decode cX7_init 35 = .ok (.putfield 27, 3) := by decide +kernel
theorem dX7_init_38 : decode cX7_init 38 = .ok (.aload_n 0, 1) := by decide +kernel
theorem dX7_init_39 : decode cX7_init 39 = .ok (.aload_n 1, 1) := by decide +kernel
theorem dX7_init_40 : decode cX7_init 40 = .ok (.putfield 30, 3) := by decide +kernel
theorem dX7_init_43 : decode cX7_init 43 = .ok (.return_, 1) := by decide +kernel
theorem dX7_isSingle_0 : decode cX7_isSingle 0 = .ok (.aload_n 0, 1) := by decide +kernel
theorem dX7_isSingle_1 : decode cX7_isSingle 1 = .ok (.getfield 30, 3) := by decide +kernel
theorem dX7_isSingle_4 : decode cX7_isSingle 4 = .ok (.iload_n 1, 1) := by decide +kernel
theorem dX7_isSingle_5 : decode cX7_isSingle 5 = .ok (.invokevirtual 34, 3) := by decide +kernel
theorem dX7_isSingle_8 : decode cX7_isSingle 8 = .ok (.ifCond .eq 37, 3) := by decide +kernel
theorem dX7_isSingle_11 : decode cX7_isSingle 11 = .ok (.aload_n 0, 1) := by decide +kernel
theorem dX7_isSingle_12 : decode cX7_isSingle 12 = .ok (.getfield 30, 3) := by decide +kernel
theorem dX7_isSingle_15 : decode cX7_isSingle 15 = .ok (.iload_n 1, 1) := by decide +kernel
theorem dX7_isSingle_16 : decode cX7_isSingle 16 = .ok (.invokevirtual 38, 3) := by decide +kernel
theorem dX7_isSingle_19 : decode cX7_isSingle 19 = .ok (.getfield 42, 3) := by decide +kernel
theorem dX7_isSingle_22 : decode cX7_isSingle 22 = .ok (.iload_n 2, 1) := by decide +kernel
theorem dX7_isSingle_23 : decode cX7_isSingle 23 = .ok (.if_icmp .ne 22, 3) := by decide +kernel
theorem dX7_isSingle_26 : decode cX7_isSingle 26 = .ok (.aload_n 0, 1) := by decide +kernel
theorem dX7_isSingle_27 : decode cX7_isSingle 27 = .ok (.getfield 30, 3) := by decide +kernel
theorem dX7_isSingle_30 : decode cX7_isSingle 30 = .ok (.iload_n 1, 1) := by decide +kernel
theorem dX7_isSingle_31 : decode cX7_isSingle 31 = .ok (.invokevirtual 38, 3) := by decide +kernel
theorem dX7_isSingle_34 : decode cX7_isSingle 34 = .ok (.getfield 47, 3) := by decide +kernel
theorem dX7_isSingle_37 : decode cX7_isSingle 37 = .ok (.iconst (-1), 1) := by decide +kernel
theorem dX7_isSingle_38 : decode cX7_isSingle 38 = .ok (.if_icmp .ne 7, 3) := by decide +kernel
theorem dX7_isSingle_41 : decode cX7_isSingle 41 = .ok (.iconst 1, 1) := by decide +kernel
theorem dX7_isSingle_42 : decode cX7_isSingle 42 = .ok (.goto 4, 3) := by decide +kernel
theorem dX7_isSingle_45 : decode cX7_isSingle 45 = .ok (.iconst 0, 1) := by decide +kernel
theorem dX7_isSingle_46 : decode cX7_isSingle 46 = .ok (.ireturn, 1) := by decide +kernel
theorem dX7_bestMatching_0 : decode cX7_bestMatching 0 = .ok (.aload_n 0, 1) := by decide +kernel
theorem dX7_bestMatching_1 : decode cX7_bestMatching 1 = .ok (.getfield 11, 3) := by decide +kernel
theorem dX7_bestMatching_4 : decode cX7_bestMatching 4 = .ok (.iconst (-1), 1) := by decide +kernel
theorem dX7_bestMatching_5 : decode cX7_bestMatching 5 = .ok (.invokestatic 50, 3) := by decide +kernel
theorem dX7_bestMatching_8 : decode cX7_bestMatching 8 = .ok (.aload_n 0, 1) := by decide +kernel
theorem dX7_bestMatching_9 : decode cX7_bestMatching 9 = .ok (.getfield 17, 3) := by decide +kernel
theorem dX7_bestMatching_12 : decode cX7_bestMatching 12 = .ok (.iconst (-1), 1) := by decide +kernel
theorem dX7_bestMatching_13 : decode cX7_bestMatching 13 = .ok (.invokestatic 50, 3) := by decide +kernel
theorem dX7_bestMatching_16 : decode cX7_bestMatching 16 = .ok (.aload_n 0, 1) := by decide +kernel
theorem dX7_bestMatching_17 : decode cX7_bestMatching 17 = .ok (.iconst 0, 1) := by decide +kernel
theorem dX7_bestMatching_18 : decode cX7_bestMatching 18 = .ok (.putfield 23, 3) := by decide +kernel
theorem dX7_bestMatching_21 : decode cX7_bestMatching 21 = .ok (.aload_n 0, 1) := by decide +kernel
theorem dX7_bestMatching_22 : decode cX7_bestMatching 22 = .ok (.iconst 0, 1) := by decide +kernel
theorem dX7_bestMatching_23 : decode cX7_bestMatching 23 = .ok (.putfield 27, 3) := by decide +kernel
theorem dX7_bestMatching_26 : decode cX7_bestMatching 26 = .ok (.aload_n 0, 1) := by decide +kernel
theorem dX7_bestMatching_27 : decode cX7_bestMatching 27 = .ok (.iconst 0, 1) := by decide +kernel
theorem dX7_bestMatching_28 : decode cX7_bestMatching 28 = .ok (.iconst 0, 1) := by decide +kernel
theorem dX7_bestMatching_29 : decode cX7_bestMatching 29 = .ok (.iconst 0, 1) := by decide +kernel
theorem dX7_bestMatching_30 : decode cX7_bestMatching 30 = .ok (.invokevirtual 56, 3) := by decide +kernel
theorem dX7_bestMatching_33 : decode cX7_bestMatching 33 = .ok (.return_, 1) := by decide +kernel
theorem dX7_matchFrom_0 : decode cX7_matchFrom 0 = .ok (.iload_n 1, 1) := by decide +kernel
theorem dX7_matchFrom_1 : decode cX7_matchFrom 1 = .ok (.bipush 8, 2) := by decide +kernel
theorem dX7_matchFrom_3 : decode cX7_matchFrom 3 = .ok (.if_icmp .ge 14, 3) := by decide +kernel
theorem dX7_matchFrom_6 : decode cX7_matchFrom 6 = .ok (.iload_n 1, 1) := by decide +kernel
theorem dX7_matchFrom_7 : decode cX7_matchFrom 7 = .ok (.aload_n 0, 1) := by decide +kernel
theorem dX7_matchFrom_8 : decode cX7_matchFrom 8 = .ok (.getfield 30, 3) := by decide +kernel
theorem dX7_matchFrom_11 : decode cX7_matchFrom 11 = .ok (.getfield 60, 3) := by decide +kernel
theorem dX7_matchFrom_14 : decode cX7_matchFrom 14 = .ok (.if_icmp .lt 56, 3) := by decide +kernel
theorem dX7_matchFrom_17 : decode cX7_matchFrom 17 = .ok (.iload_n 2, 1) := by decide +kernel
theorem dX7_matchFrom_18 : decode cX7_matchFrom 18 = .ok (.aload_n 0, 1) := by decide +kernel
theorem dX7_matchFrom_19 : decode cX7_matchFrom 19 = .ok (.getfield 23, 3) := by decide +kernel
theorem dX7_matchFrom_22 : decode cX7_matchFrom 22 = .ok (.if_icmp .gt 19, 3) := by decide +kernel
theorem dX7_matchFrom_25 : decode cX7_matchFrom 25 = .ok (.iload_n 2, 1) := by decide +kernel
theorem dX7_matchFrom_26 : decode cX7_matchFrom 26 = .ok (.aload_n 0, 1) := by decide +kernel
theorem dX7_matchFrom_27 : decode cX7_matchFrom 27 = .ok (.getfield 23, 3) := by decide +kernel
theorem dX7_matchFrom_30 : decode cX7_matchFrom 30 = .ok (.if_icmp .ne 39, 3) := by decide +kernel
theorem dX7_matchFrom_33 : decode cX7_matchFrom 33 = .ok (.iload_n 3, 1) := by decide +kernel
theorem dX7_matchFrom_34 : decode cX7_matchFrom 34 = .ok (.aload_n 0, 1) := by decide +kernel
theorem dX7_matchFrom_35 : decode cX7_matchFrom 35 = .ok (.getfield 27, 3) := by decide +kernel
theorem dX7_matchFrom_38 : decode cX7_matchFrom 38 = .ok (.if_icmp .ge 31, 3) := by decide +kernel
theorem dX7_matchFrom_41 : decode cX7_matchFrom 41 = .ok (.aload_n 0, 1) := by decide +kernel
theorem dX7_matchFrom_42 : decode cX7_matchFrom 42 = .ok (.iload_n 2, 1) := by decide +kernel
theorem dX7_matchFrom_43 : decode cX7_matchFrom 43 = .ok (.putfield 23, 3) := by decide +kernel
theorem dX7_matchFrom_46 : decode cX7_matchFrom 46 = .ok (.aload_n 0, 1) := by decide +kernel
theorem dX7_matchFrom_47 : decode cX7_matchFrom 47 = .ok (.iload_n 3, 1) := by decide +kernel
theorem dX7_matchFrom_48 : decode cX7_matchFrom 48 = .ok (.putfield 27, 3) := by decide +kernel
theorem dX7_matchFrom_51 : decode cX7_matchFrom 51 = .ok (.aload_n 0, 1) := by decide +kernel
theorem dX7_matchFrom_52 : decode cX7_matchFrom 52 = .ok (.getfield 11, 3) := by decide +kernel
theorem dX7_matchFrom_55 : decode cX7_matchFrom 55 = .ok (.iconst 0, 1) := by decide +kernel
theorem dX7_matchFrom_56 : decode cX7_matchFrom 56 = .ok (.aload_n 0, 1) := by decide +kernel
theorem dX7_matchFrom_57 : decode cX7_matchFrom 57 = .ok (.getfield 17, 3) := by decide +kernel
theorem dX7_matchFrom_60 : decode cX7_matchFrom 60 = .ok (.iconst 0, 1) := by decide +kernel
theorem dX7_matchFrom_61 : decode cX7_matchFrom 61 = .ok (.aload_n 0, 1) := by decide +kernel
theorem dX7_matchFrom_62 : decode cX7_matchFrom 62 = .ok (.getfield 17, 3) := by decide +kernel
theorem dX7_matchFrom_65 : decode cX7_matchFrom 65 = .ok (.arraylength, 1) := by decide +kernel
theorem dX7_matchFrom_66 : decode cX7_matchFrom 66 = .ok (.invokestatic 63, 3) := by decide +kernel
theorem dX7_matchFrom_69 : decode cX7_matchFrom 69 = .ok (.return_, 1) := by decide +kernel
theorem dX7_matchFrom_70 : decode cX7_matchFrom 70 = .ok (.aload_n 0, 1) := by decide +kernel
theorem dX7_matchFrom_71 : decode cX7_matchFrom 71 = .ok (.iload_n 1, 1) := by decide +kernel
theorem dX7_matchFrom_72 : decode cX7_matchFrom 72 = .ok (.iconst 0, 1) := by decide +kernel
theorem dX7_matchFrom_73 : decode cX7_matchFrom 73 = .ok (.invokevirtual 69, 3) := by decide +kernel
theorem dX7_matchFrom_76 : decode cX7_matchFrom 76 = .ok (.ifCond .eq 106, 3) := by decide +kernel
theorem dX7_matchFrom_79 : decode cX7_matchFrom 79 = .ok (.iconst 0, 1) := by decide +kernel
theorem dX7_matchFrom_80 : decode cX7_matchFrom 80 = .ok (.istore 4, 2) := by decide +kernel
theorem dX7_matchFrom_82 : decode cX7_matchFrom 82 = .ok (.iload 4, 2) := by decide +kernel
theorem dX7_matchFrom_84 : decode cX7_matchFrom 84 = .ok (.bipush 8, 2) := by decide +kernel
theorem dX7_matchFrom_86 : decode cX7_matchFrom 86 = .ok (.if_icmp .ge 96, 3) := by decide +kernel
theorem dX7_matchFrom_89 : decode cX7_matchFrom 89 = .ok (.aload_n 0, 1) := by decide +kernel
theorem dX7_matchFrom_90 : decode cX7_matchFrom 90 = .ok (.iload 4, 2) := by decide +kernel
theorem dX7_matchFrom_92 : decode cX7_matchFrom 92 = .ok (.iconst 1, 1) := by decide +kernel
theorem dX7_matchFrom_93 : decode cX7_matchFrom 93 = .ok (.invokevirtual 69, 3) := by decide +kernel
theorem dX7_matchFrom_96 : decode cX7_matchFrom 96 = .ok (.ifCond .eq 80, 3) := by decide +kernel
theorem dX7_matchFrom_99 : decode cX7_matchFrom 99 = .ok (.aload_n 0, 1) := by decide +kernel
theorem dX7_matchFrom_100 : decode cX7_matchFrom 100 = .ok (.getfield 11, 3) := by decide +kernel
theorem dX7_matchFrom_103 : decode cX7_matchFrom 103 = .ok (.iload 4, 2) := by decide +kernel
theorem dX7_matchFrom_105 : decode cX7_matchFrom 105 = .ok (.iaload, 1) := by decide +kernel
theorem dX7_matchFrom_106 : decode cX7_matchFrom 106 = .ok (.iconst (-1), 1) := by decide +kernel
theorem dX7_matchFrom_107 : decode cX7_matchFrom 107 = .ok (.if_icmp .ne 69, 3) := by decide +kernel
theorem dX7_matchFrom_110 : decode cX7_matchFrom 110 = .ok (.aload_n 0, 1) := by decide +kernel
theorem dX7_matchFrom_111 : decode cX7_matchFrom 111 = .ok (.getfield 30, 3) := by decide +kernel
theorem dX7_matchFrom_114 : decode cX7_matchFrom 114 = .ok (.iload_n 1, 1) := by decide +kernel
theorem dX7_matchFrom_115 : decode cX7_matchFrom 115 = .ok (.iload 4, 2) := by decide +kernel
theorem dX7_matchFrom_117 : decode cX7_matchFrom 117 = .ok (.invokevirtual 73, 3) := by decide +kernel
theorem dX7_matchFrom_120 : decode cX7_matchFrom 120 = .ok (.ifCond .eq 56, 3) := by decide +kernel
theorem dX7_matchFrom_123 : decode cX7_matchFrom 123 = .ok (.aload_n 0, 1) := by decide +kernel
theorem dX7_matchFrom_124 : decode cX7_matchFrom 124 = .ok (.getfield 11, 3) := by decide +kernel
theorem dX7_matchFrom_127 : decode cX7_matchFrom 127 = .ok (.iload_n 1, 1) := by decide +kernel
theorem dX7_matchFrom_128 : decode cX7_matchFrom 128 = .ok (.iload 4, 2) := by decide +kernel
theorem dX7_matchFrom_130 : decode cX7_matchFrom 130 = .ok (.iastore, 1) := by decide +kernel
theorem dX7_matchFrom_131 : decode cX7_matchFrom 131 = .ok (.aload_n 0, 1) := by decide +kernel
theorem dX7_matchFrom_132 : decode cX7_matchFrom 132 = .ok (.getfield 11, 3) := by decide +kernel
theorem dX7_matchFrom_135 : decode cX7_matchFrom 135 = .ok (.iload 4, 2) := by decide +kernel
theorem dX7_matchFrom_137 : decode cX7_matchFrom 137 = .ok (.iload_n 1, 1) := by decide +kernel
theorem dX7_matchFrom_138 : decode cX7_matchFrom 138 = .ok (.iastore, 1) := by decide +kernel
theorem dX7_matchFrom_139 : decode cX7_matchFrom 139 = .ok (.aload_n 0, 1) := by decide +kernel
theorem dX7_matchFrom_140 : decode cX7_matchFrom 140 = .ok (.iload_n 1, 1) := by decide +kernel
theorem dX7_matchFrom_141 : decode cX7_matchFrom 141 = .ok (.iconst 1, 1) := by decide +kernel
theorem dX7_matchFrom_142 : decode cX7_matchFrom 142 = .ok (.iadd, 1) := by decide +kernel
theorem dX7_matchFrom_143 : decode cX7_matchFrom 143 = .ok (.iload_n 2, 1) := by decide +kernel
theorem dX7_matchFrom_144 : decode cX7_matchFrom 144 = .ok (.iconst 1, 1) := by decide +kernel
theorem dX7_matchFrom_145 : decode cX7_matchFrom 145 = .ok (.iadd, 1) := by decide +kernel
theorem dX7_matchFrom_146 : decode cX7_matchFrom 146 = .ok (.iload_n 3, 1) := by decide +kernel
theorem dX7_matchFrom_147 : decode cX7_matchFrom 147 = .ok (.aload_n 0, 1) := by decide +kernel
theorem dX7_matchFrom_148 : decode cX7_matchFrom 148 = .ok (.getfield 30, 3) := by decide +kernel
theorem dX7_matchFrom_151 : decode cX7_matchFrom 151 = .ok (.iload_n 1, 1) := by decide +kernel
theorem dX7_matchFrom_152 : decode cX7_matchFrom 152 = .ok (.iload 4, 2) := by decide +kernel
theorem dX7_matchFrom_154 : decode cX7_matchFrom 154 = .ok (.invokevirtual 76, 3) := by decide +kernel
theorem dX7_matchFrom_157 : decode cX7_matchFrom 157 = .ok (.iadd, 1) := by decide +kernel
theorem dX7_matchFrom_158 : decode cX7_matchFrom 158 = .ok (.invokevirtual 56, 3) := by decide +kernel
theorem dX7_matchFrom_161 : decode cX7_matchFrom 161 = .ok (.aload_n 0, 1) := by decide +kernel
theorem dX7_matchFrom_162 : decode cX7_matchFrom 162 = .ok (.getfield 11, 3) := by decide +kernel
theorem dX7_matchFrom_165 : decode cX7_matchFrom 165 = .ok (.iload_n 1, 1) := by decide +kernel
theorem dX7_matchFrom_166 : decode cX7_matchFrom 166 = .ok (.iconst (-1), 1) := by decide +kernel
theorem dX7_matchFrom_167 : decode cX7_matchFrom 167 = .ok (.iastore, 1) := by decide +kernel
theorem dX7_matchFrom_168 : decode cX7_matchFrom 168 = .ok (.aload_n 0, 1) := by decide +kernel
theorem dX7_matchFrom_169 : decode cX7_matchFrom 169 = .ok (.getfield 11, 3) := by decide +kernel
theorem dX7_matchFrom_172 : decode cX7_matchFrom 172 = .ok (.iload 4, 2) := by decide +kernel
theorem dX7_matchFrom_174 : decode cX7_matchFrom 174 = .ok (.iconst (-1), 1) := by decide +kernel
theorem dX7_matchFrom_175 : decode cX7_matchFrom 175 = .ok (.iastore, 1) := by decide +kernel
theorem dX7_matchFrom_176 : decode cX7_matchFrom 176 = .ok (.iinc 4 1, 3) := by decide +kernel
theorem dX7_matchFrom_179 : decode cX7_matchFrom 179 = .ok (.goto (-97), 3) := by decide +kernel
theorem dX7_matchFrom_182 : decode cX7_matchFrom 182 = .ok (.aload_n 0, 1) := by decide +kernel
theorem dX7_matchFrom_183 : decode cX7_matchFrom 183 = .ok (.iload_n 1, 1) := by decide +kernel
theorem dX7_matchFrom_184 : decode cX7_matchFrom 184 = .ok (.iconst 1, 1) := by decide +kernel
theorem dX7_matchFrom_185 : decode cX7_matchFrom 185 = .ok (.iadd, 1) := by decide +kernel
theorem dX7_matchFrom_186 : decode cX7_matchFrom 186 = .ok (.iload_n 2, 1) := by decide +kernel
theorem dX7_matchFrom_187 : decode cX7_matchFrom 187 = .ok (.iload_n 3, 1) := by decide +kernel
theorem dX7_matchFrom_188 : decode cX7_matchFrom 188 = .ok (.invokevirtual 56, 3) := by decide +kernel
theorem dX7_matchFrom_191 : decode cX7_matchFrom 191 = .ok (.return_, 1) := by decide +kernel
theorem dX7_bestOf_0 : decode cX7_bestOf 0 = .ok (.iload_n 1, 1) := by decide +kernel
theorem dX7_bestOf_1 : decode cX7_bestOf 1 = .ok (.ifCond .lt 21, 3) := by decide +kernel
theorem dX7_bestOf_4 : decode cX7_bestOf 4 = .ok (.iload_n 1, 1) := by decide +kernel
theorem dX7_bestOf_5 : decode cX7_bestOf 5 = .ok (.aload_n 0, 1) := by decide +kernel
theorem dX7_bestOf_6 : decode cX7_bestOf 6 = .ok (.getfield 17, 3) := by decide +kernel
theorem dX7_bestOf_9 : decode cX7_bestOf 9 = .ok (.arraylength, 1) := by decide +kernel
theorem dX7_bestOf_10 : decode cX7_bestOf 10 = .ok (.if_icmp .ge 12, 3) := by decide +kernel
theorem dX7_bestOf_13 : decode cX7_bestOf 13 = .ok (.aload_n 0, 1) := by decide +kernel
theorem dX7_bestOf_14 : decode cX7_bestOf 14 = .ok (.getfield 17, 3) := by decide +kernel
theorem dX7_bestOf_17 : decode cX7_bestOf 17 = .ok (.iload_n 1, 1) := by decide +kernel
theorem dX7_bestOf_18 : decode cX7_bestOf 18 = .ok (.iaload, 1) := by decide +kernel
theorem dX7_bestOf_19 : decode cX7_bestOf 19 = .ok (.goto 4, 3) := by decide +kernel
theorem dX7_bestOf_22 : decode cX7_bestOf 22 = .ok (.iconst (-1), 1) := by decide +kernel
theorem dX7_bestOf_23 : decode cX7_bestOf 23 = .ok (.ireturn, 1) := by decide +kernel
theorem dX7_stableOf_0 : decode cX7_stableOf 0 = .ok (.aload_n 0, 1) := by decide +kernel
theorem dX7_stableOf_1 : decode cX7_stableOf 1 = .ok (.getfield 11, 3) := by decide +kernel
theorem dX7_stableOf_4 : decode cX7_stableOf 4 = .ok (.iconst (-1), 1) := by decide +kernel
theorem dX7_stableOf_5 : decode cX7_stableOf 5 = .ok (.invokestatic 50, 3) := by decide +kernel
theorem dX7_stableOf_8 : decode cX7_stableOf 8 = .ok (.aload_n 0, 1) := by decide +kernel
theorem dX7_stableOf_9 : decode cX7_stableOf 9 = .ok (.getfield 20, 3) := by decide +kernel
theorem dX7_stableOf_12 : decode cX7_stableOf 12 = .ok (.iconst 0, 1) := by decide +kernel
theorem dX7_stableOf_13 : decode cX7_stableOf 13 = .ok (.invokestatic 50, 3) := by decide +kernel
theorem dX7_stableOf_16 : decode cX7_stableOf 16 = .ok (.iconst 0, 1) := by decide +kernel
theorem dX7_stableOf_17 : decode cX7_stableOf 17 = .ok (.istore_n 2, 1) := by decide +kernel
theorem dX7_stableOf_18 : decode cX7_stableOf 18 = .ok (.iload_n 2, 1) := by decide +kernel
theorem dX7_stableOf_19 : decode cX7_stableOf 19 = .ok (.bipush 64, 2) := by decide +kernel
theorem dX7_stableOf_21 : decode cX7_stableOf 21 = .ok (.if_icmp .ge 19, 3) := by decide +kernel
theorem dX7_stableOf_24 : decode cX7_stableOf 24 = .ok (.aload_n 0, 1) := by decide +kernel
theorem dX7_stableOf_25 : decode cX7_stableOf 25 = .ok (.invokevirtual 80, 3) := by decide +kernel
theorem dX7_stableOf_28 : decode cX7_stableOf 28 = .ok (.ifCond .ne 6, 3) := by decide +kernel
theorem dX7_stableOf_31 : decode cX7_stableOf 31 = .ok (.goto 9, 3) := by decide +kernel
theorem dX7_stableOf_34 : decode cX7_stableOf 34 = .ok (.iinc 2 1, 3) := by decide +kernel
theorem dX7_stableOf_37 : decode cX7_stableOf 37 = .ok (.goto (-19), 3) := by decide +kernel
theorem dX7_stableOf_40 : decode cX7_stableOf 40 = .ok (.iload_n 1, 1) := by decide +kernel
theorem dX7_stableOf_41 : decode cX7_stableOf 41 = .ok (.ifCond .lt 21, 3) := by decide +kernel
theorem dX7_stableOf_44 : decode cX7_stableOf 44 = .ok (.iload_n 1, 1) := by decide +kernel
theorem dX7_stableOf_45 : decode cX7_stableOf 45 = .ok (.aload_n 0, 1) := by decide +kernel
theorem dX7_stableOf_46 : decode cX7_stableOf 46 = .ok (.getfield 11, 3) := by decide +kernel
theorem dX7_stableOf_49 : decode cX7_stableOf 49 = .ok (.arraylength, 1) := by decide +kernel
theorem dX7_stableOf_50 : decode cX7_stableOf 50 = .ok (.if_icmp .ge 12, 3) := by decide +kernel
theorem dX7_stableOf_53 : decode cX7_stableOf 53 = .ok (.aload_n 0, 1) := by decide +kernel
theorem dX7_stableOf_54 : decode cX7_stableOf 54 = .ok (.getfield 11, 3) := by decide +kernel
theorem dX7_stableOf_57 : decode cX7_stableOf 57 = .ok (.iload_n 1, 1) := by decide +kernel
theorem dX7_stableOf_58 : decode cX7_stableOf 58 = .ok (.iaload, 1) := by decide +kernel
theorem dX7_stableOf_59 : decode cX7_stableOf 59 = .ok (.goto 4, 3) := by decide +kernel
theorem dX7_stableOf_62 : decode cX7_stableOf 62 = .ok (.iconst (-1), 1) := by decide +kernel
theorem dX7_stableOf_63 : decode cX7_stableOf 63 = .ok (.ireturn, 1) := by decide +kernel
theorem dX7_someoneAsks_0 : decode cX7_someoneAsks 0 = .ok (.iconst 0, 1) := by decide +kernel
theorem dX7_someoneAsks_1 : decode cX7_someoneAsks 1 = .ok (.istore_n 1, 1) := by decide +kernel
theorem dX7_someoneAsks_2 : decode cX7_someoneAsks 2 = .ok (.iload_n 1, 1) := by decide +kernel
theorem dX7_someoneAsks_3 : decode cX7_someoneAsks 3 = .ok (.bipush 8, 2) := by decide +kernel
theorem dX7_someoneAsks_5 : decode cX7_someoneAsks 5 = .ok (.if_icmp .ge 47, 3) := by decide +kernel
theorem dX7_someoneAsks_8 : decode cX7_someoneAsks 8 = .ok (.aload_n 0, 1) := by decide +kernel
theorem dX7_someoneAsks_9 : decode cX7_someoneAsks 9 = .ok (.iload_n 1, 1) := by decide +kernel
theorem dX7_someoneAsks_10 : decode cX7_someoneAsks 10 = .ok (.iconst 0, 1) := by decide +kernel
theorem dX7_someoneAsks_11 : decode cX7_someoneAsks 11 = .ok (.invokevirtual 69, 3) := by decide +kernel
theorem dX7_someoneAsks_14 : decode cX7_someoneAsks 14 = .ok (.ifCond .eq 32, 3) := by decide +kernel
theorem dX7_someoneAsks_17 : decode cX7_someoneAsks 17 = .ok (.aload_n 0, 1) := by decide +kernel
theorem dX7_someoneAsks_18 : decode cX7_someoneAsks 18 = .ok (.getfield 11, 3) := by decide +kernel
theorem dX7_someoneAsks_21 : decode cX7_someoneAsks 21 = .ok (.iload_n 1, 1) := by decide +kernel
theorem dX7_someoneAsks_22 : decode cX7_someoneAsks 22 = .ok (.iaload, 1) := by decide +kernel
theorem dX7_someoneAsks_23 : decode cX7_someoneAsks 23 = .ok (.iconst (-1), 1) := by decide +kernel
theorem dX7_someoneAsks_24 : decode cX7_someoneAsks 24 = .ok (.if_icmp .ne 22, 3) := by decide +kernel
theorem dX7_someoneAsks_27 : decode cX7_someoneAsks 27 = .ok (.aload_n 0, 1) := by decide +kernel
theorem dX7_someoneAsks_28 : decode cX7_someoneAsks 28 = .ok (.iload_n 1, 1) := by decide +kernel
theorem dX7_someoneAsks_29 : decode cX7_someoneAsks 29 = .ok (.invokevirtual 84, 3) := by decide +kernel
theorem dX7_someoneAsks_32 : decode cX7_someoneAsks 32 = .ok (.istore_n 2, 1) := by decide +kernel
theorem dX7_someoneAsks_33 : decode cX7_someoneAsks 33 = .ok (.iload_n 2, 1) := by decide +kernel
theorem dX7_someoneAsks_34 : decode cX7_someoneAsks 34 = .ok (.iconst (-1), 1) := by decide +kernel
theorem dX7_someoneAsks_35 : decode cX7_someoneAsks 35 = .ok (.if_icmp .eq 11, 3) := by decide +kernel
theorem dX7_someoneAsks_38 : decode cX7_someoneAsks 38 = .ok (.aload_n 0, 1) := by decide +kernel
theorem dX7_someoneAsks_39 : decode cX7_someoneAsks 39 = .ok (.iload_n 1, 1) := by decide +kernel
theorem dX7_someoneAsks_40 : decode cX7_someoneAsks 40 = .ok (.iload_n 2, 1) := by decide +kernel
theorem dX7_someoneAsks_41 : decode cX7_someoneAsks 41 = .ok (.invokevirtual 88, 3) := by decide +kernel
theorem dX7_someoneAsks_44 : decode cX7_someoneAsks 44 = .ok (.iconst 1, 1) := by decide +kernel
theorem dX7_someoneAsks_45 : decode cX7_someoneAsks 45 = .ok (.ireturn, 1) := by decide +kernel
theorem dX7_someoneAsks_46 : decode cX7_someoneAsks 46 = .ok (.iinc 1 1, 3) := by decide +kernel
theorem dX7_someoneAsks_49 : decode cX7_someoneAsks 49 = .ok (.goto (-47), 3) := by decide +kernel
theorem dX7_someoneAsks_52 : decode cX7_someoneAsks 52 = .ok (.iconst 0, 1) := by decide +kernel
theorem dX7_someoneAsks_53 : decode cX7_someoneAsks 53 = .ok (.ireturn, 1) := by decide +kernel
theorem dX7_nearestNotAsked_0 : decode cX7_nearestNotAsked 0 = .ok (.iconst (-1), 1) := by decide +kernel
theorem dX7_nearestNotAsked_1 : decode cX7_nearestNotAsked 1 = .ok (.istore_n 2, 1) := by decide +kernel
theorem dX7_nearestNotAsked_2 : decode cX7_nearestNotAsked 2 = .ok (.iconst 0, 1) := by decide +kernel
theorem dX7_nearestNotAsked_3 : decode cX7_nearestNotAsked 3 = .ok (.istore_n 3, 1) := by decide +kernel
theorem dX7_nearestNotAsked_4 : decode cX7_nearestNotAsked 4 = .ok (.iload_n 3, 1) := by decide +kernel
theorem dX7_nearestNotAsked_5 : decode cX7_nearestNotAsked 5 = .ok (.bipush 8, 2) := by decide +kernel
theorem dX7_nearestNotAsked_7 : decode cX7_nearestNotAsked 7 = .ok (.if_icmp .ge 84, 3) := by decide +kernel
theorem dX7_nearestNotAsked_10 : decode cX7_nearestNotAsked 10 = .ok (.iload_n 1, 1) := by decide +kernel
theorem dX7_nearestNotAsked_11 : decode cX7_nearestNotAsked 11 = .ok (.ifCond .lt 80, 3) := by decide +kernel
theorem dX7_nearestNotAsked_14 : decode cX7_nearestNotAsked 14 = .ok (.iload_n 1, 1) := by decide +kernel
theorem dX7_nearestNotAsked_15 : decode cX7_nearestNotAsked 15 = .ok (.aload_n 0, 1) := by decide +kernel
theorem dX7_nearestNotAsked_16 : decode cX7_nearestNotAsked 16 = .ok (.getfield 20, 3) := by decide +kernel
theorem dX7_nearestNotAsked_19 : decode cX7_nearestNotAsked 19 = .ok (.arraylength, 1) := by decide +kernel
theorem dX7_nearestNotAsked_20 : decode cX7_nearestNotAsked 20 = .ok (.if_icmp .ge 71, 3) := by decide +kernel
theorem dX7_nearestNotAsked_23 : decode cX7_nearestNotAsked 23 = .ok (.aload_n 0, 1) := by decide +kernel
theorem dX7_nearestNotAsked_24 : decode cX7_nearestNotAsked 24 = .ok (.iload_n 3, 1) := by decide +kernel
theorem dX7_nearestNotAsked_25 : decode cX7_nearestNotAsked 25 = .ok (.iconst 1, 1) := by decide +kernel
theorem dX7_nearestNotAsked_26 : decode cX7_nearestNotAsked 26 = .ok (.invokevirtual 69, 3) := by decide +kernel
theorem dX7_nearestNotAsked_29 : decode cX7_nearestNotAsked 29 = .ok (.ifCond .eq 56, 3) := by decide +kernel
theorem dX7_nearestNotAsked_32 : decode cX7_nearestNotAsked 32 = .ok (.aload_n 0, 1) := by decide +kernel
theorem dX7_nearestNotAsked_33 : decode cX7_nearestNotAsked 33 = .ok (.getfield 30, 3) := by decide +kernel
theorem dX7_nearestNotAsked_36 : decode cX7_nearestNotAsked 36 = .ok (.iload_n 1, 1) := by decide +kernel
theorem dX7_nearestNotAsked_37 : decode cX7_nearestNotAsked 37 = .ok (.iload_n 3, 1) := by decide +kernel
theorem dX7_nearestNotAsked_38 : decode cX7_nearestNotAsked 38 = .ok (.invokevirtual 73, 3) := by decide +kernel
theorem dX7_nearestNotAsked_41 : decode cX7_nearestNotAsked 41 = .ok (.ifCond .eq 44, 3) := by decide +kernel
theorem dX7_nearestNotAsked_44 : decode cX7_nearestNotAsked 44 = .ok (.aload_n 0, 1) := by decide +kernel
theorem dX7_nearestNotAsked_45 : decode cX7_nearestNotAsked 45 = .ok (.getfield 20, 3) := by decide +kernel
theorem dX7_nearestNotAsked_48 : decode cX7_nearestNotAsked 48 = .ok (.iload_n 1, 1) := by decide +kernel
theorem dX7_nearestNotAsked_49 : decode cX7_nearestNotAsked 49 = .ok (.iaload, 1) := by decide +kernel
theorem dX7_nearestNotAsked_50 : decode cX7_nearestNotAsked 50 = .ok (.iload_n 3, 1) := by decide +kernel
theorem dX7_nearestNotAsked_51 : decode cX7_nearestNotAsked 51 = .ok (.ishr, 1) := by decide +kernel
theorem dX7_nearestNotAsked_52 : decode cX7_nearestNotAsked 52 = .ok (.iconst 1, 1) := by decide +kernel
theorem dX7_nearestNotAsked_53 : decode cX7_nearestNotAsked 53 = .ok (.iand, 1) := by decide +kernel
theorem dX7_nearestNotAsked_54 : decode cX7_nearestNotAsked 54 = .ok (.ifCond .ne 31, 3) := by decide +kernel
theorem dX7_nearestNotAsked_57 : decode cX7_nearestNotAsked 57 = .ok (.iload_n 2, 1) := by decide +kernel
theorem dX7_nearestNotAsked_58 : decode cX7_nearestNotAsked 58 = .ok (.iconst (-1), 1) := by decide +kernel
theorem dX7_nearestNotAsked_59 : decode cX7_nearestNotAsked 59 = .ok (.if_icmp .eq 24, 3) := by decide +kernel
theorem dX7_nearestNotAsked_62 : decode cX7_nearestNotAsked 62 = .ok (.aload_n 0, 1) := by decide +kernel
theorem dX7_nearestNotAsked_63 : decode cX7_nearestNotAsked 63 = .ok (.getfield 30, 3) := by decide +kernel
theorem dX7_nearestNotAsked_66 : decode cX7_nearestNotAsked 66 = .ok (.iload_n 1, 1) := by decide +kernel
theorem dX7_nearestNotAsked_67 : decode cX7_nearestNotAsked 67 = .ok (.iload_n 3, 1) := by decide +kernel
theorem dX7_nearestNotAsked_68 : decode cX7_nearestNotAsked 68 = .ok (.invokevirtual 76, 3) := by decide +kernel
theorem dX7_nearestNotAsked_71 : decode cX7_nearestNotAsked 71 = .ok (.aload_n 0, 1) := by decide +kernel
theorem dX7_nearestNotAsked_72 : decode cX7_nearestNotAsked 72 = .ok (.getfield 30, 3) := by decide +kernel
theorem dX7_nearestNotAsked_75 : decode cX7_nearestNotAsked 75 = .ok (.iload_n 1, 1) := by decide +kernel
theorem dX7_nearestNotAsked_76 : decode cX7_nearestNotAsked 76 = .ok (.iload_n 2, 1) := by decide +kernel
theorem dX7_nearestNotAsked_77 : decode cX7_nearestNotAsked 77 = .ok (.invokevirtual 76, 3) := by decide +kernel
theorem dX7_nearestNotAsked_80 : decode cX7_nearestNotAsked 80 = .ok (.if_icmp .ge 5, 3) := by decide +kernel
theorem dX7_nearestNotAsked_83 : decode cX7_nearestNotAsked 83 = .ok (.iload_n 3, 1) := by decide +kernel
theorem dX7_nearestNotAsked_84 : decode cX7_nearestNotAsked 84 = .ok (.istore_n 2, 1) := by decide +kernel
theorem dX7_nearestNotAsked_85 : decode cX7_nearestNotAsked 85 = .ok (.iinc 3 1, 3) := by decide +kernel
theorem dX7_nearestNotAsked_88 : decode cX7_nearestNotAsked 88 = .ok (.goto (-84), 3) := by decide +kernel
theorem dX7_nearestNotAsked_91 : decode cX7_nearestNotAsked 91 = .ok (.iload_n 2, 1) := by decide +kernel
theorem dX7_nearestNotAsked_92 : decode cX7_nearestNotAsked 92 = .ok (.ireturn, 1) := by decide +kernel
theorem dX7_askOne_0 : decode cX7_askOne 0 = .ok (.iload_n 1, 1) := by decide +kernel
theorem dX7_askOne_1 : decode cX7_askOne 1 = .ok (.ifCond .lt 19, 3) := by decide +kernel
theorem dX7_askOne_4 : decode cX7_askOne 4 = .ok (.iload_n 1, 1) := by decide +kernel
theorem dX7_askOne_5 : decode cX7_askOne 5 = .ok (.bipush 8, 2) := by decide +kernel
theorem dX7_askOne_7 : decode cX7_askOne 7 = .ok (.if_icmp .ge 13, 3) := by decide +kernel
theorem dX7_askOne_10 : decode cX7_askOne 10 = .ok (.iload_n 2, 1) := by decide +kernel
theorem dX7_askOne_11 : decode cX7_askOne 11 = .ok (.ifCond .lt 9, 3) := by decide +kernel
theorem dX7_askOne_14 : decode cX7_askOne 14 = .ok (.iload_n 2, 1) := by decide +kernel
theorem dX7_askOne_15 : decode cX7_askOne 15 = .ok (.bipush 8, 2) := by decide +kernel
theorem dX7_askOne_17 : decode cX7_askOne 17 = .ok (.if_icmp .lt 4, 3) := by decide +kernel
theorem dX7_askOne_20 : decode cX7_askOne 20 = .ok (.return_, 1) := by decide +kernel
theorem dX7_askOne_21 : decode cX7_askOne 21 = .ok (.aload_n 0, 1) := by decide +kernel
theorem dX7_askOne_22 : decode cX7_askOne 22 = .ok (.getfield 20, 3) := by decide +kernel
theorem dX7_askOne_25 : decode cX7_askOne 25 = .ok (.iload_n 1, 1) := by decide +kernel
theorem dX7_askOne_26 : decode cX7_askOne 26 = .ok (.dup2, 1) := by decide +kernel
theorem dX7_askOne_27 : decode cX7_askOne 27 = .ok (.iaload, 1) := by decide +kernel
theorem dX7_askOne_28 : decode cX7_askOne 28 = .ok (.iconst 1, 1) := by decide +kernel
theorem dX7_askOne_29 : decode cX7_askOne 29 = .ok (.iload_n 2, 1) := by decide +kernel
theorem dX7_askOne_30 : decode cX7_askOne 30 = .ok (.ishl, 1) := by decide +kernel
theorem dX7_askOne_31 : decode cX7_askOne 31 = .ok (.ior, 1) := by decide +kernel
theorem dX7_askOne_32 : decode cX7_askOne 32 = .ok (.iastore, 1) := by decide +kernel
theorem dX7_askOne_33 : decode cX7_askOne 33 = .ok (.aload_n 0, 1) := by decide +kernel
theorem dX7_askOne_34 : decode cX7_askOne 34 = .ok (.getfield 11, 3) := by decide +kernel
theorem dX7_askOne_37 : decode cX7_askOne 37 = .ok (.iload_n 2, 1) := by decide +kernel
theorem dX7_askOne_38 : decode cX7_askOne 38 = .ok (.iaload, 1) := by decide +kernel
theorem dX7_askOne_39 : decode cX7_askOne 39 = .ok (.istore_n 3, 1) := by decide +kernel
theorem dX7_askOne_40 : decode cX7_askOne 40 = .ok (.iload_n 3, 1) := by decide +kernel
theorem dX7_askOne_41 : decode cX7_askOne 41 = .ok (.iconst (-1), 1) := by decide +kernel
theorem dX7_askOne_42 : decode cX7_askOne 42 = .ok (.if_icmp .eq 13, 3) := by decide +kernel
theorem dX7_askOne_45 : decode cX7_askOne 45 = .ok (.aload_n 0, 1) := by decide +kernel
theorem dX7_askOne_46 : decode cX7_askOne 46 = .ok (.iload_n 2, 1) := by decide +kernel
theorem dX7_askOne_47 : decode cX7_askOne 47 = .ok (.iload_n 1, 1) := by decide +kernel
theorem dX7_askOne_48 : decode cX7_askOne 48 = .ok (.iload_n 3, 1) := by decide +kernel
theorem dX7_askOne_49 : decode cX7_askOne 49 = .ok (.invokevirtual 92, 3) := by decide +kernel
theorem dX7_askOne_52 : decode cX7_askOne 52 = .ok (.ifCond .eq 37, 3) := by decide +kernel
theorem dX7_askOne_55 : decode cX7_askOne 55 = .ok (.aload_n 0, 1) := by decide +kernel
theorem dX7_askOne_56 : decode cX7_askOne 56 = .ok (.getfield 11, 3) := by decide +kernel
theorem dX7_askOne_59 : decode cX7_askOne 59 = .ok (.iload_n 2, 1) := by decide +kernel
theorem dX7_askOne_60 : decode cX7_askOne 60 = .ok (.iload_n 1, 1) := by decide +kernel
theorem dX7_askOne_61 : decode cX7_askOne 61 = .ok (.iastore, 1) := by decide +kernel
theorem dX7_askOne_62 : decode cX7_askOne 62 = .ok (.aload_n 0, 1) := by decide +kernel
theorem dX7_askOne_63 : decode cX7_askOne 63 = .ok (.getfield 11, 3) := by decide +kernel
theorem dX7_askOne_66 : decode cX7_askOne 66 = .ok (.iload_n 1, 1) := by decide +kernel
theorem dX7_askOne_67 : decode cX7_askOne 67 = .ok (.iload_n 2, 1) := by decide +kernel
theorem dX7_askOne_68 : decode cX7_askOne 68 = .ok (.iastore, 1) := by decide +kernel
theorem dX7_askOne_69 : decode cX7_askOne 69 = .ok (.iload_n 3, 1) := by decide +kernel
theorem dX7_askOne_70 : decode cX7_askOne 70 = .ok (.ifCond .lt 19, 3) := by decide +kernel
theorem dX7_askOne_73 : decode cX7_askOne 73 = .ok (.iload_n 3, 1) := by decide +kernel
theorem dX7_askOne_74 : decode cX7_askOne 74 = .ok (.aload_n 0, 1) := by decide +kernel
theorem dX7_askOne_75 : decode cX7_askOne 75 = .ok (.getfield 11, 3) := by decide +kernel
theorem dX7_askOne_78 : decode cX7_askOne 78 = .ok (.arraylength, 1) := by decide +kernel
theorem dX7_askOne_79 : decode cX7_askOne 79 = .ok (.if_icmp .ge 10, 3) := by decide +kernel
theorem dX7_askOne_82 : decode cX7_askOne 82 = .ok (.aload_n 0, 1) := by decide +kernel
theorem dX7_askOne_83 : decode cX7_askOne 83 = .ok (.getfield 11, 3) := by decide +kernel
theorem dX7_askOne_86 : decode cX7_askOne 86 = .ok (.iload_n 3, 1) := by decide +kernel
theorem dX7_askOne_87 : decode cX7_askOne 87 = .ok (.iconst (-1), 1) := by decide +kernel
theorem dX7_askOne_88 : decode cX7_askOne 88 = .ok (.iastore, 1) := by decide +kernel
theorem dX7_askOne_89 : decode cX7_askOne 89 = .ok (.return_, 1) := by decide +kernel
theorem dX7_isNearer_0 : decode cX7_isNearer 0 = .ok (.aload_n 0, 1) := by decide +kernel
theorem dX7_isNearer_1 : decode cX7_isNearer 1 = .ok (.getfield 30, 3) := by decide +kernel
theorem dX7_isNearer_4 : decode cX7_isNearer 4 = .ok (.iload_n 1, 1) := by decide +kernel
theorem dX7_isNearer_5 : decode cX7_isNearer 5 = .ok (.iload_n 2, 1) := by decide +kernel
theorem dX7_isNearer_6 : decode cX7_isNearer 6 = .ok (.invokevirtual 76, 3) := by decide +kernel
theorem dX7_isNearer_9 : decode cX7_isNearer 9 = .ok (.istore 4, 2) := by decide +kernel
theorem dX7_isNearer_11 : decode cX7_isNearer 11 = .ok (.aload_n 0, 1) := by decide +kernel
theorem dX7_isNearer_12 : decode cX7_isNearer 12 = .ok (.getfield 30, 3) := by decide +kernel
theorem dX7_isNearer_15 : decode cX7_isNearer 15 = .ok (.iload_n 1, 1) := by decide +kernel
theorem dX7_isNearer_16 : decode cX7_isNearer 16 = .ok (.iload_n 3, 1) := by decide +kernel
theorem dX7_isNearer_17 : decode cX7_isNearer 17 = .ok (.invokevirtual 76, 3) := by decide +kernel
theorem dX7_isNearer_20 : decode cX7_isNearer 20 = .ok (.istore 5, 2) := by decide +kernel
theorem dX7_isNearer_22 : decode cX7_isNearer 22 = .ok (.iload 4, 2) := by decide +kernel
theorem dX7_isNearer_24 : decode cX7_isNearer 24 = .ok (.iload 5, 2) := by decide +kernel
theorem dX7_isNearer_26 : decode cX7_isNearer 26 = .ok (.if_icmp .lt 15, 3) := by decide +kernel
theorem dX7_isNearer_29 : decode cX7_isNearer 29 = .ok (.iload 4, 2) := by decide +kernel
theorem dX7_isNearer_31 : decode cX7_isNearer 31 = .ok (.iload 5, 2) := by decide +kernel
theorem dX7_isNearer_33 : decode cX7_isNearer 33 = .ok (.if_icmp .ne 12, 3) := by decide +kernel
theorem dX7_isNearer_36 : decode cX7_isNearer 36 = .ok (.iload_n 2, 1) := by decide +kernel
theorem dX7_isNearer_37 : decode cX7_isNearer 37 = .ok (.iload_n 3, 1) := by decide +kernel
theorem dX7_isNearer_38 : decode cX7_isNearer 38 = .ok (.if_icmp .ge 7, 3) := by decide +kernel
theorem dX7_isNearer_41 : decode cX7_isNearer 41 = .ok (.iconst 1, 1) := by decide +kernel
theorem dX7_isNearer_42 : decode cX7_isNearer 42 = .ok (.goto 4, 3) := by decide +kernel
theorem dX7_isNearer_45 : decode cX7_isNearer 45 = .ok (.iconst 0, 1) := by decide +kernel
theorem dX7_isNearer_46 : decode cX7_isNearer 46 = .ok (.ireturn, 1) := by decide +kernel
theorem dX7_runaways_0 : decode cX7_runaways 0 = .ok (.iconst 0, 1) := by decide +kernel
theorem dX7_runaways_1 : decode cX7_runaways 1 = .ok (.istore_n 1, 1) := by decide +kernel
theorem dX7_runaways_2 : decode cX7_runaways 2 = .ok (.iconst 0, 1) := by decide +kernel
theorem dX7_runaways_3 : decode cX7_runaways 3 = .ok (.istore_n 2, 1) := by decide +kernel
theorem dX7_runaways_4 : decode cX7_runaways 4 = .ok (.iload_n 2, 1) := by decide +kernel
theorem dX7_runaways_5 : decode cX7_runaways 5 = .ok (.aload_n 0, 1) := by decide +kernel
theorem dX7_runaways_6 : decode cX7_runaways 6 = .ok (.getfield 30, 3) := by decide +kernel
theorem dX7_runaways_9 : decode cX7_runaways 9 = .ok (.getfield 60, 3) := by decide +kernel
theorem dX7_runaways_12 : decode cX7_runaways 12 = .ok (.if_icmp .ge 90, 3) := by decide +kernel
theorem dX7_runaways_15 : decode cX7_runaways 15 = .ok (.iconst 0, 1) := by decide +kernel
theorem dX7_runaways_16 : decode cX7_runaways 16 = .ok (.istore_n 3, 1) := by decide +kernel
theorem dX7_runaways_17 : decode cX7_runaways 17 = .ok (.iload_n 3, 1) := by decide +kernel
theorem dX7_runaways_18 : decode cX7_runaways 18 = .ok (.aload_n 0, 1) := by decide +kernel
theorem dX7_runaways_19 : decode cX7_runaways 19 = .ok (.getfield 30, 3) := by decide +kernel
theorem dX7_runaways_22 : decode cX7_runaways 22 = .ok (.getfield 60, 3) := by decide +kernel
theorem dX7_runaways_25 : decode cX7_runaways 25 = .ok (.if_icmp .ge 71, 3) := by decide +kernel
theorem dX7_runaways_28 : decode cX7_runaways 28 = .ok (.aload_n 0, 1) := by decide +kernel
theorem dX7_runaways_29 : decode cX7_runaways 29 = .ok (.getfield 30, 3) := by decide +kernel
theorem dX7_runaways_32 : decode cX7_runaways 32 = .ok (.iload_n 2, 1) := by decide +kernel
theorem dX7_runaways_33 : decode cX7_runaways 33 = .ok (.invokevirtual 38, 3) := by decide +kernel
theorem dX7_runaways_36 : decode cX7_runaways 36 = .ok (.getfield 42, 3) := by decide +kernel
theorem dX7_runaways_39 : decode cX7_runaways 39 = .ok (.ifCond .ne 51, 3) := by decide +kernel
theorem dX7_runaways_42 : decode cX7_runaways 42 = .ok (.aload_n 0, 1) := by decide +kernel
theorem dX7_runaways_43 : decode cX7_runaways 43 = .ok (.getfield 30, 3) := by decide +kernel
theorem dX7_runaways_46 : decode cX7_runaways 46 = .ok (.iload_n 3, 1) := by decide +kernel
theorem dX7_runaways_47 : decode cX7_runaways 47 = .ok (.invokevirtual 38, 3) := by decide +kernel
theorem dX7_runaways_50 : decode cX7_runaways 50 = .ok (.getfield 42, 3) := by decide +kernel
theorem dX7_runaways_53 : decode cX7_runaways 53 = .ok (.iconst 1, 1) := by decide +kernel
theorem dX7_runaways_54 : decode cX7_runaways 54 = .ok (.if_icmp .ne 36, 3) := by decide +kernel
theorem dX7_runaways_57 : decode cX7_runaways 57 = .ok (.aload_n 0, 1) := by decide +kernel
theorem dX7_runaways_58 : decode cX7_runaways 58 = .ok (.getfield 30, 3) := by decide +kernel
theorem dX7_runaways_61 : decode cX7_runaways 61 = .ok (.iload_n 2, 1) := by decide +kernel
theorem dX7_runaways_62 : decode cX7_runaways 62 = .ok (.iload_n 3, 1) := by decide +kernel
theorem dX7_runaways_63 : decode cX7_runaways 63 = .ok (.invokevirtual 96, 3) := by decide +kernel
theorem dX7_runaways_66 : decode cX7_runaways 66 = .ok (.ifCond .ne 24, 3) := by decide +kernel
theorem dX7_runaways_69 : decode cX7_runaways 69 = .ok (.aload_n 0, 1) := by decide +kernel
theorem dX7_runaways_70 : decode cX7_runaways 70 = .ok (.iload_n 2, 1) := by decide +kernel
theorem dX7_runaways_71 : decode cX7_runaways 71 = .ok (.iload_n 3, 1) := by decide +kernel
theorem dX7_runaways_72 : decode cX7_runaways 72 = .ok (.invokevirtual 99, 3) := by decide +kernel
theorem dX7_runaways_75 : decode cX7_runaways 75 = .ok (.ifCond .eq 15, 3) := by decide +kernel
theorem dX7_runaways_78 : decode cX7_runaways 78 = .ok (.aload_n 0, 1) := by decide +kernel
theorem dX7_runaways_79 : decode cX7_runaways 79 = .ok (.iload_n 3, 1) := by decide +kernel
theorem dX7_runaways_80 : decode cX7_runaways 80 = .ok (.iload_n 2, 1) := by decide +kernel
theorem dX7_runaways_81 : decode cX7_runaways 81 = .ok (.invokevirtual 99, 3) := by decide +kernel
theorem dX7_runaways_84 : decode cX7_runaways 84 = .ok (.ifCond .eq 6, 3) := by decide +kernel
theorem dX7_runaways_87 : decode cX7_runaways 87 = .ok (.iinc 1 1, 3) := by decide +kernel
theorem dX7_runaways_90 : decode cX7_runaways 90 = .ok (.iinc 3 1, 3) := by decide +kernel
theorem dX7_runaways_93 : decode cX7_runaways 93 = .ok (.goto (-76), 3) := by decide +kernel
theorem dX7_runaways_96 : decode cX7_runaways 96 = .ok (.iinc 2 1, 3) := by decide +kernel
theorem dX7_runaways_99 : decode cX7_runaways 99 = .ok (.goto (-95), 3) := by decide +kernel
theorem dX7_runaways_102 : decode cX7_runaways 102 = .ok (.iload_n 1, 1) := by decide +kernel
theorem dX7_runaways_103 : decode cX7_runaways 103 = .ok (.ireturn, 1) := by decide +kernel
theorem dX7_wouldRather_0 : decode cX7_wouldRather 0 = .ok (.aload_n 0, 1) := by decide +kernel
theorem dX7_wouldRather_1 : decode cX7_wouldRather 1 = .ok (.getfield 30, 3) := by decide +kernel
theorem dX7_wouldRather_4 : decode cX7_wouldRather 4 = .ok (.iload_n 1, 1) := by decide +kernel
theorem dX7_wouldRather_5 : decode cX7_wouldRather 5 = .ok (.invokevirtual 38, 3) := by decide +kernel
theorem dX7_wouldRather_8 : decode cX7_wouldRather 8 = .ok (.getfield 47, 3) := by decide +kernel
theorem dX7_wouldRather_11 : decode cX7_wouldRather 11 = .ok (.istore_n 3, 1) := by decide +kernel
theorem dX7_wouldRather_12 : decode cX7_wouldRather 12 = .ok (.iload_n 3, 1) := by decide +kernel
theorem dX7_wouldRather_13 : decode cX7_wouldRather 13 = .ok (.iconst (-1), 1) := by decide +kernel
theorem dX7_wouldRather_14 : decode cX7_wouldRather 14 = .ok (.if_icmp .eq 24, 3) := by decide +kernel
theorem dX7_wouldRather_17 : decode cX7_wouldRather 17 = .ok (.aload_n 0, 1) := by decide +kernel
theorem dX7_wouldRather_18 : decode cX7_wouldRather 18 = .ok (.getfield 30, 3) := by decide +kernel
theorem dX7_wouldRather_21 : decode cX7_wouldRather 21 = .ok (.iload_n 1, 1) := by decide +kernel
theorem dX7_wouldRather_22 : decode cX7_wouldRather 22 = .ok (.iload_n 2, 1) := by decide +kernel
theorem dX7_wouldRather_23 : decode cX7_wouldRather 23 = .ok (.invokevirtual 76, 3) := by decide +kernel
theorem dX7_wouldRather_26 : decode cX7_wouldRather 26 = .ok (.aload_n 0, 1) := by decide +kernel
theorem dX7_wouldRather_27 : decode cX7_wouldRather 27 = .ok (.getfield 30, 3) := by decide +kernel
theorem dX7_wouldRather_30 : decode cX7_wouldRather 30 = .ok (.iload_n 1, 1) := by decide +kernel
theorem dX7_wouldRather_31 : decode cX7_wouldRather 31 = .ok (.iload_n 3, 1) := by decide +kernel
theorem dX7_wouldRather_32 : decode cX7_wouldRather 32 = .ok (.invokevirtual 76, 3) := by decide +kernel
theorem dX7_wouldRather_35 : decode cX7_wouldRather 35 = .ok (.if_icmp .ge 7, 3) := by decide +kernel
theorem dX7_wouldRather_38 : decode cX7_wouldRather 38 = .ok (.iconst 1, 1) := by decide +kernel
theorem dX7_wouldRather_39 : decode cX7_wouldRather 39 = .ok (.goto 4, 3) := by decide +kernel
theorem dX7_wouldRather_42 : decode cX7_wouldRather 42 = .ok (.iconst 0, 1) := by decide +kernel
theorem dX7_wouldRather_43 : decode cX7_wouldRather 43 = .ok (.ireturn, 1) := by decide +kernel
theorem dX8_init_0 : decode cX8_init 0 = .ok (.aload_n 0, 1) := by decide +kernel
theorem dX8_init_1 : decode cX8_init 1 = .ok (.invokespecial 3, 3) := by decide +kernel
theorem dX8_init_4 : decode cX8_init 4 = .ok (.aload_n 0, 1) := by decide +kernel
theorem dX8_init_5 : decode cX8_init 5 = .ok (.iconst (-1), 1) := by decide +kernel
theorem dX8_init_6 : decode cX8_init 6 = .ok (.putfield 9, 3) := by decide +kernel
theorem dX8_init_9 : decode cX8_init 9 = .ok (.aload_n 0, 1) := by decide +kernel
theorem dX8_init_10 : decode cX8_init 10 = .ok (.iconst (-1), 1) := by decide +kernel
theorem dX8_init_11 : decode cX8_init 11 = .ok (.putfield 15, 3) := by decide +kernel
theorem dX8_init_14 : decode cX8_init 14 = .ok (.aload_n 0, 1) := by decide +kernel
theorem dX8_init_15 : decode cX8_init 15 = .ok (.bipush 50, 2) := by decide +kernel
theorem dX8_init_17 : decode cX8_init 17 = .ok (.putfield 18, 3) := by decide +kernel
theorem dX8_init_20 : decode cX8_init 20 = .ok (.return_, 1) := by decide +kernel
theorem dX8_take_0 : decode cX8_take 0 = .ok (.aload_n 0, 1) := by decide +kernel
theorem dX8_take_1 : decode cX8_take 1 = .ok (.aload_n 1, 1) := by decide +kernel
theorem dX8_take_2 : decode cX8_take 2 = .ok (.getfield 21, 3) := by decide +kernel
theorem dX8_take_5 : decode cX8_take 5 = .ok (.putfield 21, 3) := by decide +kernel
theorem dX8_take_8 : decode cX8_take 8 = .ok (.aload_n 0, 1) := by decide +kernel
theorem dX8_take_9 : decode cX8_take 9 = .ok (.aload_n 1, 1) := by decide +kernel
theorem dX8_take_10 : decode cX8_take 10 = .ok (.getfield 24, 3) := by decide +kernel
theorem dX8_take_13 : decode cX8_take 13 = .ok (.putfield 24, 3) := by decide +kernel
theorem dX8_take_16 : decode cX8_take 16 = .ok (.aload_n 0, 1) := by decide +kernel
theorem dX8_take_17 : decode cX8_take 17 = .ok (.aload_n 1, 1) := by decide +kernel
theorem dX8_take_18 : decode cX8_take 18 = .ok (.getfield 27, 3) := by decide +kernel
theorem dX8_take_21 : decode cX8_take 21 = .ok (.putfield 27, 3) := by decide +kernel
theorem dX8_take_24 : decode cX8_take 24 = .ok (.aload_n 0, 1) := by decide +kernel
theorem dX8_take_25 : decode cX8_take 25 = .ok (.aload_n 1, 1) := by decide +kernel
theorem dX8_take_26 : decode cX8_take 26 = .ok (.getfield 9, 3) := by decide +kernel
theorem dX8_take_29 : decode cX8_take 29 = .ok (.putfield 9, 3) := by decide +kernel
theorem dX8_take_32 : decode cX8_take 32 = .ok (.aload_n 0, 1) := by decide +kernel
theorem dX8_take_33 : decode cX8_take 33 = .ok (.aload_n 1, 1) := by decide +kernel
theorem dX8_take_34 : decode cX8_take 34 = .ok (.getfield 15, 3) := by decide +kernel
theorem dX8_take_37 : decode cX8_take 37 = .ok (.putfield 15, 3) := by decide +kernel
theorem dX8_take_40 : decode cX8_take 40 = .ok (.aload_n 0, 1) := by decide +kernel
theorem dX8_take_41 : decode cX8_take 41 = .ok (.aload_n 1, 1) := by decide +kernel
theorem dX8_take_42 : decode cX8_take 42 = .ok (.getfield 30, 3) := by decide +kernel
theorem dX8_take_45 : decode cX8_take 45 = .ok (.putfield 30, 3) := by decide +kernel
theorem dX8_take_48 : decode cX8_take 48 = .ok (.aload_n 0, 1) := by decide +kernel
theorem dX8_take_49 : decode cX8_take 49 = .ok (.aload_n 1, 1) := by decide +kernel
theorem dX8_take_50 : decode cX8_take 50 = .ok (.getfield 18, 3) := by decide +kernel
theorem dX8_take_53 : decode cX8_take 53 = .ok (.putfield 18, 3) := by decide +kernel
theorem dX8_take_56 : decode cX8_take 56 = .ok (.aload_n 0, 1) := by decide +kernel
theorem dX8_take_57 : decode cX8_take 57 = .ok (.aload_n 1, 1) := by decide +kernel
theorem dX8_take_58 : decode cX8_take 58 = .ok (.getfield 33, 3) := by decide +kernel
theorem dX8_take_61 : decode cX8_take 61 = .ok (.putfield 33, 3) := by decide +kernel
theorem dX8_take_64 : decode cX8_take 64 = .ok (.aload_n 0, 1) := by decide +kernel
theorem dX8_take_65 : decode cX8_take 65 = .ok (.aload_n 1, 1) := by decide +kernel
theorem dX8_take_66 : decode cX8_take 66 = .ok (.getfield 36, 3) := by decide +kernel
theorem dX8_take_69 : decode cX8_take 69 = .ok (.putfield 36, 3) := by decide +kernel
theorem dX8_take_72 : decode cX8_take 72 = .ok (.return_, 1) := by decide +kernel
theorem dX9_init_0 : decode cX9_init 0 = .ok (.aload_n 0, 1) := by decide +kernel
theorem dX9_init_1 : decode cX9_init 1 = .ok (.invokespecial 3, 3) := by decide +kernel
theorem dX9_init_4 : decode cX9_init 4 = .ok (.aload_n 0, 1) := by decide +kernel
theorem dX9_init_5 : decode cX9_init 5 = .ok (.sipush 400, 3) := by decide +kernel
theorem dX9_init_8 : decode cX9_init 8 = .ok (.newarray .int, 2) := by decide +kernel
theorem dX9_init_10 : decode cX9_init 10 = .ok (.putfield 9, 3) := by decide +kernel
theorem dX9_init_13 : decode cX9_init 13 = .ok (.aload_n 0, 1) := by decide +kernel
theorem dX9_init_14 : decode cX9_init 14 = .ok (.sipush 400, 3) := by decide +kernel
theorem dX9_init_17 : decode cX9_init 17 = .ok (.newarray .int, 2) := by decide +kernel
theorem dX9_init_19 : decode cX9_init 19 = .ok (.putfield 15, 3) := by decide +kernel
theorem dX9_init_22 : decode cX9_init 22 = .ok (.aload_n 0, 1) := by decide +kernel
theorem dX9_init_23 : decode cX9_init 23 = .ok (.sipush 400, 3) := by decide +kernel
theorem dX9_init_26 : decode cX9_init 26 = .ok (.newarray .int, 2) := by decide +kernel
theorem dX9_init_28 : decode cX9_init 28 = .ok (.putfield 18, 3) := by decide +kernel
theorem dX9_init_31 : decode cX9_init 31 = .ok (.aload_n 0, 1) := by decide +kernel
theorem dX9_init_32 : decode cX9_init 32 = .ok (.iconst 0, 1) := by decide +kernel
theorem dX9_init_33 : decode cX9_init 33 = .ok (.putfield 21, 3) := by decide +kernel
theorem dX9_init_36 : decode cX9_init 36 = .ok (.aload_n 0, 1) := by decide +kernel
theorem dX9_init_37 : decode cX9_init 37 = .ok (.iconst 0, 1) := by decide +kernel
theorem dX9_init_38 : decode cX9_init 38 = .ok (.putfield 25, 3) := by decide +kernel
theorem dX9_init_41 : decode cX9_init 41 = .ok (.aload_n 0, 1) := by decide +kernel
theorem dX9_init_42 : decode cX9_init 42 = .ok (.iconst 0, 1) := by decide +kernel
theorem dX9_init_43 : decode cX9_init 43 = .ok (.putfield 28, 3) := by decide +kernel
theorem dX9_init_46 : decode cX9_init 46 = .ok (.aload_n 0, 1) := by decide +kernel
theorem dX9_init_47 : decode cX9_init 47 = .ok (.iconst 0, 1) := by decide +kernel
theorem dX9_init_48 : decode cX9_init 48 = .ok (.putfield 31, 3) := by decide +kernel
theorem dX9_init_51 : decode cX9_init 51 = .ok (.aload_n 0, 1) := by decide +kernel
theorem dX9_init_52 : decode cX9_init 52 = .ok (.iload_n 1, 1) := by decide +kernel
theorem dX9_init_53 : decode cX9_init 53 = .ok (.putfield 34, 3) := by decide +kernel
theorem dX9_init_56 : decode cX9_init 56 = .ok (.return_, 1) := by decide +kernel
theorem dX9_readText_0 : decode cX9_readText 0 = .ok (.aload_n 0, 1) := by decide +kernel
theorem dX9_readText_1 : decode cX9_readText 1 = .ok (.aload_n 1, 1) := by decide +kernel
theorem dX9_readText_2 : decode cX9_readText 2 = .ok (.iload_n 2, 1) := by decide +kernel
theorem dX9_readText_3 : decode cX9_readText 3 = .ok (.aload_n 1, 1) := by decide +kernel
theorem dX9_readText_4 : decode cX9_readText 4 = .ok (.arraylength, 1) := by decide +kernel
theorem dX9_readText_5 : decode cX9_readText 5 = .ok (.invokestatic 37, 3) := by decide +kernel
theorem dX9_readText_8 : decode cX9_readText 8 = .ok (.invokevirtual 43, 3) := by decide +kernel
theorem dX9_readText_11 : decode cX9_readText 11 = .ok (.aload_n 0, 1) := by decide +kernel
theorem dX9_readText_12 : decode cX9_readText 12 = .ok (.iconst 0, 1) := by decide +kernel
theorem dX9_readText_13 : decode cX9_readText 13 = .ok (.putfield 28, 3) := by decide +kernel
theorem dX9_readText_16 : decode cX9_readText 16 = .ok (.aload_n 0, 1) := by decide +kernel
theorem dX9_readText_17 : decode cX9_readText 17 = .ok (.invokevirtual 47, 3) := by decide +kernel
theorem dX9_readText_20 : decode cX9_readText 20 = .ok (.iconst 1, 1) := by decide +kernel
theorem dX9_readText_21 : decode cX9_readText 21 = .ok (.if_icmp .ne 5, 3) := by decide +kernel
theorem dX9_readText_24 : decode cX9_readText 24 = .ok (.iconst (-1), 1) := by decide +kernel
theorem dX9_readText_25 : decode cX9_readText 25 = .ok (.ireturn, 1) := by decide +kernel
theorem dX9_readText_26 : decode cX9_readText 26 = .ok (.iconst 0, 1) := by decide +kernel
theorem dX9_readText_27 : decode cX9_readText 27 = .ok (.istore_n 3, 1) := by decide +kernel
theorem dX9_readText_28 : decode cX9_readText 28 = .ok (.iload_n 3, 1) := by decide +kernel
theorem dX9_readText_29 : decode cX9_readText 29 = .ok (.aload_n 0, 1) := by decide +kernel
theorem dX9_readText_30 : decode cX9_readText 30 = .ok (.getfield 34, 3) := by decide +kernel
theorem dX9_readText_33 : decode cX9_readText 33 = .ok (.if_icmp .ge 45, 3) := by decide +kernel
theorem dX9_readText_36 : decode cX9_readText 36 = .ok (.aload_n 0, 1) := by decide +kernel
theorem dX9_readText_37 : decode cX9_readText 37 = .ok (.invokevirtual 51, 3) := by decide +kernel
theorem dX9_readText_40 : decode cX9_readText 40 = .ok (.ifCond .ne 8, 3) := by decide +kernel
theorem dX9_readText_43 : decode cX9_readText 43 = .ok (.aload_n 0, 1) := by decide +kernel
theorem dX9_readText_44 : decode cX9_readText 44 = .ok (.invokevirtual 55, 3) := by decide +kernel
theorem dX9_readText_47 : decode cX9_readText 47 = .ok (.ireturn, 1) := by decide +kernel
theorem dX9_readText_48 : decode cX9_readText 48 = .ok (.aload_n 0, 1) := by decide +kernel
theorem dX9_readText_49 : decode cX9_readText 49 = .ok (.invokevirtual 47, 3) := by decide +kernel
theorem dX9_readText_52 : decode cX9_readText 52 = .ok (.iconst 1, 1) := by decide +kernel
theorem dX9_readText_53 : decode cX9_readText 53 = .ok (.if_icmp .ne 5, 3) := by decide +kernel
theorem dX9_readText_56 : decode cX9_readText 56 = .ok (.iconst (-1), 1) := by decide +kernel
theorem dX9_readText_57 : decode cX9_readText 57 = .ok (.ireturn, 1) := by decide +kernel
theorem dX9_readText_58 : decode cX9_readText 58 = .ok (.aload_n 0, 1) := by decide +kernel
theorem dX9_readText_59 : decode cX9_readText 59 = .ok (.bipush 59, 2) := by decide +kernel
theorem dX9_readText_61 : decode cX9_readText 61 = .ok (.invokevirtual 58, 3) := by decide +kernel
theorem dX9_readText_64 : decode cX9_readText 64 = .ok (.ifCond .ne 8, 3) := by decide +kernel
theorem dX9_readText_67 : decode cX9_readText 67 = .ok (.aload_n 0, 1) := by decide +kernel
theorem dX9_readText_68 : decode cX9_readText 68 = .ok (.invokevirtual 55, 3) := by decide +kernel
theorem dX9_readText_71 : decode cX9_readText 71 = .ok (.ireturn, 1) := by decide +kernel
theorem dX9_readText_72 : decode cX9_readText 72 = .ok (.iinc 3 1, 3) := by decide +kernel
theorem dX9_readText_75 : decode cX9_readText 75 = .ok (.goto (-47), 3) := by decide +kernel
theorem dX9_readText_78 : decode cX9_readText 78 = .ok (.aload_n 0, 1) := by decide +kernel
theorem dX9_readText_79 : decode cX9_readText 79 = .ok (.invokevirtual 55, 3) := by decide +kernel
theorem dX9_readText_82 : decode cX9_readText 82 = .ok (.ireturn, 1) := by decide +kernel
theorem dX9_next_0 : decode cX9_next 0 = .ok (.aload_n 0, 1) := by decide +kernel
theorem dX9_next_1 : decode cX9_next 1 = .ok (.getfield 28, 3) := by decide +kernel
theorem dX9_next_4 : decode cX9_next 4 = .ok (.ifCond .lt 38, 3) := by decide +kernel
theorem dX9_next_7 : decode cX9_next 7 = .ok (.aload_n 0, 1) := by decide +kernel
theorem dX9_next_8 : decode cX9_next 8 = .ok (.getfield 28, 3) := by decide +kernel
theorem dX9_next_11 : decode cX9_next 11 = .ok (.aload_n 0, 1) := by decide +kernel
theorem dX9_next_12 : decode cX9_next 12 = .ok (.getfield 21, 3) := by decide +kernel
theorem dX9_next_15 : decode cX9_next 15 = .ok (.if_icmp .ge 27, 3) := by decide +kernel
theorem dX9_next_18 : decode cX9_next 18 = .ok (.aload_n 0, 1) := by decide +kernel
theorem dX9_next_19 : decode cX9_next 19 = .ok (.getfield 28, 3) := by decide +kernel
theorem dX9_next_22 : decode cX9_next 22 = .ok (.aload_n 0, 1) := by decide +kernel
theorem dX9_next_23 : decode cX9_next 23 = .ok (.getfield 9, 3) := by decide +kernel
theorem dX9_next_26 : decode cX9_next 26 = .ok (.arraylength, 1) := by decide +kernel
theorem dX9_next_27 : decode cX9_next 27 = .ok (.if_icmp .ge 15, 3) := by decide +kernel
theorem dX9_next_30 : decode cX9_next 30 = .ok (.aload_n 0, 1) := by decide +kernel
theorem dX9_next_31 : decode cX9_next 31 = .ok (.getfield 9, 3) := by decide +kernel
theorem dX9_next_34 : decode cX9_next 34 = .ok (.aload_n 0, 1) := by decide +kernel
theorem dX9_next_35 : decode cX9_next 35 = .ok (.getfield 28, 3) := by decide +kernel
theorem dX9_next_38 : decode cX9_next 38 = .ok (.iaload, 1) := by decide +kernel
theorem dX9_next_39 : decode cX9_next 39 = .ok (.goto 4, 3) := by decide +kernel
theorem dX9_next_42 : decode cX9_next 42 = .ok (.iconst 1, 1) := by decide +kernel
theorem dX9_next_43 : decode cX9_next 43 = .ok (.ireturn, 1) := by decide +kernel
theorem dX9_beginOfNext_0 : decode cX9_beginOfNext 0 = .ok (.aload_n 0, 1) := by decide +kernel
theorem dX9_beginOfNext_1 : decode cX9_beginOfNext 1 = .ok (.getfield 28, 3) := by decide +kernel
theorem dX9_beginOfNext_4 : decode cX9_beginOfNext 4 = .ok (.ifCond .lt 38, 3) := by decide +kernel
theorem dX9_beginOfNext_7 : decode cX9_beginOfNext 7 = .ok (.aload_n 0, 1) := by decide +kernel
theorem dX9_beginOfNext_8 : decode cX9_beginOfNext 8 = .ok (.getfield 28, 3) := by decide +kernel
theorem dX9_beginOfNext_11 : decode cX9_beginOfNext 11 = .ok (.aload_n 0, 1) := by decide +kernel
theorem dX9_beginOfNext_12 : decode cX9_beginOfNext 12 = .ok (.getfield 21, 3) := by decide +kernel
theorem dX9_beginOfNext_15 : decode cX9_beginOfNext 15 = .ok (.if_icmp .ge 27, 3) := by decide +kernel
theorem dX9_beginOfNext_18 : decode cX9_beginOfNext 18 = .ok (.aload_n 0, 1) := by decide +kernel
theorem dX9_beginOfNext_19 : decode cX9_beginOfNext 19 = .ok (.getfield 28, 3) := by decide +kernel
theorem dX9_beginOfNext_22 : decode cX9_beginOfNext 22 = .ok (.aload_n 0, 1) := by decide +kernel
theorem dX9_beginOfNext_23 : decode cX9_beginOfNext 23 = .ok (.getfield 15, 3) := by decide +kernel
theorem dX9_beginOfNext_26 : decode cX9_beginOfNext 26 = .ok (.arraylength, 1) := by decide +kernel
theorem dX9_beginOfNext_27 : decode cX9_beginOfNext 27 = .ok (.if_icmp .ge 15, 3) := by decide +kernel
theorem dX9_beginOfNext_30 : decode cX9_beginOfNext 30 = .ok (.aload_n 0, 1) := by decide +kernel
theorem dX9_beginOfNext_31 : decode cX9_beginOfNext 31 = .ok (.getfield 15, 3) := by decide +kernel
theorem dX9_beginOfNext_34 : decode cX9_beginOfNext 34 = .ok (.aload_n 0, 1) := by decide +kernel
theorem dX9_beginOfNext_35 : decode cX9_beginOfNext 35 = .ok (.getfield 28, 3) := by decide +kernel
theorem dX9_beginOfNext_38 : decode cX9_beginOfNext 38 = .ok (.iaload, 1) := by decide +kernel
theorem dX9_beginOfNext_39 : decode cX9_beginOfNext 39 = .ok (.goto 7, 3) := by decide +kernel
theorem dX9_beginOfNext_42 : decode cX9_beginOfNext 42 = .ok (.aload_n 0, 1) := by decide +kernel
theorem dX9_beginOfNext_43 : decode cX9_beginOfNext 43 = .ok (.getfield 25, 3) := by decide +kernel
theorem dX9_beginOfNext_46 : decode cX9_beginOfNext 46 = .ok (.ireturn, 1) := by decide +kernel
theorem dX9_numberOfNext_0 : decode cX9_numberOfNext 0 = .ok (.aload_n 0, 1) := by decide +kernel
theorem dX9_numberOfNext_1 : decode cX9_numberOfNext 1 = .ok (.getfield 28, 3) := by decide +kernel
theorem dX9_numberOfNext_4 : decode cX9_numberOfNext 4 = .ok (.ifCond .lt 38, 3) := by decide +kernel
theorem dX9_numberOfNext_7 : decode cX9_numberOfNext 7 = .ok (.aload_n 0, 1) := by decide +kernel
theorem dX9_numberOfNext_8 : decode cX9_numberOfNext 8 = .ok (.getfield 28, 3) := by decide +kernel
theorem dX9_numberOfNext_11 : decode cX9_numberOfNext 11 = .ok (.aload_n 0, 1) := by decide +kernel
theorem dX9_numberOfNext_12 : decode cX9_numberOfNext 12 = .ok (.getfield 21, 3) := by decide +kernel
theorem dX9_numberOfNext_15 : decode cX9_numberOfNext 15 = .ok (.if_icmp .ge 27, 3) := by decide +kernel
theorem dX9_numberOfNext_18 : decode cX9_numberOfNext 18 = .ok (.aload_n 0, 1) := by decide +kernel
theorem dX9_numberOfNext_19 : decode cX9_numberOfNext 19 = .ok (.getfield 28, 3) := by decide +kernel
theorem dX9_numberOfNext_22 : decode cX9_numberOfNext 22 = .ok (.aload_n 0, 1) := by decide +kernel
theorem dX9_numberOfNext_23 : decode cX9_numberOfNext 23 = .ok (.getfield 18, 3) := by decide +kernel
theorem dX9_numberOfNext_26 : decode cX9_numberOfNext 26 = .ok (.arraylength, 1) := by decide +kernel
theorem dX9_numberOfNext_27 : decode cX9_numberOfNext 27 = .ok (.if_icmp .ge 15, 3) := by decide +kernel
theorem dX9_numberOfNext_30 : decode cX9_numberOfNext 30 = .ok (.aload_n 0, 1) := by decide +kernel
theorem dX9_numberOfNext_31 : decode cX9_numberOfNext 31 = .ok (.getfield 18, 3) := by decide +kernel
theorem dX9_numberOfNext_34 : decode cX9_numberOfNext 34 = .ok (.aload_n 0, 1) := by decide +kernel
theorem dX9_numberOfNext_35 : decode cX9_numberOfNext 35 = .ok (.getfield 28, 3) := by decide +kernel
theorem dX9_numberOfNext_38 : decode cX9_numberOfNext 38 = .ok (.iaload, 1) := by decide +kernel
theorem dX9_numberOfNext_39 : decode cX9_numberOfNext 39 = .ok (.goto 4, 3) := by decide +kernel
theorem dX9_numberOfNext_42 : decode cX9_numberOfNext 42 = .ok (.iconst 0, 1) := by decide +kernel
theorem dX9_numberOfNext_43 : decode cX9_numberOfNext 43 = .ok (.ireturn, 1) := by decide +kernel
theorem dX9_took_0 : decode cX9_took 0 = .ok (.aload_n 0, 1) := by decide +kernel
theorem dX9_took_1 : decode cX9_took 1 = .ok (.invokevirtual 47, 3) := by decide +kernel
theorem dX9_took_4 : decode cX9_took 4 = .ok (.iload_n 1, 1) := by decide +kernel
theorem dX9_took_5 : decode cX9_took 5 = .ok (.if_icmp .eq 5, 3) := by decide +kernel
theorem dX9_took_8 : decode cX9_took 8 = .ok (.iconst 0, 1) := by decide +kernel
theorem dX9_took_9 : decode cX9_took 9 = .ok (.ireturn, 1) := by decide +kernel
theorem dX9_took_10 : decode cX9_took 10 = .ok (.aload_n 0, 1) := by decide +kernel
theorem dX9_took_11 : decode cX9_took 11 = .ok (.dup, 1) := by decide +kernel
theorem dX9_took_12 : decode cX9_took 12 = .ok (.getfield 28, 3) := by decide +kernel
theorem dX9_took_15 : decode cX9_took 15 = .ok (.iconst 1, 1) := by decide +kernel
theorem dX9_took_16 : decode cX9_took 16 = .ok (.iadd, 1) := by decide +kernel
theorem dX9_took_17 : decode cX9_took 17 = .ok (.putfield 28, 3) := by decide +kernel
theorem dX9_took_20 : decode cX9_took 20 = .ok (.iconst 1, 1) := by decide +kernel
theorem dX9_took_21 : decode cX9_took 21 = .ok (.ireturn, 1) := by decide +kernel
theorem dX9_tookNumber_0 : decode cX9_tookNumber 0 = .ok (.aload_n 0, 1) := by decide +kernel
theorem dX9_tookNumber_1 : decode cX9_tookNumber 1 = .ok (.invokevirtual 62, 3) := by decide +kernel
theorem dX9_tookNumber_4 : decode cX9_tookNumber 4 = .ok (.istore_n 3, 1) := by decide +kernel
theorem dX9_tookNumber_5 : decode cX9_tookNumber 5 = .ok (.aload_n 0, 1) := by decide +kernel
theorem dX9_tookNumber_6 : decode cX9_tookNumber 6 = .ok (.invokevirtual 47, 3) := by decide +kernel
theorem dX9_tookNumber_9 : decode cX9_tookNumber 9 = .ok (.iconst 2, 1) := by decide +kernel
theorem dX9_tookNumber_10 : decode cX9_tookNumber 10 = .ok (.if_icmp .ne 13, 3) := by decide +kernel
theorem dX9_tookNumber_13 : decode cX9_tookNumber 13 = .ok (.iload_n 3, 1) := by decide +kernel
theorem dX9_tookNumber_14 : decode cX9_tookNumber 14 = .ok (.iload_n 1, 1) := by decide +kernel
theorem dX9_tookNumber_15 : decode cX9_tookNumber 15 = .ok (.if_icmp .lt 8, 3) := by decide +kernel
theorem dX9_tookNumber_18 : decode cX9_tookNumber 18 = .ok (.iload_n 3, 1) := by decide +kernel
theorem dX9_tookNumber_19 : decode cX9_tookNumber 19 = .ok (.iload_n 2, 1) := by decide +kernel
theorem dX9_tookNumber_20 : decode cX9_tookNumber 20 = .ok (.if_icmp .le 5, 3) := by decide +kernel
theorem dX9_tookNumber_23 : decode cX9_tookNumber 23 = .ok (.iconst 0, 1) := by decide +kernel
theorem dX9_tookNumber_24 : decode cX9_tookNumber 24 = .ok (.ireturn, 1) := by decide +kernel
theorem dX9_tookNumber_25 : decode cX9_tookNumber 25 = .ok (.aload_n 0, 1) := by decide +kernel
theorem dX9_tookNumber_26 : decode cX9_tookNumber 26 = .ok (.iload_n 3, 1) := by decide +kernel
theorem dX9_tookNumber_27 : decode cX9_tookNumber 27 = .ok (.putfield 31, 3) := by decide +kernel
theorem dX9_tookNumber_30 : decode cX9_tookNumber 30 = .ok (.aload_n 0, 1) := by decide +kernel
theorem dX9_tookNumber_31 : decode cX9_tookNumber 31 = .ok (.dup, 1) := by decide +kernel
theorem dX9_tookNumber_32 : decode cX9_tookNumber 32 = .ok (.getfield 28, 3) := by decide +kernel
theorem dX9_tookNumber_35 : decode cX9_tookNumber 35 = .ok (.iconst 1, 1) := by decide +kernel
theorem dX9_tookNumber_36 : decode cX9_tookNumber 36 = .ok (.iadd, 1) := by decide +kernel
theorem dX9_tookNumber_37 : decode cX9_tookNumber 37 = .ok (.putfield 28, 3) := by decide +kernel
theorem dX9_tookNumber_40 : decode cX9_tookNumber 40 = .ok (.iconst 1, 1) := by decide +kernel
theorem dX9_tookNumber_41 : decode cX9_tookNumber 41 = .ok (.ireturn, 1) := by decide +kernel
theorem dX9_partText_0 : decode cX9_partText 0 = .ok (.aload_n 0, 1) := by decide +kernel
theorem dX9_partText_1 : decode cX9_partText 1 = .ok (.iconst 0, 1) := by decide +kernel
theorem dX9_partText_2 : decode cX9_partText 2 = .ok (.putfield 21, 3) := by decide +kernel
theorem dX9_partText_5 : decode cX9_partText 5 = .ok (.aload_n 0, 1) := by decide +kernel
theorem dX9_partText_6 : decode cX9_partText 6 = .ok (.iload_n 2, 1) := by decide +kernel
theorem dX9_partText_7 : decode cX9_partText 7 = .ok (.putfield 25, 3) := by decide +kernel
theorem dX9_partText_10 : decode cX9_partText 10 = .ok (.iconst 0, 1) := by decide +kernel
theorem dX9_partText_11 : decode cX9_partText 11 = .ok (.istore_n 3, 1) := by decide +kernel
theorem dX9_partText_12 : decode cX9_partText 12 = .ok (.iconst 0, 1) := by decide +kernel
theorem dX9_partText_13 : decode cX9_partText 13 = .ok (.istore 4, 2) := by decide +kernel
theorem dX9_partText_15 : decode cX9_partText 15 = .ok (.iload 4, 2) := by decide +kernel
theorem dX9_partText_17 : decode cX9_partText 17 = .ok (.aload_n 0, 1) := by decide +kernel
theorem dX9_partText_18 : decode cX9_partText 18 = .ok (.getfield 25, 3) := by decide +kernel
theorem dX9_partText_21 : decode cX9_partText 21 = .ok (.if_icmp .ge 48, 3) := by decide +kernel
theorem dX9_partText_24 : decode cX9_partText 24 = .ok (.aload_n 0, 1) := by decide +kernel
theorem dX9_partText_25 : decode cX9_partText 25 = .ok (.aload_n 1, 1) := by decide +kernel
theorem dX9_partText_26 : decode cX9_partText 26 = .ok (.iload 4, 2) := by decide +kernel
theorem dX9_partText_28 : decode cX9_partText 28 = .ok (.invokevirtual 65, 3) := by decide +kernel
theorem dX9_partText_31 : decode cX9_partText 31 = .ok (.istore_n 3, 1) := by decide +kernel
theorem dX9_partText_32 : decode cX9_partText 32 = .ok (.aload_n 1, 1) := by decide +kernel
theorem dX9_partText_33 : decode cX9_partText 33 = .ok (.iload 4, 2) := by decide +kernel
theorem dX9_partText_35 : decode cX9_partText 35 = .ok (.iaload, 1) := by decide +kernel
theorem dX9_partText_36 : decode cX9_partText 36 = .ok (.bipush 32, 2) := by decide +kernel
theorem dX9_partText_38 : decode cX9_partText 38 = .ok (.if_icmp .eq 18, 3) := by decide +kernel
theorem dX9_partText_41 : decode cX9_partText 41 = .ok (.aload_n 0, 1) := by decide +kernel
theorem dX9_partText_42 : decode cX9_partText 42 = .ok (.aload_n 1, 1) := by decide +kernel
theorem dX9_partText_43 : decode cX9_partText 43 = .ok (.iload 4, 2) := by decide +kernel
theorem dX9_partText_45 : decode cX9_partText 45 = .ok (.iload 4, 2) := by decide +kernel
theorem dX9_partText_47 : decode cX9_partText 47 = .ok (.iconst 1, 1) := by decide +kernel
theorem dX9_partText_48 : decode cX9_partText 48 = .ok (.iadd, 1) := by decide +kernel
theorem dX9_partText_49 : decode cX9_partText 49 = .ok (.iload_n 3, 1) := by decide +kernel
theorem dX9_partText_50 : decode cX9_partText 50 = .ok (.invokestatic 69, 3) := by decide +kernel
theorem dX9_partText_53 : decode cX9_partText 53 = .ok (.invokevirtual 72, 3) := by decide +kernel
theorem dX9_partText_56 : decode cX9_partText 56 = .ok (.iload 4, 2) := by decide +kernel
theorem dX9_partText_58 : decode cX9_partText 58 = .ok (.iconst 1, 1) := by decide +kernel
theorem dX9_partText_59 : decode cX9_partText 59 = .ok (.iadd, 1) := by decide +kernel
theorem dX9_partText_60 : decode cX9_partText 60 = .ok (.iload_n 3, 1) := by decide +kernel
theorem dX9_partText_61 : decode cX9_partText 61 = .ok (.invokestatic 69, 3) := by decide +kernel
theorem dX9_partText_64 : decode cX9_partText 64 = .ok (.istore 4, 2) := by decide +kernel
theorem dX9_partText_66 : decode cX9_partText 66 = .ok (.goto (-51), 3) := by decide +kernel
theorem dX9_partText_69 : decode cX9_partText 69 = .ok (.return_, 1) := by decide +kernel
theorem dX9_isLetter_0 : decode cX9_isLetter 0 = .ok (.iload_n 0, 1) := by decide +kernel
theorem dX9_isLetter_1 : decode cX9_isLetter 1 = .ok (.bipush 97, 2) := by decide +kernel
theorem dX9_isLetter_3 : decode cX9_isLetter 3 = .ok (.if_icmp .lt 13, 3) := by decide +kernel
theorem dX9_isLetter_6 : decode cX9_isLetter 6 = .ok (.iload_n 0, 1) := by decide +kernel
theorem dX9_isLetter_7 : decode cX9_isLetter 7 = .ok (.bipush 122, 2) := by decide +kernel
theorem dX9_isLetter_9 : decode cX9_isLetter 9 = .ok (.if_icmp .gt 7, 3) := by decide +kernel
theorem dX9_isLetter_12 : decode cX9_isLetter 12 = .ok (.iconst 1, 1) := by decide +kernel
theorem dX9_isLetter_13 : decode cX9_isLetter 13 = .ok (.goto 4, 3) := by decide +kernel
theorem dX9_isLetter_16 : decode cX9_isLetter 16 = .ok (.iconst 0, 1) := by decide +kernel
theorem dX9_isLetter_17 : decode cX9_isLetter 17 = .ok (.ireturn, 1) := by decide +kernel
theorem dX9_isDigit_0 : decode cX9_isDigit 0 = .ok (.iload_n 0, 1) := by decide +kernel
theorem dX9_isDigit_1 : decode cX9_isDigit 1 = .ok (.bipush 48, 2) := by decide +kernel
theorem dX9_isDigit_3 : decode cX9_isDigit 3 = .ok (.if_icmp .lt 13, 3) := by decide +kernel
theorem dX9_isDigit_6 : decode cX9_isDigit 6 = .ok (.iload_n 0, 1) := by decide +kernel
theorem dX9_isDigit_7 : decode cX9_isDigit 7 = .ok (.bipush 57, 2) := by decide +kernel
theorem dX9_isDigit_9 : decode cX9_isDigit 9 = .ok (.if_icmp .gt 7, 3) := by decide +kernel
theorem dX9_isDigit_12 : decode cX9_isDigit 12 = .ok (.iconst 1, 1) := by decide +kernel
theorem dX9_isDigit_13 : decode cX9_isDigit 13 = .ok (.goto 4, 3) := by decide +kernel
theorem dX9_isDigit_16 : decode cX9_isDigit 16 = .ok (.iconst 0, 1) := by decide +kernel
theorem dX9_isDigit_17 : decode cX9_isDigit 17 = .ok (.ireturn, 1) := by decide +kernel
theorem dX9_endOfThing_0 : decode cX9_endOfThing 0 = .ok (.iload_n 2, 1) := by decide +kernel
theorem dX9_endOfThing_1 : decode cX9_endOfThing 1 = .ok (.istore_n 3, 1) := by decide +kernel
theorem dX9_endOfThing_2 : decode cX9_endOfThing 2 = .ok (.iload_n 3, 1) := by decide +kernel
theorem dX9_endOfThing_3 : decode cX9_endOfThing 3 = .ok (.aload_n 0, 1) := by decide +kernel
theorem dX9_endOfThing_4 : decode cX9_endOfThing 4 = .ok (.getfield 25, 3) := by decide +kernel
theorem dX9_endOfThing_7 : decode cX9_endOfThing 7 = .ok (.if_icmp .ge 65, 3) := by decide +kernel
theorem dX9_endOfThing_10 : decode cX9_endOfThing 10 = .ok (.iload_n 3, 1) := by decide +kernel
theorem dX9_endOfThing_11 : decode cX9_endOfThing 11 = .ok (.aload_n 1, 1) := by decide +kernel
theorem dX9_endOfThing_12 : decode cX9_endOfThing 12 = .ok (.arraylength, 1) := by decide +kernel
theorem dX9_endOfThing_13 : decode cX9_endOfThing 13 = .ok (.if_icmp .ge 59, 3) := by decide +kernel
theorem dX9_endOfThing_16 : decode cX9_endOfThing 16 = .ok (.aload_n 1, 1) := by decide +kernel
theorem dX9_endOfThing_17 : decode cX9_endOfThing 17 = .ok (.iload_n 2, 1) := by decide +kernel
theorem dX9_endOfThing_18 : decode cX9_endOfThing 18 = .ok (.iaload, 1) := by decide +kernel
theorem dX9_endOfThing_19 : decode cX9_endOfThing 19 = .ok (.invokestatic 76, 3) := by decide +kernel
theorem dX9_endOfThing_22 : decode cX9_endOfThing 22 = .ok (.ifCond .eq 12, 3) := by decide +kernel
theorem dX9_endOfThing_25 : decode cX9_endOfThing 25 = .ok (.aload_n 1, 1) := by decide +kernel
theorem dX9_endOfThing_26 : decode cX9_endOfThing 26 = .ok (.iload_n 3, 1) := by decide +kernel
theorem dX9_endOfThing_27 : decode cX9_endOfThing 27 = .ok (.iaload, 1) := by decide +kernel
theorem dX9_endOfThing_28 : decode cX9_endOfThing 28 = .ok (.invokestatic 76, 3) := by decide +kernel
theorem dX9_endOfThing_31 : decode cX9_endOfThing 31 = .ok (.ifCond .ne 21, 3) := by decide +kernel
theorem dX9_endOfThing_34 : decode cX9_endOfThing 34 = .ok (.aload_n 1, 1) := by decide +kernel
theorem dX9_endOfThing_35 : decode cX9_endOfThing 35 = .ok (.iload_n 2, 1) := by decide +kernel
theorem dX9_endOfThing_36 : decode cX9_endOfThing 36 = .ok (.iaload, 1) := by decide +kernel
theorem dX9_endOfThing_37 : decode cX9_endOfThing 37 = .ok (.invokestatic 79, 3) := by decide +kernel
theorem dX9_endOfThing_40 : decode cX9_endOfThing 40 = .ok (.ifCond .eq 16, 3) := by decide +kernel
theorem dX9_endOfThing_43 : decode cX9_endOfThing 43 = .ok (.aload_n 1, 1) := by decide +kernel
theorem dX9_endOfThing_44 : decode cX9_endOfThing 44 = .ok (.iload_n 3, 1) := by decide +kernel
theorem dX9_endOfThing_45 : decode cX9_endOfThing 45 = .ok (.iaload, 1) := by decide +kernel
theorem dX9_endOfThing_46 : decode cX9_endOfThing 46 = .ok (.invokestatic 79, 3) := by decide +kernel
theorem dX9_endOfThing_49 : decode cX9_endOfThing 49 = .ok (.ifCond .eq 7, 3) := by decide +kernel
theorem dX9_endOfThing_52 : decode cX9_endOfThing 52 = .ok (.iconst 1, 1) := by decide +kernel
theorem dX9_endOfThing_53 : decode cX9_endOfThing 53 = .ok (.goto 4, 3) := by decide +kernel
theorem dX9_endOfThing_56 : decode cX9_endOfThing 56 = .ok (.iconst 0, 1) := by decide +kernel
theorem dX9_endOfThing_57 : decode cX9_endOfThing 57 = .ok (.istore 4, 2) := by decide +kernel
theorem dX9_endOfThing_59 : decode cX9_endOfThing 59 = .ok (.iload 4, 2) := by decide +kernel
theorem dX9_endOfThing_61 : decode cX9_endOfThing 61 = .ok (.ifCond .ne 5, 3) := by decide +kernel
theorem dX9_endOfThing_64 : decode cX9_endOfThing 64 = .ok (.iload_n 3, 1) := by decide +kernel
theorem dX9_endOfThing_65 : decode cX9_endOfThing 65 = .ok (.ireturn, 1) := by decide +kernel
theorem dX9_endOfThing_66 : decode cX9_endOfThing 66 = .ok (.iinc 3 1, 3) := by decide +kernel
theorem dX9_endOfThing_69 : decode cX9_endOfThing 69 = .ok (.goto (-67), 3) := by decide +kernel
theorem dX9_endOfThing_72 : decode cX9_endOfThing 72 = .ok (.aload_n 0, 1) := by decide +kernel
theorem dX9_endOfThing_73 : decode cX9_endOfThing 73 = .ok (.getfield 25, 3) := by decide +kernel
theorem dX9_endOfThing_76 : decode cX9_endOfThing 76 = .ok (.ireturn, 1) := by decide +kernel
theorem dX9_addThing_0 : decode cX9_addThing 0 = .ok (.aload_n 0, 1) := by decide +kernel
theorem dX9_addThing_1 : decode cX9_addThing 1 = .ok (.getfield 21, 3) := by decide +kernel
theorem dX9_addThing_4 : decode cX9_addThing 4 = .ok (.ifCond .lt 15, 3) := by decide +kernel
theorem dX9_addThing_7 : decode cX9_addThing 7 = .ok (.aload_n 0, 1) := by decide +kernel
theorem dX9_addThing_8 : decode cX9_addThing 8 = .ok (.getfield 21, 3) := by decide +kernel
theorem dX9_addThing_11 : decode cX9_addThing 11 = .ok (.aload_n 0, 1) := by decide +kernel
theorem dX9_addThing_12 : decode cX9_addThing 12 = .ok (.getfield 9, 3) := by decide +kernel
theorem dX9_addThing_15 : decode cX9_addThing 15 = .ok (.arraylength, 1) := by decide +kernel
theorem dX9_addThing_16 : decode cX9_addThing 16 = .ok (.if_icmp .lt 4, 3) := by decide +kernel
theorem dX9_addThing_19 : decode cX9_addThing 19 = .ok (.return_, 1) := by decide +kernel
theorem dX9_addThing_20 : decode cX9_addThing 20 = .ok (.aload_n 0, 1) := by decide +kernel
theorem dX9_addThing_21 : decode cX9_addThing 21 = .ok (.getfield 15, 3) := by decide +kernel
theorem dX9_addThing_24 : decode cX9_addThing 24 = .ok (.aload_n 0, 1) := by decide +kernel
theorem dX9_addThing_25 : decode cX9_addThing 25 = .ok (.getfield 21, 3) := by decide +kernel
theorem dX9_addThing_28 : decode cX9_addThing 28 = .ok (.iload_n 2, 1) := by decide +kernel
theorem dX9_addThing_29 : decode cX9_addThing 29 = .ok (.iastore, 1) := by decide +kernel
theorem dX9_addThing_30 : decode cX9_addThing 30 = .ok (.aload_n 0, 1) := by decide +kernel
theorem dX9_addThing_31 : decode cX9_addThing 31 = .ok (.getfield 18, 3) := by decide +kernel
theorem dX9_addThing_34 : decode cX9_addThing 34 = .ok (.aload_n 0, 1) := by decide +kernel
theorem dX9_addThing_35 : decode cX9_addThing 35 = .ok (.getfield 21, 3) := by decide +kernel
theorem dX9_addThing_38 : decode cX9_addThing 38 = .ok (.iconst 0, 1) := by decide +kernel
theorem dX9_addThing_39 : decode cX9_addThing 39 = .ok (.iastore, 1) := by decide +kernel
theorem dX9_addThing_40 : decode cX9_addThing 40 = .ok (.aload_n 1, 1) := by decide +kernel
theorem dX9_addThing_41 : decode cX9_addThing 41 = .ok (.iload_n 2, 1) := by decide +kernel
theorem dX9_addThing_42 : decode cX9_addThing 42 = .ok (.iaload, 1) := by decide +kernel
theorem dX9_addThing_43 : decode cX9_addThing 43 = .ok (.invokestatic 76, 3) := by decide +kernel
theorem dX9_addThing_46 : decode cX9_addThing 46 = .ok (.ifCond .eq 21, 3) := by decide +kernel
theorem dX9_addThing_49 : decode cX9_addThing 49 = .ok (.aload_n 0, 1) := by decide +kernel
theorem dX9_addThing_50 : decode cX9_addThing 50 = .ok (.getfield 9, 3) := by decide +kernel
theorem dX9_addThing_53 : decode cX9_addThing 53 = .ok (.aload_n 0, 1) := by decide +kernel
theorem dX9_addThing_54 : decode cX9_addThing 54 = .ok (.getfield 21, 3) := by decide +kernel
theorem dX9_addThing_57 : decode cX9_addThing 57 = .ok (.aload_n 1, 1) := by decide +kernel
theorem dX9_addThing_58 : decode cX9_addThing 58 = .ok (.iload_n 2, 1) := by decide +kernel
theorem dX9_addThing_59 : decode cX9_addThing 59 = .ok (.iload_n 3, 1) := by decide +kernel
theorem dX9_addThing_60 : decode cX9_addThing 60 = .ok (.invokestatic 82, 3) := by decide +kernel
theorem dX9_addThing_63 : decode cX9_addThing 63 = .ok (.iastore, 1) := by decide +kernel
theorem dX9_addThing_64 : decode cX9_addThing 64 = .ok (.goto 87, 3) := by decide +kernel
theorem dX9_addThing_67 : decode cX9_addThing 67 = .ok (.aload_n 1, 1) := by decide +kernel
theorem dX9_addThing_68 : decode cX9_addThing 68 = .ok (.iload_n 2, 1) := by decide +kernel
theorem dX9_addThing_69 : decode cX9_addThing 69 = .ok (.iaload, 1) := by decide +kernel
theorem dX9_addThing_70 : decode cX9_addThing 70 = .ok (.invokestatic 79, 3) := by decide +kernel
theorem dX9_addThing_73 : decode cX9_addThing 73 = .ok (.ifCond .eq 53, 3) := by decide +kernel
theorem dX9_addThing_76 : decode cX9_addThing 76 = .ok (.aload_n 0, 1) := by decide +kernel
theorem dX9_addThing_77 : decode cX9_addThing 77 = .ok (.getfield 9, 3) := by decide +kernel
theorem dX9_addThing_80 : decode cX9_addThing 80 = .ok (.aload_n 0, 1) := by decide +kernel
theorem dX9_addThing_81 : decode cX9_addThing 81 = .ok (.getfield 21, 3) := by decide +kernel
theorem dX9_addThing_84 : decode cX9_addThing 84 = .ok (.iload_n 3, 1) := by decide +kernel
theorem dX9_addThing_85 : decode cX9_addThing 85 = .ok (.iload_n 2, 1) := by decide +kernel
theorem dX9_addThing_86 : decode cX9_addThing 86 = .ok (.isub, 1) := by decide +kernel
theorem dX9_addThing_87 : decode cX9_addThing 87 = .ok (.iconst 3, 1) := by decide +kernel
theorem dX9_addThing_88 : decode cX9_addThing 88 = .ok (.if_icmp .le 7, 3) := by decide +kernel
theorem dX9_addThing_91 : decode cX9_addThing 91 = .ok (.iconst 0, 1) := by decide +kernel
theorem dX9_addThing_92 : decode cX9_addThing 92 = .ok (.goto 4, 3) := by decide +kernel
theorem dX9_addThing_95 : decode cX9_addThing 95 = .ok (.iconst 2, 1) := by decide +kernel
theorem dX9_addThing_96 : decode cX9_addThing 96 = .ok (.iastore, 1) := by decide +kernel
theorem dX9_addThing_97 : decode cX9_addThing 97 = .ok (.aload_n 0, 1) := by decide +kernel
theorem dX9_addThing_98 : decode cX9_addThing 98 = .ok (.getfield 18, 3) := by decide +kernel
theorem dX9_addThing_101 : decode cX9_addThing 101 = .ok (.aload_n 0, 1) := by decide +kernel
theorem dX9_addThing_102 : decode cX9_addThing 102 = .ok (.getfield 21, 3) := by decide +kernel
theorem dX9_addThing_105 : decode cX9_addThing 105 = .ok (.iload_n 3, 1) := by decide +kernel
theorem dX9_addThing_106 : decode cX9_addThing 106 = .ok (.iload_n 2, 1) := by decide +kernel
theorem dX9_addThing_107 : decode cX9_addThing 107 = .ok (.isub, 1) := by decide +kernel
theorem dX9_addThing_108 : decode cX9_addThing 108 = .ok (.iconst 3, 1) := by decide +kernel
theorem dX9_addThing_109 : decode cX9_addThing 109 = .ok (.if_icmp .le 7, 3) := by decide +kernel
theorem dX9_addThing_112 : decode cX9_addThing 112 = .ok (.iconst 0, 1) := by decide +kernel
theorem dX9_addThing_113 : decode cX9_addThing 113 = .ok (.goto 9, 3) := by decide +kernel
theorem dX9_addThing_116 : decode cX9_addThing 116 = .ok (.aload_n 1, 1) := by decide +kernel
theorem dX9_addThing_117 : decode cX9_addThing 117 = .ok (.iload_n 2, 1) := by decide +kernel
theorem dX9_addThing_118 : decode cX9_addThing 118 = .ok (.iload_n 3, 1) := by decide +kernel
theorem dX9_addThing_119 : decode cX9_addThing 119 = .ok (.invokestatic 86, 3) := by decide +kernel
theorem dX9_addThing_122 : decode cX9_addThing 122 = .ok (.iastore, 1) := by decide +kernel
theorem dX9_addThing_123 : decode cX9_addThing 123 = .ok (.goto 28, 3) := by decide +kernel
theorem dX9_addThing_126 : decode cX9_addThing 126 = .ok (.aload_n 0, 1) := by decide +kernel
theorem dX9_addThing_127 : decode cX9_addThing 127 = .ok (.getfield 9, 3) := by decide +kernel
theorem dX9_addThing_130 : decode cX9_addThing 130 = .ok (.aload_n 0, 1) := by decide +kernel
theorem dX9_addThing_131 : decode cX9_addThing 131 = .ok (.getfield 21, 3) := by decide +kernel
theorem dX9_addThing_134 : decode cX9_addThing 134 = .ok (.aload_n 1, 1) := by decide +kernel
theorem dX9_addThing_135 : decode cX9_addThing 135 = .ok (.iload_n 2, 1) := by decide +kernel
theorem dX9_addThing_136 : decode cX9_addThing 136 = .ok (.iaload, 1) := by decide +kernel
theorem dX9_addThing_137 : decode cX9_addThing 137 = .ok (.invokestatic 89, 3) := by decide +kernel
theorem dX9_addThing_140 : decode cX9_addThing 140 = .ok (.ifCond .eq 9, 3) := by decide +kernel
theorem dX9_addThing_143 : decode cX9_addThing 143 = .ok (.aload_n 1, 1) := by decide +kernel
theorem dX9_addThing_144 : decode cX9_addThing 144 = .ok (.iload_n 2, 1) := by decide +kernel
theorem dX9_addThing_145 : decode cX9_addThing 145 = .ok (.iaload, 1) := by decide +kernel
theorem dX9_addThing_146 : decode cX9_addThing 146 = .ok (.goto 4, 3) := by decide +kernel
theorem dX9_addThing_149 : decode cX9_addThing 149 = .ok (.iconst 0, 1) := by decide +kernel
theorem dX9_addThing_150 : decode cX9_addThing 150 = .ok (.iastore, 1) := by decide +kernel
theorem dX9_addThing_151 : decode cX9_addThing 151 = .ok (.aload_n 0, 1) := by decide +kernel
theorem dX9_addThing_152 : decode cX9_addThing 152 = .ok (.dup, 1) := by decide +kernel
theorem dX9_addThing_153 : decode cX9_addThing 153 = .ok (.getfield 21, 3) := by decide +kernel
theorem dX9_addThing_156 : decode cX9_addThing 156 = .ok (.iconst 1, 1) := by decide +kernel
theorem dX9_addThing_157 : decode cX9_addThing 157 = .ok (.iadd, 1) := by decide +kernel
theorem dX9_addThing_158 : decode cX9_addThing 158 = .ok (.putfield 21, 3) := by decide +kernel
theorem dX9_addThing_161 : decode cX9_addThing 161 = .ok (.return_, 1) := by decide +kernel
theorem dX9_isSign_0 : decode cX9_isSign 0 = .ok (.iload_n 0, 1) := by decide +kernel
theorem dX9_isSign_1 : decode cX9_isSign 1 = .ok (.bipush 59, 2) := by decide +kernel
theorem dX9_isSign_3 : decode cX9_isSign 3 = .ok (.if_icmp .eq 33, 3) := by decide +kernel
theorem dX9_isSign_6 : decode cX9_isSign 6 = .ok (.iload_n 0, 1) := by decide +kernel
theorem dX9_isSign_7 : decode cX9_isSign 7 = .ok (.bipush 40, 2) := by decide +kernel
theorem dX9_isSign_9 : decode cX9_isSign 9 = .ok (.if_icmp .eq 27, 3) := by decide +kernel
theorem dX9_isSign_12 : decode cX9_isSign 12 = .ok (.iload_n 0, 1) := by decide +kernel
theorem dX9_isSign_13 : decode cX9_isSign 13 = .ok (.bipush 41, 2) := by decide +kernel
theorem dX9_isSign_15 : decode cX9_isSign 15 = .ok (.if_icmp .eq 21, 3) := by decide +kernel
theorem dX9_isSign_18 : decode cX9_isSign 18 = .ok (.iload_n 0, 1) := by decide +kernel
theorem dX9_isSign_19 : decode cX9_isSign 19 = .ok (.bipush 60, 2) := by decide +kernel
theorem dX9_isSign_21 : decode cX9_isSign 21 = .ok (.if_icmp .eq 15, 3) := by decide +kernel
theorem dX9_isSign_24 : decode cX9_isSign 24 = .ok (.iload_n 0, 1) := by decide +kernel
theorem dX9_isSign_25 : decode cX9_isSign 25 = .ok (.bipush 62, 2) := by decide +kernel
theorem dX9_isSign_27 : decode cX9_isSign 27 = .ok (.if_icmp .eq 9, 3) := by decide +kernel
theorem dX9_isSign_30 : decode cX9_isSign 30 = .ok (.iload_n 0, 1) := by decide +kernel
theorem dX9_isSign_31 : decode cX9_isSign 31 = .ok (.bipush 43, 2) := by decide +kernel
theorem dX9_isSign_33 : decode cX9_isSign 33 = .ok (.if_icmp .ne 7, 3) := by decide +kernel
theorem dX9_isSign_36 : decode cX9_isSign 36 = .ok (.iconst 1, 1) := by decide +kernel
theorem dX9_isSign_37 : decode cX9_isSign 37 = .ok (.goto 4, 3) := by decide +kernel
theorem dX9_isSign_40 : decode cX9_isSign 40 = .ok (.iconst 0, 1) := by decide +kernel
theorem dX9_isSign_41 : decode cX9_isSign 41 = .ok (.ireturn, 1) := by decide +kernel
theorem dX9_numberOf_0 : decode cX9_numberOf 0 = .ok (.iconst 0, 1) := by decide +kernel
theorem dX9_numberOf_1 : decode cX9_numberOf 1 = .ok (.istore_n 3, 1) := by decide +kernel
theorem dX9_numberOf_2 : decode cX9_numberOf 2 = .ok (.iload_n 1, 1) := by decide +kernel
theorem dX9_numberOf_3 : decode cX9_numberOf 3 = .ok (.istore 4, 2) := by decide +kernel
theorem dX9_numberOf_5 : decode cX9_numberOf 5 = .ok (.iload 4, 2) := by decide +kernel
theorem dX9_numberOf_7 : decode cX9_numberOf 7 = .ok (.iload_n 2, 1) := by decide +kernel
theorem dX9_numberOf_8 : decode cX9_numberOf 8 = .ok (.if_icmp .ge 29, 3) := by decide +kernel
theorem dX9_numberOf_11 : decode cX9_numberOf 11 = .ok (.iload 4, 2) := by decide +kernel
theorem dX9_numberOf_13 : decode cX9_numberOf 13 = .ok (.aload_n 0, 1) := by decide +kernel
theorem dX9_numberOf_14 : decode cX9_numberOf 14 = .ok (.arraylength, 1) := by decide +kernel
theorem dX9_numberOf_15 : decode cX9_numberOf 15 = .ok (.if_icmp .ge 22, 3) := by decide +kernel
theorem dX9_numberOf_18 : decode cX9_numberOf 18 = .ok (.bipush 10, 2) := by decide +kernel
theorem dX9_numberOf_20 : decode cX9_numberOf 20 = .ok (.iload_n 3, 1) := by decide +kernel
theorem dX9_numberOf_21 : decode cX9_numberOf 21 = .ok (.imul, 1) := by decide +kernel
theorem dX9_numberOf_22 : decode cX9_numberOf 22 = .ok (.aload_n 0, 1) := by decide +kernel
theorem dX9_numberOf_23 : decode cX9_numberOf 23 = .ok (.iload 4, 2) := by decide +kernel
theorem dX9_numberOf_25 : decode cX9_numberOf 25 = .ok (.iaload, 1) := by decide +kernel
theorem dX9_numberOf_26 : decode cX9_numberOf 26 = .ok (.iadd, 1) := by decide +kernel
theorem dX9_numberOf_27 : decode cX9_numberOf 27 = .ok (.bipush 48, 2) := by decide +kernel
theorem dX9_numberOf_29 : decode cX9_numberOf 29 = .ok (.isub, 1) := by decide +kernel
theorem dX9_numberOf_30 : decode cX9_numberOf 30 = .ok (.istore_n 3, 1) := by decide +kernel
theorem dX9_numberOf_31 : decode cX9_numberOf 31 = .ok (.iinc 4 1, 3) := by decide +kernel
theorem dX9_numberOf_34 : decode cX9_numberOf 34 = .ok (.goto (-29), 3) := by decide +kernel
theorem dX9_numberOf_37 : decode cX9_numberOf 37 = .ok (.iload_n 3, 1) := by decide +kernel
theorem dX9_numberOf_38 : decode cX9_numberOf 38 = .ok (.ireturn, 1) := by decide +kernel
theorem dX9_reads_0 : decode cX9_reads 0 = .ok (.iload_n 2, 1) := by decide +kernel
theorem dX9_reads_1 : decode cX9_reads 1 = .ok (.iload_n 1, 1) := by decide +kernel
theorem dX9_reads_2 : decode cX9_reads 2 = .ok (.isub, 1) := by decide +kernel
theorem dX9_reads_3 : decode cX9_reads 3 = .ok (.aload_n 3, 1) := by decide +kernel
theorem dX9_reads_4 : decode cX9_reads 4 = .ok (.invokevirtual 92, 3) := by decide +kernel
theorem dX9_reads_7 : decode cX9_reads 7 = .ok (.if_icmp .ne 13, 3) := by decide +kernel
theorem dX9_reads_10 : decode cX9_reads 10 = .ok (.iload_n 1, 1) := by decide +kernel
theorem dX9_reads_11 : decode cX9_reads 11 = .ok (.ifCond .lt 9, 3) := by decide +kernel
theorem dX9_reads_14 : decode cX9_reads 14 = .ok (.iload_n 2, 1) := by decide +kernel
theorem dX9_reads_15 : decode cX9_reads 15 = .ok (.aload_n 0, 1) := by decide +kernel
theorem dX9_reads_16 : decode cX9_reads 16 = .ok (.arraylength, 1) := by decide +kernel
theorem dX9_reads_17 : decode cX9_reads 17 = .ok (.if_icmp .le 5, 3) := by decide +kernel
theorem dX9_reads_20 : decode cX9_reads 20 = .ok (.iconst 0, 1) := by decide +kernel
theorem dX9_reads_21 : decode cX9_reads 21 = .ok (.ireturn, 1) := by decide +kernel
theorem dX9_reads_22 : decode cX9_reads 22 = .ok (.iconst 0, 1) := by decide +kernel
theorem dX9_reads_23 : decode cX9_reads 23 = .ok (.istore 4, 2) := by decide +kernel
theorem dX9_reads_25 : decode cX9_reads 25 = .ok (.iload 4, 2) := by decide +kernel
theorem dX9_reads_27 : decode cX9_reads 27 = .ok (.aload_n 3, 1) := by decide +kernel
theorem dX9_reads_28 : decode cX9_reads 28 = .ok (.invokevirtual 92, 3) := by decide +kernel
theorem dX9_reads_31 : decode cX9_reads 31 = .ok (.if_icmp .ge 26, 3) := by decide +kernel
theorem dX9_reads_34 : decode cX9_reads 34 = .ok (.aload_n 0, 1) := by decide +kernel
theorem dX9_reads_35 : decode cX9_reads 35 = .ok (.iload_n 1, 1) := by decide +kernel
theorem dX9_reads_36 : decode cX9_reads 36 = .ok (.iload 4, 2) := by decide +kernel
theorem dX9_reads_38 : decode cX9_reads 38 = .ok (.iadd, 1) := by decide +kernel
theorem dX9_reads_39 : decode cX9_reads 39 = .ok (.iaload, 1) := by decide +kernel
theorem dX9_reads_40 : decode cX9_reads 40 = .ok (.aload_n 3, 1) := by decide +kernel
theorem dX9_reads_41 : decode cX9_reads 41 = .ok (.iload 4, 2) := by decide +kernel
theorem dX9_reads_43 : decode cX9_reads 43 = .ok (.invokevirtual 96, 3) := by decide +kernel
theorem dX9_reads_46 : decode cX9_reads 46 = .ok (.if_icmp .eq 5, 3) := by decide +kernel
theorem dX9_reads_49 : decode cX9_reads 49 = .ok (.iconst 0, 1) := by decide +kernel
theorem dX9_reads_50 : decode cX9_reads 50 = .ok (.ireturn, 1) := by decide +kernel
theorem dX9_reads_51 : decode cX9_reads 51 = .ok (.iinc 4 1, 3) := by decide +kernel
theorem dX9_reads_54 : decode cX9_reads 54 = .ok (.goto (-29), 3) := by decide +kernel
theorem dX9_reads_57 : decode cX9_reads 57 = .ok (.iconst 1, 1) := by decide +kernel
theorem dX9_reads_58 : decode cX9_reads 58 = .ok (.ireturn, 1) := by decide +kernel
theorem dX9_wordOf_0 : decode cX9_wordOf 0 = .ok (.aload_n 0, 1) := by decide +kernel
theorem dX9_wordOf_1 : decode cX9_wordOf 1 = .ok (.iload_n 1, 1) := by decide +kernel
theorem dX9_wordOf_2 : decode cX9_wordOf 2 = .ok (.iload_n 2, 1) := by decide +kernel
theorem dX9_wordOf_3 : decode cX9_wordOf 3 = .ok (.ldc 100, 2) := by decide +kernel
theorem dX9_wordOf_5 : decode cX9_wordOf 5 = .ok (.invokestatic 102, 3) := by decide +kernel
theorem dX9_wordOf_8 : decode cX9_wordOf 8 = .ok (.ifCond .eq 5, 3) := by decide +kernel
theorem dX9_wordOf_11 : decode cX9_wordOf 11 = .ok (.iconst 3, 1) := by decide +kernel
theorem dX9_wordOf_12 : decode cX9_wordOf 12 = .ok (.ireturn, 1) := by decide +kernel
theorem dX9_wordOf_13 : decode cX9_wordOf 13 = .ok (.aload_n 0, 1) := by decide +kernel
theorem dX9_wordOf_14 : decode cX9_wordOf 14 = .ok (.iload_n 1, 1) := by decide +kernel
theorem dX9_wordOf_15 : decode cX9_wordOf 15 = .ok (.iload_n 2, 1) := by decide +kernel
theorem dX9_wordOf_16 : decode cX9_wordOf 16 = .ok (.ldc 106, 2) := by decide +kernel
theorem dX9_wordOf_18 : decode cX9_wordOf 18 = .ok (.invokestatic 102, 3) := by decide +kernel
theorem dX9_wordOf_21 : decode cX9_wordOf 21 = .ok (.ifCond .eq 5, 3) := by decide +kernel
theorem dX9_wordOf_24 : decode cX9_wordOf 24 = .ok (.iconst 4, 1) := by decide +kernel
theorem dX9_wordOf_25 : decode cX9_wordOf 25 = .ok (.ireturn, 1) := by decide +kernel
theorem dX9_wordOf_26 : decode cX9_wordOf 26 = .ok (.aload_n 0, 1) := by decide +kernel
theorem dX9_wordOf_27 : decode cX9_wordOf 27 = .ok (.iload_n 1, 1) := by decide +kernel
theorem dX9_wordOf_28 : decode cX9_wordOf 28 = .ok (.iload_n 2, 1) := by decide +kernel
theorem dX9_wordOf_29 : decode cX9_wordOf 29 = .ok (.ldc 108, 2) := by decide +kernel
theorem dX9_wordOf_31 : decode cX9_wordOf 31 = .ok (.invokestatic 102, 3) := by decide +kernel
theorem dX9_wordOf_34 : decode cX9_wordOf 34 = .ok (.ifCond .eq 5, 3) := by decide +kernel
theorem dX9_wordOf_37 : decode cX9_wordOf 37 = .ok (.iconst 5, 1) := by decide +kernel
theorem dX9_wordOf_38 : decode cX9_wordOf 38 = .ok (.ireturn, 1) := by decide +kernel
theorem dX9_wordOf_39 : decode cX9_wordOf 39 = .ok (.aload_n 0, 1) := by decide +kernel
theorem dX9_wordOf_40 : decode cX9_wordOf 40 = .ok (.iload_n 1, 1) := by decide +kernel
theorem dX9_wordOf_41 : decode cX9_wordOf 41 = .ok (.iload_n 2, 1) := by decide +kernel
theorem dX9_wordOf_42 : decode cX9_wordOf 42 = .ok (.ldc 110, 2) := by decide +kernel
theorem dX9_wordOf_44 : decode cX9_wordOf 44 = .ok (.invokestatic 102, 3) := by decide +kernel
theorem dX9_wordOf_47 : decode cX9_wordOf 47 = .ok (.ifCond .eq 6, 3) := by decide +kernel
theorem dX9_wordOf_50 : decode cX9_wordOf 50 = .ok (.bipush 6, 2) := by decide +kernel
theorem dX9_wordOf_52 : decode cX9_wordOf 52 = .ok (.ireturn, 1) := by decide +kernel
theorem dX9_wordOf_53 : decode cX9_wordOf 53 = .ok (.aload_n 0, 1) := by decide +kernel
theorem dX9_wordOf_54 : decode cX9_wordOf 54 = .ok (.iload_n 1, 1) := by decide +kernel
theorem dX9_wordOf_55 : decode cX9_wordOf 55 = .ok (.iload_n 2, 1) := by decide +kernel
theorem dX9_wordOf_56 : decode cX9_wordOf 56 = .ok (.ldc 112, 2) := by decide +kernel
theorem dX9_wordOf_58 : decode cX9_wordOf 58 = .ok (.invokestatic 102, 3) := by decide +kernel
theorem dX9_wordOf_61 : decode cX9_wordOf 61 = .ok (.ifCond .eq 6, 3) := by decide +kernel
theorem dX9_wordOf_64 : decode cX9_wordOf 64 = .ok (.bipush 7, 2) := by decide +kernel
theorem dX9_wordOf_66 : decode cX9_wordOf 66 = .ok (.ireturn, 1) := by decide +kernel
theorem dX9_wordOf_67 : decode cX9_wordOf 67 = .ok (.aload_n 0, 1) := by decide +kernel
theorem dX9_wordOf_68 : decode cX9_wordOf 68 = .ok (.iload_n 1, 1) := by decide +kernel
theorem dX9_wordOf_69 : decode cX9_wordOf 69 = .ok (.iload_n 2, 1) := by decide +kernel
theorem dX9_wordOf_70 : decode cX9_wordOf 70 = .ok (.ldc 114, 2) := by decide +kernel
theorem dX9_wordOf_72 : decode cX9_wordOf 72 = .ok (.invokestatic 102, 3) := by decide +kernel
theorem dX9_wordOf_75 : decode cX9_wordOf 75 = .ok (.ifCond .eq 6, 3) := by decide +kernel
theorem dX9_wordOf_78 : decode cX9_wordOf 78 = .ok (.bipush 8, 2) := by decide +kernel
theorem dX9_wordOf_80 : decode cX9_wordOf 80 = .ok (.ireturn, 1) := by decide +kernel
theorem dX9_wordOf_81 : decode cX9_wordOf 81 = .ok (.aload_n 0, 1) := by decide +kernel
theorem dX9_wordOf_82 : decode cX9_wordOf 82 = .ok (.iload_n 1, 1) := by decide +kernel
theorem dX9_wordOf_83 : decode cX9_wordOf 83 = .ok (.iload_n 2, 1) := by decide +kernel
theorem dX9_wordOf_84 : decode cX9_wordOf 84 = .ok (.ldc 116, 2) := by decide +kernel
theorem dX9_wordOf_86 : decode cX9_wordOf 86 = .ok (.invokestatic 102, 3) := by decide +kernel
theorem dX9_wordOf_89 : decode cX9_wordOf 89 = .ok (.ifCond .eq 6, 3) := by decide +kernel
theorem dX9_wordOf_92 : decode cX9_wordOf 92 = .ok (.bipush 9, 2) := by decide +kernel
theorem dX9_wordOf_94 : decode cX9_wordOf 94 = .ok (.ireturn, 1) := by decide +kernel
theorem dX9_wordOf_95 : decode cX9_wordOf 95 = .ok (.aload_n 0, 1) := by decide +kernel
theorem dX9_wordOf_96 : decode cX9_wordOf 96 = .ok (.iload_n 1, 1) := by decide +kernel
theorem dX9_wordOf_97 : decode cX9_wordOf 97 = .ok (.iload_n 2, 1) := by decide +kernel
theorem dX9_wordOf_98 : decode cX9_wordOf 98 = .ok (.ldc 118, 2) := by decide +kernel
theorem dX9_wordOf_100 : decode cX9_wordOf 100 = .ok (.invokestatic 102, 3) := by decide +kernel
theorem dX9_wordOf_103 : decode cX9_wordOf 103 = .ok (.ifCond .eq 6, 3) := by decide +kernel
theorem dX9_wordOf_106 : decode cX9_wordOf 106 = .ok (.bipush 10, 2) := by decide +kernel
theorem dX9_wordOf_108 : decode cX9_wordOf 108 = .ok (.ireturn, 1) := by decide +kernel
theorem dX9_wordOf_109 : decode cX9_wordOf 109 = .ok (.aload_n 0, 1) := by decide +kernel
theorem dX9_wordOf_110 : decode cX9_wordOf 110 = .ok (.iload_n 1, 1) := by decide +kernel
theorem dX9_wordOf_111 : decode cX9_wordOf 111 = .ok (.iload_n 2, 1) := by decide +kernel
theorem dX9_wordOf_112 : decode cX9_wordOf 112 = .ok (.ldc 120, 2) := by decide +kernel
theorem dX9_wordOf_114 : decode cX9_wordOf 114 = .ok (.invokestatic 102, 3) := by decide +kernel
theorem dX9_wordOf_117 : decode cX9_wordOf 117 = .ok (.ifCond .eq 6, 3) := by decide +kernel
theorem dX9_wordOf_120 : decode cX9_wordOf 120 = .ok (.bipush 11, 2) := by decide +kernel
theorem dX9_wordOf_122 : decode cX9_wordOf 122 = .ok (.ireturn, 1) := by decide +kernel
theorem dX9_wordOf_123 : decode cX9_wordOf 123 = .ok (.aload_n 0, 1) := by decide +kernel
theorem dX9_wordOf_124 : decode cX9_wordOf 124 = .ok (.iload_n 1, 1) := by decide +kernel
theorem dX9_wordOf_125 : decode cX9_wordOf 125 = .ok (.iload_n 2, 1) := by decide +kernel
theorem dX9_wordOf_126 : decode cX9_wordOf 126 = .ok (.ldc 122, 2) := by decide +kernel
theorem dX9_wordOf_128 : decode cX9_wordOf 128 = .ok (.invokestatic 102, 3) := by decide +kernel
theorem dX9_wordOf_131 : decode cX9_wordOf 131 = .ok (.ifCond .eq 6, 3) := by decide +kernel
theorem dX9_wordOf_134 : decode cX9_wordOf 134 = .ok (.bipush 12, 2) := by decide +kernel
theorem dX9_wordOf_136 : decode cX9_wordOf 136 = .ok (.ireturn, 1) := by decide +kernel
theorem dX9_wordOf_137 : decode cX9_wordOf 137 = .ok (.aload_n 0, 1) := by decide +kernel
theorem dX9_wordOf_138 : decode cX9_wordOf 138 = .ok (.iload_n 1, 1) := by decide +kernel
theorem dX9_wordOf_139 : decode cX9_wordOf 139 = .ok (.iload_n 2, 1) := by decide +kernel
theorem dX9_wordOf_140 : decode cX9_wordOf 140 = .ok (.ldc 124, 2) := by decide +kernel
theorem dX9_wordOf_142 : decode cX9_wordOf 142 = .ok (.invokestatic 102, 3) := by decide +kernel
theorem dX9_wordOf_145 : decode cX9_wordOf 145 = .ok (.ifCond .eq 6, 3) := by decide +kernel
theorem dX9_wordOf_148 : decode cX9_wordOf 148 = .ok (.bipush 13, 2) := by decide +kernel
theorem dX9_wordOf_150 : decode cX9_wordOf 150 = .ok (.ireturn, 1) := by decide +kernel
theorem dX9_wordOf_151 : decode cX9_wordOf 151 = .ok (.aload_n 0, 1) := by decide +kernel
theorem dX9_wordOf_152 : decode cX9_wordOf 152 = .ok (.iload_n 1, 1) := by decide +kernel
theorem dX9_wordOf_153 : decode cX9_wordOf 153 = .ok (.iload_n 2, 1) := by decide +kernel
theorem dX9_wordOf_154 : decode cX9_wordOf 154 = .ok (.ldc 126, 2) := by decide +kernel
theorem dX9_wordOf_156 : decode cX9_wordOf 156 = .ok (.invokestatic 102, 3) := by decide +kernel
theorem dX9_wordOf_159 : decode cX9_wordOf 159 = .ok (.ifCond .eq 6, 3) := by decide +kernel
theorem dX9_wordOf_162 : decode cX9_wordOf 162 = .ok (.bipush 14, 2) := by decide +kernel
theorem dX9_wordOf_164 : decode cX9_wordOf 164 = .ok (.ireturn, 1) := by decide +kernel
theorem dX9_wordOf_165 : decode cX9_wordOf 165 = .ok (.aload_n 0, 1) := by decide +kernel
theorem dX9_wordOf_166 : decode cX9_wordOf 166 = .ok (.iload_n 1, 1) := by decide +kernel
theorem dX9_wordOf_167 : decode cX9_wordOf 167 = .ok (.iload_n 2, 1) := by decide +kernel
theorem dX9_wordOf_168 : decode cX9_wordOf 168 = .ok (.ldc 128, 2) := by decide +kernel
theorem dX9_wordOf_170 : decode cX9_wordOf 170 = .ok (.invokestatic 102, 3) := by decide +kernel
theorem dX9_wordOf_173 : decode cX9_wordOf 173 = .ok (.ifCond .eq 6, 3) := by decide +kernel
theorem dX9_wordOf_176 : decode cX9_wordOf 176 = .ok (.bipush 15, 2) := by decide +kernel
theorem dX9_wordOf_178 : decode cX9_wordOf 178 = .ok (.ireturn, 1) := by decide +kernel
theorem dX9_wordOf_179 : decode cX9_wordOf 179 = .ok (.aload_n 0, 1) := by decide +kernel
theorem dX9_wordOf_180 : decode cX9_wordOf 180 = .ok (.iload_n 1, 1) := by decide +kernel
theorem dX9_wordOf_181 : decode cX9_wordOf 181 = .ok (.iload_n 2, 1) := by decide +kernel
theorem dX9_wordOf_182 : decode cX9_wordOf 182 = .ok (.ldc 130, 2) := by decide +kernel
theorem dX9_wordOf_184 : decode cX9_wordOf 184 = .ok (.invokestatic 102, 3) := by decide +kernel
theorem dX9_wordOf_187 : decode cX9_wordOf 187 = .ok (.ifCond .eq 6, 3) := by decide +kernel
theorem dX9_wordOf_190 : decode cX9_wordOf 190 = .ok (.bipush 16, 2) := by decide +kernel
theorem dX9_wordOf_192 : decode cX9_wordOf 192 = .ok (.ireturn, 1) := by decide +kernel
theorem dX9_wordOf_193 : decode cX9_wordOf 193 = .ok (.aload_n 0, 1) := by decide +kernel
theorem dX9_wordOf_194 : decode cX9_wordOf 194 = .ok (.iload_n 1, 1) := by decide +kernel
theorem dX9_wordOf_195 : decode cX9_wordOf 195 = .ok (.iload_n 2, 1) := by decide +kernel
theorem dX9_wordOf_196 : decode cX9_wordOf 196 = .ok (.ldc 132, 2) := by decide +kernel
theorem dX9_wordOf_198 : decode cX9_wordOf 198 = .ok (.invokestatic 102, 3) := by decide +kernel
theorem dX9_wordOf_201 : decode cX9_wordOf 201 = .ok (.ifCond .eq 6, 3) := by decide +kernel
theorem dX9_wordOf_204 : decode cX9_wordOf 204 = .ok (.bipush 17, 2) := by decide +kernel
theorem dX9_wordOf_206 : decode cX9_wordOf 206 = .ok (.ireturn, 1) := by decide +kernel
theorem dX9_wordOf_207 : decode cX9_wordOf 207 = .ok (.aload_n 0, 1) := by decide +kernel
theorem dX9_wordOf_208 : decode cX9_wordOf 208 = .ok (.iload_n 1, 1) := by decide +kernel
theorem dX9_wordOf_209 : decode cX9_wordOf 209 = .ok (.iload_n 2, 1) := by decide +kernel
theorem dX9_wordOf_210 : decode cX9_wordOf 210 = .ok (.ldc 134, 2) := by decide +kernel
theorem dX9_wordOf_212 : decode cX9_wordOf 212 = .ok (.invokestatic 102, 3) := by decide +kernel
theorem dX9_wordOf_215 : decode cX9_wordOf 215 = .ok (.ifCond .eq 6, 3) := by decide +kernel
theorem dX9_wordOf_218 : decode cX9_wordOf 218 = .ok (.bipush 18, 2) := by decide +kernel
theorem dX9_wordOf_220 : decode cX9_wordOf 220 = .ok (.ireturn, 1) := by decide +kernel
theorem dX9_wordOf_221 : decode cX9_wordOf 221 = .ok (.aload_n 0, 1) := by decide +kernel
theorem dX9_wordOf_222 : decode cX9_wordOf 222 = .ok (.iload_n 1, 1) := by decide +kernel
theorem dX9_wordOf_223 : decode cX9_wordOf 223 = .ok (.iload_n 2, 1) := by decide +kernel
theorem dX9_wordOf_224 : decode cX9_wordOf 224 = .ok (.ldc 136, 2) := by decide +kernel
theorem dX9_wordOf_226 : decode cX9_wordOf 226 = .ok (.invokestatic 102, 3) := by decide +kernel
theorem dX9_wordOf_229 : decode cX9_wordOf 229 = .ok (.ifCond .eq 6, 3) := by decide +kernel
theorem dX9_wordOf_232 : decode cX9_wordOf 232 = .ok (.bipush 19, 2) := by decide +kernel
theorem dX9_wordOf_234 : decode cX9_wordOf 234 = .ok (.ireturn, 1) := by decide +kernel
theorem dX9_wordOf_235 : decode cX9_wordOf 235 = .ok (.aload_n 0, 1) := by decide +kernel
theorem dX9_wordOf_236 : decode cX9_wordOf 236 = .ok (.iload_n 1, 1) := by decide +kernel
theorem dX9_wordOf_237 : decode cX9_wordOf 237 = .ok (.iload_n 2, 1) := by decide +kernel
theorem dX9_wordOf_238 : decode cX9_wordOf 238 = .ok (.ldc 138, 2) := by decide +kernel
theorem dX9_wordOf_240 : decode cX9_wordOf 240 = .ok (.invokestatic 102, 3) := by decide +kernel
theorem dX9_wordOf_243 : decode cX9_wordOf 243 = .ok (.ifCond .eq 6, 3) := by decide +kernel
theorem dX9_wordOf_246 : decode cX9_wordOf 246 = .ok (.bipush 20, 2) := by decide +kernel
theorem dX9_wordOf_248 : decode cX9_wordOf 248 = .ok (.ireturn, 1) := by decide +kernel
theorem dX9_wordOf_249 : decode cX9_wordOf 249 = .ok (.aload_n 0, 1) := by decide +kernel
theorem dX9_wordOf_250 : decode cX9_wordOf 250 = .ok (.iload_n 1, 1) := by decide +kernel
theorem dX9_wordOf_251 : decode cX9_wordOf 251 = .ok (.iload_n 2, 1) := by decide +kernel
theorem dX9_wordOf_252 : decode cX9_wordOf 252 = .ok (.ldc 140, 2) := by decide +kernel
theorem dX9_wordOf_254 : decode cX9_wordOf 254 = .ok (.invokestatic 102, 3) := by decide +kernel
theorem dX9_wordOf_257 : decode cX9_wordOf 257 = .ok (.ifCond .eq 6, 3) := by decide +kernel
theorem dX9_wordOf_260 : decode cX9_wordOf 260 = .ok (.bipush 21, 2) := by decide +kernel
theorem dX9_wordOf_262 : decode cX9_wordOf 262 = .ok (.ireturn, 1) := by decide +kernel
theorem dX9_wordOf_263 : decode cX9_wordOf 263 = .ok (.aload_n 0, 1) := by decide +kernel
theorem dX9_wordOf_264 : decode cX9_wordOf 264 = .ok (.iload_n 1, 1) := by decide +kernel
theorem dX9_wordOf_265 : decode cX9_wordOf 265 = .ok (.iload_n 2, 1) := by decide +kernel
theorem dX9_wordOf_266 : decode cX9_wordOf 266 = .ok (.ldc 142, 2) := by decide +kernel
theorem dX9_wordOf_268 : decode cX9_wordOf 268 = .ok (.invokestatic 102, 3) := by decide +kernel
theorem dX9_wordOf_271 : decode cX9_wordOf 271 = .ok (.ifCond .eq 6, 3) := by decide +kernel
theorem dX9_wordOf_274 : decode cX9_wordOf 274 = .ok (.bipush 22, 2) := by decide +kernel
theorem dX9_wordOf_276 : decode cX9_wordOf 276 = .ok (.ireturn, 1) := by decide +kernel
theorem dX9_wordOf_277 : decode cX9_wordOf 277 = .ok (.aload_n 0, 1) := by decide +kernel
theorem dX9_wordOf_278 : decode cX9_wordOf 278 = .ok (.iload_n 1, 1) := by decide +kernel
theorem dX9_wordOf_279 : decode cX9_wordOf 279 = .ok (.iload_n 2, 1) := by decide +kernel
theorem dX9_wordOf_280 : decode cX9_wordOf 280 = .ok (.ldc 144, 2) := by decide +kernel
theorem dX9_wordOf_282 : decode cX9_wordOf 282 = .ok (.invokestatic 102, 3) := by decide +kernel
theorem dX9_wordOf_285 : decode cX9_wordOf 285 = .ok (.ifCond .eq 6, 3) := by decide +kernel
theorem dX9_wordOf_288 : decode cX9_wordOf 288 = .ok (.bipush 23, 2) := by decide +kernel
theorem dX9_wordOf_290 : decode cX9_wordOf 290 = .ok (.ireturn, 1) := by decide +kernel
theorem dX9_wordOf_291 : decode cX9_wordOf 291 = .ok (.aload_n 0, 1) := by decide +kernel
theorem dX9_wordOf_292 : decode cX9_wordOf 292 = .ok (.iload_n 1, 1) := by decide +kernel
theorem dX9_wordOf_293 : decode cX9_wordOf 293 = .ok (.iload_n 2, 1) := by decide +kernel
theorem dX9_wordOf_294 : decode cX9_wordOf 294 = .ok (.ldc 146, 2) := by decide +kernel
theorem dX9_wordOf_296 : decode cX9_wordOf 296 = .ok (.invokestatic 102, 3) := by decide +kernel
theorem dX9_wordOf_299 : decode cX9_wordOf 299 = .ok (.ifCond .eq 6, 3) := by decide +kernel
theorem dX9_wordOf_302 : decode cX9_wordOf 302 = .ok (.bipush 24, 2) := by decide +kernel
theorem dX9_wordOf_304 : decode cX9_wordOf 304 = .ok (.ireturn, 1) := by decide +kernel
theorem dX9_wordOf_305 : decode cX9_wordOf 305 = .ok (.aload_n 0, 1) := by decide +kernel
theorem dX9_wordOf_306 : decode cX9_wordOf 306 = .ok (.iload_n 1, 1) := by decide +kernel
theorem dX9_wordOf_307 : decode cX9_wordOf 307 = .ok (.iload_n 2, 1) := by decide +kernel
theorem dX9_wordOf_308 : decode cX9_wordOf 308 = .ok (.ldc 148, 2) := by decide +kernel
theorem dX9_wordOf_310 : decode cX9_wordOf 310 = .ok (.invokestatic 102, 3) := by decide +kernel
theorem dX9_wordOf_313 : decode cX9_wordOf 313 = .ok (.ifCond .eq 6, 3) := by decide +kernel
theorem dX9_wordOf_316 : decode cX9_wordOf 316 = .ok (.bipush 25, 2) := by decide +kernel
theorem dX9_wordOf_318 : decode cX9_wordOf 318 = .ok (.ireturn, 1) := by decide +kernel
theorem dX9_wordOf_319 : decode cX9_wordOf 319 = .ok (.aload_n 0, 1) := by decide +kernel
theorem dX9_wordOf_320 : decode cX9_wordOf 320 = .ok (.iload_n 1, 1) := by decide +kernel
theorem dX9_wordOf_321 : decode cX9_wordOf 321 = .ok (.iload_n 2, 1) := by decide +kernel
theorem dX9_wordOf_322 : decode cX9_wordOf 322 = .ok (.ldc 150, 2) := by decide +kernel
theorem dX9_wordOf_324 : decode cX9_wordOf 324 = .ok (.invokestatic 102, 3) := by decide +kernel
theorem dX9_wordOf_327 : decode cX9_wordOf 327 = .ok (.ifCond .eq 6, 3) := by decide +kernel
theorem dX9_wordOf_330 : decode cX9_wordOf 330 = .ok (.bipush 26, 2) := by decide +kernel
theorem dX9_wordOf_332 : decode cX9_wordOf 332 = .ok (.ireturn, 1) := by decide +kernel
theorem dX9_wordOf_333 : decode cX9_wordOf 333 = .ok (.aload_n 0, 1) := by decide +kernel
theorem dX9_wordOf_334 : decode cX9_wordOf 334 = .ok (.iload_n 1, 1) := by decide +kernel
theorem dX9_wordOf_335 : decode cX9_wordOf 335 = .ok (.iload_n 2, 1) := by decide +kernel
theorem dX9_wordOf_336 : decode cX9_wordOf 336 = .ok (.ldc 152, 2) := by decide +kernel
theorem dX9_wordOf_338 : decode cX9_wordOf 338 = .ok (.invokestatic 102, 3) := by decide +kernel
theorem dX9_wordOf_341 : decode cX9_wordOf 341 = .ok (.ifCond .eq 6, 3) := by decide +kernel
theorem dX9_wordOf_344 : decode cX9_wordOf 344 = .ok (.bipush 27, 2) := by decide +kernel
theorem dX9_wordOf_346 : decode cX9_wordOf 346 = .ok (.ireturn, 1) := by decide +kernel
theorem dX9_wordOf_347 : decode cX9_wordOf 347 = .ok (.aload_n 0, 1) := by decide +kernel
theorem dX9_wordOf_348 : decode cX9_wordOf 348 = .ok (.iload_n 1, 1) := by decide +kernel
theorem dX9_wordOf_349 : decode cX9_wordOf 349 = .ok (.iload_n 2, 1) := by decide +kernel
theorem dX9_wordOf_350 : decode cX9_wordOf 350 = .ok (.ldc 154, 2) := by decide +kernel
theorem dX9_wordOf_352 : decode cX9_wordOf 352 = .ok (.invokestatic 102, 3) := by decide +kernel
theorem dX9_wordOf_355 : decode cX9_wordOf 355 = .ok (.ifCond .eq 6, 3) := by decide +kernel
theorem dX9_wordOf_358 : decode cX9_wordOf 358 = .ok (.bipush 28, 2) := by decide +kernel
theorem dX9_wordOf_360 : decode cX9_wordOf 360 = .ok (.ireturn, 1) := by decide +kernel
theorem dX9_wordOf_361 : decode cX9_wordOf 361 = .ok (.aload_n 0, 1) := by decide +kernel
theorem dX9_wordOf_362 : decode cX9_wordOf 362 = .ok (.iload_n 1, 1) := by decide +kernel
theorem dX9_wordOf_363 : decode cX9_wordOf 363 = .ok (.iload_n 2, 1) := by decide +kernel
theorem dX9_wordOf_364 : decode cX9_wordOf 364 = .ok (.ldc 156, 2) := by decide +kernel
theorem dX9_wordOf_366 : decode cX9_wordOf 366 = .ok (.invokestatic 102, 3) := by decide +kernel
theorem dX9_wordOf_369 : decode cX9_wordOf 369 = .ok (.ifCond .eq 6, 3) := by decide +kernel
theorem dX9_wordOf_372 : decode cX9_wordOf 372 = .ok (.bipush 29, 2) := by decide +kernel
theorem dX9_wordOf_374 : decode cX9_wordOf 374 = .ok (.ireturn, 1) := by decide +kernel
theorem dX9_wordOf_375 : decode cX9_wordOf 375 = .ok (.iconst 0, 1) := by decide +kernel
theorem dX9_wordOf_376 : decode cX9_wordOf 376 = .ok (.ireturn, 1) := by decide +kernel
theorem dX10_init_0 : decode cX10_init 0 = .ok (.aload_n 0, 1) := by decide +kernel
theorem dX10_init_1 : decode cX10_init 1 = .ok (.invokespecial 3, 3) := by decide +kernel
theorem dX10_init_4 : decode cX10_init 4 = .ok (.aload_n 0, 1) := by decide +kernel
theorem dX10_init_5 : decode cX10_init 5 = .ok (.aload_n 1, 1) := by decide +kernel
theorem dX10_init_6 : decode cX10_init 6 = .ok (.putfield 9, 3) := by decide +kernel
theorem dX10_init_9 : decode cX10_init 9 = .ok (.return_, 1) := by decide +kernel
theorem dX10_netDebts_0 : decode cX10_netDebts 0 = .ok (.iconst 0, 1) := by decide +kernel
theorem dX10_netDebts_1 : decode cX10_netDebts 1 = .ok (.istore_n 1, 1) := by decide +kernel
theorem dX10_netDebts_2 : decode cX10_netDebts 2 = .ok (.iconst 0, 1) := by decide +kernel
theorem dX10_netDebts_3 : decode cX10_netDebts 3 = .ok (.istore_n 2, 1) := by decide +kernel
theorem dX10_netDebts_4 : decode cX10_netDebts 4 = .ok (.iload_n 2, 1) := by decide +kernel
theorem dX10_netDebts_5 : decode cX10_netDebts 5 = .ok (.aload_n 0, 1) := by decide +kernel
theorem dX10_netDebts_6 : decode cX10_netDebts 6 = .ok (.getfield 9, 3) := by decide +kernel
theorem dX10_netDebts_9 : decode cX10_netDebts 9 = .ok (.getfield 15, 3) := by decide +kernel
theorem dX10_netDebts_12 : decode cX10_netDebts 12 = .ok (.if_icmp .ge 64, 3) := by decide +kernel
theorem dX10_netDebts_15 : decode cX10_netDebts 15 = .ok (.iconst 0, 1) := by decide +kernel
theorem dX10_netDebts_16 : decode cX10_netDebts 16 = .ok (.istore_n 3, 1) := by decide +kernel
theorem dX10_netDebts_17 : decode cX10_netDebts 17 = .ok (.iconst 0, 1) := by decide +kernel
theorem dX10_netDebts_18 : decode cX10_netDebts 18 = .ok (.istore 4, 2) := by decide +kernel
theorem dX10_netDebts_20 : decode cX10_netDebts 20 = .ok (.iload 4, 2) := by decide +kernel
theorem dX10_netDebts_22 : decode cX10_netDebts 22 = .ok (.aload_n 0, 1) := by decide +kernel
theorem dX10_netDebts_23 : decode cX10_netDebts 23 = .ok (.getfield 9, 3) := by decide +kernel
theorem dX10_netDebts_26 : decode cX10_netDebts 26 = .ok (.getfield 15, 3) := by decide +kernel
theorem dX10_netDebts_29 : decode cX10_netDebts 29 = .ok (.if_icmp .ge 33, 3) := by decide +kernel
theorem dX10_netDebts_32 : decode cX10_netDebts 32 = .ok (.iload_n 3, 1) := by decide +kernel
theorem dX10_netDebts_33 : decode cX10_netDebts 33 = .ok (.aload_n 0, 1) := by decide +kernel
theorem dX10_netDebts_34 : decode cX10_netDebts 34 = .ok (.getfield 9, 3) := by decide +kernel
theorem dX10_netDebts_37 : decode cX10_netDebts 37 = .ok (.iload_n 2, 1) := by decide +kernel
theorem dX10_netDebts_38 : decode cX10_netDebts 38 = .ok (.iload 4, 2) := by decide +kernel
theorem dX10_netDebts_40 : decode cX10_netDebts 40 = .ok (.invokevirtual 21, 3) := by decide +kernel
theorem dX10_netDebts_43 : decode cX10_netDebts 43 = .ok (.aload_n 0, 1) := by decide +kernel
theorem dX10_netDebts_44 : decode cX10_netDebts 44 = .ok (.getfield 9, 3) := by decide +kernel
theorem dX10_netDebts_47 : decode cX10_netDebts 47 = .ok (.iload 4, 2) := by decide +kernel
theorem dX10_netDebts_49 : decode cX10_netDebts 49 = .ok (.iload_n 2, 1) := by decide +kernel
theorem dX10_netDebts_50 : decode cX10_netDebts 50 = .ok (.invokevirtual 21, 3) := by decide +kernel
theorem dX10_netDebts_53 : decode cX10_netDebts 53 = .ok (.isub, 1) := by decide +kernel
theorem dX10_netDebts_54 : decode cX10_netDebts 54 = .ok (.iadd, 1) := by decide +kernel
theorem dX10_netDebts_55 : decode cX10_netDebts 55 = .ok (.istore_n 3, 1) := by decide +kernel
theorem dX10_netDebts_56 : decode cX10_netDebts 56 = .ok (.iinc 4 1, 3) := by decide +kernel
theorem dX10_netDebts_59 : decode cX10_netDebts 59 = .ok (.goto (-39), 3) := by decide +kernel
theorem dX10_netDebts_62 : decode cX10_netDebts 62 = .ok (.iload_n 1, 1) := by decide +kernel
theorem dX10_netDebts_63 : decode cX10_netDebts 63 = .ok (.iconst 0, 1) := by decide +kernel
theorem dX10_netDebts_64 : decode cX10_netDebts 64 = .ok (.iload_n 3, 1) := by decide +kernel
theorem dX10_netDebts_65 : decode cX10_netDebts 65 = .ok (.invokestatic 25, 3) := by decide +kernel
theorem dX10_netDebts_68 : decode cX10_netDebts 68 = .ok (.iadd, 1) := by decide +kernel
theorem dX10_netDebts_69 : decode cX10_netDebts 69 = .ok (.istore_n 1, 1) := by decide +kernel
theorem dX10_netDebts_70 : decode cX10_netDebts 70 = .ok (.iinc 2 1, 3) := by decide +kernel
theorem dX10_netDebts_73 : decode cX10_netDebts 73 = .ok (.goto (-69), 3) := by decide +kernel
theorem dX10_netDebts_76 : decode cX10_netDebts 76 = .ok (.iload_n 1, 1) := by decide +kernel
theorem dX10_netDebts_77 : decode cX10_netDebts 77 = .ok (.ireturn, 1) := by decide +kernel
theorem dX10_nextOf_0 : decode cX10_nextOf 0 = .ok (.iconst 0, 1) := by decide +kernel
theorem dX10_nextOf_1 : decode cX10_nextOf 1 = .ok (.istore_n 3, 1) := by decide +kernel
theorem dX10_nextOf_2 : decode cX10_nextOf 2 = .ok (.iconst 0, 1) := by decide +kernel
theorem dX10_nextOf_3 : decode cX10_nextOf 3 = .ok (.istore 4, 2) := by decide +kernel
theorem dX10_nextOf_5 : decode cX10_nextOf 5 = .ok (.iload 4, 2) := by decide +kernel
theorem dX10_nextOf_7 : decode cX10_nextOf 7 = .ok (.aload_n 0, 1) := by decide +kernel
theorem dX10_nextOf_8 : decode cX10_nextOf 8 = .ok (.getfield 9, 3) := by decide +kernel
theorem dX10_nextOf_11 : decode cX10_nextOf 11 = .ok (.getfield 15, 3) := by decide +kernel
theorem dX10_nextOf_14 : decode cX10_nextOf 14 = .ok (.if_icmp .ge 49, 3) := by decide +kernel
theorem dX10_nextOf_17 : decode cX10_nextOf 17 = .ok (.iload_n 2, 1) := by decide +kernel
theorem dX10_nextOf_18 : decode cX10_nextOf 18 = .ok (.ifCond .eq 19, 3) := by decide +kernel
theorem dX10_nextOf_21 : decode cX10_nextOf 21 = .ok (.aload_n 0, 1) := by decide +kernel
theorem dX10_nextOf_22 : decode cX10_nextOf 22 = .ok (.getfield 9, 3) := by decide +kernel
theorem dX10_nextOf_25 : decode cX10_nextOf 25 = .ok (.iload_n 1, 1) := by decide +kernel
theorem dX10_nextOf_26 : decode cX10_nextOf 26 = .ok (.iload 4, 2) := by decide +kernel
theorem dX10_nextOf_28 : decode cX10_nextOf 28 = .ok (.invokevirtual 21, 3) := by decide +kernel
theorem dX10_nextOf_31 : decode cX10_nextOf 31 = .ok (.ifCond .le 26, 3) := by decide +kernel
theorem dX10_nextOf_34 : decode cX10_nextOf 34 = .ok (.goto 16, 3) := by decide +kernel
theorem dX10_nextOf_37 : decode cX10_nextOf 37 = .ok (.aload_n 0, 1) := by decide +kernel
theorem dX10_nextOf_38 : decode cX10_nextOf 38 = .ok (.getfield 9, 3) := by decide +kernel
theorem dX10_nextOf_41 : decode cX10_nextOf 41 = .ok (.iload_n 1, 1) := by decide +kernel
theorem dX10_nextOf_42 : decode cX10_nextOf 42 = .ok (.iload 4, 2) := by decide +kernel
theorem dX10_nextOf_44 : decode cX10_nextOf 44 = .ok (.invokevirtual 30, 3) := by decide +kernel
theorem dX10_nextOf_47 : decode cX10_nextOf 47 = .ok (.ifCond .eq 10, 3) := by decide +kernel
theorem dX10_nextOf_50 : decode cX10_nextOf 50 = .ok (.iload_n 3, 1) := by decide +kernel
theorem dX10_nextOf_51 : decode cX10_nextOf 51 = .ok (.iconst 1, 1) := by decide +kernel
theorem dX10_nextOf_52 : decode cX10_nextOf 52 = .ok (.iload 4, 2) := by decide +kernel
theorem dX10_nextOf_54 : decode cX10_nextOf 54 = .ok (.ishl, 1) := by decide +kernel
theorem dX10_nextOf_55 : decode cX10_nextOf 55 = .ok (.ior, 1) := by decide +kernel
theorem dX10_nextOf_56 : decode cX10_nextOf 56 = .ok (.istore_n 3, 1) := by decide +kernel
theorem dX10_nextOf_57 : decode cX10_nextOf 57 = .ok (.iinc 4 1, 3) := by decide +kernel
theorem dX10_nextOf_60 : decode cX10_nextOf 60 = .ok (.goto (-55), 3) := by decide +kernel
theorem dX10_nextOf_63 : decode cX10_nextOf 63 = .ok (.iload_n 3, 1) := by decide +kernel
theorem dX10_nextOf_64 : decode cX10_nextOf 64 = .ok (.ireturn, 1) := by decide +kernel
theorem dX10_reached_0 : decode cX10_reached 0 = .ok (.aload_n 0, 1) := by decide +kernel
theorem dX10_reached_1 : decode cX10_reached 1 = .ok (.iload_n 1, 1) := by decide +kernel
theorem dX10_reached_2 : decode cX10_reached 2 = .ok (.iload_n 2, 1) := by decide +kernel
theorem dX10_reached_3 : decode cX10_reached 3 = .ok (.invokevirtual 34, 3) := by decide +kernel
theorem dX10_reached_6 : decode cX10_reached 6 = .ok (.istore_n 3, 1) := by decide +kernel
theorem dX10_reached_7 : decode cX10_reached 7 = .ok (.iconst 0, 1) := by decide +kernel
theorem dX10_reached_8 : decode cX10_reached 8 = .ok (.istore 4, 2) := by decide +kernel
theorem dX10_reached_10 : decode cX10_reached 10 = .ok (.iload 4, 2) := by decide +kernel
theorem dX10_reached_12 : decode cX10_reached 12 = .ok (.bipush 8, 2) := by decide +kernel
theorem dX10_reached_14 : decode cX10_reached 14 = .ok (.if_icmp .ge 50, 3) := by decide +kernel
theorem dX10_reached_17 : decode cX10_reached 17 = .ok (.iconst 0, 1) := by decide +kernel
theorem dX10_reached_18 : decode cX10_reached 18 = .ok (.istore 5, 2) := by decide +kernel
theorem dX10_reached_20 : decode cX10_reached 20 = .ok (.iload 5, 2) := by decide +kernel
theorem dX10_reached_22 : decode cX10_reached 22 = .ok (.aload_n 0, 1) := by decide +kernel
theorem dX10_reached_23 : decode cX10_reached 23 = .ok (.getfield 9, 3) := by decide +kernel
theorem dX10_reached_26 : decode cX10_reached 26 = .ok (.getfield 15, 3) := by decide +kernel
theorem dX10_reached_29 : decode cX10_reached 29 = .ok (.if_icmp .ge 29, 3) := by decide +kernel
theorem dX10_reached_32 : decode cX10_reached 32 = .ok (.iload_n 3, 1) := by decide +kernel
theorem dX10_reached_33 : decode cX10_reached 33 = .ok (.iload 5, 2) := by decide +kernel
theorem dX10_reached_35 : decode cX10_reached 35 = .ok (.ishr, 1) := by decide +kernel
theorem dX10_reached_36 : decode cX10_reached 36 = .ok (.iconst 1, 1) := by decide +kernel
theorem dX10_reached_37 : decode cX10_reached 37 = .ok (.iand, 1) := by decide +kernel
theorem dX10_reached_38 : decode cX10_reached 38 = .ok (.iconst 1, 1) := by decide +kernel
theorem dX10_reached_39 : decode cX10_reached 39 = .ok (.if_icmp .ne 13, 3) := by decide +kernel
theorem dX10_reached_42 : decode cX10_reached 42 = .ok (.iload_n 3, 1) := by decide +kernel
theorem dX10_reached_43 : decode cX10_reached 43 = .ok (.aload_n 0, 1) := by decide +kernel
theorem dX10_reached_44 : decode cX10_reached 44 = .ok (.iload 5, 2) := by decide +kernel
theorem dX10_reached_46 : decode cX10_reached 46 = .ok (.iload_n 2, 1) := by decide +kernel
theorem dX10_reached_47 : decode cX10_reached 47 = .ok (.invokevirtual 34, 3) := by decide +kernel
theorem dX10_reached_50 : decode cX10_reached 50 = .ok (.ior, 1) := by decide +kernel
theorem dX10_reached_51 : decode cX10_reached 51 = .ok (.istore_n 3, 1) := by decide +kernel
theorem dX10_reached_52 : decode cX10_reached 52 = .ok (.iinc 5 1, 3) := by decide +kernel
theorem dX10_reached_55 : decode cX10_reached 55 = .ok (.goto (-35), 3) := by decide +kernel
theorem dX10_reached_58 : decode cX10_reached 58 = .ok (.iinc 4 1, 3) := by decide +kernel
theorem dX10_reached_61 : decode cX10_reached 61 = .ok (.goto (-51), 3) := by decide +kernel
theorem dX10_reached_64 : decode cX10_reached 64 = .ok (.iload_n 3, 1) := by decide +kernel
theorem dX10_reached_65 : decode cX10_reached 65 = .ok (.ireturn, 1) := by decide +kernel
theorem dX10_branchOf_0 : decode cX10_branchOf 0 = .ok (.iconst 0, 1) := by decide +kernel
theorem dX10_branchOf_1 : decode cX10_branchOf 1 = .ok (.istore_n 2, 1) := by decide +kernel
theorem dX10_branchOf_2 : decode cX10_branchOf 2 = .ok (.iconst 0, 1) := by decide +kernel
theorem dX10_branchOf_3 : decode cX10_branchOf 3 = .ok (.istore_n 3, 1) := by decide +kernel
theorem dX10_branchOf_4 : decode cX10_branchOf 4 = .ok (.iload_n 3, 1) := by decide +kernel
theorem dX10_branchOf_5 : decode cX10_branchOf 5 = .ok (.aload_n 0, 1) := by decide +kernel
theorem dX10_branchOf_6 : decode cX10_branchOf 6 = .ok (.getfield 9, 3) := by decide +kernel
theorem dX10_branchOf_9 : decode cX10_branchOf 9 = .ok (.getfield 15, 3) := by decide +kernel
theorem dX10_branchOf_12 : decode cX10_branchOf 12 = .ok (.if_icmp .ge 49, 3) := by decide +kernel
theorem dX10_branchOf_15 : decode cX10_branchOf 15 = .ok (.aload_n 0, 1) := by decide +kernel
theorem dX10_branchOf_16 : decode cX10_branchOf 16 = .ok (.getfield 9, 3) := by decide +kernel
theorem dX10_branchOf_19 : decode cX10_branchOf 19 = .ok (.iload_n 3, 1) := by decide +kernel
theorem dX10_branchOf_20 : decode cX10_branchOf 20 = .ok (.invokevirtual 38, 3) := by decide +kernel
theorem dX10_branchOf_23 : decode cX10_branchOf 23 = .ok (.getfield 42, 3) := by decide +kernel
theorem dX10_branchOf_26 : decode cX10_branchOf 26 = .ok (.istore 4, 2) := by decide +kernel
theorem dX10_branchOf_28 : decode cX10_branchOf 28 = .ok (.iload_n 3, 1) := by decide +kernel
theorem dX10_branchOf_29 : decode cX10_branchOf 29 = .ok (.iload_n 1, 1) := by decide +kernel
theorem dX10_branchOf_30 : decode cX10_branchOf 30 = .ok (.if_icmp .eq 19, 3) := by decide +kernel
theorem dX10_branchOf_33 : decode cX10_branchOf 33 = .ok (.iload 4, 2) := by decide +kernel
theorem dX10_branchOf_35 : decode cX10_branchOf 35 = .ok (.iconst (-1), 1) := by decide +kernel
theorem dX10_branchOf_36 : decode cX10_branchOf 36 = .ok (.if_icmp .eq 19, 3) := by decide +kernel
theorem dX10_branchOf_39 : decode cX10_branchOf 39 = .ok (.iload_n 2, 1) := by decide +kernel
theorem dX10_branchOf_40 : decode cX10_branchOf 40 = .ok (.iload 4, 2) := by decide +kernel
theorem dX10_branchOf_42 : decode cX10_branchOf 42 = .ok (.ishr, 1) := by decide +kernel
theorem dX10_branchOf_43 : decode cX10_branchOf 43 = .ok (.iconst 1, 1) := by decide +kernel
theorem dX10_branchOf_44 : decode cX10_branchOf 44 = .ok (.iand, 1) := by decide +kernel
theorem dX10_branchOf_45 : decode cX10_branchOf 45 = .ok (.iconst 1, 1) := by decide +kernel
theorem dX10_branchOf_46 : decode cX10_branchOf 46 = .ok (.if_icmp .ne 9, 3) := by decide +kernel
theorem dX10_branchOf_49 : decode cX10_branchOf 49 = .ok (.iload_n 2, 1) := by decide +kernel
theorem dX10_branchOf_50 : decode cX10_branchOf 50 = .ok (.iconst 1, 1) := by decide +kernel
theorem dX10_branchOf_51 : decode cX10_branchOf 51 = .ok (.iload_n 3, 1) := by decide +kernel
theorem dX10_branchOf_52 : decode cX10_branchOf 52 = .ok (.ishl, 1) := by decide +kernel
theorem dX10_branchOf_53 : decode cX10_branchOf 53 = .ok (.ior, 1) := by decide +kernel
theorem dX10_branchOf_54 : decode cX10_branchOf 54 = .ok (.istore_n 2, 1) := by decide +kernel
theorem dX10_branchOf_55 : decode cX10_branchOf 55 = .ok (.iinc 3 1, 3) := by decide +kernel
theorem dX10_branchOf_58 : decode cX10_branchOf 58 = .ok (.goto (-54), 3) := by decide +kernel
theorem dX10_branchOf_61 : decode cX10_branchOf 61 = .ok (.iload_n 2, 1) := by decide +kernel
theorem dX10_branchOf_62 : decode cX10_branchOf 62 = .ok (.ireturn, 1) := by decide +kernel
theorem dX10_youngestBranch_0 : decode cX10_youngestBranch 0 = .ok (.iconst (-1), 1) := by decide +kernel
theorem dX10_youngestBranch_1 : decode cX10_youngestBranch 1 = .ok (.istore_n 1, 1) := by decide +kernel
theorem dX10_youngestBranch_2 : decode cX10_youngestBranch 2 = .ok (.iconst 0, 1) := by decide +kernel
theorem dX10_youngestBranch_3 : decode cX10_youngestBranch 3 = .ok (.istore_n 2, 1) := by decide +kernel
theorem dX10_youngestBranch_4 : decode cX10_youngestBranch 4 = .ok (.iconst 0, 1) := by decide +kernel
theorem dX10_youngestBranch_5 : decode cX10_youngestBranch 5 = .ok (.istore_n 3, 1) := by decide +kernel
theorem dX10_youngestBranch_6 : decode cX10_youngestBranch 6 = .ok (.iload_n 3, 1) := by decide +kernel
theorem dX10_youngestBranch_7 : decode cX10_youngestBranch 7 = .ok (.aload_n 0, 1) := by decide +kernel
theorem dX10_youngestBranch_8 : decode cX10_youngestBranch 8 = .ok (.getfield 9, 3) := by decide +kernel
theorem dX10_youngestBranch_11 : decode cX10_youngestBranch 11 = .ok (.getfield 15, 3) := by decide +kernel
theorem dX10_youngestBranch_14 : decode cX10_youngestBranch 14 = .ok (.if_icmp .ge 51, 3) := by decide +kernel
theorem dX10_youngestBranch_17 : decode cX10_youngestBranch 17 = .ok (.aload_n 0, 1) := by decide +kernel
theorem dX10_youngestBranch_18 : decode cX10_youngestBranch 18 = .ok (.getfield 9, 3) := by decide +kernel
theorem dX10_youngestBranch_21 : decode cX10_youngestBranch 21 = .ok (.iload_n 3, 1) := by decide +kernel
theorem dX10_youngestBranch_22 : decode cX10_youngestBranch 22 = .ok (.invokevirtual 38, 3) := by decide +kernel
theorem dX10_youngestBranch_25 : decode cX10_youngestBranch 25 = .ok (.getfield 42, 3) := by decide +kernel
theorem dX10_youngestBranch_28 : decode cX10_youngestBranch 28 = .ok (.iconst (-1), 1) := by decide +kernel
theorem dX10_youngestBranch_29 : decode cX10_youngestBranch 29 = .ok (.if_icmp .ne 30, 3) := by decide +kernel
theorem dX10_youngestBranch_32 : decode cX10_youngestBranch 32 = .ok (.aload_n 0, 1) := by decide +kernel
theorem dX10_youngestBranch_33 : decode cX10_youngestBranch 33 = .ok (.aload_n 0, 1) := by decide +kernel
theorem dX10_youngestBranch_34 : decode cX10_youngestBranch 34 = .ok (.iload_n 3, 1) := by decide +kernel
theorem dX10_youngestBranch_35 : decode cX10_youngestBranch 35 = .ok (.invokevirtual 47, 3) := by decide +kernel
theorem dX10_youngestBranch_38 : decode cX10_youngestBranch 38 = .ok (.invokevirtual 51, 3) := by decide +kernel
theorem dX10_youngestBranch_41 : decode cX10_youngestBranch 41 = .ok (.istore 4, 2) := by decide +kernel
theorem dX10_youngestBranch_43 : decode cX10_youngestBranch 43 = .ok (.iload_n 1, 1) := by decide +kernel
theorem dX10_youngestBranch_44 : decode cX10_youngestBranch 44 = .ok (.iconst (-1), 1) := by decide +kernel
theorem dX10_youngestBranch_45 : decode cX10_youngestBranch 45 = .ok (.if_icmp .eq 9, 3) := by decide +kernel
theorem dX10_youngestBranch_48 : decode cX10_youngestBranch 48 = .ok (.iload 4, 2) := by decide +kernel
theorem dX10_youngestBranch_50 : decode cX10_youngestBranch 50 = .ok (.iload_n 2, 1) := by decide +kernel
theorem dX10_youngestBranch_51 : decode cX10_youngestBranch 51 = .ok (.if_icmp .ge 8, 3) := by decide +kernel
theorem dX10_youngestBranch_54 : decode cX10_youngestBranch 54 = .ok (.iload_n 3, 1) := by decide +kernel
theorem dX10_youngestBranch_55 : decode cX10_youngestBranch 55 = .ok (.istore_n 1, 1) := by decide +kernel
theorem dX10_youngestBranch_56 : decode cX10_youngestBranch 56 = .ok (.iload 4, 2) := by decide +kernel
theorem dX10_youngestBranch_58 : decode cX10_youngestBranch 58 = .ok (.istore_n 2, 1) := by decide +kernel
theorem dX10_youngestBranch_59 : decode cX10_youngestBranch 59 = .ok (.iinc 3 1, 3) := by decide +kernel
theorem dX10_youngestBranch_62 : decode cX10_youngestBranch 62 = .ok (.goto (-56), 3) := by decide +kernel
theorem dX10_youngestBranch_65 : decode cX10_youngestBranch 65 = .ok (.iload_n 1, 1) := by decide +kernel
theorem dX10_youngestBranch_66 : decode cX10_youngestBranch 66 = .ok (.ireturn, 1) := by decide +kernel
theorem dX10_agesOf_0 : decode cX10_agesOf 0 = .ok (.iconst 0, 1) := by decide +kernel
theorem dX10_agesOf_1 : decode cX10_agesOf 1 = .ok (.istore_n 2, 1) := by decide +kernel
theorem dX10_agesOf_2 : decode cX10_agesOf 2 = .ok (.iconst 0, 1) := by decide +kernel
theorem dX10_agesOf_3 : decode cX10_agesOf 3 = .ok (.istore_n 3, 1) := by decide +kernel
theorem dX10_agesOf_4 : decode cX10_agesOf 4 = .ok (.iload_n 3, 1) := by decide +kernel
theorem dX10_agesOf_5 : decode cX10_agesOf 5 = .ok (.aload_n 0, 1) := by decide +kernel
theorem dX10_agesOf_6 : decode cX10_agesOf 6 = .ok (.getfield 9, 3) := by decide +kernel
theorem dX10_agesOf_9 : decode cX10_agesOf 9 = .ok (.getfield 15, 3) := by decide +kernel
theorem dX10_agesOf_12 : decode cX10_agesOf 12 = .ok (.if_icmp .ge 36, 3) := by decide +kernel
theorem dX10_agesOf_15 : decode cX10_agesOf 15 = .ok (.iload_n 2, 1) := by decide +kernel
theorem dX10_agesOf_16 : decode cX10_agesOf 16 = .ok (.iload_n 1, 1) := by decide +kernel
theorem dX10_agesOf_17 : decode cX10_agesOf 17 = .ok (.iload_n 3, 1) := by decide +kernel
theorem dX10_agesOf_18 : decode cX10_agesOf 18 = .ok (.ishr, 1) := by decide +kernel
theorem dX10_agesOf_19 : decode cX10_agesOf 19 = .ok (.iconst 1, 1) := by decide +kernel
theorem dX10_agesOf_20 : decode cX10_agesOf 20 = .ok (.iand, 1) := by decide +kernel
theorem dX10_agesOf_21 : decode cX10_agesOf 21 = .ok (.iconst 1, 1) := by decide +kernel
theorem dX10_agesOf_22 : decode cX10_agesOf 22 = .ok (.if_icmp .ne 17, 3) := by decide +kernel
theorem dX10_agesOf_25 : decode cX10_agesOf 25 = .ok (.aload_n 0, 1) := by decide +kernel
theorem dX10_agesOf_26 : decode cX10_agesOf 26 = .ok (.getfield 9, 3) := by decide +kernel
theorem dX10_agesOf_29 : decode cX10_agesOf 29 = .ok (.iload_n 3, 1) := by decide +kernel
theorem dX10_agesOf_30 : decode cX10_agesOf 30 = .ok (.invokevirtual 38, 3) := by decide +kernel
theorem dX10_agesOf_33 : decode cX10_agesOf 33 = .ok (.getfield 54, 3) := by decide +kernel
theorem dX10_agesOf_36 : decode cX10_agesOf 36 = .ok (.goto 4, 3) := by decide +kernel
theorem dX10_agesOf_39 : decode cX10_agesOf 39 = .ok (.iconst 0, 1) := by decide +kernel
theorem dX10_agesOf_40 : decode cX10_agesOf 40 = .ok (.iadd, 1) := by decide +kernel
theorem dX10_agesOf_41 : decode cX10_agesOf 41 = .ok (.istore_n 2, 1) := by decide +kernel
theorem dX10_agesOf_42 : decode cX10_agesOf 42 = .ok (.iinc 3 1, 3) := by decide +kernel
theorem dX10_agesOf_45 : decode cX10_agesOf 45 = .ok (.goto (-41), 3) := by decide +kernel
theorem dX10_agesOf_48 : decode cX10_agesOf 48 = .ok (.iload_n 2, 1) := by decide +kernel
theorem dX10_agesOf_49 : decode cX10_agesOf 49 = .ok (.ireturn, 1) := by decide +kernel
theorem dX10_stepsBetween_0 : decode cX10_stepsBetween 0 = .ok (.iload_n 1, 1) := by decide +kernel
theorem dX10_stepsBetween_1 : decode cX10_stepsBetween 1 = .ok (.istore_n 3, 1) := by decide +kernel
theorem dX10_stepsBetween_2 : decode cX10_stepsBetween 2 = .ok (.iconst 0, 1) := by decide +kernel
theorem dX10_stepsBetween_3 : decode cX10_stepsBetween 3 = .ok (.istore 4, 2) := by decide +kernel
theorem dX10_stepsBetween_5 : decode cX10_stepsBetween 5 = .ok (.iload 4, 2) := by decide +kernel
theorem dX10_stepsBetween_7 : decode cX10_stepsBetween 7 = .ok (.bipush 8, 2) := by decide +kernel
theorem dX10_stepsBetween_9 : decode cX10_stepsBetween 9 = .ok (.if_icmp .ge 46, 3) := by decide +kernel
theorem dX10_stepsBetween_12 : decode cX10_stepsBetween 12 = .ok (.iload_n 3, 1) := by decide +kernel
theorem dX10_stepsBetween_13 : decode cX10_stepsBetween 13 = .ok (.iconst (-1), 1) := by decide +kernel
theorem dX10_stepsBetween_14 : decode cX10_stepsBetween 14 = .ok (.if_icmp .eq 41, 3) := by decide +kernel
theorem dX10_stepsBetween_17 : decode cX10_stepsBetween 17 = .ok (.aload_n 0, 1) := by decide +kernel
theorem dX10_stepsBetween_18 : decode cX10_stepsBetween 18 = .ok (.iload_n 2, 1) := by decide +kernel
theorem dX10_stepsBetween_19 : decode cX10_stepsBetween 19 = .ok (.iload_n 3, 1) := by decide +kernel
theorem dX10_stepsBetween_20 : decode cX10_stepsBetween 20 = .ok (.invokevirtual 57, 3) := by decide +kernel
theorem dX10_stepsBetween_23 : decode cX10_stepsBetween 23 = .ok (.istore 5, 2) := by decide +kernel
theorem dX10_stepsBetween_25 : decode cX10_stepsBetween 25 = .ok (.iload 5, 2) := by decide +kernel
theorem dX10_stepsBetween_27 : decode cX10_stepsBetween 27 = .ok (.iconst (-1), 1) := by decide +kernel
theorem dX10_stepsBetween_28 : decode cX10_stepsBetween 28 = .ok (.if_icmp .eq 9, 3) := by decide +kernel
theorem dX10_stepsBetween_31 : decode cX10_stepsBetween 31 = .ok (.iload 4, 2) := by decide +kernel
theorem dX10_stepsBetween_33 : decode cX10_stepsBetween 33 = .ok (.iload 5, 2) := by decide +kernel
theorem dX10_stepsBetween_35 : decode cX10_stepsBetween 35 = .ok (.iadd, 1) := by decide +kernel
theorem dX10_stepsBetween_36 : decode cX10_stepsBetween 36 = .ok (.ireturn, 1) := by decide +kernel
theorem dX10_stepsBetween_37 : decode cX10_stepsBetween 37 = .ok (.aload_n 0, 1) := by decide +kernel
theorem dX10_stepsBetween_38 : decode cX10_stepsBetween 38 = .ok (.getfield 9, 3) := by decide +kernel
theorem dX10_stepsBetween_41 : decode cX10_stepsBetween 41 = .ok (.iload_n 3, 1) := by decide +kernel
theorem dX10_stepsBetween_42 : decode cX10_stepsBetween 42 = .ok (.invokevirtual 38, 3) := by decide +kernel
theorem dX10_stepsBetween_45 : decode cX10_stepsBetween 45 = .ok (.getfield 42, 3) := by decide +kernel
theorem dX10_stepsBetween_48 : decode cX10_stepsBetween 48 = .ok (.istore_n 3, 1) := by decide +kernel
theorem dX10_stepsBetween_49 : decode cX10_stepsBetween 49 = .ok (.iinc 4 1, 3) := by decide +kernel
theorem dX10_stepsBetween_52 : decode cX10_stepsBetween 52 = .ok (.goto (-47), 3) := by decide +kernel
theorem dX10_stepsBetween_55 : decode cX10_stepsBetween 55 = .ok (.iconst (-1), 1) := by decide +kernel
theorem dX10_stepsBetween_56 : decode cX10_stepsBetween 56 = .ok (.ireturn, 1) := by decide +kernel
theorem dX10_stepsUp_0 : decode cX10_stepsUp 0 = .ok (.iload_n 1, 1) := by decide +kernel
theorem dX10_stepsUp_1 : decode cX10_stepsUp 1 = .ok (.istore_n 3, 1) := by decide +kernel
theorem dX10_stepsUp_2 : decode cX10_stepsUp 2 = .ok (.iconst 0, 1) := by decide +kernel
theorem dX10_stepsUp_3 : decode cX10_stepsUp 3 = .ok (.istore 4, 2) := by decide +kernel
theorem dX10_stepsUp_5 : decode cX10_stepsUp 5 = .ok (.iload 4, 2) := by decide +kernel
theorem dX10_stepsUp_7 : decode cX10_stepsUp 7 = .ok (.bipush 8, 2) := by decide +kernel
theorem dX10_stepsUp_9 : decode cX10_stepsUp 9 = .ok (.if_icmp .ge 34, 3) := by decide +kernel
theorem dX10_stepsUp_12 : decode cX10_stepsUp 12 = .ok (.iload_n 3, 1) := by decide +kernel
theorem dX10_stepsUp_13 : decode cX10_stepsUp 13 = .ok (.iconst (-1), 1) := by decide +kernel
theorem dX10_stepsUp_14 : decode cX10_stepsUp 14 = .ok (.if_icmp .eq 29, 3) := by decide +kernel
theorem dX10_stepsUp_17 : decode cX10_stepsUp 17 = .ok (.iload_n 3, 1) := by decide +kernel
theorem dX10_stepsUp_18 : decode cX10_stepsUp 18 = .ok (.iload_n 2, 1) := by decide +kernel
theorem dX10_stepsUp_19 : decode cX10_stepsUp 19 = .ok (.if_icmp .ne 6, 3) := by decide +kernel
theorem dX10_stepsUp_22 : decode cX10_stepsUp 22 = .ok (.iload 4, 2) := by decide +kernel
theorem dX10_stepsUp_24 : decode cX10_stepsUp 24 = .ok (.ireturn, 1) := by decide +kernel
theorem dX10_stepsUp_25 : decode cX10_stepsUp 25 = .ok (.aload_n 0, 1) := by decide +kernel
theorem dX10_stepsUp_26 : decode cX10_stepsUp 26 = .ok (.getfield 9, 3) := by decide +kernel
theorem dX10_stepsUp_29 : decode cX10_stepsUp 29 = .ok (.iload_n 3, 1) := by decide +kernel
theorem dX10_stepsUp_30 : decode cX10_stepsUp 30 = .ok (.invokevirtual 38, 3) := by decide +kernel
theorem dX10_stepsUp_33 : decode cX10_stepsUp 33 = .ok (.getfield 42, 3) := by decide +kernel
theorem dX10_stepsUp_36 : decode cX10_stepsUp 36 = .ok (.istore_n 3, 1) := by decide +kernel
theorem dX10_stepsUp_37 : decode cX10_stepsUp 37 = .ok (.iinc 4 1, 3) := by decide +kernel
theorem dX10_stepsUp_40 : decode cX10_stepsUp 40 = .ok (.goto (-35), 3) := by decide +kernel
theorem dX10_stepsUp_43 : decode cX10_stepsUp 43 = .ok (.iconst (-1), 1) := by decide +kernel
theorem dX10_stepsUp_44 : decode cX10_stepsUp 44 = .ok (.ireturn, 1) := by decide +kernel
theorem dX10_cousinsOf_0 : decode cX10_cousinsOf 0 = .ok (.aload_n 0, 1) := by decide +kernel
theorem dX10_cousinsOf_1 : decode cX10_cousinsOf 1 = .ok (.getfield 9, 3) := by decide +kernel
theorem dX10_cousinsOf_4 : decode cX10_cousinsOf 4 = .ok (.iload_n 1, 1) := by decide +kernel
theorem dX10_cousinsOf_5 : decode cX10_cousinsOf 5 = .ok (.invokevirtual 38, 3) := by decide +kernel
theorem dX10_cousinsOf_8 : decode cX10_cousinsOf 8 = .ok (.getfield 42, 3) := by decide +kernel
theorem dX10_cousinsOf_11 : decode cX10_cousinsOf 11 = .ok (.istore_n 2, 1) := by decide +kernel
theorem dX10_cousinsOf_12 : decode cX10_cousinsOf 12 = .ok (.aload_n 0, 1) := by decide +kernel
theorem dX10_cousinsOf_13 : decode cX10_cousinsOf 13 = .ok (.iload_n 1, 1) := by decide +kernel
theorem dX10_cousinsOf_14 : decode cX10_cousinsOf 14 = .ok (.invokevirtual 60, 3) := by decide +kernel
theorem dX10_cousinsOf_17 : decode cX10_cousinsOf 17 = .ok (.istore_n 3, 1) := by decide +kernel
theorem dX10_cousinsOf_18 : decode cX10_cousinsOf 18 = .ok (.iconst 0, 1) := by decide +kernel
theorem dX10_cousinsOf_19 : decode cX10_cousinsOf 19 = .ok (.istore 4, 2) := by decide +kernel
theorem dX10_cousinsOf_21 : decode cX10_cousinsOf 21 = .ok (.iconst 0, 1) := by decide +kernel
theorem dX10_cousinsOf_22 : decode cX10_cousinsOf 22 = .ok (.istore 5, 2) := by decide +kernel
theorem dX10_cousinsOf_24 : decode cX10_cousinsOf 24 = .ok (.iload 5, 2) := by decide +kernel
theorem dX10_cousinsOf_26 : decode cX10_cousinsOf 26 = .ok (.aload_n 0, 1) := by decide +kernel
theorem dX10_cousinsOf_27 : decode cX10_cousinsOf 27 = .ok (.getfield 9, 3) := by decide +kernel
theorem dX10_cousinsOf_30 : decode cX10_cousinsOf 30 = .ok (.getfield 15, 3) := by decide +kernel
theorem dX10_cousinsOf_33 : decode cX10_cousinsOf 33 = .ok (.if_icmp .ge 49, 3) := by decide +kernel
theorem dX10_cousinsOf_36 : decode cX10_cousinsOf 36 = .ok (.iload_n 3, 1) := by decide +kernel
theorem dX10_cousinsOf_37 : decode cX10_cousinsOf 37 = .ok (.iconst (-1), 1) := by decide +kernel
theorem dX10_cousinsOf_38 : decode cX10_cousinsOf 38 = .ok (.if_icmp .eq 38, 3) := by decide +kernel
theorem dX10_cousinsOf_41 : decode cX10_cousinsOf 41 = .ok (.aload_n 0, 1) := by decide +kernel
theorem dX10_cousinsOf_42 : decode cX10_cousinsOf 42 = .ok (.iload 5, 2) := by decide +kernel
theorem dX10_cousinsOf_44 : decode cX10_cousinsOf 44 = .ok (.invokevirtual 60, 3) := by decide +kernel
theorem dX10_cousinsOf_47 : decode cX10_cousinsOf 47 = .ok (.iload_n 3, 1) := by decide +kernel
theorem dX10_cousinsOf_48 : decode cX10_cousinsOf 48 = .ok (.if_icmp .ne 28, 3) := by decide +kernel
theorem dX10_cousinsOf_51 : decode cX10_cousinsOf 51 = .ok (.aload_n 0, 1) := by decide +kernel
theorem dX10_cousinsOf_52 : decode cX10_cousinsOf 52 = .ok (.getfield 9, 3) := by decide +kernel
theorem dX10_cousinsOf_55 : decode cX10_cousinsOf 55 = .ok (.iload 5, 2) := by decide +kernel
theorem dX10_cousinsOf_57 : decode cX10_cousinsOf 57 = .ok (.invokevirtual 38, 3) := by decide +kernel
theorem dX10_cousinsOf_60 : decode cX10_cousinsOf 60 = .ok (.getfield 42, 3) := by decide +kernel
theorem dX10_cousinsOf_63 : decode cX10_cousinsOf 63 = .ok (.iload_n 2, 1) := by decide +kernel
theorem dX10_cousinsOf_64 : decode cX10_cousinsOf 64 = .ok (.if_icmp .eq 12, 3) := by decide +kernel
theorem dX10_cousinsOf_67 : decode cX10_cousinsOf 67 = .ok (.iload 4, 2) := by decide +kernel
theorem dX10_cousinsOf_69 : decode cX10_cousinsOf 69 = .ok (.iconst 1, 1) := by decide +kernel
theorem dX10_cousinsOf_70 : decode cX10_cousinsOf 70 = .ok (.iload 5, 2) := by decide +kernel
theorem dX10_cousinsOf_72 : decode cX10_cousinsOf 72 = .ok (.ishl, 1) := by decide +kernel
theorem dX10_cousinsOf_73 : decode cX10_cousinsOf 73 = .ok (.ior, 1) := by decide +kernel
theorem dX10_cousinsOf_74 : decode cX10_cousinsOf 74 = .ok (.istore 4, 2) := by decide +kernel
theorem dX10_cousinsOf_76 : decode cX10_cousinsOf 76 = .ok (.iinc 5 1, 3) := by decide +kernel
theorem dX10_cousinsOf_79 : decode cX10_cousinsOf 79 = .ok (.goto (-55), 3) := by decide +kernel
theorem dX10_cousinsOf_82 : decode cX10_cousinsOf 82 = .ok (.iload 4, 2) := by decide +kernel
theorem dX10_cousinsOf_84 : decode cX10_cousinsOf 84 = .ok (.ireturn, 1) := by decide +kernel
theorem dX10_grandparentOf_0 : decode cX10_grandparentOf 0 = .ok (.aload_n 0, 1) := by decide +kernel
theorem dX10_grandparentOf_1 : decode cX10_grandparentOf 1 = .ok (.getfield 9, 3) := by decide +kernel
theorem dX10_grandparentOf_4 : decode cX10_grandparentOf 4 = .ok (.iload_n 1, 1) := by decide +kernel
theorem dX10_grandparentOf_5 : decode cX10_grandparentOf 5 = .ok (.invokevirtual 38, 3) := by decide +kernel
theorem dX10_grandparentOf_8 : decode cX10_grandparentOf 8 = .ok (.getfield 42, 3) := by decide +kernel
theorem dX10_grandparentOf_11 : decode cX10_grandparentOf 11 = .ok (.istore_n 2, 1) := by decide +kernel
theorem dX10_grandparentOf_12 : decode cX10_grandparentOf 12 = .ok (.iload_n 2, 1) := by decide +kernel
theorem dX10_grandparentOf_13 : decode cX10_grandparentOf 13 = .ok (.iconst (-1), 1) := by decide +kernel
theorem dX10_grandparentOf_14 : decode cX10_grandparentOf 14 = .ok (.if_icmp .ne 7, 3) := by decide +kernel
theorem dX10_grandparentOf_17 : decode cX10_grandparentOf 17 = .ok (.iconst (-1), 1) := by decide +kernel
theorem dX10_grandparentOf_18 : decode cX10_grandparentOf 18 = .ok (.goto 14, 3) := by decide +kernel
theorem dX10_grandparentOf_21 : decode cX10_grandparentOf 21 = .ok (.aload_n 0, 1) := by decide +kernel
theorem dX10_grandparentOf_22 : decode cX10_grandparentOf 22 = .ok (.getfield 9, 3) := by decide +kernel
theorem dX10_grandparentOf_25 : decode cX10_grandparentOf 25 = .ok (.iload_n 2, 1) := by decide +kernel
theorem dX10_grandparentOf_26 : decode cX10_grandparentOf 26 = .ok (.invokevirtual 38, 3) := by decide +kernel
theorem dX10_grandparentOf_29 : decode cX10_grandparentOf 29 = .ok (.getfield 42, 3) := by decide +kernel
theorem dX10_grandparentOf_32 : decode cX10_grandparentOf 32 = .ok (.ireturn, 1) := by decide +kernel
theorem dX10_restingChoices_0 : decode cX10_restingChoices 0 = .ok (.iconst 0, 1) := by decide +kernel
theorem dX10_restingChoices_1 : decode cX10_restingChoices 1 = .ok (.istore 4, 2) := by decide +kernel
theorem dX10_restingChoices_3 : decode cX10_restingChoices 3 = .ok (.iconst 0, 1) := by decide +kernel
theorem dX10_restingChoices_4 : decode cX10_restingChoices 4 = .ok (.istore 5, 2) := by decide +kernel
theorem dX10_restingChoices_6 : decode cX10_restingChoices 6 = .ok (.iload 5, 2) := by decide +kernel
theorem dX10_restingChoices_8 : decode cX10_restingChoices 8 = .ok (.iconst 2, 1) := by decide +kernel
theorem dX10_restingChoices_9 : decode cX10_restingChoices 9 = .ok (.if_icmp .ge 82, 3) := by decide +kernel
theorem dX10_restingChoices_12 : decode cX10_restingChoices 12 = .ok (.iconst 0, 1) := by decide +kernel
theorem dX10_restingChoices_13 : decode cX10_restingChoices 13 = .ok (.istore 6, 2) := by decide +kernel
theorem dX10_restingChoices_15 : decode cX10_restingChoices 15 = .ok (.iload 6, 2) := by decide +kernel
theorem dX10_restingChoices_17 : decode cX10_restingChoices 17 = .ok (.iconst 2, 1) := by decide +kernel
theorem dX10_restingChoices_18 : decode cX10_restingChoices 18 = .ok (.if_icmp .ge 67, 3) := by decide +kernel
theorem dX10_restingChoices_21 : decode cX10_restingChoices 21 = .ok (.iconst 1, 1) := by decide +kernel
theorem dX10_restingChoices_22 : decode cX10_restingChoices 22 = .ok (.iload 5, 2) := by decide +kernel
theorem dX10_restingChoices_24 : decode cX10_restingChoices 24 = .ok (.isub, 1) := by decide +kernel
theorem dX10_restingChoices_25 : decode cX10_restingChoices 25 = .ok (.iload 6, 2) := by decide +kernel
theorem dX10_restingChoices_27 : decode cX10_restingChoices 27 = .ok (.iload_n 1, 1) := by decide +kernel
theorem dX10_restingChoices_28 : decode cX10_restingChoices 28 = .ok (.invokestatic 63, 3) := by decide +kernel
theorem dX10_restingChoices_31 : decode cX10_restingChoices 31 = .ok (.iload 5, 2) := by decide +kernel
theorem dX10_restingChoices_33 : decode cX10_restingChoices 33 = .ok (.iload 6, 2) := by decide +kernel
theorem dX10_restingChoices_35 : decode cX10_restingChoices 35 = .ok (.iload_n 1, 1) := by decide +kernel
theorem dX10_restingChoices_36 : decode cX10_restingChoices 36 = .ok (.invokestatic 63, 3) := by decide +kernel
theorem dX10_restingChoices_39 : decode cX10_restingChoices 39 = .ok (.if_icmp .gt 40, 3) := by decide +kernel
theorem dX10_restingChoices_42 : decode cX10_restingChoices 42 = .ok (.iload 5, 2) := by decide +kernel
theorem dX10_restingChoices_44 : decode cX10_restingChoices 44 = .ok (.iconst 1, 1) := by decide +kernel
theorem dX10_restingChoices_45 : decode cX10_restingChoices 45 = .ok (.iload 6, 2) := by decide +kernel
theorem dX10_restingChoices_47 : decode cX10_restingChoices 47 = .ok (.isub, 1) := by decide +kernel
theorem dX10_restingChoices_48 : decode cX10_restingChoices 48 = .ok (.iload_n 2, 1) := by decide +kernel
theorem dX10_restingChoices_49 : decode cX10_restingChoices 49 = .ok (.iload_n 3, 1) := by decide +kernel
theorem dX10_restingChoices_50 : decode cX10_restingChoices 50 = .ok (.invokestatic 67, 3) := by decide +kernel
theorem dX10_restingChoices_53 : decode cX10_restingChoices 53 = .ok (.iload 5, 2) := by decide +kernel
theorem dX10_restingChoices_55 : decode cX10_restingChoices 55 = .ok (.iload 6, 2) := by decide +kernel
theorem dX10_restingChoices_57 : decode cX10_restingChoices 57 = .ok (.iload_n 2, 1) := by decide +kernel
theorem dX10_restingChoices_58 : decode cX10_restingChoices 58 = .ok (.iload_n 3, 1) := by decide +kernel
theorem dX10_restingChoices_59 : decode cX10_restingChoices 59 = .ok (.invokestatic 67, 3) := by decide +kernel
theorem dX10_restingChoices_62 : decode cX10_restingChoices 62 = .ok (.if_icmp .gt 17, 3) := by decide +kernel
theorem dX10_restingChoices_65 : decode cX10_restingChoices 65 = .ok (.iload 4, 2) := by decide +kernel
theorem dX10_restingChoices_67 : decode cX10_restingChoices 67 = .ok (.iconst 1, 1) := by decide +kernel
theorem dX10_restingChoices_68 : decode cX10_restingChoices 68 = .ok (.iconst 2, 1) := by decide +kernel
theorem dX10_restingChoices_69 : decode cX10_restingChoices 69 = .ok (.iload 5, 2) := by decide +kernel
theorem dX10_restingChoices_71 : decode cX10_restingChoices 71 = .ok (.imul, 1) := by decide +kernel
theorem dX10_restingChoices_72 : decode cX10_restingChoices 72 = .ok (.iload 6, 2) := by decide +kernel
theorem dX10_restingChoices_74 : decode cX10_restingChoices 74 = .ok (.iadd, 1) := by decide +kernel
theorem dX10_restingChoices_75 : decode cX10_restingChoices 75 = .ok (.ishl, 1) := by decide +kernel
theorem dX10_restingChoices_76 : decode cX10_restingChoices 76 = .ok (.ior, 1) := by decide +kernel
theorem dX10_restingChoices_77 : decode cX10_restingChoices 77 = .ok (.istore 4, 2) := by decide +kernel
theorem dX10_restingChoices_79 : decode cX10_restingChoices 79 = .ok (.iinc 6 1, 3) := by decide +kernel
theorem dX10_restingChoices_82 : decode cX10_restingChoices 82 = .ok (.goto (-67), 3) := by decide +kernel
theorem dX10_restingChoices_85 : decode cX10_restingChoices 85 = .ok (.iinc 5 1, 3) := by decide +kernel
theorem dX10_restingChoices_88 : decode cX10_restingChoices 88 = .ok (.goto (-82), 3) := by decide +kernel
theorem dX10_restingChoices_91 : decode cX10_restingChoices 91 = .ok (.iload 4, 2) := by decide +kernel
theorem dX10_restingChoices_93 : decode cX10_restingChoices 93 = .ok (.ireturn, 1) := by decide +kernel
theorem dX10_gainOfOne_0 : decode cX10_gainOfOne 0 = .ok (.iload_n 1, 1) := by decide +kernel
theorem dX10_gainOfOne_1 : decode cX10_gainOfOne 1 = .ok (.iconst 1, 1) := by decide +kernel
theorem dX10_gainOfOne_2 : decode cX10_gainOfOne 2 = .ok (.if_icmp .ne 5, 3) := by decide +kernel
theorem dX10_gainOfOne_5 : decode cX10_gainOfOne 5 = .ok (.iload_n 0, 1) := by decide +kernel
theorem dX10_gainOfOne_6 : decode cX10_gainOfOne 6 = .ok (.ireturn, 1) := by decide +kernel
theorem dX10_gainOfOne_7 : decode cX10_gainOfOne 7 = .ok (.iload_n 0, 1) := by decide +kernel
theorem dX10_gainOfOne_8 : decode cX10_gainOfOne 8 = .ok (.ifCond .ne 7, 3) := by decide +kernel
theorem dX10_gainOfOne_11 : decode cX10_gainOfOne 11 = .ok (.iload_n 2, 1) := by decide +kernel
theorem dX10_gainOfOne_12 : decode cX10_gainOfOne 12 = .ok (.goto 4, 3) := by decide +kernel
theorem dX10_gainOfOne_15 : decode cX10_gainOfOne 15 = .ok (.iconst (-1), 1) := by decide +kernel
theorem dX10_gainOfOne_16 : decode cX10_gainOfOne 16 = .ok (.ireturn, 1) := by decide +kernel
theorem dX10_gainOfOther_0 : decode cX10_gainOfOther 0 = .ok (.iload_n 1, 1) := by decide +kernel
theorem dX10_gainOfOther_1 : decode cX10_gainOfOther 1 = .ok (.iconst 1, 1) := by decide +kernel
theorem dX10_gainOfOther_2 : decode cX10_gainOfOther 2 = .ok (.if_icmp .ne 5, 3) := by decide +kernel
theorem dX10_gainOfOther_5 : decode cX10_gainOfOther 5 = .ok (.iconst 0, 1) := by decide +kernel
theorem dX10_gainOfOther_6 : decode cX10_gainOfOther 6 = .ok (.ireturn, 1) := by decide +kernel
theorem dX10_gainOfOther_7 : decode cX10_gainOfOther 7 = .ok (.iload_n 0, 1) := by decide +kernel
theorem dX10_gainOfOther_8 : decode cX10_gainOfOther 8 = .ok (.ifCond .ne 8, 3) := by decide +kernel
theorem dX10_gainOfOther_11 : decode cX10_gainOfOther 11 = .ok (.iload_n 2, 1) := by decide +kernel
theorem dX10_gainOfOther_12 : decode cX10_gainOfOther 12 = .ok (.ineg, 1) := by decide +kernel
theorem dX10_gainOfOther_13 : decode cX10_gainOfOther 13 = .ok (.goto 4, 3) := by decide +kernel
theorem dX10_gainOfOther_16 : decode cX10_gainOfOther 16 = .ok (.iload_n 3, 1) := by decide +kernel
theorem dX10_gainOfOther_17 : decode cX10_gainOfOther 17 = .ok (.ireturn, 1) := by decide +kernel
theorem dX10_chanceOfNo_0 : decode cX10_chanceOfNo 0 = .ok (.aload_n 0, 1) := by decide +kernel
theorem dX10_chanceOfNo_1 : decode cX10_chanceOfNo 1 = .ok (.getfield 9, 3) := by decide +kernel
theorem dX10_chanceOfNo_4 : decode cX10_chanceOfNo 4 = .ok (.iload_n 1, 1) := by decide +kernel
theorem dX10_chanceOfNo_5 : decode cX10_chanceOfNo 5 = .ok (.invokevirtual 38, 3) := by decide +kernel
theorem dX10_chanceOfNo_8 : decode cX10_chanceOfNo 8 = .ok (.getfield 71, 3) := by decide +kernel
theorem dX10_chanceOfNo_11 : decode cX10_chanceOfNo 11 = .ok (.invokestatic 74, 3) := by decide +kernel
theorem dX10_chanceOfNo_14 : decode cX10_chanceOfNo 14 = .ok (.istore 4, 2) := by decide +kernel
theorem dX10_chanceOfNo_16 : decode cX10_chanceOfNo 16 = .ok (.iload 4, 2) := by decide +kernel
theorem dX10_chanceOfNo_18 : decode cX10_chanceOfNo 18 = .ok (.ifCond .ne 5, 3) := by decide +kernel
theorem dX10_chanceOfNo_21 : decode cX10_chanceOfNo 21 = .ok (.iconst 0, 1) := by decide +kernel
theorem dX10_chanceOfNo_22 : decode cX10_chanceOfNo 22 = .ok (.ireturn, 1) := by decide +kernel
theorem dX10_chanceOfNo_23 : decode cX10_chanceOfNo 23 = .ok (.lconst 0, 1) := by decide +kernel
theorem dX10_chanceOfNo_24 : decode cX10_chanceOfNo 24 = .ok (.lstore 5, 2) := by decide +kernel
theorem dX10_chanceOfNo_26 : decode cX10_chanceOfNo 26 = .ok (.iconst 0, 1) := by decide +kernel
theorem dX10_chanceOfNo_27 : decode cX10_chanceOfNo 27 = .ok (.istore 7, 2) := by decide +kernel
theorem dX10_chanceOfNo_29 : decode cX10_chanceOfNo 29 = .ok (.iload 7, 2) := by decide +kernel
theorem dX10_chanceOfNo_31 : decode cX10_chanceOfNo 31 = .ok (.aload_n 0, 1) := by decide +kernel
theorem dX10_chanceOfNo_32 : decode cX10_chanceOfNo 32 = .ok (.getfield 9, 3) := by decide +kernel
theorem dX10_chanceOfNo_35 : decode cX10_chanceOfNo 35 = .ok (.getfield 15, 3) := by decide +kernel
theorem dX10_chanceOfNo_38 : decode cX10_chanceOfNo 38 = .ok (.if_icmp .ge 44, 3) := by decide +kernel
theorem dX10_chanceOfNo_41 : decode cX10_chanceOfNo 41 = .ok (.lload 5, 2) := by decide +kernel
theorem dX10_chanceOfNo_43 : decode cX10_chanceOfNo 43 = .ok (.aload_n 0, 1) := by decide +kernel
theorem dX10_chanceOfNo_44 : decode cX10_chanceOfNo 44 = .ok (.getfield 9, 3) := by decide +kernel
theorem dX10_chanceOfNo_47 : decode cX10_chanceOfNo 47 = .ok (.iload 7, 2) := by decide +kernel
theorem dX10_chanceOfNo_49 : decode cX10_chanceOfNo 49 = .ok (.iload_n 1, 1) := by decide +kernel
theorem dX10_chanceOfNo_50 : decode cX10_chanceOfNo 50 = .ok (.invokevirtual 30, 3) := by decide +kernel
theorem dX10_chanceOfNo_53 : decode cX10_chanceOfNo 53 = .ok (.ifCond .eq 19, 3) := by decide +kernel
theorem dX10_chanceOfNo_56 : decode cX10_chanceOfNo 56 = .ok (.aload_n 0, 1) := by decide +kernel
theorem dX10_chanceOfNo_57 : decode cX10_chanceOfNo 57 = .ok (.getfield 9, 3) := by decide +kernel
theorem dX10_chanceOfNo_60 : decode cX10_chanceOfNo 60 = .ok (.iload 7, 2) := by decide +kernel
theorem dX10_chanceOfNo_62 : decode cX10_chanceOfNo 62 = .ok (.invokevirtual 38, 3) := by decide +kernel
theorem dX10_chanceOfNo_65 : decode cX10_chanceOfNo 65 = .ok (.getfield 79, 3) := by decide +kernel
theorem dX10_chanceOfNo_68 : decode cX10_chanceOfNo 68 = .ok (.i2l, 1) := by decide +kernel
theorem dX10_chanceOfNo_69 : decode cX10_chanceOfNo 69 = .ok (.goto 4, 3) := by decide +kernel
theorem dX10_chanceOfNo_72 : decode cX10_chanceOfNo 72 = .ok (.lconst 0, 1) := by decide +kernel
theorem dX10_chanceOfNo_73 : decode cX10_chanceOfNo 73 = .ok (.ladd, 1) := by decide +kernel
theorem dX10_chanceOfNo_74 : decode cX10_chanceOfNo 74 = .ok (.lstore 5, 2) := by decide +kernel
theorem dX10_chanceOfNo_76 : decode cX10_chanceOfNo 76 = .ok (.iinc 7 1, 3) := by decide +kernel
theorem dX10_chanceOfNo_79 : decode cX10_chanceOfNo 79 = .ok (.goto (-50), 3) := by decide +kernel
theorem dX10_chanceOfNo_82 : decode cX10_chanceOfNo 82 = .ok (.ldc2_w 82, 3) := by decide +kernel
theorem dX10_chanceOfNo_85 : decode cX10_chanceOfNo 85 = .ok (.iload 4, 2) := by decide +kernel
theorem dX10_chanceOfNo_87 : decode cX10_chanceOfNo 87 = .ok (.i2l, 1) := by decide +kernel
theorem dX10_chanceOfNo_88 : decode cX10_chanceOfNo 88 = .ok (.lmul, 1) := by decide +kernel
theorem dX10_chanceOfNo_89 : decode cX10_chanceOfNo 89 = .ok (.lstore 7, 2) := by decide +kernel
theorem dX10_chanceOfNo_91 : decode cX10_chanceOfNo 91 = .ok (.aload_n 0, 1) := by decide +kernel
theorem dX10_chanceOfNo_92 : decode cX10_chanceOfNo 92 = .ok (.getfield 9, 3) := by decide +kernel
theorem dX10_chanceOfNo_95 : decode cX10_chanceOfNo 95 = .ok (.iload_n 1, 1) := by decide +kernel
theorem dX10_chanceOfNo_96 : decode cX10_chanceOfNo 96 = .ok (.invokevirtual 38, 3) := by decide +kernel
theorem dX10_chanceOfNo_99 : decode cX10_chanceOfNo 99 = .ok (.getfield 84, 3) := by decide +kernel
theorem dX10_chanceOfNo_102 : decode cX10_chanceOfNo 102 = .ok (.i2l, 1) := by decide +kernel
theorem dX10_chanceOfNo_103 : decode cX10_chanceOfNo 103 = .ok (.lload 5, 2) := by decide +kernel
theorem dX10_chanceOfNo_105 : decode cX10_chanceOfNo 105 = .ok (.lmul, 1) := by decide +kernel
theorem dX10_chanceOfNo_106 : decode cX10_chanceOfNo 106 = .ok (.lstore 9, 2) := by decide +kernel
theorem dX10_chanceOfNo_108 : decode cX10_chanceOfNo 108 = .ok (.lconst 0, 1) := by decide +kernel
theorem dX10_chanceOfNo_109 : decode cX10_chanceOfNo 109 = .ok (.lstore 11, 2) := by decide +kernel
theorem dX10_chanceOfNo_111 : decode cX10_chanceOfNo 111 = .ok (.lconst 1, 1) := by decide +kernel
theorem dX10_chanceOfNo_112 : decode cX10_chanceOfNo 112 = .ok (.lstore 13, 2) := by decide +kernel
theorem dX10_chanceOfNo_114 : decode cX10_chanceOfNo 114 = .ok (.iconst 0, 1) := by decide +kernel
theorem dX10_chanceOfNo_115 : decode cX10_chanceOfNo 115 = .ok (.istore 15, 2) := by decide +kernel
theorem dX10_chanceOfNo_117 : decode cX10_chanceOfNo 117 = .ok (.iload 15, 2) := by decide +kernel
theorem dX10_chanceOfNo_119 : decode cX10_chanceOfNo 119 = .ok (.iload_n 2, 1) := by decide +kernel
theorem dX10_chanceOfNo_120 : decode cX10_chanceOfNo 120 = .ok (.if_icmp .ge 16, 3) := by decide +kernel
theorem dX10_chanceOfNo_123 : decode cX10_chanceOfNo 123 = .ok (.lload 13, 2) := by decide +kernel
theorem dX10_chanceOfNo_125 : decode cX10_chanceOfNo 125 = .ok (.lload 7, 2) := by decide +kernel
theorem dX10_chanceOfNo_127 : decode cX10_chanceOfNo 127 = .ok (.lmul, 1) := by decide +kernel
theorem dX10_chanceOfNo_128 : decode cX10_chanceOfNo 128 = .ok (.lstore 13, 2) := by decide +kernel
theorem dX10_chanceOfNo_130 : decode cX10_chanceOfNo 130 = .ok (.iinc 15 1, 3) := by decide +kernel
theorem dX10_chanceOfNo_133 : decode cX10_chanceOfNo 133 = .ok (.goto (-16), 3) := by decide +kernel
theorem dX10_chanceOfNo_136 : decode cX10_chanceOfNo 136 = .ok (.iload_n 3, 1) := by decide +kernel
theorem dX10_chanceOfNo_137 : decode cX10_chanceOfNo 137 = .ok (.istore 15, 2) := by decide +kernel
theorem dX10_chanceOfNo_139 : decode cX10_chanceOfNo 139 = .ok (.iload 15, 2) := by decide +kernel
theorem dX10_chanceOfNo_141 : decode cX10_chanceOfNo 141 = .ok (.iload_n 2, 1) := by decide +kernel
theorem dX10_chanceOfNo_142 : decode cX10_chanceOfNo 142 = .ok (.if_icmp .gt 41, 3) := by decide +kernel
theorem dX10_chanceOfNo_145 : decode cX10_chanceOfNo 145 = .ok (.lload 11, 2) := by decide +kernel
theorem dX10_chanceOfNo_147 : decode cX10_chanceOfNo 147 = .ok (.iload_n 2, 1) := by decide +kernel
theorem dX10_chanceOfNo_148 : decode cX10_chanceOfNo 148 = .ok (.iload 15, 2) := by decide +kernel
theorem dX10_chanceOfNo_150 : decode cX10_chanceOfNo 150 = .ok (.invokestatic 87, 3) := by decide +kernel
theorem dX10_chanceOfNo_153 : decode cX10_chanceOfNo 153 = .ok (.lload 9, 2) := by decide +kernel
theorem dX10_chanceOfNo_155 : decode cX10_chanceOfNo 155 = .ok (.iload 15, 2) := by decide +kernel
theorem dX10_chanceOfNo_157 : decode cX10_chanceOfNo 157 = .ok (.invokestatic 91, 3) := by decide +kernel
theorem dX10_chanceOfNo_160 : decode cX10_chanceOfNo 160 = .ok (.lmul, 1) := by decide +kernel
theorem dX10_chanceOfNo_161 : decode cX10_chanceOfNo 161 = .ok (.lload 7, 2) := by decide +kernel
theorem dX10_chanceOfNo_163 : decode cX10_chanceOfNo 163 = .ok (.lload 9, 2) := by decide +kernel
theorem dX10_chanceOfNo_165 : decode cX10_chanceOfNo 165 = .ok (.lsub, 1) := by decide +kernel
theorem dX10_chanceOfNo_166 : decode cX10_chanceOfNo 166 = .ok (.iload_n 2, 1) := by decide +kernel
theorem dX10_chanceOfNo_167 : decode cX10_chanceOfNo 167 = .ok (.iload 15, 2) := by decide +kernel
theorem dX10_chanceOfNo_169 : decode cX10_chanceOfNo 169 = .ok (.isub, 1) := by decide +kernel
theorem dX10_chanceOfNo_170 : decode cX10_chanceOfNo 170 = .ok (.invokestatic 91, 3) := by decide +kernel
theorem dX10_chanceOfNo_173 : decode cX10_chanceOfNo 173 = .ok (.lmul, 1) := by decide +kernel
theorem dX10_chanceOfNo_174 : decode cX10_chanceOfNo 174 = .ok (.ladd, 1) := by decide +kernel
theorem dX10_chanceOfNo_175 : decode cX10_chanceOfNo 175 = .ok (.lstore 11, 2) := by decide +kernel
theorem dX10_chanceOfNo_177 : decode cX10_chanceOfNo 177 = .ok (.iinc 15 1, 3) := by decide +kernel
theorem dX10_chanceOfNo_180 : decode cX10_chanceOfNo 180 = .ok (.goto (-41), 3) := by decide +kernel
theorem dX10_chanceOfNo_183 : decode cX10_chanceOfNo 183 = .ok (.lload 13, 2) := by decide +kernel
theorem dX10_chanceOfNo_185 : decode cX10_chanceOfNo 185 = .ok (.lconst 0, 1) := by decide +kernel
theorem dX10_chanceOfNo_186 : decode cX10_chanceOfNo 186 = .ok (.lcmp, 1) := by decide +kernel
theorem dX10_chanceOfNo_187 : decode cX10_chanceOfNo 187 = .ok (.ifCond .le 16, 3) := by decide +kernel
theorem dX10_chanceOfNo_190 : decode cX10_chanceOfNo 190 = .ok (.ldc2_w 82, 3) := by decide +kernel
theorem dX10_chanceOfNo_193 : decode cX10_chanceOfNo 193 = .ok (.lload 11, 2) := by decide +kernel
theorem dX10_chanceOfNo_195 : decode cX10_chanceOfNo 195 = .ok (.lmul, 1) := by decide +kernel
theorem dX10_chanceOfNo_196 : decode cX10_chanceOfNo 196 = .ok (.lload 13, 2) := by decide +kernel
theorem dX10_chanceOfNo_198 : decode cX10_chanceOfNo 198 = .ok (.ldiv, 1) := by decide +kernel
theorem dX10_chanceOfNo_199 : decode cX10_chanceOfNo 199 = .ok (.l2i, 1) := by decide +kernel
theorem dX10_chanceOfNo_200 : decode cX10_chanceOfNo 200 = .ok (.goto 4, 3) := by decide +kernel
theorem dX10_chanceOfNo_203 : decode cX10_chanceOfNo 203 = .ok (.iconst 0, 1) := by decide +kernel
theorem dX10_chanceOfNo_204 : decode cX10_chanceOfNo 204 = .ok (.ireturn, 1) := by decide +kernel
theorem dX10_ways_0 : decode cX10_ways 0 = .ok (.iload_n 1, 1) := by decide +kernel
theorem dX10_ways_1 : decode cX10_ways 1 = .ok (.ifCond .eq 8, 3) := by decide +kernel
theorem dX10_ways_4 : decode cX10_ways 4 = .ok (.iload_n 1, 1) := by decide +kernel
theorem dX10_ways_5 : decode cX10_ways 5 = .ok (.iload_n 0, 1) := by decide +kernel
theorem dX10_ways_6 : decode cX10_ways 6 = .ok (.if_icmp .ne 7, 3) := by decide +kernel
theorem dX10_ways_9 : decode cX10_ways 9 = .ok (.lconst 1, 1) := by decide +kernel
theorem dX10_ways_10 : decode cX10_ways 10 = .ok (.goto 5, 3) := by decide +kernel
theorem dX10_ways_13 : decode cX10_ways 13 = .ok (.iload_n 0, 1) := by decide +kernel
theorem dX10_ways_14 : decode cX10_ways 14 = .ok (.i2l, 1) := by decide +kernel
theorem dX10_ways_15 : decode cX10_ways 15 = .ok (.lreturn, 1) := by decide +kernel
theorem dX10_power_0 : decode cX10_power 0 = .ok (.lconst 1, 1) := by decide +kernel
theorem dX10_power_1 : decode cX10_power 1 = .ok (.lstore_n 3, 1) := by decide +kernel
theorem dX10_power_2 : decode cX10_power 2 = .ok (.iconst 0, 1) := by decide +kernel
theorem dX10_power_3 : decode cX10_power 3 = .ok (.istore 5, 2) := by decide +kernel
theorem dX10_power_5 : decode cX10_power 5 = .ok (.iload 5, 2) := by decide +kernel
theorem dX10_power_7 : decode cX10_power 7 = .ok (.iload_n 2, 1) := by decide +kernel
theorem dX10_power_8 : decode cX10_power 8 = .ok (.if_icmp .ge 13, 3) := by decide +kernel
theorem dX10_power_11 : decode cX10_power 11 = .ok (.lload_n 3, 1) := by decide +kernel
theorem dX10_power_12 : decode cX10_power 12 = .ok (.lload_n 0, 1) := by decide +kernel
theorem dX10_power_13 : decode cX10_power 13 = .ok (.lmul, 1) := by decide +kernel
theorem dX10_power_14 : decode cX10_power 14 = .ok (.lstore_n 3, 1) := by decide +kernel
theorem dX10_power_15 : decode cX10_power 15 = .ok (.iinc 5 1, 3) := by decide +kernel
theorem dX10_power_18 : decode cX10_power 18 = .ok (.goto (-13), 3) := by decide +kernel
theorem dX10_power_21 : decode cX10_power 21 = .ok (.lload_n 3, 1) := by decide +kernel
theorem dX10_power_22 : decode cX10_power 22 = .ok (.lreturn, 1) := by decide +kernel
theorem dX11_init_0 : decode cX11_init 0 = .ok (.aload_n 0, 1) := by decide +kernel
theorem dX11_init_1 : decode cX11_init 1 = .ok (.invokespecial 1, 3) := by decide +kernel
theorem dX11_init_4 : decode cX11_init 4 = .ok (.aload_n 0, 1) := by decide +kernel
theorem dX11_init_5 : decode cX11_init 5 = .ok (.sipush 400, 3) := by decide +kernel
theorem dX11_init_8 : decode cX11_init 8 = .ok (.newarray .int, 2) := by decide +kernel
theorem dX11_init_10 : decode cX11_init 10 = .ok (.putfield 9, 3) := by decide +kernel
theorem dX11_init_13 : decode cX11_init 13 = .ok (.aload_n 0, 1) := by decide +kernel
theorem dX11_init_14 : decode cX11_init 14 = .ok (.iconst 0, 1) := by decide +kernel
theorem dX11_init_15 : decode cX11_init 15 = .ok (.putfield 13, 3) := by decide +kernel
theorem dX11_init_18 : decode cX11_init 18 = .ok (.aload_n 0, 1) := by decide +kernel
theorem dX11_init_19 : decode cX11_init 19 = .ok (.iconst (-1), 1) := by decide +kernel
theorem dX11_init_20 : decode cX11_init 20 = .ok (.putfield 17, 3) := by decide +kernel
theorem dX11_init_23 : decode cX11_init 23 = .ok (.aload_n 0, 1) := by decide +kernel
theorem dX11_init_24 : decode cX11_init 24 = .ok (.new 20, 3) := by decide +kernel
theorem dX11_init_27 : decode cX11_init 27 = .ok (.dup, 1) := by decide +kernel
theorem dX11_init_28 : decode cX11_init 28 = .ok (.invokespecial 22, 3) := by decide +kernel
theorem dX11_init_31 : decode cX11_init 31 = .ok (.putfield 23, 3) := by decide +kernel
theorem dX11_init_34 : decode cX11_init 34 = .ok (.aload_n 0, 1) := by decide +kernel
theorem dX11_init_35 : decode cX11_init 35 = .ok (.new 20, 3) := by decide +kernel
theorem dX11_init_38 : decode cX11_init 38 = .ok (.dup, 1) := by decide +kernel
theorem dX11_init_39 : decode cX11_init 39 = .ok (.invokespecial 22, 3) := by decide +kernel
theorem dX11_init_42 : decode cX11_init 42 = .ok (.putfield 27, 3) := by decide +kernel
theorem dX11_init_45 : decode cX11_init 45 = .ok (.aload_n 0, 1) := by decide +kernel
theorem dX11_init_46 : decode cX11_init 46 = .ok (.new 30, 3) := by decide +kernel
theorem dX11_init_49 : decode cX11_init 49 = .ok (.dup, 1) := by decide +kernel
theorem dX11_init_50 : decode cX11_init 50 = .ok (.invokespecial 32, 3) := by decide +kernel
theorem dX11_init_53 : decode cX11_init 53 = .ok (.putfield 33, 3) := by decide +kernel
theorem dX11_init_56 : decode cX11_init 56 = .ok (.aload_n 0, 1) := by decide +kernel
theorem dX11_init_57 : decode cX11_init 57 = .ok (.new 30, 3) := by decide +kernel
theorem dX11_init_60 : decode cX11_init 60 = .ok (.dup, 1) := by decide +kernel
theorem dX11_init_61 : decode cX11_init 61 = .ok (.invokespecial 32, 3) := by decide +kernel
theorem dX11_init_64 : decode cX11_init 64 = .ok (.putfield 37, 3) := by decide +kernel
theorem dX11_init_67 : decode cX11_init 67 = .ok (.aload_n 0, 1) := by decide +kernel
theorem dX11_init_68 : decode cX11_init 68 = .ok (.new 40, 3) := by decide +kernel
theorem dX11_init_71 : decode cX11_init 71 = .ok (.dup, 1) := by decide +kernel
theorem dX11_init_72 : decode cX11_init 72 = .ok (.aload_n 0, 1) := by decide +kernel
theorem dX11_init_73 : decode cX11_init 73 = .ok (.getfield 27, 3) := by decide +kernel
theorem dX11_init_76 : decode cX11_init 76 = .ok (.invokespecial 42, 3) := by decide +kernel
theorem dX11_init_79 : decode cX11_init 79 = .ok (.putfield 45, 3) := by decide +kernel
theorem dX11_init_82 : decode cX11_init 82 = .ok (.aload_n 0, 1) := by decide +kernel
theorem dX11_init_83 : decode cX11_init 83 = .ok (.new 49, 3) := by decide +kernel
theorem dX11_init_86 : decode cX11_init 86 = .ok (.dup, 1) := by decide +kernel
theorem dX11_init_87 : decode cX11_init 87 = .ok (.aload_n 0, 1) := by decide +kernel
theorem dX11_init_88 : decode cX11_init 88 = .ok (.getfield 37, 3) := by decide +kernel
theorem dX11_init_91 : decode cX11_init 91 = .ok (.invokespecial 51, 3) := by decide +kernel
theorem dX11_init_94 : decode cX11_init 94 = .ok (.putfield 54, 3) := by decide +kernel
theorem dX11_init_97 : decode cX11_init 97 = .ok (.aload_n 0, 1) := by decide +kernel
theorem dX11_init_98 : decode cX11_init 98 = .ok (.bipush 12, 2) := by decide +kernel
theorem dX11_init_100 : decode cX11_init 100 = .ok (.anewarray 20, 3) := by decide +kernel
theorem dX11_init_103 : decode cX11_init 103 = .ok (.putfield 58, 3) := by decide +kernel
theorem dX11_init_106 : decode cX11_init 106 = .ok (.aload_n 0, 1) := by decide +kernel
theorem dX11_init_107 : decode cX11_init 107 = .ok (.iconst 0, 1) := by decide +kernel
theorem dX11_init_108 : decode cX11_init 108 = .ok (.putfield 62, 3) := by decide +kernel
theorem dX11_init_111 : decode cX11_init 111 = .ok (.aload_n 0, 1) := by decide +kernel
theorem dX11_init_112 : decode cX11_init 112 = .ok (.new 20, 3) := by decide +kernel
theorem dX11_init_115 : decode cX11_init 115 = .ok (.dup, 1) := by decide +kernel
theorem dX11_init_116 : decode cX11_init 116 = .ok (.invokespecial 22, 3) := by decide +kernel
theorem dX11_init_119 : decode cX11_init 119 = .ok (.putfield 65, 3) := by decide +kernel
theorem dX11_init_122 : decode cX11_init 122 = .ok (.aload_n 0, 1) := by decide +kernel
theorem dX11_init_123 : decode cX11_init 123 = .ok (.new 30, 3) := by decide +kernel
theorem dX11_init_126 : decode cX11_init 126 = .ok (.dup, 1) := by decide +kernel
theorem dX11_init_127 : decode cX11_init 127 = .ok (.invokespecial 32, 3) := by decide +kernel
theorem dX11_init_130 : decode cX11_init 130 = .ok (.putfield 68, 3) := by decide +kernel
theorem dX11_init_133 : decode cX11_init 133 = .ok (.aload_n 0, 1) := by decide +kernel
theorem dX11_init_134 : decode cX11_init 134 = .ok (.iconst 0, 1) := by decide +kernel
theorem dX11_init_135 : decode cX11_init 135 = .ok (.putfield 71, 3) := by decide +kernel
theorem dX11_init_138 : decode cX11_init 138 = .ok (.aload_n 0, 1) := by decide +kernel
theorem dX11_init_139 : decode cX11_init 139 = .ok (.new 75, 3) := by decide +kernel
theorem dX11_init_142 : decode cX11_init 142 = .ok (.dup, 1) := by decide +kernel
theorem dX11_init_143 : decode cX11_init 143 = .ok (.aload_n 0, 1) := by decide +kernel
theorem dX11_init_144 : decode cX11_init 144 = .ok (.getfield 23, 3) := by decide +kernel
theorem dX11_init_147 : decode cX11_init 147 = .ok (.aload_n 0, 1) := by decide +kernel
theorem dX11_init_148 : decode cX11_init 148 = .ok (.getfield 33, 3) := by decide +kernel
theorem dX11_init_151 : decode cX11_init 151 = .ok (.invokespecial 77, 3) := by decide +kernel
theorem dX11_init_154 : decode cX11_init 154 = .ok (.putfield 80, 3) := by decide +kernel
theorem dX11_init_157 : decode cX11_init 157 = .ok (.aload_n 0, 1) := by decide +kernel
theorem dX11_init_158 : decode cX11_init 158 = .ok (.new 84, 3) := by decide +kernel
theorem dX11_init_161 : decode cX11_init 161 = .ok (.dup, 1) := by decide +kernel
theorem dX11_init_162 : decode cX11_init 162 = .ok (.aload_n 0, 1) := by decide +kernel
theorem dX11_init_163 : decode cX11_init 163 = .ok (.getfield 23, 3) := by decide +kernel
theorem dX11_init_166 : decode cX11_init 166 = .ok (.aload_n 0, 1) := by decide +kernel
theorem dX11_init_167 : decode cX11_init 167 = .ok (.getfield 33, 3) := by decide +kernel
theorem dX11_init_170 : decode cX11_init 170 = .ok (.invokespecial 86, 3) := by decide +kernel
theorem dX11_init_173 : decode cX11_init 173 = .ok (.putfield 87, 3) := by decide +kernel
theorem dX11_init_176 : decode cX11_init 176 = .ok (.aload_n 0, 1) := by decide +kernel
theorem dX11_init_177 : decode cX11_init 177 = .ok (.new 91, 3) := by decide +kernel
theorem dX11_init_180 : decode cX11_init 180 = .ok (.dup, 1) := by decide +kernel
theorem dX11_init_181 : decode cX11_init 181 = .ok (.aload_n 0, 1) := by decide +kernel
theorem dX11_init_182 : decode cX11_init 182 = .ok (.getfield 23, 3) := by decide +kernel
theorem dX11_init_185 : decode cX11_init 185 = .ok (.invokespecial 93, 3) := by decide +kernel
theorem dX11_init_188 : decode cX11_init 188 = .ok (.putfield 94, 3) := by decide +kernel
theorem dX11_init_191 : decode cX11_init 191 = .ok (.aload_n 0, 1) := by decide +kernel
theorem dX11_init_192 : decode cX11_init 192 = .ok (.new 98, 3) := by decide +kernel
theorem dX11_init_195 : decode cX11_init 195 = .ok (.dup, 1) := by decide +kernel
theorem dX11_init_196 : decode cX11_init 196 = .ok (.aload_n 0, 1) := by decide +kernel
theorem dX11_init_197 : decode cX11_init 197 = .ok (.getfield 23, 3) := by decide +kernel
theorem dX11_init_200 : decode cX11_init 200 = .ok (.invokespecial 100, 3) := by decide +kernel
theorem dX11_init_203 : decode cX11_init 203 = .ok (.putfield 101, 3) := by decide +kernel
theorem dX11_init_206 : decode cX11_init 206 = .ok (.iconst 0, 1) := by decide +kernel
theorem dX11_init_207 : decode cX11_init 207 = .ok (.istore_n 1, 1) := by decide +kernel
theorem dX11_init_208 : decode cX11_init 208 = .ok (.iload_n 1, 1) := by decide +kernel
theorem dX11_init_209 : decode cX11_init 209 = .ok (.aload_n 0, 1) := by decide +kernel
theorem dX11_init_210 : decode cX11_init 210 = .ok (.getfield 58, 3) := by decide +kernel
theorem dX11_init_213 : decode cX11_init 213 = .ok (.arraylength, 1) := by decide +kernel
theorem dX11_init_214 : decode cX11_init 214 = .ok (.if_icmp .ge 22, 3) := by decide +kernel
theorem dX11_init_217 : decode cX11_init 217 = .ok (.aload_n 0, 1) := by decide +kernel
theorem dX11_init_218 : decode cX11_init 218 = .ok (.getfield 58, 3) := by decide +kernel
theorem dX11_init_221 : decode cX11_init 221 = .ok (.iload_n 1, 1) := by decide +kernel
theorem dX11_init_222 : decode cX11_init 222 = .ok (.new 20, 3) := by decide +kernel
theorem dX11_init_225 : decode cX11_init 225 = .ok (.dup, 1) := by decide +kernel
theorem dX11_init_226 : decode cX11_init 226 = .ok (.invokespecial 22, 3) := by decide +kernel
theorem dX11_init_229 : decode cX11_init 229 = .ok (.aastore, 1) := by decide +kernel
theorem dX11_init_230 : decode cX11_init 230 = .ok (.iinc 1 1, 3) := by decide +kernel
theorem dX11_init_233 : decode cX11_init 233 = .ok (.goto (-25), 3) := by decide +kernel
theorem dX11_init_236 : decode cX11_init 236 = .ok (.return_, 1) := by decide +kernel
theorem dX11_feed_0 : decode cX11_feed 0 = .ok (.aload_n 0, 1) := by decide +kernel
theorem dX11_feed_1 : decode cX11_feed 1 = .ok (.getfield 13, 3) := by decide +kernel
theorem dX11_feed_4 : decode cX11_feed 4 = .ok (.bipush 20, 2) := by decide +kernel
theorem dX11_feed_6 : decode cX11_feed 6 = .ok (.iadd, 1) := by decide +kernel
theorem dX11_feed_7 : decode cX11_feed 7 = .ok (.sipush 400, 3) := by decide +kernel
theorem dX11_feed_10 : decode cX11_feed 10 = .ok (.if_icmp .le 5, 3) := by decide +kernel
theorem dX11_feed_13 : decode cX11_feed 13 = .ok (.iconst (-1), 1) := by decide +kernel
theorem dX11_feed_14 : decode cX11_feed 14 = .ok (.ireturn, 1) := by decide +kernel
theorem dX11_feed_15 : decode cX11_feed 15 = .ok (.aload_n 0, 1) := by decide +kernel
theorem dX11_feed_16 : decode cX11_feed 16 = .ok (.iload_n 1, 1) := by decide +kernel
theorem dX11_feed_17 : decode cX11_feed 17 = .ok (.invokevirtual 105, 3) := by decide +kernel
theorem dX11_feed_20 : decode cX11_feed 20 = .ok (.aload_n 0, 1) := by decide +kernel
theorem dX11_feed_21 : decode cX11_feed 21 = .ok (.iload_n 2, 1) := by decide +kernel
theorem dX11_feed_22 : decode cX11_feed 22 = .ok (.invokevirtual 105, 3) := by decide +kernel
theorem dX11_feed_25 : decode cX11_feed 25 = .ok (.aload_n 0, 1) := by decide +kernel
theorem dX11_feed_26 : decode cX11_feed 26 = .ok (.iload_n 3, 1) := by decide +kernel
theorem dX11_feed_27 : decode cX11_feed 27 = .ok (.invokevirtual 105, 3) := by decide +kernel
theorem dX11_feed_30 : decode cX11_feed 30 = .ok (.aload_n 0, 1) := by decide +kernel
theorem dX11_feed_31 : decode cX11_feed 31 = .ok (.iload 4, 2) := by decide +kernel
theorem dX11_feed_33 : decode cX11_feed 33 = .ok (.invokevirtual 105, 3) := by decide +kernel
theorem dX11_feed_36 : decode cX11_feed 36 = .ok (.aload_n 0, 1) := by decide +kernel
theorem dX11_feed_37 : decode cX11_feed 37 = .ok (.iload 5, 2) := by decide +kernel
theorem dX11_feed_39 : decode cX11_feed 39 = .ok (.invokevirtual 105, 3) := by decide +kernel
theorem dX11_feed_42 : decode cX11_feed 42 = .ok (.aload_n 0, 1) := by decide +kernel
theorem dX11_feed_43 : decode cX11_feed 43 = .ok (.getfield 13, 3) := by decide +kernel
theorem dX11_feed_46 : decode cX11_feed 46 = .ok (.ireturn, 1) := by decide +kernel
theorem dX11_putOnTape_0 : decode cX11_putOnTape 0 = .ok (.bipush 24, 2) := by decide +kernel
theorem dX11_putOnTape_2 : decode cX11_putOnTape 2 = .ok (.istore_n 2, 1) := by decide +kernel
theorem dX11_putOnTape_3 : decode cX11_putOnTape 3 = .ok (.iload_n 2, 1) := by decide +kernel
theorem dX11_putOnTape_4 : decode cX11_putOnTape 4 = .ok (.ifCond .lt 54, 3) := by decide +kernel
theorem dX11_putOnTape_7 : decode cX11_putOnTape 7 = .ok (.aload_n 0, 1) := by decide +kernel
theorem dX11_putOnTape_8 : decode cX11_putOnTape 8 = .ok (.getfield 13, 3) := by decide +kernel
theorem dX11_putOnTape_11 : decode cX11_putOnTape 11 = .ok (.ifCond .lt 41, 3) := by decide +kernel
theorem dX11_putOnTape_14 : decode cX11_putOnTape 14 = .ok (.aload_n 0, 1) := by decide +kernel
theorem dX11_putOnTape_15 : decode cX11_putOnTape 15 = .ok (.getfield 13, 3) := by decide +kernel
theorem dX11_putOnTape_18 : decode cX11_putOnTape 18 = .ok (.aload_n 0, 1) := by decide +kernel
theorem dX11_putOnTape_19 : decode cX11_putOnTape 19 = .ok (.getfield 9, 3) := by decide +kernel
theorem dX11_putOnTape_22 : decode cX11_putOnTape 22 = .ok (.arraylength, 1) := by decide +kernel
theorem dX11_putOnTape_23 : decode cX11_putOnTape 23 = .ok (.if_icmp .ge 29, 3) := by decide +kernel
theorem dX11_putOnTape_26 : decode cX11_putOnTape 26 = .ok (.aload_n 0, 1) := by decide +kernel
theorem dX11_putOnTape_27 : decode cX11_putOnTape 27 = .ok (.getfield 9, 3) := by decide +kernel
theorem dX11_putOnTape_30 : decode cX11_putOnTape 30 = .ok (.aload_n 0, 1) := by decide +kernel
theorem dX11_putOnTape_31 : decode cX11_putOnTape 31 = .ok (.getfield 13, 3) := by decide +kernel
theorem dX11_putOnTape_34 : decode cX11_putOnTape 34 = .ok (.iload_n 1, 1) := by decide +kernel
theorem dX11_putOnTape_35 : decode cX11_putOnTape 35 = .ok (.iload_n 2, 1) := by decide +kernel
theorem dX11_putOnTape_36 : decode cX11_putOnTape 36 = .ok (.iushr, 1) := by decide +kernel
theorem dX11_putOnTape_37 : decode cX11_putOnTape 37 = .ok (.sipush 255, 3) := by decide +kernel
theorem dX11_putOnTape_40 : decode cX11_putOnTape 40 = .ok (.iand, 1) := by decide +kernel
theorem dX11_putOnTape_41 : decode cX11_putOnTape 41 = .ok (.iastore, 1) := by decide +kernel
theorem dX11_putOnTape_42 : decode cX11_putOnTape 42 = .ok (.aload_n 0, 1) := by decide +kernel
theorem dX11_putOnTape_43 : decode cX11_putOnTape 43 = .ok (.dup, 1) := by decide +kernel
theorem dX11_putOnTape_44 : decode cX11_putOnTape 44 = .ok (.getfield 13, 3) := by decide +kernel
theorem dX11_putOnTape_47 : decode cX11_putOnTape 47 = .ok (.iconst 1, 1) := by decide +kernel
theorem dX11_putOnTape_48 : decode cX11_putOnTape 48 = .ok (.iadd, 1) := by decide +kernel
theorem dX11_putOnTape_49 : decode cX11_putOnTape 49 = .ok (.putfield 13, 3) := by decide +kernel
theorem dX11_putOnTape_52 : decode cX11_putOnTape 52 = .ok (.iinc 2 (-8), 3) := by decide +kernel
theorem dX11_putOnTape_55 : decode cX11_putOnTape 55 = .ok (.goto (-52), 3) := by decide +kernel
theorem dX11_putOnTape_58 : decode cX11_putOnTape 58 = .ok (.return_, 1) := by decide +kernel
theorem dX11_usedTape_0 : decode cX11_usedTape 0 = .ok (.aload_n 0, 1) := by decide +kernel
theorem dX11_usedTape_1 : decode cX11_usedTape 1 = .ok (.getfield 13, 3) := by decide +kernel
theorem dX11_usedTape_4 : decode cX11_usedTape 4 = .ok (.istore_n 1, 1) := by decide +kernel
theorem dX11_usedTape_5 : decode cX11_usedTape 5 = .ok (.aload_n 0, 1) := by decide +kernel
theorem dX11_usedTape_6 : decode cX11_usedTape 6 = .ok (.iconst 0, 1) := by decide +kernel
theorem dX11_usedTape_7 : decode cX11_usedTape 7 = .ok (.putfield 13, 3) := by decide +kernel
theorem dX11_usedTape_10 : decode cX11_usedTape 10 = .ok (.iload_n 1, 1) := by decide +kernel
theorem dX11_usedTape_11 : decode cX11_usedTape 11 = .ok (.ireturn, 1) := by decide +kernel
theorem dX11_end_0 : decode cX11_end 0 = .ok (.iload_n 1, 1) := by decide +kernel
theorem dX11_end_1 : decode cX11_end 1 = .ok (.ifCond .lt 11, 3) := by decide +kernel
theorem dX11_end_4 : decode cX11_end 4 = .ok (.iload_n 1, 1) := by decide +kernel
theorem dX11_end_5 : decode cX11_end 5 = .ok (.aload_n 0, 1) := by decide +kernel
theorem dX11_end_6 : decode cX11_end 6 = .ok (.getfield 13, 3) := by decide +kernel
theorem dX11_end_9 : decode cX11_end 9 = .ok (.if_icmp .le 5, 3) := by decide +kernel
theorem dX11_end_12 : decode cX11_end 12 = .ok (.iconst 0, 1) := by decide +kernel
theorem dX11_end_13 : decode cX11_end 13 = .ok (.ireturn, 1) := by decide +kernel
theorem dX11_end_14 : decode cX11_end 14 = .ok (.aload_n 0, 1) := by decide +kernel
theorem dX11_end_15 : decode cX11_end 15 = .ok (.iload_n 1, 1) := by decide +kernel
theorem dX11_end_16 : decode cX11_end 16 = .ok (.putfield 13, 3) := by decide +kernel
theorem dX11_end_19 : decode cX11_end 19 = .ok (.iconst 1, 1) := by decide +kernel
theorem dX11_end_20 : decode cX11_end 20 = .ok (.ireturn, 1) := by decide +kernel
theorem dX11_family_0 : decode cX11_family 0 = .ok (.aload_n 0, 1) := by decide +kernel
theorem dX11_family_1 : decode cX11_family 1 = .ok (.getfield 27, 3) := by decide +kernel
theorem dX11_family_4 : decode cX11_family 4 = .ok (.aload_n 0, 1) := by decide +kernel
theorem dX11_family_5 : decode cX11_family 5 = .ok (.getfield 23, 3) := by decide +kernel
theorem dX11_family_8 : decode cX11_family 8 = .ok (.invokevirtual 109, 3) := by decide +kernel
theorem dX11_family_11 : decode cX11_family 11 = .ok (.aload_n 0, 1) := by decide +kernel
theorem dX11_family_12 : decode cX11_family 12 = .ok (.aload_n 0, 1) := by decide +kernel
theorem dX11_family_13 : decode cX11_family 13 = .ok (.getfield 45, 3) := by decide +kernel
theorem dX11_family_16 : decode cX11_family 16 = .ok (.aload_n 0, 1) := by decide +kernel
theorem dX11_family_17 : decode cX11_family 17 = .ok (.getfield 9, 3) := by decide +kernel
theorem dX11_family_20 : decode cX11_family 20 = .ok (.aload_n 0, 1) := by decide +kernel
theorem dX11_family_21 : decode cX11_family 21 = .ok (.invokevirtual 112, 3) := by decide +kernel
theorem dX11_family_24 : decode cX11_family 24 = .ok (.invokevirtual 116, 3) := by decide +kernel
theorem dX11_family_27 : decode cX11_family 27 = .ok (.putfield 17, 3) := by decide +kernel
theorem dX11_family_30 : decode cX11_family 30 = .ok (.aload_n 0, 1) := by decide +kernel
theorem dX11_family_31 : decode cX11_family 31 = .ok (.getfield 17, 3) := by decide +kernel
theorem dX11_family_34 : decode cX11_family 34 = .ok (.iconst (-1), 1) := by decide +kernel
theorem dX11_family_35 : decode cX11_family 35 = .ok (.if_icmp .eq 13, 3) := by decide +kernel
theorem dX11_family_38 : decode cX11_family 38 = .ok (.new 120, 3) := by decide +kernel
theorem dX11_family_41 : decode cX11_family 41 = .ok (.dup, 1) := by decide +kernel
theorem dX11_family_42 : decode cX11_family 42 = .ok (.ldc 122, 2) := by decide +kernel
theorem dX11_family_44 : decode cX11_family 44 = .ok (.invokespecial 124, 3) := by decide +kernel
theorem dX11_family_47 : decode cX11_family 47 = .ok (.athrow, 1) := by decide +kernel
theorem dX11_family_48 : decode cX11_family 48 = .ok (.aload_n 0, 1) := by decide +kernel
theorem dX11_family_49 : decode cX11_family 49 = .ok (.getfield 23, 3) := by decide +kernel
theorem dX11_family_52 : decode cX11_family 52 = .ok (.getfield 127, 3) := by decide +kernel
theorem dX11_family_55 : decode cX11_family 55 = .ok (.bipush 12, 2) := by decide +kernel
theorem dX11_family_57 : decode cX11_family 57 = .ok (.if_icmp .lt 13, 3) := by decide +kernel
theorem dX11_family_60 : decode cX11_family 60 = .ok (.new 130, 3) := by decide +kernel
theorem dX11_family_63 : decode cX11_family 63 = .ok (.dup, 1) := by decide +kernel
theorem dX11_family_64 : decode cX11_family 64 = .ok (.ldc 132, 2) := by decide +kernel
theorem dX11_family_66 : decode cX11_family 66 = .ok (.invokespecial 134, 3) := by decide +kernel
theorem dX11_family_69 : decode cX11_family 69 = .ok (.athrow, 1) := by decide +kernel
theorem dX11_family_70 : decode cX11_family 70 = .ok (.aload_n 0, 1) := by decide +kernel
theorem dX11_family_71 : decode cX11_family 71 = .ok (.getfield 27, 3) := by decide +kernel
theorem dX11_family_74 : decode cX11_family 74 = .ok (.dup, 1) := by decide +kernel
theorem dX11_family_75 : decode cX11_family 75 = .ok (.getfield 127, 3) := by decide +kernel
theorem dX11_family_78 : decode cX11_family 78 = .ok (.iconst 1, 1) := by decide +kernel
theorem dX11_family_79 : decode cX11_family 79 = .ok (.iadd, 1) := by decide +kernel
theorem dX11_family_80 : decode cX11_family 80 = .ok (.putfield 127, 3) := by decide +kernel
theorem dX11_family_83 : decode cX11_family 83 = .ok (.aload_n 0, 1) := by decide +kernel
theorem dX11_family_84 : decode cX11_family 84 = .ok (.getfield 23, 3) := by decide +kernel
theorem dX11_family_87 : decode cX11_family 87 = .ok (.aload_n 0, 1) := by decide +kernel
theorem dX11_family_88 : decode cX11_family 88 = .ok (.getfield 27, 3) := by decide +kernel
theorem dX11_family_91 : decode cX11_family 91 = .ok (.invokevirtual 109, 3) := by decide +kernel
theorem dX11_family_94 : decode cX11_family 94 = .ok (.aload_n 0, 1) := by decide +kernel
theorem dX11_family_95 : decode cX11_family 95 = .ok (.iconst 0, 1) := by decide +kernel
theorem dX11_family_96 : decode cX11_family 96 = .ok (.putfield 62, 3) := by decide +kernel
theorem dX11_family_99 : decode cX11_family 99 = .ok (.aload_n 0, 1) := by decide +kernel
theorem dX11_family_100 : decode cX11_family 100 = .ok (.getfield 23, 3) := by decide +kernel
theorem dX11_family_103 : decode cX11_family 103 = .ok (.getfield 127, 3) := by decide +kernel
theorem dX11_family_106 : decode cX11_family 106 = .ok (.ireturn, 1) := by decide +kernel
theorem dX11_law_0 : decode cX11_law 0 = .ok (.aload_n 0, 1) := by decide +kernel
theorem dX11_law_1 : decode cX11_law 1 = .ok (.getfield 37, 3) := by decide +kernel
theorem dX11_law_4 : decode cX11_law 4 = .ok (.invokevirtual 135, 3) := by decide +kernel
theorem dX11_law_7 : decode cX11_law 7 = .ok (.aload_n 0, 1) := by decide +kernel
theorem dX11_law_8 : decode cX11_law 8 = .ok (.aload_n 0, 1) := by decide +kernel
theorem dX11_law_9 : decode cX11_law 9 = .ok (.getfield 54, 3) := by decide +kernel
theorem dX11_law_12 : decode cX11_law 12 = .ok (.aload_n 0, 1) := by decide +kernel
theorem dX11_law_13 : decode cX11_law 13 = .ok (.getfield 9, 3) := by decide +kernel
theorem dX11_law_16 : decode cX11_law 16 = .ok (.aload_n 0, 1) := by decide +kernel
theorem dX11_law_17 : decode cX11_law 17 = .ok (.invokevirtual 112, 3) := by decide +kernel
theorem dX11_law_20 : decode cX11_law 20 = .ok (.invokevirtual 138, 3) := by decide +kernel
theorem dX11_law_23 : decode cX11_law 23 = .ok (.putfield 17, 3) := by decide +kernel
theorem dX11_law_26 : decode cX11_law 26 = .ok (.aload_n 0, 1) := by decide +kernel
theorem dX11_law_27 : decode cX11_law 27 = .ok (.getfield 17, 3) := by decide +kernel
theorem dX11_law_30 : decode cX11_law 30 = .ok (.iconst (-1), 1) := by decide +kernel
theorem dX11_law_31 : decode cX11_law 31 = .ok (.if_icmp .eq 13, 3) := by decide +kernel
theorem dX11_law_34 : decode cX11_law 34 = .ok (.new 120, 3) := by decide +kernel
theorem dX11_law_37 : decode cX11_law 37 = .ok (.dup, 1) := by decide +kernel
theorem dX11_law_38 : decode cX11_law 38 = .ok (.ldc 122, 2) := by decide +kernel
theorem dX11_law_40 : decode cX11_law 40 = .ok (.invokespecial 124, 3) := by decide +kernel
theorem dX11_law_43 : decode cX11_law 43 = .ok (.athrow, 1) := by decide +kernel
theorem dX11_law_44 : decode cX11_law 44 = .ok (.aload_n 0, 1) := by decide +kernel
theorem dX11_law_45 : decode cX11_law 45 = .ok (.getfield 33, 3) := by decide +kernel
theorem dX11_law_48 : decode cX11_law 48 = .ok (.aload_n 0, 1) := by decide +kernel
theorem dX11_law_49 : decode cX11_law 49 = .ok (.getfield 37, 3) := by decide +kernel
theorem dX11_law_52 : decode cX11_law 52 = .ok (.invokevirtual 139, 3) := by decide +kernel
theorem dX11_law_55 : decode cX11_law 55 = .ok (.aload_n 0, 1) := by decide +kernel
theorem dX11_law_56 : decode cX11_law 56 = .ok (.iconst 0, 1) := by decide +kernel
theorem dX11_law_57 : decode cX11_law 57 = .ok (.putfield 62, 3) := by decide +kernel
theorem dX11_law_60 : decode cX11_law 60 = .ok (.aload_n 0, 1) := by decide +kernel
theorem dX11_law_61 : decode cX11_law 61 = .ok (.getfield 33, 3) := by decide +kernel
theorem dX11_law_64 : decode cX11_law 64 = .ok (.getfield 141, 3) := by decide +kernel
theorem dX11_law_67 : decode cX11_law 67 = .ok (.ireturn, 1) := by decide +kernel
theorem dX11_fault_0 : decode cX11_fault 0 = .ok (.aload_n 0, 1) := by decide +kernel
theorem dX11_fault_1 : decode cX11_fault 1 = .ok (.getfield 17, 3) := by decide +kernel
theorem dX11_fault_4 : decode cX11_fault 4 = .ok (.ireturn, 1) := by decide +kernel
theorem dX11_mustBe_0 : decode cX11_mustBe 0 = .ok (.aload_n 0, 1) := by decide +kernel
theorem dX11_mustBe_1 : decode cX11_mustBe 1 = .ok (.getfield 23, 3) := by decide +kernel
theorem dX11_mustBe_4 : decode cX11_mustBe 4 = .ok (.iload_n 1, 1) := by decide +kernel
theorem dX11_mustBe_5 : decode cX11_mustBe 5 = .ok (.invokevirtual 144, 3) := by decide +kernel
theorem dX11_mustBe_8 : decode cX11_mustBe 8 = .ok (.ifCond .ne 13, 3) := by decide +kernel
theorem dX11_mustBe_11 : decode cX11_mustBe 11 = .ok (.new 148, 3) := by decide +kernel
theorem dX11_mustBe_14 : decode cX11_mustBe 14 = .ok (.dup, 1) := by decide +kernel
theorem dX11_mustBe_15 : decode cX11_mustBe 15 = .ok (.ldc 150, 2) := by decide +kernel
theorem dX11_mustBe_17 : decode cX11_mustBe 17 = .ok (.invokespecial 152, 3) := by decide +kernel
theorem dX11_mustBe_20 : decode cX11_mustBe 20 = .ok (.athrow, 1) := by decide +kernel
theorem dX11_mustBe_21 : decode cX11_mustBe 21 = .ok (.return_, 1) := by decide +kernel
theorem dX11_mustBeTwo_0 : decode cX11_mustBeTwo 0 = .ok (.aload_n 0, 1) := by decide +kernel
theorem dX11_mustBeTwo_1 : decode cX11_mustBeTwo 1 = .ok (.iload_n 1, 1) := by decide +kernel
theorem dX11_mustBeTwo_2 : decode cX11_mustBeTwo 2 = .ok (.invokevirtual 153, 3) := by decide +kernel
theorem dX11_mustBeTwo_5 : decode cX11_mustBeTwo 5 = .ok (.aload_n 0, 1) := by decide +kernel
theorem dX11_mustBeTwo_6 : decode cX11_mustBeTwo 6 = .ok (.iload_n 2, 1) := by decide +kernel
theorem dX11_mustBeTwo_7 : decode cX11_mustBeTwo 7 = .ok (.invokevirtual 153, 3) := by decide +kernel
theorem dX11_mustBeTwo_10 : decode cX11_mustBeTwo 10 = .ok (.iload_n 1, 1) := by decide +kernel
theorem dX11_mustBeTwo_11 : decode cX11_mustBeTwo 11 = .ok (.iload_n 2, 1) := by decide +kernel
theorem dX11_mustBeTwo_12 : decode cX11_mustBeTwo 12 = .ok (.if_icmp .ne 13, 3) := by decide +kernel
theorem dX11_mustBeTwo_15 : decode cX11_mustBeTwo 15 = .ok (.new 120, 3) := by decide +kernel
theorem dX11_mustBeTwo_18 : decode cX11_mustBeTwo 18 = .ok (.dup, 1) := by decide +kernel
theorem dX11_mustBeTwo_19 : decode cX11_mustBeTwo 19 = .ok (.ldc 156, 2) := by decide +kernel
theorem dX11_mustBeTwo_21 : decode cX11_mustBeTwo 21 = .ok (.invokespecial 124, 3) := by decide +kernel
theorem dX11_mustBeTwo_24 : decode cX11_mustBeTwo 24 = .ok (.athrow, 1) := by decide +kernel
theorem dX11_mustBeTwo_25 : decode cX11_mustBeTwo 25 = .ok (.return_, 1) := by decide +kernel
theorem dX11_mustLie_0 : decode cX11_mustLie 0 = .ok (.iload_n 0, 1) := by decide +kernel
theorem dX11_mustLie_1 : decode cX11_mustLie 1 = .ok (.iload_n 1, 1) := by decide +kernel
theorem dX11_mustLie_2 : decode cX11_mustLie 2 = .ok (.if_icmp .lt 8, 3) := by decide +kernel
theorem dX11_mustLie_5 : decode cX11_mustLie 5 = .ok (.iload_n 0, 1) := by decide +kernel
theorem dX11_mustLie_6 : decode cX11_mustLie 6 = .ok (.iload_n 2, 1) := by decide +kernel
theorem dX11_mustLie_7 : decode cX11_mustLie 7 = .ok (.if_icmp .le 13, 3) := by decide +kernel
theorem dX11_mustLie_10 : decode cX11_mustLie 10 = .ok (.new 120, 3) := by decide +kernel
theorem dX11_mustLie_13 : decode cX11_mustLie 13 = .ok (.dup, 1) := by decide +kernel
theorem dX11_mustLie_14 : decode cX11_mustLie 14 = .ok (.ldc 158, 2) := by decide +kernel
theorem dX11_mustLie_16 : decode cX11_mustLie 16 = .ok (.invokespecial 124, 3) := by decide +kernel
theorem dX11_mustLie_19 : decode cX11_mustLie 19 = .ok (.athrow, 1) := by decide +kernel
theorem dX11_mustLie_20 : decode cX11_mustLie 20 = .ok (.return_, 1) := by decide +kernel
theorem dX11_mustHold_0 : decode cX11_mustHold 0 = .ok (.iload_n 0, 1) := by decide +kernel
theorem dX11_mustHold_1 : decode cX11_mustHold 1 = .ok (.ifCond .ne 13, 3) := by decide +kernel
theorem dX11_mustHold_4 : decode cX11_mustHold 4 = .ok (.new 160, 3) := by decide +kernel
theorem dX11_mustHold_7 : decode cX11_mustHold 7 = .ok (.dup, 1) := by decide +kernel
theorem dX11_mustHold_8 : decode cX11_mustHold 8 = .ok (.ldc 162, 2) := by decide +kernel
theorem dX11_mustHold_10 : decode cX11_mustHold 10 = .ok (.invokespecial 164, 3) := by decide +kernel
theorem dX11_mustHold_13 : decode cX11_mustHold 13 = .ok (.athrow, 1) := by decide +kernel
theorem dX11_mustHold_14 : decode cX11_mustHold 14 = .ok (.return_, 1) := by decide +kernel
theorem dX11_person_0 : decode cX11_person 0 = .ok (.aload_n 0, 1) := by decide +kernel
theorem dX11_person_1 : decode cX11_person 1 = .ok (.iload_n 1, 1) := by decide +kernel
theorem dX11_person_2 : decode cX11_person 2 = .ok (.invokevirtual 153, 3) := by decide +kernel
theorem dX11_person_5 : decode cX11_person 5 = .ok (.aload_n 0, 1) := by decide +kernel
theorem dX11_person_6 : decode cX11_person 6 = .ok (.getfield 23, 3) := by decide +kernel
theorem dX11_person_9 : decode cX11_person 9 = .ok (.iload_n 1, 1) := by decide +kernel
theorem dX11_person_10 : decode cX11_person 10 = .ok (.invokevirtual 165, 3) := by decide +kernel
theorem dX11_person_13 : decode cX11_person 13 = .ok (.astore_n 3, 1) := by decide +kernel
theorem dX11_person_14 : decode cX11_person 14 = .ok (.iload_n 2, 1) := by decide +kernel
theorem dX11_person_15 : decode cX11_person 15 = .ok (.tableswitch 123 0 10 #[57, 62, 67, 72, 77, 82, 87, 92, 97, 102, 111], 57) := by decide +kernel
theorem dX11_person_72 : decode cX11_person 72 = .ok (.aload_n 3, 1) := by decide +kernel
theorem dX11_person_73 : decode cX11_person 73 = .ok (.getfield 169, 3) := by decide +kernel
theorem dX11_person_76 : decode cX11_person 76 = .ok (.ireturn, 1) := by decide +kernel
theorem dX11_person_77 : decode cX11_person 77 = .ok (.aload_n 3, 1) := by decide +kernel
theorem dX11_person_78 : decode cX11_person 78 = .ok (.getfield 174, 3) := by decide +kernel
theorem dX11_person_81 : decode cX11_person 81 = .ok (.ireturn, 1) := by decide +kernel
theorem dX11_person_82 : decode cX11_person 82 = .ok (.aload_n 3, 1) := by decide +kernel
theorem dX11_person_83 : decode cX11_person 83 = .ok (.getfield 177, 3) := by decide +kernel
theorem dX11_person_86 : decode cX11_person 86 = .ok (.ireturn, 1) := by decide +kernel
theorem dX11_person_87 : decode cX11_person 87 = .ok (.aload_n 3, 1) := by decide +kernel
theorem dX11_person_88 : decode cX11_person 88 = .ok (.getfield 180, 3) := by decide +kernel
theorem dX11_person_91 : decode cX11_person 91 = .ok (.ireturn, 1) := by decide +kernel
theorem dX11_person_92 : decode cX11_person 92 = .ok (.aload_n 3, 1) := by decide +kernel
theorem dX11_person_93 : decode cX11_person 93 = .ok (.getfield 183, 3) := by decide +kernel
theorem dX11_person_96 : decode cX11_person 96 = .ok (.ireturn, 1) := by decide +kernel
theorem dX11_person_97 : decode cX11_person 97 = .ok (.aload_n 3, 1) := by decide +kernel
theorem dX11_person_98 : decode cX11_person 98 = .ok (.getfield 186, 3) := by decide +kernel
theorem dX11_person_101 : decode cX11_person 101 = .ok (.ireturn, 1) := by decide +kernel
theorem dX11_person_102 : decode cX11_person 102 = .ok (.aload_n 3, 1) := by decide +kernel
theorem dX11_person_103 : decode cX11_person 103 = .ok (.getfield 189, 3) := by decide +kernel
theorem dX11_person_106 : decode cX11_person 106 = .ok (.ireturn, 1) := by decide +kernel
theorem dX11_person_107 : decode cX11_person 107 = .ok (.aload_n 3, 1) := by decide +kernel
theorem dX11_person_108 : decode cX11_person 108 = .ok (.getfield 192, 3) := by decide +kernel
theorem dX11_person_111 : decode cX11_person 111 = .ok (.ireturn, 1) := by decide +kernel
theorem dX11_person_112 : decode cX11_person 112 = .ok (.aload_n 3, 1) := by decide +kernel
theorem dX11_person_113 : decode cX11_person 113 = .ok (.getfield 195, 3) := by decide +kernel
theorem dX11_person_116 : decode cX11_person 116 = .ok (.ireturn, 1) := by decide +kernel
theorem dX11_person_117 : decode cX11_person 117 = .ok (.aload_n 0, 1) := by decide +kernel
theorem dX11_person_118 : decode cX11_person 118 = .ok (.getfield 23, 3) := by decide +kernel
theorem dX11_person_121 : decode cX11_person 121 = .ok (.iload_n 1, 1) := by decide +kernel
theorem dX11_person_122 : decode cX11_person 122 = .ok (.invokevirtual 198, 3) := by decide +kernel
theorem dX11_person_125 : decode cX11_person 125 = .ok (.ireturn, 1) := by decide +kernel
theorem dX11_person_126 : decode cX11_person 126 = .ok (.aload_n 0, 1) := by decide +kernel
theorem dX11_person_127 : decode cX11_person 127 = .ok (.getfield 23, 3) := by decide +kernel
theorem dX11_person_130 : decode cX11_person 130 = .ok (.getfield 202, 3) := by decide +kernel
theorem dX11_person_133 : decode cX11_person 133 = .ok (.iload_n 1, 1) := by decide +kernel
theorem dX11_person_134 : decode cX11_person 134 = .ok (.invokevirtual 206, 3) := by decide +kernel
theorem dX11_person_137 : decode cX11_person 137 = .ok (.ireturn, 1) := by decide +kernel
theorem dX11_person_138 : decode cX11_person 138 = .ok (.new 211, 3) := by decide +kernel
theorem dX11_person_141 : decode cX11_person 141 = .ok (.dup, 1) := by decide +kernel
theorem dX11_person_142 : decode cX11_person 142 = .ok (.ldc 213, 2) := by decide +kernel
theorem dX11_person_144 : decode cX11_person 144 = .ok (.invokespecial 215, 3) := by decide +kernel
theorem dX11_person_147 : decode cX11_person 147 = .ok (.athrow, 1) := by decide +kernel
theorem dX11_lent_0 : decode cX11_lent 0 = .ok (.aload_n 0, 1) := by decide +kernel
theorem dX11_lent_1 : decode cX11_lent 1 = .ok (.iload_n 1, 1) := by decide +kernel
theorem dX11_lent_2 : decode cX11_lent 2 = .ok (.iload_n 2, 1) := by decide +kernel
theorem dX11_lent_3 : decode cX11_lent 3 = .ok (.invokevirtual 216, 3) := by decide +kernel
theorem dX11_lent_6 : decode cX11_lent 6 = .ok (.aload_n 0, 1) := by decide +kernel
theorem dX11_lent_7 : decode cX11_lent 7 = .ok (.getfield 23, 3) := by decide +kernel
theorem dX11_lent_10 : decode cX11_lent 10 = .ok (.iload_n 1, 1) := by decide +kernel
theorem dX11_lent_11 : decode cX11_lent 11 = .ok (.iload_n 2, 1) := by decide +kernel
theorem dX11_lent_12 : decode cX11_lent 12 = .ok (.invokevirtual 220, 3) := by decide +kernel
theorem dX11_lent_15 : decode cX11_lent 15 = .ok (.ireturn, 1) := by decide +kernel
theorem dX11_weighs_0 : decode cX11_weighs 0 = .ok (.aload_n 0, 1) := by decide +kernel
theorem dX11_weighs_1 : decode cX11_weighs 1 = .ok (.iload_n 1, 1) := by decide +kernel
theorem dX11_weighs_2 : decode cX11_weighs 2 = .ok (.iload_n 2, 1) := by decide +kernel
theorem dX11_weighs_3 : decode cX11_weighs 3 = .ok (.invokevirtual 216, 3) := by decide +kernel
theorem dX11_weighs_6 : decode cX11_weighs 6 = .ok (.aload_n 0, 1) := by decide +kernel
theorem dX11_weighs_7 : decode cX11_weighs 7 = .ok (.getfield 33, 3) := by decide +kernel
theorem dX11_weighs_10 : decode cX11_weighs 10 = .ok (.aload_n 0, 1) := by decide +kernel
theorem dX11_weighs_11 : decode cX11_weighs 11 = .ok (.getfield 23, 3) := by decide +kernel
theorem dX11_weighs_14 : decode cX11_weighs 14 = .ok (.iload_n 1, 1) := by decide +kernel
theorem dX11_weighs_15 : decode cX11_weighs 15 = .ok (.iload_n 2, 1) := by decide +kernel
theorem dX11_weighs_16 : decode cX11_weighs 16 = .ok (.iload_n 3, 1) := by decide +kernel
theorem dX11_weighs_17 : decode cX11_weighs 17 = .ok (.invokevirtual 224, 3) := by decide +kernel
theorem dX11_weighs_20 : decode cX11_weighs 20 = .ok (.ireturn, 1) := by decide +kernel
theorem dX11_gap_0 : decode cX11_gap 0 = .ok (.aload_n 0, 1) := by decide +kernel
theorem dX11_gap_1 : decode cX11_gap 1 = .ok (.iload_n 1, 1) := by decide +kernel
theorem dX11_gap_2 : decode cX11_gap 2 = .ok (.iload_n 2, 1) := by decide +kernel
theorem dX11_gap_3 : decode cX11_gap 3 = .ok (.invokevirtual 216, 3) := by decide +kernel
theorem dX11_gap_6 : decode cX11_gap 6 = .ok (.aload_n 0, 1) := by decide +kernel
theorem dX11_gap_7 : decode cX11_gap 7 = .ok (.getfield 23, 3) := by decide +kernel
theorem dX11_gap_10 : decode cX11_gap 10 = .ok (.iload_n 1, 1) := by decide +kernel
theorem dX11_gap_11 : decode cX11_gap 11 = .ok (.iload_n 2, 1) := by decide +kernel
theorem dX11_gap_12 : decode cX11_gap 12 = .ok (.invokevirtual 228, 3) := by decide +kernel
theorem dX11_gap_15 : decode cX11_gap 15 = .ok (.ireturn, 1) := by decide +kernel
theorem dX11_remember_0 : decode cX11_remember 0 = .ok (.aload_n 0, 1) := by decide +kernel
theorem dX11_remember_1 : decode cX11_remember 1 = .ok (.getfield 62, 3) := by decide +kernel
theorem dX11_remember_4 : decode cX11_remember 4 = .ok (.aload_n 0, 1) := by decide +kernel
theorem dX11_remember_5 : decode cX11_remember 5 = .ok (.getfield 58, 3) := by decide +kernel
theorem dX11_remember_8 : decode cX11_remember 8 = .ok (.arraylength, 1) := by decide +kernel
theorem dX11_remember_9 : decode cX11_remember 9 = .ok (.if_icmp .lt 65, 3) := by decide +kernel
theorem dX11_remember_12 : decode cX11_remember 12 = .ok (.aload_n 0, 1) := by decide +kernel
theorem dX11_remember_13 : decode cX11_remember 13 = .ok (.getfield 58, 3) := by decide +kernel
theorem dX11_remember_16 : decode cX11_remember 16 = .ok (.iconst 0, 1) := by decide +kernel
theorem dX11_remember_17 : decode cX11_remember 17 = .ok (.aaload, 1) := by decide +kernel
theorem dX11_remember_18 : decode cX11_remember 18 = .ok (.astore_n 1, 1) := by decide +kernel
theorem dX11_remember_19 : decode cX11_remember 19 = .ok (.iconst 1, 1) := by decide +kernel
theorem dX11_remember_20 : decode cX11_remember 20 = .ok (.istore_n 2, 1) := by decide +kernel
theorem dX11_remember_21 : decode cX11_remember 21 = .ok (.iload_n 2, 1) := by decide +kernel
theorem dX11_remember_22 : decode cX11_remember 22 = .ok (.aload_n 0, 1) := by decide +kernel
theorem dX11_remember_23 : decode cX11_remember 23 = .ok (.getfield 58, 3) := by decide +kernel
theorem dX11_remember_26 : decode cX11_remember 26 = .ok (.arraylength, 1) := by decide +kernel
theorem dX11_remember_27 : decode cX11_remember 27 = .ok (.if_icmp .ge 23, 3) := by decide +kernel
theorem dX11_remember_30 : decode cX11_remember 30 = .ok (.aload_n 0, 1) := by decide +kernel
theorem dX11_remember_31 : decode cX11_remember 31 = .ok (.getfield 58, 3) := by decide +kernel
theorem dX11_remember_34 : decode cX11_remember 34 = .ok (.iload_n 2, 1) := by decide +kernel
theorem dX11_remember_35 : decode cX11_remember 35 = .ok (.iconst 1, 1) := by decide +kernel
theorem dX11_remember_36 : decode cX11_remember 36 = .ok (.isub, 1) := by decide +kernel
theorem dX11_remember_37 : decode cX11_remember 37 = .ok (.aload_n 0, 1) := by decide +kernel
theorem dX11_remember_38 : decode cX11_remember 38 = .ok (.getfield 58, 3) := by decide +kernel
theorem dX11_remember_41 : decode cX11_remember 41 = .ok (.iload_n 2, 1) := by decide +kernel
theorem dX11_remember_42 : decode cX11_remember 42 = .ok (.aaload, 1) := by decide +kernel
theorem dX11_remember_43 : decode cX11_remember 43 = .ok (.aastore, 1) := by decide +kernel
theorem dX11_remember_44 : decode cX11_remember 44 = .ok (.iinc 2 1, 3) := by decide +kernel
theorem dX11_remember_47 : decode cX11_remember 47 = .ok (.goto (-26), 3) := by decide +kernel
theorem dX11_remember_50 : decode cX11_remember 50 = .ok (.aload_n 0, 1) := by decide +kernel
theorem dX11_remember_51 : decode cX11_remember 51 = .ok (.getfield 58, 3) := by decide +kernel
theorem dX11_remember_54 : decode cX11_remember 54 = .ok (.aload_n 0, 1) := by decide +kernel
theorem dX11_remember_55 : decode cX11_remember 55 = .ok (.getfield 58, 3) := by decide +kernel
theorem dX11_remember_58 : decode cX11_remember 58 = .ok (.arraylength, 1) := by decide +kernel
theorem dX11_remember_59 : decode cX11_remember 59 = .ok (.iconst 1, 1) := by decide +kernel
theorem dX11_remember_60 : decode cX11_remember 60 = .ok (.isub, 1) := by decide +kernel
theorem dX11_remember_61 : decode cX11_remember 61 = .ok (.aload_n 1, 1) := by decide +kernel
theorem dX11_remember_62 : decode cX11_remember 62 = .ok (.aastore, 1) := by decide +kernel
theorem dX11_remember_63 : decode cX11_remember 63 = .ok (.aload_n 0, 1) := by decide +kernel
theorem dX11_remember_64 : decode cX11_remember 64 = .ok (.aload_n 0, 1) := by decide +kernel
theorem dX11_remember_65 : decode cX11_remember 65 = .ok (.getfield 58, 3) := by decide +kernel
theorem dX11_remember_68 : decode cX11_remember 68 = .ok (.arraylength, 1) := by decide +kernel
theorem dX11_remember_69 : decode cX11_remember 69 = .ok (.iconst 1, 1) := by decide +kernel
theorem dX11_remember_70 : decode cX11_remember 70 = .ok (.isub, 1) := by decide +kernel
theorem dX11_remember_71 : decode cX11_remember 71 = .ok (.putfield 62, 3) := by decide +kernel
theorem dX11_remember_74 : decode cX11_remember 74 = .ok (.aload_n 0, 1) := by decide +kernel
theorem dX11_remember_75 : decode cX11_remember 75 = .ok (.getfield 62, 3) := by decide +kernel
theorem dX11_remember_78 : decode cX11_remember 78 = .ok (.ifCond .lt 41, 3) := by decide +kernel
theorem dX11_remember_81 : decode cX11_remember 81 = .ok (.aload_n 0, 1) := by decide +kernel
theorem dX11_remember_82 : decode cX11_remember 82 = .ok (.getfield 62, 3) := by decide +kernel
theorem dX11_remember_85 : decode cX11_remember 85 = .ok (.aload_n 0, 1) := by decide +kernel
theorem dX11_remember_86 : decode cX11_remember 86 = .ok (.getfield 58, 3) := by decide +kernel
theorem dX11_remember_89 : decode cX11_remember 89 = .ok (.arraylength, 1) := by decide +kernel
theorem dX11_remember_90 : decode cX11_remember 90 = .ok (.if_icmp .ge 29, 3) := by decide +kernel
theorem dX11_remember_93 : decode cX11_remember 93 = .ok (.aload_n 0, 1) := by decide +kernel
theorem dX11_remember_94 : decode cX11_remember 94 = .ok (.getfield 58, 3) := by decide +kernel
theorem dX11_remember_97 : decode cX11_remember 97 = .ok (.aload_n 0, 1) := by decide +kernel
theorem dX11_remember_98 : decode cX11_remember 98 = .ok (.getfield 62, 3) := by decide +kernel
theorem dX11_remember_101 : decode cX11_remember 101 = .ok (.aaload, 1) := by decide +kernel
theorem dX11_remember_102 : decode cX11_remember 102 = .ok (.aload_n 0, 1) := by decide +kernel
theorem dX11_remember_103 : decode cX11_remember 103 = .ok (.getfield 23, 3) := by decide +kernel
theorem dX11_remember_106 : decode cX11_remember 106 = .ok (.invokevirtual 109, 3) := by decide +kernel
theorem dX11_remember_109 : decode cX11_remember 109 = .ok (.aload_n 0, 1) := by decide +kernel
theorem dX11_remember_110 : decode cX11_remember 110 = .ok (.dup, 1) := by decide +kernel
theorem dX11_remember_111 : decode cX11_remember 111 = .ok (.getfield 62, 3) := by decide +kernel
theorem dX11_remember_114 : decode cX11_remember 114 = .ok (.iconst 1, 1) := by decide +kernel
theorem dX11_remember_115 : decode cX11_remember 115 = .ok (.iadd, 1) := by decide +kernel
theorem dX11_remember_116 : decode cX11_remember 116 = .ok (.putfield 62, 3) := by decide +kernel
theorem dX11_remember_119 : decode cX11_remember 119 = .ok (.return_, 1) := by decide +kernel
