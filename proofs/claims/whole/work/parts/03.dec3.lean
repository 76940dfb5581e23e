theorem dX12_readLine_0 : decode cX12_readLine 0 = .ok (.aload_n 0, 1) := by decide +kernel
theorem dX12_readLine_1 : decode cX12_readLine 1 = .ok (.invokevirtual 124, 3) := by decide +kernel
theorem dX12_readLine_4 : decode cX12_readLine 4 = .ok (.iload_n 2, 1) := by decide +kernel
theorem dX12_readLine_5 : decode cX12_readLine 5 = .ok (.iload_n 1, 1) := by decide +kernel
theorem dX12_readLine_6 : decode cX12_readLine 6 = .ok (.ifCond .eq 8, 3) := by decide +kernel
theorem dX12_readLine_9 : decode cX12_readLine 9 = .ok (.bipush 14, 2) := by decide +kernel
theorem dX12_readLine_11 : decode cX12_readLine 11 = .ok (.goto 5, 3) := by decide +kernel
theorem dX12_readLine_14 : decode cX12_readLine 14 = .ok (.bipush 12, 2) := by decide +kernel
theorem dX12_readLine_16 : decode cX12_readLine 16 = .ok (.if_icmp .ge 29, 3) := by decide +kernel
theorem dX12_readLine_19 : decode cX12_readLine 19 = .ok (.iload_n 1, 1) := by decide +kernel
theorem dX12_readLine_20 : decode cX12_readLine 20 = .ok (.ifCond .eq 13, 3) := by decide +kernel
theorem dX12_readLine_23 : decode cX12_readLine 23 = .ok (.aload_n 0, 1) := by decide +kernel
theorem dX12_readLine_24 : decode cX12_readLine 24 = .ok (.invokevirtual 274, 3) := by decide +kernel
theorem dX12_readLine_27 : decode cX12_readLine 27 = .ok (.ifCond .eq 18, 3) := by decide +kernel
theorem dX12_readLine_30 : decode cX12_readLine 30 = .ok (.goto 11, 3) := by decide +kernel
theorem dX12_readLine_33 : decode cX12_readLine 33 = .ok (.aload_n 0, 1) := by decide +kernel
theorem dX12_readLine_34 : decode cX12_readLine 34 = .ok (.iload_n 2, 1) := by decide +kernel
theorem dX12_readLine_35 : decode cX12_readLine 35 = .ok (.invokevirtual 277, 3) := by decide +kernel
theorem dX12_readLine_38 : decode cX12_readLine 38 = .ok (.ifCond .eq 7, 3) := by decide +kernel
theorem dX12_readLine_41 : decode cX12_readLine 41 = .ok (.iconst 1, 1) := by decide +kernel
theorem dX12_readLine_42 : decode cX12_readLine 42 = .ok (.goto 4, 3) := by decide +kernel
theorem dX12_readLine_45 : decode cX12_readLine 45 = .ok (.iconst 0, 1) := by decide +kernel
theorem dX12_readLine_46 : decode cX12_readLine 46 = .ok (.ireturn, 1) := by decide +kernel
theorem dX12_readAll_0 : decode cX12_readAll 0 = .ok (.aload_n 0, 1) := by decide +kernel
theorem dX12_readAll_1 : decode cX12_readAll 1 = .ok (.invokevirtual 280, 3) := by decide +kernel
theorem dX12_readAll_4 : decode cX12_readAll 4 = .ok (.aload_n 0, 1) := by decide +kernel
theorem dX12_readAll_5 : decode cX12_readAll 5 = .ok (.iconst 0, 1) := by decide +kernel
theorem dX12_readAll_6 : decode cX12_readAll 6 = .ok (.putfield 215, 3) := by decide +kernel
theorem dX12_readAll_9 : decode cX12_readAll 9 = .ok (.aload_n 0, 1) := by decide +kernel
theorem dX12_readAll_10 : decode cX12_readAll 10 = .ok (.invokevirtual 112, 3) := by decide +kernel
theorem dX12_readAll_13 : decode cX12_readAll 13 = .ok (.aload_n 0, 1) := by decide +kernel
theorem dX12_readAll_14 : decode cX12_readAll 14 = .ok (.getfield 100, 3) := by decide +kernel
theorem dX12_readAll_17 : decode cX12_readAll 17 = .ok (.aload_n 0, 1) := by decide +kernel
theorem dX12_readAll_18 : decode cX12_readAll 18 = .ok (.getfield 103, 3) := by decide +kernel
theorem dX12_readAll_21 : decode cX12_readAll 21 = .ok (.if_icmp .ne 5, 3) := by decide +kernel
theorem dX12_readAll_24 : decode cX12_readAll 24 = .ok (.iconst 0, 1) := by decide +kernel
theorem dX12_readAll_25 : decode cX12_readAll 25 = .ok (.ireturn, 1) := by decide +kernel
theorem dX12_readAll_26 : decode cX12_readAll 26 = .ok (.iconst 0, 1) := by decide +kernel
theorem dX12_readAll_27 : decode cX12_readAll 27 = .ok (.istore_n 2, 1) := by decide +kernel
theorem dX12_readAll_28 : decode cX12_readAll 28 = .ok (.aload_n 0, 1) := by decide +kernel
theorem dX12_readAll_29 : decode cX12_readAll 29 = .ok (.iload_n 1, 1) := by decide +kernel
theorem dX12_readAll_30 : decode cX12_readAll 30 = .ok (.iload_n 2, 1) := by decide +kernel
theorem dX12_readAll_31 : decode cX12_readAll 31 = .ok (.invokevirtual 283, 3) := by decide +kernel
theorem dX12_readAll_34 : decode cX12_readAll 34 = .ok (.ifCond .ne 5, 3) := by decide +kernel
theorem dX12_readAll_37 : decode cX12_readAll 37 = .ok (.iconst (-1), 1) := by decide +kernel
theorem dX12_readAll_38 : decode cX12_readAll 38 = .ok (.ireturn, 1) := by decide +kernel
theorem dX12_readAll_39 : decode cX12_readAll 39 = .ok (.aload_n 0, 1) := by decide +kernel
theorem dX12_readAll_40 : decode cX12_readAll 40 = .ok (.invokevirtual 112, 3) := by decide +kernel
theorem dX12_readAll_43 : decode cX12_readAll 43 = .ok (.aload_n 0, 1) := by decide +kernel
theorem dX12_readAll_44 : decode cX12_readAll 44 = .ok (.getfield 100, 3) := by decide +kernel
theorem dX12_readAll_47 : decode cX12_readAll 47 = .ok (.aload_n 0, 1) := by decide +kernel
theorem dX12_readAll_48 : decode cX12_readAll 48 = .ok (.getfield 103, 3) := by decide +kernel
theorem dX12_readAll_51 : decode cX12_readAll 51 = .ok (.if_icmp .ne 7, 3) := by decide +kernel
theorem dX12_readAll_54 : decode cX12_readAll 54 = .ok (.iload_n 2, 1) := by decide +kernel
theorem dX12_readAll_55 : decode cX12_readAll 55 = .ok (.iconst 1, 1) := by decide +kernel
theorem dX12_readAll_56 : decode cX12_readAll 56 = .ok (.iadd, 1) := by decide +kernel
theorem dX12_readAll_57 : decode cX12_readAll 57 = .ok (.ireturn, 1) := by decide +kernel
theorem dX12_readAll_58 : decode cX12_readAll 58 = .ok (.aload_n 0, 1) := by decide +kernel
theorem dX12_readAll_59 : decode cX12_readAll 59 = .ok (.bipush 59, 2) := by decide +kernel
theorem dX12_readAll_61 : decode cX12_readAll 61 = .ok (.bipush 59, 2) := by decide +kernel
theorem dX12_readAll_63 : decode cX12_readAll 63 = .ok (.invokevirtual 106, 3) := by decide +kernel
theorem dX12_readAll_66 : decode cX12_readAll 66 = .ok (.ifCond .ne 5, 3) := by decide +kernel
theorem dX12_readAll_69 : decode cX12_readAll 69 = .ok (.iconst (-1), 1) := by decide +kernel
theorem dX12_readAll_70 : decode cX12_readAll 70 = .ok (.ireturn, 1) := by decide +kernel
theorem dX12_readAll_71 : decode cX12_readAll 71 = .ok (.aload_n 0, 1) := by decide +kernel
theorem dX12_readAll_72 : decode cX12_readAll 72 = .ok (.dup, 1) := by decide +kernel
theorem dX12_readAll_73 : decode cX12_readAll 73 = .ok (.getfield 100, 3) := by decide +kernel
theorem dX12_readAll_76 : decode cX12_readAll 76 = .ok (.iconst 1, 1) := by decide +kernel
theorem dX12_readAll_77 : decode cX12_readAll 77 = .ok (.iadd, 1) := by decide +kernel
theorem dX12_readAll_78 : decode cX12_readAll 78 = .ok (.putfield 100, 3) := by decide +kernel
theorem dX12_readAll_81 : decode cX12_readAll 81 = .ok (.iinc 2 1, 3) := by decide +kernel
theorem dX12_readAll_84 : decode cX12_readAll 84 = .ok (.goto (-56), 3) := by decide +kernel
theorem dX12_family_0 : decode cX12_family 0 = .ok (.iconst 0, 1) := by decide +kernel
theorem dX12_family_1 : decode cX12_family 1 = .ok (.istore_n 1, 1) := by decide +kernel
theorem dX12_family_2 : decode cX12_family 2 = .ok (.iload_n 1, 1) := by decide +kernel
theorem dX12_family_3 : decode cX12_family 3 = .ok (.sipush 1294, 3) := by decide +kernel
theorem dX12_family_6 : decode cX12_family 6 = .ok (.if_icmp .ge 21, 3) := by decide +kernel
theorem dX12_family_9 : decode cX12_family 9 = .ok (.aload_n 0, 1) := by decide +kernel
theorem dX12_family_10 : decode cX12_family 10 = .ok (.getfield 20, 3) := by decide +kernel
theorem dX12_family_13 : decode cX12_family 13 = .ok (.iload_n 1, 1) := by decide +kernel
theorem dX12_family_14 : decode cX12_family 14 = .ok (.aload_n 0, 1) := by decide +kernel
theorem dX12_family_15 : decode cX12_family 15 = .ok (.getfield 13, 3) := by decide +kernel
theorem dX12_family_18 : decode cX12_family 18 = .ok (.iload_n 1, 1) := by decide +kernel
theorem dX12_family_19 : decode cX12_family 19 = .ok (.iaload, 1) := by decide +kernel
theorem dX12_family_20 : decode cX12_family 20 = .ok (.iastore, 1) := by decide +kernel
theorem dX12_family_21 : decode cX12_family 21 = .ok (.iinc 1 1, 3) := by decide +kernel
theorem dX12_family_24 : decode cX12_family 24 = .ok (.goto (-22), 3) := by decide +kernel
theorem dX12_family_27 : decode cX12_family 27 = .ok (.aload_n 0, 1) := by decide +kernel
theorem dX12_family_28 : decode cX12_family 28 = .ok (.iconst 1, 1) := by decide +kernel
theorem dX12_family_29 : decode cX12_family 29 = .ok (.invokevirtual 287, 3) := by decide +kernel
theorem dX12_family_32 : decode cX12_family 32 = .ok (.istore_n 1, 1) := by decide +kernel
theorem dX12_family_33 : decode cX12_family 33 = .ok (.aload_n 0, 1) := by decide +kernel
theorem dX12_family_34 : decode cX12_family 34 = .ok (.iload_n 1, 1) := by decide +kernel
theorem dX12_family_35 : decode cX12_family 35 = .ok (.ifCond .ge 10, 3) := by decide +kernel
theorem dX12_family_38 : decode cX12_family 38 = .ok (.aload_n 0, 1) := by decide +kernel
theorem dX12_family_39 : decode cX12_family 39 = .ok (.getfield 109, 3) := by decide +kernel
theorem dX12_family_42 : decode cX12_family 42 = .ok (.goto 4, 3) := by decide +kernel
theorem dX12_family_45 : decode cX12_family 45 = .ok (.iconst (-1), 1) := by decide +kernel
theorem dX12_family_46 : decode cX12_family 46 = .ok (.putfield 33, 3) := by decide +kernel
theorem dX12_family_49 : decode cX12_family 49 = .ok (.aload_n 0, 1) := by decide +kernel
theorem dX12_family_50 : decode cX12_family 50 = .ok (.iload_n 1, 1) := by decide +kernel
theorem dX12_family_51 : decode cX12_family 51 = .ok (.ifCond .ge 7, 3) := by decide +kernel
theorem dX12_family_54 : decode cX12_family 54 = .ok (.iconst 1, 1) := by decide +kernel
theorem dX12_family_55 : decode cX12_family 55 = .ok (.goto 4, 3) := by decide +kernel
theorem dX12_family_58 : decode cX12_family 58 = .ok (.iconst 0, 1) := by decide +kernel
theorem dX12_family_59 : decode cX12_family 59 = .ok (.iconst 1, 1) := by decide +kernel
theorem dX12_family_60 : decode cX12_family 60 = .ok (.invokevirtual 291, 3) := by decide +kernel
theorem dX12_family_63 : decode cX12_family 63 = .ok (.ifCond .ne 27, 3) := by decide +kernel
theorem dX12_family_66 : decode cX12_family 66 = .ok (.aload_n 0, 1) := by decide +kernel
theorem dX12_family_67 : decode cX12_family 67 = .ok (.aload_n 0, 1) := by decide +kernel
theorem dX12_family_68 : decode cX12_family 68 = .ok (.getfield 13, 3) := by decide +kernel
theorem dX12_family_71 : decode cX12_family 71 = .ok (.iconst 1, 1) := by decide +kernel
theorem dX12_family_72 : decode cX12_family 72 = .ok (.iaload, 1) := by decide +kernel
theorem dX12_family_73 : decode cX12_family 73 = .ok (.bipush 12, 2) := by decide +kernel
theorem dX12_family_75 : decode cX12_family 75 = .ok (.if_icmp .ne 7, 3) := by decide +kernel
theorem dX12_family_78 : decode cX12_family 78 = .ok (.iconst 1, 1) := by decide +kernel
theorem dX12_family_79 : decode cX12_family 79 = .ok (.goto 4, 3) := by decide +kernel
theorem dX12_family_82 : decode cX12_family 82 = .ok (.iconst 0, 1) := by decide +kernel
theorem dX12_family_83 : decode cX12_family 83 = .ok (.iconst 2, 1) := by decide +kernel
theorem dX12_family_84 : decode cX12_family 84 = .ok (.invokevirtual 291, 3) := by decide +kernel
theorem dX12_family_87 : decode cX12_family 87 = .ok (.ifCond .eq 32, 3) := by decide +kernel
theorem dX12_family_90 : decode cX12_family 90 = .ok (.iconst 0, 1) := by decide +kernel
theorem dX12_family_91 : decode cX12_family 91 = .ok (.istore_n 2, 1) := by decide +kernel
theorem dX12_family_92 : decode cX12_family 92 = .ok (.iload_n 2, 1) := by decide +kernel
theorem dX12_family_93 : decode cX12_family 93 = .ok (.sipush 1294, 3) := by decide +kernel
theorem dX12_family_96 : decode cX12_family 96 = .ok (.if_icmp .ge 21, 3) := by decide +kernel
theorem dX12_family_99 : decode cX12_family 99 = .ok (.aload_n 0, 1) := by decide +kernel
theorem dX12_family_100 : decode cX12_family 100 = .ok (.getfield 13, 3) := by decide +kernel
theorem dX12_family_103 : decode cX12_family 103 = .ok (.iload_n 2, 1) := by decide +kernel
theorem dX12_family_104 : decode cX12_family 104 = .ok (.aload_n 0, 1) := by decide +kernel
theorem dX12_family_105 : decode cX12_family 105 = .ok (.getfield 20, 3) := by decide +kernel
theorem dX12_family_108 : decode cX12_family 108 = .ok (.iload_n 2, 1) := by decide +kernel
theorem dX12_family_109 : decode cX12_family 109 = .ok (.iaload, 1) := by decide +kernel
theorem dX12_family_110 : decode cX12_family 110 = .ok (.iastore, 1) := by decide +kernel
theorem dX12_family_111 : decode cX12_family 111 = .ok (.iinc 2 1, 3) := by decide +kernel
theorem dX12_family_114 : decode cX12_family 114 = .ok (.goto (-22), 3) := by decide +kernel
theorem dX12_family_117 : decode cX12_family 117 = .ok (.iconst 0, 1) := by decide +kernel
theorem dX12_family_118 : decode cX12_family 118 = .ok (.ireturn, 1) := by decide +kernel
theorem dX12_family_119 : decode cX12_family 119 = .ok (.aload_n 0, 1) := by decide +kernel
theorem dX12_family_120 : decode cX12_family 120 = .ok (.getfield 13, 3) := by decide +kernel
theorem dX12_family_123 : decode cX12_family 123 = .ok (.iconst 1, 1) := by decide +kernel
theorem dX12_family_124 : decode cX12_family 124 = .ok (.dup2, 1) := by decide +kernel
theorem dX12_family_125 : decode cX12_family 125 = .ok (.iaload, 1) := by decide +kernel
theorem dX12_family_126 : decode cX12_family 126 = .ok (.iconst 1, 1) := by decide +kernel
theorem dX12_family_127 : decode cX12_family 127 = .ok (.iadd, 1) := by decide +kernel
theorem dX12_family_128 : decode cX12_family 128 = .ok (.iastore, 1) := by decide +kernel
theorem dX12_family_129 : decode cX12_family 129 = .ok (.aload_n 0, 1) := by decide +kernel
theorem dX12_family_130 : decode cX12_family 130 = .ok (.iconst 0, 1) := by decide +kernel
theorem dX12_family_131 : decode cX12_family 131 = .ok (.putfield 71, 3) := by decide +kernel
theorem dX12_family_134 : decode cX12_family 134 = .ok (.aload_n 0, 1) := by decide +kernel
theorem dX12_family_135 : decode cX12_family 135 = .ok (.getfield 13, 3) := by decide +kernel
theorem dX12_family_138 : decode cX12_family 138 = .ok (.iconst 1, 1) := by decide +kernel
theorem dX12_family_139 : decode cX12_family 139 = .ok (.iaload, 1) := by decide +kernel
theorem dX12_family_140 : decode cX12_family 140 = .ok (.ireturn, 1) := by decide +kernel
theorem dX12_law_0 : decode cX12_law 0 = .ok (.aload_n 0, 1) := by decide +kernel
theorem dX12_law_1 : decode cX12_law 1 = .ok (.iconst 0, 1) := by decide +kernel
theorem dX12_law_2 : decode cX12_law 2 = .ok (.invokevirtual 287, 3) := by decide +kernel
theorem dX12_law_5 : decode cX12_law 5 = .ok (.istore_n 1, 1) := by decide +kernel
theorem dX12_law_6 : decode cX12_law 6 = .ok (.aload_n 0, 1) := by decide +kernel
theorem dX12_law_7 : decode cX12_law 7 = .ok (.iload_n 1, 1) := by decide +kernel
theorem dX12_law_8 : decode cX12_law 8 = .ok (.ifCond .ge 10, 3) := by decide +kernel
theorem dX12_law_11 : decode cX12_law 11 = .ok (.aload_n 0, 1) := by decide +kernel
theorem dX12_law_12 : decode cX12_law 12 = .ok (.getfield 109, 3) := by decide +kernel
theorem dX12_law_15 : decode cX12_law 15 = .ok (.goto 4, 3) := by decide +kernel
theorem dX12_law_18 : decode cX12_law 18 = .ok (.iconst (-1), 1) := by decide +kernel
theorem dX12_law_19 : decode cX12_law 19 = .ok (.putfield 33, 3) := by decide +kernel
theorem dX12_law_22 : decode cX12_law 22 = .ok (.aload_n 0, 1) := by decide +kernel
theorem dX12_law_23 : decode cX12_law 23 = .ok (.iload_n 1, 1) := by decide +kernel
theorem dX12_law_24 : decode cX12_law 24 = .ok (.ifCond .ge 7, 3) := by decide +kernel
theorem dX12_law_27 : decode cX12_law 27 = .ok (.iconst 1, 1) := by decide +kernel
theorem dX12_law_28 : decode cX12_law 28 = .ok (.goto 4, 3) := by decide +kernel
theorem dX12_law_31 : decode cX12_law 31 = .ok (.iconst 0, 1) := by decide +kernel
theorem dX12_law_32 : decode cX12_law 32 = .ok (.iconst 1, 1) := by decide +kernel
theorem dX12_law_33 : decode cX12_law 33 = .ok (.invokevirtual 291, 3) := by decide +kernel
theorem dX12_law_36 : decode cX12_law 36 = .ok (.ifCond .eq 5, 3) := by decide +kernel
theorem dX12_law_39 : decode cX12_law 39 = .ok (.iconst 0, 1) := by decide +kernel
theorem dX12_law_40 : decode cX12_law 40 = .ok (.ireturn, 1) := by decide +kernel
theorem dX12_law_41 : decode cX12_law 41 = .ok (.aload_n 0, 1) := by decide +kernel
theorem dX12_law_42 : decode cX12_law 42 = .ok (.getfield 13, 3) := by decide +kernel
theorem dX12_law_45 : decode cX12_law 45 = .ok (.sipush 1294, 3) := by decide +kernel
theorem dX12_law_48 : decode cX12_law 48 = .ok (.iload_n 1, 1) := by decide +kernel
theorem dX12_law_49 : decode cX12_law 49 = .ok (.iastore, 1) := by decide +kernel
theorem dX12_law_50 : decode cX12_law 50 = .ok (.iconst 0, 1) := by decide +kernel
theorem dX12_law_51 : decode cX12_law 51 = .ok (.istore_n 2, 1) := by decide +kernel
theorem dX12_law_52 : decode cX12_law 52 = .ok (.iload_n 2, 1) := by decide +kernel
theorem dX12_law_53 : decode cX12_law 53 = .ok (.sipush 849, 3) := by decide +kernel
theorem dX12_law_56 : decode cX12_law 56 = .ok (.if_icmp .ge 29, 3) := by decide +kernel
theorem dX12_law_59 : decode cX12_law 59 = .ok (.aload_n 0, 1) := by decide +kernel
theorem dX12_law_60 : decode cX12_law 60 = .ok (.getfield 13, 3) := by decide +kernel
theorem dX12_law_63 : decode cX12_law 63 = .ok (.sipush 445, 3) := by decide +kernel
theorem dX12_law_66 : decode cX12_law 66 = .ok (.iload_n 2, 1) := by decide +kernel
theorem dX12_law_67 : decode cX12_law 67 = .ok (.iadd, 1) := by decide +kernel
theorem dX12_law_68 : decode cX12_law 68 = .ok (.aload_n 0, 1) := by decide +kernel
theorem dX12_law_69 : decode cX12_law 69 = .ok (.getfield 13, 3) := by decide +kernel
theorem dX12_law_72 : decode cX12_law 72 = .ok (.sipush 1294, 3) := by decide +kernel
theorem dX12_law_75 : decode cX12_law 75 = .ok (.iload_n 2, 1) := by decide +kernel
theorem dX12_law_76 : decode cX12_law 76 = .ok (.iadd, 1) := by decide +kernel
theorem dX12_law_77 : decode cX12_law 77 = .ok (.iaload, 1) := by decide +kernel
theorem dX12_law_78 : decode cX12_law 78 = .ok (.iastore, 1) := by decide +kernel
theorem dX12_law_79 : decode cX12_law 79 = .ok (.iinc 2 1, 3) := by decide +kernel
theorem dX12_law_82 : decode cX12_law 82 = .ok (.goto (-30), 3) := by decide +kernel
theorem dX12_law_85 : decode cX12_law 85 = .ok (.aload_n 0, 1) := by decide +kernel
theorem dX12_law_86 : decode cX12_law 86 = .ok (.getfield 13, 3) := by decide +kernel
theorem dX12_law_89 : decode cX12_law 89 = .ok (.iconst 2, 1) := by decide +kernel
theorem dX12_law_90 : decode cX12_law 90 = .ok (.iconst 1, 1) := by decide +kernel
theorem dX12_law_91 : decode cX12_law 91 = .ok (.iastore, 1) := by decide +kernel
theorem dX12_law_92 : decode cX12_law 92 = .ok (.aload_n 0, 1) := by decide +kernel
theorem dX12_law_93 : decode cX12_law 93 = .ok (.iconst 0, 1) := by decide +kernel
theorem dX12_law_94 : decode cX12_law 94 = .ok (.putfield 71, 3) := by decide +kernel
theorem dX12_law_97 : decode cX12_law 97 = .ok (.iload_n 1, 1) := by decide +kernel
theorem dX12_law_98 : decode cX12_law 98 = .ok (.ireturn, 1) := by decide +kernel
theorem dX12_factOf_0 : decode cX12_factOf 0 = .ok (.iload_n 1, 1) := by decide +kernel
theorem dX12_factOf_1 : decode cX12_factOf 1 = .ok (.tableswitch 143 0 8 #[51, 53, 56, 64, 71, 83, 90, 105, 121], 51) := by decide +kernel
theorem dX12_factOf_52 : decode cX12_factOf 52 = .ok (.iload_n 3, 1) := by decide +kernel
theorem dX12_factOf_53 : decode cX12_factOf 53 = .ok (.ireturn, 1) := by decide +kernel
theorem dX12_factOf_54 : decode cX12_factOf 54 = .ok (.iload 4, 2) := by decide +kernel
theorem dX12_factOf_56 : decode cX12_factOf 56 = .ok (.ireturn, 1) := by decide +kernel
theorem dX12_factOf_57 : decode cX12_factOf 57 = .ok (.aload_n 0, 1) := by decide +kernel
theorem dX12_factOf_58 : decode cX12_factOf 58 = .ok (.iload 4, 2) := by decide +kernel
theorem dX12_factOf_60 : decode cX12_factOf 60 = .ok (.iconst 0, 1) := by decide +kernel
theorem dX12_factOf_61 : decode cX12_factOf 61 = .ok (.invokevirtual 86, 3) := by decide +kernel
theorem dX12_factOf_64 : decode cX12_factOf 64 = .ok (.ireturn, 1) := by decide +kernel
theorem dX12_factOf_65 : decode cX12_factOf 65 = .ok (.aload_n 0, 1) := by decide +kernel
theorem dX12_factOf_66 : decode cX12_factOf 66 = .ok (.iload_n 3, 1) := by decide +kernel
theorem dX12_factOf_67 : decode cX12_factOf 67 = .ok (.iconst 0, 1) := by decide +kernel
theorem dX12_factOf_68 : decode cX12_factOf 68 = .ok (.invokevirtual 86, 3) := by decide +kernel
theorem dX12_factOf_71 : decode cX12_factOf 71 = .ok (.ireturn, 1) := by decide +kernel
theorem dX12_factOf_72 : decode cX12_factOf 72 = .ok (.iconst 0, 1) := by decide +kernel
theorem dX12_factOf_73 : decode cX12_factOf 73 = .ok (.aload_n 0, 1) := by decide +kernel
theorem dX12_factOf_74 : decode cX12_factOf 74 = .ok (.iload 4, 2) := by decide +kernel
theorem dX12_factOf_76 : decode cX12_factOf 76 = .ok (.iconst 1, 1) := by decide +kernel
theorem dX12_factOf_77 : decode cX12_factOf 77 = .ok (.invokevirtual 86, 3) := by decide +kernel
theorem dX12_factOf_80 : decode cX12_factOf 80 = .ok (.invokestatic 180, 3) := by decide +kernel
theorem dX12_factOf_83 : decode cX12_factOf 83 = .ok (.ireturn, 1) := by decide +kernel
theorem dX12_factOf_84 : decode cX12_factOf 84 = .ok (.aload_n 0, 1) := by decide +kernel
theorem dX12_factOf_85 : decode cX12_factOf 85 = .ok (.getfield 13, 3) := by decide +kernel
theorem dX12_factOf_88 : decode cX12_factOf 88 = .ok (.iconst 3, 1) := by decide +kernel
theorem dX12_factOf_89 : decode cX12_factOf 89 = .ok (.iaload, 1) := by decide +kernel
theorem dX12_factOf_90 : decode cX12_factOf 90 = .ok (.ireturn, 1) := by decide +kernel
theorem dX12_factOf_91 : decode cX12_factOf 91 = .ok (.aload_n 0, 1) := by decide +kernel
theorem dX12_factOf_92 : decode cX12_factOf 92 = .ok (.iload 4, 2) := by decide +kernel
theorem dX12_factOf_94 : decode cX12_factOf 94 = .ok (.invokevirtual 166, 3) := by decide +kernel
theorem dX12_factOf_97 : decode cX12_factOf 97 = .ok (.ifCond .eq 7, 3) := by decide +kernel
theorem dX12_factOf_100 : decode cX12_factOf 100 = .ok (.iconst 0, 1) := by decide +kernel
theorem dX12_factOf_101 : decode cX12_factOf 101 = .ok (.goto 4, 3) := by decide +kernel
theorem dX12_factOf_104 : decode cX12_factOf 104 = .ok (.iconst 1, 1) := by decide +kernel
theorem dX12_factOf_105 : decode cX12_factOf 105 = .ok (.ireturn, 1) := by decide +kernel
theorem dX12_factOf_106 : decode cX12_factOf 106 = .ok (.aload_n 0, 1) := by decide +kernel
theorem dX12_factOf_107 : decode cX12_factOf 107 = .ok (.iload_n 3, 1) := by decide +kernel
theorem dX12_factOf_108 : decode cX12_factOf 108 = .ok (.iload 4, 2) := by decide +kernel
theorem dX12_factOf_110 : decode cX12_factOf 110 = .ok (.invokevirtual 93, 3) := by decide +kernel
theorem dX12_factOf_113 : decode cX12_factOf 113 = .ok (.ifCond .eq 7, 3) := by decide +kernel
theorem dX12_factOf_116 : decode cX12_factOf 116 = .ok (.iconst 1, 1) := by decide +kernel
theorem dX12_factOf_117 : decode cX12_factOf 117 = .ok (.goto 4, 3) := by decide +kernel
theorem dX12_factOf_120 : decode cX12_factOf 120 = .ok (.iconst 0, 1) := by decide +kernel
theorem dX12_factOf_121 : decode cX12_factOf 121 = .ok (.ireturn, 1) := by decide +kernel
theorem dX12_factOf_122 : decode cX12_factOf 122 = .ok (.aload_n 0, 1) := by decide +kernel
theorem dX12_factOf_123 : decode cX12_factOf 123 = .ok (.iload 4, 2) := by decide +kernel
theorem dX12_factOf_125 : decode cX12_factOf 125 = .ok (.iconst 0, 1) := by decide +kernel
theorem dX12_factOf_126 : decode cX12_factOf 126 = .ok (.invokevirtual 86, 3) := by decide +kernel
theorem dX12_factOf_129 : decode cX12_factOf 129 = .ok (.aload_n 0, 1) := by decide +kernel
theorem dX12_factOf_130 : decode cX12_factOf 130 = .ok (.getfield 13, 3) := by decide +kernel
theorem dX12_factOf_133 : decode cX12_factOf 133 = .ok (.iconst 5, 1) := by decide +kernel
theorem dX12_factOf_134 : decode cX12_factOf 134 = .ok (.iaload, 1) := by decide +kernel
theorem dX12_factOf_135 : decode cX12_factOf 135 = .ok (.if_icmp .ge 7, 3) := by decide +kernel
theorem dX12_factOf_138 : decode cX12_factOf 138 = .ok (.iconst 1, 1) := by decide +kernel
theorem dX12_factOf_139 : decode cX12_factOf 139 = .ok (.goto 4, 3) := by decide +kernel
theorem dX12_factOf_142 : decode cX12_factOf 142 = .ok (.iconst 0, 1) := by decide +kernel
theorem dX12_factOf_143 : decode cX12_factOf 143 = .ok (.ireturn, 1) := by decide +kernel
theorem dX12_factOf_144 : decode cX12_factOf 144 = .ok (.iload_n 2, 1) := by decide +kernel
theorem dX12_factOf_145 : decode cX12_factOf 145 = .ok (.ireturn, 1) := by decide +kernel
theorem dX12_holdsLine_0 : decode cX12_holdsLine 0 = .ok (.iconst 0, 1) := by decide +kernel
theorem dX12_holdsLine_1 : decode cX12_holdsLine 1 = .ok (.istore 4, 2) := by decide +kernel
theorem dX12_holdsLine_3 : decode cX12_holdsLine 3 = .ok (.sipush 446, 3) := by decide +kernel
theorem dX12_holdsLine_6 : decode cX12_holdsLine 6 = .ok (.iconst 4, 1) := by decide +kernel
theorem dX12_holdsLine_7 : decode cX12_holdsLine 7 = .ok (.iload_n 1, 1) := by decide +kernel
theorem dX12_holdsLine_8 : decode cX12_holdsLine 8 = .ok (.imul, 1) := by decide +kernel
theorem dX12_holdsLine_9 : decode cX12_holdsLine 9 = .ok (.iadd, 1) := by decide +kernel
theorem dX12_holdsLine_10 : decode cX12_holdsLine 10 = .ok (.istore 5, 2) := by decide +kernel
theorem dX12_holdsLine_12 : decode cX12_holdsLine 12 = .ok (.aload_n 0, 1) := by decide +kernel
theorem dX12_holdsLine_13 : decode cX12_holdsLine 13 = .ok (.getfield 13, 3) := by decide +kernel
theorem dX12_holdsLine_16 : decode cX12_holdsLine 16 = .ok (.iload 5, 2) := by decide +kernel
theorem dX12_holdsLine_18 : decode cX12_holdsLine 18 = .ok (.iconst 2, 1) := by decide +kernel
theorem dX12_holdsLine_19 : decode cX12_holdsLine 19 = .ok (.iadd, 1) := by decide +kernel
theorem dX12_holdsLine_20 : decode cX12_holdsLine 20 = .ok (.iaload, 1) := by decide +kernel
theorem dX12_holdsLine_21 : decode cX12_holdsLine 21 = .ok (.istore 6, 2) := by decide +kernel
theorem dX12_holdsLine_23 : decode cX12_holdsLine 23 = .ok (.iload 6, 2) := by decide +kernel
theorem dX12_holdsLine_25 : decode cX12_holdsLine 25 = .ok (.aload_n 0, 1) := by decide +kernel
theorem dX12_holdsLine_26 : decode cX12_holdsLine 26 = .ok (.getfield 13, 3) := by decide +kernel
theorem dX12_holdsLine_29 : decode cX12_holdsLine 29 = .ok (.iload 5, 2) := by decide +kernel
theorem dX12_holdsLine_31 : decode cX12_holdsLine 31 = .ok (.iconst 3, 1) := by decide +kernel
theorem dX12_holdsLine_32 : decode cX12_holdsLine 32 = .ok (.iadd, 1) := by decide +kernel
theorem dX12_holdsLine_33 : decode cX12_holdsLine 33 = .ok (.iaload, 1) := by decide +kernel
theorem dX12_holdsLine_34 : decode cX12_holdsLine 34 = .ok (.if_icmp .ge 237, 3) := by decide +kernel
theorem dX12_holdsLine_37 : decode cX12_holdsLine 37 = .ok (.aload_n 0, 1) := by decide +kernel
theorem dX12_holdsLine_38 : decode cX12_holdsLine 38 = .ok (.getfield 13, 3) := by decide +kernel
theorem dX12_holdsLine_41 : decode cX12_holdsLine 41 = .ok (.sipush 494, 3) := by decide +kernel
theorem dX12_holdsLine_44 : decode cX12_holdsLine 44 = .ok (.iconst 2, 1) := by decide +kernel
theorem dX12_holdsLine_45 : decode cX12_holdsLine 45 = .ok (.iload 6, 2) := by decide +kernel
theorem dX12_holdsLine_47 : decode cX12_holdsLine 47 = .ok (.imul, 1) := by decide +kernel
theorem dX12_holdsLine_48 : decode cX12_holdsLine 48 = .ok (.iadd, 1) := by decide +kernel
theorem dX12_holdsLine_49 : decode cX12_holdsLine 49 = .ok (.iaload, 1) := by decide +kernel
theorem dX12_holdsLine_50 : decode cX12_holdsLine 50 = .ok (.istore 7, 2) := by decide +kernel
theorem dX12_holdsLine_52 : decode cX12_holdsLine 52 = .ok (.iload 7, 2) := by decide +kernel
theorem dX12_holdsLine_54 : decode cX12_holdsLine 54 = .ok (.bipush 9, 2) := by decide +kernel
theorem dX12_holdsLine_56 : decode cX12_holdsLine 56 = .ok (.if_icmp .gt 39, 3) := by decide +kernel
theorem dX12_holdsLine_59 : decode cX12_holdsLine 59 = .ok (.aload_n 0, 1) := by decide +kernel
theorem dX12_holdsLine_60 : decode cX12_holdsLine 60 = .ok (.getfield 39, 3) := by decide +kernel
theorem dX12_holdsLine_63 : decode cX12_holdsLine 63 = .ok (.iload 4, 2) := by decide +kernel
theorem dX12_holdsLine_65 : decode cX12_holdsLine 65 = .ok (.aload_n 0, 1) := by decide +kernel
theorem dX12_holdsLine_66 : decode cX12_holdsLine 66 = .ok (.iload 7, 2) := by decide +kernel
theorem dX12_holdsLine_68 : decode cX12_holdsLine 68 = .ok (.aload_n 0, 1) := by decide +kernel
theorem dX12_holdsLine_69 : decode cX12_holdsLine 69 = .ok (.getfield 13, 3) := by decide +kernel
theorem dX12_holdsLine_72 : decode cX12_holdsLine 72 = .ok (.sipush 494, 3) := by decide +kernel
theorem dX12_holdsLine_75 : decode cX12_holdsLine 75 = .ok (.iconst 2, 1) := by decide +kernel
theorem dX12_holdsLine_76 : decode cX12_holdsLine 76 = .ok (.iload 6, 2) := by decide +kernel
theorem dX12_holdsLine_78 : decode cX12_holdsLine 78 = .ok (.imul, 1) := by decide +kernel
theorem dX12_holdsLine_79 : decode cX12_holdsLine 79 = .ok (.iadd, 1) := by decide +kernel
theorem dX12_holdsLine_80 : decode cX12_holdsLine 80 = .ok (.iconst 1, 1) := by decide +kernel
theorem dX12_holdsLine_81 : decode cX12_holdsLine 81 = .ok (.iadd, 1) := by decide +kernel
theorem dX12_holdsLine_82 : decode cX12_holdsLine 82 = .ok (.iaload, 1) := by decide +kernel
theorem dX12_holdsLine_83 : decode cX12_holdsLine 83 = .ok (.iload_n 2, 1) := by decide +kernel
theorem dX12_holdsLine_84 : decode cX12_holdsLine 84 = .ok (.iload_n 3, 1) := by decide +kernel
theorem dX12_holdsLine_85 : decode cX12_holdsLine 85 = .ok (.invokevirtual 294, 3) := by decide +kernel
theorem dX12_holdsLine_88 : decode cX12_holdsLine 88 = .ok (.iastore, 1) := by decide +kernel
theorem dX12_holdsLine_89 : decode cX12_holdsLine 89 = .ok (.iinc 4 1, 3) := by decide +kernel
theorem dX12_holdsLine_92 : decode cX12_holdsLine 92 = .ok (.goto 173, 3) := by decide +kernel
theorem dX12_holdsLine_95 : decode cX12_holdsLine 95 = .ok (.iload 7, 2) := by decide +kernel
theorem dX12_holdsLine_97 : decode cX12_holdsLine 97 = .ok (.bipush 13, 2) := by decide +kernel
theorem dX12_holdsLine_99 : decode cX12_holdsLine 99 = .ok (.if_icmp .ne 26, 3) := by decide +kernel
theorem dX12_holdsLine_102 : decode cX12_holdsLine 102 = .ok (.aload_n 0, 1) := by decide +kernel
theorem dX12_holdsLine_103 : decode cX12_holdsLine 103 = .ok (.getfield 39, 3) := by decide +kernel
theorem dX12_holdsLine_106 : decode cX12_holdsLine 106 = .ok (.iload 4, 2) := by decide +kernel
theorem dX12_holdsLine_108 : decode cX12_holdsLine 108 = .ok (.iconst 1, 1) := by decide +kernel
theorem dX12_holdsLine_109 : decode cX12_holdsLine 109 = .ok (.isub, 1) := by decide +kernel
theorem dX12_holdsLine_110 : decode cX12_holdsLine 110 = .ok (.iconst 1, 1) := by decide +kernel
theorem dX12_holdsLine_111 : decode cX12_holdsLine 111 = .ok (.aload_n 0, 1) := by decide +kernel
theorem dX12_holdsLine_112 : decode cX12_holdsLine 112 = .ok (.getfield 39, 3) := by decide +kernel
theorem dX12_holdsLine_115 : decode cX12_holdsLine 115 = .ok (.iload 4, 2) := by decide +kernel
theorem dX12_holdsLine_117 : decode cX12_holdsLine 117 = .ok (.iconst 1, 1) := by decide +kernel
theorem dX12_holdsLine_118 : decode cX12_holdsLine 118 = .ok (.isub, 1) := by decide +kernel
theorem dX12_holdsLine_119 : decode cX12_holdsLine 119 = .ok (.iaload, 1) := by decide +kernel
theorem dX12_holdsLine_120 : decode cX12_holdsLine 120 = .ok (.isub, 1) := by decide +kernel
theorem dX12_holdsLine_121 : decode cX12_holdsLine 121 = .ok (.iastore, 1) := by decide +kernel
theorem dX12_holdsLine_122 : decode cX12_holdsLine 122 = .ok (.goto 143, 3) := by decide +kernel
theorem dX12_holdsLine_125 : decode cX12_holdsLine 125 = .ok (.iinc 4 (-1), 3) := by decide +kernel
theorem dX12_holdsLine_128 : decode cX12_holdsLine 128 = .ok (.aload_n 0, 1) := by decide +kernel
theorem dX12_holdsLine_129 : decode cX12_holdsLine 129 = .ok (.getfield 39, 3) := by decide +kernel
theorem dX12_holdsLine_132 : decode cX12_holdsLine 132 = .ok (.iload 4, 2) := by decide +kernel
theorem dX12_holdsLine_134 : decode cX12_holdsLine 134 = .ok (.iconst 1, 1) := by decide +kernel
theorem dX12_holdsLine_135 : decode cX12_holdsLine 135 = .ok (.isub, 1) := by decide +kernel
theorem dX12_holdsLine_136 : decode cX12_holdsLine 136 = .ok (.iaload, 1) := by decide +kernel
theorem dX12_holdsLine_137 : decode cX12_holdsLine 137 = .ok (.istore 8, 2) := by decide +kernel
theorem dX12_holdsLine_139 : decode cX12_holdsLine 139 = .ok (.aload_n 0, 1) := by decide +kernel
theorem dX12_holdsLine_140 : decode cX12_holdsLine 140 = .ok (.getfield 39, 3) := by decide +kernel
theorem dX12_holdsLine_143 : decode cX12_holdsLine 143 = .ok (.iload 4, 2) := by decide +kernel
theorem dX12_holdsLine_145 : decode cX12_holdsLine 145 = .ok (.iaload, 1) := by decide +kernel
theorem dX12_holdsLine_146 : decode cX12_holdsLine 146 = .ok (.istore 9, 2) := by decide +kernel
theorem dX12_holdsLine_148 : decode cX12_holdsLine 148 = .ok (.iload 7, 2) := by decide +kernel
theorem dX12_holdsLine_150 : decode cX12_holdsLine 150 = .ok (.bipush 11, 2) := by decide +kernel
theorem dX12_holdsLine_152 : decode cX12_holdsLine 152 = .ok (.if_icmp .ne 18, 3) := by decide +kernel
theorem dX12_holdsLine_155 : decode cX12_holdsLine 155 = .ok (.iload 8, 2) := by decide +kernel
theorem dX12_holdsLine_157 : decode cX12_holdsLine 157 = .ok (.iload 9, 2) := by decide +kernel
theorem dX12_holdsLine_159 : decode cX12_holdsLine 159 = .ok (.if_icmp .ge 7, 3) := by decide +kernel
theorem dX12_holdsLine_162 : decode cX12_holdsLine 162 = .ok (.iconst 1, 1) := by decide +kernel
theorem dX12_holdsLine_163 : decode cX12_holdsLine 163 = .ok (.goto 66, 3) := by decide +kernel
theorem dX12_holdsLine_166 : decode cX12_holdsLine 166 = .ok (.iconst 0, 1) := by decide +kernel
theorem dX12_holdsLine_167 : decode cX12_holdsLine 167 = .ok (.goto 62, 3) := by decide +kernel
theorem dX12_holdsLine_170 : decode cX12_holdsLine 170 = .ok (.iload 7, 2) := by decide +kernel
theorem dX12_holdsLine_172 : decode cX12_holdsLine 172 = .ok (.bipush 12, 2) := by decide +kernel
theorem dX12_holdsLine_174 : decode cX12_holdsLine 174 = .ok (.if_icmp .ne 18, 3) := by decide +kernel
theorem dX12_holdsLine_177 : decode cX12_holdsLine 177 = .ok (.iload 8, 2) := by decide +kernel
theorem dX12_holdsLine_179 : decode cX12_holdsLine 179 = .ok (.iload 9, 2) := by decide +kernel
theorem dX12_holdsLine_181 : decode cX12_holdsLine 181 = .ok (.if_icmp .le 7, 3) := by decide +kernel
theorem dX12_holdsLine_184 : decode cX12_holdsLine 184 = .ok (.iconst 1, 1) := by decide +kernel
theorem dX12_holdsLine_185 : decode cX12_holdsLine 185 = .ok (.goto 44, 3) := by decide +kernel
theorem dX12_holdsLine_188 : decode cX12_holdsLine 188 = .ok (.iconst 0, 1) := by decide +kernel
theorem dX12_holdsLine_189 : decode cX12_holdsLine 189 = .ok (.goto 40, 3) := by decide +kernel
theorem dX12_holdsLine_192 : decode cX12_holdsLine 192 = .ok (.iload 7, 2) := by decide +kernel
theorem dX12_holdsLine_194 : decode cX12_holdsLine 194 = .ok (.bipush 14, 2) := by decide +kernel
theorem dX12_holdsLine_196 : decode cX12_holdsLine 196 = .ok (.if_icmp .ne 20, 3) := by decide +kernel
theorem dX12_holdsLine_199 : decode cX12_holdsLine 199 = .ok (.iload 8, 2) := by decide +kernel
theorem dX12_holdsLine_201 : decode cX12_holdsLine 201 = .ok (.iload 9, 2) := by decide +kernel
theorem dX12_holdsLine_203 : decode cX12_holdsLine 203 = .ok (.iadd, 1) := by decide +kernel
theorem dX12_holdsLine_204 : decode cX12_holdsLine 204 = .ok (.iconst 2, 1) := by decide +kernel
theorem dX12_holdsLine_205 : decode cX12_holdsLine 205 = .ok (.if_icmp .ne 7, 3) := by decide +kernel
theorem dX12_holdsLine_208 : decode cX12_holdsLine 208 = .ok (.iconst 1, 1) := by decide +kernel
theorem dX12_holdsLine_209 : decode cX12_holdsLine 209 = .ok (.goto 20, 3) := by decide +kernel
theorem dX12_holdsLine_212 : decode cX12_holdsLine 212 = .ok (.iconst 0, 1) := by decide +kernel
theorem dX12_holdsLine_213 : decode cX12_holdsLine 213 = .ok (.goto 16, 3) := by decide +kernel
theorem dX12_holdsLine_216 : decode cX12_holdsLine 216 = .ok (.iload 8, 2) := by decide +kernel
theorem dX12_holdsLine_218 : decode cX12_holdsLine 218 = .ok (.iload 9, 2) := by decide +kernel
theorem dX12_holdsLine_220 : decode cX12_holdsLine 220 = .ok (.iadd, 1) := by decide +kernel
theorem dX12_holdsLine_221 : decode cX12_holdsLine 221 = .ok (.ifCond .le 7, 3) := by decide +kernel
theorem dX12_holdsLine_224 : decode cX12_holdsLine 224 = .ok (.iconst 1, 1) := by decide +kernel
theorem dX12_holdsLine_225 : decode cX12_holdsLine 225 = .ok (.goto 4, 3) := by decide +kernel
theorem dX12_holdsLine_228 : decode cX12_holdsLine 228 = .ok (.iconst 0, 1) := by decide +kernel
theorem dX12_holdsLine_229 : decode cX12_holdsLine 229 = .ok (.istore 10, 2) := by decide +kernel
theorem dX12_holdsLine_231 : decode cX12_holdsLine 231 = .ok (.aload_n 0, 1) := by decide +kernel
theorem dX12_holdsLine_232 : decode cX12_holdsLine 232 = .ok (.getfield 39, 3) := by decide +kernel
theorem dX12_holdsLine_235 : decode cX12_holdsLine 235 = .ok (.iload 4, 2) := by decide +kernel
theorem dX12_holdsLine_237 : decode cX12_holdsLine 237 = .ok (.iconst 1, 1) := by decide +kernel
theorem dX12_holdsLine_238 : decode cX12_holdsLine 238 = .ok (.isub, 1) := by decide +kernel
theorem dX12_holdsLine_239 : decode cX12_holdsLine 239 = .ok (.iload 7, 2) := by decide +kernel
theorem dX12_holdsLine_241 : decode cX12_holdsLine 241 = .ok (.bipush 10, 2) := by decide +kernel
theorem dX12_holdsLine_243 : decode cX12_holdsLine 243 = .ok (.if_icmp .ne 11, 3) := by decide +kernel
theorem dX12_holdsLine_246 : decode cX12_holdsLine 246 = .ok (.iload 8, 2) := by decide +kernel
theorem dX12_holdsLine_248 : decode cX12_holdsLine 248 = .ok (.iload 9, 2) := by decide +kernel
theorem dX12_holdsLine_250 : decode cX12_holdsLine 250 = .ok (.iadd, 1) := by decide +kernel
theorem dX12_holdsLine_251 : decode cX12_holdsLine 251 = .ok (.goto 13, 3) := by decide +kernel
theorem dX12_holdsLine_254 : decode cX12_holdsLine 254 = .ok (.iload 10, 2) := by decide +kernel
theorem dX12_holdsLine_256 : decode cX12_holdsLine 256 = .ok (.ifCond .eq 7, 3) := by decide +kernel
theorem dX12_holdsLine_259 : decode cX12_holdsLine 259 = .ok (.iconst 1, 1) := by decide +kernel
theorem dX12_holdsLine_260 : decode cX12_holdsLine 260 = .ok (.goto 4, 3) := by decide +kernel
theorem dX12_holdsLine_263 : decode cX12_holdsLine 263 = .ok (.iconst 0, 1) := by decide +kernel
theorem dX12_holdsLine_264 : decode cX12_holdsLine 264 = .ok (.iastore, 1) := by decide +kernel
theorem dX12_holdsLine_265 : decode cX12_holdsLine 265 = .ok (.iinc 6 1, 3) := by decide +kernel
theorem dX12_holdsLine_268 : decode cX12_holdsLine 268 = .ok (.goto (-245), 3) := by decide +kernel
theorem dX12_holdsLine_271 : decode cX12_holdsLine 271 = .ok (.iload 4, 2) := by decide +kernel
theorem dX12_holdsLine_273 : decode cX12_holdsLine 273 = .ok (.ifCond .eq 13, 3) := by decide +kernel
theorem dX12_holdsLine_276 : decode cX12_holdsLine 276 = .ok (.aload_n 0, 1) := by decide +kernel
theorem dX12_holdsLine_277 : decode cX12_holdsLine 277 = .ok (.getfield 39, 3) := by decide +kernel
theorem dX12_holdsLine_280 : decode cX12_holdsLine 280 = .ok (.iconst 0, 1) := by decide +kernel
theorem dX12_holdsLine_281 : decode cX12_holdsLine 281 = .ok (.iaload, 1) := by decide +kernel
theorem dX12_holdsLine_282 : decode cX12_holdsLine 282 = .ok (.iconst 1, 1) := by decide +kernel
theorem dX12_holdsLine_283 : decode cX12_holdsLine 283 = .ok (.if_icmp .ne 7, 3) := by decide +kernel
theorem dX12_holdsLine_286 : decode cX12_holdsLine 286 = .ok (.iconst 1, 1) := by decide +kernel
theorem dX12_holdsLine_287 : decode cX12_holdsLine 287 = .ok (.goto 4, 3) := by decide +kernel
theorem dX12_holdsLine_290 : decode cX12_holdsLine 290 = .ok (.iconst 0, 1) := by decide +kernel
theorem dX12_holdsLine_291 : decode cX12_holdsLine 291 = .ok (.ireturn, 1) := by decide +kernel
theorem dX12_sumOf_0 : decode cX12_sumOf 0 = .ok (.iconst 0, 1) := by decide +kernel
theorem dX12_sumOf_1 : decode cX12_sumOf 1 = .ok (.istore 4, 2) := by decide +kernel
theorem dX12_sumOf_3 : decode cX12_sumOf 3 = .ok (.iconst 0, 1) := by decide +kernel
theorem dX12_sumOf_4 : decode cX12_sumOf 4 = .ok (.istore 5, 2) := by decide +kernel
theorem dX12_sumOf_6 : decode cX12_sumOf 6 = .ok (.aload_n 0, 1) := by decide +kernel
theorem dX12_sumOf_7 : decode cX12_sumOf 7 = .ok (.getfield 13, 3) := by decide +kernel
theorem dX12_sumOf_10 : decode cX12_sumOf 10 = .ok (.iconst 2, 1) := by decide +kernel
theorem dX12_sumOf_11 : decode cX12_sumOf 11 = .ok (.iaload, 1) := by decide +kernel
theorem dX12_sumOf_12 : decode cX12_sumOf 12 = .ok (.iconst 1, 1) := by decide +kernel
theorem dX12_sumOf_13 : decode cX12_sumOf 13 = .ok (.if_icmp .ne 70, 3) := by decide +kernel
theorem dX12_sumOf_16 : decode cX12_sumOf 16 = .ok (.iload 5, 2) := by decide +kernel
theorem dX12_sumOf_18 : decode cX12_sumOf 18 = .ok (.aload_n 0, 1) := by decide +kernel
theorem dX12_sumOf_19 : decode cX12_sumOf 19 = .ok (.getfield 13, 3) := by decide +kernel
theorem dX12_sumOf_22 : decode cX12_sumOf 22 = .ok (.sipush 445, 3) := by decide +kernel
theorem dX12_sumOf_25 : decode cX12_sumOf 25 = .ok (.iaload, 1) := by decide +kernel
theorem dX12_sumOf_26 : decode cX12_sumOf 26 = .ok (.if_icmp .ge 57, 3) := by decide +kernel
theorem dX12_sumOf_29 : decode cX12_sumOf 29 = .ok (.aload_n 0, 1) := by decide +kernel
theorem dX12_sumOf_30 : decode cX12_sumOf 30 = .ok (.getfield 13, 3) := by decide +kernel
theorem dX12_sumOf_33 : decode cX12_sumOf 33 = .ok (.sipush 446, 3) := by decide +kernel
theorem dX12_sumOf_36 : decode cX12_sumOf 36 = .ok (.iconst 4, 1) := by decide +kernel
theorem dX12_sumOf_37 : decode cX12_sumOf 37 = .ok (.iload 5, 2) := by decide +kernel
theorem dX12_sumOf_39 : decode cX12_sumOf 39 = .ok (.imul, 1) := by decide +kernel
theorem dX12_sumOf_40 : decode cX12_sumOf 40 = .ok (.iadd, 1) := by decide +kernel
theorem dX12_sumOf_41 : decode cX12_sumOf 41 = .ok (.iaload, 1) := by decide +kernel
theorem dX12_sumOf_42 : decode cX12_sumOf 42 = .ok (.iload_n 1, 1) := by decide +kernel
theorem dX12_sumOf_43 : decode cX12_sumOf 43 = .ok (.if_icmp .ne 34, 3) := by decide +kernel
theorem dX12_sumOf_46 : decode cX12_sumOf 46 = .ok (.aload_n 0, 1) := by decide +kernel
theorem dX12_sumOf_47 : decode cX12_sumOf 47 = .ok (.iload 5, 2) := by decide +kernel
theorem dX12_sumOf_49 : decode cX12_sumOf 49 = .ok (.iload_n 2, 1) := by decide +kernel
theorem dX12_sumOf_50 : decode cX12_sumOf 50 = .ok (.iload_n 3, 1) := by decide +kernel
theorem dX12_sumOf_51 : decode cX12_sumOf 51 = .ok (.invokevirtual 298, 3) := by decide +kernel
theorem dX12_sumOf_54 : decode cX12_sumOf 54 = .ok (.ifCond .eq 23, 3) := by decide +kernel
theorem dX12_sumOf_57 : decode cX12_sumOf 57 = .ok (.iload 4, 2) := by decide +kernel
theorem dX12_sumOf_59 : decode cX12_sumOf 59 = .ok (.aload_n 0, 1) := by decide +kernel
theorem dX12_sumOf_60 : decode cX12_sumOf 60 = .ok (.getfield 13, 3) := by decide +kernel
theorem dX12_sumOf_63 : decode cX12_sumOf 63 = .ok (.sipush 446, 3) := by decide +kernel
theorem dX12_sumOf_66 : decode cX12_sumOf 66 = .ok (.iconst 4, 1) := by decide +kernel
theorem dX12_sumOf_67 : decode cX12_sumOf 67 = .ok (.iload 5, 2) := by decide +kernel
theorem dX12_sumOf_69 : decode cX12_sumOf 69 = .ok (.imul, 1) := by decide +kernel
theorem dX12_sumOf_70 : decode cX12_sumOf 70 = .ok (.iadd, 1) := by decide +kernel
theorem dX12_sumOf_71 : decode cX12_sumOf 71 = .ok (.iconst 1, 1) := by decide +kernel
theorem dX12_sumOf_72 : decode cX12_sumOf 72 = .ok (.iadd, 1) := by decide +kernel
theorem dX12_sumOf_73 : decode cX12_sumOf 73 = .ok (.iaload, 1) := by decide +kernel
theorem dX12_sumOf_74 : decode cX12_sumOf 74 = .ok (.iadd, 1) := by decide +kernel
theorem dX12_sumOf_75 : decode cX12_sumOf 75 = .ok (.istore 4, 2) := by decide +kernel
theorem dX12_sumOf_77 : decode cX12_sumOf 77 = .ok (.iinc 5 1, 3) := by decide +kernel
theorem dX12_sumOf_80 : decode cX12_sumOf 80 = .ok (.goto (-74), 3) := by decide +kernel
theorem dX12_sumOf_83 : decode cX12_sumOf 83 = .ok (.iload 4, 2) := by decide +kernel
theorem dX12_sumOf_85 : decode cX12_sumOf 85 = .ok (.ireturn, 1) := by decide +kernel
theorem dX12_weighsOf_0 : decode cX12_weighsOf 0 = .ok (.aload_n 0, 1) := by decide +kernel
theorem dX12_weighsOf_1 : decode cX12_weighsOf 1 = .ok (.iconst 2, 1) := by decide +kernel
theorem dX12_weighsOf_2 : decode cX12_weighsOf 2 = .ok (.iload_n 1, 1) := by decide +kernel
theorem dX12_weighsOf_3 : decode cX12_weighsOf 3 = .ok (.iload_n 2, 1) := by decide +kernel
theorem dX12_weighsOf_4 : decode cX12_weighsOf 4 = .ok (.invokevirtual 301, 3) := by decide +kernel
theorem dX12_weighsOf_7 : decode cX12_weighsOf 7 = .ok (.ifCond .le 5, 3) := by decide +kernel
theorem dX12_weighsOf_10 : decode cX12_weighsOf 10 = .ok (.iconst 0, 1) := by decide +kernel
theorem dX12_weighsOf_11 : decode cX12_weighsOf 11 = .ok (.ireturn, 1) := by decide +kernel
theorem dX12_weighsOf_12 : decode cX12_weighsOf 12 = .ok (.aload_n 0, 1) := by decide +kernel
theorem dX12_weighsOf_13 : decode cX12_weighsOf 13 = .ok (.getfield 13, 3) := by decide +kernel
theorem dX12_weighsOf_16 : decode cX12_weighsOf 16 = .ok (.bipush 6, 2) := by decide +kernel
theorem dX12_weighsOf_18 : decode cX12_weighsOf 18 = .ok (.iaload, 1) := by decide +kernel
theorem dX12_weighsOf_19 : decode cX12_weighsOf 19 = .ok (.aload_n 0, 1) := by decide +kernel
theorem dX12_weighsOf_20 : decode cX12_weighsOf 20 = .ok (.iload_n 3, 1) := by decide +kernel
theorem dX12_weighsOf_21 : decode cX12_weighsOf 21 = .ok (.ifCond .eq 7, 3) := by decide +kernel
theorem dX12_weighsOf_24 : decode cX12_weighsOf 24 = .ok (.iconst 1, 1) := by decide +kernel
theorem dX12_weighsOf_25 : decode cX12_weighsOf 25 = .ok (.goto 4, 3) := by decide +kernel
theorem dX12_weighsOf_28 : decode cX12_weighsOf 28 = .ok (.iconst 0, 1) := by decide +kernel
theorem dX12_weighsOf_29 : decode cX12_weighsOf 29 = .ok (.iload_n 1, 1) := by decide +kernel
theorem dX12_weighsOf_30 : decode cX12_weighsOf 30 = .ok (.iload_n 2, 1) := by decide +kernel
theorem dX12_weighsOf_31 : decode cX12_weighsOf 31 = .ok (.invokevirtual 301, 3) := by decide +kernel
theorem dX12_weighsOf_34 : decode cX12_weighsOf 34 = .ok (.iadd, 1) := by decide +kernel
theorem dX12_weighsOf_35 : decode cX12_weighsOf 35 = .ok (.aload_n 0, 1) := by decide +kernel
theorem dX12_weighsOf_36 : decode cX12_weighsOf 36 = .ok (.getfield 13, 3) := by decide +kernel
theorem dX12_weighsOf_39 : decode cX12_weighsOf 39 = .ok (.iconst 4, 1) := by decide +kernel
theorem dX12_weighsOf_40 : decode cX12_weighsOf 40 = .ok (.iaload, 1) := by decide +kernel
theorem dX12_weighsOf_41 : decode cX12_weighsOf 41 = .ok (.irem, 1) := by decide +kernel
theorem dX12_weighsOf_42 : decode cX12_weighsOf 42 = .ok (.ireturn, 1) := by decide +kernel
theorem dX12_grows_0 : decode cX12_grows 0 = .ok (.aload_n 0, 1) := by decide +kernel
theorem dX12_grows_1 : decode cX12_grows 1 = .ok (.iload_n 1, 1) := by decide +kernel
theorem dX12_grows_2 : decode cX12_grows 2 = .ok (.iconst 0, 1) := by decide +kernel
theorem dX12_grows_3 : decode cX12_grows 3 = .ok (.invokevirtual 86, 3) := by decide +kernel
theorem dX12_grows_6 : decode cX12_grows 6 = .ok (.iload_n 3, 1) := by decide +kernel
theorem dX12_grows_7 : decode cX12_grows 7 = .ok (.ifCond .eq 7, 3) := by decide +kernel
theorem dX12_grows_10 : decode cX12_grows 10 = .ok (.iload_n 2, 1) := by decide +kernel
theorem dX12_grows_11 : decode cX12_grows 11 = .ok (.goto 5, 3) := by decide +kernel
theorem dX12_grows_14 : decode cX12_grows 14 = .ok (.iload_n 2, 1) := by decide +kernel
theorem dX12_grows_15 : decode cX12_grows 15 = .ok (.ineg, 1) := by decide +kernel
theorem dX12_grows_16 : decode cX12_grows 16 = .ok (.iadd, 1) := by decide +kernel
theorem dX12_grows_17 : decode cX12_grows 17 = .ok (.istore 4, 2) := by decide +kernel
theorem dX12_grows_19 : decode cX12_grows 19 = .ok (.iload 4, 2) := by decide +kernel
theorem dX12_grows_21 : decode cX12_grows 21 = .ok (.ifCond .ge 26, 3) := by decide +kernel
theorem dX12_grows_24 : decode cX12_grows 24 = .ok (.aload_n 0, 1) := by decide +kernel
theorem dX12_grows_25 : decode cX12_grows 25 = .ok (.getfield 13, 3) := by decide +kernel
theorem dX12_grows_28 : decode cX12_grows 28 = .ok (.iload_n 1, 1) := by decide +kernel
theorem dX12_grows_29 : decode cX12_grows 29 = .ok (.iconst 1, 1) := by decide +kernel
theorem dX12_grows_30 : decode cX12_grows 30 = .ok (.invokestatic 74, 3) := by decide +kernel
theorem dX12_grows_33 : decode cX12_grows 33 = .ok (.bipush 99, 2) := by decide +kernel
theorem dX12_grows_35 : decode cX12_grows 35 = .ok (.aload_n 0, 1) := by decide +kernel
theorem dX12_grows_36 : decode cX12_grows 36 = .ok (.iload_n 1, 1) := by decide +kernel
theorem dX12_grows_37 : decode cX12_grows 37 = .ok (.iconst 1, 1) := by decide +kernel
theorem dX12_grows_38 : decode cX12_grows 38 = .ok (.invokevirtual 86, 3) := by decide +kernel
theorem dX12_grows_41 : decode cX12_grows 41 = .ok (.iconst 1, 1) := by decide +kernel
theorem dX12_grows_42 : decode cX12_grows 42 = .ok (.iadd, 1) := by decide +kernel
theorem dX12_grows_43 : decode cX12_grows 43 = .ok (.invokestatic 305, 3) := by decide +kernel
theorem dX12_grows_46 : decode cX12_grows 46 = .ok (.iastore, 1) := by decide +kernel
theorem dX12_grows_47 : decode cX12_grows 47 = .ok (.iload 4, 2) := by decide +kernel
theorem dX12_grows_49 : decode cX12_grows 49 = .ok (.aload_n 0, 1) := by decide +kernel
theorem dX12_grows_50 : decode cX12_grows 50 = .ok (.getfield 13, 3) := by decide +kernel
theorem dX12_grows_53 : decode cX12_grows 53 = .ok (.iconst 4, 1) := by decide +kernel
theorem dX12_grows_54 : decode cX12_grows 54 = .ok (.iaload, 1) := by decide +kernel
theorem dX12_grows_55 : decode cX12_grows 55 = .ok (.if_icmp .lt 26, 3) := by decide +kernel
theorem dX12_grows_58 : decode cX12_grows 58 = .ok (.aload_n 0, 1) := by decide +kernel
theorem dX12_grows_59 : decode cX12_grows 59 = .ok (.getfield 13, 3) := by decide +kernel
theorem dX12_grows_62 : decode cX12_grows 62 = .ok (.iload_n 1, 1) := by decide +kernel
theorem dX12_grows_63 : decode cX12_grows 63 = .ok (.iconst 1, 1) := by decide +kernel
theorem dX12_grows_64 : decode cX12_grows 64 = .ok (.invokestatic 74, 3) := by decide +kernel
theorem dX12_grows_67 : decode cX12_grows 67 = .ok (.bipush (-99), 2) := by decide +kernel
theorem dX12_grows_69 : decode cX12_grows 69 = .ok (.aload_n 0, 1) := by decide +kernel
theorem dX12_grows_70 : decode cX12_grows 70 = .ok (.iload_n 1, 1) := by decide +kernel
theorem dX12_grows_71 : decode cX12_grows 71 = .ok (.iconst 1, 1) := by decide +kernel
theorem dX12_grows_72 : decode cX12_grows 72 = .ok (.invokevirtual 86, 3) := by decide +kernel
theorem dX12_grows_75 : decode cX12_grows 75 = .ok (.iconst 1, 1) := by decide +kernel
theorem dX12_grows_76 : decode cX12_grows 76 = .ok (.isub, 1) := by decide +kernel
theorem dX12_grows_77 : decode cX12_grows 77 = .ok (.invokestatic 180, 3) := by decide +kernel
theorem dX12_grows_80 : decode cX12_grows 80 = .ok (.iastore, 1) := by decide +kernel
theorem dX12_grows_81 : decode cX12_grows 81 = .ok (.aload_n 0, 1) := by decide +kernel
theorem dX12_grows_82 : decode cX12_grows 82 = .ok (.getfield 13, 3) := by decide +kernel
theorem dX12_grows_85 : decode cX12_grows 85 = .ok (.iload_n 1, 1) := by decide +kernel
theorem dX12_grows_86 : decode cX12_grows 86 = .ok (.iconst 0, 1) := by decide +kernel
theorem dX12_grows_87 : decode cX12_grows 87 = .ok (.invokestatic 74, 3) := by decide +kernel
theorem dX12_grows_90 : decode cX12_grows 90 = .ok (.iload 4, 2) := by decide +kernel
theorem dX12_grows_92 : decode cX12_grows 92 = .ok (.aload_n 0, 1) := by decide +kernel
theorem dX12_grows_93 : decode cX12_grows 93 = .ok (.getfield 13, 3) := by decide +kernel
theorem dX12_grows_96 : decode cX12_grows 96 = .ok (.iconst 4, 1) := by decide +kernel
theorem dX12_grows_97 : decode cX12_grows 97 = .ok (.iaload, 1) := by decide +kernel
theorem dX12_grows_98 : decode cX12_grows 98 = .ok (.iadd, 1) := by decide +kernel
theorem dX12_grows_99 : decode cX12_grows 99 = .ok (.aload_n 0, 1) := by decide +kernel
theorem dX12_grows_100 : decode cX12_grows 100 = .ok (.getfield 13, 3) := by decide +kernel
theorem dX12_grows_103 : decode cX12_grows 103 = .ok (.iconst 4, 1) := by decide +kernel
theorem dX12_grows_104 : decode cX12_grows 104 = .ok (.iaload, 1) := by decide +kernel
theorem dX12_grows_105 : decode cX12_grows 105 = .ok (.irem, 1) := by decide +kernel
theorem dX12_grows_106 : decode cX12_grows 106 = .ok (.iastore, 1) := by decide +kernel
theorem dX12_grows_107 : decode cX12_grows 107 = .ok (.return_, 1) := by decide +kernel
theorem dX12_hears_0 : decode cX12_hears 0 = .ok (.aload_n 0, 1) := by decide +kernel
theorem dX12_hears_1 : decode cX12_hears 1 = .ok (.iload_n 2, 1) := by decide +kernel
theorem dX12_hears_2 : decode cX12_hears 2 = .ok (.aload_n 0, 1) := by decide +kernel
theorem dX12_hears_3 : decode cX12_hears 3 = .ok (.iload_n 1, 1) := by decide +kernel
theorem dX12_hears_4 : decode cX12_hears 4 = .ok (.iload_n 2, 1) := by decide +kernel
theorem dX12_hears_5 : decode cX12_hears 5 = .ok (.iload_n 3, 1) := by decide +kernel
theorem dX12_hears_6 : decode cX12_hears 6 = .ok (.invokevirtual 308, 3) := by decide +kernel
theorem dX12_hears_9 : decode cX12_hears 9 = .ok (.iload_n 3, 1) := by decide +kernel
theorem dX12_hears_10 : decode cX12_hears 10 = .ok (.invokevirtual 312, 3) := by decide +kernel
theorem dX12_hears_13 : decode cX12_hears 13 = .ok (.return_, 1) := by decide +kernel
theorem dX12_tells_0 : decode cX12_tells 0 = .ok (.sipush 299, 3) := by decide +kernel
theorem dX12_tells_3 : decode cX12_tells 3 = .ok (.istore 4, 2) := by decide +kernel
theorem dX12_tells_5 : decode cX12_tells 5 = .ok (.iload 4, 2) := by decide +kernel
theorem dX12_tells_7 : decode cX12_tells 7 = .ok (.iconst 5, 1) := by decide +kernel
theorem dX12_tells_8 : decode cX12_tells 8 = .ok (.if_icmp .lt 33, 3) := by decide +kernel
theorem dX12_tells_11 : decode cX12_tells 11 = .ok (.aload_n 0, 1) := by decide +kernel
theorem dX12_tells_12 : decode cX12_tells 12 = .ok (.getfield 13, 3) := by decide +kernel
theorem dX12_tells_15 : decode cX12_tells 15 = .ok (.sipush 145, 3) := by decide +kernel
theorem dX12_tells_18 : decode cX12_tells 18 = .ok (.iload 4, 2) := by decide +kernel
theorem dX12_tells_20 : decode cX12_tells 20 = .ok (.iadd, 1) := by decide +kernel
theorem dX12_tells_21 : decode cX12_tells 21 = .ok (.aload_n 0, 1) := by decide +kernel
theorem dX12_tells_22 : decode cX12_tells 22 = .ok (.getfield 13, 3) := by decide +kernel
theorem dX12_tells_25 : decode cX12_tells 25 = .ok (.sipush 145, 3) := by decide +kernel
theorem dX12_tells_28 : decode cX12_tells 28 = .ok (.iload 4, 2) := by decide +kernel
theorem dX12_tells_30 : decode cX12_tells 30 = .ok (.iadd, 1) := by decide +kernel
theorem dX12_tells_31 : decode cX12_tells 31 = .ok (.iconst 5, 1) := by decide +kernel
theorem dX12_tells_32 : decode cX12_tells 32 = .ok (.isub, 1) := by decide +kernel
theorem dX12_tells_33 : decode cX12_tells 33 = .ok (.iaload, 1) := by decide +kernel
theorem dX12_tells_34 : decode cX12_tells 34 = .ok (.iastore, 1) := by decide +kernel
theorem dX12_tells_35 : decode cX12_tells 35 = .ok (.iinc 4 (-1), 3) := by decide +kernel
theorem dX12_tells_38 : decode cX12_tells 38 = .ok (.goto (-33), 3) := by decide +kernel
theorem dX12_tells_41 : decode cX12_tells 41 = .ok (.aload_n 0, 1) := by decide +kernel
theorem dX12_tells_42 : decode cX12_tells 42 = .ok (.getfield 13, 3) := by decide +kernel
theorem dX12_tells_45 : decode cX12_tells 45 = .ok (.sipush 145, 3) := by decide +kernel
theorem dX12_tells_48 : decode cX12_tells 48 = .ok (.aload_n 0, 1) := by decide +kernel
theorem dX12_tells_49 : decode cX12_tells 49 = .ok (.getfield 13, 3) := by decide +kernel
theorem dX12_tells_52 : decode cX12_tells 52 = .ok (.iconst 3, 1) := by decide +kernel
theorem dX12_tells_53 : decode cX12_tells 53 = .ok (.iaload, 1) := by decide +kernel
theorem dX12_tells_54 : decode cX12_tells 54 = .ok (.iastore, 1) := by decide +kernel
theorem dX12_tells_55 : decode cX12_tells 55 = .ok (.aload_n 0, 1) := by decide +kernel
theorem dX12_tells_56 : decode cX12_tells 56 = .ok (.getfield 13, 3) := by decide +kernel
theorem dX12_tells_59 : decode cX12_tells 59 = .ok (.sipush 146, 3) := by decide +kernel
theorem dX12_tells_62 : decode cX12_tells 62 = .ok (.iload_n 1, 1) := by decide +kernel
theorem dX12_tells_63 : decode cX12_tells 63 = .ok (.iastore, 1) := by decide +kernel
theorem dX12_tells_64 : decode cX12_tells 64 = .ok (.aload_n 0, 1) := by decide +kernel
theorem dX12_tells_65 : decode cX12_tells 65 = .ok (.getfield 13, 3) := by decide +kernel
theorem dX12_tells_68 : decode cX12_tells 68 = .ok (.sipush 147, 3) := by decide +kernel
theorem dX12_tells_71 : decode cX12_tells 71 = .ok (.iload_n 2, 1) := by decide +kernel
theorem dX12_tells_72 : decode cX12_tells 72 = .ok (.iastore, 1) := by decide +kernel
theorem dX12_tells_73 : decode cX12_tells 73 = .ok (.aload_n 0, 1) := by decide +kernel
theorem dX12_tells_74 : decode cX12_tells 74 = .ok (.getfield 13, 3) := by decide +kernel
theorem dX12_tells_77 : decode cX12_tells 77 = .ok (.sipush 148, 3) := by decide +kernel
theorem dX12_tells_80 : decode cX12_tells 80 = .ok (.iload_n 3, 1) := by decide +kernel
theorem dX12_tells_81 : decode cX12_tells 81 = .ok (.ifCond .eq 7, 3) := by decide +kernel
theorem dX12_tells_84 : decode cX12_tells 84 = .ok (.iconst 1, 1) := by decide +kernel
theorem dX12_tells_85 : decode cX12_tells 85 = .ok (.goto 4, 3) := by decide +kernel
theorem dX12_tells_88 : decode cX12_tells 88 = .ok (.iconst 0, 1) := by decide +kernel
theorem dX12_tells_89 : decode cX12_tells 89 = .ok (.iastore, 1) := by decide +kernel
theorem dX12_tells_90 : decode cX12_tells 90 = .ok (.aload_n 0, 1) := by decide +kernel
theorem dX12_tells_91 : decode cX12_tells 91 = .ok (.getfield 13, 3) := by decide +kernel
theorem dX12_tells_94 : decode cX12_tells 94 = .ok (.sipush 149, 3) := by decide +kernel
theorem dX12_tells_97 : decode cX12_tells 97 = .ok (.aload_n 0, 1) := by decide +kernel
theorem dX12_tells_98 : decode cX12_tells 98 = .ok (.iload_n 2, 1) := by decide +kernel
theorem dX12_tells_99 : decode cX12_tells 99 = .ok (.iconst 0, 1) := by decide +kernel
theorem dX12_tells_100 : decode cX12_tells 100 = .ok (.invokevirtual 86, 3) := by decide +kernel
theorem dX12_tells_103 : decode cX12_tells 103 = .ok (.iastore, 1) := by decide +kernel
theorem dX12_tells_104 : decode cX12_tells 104 = .ok (.aload_n 0, 1) := by decide +kernel
theorem dX12_tells_105 : decode cX12_tells 105 = .ok (.getfield 13, 3) := by decide +kernel
theorem dX12_tells_108 : decode cX12_tells 108 = .ok (.bipush 7, 2) := by decide +kernel
theorem dX12_tells_110 : decode cX12_tells 110 = .ok (.bipush 60, 2) := by decide +kernel
theorem dX12_tells_112 : decode cX12_tells 112 = .ok (.aload_n 0, 1) := by decide +kernel
theorem dX12_tells_113 : decode cX12_tells 113 = .ok (.getfield 13, 3) := by decide +kernel
theorem dX12_tells_116 : decode cX12_tells 116 = .ok (.bipush 7, 2) := by decide +kernel
theorem dX12_tells_118 : decode cX12_tells 118 = .ok (.iaload, 1) := by decide +kernel
theorem dX12_tells_119 : decode cX12_tells 119 = .ok (.iconst 1, 1) := by decide +kernel
theorem dX12_tells_120 : decode cX12_tells 120 = .ok (.iadd, 1) := by decide +kernel
theorem dX12_tells_121 : decode cX12_tells 121 = .ok (.invokestatic 305, 3) := by decide +kernel
theorem dX12_tells_124 : decode cX12_tells 124 = .ok (.iastore, 1) := by decide +kernel
theorem dX12_tells_125 : decode cX12_tells 125 = .ok (.return_, 1) := by decide +kernel
theorem dX12_says_0 : decode cX12_says 0 = .ok (.aload_n 0, 1) := by decide +kernel
theorem dX12_says_1 : decode cX12_says 1 = .ok (.iload_n 1, 1) := by decide +kernel
theorem dX12_says_2 : decode cX12_says 2 = .ok (.iload_n 2, 1) := by decide +kernel
theorem dX12_says_3 : decode cX12_says 3 = .ok (.iload_n 3, 1) := by decide +kernel
theorem dX12_says_4 : decode cX12_says 4 = .ok (.invokevirtual 316, 3) := by decide +kernel
theorem dX12_says_7 : decode cX12_says 7 = .ok (.aload_n 0, 1) := by decide +kernel
theorem dX12_says_8 : decode cX12_says 8 = .ok (.iload_n 1, 1) := by decide +kernel
theorem dX12_says_9 : decode cX12_says 9 = .ok (.iload_n 2, 1) := by decide +kernel
theorem dX12_says_10 : decode cX12_says 10 = .ok (.iload_n 3, 1) := by decide +kernel
theorem dX12_says_11 : decode cX12_says 11 = .ok (.invokevirtual 319, 3) := by decide +kernel
theorem dX12_says_14 : decode cX12_says 14 = .ok (.return_, 1) := by decide +kernel
theorem dX12_gapOf_0 : decode cX12_gapOf 0 = .ok (.aload_n 0, 1) := by decide +kernel
theorem dX12_gapOf_1 : decode cX12_gapOf 1 = .ok (.iload_n 1, 1) := by decide +kernel
theorem dX12_gapOf_2 : decode cX12_gapOf 2 = .ok (.iconst 0, 1) := by decide +kernel
theorem dX12_gapOf_3 : decode cX12_gapOf 3 = .ok (.invokevirtual 86, 3) := by decide +kernel
theorem dX12_gapOf_6 : decode cX12_gapOf 6 = .ok (.aload_n 0, 1) := by decide +kernel
theorem dX12_gapOf_7 : decode cX12_gapOf 7 = .ok (.iload_n 2, 1) := by decide +kernel
theorem dX12_gapOf_8 : decode cX12_gapOf 8 = .ok (.iconst 0, 1) := by decide +kernel
theorem dX12_gapOf_9 : decode cX12_gapOf 9 = .ok (.invokevirtual 86, 3) := by decide +kernel
theorem dX12_gapOf_12 : decode cX12_gapOf 12 = .ok (.isub, 1) := by decide +kernel
theorem dX12_gapOf_13 : decode cX12_gapOf 13 = .ok (.invokestatic 322, 3) := by decide +kernel
theorem dX12_gapOf_16 : decode cX12_gapOf 16 = .ok (.istore_n 3, 1) := by decide +kernel
theorem dX12_gapOf_17 : decode cX12_gapOf 17 = .ok (.iload_n 3, 1) := by decide +kernel
theorem dX12_gapOf_18 : decode cX12_gapOf 18 = .ok (.aload_n 0, 1) := by decide +kernel
theorem dX12_gapOf_19 : decode cX12_gapOf 19 = .ok (.getfield 13, 3) := by decide +kernel
theorem dX12_gapOf_22 : decode cX12_gapOf 22 = .ok (.iconst 4, 1) := by decide +kernel
theorem dX12_gapOf_23 : decode cX12_gapOf 23 = .ok (.iaload, 1) := by decide +kernel
theorem dX12_gapOf_24 : decode cX12_gapOf 24 = .ok (.iload_n 3, 1) := by decide +kernel
theorem dX12_gapOf_25 : decode cX12_gapOf 25 = .ok (.isub, 1) := by decide +kernel
theorem dX12_gapOf_26 : decode cX12_gapOf 26 = .ok (.invokestatic 305, 3) := by decide +kernel
theorem dX12_gapOf_29 : decode cX12_gapOf 29 = .ok (.ireturn, 1) := by decide +kernel
theorem dX12_governedBy_0 : decode cX12_governedBy 0 = .ok (.iconst 0, 1) := by decide +kernel
theorem dX12_governedBy_1 : decode cX12_governedBy 1 = .ok (.istore_n 2, 1) := by decide +kernel
theorem dX12_governedBy_2 : decode cX12_governedBy 2 = .ok (.iconst 0, 1) := by decide +kernel
theorem dX12_governedBy_3 : decode cX12_governedBy 3 = .ok (.istore_n 3, 1) := by decide +kernel
theorem dX12_governedBy_4 : decode cX12_governedBy 4 = .ok (.iload_n 3, 1) := by decide +kernel
theorem dX12_governedBy_5 : decode cX12_governedBy 5 = .ok (.aload_n 0, 1) := by decide +kernel
theorem dX12_governedBy_6 : decode cX12_governedBy 6 = .ok (.invokevirtual 78, 3) := by decide +kernel
theorem dX12_governedBy_9 : decode cX12_governedBy 9 = .ok (.if_icmp .ge 28, 3) := by decide +kernel
theorem dX12_governedBy_12 : decode cX12_governedBy 12 = .ok (.iload_n 2, 1) := by decide +kernel
theorem dX12_governedBy_13 : decode cX12_governedBy 13 = .ok (.aload_n 0, 1) := by decide +kernel
theorem dX12_governedBy_14 : decode cX12_governedBy 14 = .ok (.iload_n 1, 1) := by decide +kernel
theorem dX12_governedBy_15 : decode cX12_governedBy 15 = .ok (.iload_n 3, 1) := by decide +kernel
theorem dX12_governedBy_16 : decode cX12_governedBy 16 = .ok (.invokevirtual 326, 3) := by decide +kernel
theorem dX12_governedBy_19 : decode cX12_governedBy 19 = .ok (.ifCond .eq 9, 3) := by decide +kernel
theorem dX12_governedBy_22 : decode cX12_governedBy 22 = .ok (.iconst 1, 1) := by decide +kernel
theorem dX12_governedBy_23 : decode cX12_governedBy 23 = .ok (.iload_n 3, 1) := by decide +kernel
theorem dX12_governedBy_24 : decode cX12_governedBy 24 = .ok (.ishl, 1) := by decide +kernel
theorem dX12_governedBy_25 : decode cX12_governedBy 25 = .ok (.goto 4, 3) := by decide +kernel
theorem dX12_governedBy_28 : decode cX12_governedBy 28 = .ok (.iconst 0, 1) := by decide +kernel
theorem dX12_governedBy_29 : decode cX12_governedBy 29 = .ok (.ior, 1) := by decide +kernel
theorem dX12_governedBy_30 : decode cX12_governedBy 30 = .ok (.istore_n 2, 1) := by decide +kernel
theorem dX12_governedBy_31 : decode cX12_governedBy 31 = .ok (.iinc 3 1, 3) := by decide +kernel
theorem dX12_governedBy_34 : decode cX12_governedBy 34 = .ok (.goto (-30), 3) := by decide +kernel
theorem dX12_governedBy_37 : decode cX12_governedBy 37 = .ok (.iload_n 2, 1) := by decide +kernel
theorem dX12_governedBy_38 : decode cX12_governedBy 38 = .ok (.ireturn, 1) := by decide +kernel
theorem dX12_ofLog_0 : decode cX12_ofLog 0 = .ok (.aload_n 0, 1) := by decide +kernel
theorem dX12_ofLog_1 : decode cX12_ofLog 1 = .ok (.getfield 13, 3) := by decide +kernel
theorem dX12_ofLog_4 : decode cX12_ofLog 4 = .ok (.sipush 145, 3) := by decide +kernel
theorem dX12_ofLog_7 : decode cX12_ofLog 7 = .ok (.iconst 5, 1) := by decide +kernel
theorem dX12_ofLog_8 : decode cX12_ofLog 8 = .ok (.iload_n 1, 1) := by decide +kernel
theorem dX12_ofLog_9 : decode cX12_ofLog 9 = .ok (.imul, 1) := by decide +kernel
theorem dX12_ofLog_10 : decode cX12_ofLog 10 = .ok (.iadd, 1) := by decide +kernel
theorem dX12_ofLog_11 : decode cX12_ofLog 11 = .ok (.iload_n 2, 1) := by decide +kernel
theorem dX12_ofLog_12 : decode cX12_ofLog 12 = .ok (.iadd, 1) := by decide +kernel
theorem dX12_ofLog_13 : decode cX12_ofLog 13 = .ok (.iaload, 1) := by decide +kernel
theorem dX12_ofLog_14 : decode cX12_ofLog 14 = .ok (.ireturn, 1) := by decide +kernel
theorem dX12_shareOf_0 : decode cX12_shareOf 0 = .ok (.iconst 0, 1) := by decide +kernel
theorem dX12_shareOf_1 : decode cX12_shareOf 1 = .ok (.istore_n 2, 1) := by decide +kernel
theorem dX12_shareOf_2 : decode cX12_shareOf 2 = .ok (.iconst 0, 1) := by decide +kernel
theorem dX12_shareOf_3 : decode cX12_shareOf 3 = .ok (.istore_n 3, 1) := by decide +kernel
theorem dX12_shareOf_4 : decode cX12_shareOf 4 = .ok (.iconst 0, 1) := by decide +kernel
theorem dX12_shareOf_5 : decode cX12_shareOf 5 = .ok (.istore 4, 2) := by decide +kernel
theorem dX12_shareOf_7 : decode cX12_shareOf 7 = .ok (.iload 4, 2) := by decide +kernel
theorem dX12_shareOf_9 : decode cX12_shareOf 9 = .ok (.aload_n 0, 1) := by decide +kernel
theorem dX12_shareOf_10 : decode cX12_shareOf 10 = .ok (.getfield 13, 3) := by decide +kernel
theorem dX12_shareOf_13 : decode cX12_shareOf 13 = .ok (.bipush 7, 2) := by decide +kernel
theorem dX12_shareOf_15 : decode cX12_shareOf 15 = .ok (.iaload, 1) := by decide +kernel
theorem dX12_shareOf_16 : decode cX12_shareOf 16 = .ok (.if_icmp .ge 45, 3) := by decide +kernel
theorem dX12_shareOf_19 : decode cX12_shareOf 19 = .ok (.aload_n 0, 1) := by decide +kernel
theorem dX12_shareOf_20 : decode cX12_shareOf 20 = .ok (.iload 4, 2) := by decide +kernel
theorem dX12_shareOf_22 : decode cX12_shareOf 22 = .ok (.iconst 3, 1) := by decide +kernel
theorem dX12_shareOf_23 : decode cX12_shareOf 23 = .ok (.invokevirtual 328, 3) := by decide +kernel
theorem dX12_shareOf_26 : decode cX12_shareOf 26 = .ok (.iconst 1, 1) := by decide +kernel
theorem dX12_shareOf_27 : decode cX12_shareOf 27 = .ok (.if_icmp .ne 6, 3) := by decide +kernel
theorem dX12_shareOf_30 : decode cX12_shareOf 30 = .ok (.goto 25, 3) := by decide +kernel
theorem dX12_shareOf_33 : decode cX12_shareOf 33 = .ok (.iinc 2 1, 3) := by decide +kernel
theorem dX12_shareOf_36 : decode cX12_shareOf 36 = .ok (.iload_n 3, 1) := by decide +kernel
theorem dX12_shareOf_37 : decode cX12_shareOf 37 = .ok (.aload_n 0, 1) := by decide +kernel
theorem dX12_shareOf_38 : decode cX12_shareOf 38 = .ok (.iload 4, 2) := by decide +kernel
theorem dX12_shareOf_40 : decode cX12_shareOf 40 = .ok (.iconst 2, 1) := by decide +kernel
theorem dX12_shareOf_41 : decode cX12_shareOf 41 = .ok (.invokevirtual 328, 3) := by decide +kernel
theorem dX12_shareOf_44 : decode cX12_shareOf 44 = .ok (.iload_n 1, 1) := by decide +kernel
theorem dX12_shareOf_45 : decode cX12_shareOf 45 = .ok (.if_icmp .ne 7, 3) := by decide +kernel
theorem dX12_shareOf_48 : decode cX12_shareOf 48 = .ok (.iconst 1, 1) := by decide +kernel
theorem dX12_shareOf_49 : decode cX12_shareOf 49 = .ok (.goto 4, 3) := by decide +kernel
theorem dX12_shareOf_52 : decode cX12_shareOf 52 = .ok (.iconst 0, 1) := by decide +kernel
theorem dX12_shareOf_53 : decode cX12_shareOf 53 = .ok (.iadd, 1) := by decide +kernel
theorem dX12_shareOf_54 : decode cX12_shareOf 54 = .ok (.istore_n 3, 1) := by decide +kernel
theorem dX12_shareOf_55 : decode cX12_shareOf 55 = .ok (.iinc 4 1, 3) := by decide +kernel
theorem dX12_shareOf_58 : decode cX12_shareOf 58 = .ok (.goto (-51), 3) := by decide +kernel
theorem dX12_shareOf_61 : decode cX12_shareOf 61 = .ok (.iload_n 2, 1) := by decide +kernel
theorem dX12_shareOf_62 : decode cX12_shareOf 62 = .ok (.ifCond .ne 7, 3) := by decide +kernel
theorem dX12_shareOf_65 : decode cX12_shareOf 65 = .ok (.iconst 0, 1) := by decide +kernel
theorem dX12_shareOf_66 : decode cX12_shareOf 66 = .ok (.goto 9, 3) := by decide +kernel
theorem dX12_shareOf_69 : decode cX12_shareOf 69 = .ok (.bipush 100, 2) := by decide +kernel
theorem dX12_shareOf_71 : decode cX12_shareOf 71 = .ok (.iload_n 3, 1) := by decide +kernel
theorem dX12_shareOf_72 : decode cX12_shareOf 72 = .ok (.imul, 1) := by decide +kernel
theorem dX12_shareOf_73 : decode cX12_shareOf 73 = .ok (.iload_n 2, 1) := by decide +kernel
theorem dX12_shareOf_74 : decode cX12_shareOf 74 = .ok (.idiv, 1) := by decide +kernel
theorem dX12_shareOf_75 : decode cX12_shareOf 75 = .ok (.ireturn, 1) := by decide +kernel
theorem dX12_person_0 : decode cX12_person 0 = .ok (.aload_n 0, 1) := by decide +kernel
theorem dX12_person_1 : decode cX12_person 1 = .ok (.iconst 0, 1) := by decide +kernel
theorem dX12_person_2 : decode cX12_person 2 = .ok (.putfield 3, 3) := by decide +kernel
theorem dX12_person_5 : decode cX12_person 5 = .ok (.aload_n 0, 1) := by decide +kernel
theorem dX12_person_6 : decode cX12_person 6 = .ok (.aload_n 0, 1) := by decide +kernel
theorem dX12_person_7 : decode cX12_person 7 = .ok (.iload_n 1, 1) := by decide +kernel
theorem dX12_person_8 : decode cX12_person 8 = .ok (.invokevirtual 331, 3) := by decide +kernel
theorem dX12_person_11 : decode cX12_person 11 = .ok (.iconst 1, 1) := by decide +kernel
theorem dX12_person_12 : decode cX12_person 12 = .ok (.invokevirtual 291, 3) := by decide +kernel
theorem dX12_person_15 : decode cX12_person 15 = .ok (.ifCond .ne 26, 3) := by decide +kernel
theorem dX12_person_18 : decode cX12_person 18 = .ok (.aload_n 0, 1) := by decide +kernel
theorem dX12_person_19 : decode cX12_person 19 = .ok (.iload_n 2, 1) := by decide +kernel
theorem dX12_person_20 : decode cX12_person 20 = .ok (.iconst 0, 1) := by decide +kernel
theorem dX12_person_21 : decode cX12_person 21 = .ok (.bipush 10, 2) := by decide +kernel
theorem dX12_person_23 : decode cX12_person 23 = .ok (.invokestatic 82, 3) := by decide +kernel
theorem dX12_person_26 : decode cX12_person 26 = .ok (.ifCond .ne 7, 3) := by decide +kernel
theorem dX12_person_29 : decode cX12_person 29 = .ok (.iconst 1, 1) := by decide +kernel
theorem dX12_person_30 : decode cX12_person 30 = .ok (.goto 4, 3) := by decide +kernel
theorem dX12_person_33 : decode cX12_person 33 = .ok (.iconst 0, 1) := by decide +kernel
theorem dX12_person_34 : decode cX12_person 34 = .ok (.iconst 2, 1) := by decide +kernel
theorem dX12_person_35 : decode cX12_person 35 = .ok (.invokevirtual 291, 3) := by decide +kernel
theorem dX12_person_38 : decode cX12_person 38 = .ok (.ifCond .eq 5, 3) := by decide +kernel
theorem dX12_person_41 : decode cX12_person 41 = .ok (.iconst 0, 1) := by decide +kernel
theorem dX12_person_42 : decode cX12_person 42 = .ok (.ireturn, 1) := by decide +kernel
theorem dX12_person_43 : decode cX12_person 43 = .ok (.iload_n 2, 1) := by decide +kernel
theorem dX12_person_44 : decode cX12_person 44 = .ok (.bipush 9, 2) := by decide +kernel
theorem dX12_person_46 : decode cX12_person 46 = .ok (.if_icmp .ne 11, 3) := by decide +kernel
theorem dX12_person_49 : decode cX12_person 49 = .ok (.aload_n 0, 1) := by decide +kernel
theorem dX12_person_50 : decode cX12_person 50 = .ok (.iload_n 1, 1) := by decide +kernel
theorem dX12_person_51 : decode cX12_person 51 = .ok (.invokevirtual 334, 3) := by decide +kernel
theorem dX12_person_54 : decode cX12_person 54 = .ok (.goto 23, 3) := by decide +kernel
theorem dX12_person_57 : decode cX12_person 57 = .ok (.iload_n 2, 1) := by decide +kernel
theorem dX12_person_58 : decode cX12_person 58 = .ok (.bipush 10, 2) := by decide +kernel
theorem dX12_person_60 : decode cX12_person 60 = .ok (.if_icmp .ne 11, 3) := by decide +kernel
theorem dX12_person_63 : decode cX12_person 63 = .ok (.aload_n 0, 1) := by decide +kernel
theorem dX12_person_64 : decode cX12_person 64 = .ok (.iload_n 1, 1) := by decide +kernel
theorem dX12_person_65 : decode cX12_person 65 = .ok (.invokevirtual 337, 3) := by decide +kernel
theorem dX12_person_68 : decode cX12_person 68 = .ok (.goto 9, 3) := by decide +kernel
theorem dX12_person_71 : decode cX12_person 71 = .ok (.aload_n 0, 1) := by decide +kernel
theorem dX12_person_72 : decode cX12_person 72 = .ok (.iload_n 1, 1) := by decide +kernel
theorem dX12_person_73 : decode cX12_person 73 = .ok (.iload_n 2, 1) := by decide +kernel
theorem dX12_person_74 : decode cX12_person 74 = .ok (.invokevirtual 86, 3) := by decide +kernel
theorem dX12_person_77 : decode cX12_person 77 = .ok (.ireturn, 1) := by decide +kernel
theorem dX12_noTwo_0 : decode cX12_noTwo 0 = .ok (.aload_n 0, 1) := by decide +kernel
theorem dX12_noTwo_1 : decode cX12_noTwo 1 = .ok (.iconst 0, 1) := by decide +kernel
theorem dX12_noTwo_2 : decode cX12_noTwo 2 = .ok (.putfield 3, 3) := by decide +kernel
theorem dX12_noTwo_5 : decode cX12_noTwo 5 = .ok (.aload_n 0, 1) := by decide +kernel
theorem dX12_noTwo_6 : decode cX12_noTwo 6 = .ok (.aload_n 0, 1) := by decide +kernel
theorem dX12_noTwo_7 : decode cX12_noTwo 7 = .ok (.iload_n 1, 1) := by decide +kernel
theorem dX12_noTwo_8 : decode cX12_noTwo 8 = .ok (.invokevirtual 331, 3) := by decide +kernel
theorem dX12_noTwo_11 : decode cX12_noTwo 11 = .ok (.ifCond .ne 11, 3) := by decide +kernel
theorem dX12_noTwo_14 : decode cX12_noTwo 14 = .ok (.aload_n 0, 1) := by decide +kernel
theorem dX12_noTwo_15 : decode cX12_noTwo 15 = .ok (.iload_n 2, 1) := by decide +kernel
theorem dX12_noTwo_16 : decode cX12_noTwo 16 = .ok (.invokevirtual 331, 3) := by decide +kernel
theorem dX12_noTwo_19 : decode cX12_noTwo 19 = .ok (.ifCond .eq 7, 3) := by decide +kernel
theorem dX12_noTwo_22 : decode cX12_noTwo 22 = .ok (.iconst 1, 1) := by decide +kernel
theorem dX12_noTwo_23 : decode cX12_noTwo 23 = .ok (.goto 4, 3) := by decide +kernel
theorem dX12_noTwo_26 : decode cX12_noTwo 26 = .ok (.iconst 0, 1) := by decide +kernel
theorem dX12_noTwo_27 : decode cX12_noTwo 27 = .ok (.iconst 1, 1) := by decide +kernel
theorem dX12_noTwo_28 : decode cX12_noTwo 28 = .ok (.invokevirtual 291, 3) := by decide +kernel
theorem dX12_noTwo_31 : decode cX12_noTwo 31 = .ok (.ifCond .ne 21, 3) := by decide +kernel
theorem dX12_noTwo_34 : decode cX12_noTwo 34 = .ok (.aload_n 0, 1) := by decide +kernel
theorem dX12_noTwo_35 : decode cX12_noTwo 35 = .ok (.iload_n 1, 1) := by decide +kernel
theorem dX12_noTwo_36 : decode cX12_noTwo 36 = .ok (.iload_n 2, 1) := by decide +kernel
theorem dX12_noTwo_37 : decode cX12_noTwo 37 = .ok (.if_icmp .ne 7, 3) := by decide +kernel
theorem dX12_noTwo_40 : decode cX12_noTwo 40 = .ok (.iconst 1, 1) := by decide +kernel
theorem dX12_noTwo_41 : decode cX12_noTwo 41 = .ok (.goto 4, 3) := by decide +kernel
theorem dX12_noTwo_44 : decode cX12_noTwo 44 = .ok (.iconst 0, 1) := by decide +kernel
theorem dX12_noTwo_45 : decode cX12_noTwo 45 = .ok (.iconst 2, 1) := by decide +kernel
theorem dX12_noTwo_46 : decode cX12_noTwo 46 = .ok (.invokevirtual 291, 3) := by decide +kernel
theorem dX12_noTwo_49 : decode cX12_noTwo 49 = .ok (.ifCond .eq 7, 3) := by decide +kernel
theorem dX12_noTwo_52 : decode cX12_noTwo 52 = .ok (.iconst 1, 1) := by decide +kernel
theorem dX12_noTwo_53 : decode cX12_noTwo 53 = .ok (.goto 4, 3) := by decide +kernel
theorem dX12_noTwo_56 : decode cX12_noTwo 56 = .ok (.iconst 0, 1) := by decide +kernel
theorem dX12_noTwo_57 : decode cX12_noTwo 57 = .ok (.ireturn, 1) := by decide +kernel
theorem dX12_lent_0 : decode cX12_lent 0 = .ok (.aload_n 0, 1) := by decide +kernel
theorem dX12_lent_1 : decode cX12_lent 1 = .ok (.iload_n 1, 1) := by decide +kernel
theorem dX12_lent_2 : decode cX12_lent 2 = .ok (.iload_n 2, 1) := by decide +kernel
theorem dX12_lent_3 : decode cX12_lent 3 = .ok (.invokevirtual 340, 3) := by decide +kernel
theorem dX12_lent_6 : decode cX12_lent 6 = .ok (.ifCond .eq 7, 3) := by decide +kernel
theorem dX12_lent_9 : decode cX12_lent 9 = .ok (.iconst 0, 1) := by decide +kernel
theorem dX12_lent_10 : decode cX12_lent 10 = .ok (.goto 12, 3) := by decide +kernel
theorem dX12_lent_13 : decode cX12_lent 13 = .ok (.aload_n 0, 1) := by decide +kernel
theorem dX12_lent_14 : decode cX12_lent 14 = .ok (.iload_n 1, 1) := by decide +kernel
theorem dX12_lent_15 : decode cX12_lent 15 = .ok (.bipush 9, 2) := by decide +kernel
theorem dX12_lent_17 : decode cX12_lent 17 = .ok (.iload_n 2, 1) := by decide +kernel
theorem dX12_lent_18 : decode cX12_lent 18 = .ok (.iadd, 1) := by decide +kernel
theorem dX12_lent_19 : decode cX12_lent 19 = .ok (.invokevirtual 86, 3) := by decide +kernel
theorem dX12_lent_22 : decode cX12_lent 22 = .ok (.ireturn, 1) := by decide +kernel
theorem dX12_weighs_0 : decode cX12_weighs 0 = .ok (.aload_n 0, 1) := by decide +kernel
theorem dX12_weighs_1 : decode cX12_weighs 1 = .ok (.iload_n 1, 1) := by decide +kernel
theorem dX12_weighs_2 : decode cX12_weighs 2 = .ok (.iload_n 2, 1) := by decide +kernel
theorem dX12_weighs_3 : decode cX12_weighs 3 = .ok (.invokevirtual 340, 3) := by decide +kernel
theorem dX12_weighs_6 : decode cX12_weighs 6 = .ok (.ifCond .eq 7, 3) := by decide +kernel
theorem dX12_weighs_9 : decode cX12_weighs 9 = .ok (.iconst 0, 1) := by decide +kernel
theorem dX12_weighs_10 : decode cX12_weighs 10 = .ok (.goto 10, 3) := by decide +kernel
theorem dX12_weighs_13 : decode cX12_weighs 13 = .ok (.aload_n 0, 1) := by decide +kernel
theorem dX12_weighs_14 : decode cX12_weighs 14 = .ok (.iload_n 1, 1) := by decide +kernel
theorem dX12_weighs_15 : decode cX12_weighs 15 = .ok (.iload_n 2, 1) := by decide +kernel
theorem dX12_weighs_16 : decode cX12_weighs 16 = .ok (.iload_n 3, 1) := by decide +kernel
theorem dX12_weighs_17 : decode cX12_weighs 17 = .ok (.invokevirtual 308, 3) := by decide +kernel
theorem dX12_weighs_20 : decode cX12_weighs 20 = .ok (.ireturn, 1) := by decide +kernel
theorem dX12_gap_0 : decode cX12_gap 0 = .ok (.aload_n 0, 1) := by decide +kernel
theorem dX12_gap_1 : decode cX12_gap 1 = .ok (.iload_n 1, 1) := by decide +kernel
theorem dX12_gap_2 : decode cX12_gap 2 = .ok (.iload_n 2, 1) := by decide +kernel
theorem dX12_gap_3 : decode cX12_gap 3 = .ok (.invokevirtual 340, 3) := by decide +kernel
theorem dX12_gap_6 : decode cX12_gap 6 = .ok (.ifCond .eq 7, 3) := by decide +kernel
theorem dX12_gap_9 : decode cX12_gap 9 = .ok (.iconst 0, 1) := by decide +kernel
theorem dX12_gap_10 : decode cX12_gap 10 = .ok (.goto 9, 3) := by decide +kernel
theorem dX12_gap_13 : decode cX12_gap 13 = .ok (.aload_n 0, 1) := by decide +kernel
theorem dX12_gap_14 : decode cX12_gap 14 = .ok (.iload_n 1, 1) := by decide +kernel
theorem dX12_gap_15 : decode cX12_gap 15 = .ok (.iload_n 2, 1) := by decide +kernel
theorem dX12_gap_16 : decode cX12_gap 16 = .ok (.invokevirtual 343, 3) := by decide +kernel
theorem dX12_gap_19 : decode cX12_gap 19 = .ok (.ireturn, 1) := by decide +kernel
theorem dX12_keepsAll_0 : decode cX12_keepsAll 0 = .ok (.iconst 0, 1) := by decide +kernel
theorem dX12_keepsAll_1 : decode cX12_keepsAll 1 = .ok (.istore_n 1, 1) := by decide +kernel
theorem dX12_keepsAll_2 : decode cX12_keepsAll 2 = .ok (.iload_n 1, 1) := by decide +kernel
theorem dX12_keepsAll_3 : decode cX12_keepsAll 3 = .ok (.sipush 445, 3) := by decide +kernel
theorem dX12_keepsAll_6 : decode cX12_keepsAll 6 = .ok (.if_icmp .ge 21, 3) := by decide +kernel
theorem dX12_keepsAll_9 : decode cX12_keepsAll 9 = .ok (.aload_n 0, 1) := by decide +kernel
theorem dX12_keepsAll_10 : decode cX12_keepsAll 10 = .ok (.getfield 23, 3) := by decide +kernel
theorem dX12_keepsAll_13 : decode cX12_keepsAll 13 = .ok (.iload_n 1, 1) := by decide +kernel
theorem dX12_keepsAll_14 : decode cX12_keepsAll 14 = .ok (.aload_n 0, 1) := by decide +kernel
theorem dX12_keepsAll_15 : decode cX12_keepsAll 15 = .ok (.getfield 13, 3) := by decide +kernel
theorem dX12_keepsAll_18 : decode cX12_keepsAll 18 = .ok (.iload_n 1, 1) := by decide +kernel
theorem dX12_keepsAll_19 : decode cX12_keepsAll 19 = .ok (.iaload, 1) := by decide +kernel
theorem dX12_keepsAll_20 : decode cX12_keepsAll 20 = .ok (.iastore, 1) := by decide +kernel
theorem dX12_keepsAll_21 : decode cX12_keepsAll 21 = .ok (.iinc 1 1, 3) := by decide +kernel
theorem dX12_keepsAll_24 : decode cX12_keepsAll 24 = .ok (.goto (-22), 3) := by decide +kernel
theorem dX12_keepsAll_27 : decode cX12_keepsAll 27 = .ok (.return_, 1) := by decide +kernel
theorem dX12_bringsBack_0 : decode cX12_bringsBack 0 = .ok (.iconst 0, 1) := by decide +kernel
theorem dX12_bringsBack_1 : decode cX12_bringsBack 1 = .ok (.istore_n 1, 1) := by decide +kernel
theorem dX12_bringsBack_2 : decode cX12_bringsBack 2 = .ok (.iload_n 1, 1) := by decide +kernel
theorem dX12_bringsBack_3 : decode cX12_bringsBack 3 = .ok (.sipush 445, 3) := by decide +kernel
theorem dX12_bringsBack_6 : decode cX12_bringsBack 6 = .ok (.if_icmp .ge 21, 3) := by decide +kernel
theorem dX12_bringsBack_9 : decode cX12_bringsBack 9 = .ok (.aload_n 0, 1) := by decide +kernel
theorem dX12_bringsBack_10 : decode cX12_bringsBack 10 = .ok (.getfield 13, 3) := by decide +kernel
theorem dX12_bringsBack_13 : decode cX12_bringsBack 13 = .ok (.iload_n 1, 1) := by decide +kernel
theorem dX12_bringsBack_14 : decode cX12_bringsBack 14 = .ok (.aload_n 0, 1) := by decide +kernel
theorem dX12_bringsBack_15 : decode cX12_bringsBack 15 = .ok (.getfield 23, 3) := by decide +kernel
theorem dX12_bringsBack_18 : decode cX12_bringsBack 18 = .ok (.iload_n 1, 1) := by decide +kernel
theorem dX12_bringsBack_19 : decode cX12_bringsBack 19 = .ok (.iaload, 1) := by decide +kernel
theorem dX12_bringsBack_20 : decode cX12_bringsBack 20 = .ok (.iastore, 1) := by decide +kernel
theorem dX12_bringsBack_21 : decode cX12_bringsBack 21 = .ok (.iinc 1 1, 3) := by decide +kernel
theorem dX12_bringsBack_24 : decode cX12_bringsBack 24 = .ok (.goto (-22), 3) := by decide +kernel
theorem dX12_bringsBack_27 : decode cX12_bringsBack 27 = .ok (.return_, 1) := by decide +kernel
theorem dX12_would_0 : decode cX12_would 0 = .ok (.aload_n 0, 1) := by decide +kernel
theorem dX12_would_1 : decode cX12_would 1 = .ok (.iload_n 1, 1) := by decide +kernel
theorem dX12_would_2 : decode cX12_would 2 = .ok (.iload_n 2, 1) := by decide +kernel
theorem dX12_would_3 : decode cX12_would 3 = .ok (.invokevirtual 340, 3) := by decide +kernel
theorem dX12_would_6 : decode cX12_would 6 = .ok (.ifCond .eq 5, 3) := by decide +kernel
theorem dX12_would_9 : decode cX12_would 9 = .ok (.iconst 0, 1) := by decide +kernel
theorem dX12_would_10 : decode cX12_would 10 = .ok (.ireturn, 1) := by decide +kernel
theorem dX12_would_11 : decode cX12_would 11 = .ok (.aload_n 0, 1) := by decide +kernel
theorem dX12_would_12 : decode cX12_would 12 = .ok (.invokevirtual 346, 3) := by decide +kernel
theorem dX12_would_15 : decode cX12_would 15 = .ok (.aload_n 0, 1) := by decide +kernel
theorem dX12_would_16 : decode cX12_would 16 = .ok (.iload_n 1, 1) := by decide +kernel
theorem dX12_would_17 : decode cX12_would 17 = .ok (.iload_n 2, 1) := by decide +kernel
theorem dX12_would_18 : decode cX12_would 18 = .ok (.iload_n 3, 1) := by decide +kernel
theorem dX12_would_19 : decode cX12_would 19 = .ok (.invokevirtual 316, 3) := by decide +kernel
theorem dX12_would_22 : decode cX12_would 22 = .ok (.aload_n 0, 1) := by decide +kernel
theorem dX12_would_23 : decode cX12_would 23 = .ok (.iload_n 2, 1) := by decide +kernel
theorem dX12_would_24 : decode cX12_would 24 = .ok (.iconst 0, 1) := by decide +kernel
theorem dX12_would_25 : decode cX12_would 25 = .ok (.invokevirtual 86, 3) := by decide +kernel
theorem dX12_would_28 : decode cX12_would 28 = .ok (.istore 4, 2) := by decide +kernel
theorem dX12_would_30 : decode cX12_would 30 = .ok (.aload_n 0, 1) := by decide +kernel
theorem dX12_would_31 : decode cX12_would 31 = .ok (.invokevirtual 349, 3) := by decide +kernel
theorem dX12_would_34 : decode cX12_would 34 = .ok (.iload 4, 2) := by decide +kernel
theorem dX12_would_36 : decode cX12_would 36 = .ok (.ireturn, 1) := by decide +kernel
theorem dX12_say_0 : decode cX12_say 0 = .ok (.aload_n 0, 1) := by decide +kernel
theorem dX12_say_1 : decode cX12_say 1 = .ok (.iconst 0, 1) := by decide +kernel
theorem dX12_say_2 : decode cX12_say 2 = .ok (.putfield 3, 3) := by decide +kernel
theorem dX12_say_5 : decode cX12_say 5 = .ok (.aload_n 0, 1) := by decide +kernel
theorem dX12_say_6 : decode cX12_say 6 = .ok (.aload_n 0, 1) := by decide +kernel
theorem dX12_say_7 : decode cX12_say 7 = .ok (.iload_n 1, 1) := by decide +kernel
theorem dX12_say_8 : decode cX12_say 8 = .ok (.invokevirtual 331, 3) := by decide +kernel
theorem dX12_say_11 : decode cX12_say 11 = .ok (.ifCond .ne 11, 3) := by decide +kernel
theorem dX12_say_14 : decode cX12_say 14 = .ok (.aload_n 0, 1) := by decide +kernel
theorem dX12_say_15 : decode cX12_say 15 = .ok (.iload_n 2, 1) := by decide +kernel
theorem dX12_say_16 : decode cX12_say 16 = .ok (.invokevirtual 331, 3) := by decide +kernel
theorem dX12_say_19 : decode cX12_say 19 = .ok (.ifCond .eq 7, 3) := by decide +kernel
theorem dX12_say_22 : decode cX12_say 22 = .ok (.iconst 1, 1) := by decide +kernel
theorem dX12_say_23 : decode cX12_say 23 = .ok (.goto 4, 3) := by decide +kernel
theorem dX12_say_26 : decode cX12_say 26 = .ok (.iconst 0, 1) := by decide +kernel
theorem dX12_say_27 : decode cX12_say 27 = .ok (.iconst 1, 1) := by decide +kernel
theorem dX12_say_28 : decode cX12_say 28 = .ok (.invokevirtual 291, 3) := by decide +kernel
theorem dX12_say_31 : decode cX12_say 31 = .ok (.ifCond .ne 25, 3) := by decide +kernel
theorem dX12_say_34 : decode cX12_say 34 = .ok (.aload_n 0, 1) := by decide +kernel
theorem dX12_say_35 : decode cX12_say 35 = .ok (.aload_n 0, 1) := by decide +kernel
theorem dX12_say_36 : decode cX12_say 36 = .ok (.iload_n 1, 1) := by decide +kernel
theorem dX12_say_37 : decode cX12_say 37 = .ok (.iload_n 2, 1) := by decide +kernel
theorem dX12_say_38 : decode cX12_say 38 = .ok (.invokevirtual 326, 3) := by decide +kernel
theorem dX12_say_41 : decode cX12_say 41 = .ok (.ifCond .ne 7, 3) := by decide +kernel
theorem dX12_say_44 : decode cX12_say 44 = .ok (.iconst 1, 1) := by decide +kernel
theorem dX12_say_45 : decode cX12_say 45 = .ok (.goto 4, 3) := by decide +kernel
theorem dX12_say_48 : decode cX12_say 48 = .ok (.iconst 0, 1) := by decide +kernel
theorem dX12_say_49 : decode cX12_say 49 = .ok (.iconst 2, 1) := by decide +kernel
theorem dX12_say_50 : decode cX12_say 50 = .ok (.invokevirtual 291, 3) := by decide +kernel
theorem dX12_say_53 : decode cX12_say 53 = .ok (.ifCond .eq 5, 3) := by decide +kernel
theorem dX12_say_56 : decode cX12_say 56 = .ok (.iconst 0, 1) := by decide +kernel
theorem dX12_say_57 : decode cX12_say 57 = .ok (.ireturn, 1) := by decide +kernel
theorem dX12_say_58 : decode cX12_say 58 = .ok (.aload_n 0, 1) := by decide +kernel
theorem dX12_say_59 : decode cX12_say 59 = .ok (.invokevirtual 352, 3) := by decide +kernel
theorem dX12_say_62 : decode cX12_say 62 = .ok (.aload_n 0, 1) := by decide +kernel
theorem dX12_say_63 : decode cX12_say 63 = .ok (.iload_n 1, 1) := by decide +kernel
theorem dX12_say_64 : decode cX12_say 64 = .ok (.iload_n 2, 1) := by decide +kernel
theorem dX12_say_65 : decode cX12_say 65 = .ok (.iload_n 3, 1) := by decide +kernel
theorem dX12_say_66 : decode cX12_say 66 = .ok (.invokevirtual 355, 3) := by decide +kernel
theorem dX12_say_69 : decode cX12_say 69 = .ok (.aload_n 0, 1) := by decide +kernel
theorem dX12_say_70 : decode cX12_say 70 = .ok (.iload_n 2, 1) := by decide +kernel
theorem dX12_say_71 : decode cX12_say 71 = .ok (.iconst 0, 1) := by decide +kernel
theorem dX12_say_72 : decode cX12_say 72 = .ok (.invokevirtual 86, 3) := by decide +kernel
theorem dX12_say_75 : decode cX12_say 75 = .ok (.ireturn, 1) := by decide +kernel
theorem dX12_bear_0 : decode cX12_bear 0 = .ok (.aload_n 0, 1) := by decide +kernel
theorem dX12_bear_1 : decode cX12_bear 1 = .ok (.iconst 0, 1) := by decide +kernel
theorem dX12_bear_2 : decode cX12_bear 2 = .ok (.putfield 3, 3) := by decide +kernel
theorem dX12_bear_5 : decode cX12_bear 5 = .ok (.aload_n 0, 1) := by decide +kernel
theorem dX12_bear_6 : decode cX12_bear 6 = .ok (.aload_n 0, 1) := by decide +kernel
theorem dX12_bear_7 : decode cX12_bear 7 = .ok (.iload_n 1, 1) := by decide +kernel
theorem dX12_bear_8 : decode cX12_bear 8 = .ok (.invokevirtual 331, 3) := by decide +kernel
theorem dX12_bear_11 : decode cX12_bear 11 = .ok (.iconst 1, 1) := by decide +kernel
theorem dX12_bear_12 : decode cX12_bear 12 = .ok (.invokevirtual 291, 3) := by decide +kernel
theorem dX12_bear_15 : decode cX12_bear 15 = .ok (.ifCond .ne 33, 3) := by decide +kernel
theorem dX12_bear_18 : decode cX12_bear 18 = .ok (.aload_n 0, 1) := by decide +kernel
theorem dX12_bear_19 : decode cX12_bear 19 = .ok (.aload_n 0, 1) := by decide +kernel
theorem dX12_bear_20 : decode cX12_bear 20 = .ok (.iload_n 1, 1) := by decide +kernel
theorem dX12_bear_21 : decode cX12_bear 21 = .ok (.invokevirtual 358, 3) := by decide +kernel
theorem dX12_bear_24 : decode cX12_bear 24 = .ok (.ifCond .ne 12, 3) := by decide +kernel
theorem dX12_bear_27 : decode cX12_bear 27 = .ok (.aload_n 0, 1) := by decide +kernel
theorem dX12_bear_28 : decode cX12_bear 28 = .ok (.invokevirtual 78, 3) := by decide +kernel
theorem dX12_bear_31 : decode cX12_bear 31 = .ok (.bipush 8, 2) := by decide +kernel
theorem dX12_bear_33 : decode cX12_bear 33 = .ok (.if_icmp .ne 7, 3) := by decide +kernel
theorem dX12_bear_36 : decode cX12_bear 36 = .ok (.iconst 1, 1) := by decide +kernel
theorem dX12_bear_37 : decode cX12_bear 37 = .ok (.goto 4, 3) := by decide +kernel
theorem dX12_bear_40 : decode cX12_bear 40 = .ok (.iconst 0, 1) := by decide +kernel
theorem dX12_bear_41 : decode cX12_bear 41 = .ok (.iconst 2, 1) := by decide +kernel
theorem dX12_bear_42 : decode cX12_bear 42 = .ok (.invokevirtual 291, 3) := by decide +kernel
theorem dX12_bear_45 : decode cX12_bear 45 = .ok (.ifCond .eq 5, 3) := by decide +kernel
theorem dX12_bear_48 : decode cX12_bear 48 = .ok (.iconst 0, 1) := by decide +kernel
theorem dX12_bear_49 : decode cX12_bear 49 = .ok (.ireturn, 1) := by decide +kernel
theorem dX12_bear_50 : decode cX12_bear 50 = .ok (.aload_n 0, 1) := by decide +kernel
theorem dX12_bear_51 : decode cX12_bear 51 = .ok (.invokevirtual 352, 3) := by decide +kernel
theorem dX12_bear_54 : decode cX12_bear 54 = .ok (.aload_n 0, 1) := by decide +kernel
theorem dX12_bear_55 : decode cX12_bear 55 = .ok (.invokevirtual 78, 3) := by decide +kernel
theorem dX12_bear_58 : decode cX12_bear 58 = .ok (.istore_n 3, 1) := by decide +kernel
theorem dX12_bear_59 : decode cX12_bear 59 = .ok (.aload_n 0, 1) := by decide +kernel
theorem dX12_bear_60 : decode cX12_bear 60 = .ok (.iload_n 3, 1) := by decide +kernel
theorem dX12_bear_61 : decode cX12_bear 61 = .ok (.iload_n 2, 1) := by decide +kernel
theorem dX12_bear_62 : decode cX12_bear 62 = .ok (.ifCond .eq 7, 3) := by decide +kernel
theorem dX12_bear_65 : decode cX12_bear 65 = .ok (.iconst 1, 1) := by decide +kernel
theorem dX12_bear_66 : decode cX12_bear 66 = .ok (.goto 4, 3) := by decide +kernel
theorem dX12_bear_69 : decode cX12_bear 69 = .ok (.iconst 0, 1) := by decide +kernel
theorem dX12_bear_70 : decode cX12_bear 70 = .ok (.aload_n 0, 1) := by decide +kernel
theorem dX12_bear_71 : decode cX12_bear 71 = .ok (.getfield 13, 3) := by decide +kernel
theorem dX12_bear_74 : decode cX12_bear 74 = .ok (.iconst 4, 1) := by decide +kernel
theorem dX12_bear_75 : decode cX12_bear 75 = .ok (.iaload, 1) := by decide +kernel
theorem dX12_bear_76 : decode cX12_bear 76 = .ok (.iconst 2, 1) := by decide +kernel
theorem dX12_bear_77 : decode cX12_bear 77 = .ok (.idiv, 1) := by decide +kernel
theorem dX12_bear_78 : decode cX12_bear 78 = .ok (.iload_n 1, 1) := by decide +kernel
theorem dX12_bear_79 : decode cX12_bear 79 = .ok (.invokevirtual 159, 3) := by decide +kernel
theorem dX12_bear_82 : decode cX12_bear 82 = .ok (.aload_n 0, 1) := by decide +kernel
theorem dX12_bear_83 : decode cX12_bear 83 = .ok (.getfield 13, 3) := by decide +kernel
theorem dX12_bear_86 : decode cX12_bear 86 = .ok (.iload_n 3, 1) := by decide +kernel
theorem dX12_bear_87 : decode cX12_bear 87 = .ok (.bipush 8, 2) := by decide +kernel
theorem dX12_bear_89 : decode cX12_bear 89 = .ok (.invokestatic 74, 3) := by decide +kernel
theorem dX12_bear_92 : decode cX12_bear 92 = .ok (.iconst 1, 1) := by decide +kernel
theorem dX12_bear_93 : decode cX12_bear 93 = .ok (.iload_n 1, 1) := by decide +kernel
theorem dX12_bear_94 : decode cX12_bear 94 = .ok (.ishl, 1) := by decide +kernel
theorem dX12_bear_95 : decode cX12_bear 95 = .ok (.iastore, 1) := by decide +kernel
theorem dX12_bear_96 : decode cX12_bear 96 = .ok (.iload_n 3, 1) := by decide +kernel
theorem dX12_bear_97 : decode cX12_bear 97 = .ok (.ireturn, 1) := by decide +kernel
theorem dX12_wed_0 : decode cX12_wed 0 = .ok (.aload_n 0, 1) := by decide +kernel
theorem dX12_wed_1 : decode cX12_wed 1 = .ok (.iload_n 1, 1) := by decide +kernel
theorem dX12_wed_2 : decode cX12_wed 2 = .ok (.iload_n 2, 1) := by decide +kernel
theorem dX12_wed_3 : decode cX12_wed 3 = .ok (.invokevirtual 340, 3) := by decide +kernel
theorem dX12_wed_6 : decode cX12_wed 6 = .ok (.ifCond .ne 25, 3) := by decide +kernel
theorem dX12_wed_9 : decode cX12_wed 9 = .ok (.aload_n 0, 1) := by decide +kernel
theorem dX12_wed_10 : decode cX12_wed 10 = .ok (.aload_n 0, 1) := by decide +kernel
theorem dX12_wed_11 : decode cX12_wed 11 = .ok (.iload_n 1, 1) := by decide +kernel
theorem dX12_wed_12 : decode cX12_wed 12 = .ok (.iload_n 2, 1) := by decide +kernel
theorem dX12_wed_13 : decode cX12_wed 13 = .ok (.invokevirtual 173, 3) := by decide +kernel
theorem dX12_wed_16 : decode cX12_wed 16 = .ok (.ifCond .ne 7, 3) := by decide +kernel
theorem dX12_wed_19 : decode cX12_wed 19 = .ok (.iconst 1, 1) := by decide +kernel
theorem dX12_wed_20 : decode cX12_wed 20 = .ok (.goto 4, 3) := by decide +kernel
theorem dX12_wed_23 : decode cX12_wed 23 = .ok (.iconst 0, 1) := by decide +kernel
theorem dX12_wed_24 : decode cX12_wed 24 = .ok (.iconst 3, 1) := by decide +kernel
theorem dX12_wed_25 : decode cX12_wed 25 = .ok (.invokevirtual 291, 3) := by decide +kernel
theorem dX12_wed_28 : decode cX12_wed 28 = .ok (.ifCond .eq 5, 3) := by decide +kernel
theorem dX12_wed_31 : decode cX12_wed 31 = .ok (.iconst 0, 1) := by decide +kernel
theorem dX12_wed_32 : decode cX12_wed 32 = .ok (.ireturn, 1) := by decide +kernel
theorem dX12_wed_33 : decode cX12_wed 33 = .ok (.aload_n 0, 1) := by decide +kernel
theorem dX12_wed_34 : decode cX12_wed 34 = .ok (.invokevirtual 352, 3) := by decide +kernel
theorem dX12_wed_37 : decode cX12_wed 37 = .ok (.aload_n 0, 1) := by decide +kernel
theorem dX12_wed_38 : decode cX12_wed 38 = .ok (.iload_n 1, 1) := by decide +kernel
theorem dX12_wed_39 : decode cX12_wed 39 = .ok (.iload_n 2, 1) := by decide +kernel
theorem dX12_wed_40 : decode cX12_wed 40 = .ok (.invokevirtual 176, 3) := by decide +kernel
theorem dX12_wed_43 : decode cX12_wed 43 = .ok (.aload_n 0, 1) := by decide +kernel
theorem dX12_wed_44 : decode cX12_wed 44 = .ok (.iload_n 1, 1) := by decide +kernel
theorem dX12_wed_45 : decode cX12_wed 45 = .ok (.iload_n 2, 1) := by decide +kernel
theorem dX12_wed_46 : decode cX12_wed 46 = .ok (.invokevirtual 343, 3) := by decide +kernel
theorem dX12_wed_49 : decode cX12_wed 49 = .ok (.ireturn, 1) := by decide +kernel
theorem dX12_part_0 : decode cX12_part 0 = .ok (.aload_n 0, 1) := by decide +kernel
theorem dX12_part_1 : decode cX12_part 1 = .ok (.iconst 0, 1) := by decide +kernel
theorem dX12_part_2 : decode cX12_part 2 = .ok (.putfield 3, 3) := by decide +kernel
theorem dX12_part_5 : decode cX12_part 5 = .ok (.aload_n 0, 1) := by decide +kernel
theorem dX12_part_6 : decode cX12_part 6 = .ok (.aload_n 0, 1) := by decide +kernel
theorem dX12_part_7 : decode cX12_part 7 = .ok (.iload_n 1, 1) := by decide +kernel
theorem dX12_part_8 : decode cX12_part 8 = .ok (.invokevirtual 331, 3) := by decide +kernel
theorem dX12_part_11 : decode cX12_part 11 = .ok (.iconst 1, 1) := by decide +kernel
theorem dX12_part_12 : decode cX12_part 12 = .ok (.invokevirtual 291, 3) := by decide +kernel
theorem dX12_part_15 : decode cX12_part 15 = .ok (.ifCond .ne 16, 3) := by decide +kernel
theorem dX12_part_18 : decode cX12_part 18 = .ok (.aload_n 0, 1) := by decide +kernel
theorem dX12_part_19 : decode cX12_part 19 = .ok (.aload_n 0, 1) := by decide +kernel
theorem dX12_part_20 : decode cX12_part 20 = .ok (.iload_n 1, 1) := by decide +kernel
theorem dX12_part_21 : decode cX12_part 21 = .ok (.invokevirtual 166, 3) := by decide +kernel
theorem dX12_part_24 : decode cX12_part 24 = .ok (.iconst 2, 1) := by decide +kernel
theorem dX12_part_25 : decode cX12_part 25 = .ok (.invokevirtual 291, 3) := by decide +kernel
theorem dX12_part_28 : decode cX12_part 28 = .ok (.ifCond .eq 5, 3) := by decide +kernel
theorem dX12_part_31 : decode cX12_part 31 = .ok (.iconst 0, 1) := by decide +kernel
theorem dX12_part_32 : decode cX12_part 32 = .ok (.ireturn, 1) := by decide +kernel
theorem dX12_part_33 : decode cX12_part 33 = .ok (.aload_n 0, 1) := by decide +kernel
theorem dX12_part_34 : decode cX12_part 34 = .ok (.invokevirtual 352, 3) := by decide +kernel
theorem dX12_part_37 : decode cX12_part 37 = .ok (.aload_n 0, 1) := by decide +kernel
theorem dX12_part_38 : decode cX12_part 38 = .ok (.iload_n 1, 1) := by decide +kernel
theorem dX12_part_39 : decode cX12_part 39 = .ok (.iconst 4, 1) := by decide +kernel
theorem dX12_part_40 : decode cX12_part 40 = .ok (.invokevirtual 86, 3) := by decide +kernel
theorem dX12_part_43 : decode cX12_part 43 = .ok (.istore_n 2, 1) := by decide +kernel
theorem dX12_part_44 : decode cX12_part 44 = .ok (.aload_n 0, 1) := by decide +kernel
theorem dX12_part_45 : decode cX12_part 45 = .ok (.getfield 13, 3) := by decide +kernel
theorem dX12_part_48 : decode cX12_part 48 = .ok (.iload_n 1, 1) := by decide +kernel
theorem dX12_part_49 : decode cX12_part 49 = .ok (.iconst 4, 1) := by decide +kernel
theorem dX12_part_50 : decode cX12_part 50 = .ok (.invokestatic 74, 3) := by decide +kernel
theorem dX12_part_53 : decode cX12_part 53 = .ok (.iconst (-1), 1) := by decide +kernel
theorem dX12_part_54 : decode cX12_part 54 = .ok (.iastore, 1) := by decide +kernel
theorem dX12_part_55 : decode cX12_part 55 = .ok (.aload_n 0, 1) := by decide +kernel
theorem dX12_part_56 : decode cX12_part 56 = .ok (.getfield 13, 3) := by decide +kernel
theorem dX12_part_59 : decode cX12_part 59 = .ok (.iload_n 2, 1) := by decide +kernel
theorem dX12_part_60 : decode cX12_part 60 = .ok (.iconst 4, 1) := by decide +kernel
theorem dX12_part_61 : decode cX12_part 61 = .ok (.invokestatic 74, 3) := by decide +kernel
theorem dX12_part_64 : decode cX12_part 64 = .ok (.iconst (-1), 1) := by decide +kernel
theorem dX12_part_65 : decode cX12_part 65 = .ok (.iastore, 1) := by decide +kernel
theorem dX12_part_66 : decode cX12_part 66 = .ok (.iload_n 2, 1) := by decide +kernel
theorem dX12_part_67 : decode cX12_part 67 = .ok (.ireturn, 1) := by decide +kernel
theorem dX12_lend_0 : decode cX12_lend 0 = .ok (.aload_n 0, 1) := by decide +kernel
theorem dX12_lend_1 : decode cX12_lend 1 = .ok (.iload_n 1, 1) := by decide +kernel
theorem dX12_lend_2 : decode cX12_lend 2 = .ok (.iload_n 2, 1) := by decide +kernel
theorem dX12_lend_3 : decode cX12_lend 3 = .ok (.invokevirtual 340, 3) := by decide +kernel
theorem dX12_lend_6 : decode cX12_lend 6 = .ok (.ifCond .ne 52, 3) := by decide +kernel
theorem dX12_lend_9 : decode cX12_lend 9 = .ok (.aload_n 0, 1) := by decide +kernel
theorem dX12_lend_10 : decode cX12_lend 10 = .ok (.aload_n 0, 1) := by decide +kernel
theorem dX12_lend_11 : decode cX12_lend 11 = .ok (.iload_n 1, 1) := by decide +kernel
theorem dX12_lend_12 : decode cX12_lend 12 = .ok (.bipush 7, 2) := by decide +kernel
theorem dX12_lend_14 : decode cX12_lend 14 = .ok (.invokevirtual 86, 3) := by decide +kernel
theorem dX12_lend_17 : decode cX12_lend 17 = .ok (.ifCond .eq 29, 3) := by decide +kernel
theorem dX12_lend_20 : decode cX12_lend 20 = .ok (.aload_n 0, 1) := by decide +kernel
theorem dX12_lend_21 : decode cX12_lend 21 = .ok (.iload_n 2, 1) := by decide +kernel
theorem dX12_lend_22 : decode cX12_lend 22 = .ok (.bipush 7, 2) := by decide +kernel
theorem dX12_lend_24 : decode cX12_lend 24 = .ok (.invokevirtual 86, 3) := by decide +kernel
theorem dX12_lend_27 : decode cX12_lend 27 = .ok (.bipush 9, 2) := by decide +kernel
theorem dX12_lend_29 : decode cX12_lend 29 = .ok (.if_icmp .eq 17, 3) := by decide +kernel
theorem dX12_lend_32 : decode cX12_lend 32 = .ok (.aload_n 0, 1) := by decide +kernel
theorem dX12_lend_33 : decode cX12_lend 33 = .ok (.iload_n 1, 1) := by decide +kernel
theorem dX12_lend_34 : decode cX12_lend 34 = .ok (.bipush 9, 2) := by decide +kernel
theorem dX12_lend_36 : decode cX12_lend 36 = .ok (.iload_n 2, 1) := by decide +kernel
theorem dX12_lend_37 : decode cX12_lend 37 = .ok (.iadd, 1) := by decide +kernel
theorem dX12_lend_38 : decode cX12_lend 38 = .ok (.invokevirtual 86, 3) := by decide +kernel
theorem dX12_lend_41 : decode cX12_lend 41 = .ok (.bipush 9, 2) := by decide +kernel
theorem dX12_lend_43 : decode cX12_lend 43 = .ok (.if_icmp .ne 7, 3) := by decide +kernel
theorem dX12_lend_46 : decode cX12_lend 46 = .ok (.iconst 1, 1) := by decide +kernel
theorem dX12_lend_47 : decode cX12_lend 47 = .ok (.goto 4, 3) := by decide +kernel
theorem dX12_lend_50 : decode cX12_lend 50 = .ok (.iconst 0, 1) := by decide +kernel
theorem dX12_lend_51 : decode cX12_lend 51 = .ok (.iconst 3, 1) := by decide +kernel
theorem dX12_lend_52 : decode cX12_lend 52 = .ok (.invokevirtual 291, 3) := by decide +kernel
theorem dX12_lend_55 : decode cX12_lend 55 = .ok (.ifCond .eq 5, 3) := by decide +kernel
theorem dX12_lend_58 : decode cX12_lend 58 = .ok (.iconst 0, 1) := by decide +kernel
theorem dX12_lend_59 : decode cX12_lend 59 = .ok (.ireturn, 1) := by decide +kernel
theorem dX12_lend_60 : decode cX12_lend 60 = .ok (.aload_n 0, 1) := by decide +kernel
theorem dX12_lend_61 : decode cX12_lend 61 = .ok (.invokevirtual 352, 3) := by decide +kernel
theorem dX12_lend_64 : decode cX12_lend 64 = .ok (.aload_n 0, 1) := by decide +kernel
theorem dX12_lend_65 : decode cX12_lend 65 = .ok (.getfield 13, 3) := by decide +kernel
theorem dX12_lend_68 : decode cX12_lend 68 = .ok (.iload_n 1, 1) := by decide +kernel
theorem dX12_lend_69 : decode cX12_lend 69 = .ok (.bipush 7, 2) := by decide +kernel
theorem dX12_lend_71 : decode cX12_lend 71 = .ok (.invokestatic 74, 3) := by decide +kernel
theorem dX12_lend_74 : decode cX12_lend 74 = .ok (.dup2, 1) := by decide +kernel
theorem dX12_lend_75 : decode cX12_lend 75 = .ok (.iaload, 1) := by decide +kernel
theorem dX12_lend_76 : decode cX12_lend 76 = .ok (.iconst 1, 1) := by decide +kernel
theorem dX12_lend_77 : decode cX12_lend 77 = .ok (.isub, 1) := by decide +kernel
theorem dX12_lend_78 : decode cX12_lend 78 = .ok (.iastore, 1) := by decide +kernel
theorem dX12_lend_79 : decode cX12_lend 79 = .ok (.aload_n 0, 1) := by decide +kernel
theorem dX12_lend_80 : decode cX12_lend 80 = .ok (.getfield 13, 3) := by decide +kernel
theorem dX12_lend_83 : decode cX12_lend 83 = .ok (.iload_n 2, 1) := by decide +kernel
theorem dX12_lend_84 : decode cX12_lend 84 = .ok (.bipush 7, 2) := by decide +kernel
theorem dX12_lend_86 : decode cX12_lend 86 = .ok (.invokestatic 74, 3) := by decide +kernel
theorem dX12_lend_89 : decode cX12_lend 89 = .ok (.dup2, 1) := by decide +kernel
theorem dX12_lend_90 : decode cX12_lend 90 = .ok (.iaload, 1) := by decide +kernel
theorem dX12_lend_91 : decode cX12_lend 91 = .ok (.iconst 1, 1) := by decide +kernel
theorem dX12_lend_92 : decode cX12_lend 92 = .ok (.iadd, 1) := by decide +kernel
theorem dX12_lend_93 : decode cX12_lend 93 = .ok (.iastore, 1) := by decide +kernel
theorem dX12_lend_94 : decode cX12_lend 94 = .ok (.aload_n 0, 1) := by decide +kernel
theorem dX12_lend_95 : decode cX12_lend 95 = .ok (.getfield 13, 3) := by decide +kernel
theorem dX12_lend_98 : decode cX12_lend 98 = .ok (.iload_n 1, 1) := by decide +kernel
theorem dX12_lend_99 : decode cX12_lend 99 = .ok (.bipush 9, 2) := by decide +kernel
theorem dX12_lend_101 : decode cX12_lend 101 = .ok (.iload_n 2, 1) := by decide +kernel
theorem dX12_lend_102 : decode cX12_lend 102 = .ok (.iadd, 1) := by decide +kernel
theorem dX12_lend_103 : decode cX12_lend 103 = .ok (.invokestatic 74, 3) := by decide +kernel
theorem dX12_lend_106 : decode cX12_lend 106 = .ok (.dup2, 1) := by decide +kernel
theorem dX12_lend_107 : decode cX12_lend 107 = .ok (.iaload, 1) := by decide +kernel
theorem dX12_lend_108 : decode cX12_lend 108 = .ok (.iconst 1, 1) := by decide +kernel
theorem dX12_lend_109 : decode cX12_lend 109 = .ok (.iadd, 1) := by decide +kernel
theorem dX12_lend_110 : decode cX12_lend 110 = .ok (.iastore, 1) := by decide +kernel
theorem dX12_lend_111 : decode cX12_lend 111 = .ok (.aload_n 0, 1) := by decide +kernel
theorem dX12_lend_112 : decode cX12_lend 112 = .ok (.iload_n 1, 1) := by decide +kernel
theorem dX12_lend_113 : decode cX12_lend 113 = .ok (.bipush 7, 2) := by decide +kernel
theorem dX12_lend_115 : decode cX12_lend 115 = .ok (.invokevirtual 86, 3) := by decide +kernel
theorem dX12_lend_118 : decode cX12_lend 118 = .ok (.ireturn, 1) := by decide +kernel
theorem dX12_use_0 : decode cX12_use 0 = .ok (.aload_n 0, 1) := by decide +kernel
theorem dX12_use_1 : decode cX12_use 1 = .ok (.iconst 0, 1) := by decide +kernel
theorem dX12_use_2 : decode cX12_use 2 = .ok (.putfield 3, 3) := by decide +kernel
theorem dX12_use_5 : decode cX12_use 5 = .ok (.aload_n 0, 1) := by decide +kernel
theorem dX12_use_6 : decode cX12_use 6 = .ok (.aload_n 0, 1) := by decide +kernel
theorem dX12_use_7 : decode cX12_use 7 = .ok (.iload_n 1, 1) := by decide +kernel
theorem dX12_use_8 : decode cX12_use 8 = .ok (.invokevirtual 331, 3) := by decide +kernel
theorem dX12_use_11 : decode cX12_use 11 = .ok (.iconst 1, 1) := by decide +kernel
theorem dX12_use_12 : decode cX12_use 12 = .ok (.invokevirtual 291, 3) := by decide +kernel
theorem dX12_use_15 : decode cX12_use 15 = .ok (.ifCond .ne 26, 3) := by decide +kernel
theorem dX12_use_18 : decode cX12_use 18 = .ok (.aload_n 0, 1) := by decide +kernel
theorem dX12_use_19 : decode cX12_use 19 = .ok (.aload_n 0, 1) := by decide +kernel
theorem dX12_use_20 : decode cX12_use 20 = .ok (.iload_n 1, 1) := by decide +kernel
theorem dX12_use_21 : decode cX12_use 21 = .ok (.bipush 7, 2) := by decide +kernel
theorem dX12_use_23 : decode cX12_use 23 = .ok (.invokevirtual 86, 3) := by decide +kernel
theorem dX12_use_26 : decode cX12_use 26 = .ok (.ifCond .ne 7, 3) := by decide +kernel
theorem dX12_use_29 : decode cX12_use 29 = .ok (.iconst 1, 1) := by decide +kernel
theorem dX12_use_30 : decode cX12_use 30 = .ok (.goto 4, 3) := by decide +kernel
theorem dX12_use_33 : decode cX12_use 33 = .ok (.iconst 0, 1) := by decide +kernel
theorem dX12_use_34 : decode cX12_use 34 = .ok (.iconst 2, 1) := by decide +kernel
theorem dX12_use_35 : decode cX12_use 35 = .ok (.invokevirtual 291, 3) := by decide +kernel
theorem dX12_use_38 : decode cX12_use 38 = .ok (.ifCond .eq 5, 3) := by decide +kernel
theorem dX12_use_41 : decode cX12_use 41 = .ok (.iconst 0, 1) := by decide +kernel
theorem dX12_use_42 : decode cX12_use 42 = .ok (.ireturn, 1) := by decide +kernel
theorem dX12_use_43 : decode cX12_use 43 = .ok (.aload_n 0, 1) := by decide +kernel
theorem dX12_use_44 : decode cX12_use 44 = .ok (.invokevirtual 352, 3) := by decide +kernel
theorem dX12_use_47 : decode cX12_use 47 = .ok (.aload_n 0, 1) := by decide +kernel
theorem dX12_use_48 : decode cX12_use 48 = .ok (.getfield 13, 3) := by decide +kernel
theorem dX12_use_51 : decode cX12_use 51 = .ok (.iload_n 1, 1) := by decide +kernel
theorem dX12_use_52 : decode cX12_use 52 = .ok (.bipush 7, 2) := by decide +kernel
theorem dX12_use_54 : decode cX12_use 54 = .ok (.invokestatic 74, 3) := by decide +kernel
theorem dX12_use_57 : decode cX12_use 57 = .ok (.dup2, 1) := by decide +kernel
theorem dX12_use_58 : decode cX12_use 58 = .ok (.iaload, 1) := by decide +kernel
theorem dX12_use_59 : decode cX12_use 59 = .ok (.iconst 1, 1) := by decide +kernel
theorem dX12_use_60 : decode cX12_use 60 = .ok (.isub, 1) := by decide +kernel
theorem dX12_use_61 : decode cX12_use 61 = .ok (.iastore, 1) := by decide +kernel
theorem dX12_use_62 : decode cX12_use 62 = .ok (.aload_n 0, 1) := by decide +kernel
theorem dX12_use_63 : decode cX12_use 63 = .ok (.iload_n 1, 1) := by decide +kernel
theorem dX12_use_64 : decode cX12_use 64 = .ok (.aload_n 0, 1) := by decide +kernel
theorem dX12_use_65 : decode cX12_use 65 = .ok (.getfield 13, 3) := by decide +kernel
theorem dX12_use_68 : decode cX12_use 68 = .ok (.bipush 6, 2) := by decide +kernel
theorem dX12_use_70 : decode cX12_use 70 = .ok (.iaload, 1) := by decide +kernel
theorem dX12_use_71 : decode cX12_use 71 = .ok (.aload_n 0, 1) := by decide +kernel
theorem dX12_use_72 : decode cX12_use 72 = .ok (.getfield 13, 3) := by decide +kernel
theorem dX12_use_75 : decode cX12_use 75 = .ok (.iconst 4, 1) := by decide +kernel
theorem dX12_use_76 : decode cX12_use 76 = .ok (.iaload, 1) := by decide +kernel
theorem dX12_use_77 : decode cX12_use 77 = .ok (.irem, 1) := by decide +kernel
theorem dX12_use_78 : decode cX12_use 78 = .ok (.iconst 1, 1) := by decide +kernel
theorem dX12_use_79 : decode cX12_use 79 = .ok (.invokevirtual 312, 3) := by decide +kernel
theorem dX12_use_82 : decode cX12_use 82 = .ok (.aload_n 0, 1) := by decide +kernel
theorem dX12_use_83 : decode cX12_use 83 = .ok (.iload_n 1, 1) := by decide +kernel
theorem dX12_use_84 : decode cX12_use 84 = .ok (.iload_n 1, 1) := by decide +kernel
theorem dX12_use_85 : decode cX12_use 85 = .ok (.iconst 1, 1) := by decide +kernel
theorem dX12_use_86 : decode cX12_use 86 = .ok (.invokevirtual 319, 3) := by decide +kernel
theorem dX12_use_89 : decode cX12_use 89 = .ok (.aload_n 0, 1) := by decide +kernel
theorem dX12_use_90 : decode cX12_use 90 = .ok (.iload_n 1, 1) := by decide +kernel
theorem dX12_use_91 : decode cX12_use 91 = .ok (.iconst 0, 1) := by decide +kernel
theorem dX12_use_92 : decode cX12_use 92 = .ok (.invokevirtual 86, 3) := by decide +kernel
theorem dX12_use_95 : decode cX12_use 95 = .ok (.ireturn, 1) := by decide +kernel
theorem dX12_govern_0 : decode cX12_govern 0 = .ok (.aload_n 0, 1) := by decide +kernel
theorem dX12_govern_1 : decode cX12_govern 1 = .ok (.iload_n 1, 1) := by decide +kernel
theorem dX12_govern_2 : decode cX12_govern 2 = .ok (.iload_n 2, 1) := by decide +kernel
theorem dX12_govern_3 : decode cX12_govern 3 = .ok (.invokevirtual 340, 3) := by decide +kernel
theorem dX12_govern_6 : decode cX12_govern 6 = .ok (.ifCond .eq 5, 3) := by decide +kernel
theorem dX12_govern_9 : decode cX12_govern 9 = .ok (.iconst 0, 1) := by decide +kernel
theorem dX12_govern_10 : decode cX12_govern 10 = .ok (.ireturn, 1) := by decide +kernel
theorem dX12_govern_11 : decode cX12_govern 11 = .ok (.aload_n 0, 1) := by decide +kernel
theorem dX12_govern_12 : decode cX12_govern 12 = .ok (.invokevirtual 352, 3) := by decide +kernel
theorem dX12_govern_15 : decode cX12_govern 15 = .ok (.aload_n 0, 1) := by decide +kernel
theorem dX12_govern_16 : decode cX12_govern 16 = .ok (.iload_n 1, 1) := by decide +kernel
theorem dX12_govern_17 : decode cX12_govern 17 = .ok (.iload_n 2, 1) := by decide +kernel
theorem dX12_govern_18 : decode cX12_govern 18 = .ok (.invokevirtual 326, 3) := by decide +kernel
theorem dX12_govern_21 : decode cX12_govern 21 = .ok (.istore 4, 2) := by decide +kernel
theorem dX12_govern_23 : decode cX12_govern 23 = .ok (.aload_n 0, 1) := by decide +kernel
theorem dX12_govern_24 : decode cX12_govern 24 = .ok (.iload_n 2, 1) := by decide +kernel
theorem dX12_govern_25 : decode cX12_govern 25 = .ok (.bipush 8, 2) := by decide +kernel
theorem dX12_govern_27 : decode cX12_govern 27 = .ok (.invokevirtual 86, 3) := by decide +kernel
theorem dX12_govern_30 : decode cX12_govern 30 = .ok (.iconst 1, 1) := by decide +kernel
theorem dX12_govern_31 : decode cX12_govern 31 = .ok (.iload_n 1, 1) := by decide +kernel
theorem dX12_govern_32 : decode cX12_govern 32 = .ok (.ishl, 1) := by decide +kernel
theorem dX12_govern_33 : decode cX12_govern 33 = .ok (.iconst (-1), 1) := by decide +kernel
theorem dX12_govern_34 : decode cX12_govern 34 = .ok (.ixor, 1) := by decide +kernel
theorem dX12_govern_35 : decode cX12_govern 35 = .ok (.iand, 1) := by decide +kernel
theorem dX12_govern_36 : decode cX12_govern 36 = .ok (.istore 5, 2) := by decide +kernel
theorem dX12_govern_38 : decode cX12_govern 38 = .ok (.aload_n 0, 1) := by decide +kernel
theorem dX12_govern_39 : decode cX12_govern 39 = .ok (.getfield 13, 3) := by decide +kernel
theorem dX12_govern_42 : decode cX12_govern 42 = .ok (.iload_n 2, 1) := by decide +kernel
theorem dX12_govern_43 : decode cX12_govern 43 = .ok (.bipush 8, 2) := by decide +kernel
theorem dX12_govern_45 : decode cX12_govern 45 = .ok (.invokestatic 74, 3) := by decide +kernel
theorem dX12_govern_48 : decode cX12_govern 48 = .ok (.iload_n 3, 1) := by decide +kernel
theorem dX12_govern_49 : decode cX12_govern 49 = .ok (.ifCond .eq 12, 3) := by decide +kernel
theorem dX12_govern_52 : decode cX12_govern 52 = .ok (.iload 5, 2) := by decide +kernel
theorem dX12_govern_54 : decode cX12_govern 54 = .ok (.iconst 1, 1) := by decide +kernel
theorem dX12_govern_55 : decode cX12_govern 55 = .ok (.iload_n 1, 1) := by decide +kernel
theorem dX12_govern_56 : decode cX12_govern 56 = .ok (.ishl, 1) := by decide +kernel
theorem dX12_govern_57 : decode cX12_govern 57 = .ok (.ior, 1) := by decide +kernel
theorem dX12_govern_58 : decode cX12_govern 58 = .ok (.goto 5, 3) := by decide +kernel
theorem dX12_govern_61 : decode cX12_govern 61 = .ok (.iload 5, 2) := by decide +kernel
theorem dX12_govern_63 : decode cX12_govern 63 = .ok (.iastore, 1) := by decide +kernel
theorem dX12_govern_64 : decode cX12_govern 64 = .ok (.iload 4, 2) := by decide +kernel
theorem dX12_govern_66 : decode cX12_govern 66 = .ok (.iload_n 3, 1) := by decide +kernel
theorem dX12_govern_67 : decode cX12_govern 67 = .ok (.if_icmp .eq 7, 3) := by decide +kernel
theorem dX12_govern_70 : decode cX12_govern 70 = .ok (.iconst 1, 1) := by decide +kernel
theorem dX12_govern_71 : decode cX12_govern 71 = .ok (.goto 4, 3) := by decide +kernel
theorem dX12_govern_74 : decode cX12_govern 74 = .ok (.iconst 0, 1) := by decide +kernel
theorem dX12_govern_75 : decode cX12_govern 75 = .ok (.ireturn, 1) := by decide +kernel
theorem dX12_stern_0 : decode cX12_stern 0 = .ok (.aload_n 0, 1) := by decide +kernel
theorem dX12_stern_1 : decode cX12_stern 1 = .ok (.iconst 0, 1) := by decide +kernel
theorem dX12_stern_2 : decode cX12_stern 2 = .ok (.putfield 3, 3) := by decide +kernel
theorem dX12_stern_5 : decode cX12_stern 5 = .ok (.aload_n 0, 1) := by decide +kernel
theorem dX12_stern_6 : decode cX12_stern 6 = .ok (.aload_n 0, 1) := by decide +kernel
theorem dX12_stern_7 : decode cX12_stern 7 = .ok (.iload_n 1, 1) := by decide +kernel
theorem dX12_stern_8 : decode cX12_stern 8 = .ok (.invokevirtual 331, 3) := by decide +kernel
theorem dX12_stern_11 : decode cX12_stern 11 = .ok (.iconst 1, 1) := by decide +kernel
theorem dX12_stern_12 : decode cX12_stern 12 = .ok (.invokevirtual 291, 3) := by decide +kernel
theorem dX12_stern_15 : decode cX12_stern 15 = .ok (.ifCond .ne 26, 3) := by decide +kernel
theorem dX12_stern_18 : decode cX12_stern 18 = .ok (.aload_n 0, 1) := by decide +kernel
theorem dX12_stern_19 : decode cX12_stern 19 = .ok (.iload_n 2, 1) := by decide +kernel
theorem dX12_stern_20 : decode cX12_stern 20 = .ok (.iconst 0, 1) := by decide +kernel
theorem dX12_stern_21 : decode cX12_stern 21 = .ok (.bipush 100, 2) := by decide +kernel
theorem dX12_stern_23 : decode cX12_stern 23 = .ok (.invokestatic 82, 3) := by decide +kernel
theorem dX12_stern_26 : decode cX12_stern 26 = .ok (.ifCond .ne 7, 3) := by decide +kernel
theorem dX12_stern_29 : decode cX12_stern 29 = .ok (.iconst 1, 1) := by decide +kernel
theorem dX12_stern_30 : decode cX12_stern 30 = .ok (.goto 4, 3) := by decide +kernel
theorem dX12_stern_33 : decode cX12_stern 33 = .ok (.iconst 0, 1) := by decide +kernel
theorem dX12_stern_34 : decode cX12_stern 34 = .ok (.iconst 2, 1) := by decide +kernel
theorem dX12_stern_35 : decode cX12_stern 35 = .ok (.invokevirtual 291, 3) := by decide +kernel
theorem dX12_stern_38 : decode cX12_stern 38 = .ok (.ifCond .eq 5, 3) := by decide +kernel
theorem dX12_stern_41 : decode cX12_stern 41 = .ok (.iconst 0, 1) := by decide +kernel
theorem dX12_stern_42 : decode cX12_stern 42 = .ok (.ireturn, 1) := by decide +kernel
theorem dX12_stern_43 : decode cX12_stern 43 = .ok (.aload_n 0, 1) := by decide +kernel
theorem dX12_stern_44 : decode cX12_stern 44 = .ok (.invokevirtual 352, 3) := by decide +kernel
theorem dX12_stern_47 : decode cX12_stern 47 = .ok (.aload_n 0, 1) := by decide +kernel
theorem dX12_stern_48 : decode cX12_stern 48 = .ok (.iload_n 1, 1) := by decide +kernel
theorem dX12_stern_49 : decode cX12_stern 49 = .ok (.bipush 6, 2) := by decide +kernel
theorem dX12_stern_51 : decode cX12_stern 51 = .ok (.invokevirtual 86, 3) := by decide +kernel
theorem dX12_stern_54 : decode cX12_stern 54 = .ok (.istore_n 3, 1) := by decide +kernel
theorem dX12_stern_55 : decode cX12_stern 55 = .ok (.aload_n 0, 1) := by decide +kernel
theorem dX12_stern_56 : decode cX12_stern 56 = .ok (.getfield 13, 3) := by decide +kernel
theorem dX12_stern_59 : decode cX12_stern 59 = .ok (.iload_n 1, 1) := by decide +kernel
theorem dX12_stern_60 : decode cX12_stern 60 = .ok (.bipush 6, 2) := by decide +kernel
theorem dX12_stern_62 : decode cX12_stern 62 = .ok (.invokestatic 74, 3) := by decide +kernel
theorem dX12_stern_65 : decode cX12_stern 65 = .ok (.iload_n 2, 1) := by decide +kernel
theorem dX12_stern_66 : decode cX12_stern 66 = .ok (.iastore, 1) := by decide +kernel
theorem dX12_stern_67 : decode cX12_stern 67 = .ok (.iload_n 3, 1) := by decide +kernel
theorem dX12_stern_68 : decode cX12_stern 68 = .ok (.ireturn, 1) := by decide +kernel
theorem dX12_oneOf_0 : decode cX12_oneOf 0 = .ok (.iload_n 1, 1) := by decide +kernel
theorem dX12_oneOf_1 : decode cX12_oneOf 1 = .ok (.istore_n 2, 1) := by decide +kernel
theorem dX12_oneOf_2 : decode cX12_oneOf 2 = .ok (.iconst 0, 1) := by decide +kernel
theorem dX12_oneOf_3 : decode cX12_oneOf 3 = .ok (.istore_n 3, 1) := by decide +kernel
theorem dX12_oneOf_4 : decode cX12_oneOf 4 = .ok (.iload_n 0, 1) := by decide +kernel
theorem dX12_oneOf_5 : decode cX12_oneOf 5 = .ok (.iload_n 3, 1) := by decide +kernel
theorem dX12_oneOf_6 : decode cX12_oneOf 6 = .ok (.invokestatic 89, 3) := by decide +kernel
theorem dX12_oneOf_9 : decode cX12_oneOf 9 = .ok (.ifCond .eq 7, 3) := by decide +kernel
theorem dX12_oneOf_12 : decode cX12_oneOf 12 = .ok (.iload_n 2, 1) := by decide +kernel
theorem dX12_oneOf_13 : decode cX12_oneOf 13 = .ok (.ifCond .le 25, 3) := by decide +kernel
theorem dX12_oneOf_16 : decode cX12_oneOf 16 = .ok (.iload_n 2, 1) := by decide +kernel
theorem dX12_oneOf_17 : decode cX12_oneOf 17 = .ok (.iload_n 0, 1) := by decide +kernel
theorem dX12_oneOf_18 : decode cX12_oneOf 18 = .ok (.iload_n 3, 1) := by decide +kernel
theorem dX12_oneOf_19 : decode cX12_oneOf 19 = .ok (.invokestatic 89, 3) := by decide +kernel
theorem dX12_oneOf_22 : decode cX12_oneOf 22 = .ok (.ifCond .eq 7, 3) := by decide +kernel
theorem dX12_oneOf_25 : decode cX12_oneOf 25 = .ok (.iconst 1, 1) := by decide +kernel
theorem dX12_oneOf_26 : decode cX12_oneOf 26 = .ok (.goto 4, 3) := by decide +kernel
theorem dX12_oneOf_29 : decode cX12_oneOf 29 = .ok (.iconst 0, 1) := by decide +kernel
theorem dX12_oneOf_30 : decode cX12_oneOf 30 = .ok (.isub, 1) := by decide +kernel
theorem dX12_oneOf_31 : decode cX12_oneOf 31 = .ok (.istore_n 2, 1) := by decide +kernel
theorem dX12_oneOf_32 : decode cX12_oneOf 32 = .ok (.iinc 3 1, 3) := by decide +kernel
theorem dX12_oneOf_35 : decode cX12_oneOf 35 = .ok (.goto (-31), 3) := by decide +kernel
theorem dX12_oneOf_38 : decode cX12_oneOf 38 = .ok (.iload_n 3, 1) := by decide +kernel
theorem dX12_oneOf_39 : decode cX12_oneOf 39 = .ok (.ireturn, 1) := by decide +kernel
theorem dX12_dayEnds_0 : decode cX12_dayEnds 0 = .ok (.aload_n 0, 1) := by decide +kernel
theorem dX12_dayEnds_1 : decode cX12_dayEnds 1 = .ok (.getfield 13, 3) := by decide +kernel
theorem dX12_dayEnds_4 : decode cX12_dayEnds 4 = .ok (.iconst 3, 1) := by decide +kernel
theorem dX12_dayEnds_5 : decode cX12_dayEnds 5 = .ok (.sipush 9999, 3) := by decide +kernel
theorem dX12_dayEnds_8 : decode cX12_dayEnds 8 = .ok (.aload_n 0, 1) := by decide +kernel
theorem dX12_dayEnds_9 : decode cX12_dayEnds 9 = .ok (.getfield 13, 3) := by decide +kernel
theorem dX12_dayEnds_12 : decode cX12_dayEnds 12 = .ok (.iconst 3, 1) := by decide +kernel
theorem dX12_dayEnds_13 : decode cX12_dayEnds 13 = .ok (.iaload, 1) := by decide +kernel
theorem dX12_dayEnds_14 : decode cX12_dayEnds 14 = .ok (.iconst 1, 1) := by decide +kernel
theorem dX12_dayEnds_15 : decode cX12_dayEnds 15 = .ok (.iadd, 1) := by decide +kernel
theorem dX12_dayEnds_16 : decode cX12_dayEnds 16 = .ok (.invokestatic 305, 3) := by decide +kernel
theorem dX12_dayEnds_19 : decode cX12_dayEnds 19 = .ok (.iastore, 1) := by decide +kernel
theorem dX12_dayEnds_20 : decode cX12_dayEnds 20 = .ok (.return_, 1) := by decide +kernel
theorem dX12_oneDay_0 : decode cX12_oneDay 0 = .ok (.iconst 0, 1) := by decide +kernel
theorem dX12_oneDay_1 : decode cX12_oneDay 1 = .ok (.istore_n 1, 1) := by decide +kernel
theorem dX12_oneDay_2 : decode cX12_oneDay 2 = .ok (.iconst 0, 1) := by decide +kernel
theorem dX12_oneDay_3 : decode cX12_oneDay 3 = .ok (.istore_n 2, 1) := by decide +kernel
theorem dX12_oneDay_4 : decode cX12_oneDay 4 = .ok (.iload_n 2, 1) := by decide +kernel
theorem dX12_oneDay_5 : decode cX12_oneDay 5 = .ok (.aload_n 0, 1) := by decide +kernel
theorem dX12_oneDay_6 : decode cX12_oneDay 6 = .ok (.invokevirtual 78, 3) := by decide +kernel
theorem dX12_oneDay_9 : decode cX12_oneDay 9 = .ok (.if_icmp .ge 107, 3) := by decide +kernel
theorem dX12_oneDay_12 : decode cX12_oneDay 12 = .ok (.aload_n 0, 1) := by decide +kernel
theorem dX12_oneDay_13 : decode cX12_oneDay 13 = .ok (.iload_n 2, 1) := by decide +kernel
theorem dX12_oneDay_14 : decode cX12_oneDay 14 = .ok (.bipush 8, 2) := by decide +kernel
theorem dX12_oneDay_16 : decode cX12_oneDay 16 = .ok (.invokevirtual 86, 3) := by decide +kernel
theorem dX12_oneDay_19 : decode cX12_oneDay 19 = .ok (.istore_n 3, 1) := by decide +kernel
theorem dX12_oneDay_20 : decode cX12_oneDay 20 = .ok (.iload_n 3, 1) := by decide +kernel
theorem dX12_oneDay_21 : decode cX12_oneDay 21 = .ok (.ifCond .eq 89, 3) := by decide +kernel
theorem dX12_oneDay_24 : decode cX12_oneDay 24 = .ok (.aload_n 0, 1) := by decide +kernel
theorem dX12_oneDay_25 : decode cX12_oneDay 25 = .ok (.bipush 100, 2) := by decide +kernel
theorem dX12_oneDay_27 : decode cX12_oneDay 27 = .ok (.invokevirtual 361, 3) := by decide +kernel
theorem dX12_oneDay_30 : decode cX12_oneDay 30 = .ok (.aload_n 0, 1) := by decide +kernel
theorem dX12_oneDay_31 : decode cX12_oneDay 31 = .ok (.iload_n 2, 1) := by decide +kernel
theorem dX12_oneDay_32 : decode cX12_oneDay 32 = .ok (.iconst 5, 1) := by decide +kernel
theorem dX12_oneDay_33 : decode cX12_oneDay 33 = .ok (.invokevirtual 86, 3) := by decide +kernel
theorem dX12_oneDay_36 : decode cX12_oneDay 36 = .ok (.if_icmp .lt 6, 3) := by decide +kernel
theorem dX12_oneDay_39 : decode cX12_oneDay 39 = .ok (.goto 71, 3) := by decide +kernel
theorem dX12_oneDay_42 : decode cX12_oneDay 42 = .ok (.iload_n 3, 1) := by decide +kernel
theorem dX12_oneDay_43 : decode cX12_oneDay 43 = .ok (.aload_n 0, 1) := by decide +kernel
theorem dX12_oneDay_44 : decode cX12_oneDay 44 = .ok (.iload_n 3, 1) := by decide +kernel
theorem dX12_oneDay_45 : decode cX12_oneDay 45 = .ok (.invokestatic 364, 3) := by decide +kernel
theorem dX12_oneDay_48 : decode cX12_oneDay 48 = .ok (.invokevirtual 361, 3) := by decide +kernel
theorem dX12_oneDay_51 : decode cX12_oneDay 51 = .ok (.invokestatic 369, 3) := by decide +kernel
theorem dX12_oneDay_54 : decode cX12_oneDay 54 = .ok (.istore 4, 2) := by decide +kernel
theorem dX12_oneDay_56 : decode cX12_oneDay 56 = .ok (.aload_n 0, 1) := by decide +kernel
theorem dX12_oneDay_57 : decode cX12_oneDay 57 = .ok (.bipush 100, 2) := by decide +kernel
theorem dX12_oneDay_59 : decode cX12_oneDay 59 = .ok (.invokevirtual 361, 3) := by decide +kernel
theorem dX12_oneDay_62 : decode cX12_oneDay 62 = .ok (.aload_n 0, 1) := by decide +kernel
theorem dX12_oneDay_63 : decode cX12_oneDay 63 = .ok (.iload 4, 2) := by decide +kernel
theorem dX12_oneDay_65 : decode cX12_oneDay 65 = .ok (.bipush 6, 2) := by decide +kernel
theorem dX12_oneDay_67 : decode cX12_oneDay 67 = .ok (.invokevirtual 86, 3) := by decide +kernel
theorem dX12_oneDay_70 : decode cX12_oneDay 70 = .ok (.if_icmp .ge 7, 3) := by decide +kernel
theorem dX12_oneDay_73 : decode cX12_oneDay 73 = .ok (.iconst 1, 1) := by decide +kernel
theorem dX12_oneDay_74 : decode cX12_oneDay 74 = .ok (.goto 4, 3) := by decide +kernel
theorem dX12_oneDay_77 : decode cX12_oneDay 77 = .ok (.iconst 0, 1) := by decide +kernel
theorem dX12_oneDay_78 : decode cX12_oneDay 78 = .ok (.istore 5, 2) := by decide +kernel
theorem dX12_oneDay_80 : decode cX12_oneDay 80 = .ok (.aload_n 0, 1) := by decide +kernel
theorem dX12_oneDay_81 : decode cX12_oneDay 81 = .ok (.iload 4, 2) := by decide +kernel
theorem dX12_oneDay_83 : decode cX12_oneDay 83 = .ok (.iload_n 2, 1) := by decide +kernel
theorem dX12_oneDay_84 : decode cX12_oneDay 84 = .ok (.iload 5, 2) := by decide +kernel
theorem dX12_oneDay_86 : decode cX12_oneDay 86 = .ok (.ifCond .ne 7, 3) := by decide +kernel
theorem dX12_oneDay_89 : decode cX12_oneDay 89 = .ok (.iconst 1, 1) := by decide +kernel
theorem dX12_oneDay_90 : decode cX12_oneDay 90 = .ok (.goto 4, 3) := by decide +kernel
theorem dX12_oneDay_93 : decode cX12_oneDay 93 = .ok (.iconst 0, 1) := by decide +kernel
theorem dX12_oneDay_94 : decode cX12_oneDay 94 = .ok (.invokevirtual 355, 3) := by decide +kernel
theorem dX12_oneDay_97 : decode cX12_oneDay 97 = .ok (.iload_n 1, 1) := by decide +kernel
theorem dX12_oneDay_98 : decode cX12_oneDay 98 = .ok (.iload 5, 2) := by decide +kernel
theorem dX12_oneDay_100 : decode cX12_oneDay 100 = .ok (.ifCond .eq 7, 3) := by decide +kernel
theorem dX12_oneDay_103 : decode cX12_oneDay 103 = .ok (.iconst 1, 1) := by decide +kernel
theorem dX12_oneDay_104 : decode cX12_oneDay 104 = .ok (.goto 4, 3) := by decide +kernel
theorem dX12_oneDay_107 : decode cX12_oneDay 107 = .ok (.iconst 0, 1) := by decide +kernel
theorem dX12_oneDay_108 : decode cX12_oneDay 108 = .ok (.iadd, 1) := by decide +kernel
theorem dX12_oneDay_109 : decode cX12_oneDay 109 = .ok (.istore_n 1, 1) := by decide +kernel
theorem dX12_oneDay_110 : decode cX12_oneDay 110 = .ok (.iinc 2 1, 3) := by decide +kernel
theorem dX12_oneDay_113 : decode cX12_oneDay 113 = .ok (.goto (-109), 3) := by decide +kernel
theorem dX12_oneDay_116 : decode cX12_oneDay 116 = .ok (.aload_n 0, 1) := by decide +kernel
theorem dX12_oneDay_117 : decode cX12_oneDay 117 = .ok (.invokevirtual 372, 3) := by decide +kernel
theorem dX12_oneDay_120 : decode cX12_oneDay 120 = .ok (.iload_n 1, 1) := by decide +kernel
theorem dX12_oneDay_121 : decode cX12_oneDay 121 = .ok (.ireturn, 1) := by decide +kernel
theorem dX12_goesOn_0 : decode cX12_goesOn 0 = .ok (.iconst 0, 1) := by decide +kernel
theorem dX12_goesOn_1 : decode cX12_goesOn 1 = .ok (.istore_n 2, 1) := by decide +kernel
theorem dX12_goesOn_2 : decode cX12_goesOn 2 = .ok (.iconst 0, 1) := by decide +kernel
theorem dX12_goesOn_3 : decode cX12_goesOn 3 = .ok (.istore_n 3, 1) := by decide +kernel
theorem dX12_goesOn_4 : decode cX12_goesOn 4 = .ok (.iload_n 3, 1) := by decide +kernel
theorem dX12_goesOn_5 : decode cX12_goesOn 5 = .ok (.iload_n 1, 1) := by decide +kernel
theorem dX12_goesOn_6 : decode cX12_goesOn 6 = .ok (.if_icmp .ge 16, 3) := by decide +kernel
theorem dX12_goesOn_9 : decode cX12_goesOn 9 = .ok (.iload_n 2, 1) := by decide +kernel
theorem dX12_goesOn_10 : decode cX12_goesOn 10 = .ok (.aload_n 0, 1) := by decide +kernel
theorem dX12_goesOn_11 : decode cX12_goesOn 11 = .ok (.invokevirtual 375, 3) := by decide +kernel
theorem dX12_goesOn_14 : decode cX12_goesOn 14 = .ok (.iadd, 1) := by decide +kernel
theorem dX12_goesOn_15 : decode cX12_goesOn 15 = .ok (.istore_n 2, 1) := by decide +kernel
theorem dX12_goesOn_16 : decode cX12_goesOn 16 = .ok (.iinc 3 1, 3) := by decide +kernel
theorem dX12_goesOn_19 : decode cX12_goesOn 19 = .ok (.goto (-15), 3) := by decide +kernel
theorem dX12_goesOn_22 : decode cX12_goesOn 22 = .ok (.iload_n 2, 1) := by decide +kernel
theorem dX12_goesOn_23 : decode cX12_goesOn 23 = .ok (.ireturn, 1) := by decide +kernel
theorem dX12_dayOf_0 : decode cX12_dayOf 0 = .ok (.iconst 0, 1) := by decide +kernel
theorem dX12_dayOf_1 : decode cX12_dayOf 1 = .ok (.istore_n 2, 1) := by decide +kernel
theorem dX12_dayOf_2 : decode cX12_dayOf 2 = .ok (.iload_n 2, 1) := by decide +kernel
theorem dX12_dayOf_3 : decode cX12_dayOf 3 = .ok (.aload_n 0, 1) := by decide +kernel
theorem dX12_dayOf_4 : decode cX12_dayOf 4 = .ok (.invokevirtual 78, 3) := by decide +kernel
theorem dX12_dayOf_7 : decode cX12_dayOf 7 = .ok (.if_icmp .ge 36, 3) := by decide +kernel
theorem dX12_dayOf_10 : decode cX12_dayOf 10 = .ok (.aload_n 0, 1) := by decide +kernel
theorem dX12_dayOf_11 : decode cX12_dayOf 11 = .ok (.iload_n 2, 1) := by decide +kernel
theorem dX12_dayOf_12 : decode cX12_dayOf 12 = .ok (.bipush 8, 2) := by decide +kernel
theorem dX12_dayOf_14 : decode cX12_dayOf 14 = .ok (.invokevirtual 86, 3) := by decide +kernel
theorem dX12_dayOf_17 : decode cX12_dayOf 17 = .ok (.ifCond .eq 20, 3) := by decide +kernel
theorem dX12_dayOf_20 : decode cX12_dayOf 20 = .ok (.aload_n 0, 1) := by decide +kernel
theorem dX12_dayOf_21 : decode cX12_dayOf 21 = .ok (.aload_n 0, 1) := by decide +kernel
theorem dX12_dayOf_22 : decode cX12_dayOf 22 = .ok (.iload_n 2, 1) := by decide +kernel
theorem dX12_dayOf_23 : decode cX12_dayOf 23 = .ok (.bipush 8, 2) := by decide +kernel
theorem dX12_dayOf_25 : decode cX12_dayOf 25 = .ok (.invokevirtual 86, 3) := by decide +kernel
theorem dX12_dayOf_28 : decode cX12_dayOf 28 = .ok (.iconst 0, 1) := by decide +kernel
theorem dX12_dayOf_29 : decode cX12_dayOf 29 = .ok (.invokestatic 369, 3) := by decide +kernel
theorem dX12_dayOf_32 : decode cX12_dayOf 32 = .ok (.iload_n 2, 1) := by decide +kernel
theorem dX12_dayOf_33 : decode cX12_dayOf 33 = .ok (.iload_n 1, 1) := by decide +kernel
theorem dX12_dayOf_34 : decode cX12_dayOf 34 = .ok (.invokevirtual 316, 3) := by decide +kernel
theorem dX12_dayOf_37 : decode cX12_dayOf 37 = .ok (.iinc 2 1, 3) := by decide +kernel
theorem dX12_dayOf_40 : decode cX12_dayOf 40 = .ok (.goto (-38), 3) := by decide +kernel
theorem dX12_dayOf_43 : decode cX12_dayOf 43 = .ok (.aload_n 0, 1) := by decide +kernel
theorem dX12_dayOf_44 : decode cX12_dayOf 44 = .ok (.invokevirtual 372, 3) := by decide +kernel
theorem dX12_dayOf_47 : decode cX12_dayOf 47 = .ok (.return_, 1) := by decide +kernel
theorem dX12_days_0 : decode cX12_days 0 = .ok (.aload_n 0, 1) := by decide +kernel
theorem dX12_days_1 : decode cX12_days 1 = .ok (.iconst 0, 1) := by decide +kernel
theorem dX12_days_2 : decode cX12_days 2 = .ok (.putfield 3, 3) := by decide +kernel
theorem dX12_days_5 : decode cX12_days 5 = .ok (.aload_n 0, 1) := by decide +kernel
theorem dX12_days_6 : decode cX12_days 6 = .ok (.iload_n 1, 1) := by decide +kernel
theorem dX12_days_7 : decode cX12_days 7 = .ok (.iconst 1, 1) := by decide +kernel
theorem dX12_days_8 : decode cX12_days 8 = .ok (.bipush 100, 2) := by decide +kernel
theorem dX12_days_10 : decode cX12_days 10 = .ok (.invokestatic 82, 3) := by decide +kernel
theorem dX12_days_13 : decode cX12_days 13 = .ok (.ifCond .ne 7, 3) := by decide +kernel
theorem dX12_days_16 : decode cX12_days 16 = .ok (.iconst 1, 1) := by decide +kernel
theorem dX12_days_17 : decode cX12_days 17 = .ok (.goto 4, 3) := by decide +kernel
theorem dX12_days_20 : decode cX12_days 20 = .ok (.iconst 0, 1) := by decide +kernel
theorem dX12_days_21 : decode cX12_days 21 = .ok (.iconst 1, 1) := by decide +kernel
theorem dX12_days_22 : decode cX12_days 22 = .ok (.invokevirtual 291, 3) := by decide +kernel
theorem dX12_days_25 : decode cX12_days 25 = .ok (.ifCond .eq 5, 3) := by decide +kernel
theorem dX12_days_28 : decode cX12_days 28 = .ok (.iconst 0, 1) := by decide +kernel
theorem dX12_days_29 : decode cX12_days 29 = .ok (.ireturn, 1) := by decide +kernel
theorem dX12_days_30 : decode cX12_days 30 = .ok (.aload_n 0, 1) := by decide +kernel
theorem dX12_days_31 : decode cX12_days 31 = .ok (.invokevirtual 352, 3) := by decide +kernel
theorem dX12_days_34 : decode cX12_days 34 = .ok (.aload_n 0, 1) := by decide +kernel
theorem dX12_days_35 : decode cX12_days 35 = .ok (.iload_n 1, 1) := by decide +kernel
theorem dX12_days_36 : decode cX12_days 36 = .ok (.invokevirtual 378, 3) := by decide +kernel
theorem dX12_days_39 : decode cX12_days 39 = .ok (.ireturn, 1) := by decide +kernel
theorem dX12_cribOnes_0 : decode cX12_cribOnes 0 = .ok (.iconst 0, 1) := by decide +kernel
theorem dX12_cribOnes_1 : decode cX12_cribOnes 1 = .ok (.istore_n 1, 1) := by decide +kernel
theorem dX12_cribOnes_2 : decode cX12_cribOnes 2 = .ok (.iconst 0, 1) := by decide +kernel
theorem dX12_cribOnes_3 : decode cX12_cribOnes 3 = .ok (.istore_n 2, 1) := by decide +kernel
theorem dX12_cribOnes_4 : decode cX12_cribOnes 4 = .ok (.iload_n 2, 1) := by decide +kernel
theorem dX12_cribOnes_5 : decode cX12_cribOnes 5 = .ok (.aload_n 0, 1) := by decide +kernel
theorem dX12_cribOnes_6 : decode cX12_cribOnes 6 = .ok (.invokevirtual 78, 3) := by decide +kernel
theorem dX12_cribOnes_9 : decode cX12_cribOnes 9 = .ok (.if_icmp .ge 34, 3) := by decide +kernel
theorem dX12_cribOnes_12 : decode cX12_cribOnes 12 = .ok (.iload_n 1, 1) := by decide +kernel
theorem dX12_cribOnes_13 : decode cX12_cribOnes 13 = .ok (.aload_n 0, 1) := by decide +kernel
theorem dX12_cribOnes_14 : decode cX12_cribOnes 14 = .ok (.iload_n 2, 1) := by decide +kernel
theorem dX12_cribOnes_15 : decode cX12_cribOnes 15 = .ok (.iconst 0, 1) := by decide +kernel
theorem dX12_cribOnes_16 : decode cX12_cribOnes 16 = .ok (.invokevirtual 86, 3) := by decide +kernel
theorem dX12_cribOnes_19 : decode cX12_cribOnes 19 = .ok (.aload_n 0, 1) := by decide +kernel
theorem dX12_cribOnes_20 : decode cX12_cribOnes 20 = .ok (.getfield 13, 3) := by decide +kernel
theorem dX12_cribOnes_23 : decode cX12_cribOnes 23 = .ok (.iconst 5, 1) := by decide +kernel
theorem dX12_cribOnes_24 : decode cX12_cribOnes 24 = .ok (.iaload, 1) := by decide +kernel
theorem dX12_cribOnes_25 : decode cX12_cribOnes 25 = .ok (.if_icmp .ge 9, 3) := by decide +kernel
theorem dX12_cribOnes_28 : decode cX12_cribOnes 28 = .ok (.iconst 1, 1) := by decide +kernel
theorem dX12_cribOnes_29 : decode cX12_cribOnes 29 = .ok (.iload_n 2, 1) := by decide +kernel
theorem dX12_cribOnes_30 : decode cX12_cribOnes 30 = .ok (.ishl, 1) := by decide +kernel
theorem dX12_cribOnes_31 : decode cX12_cribOnes 31 = .ok (.goto 4, 3) := by decide +kernel
theorem dX12_cribOnes_34 : decode cX12_cribOnes 34 = .ok (.iconst 0, 1) := by decide +kernel
theorem dX12_cribOnes_35 : decode cX12_cribOnes 35 = .ok (.ior, 1) := by decide +kernel
theorem dX12_cribOnes_36 : decode cX12_cribOnes 36 = .ok (.istore_n 1, 1) := by decide +kernel
theorem dX12_cribOnes_37 : decode cX12_cribOnes 37 = .ok (.iinc 2 1, 3) := by decide +kernel
theorem dX12_cribOnes_40 : decode cX12_cribOnes 40 = .ok (.goto (-36), 3) := by decide +kernel
theorem dX12_cribOnes_43 : decode cX12_cribOnes 43 = .ok (.iload_n 1, 1) := by decide +kernel
theorem dX12_cribOnes_44 : decode cX12_cribOnes 44 = .ok (.ireturn, 1) := by decide +kernel
theorem dX12_cradle_0 : decode cX12_cradle 0 = .ok (.aload_n 0, 1) := by decide +kernel
theorem dX12_cradle_1 : decode cX12_cradle 1 = .ok (.iconst 0, 1) := by decide +kernel
theorem dX12_cradle_2 : decode cX12_cradle 2 = .ok (.putfield 3, 3) := by decide +kernel
theorem dX12_cradle_5 : decode cX12_cradle 5 = .ok (.iconst (-1), 1) := by decide +kernel
theorem dX12_cradle_6 : decode cX12_cradle 6 = .ok (.istore_n 3, 1) := by decide +kernel
theorem dX12_cradle_7 : decode cX12_cradle 7 = .ok (.aload_n 0, 1) := by decide +kernel
theorem dX12_cradle_8 : decode cX12_cradle 8 = .ok (.invokevirtual 346, 3) := by decide +kernel
theorem dX12_cradle_11 : decode cX12_cradle 11 = .ok (.iconst 0, 1) := by decide +kernel
theorem dX12_cradle_12 : decode cX12_cradle 12 = .ok (.istore 4, 2) := by decide +kernel
theorem dX12_cradle_14 : decode cX12_cradle 14 = .ok (.iload 4, 2) := by decide +kernel
theorem dX12_cradle_16 : decode cX12_cradle 16 = .ok (.bipush 100, 2) := by decide +kernel
theorem dX12_cradle_18 : decode cX12_cradle 18 = .ok (.if_icmp .gt 46, 3) := by decide +kernel
theorem dX12_cradle_21 : decode cX12_cradle 21 = .ok (.iload_n 3, 1) := by decide +kernel
theorem dX12_cradle_22 : decode cX12_cradle 22 = .ok (.iconst (-1), 1) := by decide +kernel
theorem dX12_cradle_23 : decode cX12_cradle 23 = .ok (.if_icmp .ne 41, 3) := by decide +kernel
theorem dX12_cradle_26 : decode cX12_cradle 26 = .ok (.aload_n 0, 1) := by decide +kernel
theorem dX12_cradle_27 : decode cX12_cradle 27 = .ok (.invokevirtual 381, 3) := by decide +kernel
theorem dX12_cradle_30 : decode cX12_cradle 30 = .ok (.istore 5, 2) := by decide +kernel
theorem dX12_cradle_32 : decode cX12_cradle 32 = .ok (.iload 5, 2) := by decide +kernel
theorem dX12_cradle_34 : decode cX12_cradle 34 = .ok (.ifCond .eq 19, 3) := by decide +kernel
theorem dX12_cradle_37 : decode cX12_cradle 37 = .ok (.iload_n 2, 1) := by decide +kernel
theorem dX12_cradle_38 : decode cX12_cradle 38 = .ok (.ifCond .eq 12, 3) := by decide +kernel
theorem dX12_cradle_41 : decode cX12_cradle 41 = .ok (.iload 5, 2) := by decide +kernel
theorem dX12_cradle_43 : decode cX12_cradle 43 = .ok (.iconst 0, 1) := by decide +kernel
theorem dX12_cradle_44 : decode cX12_cradle 44 = .ok (.invokestatic 369, 3) := by decide +kernel
theorem dX12_cradle_47 : decode cX12_cradle 47 = .ok (.goto 5, 3) := by decide +kernel
theorem dX12_cradle_50 : decode cX12_cradle 50 = .ok (.iload 4, 2) := by decide +kernel
theorem dX12_cradle_52 : decode cX12_cradle 52 = .ok (.istore_n 3, 1) := by decide +kernel
theorem dX12_cradle_53 : decode cX12_cradle 53 = .ok (.aload_n 0, 1) := by decide +kernel
theorem dX12_cradle_54 : decode cX12_cradle 54 = .ok (.iload_n 1, 1) := by decide +kernel
theorem dX12_cradle_55 : decode cX12_cradle 55 = .ok (.invokevirtual 384, 3) := by decide +kernel
theorem dX12_cradle_58 : decode cX12_cradle 58 = .ok (.iinc 4 1, 3) := by decide +kernel
theorem dX12_cradle_61 : decode cX12_cradle 61 = .ok (.goto (-47), 3) := by decide +kernel
theorem dX12_cradle_64 : decode cX12_cradle 64 = .ok (.aload_n 0, 1) := by decide +kernel
theorem dX12_cradle_65 : decode cX12_cradle 65 = .ok (.invokevirtual 349, 3) := by decide +kernel
theorem dX12_cradle_68 : decode cX12_cradle 68 = .ok (.iload_n 3, 1) := by decide +kernel
theorem dX12_cradle_69 : decode cX12_cradle 69 = .ok (.ireturn, 1) := by decide +kernel
theorem dX12_agesAsKept_0 : decode cX12_agesAsKept 0 = .ok (.iconst 1, 1) := by decide +kernel
theorem dX12_agesAsKept_1 : decode cX12_agesAsKept 1 = .ok (.istore_n 1, 1) := by decide +kernel
theorem dX12_agesAsKept_2 : decode cX12_agesAsKept 2 = .ok (.iconst 0, 1) := by decide +kernel
theorem dX12_agesAsKept_3 : decode cX12_agesAsKept 3 = .ok (.istore_n 2, 1) := by decide +kernel
theorem dX12_agesAsKept_4 : decode cX12_agesAsKept 4 = .ok (.iload_n 2, 1) := by decide +kernel
theorem dX12_agesAsKept_5 : decode cX12_agesAsKept 5 = .ok (.aload_n 0, 1) := by decide +kernel
theorem dX12_agesAsKept_6 : decode cX12_agesAsKept 6 = .ok (.invokevirtual 78, 3) := by decide +kernel
theorem dX12_agesAsKept_9 : decode cX12_agesAsKept 9 = .ok (.if_icmp .ge 38, 3) := by decide +kernel
theorem dX12_agesAsKept_12 : decode cX12_agesAsKept 12 = .ok (.iload_n 1, 1) := by decide +kernel
theorem dX12_agesAsKept_13 : decode cX12_agesAsKept 13 = .ok (.ifCond .eq 26, 3) := by decide +kernel
theorem dX12_agesAsKept_16 : decode cX12_agesAsKept 16 = .ok (.aload_n 0, 1) := by decide +kernel
theorem dX12_agesAsKept_17 : decode cX12_agesAsKept 17 = .ok (.iload_n 2, 1) := by decide +kernel
theorem dX12_agesAsKept_18 : decode cX12_agesAsKept 18 = .ok (.iconst 0, 1) := by decide +kernel
theorem dX12_agesAsKept_19 : decode cX12_agesAsKept 19 = .ok (.invokevirtual 86, 3) := by decide +kernel
theorem dX12_agesAsKept_22 : decode cX12_agesAsKept 22 = .ok (.aload_n 0, 1) := by decide +kernel
theorem dX12_agesAsKept_23 : decode cX12_agesAsKept 23 = .ok (.getfield 23, 3) := by decide +kernel
theorem dX12_agesAsKept_26 : decode cX12_agesAsKept 26 = .ok (.iload_n 2, 1) := by decide +kernel
theorem dX12_agesAsKept_27 : decode cX12_agesAsKept 27 = .ok (.iconst 0, 1) := by decide +kernel
theorem dX12_agesAsKept_28 : decode cX12_agesAsKept 28 = .ok (.invokestatic 74, 3) := by decide +kernel
theorem dX12_agesAsKept_31 : decode cX12_agesAsKept 31 = .ok (.iaload, 1) := by decide +kernel
theorem dX12_agesAsKept_32 : decode cX12_agesAsKept 32 = .ok (.if_icmp .ne 7, 3) := by decide +kernel
theorem dX12_agesAsKept_35 : decode cX12_agesAsKept 35 = .ok (.iconst 1, 1) := by decide +kernel
theorem dX12_agesAsKept_36 : decode cX12_agesAsKept 36 = .ok (.goto 4, 3) := by decide +kernel
theorem dX12_agesAsKept_39 : decode cX12_agesAsKept 39 = .ok (.iconst 0, 1) := by decide +kernel
theorem dX12_agesAsKept_40 : decode cX12_agesAsKept 40 = .ok (.istore_n 1, 1) := by decide +kernel
theorem dX12_agesAsKept_41 : decode cX12_agesAsKept 41 = .ok (.iinc 2 1, 3) := by decide +kernel
theorem dX12_agesAsKept_44 : decode cX12_agesAsKept 44 = .ok (.goto (-40), 3) := by decide +kernel
theorem dX12_agesAsKept_47 : decode cX12_agesAsKept 47 = .ok (.iload_n 1, 1) := by decide +kernel
theorem dX12_agesAsKept_48 : decode cX12_agesAsKept 48 = .ok (.ireturn, 1) := by decide +kernel
theorem dX12_again_0 : decode cX12_again 0 = .ok (.aload_n 0, 1) := by decide +kernel
theorem dX12_again_1 : decode cX12_again 1 = .ok (.iconst 0, 1) := by decide +kernel
theorem dX12_again_2 : decode cX12_again 2 = .ok (.putfield 3, 3) := by decide +kernel
theorem dX12_again_5 : decode cX12_again 5 = .ok (.iconst (-1), 1) := by decide +kernel
theorem dX12_again_6 : decode cX12_again 6 = .ok (.istore_n 2, 1) := by decide +kernel
theorem dX12_again_7 : decode cX12_again 7 = .ok (.aload_n 0, 1) := by decide +kernel
theorem dX12_again_8 : decode cX12_again 8 = .ok (.invokevirtual 346, 3) := by decide +kernel
theorem dX12_again_11 : decode cX12_again 11 = .ok (.iconst 1, 1) := by decide +kernel
theorem dX12_again_12 : decode cX12_again 12 = .ok (.istore_n 3, 1) := by decide +kernel
theorem dX12_again_13 : decode cX12_again 13 = .ok (.iload_n 3, 1) := by decide +kernel
theorem dX12_again_14 : decode cX12_again 14 = .ok (.bipush 100, 2) := by decide +kernel
theorem dX12_again_16 : decode cX12_again 16 = .ok (.if_icmp .gt 32, 3) := by decide +kernel
theorem dX12_again_19 : decode cX12_again 19 = .ok (.iload_n 2, 1) := by decide +kernel
theorem dX12_again_20 : decode cX12_again 20 = .ok (.iconst (-1), 1) := by decide +kernel
theorem dX12_again_21 : decode cX12_again 21 = .ok (.if_icmp .ne 27, 3) := by decide +kernel
theorem dX12_again_24 : decode cX12_again 24 = .ok (.aload_n 0, 1) := by decide +kernel
theorem dX12_again_25 : decode cX12_again 25 = .ok (.iload_n 1, 1) := by decide +kernel
theorem dX12_again_26 : decode cX12_again 26 = .ok (.invokevirtual 384, 3) := by decide +kernel
theorem dX12_again_29 : decode cX12_again 29 = .ok (.aload_n 0, 1) := by decide +kernel
theorem dX12_again_30 : decode cX12_again 30 = .ok (.invokevirtual 388, 3) := by decide +kernel
theorem dX12_again_33 : decode cX12_again 33 = .ok (.ifCond .eq 7, 3) := by decide +kernel
theorem dX12_again_36 : decode cX12_again 36 = .ok (.iload_n 3, 1) := by decide +kernel
theorem dX12_again_37 : decode cX12_again 37 = .ok (.goto 4, 3) := by decide +kernel
theorem dX12_again_40 : decode cX12_again 40 = .ok (.iconst (-1), 1) := by decide +kernel
theorem dX12_again_41 : decode cX12_again 41 = .ok (.istore_n 2, 1) := by decide +kernel
theorem dX12_again_42 : decode cX12_again 42 = .ok (.iinc 3 1, 3) := by decide +kernel
theorem dX12_again_45 : decode cX12_again 45 = .ok (.goto (-32), 3) := by decide +kernel
theorem dX12_again_48 : decode cX12_again 48 = .ok (.aload_n 0, 1) := by decide +kernel
theorem dX12_again_49 : decode cX12_again 49 = .ok (.invokevirtual 349, 3) := by decide +kernel
theorem dX12_again_52 : decode cX12_again 52 = .ok (.iload_n 2, 1) := by decide +kernel
theorem dX12_again_53 : decode cX12_again 53 = .ok (.ireturn, 1) := by decide +kernel
theorem dX12_over_0 : decode cX12_over 0 = .ok (.aload_n 0, 1) := by decide +kernel
theorem dX12_over_1 : decode cX12_over 1 = .ok (.iconst 0, 1) := by decide +kernel
theorem dX12_over_2 : decode cX12_over 2 = .ok (.putfield 3, 3) := by decide +kernel
theorem dX12_over_5 : decode cX12_over 5 = .ok (.aload_n 0, 1) := by decide +kernel
theorem dX12_over_6 : decode cX12_over 6 = .ok (.aload_n 0, 1) := by decide +kernel
theorem dX12_over_7 : decode cX12_over 7 = .ok (.iload_n 1, 1) := by decide +kernel
theorem dX12_over_8 : decode cX12_over 8 = .ok (.invokevirtual 331, 3) := by decide +kernel
theorem dX12_over_11 : decode cX12_over 11 = .ok (.iconst 1, 1) := by decide +kernel
theorem dX12_over_12 : decode cX12_over 12 = .ok (.invokevirtual 291, 3) := by decide +kernel
theorem dX12_over_15 : decode cX12_over 15 = .ok (.ifCond .eq 5, 3) := by decide +kernel
theorem dX12_over_18 : decode cX12_over 18 = .ok (.iconst 0, 1) := by decide +kernel
theorem dX12_over_19 : decode cX12_over 19 = .ok (.ireturn, 1) := by decide +kernel
theorem dX12_over_20 : decode cX12_over 20 = .ok (.iconst (-1), 1) := by decide +kernel
theorem dX12_over_21 : decode cX12_over 21 = .ok (.istore_n 2, 1) := by decide +kernel
theorem dX12_over_22 : decode cX12_over 22 = .ok (.aload_n 0, 1) := by decide +kernel
theorem dX12_over_23 : decode cX12_over 23 = .ok (.invokevirtual 346, 3) := by decide +kernel
theorem dX12_over_26 : decode cX12_over 26 = .ok (.iconst 0, 1) := by decide +kernel
theorem dX12_over_27 : decode cX12_over 27 = .ok (.istore_n 3, 1) := by decide +kernel
theorem dX12_over_28 : decode cX12_over 28 = .ok (.iload_n 3, 1) := by decide +kernel
theorem dX12_over_29 : decode cX12_over 29 = .ok (.bipush 100, 2) := by decide +kernel
theorem dX12_over_31 : decode cX12_over 31 = .ok (.if_icmp .gt 44, 3) := by decide +kernel
theorem dX12_over_34 : decode cX12_over 34 = .ok (.iload_n 2, 1) := by decide +kernel
theorem dX12_over_35 : decode cX12_over 35 = .ok (.iconst (-1), 1) := by decide +kernel
theorem dX12_over_36 : decode cX12_over 36 = .ok (.if_icmp .ne 39, 3) := by decide +kernel
theorem dX12_over_39 : decode cX12_over 39 = .ok (.aload_n 0, 1) := by decide +kernel
theorem dX12_over_40 : decode cX12_over 40 = .ok (.iload_n 1, 1) := by decide +kernel
theorem dX12_over_41 : decode cX12_over 41 = .ok (.iconst 1, 1) := by decide +kernel
theorem dX12_over_42 : decode cX12_over 42 = .ok (.invokevirtual 86, 3) := by decide +kernel
theorem dX12_over_45 : decode cX12_over 45 = .ok (.aload_n 0, 1) := by decide +kernel
theorem dX12_over_46 : decode cX12_over 46 = .ok (.getfield 23, 3) := by decide +kernel
theorem dX12_over_49 : decode cX12_over 49 = .ok (.iload_n 1, 1) := by decide +kernel
theorem dX12_over_50 : decode cX12_over 50 = .ok (.iconst 1, 1) := by decide +kernel
theorem dX12_over_51 : decode cX12_over 51 = .ok (.invokestatic 74, 3) := by decide +kernel
theorem dX12_over_54 : decode cX12_over 54 = .ok (.iaload, 1) := by decide +kernel
theorem dX12_over_55 : decode cX12_over 55 = .ok (.if_icmp .le 7, 3) := by decide +kernel
theorem dX12_over_58 : decode cX12_over 58 = .ok (.iload_n 3, 1) := by decide +kernel
theorem dX12_over_59 : decode cX12_over 59 = .ok (.goto 4, 3) := by decide +kernel
theorem dX12_over_62 : decode cX12_over 62 = .ok (.iconst (-1), 1) := by decide +kernel
theorem dX12_over_63 : decode cX12_over 63 = .ok (.istore_n 2, 1) := by decide +kernel
theorem dX12_over_64 : decode cX12_over 64 = .ok (.aload_n 0, 1) := by decide +kernel
theorem dX12_over_65 : decode cX12_over 65 = .ok (.iconst 0, 1) := by decide +kernel
theorem dX12_over_66 : decode cX12_over 66 = .ok (.invokevirtual 384, 3) := by decide +kernel
theorem dX12_over_69 : decode cX12_over 69 = .ok (.iinc 3 1, 3) := by decide +kernel
theorem dX12_over_72 : decode cX12_over 72 = .ok (.goto (-44), 3) := by decide +kernel
theorem dX12_over_75 : decode cX12_over 75 = .ok (.aload_n 0, 1) := by decide +kernel
theorem dX12_over_76 : decode cX12_over 76 = .ok (.invokevirtual 349, 3) := by decide +kernel
theorem dX12_over_79 : decode cX12_over 79 = .ok (.iload_n 2, 1) := by decide +kernel
theorem dX12_over_80 : decode cX12_over 80 = .ok (.ireturn, 1) := by decide +kernel
theorem dX12_ahead_0 : decode cX12_ahead 0 = .ok (.aload_n 0, 1) := by decide +kernel
theorem dX12_ahead_1 : decode cX12_ahead 1 = .ok (.iconst 0, 1) := by decide +kernel
theorem dX12_ahead_2 : decode cX12_ahead 2 = .ok (.putfield 3, 3) := by decide +kernel
theorem dX12_ahead_5 : decode cX12_ahead 5 = .ok (.aload_n 0, 1) := by decide +kernel
theorem dX12_ahead_6 : decode cX12_ahead 6 = .ok (.aload_n 0, 1) := by decide +kernel
theorem dX12_ahead_7 : decode cX12_ahead 7 = .ok (.iload_n 1, 1) := by decide +kernel
theorem dX12_ahead_8 : decode cX12_ahead 8 = .ok (.invokevirtual 331, 3) := by decide +kernel
theorem dX12_ahead_11 : decode cX12_ahead 11 = .ok (.iconst 1, 1) := by decide +kernel
theorem dX12_ahead_12 : decode cX12_ahead 12 = .ok (.invokevirtual 291, 3) := by decide +kernel
theorem dX12_ahead_15 : decode cX12_ahead 15 = .ok (.ifCond .ne 26, 3) := by decide +kernel
theorem dX12_ahead_18 : decode cX12_ahead 18 = .ok (.aload_n 0, 1) := by decide +kernel
theorem dX12_ahead_19 : decode cX12_ahead 19 = .ok (.iload_n 2, 1) := by decide +kernel
theorem dX12_ahead_20 : decode cX12_ahead 20 = .ok (.iconst 0, 1) := by decide +kernel
theorem dX12_ahead_21 : decode cX12_ahead 21 = .ok (.bipush 100, 2) := by decide +kernel
theorem dX12_ahead_23 : decode cX12_ahead 23 = .ok (.invokestatic 82, 3) := by decide +kernel
theorem dX12_ahead_26 : decode cX12_ahead 26 = .ok (.ifCond .ne 7, 3) := by decide +kernel
theorem dX12_ahead_29 : decode cX12_ahead 29 = .ok (.iconst 1, 1) := by decide +kernel
theorem dX12_ahead_30 : decode cX12_ahead 30 = .ok (.goto 4, 3) := by decide +kernel
theorem dX12_ahead_33 : decode cX12_ahead 33 = .ok (.iconst 0, 1) := by decide +kernel
theorem dX12_ahead_34 : decode cX12_ahead 34 = .ok (.iconst 2, 1) := by decide +kernel
theorem dX12_ahead_35 : decode cX12_ahead 35 = .ok (.invokevirtual 291, 3) := by decide +kernel
theorem dX12_ahead_38 : decode cX12_ahead 38 = .ok (.ifCond .eq 5, 3) := by decide +kernel
theorem dX12_ahead_41 : decode cX12_ahead 41 = .ok (.iconst 0, 1) := by decide +kernel
theorem dX12_ahead_42 : decode cX12_ahead 42 = .ok (.ireturn, 1) := by decide +kernel
theorem dX12_ahead_43 : decode cX12_ahead 43 = .ok (.aload_n 0, 1) := by decide +kernel
theorem dX12_ahead_44 : decode cX12_ahead 44 = .ok (.invokevirtual 346, 3) := by decide +kernel
theorem dX12_ahead_47 : decode cX12_ahead 47 = .ok (.iconst 0, 1) := by decide +kernel
theorem dX12_ahead_48 : decode cX12_ahead 48 = .ok (.istore 4, 2) := by decide +kernel
theorem dX12_ahead_50 : decode cX12_ahead 50 = .ok (.iload 4, 2) := by decide +kernel
theorem dX12_ahead_52 : decode cX12_ahead 52 = .ok (.iload_n 2, 1) := by decide +kernel
theorem dX12_ahead_53 : decode cX12_ahead 53 = .ok (.if_icmp .ge 14, 3) := by decide +kernel
theorem dX12_ahead_56 : decode cX12_ahead 56 = .ok (.aload_n 0, 1) := by decide +kernel
theorem dX12_ahead_57 : decode cX12_ahead 57 = .ok (.iload_n 3, 1) := by decide +kernel
theorem dX12_ahead_58 : decode cX12_ahead 58 = .ok (.invokevirtual 384, 3) := by decide +kernel
theorem dX12_ahead_61 : decode cX12_ahead 61 = .ok (.iinc 4 1, 3) := by decide +kernel
theorem dX12_ahead_64 : decode cX12_ahead 64 = .ok (.goto (-14), 3) := by decide +kernel
theorem dX12_ahead_67 : decode cX12_ahead 67 = .ok (.aload_n 0, 1) := by decide +kernel
theorem dX12_ahead_68 : decode cX12_ahead 68 = .ok (.iload_n 1, 1) := by decide +kernel
theorem dX12_ahead_69 : decode cX12_ahead 69 = .ok (.iconst 0, 1) := by decide +kernel
theorem dX12_ahead_70 : decode cX12_ahead 70 = .ok (.invokevirtual 86, 3) := by decide +kernel
theorem dX12_ahead_73 : decode cX12_ahead 73 = .ok (.istore 4, 2) := by decide +kernel
theorem dX12_ahead_75 : decode cX12_ahead 75 = .ok (.aload_n 0, 1) := by decide +kernel
theorem dX12_ahead_76 : decode cX12_ahead 76 = .ok (.invokevirtual 349, 3) := by decide +kernel
theorem dX12_ahead_79 : decode cX12_ahead 79 = .ok (.iload 4, 2) := by decide +kernel
theorem dX12_ahead_81 : decode cX12_ahead 81 = .ok (.ireturn, 1) := by decide +kernel
theorem dX12_mild_0 : decode cX12_mild 0 = .ok (.aload_n 0, 1) := by decide +kernel
theorem dX12_mild_1 : decode cX12_mild 1 = .ok (.iconst 0, 1) := by decide +kernel
theorem dX12_mild_2 : decode cX12_mild 2 = .ok (.putfield 3, 3) := by decide +kernel
theorem dX12_mild_5 : decode cX12_mild 5 = .ok (.aload_n 0, 1) := by decide +kernel
theorem dX12_mild_6 : decode cX12_mild 6 = .ok (.iload_n 1, 1) := by decide +kernel
theorem dX12_mild_7 : decode cX12_mild 7 = .ok (.iconst 0, 1) := by decide +kernel
theorem dX12_mild_8 : decode cX12_mild 8 = .ok (.bipush 60, 2) := by decide +kernel
theorem dX12_mild_10 : decode cX12_mild 10 = .ok (.invokestatic 82, 3) := by decide +kernel
theorem dX12_mild_13 : decode cX12_mild 13 = .ok (.ifCond .ne 7, 3) := by decide +kernel
theorem dX12_mild_16 : decode cX12_mild 16 = .ok (.iconst 1, 1) := by decide +kernel
theorem dX12_mild_17 : decode cX12_mild 17 = .ok (.goto 4, 3) := by decide +kernel
theorem dX12_mild_20 : decode cX12_mild 20 = .ok (.iconst 0, 1) := by decide +kernel
theorem dX12_mild_21 : decode cX12_mild 21 = .ok (.iconst 1, 1) := by decide +kernel
theorem dX12_mild_22 : decode cX12_mild 22 = .ok (.invokevirtual 291, 3) := by decide +kernel
theorem dX12_mild_25 : decode cX12_mild 25 = .ok (.ifCond .eq 5, 3) := by decide +kernel
theorem dX12_mild_28 : decode cX12_mild 28 = .ok (.iconst 0, 1) := by decide +kernel
theorem dX12_mild_29 : decode cX12_mild 29 = .ok (.ireturn, 1) := by decide +kernel
theorem dX12_mild_30 : decode cX12_mild 30 = .ok (.iconst (-1), 1) := by decide +kernel
theorem dX12_mild_31 : decode cX12_mild 31 = .ok (.istore_n 2, 1) := by decide +kernel
theorem dX12_mild_32 : decode cX12_mild 32 = .ok (.aload_n 0, 1) := by decide +kernel
theorem dX12_mild_33 : decode cX12_mild 33 = .ok (.invokevirtual 346, 3) := by decide +kernel
theorem dX12_mild_36 : decode cX12_mild 36 = .ok (.bipush 20, 2) := by decide +kernel
theorem dX12_mild_38 : decode cX12_mild 38 = .ok (.istore_n 3, 1) := by decide +kernel
theorem dX12_mild_39 : decode cX12_mild 39 = .ok (.iload_n 3, 1) := by decide +kernel
theorem dX12_mild_40 : decode cX12_mild 40 = .ok (.ifCond .lt 79, 3) := by decide +kernel
theorem dX12_mild_43 : decode cX12_mild 43 = .ok (.iload_n 2, 1) := by decide +kernel
theorem dX12_mild_44 : decode cX12_mild 44 = .ok (.iconst (-1), 1) := by decide +kernel
theorem dX12_mild_45 : decode cX12_mild 45 = .ok (.if_icmp .ne 74, 3) := by decide +kernel
theorem dX12_mild_48 : decode cX12_mild 48 = .ok (.aload_n 0, 1) := by decide +kernel
theorem dX12_mild_49 : decode cX12_mild 49 = .ok (.getfield 13, 3) := by decide +kernel
theorem dX12_mild_52 : decode cX12_mild 52 = .ok (.bipush 6, 2) := by decide +kernel
theorem dX12_mild_54 : decode cX12_mild 54 = .ok (.iload_n 3, 1) := by decide +kernel
theorem dX12_mild_55 : decode cX12_mild 55 = .ok (.iastore, 1) := by decide +kernel
theorem dX12_mild_56 : decode cX12_mild 56 = .ok (.iconst 1, 1) := by decide +kernel
theorem dX12_mild_57 : decode cX12_mild 57 = .ok (.istore 4, 2) := by decide +kernel
theorem dX12_mild_59 : decode cX12_mild 59 = .ok (.iconst 0, 1) := by decide +kernel
theorem dX12_mild_60 : decode cX12_mild 60 = .ok (.istore 5, 2) := by decide +kernel
theorem dX12_mild_62 : decode cX12_mild 62 = .ok (.iload 5, 2) := by decide +kernel
theorem dX12_mild_64 : decode cX12_mild 64 = .ok (.iload_n 1, 1) := by decide +kernel
theorem dX12_mild_65 : decode cX12_mild 65 = .ok (.if_icmp .ge 33, 3) := by decide +kernel
theorem dX12_mild_68 : decode cX12_mild 68 = .ok (.iload 4, 2) := by decide +kernel
theorem dX12_mild_70 : decode cX12_mild 70 = .ok (.ifCond .eq 28, 3) := by decide +kernel
theorem dX12_mild_73 : decode cX12_mild 73 = .ok (.aload_n 0, 1) := by decide +kernel
theorem dX12_mild_74 : decode cX12_mild 74 = .ok (.iconst 0, 1) := by decide +kernel
theorem dX12_mild_75 : decode cX12_mild 75 = .ok (.invokevirtual 384, 3) := by decide +kernel
theorem dX12_mild_78 : decode cX12_mild 78 = .ok (.aload_n 0, 1) := by decide +kernel
theorem dX12_mild_79 : decode cX12_mild 79 = .ok (.invokevirtual 381, 3) := by decide +kernel
theorem dX12_mild_82 : decode cX12_mild 82 = .ok (.ifCond .ne 7, 3) := by decide +kernel
theorem dX12_mild_85 : decode cX12_mild 85 = .ok (.iconst 1, 1) := by decide +kernel
theorem dX12_mild_86 : decode cX12_mild 86 = .ok (.goto 4, 3) := by decide +kernel
theorem dX12_mild_89 : decode cX12_mild 89 = .ok (.iconst 0, 1) := by decide +kernel
theorem dX12_mild_90 : decode cX12_mild 90 = .ok (.istore 4, 2) := by decide +kernel
theorem dX12_mild_92 : decode cX12_mild 92 = .ok (.iinc 5 1, 3) := by decide +kernel
theorem dX12_mild_95 : decode cX12_mild 95 = .ok (.goto (-33), 3) := by decide +kernel
theorem dX12_mild_98 : decode cX12_mild 98 = .ok (.aload_n 0, 1) := by decide +kernel
theorem dX12_mild_99 : decode cX12_mild 99 = .ok (.invokevirtual 349, 3) := by decide +kernel
theorem dX12_mild_102 : decode cX12_mild 102 = .ok (.iload 4, 2) := by decide +kernel
theorem dX12_mild_104 : decode cX12_mild 104 = .ok (.ifCond .eq 7, 3) := by decide +kernel
theorem dX12_mild_107 : decode cX12_mild 107 = .ok (.iload_n 3, 1) := by decide +kernel
theorem dX12_mild_108 : decode cX12_mild 108 = .ok (.goto 4, 3) := by decide +kernel
theorem dX12_mild_111 : decode cX12_mild 111 = .ok (.iconst (-1), 1) := by decide +kernel
theorem dX12_mild_112 : decode cX12_mild 112 = .ok (.istore_n 2, 1) := by decide +kernel
theorem dX12_mild_113 : decode cX12_mild 113 = .ok (.iinc 3 (-1), 3) := by decide +kernel
theorem dX12_mild_116 : decode cX12_mild 116 = .ok (.goto (-77), 3) := by decide +kernel
theorem dX12_mild_119 : decode cX12_mild 119 = .ok (.iload_n 2, 1) := by decide +kernel
theorem dX12_mild_120 : decode cX12_mild 120 = .ok (.ireturn, 1) := by decide +kernel
theorem dX12_finds_0 : decode cX12_finds 0 = .ok (.aload_n 0, 1) := by decide +kernel
theorem dX12_finds_1 : decode cX12_finds 1 = .ok (.getfield 42, 3) := by decide +kernel
theorem dX12_finds_4 : decode cX12_finds 4 = .ok (.iload_n 1, 1) := by decide +kernel
theorem dX12_finds_5 : decode cX12_finds 5 = .ok (.iaload, 1) := by decide +kernel
theorem dX12_finds_6 : decode cX12_finds 6 = .ok (.iconst (-1), 1) := by decide +kernel
theorem dX12_finds_7 : decode cX12_finds 7 = .ok (.if_icmp .ne 40, 3) := by decide +kernel
theorem dX12_finds_10 : decode cX12_finds 10 = .ok (.aload_n 0, 1) := by decide +kernel
theorem dX12_finds_11 : decode cX12_finds 11 = .ok (.getfield 42, 3) := by decide +kernel
theorem dX12_finds_14 : decode cX12_finds 14 = .ok (.iload_n 1, 1) := by decide +kernel
theorem dX12_finds_15 : decode cX12_finds 15 = .ok (.iload_n 2, 1) := by decide +kernel
theorem dX12_finds_16 : decode cX12_finds 16 = .ok (.iastore, 1) := by decide +kernel
theorem dX12_finds_17 : decode cX12_finds 17 = .ok (.aload_n 0, 1) := by decide +kernel
theorem dX12_finds_18 : decode cX12_finds 18 = .ok (.getfield 45, 3) := by decide +kernel
theorem dX12_finds_21 : decode cX12_finds 21 = .ok (.iload_n 1, 1) := by decide +kernel
theorem dX12_finds_22 : decode cX12_finds 22 = .ok (.iload_n 3, 1) := by decide +kernel
theorem dX12_finds_23 : decode cX12_finds 23 = .ok (.iastore, 1) := by decide +kernel
theorem dX12_finds_24 : decode cX12_finds 24 = .ok (.aload_n 0, 1) := by decide +kernel
theorem dX12_finds_25 : decode cX12_finds 25 = .ok (.getfield 48, 3) := by decide +kernel
theorem dX12_finds_28 : decode cX12_finds 28 = .ok (.aload_n 0, 1) := by decide +kernel
theorem dX12_finds_29 : decode cX12_finds 29 = .ok (.getfield 391, 3) := by decide +kernel
theorem dX12_finds_32 : decode cX12_finds 32 = .ok (.iload_n 1, 1) := by decide +kernel
theorem dX12_finds_33 : decode cX12_finds 33 = .ok (.iastore, 1) := by decide +kernel
theorem dX12_finds_34 : decode cX12_finds 34 = .ok (.aload_n 0, 1) := by decide +kernel
theorem dX12_finds_35 : decode cX12_finds 35 = .ok (.dup, 1) := by decide +kernel
theorem dX12_finds_36 : decode cX12_finds 36 = .ok (.getfield 391, 3) := by decide +kernel
theorem dX12_finds_39 : decode cX12_finds 39 = .ok (.iconst 1, 1) := by decide +kernel
theorem dX12_finds_40 : decode cX12_finds 40 = .ok (.iadd, 1) := by decide +kernel
theorem dX12_finds_41 : decode cX12_finds 41 = .ok (.putfield 391, 3) := by decide +kernel
theorem dX12_finds_44 : decode cX12_finds 44 = .ok (.goto 29, 3) := by decide +kernel
theorem dX12_finds_47 : decode cX12_finds 47 = .ok (.aload_n 0, 1) := by decide +kernel
theorem dX12_finds_48 : decode cX12_finds 48 = .ok (.getfield 42, 3) := by decide +kernel
theorem dX12_finds_51 : decode cX12_finds 51 = .ok (.iload_n 1, 1) := by decide +kernel
theorem dX12_finds_52 : decode cX12_finds 52 = .ok (.iaload, 1) := by decide +kernel
theorem dX12_finds_53 : decode cX12_finds 53 = .ok (.iload_n 2, 1) := by decide +kernel
theorem dX12_finds_54 : decode cX12_finds 54 = .ok (.if_icmp .ne 19, 3) := by decide +kernel
theorem dX12_finds_57 : decode cX12_finds 57 = .ok (.aload_n 0, 1) := by decide +kernel
theorem dX12_finds_58 : decode cX12_finds 58 = .ok (.getfield 45, 3) := by decide +kernel
theorem dX12_finds_61 : decode cX12_finds 61 = .ok (.iload_n 1, 1) := by decide +kernel
theorem dX12_finds_62 : decode cX12_finds 62 = .ok (.aload_n 0, 1) := by decide +kernel
theorem dX12_finds_63 : decode cX12_finds 63 = .ok (.getfield 45, 3) := by decide +kernel
theorem dX12_finds_66 : decode cX12_finds 66 = .ok (.iload_n 1, 1) := by decide +kernel
theorem dX12_finds_67 : decode cX12_finds 67 = .ok (.iaload, 1) := by decide +kernel
theorem dX12_finds_68 : decode cX12_finds 68 = .ok (.iload_n 3, 1) := by decide +kernel
theorem dX12_finds_69 : decode cX12_finds 69 = .ok (.invokestatic 305, 3) := by decide +kernel
theorem dX12_finds_72 : decode cX12_finds 72 = .ok (.iastore, 1) := by decide +kernel
theorem dX12_finds_73 : decode cX12_finds 73 = .ok (.return_, 1) := by decide +kernel
theorem dX12_looksRound_0 : decode cX12_looksRound 0 = .ok (.iconst 0, 1) := by decide +kernel
theorem dX12_looksRound_1 : decode cX12_looksRound 1 = .ok (.istore_n 3, 1) := by decide +kernel
theorem dX12_looksRound_2 : decode cX12_looksRound 2 = .ok (.iload_n 3, 1) := by decide +kernel
theorem dX12_looksRound_3 : decode cX12_looksRound 3 = .ok (.bipush 99, 2) := by decide +kernel
theorem dX12_looksRound_5 : decode cX12_looksRound 5 = .ok (.if_icmp .ge 16, 3) := by decide +kernel
theorem dX12_looksRound_8 : decode cX12_looksRound 8 = .ok (.aload_n 0, 1) := by decide +kernel
theorem dX12_looksRound_9 : decode cX12_looksRound 9 = .ok (.getfield 42, 3) := by decide +kernel
theorem dX12_looksRound_12 : decode cX12_looksRound 12 = .ok (.iload_n 3, 1) := by decide +kernel
theorem dX12_looksRound_13 : decode cX12_looksRound 13 = .ok (.iconst (-1), 1) := by decide +kernel
theorem dX12_looksRound_14 : decode cX12_looksRound 14 = .ok (.iastore, 1) := by decide +kernel
theorem dX12_looksRound_15 : decode cX12_looksRound 15 = .ok (.iinc 3 1, 3) := by decide +kernel
theorem dX12_looksRound_18 : decode cX12_looksRound 18 = .ok (.goto (-16), 3) := by decide +kernel
theorem dX12_looksRound_21 : decode cX12_looksRound 21 = .ok (.aload_n 0, 1) := by decide +kernel
theorem dX12_looksRound_22 : decode cX12_looksRound 22 = .ok (.iconst 0, 1) := by decide +kernel
theorem dX12_looksRound_23 : decode cX12_looksRound 23 = .ok (.putfield 391, 3) := by decide +kernel
theorem dX12_looksRound_26 : decode cX12_looksRound 26 = .ok (.aload_n 0, 1) := by decide +kernel
theorem dX12_looksRound_27 : decode cX12_looksRound 27 = .ok (.aload_n 0, 1) := by decide +kernel
theorem dX12_looksRound_28 : decode cX12_looksRound 28 = .ok (.iload_n 1, 1) := by decide +kernel
theorem dX12_looksRound_29 : decode cX12_looksRound 29 = .ok (.iconst 0, 1) := by decide +kernel
theorem dX12_looksRound_30 : decode cX12_looksRound 30 = .ok (.invokevirtual 86, 3) := by decide +kernel
theorem dX12_looksRound_33 : decode cX12_looksRound 33 = .ok (.iconst 0, 1) := by decide +kernel
theorem dX12_looksRound_34 : decode cX12_looksRound 34 = .ok (.iconst (-1), 1) := by decide +kernel
theorem dX12_looksRound_35 : decode cX12_looksRound 35 = .ok (.invokevirtual 394, 3) := by decide +kernel
theorem dX12_looksRound_38 : decode cX12_looksRound 38 = .ok (.iconst 0, 1) := by decide +kernel
theorem dX12_looksRound_39 : decode cX12_looksRound 39 = .ok (.istore_n 3, 1) := by decide +kernel
theorem dX12_looksRound_40 : decode cX12_looksRound 40 = .ok (.iload_n 3, 1) := by decide +kernel
theorem dX12_looksRound_41 : decode cX12_looksRound 41 = .ok (.aload_n 0, 1) := by decide +kernel
theorem dX12_looksRound_42 : decode cX12_looksRound 42 = .ok (.getfield 391, 3) := by decide +kernel
theorem dX12_looksRound_45 : decode cX12_looksRound 45 = .ok (.if_icmp .ge 111, 3) := by decide +kernel
theorem dX12_looksRound_48 : decode cX12_looksRound 48 = .ok (.aload_n 0, 1) := by decide +kernel
theorem dX12_looksRound_49 : decode cX12_looksRound 49 = .ok (.getfield 42, 3) := by decide +kernel
theorem dX12_looksRound_52 : decode cX12_looksRound 52 = .ok (.aload_n 0, 1) := by decide +kernel
theorem dX12_looksRound_53 : decode cX12_looksRound 53 = .ok (.getfield 48, 3) := by decide +kernel
theorem dX12_looksRound_56 : decode cX12_looksRound 56 = .ok (.iload_n 3, 1) := by decide +kernel
theorem dX12_looksRound_57 : decode cX12_looksRound 57 = .ok (.iaload, 1) := by decide +kernel
theorem dX12_looksRound_58 : decode cX12_looksRound 58 = .ok (.iaload, 1) := by decide +kernel
theorem dX12_looksRound_59 : decode cX12_looksRound 59 = .ok (.iload_n 2, 1) := by decide +kernel
theorem dX12_looksRound_60 : decode cX12_looksRound 60 = .ok (.if_icmp .ge 96, 3) := by decide +kernel
theorem dX12_looksRound_63 : decode cX12_looksRound 63 = .ok (.aload_n 0, 1) := by decide +kernel
theorem dX12_looksRound_64 : decode cX12_looksRound 64 = .ok (.getfield 48, 3) := by decide +kernel
theorem dX12_looksRound_67 : decode cX12_looksRound 67 = .ok (.iload_n 3, 1) := by decide +kernel
theorem dX12_looksRound_68 : decode cX12_looksRound 68 = .ok (.iaload, 1) := by decide +kernel
theorem dX12_looksRound_69 : decode cX12_looksRound 69 = .ok (.istore 4, 2) := by decide +kernel
theorem dX12_looksRound_71 : decode cX12_looksRound 71 = .ok (.iconst 0, 1) := by decide +kernel
theorem dX12_looksRound_72 : decode cX12_looksRound 72 = .ok (.istore 5, 2) := by decide +kernel
theorem dX12_looksRound_74 : decode cX12_looksRound 74 = .ok (.iload 5, 2) := by decide +kernel
theorem dX12_looksRound_76 : decode cX12_looksRound 76 = .ok (.iconst 2, 1) := by decide +kernel
theorem dX12_looksRound_77 : decode cX12_looksRound 77 = .ok (.aload_n 0, 1) := by decide +kernel
theorem dX12_looksRound_78 : decode cX12_looksRound 78 = .ok (.invokevirtual 78, 3) := by decide +kernel
theorem dX12_looksRound_81 : decode cX12_looksRound 81 = .ok (.imul, 1) := by decide +kernel
theorem dX12_looksRound_82 : decode cX12_looksRound 82 = .ok (.if_icmp .ge 68, 3) := by decide +kernel
theorem dX12_looksRound_85 : decode cX12_looksRound 85 = .ok (.aload_n 0, 1) := by decide +kernel
theorem dX12_looksRound_86 : decode cX12_looksRound 86 = .ok (.iload 5, 2) := by decide +kernel
theorem dX12_looksRound_88 : decode cX12_looksRound 88 = .ok (.iconst 2, 1) := by decide +kernel
theorem dX12_looksRound_89 : decode cX12_looksRound 89 = .ok (.idiv, 1) := by decide +kernel
theorem dX12_looksRound_90 : decode cX12_looksRound 90 = .ok (.iload_n 1, 1) := by decide +kernel
theorem dX12_looksRound_91 : decode cX12_looksRound 91 = .ok (.invokevirtual 326, 3) := by decide +kernel
theorem dX12_looksRound_94 : decode cX12_looksRound 94 = .ok (.ifCond .ne 6, 3) := by decide +kernel
theorem dX12_looksRound_97 : decode cX12_looksRound 97 = .ok (.goto 47, 3) := by decide +kernel
theorem dX12_looksRound_100 : decode cX12_looksRound 100 = .ok (.aload_n 0, 1) := by decide +kernel
theorem dX12_looksRound_101 : decode cX12_looksRound 101 = .ok (.aload_n 0, 1) := by decide +kernel
theorem dX12_looksRound_102 : decode cX12_looksRound 102 = .ok (.iload_n 1, 1) := by decide +kernel
theorem dX12_looksRound_103 : decode cX12_looksRound 103 = .ok (.iload 4, 2) := by decide +kernel
theorem dX12_looksRound_105 : decode cX12_looksRound 105 = .ok (.iload 5, 2) := by decide +kernel
theorem dX12_looksRound_107 : decode cX12_looksRound 107 = .ok (.invokevirtual 398, 3) := by decide +kernel
theorem dX12_looksRound_110 : decode cX12_looksRound 110 = .ok (.aload_n 0, 1) := by decide +kernel
theorem dX12_looksRound_111 : decode cX12_looksRound 111 = .ok (.getfield 42, 3) := by decide +kernel
theorem dX12_looksRound_114 : decode cX12_looksRound 114 = .ok (.iload 4, 2) := by decide +kernel
theorem dX12_looksRound_116 : decode cX12_looksRound 116 = .ok (.iaload, 1) := by decide +kernel
theorem dX12_looksRound_117 : decode cX12_looksRound 117 = .ok (.iconst 1, 1) := by decide +kernel
theorem dX12_looksRound_118 : decode cX12_looksRound 118 = .ok (.iadd, 1) := by decide +kernel
theorem dX12_looksRound_119 : decode cX12_looksRound 119 = .ok (.aload_n 0, 1) := by decide +kernel
theorem dX12_looksRound_120 : decode cX12_looksRound 120 = .ok (.getfield 42, 3) := by decide +kernel
theorem dX12_looksRound_123 : decode cX12_looksRound 123 = .ok (.iload 4, 2) := by decide +kernel
theorem dX12_looksRound_125 : decode cX12_looksRound 125 = .ok (.iaload, 1) := by decide +kernel
theorem dX12_looksRound_126 : decode cX12_looksRound 126 = .ok (.ifCond .ne 8, 3) := by decide +kernel
theorem dX12_looksRound_129 : decode cX12_looksRound 129 = .ok (.iload 5, 2) := by decide +kernel
theorem dX12_looksRound_131 : decode cX12_looksRound 131 = .ok (.goto 10, 3) := by decide +kernel
theorem dX12_looksRound_134 : decode cX12_looksRound 134 = .ok (.aload_n 0, 1) := by decide +kernel
theorem dX12_looksRound_135 : decode cX12_looksRound 135 = .ok (.getfield 45, 3) := by decide +kernel
theorem dX12_looksRound_138 : decode cX12_looksRound 138 = .ok (.iload 4, 2) := by decide +kernel
theorem dX12_looksRound_140 : decode cX12_looksRound 140 = .ok (.iaload, 1) := by decide +kernel
theorem dX12_looksRound_141 : decode cX12_looksRound 141 = .ok (.invokevirtual 394, 3) := by decide +kernel
theorem dX12_looksRound_144 : decode cX12_looksRound 144 = .ok (.iinc 5 1, 3) := by decide +kernel
theorem dX12_looksRound_147 : decode cX12_looksRound 147 = .ok (.goto (-73), 3) := by decide +kernel
theorem dX12_looksRound_150 : decode cX12_looksRound 150 = .ok (.iinc 3 1, 3) := by decide +kernel
theorem dX12_looksRound_153 : decode cX12_looksRound 153 = .ok (.goto (-113), 3) := by decide +kernel
theorem dX12_looksRound_156 : decode cX12_looksRound 156 = .ok (.return_, 1) := by decide +kernel
theorem dX12_noAge_0 : decode cX12_noAge 0 = .ok (.iload_n 1, 1) := by decide +kernel
theorem dX12_noAge_1 : decode cX12_noAge 1 = .ok (.iconst 0, 1) := by decide +kernel
theorem dX12_noAge_2 : decode cX12_noAge 2 = .ok (.aload_n 0, 1) := by decide +kernel
theorem dX12_noAge_3 : decode cX12_noAge 3 = .ok (.getfield 13, 3) := by decide +kernel
theorem dX12_noAge_6 : decode cX12_noAge 6 = .ok (.iconst 4, 1) := by decide +kernel
theorem dX12_noAge_7 : decode cX12_noAge 7 = .ok (.iaload, 1) := by decide +kernel
theorem dX12_noAge_8 : decode cX12_noAge 8 = .ok (.iconst 1, 1) := by decide +kernel
theorem dX12_noAge_9 : decode cX12_noAge 9 = .ok (.isub, 1) := by decide +kernel
theorem dX12_noAge_10 : decode cX12_noAge 10 = .ok (.invokestatic 82, 3) := by decide +kernel
theorem dX12_noAge_13 : decode cX12_noAge 13 = .ok (.ifCond .ne 7, 3) := by decide +kernel
theorem dX12_noAge_16 : decode cX12_noAge 16 = .ok (.iconst 1, 1) := by decide +kernel
theorem dX12_noAge_17 : decode cX12_noAge 17 = .ok (.goto 4, 3) := by decide +kernel
theorem dX12_noAge_20 : decode cX12_noAge 20 = .ok (.iconst 0, 1) := by decide +kernel
theorem dX12_noAge_21 : decode cX12_noAge 21 = .ok (.ireturn, 1) := by decide +kernel
theorem dX12_toAge_0 : decode cX12_toAge 0 = .ok (.aload_n 0, 1) := by decide +kernel
theorem dX12_toAge_1 : decode cX12_toAge 1 = .ok (.iload_n 1, 1) := by decide +kernel
theorem dX12_toAge_2 : decode cX12_toAge 2 = .ok (.ldc 137, 2) := by decide +kernel
theorem dX12_toAge_4 : decode cX12_toAge 4 = .ok (.invokevirtual 401, 3) := by decide +kernel
theorem dX12_toAge_7 : decode cX12_toAge 7 = .ok (.iload_n 3, 1) := by decide +kernel
theorem dX12_toAge_8 : decode cX12_toAge 8 = .ok (.ifCond .eq 26, 3) := by decide +kernel
theorem dX12_toAge_11 : decode cX12_toAge 11 = .ok (.aload_n 0, 1) := by decide +kernel
theorem dX12_toAge_12 : decode cX12_toAge 12 = .ok (.getfield 42, 3) := by decide +kernel
theorem dX12_toAge_15 : decode cX12_toAge 15 = .ok (.iload_n 2, 1) := by decide +kernel
theorem dX12_toAge_16 : decode cX12_toAge 16 = .ok (.iaload, 1) := by decide +kernel
theorem dX12_toAge_17 : decode cX12_toAge 17 = .ok (.iconst (-1), 1) := by decide +kernel
theorem dX12_toAge_18 : decode cX12_toAge 18 = .ok (.if_icmp .ne 7, 3) := by decide +kernel
theorem dX12_toAge_21 : decode cX12_toAge 21 = .ok (.iconst (-1), 1) := by decide +kernel
theorem dX12_toAge_22 : decode cX12_toAge 22 = .ok (.goto 18, 3) := by decide +kernel
theorem dX12_toAge_25 : decode cX12_toAge 25 = .ok (.aload_n 0, 1) := by decide +kernel
theorem dX12_toAge_26 : decode cX12_toAge 26 = .ok (.getfield 45, 3) := by decide +kernel
theorem dX12_toAge_29 : decode cX12_toAge 29 = .ok (.iload_n 2, 1) := by decide +kernel
theorem dX12_toAge_30 : decode cX12_toAge 30 = .ok (.iaload, 1) := by decide +kernel
theorem dX12_toAge_31 : decode cX12_toAge 31 = .ok (.goto 9, 3) := by decide +kernel
theorem dX12_toAge_34 : decode cX12_toAge 34 = .ok (.aload_n 0, 1) := by decide +kernel
theorem dX12_toAge_35 : decode cX12_toAge 35 = .ok (.getfield 42, 3) := by decide +kernel
theorem dX12_toAge_38 : decode cX12_toAge 38 = .ok (.iload_n 2, 1) := by decide +kernel
theorem dX12_toAge_39 : decode cX12_toAge 39 = .ok (.iaload, 1) := by decide +kernel
theorem dX12_toAge_40 : decode cX12_toAge 40 = .ok (.ireturn, 1) := by decide +kernel
theorem dX12_fewest_0 : decode cX12_fewest 0 = .ok (.aload_n 0, 1) := by decide +kernel
theorem dX12_fewest_1 : decode cX12_fewest 1 = .ok (.iconst 0, 1) := by decide +kernel
theorem dX12_fewest_2 : decode cX12_fewest 2 = .ok (.putfield 3, 3) := by decide +kernel
theorem dX12_fewest_5 : decode cX12_fewest 5 = .ok (.aload_n 0, 1) := by decide +kernel
theorem dX12_fewest_6 : decode cX12_fewest 6 = .ok (.aload_n 0, 1) := by decide +kernel
theorem dX12_fewest_7 : decode cX12_fewest 7 = .ok (.iload_n 1, 1) := by decide +kernel
theorem dX12_fewest_8 : decode cX12_fewest 8 = .ok (.invokevirtual 331, 3) := by decide +kernel
theorem dX12_fewest_11 : decode cX12_fewest 11 = .ok (.iconst 1, 1) := by decide +kernel
theorem dX12_fewest_12 : decode cX12_fewest 12 = .ok (.invokevirtual 291, 3) := by decide +kernel
theorem dX12_fewest_15 : decode cX12_fewest 15 = .ok (.ifCond .ne 16, 3) := by decide +kernel
theorem dX12_fewest_18 : decode cX12_fewest 18 = .ok (.aload_n 0, 1) := by decide +kernel
theorem dX12_fewest_19 : decode cX12_fewest 19 = .ok (.aload_n 0, 1) := by decide +kernel
theorem dX12_fewest_20 : decode cX12_fewest 20 = .ok (.iload_n 2, 1) := by decide +kernel
theorem dX12_fewest_21 : decode cX12_fewest 21 = .ok (.invokevirtual 404, 3) := by decide +kernel
theorem dX12_fewest_24 : decode cX12_fewest 24 = .ok (.iconst 2, 1) := by decide +kernel
theorem dX12_fewest_25 : decode cX12_fewest 25 = .ok (.invokevirtual 291, 3) := by decide +kernel
theorem dX12_fewest_28 : decode cX12_fewest 28 = .ok (.ifCond .eq 7, 3) := by decide +kernel
theorem dX12_fewest_31 : decode cX12_fewest 31 = .ok (.iconst 0, 1) := by decide +kernel
theorem dX12_fewest_32 : decode cX12_fewest 32 = .ok (.goto 10, 3) := by decide +kernel
theorem dX12_fewest_35 : decode cX12_fewest 35 = .ok (.aload_n 0, 1) := by decide +kernel
theorem dX12_fewest_36 : decode cX12_fewest 36 = .ok (.iload_n 1, 1) := by decide +kernel
theorem dX12_fewest_37 : decode cX12_fewest 37 = .ok (.iload_n 2, 1) := by decide +kernel
theorem dX12_fewest_38 : decode cX12_fewest 38 = .ok (.iconst 0, 1) := by decide +kernel
theorem dX12_fewest_39 : decode cX12_fewest 39 = .ok (.invokevirtual 407, 3) := by decide +kernel
theorem dX12_fewest_42 : decode cX12_fewest 42 = .ok (.ireturn, 1) := by decide +kernel
theorem dX12_first_0 : decode cX12_first 0 = .ok (.aload_n 0, 1) := by decide +kernel
theorem dX12_first_1 : decode cX12_first 1 = .ok (.iconst 0, 1) := by decide +kernel
theorem dX12_first_2 : decode cX12_first 2 = .ok (.putfield 3, 3) := by decide +kernel
theorem dX12_first_5 : decode cX12_first 5 = .ok (.aload_n 0, 1) := by decide +kernel
theorem dX12_first_6 : decode cX12_first 6 = .ok (.aload_n 0, 1) := by decide +kernel
theorem dX12_first_7 : decode cX12_first 7 = .ok (.iload_n 1, 1) := by decide +kernel
theorem dX12_first_8 : decode cX12_first 8 = .ok (.invokevirtual 331, 3) := by decide +kernel
theorem dX12_first_11 : decode cX12_first 11 = .ok (.iconst 1, 1) := by decide +kernel
theorem dX12_first_12 : decode cX12_first 12 = .ok (.invokevirtual 291, 3) := by decide +kernel
theorem dX12_first_15 : decode cX12_first 15 = .ok (.ifCond .ne 16, 3) := by decide +kernel
theorem dX12_first_18 : decode cX12_first 18 = .ok (.aload_n 0, 1) := by decide +kernel
theorem dX12_first_19 : decode cX12_first 19 = .ok (.aload_n 0, 1) := by decide +kernel
theorem dX12_first_20 : decode cX12_first 20 = .ok (.iload_n 2, 1) := by decide +kernel
theorem dX12_first_21 : decode cX12_first 21 = .ok (.invokevirtual 404, 3) := by decide +kernel
theorem dX12_first_24 : decode cX12_first 24 = .ok (.iconst 2, 1) := by decide +kernel
theorem dX12_first_25 : decode cX12_first 25 = .ok (.invokevirtual 291, 3) := by decide +kernel
theorem dX12_first_28 : decode cX12_first 28 = .ok (.ifCond .eq 7, 3) := by decide +kernel
theorem dX12_first_31 : decode cX12_first 31 = .ok (.iconst 0, 1) := by decide +kernel
theorem dX12_first_32 : decode cX12_first 32 = .ok (.goto 10, 3) := by decide +kernel
theorem dX12_first_35 : decode cX12_first 35 = .ok (.aload_n 0, 1) := by decide +kernel
theorem dX12_first_36 : decode cX12_first 36 = .ok (.iload_n 1, 1) := by decide +kernel
theorem dX12_first_37 : decode cX12_first 37 = .ok (.iload_n 2, 1) := by decide +kernel
theorem dX12_first_38 : decode cX12_first 38 = .ok (.iconst 1, 1) := by decide +kernel
theorem dX12_first_39 : decode cX12_first 39 = .ok (.invokevirtual 407, 3) := by decide +kernel
theorem dX12_first_42 : decode cX12_first 42 = .ok (.ireturn, 1) := by decide +kernel
theorem dX12_can_0 : decode cX12_can 0 = .ok (.aload_n 0, 1) := by decide +kernel
theorem dX12_can_1 : decode cX12_can 1 = .ok (.iconst 0, 1) := by decide +kernel
theorem dX12_can_2 : decode cX12_can 2 = .ok (.putfield 3, 3) := by decide +kernel
theorem dX12_can_5 : decode cX12_can 5 = .ok (.aload_n 0, 1) := by decide +kernel
theorem dX12_can_6 : decode cX12_can 6 = .ok (.aload_n 0, 1) := by decide +kernel
theorem dX12_can_7 : decode cX12_can 7 = .ok (.iload_n 1, 1) := by decide +kernel
theorem dX12_can_8 : decode cX12_can 8 = .ok (.invokevirtual 331, 3) := by decide +kernel
theorem dX12_can_11 : decode cX12_can 11 = .ok (.iconst 1, 1) := by decide +kernel
theorem dX12_can_12 : decode cX12_can 12 = .ok (.invokevirtual 291, 3) := by decide +kernel
theorem dX12_can_15 : decode cX12_can 15 = .ok (.ifCond .ne 26, 3) := by decide +kernel
theorem dX12_can_18 : decode cX12_can 18 = .ok (.aload_n 0, 1) := by decide +kernel
theorem dX12_can_19 : decode cX12_can 19 = .ok (.iload_n 2, 1) := by decide +kernel
theorem dX12_can_20 : decode cX12_can 20 = .ok (.iconst 0, 1) := by decide +kernel
theorem dX12_can_21 : decode cX12_can 21 = .ok (.bipush 20, 2) := by decide +kernel
theorem dX12_can_23 : decode cX12_can 23 = .ok (.invokestatic 82, 3) := by decide +kernel
theorem dX12_can_26 : decode cX12_can 26 = .ok (.ifCond .ne 7, 3) := by decide +kernel
theorem dX12_can_29 : decode cX12_can 29 = .ok (.iconst 1, 1) := by decide +kernel
theorem dX12_can_30 : decode cX12_can 30 = .ok (.goto 4, 3) := by decide +kernel
theorem dX12_can_33 : decode cX12_can 33 = .ok (.iconst 0, 1) := by decide +kernel
theorem dX12_can_34 : decode cX12_can 34 = .ok (.iconst 2, 1) := by decide +kernel
theorem dX12_can_35 : decode cX12_can 35 = .ok (.invokevirtual 291, 3) := by decide +kernel
theorem dX12_can_38 : decode cX12_can 38 = .ok (.ifCond .eq 5, 3) := by decide +kernel
theorem dX12_can_41 : decode cX12_can 41 = .ok (.iconst 0, 1) := by decide +kernel
theorem dX12_can_42 : decode cX12_can 42 = .ok (.ireturn, 1) := by decide +kernel
theorem dX12_can_43 : decode cX12_can 43 = .ok (.aload_n 0, 1) := by decide +kernel
theorem dX12_can_44 : decode cX12_can 44 = .ok (.iload_n 1, 1) := by decide +kernel
theorem dX12_can_45 : decode cX12_can 45 = .ok (.iload_n 2, 1) := by decide +kernel
theorem dX12_can_46 : decode cX12_can 46 = .ok (.invokevirtual 401, 3) := by decide +kernel
theorem dX12_can_49 : decode cX12_can 49 = .ok (.aload_n 0, 1) := by decide +kernel
theorem dX12_can_50 : decode cX12_can 50 = .ok (.getfield 391, 3) := by decide +kernel
theorem dX12_can_53 : decode cX12_can 53 = .ok (.ireturn, 1) := by decide +kernel
theorem dX12_heaviest_0 : decode cX12_heaviest 0 = .ok (.iconst (-1), 1) := by decide +kernel
theorem dX12_heaviest_1 : decode cX12_heaviest 1 = .ok (.istore_n 3, 1) := by decide +kernel
theorem dX12_heaviest_2 : decode cX12_heaviest 2 = .ok (.iconst 0, 1) := by decide +kernel
theorem dX12_heaviest_3 : decode cX12_heaviest 3 = .ok (.istore 4, 2) := by decide +kernel
theorem dX12_heaviest_5 : decode cX12_heaviest 5 = .ok (.iload 4, 2) := by decide +kernel
theorem dX12_heaviest_7 : decode cX12_heaviest 7 = .ok (.aload_n 0, 1) := by decide +kernel
theorem dX12_heaviest_8 : decode cX12_heaviest 8 = .ok (.invokevirtual 78, 3) := by decide +kernel
theorem dX12_heaviest_11 : decode cX12_heaviest 11 = .ok (.if_icmp .ge 45, 3) := by decide +kernel
theorem dX12_heaviest_14 : decode cX12_heaviest 14 = .ok (.aload_n 0, 1) := by decide +kernel
theorem dX12_heaviest_15 : decode cX12_heaviest 15 = .ok (.iload 4, 2) := by decide +kernel
theorem dX12_heaviest_17 : decode cX12_heaviest 17 = .ok (.iload_n 1, 1) := by decide +kernel
theorem dX12_heaviest_18 : decode cX12_heaviest 18 = .ok (.invokevirtual 326, 3) := by decide +kernel
theorem dX12_heaviest_21 : decode cX12_heaviest 21 = .ok (.ifCond .eq 29, 3) := by decide +kernel
theorem dX12_heaviest_24 : decode cX12_heaviest 24 = .ok (.iload_n 3, 1) := by decide +kernel
theorem dX12_heaviest_25 : decode cX12_heaviest 25 = .ok (.iconst (-1), 1) := by decide +kernel
theorem dX12_heaviest_26 : decode cX12_heaviest 26 = .ok (.if_icmp .eq 21, 3) := by decide +kernel
theorem dX12_heaviest_29 : decode cX12_heaviest 29 = .ok (.aload_n 0, 1) := by decide +kernel
theorem dX12_heaviest_30 : decode cX12_heaviest 30 = .ok (.iload 4, 2) := by decide +kernel
theorem dX12_heaviest_32 : decode cX12_heaviest 32 = .ok (.iload_n 1, 1) := by decide +kernel
theorem dX12_heaviest_33 : decode cX12_heaviest 33 = .ok (.iload_n 2, 1) := by decide +kernel
theorem dX12_heaviest_34 : decode cX12_heaviest 34 = .ok (.invokevirtual 308, 3) := by decide +kernel
theorem dX12_heaviest_37 : decode cX12_heaviest 37 = .ok (.aload_n 0, 1) := by decide +kernel
theorem dX12_heaviest_38 : decode cX12_heaviest 38 = .ok (.iload_n 3, 1) := by decide +kernel
theorem dX12_heaviest_39 : decode cX12_heaviest 39 = .ok (.iload_n 1, 1) := by decide +kernel
theorem dX12_heaviest_40 : decode cX12_heaviest 40 = .ok (.iload_n 2, 1) := by decide +kernel
theorem dX12_heaviest_41 : decode cX12_heaviest 41 = .ok (.invokevirtual 308, 3) := by decide +kernel
theorem dX12_heaviest_44 : decode cX12_heaviest 44 = .ok (.if_icmp .le 6, 3) := by decide +kernel
theorem dX12_heaviest_47 : decode cX12_heaviest 47 = .ok (.iload 4, 2) := by decide +kernel
theorem dX12_heaviest_49 : decode cX12_heaviest 49 = .ok (.istore_n 3, 1) := by decide +kernel
theorem dX12_heaviest_50 : decode cX12_heaviest 50 = .ok (.iinc 4 1, 3) := by decide +kernel
theorem dX12_heaviest_53 : decode cX12_heaviest 53 = .ok (.goto (-48), 3) := by decide +kernel
theorem dX12_heaviest_56 : decode cX12_heaviest 56 = .ok (.iload_n 3, 1) := by decide +kernel
theorem dX12_heaviest_57 : decode cX12_heaviest 57 = .ok (.ireturn, 1) := by decide +kernel
theorem dX12_harsh_0 : decode cX12_harsh 0 = .ok (.aload_n 0, 1) := by decide +kernel
theorem dX12_harsh_1 : decode cX12_harsh 1 = .ok (.iconst 0, 1) := by decide +kernel
theorem dX12_harsh_2 : decode cX12_harsh 2 = .ok (.putfield 3, 3) := by decide +kernel
theorem dX12_harsh_5 : decode cX12_harsh 5 = .ok (.aload_n 0, 1) := by decide +kernel
theorem dX12_harsh_6 : decode cX12_harsh 6 = .ok (.aload_n 0, 1) := by decide +kernel
theorem dX12_harsh_7 : decode cX12_harsh 7 = .ok (.iload_n 1, 1) := by decide +kernel
theorem dX12_harsh_8 : decode cX12_harsh 8 = .ok (.invokevirtual 331, 3) := by decide +kernel
theorem dX12_harsh_11 : decode cX12_harsh 11 = .ok (.iconst 1, 1) := by decide +kernel
theorem dX12_harsh_12 : decode cX12_harsh 12 = .ok (.invokevirtual 291, 3) := by decide +kernel
theorem dX12_harsh_15 : decode cX12_harsh 15 = .ok (.ifCond .eq 7, 3) := by decide +kernel
theorem dX12_harsh_18 : decode cX12_harsh 18 = .ok (.iconst 0, 1) := by decide +kernel
theorem dX12_harsh_19 : decode cX12_harsh 19 = .ok (.goto 9, 3) := by decide +kernel
theorem dX12_harsh_22 : decode cX12_harsh 22 = .ok (.aload_n 0, 1) := by decide +kernel
theorem dX12_harsh_23 : decode cX12_harsh 23 = .ok (.iload_n 1, 1) := by decide +kernel
theorem dX12_harsh_24 : decode cX12_harsh 24 = .ok (.iconst 0, 1) := by decide +kernel
theorem dX12_harsh_25 : decode cX12_harsh 25 = .ok (.invokevirtual 410, 3) := by decide +kernel
theorem dX12_harsh_28 : decode cX12_harsh 28 = .ok (.ireturn, 1) := by decide +kernel
theorem dX12_kind_0 : decode cX12_kind 0 = .ok (.aload_n 0, 1) := by decide +kernel
theorem dX12_kind_1 : decode cX12_kind 1 = .ok (.iconst 0, 1) := by decide +kernel
theorem dX12_kind_2 : decode cX12_kind 2 = .ok (.putfield 3, 3) := by decide +kernel
theorem dX12_kind_5 : decode cX12_kind 5 = .ok (.aload_n 0, 1) := by decide +kernel
theorem dX12_kind_6 : decode cX12_kind 6 = .ok (.aload_n 0, 1) := by decide +kernel
theorem dX12_kind_7 : decode cX12_kind 7 = .ok (.iload_n 1, 1) := by decide +kernel
theorem dX12_kind_8 : decode cX12_kind 8 = .ok (.invokevirtual 331, 3) := by decide +kernel
theorem dX12_kind_11 : decode cX12_kind 11 = .ok (.iconst 1, 1) := by decide +kernel
theorem dX12_kind_12 : decode cX12_kind 12 = .ok (.invokevirtual 291, 3) := by decide +kernel
theorem dX12_kind_15 : decode cX12_kind 15 = .ok (.ifCond .eq 7, 3) := by decide +kernel
theorem dX12_kind_18 : decode cX12_kind 18 = .ok (.iconst 0, 1) := by decide +kernel
theorem dX12_kind_19 : decode cX12_kind 19 = .ok (.goto 9, 3) := by decide +kernel
theorem dX12_kind_22 : decode cX12_kind 22 = .ok (.aload_n 0, 1) := by decide +kernel
theorem dX12_kind_23 : decode cX12_kind 23 = .ok (.iload_n 1, 1) := by decide +kernel
theorem dX12_kind_24 : decode cX12_kind 24 = .ok (.iconst 1, 1) := by decide +kernel
theorem dX12_kind_25 : decode cX12_kind 25 = .ok (.invokevirtual 410, 3) := by decide +kernel
theorem dX12_kind_28 : decode cX12_kind 28 = .ok (.ireturn, 1) := by decide +kernel
theorem dX12_isTold_0 : decode cX12_isTold 0 = .ok (.aload_n 0, 1) := by decide +kernel
theorem dX12_isTold_1 : decode cX12_isTold 1 = .ok (.getfield 103, 3) := by decide +kernel
theorem dX12_isTold_4 : decode cX12_isTold 4 = .ok (.iconst 2, 1) := by decide +kernel
theorem dX12_isTold_5 : decode cX12_isTold 5 = .ok (.irem, 1) := by decide +kernel
theorem dX12_isTold_6 : decode cX12_isTold 6 = .ok (.ifCond .ne 16, 3) := by decide +kernel
theorem dX12_isTold_9 : decode cX12_isTold 9 = .ok (.aload_n 0, 1) := by decide +kernel
theorem dX12_isTold_10 : decode cX12_isTold 10 = .ok (.getfield 103, 3) := by decide +kernel
theorem dX12_isTold_13 : decode cX12_isTold 13 = .ok (.bipush 40, 2) := by decide +kernel
theorem dX12_isTold_15 : decode cX12_isTold 15 = .ok (.if_icmp .gt 7, 3) := by decide +kernel
theorem dX12_isTold_18 : decode cX12_isTold 18 = .ok (.iconst 1, 1) := by decide +kernel
theorem dX12_isTold_19 : decode cX12_isTold 19 = .ok (.goto 4, 3) := by decide +kernel
theorem dX12_isTold_22 : decode cX12_isTold 22 = .ok (.iconst 0, 1) := by decide +kernel
theorem dX12_isTold_23 : decode cX12_isTold 23 = .ok (.istore_n 1, 1) := by decide +kernel
theorem dX12_isTold_24 : decode cX12_isTold 24 = .ok (.iconst 0, 1) := by decide +kernel
theorem dX12_isTold_25 : decode cX12_isTold 25 = .ok (.istore_n 2, 1) := by decide +kernel
theorem dX12_isTold_26 : decode cX12_isTold 26 = .ok (.iload_n 2, 1) := by decide +kernel
theorem dX12_isTold_27 : decode cX12_isTold 27 = .ok (.aload_n 0, 1) := by decide +kernel
theorem dX12_isTold_28 : decode cX12_isTold 28 = .ok (.getfield 103, 3) := by decide +kernel
theorem dX12_isTold_31 : decode cX12_isTold 31 = .ok (.if_icmp .ge 32, 3) := by decide +kernel
theorem dX12_isTold_34 : decode cX12_isTold 34 = .ok (.iload_n 1, 1) := by decide +kernel
theorem dX12_isTold_35 : decode cX12_isTold 35 = .ok (.ifCond .eq 28, 3) := by decide +kernel
theorem dX12_isTold_38 : decode cX12_isTold 38 = .ok (.aload_n 0, 1) := by decide +kernel
theorem dX12_isTold_39 : decode cX12_isTold 39 = .ok (.aload_n 0, 1) := by decide +kernel
theorem dX12_isTold_40 : decode cX12_isTold 40 = .ok (.getfield 29, 3) := by decide +kernel
theorem dX12_isTold_43 : decode cX12_isTold 43 = .ok (.iload_n 2, 1) := by decide +kernel
theorem dX12_isTold_44 : decode cX12_isTold 44 = .ok (.baload, 1) := by decide +kernel
theorem dX12_isTold_45 : decode cX12_isTold 45 = .ok (.invokevirtual 404, 3) := by decide +kernel
theorem dX12_isTold_48 : decode cX12_isTold 48 = .ok (.ifCond .ne 7, 3) := by decide +kernel
theorem dX12_isTold_51 : decode cX12_isTold 51 = .ok (.iconst 1, 1) := by decide +kernel
theorem dX12_isTold_52 : decode cX12_isTold 52 = .ok (.goto 4, 3) := by decide +kernel
theorem dX12_isTold_55 : decode cX12_isTold 55 = .ok (.iconst 0, 1) := by decide +kernel
theorem dX12_isTold_56 : decode cX12_isTold 56 = .ok (.istore_n 1, 1) := by decide +kernel
theorem dX12_isTold_57 : decode cX12_isTold 57 = .ok (.iinc 2 1, 3) := by decide +kernel
theorem dX12_isTold_60 : decode cX12_isTold 60 = .ok (.goto (-34), 3) := by decide +kernel
theorem dX12_isTold_63 : decode cX12_isTold 63 = .ok (.iload_n 1, 1) := by decide +kernel
theorem dX12_isTold_64 : decode cX12_isTold 64 = .ok (.ireturn, 1) := by decide +kernel
theorem dX12_fromAge_0 : decode cX12_fromAge 0 = .ok (.aload_n 0, 1) := by decide +kernel
theorem dX12_fromAge_1 : decode cX12_fromAge 1 = .ok (.iload_n 1, 1) := by decide +kernel
theorem dX12_fromAge_2 : decode cX12_fromAge 2 = .ok (.iconst 0, 1) := by decide +kernel
theorem dX12_fromAge_3 : decode cX12_fromAge 3 = .ok (.invokevirtual 86, 3) := by decide +kernel
theorem dX12_fromAge_6 : decode cX12_fromAge 6 = .ok (.istore 4, 2) := by decide +kernel
theorem dX12_fromAge_8 : decode cX12_fromAge 8 = .ok (.aload_n 0, 1) := by decide +kernel
theorem dX12_fromAge_9 : decode cX12_fromAge 9 = .ok (.iload_n 1, 1) := by decide +kernel
theorem dX12_fromAge_10 : decode cX12_fromAge 10 = .ok (.iconst 1, 1) := by decide +kernel
theorem dX12_fromAge_11 : decode cX12_fromAge 11 = .ok (.invokevirtual 86, 3) := by decide +kernel
theorem dX12_fromAge_14 : decode cX12_fromAge 14 = .ok (.istore 5, 2) := by decide +kernel
theorem dX12_fromAge_16 : decode cX12_fromAge 16 = .ok (.aload_n 0, 1) := by decide +kernel
theorem dX12_fromAge_17 : decode cX12_fromAge 17 = .ok (.getfield 13, 3) := by decide +kernel
theorem dX12_fromAge_20 : decode cX12_fromAge 20 = .ok (.iload_n 1, 1) := by decide +kernel
theorem dX12_fromAge_21 : decode cX12_fromAge 21 = .ok (.iconst 0, 1) := by decide +kernel
theorem dX12_fromAge_22 : decode cX12_fromAge 22 = .ok (.invokestatic 74, 3) := by decide +kernel
theorem dX12_fromAge_25 : decode cX12_fromAge 25 = .ok (.iload_n 2, 1) := by decide +kernel
theorem dX12_fromAge_26 : decode cX12_fromAge 26 = .ok (.iastore, 1) := by decide +kernel
theorem dX12_fromAge_27 : decode cX12_fromAge 27 = .ok (.aload_n 0, 1) := by decide +kernel
theorem dX12_fromAge_28 : decode cX12_fromAge 28 = .ok (.iload_n 3, 1) := by decide +kernel
theorem dX12_fromAge_29 : decode cX12_fromAge 29 = .ok (.iconst 2, 1) := by decide +kernel
theorem dX12_fromAge_30 : decode cX12_fromAge 30 = .ok (.idiv, 1) := by decide +kernel
theorem dX12_fromAge_31 : decode cX12_fromAge 31 = .ok (.iload_n 1, 1) := by decide +kernel
theorem dX12_fromAge_32 : decode cX12_fromAge 32 = .ok (.iload_n 3, 1) := by decide +kernel
theorem dX12_fromAge_33 : decode cX12_fromAge 33 = .ok (.iconst 2, 1) := by decide +kernel
theorem dX12_fromAge_34 : decode cX12_fromAge 34 = .ok (.irem, 1) := by decide +kernel
theorem dX12_fromAge_35 : decode cX12_fromAge 35 = .ok (.iconst 1, 1) := by decide +kernel
theorem dX12_fromAge_36 : decode cX12_fromAge 36 = .ok (.if_icmp .ne 7, 3) := by decide +kernel
theorem dX12_fromAge_39 : decode cX12_fromAge 39 = .ok (.iconst 1, 1) := by decide +kernel
theorem dX12_fromAge_40 : decode cX12_fromAge 40 = .ok (.goto 4, 3) := by decide +kernel
theorem dX12_fromAge_43 : decode cX12_fromAge 43 = .ok (.iconst 0, 1) := by decide +kernel
theorem dX12_fromAge_44 : decode cX12_fromAge 44 = .ok (.invokevirtual 316, 3) := by decide +kernel
theorem dX12_fromAge_47 : decode cX12_fromAge 47 = .ok (.aload_n 0, 1) := by decide +kernel
theorem dX12_fromAge_48 : decode cX12_fromAge 48 = .ok (.iload_n 1, 1) := by decide +kernel
theorem dX12_fromAge_49 : decode cX12_fromAge 49 = .ok (.iconst 0, 1) := by decide +kernel
theorem dX12_fromAge_50 : decode cX12_fromAge 50 = .ok (.invokevirtual 86, 3) := by decide +kernel
theorem dX12_fromAge_53 : decode cX12_fromAge 53 = .ok (.istore 6, 2) := by decide +kernel
theorem dX12_fromAge_55 : decode cX12_fromAge 55 = .ok (.aload_n 0, 1) := by decide +kernel
theorem dX12_fromAge_56 : decode cX12_fromAge 56 = .ok (.getfield 13, 3) := by decide +kernel
theorem dX12_fromAge_59 : decode cX12_fromAge 59 = .ok (.iload_n 1, 1) := by decide +kernel
theorem dX12_fromAge_60 : decode cX12_fromAge 60 = .ok (.iconst 0, 1) := by decide +kernel
theorem dX12_fromAge_61 : decode cX12_fromAge 61 = .ok (.invokestatic 74, 3) := by decide +kernel
theorem dX12_fromAge_64 : decode cX12_fromAge 64 = .ok (.iload 4, 2) := by decide +kernel
theorem dX12_fromAge_66 : decode cX12_fromAge 66 = .ok (.iastore, 1) := by decide +kernel
theorem dX12_fromAge_67 : decode cX12_fromAge 67 = .ok (.aload_n 0, 1) := by decide +kernel
theorem dX12_fromAge_68 : decode cX12_fromAge 68 = .ok (.getfield 13, 3) := by decide +kernel
theorem dX12_fromAge_71 : decode cX12_fromAge 71 = .ok (.iload_n 1, 1) := by decide +kernel
theorem dX12_fromAge_72 : decode cX12_fromAge 72 = .ok (.iconst 1, 1) := by decide +kernel
theorem dX12_fromAge_73 : decode cX12_fromAge 73 = .ok (.invokestatic 74, 3) := by decide +kernel
theorem dX12_fromAge_76 : decode cX12_fromAge 76 = .ok (.iload 5, 2) := by decide +kernel
theorem dX12_fromAge_78 : decode cX12_fromAge 78 = .ok (.iastore, 1) := by decide +kernel
theorem dX12_fromAge_79 : decode cX12_fromAge 79 = .ok (.iload 6, 2) := by decide +kernel
theorem dX12_fromAge_81 : decode cX12_fromAge 81 = .ok (.ireturn, 1) := by decide +kernel
theorem dX12_allThatFit_0 : decode cX12_allThatFit 0 = .ok (.iconst 0, 1) := by decide +kernel
theorem dX12_allThatFit_1 : decode cX12_allThatFit 1 = .ok (.istore_n 2, 1) := by decide +kernel
theorem dX12_allThatFit_2 : decode cX12_allThatFit 2 = .ok (.iconst 0, 1) := by decide +kernel
theorem dX12_allThatFit_3 : decode cX12_allThatFit 3 = .ok (.istore_n 3, 1) := by decide +kernel
theorem dX12_allThatFit_4 : decode cX12_allThatFit 4 = .ok (.iload_n 3, 1) := by decide +kernel
theorem dX12_allThatFit_5 : decode cX12_allThatFit 5 = .ok (.iconst 2, 1) := by decide +kernel
theorem dX12_allThatFit_6 : decode cX12_allThatFit 6 = .ok (.aload_n 0, 1) := by decide +kernel
theorem dX12_allThatFit_7 : decode cX12_allThatFit 7 = .ok (.invokevirtual 78, 3) := by decide +kernel
theorem dX12_allThatFit_10 : decode cX12_allThatFit 10 = .ok (.imul, 1) := by decide +kernel
theorem dX12_allThatFit_11 : decode cX12_allThatFit 11 = .ok (.if_icmp .ge 89, 3) := by decide +kernel
theorem dX12_allThatFit_14 : decode cX12_allThatFit 14 = .ok (.aload_n 0, 1) := by decide +kernel
theorem dX12_allThatFit_15 : decode cX12_allThatFit 15 = .ok (.iload_n 3, 1) := by decide +kernel
theorem dX12_allThatFit_16 : decode cX12_allThatFit 16 = .ok (.iconst 2, 1) := by decide +kernel
theorem dX12_allThatFit_17 : decode cX12_allThatFit 17 = .ok (.idiv, 1) := by decide +kernel
theorem dX12_allThatFit_18 : decode cX12_allThatFit 18 = .ok (.iload_n 1, 1) := by decide +kernel
theorem dX12_allThatFit_19 : decode cX12_allThatFit 19 = .ok (.invokevirtual 326, 3) := by decide +kernel
theorem dX12_allThatFit_22 : decode cX12_allThatFit 22 = .ok (.istore 4, 2) := by decide +kernel
theorem dX12_allThatFit_24 : decode cX12_allThatFit 24 = .ok (.iconst 0, 1) := by decide +kernel
theorem dX12_allThatFit_25 : decode cX12_allThatFit 25 = .ok (.istore 5, 2) := by decide +kernel
theorem dX12_allThatFit_27 : decode cX12_allThatFit 27 = .ok (.iload 5, 2) := by decide +kernel
theorem dX12_allThatFit_29 : decode cX12_allThatFit 29 = .ok (.aload_n 0, 1) := by decide +kernel
theorem dX12_allThatFit_30 : decode cX12_allThatFit 30 = .ok (.getfield 103, 3) := by decide +kernel
theorem dX12_allThatFit_33 : decode cX12_allThatFit 33 = .ok (.if_icmp .ge 46, 3) := by decide +kernel
theorem dX12_allThatFit_36 : decode cX12_allThatFit 36 = .ok (.iload 4, 2) := by decide +kernel
theorem dX12_allThatFit_38 : decode cX12_allThatFit 38 = .ok (.ifCond .eq 41, 3) := by decide +kernel
theorem dX12_allThatFit_41 : decode cX12_allThatFit 41 = .ok (.aload_n 0, 1) := by decide +kernel
theorem dX12_allThatFit_42 : decode cX12_allThatFit 42 = .ok (.iload_n 1, 1) := by decide +kernel
theorem dX12_allThatFit_43 : decode cX12_allThatFit 43 = .ok (.aload_n 0, 1) := by decide +kernel
theorem dX12_allThatFit_44 : decode cX12_allThatFit 44 = .ok (.getfield 29, 3) := by decide +kernel
theorem dX12_allThatFit_47 : decode cX12_allThatFit 47 = .ok (.iload 5, 2) := by decide +kernel
theorem dX12_allThatFit_49 : decode cX12_allThatFit 49 = .ok (.baload, 1) := by decide +kernel
theorem dX12_allThatFit_50 : decode cX12_allThatFit 50 = .ok (.iload_n 3, 1) := by decide +kernel
theorem dX12_allThatFit_51 : decode cX12_allThatFit 51 = .ok (.invokevirtual 398, 3) := by decide +kernel
theorem dX12_allThatFit_54 : decode cX12_allThatFit 54 = .ok (.aload_n 0, 1) := by decide +kernel
theorem dX12_allThatFit_55 : decode cX12_allThatFit 55 = .ok (.getfield 29, 3) := by decide +kernel
theorem dX12_allThatFit_58 : decode cX12_allThatFit 58 = .ok (.iload 5, 2) := by decide +kernel
theorem dX12_allThatFit_60 : decode cX12_allThatFit 60 = .ok (.iconst 1, 1) := by decide +kernel
theorem dX12_allThatFit_61 : decode cX12_allThatFit 61 = .ok (.iadd, 1) := by decide +kernel
theorem dX12_allThatFit_62 : decode cX12_allThatFit 62 = .ok (.baload, 1) := by decide +kernel
theorem dX12_allThatFit_63 : decode cX12_allThatFit 63 = .ok (.if_icmp .ne 7, 3) := by decide +kernel
theorem dX12_allThatFit_66 : decode cX12_allThatFit 66 = .ok (.iconst 1, 1) := by decide +kernel
theorem dX12_allThatFit_67 : decode cX12_allThatFit 67 = .ok (.goto 4, 3) := by decide +kernel
theorem dX12_allThatFit_70 : decode cX12_allThatFit 70 = .ok (.iconst 0, 1) := by decide +kernel
theorem dX12_allThatFit_71 : decode cX12_allThatFit 71 = .ok (.istore 4, 2) := by decide +kernel
theorem dX12_allThatFit_73 : decode cX12_allThatFit 73 = .ok (.iinc 5 2, 3) := by decide +kernel
theorem dX12_allThatFit_76 : decode cX12_allThatFit 76 = .ok (.goto (-49), 3) := by decide +kernel
theorem dX12_allThatFit_79 : decode cX12_allThatFit 79 = .ok (.iload_n 2, 1) := by decide +kernel
theorem dX12_allThatFit_80 : decode cX12_allThatFit 80 = .ok (.iload 4, 2) := by decide +kernel
theorem dX12_allThatFit_82 : decode cX12_allThatFit 82 = .ok (.ifCond .eq 9, 3) := by decide +kernel
theorem dX12_allThatFit_85 : decode cX12_allThatFit 85 = .ok (.iconst 1, 1) := by decide +kernel
theorem dX12_allThatFit_86 : decode cX12_allThatFit 86 = .ok (.iload_n 3, 1) := by decide +kernel
theorem dX12_allThatFit_87 : decode cX12_allThatFit 87 = .ok (.ishl, 1) := by decide +kernel
theorem dX12_allThatFit_88 : decode cX12_allThatFit 88 = .ok (.goto 4, 3) := by decide +kernel
theorem dX12_allThatFit_91 : decode cX12_allThatFit 91 = .ok (.iconst 0, 1) := by decide +kernel
theorem dX12_allThatFit_92 : decode cX12_allThatFit 92 = .ok (.ior, 1) := by decide +kernel
theorem dX12_allThatFit_93 : decode cX12_allThatFit 93 = .ok (.istore_n 2, 1) := by decide +kernel
theorem dX12_allThatFit_94 : decode cX12_allThatFit 94 = .ok (.iinc 3 1, 3) := by decide +kernel
theorem dX12_allThatFit_97 : decode cX12_allThatFit 97 = .ok (.goto (-93), 3) := by decide +kernel
theorem dX12_allThatFit_100 : decode cX12_allThatFit 100 = .ok (.iload_n 2, 1) := by decide +kernel
theorem dX12_allThatFit_101 : decode cX12_allThatFit 101 = .ok (.ireturn, 1) := by decide +kernel
theorem dX12_said_0 : decode cX12_said 0 = .ok (.aload_n 0, 1) := by decide +kernel
theorem dX12_said_1 : decode cX12_said 1 = .ok (.invokevirtual 280, 3) := by decide +kernel
theorem dX12_said_4 : decode cX12_said 4 = .ok (.aload_n 0, 1) := by decide +kernel
theorem dX12_said_5 : decode cX12_said 5 = .ok (.aload_n 0, 1) := by decide +kernel
theorem dX12_said_6 : decode cX12_said 6 = .ok (.iload_n 1, 1) := by decide +kernel
theorem dX12_said_7 : decode cX12_said 7 = .ok (.invokevirtual 331, 3) := by decide +kernel
theorem dX12_said_10 : decode cX12_said 10 = .ok (.iconst 1, 1) := by decide +kernel
theorem dX12_said_11 : decode cX12_said 11 = .ok (.invokevirtual 291, 3) := by decide +kernel
theorem dX12_said_14 : decode cX12_said 14 = .ok (.ifCond .ne 23, 3) := by decide +kernel
theorem dX12_said_17 : decode cX12_said 17 = .ok (.aload_n 0, 1) := by decide +kernel
theorem dX12_said_18 : decode cX12_said 18 = .ok (.aload_n 0, 1) := by decide +kernel
theorem dX12_said_19 : decode cX12_said 19 = .ok (.invokevirtual 414, 3) := by decide +kernel
theorem dX12_said_22 : decode cX12_said 22 = .ok (.ifCond .ne 7, 3) := by decide +kernel
theorem dX12_said_25 : decode cX12_said 25 = .ok (.iconst 1, 1) := by decide +kernel
theorem dX12_said_26 : decode cX12_said 26 = .ok (.goto 4, 3) := by decide +kernel
theorem dX12_said_29 : decode cX12_said 29 = .ok (.iconst 0, 1) := by decide +kernel
theorem dX12_said_30 : decode cX12_said 30 = .ok (.iconst 2, 1) := by decide +kernel
theorem dX12_said_31 : decode cX12_said 31 = .ok (.invokevirtual 291, 3) := by decide +kernel
theorem dX12_said_34 : decode cX12_said 34 = .ok (.ifCond .eq 7, 3) := by decide +kernel
theorem dX12_said_37 : decode cX12_said 37 = .ok (.iconst 0, 1) := by decide +kernel
theorem dX12_said_38 : decode cX12_said 38 = .ok (.goto 8, 3) := by decide +kernel
theorem dX12_said_41 : decode cX12_said 41 = .ok (.aload_n 0, 1) := by decide +kernel
theorem dX12_said_42 : decode cX12_said 42 = .ok (.iload_n 1, 1) := by decide +kernel
theorem dX12_said_43 : decode cX12_said 43 = .ok (.invokevirtual 417, 3) := by decide +kernel
theorem dX12_said_46 : decode cX12_said 46 = .ok (.ireturn, 1) := by decide +kernel
theorem dX12_partBy_0 : decode cX12_partBy 0 = .ok (.iconst 0, 1) := by decide +kernel
theorem dX12_partBy_1 : decode cX12_partBy 1 = .ok (.istore 4, 2) := by decide +kernel
theorem dX12_partBy_3 : decode cX12_partBy 3 = .ok (.iconst 0, 1) := by decide +kernel
theorem dX12_partBy_4 : decode cX12_partBy 4 = .ok (.istore 5, 2) := by decide +kernel
theorem dX12_partBy_6 : decode cX12_partBy 6 = .ok (.iload 5, 2) := by decide +kernel
theorem dX12_partBy_8 : decode cX12_partBy 8 = .ok (.bipush 99, 2) := by decide +kernel
theorem dX12_partBy_10 : decode cX12_partBy 10 = .ok (.if_icmp .ge 17, 3) := by decide +kernel
theorem dX12_partBy_13 : decode cX12_partBy 13 = .ok (.aload_n 0, 1) := by decide +kernel
theorem dX12_partBy_14 : decode cX12_partBy 14 = .ok (.getfield 51, 3) := by decide +kernel
theorem dX12_partBy_17 : decode cX12_partBy 17 = .ok (.iload 5, 2) := by decide +kernel
theorem dX12_partBy_19 : decode cX12_partBy 19 = .ok (.iconst 0, 1) := by decide +kernel
theorem dX12_partBy_20 : decode cX12_partBy 20 = .ok (.iastore, 1) := by decide +kernel
theorem dX12_partBy_21 : decode cX12_partBy 21 = .ok (.iinc 5 1, 3) := by decide +kernel
theorem dX12_partBy_24 : decode cX12_partBy 24 = .ok (.goto (-18), 3) := by decide +kernel
theorem dX12_partBy_27 : decode cX12_partBy 27 = .ok (.iconst 0, 1) := by decide +kernel
theorem dX12_partBy_28 : decode cX12_partBy 28 = .ok (.istore 5, 2) := by decide +kernel
theorem dX12_partBy_30 : decode cX12_partBy 30 = .ok (.iload 5, 2) := by decide +kernel
theorem dX12_partBy_32 : decode cX12_partBy 32 = .ok (.iconst 2, 1) := by decide +kernel
theorem dX12_partBy_33 : decode cX12_partBy 33 = .ok (.aload_n 0, 1) := by decide +kernel
theorem dX12_partBy_34 : decode cX12_partBy 34 = .ok (.invokevirtual 78, 3) := by decide +kernel
theorem dX12_partBy_37 : decode cX12_partBy 37 = .ok (.imul, 1) := by decide +kernel
theorem dX12_partBy_38 : decode cX12_partBy 38 = .ok (.if_icmp .ge 56, 3) := by decide +kernel
theorem dX12_partBy_41 : decode cX12_partBy 41 = .ok (.iload_n 3, 1) := by decide +kernel
theorem dX12_partBy_42 : decode cX12_partBy 42 = .ok (.iload 5, 2) := by decide +kernel
theorem dX12_partBy_44 : decode cX12_partBy 44 = .ok (.invokestatic 89, 3) := by decide +kernel
theorem dX12_partBy_47 : decode cX12_partBy 47 = .ok (.ifCond .ne 6, 3) := by decide +kernel
theorem dX12_partBy_50 : decode cX12_partBy 50 = .ok (.goto 38, 3) := by decide +kernel
theorem dX12_partBy_53 : decode cX12_partBy 53 = .ok (.aload_n 0, 1) := by decide +kernel
theorem dX12_partBy_54 : decode cX12_partBy 54 = .ok (.iload_n 1, 1) := by decide +kernel
theorem dX12_partBy_55 : decode cX12_partBy 55 = .ok (.iload_n 2, 1) := by decide +kernel
theorem dX12_partBy_56 : decode cX12_partBy 56 = .ok (.iload 5, 2) := by decide +kernel
theorem dX12_partBy_58 : decode cX12_partBy 58 = .ok (.invokevirtual 398, 3) := by decide +kernel
theorem dX12_partBy_61 : decode cX12_partBy 61 = .ok (.istore 6, 2) := by decide +kernel
theorem dX12_partBy_63 : decode cX12_partBy 63 = .ok (.aload_n 0, 1) := by decide +kernel
theorem dX12_partBy_64 : decode cX12_partBy 64 = .ok (.getfield 51, 3) := by decide +kernel
theorem dX12_partBy_67 : decode cX12_partBy 67 = .ok (.iload 6, 2) := by decide +kernel
theorem dX12_partBy_69 : decode cX12_partBy 69 = .ok (.dup2, 1) := by decide +kernel
theorem dX12_partBy_70 : decode cX12_partBy 70 = .ok (.iaload, 1) := by decide +kernel
theorem dX12_partBy_71 : decode cX12_partBy 71 = .ok (.iconst 1, 1) := by decide +kernel
theorem dX12_partBy_72 : decode cX12_partBy 72 = .ok (.iadd, 1) := by decide +kernel
theorem dX12_partBy_73 : decode cX12_partBy 73 = .ok (.iastore, 1) := by decide +kernel
theorem dX12_partBy_74 : decode cX12_partBy 74 = .ok (.iload 4, 2) := by decide +kernel
theorem dX12_partBy_76 : decode cX12_partBy 76 = .ok (.aload_n 0, 1) := by decide +kernel
theorem dX12_partBy_77 : decode cX12_partBy 77 = .ok (.getfield 51, 3) := by decide +kernel
theorem dX12_partBy_80 : decode cX12_partBy 80 = .ok (.iload 6, 2) := by decide +kernel
theorem dX12_partBy_82 : decode cX12_partBy 82 = .ok (.iaload, 1) := by decide +kernel
theorem dX12_partBy_83 : decode cX12_partBy 83 = .ok (.invokestatic 180, 3) := by decide +kernel
theorem dX12_partBy_86 : decode cX12_partBy 86 = .ok (.istore 4, 2) := by decide +kernel
theorem dX12_partBy_88 : decode cX12_partBy 88 = .ok (.iinc 5 1, 3) := by decide +kernel
theorem dX12_partBy_91 : decode cX12_partBy 91 = .ok (.goto (-61), 3) := by decide +kernel
theorem dX12_partBy_94 : decode cX12_partBy 94 = .ok (.iload 4, 2) := by decide +kernel
theorem dX12_partBy_96 : decode cX12_partBy 96 = .ok (.ireturn, 1) := by decide +kernel
theorem dX12_ask_0 : decode cX12_ask 0 = .ok (.aload_n 0, 1) := by decide +kernel
theorem dX12_ask_1 : decode cX12_ask 1 = .ok (.invokevirtual 280, 3) := by decide +kernel
theorem dX12_ask_4 : decode cX12_ask 4 = .ok (.aload_n 0, 1) := by decide +kernel
theorem dX12_ask_5 : decode cX12_ask 5 = .ok (.aload_n 0, 1) := by decide +kernel
theorem dX12_ask_6 : decode cX12_ask 6 = .ok (.iload_n 1, 1) := by decide +kernel
theorem dX12_ask_7 : decode cX12_ask 7 = .ok (.invokevirtual 331, 3) := by decide +kernel
theorem dX12_ask_10 : decode cX12_ask 10 = .ok (.iconst 1, 1) := by decide +kernel
theorem dX12_ask_11 : decode cX12_ask 11 = .ok (.invokevirtual 291, 3) := by decide +kernel
theorem dX12_ask_14 : decode cX12_ask 14 = .ok (.ifCond .ne 23, 3) := by decide +kernel
theorem dX12_ask_17 : decode cX12_ask 17 = .ok (.aload_n 0, 1) := by decide +kernel
theorem dX12_ask_18 : decode cX12_ask 18 = .ok (.aload_n 0, 1) := by decide +kernel
theorem dX12_ask_19 : decode cX12_ask 19 = .ok (.invokevirtual 414, 3) := by decide +kernel
theorem dX12_ask_22 : decode cX12_ask 22 = .ok (.ifCond .ne 7, 3) := by decide +kernel
theorem dX12_ask_25 : decode cX12_ask 25 = .ok (.iconst 1, 1) := by decide +kernel
theorem dX12_ask_26 : decode cX12_ask 26 = .ok (.goto 4, 3) := by decide +kernel
theorem dX12_ask_29 : decode cX12_ask 29 = .ok (.iconst 0, 1) := by decide +kernel
theorem dX12_ask_30 : decode cX12_ask 30 = .ok (.iconst 2, 1) := by decide +kernel
theorem dX12_ask_31 : decode cX12_ask 31 = .ok (.invokevirtual 291, 3) := by decide +kernel
theorem dX12_ask_34 : decode cX12_ask 34 = .ok (.ifCond .eq 5, 3) := by decide +kernel
theorem dX12_ask_37 : decode cX12_ask 37 = .ok (.iconst 0, 1) := by decide +kernel
theorem dX12_ask_38 : decode cX12_ask 38 = .ok (.ireturn, 1) := by decide +kernel
theorem dX12_ask_39 : decode cX12_ask 39 = .ok (.aload_n 0, 1) := by decide +kernel
theorem dX12_ask_40 : decode cX12_ask 40 = .ok (.iload_n 1, 1) := by decide +kernel
theorem dX12_ask_41 : decode cX12_ask 41 = .ok (.invokevirtual 417, 3) := by decide +kernel
theorem dX12_ask_44 : decode cX12_ask 44 = .ok (.istore_n 2, 1) := by decide +kernel
theorem dX12_ask_45 : decode cX12_ask 45 = .ok (.iload_n 2, 1) := by decide +kernel
theorem dX12_ask_46 : decode cX12_ask 46 = .ok (.invokestatic 364, 3) := by decide +kernel
theorem dX12_ask_49 : decode cX12_ask 49 = .ok (.iconst 2, 1) := by decide +kernel
theorem dX12_ask_50 : decode cX12_ask 50 = .ok (.if_icmp .ge 5, 3) := by decide +kernel
theorem dX12_ask_53 : decode cX12_ask 53 = .ok (.iconst (-1), 1) := by decide +kernel
theorem dX12_ask_54 : decode cX12_ask 54 = .ok (.ireturn, 1) := by decide +kernel
theorem dX12_ask_55 : decode cX12_ask 55 = .ok (.iconst (-1), 1) := by decide +kernel
theorem dX12_ask_56 : decode cX12_ask 56 = .ok (.istore_n 3, 1) := by decide +kernel
theorem dX12_ask_57 : decode cX12_ask 57 = .ok (.ldc 137, 2) := by decide +kernel
theorem dX12_ask_59 : decode cX12_ask 59 = .ok (.istore 4, 2) := by decide +kernel
theorem dX12_ask_61 : decode cX12_ask 61 = .ok (.iconst 0, 1) := by decide +kernel
theorem dX12_ask_62 : decode cX12_ask 62 = .ok (.istore 5, 2) := by decide +kernel
theorem dX12_ask_64 : decode cX12_ask 64 = .ok (.iload 5, 2) := by decide +kernel
theorem dX12_ask_66 : decode cX12_ask 66 = .ok (.aload_n 0, 1) := by decide +kernel
theorem dX12_ask_67 : decode cX12_ask 67 = .ok (.getfield 13, 3) := by decide +kernel
theorem dX12_ask_70 : decode cX12_ask 70 = .ok (.iconst 4, 1) := by decide +kernel
theorem dX12_ask_71 : decode cX12_ask 71 = .ok (.iaload, 1) := by decide +kernel
theorem dX12_ask_72 : decode cX12_ask 72 = .ok (.if_icmp .ge 42, 3) := by decide +kernel
theorem dX12_ask_75 : decode cX12_ask 75 = .ok (.aload_n 0, 1) := by decide +kernel
theorem dX12_ask_76 : decode cX12_ask 76 = .ok (.iload_n 1, 1) := by decide +kernel
theorem dX12_ask_77 : decode cX12_ask 77 = .ok (.iload 5, 2) := by decide +kernel
theorem dX12_ask_79 : decode cX12_ask 79 = .ok (.iload_n 2, 1) := by decide +kernel
theorem dX12_ask_80 : decode cX12_ask 80 = .ok (.invokevirtual 420, 3) := by decide +kernel
theorem dX12_ask_83 : decode cX12_ask 83 = .ok (.istore 6, 2) := by decide +kernel
theorem dX12_ask_85 : decode cX12_ask 85 = .ok (.iload 6, 2) := by decide +kernel
theorem dX12_ask_87 : decode cX12_ask 87 = .ok (.iload 4, 2) := by decide +kernel
theorem dX12_ask_89 : decode cX12_ask 89 = .ok (.if_icmp .ge 8, 3) := by decide +kernel
theorem dX12_ask_92 : decode cX12_ask 92 = .ok (.iload 5, 2) := by decide +kernel
theorem dX12_ask_94 : decode cX12_ask 94 = .ok (.goto 4, 3) := by decide +kernel
theorem dX12_ask_97 : decode cX12_ask 97 = .ok (.iload_n 3, 1) := by decide +kernel
theorem dX12_ask_98 : decode cX12_ask 98 = .ok (.istore_n 3, 1) := by decide +kernel
theorem dX12_ask_99 : decode cX12_ask 99 = .ok (.iload 4, 2) := by decide +kernel
theorem dX12_ask_101 : decode cX12_ask 101 = .ok (.iload 6, 2) := by decide +kernel
theorem dX12_ask_103 : decode cX12_ask 103 = .ok (.invokestatic 305, 3) := by decide +kernel
theorem dX12_ask_106 : decode cX12_ask 106 = .ok (.istore 4, 2) := by decide +kernel
theorem dX12_ask_108 : decode cX12_ask 108 = .ok (.iinc 5 1, 3) := by decide +kernel
theorem dX12_ask_111 : decode cX12_ask 111 = .ok (.goto (-47), 3) := by decide +kernel
theorem dX12_ask_114 : decode cX12_ask 114 = .ok (.iload_n 3, 1) := by decide +kernel
theorem dX12_ask_115 : decode cX12_ask 115 = .ok (.ireturn, 1) := by decide +kernel
theorem dX12_canPair_0 : decode cX12_canPair 0 = .ok (.aload_n 0, 1) := by decide +kernel
theorem dX12_canPair_1 : decode cX12_canPair 1 = .ok (.iload_n 1, 1) := by decide +kernel
theorem dX12_canPair_2 : decode cX12_canPair 2 = .ok (.invokevirtual 358, 3) := by decide +kernel
theorem dX12_canPair_5 : decode cX12_canPair 5 = .ok (.ifCond .eq 40, 3) := by decide +kernel
theorem dX12_canPair_8 : decode cX12_canPair 8 = .ok (.aload_n 0, 1) := by decide +kernel
theorem dX12_canPair_9 : decode cX12_canPair 9 = .ok (.iload_n 2, 1) := by decide +kernel
theorem dX12_canPair_10 : decode cX12_canPair 10 = .ok (.invokevirtual 358, 3) := by decide +kernel
theorem dX12_canPair_13 : decode cX12_canPair 13 = .ok (.ifCond .ne 32, 3) := by decide +kernel
theorem dX12_canPair_16 : decode cX12_canPair 16 = .ok (.aload_n 0, 1) := by decide +kernel
theorem dX12_canPair_17 : decode cX12_canPair 17 = .ok (.iload_n 1, 1) := by decide +kernel
theorem dX12_canPair_18 : decode cX12_canPair 18 = .ok (.invokevirtual 166, 3) := by decide +kernel
theorem dX12_canPair_21 : decode cX12_canPair 21 = .ok (.ifCond .eq 24, 3) := by decide +kernel
theorem dX12_canPair_24 : decode cX12_canPair 24 = .ok (.aload_n 0, 1) := by decide +kernel
theorem dX12_canPair_25 : decode cX12_canPair 25 = .ok (.iload_n 2, 1) := by decide +kernel
theorem dX12_canPair_26 : decode cX12_canPair 26 = .ok (.invokevirtual 166, 3) := by decide +kernel
theorem dX12_canPair_29 : decode cX12_canPair 29 = .ok (.ifCond .eq 16, 3) := by decide +kernel
theorem dX12_canPair_32 : decode cX12_canPair 32 = .ok (.aload_n 0, 1) := by decide +kernel
theorem dX12_canPair_33 : decode cX12_canPair 33 = .ok (.iload_n 1, 1) := by decide +kernel
theorem dX12_canPair_34 : decode cX12_canPair 34 = .ok (.iload_n 2, 1) := by decide +kernel
theorem dX12_canPair_35 : decode cX12_canPair 35 = .ok (.invokevirtual 170, 3) := by decide +kernel
theorem dX12_canPair_38 : decode cX12_canPair 38 = .ok (.ifCond .ne 7, 3) := by decide +kernel
theorem dX12_canPair_41 : decode cX12_canPair 41 = .ok (.iconst 1, 1) := by decide +kernel
theorem dX12_canPair_42 : decode cX12_canPair 42 = .ok (.goto 4, 3) := by decide +kernel
theorem dX12_canPair_45 : decode cX12_canPair 45 = .ok (.iconst 0, 1) := by decide +kernel
theorem dX12_canPair_46 : decode cX12_canPair 46 = .ok (.ireturn, 1) := by decide +kernel
theorem dX12_worthAt_0 : decode cX12_worthAt 0 = .ok (.iload_n 0, 1) := by decide +kernel
theorem dX12_worthAt_1 : decode cX12_worthAt 1 = .ok (.bipush 8, 2) := by decide +kernel
theorem dX12_worthAt_3 : decode cX12_worthAt 3 = .ok (.ishl, 1) := by decide +kernel
theorem dX12_worthAt_4 : decode cX12_worthAt 4 = .ok (.iload_n 1, 1) := by decide +kernel
theorem dX12_worthAt_5 : decode cX12_worthAt 5 = .ok (.iadd, 1) := by decide +kernel
theorem dX12_worthAt_6 : decode cX12_worthAt 6 = .ok (.ireturn, 1) := by decide +kernel
theorem dX12_worthBy_0 : decode cX12_worthBy 0 = .ok (.iload_n 3, 1) := by decide +kernel
theorem dX12_worthBy_1 : decode cX12_worthBy 1 = .ok (.aload_n 0, 1) := by decide +kernel
theorem dX12_worthBy_2 : decode cX12_worthBy 2 = .ok (.invokevirtual 78, 3) := by decide +kernel
theorem dX12_worthBy_5 : decode cX12_worthBy 5 = .ok (.if_icmp .ne 16, 3) := by decide +kernel
theorem dX12_worthBy_8 : decode cX12_worthBy 8 = .ok (.aload_n 0, 1) := by decide +kernel
theorem dX12_worthBy_9 : decode cX12_worthBy 9 = .ok (.getfield 54, 3) := by decide +kernel
theorem dX12_worthBy_12 : decode cX12_worthBy 12 = .ok (.iload_n 1, 1) := by decide +kernel
theorem dX12_worthBy_13 : decode cX12_worthBy 13 = .ok (.iconst 1, 1) := by decide +kernel
theorem dX12_worthBy_14 : decode cX12_worthBy 14 = .ok (.iadd, 1) := by decide +kernel
theorem dX12_worthBy_15 : decode cX12_worthBy 15 = .ok (.iload_n 2, 1) := by decide +kernel
theorem dX12_worthBy_16 : decode cX12_worthBy 16 = .ok (.invokestatic 423, 3) := by decide +kernel
theorem dX12_worthBy_19 : decode cX12_worthBy 19 = .ok (.iaload, 1) := by decide +kernel
theorem dX12_worthBy_20 : decode cX12_worthBy 20 = .ok (.ireturn, 1) := by decide +kernel
theorem dX12_worthBy_21 : decode cX12_worthBy 21 = .ok (.iload_n 2, 1) := by decide +kernel
theorem dX12_worthBy_22 : decode cX12_worthBy 22 = .ok (.iload_n 3, 1) := by decide +kernel
theorem dX12_worthBy_23 : decode cX12_worthBy 23 = .ok (.invokestatic 89, 3) := by decide +kernel
theorem dX12_worthBy_26 : decode cX12_worthBy 26 = .ok (.ifCond .ne 12, 3) := by decide +kernel
theorem dX12_worthBy_29 : decode cX12_worthBy 29 = .ok (.aload_n 0, 1) := by decide +kernel
theorem dX12_worthBy_30 : decode cX12_worthBy 30 = .ok (.iload_n 1, 1) := by decide +kernel
theorem dX12_worthBy_31 : decode cX12_worthBy 31 = .ok (.iload_n 3, 1) := by decide +kernel
theorem dX12_worthBy_32 : decode cX12_worthBy 32 = .ok (.invokevirtual 426, 3) := by decide +kernel
theorem dX12_worthBy_35 : decode cX12_worthBy 35 = .ok (.ifCond .ne 7, 3) := by decide +kernel
theorem dX12_worthBy_38 : decode cX12_worthBy 38 = .ok (.ldc_w 429, 3) := by decide +kernel
theorem dX12_worthBy_41 : decode cX12_worthBy 41 = .ok (.ireturn, 1) := by decide +kernel
theorem dX12_worthBy_42 : decode cX12_worthBy 42 = .ok (.sipush 1000, 3) := by decide +kernel
theorem dX12_worthBy_45 : decode cX12_worthBy 45 = .ok (.aload_n 0, 1) := by decide +kernel
theorem dX12_worthBy_46 : decode cX12_worthBy 46 = .ok (.iload_n 1, 1) := by decide +kernel
theorem dX12_worthBy_47 : decode cX12_worthBy 47 = .ok (.iload_n 3, 1) := by decide +kernel
theorem dX12_worthBy_48 : decode cX12_worthBy 48 = .ok (.invokevirtual 343, 3) := by decide +kernel
theorem dX12_worthBy_51 : decode cX12_worthBy 51 = .ok (.isub, 1) := by decide +kernel
theorem dX12_worthBy_52 : decode cX12_worthBy 52 = .ok (.aload_n 0, 1) := by decide +kernel
theorem dX12_worthBy_53 : decode cX12_worthBy 53 = .ok (.getfield 54, 3) := by decide +kernel
theorem dX12_worthBy_56 : decode cX12_worthBy 56 = .ok (.iload_n 1, 1) := by decide +kernel
theorem dX12_worthBy_57 : decode cX12_worthBy 57 = .ok (.iconst 1, 1) := by decide +kernel
theorem dX12_worthBy_58 : decode cX12_worthBy 58 = .ok (.iadd, 1) := by decide +kernel
theorem dX12_worthBy_59 : decode cX12_worthBy 59 = .ok (.iload_n 2, 1) := by decide +kernel
theorem dX12_worthBy_60 : decode cX12_worthBy 60 = .ok (.iconst 1, 1) := by decide +kernel
theorem dX12_worthBy_61 : decode cX12_worthBy 61 = .ok (.iload_n 3, 1) := by decide +kernel
theorem dX12_worthBy_62 : decode cX12_worthBy 62 = .ok (.ishl, 1) := by decide +kernel
theorem dX12_worthBy_63 : decode cX12_worthBy 63 = .ok (.ior, 1) := by decide +kernel
theorem dX12_worthBy_64 : decode cX12_worthBy 64 = .ok (.invokestatic 423, 3) := by decide +kernel
theorem dX12_worthBy_67 : decode cX12_worthBy 67 = .ok (.iaload, 1) := by decide +kernel
theorem dX12_worthBy_68 : decode cX12_worthBy 68 = .ok (.iadd, 1) := by decide +kernel
theorem dX12_worthBy_69 : decode cX12_worthBy 69 = .ok (.ireturn, 1) := by decide +kernel
theorem dX12_laysWorth_0 : decode cX12_laysWorth 0 = .ok (.iconst 0, 1) := by decide +kernel
theorem dX12_laysWorth_1 : decode cX12_laysWorth 1 = .ok (.istore_n 1, 1) := by decide +kernel
theorem dX12_laysWorth_2 : decode cX12_laysWorth 2 = .ok (.iload_n 1, 1) := by decide +kernel
theorem dX12_laysWorth_3 : decode cX12_laysWorth 3 = .ok (.sipush 256, 3) := by decide +kernel
theorem dX12_laysWorth_6 : decode cX12_laysWorth 6 = .ok (.if_icmp .ge 23, 3) := by decide +kernel
theorem dX12_laysWorth_9 : decode cX12_laysWorth 9 = .ok (.aload_n 0, 1) := by decide +kernel
theorem dX12_laysWorth_10 : decode cX12_laysWorth 10 = .ok (.getfield 54, 3) := by decide +kernel
theorem dX12_laysWorth_13 : decode cX12_laysWorth 13 = .ok (.aload_n 0, 1) := by decide +kernel
theorem dX12_laysWorth_14 : decode cX12_laysWorth 14 = .ok (.invokevirtual 78, 3) := by decide +kernel
theorem dX12_laysWorth_17 : decode cX12_laysWorth 17 = .ok (.iload_n 1, 1) := by decide +kernel
theorem dX12_laysWorth_18 : decode cX12_laysWorth 18 = .ok (.invokestatic 423, 3) := by decide +kernel
theorem dX12_laysWorth_21 : decode cX12_laysWorth 21 = .ok (.iconst 0, 1) := by decide +kernel
theorem dX12_laysWorth_22 : decode cX12_laysWorth 22 = .ok (.iastore, 1) := by decide +kernel
theorem dX12_laysWorth_23 : decode cX12_laysWorth 23 = .ok (.iinc 1 1, 3) := by decide +kernel
theorem dX12_laysWorth_26 : decode cX12_laysWorth 26 = .ok (.goto (-24), 3) := by decide +kernel
theorem dX12_laysWorth_29 : decode cX12_laysWorth 29 = .ok (.aload_n 0, 1) := by decide +kernel
theorem dX12_laysWorth_30 : decode cX12_laysWorth 30 = .ok (.invokevirtual 78, 3) := by decide +kernel
theorem dX12_laysWorth_33 : decode cX12_laysWorth 33 = .ok (.iconst 1, 1) := by decide +kernel
theorem dX12_laysWorth_34 : decode cX12_laysWorth 34 = .ok (.isub, 1) := by decide +kernel
theorem dX12_laysWorth_35 : decode cX12_laysWorth 35 = .ok (.istore_n 1, 1) := by decide +kernel
theorem dX12_laysWorth_36 : decode cX12_laysWorth 36 = .ok (.iload_n 1, 1) := by decide +kernel
theorem dX12_laysWorth_37 : decode cX12_laysWorth 37 = .ok (.ifCond .lt 70, 3) := by decide +kernel
theorem dX12_laysWorth_40 : decode cX12_laysWorth 40 = .ok (.iconst 0, 1) := by decide +kernel
theorem dX12_laysWorth_41 : decode cX12_laysWorth 41 = .ok (.istore_n 2, 1) := by decide +kernel
theorem dX12_laysWorth_42 : decode cX12_laysWorth 42 = .ok (.iload_n 2, 1) := by decide +kernel
theorem dX12_laysWorth_43 : decode cX12_laysWorth 43 = .ok (.sipush 256, 3) := by decide +kernel
theorem dX12_laysWorth_46 : decode cX12_laysWorth 46 = .ok (.if_icmp .ge 55, 3) := by decide +kernel
theorem dX12_laysWorth_49 : decode cX12_laysWorth 49 = .ok (.ldc_w 429, 3) := by decide +kernel
theorem dX12_laysWorth_52 : decode cX12_laysWorth 52 = .ok (.istore_n 3, 1) := by decide +kernel
theorem dX12_laysWorth_53 : decode cX12_laysWorth 53 = .ok (.iconst 0, 1) := by decide +kernel
theorem dX12_laysWorth_54 : decode cX12_laysWorth 54 = .ok (.istore 4, 2) := by decide +kernel
theorem dX12_laysWorth_56 : decode cX12_laysWorth 56 = .ok (.iload 4, 2) := by decide +kernel
theorem dX12_laysWorth_58 : decode cX12_laysWorth 58 = .ok (.aload_n 0, 1) := by decide +kernel
theorem dX12_laysWorth_59 : decode cX12_laysWorth 59 = .ok (.invokevirtual 78, 3) := by decide +kernel
theorem dX12_laysWorth_62 : decode cX12_laysWorth 62 = .ok (.if_icmp .gt 22, 3) := by decide +kernel
theorem dX12_laysWorth_65 : decode cX12_laysWorth 65 = .ok (.iload_n 3, 1) := by decide +kernel
theorem dX12_laysWorth_66 : decode cX12_laysWorth 66 = .ok (.aload_n 0, 1) := by decide +kernel
theorem dX12_laysWorth_67 : decode cX12_laysWorth 67 = .ok (.iload_n 1, 1) := by decide +kernel
theorem dX12_laysWorth_68 : decode cX12_laysWorth 68 = .ok (.iload_n 2, 1) := by decide +kernel
theorem dX12_laysWorth_69 : decode cX12_laysWorth 69 = .ok (.iload 4, 2) := by decide +kernel
theorem dX12_laysWorth_71 : decode cX12_laysWorth 71 = .ok (.invokevirtual 430, 3) := by decide +kernel
theorem dX12_laysWorth_74 : decode cX12_laysWorth 74 = .ok (.invokestatic 180, 3) := by decide +kernel
theorem dX12_laysWorth_77 : decode cX12_laysWorth 77 = .ok (.istore_n 3, 1) := by decide +kernel
theorem dX12_laysWorth_78 : decode cX12_laysWorth 78 = .ok (.iinc 4 1, 3) := by decide +kernel
theorem dX12_laysWorth_81 : decode cX12_laysWorth 81 = .ok (.goto (-25), 3) := by decide +kernel
theorem dX12_laysWorth_84 : decode cX12_laysWorth 84 = .ok (.aload_n 0, 1) := by decide +kernel
theorem dX12_laysWorth_85 : decode cX12_laysWorth 85 = .ok (.getfield 54, 3) := by decide +kernel
theorem dX12_laysWorth_88 : decode cX12_laysWorth 88 = .ok (.iload_n 1, 1) := by decide +kernel
theorem dX12_laysWorth_89 : decode cX12_laysWorth 89 = .ok (.iload_n 2, 1) := by decide +kernel
theorem dX12_laysWorth_90 : decode cX12_laysWorth 90 = .ok (.invokestatic 423, 3) := by decide +kernel
theorem dX12_laysWorth_93 : decode cX12_laysWorth 93 = .ok (.iload_n 3, 1) := by decide +kernel
theorem dX12_laysWorth_94 : decode cX12_laysWorth 94 = .ok (.iastore, 1) := by decide +kernel
theorem dX12_laysWorth_95 : decode cX12_laysWorth 95 = .ok (.iinc 2 1, 3) := by decide +kernel
theorem dX12_laysWorth_98 : decode cX12_laysWorth 98 = .ok (.goto (-56), 3) := by decide +kernel
theorem dX12_laysWorth_101 : decode cX12_laysWorth 101 = .ok (.iinc 1 (-1), 3) := by decide +kernel
theorem dX12_laysWorth_104 : decode cX12_laysWorth 104 = .ok (.goto (-68), 3) := by decide +kernel
theorem dX12_laysWorth_107 : decode cX12_laysWorth 107 = .ok (.return_, 1) := by decide +kernel
