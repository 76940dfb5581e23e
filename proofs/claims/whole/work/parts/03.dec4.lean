theorem dX12_noMates_0 : decode cX12_noMates 0 = .ok (.iconst 0, 1) := by decide +kernel
theorem dX12_noMates_1 : decode cX12_noMates 1 = .ok (.istore_n 1, 1) := by decide +kernel
theorem dX12_noMates_2 : decode cX12_noMates 2 = .ok (.iload_n 1, 1) := by decide +kernel
theorem dX12_noMates_3 : decode cX12_noMates 3 = .ok (.bipush 8, 2) := by decide +kernel
theorem dX12_noMates_5 : decode cX12_noMates 5 = .ok (.if_icmp .ge 16, 3) := by decide +kernel
theorem dX12_noMates_8 : decode cX12_noMates 8 = .ok (.aload_n 0, 1) := by decide +kernel
theorem dX12_noMates_9 : decode cX12_noMates 9 = .ok (.getfield 57, 3) := by decide +kernel
theorem dX12_noMates_12 : decode cX12_noMates 12 = .ok (.iload_n 1, 1) := by decide +kernel
theorem dX12_noMates_13 : decode cX12_noMates 13 = .ok (.iconst (-1), 1) := by decide +kernel
theorem dX12_noMates_14 : decode cX12_noMates 14 = .ok (.iastore, 1) := by decide +kernel
theorem dX12_noMates_15 : decode cX12_noMates 15 = .ok (.iinc 1 1, 3) := by decide +kernel
theorem dX12_noMates_18 : decode cX12_noMates 18 = .ok (.goto (-16), 3) := by decide +kernel
theorem dX12_noMates_21 : decode cX12_noMates 21 = .ok (.return_, 1) := by decide +kernel
theorem dX12_matches_0 : decode cX12_matches 0 = .ok (.aload_n 0, 1) := by decide +kernel
theorem dX12_matches_1 : decode cX12_matches 1 = .ok (.invokevirtual 433, 3) := by decide +kernel
theorem dX12_matches_4 : decode cX12_matches 4 = .ok (.aload_n 0, 1) := by decide +kernel
theorem dX12_matches_5 : decode cX12_matches 5 = .ok (.invokevirtual 436, 3) := by decide +kernel
theorem dX12_matches_8 : decode cX12_matches 8 = .ok (.iconst 0, 1) := by decide +kernel
theorem dX12_matches_9 : decode cX12_matches 9 = .ok (.istore_n 1, 1) := by decide +kernel
theorem dX12_matches_10 : decode cX12_matches 10 = .ok (.iconst 0, 1) := by decide +kernel
theorem dX12_matches_11 : decode cX12_matches 11 = .ok (.istore_n 2, 1) := by decide +kernel
theorem dX12_matches_12 : decode cX12_matches 12 = .ok (.iload_n 2, 1) := by decide +kernel
theorem dX12_matches_13 : decode cX12_matches 13 = .ok (.aload_n 0, 1) := by decide +kernel
theorem dX12_matches_14 : decode cX12_matches 14 = .ok (.invokevirtual 78, 3) := by decide +kernel
theorem dX12_matches_17 : decode cX12_matches 17 = .ok (.if_icmp .ge 68, 3) := by decide +kernel
theorem dX12_matches_20 : decode cX12_matches 20 = .ok (.iconst 0, 1) := by decide +kernel
theorem dX12_matches_21 : decode cX12_matches 21 = .ok (.istore_n 3, 1) := by decide +kernel
theorem dX12_matches_22 : decode cX12_matches 22 = .ok (.aload_n 0, 1) := by decide +kernel
theorem dX12_matches_23 : decode cX12_matches 23 = .ok (.iload_n 2, 1) := by decide +kernel
theorem dX12_matches_24 : decode cX12_matches 24 = .ok (.iload_n 1, 1) := by decide +kernel
theorem dX12_matches_25 : decode cX12_matches 25 = .ok (.iload_n 3, 1) := by decide +kernel
theorem dX12_matches_26 : decode cX12_matches 26 = .ok (.invokevirtual 430, 3) := by decide +kernel
theorem dX12_matches_29 : decode cX12_matches 29 = .ok (.aload_n 0, 1) := by decide +kernel
theorem dX12_matches_30 : decode cX12_matches 30 = .ok (.getfield 54, 3) := by decide +kernel
theorem dX12_matches_33 : decode cX12_matches 33 = .ok (.iload_n 2, 1) := by decide +kernel
theorem dX12_matches_34 : decode cX12_matches 34 = .ok (.iload_n 1, 1) := by decide +kernel
theorem dX12_matches_35 : decode cX12_matches 35 = .ok (.invokestatic 423, 3) := by decide +kernel
theorem dX12_matches_38 : decode cX12_matches 38 = .ok (.iaload, 1) := by decide +kernel
theorem dX12_matches_39 : decode cX12_matches 39 = .ok (.if_icmp .eq 9, 3) := by decide +kernel
theorem dX12_matches_42 : decode cX12_matches 42 = .ok (.iinc 3 1, 3) := by decide +kernel
theorem dX12_matches_45 : decode cX12_matches 45 = .ok (.goto (-23), 3) := by decide +kernel
theorem dX12_matches_48 : decode cX12_matches 48 = .ok (.iload_n 3, 1) := by decide +kernel
theorem dX12_matches_49 : decode cX12_matches 49 = .ok (.aload_n 0, 1) := by decide +kernel
theorem dX12_matches_50 : decode cX12_matches 50 = .ok (.invokevirtual 78, 3) := by decide +kernel
theorem dX12_matches_53 : decode cX12_matches 53 = .ok (.if_icmp .ne 6, 3) := by decide +kernel
theorem dX12_matches_56 : decode cX12_matches 56 = .ok (.goto 23, 3) := by decide +kernel
theorem dX12_matches_59 : decode cX12_matches 59 = .ok (.aload_n 0, 1) := by decide +kernel
theorem dX12_matches_60 : decode cX12_matches 60 = .ok (.getfield 57, 3) := by decide +kernel
theorem dX12_matches_63 : decode cX12_matches 63 = .ok (.iload_n 2, 1) := by decide +kernel
theorem dX12_matches_64 : decode cX12_matches 64 = .ok (.iload_n 3, 1) := by decide +kernel
theorem dX12_matches_65 : decode cX12_matches 65 = .ok (.iastore, 1) := by decide +kernel
theorem dX12_matches_66 : decode cX12_matches 66 = .ok (.aload_n 0, 1) := by decide +kernel
theorem dX12_matches_67 : decode cX12_matches 67 = .ok (.getfield 57, 3) := by decide +kernel
theorem dX12_matches_70 : decode cX12_matches 70 = .ok (.iload_n 3, 1) := by decide +kernel
theorem dX12_matches_71 : decode cX12_matches 71 = .ok (.iload_n 2, 1) := by decide +kernel
theorem dX12_matches_72 : decode cX12_matches 72 = .ok (.iastore, 1) := by decide +kernel
theorem dX12_matches_73 : decode cX12_matches 73 = .ok (.iload_n 1, 1) := by decide +kernel
theorem dX12_matches_74 : decode cX12_matches 74 = .ok (.iconst 1, 1) := by decide +kernel
theorem dX12_matches_75 : decode cX12_matches 75 = .ok (.iload_n 3, 1) := by decide +kernel
theorem dX12_matches_76 : decode cX12_matches 76 = .ok (.ishl, 1) := by decide +kernel
theorem dX12_matches_77 : decode cX12_matches 77 = .ok (.ior, 1) := by decide +kernel
theorem dX12_matches_78 : decode cX12_matches 78 = .ok (.istore_n 1, 1) := by decide +kernel
theorem dX12_matches_79 : decode cX12_matches 79 = .ok (.iinc 2 1, 3) := by decide +kernel
theorem dX12_matches_82 : decode cX12_matches 82 = .ok (.goto (-70), 3) := by decide +kernel
theorem dX12_matches_85 : decode cX12_matches 85 = .ok (.return_, 1) := by decide +kernel
theorem dX12_match_0 : decode cX12_match 0 = .ok (.aload_n 0, 1) := by decide +kernel
theorem dX12_match_1 : decode cX12_match 1 = .ok (.iconst 0, 1) := by decide +kernel
theorem dX12_match_2 : decode cX12_match 2 = .ok (.putfield 3, 3) := by decide +kernel
theorem dX12_match_5 : decode cX12_match 5 = .ok (.aload_n 0, 1) := by decide +kernel
theorem dX12_match_6 : decode cX12_match 6 = .ok (.invokevirtual 439, 3) := by decide +kernel
theorem dX12_match_9 : decode cX12_match 9 = .ok (.iconst 0, 1) := by decide +kernel
theorem dX12_match_10 : decode cX12_match 10 = .ok (.istore_n 2, 1) := by decide +kernel
theorem dX12_match_11 : decode cX12_match 11 = .ok (.iconst 0, 1) := by decide +kernel
theorem dX12_match_12 : decode cX12_match 12 = .ok (.istore_n 3, 1) := by decide +kernel
theorem dX12_match_13 : decode cX12_match 13 = .ok (.iload_n 3, 1) := by decide +kernel
theorem dX12_match_14 : decode cX12_match 14 = .ok (.aload_n 0, 1) := by decide +kernel
theorem dX12_match_15 : decode cX12_match 15 = .ok (.invokevirtual 78, 3) := by decide +kernel
theorem dX12_match_18 : decode cX12_match 18 = .ok (.if_icmp .ge 49, 3) := by decide +kernel
theorem dX12_match_21 : decode cX12_match 21 = .ok (.aload_n 0, 1) := by decide +kernel
theorem dX12_match_22 : decode cX12_match 22 = .ok (.iload_n 3, 1) := by decide +kernel
theorem dX12_match_23 : decode cX12_match 23 = .ok (.invokevirtual 358, 3) := by decide +kernel
theorem dX12_match_26 : decode cX12_match 26 = .ok (.ifCond .eq 35, 3) := by decide +kernel
theorem dX12_match_29 : decode cX12_match 29 = .ok (.aload_n 0, 1) := by decide +kernel
theorem dX12_match_30 : decode cX12_match 30 = .ok (.getfield 57, 3) := by decide +kernel
theorem dX12_match_33 : decode cX12_match 33 = .ok (.iload_n 3, 1) := by decide +kernel
theorem dX12_match_34 : decode cX12_match 34 = .ok (.iaload, 1) := by decide +kernel
theorem dX12_match_35 : decode cX12_match 35 = .ok (.iconst (-1), 1) := by decide +kernel
theorem dX12_match_36 : decode cX12_match 36 = .ok (.if_icmp .eq 25, 3) := by decide +kernel
theorem dX12_match_39 : decode cX12_match 39 = .ok (.iload_n 2, 1) := by decide +kernel
theorem dX12_match_40 : decode cX12_match 40 = .ok (.iload_n 1, 1) := by decide +kernel
theorem dX12_match_41 : decode cX12_match 41 = .ok (.ifCond .eq 17, 3) := by decide +kernel
theorem dX12_match_44 : decode cX12_match 44 = .ok (.aload_n 0, 1) := by decide +kernel
theorem dX12_match_45 : decode cX12_match 45 = .ok (.iload_n 3, 1) := by decide +kernel
theorem dX12_match_46 : decode cX12_match 46 = .ok (.aload_n 0, 1) := by decide +kernel
theorem dX12_match_47 : decode cX12_match 47 = .ok (.getfield 57, 3) := by decide +kernel
theorem dX12_match_50 : decode cX12_match 50 = .ok (.iload_n 3, 1) := by decide +kernel
theorem dX12_match_51 : decode cX12_match 51 = .ok (.iaload, 1) := by decide +kernel
theorem dX12_match_52 : decode cX12_match 52 = .ok (.invokevirtual 343, 3) := by decide +kernel
theorem dX12_match_55 : decode cX12_match 55 = .ok (.goto 4, 3) := by decide +kernel
theorem dX12_match_58 : decode cX12_match 58 = .ok (.iconst 1, 1) := by decide +kernel
theorem dX12_match_59 : decode cX12_match 59 = .ok (.iadd, 1) := by decide +kernel
theorem dX12_match_60 : decode cX12_match 60 = .ok (.istore_n 2, 1) := by decide +kernel
theorem dX12_match_61 : decode cX12_match 61 = .ok (.iinc 3 1, 3) := by decide +kernel
theorem dX12_match_64 : decode cX12_match 64 = .ok (.goto (-51), 3) := by decide +kernel
theorem dX12_match_67 : decode cX12_match 67 = .ok (.iload_n 2, 1) := by decide +kernel
theorem dX12_match_68 : decode cX12_match 68 = .ok (.ireturn, 1) := by decide +kernel
theorem dX12_mate_0 : decode cX12_mate 0 = .ok (.aload_n 0, 1) := by decide +kernel
theorem dX12_mate_1 : decode cX12_mate 1 = .ok (.iconst 0, 1) := by decide +kernel
theorem dX12_mate_2 : decode cX12_mate 2 = .ok (.putfield 3, 3) := by decide +kernel
theorem dX12_mate_5 : decode cX12_mate 5 = .ok (.aload_n 0, 1) := by decide +kernel
theorem dX12_mate_6 : decode cX12_mate 6 = .ok (.aload_n 0, 1) := by decide +kernel
theorem dX12_mate_7 : decode cX12_mate 7 = .ok (.iload_n 1, 1) := by decide +kernel
theorem dX12_mate_8 : decode cX12_mate 8 = .ok (.invokevirtual 331, 3) := by decide +kernel
theorem dX12_mate_11 : decode cX12_mate 11 = .ok (.iconst 1, 1) := by decide +kernel
theorem dX12_mate_12 : decode cX12_mate 12 = .ok (.invokevirtual 291, 3) := by decide +kernel
theorem dX12_mate_15 : decode cX12_mate 15 = .ok (.ifCond .eq 5, 3) := by decide +kernel
theorem dX12_mate_18 : decode cX12_mate 18 = .ok (.iconst 0, 1) := by decide +kernel
theorem dX12_mate_19 : decode cX12_mate 19 = .ok (.ireturn, 1) := by decide +kernel
theorem dX12_mate_20 : decode cX12_mate 20 = .ok (.aload_n 0, 1) := by decide +kernel
theorem dX12_mate_21 : decode cX12_mate 21 = .ok (.invokevirtual 439, 3) := by decide +kernel
theorem dX12_mate_24 : decode cX12_mate 24 = .ok (.aload_n 0, 1) := by decide +kernel
theorem dX12_mate_25 : decode cX12_mate 25 = .ok (.getfield 57, 3) := by decide +kernel
theorem dX12_mate_28 : decode cX12_mate 28 = .ok (.iload_n 1, 1) := by decide +kernel
theorem dX12_mate_29 : decode cX12_mate 29 = .ok (.iaload, 1) := by decide +kernel
theorem dX12_mate_30 : decode cX12_mate 30 = .ok (.ireturn, 1) := by decide +kernel
theorem dX12_nextOf_0 : decode cX12_nextOf 0 = .ok (.iconst (-1), 1) := by decide +kernel
theorem dX12_nextOf_1 : decode cX12_nextOf 1 = .ok (.istore_n 2, 1) := by decide +kernel
theorem dX12_nextOf_2 : decode cX12_nextOf 2 = .ok (.iconst 0, 1) := by decide +kernel
theorem dX12_nextOf_3 : decode cX12_nextOf 3 = .ok (.istore_n 3, 1) := by decide +kernel
theorem dX12_nextOf_4 : decode cX12_nextOf 4 = .ok (.iload_n 3, 1) := by decide +kernel
theorem dX12_nextOf_5 : decode cX12_nextOf 5 = .ok (.aload_n 0, 1) := by decide +kernel
theorem dX12_nextOf_6 : decode cX12_nextOf 6 = .ok (.invokevirtual 78, 3) := by decide +kernel
theorem dX12_nextOf_9 : decode cX12_nextOf 9 = .ok (.if_icmp .ge 53, 3) := by decide +kernel
theorem dX12_nextOf_12 : decode cX12_nextOf 12 = .ok (.aload_n 0, 1) := by decide +kernel
theorem dX12_nextOf_13 : decode cX12_nextOf 13 = .ok (.iload_n 1, 1) := by decide +kernel
theorem dX12_nextOf_14 : decode cX12_nextOf 14 = .ok (.iload_n 3, 1) := by decide +kernel
theorem dX12_nextOf_15 : decode cX12_nextOf 15 = .ok (.invokevirtual 426, 3) := by decide +kernel
theorem dX12_nextOf_18 : decode cX12_nextOf 18 = .ok (.ifCond .eq 38, 3) := by decide +kernel
theorem dX12_nextOf_21 : decode cX12_nextOf 21 = .ok (.aload_n 0, 1) := by decide +kernel
theorem dX12_nextOf_22 : decode cX12_nextOf 22 = .ok (.getfield 60, 3) := by decide +kernel
theorem dX12_nextOf_25 : decode cX12_nextOf 25 = .ok (.iload_n 1, 1) := by decide +kernel
theorem dX12_nextOf_26 : decode cX12_nextOf 26 = .ok (.iaload, 1) := by decide +kernel
theorem dX12_nextOf_27 : decode cX12_nextOf 27 = .ok (.iload_n 3, 1) := by decide +kernel
theorem dX12_nextOf_28 : decode cX12_nextOf 28 = .ok (.invokestatic 89, 3) := by decide +kernel
theorem dX12_nextOf_31 : decode cX12_nextOf 31 = .ok (.ifCond .ne 25, 3) := by decide +kernel
theorem dX12_nextOf_34 : decode cX12_nextOf 34 = .ok (.iload_n 2, 1) := by decide +kernel
theorem dX12_nextOf_35 : decode cX12_nextOf 35 = .ok (.iconst (-1), 1) := by decide +kernel
theorem dX12_nextOf_36 : decode cX12_nextOf 36 = .ok (.if_icmp .eq 18, 3) := by decide +kernel
theorem dX12_nextOf_39 : decode cX12_nextOf 39 = .ok (.aload_n 0, 1) := by decide +kernel
theorem dX12_nextOf_40 : decode cX12_nextOf 40 = .ok (.iload_n 1, 1) := by decide +kernel
theorem dX12_nextOf_41 : decode cX12_nextOf 41 = .ok (.iload_n 3, 1) := by decide +kernel
theorem dX12_nextOf_42 : decode cX12_nextOf 42 = .ok (.invokevirtual 343, 3) := by decide +kernel
theorem dX12_nextOf_45 : decode cX12_nextOf 45 = .ok (.aload_n 0, 1) := by decide +kernel
theorem dX12_nextOf_46 : decode cX12_nextOf 46 = .ok (.iload_n 1, 1) := by decide +kernel
theorem dX12_nextOf_47 : decode cX12_nextOf 47 = .ok (.iload_n 2, 1) := by decide +kernel
theorem dX12_nextOf_48 : decode cX12_nextOf 48 = .ok (.invokevirtual 343, 3) := by decide +kernel
theorem dX12_nextOf_51 : decode cX12_nextOf 51 = .ok (.if_icmp .ge 5, 3) := by decide +kernel
theorem dX12_nextOf_54 : decode cX12_nextOf 54 = .ok (.iload_n 3, 1) := by decide +kernel
theorem dX12_nextOf_55 : decode cX12_nextOf 55 = .ok (.istore_n 2, 1) := by decide +kernel
theorem dX12_nextOf_56 : decode cX12_nextOf 56 = .ok (.iinc 3 1, 3) := by decide +kernel
theorem dX12_nextOf_59 : decode cX12_nextOf 59 = .ok (.goto (-55), 3) := by decide +kernel
theorem dX12_nextOf_62 : decode cX12_nextOf 62 = .ok (.iload_n 2, 1) := by decide +kernel
theorem dX12_nextOf_63 : decode cX12_nextOf 63 = .ok (.ireturn, 1) := by decide +kernel
theorem dX12_wouldRather_0 : decode cX12_wouldRather 0 = .ok (.aload_n 0, 1) := by decide +kernel
theorem dX12_wouldRather_1 : decode cX12_wouldRather 1 = .ok (.getfield 57, 3) := by decide +kernel
theorem dX12_wouldRather_4 : decode cX12_wouldRather 4 = .ok (.iload_n 1, 1) := by decide +kernel
theorem dX12_wouldRather_5 : decode cX12_wouldRather 5 = .ok (.iaload, 1) := by decide +kernel
theorem dX12_wouldRather_6 : decode cX12_wouldRather 6 = .ok (.iconst (-1), 1) := by decide +kernel
theorem dX12_wouldRather_7 : decode cX12_wouldRather 7 = .ok (.if_icmp .ne 5, 3) := by decide +kernel
theorem dX12_wouldRather_10 : decode cX12_wouldRather 10 = .ok (.iconst 1, 1) := by decide +kernel
theorem dX12_wouldRather_11 : decode cX12_wouldRather 11 = .ok (.ireturn, 1) := by decide +kernel
theorem dX12_wouldRather_12 : decode cX12_wouldRather 12 = .ok (.aload_n 0, 1) := by decide +kernel
theorem dX12_wouldRather_13 : decode cX12_wouldRather 13 = .ok (.iload_n 1, 1) := by decide +kernel
theorem dX12_wouldRather_14 : decode cX12_wouldRather 14 = .ok (.iload_n 2, 1) := by decide +kernel
theorem dX12_wouldRather_15 : decode cX12_wouldRather 15 = .ok (.invokevirtual 343, 3) := by decide +kernel
theorem dX12_wouldRather_18 : decode cX12_wouldRather 18 = .ok (.aload_n 0, 1) := by decide +kernel
theorem dX12_wouldRather_19 : decode cX12_wouldRather 19 = .ok (.iload_n 1, 1) := by decide +kernel
theorem dX12_wouldRather_20 : decode cX12_wouldRather 20 = .ok (.aload_n 0, 1) := by decide +kernel
theorem dX12_wouldRather_21 : decode cX12_wouldRather 21 = .ok (.getfield 57, 3) := by decide +kernel
theorem dX12_wouldRather_24 : decode cX12_wouldRather 24 = .ok (.iload_n 1, 1) := by decide +kernel
theorem dX12_wouldRather_25 : decode cX12_wouldRather 25 = .ok (.iaload, 1) := by decide +kernel
theorem dX12_wouldRather_26 : decode cX12_wouldRather 26 = .ok (.invokevirtual 343, 3) := by decide +kernel
theorem dX12_wouldRather_29 : decode cX12_wouldRather 29 = .ok (.isub, 1) := by decide +kernel
theorem dX12_wouldRather_30 : decode cX12_wouldRather 30 = .ok (.istore_n 3, 1) := by decide +kernel
theorem dX12_wouldRather_31 : decode cX12_wouldRather 31 = .ok (.iload_n 3, 1) := by decide +kernel
theorem dX12_wouldRather_32 : decode cX12_wouldRather 32 = .ok (.ifCond .lt 17, 3) := by decide +kernel
theorem dX12_wouldRather_35 : decode cX12_wouldRather 35 = .ok (.iload_n 3, 1) := by decide +kernel
theorem dX12_wouldRather_36 : decode cX12_wouldRather 36 = .ok (.ifCond .ne 17, 3) := by decide +kernel
theorem dX12_wouldRather_39 : decode cX12_wouldRather 39 = .ok (.iload_n 2, 1) := by decide +kernel
theorem dX12_wouldRather_40 : decode cX12_wouldRather 40 = .ok (.aload_n 0, 1) := by decide +kernel
theorem dX12_wouldRather_41 : decode cX12_wouldRather 41 = .ok (.getfield 57, 3) := by decide +kernel
theorem dX12_wouldRather_44 : decode cX12_wouldRather 44 = .ok (.iload_n 1, 1) := by decide +kernel
theorem dX12_wouldRather_45 : decode cX12_wouldRather 45 = .ok (.iaload, 1) := by decide +kernel
theorem dX12_wouldRather_46 : decode cX12_wouldRather 46 = .ok (.if_icmp .ge 7, 3) := by decide +kernel
theorem dX12_wouldRather_49 : decode cX12_wouldRather 49 = .ok (.iconst 1, 1) := by decide +kernel
theorem dX12_wouldRather_50 : decode cX12_wouldRather 50 = .ok (.goto 4, 3) := by decide +kernel
theorem dX12_wouldRather_53 : decode cX12_wouldRather 53 = .ok (.iconst 0, 1) := by decide +kernel
theorem dX12_wouldRather_54 : decode cX12_wouldRather 54 = .ok (.ireturn, 1) := by decide +kernel
theorem dX12_asks_0 : decode cX12_asks 0 = .ok (.aload_n 0, 1) := by decide +kernel
theorem dX12_asks_1 : decode cX12_asks 1 = .ok (.iload_n 1, 1) := by decide +kernel
theorem dX12_asks_2 : decode cX12_asks 2 = .ok (.invokevirtual 442, 3) := by decide +kernel
theorem dX12_asks_5 : decode cX12_asks 5 = .ok (.istore_n 2, 1) := by decide +kernel
theorem dX12_asks_6 : decode cX12_asks 6 = .ok (.iload_n 2, 1) := by decide +kernel
theorem dX12_asks_7 : decode cX12_asks 7 = .ok (.iconst (-1), 1) := by decide +kernel
theorem dX12_asks_8 : decode cX12_asks 8 = .ok (.if_icmp .ne 4, 3) := by decide +kernel
theorem dX12_asks_11 : decode cX12_asks 11 = .ok (.return_, 1) := by decide +kernel
theorem dX12_asks_12 : decode cX12_asks 12 = .ok (.aload_n 0, 1) := by decide +kernel
theorem dX12_asks_13 : decode cX12_asks 13 = .ok (.iload_n 2, 1) := by decide +kernel
theorem dX12_asks_14 : decode cX12_asks 14 = .ok (.iload_n 1, 1) := by decide +kernel
theorem dX12_asks_15 : decode cX12_asks 15 = .ok (.invokevirtual 445, 3) := by decide +kernel
theorem dX12_asks_18 : decode cX12_asks 18 = .ok (.ifCond .ne 16, 3) := by decide +kernel
theorem dX12_asks_21 : decode cX12_asks 21 = .ok (.aload_n 0, 1) := by decide +kernel
theorem dX12_asks_22 : decode cX12_asks 22 = .ok (.getfield 60, 3) := by decide +kernel
theorem dX12_asks_25 : decode cX12_asks 25 = .ok (.iload_n 1, 1) := by decide +kernel
theorem dX12_asks_26 : decode cX12_asks 26 = .ok (.dup2, 1) := by decide +kernel
theorem dX12_asks_27 : decode cX12_asks 27 = .ok (.iaload, 1) := by decide +kernel
theorem dX12_asks_28 : decode cX12_asks 28 = .ok (.iconst 1, 1) := by decide +kernel
theorem dX12_asks_29 : decode cX12_asks 29 = .ok (.iload_n 2, 1) := by decide +kernel
theorem dX12_asks_30 : decode cX12_asks 30 = .ok (.ishl, 1) := by decide +kernel
theorem dX12_asks_31 : decode cX12_asks 31 = .ok (.ior, 1) := by decide +kernel
theorem dX12_asks_32 : decode cX12_asks 32 = .ok (.iastore, 1) := by decide +kernel
theorem dX12_asks_33 : decode cX12_asks 33 = .ok (.return_, 1) := by decide +kernel
theorem dX12_asks_34 : decode cX12_asks 34 = .ok (.aload_n 0, 1) := by decide +kernel
theorem dX12_asks_35 : decode cX12_asks 35 = .ok (.getfield 57, 3) := by decide +kernel
theorem dX12_asks_38 : decode cX12_asks 38 = .ok (.iload_n 2, 1) := by decide +kernel
theorem dX12_asks_39 : decode cX12_asks 39 = .ok (.iaload, 1) := by decide +kernel
theorem dX12_asks_40 : decode cX12_asks 40 = .ok (.istore_n 3, 1) := by decide +kernel
theorem dX12_asks_41 : decode cX12_asks 41 = .ok (.iload_n 3, 1) := by decide +kernel
theorem dX12_asks_42 : decode cX12_asks 42 = .ok (.iconst (-1), 1) := by decide +kernel
theorem dX12_asks_43 : decode cX12_asks 43 = .ok (.if_icmp .eq 22, 3) := by decide +kernel
theorem dX12_asks_46 : decode cX12_asks 46 = .ok (.aload_n 0, 1) := by decide +kernel
theorem dX12_asks_47 : decode cX12_asks 47 = .ok (.getfield 57, 3) := by decide +kernel
theorem dX12_asks_50 : decode cX12_asks 50 = .ok (.iload_n 3, 1) := by decide +kernel
theorem dX12_asks_51 : decode cX12_asks 51 = .ok (.iconst (-1), 1) := by decide +kernel
theorem dX12_asks_52 : decode cX12_asks 52 = .ok (.iastore, 1) := by decide +kernel
theorem dX12_asks_53 : decode cX12_asks 53 = .ok (.aload_n 0, 1) := by decide +kernel
theorem dX12_asks_54 : decode cX12_asks 54 = .ok (.getfield 60, 3) := by decide +kernel
theorem dX12_asks_57 : decode cX12_asks 57 = .ok (.iload_n 3, 1) := by decide +kernel
theorem dX12_asks_58 : decode cX12_asks 58 = .ok (.dup2, 1) := by decide +kernel
theorem dX12_asks_59 : decode cX12_asks 59 = .ok (.iaload, 1) := by decide +kernel
theorem dX12_asks_60 : decode cX12_asks 60 = .ok (.iconst 1, 1) := by decide +kernel
theorem dX12_asks_61 : decode cX12_asks 61 = .ok (.iload_n 2, 1) := by decide +kernel
theorem dX12_asks_62 : decode cX12_asks 62 = .ok (.ishl, 1) := by decide +kernel
theorem dX12_asks_63 : decode cX12_asks 63 = .ok (.ior, 1) := by decide +kernel
theorem dX12_asks_64 : decode cX12_asks 64 = .ok (.iastore, 1) := by decide +kernel
theorem dX12_asks_65 : decode cX12_asks 65 = .ok (.aload_n 0, 1) := by decide +kernel
theorem dX12_asks_66 : decode cX12_asks 66 = .ok (.getfield 57, 3) := by decide +kernel
theorem dX12_asks_69 : decode cX12_asks 69 = .ok (.iload_n 2, 1) := by decide +kernel
theorem dX12_asks_70 : decode cX12_asks 70 = .ok (.iload_n 1, 1) := by decide +kernel
theorem dX12_asks_71 : decode cX12_asks 71 = .ok (.iastore, 1) := by decide +kernel
theorem dX12_asks_72 : decode cX12_asks 72 = .ok (.aload_n 0, 1) := by decide +kernel
theorem dX12_asks_73 : decode cX12_asks 73 = .ok (.getfield 57, 3) := by decide +kernel
theorem dX12_asks_76 : decode cX12_asks 76 = .ok (.iload_n 1, 1) := by decide +kernel
theorem dX12_asks_77 : decode cX12_asks 77 = .ok (.iload_n 2, 1) := by decide +kernel
theorem dX12_asks_78 : decode cX12_asks 78 = .ok (.iastore, 1) := by decide +kernel
theorem dX12_asks_79 : decode cX12_asks 79 = .ok (.return_, 1) := by decide +kernel
theorem dX12_stable_0 : decode cX12_stable 0 = .ok (.aload_n 0, 1) := by decide +kernel
theorem dX12_stable_1 : decode cX12_stable 1 = .ok (.iconst 0, 1) := by decide +kernel
theorem dX12_stable_2 : decode cX12_stable 2 = .ok (.putfield 3, 3) := by decide +kernel
theorem dX12_stable_5 : decode cX12_stable 5 = .ok (.aload_n 0, 1) := by decide +kernel
theorem dX12_stable_6 : decode cX12_stable 6 = .ok (.aload_n 0, 1) := by decide +kernel
theorem dX12_stable_7 : decode cX12_stable 7 = .ok (.iload_n 1, 1) := by decide +kernel
theorem dX12_stable_8 : decode cX12_stable 8 = .ok (.invokevirtual 331, 3) := by decide +kernel
theorem dX12_stable_11 : decode cX12_stable 11 = .ok (.iconst 1, 1) := by decide +kernel
theorem dX12_stable_12 : decode cX12_stable 12 = .ok (.invokevirtual 291, 3) := by decide +kernel
theorem dX12_stable_15 : decode cX12_stable 15 = .ok (.ifCond .eq 5, 3) := by decide +kernel
theorem dX12_stable_18 : decode cX12_stable 18 = .ok (.iconst 0, 1) := by decide +kernel
theorem dX12_stable_19 : decode cX12_stable 19 = .ok (.ireturn, 1) := by decide +kernel
theorem dX12_stable_20 : decode cX12_stable 20 = .ok (.aload_n 0, 1) := by decide +kernel
theorem dX12_stable_21 : decode cX12_stable 21 = .ok (.invokevirtual 436, 3) := by decide +kernel
theorem dX12_stable_24 : decode cX12_stable 24 = .ok (.iconst 0, 1) := by decide +kernel
theorem dX12_stable_25 : decode cX12_stable 25 = .ok (.istore_n 2, 1) := by decide +kernel
theorem dX12_stable_26 : decode cX12_stable 26 = .ok (.iload_n 2, 1) := by decide +kernel
theorem dX12_stable_27 : decode cX12_stable 27 = .ok (.bipush 8, 2) := by decide +kernel
theorem dX12_stable_29 : decode cX12_stable 29 = .ok (.if_icmp .ge 16, 3) := by decide +kernel
theorem dX12_stable_32 : decode cX12_stable 32 = .ok (.aload_n 0, 1) := by decide +kernel
theorem dX12_stable_33 : decode cX12_stable 33 = .ok (.getfield 60, 3) := by decide +kernel
theorem dX12_stable_36 : decode cX12_stable 36 = .ok (.iload_n 2, 1) := by decide +kernel
theorem dX12_stable_37 : decode cX12_stable 37 = .ok (.iconst 0, 1) := by decide +kernel
theorem dX12_stable_38 : decode cX12_stable 38 = .ok (.iastore, 1) := by decide +kernel
theorem dX12_stable_39 : decode cX12_stable 39 = .ok (.iinc 2 1, 3) := by decide +kernel
theorem dX12_stable_42 : decode cX12_stable 42 = .ok (.goto (-16), 3) := by decide +kernel
theorem dX12_stable_45 : decode cX12_stable 45 = .ok (.iconst 0, 1) := by decide +kernel
theorem dX12_stable_46 : decode cX12_stable 46 = .ok (.istore_n 2, 1) := by decide +kernel
theorem dX12_stable_47 : decode cX12_stable 47 = .ok (.iload_n 2, 1) := by decide +kernel
theorem dX12_stable_48 : decode cX12_stable 48 = .ok (.bipush 64, 2) := by decide +kernel
theorem dX12_stable_50 : decode cX12_stable 50 = .ok (.if_icmp .ge 48, 3) := by decide +kernel
theorem dX12_stable_53 : decode cX12_stable 53 = .ok (.iconst 0, 1) := by decide +kernel
theorem dX12_stable_54 : decode cX12_stable 54 = .ok (.istore_n 3, 1) := by decide +kernel
theorem dX12_stable_55 : decode cX12_stable 55 = .ok (.iload_n 3, 1) := by decide +kernel
theorem dX12_stable_56 : decode cX12_stable 56 = .ok (.aload_n 0, 1) := by decide +kernel
theorem dX12_stable_57 : decode cX12_stable 57 = .ok (.invokevirtual 78, 3) := by decide +kernel
theorem dX12_stable_60 : decode cX12_stable 60 = .ok (.if_icmp .ge 32, 3) := by decide +kernel
theorem dX12_stable_63 : decode cX12_stable 63 = .ok (.aload_n 0, 1) := by decide +kernel
theorem dX12_stable_64 : decode cX12_stable 64 = .ok (.iload_n 3, 1) := by decide +kernel
theorem dX12_stable_65 : decode cX12_stable 65 = .ok (.invokevirtual 358, 3) := by decide +kernel
theorem dX12_stable_68 : decode cX12_stable 68 = .ok (.ifCond .eq 18, 3) := by decide +kernel
theorem dX12_stable_71 : decode cX12_stable 71 = .ok (.aload_n 0, 1) := by decide +kernel
theorem dX12_stable_72 : decode cX12_stable 72 = .ok (.getfield 57, 3) := by decide +kernel
theorem dX12_stable_75 : decode cX12_stable 75 = .ok (.iload_n 3, 1) := by decide +kernel
theorem dX12_stable_76 : decode cX12_stable 76 = .ok (.iaload, 1) := by decide +kernel
theorem dX12_stable_77 : decode cX12_stable 77 = .ok (.iconst (-1), 1) := by decide +kernel
theorem dX12_stable_78 : decode cX12_stable 78 = .ok (.if_icmp .ne 8, 3) := by decide +kernel
theorem dX12_stable_81 : decode cX12_stable 81 = .ok (.aload_n 0, 1) := by decide +kernel
theorem dX12_stable_82 : decode cX12_stable 82 = .ok (.iload_n 3, 1) := by decide +kernel
theorem dX12_stable_83 : decode cX12_stable 83 = .ok (.invokevirtual 448, 3) := by decide +kernel
theorem dX12_stable_86 : decode cX12_stable 86 = .ok (.iinc 3 1, 3) := by decide +kernel
theorem dX12_stable_89 : decode cX12_stable 89 = .ok (.goto (-34), 3) := by decide +kernel
theorem dX12_stable_92 : decode cX12_stable 92 = .ok (.iinc 2 1, 3) := by decide +kernel
theorem dX12_stable_95 : decode cX12_stable 95 = .ok (.goto (-48), 3) := by decide +kernel
theorem dX12_stable_98 : decode cX12_stable 98 = .ok (.aload_n 0, 1) := by decide +kernel
theorem dX12_stable_99 : decode cX12_stable 99 = .ok (.getfield 57, 3) := by decide +kernel
theorem dX12_stable_102 : decode cX12_stable 102 = .ok (.iload_n 1, 1) := by decide +kernel
theorem dX12_stable_103 : decode cX12_stable 103 = .ok (.iaload, 1) := by decide +kernel
theorem dX12_stable_104 : decode cX12_stable 104 = .ok (.ireturn, 1) := by decide +kernel
theorem dX12_wouldRun_0 : decode cX12_wouldRun 0 = .ok (.aload_n 0, 1) := by decide +kernel
theorem dX12_wouldRun_1 : decode cX12_wouldRun 1 = .ok (.iload_n 1, 1) := by decide +kernel
theorem dX12_wouldRun_2 : decode cX12_wouldRun 2 = .ok (.invokevirtual 166, 3) := by decide +kernel
theorem dX12_wouldRun_5 : decode cX12_wouldRun 5 = .ok (.ifCond .ne 23, 3) := by decide +kernel
theorem dX12_wouldRun_8 : decode cX12_wouldRun 8 = .ok (.aload_n 0, 1) := by decide +kernel
theorem dX12_wouldRun_9 : decode cX12_wouldRun 9 = .ok (.iload_n 1, 1) := by decide +kernel
theorem dX12_wouldRun_10 : decode cX12_wouldRun 10 = .ok (.iload_n 2, 1) := by decide +kernel
theorem dX12_wouldRun_11 : decode cX12_wouldRun 11 = .ok (.invokevirtual 343, 3) := by decide +kernel
theorem dX12_wouldRun_14 : decode cX12_wouldRun 14 = .ok (.aload_n 0, 1) := by decide +kernel
theorem dX12_wouldRun_15 : decode cX12_wouldRun 15 = .ok (.iload_n 1, 1) := by decide +kernel
theorem dX12_wouldRun_16 : decode cX12_wouldRun 16 = .ok (.aload_n 0, 1) := by decide +kernel
theorem dX12_wouldRun_17 : decode cX12_wouldRun 17 = .ok (.iload_n 1, 1) := by decide +kernel
theorem dX12_wouldRun_18 : decode cX12_wouldRun 18 = .ok (.iconst 4, 1) := by decide +kernel
theorem dX12_wouldRun_19 : decode cX12_wouldRun 19 = .ok (.invokevirtual 86, 3) := by decide +kernel
theorem dX12_wouldRun_22 : decode cX12_wouldRun 22 = .ok (.invokevirtual 343, 3) := by decide +kernel
theorem dX12_wouldRun_25 : decode cX12_wouldRun 25 = .ok (.if_icmp .ge 7, 3) := by decide +kernel
theorem dX12_wouldRun_28 : decode cX12_wouldRun 28 = .ok (.iconst 1, 1) := by decide +kernel
theorem dX12_wouldRun_29 : decode cX12_wouldRun 29 = .ok (.goto 4, 3) := by decide +kernel
theorem dX12_wouldRun_32 : decode cX12_wouldRun 32 = .ok (.iconst 0, 1) := by decide +kernel
theorem dX12_wouldRun_33 : decode cX12_wouldRun 33 = .ok (.ireturn, 1) := by decide +kernel
theorem dX12_runs_0 : decode cX12_runs 0 = .ok (.aload_n 0, 1) := by decide +kernel
theorem dX12_runs_1 : decode cX12_runs 1 = .ok (.iconst 0, 1) := by decide +kernel
theorem dX12_runs_2 : decode cX12_runs 2 = .ok (.putfield 3, 3) := by decide +kernel
theorem dX12_runs_5 : decode cX12_runs 5 = .ok (.iconst 0, 1) := by decide +kernel
theorem dX12_runs_6 : decode cX12_runs 6 = .ok (.istore_n 1, 1) := by decide +kernel
theorem dX12_runs_7 : decode cX12_runs 7 = .ok (.iconst 0, 1) := by decide +kernel
theorem dX12_runs_8 : decode cX12_runs 8 = .ok (.istore_n 2, 1) := by decide +kernel
theorem dX12_runs_9 : decode cX12_runs 9 = .ok (.iload_n 2, 1) := by decide +kernel
theorem dX12_runs_10 : decode cX12_runs 10 = .ok (.aload_n 0, 1) := by decide +kernel
theorem dX12_runs_11 : decode cX12_runs 11 = .ok (.invokevirtual 78, 3) := by decide +kernel
theorem dX12_runs_14 : decode cX12_runs 14 = .ok (.if_icmp .ge 86, 3) := by decide +kernel
theorem dX12_runs_17 : decode cX12_runs 17 = .ok (.iconst 0, 1) := by decide +kernel
theorem dX12_runs_18 : decode cX12_runs 18 = .ok (.istore_n 3, 1) := by decide +kernel
theorem dX12_runs_19 : decode cX12_runs 19 = .ok (.iload_n 3, 1) := by decide +kernel
theorem dX12_runs_20 : decode cX12_runs 20 = .ok (.aload_n 0, 1) := by decide +kernel
theorem dX12_runs_21 : decode cX12_runs 21 = .ok (.invokevirtual 78, 3) := by decide +kernel
theorem dX12_runs_24 : decode cX12_runs 24 = .ok (.if_icmp .ge 70, 3) := by decide +kernel
theorem dX12_runs_27 : decode cX12_runs 27 = .ok (.iload_n 1, 1) := by decide +kernel
theorem dX12_runs_28 : decode cX12_runs 28 = .ok (.aload_n 0, 1) := by decide +kernel
theorem dX12_runs_29 : decode cX12_runs 29 = .ok (.iload_n 2, 1) := by decide +kernel
theorem dX12_runs_30 : decode cX12_runs 30 = .ok (.invokevirtual 358, 3) := by decide +kernel
theorem dX12_runs_33 : decode cX12_runs 33 = .ok (.ifCond .eq 52, 3) := by decide +kernel
theorem dX12_runs_36 : decode cX12_runs 36 = .ok (.aload_n 0, 1) := by decide +kernel
theorem dX12_runs_37 : decode cX12_runs 37 = .ok (.iload_n 3, 1) := by decide +kernel
theorem dX12_runs_38 : decode cX12_runs 38 = .ok (.invokevirtual 358, 3) := by decide +kernel
theorem dX12_runs_41 : decode cX12_runs 41 = .ok (.ifCond .ne 44, 3) := by decide +kernel
theorem dX12_runs_44 : decode cX12_runs 44 = .ok (.aload_n 0, 1) := by decide +kernel
theorem dX12_runs_45 : decode cX12_runs 45 = .ok (.iload_n 2, 1) := by decide +kernel
theorem dX12_runs_46 : decode cX12_runs 46 = .ok (.iload_n 3, 1) := by decide +kernel
theorem dX12_runs_47 : decode cX12_runs 47 = .ok (.invokevirtual 170, 3) := by decide +kernel
theorem dX12_runs_50 : decode cX12_runs 50 = .ok (.ifCond .ne 35, 3) := by decide +kernel
theorem dX12_runs_53 : decode cX12_runs 53 = .ok (.aload_n 0, 1) := by decide +kernel
theorem dX12_runs_54 : decode cX12_runs 54 = .ok (.iload_n 2, 1) := by decide +kernel
theorem dX12_runs_55 : decode cX12_runs 55 = .ok (.iconst 4, 1) := by decide +kernel
theorem dX12_runs_56 : decode cX12_runs 56 = .ok (.invokevirtual 86, 3) := by decide +kernel
theorem dX12_runs_59 : decode cX12_runs 59 = .ok (.iload_n 3, 1) := by decide +kernel
theorem dX12_runs_60 : decode cX12_runs 60 = .ok (.if_icmp .eq 25, 3) := by decide +kernel
theorem dX12_runs_63 : decode cX12_runs 63 = .ok (.aload_n 0, 1) := by decide +kernel
theorem dX12_runs_64 : decode cX12_runs 64 = .ok (.iload_n 2, 1) := by decide +kernel
theorem dX12_runs_65 : decode cX12_runs 65 = .ok (.iload_n 3, 1) := by decide +kernel
theorem dX12_runs_66 : decode cX12_runs 66 = .ok (.invokevirtual 452, 3) := by decide +kernel
theorem dX12_runs_69 : decode cX12_runs 69 = .ok (.ifCond .eq 16, 3) := by decide +kernel
theorem dX12_runs_72 : decode cX12_runs 72 = .ok (.aload_n 0, 1) := by decide +kernel
theorem dX12_runs_73 : decode cX12_runs 73 = .ok (.iload_n 3, 1) := by decide +kernel
theorem dX12_runs_74 : decode cX12_runs 74 = .ok (.iload_n 2, 1) := by decide +kernel
theorem dX12_runs_75 : decode cX12_runs 75 = .ok (.invokevirtual 452, 3) := by decide +kernel
theorem dX12_runs_78 : decode cX12_runs 78 = .ok (.ifCond .eq 7, 3) := by decide +kernel
theorem dX12_runs_81 : decode cX12_runs 81 = .ok (.iconst 1, 1) := by decide +kernel
theorem dX12_runs_82 : decode cX12_runs 82 = .ok (.goto 4, 3) := by decide +kernel
theorem dX12_runs_85 : decode cX12_runs 85 = .ok (.iconst 0, 1) := by decide +kernel
theorem dX12_runs_86 : decode cX12_runs 86 = .ok (.iadd, 1) := by decide +kernel
theorem dX12_runs_87 : decode cX12_runs 87 = .ok (.istore_n 1, 1) := by decide +kernel
theorem dX12_runs_88 : decode cX12_runs 88 = .ok (.iinc 3 1, 3) := by decide +kernel
theorem dX12_runs_91 : decode cX12_runs 91 = .ok (.goto (-72), 3) := by decide +kernel
theorem dX12_runs_94 : decode cX12_runs 94 = .ok (.iinc 2 1, 3) := by decide +kernel
theorem dX12_runs_97 : decode cX12_runs 97 = .ok (.goto (-88), 3) := by decide +kernel
theorem dX12_runs_100 : decode cX12_runs 100 = .ok (.iload_n 1, 1) := by decide +kernel
theorem dX12_runs_101 : decode cX12_runs 101 = .ok (.ireturn, 1) := by decide +kernel
theorem dX12_owes_0 : decode cX12_owes 0 = .ok (.aload_n 0, 1) := by decide +kernel
theorem dX12_owes_1 : decode cX12_owes 1 = .ok (.iload_n 1, 1) := by decide +kernel
theorem dX12_owes_2 : decode cX12_owes 2 = .ok (.iload_n 2, 1) := by decide +kernel
theorem dX12_owes_3 : decode cX12_owes 3 = .ok (.invokevirtual 340, 3) := by decide +kernel
theorem dX12_owes_6 : decode cX12_owes 6 = .ok (.ifCond .eq 7, 3) := by decide +kernel
theorem dX12_owes_9 : decode cX12_owes 9 = .ok (.iconst 0, 1) := by decide +kernel
theorem dX12_owes_10 : decode cX12_owes 10 = .ok (.goto 26, 3) := by decide +kernel
theorem dX12_owes_13 : decode cX12_owes 13 = .ok (.iconst 0, 1) := by decide +kernel
theorem dX12_owes_14 : decode cX12_owes 14 = .ok (.aload_n 0, 1) := by decide +kernel
theorem dX12_owes_15 : decode cX12_owes 15 = .ok (.iload_n 2, 1) := by decide +kernel
theorem dX12_owes_16 : decode cX12_owes 16 = .ok (.bipush 9, 2) := by decide +kernel
theorem dX12_owes_18 : decode cX12_owes 18 = .ok (.iload_n 1, 1) := by decide +kernel
theorem dX12_owes_19 : decode cX12_owes 19 = .ok (.iadd, 1) := by decide +kernel
theorem dX12_owes_20 : decode cX12_owes 20 = .ok (.invokevirtual 86, 3) := by decide +kernel
theorem dX12_owes_23 : decode cX12_owes 23 = .ok (.aload_n 0, 1) := by decide +kernel
theorem dX12_owes_24 : decode cX12_owes 24 = .ok (.iload_n 1, 1) := by decide +kernel
theorem dX12_owes_25 : decode cX12_owes 25 = .ok (.bipush 9, 2) := by decide +kernel
theorem dX12_owes_27 : decode cX12_owes 27 = .ok (.iload_n 2, 1) := by decide +kernel
theorem dX12_owes_28 : decode cX12_owes 28 = .ok (.iadd, 1) := by decide +kernel
theorem dX12_owes_29 : decode cX12_owes 29 = .ok (.invokevirtual 86, 3) := by decide +kernel
theorem dX12_owes_32 : decode cX12_owes 32 = .ok (.isub, 1) := by decide +kernel
theorem dX12_owes_33 : decode cX12_owes 33 = .ok (.invokestatic 180, 3) := by decide +kernel
theorem dX12_owes_36 : decode cX12_owes 36 = .ok (.ireturn, 1) := by decide +kernel
theorem dX12_net_0 : decode cX12_net 0 = .ok (.aload_n 0, 1) := by decide +kernel
theorem dX12_net_1 : decode cX12_net 1 = .ok (.iconst 0, 1) := by decide +kernel
theorem dX12_net_2 : decode cX12_net 2 = .ok (.putfield 3, 3) := by decide +kernel
theorem dX12_net_5 : decode cX12_net 5 = .ok (.iconst 0, 1) := by decide +kernel
theorem dX12_net_6 : decode cX12_net 6 = .ok (.istore_n 1, 1) := by decide +kernel
theorem dX12_net_7 : decode cX12_net 7 = .ok (.iconst 0, 1) := by decide +kernel
theorem dX12_net_8 : decode cX12_net 8 = .ok (.istore_n 2, 1) := by decide +kernel
theorem dX12_net_9 : decode cX12_net 9 = .ok (.iload_n 2, 1) := by decide +kernel
theorem dX12_net_10 : decode cX12_net 10 = .ok (.aload_n 0, 1) := by decide +kernel
theorem dX12_net_11 : decode cX12_net 11 = .ok (.invokevirtual 78, 3) := by decide +kernel
theorem dX12_net_14 : decode cX12_net 14 = .ok (.if_icmp .ge 61, 3) := by decide +kernel
theorem dX12_net_17 : decode cX12_net 17 = .ok (.iconst 0, 1) := by decide +kernel
theorem dX12_net_18 : decode cX12_net 18 = .ok (.istore_n 3, 1) := by decide +kernel
theorem dX12_net_19 : decode cX12_net 19 = .ok (.iconst 0, 1) := by decide +kernel
theorem dX12_net_20 : decode cX12_net 20 = .ok (.istore 4, 2) := by decide +kernel
theorem dX12_net_22 : decode cX12_net 22 = .ok (.iload 4, 2) := by decide +kernel
theorem dX12_net_24 : decode cX12_net 24 = .ok (.aload_n 0, 1) := by decide +kernel
theorem dX12_net_25 : decode cX12_net 25 = .ok (.invokevirtual 78, 3) := by decide +kernel
theorem dX12_net_28 : decode cX12_net 28 = .ok (.if_icmp .ge 33, 3) := by decide +kernel
theorem dX12_net_31 : decode cX12_net 31 = .ok (.iload_n 3, 1) := by decide +kernel
theorem dX12_net_32 : decode cX12_net 32 = .ok (.aload_n 0, 1) := by decide +kernel
theorem dX12_net_33 : decode cX12_net 33 = .ok (.iload_n 2, 1) := by decide +kernel
theorem dX12_net_34 : decode cX12_net 34 = .ok (.bipush 9, 2) := by decide +kernel
theorem dX12_net_36 : decode cX12_net 36 = .ok (.iload 4, 2) := by decide +kernel
theorem dX12_net_38 : decode cX12_net 38 = .ok (.iadd, 1) := by decide +kernel
theorem dX12_net_39 : decode cX12_net 39 = .ok (.invokevirtual 86, 3) := by decide +kernel
theorem dX12_net_42 : decode cX12_net 42 = .ok (.aload_n 0, 1) := by decide +kernel
theorem dX12_net_43 : decode cX12_net 43 = .ok (.iload 4, 2) := by decide +kernel
theorem dX12_net_45 : decode cX12_net 45 = .ok (.bipush 9, 2) := by decide +kernel
theorem dX12_net_47 : decode cX12_net 47 = .ok (.iload_n 2, 1) := by decide +kernel
theorem dX12_net_48 : decode cX12_net 48 = .ok (.iadd, 1) := by decide +kernel
theorem dX12_net_49 : decode cX12_net 49 = .ok (.invokevirtual 86, 3) := by decide +kernel
theorem dX12_net_52 : decode cX12_net 52 = .ok (.isub, 1) := by decide +kernel
theorem dX12_net_53 : decode cX12_net 53 = .ok (.iadd, 1) := by decide +kernel
theorem dX12_net_54 : decode cX12_net 54 = .ok (.istore_n 3, 1) := by decide +kernel
theorem dX12_net_55 : decode cX12_net 55 = .ok (.iinc 4 1, 3) := by decide +kernel
theorem dX12_net_58 : decode cX12_net 58 = .ok (.goto (-36), 3) := by decide +kernel
theorem dX12_net_61 : decode cX12_net 61 = .ok (.iload_n 1, 1) := by decide +kernel
theorem dX12_net_62 : decode cX12_net 62 = .ok (.iconst 0, 1) := by decide +kernel
theorem dX12_net_63 : decode cX12_net 63 = .ok (.iload_n 3, 1) := by decide +kernel
theorem dX12_net_64 : decode cX12_net 64 = .ok (.invokestatic 180, 3) := by decide +kernel
theorem dX12_net_67 : decode cX12_net 67 = .ok (.iadd, 1) := by decide +kernel
theorem dX12_net_68 : decode cX12_net 68 = .ok (.istore_n 1, 1) := by decide +kernel
theorem dX12_net_69 : decode cX12_net 69 = .ok (.iinc 2 1, 3) := by decide +kernel
theorem dX12_net_72 : decode cX12_net 72 = .ok (.goto (-63), 3) := by decide +kernel
theorem dX12_net_75 : decode cX12_net 75 = .ok (.iload_n 1, 1) := by decide +kernel
theorem dX12_net_76 : decode cX12_net 76 = .ok (.ireturn, 1) := by decide +kernel
theorem dX12_lentBy_0 : decode cX12_lentBy 0 = .ok (.iconst 0, 1) := by decide +kernel
theorem dX12_lentBy_1 : decode cX12_lentBy 1 = .ok (.istore_n 2, 1) := by decide +kernel
theorem dX12_lentBy_2 : decode cX12_lentBy 2 = .ok (.iconst 0, 1) := by decide +kernel
theorem dX12_lentBy_3 : decode cX12_lentBy 3 = .ok (.istore_n 3, 1) := by decide +kernel
theorem dX12_lentBy_4 : decode cX12_lentBy 4 = .ok (.iload_n 3, 1) := by decide +kernel
theorem dX12_lentBy_5 : decode cX12_lentBy 5 = .ok (.aload_n 0, 1) := by decide +kernel
theorem dX12_lentBy_6 : decode cX12_lentBy 6 = .ok (.invokevirtual 78, 3) := by decide +kernel
theorem dX12_lentBy_9 : decode cX12_lentBy 9 = .ok (.if_icmp .ge 59, 3) := by decide +kernel
theorem dX12_lentBy_12 : decode cX12_lentBy 12 = .ok (.iconst 0, 1) := by decide +kernel
theorem dX12_lentBy_13 : decode cX12_lentBy 13 = .ok (.istore 4, 2) := by decide +kernel
theorem dX12_lentBy_15 : decode cX12_lentBy 15 = .ok (.iload 4, 2) := by decide +kernel
theorem dX12_lentBy_17 : decode cX12_lentBy 17 = .ok (.aload_n 0, 1) := by decide +kernel
theorem dX12_lentBy_18 : decode cX12_lentBy 18 = .ok (.invokevirtual 78, 3) := by decide +kernel
theorem dX12_lentBy_21 : decode cX12_lentBy 21 = .ok (.if_icmp .ge 41, 3) := by decide +kernel
theorem dX12_lentBy_24 : decode cX12_lentBy 24 = .ok (.iload_n 2, 1) := by decide +kernel
theorem dX12_lentBy_25 : decode cX12_lentBy 25 = .ok (.iload_n 1, 1) := by decide +kernel
theorem dX12_lentBy_26 : decode cX12_lentBy 26 = .ok (.iload_n 3, 1) := by decide +kernel
theorem dX12_lentBy_27 : decode cX12_lentBy 27 = .ok (.invokestatic 89, 3) := by decide +kernel
theorem dX12_lentBy_30 : decode cX12_lentBy 30 = .ok (.ifCond .eq 23, 3) := by decide +kernel
theorem dX12_lentBy_33 : decode cX12_lentBy 33 = .ok (.aload_n 0, 1) := by decide +kernel
theorem dX12_lentBy_34 : decode cX12_lentBy 34 = .ok (.iload_n 3, 1) := by decide +kernel
theorem dX12_lentBy_35 : decode cX12_lentBy 35 = .ok (.bipush 9, 2) := by decide +kernel
theorem dX12_lentBy_37 : decode cX12_lentBy 37 = .ok (.iload 4, 2) := by decide +kernel
theorem dX12_lentBy_39 : decode cX12_lentBy 39 = .ok (.iadd, 1) := by decide +kernel
theorem dX12_lentBy_40 : decode cX12_lentBy 40 = .ok (.invokevirtual 86, 3) := by decide +kernel
theorem dX12_lentBy_43 : decode cX12_lentBy 43 = .ok (.ifCond .le 10, 3) := by decide +kernel
theorem dX12_lentBy_46 : decode cX12_lentBy 46 = .ok (.iconst 1, 1) := by decide +kernel
theorem dX12_lentBy_47 : decode cX12_lentBy 47 = .ok (.iload 4, 2) := by decide +kernel
theorem dX12_lentBy_49 : decode cX12_lentBy 49 = .ok (.ishl, 1) := by decide +kernel
theorem dX12_lentBy_50 : decode cX12_lentBy 50 = .ok (.goto 4, 3) := by decide +kernel
theorem dX12_lentBy_53 : decode cX12_lentBy 53 = .ok (.iconst 0, 1) := by decide +kernel
theorem dX12_lentBy_54 : decode cX12_lentBy 54 = .ok (.ior, 1) := by decide +kernel
theorem dX12_lentBy_55 : decode cX12_lentBy 55 = .ok (.istore_n 2, 1) := by decide +kernel
theorem dX12_lentBy_56 : decode cX12_lentBy 56 = .ok (.iinc 4 1, 3) := by decide +kernel
theorem dX12_lentBy_59 : decode cX12_lentBy 59 = .ok (.goto (-44), 3) := by decide +kernel
theorem dX12_lentBy_62 : decode cX12_lentBy 62 = .ok (.iinc 3 1, 3) := by decide +kernel
theorem dX12_lentBy_65 : decode cX12_lentBy 65 = .ok (.goto (-61), 3) := by decide +kernel
theorem dX12_lentBy_68 : decode cX12_lentBy 68 = .ok (.iload_n 2, 1) := by decide +kernel
theorem dX12_lentBy_69 : decode cX12_lentBy 69 = .ok (.ireturn, 1) := by decide +kernel
theorem dX12_ring_0 : decode cX12_ring 0 = .ok (.aload_n 0, 1) := by decide +kernel
theorem dX12_ring_1 : decode cX12_ring 1 = .ok (.iconst 0, 1) := by decide +kernel
theorem dX12_ring_2 : decode cX12_ring 2 = .ok (.putfield 3, 3) := by decide +kernel
theorem dX12_ring_5 : decode cX12_ring 5 = .ok (.aload_n 0, 1) := by decide +kernel
theorem dX12_ring_6 : decode cX12_ring 6 = .ok (.aload_n 0, 1) := by decide +kernel
theorem dX12_ring_7 : decode cX12_ring 7 = .ok (.iload_n 1, 1) := by decide +kernel
theorem dX12_ring_8 : decode cX12_ring 8 = .ok (.invokevirtual 331, 3) := by decide +kernel
theorem dX12_ring_11 : decode cX12_ring 11 = .ok (.iconst 1, 1) := by decide +kernel
theorem dX12_ring_12 : decode cX12_ring 12 = .ok (.invokevirtual 291, 3) := by decide +kernel
theorem dX12_ring_15 : decode cX12_ring 15 = .ok (.ifCond .eq 5, 3) := by decide +kernel
theorem dX12_ring_18 : decode cX12_ring 18 = .ok (.iconst 0, 1) := by decide +kernel
theorem dX12_ring_19 : decode cX12_ring 19 = .ok (.ireturn, 1) := by decide +kernel
theorem dX12_ring_20 : decode cX12_ring 20 = .ok (.aload_n 0, 1) := by decide +kernel
theorem dX12_ring_21 : decode cX12_ring 21 = .ok (.iconst 1, 1) := by decide +kernel
theorem dX12_ring_22 : decode cX12_ring 22 = .ok (.iload_n 1, 1) := by decide +kernel
theorem dX12_ring_23 : decode cX12_ring 23 = .ok (.ishl, 1) := by decide +kernel
theorem dX12_ring_24 : decode cX12_ring 24 = .ok (.invokevirtual 455, 3) := by decide +kernel
theorem dX12_ring_27 : decode cX12_ring 27 = .ok (.istore_n 2, 1) := by decide +kernel
theorem dX12_ring_28 : decode cX12_ring 28 = .ok (.iconst 0, 1) := by decide +kernel
theorem dX12_ring_29 : decode cX12_ring 29 = .ok (.istore_n 3, 1) := by decide +kernel
theorem dX12_ring_30 : decode cX12_ring 30 = .ok (.iload_n 3, 1) := by decide +kernel
theorem dX12_ring_31 : decode cX12_ring 31 = .ok (.bipush 8, 2) := by decide +kernel
theorem dX12_ring_33 : decode cX12_ring 33 = .ok (.if_icmp .ge 17, 3) := by decide +kernel
theorem dX12_ring_36 : decode cX12_ring 36 = .ok (.iload_n 2, 1) := by decide +kernel
theorem dX12_ring_37 : decode cX12_ring 37 = .ok (.aload_n 0, 1) := by decide +kernel
theorem dX12_ring_38 : decode cX12_ring 38 = .ok (.iload_n 2, 1) := by decide +kernel
theorem dX12_ring_39 : decode cX12_ring 39 = .ok (.invokevirtual 455, 3) := by decide +kernel
theorem dX12_ring_42 : decode cX12_ring 42 = .ok (.ior, 1) := by decide +kernel
theorem dX12_ring_43 : decode cX12_ring 43 = .ok (.istore_n 2, 1) := by decide +kernel
theorem dX12_ring_44 : decode cX12_ring 44 = .ok (.iinc 3 1, 3) := by decide +kernel
theorem dX12_ring_47 : decode cX12_ring 47 = .ok (.goto (-17), 3) := by decide +kernel
theorem dX12_ring_50 : decode cX12_ring 50 = .ok (.iload_n 2, 1) := by decide +kernel
theorem dX12_ring_51 : decode cX12_ring 51 = .ok (.iload_n 1, 1) := by decide +kernel
theorem dX12_ring_52 : decode cX12_ring 52 = .ok (.invokestatic 89, 3) := by decide +kernel
theorem dX12_ring_55 : decode cX12_ring 55 = .ok (.ireturn, 1) := by decide +kernel
theorem dX12_rich_0 : decode cX12_rich 0 = .ok (.aload_n 0, 1) := by decide +kernel
theorem dX12_rich_1 : decode cX12_rich 1 = .ok (.iconst 0, 1) := by decide +kernel
theorem dX12_rich_2 : decode cX12_rich 2 = .ok (.putfield 3, 3) := by decide +kernel
theorem dX12_rich_5 : decode cX12_rich 5 = .ok (.iconst (-1), 1) := by decide +kernel
theorem dX12_rich_6 : decode cX12_rich 6 = .ok (.istore_n 1, 1) := by decide +kernel
theorem dX12_rich_7 : decode cX12_rich 7 = .ok (.iconst 0, 1) := by decide +kernel
theorem dX12_rich_8 : decode cX12_rich 8 = .ok (.istore_n 2, 1) := by decide +kernel
theorem dX12_rich_9 : decode cX12_rich 9 = .ok (.iload_n 2, 1) := by decide +kernel
theorem dX12_rich_10 : decode cX12_rich 10 = .ok (.aload_n 0, 1) := by decide +kernel
theorem dX12_rich_11 : decode cX12_rich 11 = .ok (.invokevirtual 78, 3) := by decide +kernel
theorem dX12_rich_14 : decode cX12_rich 14 = .ok (.if_icmp .ge 33, 3) := by decide +kernel
theorem dX12_rich_17 : decode cX12_rich 17 = .ok (.iload_n 1, 1) := by decide +kernel
theorem dX12_rich_18 : decode cX12_rich 18 = .ok (.iconst (-1), 1) := by decide +kernel
theorem dX12_rich_19 : decode cX12_rich 19 = .ok (.if_icmp .eq 20, 3) := by decide +kernel
theorem dX12_rich_22 : decode cX12_rich 22 = .ok (.aload_n 0, 1) := by decide +kernel
theorem dX12_rich_23 : decode cX12_rich 23 = .ok (.iload_n 2, 1) := by decide +kernel
theorem dX12_rich_24 : decode cX12_rich 24 = .ok (.bipush 7, 2) := by decide +kernel
theorem dX12_rich_26 : decode cX12_rich 26 = .ok (.invokevirtual 86, 3) := by decide +kernel
theorem dX12_rich_29 : decode cX12_rich 29 = .ok (.aload_n 0, 1) := by decide +kernel
theorem dX12_rich_30 : decode cX12_rich 30 = .ok (.iload_n 1, 1) := by decide +kernel
theorem dX12_rich_31 : decode cX12_rich 31 = .ok (.bipush 7, 2) := by decide +kernel
theorem dX12_rich_33 : decode cX12_rich 33 = .ok (.invokevirtual 86, 3) := by decide +kernel
theorem dX12_rich_36 : decode cX12_rich 36 = .ok (.if_icmp .le 5, 3) := by decide +kernel
theorem dX12_rich_39 : decode cX12_rich 39 = .ok (.iload_n 2, 1) := by decide +kernel
theorem dX12_rich_40 : decode cX12_rich 40 = .ok (.istore_n 1, 1) := by decide +kernel
theorem dX12_rich_41 : decode cX12_rich 41 = .ok (.iinc 2 1, 3) := by decide +kernel
theorem dX12_rich_44 : decode cX12_rich 44 = .ok (.goto (-35), 3) := by decide +kernel
theorem dX12_rich_47 : decode cX12_rich 47 = .ok (.iload_n 1, 1) := by decide +kernel
theorem dX12_rich_48 : decode cX12_rich 48 = .ok (.ireturn, 1) := by decide +kernel
theorem dX12_elderHas_0 : decode cX12_elderHas 0 = .ok (.iload_n 3, 1) := by decide +kernel
theorem dX12_elderHas_1 : decode cX12_elderHas 1 = .ok (.iconst 1, 1) := by decide +kernel
theorem dX12_elderHas_2 : decode cX12_elderHas 2 = .ok (.if_icmp .ne 5, 3) := by decide +kernel
theorem dX12_elderHas_5 : decode cX12_elderHas 5 = .ok (.iload_n 2, 1) := by decide +kernel
theorem dX12_elderHas_6 : decode cX12_elderHas 6 = .ok (.ireturn, 1) := by decide +kernel
theorem dX12_elderHas_7 : decode cX12_elderHas 7 = .ok (.iload_n 2, 1) := by decide +kernel
theorem dX12_elderHas_8 : decode cX12_elderHas 8 = .ok (.iconst 1, 1) := by decide +kernel
theorem dX12_elderHas_9 : decode cX12_elderHas 9 = .ok (.if_icmp .ne 7, 3) := by decide +kernel
theorem dX12_elderHas_12 : decode cX12_elderHas 12 = .ok (.iconst (-1), 1) := by decide +kernel
theorem dX12_elderHas_13 : decode cX12_elderHas 13 = .ok (.goto 13, 3) := by decide +kernel
theorem dX12_elderHas_16 : decode cX12_elderHas 16 = .ok (.aload_n 0, 1) := by decide +kernel
theorem dX12_elderHas_17 : decode cX12_elderHas 17 = .ok (.iload_n 1, 1) := by decide +kernel
theorem dX12_elderHas_18 : decode cX12_elderHas 18 = .ok (.bipush 6, 2) := by decide +kernel
theorem dX12_elderHas_20 : decode cX12_elderHas 20 = .ok (.invokevirtual 86, 3) := by decide +kernel
theorem dX12_elderHas_23 : decode cX12_elderHas 23 = .ok (.bipush 10, 2) := by decide +kernel
theorem dX12_elderHas_25 : decode cX12_elderHas 25 = .ok (.idiv, 1) := by decide +kernel
theorem dX12_elderHas_26 : decode cX12_elderHas 26 = .ok (.ireturn, 1) := by decide +kernel
theorem dX12_childHas_0 : decode cX12_childHas 0 = .ok (.iload 4, 2) := by decide +kernel
theorem dX12_childHas_2 : decode cX12_childHas 2 = .ok (.iconst 1, 1) := by decide +kernel
theorem dX12_childHas_3 : decode cX12_childHas 3 = .ok (.if_icmp .ne 5, 3) := by decide +kernel
theorem dX12_childHas_6 : decode cX12_childHas 6 = .ok (.iconst 0, 1) := by decide +kernel
theorem dX12_childHas_7 : decode cX12_childHas 7 = .ok (.ireturn, 1) := by decide +kernel
theorem dX12_childHas_8 : decode cX12_childHas 8 = .ok (.iload_n 3, 1) := by decide +kernel
theorem dX12_childHas_9 : decode cX12_childHas 9 = .ok (.iconst 1, 1) := by decide +kernel
theorem dX12_childHas_10 : decode cX12_childHas 10 = .ok (.if_icmp .ne 13, 3) := by decide +kernel
theorem dX12_childHas_13 : decode cX12_childHas 13 = .ok (.aload_n 0, 1) := by decide +kernel
theorem dX12_childHas_14 : decode cX12_childHas 14 = .ok (.iload_n 1, 1) := by decide +kernel
theorem dX12_childHas_15 : decode cX12_childHas 15 = .ok (.iload_n 2, 1) := by decide +kernel
theorem dX12_childHas_16 : decode cX12_childHas 16 = .ok (.iconst 1, 1) := by decide +kernel
theorem dX12_childHas_17 : decode cX12_childHas 17 = .ok (.invokevirtual 308, 3) := by decide +kernel
theorem dX12_childHas_20 : decode cX12_childHas 20 = .ok (.goto 11, 3) := by decide +kernel
theorem dX12_childHas_23 : decode cX12_childHas 23 = .ok (.aload_n 0, 1) := by decide +kernel
theorem dX12_childHas_24 : decode cX12_childHas 24 = .ok (.iload_n 1, 1) := by decide +kernel
theorem dX12_childHas_25 : decode cX12_childHas 25 = .ok (.iload_n 2, 1) := by decide +kernel
theorem dX12_childHas_26 : decode cX12_childHas 26 = .ok (.iconst 0, 1) := by decide +kernel
theorem dX12_childHas_27 : decode cX12_childHas 27 = .ok (.invokevirtual 308, 3) := by decide +kernel
theorem dX12_childHas_30 : decode cX12_childHas 30 = .ok (.ineg, 1) := by decide +kernel
theorem dX12_childHas_31 : decode cX12_childHas 31 = .ok (.ireturn, 1) := by decide +kernel
theorem dX12_rests_0 : decode cX12_rests 0 = .ok (.aload_n 0, 1) := by decide +kernel
theorem dX12_rests_1 : decode cX12_rests 1 = .ok (.iload_n 1, 1) := by decide +kernel
theorem dX12_rests_2 : decode cX12_rests 2 = .ok (.iload_n 2, 1) := by decide +kernel
theorem dX12_rests_3 : decode cX12_rests 3 = .ok (.invokevirtual 340, 3) := by decide +kernel
theorem dX12_rests_6 : decode cX12_rests 6 = .ok (.ifCond .ne 25, 3) := by decide +kernel
theorem dX12_rests_9 : decode cX12_rests 9 = .ok (.aload_n 0, 1) := by decide +kernel
theorem dX12_rests_10 : decode cX12_rests 10 = .ok (.aload_n 0, 1) := by decide +kernel
theorem dX12_rests_11 : decode cX12_rests 11 = .ok (.iload_n 1, 1) := by decide +kernel
theorem dX12_rests_12 : decode cX12_rests 12 = .ok (.iload_n 2, 1) := by decide +kernel
theorem dX12_rests_13 : decode cX12_rests 13 = .ok (.invokevirtual 326, 3) := by decide +kernel
theorem dX12_rests_16 : decode cX12_rests 16 = .ok (.ifCond .ne 7, 3) := by decide +kernel
theorem dX12_rests_19 : decode cX12_rests 19 = .ok (.iconst 1, 1) := by decide +kernel
theorem dX12_rests_20 : decode cX12_rests 20 = .ok (.goto 4, 3) := by decide +kernel
theorem dX12_rests_23 : decode cX12_rests 23 = .ok (.iconst 0, 1) := by decide +kernel
theorem dX12_rests_24 : decode cX12_rests 24 = .ok (.iconst 3, 1) := by decide +kernel
theorem dX12_rests_25 : decode cX12_rests 25 = .ok (.invokevirtual 291, 3) := by decide +kernel
theorem dX12_rests_28 : decode cX12_rests 28 = .ok (.ifCond .eq 5, 3) := by decide +kernel
theorem dX12_rests_31 : decode cX12_rests 31 = .ok (.iconst 0, 1) := by decide +kernel
theorem dX12_rests_32 : decode cX12_rests 32 = .ok (.ireturn, 1) := by decide +kernel
theorem dX12_rests_33 : decode cX12_rests 33 = .ok (.iconst 0, 1) := by decide +kernel
theorem dX12_rests_34 : decode cX12_rests 34 = .ok (.istore_n 3, 1) := by decide +kernel
theorem dX12_rests_35 : decode cX12_rests 35 = .ok (.iconst 0, 1) := by decide +kernel
theorem dX12_rests_36 : decode cX12_rests 36 = .ok (.istore 4, 2) := by decide +kernel
theorem dX12_rests_38 : decode cX12_rests 38 = .ok (.iload 4, 2) := by decide +kernel
theorem dX12_rests_40 : decode cX12_rests 40 = .ok (.iconst 2, 1) := by decide +kernel
theorem dX12_rests_41 : decode cX12_rests 41 = .ok (.if_icmp .ge 100, 3) := by decide +kernel
theorem dX12_rests_44 : decode cX12_rests 44 = .ok (.iconst 0, 1) := by decide +kernel
theorem dX12_rests_45 : decode cX12_rests 45 = .ok (.istore 5, 2) := by decide +kernel
theorem dX12_rests_47 : decode cX12_rests 47 = .ok (.iload 5, 2) := by decide +kernel
theorem dX12_rests_49 : decode cX12_rests 49 = .ok (.iconst 2, 1) := by decide +kernel
theorem dX12_rests_50 : decode cX12_rests 50 = .ok (.if_icmp .ge 85, 3) := by decide +kernel
theorem dX12_rests_53 : decode cX12_rests 53 = .ok (.aload_n 0, 1) := by decide +kernel
theorem dX12_rests_54 : decode cX12_rests 54 = .ok (.iload_n 1, 1) := by decide +kernel
theorem dX12_rests_55 : decode cX12_rests 55 = .ok (.iload 4, 2) := by decide +kernel
theorem dX12_rests_57 : decode cX12_rests 57 = .ok (.iload 5, 2) := by decide +kernel
theorem dX12_rests_59 : decode cX12_rests 59 = .ok (.invokevirtual 458, 3) := by decide +kernel
theorem dX12_rests_62 : decode cX12_rests 62 = .ok (.aload_n 0, 1) := by decide +kernel
theorem dX12_rests_63 : decode cX12_rests 63 = .ok (.iload_n 1, 1) := by decide +kernel
theorem dX12_rests_64 : decode cX12_rests 64 = .ok (.iconst 1, 1) := by decide +kernel
theorem dX12_rests_65 : decode cX12_rests 65 = .ok (.iload 4, 2) := by decide +kernel
theorem dX12_rests_67 : decode cX12_rests 67 = .ok (.isub, 1) := by decide +kernel
theorem dX12_rests_68 : decode cX12_rests 68 = .ok (.iload 5, 2) := by decide +kernel
theorem dX12_rests_70 : decode cX12_rests 70 = .ok (.invokevirtual 458, 3) := by decide +kernel
theorem dX12_rests_73 : decode cX12_rests 73 = .ok (.if_icmp .lt 32, 3) := by decide +kernel
theorem dX12_rests_76 : decode cX12_rests 76 = .ok (.aload_n 0, 1) := by decide +kernel
theorem dX12_rests_77 : decode cX12_rests 77 = .ok (.iload_n 1, 1) := by decide +kernel
theorem dX12_rests_78 : decode cX12_rests 78 = .ok (.iload_n 2, 1) := by decide +kernel
theorem dX12_rests_79 : decode cX12_rests 79 = .ok (.iload 4, 2) := by decide +kernel
theorem dX12_rests_81 : decode cX12_rests 81 = .ok (.iload 5, 2) := by decide +kernel
theorem dX12_rests_83 : decode cX12_rests 83 = .ok (.invokevirtual 461, 3) := by decide +kernel
theorem dX12_rests_86 : decode cX12_rests 86 = .ok (.aload_n 0, 1) := by decide +kernel
theorem dX12_rests_87 : decode cX12_rests 87 = .ok (.iload_n 1, 1) := by decide +kernel
theorem dX12_rests_88 : decode cX12_rests 88 = .ok (.iload_n 2, 1) := by decide +kernel
theorem dX12_rests_89 : decode cX12_rests 89 = .ok (.iload 4, 2) := by decide +kernel
theorem dX12_rests_91 : decode cX12_rests 91 = .ok (.iconst 1, 1) := by decide +kernel
theorem dX12_rests_92 : decode cX12_rests 92 = .ok (.iload 5, 2) := by decide +kernel
theorem dX12_rests_94 : decode cX12_rests 94 = .ok (.isub, 1) := by decide +kernel
theorem dX12_rests_95 : decode cX12_rests 95 = .ok (.invokevirtual 461, 3) := by decide +kernel
theorem dX12_rests_98 : decode cX12_rests 98 = .ok (.if_icmp .lt 7, 3) := by decide +kernel
theorem dX12_rests_101 : decode cX12_rests 101 = .ok (.iconst 1, 1) := by decide +kernel
theorem dX12_rests_102 : decode cX12_rests 102 = .ok (.goto 4, 3) := by decide +kernel
theorem dX12_rests_105 : decode cX12_rests 105 = .ok (.iconst 0, 1) := by decide +kernel
theorem dX12_rests_106 : decode cX12_rests 106 = .ok (.istore 6, 2) := by decide +kernel
theorem dX12_rests_108 : decode cX12_rests 108 = .ok (.iload_n 3, 1) := by decide +kernel
theorem dX12_rests_109 : decode cX12_rests 109 = .ok (.iload 6, 2) := by decide +kernel
theorem dX12_rests_111 : decode cX12_rests 111 = .ok (.ifCond .eq 15, 3) := by decide +kernel
theorem dX12_rests_114 : decode cX12_rests 114 = .ok (.iconst 1, 1) := by decide +kernel
theorem dX12_rests_115 : decode cX12_rests 115 = .ok (.iconst 2, 1) := by decide +kernel
theorem dX12_rests_116 : decode cX12_rests 116 = .ok (.iload 4, 2) := by decide +kernel
theorem dX12_rests_118 : decode cX12_rests 118 = .ok (.imul, 1) := by decide +kernel
theorem dX12_rests_119 : decode cX12_rests 119 = .ok (.iload 5, 2) := by decide +kernel
theorem dX12_rests_121 : decode cX12_rests 121 = .ok (.iadd, 1) := by decide +kernel
theorem dX12_rests_122 : decode cX12_rests 122 = .ok (.ishl, 1) := by decide +kernel
theorem dX12_rests_123 : decode cX12_rests 123 = .ok (.goto 4, 3) := by decide +kernel
theorem dX12_rests_126 : decode cX12_rests 126 = .ok (.iconst 0, 1) := by decide +kernel
theorem dX12_rests_127 : decode cX12_rests 127 = .ok (.ior, 1) := by decide +kernel
theorem dX12_rests_128 : decode cX12_rests 128 = .ok (.istore_n 3, 1) := by decide +kernel
theorem dX12_rests_129 : decode cX12_rests 129 = .ok (.iinc 5 1, 3) := by decide +kernel
theorem dX12_rests_132 : decode cX12_rests 132 = .ok (.goto (-85), 3) := by decide +kernel
theorem dX12_rests_135 : decode cX12_rests 135 = .ok (.iinc 4 1, 3) := by decide +kernel
theorem dX12_rests_138 : decode cX12_rests 138 = .ok (.goto (-100), 3) := by decide +kernel
theorem dX12_rests_141 : decode cX12_rests 141 = .ok (.iload_n 3, 1) := by decide +kernel
theorem dX12_rests_142 : decode cX12_rests 142 = .ok (.ireturn, 1) := by decide +kernel
theorem dX12_branchOf_0 : decode cX12_branchOf 0 = .ok (.iconst 1, 1) := by decide +kernel
theorem dX12_branchOf_1 : decode cX12_branchOf 1 = .ok (.iload_n 1, 1) := by decide +kernel
theorem dX12_branchOf_2 : decode cX12_branchOf 2 = .ok (.ishl, 1) := by decide +kernel
theorem dX12_branchOf_3 : decode cX12_branchOf 3 = .ok (.istore_n 2, 1) := by decide +kernel
theorem dX12_branchOf_4 : decode cX12_branchOf 4 = .ok (.iconst 0, 1) := by decide +kernel
theorem dX12_branchOf_5 : decode cX12_branchOf 5 = .ok (.istore_n 3, 1) := by decide +kernel
theorem dX12_branchOf_6 : decode cX12_branchOf 6 = .ok (.iload_n 3, 1) := by decide +kernel
theorem dX12_branchOf_7 : decode cX12_branchOf 7 = .ok (.aload_n 0, 1) := by decide +kernel
theorem dX12_branchOf_8 : decode cX12_branchOf 8 = .ok (.invokevirtual 78, 3) := by decide +kernel
theorem dX12_branchOf_11 : decode cX12_branchOf 11 = .ok (.if_icmp .ge 38, 3) := by decide +kernel
theorem dX12_branchOf_14 : decode cX12_branchOf 14 = .ok (.aload_n 0, 1) := by decide +kernel
theorem dX12_branchOf_15 : decode cX12_branchOf 15 = .ok (.iload_n 3, 1) := by decide +kernel
theorem dX12_branchOf_16 : decode cX12_branchOf 16 = .ok (.iconst 3, 1) := by decide +kernel
theorem dX12_branchOf_17 : decode cX12_branchOf 17 = .ok (.invokevirtual 86, 3) := by decide +kernel
theorem dX12_branchOf_20 : decode cX12_branchOf 20 = .ok (.iconst (-1), 1) := by decide +kernel
theorem dX12_branchOf_21 : decode cX12_branchOf 21 = .ok (.if_icmp .eq 22, 3) := by decide +kernel
theorem dX12_branchOf_24 : decode cX12_branchOf 24 = .ok (.iload_n 2, 1) := by decide +kernel
theorem dX12_branchOf_25 : decode cX12_branchOf 25 = .ok (.aload_n 0, 1) := by decide +kernel
theorem dX12_branchOf_26 : decode cX12_branchOf 26 = .ok (.iload_n 3, 1) := by decide +kernel
theorem dX12_branchOf_27 : decode cX12_branchOf 27 = .ok (.iconst 3, 1) := by decide +kernel
theorem dX12_branchOf_28 : decode cX12_branchOf 28 = .ok (.invokevirtual 86, 3) := by decide +kernel
theorem dX12_branchOf_31 : decode cX12_branchOf 31 = .ok (.invokestatic 89, 3) := by decide +kernel
theorem dX12_branchOf_34 : decode cX12_branchOf 34 = .ok (.ifCond .eq 9, 3) := by decide +kernel
theorem dX12_branchOf_37 : decode cX12_branchOf 37 = .ok (.iload_n 2, 1) := by decide +kernel
theorem dX12_branchOf_38 : decode cX12_branchOf 38 = .ok (.iconst 1, 1) := by decide +kernel
theorem dX12_branchOf_39 : decode cX12_branchOf 39 = .ok (.iload_n 3, 1) := by decide +kernel
theorem dX12_branchOf_40 : decode cX12_branchOf 40 = .ok (.ishl, 1) := by decide +kernel
theorem dX12_branchOf_41 : decode cX12_branchOf 41 = .ok (.ior, 1) := by decide +kernel
theorem dX12_branchOf_42 : decode cX12_branchOf 42 = .ok (.istore_n 2, 1) := by decide +kernel
theorem dX12_branchOf_43 : decode cX12_branchOf 43 = .ok (.iinc 3 1, 3) := by decide +kernel
theorem dX12_branchOf_46 : decode cX12_branchOf 46 = .ok (.goto (-40), 3) := by decide +kernel
theorem dX12_branchOf_49 : decode cX12_branchOf 49 = .ok (.iload_n 2, 1) := by decide +kernel
theorem dX12_branchOf_50 : decode cX12_branchOf 50 = .ok (.ireturn, 1) := by decide +kernel
theorem dX12_branch_0 : decode cX12_branch 0 = .ok (.aload_n 0, 1) := by decide +kernel
theorem dX12_branch_1 : decode cX12_branch 1 = .ok (.iconst 0, 1) := by decide +kernel
theorem dX12_branch_2 : decode cX12_branch 2 = .ok (.putfield 3, 3) := by decide +kernel
theorem dX12_branch_5 : decode cX12_branch 5 = .ok (.aload_n 0, 1) := by decide +kernel
theorem dX12_branch_6 : decode cX12_branch 6 = .ok (.aload_n 0, 1) := by decide +kernel
theorem dX12_branch_7 : decode cX12_branch 7 = .ok (.iload_n 1, 1) := by decide +kernel
theorem dX12_branch_8 : decode cX12_branch 8 = .ok (.invokevirtual 331, 3) := by decide +kernel
theorem dX12_branch_11 : decode cX12_branch 11 = .ok (.iconst 1, 1) := by decide +kernel
theorem dX12_branch_12 : decode cX12_branch 12 = .ok (.invokevirtual 291, 3) := by decide +kernel
theorem dX12_branch_15 : decode cX12_branch 15 = .ok (.ifCond .eq 7, 3) := by decide +kernel
theorem dX12_branch_18 : decode cX12_branch 18 = .ok (.iconst 0, 1) := by decide +kernel
theorem dX12_branch_19 : decode cX12_branch 19 = .ok (.goto 8, 3) := by decide +kernel
theorem dX12_branch_22 : decode cX12_branch 22 = .ok (.aload_n 0, 1) := by decide +kernel
theorem dX12_branch_23 : decode cX12_branch 23 = .ok (.iload_n 1, 1) := by decide +kernel
theorem dX12_branch_24 : decode cX12_branch 24 = .ok (.invokevirtual 464, 3) := by decide +kernel
theorem dX12_branch_27 : decode cX12_branch 27 = .ok (.ireturn, 1) := by decide +kernel
theorem dX12_agesOf_0 : decode cX12_agesOf 0 = .ok (.iconst 0, 1) := by decide +kernel
theorem dX12_agesOf_1 : decode cX12_agesOf 1 = .ok (.istore_n 2, 1) := by decide +kernel
theorem dX12_agesOf_2 : decode cX12_agesOf 2 = .ok (.iconst 0, 1) := by decide +kernel
theorem dX12_agesOf_3 : decode cX12_agesOf 3 = .ok (.istore_n 3, 1) := by decide +kernel
theorem dX12_agesOf_4 : decode cX12_agesOf 4 = .ok (.iload_n 3, 1) := by decide +kernel
theorem dX12_agesOf_5 : decode cX12_agesOf 5 = .ok (.aload_n 0, 1) := by decide +kernel
theorem dX12_agesOf_6 : decode cX12_agesOf 6 = .ok (.invokevirtual 78, 3) := by decide +kernel
theorem dX12_agesOf_9 : decode cX12_agesOf 9 = .ok (.if_icmp .ge 30, 3) := by decide +kernel
theorem dX12_agesOf_12 : decode cX12_agesOf 12 = .ok (.iload_n 2, 1) := by decide +kernel
theorem dX12_agesOf_13 : decode cX12_agesOf 13 = .ok (.iload_n 1, 1) := by decide +kernel
theorem dX12_agesOf_14 : decode cX12_agesOf 14 = .ok (.iload_n 3, 1) := by decide +kernel
theorem dX12_agesOf_15 : decode cX12_agesOf 15 = .ok (.invokestatic 89, 3) := by decide +kernel
theorem dX12_agesOf_18 : decode cX12_agesOf 18 = .ok (.ifCond .eq 12, 3) := by decide +kernel
theorem dX12_agesOf_21 : decode cX12_agesOf 21 = .ok (.aload_n 0, 1) := by decide +kernel
theorem dX12_agesOf_22 : decode cX12_agesOf 22 = .ok (.iload_n 3, 1) := by decide +kernel
theorem dX12_agesOf_23 : decode cX12_agesOf 23 = .ok (.iconst 0, 1) := by decide +kernel
theorem dX12_agesOf_24 : decode cX12_agesOf 24 = .ok (.invokevirtual 86, 3) := by decide +kernel
theorem dX12_agesOf_27 : decode cX12_agesOf 27 = .ok (.goto 4, 3) := by decide +kernel
theorem dX12_agesOf_30 : decode cX12_agesOf 30 = .ok (.iconst 0, 1) := by decide +kernel
theorem dX12_agesOf_31 : decode cX12_agesOf 31 = .ok (.iadd, 1) := by decide +kernel
theorem dX12_agesOf_32 : decode cX12_agesOf 32 = .ok (.istore_n 2, 1) := by decide +kernel
theorem dX12_agesOf_33 : decode cX12_agesOf 33 = .ok (.iinc 3 1, 3) := by decide +kernel
theorem dX12_agesOf_36 : decode cX12_agesOf 36 = .ok (.goto (-32), 3) := by decide +kernel
theorem dX12_agesOf_39 : decode cX12_agesOf 39 = .ok (.iload_n 2, 1) := by decide +kernel
theorem dX12_agesOf_40 : decode cX12_agesOf 40 = .ok (.ireturn, 1) := by decide +kernel
theorem dX12_senior_0 : decode cX12_senior 0 = .ok (.aload_n 0, 1) := by decide +kernel
theorem dX12_senior_1 : decode cX12_senior 1 = .ok (.iconst 0, 1) := by decide +kernel
theorem dX12_senior_2 : decode cX12_senior 2 = .ok (.putfield 3, 3) := by decide +kernel
theorem dX12_senior_5 : decode cX12_senior 5 = .ok (.iconst (-1), 1) := by decide +kernel
theorem dX12_senior_6 : decode cX12_senior 6 = .ok (.istore_n 1, 1) := by decide +kernel
theorem dX12_senior_7 : decode cX12_senior 7 = .ok (.iconst 0, 1) := by decide +kernel
theorem dX12_senior_8 : decode cX12_senior 8 = .ok (.istore_n 2, 1) := by decide +kernel
theorem dX12_senior_9 : decode cX12_senior 9 = .ok (.iload_n 2, 1) := by decide +kernel
theorem dX12_senior_10 : decode cX12_senior 10 = .ok (.aload_n 0, 1) := by decide +kernel
theorem dX12_senior_11 : decode cX12_senior 11 = .ok (.invokevirtual 78, 3) := by decide +kernel
theorem dX12_senior_14 : decode cX12_senior 14 = .ok (.if_icmp .ge 47, 3) := by decide +kernel
theorem dX12_senior_17 : decode cX12_senior 17 = .ok (.aload_n 0, 1) := by decide +kernel
theorem dX12_senior_18 : decode cX12_senior 18 = .ok (.iload_n 2, 1) := by decide +kernel
theorem dX12_senior_19 : decode cX12_senior 19 = .ok (.iconst 3, 1) := by decide +kernel
theorem dX12_senior_20 : decode cX12_senior 20 = .ok (.invokevirtual 86, 3) := by decide +kernel
theorem dX12_senior_23 : decode cX12_senior 23 = .ok (.iconst (-1), 1) := by decide +kernel
theorem dX12_senior_24 : decode cX12_senior 24 = .ok (.if_icmp .ne 31, 3) := by decide +kernel
theorem dX12_senior_27 : decode cX12_senior 27 = .ok (.iload_n 1, 1) := by decide +kernel
theorem dX12_senior_28 : decode cX12_senior 28 = .ok (.iconst (-1), 1) := by decide +kernel
theorem dX12_senior_29 : decode cX12_senior 29 = .ok (.if_icmp .eq 24, 3) := by decide +kernel
theorem dX12_senior_32 : decode cX12_senior 32 = .ok (.aload_n 0, 1) := by decide +kernel
theorem dX12_senior_33 : decode cX12_senior 33 = .ok (.aload_n 0, 1) := by decide +kernel
theorem dX12_senior_34 : decode cX12_senior 34 = .ok (.iload_n 2, 1) := by decide +kernel
theorem dX12_senior_35 : decode cX12_senior 35 = .ok (.invokevirtual 464, 3) := by decide +kernel
theorem dX12_senior_38 : decode cX12_senior 38 = .ok (.invokevirtual 467, 3) := by decide +kernel
theorem dX12_senior_41 : decode cX12_senior 41 = .ok (.aload_n 0, 1) := by decide +kernel
theorem dX12_senior_42 : decode cX12_senior 42 = .ok (.aload_n 0, 1) := by decide +kernel
theorem dX12_senior_43 : decode cX12_senior 43 = .ok (.iload_n 1, 1) := by decide +kernel
theorem dX12_senior_44 : decode cX12_senior 44 = .ok (.invokevirtual 464, 3) := by decide +kernel
theorem dX12_senior_47 : decode cX12_senior 47 = .ok (.invokevirtual 467, 3) := by decide +kernel
theorem dX12_senior_50 : decode cX12_senior 50 = .ok (.if_icmp .ge 5, 3) := by decide +kernel
theorem dX12_senior_53 : decode cX12_senior 53 = .ok (.iload_n 2, 1) := by decide +kernel
theorem dX12_senior_54 : decode cX12_senior 54 = .ok (.istore_n 1, 1) := by decide +kernel
theorem dX12_senior_55 : decode cX12_senior 55 = .ok (.iinc 2 1, 3) := by decide +kernel
theorem dX12_senior_58 : decode cX12_senior 58 = .ok (.goto (-49), 3) := by decide +kernel
theorem dX12_senior_61 : decode cX12_senior 61 = .ok (.iload_n 1, 1) := by decide +kernel
theorem dX12_senior_62 : decode cX12_senior 62 = .ok (.ireturn, 1) := by decide +kernel
theorem dX12_closeTo_0 : decode cX12_closeTo 0 = .ok (.iload_n 1, 1) := by decide +kernel
theorem dX12_closeTo_1 : decode cX12_closeTo 1 = .ok (.istore_n 2, 1) := by decide +kernel
theorem dX12_closeTo_2 : decode cX12_closeTo 2 = .ok (.iconst 0, 1) := by decide +kernel
theorem dX12_closeTo_3 : decode cX12_closeTo 3 = .ok (.istore_n 3, 1) := by decide +kernel
theorem dX12_closeTo_4 : decode cX12_closeTo 4 = .ok (.iload_n 3, 1) := by decide +kernel
theorem dX12_closeTo_5 : decode cX12_closeTo 5 = .ok (.aload_n 0, 1) := by decide +kernel
theorem dX12_closeTo_6 : decode cX12_closeTo 6 = .ok (.invokevirtual 78, 3) := by decide +kernel
theorem dX12_closeTo_9 : decode cX12_closeTo 9 = .ok (.if_icmp .ge 56, 3) := by decide +kernel
theorem dX12_closeTo_12 : decode cX12_closeTo 12 = .ok (.iconst 0, 1) := by decide +kernel
theorem dX12_closeTo_13 : decode cX12_closeTo 13 = .ok (.istore 4, 2) := by decide +kernel
theorem dX12_closeTo_15 : decode cX12_closeTo 15 = .ok (.iload 4, 2) := by decide +kernel
theorem dX12_closeTo_17 : decode cX12_closeTo 17 = .ok (.aload_n 0, 1) := by decide +kernel
theorem dX12_closeTo_18 : decode cX12_closeTo 18 = .ok (.invokevirtual 78, 3) := by decide +kernel
theorem dX12_closeTo_21 : decode cX12_closeTo 21 = .ok (.if_icmp .ge 38, 3) := by decide +kernel
theorem dX12_closeTo_24 : decode cX12_closeTo 24 = .ok (.iload_n 2, 1) := by decide +kernel
theorem dX12_closeTo_25 : decode cX12_closeTo 25 = .ok (.iload_n 1, 1) := by decide +kernel
theorem dX12_closeTo_26 : decode cX12_closeTo 26 = .ok (.iload_n 3, 1) := by decide +kernel
theorem dX12_closeTo_27 : decode cX12_closeTo 27 = .ok (.invokestatic 89, 3) := by decide +kernel
theorem dX12_closeTo_30 : decode cX12_closeTo 30 = .ok (.ifCond .eq 20, 3) := by decide +kernel
theorem dX12_closeTo_33 : decode cX12_closeTo 33 = .ok (.aload_n 0, 1) := by decide +kernel
theorem dX12_closeTo_34 : decode cX12_closeTo 34 = .ok (.iload_n 3, 1) := by decide +kernel
theorem dX12_closeTo_35 : decode cX12_closeTo 35 = .ok (.iload 4, 2) := by decide +kernel
theorem dX12_closeTo_37 : decode cX12_closeTo 37 = .ok (.invokevirtual 170, 3) := by decide +kernel
theorem dX12_closeTo_40 : decode cX12_closeTo 40 = .ok (.ifCond .eq 10, 3) := by decide +kernel
theorem dX12_closeTo_43 : decode cX12_closeTo 43 = .ok (.iconst 1, 1) := by decide +kernel
theorem dX12_closeTo_44 : decode cX12_closeTo 44 = .ok (.iload 4, 2) := by decide +kernel
theorem dX12_closeTo_46 : decode cX12_closeTo 46 = .ok (.ishl, 1) := by decide +kernel
theorem dX12_closeTo_47 : decode cX12_closeTo 47 = .ok (.goto 4, 3) := by decide +kernel
theorem dX12_closeTo_50 : decode cX12_closeTo 50 = .ok (.iconst 0, 1) := by decide +kernel
theorem dX12_closeTo_51 : decode cX12_closeTo 51 = .ok (.ior, 1) := by decide +kernel
theorem dX12_closeTo_52 : decode cX12_closeTo 52 = .ok (.istore_n 2, 1) := by decide +kernel
theorem dX12_closeTo_53 : decode cX12_closeTo 53 = .ok (.iinc 4 1, 3) := by decide +kernel
theorem dX12_closeTo_56 : decode cX12_closeTo 56 = .ok (.goto (-41), 3) := by decide +kernel
theorem dX12_closeTo_59 : decode cX12_closeTo 59 = .ok (.iinc 3 1, 3) := by decide +kernel
theorem dX12_closeTo_62 : decode cX12_closeTo 62 = .ok (.goto (-58), 3) := by decide +kernel
theorem dX12_closeTo_65 : decode cX12_closeTo 65 = .ok (.iload_n 2, 1) := by decide +kernel
theorem dX12_closeTo_66 : decode cX12_closeTo 66 = .ok (.ireturn, 1) := by decide +kernel
theorem dX12_kin_0 : decode cX12_kin 0 = .ok (.aload_n 0, 1) := by decide +kernel
theorem dX12_kin_1 : decode cX12_kin 1 = .ok (.iload_n 1, 1) := by decide +kernel
theorem dX12_kin_2 : decode cX12_kin 2 = .ok (.iload_n 2, 1) := by decide +kernel
theorem dX12_kin_3 : decode cX12_kin 3 = .ok (.invokevirtual 340, 3) := by decide +kernel
theorem dX12_kin_6 : decode cX12_kin 6 = .ok (.ifCond .eq 5, 3) := by decide +kernel
theorem dX12_kin_9 : decode cX12_kin 9 = .ok (.iconst 0, 1) := by decide +kernel
theorem dX12_kin_10 : decode cX12_kin 10 = .ok (.ireturn, 1) := by decide +kernel
theorem dX12_kin_11 : decode cX12_kin 11 = .ok (.iconst 1, 1) := by decide +kernel
theorem dX12_kin_12 : decode cX12_kin 12 = .ok (.iload_n 1, 1) := by decide +kernel
theorem dX12_kin_13 : decode cX12_kin 13 = .ok (.ishl, 1) := by decide +kernel
theorem dX12_kin_14 : decode cX12_kin 14 = .ok (.istore_n 3, 1) := by decide +kernel
theorem dX12_kin_15 : decode cX12_kin 15 = .ok (.iconst 0, 1) := by decide +kernel
theorem dX12_kin_16 : decode cX12_kin 16 = .ok (.istore 4, 2) := by decide +kernel
theorem dX12_kin_18 : decode cX12_kin 18 = .ok (.iload 4, 2) := by decide +kernel
theorem dX12_kin_20 : decode cX12_kin 20 = .ok (.bipush 8, 2) := by decide +kernel
theorem dX12_kin_22 : decode cX12_kin 22 = .ok (.if_icmp .ge 26, 3) := by decide +kernel
theorem dX12_kin_25 : decode cX12_kin 25 = .ok (.iload_n 3, 1) := by decide +kernel
theorem dX12_kin_26 : decode cX12_kin 26 = .ok (.iload_n 2, 1) := by decide +kernel
theorem dX12_kin_27 : decode cX12_kin 27 = .ok (.invokestatic 89, 3) := by decide +kernel
theorem dX12_kin_30 : decode cX12_kin 30 = .ok (.ifCond .eq 6, 3) := by decide +kernel
theorem dX12_kin_33 : decode cX12_kin 33 = .ok (.iload 4, 2) := by decide +kernel
theorem dX12_kin_35 : decode cX12_kin 35 = .ok (.ireturn, 1) := by decide +kernel
theorem dX12_kin_36 : decode cX12_kin 36 = .ok (.aload_n 0, 1) := by decide +kernel
theorem dX12_kin_37 : decode cX12_kin 37 = .ok (.iload_n 3, 1) := by decide +kernel
theorem dX12_kin_38 : decode cX12_kin 38 = .ok (.invokevirtual 470, 3) := by decide +kernel
theorem dX12_kin_41 : decode cX12_kin 41 = .ok (.istore_n 3, 1) := by decide +kernel
theorem dX12_kin_42 : decode cX12_kin 42 = .ok (.iinc 4 1, 3) := by decide +kernel
theorem dX12_kin_45 : decode cX12_kin 45 = .ok (.goto (-27), 3) := by decide +kernel
theorem dX12_kin_48 : decode cX12_kin 48 = .ok (.iconst (-1), 1) := by decide +kernel
theorem dX12_kin_49 : decode cX12_kin 49 = .ok (.ireturn, 1) := by decide +kernel
theorem dX12_grandOf_0 : decode cX12_grandOf 0 = .ok (.aload_n 0, 1) := by decide +kernel
theorem dX12_grandOf_1 : decode cX12_grandOf 1 = .ok (.iload_n 1, 1) := by decide +kernel
theorem dX12_grandOf_2 : decode cX12_grandOf 2 = .ok (.iconst 3, 1) := by decide +kernel
theorem dX12_grandOf_3 : decode cX12_grandOf 3 = .ok (.invokevirtual 86, 3) := by decide +kernel
theorem dX12_grandOf_6 : decode cX12_grandOf 6 = .ok (.istore_n 2, 1) := by decide +kernel
theorem dX12_grandOf_7 : decode cX12_grandOf 7 = .ok (.iload_n 2, 1) := by decide +kernel
theorem dX12_grandOf_8 : decode cX12_grandOf 8 = .ok (.iconst (-1), 1) := by decide +kernel
theorem dX12_grandOf_9 : decode cX12_grandOf 9 = .ok (.if_icmp .ne 7, 3) := by decide +kernel
theorem dX12_grandOf_12 : decode cX12_grandOf 12 = .ok (.iconst (-1), 1) := by decide +kernel
theorem dX12_grandOf_13 : decode cX12_grandOf 13 = .ok (.goto 9, 3) := by decide +kernel
theorem dX12_grandOf_16 : decode cX12_grandOf 16 = .ok (.aload_n 0, 1) := by decide +kernel
theorem dX12_grandOf_17 : decode cX12_grandOf 17 = .ok (.iload_n 2, 1) := by decide +kernel
theorem dX12_grandOf_18 : decode cX12_grandOf 18 = .ok (.iconst 3, 1) := by decide +kernel
theorem dX12_grandOf_19 : decode cX12_grandOf 19 = .ok (.invokevirtual 86, 3) := by decide +kernel
theorem dX12_grandOf_22 : decode cX12_grandOf 22 = .ok (.ireturn, 1) := by decide +kernel
theorem dX12_cousins_0 : decode cX12_cousins 0 = .ok (.aload_n 0, 1) := by decide +kernel
theorem dX12_cousins_1 : decode cX12_cousins 1 = .ok (.iconst 0, 1) := by decide +kernel
theorem dX12_cousins_2 : decode cX12_cousins 2 = .ok (.putfield 3, 3) := by decide +kernel
theorem dX12_cousins_5 : decode cX12_cousins 5 = .ok (.aload_n 0, 1) := by decide +kernel
theorem dX12_cousins_6 : decode cX12_cousins 6 = .ok (.aload_n 0, 1) := by decide +kernel
theorem dX12_cousins_7 : decode cX12_cousins 7 = .ok (.iload_n 1, 1) := by decide +kernel
theorem dX12_cousins_8 : decode cX12_cousins 8 = .ok (.invokevirtual 331, 3) := by decide +kernel
theorem dX12_cousins_11 : decode cX12_cousins 11 = .ok (.iconst 1, 1) := by decide +kernel
theorem dX12_cousins_12 : decode cX12_cousins 12 = .ok (.invokevirtual 291, 3) := by decide +kernel
theorem dX12_cousins_15 : decode cX12_cousins 15 = .ok (.ifCond .eq 5, 3) := by decide +kernel
theorem dX12_cousins_18 : decode cX12_cousins 18 = .ok (.iconst 0, 1) := by decide +kernel
theorem dX12_cousins_19 : decode cX12_cousins 19 = .ok (.ireturn, 1) := by decide +kernel
theorem dX12_cousins_20 : decode cX12_cousins 20 = .ok (.iconst 0, 1) := by decide +kernel
theorem dX12_cousins_21 : decode cX12_cousins 21 = .ok (.istore_n 2, 1) := by decide +kernel
theorem dX12_cousins_22 : decode cX12_cousins 22 = .ok (.iconst 0, 1) := by decide +kernel
theorem dX12_cousins_23 : decode cX12_cousins 23 = .ok (.istore_n 3, 1) := by decide +kernel
theorem dX12_cousins_24 : decode cX12_cousins 24 = .ok (.iload_n 3, 1) := by decide +kernel
theorem dX12_cousins_25 : decode cX12_cousins 25 = .ok (.aload_n 0, 1) := by decide +kernel
theorem dX12_cousins_26 : decode cX12_cousins 26 = .ok (.invokevirtual 78, 3) := by decide +kernel
theorem dX12_cousins_29 : decode cX12_cousins 29 = .ok (.if_icmp .ge 56, 3) := by decide +kernel
theorem dX12_cousins_32 : decode cX12_cousins 32 = .ok (.iload_n 2, 1) := by decide +kernel
theorem dX12_cousins_33 : decode cX12_cousins 33 = .ok (.aload_n 0, 1) := by decide +kernel
theorem dX12_cousins_34 : decode cX12_cousins 34 = .ok (.iload_n 3, 1) := by decide +kernel
theorem dX12_cousins_35 : decode cX12_cousins 35 = .ok (.invokevirtual 473, 3) := by decide +kernel
theorem dX12_cousins_38 : decode cX12_cousins 38 = .ok (.iconst (-1), 1) := by decide +kernel
theorem dX12_cousins_39 : decode cX12_cousins 39 = .ok (.if_icmp .eq 37, 3) := by decide +kernel
theorem dX12_cousins_42 : decode cX12_cousins 42 = .ok (.aload_n 0, 1) := by decide +kernel
theorem dX12_cousins_43 : decode cX12_cousins 43 = .ok (.iload_n 3, 1) := by decide +kernel
theorem dX12_cousins_44 : decode cX12_cousins 44 = .ok (.invokevirtual 473, 3) := by decide +kernel
theorem dX12_cousins_47 : decode cX12_cousins 47 = .ok (.aload_n 0, 1) := by decide +kernel
theorem dX12_cousins_48 : decode cX12_cousins 48 = .ok (.iload_n 1, 1) := by decide +kernel
theorem dX12_cousins_49 : decode cX12_cousins 49 = .ok (.invokevirtual 473, 3) := by decide +kernel
theorem dX12_cousins_52 : decode cX12_cousins 52 = .ok (.if_icmp .ne 24, 3) := by decide +kernel
theorem dX12_cousins_55 : decode cX12_cousins 55 = .ok (.aload_n 0, 1) := by decide +kernel
theorem dX12_cousins_56 : decode cX12_cousins 56 = .ok (.iload_n 3, 1) := by decide +kernel
theorem dX12_cousins_57 : decode cX12_cousins 57 = .ok (.iconst 3, 1) := by decide +kernel
theorem dX12_cousins_58 : decode cX12_cousins 58 = .ok (.invokevirtual 86, 3) := by decide +kernel
theorem dX12_cousins_61 : decode cX12_cousins 61 = .ok (.aload_n 0, 1) := by decide +kernel
theorem dX12_cousins_62 : decode cX12_cousins 62 = .ok (.iload_n 1, 1) := by decide +kernel
theorem dX12_cousins_63 : decode cX12_cousins 63 = .ok (.iconst 3, 1) := by decide +kernel
theorem dX12_cousins_64 : decode cX12_cousins 64 = .ok (.invokevirtual 86, 3) := by decide +kernel
theorem dX12_cousins_67 : decode cX12_cousins 67 = .ok (.if_icmp .eq 9, 3) := by decide +kernel
theorem dX12_cousins_70 : decode cX12_cousins 70 = .ok (.iconst 1, 1) := by decide +kernel
theorem dX12_cousins_71 : decode cX12_cousins 71 = .ok (.iload_n 3, 1) := by decide +kernel
theorem dX12_cousins_72 : decode cX12_cousins 72 = .ok (.ishl, 1) := by decide +kernel
theorem dX12_cousins_73 : decode cX12_cousins 73 = .ok (.goto 4, 3) := by decide +kernel
theorem dX12_cousins_76 : decode cX12_cousins 76 = .ok (.iconst 0, 1) := by decide +kernel
theorem dX12_cousins_77 : decode cX12_cousins 77 = .ok (.ior, 1) := by decide +kernel
theorem dX12_cousins_78 : decode cX12_cousins 78 = .ok (.istore_n 2, 1) := by decide +kernel
theorem dX12_cousins_79 : decode cX12_cousins 79 = .ok (.iinc 3 1, 3) := by decide +kernel
theorem dX12_cousins_82 : decode cX12_cousins 82 = .ok (.goto (-58), 3) := by decide +kernel
theorem dX12_cousins_85 : decode cX12_cousins 85 = .ok (.iload_n 2, 1) := by decide +kernel
theorem dX12_cousins_86 : decode cX12_cousins 86 = .ok (.ireturn, 1) := by decide +kernel
theorem dX12_under_0 : decode cX12_under 0 = .ok (.aload_n 0, 1) := by decide +kernel
theorem dX12_under_1 : decode cX12_under 1 = .ok (.iconst 0, 1) := by decide +kernel
theorem dX12_under_2 : decode cX12_under 2 = .ok (.putfield 3, 3) := by decide +kernel
theorem dX12_under_5 : decode cX12_under 5 = .ok (.aload_n 0, 1) := by decide +kernel
theorem dX12_under_6 : decode cX12_under 6 = .ok (.aload_n 0, 1) := by decide +kernel
theorem dX12_under_7 : decode cX12_under 7 = .ok (.iload_n 1, 1) := by decide +kernel
theorem dX12_under_8 : decode cX12_under 8 = .ok (.invokevirtual 331, 3) := by decide +kernel
theorem dX12_under_11 : decode cX12_under 11 = .ok (.iconst 1, 1) := by decide +kernel
theorem dX12_under_12 : decode cX12_under 12 = .ok (.invokevirtual 291, 3) := by decide +kernel
theorem dX12_under_15 : decode cX12_under 15 = .ok (.ifCond .eq 5, 3) := by decide +kernel
theorem dX12_under_18 : decode cX12_under 18 = .ok (.iconst 0, 1) := by decide +kernel
theorem dX12_under_19 : decode cX12_under 19 = .ok (.ireturn, 1) := by decide +kernel
theorem dX12_under_20 : decode cX12_under 20 = .ok (.aload_n 0, 1) := by decide +kernel
theorem dX12_under_21 : decode cX12_under 21 = .ok (.iload_n 1, 1) := by decide +kernel
theorem dX12_under_22 : decode cX12_under 22 = .ok (.invokevirtual 334, 3) := by decide +kernel
theorem dX12_under_25 : decode cX12_under 25 = .ok (.istore_n 2, 1) := by decide +kernel
theorem dX12_under_26 : decode cX12_under 26 = .ok (.iconst 0, 1) := by decide +kernel
theorem dX12_under_27 : decode cX12_under 27 = .ok (.istore_n 3, 1) := by decide +kernel
theorem dX12_under_28 : decode cX12_under 28 = .ok (.iload_n 3, 1) := by decide +kernel
theorem dX12_under_29 : decode cX12_under 29 = .ok (.bipush 8, 2) := by decide +kernel
theorem dX12_under_31 : decode cX12_under 31 = .ok (.if_icmp .ge 49, 3) := by decide +kernel
theorem dX12_under_34 : decode cX12_under 34 = .ok (.iconst 0, 1) := by decide +kernel
theorem dX12_under_35 : decode cX12_under 35 = .ok (.istore 4, 2) := by decide +kernel
theorem dX12_under_37 : decode cX12_under 37 = .ok (.iload 4, 2) := by decide +kernel
theorem dX12_under_39 : decode cX12_under 39 = .ok (.aload_n 0, 1) := by decide +kernel
theorem dX12_under_40 : decode cX12_under 40 = .ok (.invokevirtual 78, 3) := by decide +kernel
theorem dX12_under_43 : decode cX12_under 43 = .ok (.if_icmp .ge 31, 3) := by decide +kernel
theorem dX12_under_46 : decode cX12_under 46 = .ok (.iload_n 2, 1) := by decide +kernel
theorem dX12_under_47 : decode cX12_under 47 = .ok (.iload_n 2, 1) := by decide +kernel
theorem dX12_under_48 : decode cX12_under 48 = .ok (.iload 4, 2) := by decide +kernel
theorem dX12_under_50 : decode cX12_under 50 = .ok (.invokestatic 89, 3) := by decide +kernel
theorem dX12_under_53 : decode cX12_under 53 = .ok (.ifCond .eq 12, 3) := by decide +kernel
theorem dX12_under_56 : decode cX12_under 56 = .ok (.aload_n 0, 1) := by decide +kernel
theorem dX12_under_57 : decode cX12_under 57 = .ok (.iload 4, 2) := by decide +kernel
theorem dX12_under_59 : decode cX12_under 59 = .ok (.invokevirtual 334, 3) := by decide +kernel
theorem dX12_under_62 : decode cX12_under 62 = .ok (.goto 4, 3) := by decide +kernel
theorem dX12_under_65 : decode cX12_under 65 = .ok (.iconst 0, 1) := by decide +kernel
theorem dX12_under_66 : decode cX12_under 66 = .ok (.ior, 1) := by decide +kernel
theorem dX12_under_67 : decode cX12_under 67 = .ok (.istore_n 2, 1) := by decide +kernel
theorem dX12_under_68 : decode cX12_under 68 = .ok (.iinc 4 1, 3) := by decide +kernel
theorem dX12_under_71 : decode cX12_under 71 = .ok (.goto (-34), 3) := by decide +kernel
theorem dX12_under_74 : decode cX12_under 74 = .ok (.iinc 3 1, 3) := by decide +kernel
theorem dX12_under_77 : decode cX12_under 77 = .ok (.goto (-49), 3) := by decide +kernel
theorem dX12_under_80 : decode cX12_under 80 = .ok (.iload_n 2, 1) := by decide +kernel
theorem dX12_under_81 : decode cX12_under 81 = .ok (.ireturn, 1) := by decide +kernel
theorem dX12_free_0 : decode cX12_free 0 = .ok (.aload_n 0, 1) := by decide +kernel
theorem dX12_free_1 : decode cX12_free 1 = .ok (.iconst 0, 1) := by decide +kernel
theorem dX12_free_2 : decode cX12_free 2 = .ok (.putfield 3, 3) := by decide +kernel
theorem dX12_free_5 : decode cX12_free 5 = .ok (.iconst 0, 1) := by decide +kernel
theorem dX12_free_6 : decode cX12_free 6 = .ok (.istore_n 1, 1) := by decide +kernel
theorem dX12_free_7 : decode cX12_free 7 = .ok (.iconst 0, 1) := by decide +kernel
theorem dX12_free_8 : decode cX12_free 8 = .ok (.istore_n 2, 1) := by decide +kernel
theorem dX12_free_9 : decode cX12_free 9 = .ok (.iload_n 2, 1) := by decide +kernel
theorem dX12_free_10 : decode cX12_free 10 = .ok (.aload_n 0, 1) := by decide +kernel
theorem dX12_free_11 : decode cX12_free 11 = .ok (.invokevirtual 78, 3) := by decide +kernel
theorem dX12_free_14 : decode cX12_free 14 = .ok (.if_icmp .ge 29, 3) := by decide +kernel
theorem dX12_free_17 : decode cX12_free 17 = .ok (.iload_n 1, 1) := by decide +kernel
theorem dX12_free_18 : decode cX12_free 18 = .ok (.aload_n 0, 1) := by decide +kernel
theorem dX12_free_19 : decode cX12_free 19 = .ok (.iload_n 2, 1) := by decide +kernel
theorem dX12_free_20 : decode cX12_free 20 = .ok (.bipush 8, 2) := by decide +kernel
theorem dX12_free_22 : decode cX12_free 22 = .ok (.invokevirtual 86, 3) := by decide +kernel
theorem dX12_free_25 : decode cX12_free 25 = .ok (.ifCond .ne 9, 3) := by decide +kernel
theorem dX12_free_28 : decode cX12_free 28 = .ok (.iconst 1, 1) := by decide +kernel
theorem dX12_free_29 : decode cX12_free 29 = .ok (.iload_n 2, 1) := by decide +kernel
theorem dX12_free_30 : decode cX12_free 30 = .ok (.ishl, 1) := by decide +kernel
theorem dX12_free_31 : decode cX12_free 31 = .ok (.goto 4, 3) := by decide +kernel
theorem dX12_free_34 : decode cX12_free 34 = .ok (.iconst 0, 1) := by decide +kernel
theorem dX12_free_35 : decode cX12_free 35 = .ok (.ior, 1) := by decide +kernel
theorem dX12_free_36 : decode cX12_free 36 = .ok (.istore_n 1, 1) := by decide +kernel
theorem dX12_free_37 : decode cX12_free 37 = .ok (.iinc 2 1, 3) := by decide +kernel
theorem dX12_free_40 : decode cX12_free 40 = .ok (.goto (-31), 3) := by decide +kernel
theorem dX12_free_43 : decode cX12_free 43 = .ok (.iload_n 1, 1) := by decide +kernel
theorem dX12_free_44 : decode cX12_free 44 = .ok (.ireturn, 1) := by decide +kernel
theorem dX12_odds_0 : decode cX12_odds 0 = .ok (.aload_n 0, 1) := by decide +kernel
theorem dX12_odds_1 : decode cX12_odds 1 = .ok (.iconst 0, 1) := by decide +kernel
theorem dX12_odds_2 : decode cX12_odds 2 = .ok (.putfield 3, 3) := by decide +kernel
theorem dX12_odds_5 : decode cX12_odds 5 = .ok (.aload_n 0, 1) := by decide +kernel
theorem dX12_odds_6 : decode cX12_odds 6 = .ok (.aload_n 0, 1) := by decide +kernel
theorem dX12_odds_7 : decode cX12_odds 7 = .ok (.iload_n 1, 1) := by decide +kernel
theorem dX12_odds_8 : decode cX12_odds 8 = .ok (.invokevirtual 331, 3) := by decide +kernel
theorem dX12_odds_11 : decode cX12_odds 11 = .ok (.iconst 1, 1) := by decide +kernel
theorem dX12_odds_12 : decode cX12_odds 12 = .ok (.invokevirtual 291, 3) := by decide +kernel
theorem dX12_odds_15 : decode cX12_odds 15 = .ok (.ifCond .ne 34, 3) := by decide +kernel
theorem dX12_odds_18 : decode cX12_odds 18 = .ok (.aload_n 0, 1) := by decide +kernel
theorem dX12_odds_19 : decode cX12_odds 19 = .ok (.iload_n 2, 1) := by decide +kernel
theorem dX12_odds_20 : decode cX12_odds 20 = .ok (.iconst 0, 1) := by decide +kernel
theorem dX12_odds_21 : decode cX12_odds 21 = .ok (.iconst 3, 1) := by decide +kernel
theorem dX12_odds_22 : decode cX12_odds 22 = .ok (.invokestatic 82, 3) := by decide +kernel
theorem dX12_odds_25 : decode cX12_odds 25 = .ok (.ifCond .eq 12, 3) := by decide +kernel
theorem dX12_odds_28 : decode cX12_odds 28 = .ok (.iload_n 3, 1) := by decide +kernel
theorem dX12_odds_29 : decode cX12_odds 29 = .ok (.iconst 0, 1) := by decide +kernel
theorem dX12_odds_30 : decode cX12_odds 30 = .ok (.iconst 3, 1) := by decide +kernel
theorem dX12_odds_31 : decode cX12_odds 31 = .ok (.invokestatic 82, 3) := by decide +kernel
theorem dX12_odds_34 : decode cX12_odds 34 = .ok (.ifCond .ne 7, 3) := by decide +kernel
theorem dX12_odds_37 : decode cX12_odds 37 = .ok (.iconst 1, 1) := by decide +kernel
theorem dX12_odds_38 : decode cX12_odds 38 = .ok (.goto 4, 3) := by decide +kernel
theorem dX12_odds_41 : decode cX12_odds 41 = .ok (.iconst 0, 1) := by decide +kernel
theorem dX12_odds_42 : decode cX12_odds 42 = .ok (.iconst 2, 1) := by decide +kernel
theorem dX12_odds_43 : decode cX12_odds 43 = .ok (.invokevirtual 291, 3) := by decide +kernel
theorem dX12_odds_46 : decode cX12_odds 46 = .ok (.ifCond .eq 5, 3) := by decide +kernel
theorem dX12_odds_49 : decode cX12_odds 49 = .ok (.iconst 0, 1) := by decide +kernel
theorem dX12_odds_50 : decode cX12_odds 50 = .ok (.ireturn, 1) := by decide +kernel
theorem dX12_odds_51 : decode cX12_odds 51 = .ok (.aload_n 0, 1) := by decide +kernel
theorem dX12_odds_52 : decode cX12_odds 52 = .ok (.iload_n 1, 1) := by decide +kernel
theorem dX12_odds_53 : decode cX12_odds 53 = .ok (.bipush 8, 2) := by decide +kernel
theorem dX12_odds_55 : decode cX12_odds 55 = .ok (.invokevirtual 86, 3) := by decide +kernel
theorem dX12_odds_58 : decode cX12_odds 58 = .ok (.invokestatic 364, 3) := by decide +kernel
theorem dX12_odds_61 : decode cX12_odds 61 = .ok (.istore 4, 2) := by decide +kernel
theorem dX12_odds_63 : decode cX12_odds 63 = .ok (.iload 4, 2) := by decide +kernel
theorem dX12_odds_65 : decode cX12_odds 65 = .ok (.ifCond .ne 5, 3) := by decide +kernel
theorem dX12_odds_68 : decode cX12_odds 68 = .ok (.iconst 0, 1) := by decide +kernel
theorem dX12_odds_69 : decode cX12_odds 69 = .ok (.ireturn, 1) := by decide +kernel
theorem dX12_odds_70 : decode cX12_odds 70 = .ok (.lconst 0, 1) := by decide +kernel
theorem dX12_odds_71 : decode cX12_odds 71 = .ok (.lstore 5, 2) := by decide +kernel
theorem dX12_odds_73 : decode cX12_odds 73 = .ok (.iconst 0, 1) := by decide +kernel
theorem dX12_odds_74 : decode cX12_odds 74 = .ok (.istore 7, 2) := by decide +kernel
theorem dX12_odds_76 : decode cX12_odds 76 = .ok (.iload 7, 2) := by decide +kernel
theorem dX12_odds_78 : decode cX12_odds 78 = .ok (.aload_n 0, 1) := by decide +kernel
theorem dX12_odds_79 : decode cX12_odds 79 = .ok (.invokevirtual 78, 3) := by decide +kernel
theorem dX12_odds_82 : decode cX12_odds 82 = .ok (.if_icmp .ge 37, 3) := by decide +kernel
theorem dX12_odds_85 : decode cX12_odds 85 = .ok (.lload 5, 2) := by decide +kernel
theorem dX12_odds_87 : decode cX12_odds 87 = .ok (.aload_n 0, 1) := by decide +kernel
theorem dX12_odds_88 : decode cX12_odds 88 = .ok (.iload 7, 2) := by decide +kernel
theorem dX12_odds_90 : decode cX12_odds 90 = .ok (.iload_n 1, 1) := by decide +kernel
theorem dX12_odds_91 : decode cX12_odds 91 = .ok (.invokevirtual 326, 3) := by decide +kernel
theorem dX12_odds_94 : decode cX12_odds 94 = .ok (.ifCond .eq 15, 3) := by decide +kernel
theorem dX12_odds_97 : decode cX12_odds 97 = .ok (.aload_n 0, 1) := by decide +kernel
theorem dX12_odds_98 : decode cX12_odds 98 = .ok (.iload 7, 2) := by decide +kernel
theorem dX12_odds_100 : decode cX12_odds 100 = .ok (.bipush 6, 2) := by decide +kernel
theorem dX12_odds_102 : decode cX12_odds 102 = .ok (.invokevirtual 86, 3) := by decide +kernel
theorem dX12_odds_105 : decode cX12_odds 105 = .ok (.i2l, 1) := by decide +kernel
theorem dX12_odds_106 : decode cX12_odds 106 = .ok (.goto 4, 3) := by decide +kernel
theorem dX12_odds_109 : decode cX12_odds 109 = .ok (.lconst 0, 1) := by decide +kernel
theorem dX12_odds_110 : decode cX12_odds 110 = .ok (.ladd, 1) := by decide +kernel
theorem dX12_odds_111 : decode cX12_odds 111 = .ok (.lstore 5, 2) := by decide +kernel
theorem dX12_odds_113 : decode cX12_odds 113 = .ok (.iinc 7 1, 3) := by decide +kernel
theorem dX12_odds_116 : decode cX12_odds 116 = .ok (.goto (-40), 3) := by decide +kernel
theorem dX12_odds_119 : decode cX12_odds 119 = .ok (.aload_n 0, 1) := by decide +kernel
theorem dX12_odds_120 : decode cX12_odds 120 = .ok (.iload_n 1, 1) := by decide +kernel
theorem dX12_odds_121 : decode cX12_odds 121 = .ok (.iconst 5, 1) := by decide +kernel
theorem dX12_odds_122 : decode cX12_odds 122 = .ok (.invokevirtual 86, 3) := by decide +kernel
theorem dX12_odds_125 : decode cX12_odds 125 = .ok (.i2l, 1) := by decide +kernel
theorem dX12_odds_126 : decode cX12_odds 126 = .ok (.lload 5, 2) := by decide +kernel
theorem dX12_odds_128 : decode cX12_odds 128 = .ok (.lmul, 1) := by decide +kernel
theorem dX12_odds_129 : decode cX12_odds 129 = .ok (.lstore 7, 2) := by decide +kernel
theorem dX12_odds_131 : decode cX12_odds 131 = .ok (.ldc2_w 476, 3) := by decide +kernel
theorem dX12_odds_134 : decode cX12_odds 134 = .ok (.iload 4, 2) := by decide +kernel
theorem dX12_odds_136 : decode cX12_odds 136 = .ok (.i2l, 1) := by decide +kernel
theorem dX12_odds_137 : decode cX12_odds 137 = .ok (.lmul, 1) := by decide +kernel
theorem dX12_odds_138 : decode cX12_odds 138 = .ok (.lstore 9, 2) := by decide +kernel
theorem dX12_odds_140 : decode cX12_odds 140 = .ok (.lconst 1, 1) := by decide +kernel
theorem dX12_odds_141 : decode cX12_odds 141 = .ok (.lstore 11, 2) := by decide +kernel
theorem dX12_odds_143 : decode cX12_odds 143 = .ok (.iconst 0, 1) := by decide +kernel
theorem dX12_odds_144 : decode cX12_odds 144 = .ok (.istore 13, 2) := by decide +kernel
theorem dX12_odds_146 : decode cX12_odds 146 = .ok (.iload 13, 2) := by decide +kernel
theorem dX12_odds_148 : decode cX12_odds 148 = .ok (.iconst 3, 1) := by decide +kernel
theorem dX12_odds_149 : decode cX12_odds 149 = .ok (.if_icmp .gt 26, 3) := by decide +kernel
theorem dX12_odds_152 : decode cX12_odds 152 = .ok (.aload_n 0, 1) := by decide +kernel
theorem dX12_odds_153 : decode cX12_odds 153 = .ok (.getfield 63, 3) := by decide +kernel
theorem dX12_odds_156 : decode cX12_odds 156 = .ok (.iload 13, 2) := by decide +kernel
theorem dX12_odds_158 : decode cX12_odds 158 = .ok (.iload 13, 2) := by decide +kernel
theorem dX12_odds_160 : decode cX12_odds 160 = .ok (.ifCond .ne 7, 3) := by decide +kernel
theorem dX12_odds_163 : decode cX12_odds 163 = .ok (.lconst 1, 1) := by decide +kernel
theorem dX12_odds_164 : decode cX12_odds 164 = .ok (.goto 4, 3) := by decide +kernel
theorem dX12_odds_167 : decode cX12_odds 167 = .ok (.lconst 0, 1) := by decide +kernel
theorem dX12_odds_168 : decode cX12_odds 168 = .ok (.lastore, 1) := by decide +kernel
theorem dX12_odds_169 : decode cX12_odds 169 = .ok (.iinc 13 1, 3) := by decide +kernel
theorem dX12_odds_172 : decode cX12_odds 172 = .ok (.goto (-26), 3) := by decide +kernel
theorem dX12_odds_175 : decode cX12_odds 175 = .ok (.iconst 0, 1) := by decide +kernel
theorem dX12_odds_176 : decode cX12_odds 176 = .ok (.istore 13, 2) := by decide +kernel
theorem dX12_odds_178 : decode cX12_odds 178 = .ok (.iload 13, 2) := by decide +kernel
theorem dX12_odds_180 : decode cX12_odds 180 = .ok (.iload_n 2, 1) := by decide +kernel
theorem dX12_odds_181 : decode cX12_odds 181 = .ok (.if_icmp .ge 72, 3) := by decide +kernel
theorem dX12_odds_184 : decode cX12_odds 184 = .ok (.iconst 3, 1) := by decide +kernel
theorem dX12_odds_185 : decode cX12_odds 185 = .ok (.istore 14, 2) := by decide +kernel
theorem dX12_odds_187 : decode cX12_odds 187 = .ok (.iload 14, 2) := by decide +kernel
theorem dX12_odds_189 : decode cX12_odds 189 = .ok (.ifCond .lt 51, 3) := by decide +kernel
theorem dX12_odds_192 : decode cX12_odds 192 = .ok (.aload_n 0, 1) := by decide +kernel
theorem dX12_odds_193 : decode cX12_odds 193 = .ok (.getfield 63, 3) := by decide +kernel
theorem dX12_odds_196 : decode cX12_odds 196 = .ok (.iload 14, 2) := by decide +kernel
theorem dX12_odds_198 : decode cX12_odds 198 = .ok (.aload_n 0, 1) := by decide +kernel
theorem dX12_odds_199 : decode cX12_odds 199 = .ok (.getfield 63, 3) := by decide +kernel
theorem dX12_odds_202 : decode cX12_odds 202 = .ok (.iload 14, 2) := by decide +kernel
theorem dX12_odds_204 : decode cX12_odds 204 = .ok (.laload, 1) := by decide +kernel
theorem dX12_odds_205 : decode cX12_odds 205 = .ok (.lload 9, 2) := by decide +kernel
theorem dX12_odds_207 : decode cX12_odds 207 = .ok (.lload 7, 2) := by decide +kernel
theorem dX12_odds_209 : decode cX12_odds 209 = .ok (.lsub, 1) := by decide +kernel
theorem dX12_odds_210 : decode cX12_odds 210 = .ok (.lmul, 1) := by decide +kernel
theorem dX12_odds_211 : decode cX12_odds 211 = .ok (.iload 14, 2) := by decide +kernel
theorem dX12_odds_213 : decode cX12_odds 213 = .ok (.ifCond .ne 7, 3) := by decide +kernel
theorem dX12_odds_216 : decode cX12_odds 216 = .ok (.lconst 0, 1) := by decide +kernel
theorem dX12_odds_217 : decode cX12_odds 217 = .ok (.goto 15, 3) := by decide +kernel
theorem dX12_odds_220 : decode cX12_odds 220 = .ok (.aload_n 0, 1) := by decide +kernel
theorem dX12_odds_221 : decode cX12_odds 221 = .ok (.getfield 63, 3) := by decide +kernel
theorem dX12_odds_224 : decode cX12_odds 224 = .ok (.iload 14, 2) := by decide +kernel
theorem dX12_odds_226 : decode cX12_odds 226 = .ok (.iconst 1, 1) := by decide +kernel
theorem dX12_odds_227 : decode cX12_odds 227 = .ok (.isub, 1) := by decide +kernel
theorem dX12_odds_228 : decode cX12_odds 228 = .ok (.laload, 1) := by decide +kernel
theorem dX12_odds_229 : decode cX12_odds 229 = .ok (.lload 7, 2) := by decide +kernel
theorem dX12_odds_231 : decode cX12_odds 231 = .ok (.lmul, 1) := by decide +kernel
theorem dX12_odds_232 : decode cX12_odds 232 = .ok (.ladd, 1) := by decide +kernel
theorem dX12_odds_233 : decode cX12_odds 233 = .ok (.lastore, 1) := by decide +kernel
theorem dX12_odds_234 : decode cX12_odds 234 = .ok (.iinc 14 (-1), 3) := by decide +kernel
theorem dX12_odds_237 : decode cX12_odds 237 = .ok (.goto (-50), 3) := by decide +kernel
theorem dX12_odds_240 : decode cX12_odds 240 = .ok (.lload 11, 2) := by decide +kernel
theorem dX12_odds_242 : decode cX12_odds 242 = .ok (.lload 9, 2) := by decide +kernel
theorem dX12_odds_244 : decode cX12_odds 244 = .ok (.lmul, 1) := by decide +kernel
theorem dX12_odds_245 : decode cX12_odds 245 = .ok (.lstore 11, 2) := by decide +kernel
theorem dX12_odds_247 : decode cX12_odds 247 = .ok (.iinc 13 1, 3) := by decide +kernel
theorem dX12_odds_250 : decode cX12_odds 250 = .ok (.goto (-72), 3) := by decide +kernel
theorem dX12_odds_253 : decode cX12_odds 253 = .ok (.lconst 0, 1) := by decide +kernel
theorem dX12_odds_254 : decode cX12_odds 254 = .ok (.lstore 13, 2) := by decide +kernel
theorem dX12_odds_256 : decode cX12_odds 256 = .ok (.iload_n 3, 1) := by decide +kernel
theorem dX12_odds_257 : decode cX12_odds 257 = .ok (.istore 15, 2) := by decide +kernel
theorem dX12_odds_259 : decode cX12_odds 259 = .ok (.iload 15, 2) := by decide +kernel
theorem dX12_odds_261 : decode cX12_odds 261 = .ok (.iconst 3, 1) := by decide +kernel
theorem dX12_odds_262 : decode cX12_odds 262 = .ok (.if_icmp .gt 21, 3) := by decide +kernel
theorem dX12_odds_265 : decode cX12_odds 265 = .ok (.lload 13, 2) := by decide +kernel
theorem dX12_odds_267 : decode cX12_odds 267 = .ok (.aload_n 0, 1) := by decide +kernel
theorem dX12_odds_268 : decode cX12_odds 268 = .ok (.getfield 63, 3) := by decide +kernel
theorem dX12_odds_271 : decode cX12_odds 271 = .ok (.iload 15, 2) := by decide +kernel
theorem dX12_odds_273 : decode cX12_odds 273 = .ok (.laload, 1) := by decide +kernel
theorem dX12_odds_274 : decode cX12_odds 274 = .ok (.ladd, 1) := by decide +kernel
theorem dX12_odds_275 : decode cX12_odds 275 = .ok (.lstore 13, 2) := by decide +kernel
theorem dX12_odds_277 : decode cX12_odds 277 = .ok (.iinc 15 1, 3) := by decide +kernel
theorem dX12_odds_280 : decode cX12_odds 280 = .ok (.goto (-21), 3) := by decide +kernel
theorem dX12_odds_283 : decode cX12_odds 283 = .ok (.ldc2_w 476, 3) := by decide +kernel
theorem dX12_odds_286 : decode cX12_odds 286 = .ok (.lload 13, 2) := by decide +kernel
theorem dX12_odds_288 : decode cX12_odds 288 = .ok (.lmul, 1) := by decide +kernel
theorem dX12_odds_289 : decode cX12_odds 289 = .ok (.lload 11, 2) := by decide +kernel
theorem dX12_odds_291 : decode cX12_odds 291 = .ok (.ldiv, 1) := by decide +kernel
theorem dX12_odds_292 : decode cX12_odds 292 = .ok (.l2i, 1) := by decide +kernel
theorem dX12_odds_293 : decode cX12_odds 293 = .ok (.ireturn, 1) := by decide +kernel
theorem dX12_twins_0 : decode cX12_twins 0 = .ok (.aload_n 0, 1) := by decide +kernel
theorem dX12_twins_1 : decode cX12_twins 1 = .ok (.iconst 0, 1) := by decide +kernel
theorem dX12_twins_2 : decode cX12_twins 2 = .ok (.putfield 3, 3) := by decide +kernel
theorem dX12_twins_5 : decode cX12_twins 5 = .ok (.iconst 0, 1) := by decide +kernel
theorem dX12_twins_6 : decode cX12_twins 6 = .ok (.istore_n 1, 1) := by decide +kernel
theorem dX12_twins_7 : decode cX12_twins 7 = .ok (.iconst 0, 1) := by decide +kernel
theorem dX12_twins_8 : decode cX12_twins 8 = .ok (.istore_n 2, 1) := by decide +kernel
theorem dX12_twins_9 : decode cX12_twins 9 = .ok (.iload_n 2, 1) := by decide +kernel
theorem dX12_twins_10 : decode cX12_twins 10 = .ok (.aload_n 0, 1) := by decide +kernel
theorem dX12_twins_11 : decode cX12_twins 11 = .ok (.invokevirtual 78, 3) := by decide +kernel
theorem dX12_twins_14 : decode cX12_twins 14 = .ok (.if_icmp .ge 45, 3) := by decide +kernel
theorem dX12_twins_17 : decode cX12_twins 17 = .ok (.iconst 0, 1) := by decide +kernel
theorem dX12_twins_18 : decode cX12_twins 18 = .ok (.istore_n 3, 1) := by decide +kernel
theorem dX12_twins_19 : decode cX12_twins 19 = .ok (.iload_n 3, 1) := by decide +kernel
theorem dX12_twins_20 : decode cX12_twins 20 = .ok (.iload_n 2, 1) := by decide +kernel
theorem dX12_twins_21 : decode cX12_twins 21 = .ok (.if_icmp .ge 32, 3) := by decide +kernel
theorem dX12_twins_24 : decode cX12_twins 24 = .ok (.iload_n 1, 1) := by decide +kernel
theorem dX12_twins_25 : decode cX12_twins 25 = .ok (.aload_n 0, 1) := by decide +kernel
theorem dX12_twins_26 : decode cX12_twins 26 = .ok (.iload_n 2, 1) := by decide +kernel
theorem dX12_twins_27 : decode cX12_twins 27 = .ok (.iconst 0, 1) := by decide +kernel
theorem dX12_twins_28 : decode cX12_twins 28 = .ok (.invokevirtual 86, 3) := by decide +kernel
theorem dX12_twins_31 : decode cX12_twins 31 = .ok (.aload_n 0, 1) := by decide +kernel
theorem dX12_twins_32 : decode cX12_twins 32 = .ok (.iload_n 3, 1) := by decide +kernel
theorem dX12_twins_33 : decode cX12_twins 33 = .ok (.iconst 0, 1) := by decide +kernel
theorem dX12_twins_34 : decode cX12_twins 34 = .ok (.invokevirtual 86, 3) := by decide +kernel
theorem dX12_twins_37 : decode cX12_twins 37 = .ok (.if_icmp .ne 7, 3) := by decide +kernel
theorem dX12_twins_40 : decode cX12_twins 40 = .ok (.iconst 1, 1) := by decide +kernel
theorem dX12_twins_41 : decode cX12_twins 41 = .ok (.goto 4, 3) := by decide +kernel
theorem dX12_twins_44 : decode cX12_twins 44 = .ok (.iconst 0, 1) := by decide +kernel
theorem dX12_twins_45 : decode cX12_twins 45 = .ok (.iadd, 1) := by decide +kernel
theorem dX12_twins_46 : decode cX12_twins 46 = .ok (.istore_n 1, 1) := by decide +kernel
theorem dX12_twins_47 : decode cX12_twins 47 = .ok (.iinc 3 1, 3) := by decide +kernel
theorem dX12_twins_50 : decode cX12_twins 50 = .ok (.goto (-31), 3) := by decide +kernel
theorem dX12_twins_53 : decode cX12_twins 53 = .ok (.iinc 2 1, 3) := by decide +kernel
theorem dX12_twins_56 : decode cX12_twins 56 = .ok (.goto (-47), 3) := by decide +kernel
theorem dX12_twins_59 : decode cX12_twins 59 = .ok (.iload_n 1, 1) := by decide +kernel
theorem dX12_twins_60 : decode cX12_twins 60 = .ok (.ireturn, 1) := by decide +kernel
theorem dX12_agesOfAll_0 : decode cX12_agesOfAll 0 = .ok (.aload_n 0, 1) := by decide +kernel
theorem dX12_agesOfAll_1 : decode cX12_agesOfAll 1 = .ok (.iconst 1, 1) := by decide +kernel
theorem dX12_agesOfAll_2 : decode cX12_agesOfAll 2 = .ok (.aload_n 0, 1) := by decide +kernel
theorem dX12_agesOfAll_3 : decode cX12_agesOfAll 3 = .ok (.invokevirtual 78, 3) := by decide +kernel
theorem dX12_agesOfAll_6 : decode cX12_agesOfAll 6 = .ok (.ishl, 1) := by decide +kernel
theorem dX12_agesOfAll_7 : decode cX12_agesOfAll 7 = .ok (.iconst 1, 1) := by decide +kernel
theorem dX12_agesOfAll_8 : decode cX12_agesOfAll 8 = .ok (.isub, 1) := by decide +kernel
theorem dX12_agesOfAll_9 : decode cX12_agesOfAll 9 = .ok (.invokevirtual 467, 3) := by decide +kernel
theorem dX12_agesOfAll_12 : decode cX12_agesOfAll 12 = .ok (.ireturn, 1) := by decide +kernel
theorem dX12_mean_0 : decode cX12_mean 0 = .ok (.aload_n 0, 1) := by decide +kernel
theorem dX12_mean_1 : decode cX12_mean 1 = .ok (.iconst 0, 1) := by decide +kernel
theorem dX12_mean_2 : decode cX12_mean 2 = .ok (.putfield 3, 3) := by decide +kernel
theorem dX12_mean_5 : decode cX12_mean 5 = .ok (.aload_n 0, 1) := by decide +kernel
theorem dX12_mean_6 : decode cX12_mean 6 = .ok (.invokevirtual 78, 3) := by decide +kernel
theorem dX12_mean_9 : decode cX12_mean 9 = .ok (.ifCond .ne 7, 3) := by decide +kernel
theorem dX12_mean_12 : decode cX12_mean 12 = .ok (.iconst 0, 1) := by decide +kernel
theorem dX12_mean_13 : decode cX12_mean 13 = .ok (.goto 12, 3) := by decide +kernel
theorem dX12_mean_16 : decode cX12_mean 16 = .ok (.aload_n 0, 1) := by decide +kernel
theorem dX12_mean_17 : decode cX12_mean 17 = .ok (.invokevirtual 478, 3) := by decide +kernel
theorem dX12_mean_20 : decode cX12_mean 20 = .ok (.aload_n 0, 1) := by decide +kernel
theorem dX12_mean_21 : decode cX12_mean 21 = .ok (.invokevirtual 78, 3) := by decide +kernel
theorem dX12_mean_24 : decode cX12_mean 24 = .ok (.idiv, 1) := by decide +kernel
theorem dX12_mean_25 : decode cX12_mean 25 = .ok (.ireturn, 1) := by decide +kernel
theorem dX12_oldest_0 : decode cX12_oldest 0 = .ok (.aload_n 0, 1) := by decide +kernel
theorem dX12_oldest_1 : decode cX12_oldest 1 = .ok (.iconst 0, 1) := by decide +kernel
theorem dX12_oldest_2 : decode cX12_oldest 2 = .ok (.putfield 3, 3) := by decide +kernel
theorem dX12_oldest_5 : decode cX12_oldest 5 = .ok (.iconst (-1), 1) := by decide +kernel
theorem dX12_oldest_6 : decode cX12_oldest 6 = .ok (.istore_n 1, 1) := by decide +kernel
theorem dX12_oldest_7 : decode cX12_oldest 7 = .ok (.iconst 0, 1) := by decide +kernel
theorem dX12_oldest_8 : decode cX12_oldest 8 = .ok (.istore_n 2, 1) := by decide +kernel
theorem dX12_oldest_9 : decode cX12_oldest 9 = .ok (.iload_n 2, 1) := by decide +kernel
theorem dX12_oldest_10 : decode cX12_oldest 10 = .ok (.aload_n 0, 1) := by decide +kernel
theorem dX12_oldest_11 : decode cX12_oldest 11 = .ok (.invokevirtual 78, 3) := by decide +kernel
theorem dX12_oldest_14 : decode cX12_oldest 14 = .ok (.if_icmp .ge 31, 3) := by decide +kernel
theorem dX12_oldest_17 : decode cX12_oldest 17 = .ok (.iload_n 1, 1) := by decide +kernel
theorem dX12_oldest_18 : decode cX12_oldest 18 = .ok (.iconst (-1), 1) := by decide +kernel
theorem dX12_oldest_19 : decode cX12_oldest 19 = .ok (.if_icmp .eq 18, 3) := by decide +kernel
theorem dX12_oldest_22 : decode cX12_oldest 22 = .ok (.aload_n 0, 1) := by decide +kernel
theorem dX12_oldest_23 : decode cX12_oldest 23 = .ok (.iload_n 2, 1) := by decide +kernel
theorem dX12_oldest_24 : decode cX12_oldest 24 = .ok (.iconst 0, 1) := by decide +kernel
theorem dX12_oldest_25 : decode cX12_oldest 25 = .ok (.invokevirtual 86, 3) := by decide +kernel
theorem dX12_oldest_28 : decode cX12_oldest 28 = .ok (.aload_n 0, 1) := by decide +kernel
theorem dX12_oldest_29 : decode cX12_oldest 29 = .ok (.iload_n 1, 1) := by decide +kernel
theorem dX12_oldest_30 : decode cX12_oldest 30 = .ok (.iconst 0, 1) := by decide +kernel
theorem dX12_oldest_31 : decode cX12_oldest 31 = .ok (.invokevirtual 86, 3) := by decide +kernel
theorem dX12_oldest_34 : decode cX12_oldest 34 = .ok (.if_icmp .le 5, 3) := by decide +kernel
theorem dX12_oldest_37 : decode cX12_oldest 37 = .ok (.iload_n 2, 1) := by decide +kernel
theorem dX12_oldest_38 : decode cX12_oldest 38 = .ok (.istore_n 1, 1) := by decide +kernel
theorem dX12_oldest_39 : decode cX12_oldest 39 = .ok (.iinc 2 1, 3) := by decide +kernel
theorem dX12_oldest_42 : decode cX12_oldest 42 = .ok (.goto (-33), 3) := by decide +kernel
theorem dX12_oldest_45 : decode cX12_oldest 45 = .ok (.iload_n 1, 1) := by decide +kernel
theorem dX12_oldest_46 : decode cX12_oldest 46 = .ok (.ireturn, 1) := by decide +kernel
theorem dX12_youngest_0 : decode cX12_youngest 0 = .ok (.aload_n 0, 1) := by decide +kernel
theorem dX12_youngest_1 : decode cX12_youngest 1 = .ok (.iconst 0, 1) := by decide +kernel
theorem dX12_youngest_2 : decode cX12_youngest 2 = .ok (.putfield 3, 3) := by decide +kernel
theorem dX12_youngest_5 : decode cX12_youngest 5 = .ok (.iconst (-1), 1) := by decide +kernel
theorem dX12_youngest_6 : decode cX12_youngest 6 = .ok (.istore_n 1, 1) := by decide +kernel
theorem dX12_youngest_7 : decode cX12_youngest 7 = .ok (.iconst 0, 1) := by decide +kernel
theorem dX12_youngest_8 : decode cX12_youngest 8 = .ok (.istore_n 2, 1) := by decide +kernel
theorem dX12_youngest_9 : decode cX12_youngest 9 = .ok (.iload_n 2, 1) := by decide +kernel
theorem dX12_youngest_10 : decode cX12_youngest 10 = .ok (.aload_n 0, 1) := by decide +kernel
theorem dX12_youngest_11 : decode cX12_youngest 11 = .ok (.invokevirtual 78, 3) := by decide +kernel
theorem dX12_youngest_14 : decode cX12_youngest 14 = .ok (.if_icmp .ge 31, 3) := by decide +kernel
theorem dX12_youngest_17 : decode cX12_youngest 17 = .ok (.iload_n 1, 1) := by decide +kernel
theorem dX12_youngest_18 : decode cX12_youngest 18 = .ok (.iconst (-1), 1) := by decide +kernel
theorem dX12_youngest_19 : decode cX12_youngest 19 = .ok (.if_icmp .eq 18, 3) := by decide +kernel
theorem dX12_youngest_22 : decode cX12_youngest 22 = .ok (.aload_n 0, 1) := by decide +kernel
theorem dX12_youngest_23 : decode cX12_youngest 23 = .ok (.iload_n 2, 1) := by decide +kernel
theorem dX12_youngest_24 : decode cX12_youngest 24 = .ok (.iconst 0, 1) := by decide +kernel
theorem dX12_youngest_25 : decode cX12_youngest 25 = .ok (.invokevirtual 86, 3) := by decide +kernel
theorem dX12_youngest_28 : decode cX12_youngest 28 = .ok (.aload_n 0, 1) := by decide +kernel
theorem dX12_youngest_29 : decode cX12_youngest 29 = .ok (.iload_n 1, 1) := by decide +kernel
theorem dX12_youngest_30 : decode cX12_youngest 30 = .ok (.iconst 0, 1) := by decide +kernel
theorem dX12_youngest_31 : decode cX12_youngest 31 = .ok (.invokevirtual 86, 3) := by decide +kernel
theorem dX12_youngest_34 : decode cX12_youngest 34 = .ok (.if_icmp .ge 5, 3) := by decide +kernel
theorem dX12_youngest_37 : decode cX12_youngest 37 = .ok (.iload_n 2, 1) := by decide +kernel
theorem dX12_youngest_38 : decode cX12_youngest 38 = .ok (.istore_n 1, 1) := by decide +kernel
theorem dX12_youngest_39 : decode cX12_youngest 39 = .ok (.iinc 2 1, 3) := by decide +kernel
theorem dX12_youngest_42 : decode cX12_youngest 42 = .ok (.goto (-33), 3) := by decide +kernel
theorem dX12_youngest_45 : decode cX12_youngest 45 = .ok (.iload_n 1, 1) := by decide +kernel
theorem dX12_youngest_46 : decode cX12_youngest 46 = .ok (.ireturn, 1) := by decide +kernel
theorem dX12_crib_0 : decode cX12_crib 0 = .ok (.aload_n 0, 1) := by decide +kernel
theorem dX12_crib_1 : decode cX12_crib 1 = .ok (.iconst 0, 1) := by decide +kernel
theorem dX12_crib_2 : decode cX12_crib 2 = .ok (.putfield 3, 3) := by decide +kernel
theorem dX12_crib_5 : decode cX12_crib 5 = .ok (.aload_n 0, 1) := by decide +kernel
theorem dX12_crib_6 : decode cX12_crib 6 = .ok (.invokevirtual 381, 3) := by decide +kernel
theorem dX12_crib_9 : decode cX12_crib 9 = .ok (.ireturn, 1) := by decide +kernel
theorem dX12_spread_0 : decode cX12_spread 0 = .ok (.aload_n 0, 1) := by decide +kernel
theorem dX12_spread_1 : decode cX12_spread 1 = .ok (.iconst 0, 1) := by decide +kernel
theorem dX12_spread_2 : decode cX12_spread 2 = .ok (.putfield 3, 3) := by decide +kernel
theorem dX12_spread_5 : decode cX12_spread 5 = .ok (.ldc 137, 2) := by decide +kernel
theorem dX12_spread_7 : decode cX12_spread 7 = .ok (.istore_n 1, 1) := by decide +kernel
theorem dX12_spread_8 : decode cX12_spread 8 = .ok (.iconst 0, 1) := by decide +kernel
theorem dX12_spread_9 : decode cX12_spread 9 = .ok (.istore_n 2, 1) := by decide +kernel
theorem dX12_spread_10 : decode cX12_spread 10 = .ok (.iload_n 2, 1) := by decide +kernel
theorem dX12_spread_11 : decode cX12_spread 11 = .ok (.aload_n 0, 1) := by decide +kernel
theorem dX12_spread_12 : decode cX12_spread 12 = .ok (.invokevirtual 78, 3) := by decide +kernel
theorem dX12_spread_15 : decode cX12_spread 15 = .ok (.if_icmp .ge 68, 3) := by decide +kernel
theorem dX12_spread_18 : decode cX12_spread 18 = .ok (.iconst 0, 1) := by decide +kernel
theorem dX12_spread_19 : decode cX12_spread 19 = .ok (.istore_n 3, 1) := by decide +kernel
theorem dX12_spread_20 : decode cX12_spread 20 = .ok (.iconst 0, 1) := by decide +kernel
theorem dX12_spread_21 : decode cX12_spread 21 = .ok (.istore 4, 2) := by decide +kernel
theorem dX12_spread_23 : decode cX12_spread 23 = .ok (.iload 4, 2) := by decide +kernel
theorem dX12_spread_25 : decode cX12_spread 25 = .ok (.aload_n 0, 1) := by decide +kernel
theorem dX12_spread_26 : decode cX12_spread 26 = .ok (.invokevirtual 78, 3) := by decide +kernel
theorem dX12_spread_29 : decode cX12_spread 29 = .ok (.if_icmp .ge 42, 3) := by decide +kernel
theorem dX12_spread_32 : decode cX12_spread 32 = .ok (.iload_n 3, 1) := by decide +kernel
theorem dX12_spread_33 : decode cX12_spread 33 = .ok (.aload_n 0, 1) := by decide +kernel
theorem dX12_spread_34 : decode cX12_spread 34 = .ok (.iload 4, 2) := by decide +kernel
theorem dX12_spread_36 : decode cX12_spread 36 = .ok (.iconst 0, 1) := by decide +kernel
theorem dX12_spread_37 : decode cX12_spread 37 = .ok (.invokevirtual 86, 3) := by decide +kernel
theorem dX12_spread_40 : decode cX12_spread 40 = .ok (.aload_n 0, 1) := by decide +kernel
theorem dX12_spread_41 : decode cX12_spread 41 = .ok (.iload_n 2, 1) := by decide +kernel
theorem dX12_spread_42 : decode cX12_spread 42 = .ok (.iconst 0, 1) := by decide +kernel
theorem dX12_spread_43 : decode cX12_spread 43 = .ok (.invokevirtual 86, 3) := by decide +kernel
theorem dX12_spread_46 : decode cX12_spread 46 = .ok (.isub, 1) := by decide +kernel
theorem dX12_spread_47 : decode cX12_spread 47 = .ok (.aload_n 0, 1) := by decide +kernel
theorem dX12_spread_48 : decode cX12_spread 48 = .ok (.getfield 13, 3) := by decide +kernel
theorem dX12_spread_51 : decode cX12_spread 51 = .ok (.iconst 4, 1) := by decide +kernel
theorem dX12_spread_52 : decode cX12_spread 52 = .ok (.iaload, 1) := by decide +kernel
theorem dX12_spread_53 : decode cX12_spread 53 = .ok (.iadd, 1) := by decide +kernel
theorem dX12_spread_54 : decode cX12_spread 54 = .ok (.aload_n 0, 1) := by decide +kernel
theorem dX12_spread_55 : decode cX12_spread 55 = .ok (.getfield 13, 3) := by decide +kernel
theorem dX12_spread_58 : decode cX12_spread 58 = .ok (.iconst 4, 1) := by decide +kernel
theorem dX12_spread_59 : decode cX12_spread 59 = .ok (.iaload, 1) := by decide +kernel
theorem dX12_spread_60 : decode cX12_spread 60 = .ok (.irem, 1) := by decide +kernel
theorem dX12_spread_61 : decode cX12_spread 61 = .ok (.invokestatic 180, 3) := by decide +kernel
theorem dX12_spread_64 : decode cX12_spread 64 = .ok (.istore_n 3, 1) := by decide +kernel
theorem dX12_spread_65 : decode cX12_spread 65 = .ok (.iinc 4 1, 3) := by decide +kernel
theorem dX12_spread_68 : decode cX12_spread 68 = .ok (.goto (-45), 3) := by decide +kernel
theorem dX12_spread_71 : decode cX12_spread 71 = .ok (.iload_n 1, 1) := by decide +kernel
theorem dX12_spread_72 : decode cX12_spread 72 = .ok (.iload_n 3, 1) := by decide +kernel
theorem dX12_spread_73 : decode cX12_spread 73 = .ok (.invokestatic 305, 3) := by decide +kernel
theorem dX12_spread_76 : decode cX12_spread 76 = .ok (.istore_n 1, 1) := by decide +kernel
theorem dX12_spread_77 : decode cX12_spread 77 = .ok (.iinc 2 1, 3) := by decide +kernel
theorem dX12_spread_80 : decode cX12_spread 80 = .ok (.goto (-70), 3) := by decide +kernel
theorem dX12_spread_83 : decode cX12_spread 83 = .ok (.iload_n 1, 1) := by decide +kernel
theorem dX12_spread_84 : decode cX12_spread 84 = .ok (.ldc 137, 2) := by decide +kernel
theorem dX12_spread_86 : decode cX12_spread 86 = .ok (.if_icmp .ne 7, 3) := by decide +kernel
theorem dX12_spread_89 : decode cX12_spread 89 = .ok (.iconst 0, 1) := by decide +kernel
theorem dX12_spread_90 : decode cX12_spread 90 = .ok (.goto 4, 3) := by decide +kernel
theorem dX12_spread_93 : decode cX12_spread 93 = .ok (.iload_n 1, 1) := by decide +kernel
theorem dX12_spread_94 : decode cX12_spread 94 = .ok (.ireturn, 1) := by decide +kernel
theorem dX12_trial_0 : decode cX12_trial 0 = .ok (.aload_n 0, 1) := by decide +kernel
theorem dX12_trial_1 : decode cX12_trial 1 = .ok (.iconst 0, 1) := by decide +kernel
theorem dX12_trial_2 : decode cX12_trial 2 = .ok (.putfield 3, 3) := by decide +kernel
theorem dX12_trial_5 : decode cX12_trial 5 = .ok (.aload_n 0, 1) := by decide +kernel
theorem dX12_trial_6 : decode cX12_trial 6 = .ok (.iload_n 1, 1) := by decide +kernel
theorem dX12_trial_7 : decode cX12_trial 7 = .ok (.iconst 0, 1) := by decide +kernel
theorem dX12_trial_8 : decode cX12_trial 8 = .ok (.bipush 100, 2) := by decide +kernel
theorem dX12_trial_10 : decode cX12_trial 10 = .ok (.invokestatic 82, 3) := by decide +kernel
theorem dX12_trial_13 : decode cX12_trial 13 = .ok (.ifCond .ne 7, 3) := by decide +kernel
theorem dX12_trial_16 : decode cX12_trial 16 = .ok (.iconst 1, 1) := by decide +kernel
theorem dX12_trial_17 : decode cX12_trial 17 = .ok (.goto 4, 3) := by decide +kernel
theorem dX12_trial_20 : decode cX12_trial 20 = .ok (.iconst 0, 1) := by decide +kernel
theorem dX12_trial_21 : decode cX12_trial 21 = .ok (.iconst 1, 1) := by decide +kernel
theorem dX12_trial_22 : decode cX12_trial 22 = .ok (.invokevirtual 291, 3) := by decide +kernel
theorem dX12_trial_25 : decode cX12_trial 25 = .ok (.ifCond .eq 5, 3) := by decide +kernel
theorem dX12_trial_28 : decode cX12_trial 28 = .ok (.iconst 0, 1) := by decide +kernel
theorem dX12_trial_29 : decode cX12_trial 29 = .ok (.ireturn, 1) := by decide +kernel
theorem dX12_trial_30 : decode cX12_trial 30 = .ok (.aload_n 0, 1) := by decide +kernel
theorem dX12_trial_31 : decode cX12_trial 31 = .ok (.invokevirtual 346, 3) := by decide +kernel
theorem dX12_trial_34 : decode cX12_trial 34 = .ok (.aload_n 0, 1) := by decide +kernel
theorem dX12_trial_35 : decode cX12_trial 35 = .ok (.iload_n 1, 1) := by decide +kernel
theorem dX12_trial_36 : decode cX12_trial 36 = .ok (.invokevirtual 378, 3) := by decide +kernel
theorem dX12_trial_39 : decode cX12_trial 39 = .ok (.pop, 1) := by decide +kernel
theorem dX12_trial_40 : decode cX12_trial 40 = .ok (.iload_n 2, 1) := by decide +kernel
theorem dX12_trial_41 : decode cX12_trial 41 = .ok (.ifCond .eq 10, 3) := by decide +kernel
theorem dX12_trial_44 : decode cX12_trial 44 = .ok (.aload_n 0, 1) := by decide +kernel
theorem dX12_trial_45 : decode cX12_trial 45 = .ok (.invokevirtual 381, 3) := by decide +kernel
theorem dX12_trial_48 : decode cX12_trial 48 = .ok (.goto 7, 3) := by decide +kernel
theorem dX12_trial_51 : decode cX12_trial 51 = .ok (.aload_n 0, 1) := by decide +kernel
theorem dX12_trial_52 : decode cX12_trial 52 = .ok (.invokevirtual 478, 3) := by decide +kernel
theorem dX12_trial_55 : decode cX12_trial 55 = .ok (.istore_n 3, 1) := by decide +kernel
theorem dX12_trial_56 : decode cX12_trial 56 = .ok (.aload_n 0, 1) := by decide +kernel
theorem dX12_trial_57 : decode cX12_trial 57 = .ok (.invokevirtual 349, 3) := by decide +kernel
theorem dX12_trial_60 : decode cX12_trial 60 = .ok (.iload_n 3, 1) := by decide +kernel
theorem dX12_trial_61 : decode cX12_trial 61 = .ok (.ireturn, 1) := by decide +kernel
theorem dX12_span_0 : decode cX12_span 0 = .ok (.aload_n 0, 1) := by decide +kernel
theorem dX12_span_1 : decode cX12_span 1 = .ok (.iconst 0, 1) := by decide +kernel
theorem dX12_span_2 : decode cX12_span 2 = .ok (.putfield 3, 3) := by decide +kernel
theorem dX12_span_5 : decode cX12_span 5 = .ok (.aload_n 0, 1) := by decide +kernel
theorem dX12_span_6 : decode cX12_span 6 = .ok (.iload_n 1, 1) := by decide +kernel
theorem dX12_span_7 : decode cX12_span 7 = .ok (.iconst 0, 1) := by decide +kernel
theorem dX12_span_8 : decode cX12_span 8 = .ok (.bipush 100, 2) := by decide +kernel
theorem dX12_span_10 : decode cX12_span 10 = .ok (.invokestatic 82, 3) := by decide +kernel
theorem dX12_span_13 : decode cX12_span 13 = .ok (.ifCond .ne 7, 3) := by decide +kernel
theorem dX12_span_16 : decode cX12_span 16 = .ok (.iconst 1, 1) := by decide +kernel
theorem dX12_span_17 : decode cX12_span 17 = .ok (.goto 4, 3) := by decide +kernel
theorem dX12_span_20 : decode cX12_span 20 = .ok (.iconst 0, 1) := by decide +kernel
theorem dX12_span_21 : decode cX12_span 21 = .ok (.iconst 1, 1) := by decide +kernel
theorem dX12_span_22 : decode cX12_span 22 = .ok (.invokevirtual 291, 3) := by decide +kernel
theorem dX12_span_25 : decode cX12_span 25 = .ok (.ifCond .eq 5, 3) := by decide +kernel
theorem dX12_span_28 : decode cX12_span 28 = .ok (.iconst 0, 1) := by decide +kernel
theorem dX12_span_29 : decode cX12_span 29 = .ok (.ireturn, 1) := by decide +kernel
theorem dX12_span_30 : decode cX12_span 30 = .ok (.aload_n 0, 1) := by decide +kernel
theorem dX12_span_31 : decode cX12_span 31 = .ok (.invokevirtual 346, 3) := by decide +kernel
theorem dX12_span_34 : decode cX12_span 34 = .ok (.iconst (-1), 1) := by decide +kernel
theorem dX12_span_35 : decode cX12_span 35 = .ok (.istore_n 3, 1) := by decide +kernel
theorem dX12_span_36 : decode cX12_span 36 = .ok (.iconst 1, 1) := by decide +kernel
theorem dX12_span_37 : decode cX12_span 37 = .ok (.istore 4, 2) := by decide +kernel
theorem dX12_span_39 : decode cX12_span 39 = .ok (.iload 4, 2) := by decide +kernel
theorem dX12_span_41 : decode cX12_span 41 = .ok (.bipush 6, 2) := by decide +kernel
theorem dX12_span_43 : decode cX12_span 43 = .ok (.if_icmp .gt 63, 3) := by decide +kernel
theorem dX12_span_46 : decode cX12_span 46 = .ok (.aload_n 0, 1) := by decide +kernel
theorem dX12_span_47 : decode cX12_span 47 = .ok (.getfield 13, 3) := by decide +kernel
theorem dX12_span_50 : decode cX12_span 50 = .ok (.bipush 8, 2) := by decide +kernel
theorem dX12_span_52 : decode cX12_span 52 = .ok (.iload 4, 2) := by decide +kernel
theorem dX12_span_54 : decode cX12_span 54 = .ok (.iastore, 1) := by decide +kernel
theorem dX12_span_55 : decode cX12_span 55 = .ok (.aload_n 0, 1) := by decide +kernel
theorem dX12_span_56 : decode cX12_span 56 = .ok (.iload_n 1, 1) := by decide +kernel
theorem dX12_span_57 : decode cX12_span 57 = .ok (.invokevirtual 378, 3) := by decide +kernel
theorem dX12_span_60 : decode cX12_span 60 = .ok (.pop, 1) := by decide +kernel
theorem dX12_span_61 : decode cX12_span 61 = .ok (.aload_n 0, 1) := by decide +kernel
theorem dX12_span_62 : decode cX12_span 62 = .ok (.invokevirtual 478, 3) := by decide +kernel
theorem dX12_span_65 : decode cX12_span 65 = .ok (.istore 5, 2) := by decide +kernel
theorem dX12_span_67 : decode cX12_span 67 = .ok (.aload_n 0, 1) := by decide +kernel
theorem dX12_span_68 : decode cX12_span 68 = .ok (.invokevirtual 349, 3) := by decide +kernel
theorem dX12_span_71 : decode cX12_span 71 = .ok (.iload_n 3, 1) := by decide +kernel
theorem dX12_span_72 : decode cX12_span 72 = .ok (.ifCond .ge 8, 3) := by decide +kernel
theorem dX12_span_75 : decode cX12_span 75 = .ok (.iload 5, 2) := by decide +kernel
theorem dX12_span_77 : decode cX12_span 77 = .ok (.goto 22, 3) := by decide +kernel
theorem dX12_span_80 : decode cX12_span 80 = .ok (.iload_n 2, 1) := by decide +kernel
theorem dX12_span_81 : decode cX12_span 81 = .ok (.ifCond .eq 12, 3) := by decide +kernel
theorem dX12_span_84 : decode cX12_span 84 = .ok (.iload_n 3, 1) := by decide +kernel
theorem dX12_span_85 : decode cX12_span 85 = .ok (.iload 5, 2) := by decide +kernel
theorem dX12_span_87 : decode cX12_span 87 = .ok (.invokestatic 180, 3) := by decide +kernel
theorem dX12_span_90 : decode cX12_span 90 = .ok (.goto 9, 3) := by decide +kernel
theorem dX12_span_93 : decode cX12_span 93 = .ok (.iload_n 3, 1) := by decide +kernel
theorem dX12_span_94 : decode cX12_span 94 = .ok (.iload 5, 2) := by decide +kernel
theorem dX12_span_96 : decode cX12_span 96 = .ok (.invokestatic 305, 3) := by decide +kernel
theorem dX12_span_99 : decode cX12_span 99 = .ok (.istore_n 3, 1) := by decide +kernel
theorem dX12_span_100 : decode cX12_span 100 = .ok (.iinc 4 1, 3) := by decide +kernel
theorem dX12_span_103 : decode cX12_span 103 = .ok (.goto (-64), 3) := by decide +kernel
theorem dX12_span_106 : decode cX12_span 106 = .ok (.iload_n 3, 1) := by decide +kernel
theorem dX12_span_107 : decode cX12_span 107 = .ok (.ireturn, 1) := by decide +kernel
theorem dX12_led_0 : decode cX12_led 0 = .ok (.aload_n 0, 1) := by decide +kernel
theorem dX12_led_1 : decode cX12_led 1 = .ok (.iconst 0, 1) := by decide +kernel
theorem dX12_led_2 : decode cX12_led 2 = .ok (.putfield 3, 3) := by decide +kernel
theorem dX12_led_5 : decode cX12_led 5 = .ok (.aload_n 0, 1) := by decide +kernel
theorem dX12_led_6 : decode cX12_led 6 = .ok (.aload_n 0, 1) := by decide +kernel
theorem dX12_led_7 : decode cX12_led 7 = .ok (.iload_n 1, 1) := by decide +kernel
theorem dX12_led_8 : decode cX12_led 8 = .ok (.invokevirtual 331, 3) := by decide +kernel
theorem dX12_led_11 : decode cX12_led 11 = .ok (.iconst 1, 1) := by decide +kernel
theorem dX12_led_12 : decode cX12_led 12 = .ok (.invokevirtual 291, 3) := by decide +kernel
theorem dX12_led_15 : decode cX12_led 15 = .ok (.ifCond .eq 5, 3) := by decide +kernel
theorem dX12_led_18 : decode cX12_led 18 = .ok (.iconst 0, 1) := by decide +kernel
theorem dX12_led_19 : decode cX12_led 19 = .ok (.ireturn, 1) := by decide +kernel
theorem dX12_led_20 : decode cX12_led 20 = .ok (.iconst 0, 1) := by decide +kernel
theorem dX12_led_21 : decode cX12_led 21 = .ok (.istore_n 3, 1) := by decide +kernel
theorem dX12_led_22 : decode cX12_led 22 = .ok (.iconst (-1), 1) := by decide +kernel
theorem dX12_led_23 : decode cX12_led 23 = .ok (.istore 4, 2) := by decide +kernel
theorem dX12_led_25 : decode cX12_led 25 = .ok (.aload_n 0, 1) := by decide +kernel
theorem dX12_led_26 : decode cX12_led 26 = .ok (.getfield 13, 3) := by decide +kernel
theorem dX12_led_29 : decode cX12_led 29 = .ok (.bipush 7, 2) := by decide +kernel
theorem dX12_led_31 : decode cX12_led 31 = .ok (.iaload, 1) := by decide +kernel
theorem dX12_led_32 : decode cX12_led 32 = .ok (.iconst 1, 1) := by decide +kernel
theorem dX12_led_33 : decode cX12_led 33 = .ok (.isub, 1) := by decide +kernel
theorem dX12_led_34 : decode cX12_led 34 = .ok (.istore 5, 2) := by decide +kernel
theorem dX12_led_36 : decode cX12_led 36 = .ok (.iload 5, 2) := by decide +kernel
theorem dX12_led_38 : decode cX12_led 38 = .ok (.ifCond .lt 35, 3) := by decide +kernel
theorem dX12_led_41 : decode cX12_led 41 = .ok (.aload_n 0, 1) := by decide +kernel
theorem dX12_led_42 : decode cX12_led 42 = .ok (.iload 5, 2) := by decide +kernel
theorem dX12_led_44 : decode cX12_led 44 = .ok (.iconst 2, 1) := by decide +kernel
theorem dX12_led_45 : decode cX12_led 45 = .ok (.invokevirtual 328, 3) := by decide +kernel
theorem dX12_led_48 : decode cX12_led 48 = .ok (.iload_n 1, 1) := by decide +kernel
theorem dX12_led_49 : decode cX12_led 49 = .ok (.if_icmp .eq 6, 3) := by decide +kernel
theorem dX12_led_52 : decode cX12_led 52 = .ok (.goto 15, 3) := by decide +kernel
theorem dX12_led_55 : decode cX12_led 55 = .ok (.iinc 3 1, 3) := by decide +kernel
theorem dX12_led_58 : decode cX12_led 58 = .ok (.aload_n 0, 1) := by decide +kernel
theorem dX12_led_59 : decode cX12_led 59 = .ok (.iload 5, 2) := by decide +kernel
theorem dX12_led_61 : decode cX12_led 61 = .ok (.iconst 0, 1) := by decide +kernel
theorem dX12_led_62 : decode cX12_led 62 = .ok (.invokevirtual 328, 3) := by decide +kernel
theorem dX12_led_65 : decode cX12_led 65 = .ok (.istore 4, 2) := by decide +kernel
theorem dX12_led_67 : decode cX12_led 67 = .ok (.iinc 5 (-1), 3) := by decide +kernel
theorem dX12_led_70 : decode cX12_led 70 = .ok (.goto (-34), 3) := by decide +kernel
theorem dX12_led_73 : decode cX12_led 73 = .ok (.iload_n 2, 1) := by decide +kernel
theorem dX12_led_74 : decode cX12_led 74 = .ok (.ifCond .eq 8, 3) := by decide +kernel
theorem dX12_led_77 : decode cX12_led 77 = .ok (.iload 4, 2) := by decide +kernel
theorem dX12_led_79 : decode cX12_led 79 = .ok (.goto 4, 3) := by decide +kernel
theorem dX12_led_82 : decode cX12_led 82 = .ok (.iload_n 3, 1) := by decide +kernel
theorem dX12_led_83 : decode cX12_led 83 = .ok (.ireturn, 1) := by decide +kernel
theorem dX12_log_0 : decode cX12_log 0 = .ok (.aload_n 0, 1) := by decide +kernel
theorem dX12_log_1 : decode cX12_log 1 = .ok (.iconst 0, 1) := by decide +kernel
theorem dX12_log_2 : decode cX12_log 2 = .ok (.putfield 3, 3) := by decide +kernel
theorem dX12_log_5 : decode cX12_log 5 = .ok (.aload_n 0, 1) := by decide +kernel
theorem dX12_log_6 : decode cX12_log 6 = .ok (.iload_n 2, 1) := by decide +kernel
theorem dX12_log_7 : decode cX12_log 7 = .ok (.iconst 0, 1) := by decide +kernel
theorem dX12_log_8 : decode cX12_log 8 = .ok (.iconst 4, 1) := by decide +kernel
theorem dX12_log_9 : decode cX12_log 9 = .ok (.invokestatic 82, 3) := by decide +kernel
theorem dX12_log_12 : decode cX12_log 12 = .ok (.ifCond .ne 7, 3) := by decide +kernel
theorem dX12_log_15 : decode cX12_log 15 = .ok (.iconst 1, 1) := by decide +kernel
theorem dX12_log_16 : decode cX12_log 16 = .ok (.goto 4, 3) := by decide +kernel
theorem dX12_log_19 : decode cX12_log 19 = .ok (.iconst 0, 1) := by decide +kernel
theorem dX12_log_20 : decode cX12_log 20 = .ok (.iconst 1, 1) := by decide +kernel
theorem dX12_log_21 : decode cX12_log 21 = .ok (.invokevirtual 291, 3) := by decide +kernel
theorem dX12_log_24 : decode cX12_log 24 = .ok (.ifCond .eq 5, 3) := by decide +kernel
theorem dX12_log_27 : decode cX12_log 27 = .ok (.iconst 0, 1) := by decide +kernel
theorem dX12_log_28 : decode cX12_log 28 = .ok (.ireturn, 1) := by decide +kernel
theorem dX12_log_29 : decode cX12_log 29 = .ok (.iload_n 1, 1) := by decide +kernel
theorem dX12_log_30 : decode cX12_log 30 = .ok (.iconst 0, 1) := by decide +kernel
theorem dX12_log_31 : decode cX12_log 31 = .ok (.aload_n 0, 1) := by decide +kernel
theorem dX12_log_32 : decode cX12_log 32 = .ok (.getfield 13, 3) := by decide +kernel
theorem dX12_log_35 : decode cX12_log 35 = .ok (.bipush 7, 2) := by decide +kernel
theorem dX12_log_37 : decode cX12_log 37 = .ok (.iaload, 1) := by decide +kernel
theorem dX12_log_38 : decode cX12_log 38 = .ok (.iconst 1, 1) := by decide +kernel
theorem dX12_log_39 : decode cX12_log 39 = .ok (.isub, 1) := by decide +kernel
theorem dX12_log_40 : decode cX12_log 40 = .ok (.invokestatic 82, 3) := by decide +kernel
theorem dX12_log_43 : decode cX12_log 43 = .ok (.ifCond .eq 12, 3) := by decide +kernel
theorem dX12_log_46 : decode cX12_log 46 = .ok (.aload_n 0, 1) := by decide +kernel
theorem dX12_log_47 : decode cX12_log 47 = .ok (.iload_n 1, 1) := by decide +kernel
theorem dX12_log_48 : decode cX12_log 48 = .ok (.iload_n 2, 1) := by decide +kernel
theorem dX12_log_49 : decode cX12_log 49 = .ok (.invokevirtual 328, 3) := by decide +kernel
theorem dX12_log_52 : decode cX12_log 52 = .ok (.goto 4, 3) := by decide +kernel
theorem dX12_log_55 : decode cX12_log 55 = .ok (.iconst (-1), 1) := by decide +kernel
theorem dX12_log_56 : decode cX12_log 56 = .ok (.ireturn, 1) := by decide +kernel
theorem dX12_seed_0 : decode cX12_seed 0 = .ok (.aload_n 0, 1) := by decide +kernel
theorem dX12_seed_1 : decode cX12_seed 1 = .ok (.iconst 0, 1) := by decide +kernel
theorem dX12_seed_2 : decode cX12_seed 2 = .ok (.putfield 3, 3) := by decide +kernel
theorem dX12_seed_5 : decode cX12_seed 5 = .ok (.aload_n 0, 1) := by decide +kernel
theorem dX12_seed_6 : decode cX12_seed 6 = .ok (.getfield 13, 3) := by decide +kernel
theorem dX12_seed_9 : decode cX12_seed 9 = .ok (.bipush 8, 2) := by decide +kernel
theorem dX12_seed_11 : decode cX12_seed 11 = .ok (.iaload, 1) := by decide +kernel
theorem dX12_seed_12 : decode cX12_seed 12 = .ok (.istore_n 2, 1) := by decide +kernel
theorem dX12_seed_13 : decode cX12_seed 13 = .ok (.aload_n 0, 1) := by decide +kernel
theorem dX12_seed_14 : decode cX12_seed 14 = .ok (.getfield 13, 3) := by decide +kernel
theorem dX12_seed_17 : decode cX12_seed 17 = .ok (.bipush 8, 2) := by decide +kernel
theorem dX12_seed_19 : decode cX12_seed 19 = .ok (.iload_n 1, 1) := by decide +kernel
theorem dX12_seed_20 : decode cX12_seed 20 = .ok (.iastore, 1) := by decide +kernel
theorem dX12_seed_21 : decode cX12_seed 21 = .ok (.iload_n 2, 1) := by decide +kernel
theorem dX12_seed_22 : decode cX12_seed 22 = .ok (.ireturn, 1) := by decide +kernel
theorem dX12_count_0 : decode cX12_count 0 = .ok (.aload_n 0, 1) := by decide +kernel
theorem dX12_count_1 : decode cX12_count 1 = .ok (.iconst 0, 1) := by decide +kernel
theorem dX12_count_2 : decode cX12_count 2 = .ok (.putfield 3, 3) := by decide +kernel
theorem dX12_count_5 : decode cX12_count 5 = .ok (.iconst 0, 1) := by decide +kernel
theorem dX12_count_6 : decode cX12_count 6 = .ok (.istore_n 2, 1) := by decide +kernel
theorem dX12_count_7 : decode cX12_count 7 = .ok (.iconst 0, 1) := by decide +kernel
theorem dX12_count_8 : decode cX12_count 8 = .ok (.istore_n 3, 1) := by decide +kernel
theorem dX12_count_9 : decode cX12_count 9 = .ok (.iconst 0, 1) := by decide +kernel
theorem dX12_count_10 : decode cX12_count 10 = .ok (.istore 4, 2) := by decide +kernel
theorem dX12_count_12 : decode cX12_count 12 = .ok (.iconst 0, 1) := by decide +kernel
theorem dX12_count_13 : decode cX12_count 13 = .ok (.istore 5, 2) := by decide +kernel
theorem dX12_count_15 : decode cX12_count 15 = .ok (.iload 5, 2) := by decide +kernel
theorem dX12_count_17 : decode cX12_count 17 = .ok (.aload_n 0, 1) := by decide +kernel
theorem dX12_count_18 : decode cX12_count 18 = .ok (.invokevirtual 78, 3) := by decide +kernel
theorem dX12_count_21 : decode cX12_count 21 = .ok (.if_icmp .ge 61, 3) := by decide +kernel
theorem dX12_count_24 : decode cX12_count 24 = .ok (.iload_n 2, 1) := by decide +kernel
theorem dX12_count_25 : decode cX12_count 25 = .ok (.aload_n 0, 1) := by decide +kernel
theorem dX12_count_26 : decode cX12_count 26 = .ok (.iload 5, 2) := by decide +kernel
theorem dX12_count_28 : decode cX12_count 28 = .ok (.iconst 1, 1) := by decide +kernel
theorem dX12_count_29 : decode cX12_count 29 = .ok (.invokevirtual 86, 3) := by decide +kernel
theorem dX12_count_32 : decode cX12_count 32 = .ok (.iadd, 1) := by decide +kernel
theorem dX12_count_33 : decode cX12_count 33 = .ok (.istore_n 2, 1) := by decide +kernel
theorem dX12_count_34 : decode cX12_count 34 = .ok (.iload_n 3, 1) := by decide +kernel
theorem dX12_count_35 : decode cX12_count 35 = .ok (.aload_n 0, 1) := by decide +kernel
theorem dX12_count_36 : decode cX12_count 36 = .ok (.iload 5, 2) := by decide +kernel
theorem dX12_count_38 : decode cX12_count 38 = .ok (.invokevirtual 358, 3) := by decide +kernel
theorem dX12_count_41 : decode cX12_count 41 = .ok (.ifCond .eq 10, 3) := by decide +kernel
theorem dX12_count_44 : decode cX12_count 44 = .ok (.iconst 1, 1) := by decide +kernel
theorem dX12_count_45 : decode cX12_count 45 = .ok (.iload 5, 2) := by decide +kernel
theorem dX12_count_47 : decode cX12_count 47 = .ok (.ishl, 1) := by decide +kernel
theorem dX12_count_48 : decode cX12_count 48 = .ok (.goto 4, 3) := by decide +kernel
theorem dX12_count_51 : decode cX12_count 51 = .ok (.iconst 0, 1) := by decide +kernel
theorem dX12_count_52 : decode cX12_count 52 = .ok (.ior, 1) := by decide +kernel
theorem dX12_count_53 : decode cX12_count 53 = .ok (.istore_n 3, 1) := by decide +kernel
theorem dX12_count_54 : decode cX12_count 54 = .ok (.iload 4, 2) := by decide +kernel
theorem dX12_count_56 : decode cX12_count 56 = .ok (.aload_n 0, 1) := by decide +kernel
theorem dX12_count_57 : decode cX12_count 57 = .ok (.iload 5, 2) := by decide +kernel
theorem dX12_count_59 : decode cX12_count 59 = .ok (.invokevirtual 166, 3) := by decide +kernel
theorem dX12_count_62 : decode cX12_count 62 = .ok (.ifCond .eq 7, 3) := by decide +kernel
theorem dX12_count_65 : decode cX12_count 65 = .ok (.iconst 0, 1) := by decide +kernel
theorem dX12_count_66 : decode cX12_count 66 = .ok (.goto 7, 3) := by decide +kernel
theorem dX12_count_69 : decode cX12_count 69 = .ok (.iconst 1, 1) := by decide +kernel
theorem dX12_count_70 : decode cX12_count 70 = .ok (.iload 5, 2) := by decide +kernel
theorem dX12_count_72 : decode cX12_count 72 = .ok (.ishl, 1) := by decide +kernel
theorem dX12_count_73 : decode cX12_count 73 = .ok (.ior, 1) := by decide +kernel
theorem dX12_count_74 : decode cX12_count 74 = .ok (.istore 4, 2) := by decide +kernel
theorem dX12_count_76 : decode cX12_count 76 = .ok (.iinc 5 1, 3) := by decide +kernel
theorem dX12_count_79 : decode cX12_count 79 = .ok (.goto (-64), 3) := by decide +kernel
theorem dX12_count_82 : decode cX12_count 82 = .ok (.iload_n 1, 1) := by decide +kernel
theorem dX12_count_83 : decode cX12_count 83 = .ok (.tableswitch 105 2 12 #[57, 105, 105, 105, 105, 80, 85, 87, 89, 92, 100], 57) := by decide +kernel
theorem dX12_count_140 : decode cX12_count 140 = .ok (.aload_n 0, 1) := by decide +kernel
theorem dX12_count_141 : decode cX12_count 141 = .ok (.getfield 13, 3) := by decide +kernel
theorem dX12_count_144 : decode cX12_count 144 = .ok (.iconst 2, 1) := by decide +kernel
theorem dX12_count_145 : decode cX12_count 145 = .ok (.iaload, 1) := by decide +kernel
theorem dX12_count_146 : decode cX12_count 146 = .ok (.iconst 1, 1) := by decide +kernel
theorem dX12_count_147 : decode cX12_count 147 = .ok (.if_icmp .ne 14, 3) := by decide +kernel
theorem dX12_count_150 : decode cX12_count 150 = .ok (.aload_n 0, 1) := by decide +kernel
theorem dX12_count_151 : decode cX12_count 151 = .ok (.getfield 13, 3) := by decide +kernel
theorem dX12_count_154 : decode cX12_count 154 = .ok (.sipush 445, 3) := by decide +kernel
theorem dX12_count_157 : decode cX12_count 157 = .ok (.iaload, 1) := by decide +kernel
theorem dX12_count_158 : decode cX12_count 158 = .ok (.goto 4, 3) := by decide +kernel
theorem dX12_count_161 : decode cX12_count 161 = .ok (.iconst (-1), 1) := by decide +kernel
theorem dX12_count_162 : decode cX12_count 162 = .ok (.ireturn, 1) := by decide +kernel
theorem dX12_count_163 : decode cX12_count 163 = .ok (.aload_n 0, 1) := by decide +kernel
theorem dX12_count_164 : decode cX12_count 164 = .ok (.invokevirtual 478, 3) := by decide +kernel
theorem dX12_count_167 : decode cX12_count 167 = .ok (.ireturn, 1) := by decide +kernel
theorem dX12_count_168 : decode cX12_count 168 = .ok (.iload_n 2, 1) := by decide +kernel
theorem dX12_count_169 : decode cX12_count 169 = .ok (.ireturn, 1) := by decide +kernel
theorem dX12_count_170 : decode cX12_count 170 = .ok (.iload_n 3, 1) := by decide +kernel
theorem dX12_count_171 : decode cX12_count 171 = .ok (.ireturn, 1) := by decide +kernel
theorem dX12_count_172 : decode cX12_count 172 = .ok (.iload 4, 2) := by decide +kernel
theorem dX12_count_174 : decode cX12_count 174 = .ok (.ireturn, 1) := by decide +kernel
theorem dX12_count_175 : decode cX12_count 175 = .ok (.aload_n 0, 1) := by decide +kernel
theorem dX12_count_176 : decode cX12_count 176 = .ok (.getfield 13, 3) := by decide +kernel
theorem dX12_count_179 : decode cX12_count 179 = .ok (.bipush 7, 2) := by decide +kernel
theorem dX12_count_181 : decode cX12_count 181 = .ok (.iaload, 1) := by decide +kernel
theorem dX12_count_182 : decode cX12_count 182 = .ok (.ireturn, 1) := by decide +kernel
theorem dX12_count_183 : decode cX12_count 183 = .ok (.aload_n 0, 1) := by decide +kernel
theorem dX12_count_184 : decode cX12_count 184 = .ok (.getfield 71, 3) := by decide +kernel
theorem dX12_count_187 : decode cX12_count 187 = .ok (.ireturn, 1) := by decide +kernel
theorem dX12_count_188 : decode cX12_count 188 = .ok (.iload_n 1, 1) := by decide +kernel
theorem dX12_count_189 : decode cX12_count 189 = .ok (.iconst 0, 1) := by decide +kernel
theorem dX12_count_190 : decode cX12_count 190 = .ok (.bipush 6, 2) := by decide +kernel
theorem dX12_count_192 : decode cX12_count 192 = .ok (.invokestatic 82, 3) := by decide +kernel
theorem dX12_count_195 : decode cX12_count 195 = .ok (.ifCond .eq 12, 3) := by decide +kernel
theorem dX12_count_198 : decode cX12_count 198 = .ok (.aload_n 0, 1) := by decide +kernel
theorem dX12_count_199 : decode cX12_count 199 = .ok (.getfield 13, 3) := by decide +kernel
theorem dX12_count_202 : decode cX12_count 202 = .ok (.iload_n 1, 1) := by decide +kernel
theorem dX12_count_203 : decode cX12_count 203 = .ok (.iaload, 1) := by decide +kernel
theorem dX12_count_204 : decode cX12_count 204 = .ok (.goto 4, 3) := by decide +kernel
theorem dX12_count_207 : decode cX12_count 207 = .ok (.iconst (-1), 1) := by decide +kernel
theorem dX12_count_208 : decode cX12_count 208 = .ok (.ireturn, 1) := by decide +kernel
theorem dJ6_numberOfTrailingZeros_0f7a4_0 : decode cJ6_numberOfTrailingZeros_0f7a4 0 = .ok (.iload_n 0, 1) := by decide +kernel
theorem dJ6_numberOfTrailingZeros_0f7a4_1 : decode cJ6_numberOfTrailingZeros_0f7a4 1 = .ok (.iconst (-1), 1) := by decide +kernel
theorem dJ6_numberOfTrailingZeros_0f7a4_2 : decode cJ6_numberOfTrailingZeros_0f7a4 2 = .ok (.ixor, 1) := by decide +kernel
theorem dJ6_numberOfTrailingZeros_0f7a4_3 : decode cJ6_numberOfTrailingZeros_0f7a4 3 = .ok (.iload_n 0, 1) := by decide +kernel
theorem dJ6_numberOfTrailingZeros_0f7a4_4 : decode cJ6_numberOfTrailingZeros_0f7a4 4 = .ok (.iconst 1, 1) := by decide +kernel
theorem dJ6_numberOfTrailingZeros_0f7a4_5 : decode cJ6_numberOfTrailingZeros_0f7a4 5 = .ok (.isub, 1) := by decide +kernel
theorem dJ6_numberOfTrailingZeros_0f7a4_6 : decode cJ6_numberOfTrailingZeros_0f7a4 6 = .ok (.iand, 1) := by decide +kernel
theorem dJ6_numberOfTrailingZeros_0f7a4_7 : decode cJ6_numberOfTrailingZeros_0f7a4 7 = .ok (.istore_n 0, 1) := by decide +kernel
theorem dJ6_numberOfTrailingZeros_0f7a4_8 : decode cJ6_numberOfTrailingZeros_0f7a4 8 = .ok (.iload_n 0, 1) := by decide +kernel
theorem dJ6_numberOfTrailingZeros_0f7a4_9 : decode cJ6_numberOfTrailingZeros_0f7a4 9 = .ok (.ifCond .gt 8, 3) := by decide +kernel
theorem dJ6_numberOfTrailingZeros_0f7a4_12 : decode cJ6_numberOfTrailingZeros_0f7a4 12 = .ok (.iload_n 0, 1) := by decide +kernel
theorem dJ6_numberOfTrailingZeros_0f7a4_13 : decode cJ6_numberOfTrailingZeros_0f7a4 13 = .ok (.bipush 32, 2) := by decide +kernel
theorem dJ6_numberOfTrailingZeros_0f7a4_15 : decode cJ6_numberOfTrailingZeros_0f7a4 15 = .ok (.iand, 1) := by decide +kernel
theorem dJ6_numberOfTrailingZeros_0f7a4_16 : decode cJ6_numberOfTrailingZeros_0f7a4 16 = .ok (.ireturn, 1) := by decide +kernel
theorem dJ6_numberOfTrailingZeros_0f7a4_17 : decode cJ6_numberOfTrailingZeros_0f7a4 17 = .ok (.iconst 1, 1) := by decide +kernel
theorem dJ6_numberOfTrailingZeros_0f7a4_18 : decode cJ6_numberOfTrailingZeros_0f7a4 18 = .ok (.istore_n 1, 1) := by decide +kernel
theorem dJ6_numberOfTrailingZeros_0f7a4_19 : decode cJ6_numberOfTrailingZeros_0f7a4 19 = .ok (.iload_n 0, 1) := by decide +kernel
theorem dJ6_numberOfTrailingZeros_0f7a4_20 : decode cJ6_numberOfTrailingZeros_0f7a4 20 = .ok (.ldc_w 264, 3) := by decide +kernel
theorem dJ6_numberOfTrailingZeros_0f7a4_23 : decode cJ6_numberOfTrailingZeros_0f7a4 23 = .ok (.if_icmp .le 11, 3) := by decide +kernel
theorem dJ6_numberOfTrailingZeros_0f7a4_26 : decode cJ6_numberOfTrailingZeros_0f7a4 26 = .ok (.iinc 1 16, 3) := by decide +kernel
theorem dJ6_numberOfTrailingZeros_0f7a4_29 : decode cJ6_numberOfTrailingZeros_0f7a4 29 = .ok (.iload_n 0, 1) := by decide +kernel
theorem dJ6_numberOfTrailingZeros_0f7a4_30 : decode cJ6_numberOfTrailingZeros_0f7a4 30 = .ok (.bipush 16, 2) := by decide +kernel
theorem dJ6_numberOfTrailingZeros_0f7a4_32 : decode cJ6_numberOfTrailingZeros_0f7a4 32 = .ok (.iushr, 1) := by decide +kernel
theorem dJ6_numberOfTrailingZeros_0f7a4_33 : decode cJ6_numberOfTrailingZeros_0f7a4 33 = .ok (.istore_n 0, 1) := by decide +kernel
theorem dJ6_numberOfTrailingZeros_0f7a4_34 : decode cJ6_numberOfTrailingZeros_0f7a4 34 = .ok (.iload_n 0, 1) := by decide +kernel
theorem dJ6_numberOfTrailingZeros_0f7a4_35 : decode cJ6_numberOfTrailingZeros_0f7a4 35 = .ok (.sipush 256, 3) := by decide +kernel
theorem dJ6_numberOfTrailingZeros_0f7a4_38 : decode cJ6_numberOfTrailingZeros_0f7a4 38 = .ok (.if_icmp .le 11, 3) := by decide +kernel
theorem dJ6_numberOfTrailingZeros_0f7a4_41 : decode cJ6_numberOfTrailingZeros_0f7a4 41 = .ok (.iinc 1 8, 3) := by decide +kernel
theorem dJ6_numberOfTrailingZeros_0f7a4_44 : decode cJ6_numberOfTrailingZeros_0f7a4 44 = .ok (.iload_n 0, 1) := by decide +kernel
theorem dJ6_numberOfTrailingZeros_0f7a4_45 : decode cJ6_numberOfTrailingZeros_0f7a4 45 = .ok (.bipush 8, 2) := by decide +kernel
theorem dJ6_numberOfTrailingZeros_0f7a4_47 : decode cJ6_numberOfTrailingZeros_0f7a4 47 = .ok (.iushr, 1) := by decide +kernel
theorem dJ6_numberOfTrailingZeros_0f7a4_48 : decode cJ6_numberOfTrailingZeros_0f7a4 48 = .ok (.istore_n 0, 1) := by decide +kernel
theorem dJ6_numberOfTrailingZeros_0f7a4_49 : decode cJ6_numberOfTrailingZeros_0f7a4 49 = .ok (.iload_n 0, 1) := by decide +kernel
theorem dJ6_numberOfTrailingZeros_0f7a4_50 : decode cJ6_numberOfTrailingZeros_0f7a4 50 = .ok (.bipush 16, 2) := by decide +kernel
theorem dJ6_numberOfTrailingZeros_0f7a4_52 : decode cJ6_numberOfTrailingZeros_0f7a4 52 = .ok (.if_icmp .le 10, 3) := by decide +kernel
theorem dJ6_numberOfTrailingZeros_0f7a4_55 : decode cJ6_numberOfTrailingZeros_0f7a4 55 = .ok (.iinc 1 4, 3) := by decide +kernel
theorem dJ6_numberOfTrailingZeros_0f7a4_58 : decode cJ6_numberOfTrailingZeros_0f7a4 58 = .ok (.iload_n 0, 1) := by decide +kernel
theorem dJ6_numberOfTrailingZeros_0f7a4_59 : decode cJ6_numberOfTrailingZeros_0f7a4 59 = .ok (.iconst 4, 1) := by decide +kernel
theorem dJ6_numberOfTrailingZeros_0f7a4_60 : decode cJ6_numberOfTrailingZeros_0f7a4 60 = .ok (.iushr, 1) := by decide +kernel
theorem dJ6_numberOfTrailingZeros_0f7a4_61 : decode cJ6_numberOfTrailingZeros_0f7a4 61 = .ok (.istore_n 0, 1) := by decide +kernel
theorem dJ6_numberOfTrailingZeros_0f7a4_62 : decode cJ6_numberOfTrailingZeros_0f7a4 62 = .ok (.iload_n 0, 1) := by decide +kernel
theorem dJ6_numberOfTrailingZeros_0f7a4_63 : decode cJ6_numberOfTrailingZeros_0f7a4 63 = .ok (.iconst 4, 1) := by decide +kernel
theorem dJ6_numberOfTrailingZeros_0f7a4_64 : decode cJ6_numberOfTrailingZeros_0f7a4 64 = .ok (.if_icmp .le 10, 3) := by decide +kernel
theorem dJ6_numberOfTrailingZeros_0f7a4_67 : decode cJ6_numberOfTrailingZeros_0f7a4 67 = .ok (.iinc 1 2, 3) := by decide +kernel
theorem dJ6_numberOfTrailingZeros_0f7a4_70 : decode cJ6_numberOfTrailingZeros_0f7a4 70 = .ok (.iload_n 0, 1) := by decide +kernel
theorem dJ6_numberOfTrailingZeros_0f7a4_71 : decode cJ6_numberOfTrailingZeros_0f7a4 71 = .ok (.iconst 2, 1) := by decide +kernel
theorem dJ6_numberOfTrailingZeros_0f7a4_72 : decode cJ6_numberOfTrailingZeros_0f7a4 72 = .ok (.iushr, 1) := by decide +kernel
theorem dJ6_numberOfTrailingZeros_0f7a4_73 : decode cJ6_numberOfTrailingZeros_0f7a4 73 = .ok (.istore_n 0, 1) := by decide +kernel
theorem dJ6_numberOfTrailingZeros_0f7a4_74 : decode cJ6_numberOfTrailingZeros_0f7a4 74 = .ok (.iload_n 1, 1) := by decide +kernel
theorem dJ6_numberOfTrailingZeros_0f7a4_75 : decode cJ6_numberOfTrailingZeros_0f7a4 75 = .ok (.iload_n 0, 1) := by decide +kernel
theorem dJ6_numberOfTrailingZeros_0f7a4_76 : decode cJ6_numberOfTrailingZeros_0f7a4 76 = .ok (.iconst 1, 1) := by decide +kernel
theorem dJ6_numberOfTrailingZeros_0f7a4_77 : decode cJ6_numberOfTrailingZeros_0f7a4 77 = .ok (.iushr, 1) := by decide +kernel
theorem dJ6_numberOfTrailingZeros_0f7a4_78 : decode cJ6_numberOfTrailingZeros_0f7a4 78 = .ok (.iadd, 1) := by decide +kernel
theorem dJ6_numberOfTrailingZeros_0f7a4_79 : decode cJ6_numberOfTrailingZeros_0f7a4 79 = .ok (.ireturn, 1) := by decide +kernel
theorem dJ6_bitCount_0f7a4_0 : decode cJ6_bitCount_0f7a4 0 = .ok (.iload_n 0, 1) := by decide +kernel
theorem dJ6_bitCount_0f7a4_1 : decode cJ6_bitCount_0f7a4 1 = .ok (.iload_n 0, 1) := by decide +kernel
theorem dJ6_bitCount_0f7a4_2 : decode cJ6_bitCount_0f7a4 2 = .ok (.iconst 1, 1) := by decide +kernel
theorem dJ6_bitCount_0f7a4_3 : decode cJ6_bitCount_0f7a4 3 = .ok (.iushr, 1) := by decide +kernel
theorem dJ6_bitCount_0f7a4_4 : decode cJ6_bitCount_0f7a4 4 = .ok (.ldc_w 265, 3) := by decide +kernel
theorem dJ6_bitCount_0f7a4_7 : decode cJ6_bitCount_0f7a4 7 = .ok (.iand, 1) := by decide +kernel
theorem dJ6_bitCount_0f7a4_8 : decode cJ6_bitCount_0f7a4 8 = .ok (.isub, 1) := by decide +kernel
theorem dJ6_bitCount_0f7a4_9 : decode cJ6_bitCount_0f7a4 9 = .ok (.istore_n 0, 1) := by decide +kernel
theorem dJ6_bitCount_0f7a4_10 : decode cJ6_bitCount_0f7a4 10 = .ok (.iload_n 0, 1) := by decide +kernel
theorem dJ6_bitCount_0f7a4_11 : decode cJ6_bitCount_0f7a4 11 = .ok (.ldc_w 266, 3) := by decide +kernel
theorem dJ6_bitCount_0f7a4_14 : decode cJ6_bitCount_0f7a4 14 = .ok (.iand, 1) := by decide +kernel
theorem dJ6_bitCount_0f7a4_15 : decode cJ6_bitCount_0f7a4 15 = .ok (.iload_n 0, 1) := by decide +kernel
theorem dJ6_bitCount_0f7a4_16 : decode cJ6_bitCount_0f7a4 16 = .ok (.iconst 2, 1) := by decide +kernel
theorem dJ6_bitCount_0f7a4_17 : decode cJ6_bitCount_0f7a4 17 = .ok (.iushr, 1) := by decide +kernel
theorem dJ6_bitCount_0f7a4_18 : decode cJ6_bitCount_0f7a4 18 = .ok (.ldc_w 266, 3) := by decide +kernel
theorem dJ6_bitCount_0f7a4_21 : decode cJ6_bitCount_0f7a4 21 = .ok (.iand, 1) := by decide +kernel
theorem dJ6_bitCount_0f7a4_22 : decode cJ6_bitCount_0f7a4 22 = .ok (.iadd, 1) := by decide +kernel
theorem dJ6_bitCount_0f7a4_23 : decode cJ6_bitCount_0f7a4 23 = .ok (.istore_n 0, 1) := by decide +kernel
theorem dJ6_bitCount_0f7a4_24 : decode cJ6_bitCount_0f7a4 24 = .ok (.iload_n 0, 1) := by decide +kernel
theorem dJ6_bitCount_0f7a4_25 : decode cJ6_bitCount_0f7a4 25 = .ok (.iload_n 0, 1) := by decide +kernel
theorem dJ6_bitCount_0f7a4_26 : decode cJ6_bitCount_0f7a4 26 = .ok (.iconst 4, 1) := by decide +kernel
theorem dJ6_bitCount_0f7a4_27 : decode cJ6_bitCount_0f7a4 27 = .ok (.iushr, 1) := by decide +kernel
theorem dJ6_bitCount_0f7a4_28 : decode cJ6_bitCount_0f7a4 28 = .ok (.iadd, 1) := by decide +kernel
theorem dJ6_bitCount_0f7a4_29 : decode cJ6_bitCount_0f7a4 29 = .ok (.ldc_w 267, 3) := by decide +kernel
theorem dJ6_bitCount_0f7a4_32 : decode cJ6_bitCount_0f7a4 32 = .ok (.iand, 1) := by decide +kernel
theorem dJ6_bitCount_0f7a4_33 : decode cJ6_bitCount_0f7a4 33 = .ok (.istore_n 0, 1) := by decide +kernel
theorem dJ6_bitCount_0f7a4_34 : decode cJ6_bitCount_0f7a4 34 = .ok (.iload_n 0, 1) := by decide +kernel
theorem dJ6_bitCount_0f7a4_35 : decode cJ6_bitCount_0f7a4 35 = .ok (.iload_n 0, 1) := by decide +kernel
theorem dJ6_bitCount_0f7a4_36 : decode cJ6_bitCount_0f7a4 36 = .ok (.bipush 8, 2) := by decide +kernel
theorem dJ6_bitCount_0f7a4_38 : decode cJ6_bitCount_0f7a4 38 = .ok (.iushr, 1) := by decide +kernel
theorem dJ6_bitCount_0f7a4_39 : decode cJ6_bitCount_0f7a4 39 = .ok (.iadd, 1) := by decide +kernel
theorem dJ6_bitCount_0f7a4_40 : decode cJ6_bitCount_0f7a4 40 = .ok (.istore_n 0, 1) := by decide +kernel
theorem dJ6_bitCount_0f7a4_41 : decode cJ6_bitCount_0f7a4 41 = .ok (.iload_n 0, 1) := by decide +kernel
theorem dJ6_bitCount_0f7a4_42 : decode cJ6_bitCount_0f7a4 42 = .ok (.iload_n 0, 1) := by decide +kernel
theorem dJ6_bitCount_0f7a4_43 : decode cJ6_bitCount_0f7a4 43 = .ok (.bipush 16, 2) := by decide +kernel
theorem dJ6_bitCount_0f7a4_45 : decode cJ6_bitCount_0f7a4 45 = .ok (.iushr, 1) := by decide +kernel
theorem dJ6_bitCount_0f7a4_46 : decode cJ6_bitCount_0f7a4 46 = .ok (.iadd, 1) := by decide +kernel
theorem dJ6_bitCount_0f7a4_47 : decode cJ6_bitCount_0f7a4 47 = .ok (.istore_n 0, 1) := by decide +kernel
theorem dJ6_bitCount_0f7a4_48 : decode cJ6_bitCount_0f7a4 48 = .ok (.iload_n 0, 1) := by decide +kernel
theorem dJ6_bitCount_0f7a4_49 : decode cJ6_bitCount_0f7a4 49 = .ok (.bipush 63, 2) := by decide +kernel
theorem dJ6_bitCount_0f7a4_51 : decode cJ6_bitCount_0f7a4 51 = .ok (.iand, 1) := by decide +kernel
theorem dJ6_bitCount_0f7a4_52 : decode cJ6_bitCount_0f7a4 52 = .ok (.ireturn, 1) := by decide +kernel
theorem dJ9_abs_0f7a4_0 : decode cJ9_abs_0f7a4 0 = .ok (.iload_n 0, 1) := by decide +kernel
theorem dJ9_abs_0f7a4_1 : decode cJ9_abs_0f7a4 1 = .ok (.ifCond .ge 8, 3) := by decide +kernel
theorem dJ9_abs_0f7a4_4 : decode cJ9_abs_0f7a4 4 = .ok (.iload_n 0, 1) := by decide +kernel
theorem dJ9_abs_0f7a4_5 : decode cJ9_abs_0f7a4 5 = .ok (.ineg, 1) := by decide +kernel
theorem dJ9_abs_0f7a4_6 : decode cJ9_abs_0f7a4 6 = .ok (.goto 4, 3) := by decide +kernel
theorem dJ9_abs_0f7a4_9 : decode cJ9_abs_0f7a4 9 = .ok (.iload_n 0, 1) := by decide +kernel
theorem dJ9_abs_0f7a4_10 : decode cJ9_abs_0f7a4 10 = .ok (.ireturn, 1) := by decide +kernel
theorem dJ9_max_7cf53_0 : decode cJ9_max_7cf53 0 = .ok (.iload_n 0, 1) := by decide +kernel
theorem dJ9_max_7cf53_1 : decode cJ9_max_7cf53 1 = .ok (.iload_n 1, 1) := by decide +kernel
theorem dJ9_max_7cf53_2 : decode cJ9_max_7cf53 2 = .ok (.if_icmp .lt 7, 3) := by decide +kernel
theorem dJ9_max_7cf53_5 : decode cJ9_max_7cf53 5 = .ok (.iload_n 0, 1) := by decide +kernel
theorem dJ9_max_7cf53_6 : decode cJ9_max_7cf53 6 = .ok (.goto 4, 3) := by decide +kernel
theorem dJ9_max_7cf53_9 : decode cJ9_max_7cf53 9 = .ok (.iload_n 1, 1) := by decide +kernel
theorem dJ9_max_7cf53_10 : decode cJ9_max_7cf53 10 = .ok (.ireturn, 1) := by decide +kernel
theorem dJ9_min_7cf53_0 : decode cJ9_min_7cf53 0 = .ok (.iload_n 0, 1) := by decide +kernel
theorem dJ9_min_7cf53_1 : decode cJ9_min_7cf53 1 = .ok (.iload_n 1, 1) := by decide +kernel
theorem dJ9_min_7cf53_2 : decode cJ9_min_7cf53 2 = .ok (.if_icmp .gt 7, 3) := by decide +kernel
theorem dJ9_min_7cf53_5 : decode cJ9_min_7cf53 5 = .ok (.iload_n 0, 1) := by decide +kernel
theorem dJ9_min_7cf53_6 : decode cJ9_min_7cf53 6 = .ok (.goto 4, 3) := by decide +kernel
theorem dJ9_min_7cf53_9 : decode cJ9_min_7cf53 9 = .ok (.iload_n 1, 1) := by decide +kernel
theorem dJ9_min_7cf53_10 : decode cJ9_min_7cf53 10 = .ok (.ireturn, 1) := by decide +kernel
theorem dJ0_length_8abf5_0 : decode cJ0_length_8abf5 0 = .ok (.aload_n 0, 1) := by decide +kernel
theorem dJ0_length_8abf5_1 : decode cJ0_length_8abf5 1 = .ok (.getfield 9, 3) := by decide +kernel
theorem dJ0_length_8abf5_4 : decode cJ0_length_8abf5 4 = .ok (.arraylength, 1) := by decide +kernel
theorem dJ0_length_8abf5_5 : decode cJ0_length_8abf5 5 = .ok (.aload_n 0, 1) := by decide +kernel
theorem dJ0_length_8abf5_6 : decode cJ0_length_8abf5 6 = .ok (.invokevirtual 335, 3) := by decide +kernel
theorem dJ0_length_8abf5_9 : decode cJ0_length_8abf5 9 = .ok (.ishr, 1) := by decide +kernel
theorem dJ0_length_8abf5_10 : decode cJ0_length_8abf5 10 = .ok (.ireturn, 1) := by decide +kernel
theorem dJ0_charAt_5068e_0 : decode cJ0_charAt_5068e 0 = .ok (.aload_n 0, 1) := by decide +kernel
theorem dJ0_charAt_5068e_1 : decode cJ0_charAt_5068e 1 = .ok (.invokevirtual 492, 3) := by decide +kernel
theorem dJ0_charAt_5068e_4 : decode cJ0_charAt_5068e 4 = .ok (.ifCond .eq 12, 3) := by decide +kernel
theorem dJ0_charAt_5068e_7 : decode cJ0_charAt_5068e 7 = .ok (.aload_n 0, 1) := by decide +kernel
theorem dJ0_charAt_5068e_8 : decode cJ0_charAt_5068e 8 = .ok (.getfield 9, 3) := by decide +kernel
theorem dJ0_charAt_5068e_11 : decode cJ0_charAt_5068e 11 = .ok (.iload_n 1, 1) := by decide +kernel
theorem dJ0_charAt_5068e_12 : decode cJ0_charAt_5068e 12 = .ok (.invokestatic 495, 3) := by decide +kernel
theorem dJ0_charAt_5068e_15 : decode cJ0_charAt_5068e 15 = .ok (.ireturn, 1) := by decide +kernel
theorem dJ0_charAt_5068e_16 : decode cJ0_charAt_5068e 16 = .ok (.aload_n 0, 1) := by decide +kernel
theorem dJ0_charAt_5068e_17 : decode cJ0_charAt_5068e 17 = .ok (.getfield 9, 3) := by decide +kernel
theorem dJ0_charAt_5068e_20 : decode cJ0_charAt_5068e 20 = .ok (.iload_n 1, 1) := by decide +kernel
theorem dJ0_charAt_5068e_21 : decode cJ0_charAt_5068e 21 = .ok (.invokestatic 498, 3) := by decide +kernel
theorem dJ0_charAt_5068e_24 : decode cJ0_charAt_5068e 24 = .ok (.ireturn, 1) := by decide +kernel
theorem dJ0_coder_7d493_0 : decode cJ0_coder_7d493 0 = .ok (.getstatic 38, 3) := by decide +kernel
theorem dJ0_coder_7d493_3 : decode cJ0_coder_7d493 3 = .ok (.ifCond .eq 10, 3) := by decide +kernel
theorem dJ0_coder_7d493_6 : decode cJ0_coder_7d493 6 = .ok (.aload_n 0, 1) := by decide +kernel
theorem dJ0_coder_7d493_7 : decode cJ0_coder_7d493 7 = .ok (.getfield 15, 3) := by decide +kernel
theorem dJ0_coder_7d493_10 : decode cJ0_coder_7d493 10 = .ok (.goto 4, 3) := by decide +kernel
theorem dJ0_coder_7d493_13 : decode cJ0_coder_7d493 13 = .ok (.iconst 1, 1) := by decide +kernel
theorem dJ0_coder_7d493_14 : decode cJ0_coder_7d493 14 = .ok (.ireturn, 1) := by decide +kernel
theorem dJ0_isLatin1_aae02_0 : decode cJ0_isLatin1_aae02 0 = .ok (.getstatic 38, 3) := by decide +kernel
theorem dJ0_isLatin1_aae02_3 : decode cJ0_isLatin1_aae02 3 = .ok (.ifCond .eq 14, 3) := by decide +kernel
theorem dJ0_isLatin1_aae02_6 : decode cJ0_isLatin1_aae02 6 = .ok (.aload_n 0, 1) := by decide +kernel
theorem dJ0_isLatin1_aae02_7 : decode cJ0_isLatin1_aae02 7 = .ok (.getfield 15, 3) := by decide +kernel
theorem dJ0_isLatin1_aae02_10 : decode cJ0_isLatin1_aae02 10 = .ok (.ifCond .ne 7, 3) := by decide +kernel
theorem dJ0_isLatin1_aae02_13 : decode cJ0_isLatin1_aae02 13 = .ok (.iconst 1, 1) := by decide +kernel
theorem dJ0_isLatin1_aae02_14 : decode cJ0_isLatin1_aae02 14 = .ok (.goto 4, 3) := by decide +kernel
theorem dJ0_isLatin1_aae02_17 : decode cJ0_isLatin1_aae02 17 = .ok (.iconst 0, 1) := by decide +kernel
theorem dJ0_isLatin1_aae02_18 : decode cJ0_isLatin1_aae02 18 = .ok (.ireturn, 1) := by decide +kernel
theorem dJ0_checkIndex_df160_0 : decode cJ0_checkIndex_df160 0 = .ok (.iload_n 0, 1) := by decide +kernel
theorem dJ0_checkIndex_df160_1 : decode cJ0_checkIndex_df160 1 = .ok (.iload_n 1, 1) := by decide +kernel
theorem dJ0_checkIndex_df160_2 : decode cJ0_checkIndex_df160 2 = .ok (.getstatic 1053, 3) := by decide +kernel
theorem dJ0_checkIndex_df160_5 : decode cJ0_checkIndex_df160 5 = .ok (.invokestatic 1059, 3) := by decide +kernel
theorem dJ0_checkIndex_df160_8 : decode cJ0_checkIndex_df160 8 = .ok (.pop, 1) := by decide +kernel
theorem dJ0_checkIndex_df160_9 : decode cJ0_checkIndex_df160 9 = .ok (.return_, 1) := by decide +kernel
theorem dJ1_charAt_3b067_0 : decode cJ1_charAt_3b067 0 = .ok (.iload_n 1, 1) := by decide +kernel
theorem dJ1_charAt_3b067_1 : decode cJ1_charAt_3b067 1 = .ok (.aload_n 0, 1) := by decide +kernel
theorem dJ1_charAt_3b067_2 : decode cJ1_charAt_3b067 2 = .ok (.arraylength, 1) := by decide +kernel
theorem dJ1_charAt_3b067_3 : decode cJ1_charAt_3b067 3 = .ok (.invokestatic 9, 3) := by decide +kernel
theorem dJ1_charAt_3b067_6 : decode cJ1_charAt_3b067 6 = .ok (.aload_n 0, 1) := by decide +kernel
theorem dJ1_charAt_3b067_7 : decode cJ1_charAt_3b067 7 = .ok (.iload_n 1, 1) := by decide +kernel
theorem dJ1_charAt_3b067_8 : decode cJ1_charAt_3b067 8 = .ok (.baload, 1) := by decide +kernel
theorem dJ1_charAt_3b067_9 : decode cJ1_charAt_3b067 9 = .ok (.sipush 255, 3) := by decide +kernel
theorem dJ1_charAt_3b067_12 : decode cJ1_charAt_3b067 12 = .ok (.iand, 1) := by decide +kernel
theorem dJ1_charAt_3b067_13 : decode cJ1_charAt_3b067 13 = .ok (.i2c, 1) := by decide +kernel
theorem dJ1_charAt_3b067_14 : decode cJ1_charAt_3b067 14 = .ok (.ireturn, 1) := by decide +kernel
theorem dJ2_getChar_3b067_0 : decode cJ2_getChar_3b067 0 = .ok (.getstatic 44, 3) := by decide +kernel
theorem dJ2_getChar_3b067_3 : decode cJ2_getChar_3b067 3 = .ok (.ifCond .ne 25, 3) := by decide +kernel
theorem dJ2_getChar_3b067_6 : decode cJ2_getChar_3b067 6 = .ok (.iload_n 1, 1) := by decide +kernel
theorem dJ2_getChar_3b067_7 : decode cJ2_getChar_3b067 7 = .ok (.ifCond .lt 11, 3) := by decide +kernel
theorem dJ2_getChar_3b067_10 : decode cJ2_getChar_3b067 10 = .ok (.iload_n 1, 1) := by decide +kernel
theorem dJ2_getChar_3b067_11 : decode cJ2_getChar_3b067 11 = .ok (.aload_n 0, 1) := by decide +kernel
theorem dJ2_getChar_3b067_12 : decode cJ2_getChar_3b067 12 = .ok (.invokestatic 48, 3) := by decide +kernel
theorem dJ2_getChar_3b067_15 : decode cJ2_getChar_3b067 15 = .ok (.if_icmp .lt 13, 3) := by decide +kernel
theorem dJ2_getChar_3b067_18 : decode cJ2_getChar_3b067 18 = .ok (.new 52, 3) := by decide +kernel
theorem dJ2_getChar_3b067_21 : decode cJ2_getChar_3b067 21 = .ok (.dup, 1) := by decide +kernel
theorem dJ2_getChar_3b067_22 : decode cJ2_getChar_3b067 22 = .ok (.ldc 54, 2) := by decide +kernel
theorem dJ2_getChar_3b067_24 : decode cJ2_getChar_3b067 24 = .ok (.invokespecial 56, 3) := by decide +kernel
theorem dJ2_getChar_3b067_27 : decode cJ2_getChar_3b067 27 = .ok (.athrow, 1) := by decide +kernel
theorem dJ2_getChar_3b067_28 : decode cJ2_getChar_3b067 28 = .ok (.iload_n 1, 1) := by decide +kernel
theorem dJ2_getChar_3b067_29 : decode cJ2_getChar_3b067 29 = .ok (.iconst 1, 1) := by decide +kernel
theorem dJ2_getChar_3b067_30 : decode cJ2_getChar_3b067 30 = .ok (.ishl, 1) := by decide +kernel
theorem dJ2_getChar_3b067_31 : decode cJ2_getChar_3b067 31 = .ok (.istore_n 1, 1) := by decide +kernel
theorem dJ2_getChar_3b067_32 : decode cJ2_getChar_3b067 32 = .ok (.aload_n 0, 1) := by decide +kernel
theorem dJ2_getChar_3b067_33 : decode cJ2_getChar_3b067 33 = .ok (.iload_n 1, 1) := by decide +kernel
theorem dJ2_getChar_3b067_34 : decode cJ2_getChar_3b067 34 = .ok (.iinc 1 1, 3) := by decide +kernel
theorem dJ2_getChar_3b067_37 : decode cJ2_getChar_3b067 37 = .ok (.baload, 1) := by decide +kernel
theorem dJ2_getChar_3b067_38 : decode cJ2_getChar_3b067 38 = .ok (.sipush 255, 3) := by decide +kernel
theorem dJ2_getChar_3b067_41 : decode cJ2_getChar_3b067 41 = .ok (.iand, 1) := by decide +kernel
theorem dJ2_getChar_3b067_42 : decode cJ2_getChar_3b067 42 = .ok (.getstatic 59, 3) := by decide +kernel
theorem dJ2_getChar_3b067_45 : decode cJ2_getChar_3b067 45 = .ok (.ishl, 1) := by decide +kernel
theorem dJ2_getChar_3b067_46 : decode cJ2_getChar_3b067 46 = .ok (.aload_n 0, 1) := by decide +kernel
theorem dJ2_getChar_3b067_47 : decode cJ2_getChar_3b067 47 = .ok (.iload_n 1, 1) := by decide +kernel
theorem dJ2_getChar_3b067_48 : decode cJ2_getChar_3b067 48 = .ok (.baload, 1) := by decide +kernel
theorem dJ2_getChar_3b067_49 : decode cJ2_getChar_3b067 49 = .ok (.sipush 255, 3) := by decide +kernel
theorem dJ2_getChar_3b067_52 : decode cJ2_getChar_3b067 52 = .ok (.iand, 1) := by decide +kernel
theorem dJ2_getChar_3b067_53 : decode cJ2_getChar_3b067 53 = .ok (.getstatic 63, 3) := by decide +kernel
theorem dJ2_getChar_3b067_56 : decode cJ2_getChar_3b067 56 = .ok (.ishl, 1) := by decide +kernel
theorem dJ2_getChar_3b067_57 : decode cJ2_getChar_3b067 57 = .ok (.ior, 1) := by decide +kernel
theorem dJ2_getChar_3b067_58 : decode cJ2_getChar_3b067 58 = .ok (.i2c, 1) := by decide +kernel
theorem dJ2_getChar_3b067_59 : decode cJ2_getChar_3b067 59 = .ok (.ireturn, 1) := by decide +kernel
theorem dJ2_length_9d52b_0 : decode cJ2_length_9d52b 0 = .ok (.aload_n 0, 1) := by decide +kernel
theorem dJ2_length_9d52b_1 : decode cJ2_length_9d52b 1 = .ok (.arraylength, 1) := by decide +kernel
theorem dJ2_length_9d52b_2 : decode cJ2_length_9d52b 2 = .ok (.iconst 1, 1) := by decide +kernel
theorem dJ2_length_9d52b_3 : decode cJ2_length_9d52b 3 = .ok (.ishr, 1) := by decide +kernel
theorem dJ2_length_9d52b_4 : decode cJ2_length_9d52b 4 = .ok (.ireturn, 1) := by decide +kernel
theorem dJ2_charAt_3b067_0 : decode cJ2_charAt_3b067 0 = .ok (.iload_n 1, 1) := by decide +kernel
theorem dJ2_charAt_3b067_1 : decode cJ2_charAt_3b067 1 = .ok (.aload_n 0, 1) := by decide +kernel
theorem dJ2_charAt_3b067_2 : decode cJ2_charAt_3b067 2 = .ok (.invokestatic 67, 3) := by decide +kernel
theorem dJ2_charAt_3b067_5 : decode cJ2_charAt_3b067 5 = .ok (.aload_n 0, 1) := by decide +kernel
theorem dJ2_charAt_3b067_6 : decode cJ2_charAt_3b067 6 = .ok (.iload_n 1, 1) := by decide +kernel
theorem dJ2_charAt_3b067_7 : decode cJ2_charAt_3b067 7 = .ok (.invokestatic 71, 3) := by decide +kernel
theorem dJ2_charAt_3b067_10 : decode cJ2_charAt_3b067 10 = .ok (.ireturn, 1) := by decide +kernel
theorem dJ2_checkIndex_2214a_0 : decode cJ2_checkIndex_2214a 0 = .ok (.iload_n 0, 1) := by decide +kernel
theorem dJ2_checkIndex_2214a_1 : decode cJ2_checkIndex_2214a 1 = .ok (.aload_n 1, 1) := by decide +kernel
theorem dJ2_checkIndex_2214a_2 : decode cJ2_checkIndex_2214a 2 = .ok (.invokestatic 48, 3) := by decide +kernel
theorem dJ2_checkIndex_2214a_5 : decode cJ2_checkIndex_2214a 5 = .ok (.invokestatic 414, 3) := by decide +kernel
theorem dJ2_checkIndex_2214a_8 : decode cJ2_checkIndex_2214a 8 = .ok (.return_, 1) := by decide +kernel
theorem dJ7_fill_53178_0 : decode cJ7_fill_53178 0 = .ok (.iconst 0, 1) := by decide +kernel
theorem dJ7_fill_53178_1 : decode cJ7_fill_53178 1 = .ok (.istore_n 2, 1) := by decide +kernel
theorem dJ7_fill_53178_2 : decode cJ7_fill_53178 2 = .ok (.aload_n 0, 1) := by decide +kernel
theorem dJ7_fill_53178_3 : decode cJ7_fill_53178 3 = .ok (.arraylength, 1) := by decide +kernel
theorem dJ7_fill_53178_4 : decode cJ7_fill_53178 4 = .ok (.istore_n 3, 1) := by decide +kernel
theorem dJ7_fill_53178_5 : decode cJ7_fill_53178 5 = .ok (.iload_n 2, 1) := by decide +kernel
theorem dJ7_fill_53178_6 : decode cJ7_fill_53178 6 = .ok (.iload_n 3, 1) := by decide +kernel
theorem dJ7_fill_53178_7 : decode cJ7_fill_53178 7 = .ok (.if_icmp .ge 13, 3) := by decide +kernel
theorem dJ7_fill_53178_10 : decode cJ7_fill_53178 10 = .ok (.aload_n 0, 1) := by decide +kernel
theorem dJ7_fill_53178_11 : decode cJ7_fill_53178 11 = .ok (.iload_n 2, 1) := by decide +kernel
theorem dJ7_fill_53178_12 : decode cJ7_fill_53178 12 = .ok (.iload_n 1, 1) := by decide +kernel
theorem dJ7_fill_53178_13 : decode cJ7_fill_53178 13 = .ok (.iastore, 1) := by decide +kernel
theorem dJ7_fill_53178_14 : decode cJ7_fill_53178 14 = .ok (.iinc 2 1, 3) := by decide +kernel
theorem dJ7_fill_53178_17 : decode cJ7_fill_53178 17 = .ok (.goto (-12), 3) := by decide +kernel
theorem dJ7_fill_53178_20 : decode cJ7_fill_53178 20 = .ok (.return_, 1) := by decide +kernel
theorem dJ3_checkIndex_8e157_0 : decode cJ3_checkIndex_8e157 0 = .ok (.iload_n 0, 1) := by decide +kernel
theorem dJ3_checkIndex_8e157_1 : decode cJ3_checkIndex_8e157 1 = .ok (.ifCond .lt 8, 3) := by decide +kernel
theorem dJ3_checkIndex_8e157_4 : decode cJ3_checkIndex_8e157 4 = .ok (.iload_n 0, 1) := by decide +kernel
theorem dJ3_checkIndex_8e157_5 : decode cJ3_checkIndex_8e157 5 = .ok (.iload_n 1, 1) := by decide +kernel
theorem dJ3_checkIndex_8e157_6 : decode cJ3_checkIndex_8e157 6 = .ok (.if_icmp .lt 10, 3) := by decide +kernel
theorem dJ3_checkIndex_8e157_9 : decode cJ3_checkIndex_8e157 9 = .ok (.aload_n 2, 1) := by decide +kernel
theorem dJ3_checkIndex_8e157_10 : decode cJ3_checkIndex_8e157 10 = .ok (.iload_n 0, 1) := by decide +kernel
theorem dJ3_checkIndex_8e157_11 : decode cJ3_checkIndex_8e157 11 = .ok (.iload_n 1, 1) := by decide +kernel
theorem dJ3_checkIndex_8e157_12 : decode cJ3_checkIndex_8e157 12 = .ok (.invokestatic 95, 3) := by decide +kernel
theorem dJ3_checkIndex_8e157_15 : decode cJ3_checkIndex_8e157 15 = .ok (.athrow, 1) := by decide +kernel
theorem dJ3_checkIndex_8e157_16 : decode cJ3_checkIndex_8e157 16 = .ok (.iload_n 0, 1) := by decide +kernel
theorem dJ3_checkIndex_8e157_17 : decode cJ3_checkIndex_8e157 17 = .ok (.ireturn, 1) := by decide +kernel
theorem dL_family_0 : decode cL_family 0 = .ok (.aload_n 1, 1) := by decide +kernel
theorem dL_family_1 : decode cL_family 1 = .ok (.iconst 0, 1) := by decide +kernel
theorem dL_family_2 : decode cL_family 2 = .ok (.aload_n 0, 1) := by decide +kernel
theorem dL_family_3 : decode cL_family 3 = .ok (.invokevirtual 7, 3) := by decide +kernel
theorem dL_family_6 : decode cL_family 6 = .ok (.i2l, 1) := by decide +kernel
theorem dL_family_7 : decode cL_family 7 = .ok (.lastore, 1) := by decide +kernel
theorem dL_family_8 : decode cL_family 8 = .ok (.goto 9, 3) := by decide +kernel
theorem dL_family_11 : decode cL_family 11 = .ok (.astore_n 2, 1) := by decide +kernel
theorem dL_family_12 : decode cL_family 12 = .ok (.iconst 1, 1) := by decide +kernel
theorem dL_family_13 : decode cL_family 13 = .ok (.ireturn, 1) := by decide +kernel
theorem dL_family_14 : decode cL_family 14 = .ok (.astore_n 2, 1) := by decide +kernel
theorem dL_family_15 : decode cL_family 15 = .ok (.iconst 2, 1) := by decide +kernel
theorem dL_family_16 : decode cL_family 16 = .ok (.ireturn, 1) := by decide +kernel
theorem dL_family_17 : decode cL_family 17 = .ok (.iconst 0, 1) := by decide +kernel
theorem dL_family_18 : decode cL_family 18 = .ok (.ireturn, 1) := by decide +kernel
theorem dL_law_0 : decode cL_law 0 = .ok (.aload_n 1, 1) := by decide +kernel
theorem dL_law_1 : decode cL_law 1 = .ok (.iconst 0, 1) := by decide +kernel
theorem dL_law_2 : decode cL_law 2 = .ok (.aload_n 0, 1) := by decide +kernel
theorem dL_law_3 : decode cL_law 3 = .ok (.invokevirtual 17, 3) := by decide +kernel
theorem dL_law_6 : decode cL_law 6 = .ok (.i2l, 1) := by decide +kernel
theorem dL_law_7 : decode cL_law 7 = .ok (.lastore, 1) := by decide +kernel
theorem dL_law_8 : decode cL_law 8 = .ok (.goto 6, 3) := by decide +kernel
theorem dL_law_11 : decode cL_law 11 = .ok (.astore_n 2, 1) := by decide +kernel
theorem dL_law_12 : decode cL_law 12 = .ok (.iconst 1, 1) := by decide +kernel
theorem dL_law_13 : decode cL_law 13 = .ok (.ireturn, 1) := by decide +kernel
theorem dL_law_14 : decode cL_law 14 = .ok (.iconst 0, 1) := by decide +kernel
theorem dL_law_15 : decode cL_law 15 = .ok (.ireturn, 1) := by decide +kernel
theorem dL_person_0 : decode cL_person 0 = .ok (.aload_n 3, 1) := by decide +kernel
theorem dL_person_1 : decode cL_person 1 = .ok (.iconst 0, 1) := by decide +kernel
theorem dL_person_2 : decode cL_person 2 = .ok (.aload_n 0, 1) := by decide +kernel
theorem dL_person_3 : decode cL_person 3 = .ok (.iload_n 1, 1) := by decide +kernel
theorem dL_person_4 : decode cL_person 4 = .ok (.iload_n 2, 1) := by decide +kernel
theorem dL_person_5 : decode cL_person 5 = .ok (.invokevirtual 20, 3) := by decide +kernel
theorem dL_person_8 : decode cL_person 8 = .ok (.i2l, 1) := by decide +kernel
theorem dL_person_9 : decode cL_person 9 = .ok (.lastore, 1) := by decide +kernel
theorem dL_person_10 : decode cL_person 10 = .ok (.goto 11, 3) := by decide +kernel
theorem dL_person_13 : decode cL_person 13 = .ok (.astore 4, 2) := by decide +kernel
theorem dL_person_15 : decode cL_person 15 = .ok (.iconst 1, 1) := by decide +kernel
theorem dL_person_16 : decode cL_person 16 = .ok (.ireturn, 1) := by decide +kernel
theorem dL_person_17 : decode cL_person 17 = .ok (.astore 4, 2) := by decide +kernel
theorem dL_person_19 : decode cL_person 19 = .ok (.iconst 2, 1) := by decide +kernel
theorem dL_person_20 : decode cL_person 20 = .ok (.ireturn, 1) := by decide +kernel
theorem dL_person_21 : decode cL_person 21 = .ok (.iconst 0, 1) := by decide +kernel
theorem dL_person_22 : decode cL_person 22 = .ok (.ireturn, 1) := by decide +kernel
theorem dL_lent_0 : decode cL_lent 0 = .ok (.aload_n 3, 1) := by decide +kernel
theorem dL_lent_1 : decode cL_lent 1 = .ok (.iconst 0, 1) := by decide +kernel
theorem dL_lent_2 : decode cL_lent 2 = .ok (.aload_n 0, 1) := by decide +kernel
theorem dL_lent_3 : decode cL_lent 3 = .ok (.iload_n 1, 1) := by decide +kernel
theorem dL_lent_4 : decode cL_lent 4 = .ok (.iload_n 2, 1) := by decide +kernel
theorem dL_lent_5 : decode cL_lent 5 = .ok (.invokevirtual 28, 3) := by decide +kernel
theorem dL_lent_8 : decode cL_lent 8 = .ok (.i2l, 1) := by decide +kernel
theorem dL_lent_9 : decode cL_lent 9 = .ok (.lastore, 1) := by decide +kernel
theorem dL_lent_10 : decode cL_lent 10 = .ok (.goto 11, 3) := by decide +kernel
theorem dL_lent_13 : decode cL_lent 13 = .ok (.astore 4, 2) := by decide +kernel
theorem dL_lent_15 : decode cL_lent 15 = .ok (.iconst 1, 1) := by decide +kernel
theorem dL_lent_16 : decode cL_lent 16 = .ok (.ireturn, 1) := by decide +kernel
theorem dL_lent_17 : decode cL_lent 17 = .ok (.astore 4, 2) := by decide +kernel
theorem dL_lent_19 : decode cL_lent 19 = .ok (.iconst 2, 1) := by decide +kernel
theorem dL_lent_20 : decode cL_lent 20 = .ok (.ireturn, 1) := by decide +kernel
theorem dL_lent_21 : decode cL_lent 21 = .ok (.iconst 0, 1) := by decide +kernel
theorem dL_lent_22 : decode cL_lent 22 = .ok (.ireturn, 1) := by decide +kernel
theorem dL_weighs_0 : decode cL_weighs 0 = .ok (.aload 4, 2) := by decide +kernel
theorem dL_weighs_2 : decode cL_weighs 2 = .ok (.iconst 0, 1) := by decide +kernel
theorem dL_weighs_3 : decode cL_weighs 3 = .ok (.aload_n 0, 1) := by decide +kernel
theorem dL_weighs_4 : decode cL_weighs 4 = .ok (.iload_n 1, 1) := by decide +kernel
theorem dL_weighs_5 : decode cL_weighs 5 = .ok (.iload_n 2, 1) := by decide +kernel
theorem dL_weighs_6 : decode cL_weighs 6 = .ok (.iload_n 3, 1) := by decide +kernel
theorem dL_weighs_7 : decode cL_weighs 7 = .ok (.invokevirtual 31, 3) := by decide +kernel
theorem dL_weighs_10 : decode cL_weighs 10 = .ok (.i2l, 1) := by decide +kernel
theorem dL_weighs_11 : decode cL_weighs 11 = .ok (.lastore, 1) := by decide +kernel
theorem dL_weighs_12 : decode cL_weighs 12 = .ok (.goto 11, 3) := by decide +kernel
theorem dL_weighs_15 : decode cL_weighs 15 = .ok (.astore 5, 2) := by decide +kernel
theorem dL_weighs_17 : decode cL_weighs 17 = .ok (.iconst 1, 1) := by decide +kernel
theorem dL_weighs_18 : decode cL_weighs 18 = .ok (.ireturn, 1) := by decide +kernel
theorem dL_weighs_19 : decode cL_weighs 19 = .ok (.astore 5, 2) := by decide +kernel
theorem dL_weighs_21 : decode cL_weighs 21 = .ok (.iconst 2, 1) := by decide +kernel
theorem dL_weighs_22 : decode cL_weighs 22 = .ok (.ireturn, 1) := by decide +kernel
theorem dL_weighs_23 : decode cL_weighs 23 = .ok (.iconst 0, 1) := by decide +kernel
theorem dL_weighs_24 : decode cL_weighs 24 = .ok (.ireturn, 1) := by decide +kernel
theorem dL_gap_0 : decode cL_gap 0 = .ok (.aload_n 3, 1) := by decide +kernel
theorem dL_gap_1 : decode cL_gap 1 = .ok (.iconst 0, 1) := by decide +kernel
theorem dL_gap_2 : decode cL_gap 2 = .ok (.aload_n 0, 1) := by decide +kernel
theorem dL_gap_3 : decode cL_gap 3 = .ok (.iload_n 1, 1) := by decide +kernel
theorem dL_gap_4 : decode cL_gap 4 = .ok (.iload_n 2, 1) := by decide +kernel
theorem dL_gap_5 : decode cL_gap 5 = .ok (.invokevirtual 35, 3) := by decide +kernel
theorem dL_gap_8 : decode cL_gap 8 = .ok (.i2l, 1) := by decide +kernel
theorem dL_gap_9 : decode cL_gap 9 = .ok (.lastore, 1) := by decide +kernel
theorem dL_gap_10 : decode cL_gap 10 = .ok (.goto 11, 3) := by decide +kernel
theorem dL_gap_13 : decode cL_gap 13 = .ok (.astore 4, 2) := by decide +kernel
theorem dL_gap_15 : decode cL_gap 15 = .ok (.iconst 1, 1) := by decide +kernel
theorem dL_gap_16 : decode cL_gap 16 = .ok (.ireturn, 1) := by decide +kernel
theorem dL_gap_17 : decode cL_gap 17 = .ok (.astore 4, 2) := by decide +kernel
theorem dL_gap_19 : decode cL_gap 19 = .ok (.iconst 2, 1) := by decide +kernel
theorem dL_gap_20 : decode cL_gap 20 = .ok (.ireturn, 1) := by decide +kernel
theorem dL_gap_21 : decode cL_gap 21 = .ok (.iconst 0, 1) := by decide +kernel
theorem dL_gap_22 : decode cL_gap 22 = .ok (.ireturn, 1) := by decide +kernel
theorem dL_say_0 : decode cL_say 0 = .ok (.aload 4, 2) := by decide +kernel
theorem dL_say_2 : decode cL_say 2 = .ok (.iconst 0, 1) := by decide +kernel
theorem dL_say_3 : decode cL_say 3 = .ok (.aload_n 0, 1) := by decide +kernel
theorem dL_say_4 : decode cL_say 4 = .ok (.iload_n 1, 1) := by decide +kernel
theorem dL_say_5 : decode cL_say 5 = .ok (.iload_n 2, 1) := by decide +kernel
theorem dL_say_6 : decode cL_say 6 = .ok (.iload_n 3, 1) := by decide +kernel
theorem dL_say_7 : decode cL_say 7 = .ok (.invokevirtual 38, 3) := by decide +kernel
theorem dL_say_10 : decode cL_say 10 = .ok (.i2l, 1) := by decide +kernel
theorem dL_say_11 : decode cL_say 11 = .ok (.lastore, 1) := by decide +kernel
theorem dL_say_12 : decode cL_say 12 = .ok (.goto 11, 3) := by decide +kernel
theorem dL_say_15 : decode cL_say 15 = .ok (.astore 5, 2) := by decide +kernel
theorem dL_say_17 : decode cL_say 17 = .ok (.iconst 1, 1) := by decide +kernel
theorem dL_say_18 : decode cL_say 18 = .ok (.ireturn, 1) := by decide +kernel
theorem dL_say_19 : decode cL_say 19 = .ok (.astore 5, 2) := by decide +kernel
theorem dL_say_21 : decode cL_say 21 = .ok (.iconst 2, 1) := by decide +kernel
theorem dL_say_22 : decode cL_say 22 = .ok (.ireturn, 1) := by decide +kernel
theorem dL_say_23 : decode cL_say 23 = .ok (.iconst 0, 1) := by decide +kernel
theorem dL_say_24 : decode cL_say 24 = .ok (.ireturn, 1) := by decide +kernel
theorem dL_bear_0 : decode cL_bear 0 = .ok (.aload_n 3, 1) := by decide +kernel
theorem dL_bear_1 : decode cL_bear 1 = .ok (.iconst 0, 1) := by decide +kernel
theorem dL_bear_2 : decode cL_bear 2 = .ok (.aload_n 0, 1) := by decide +kernel
theorem dL_bear_3 : decode cL_bear 3 = .ok (.iload_n 1, 1) := by decide +kernel
theorem dL_bear_4 : decode cL_bear 4 = .ok (.iload_n 2, 1) := by decide +kernel
theorem dL_bear_5 : decode cL_bear 5 = .ok (.invokevirtual 43, 3) := by decide +kernel
theorem dL_bear_8 : decode cL_bear 8 = .ok (.i2l, 1) := by decide +kernel
theorem dL_bear_9 : decode cL_bear 9 = .ok (.lastore, 1) := by decide +kernel
theorem dL_bear_10 : decode cL_bear 10 = .ok (.goto 11, 3) := by decide +kernel
theorem dL_bear_13 : decode cL_bear 13 = .ok (.astore 4, 2) := by decide +kernel
theorem dL_bear_15 : decode cL_bear 15 = .ok (.iconst 1, 1) := by decide +kernel
theorem dL_bear_16 : decode cL_bear 16 = .ok (.ireturn, 1) := by decide +kernel
theorem dL_bear_17 : decode cL_bear 17 = .ok (.astore 4, 2) := by decide +kernel
theorem dL_bear_19 : decode cL_bear 19 = .ok (.iconst 2, 1) := by decide +kernel
theorem dL_bear_20 : decode cL_bear 20 = .ok (.ireturn, 1) := by decide +kernel
theorem dL_bear_21 : decode cL_bear 21 = .ok (.iconst 0, 1) := by decide +kernel
theorem dL_bear_22 : decode cL_bear 22 = .ok (.ireturn, 1) := by decide +kernel
theorem dL_wed_0 : decode cL_wed 0 = .ok (.aload_n 3, 1) := by decide +kernel
theorem dL_wed_1 : decode cL_wed 1 = .ok (.iconst 0, 1) := by decide +kernel
theorem dL_wed_2 : decode cL_wed 2 = .ok (.aload_n 0, 1) := by decide +kernel
theorem dL_wed_3 : decode cL_wed 3 = .ok (.iload_n 1, 1) := by decide +kernel
theorem dL_wed_4 : decode cL_wed 4 = .ok (.iload_n 2, 1) := by decide +kernel
theorem dL_wed_5 : decode cL_wed 5 = .ok (.invokevirtual 47, 3) := by decide +kernel
theorem dL_wed_8 : decode cL_wed 8 = .ok (.i2l, 1) := by decide +kernel
theorem dL_wed_9 : decode cL_wed 9 = .ok (.lastore, 1) := by decide +kernel
theorem dL_wed_10 : decode cL_wed 10 = .ok (.goto 15, 3) := by decide +kernel
theorem dL_wed_13 : decode cL_wed 13 = .ok (.astore 4, 2) := by decide +kernel
theorem dL_wed_15 : decode cL_wed 15 = .ok (.iconst 1, 1) := by decide +kernel
theorem dL_wed_16 : decode cL_wed 16 = .ok (.ireturn, 1) := by decide +kernel
theorem dL_wed_17 : decode cL_wed 17 = .ok (.astore 4, 2) := by decide +kernel
theorem dL_wed_19 : decode cL_wed 19 = .ok (.iconst 2, 1) := by decide +kernel
theorem dL_wed_20 : decode cL_wed 20 = .ok (.ireturn, 1) := by decide +kernel
theorem dL_wed_21 : decode cL_wed 21 = .ok (.astore 4, 2) := by decide +kernel
theorem dL_wed_23 : decode cL_wed 23 = .ok (.iconst 3, 1) := by decide +kernel
theorem dL_wed_24 : decode cL_wed 24 = .ok (.ireturn, 1) := by decide +kernel
theorem dL_wed_25 : decode cL_wed 25 = .ok (.iconst 0, 1) := by decide +kernel
theorem dL_wed_26 : decode cL_wed 26 = .ok (.ireturn, 1) := by decide +kernel
theorem dL_part_0 : decode cL_part 0 = .ok (.aload_n 2, 1) := by decide +kernel
theorem dL_part_1 : decode cL_part 1 = .ok (.iconst 0, 1) := by decide +kernel
theorem dL_part_2 : decode cL_part 2 = .ok (.aload_n 0, 1) := by decide +kernel
theorem dL_part_3 : decode cL_part 3 = .ok (.iload_n 1, 1) := by decide +kernel
theorem dL_part_4 : decode cL_part 4 = .ok (.invokevirtual 50, 3) := by decide +kernel
theorem dL_part_7 : decode cL_part 7 = .ok (.i2l, 1) := by decide +kernel
theorem dL_part_8 : decode cL_part 8 = .ok (.lastore, 1) := by decide +kernel
theorem dL_part_9 : decode cL_part 9 = .ok (.goto 9, 3) := by decide +kernel
theorem dL_part_12 : decode cL_part 12 = .ok (.astore_n 3, 1) := by decide +kernel
theorem dL_part_13 : decode cL_part 13 = .ok (.iconst 1, 1) := by decide +kernel
theorem dL_part_14 : decode cL_part 14 = .ok (.ireturn, 1) := by decide +kernel
theorem dL_part_15 : decode cL_part 15 = .ok (.astore_n 3, 1) := by decide +kernel
theorem dL_part_16 : decode cL_part 16 = .ok (.iconst 2, 1) := by decide +kernel
theorem dL_part_17 : decode cL_part 17 = .ok (.ireturn, 1) := by decide +kernel
theorem dL_part_18 : decode cL_part 18 = .ok (.iconst 0, 1) := by decide +kernel
theorem dL_part_19 : decode cL_part 19 = .ok (.ireturn, 1) := by decide +kernel
theorem dL_lend_0 : decode cL_lend 0 = .ok (.aload_n 3, 1) := by decide +kernel
theorem dL_lend_1 : decode cL_lend 1 = .ok (.iconst 0, 1) := by decide +kernel
theorem dL_lend_2 : decode cL_lend 2 = .ok (.aload_n 0, 1) := by decide +kernel
theorem dL_lend_3 : decode cL_lend 3 = .ok (.iload_n 1, 1) := by decide +kernel
theorem dL_lend_4 : decode cL_lend 4 = .ok (.iload_n 2, 1) := by decide +kernel
theorem dL_lend_5 : decode cL_lend 5 = .ok (.invokevirtual 54, 3) := by decide +kernel
theorem dL_lend_8 : decode cL_lend 8 = .ok (.i2l, 1) := by decide +kernel
theorem dL_lend_9 : decode cL_lend 9 = .ok (.lastore, 1) := by decide +kernel
theorem dL_lend_10 : decode cL_lend 10 = .ok (.goto 15, 3) := by decide +kernel
theorem dL_lend_13 : decode cL_lend 13 = .ok (.astore 4, 2) := by decide +kernel
theorem dL_lend_15 : decode cL_lend 15 = .ok (.iconst 1, 1) := by decide +kernel
theorem dL_lend_16 : decode cL_lend 16 = .ok (.ireturn, 1) := by decide +kernel
theorem dL_lend_17 : decode cL_lend 17 = .ok (.astore 4, 2) := by decide +kernel
theorem dL_lend_19 : decode cL_lend 19 = .ok (.iconst 2, 1) := by decide +kernel
theorem dL_lend_20 : decode cL_lend 20 = .ok (.ireturn, 1) := by decide +kernel
theorem dL_lend_21 : decode cL_lend 21 = .ok (.astore 4, 2) := by decide +kernel
theorem dL_lend_23 : decode cL_lend 23 = .ok (.iconst 3, 1) := by decide +kernel
theorem dL_lend_24 : decode cL_lend 24 = .ok (.ireturn, 1) := by decide +kernel
theorem dL_lend_25 : decode cL_lend 25 = .ok (.iconst 0, 1) := by decide +kernel
theorem dL_lend_26 : decode cL_lend 26 = .ok (.ireturn, 1) := by decide +kernel
theorem dL_use_0 : decode cL_use 0 = .ok (.aload_n 2, 1) := by decide +kernel
theorem dL_use_1 : decode cL_use 1 = .ok (.iconst 0, 1) := by decide +kernel
theorem dL_use_2 : decode cL_use 2 = .ok (.aload_n 0, 1) := by decide +kernel
theorem dL_use_3 : decode cL_use 3 = .ok (.iload_n 1, 1) := by decide +kernel
theorem dL_use_4 : decode cL_use 4 = .ok (.invokevirtual 57, 3) := by decide +kernel
theorem dL_use_7 : decode cL_use 7 = .ok (.i2l, 1) := by decide +kernel
theorem dL_use_8 : decode cL_use 8 = .ok (.lastore, 1) := by decide +kernel
theorem dL_use_9 : decode cL_use 9 = .ok (.goto 9, 3) := by decide +kernel
theorem dL_use_12 : decode cL_use 12 = .ok (.astore_n 3, 1) := by decide +kernel
theorem dL_use_13 : decode cL_use 13 = .ok (.iconst 1, 1) := by decide +kernel
theorem dL_use_14 : decode cL_use 14 = .ok (.ireturn, 1) := by decide +kernel
theorem dL_use_15 : decode cL_use 15 = .ok (.astore_n 3, 1) := by decide +kernel
theorem dL_use_16 : decode cL_use 16 = .ok (.iconst 2, 1) := by decide +kernel
theorem dL_use_17 : decode cL_use 17 = .ok (.ireturn, 1) := by decide +kernel
theorem dL_use_18 : decode cL_use 18 = .ok (.iconst 0, 1) := by decide +kernel
theorem dL_use_19 : decode cL_use 19 = .ok (.ireturn, 1) := by decide +kernel
theorem dL_govern_0 : decode cL_govern 0 = .ok (.aload 4, 2) := by decide +kernel
theorem dL_govern_2 : decode cL_govern 2 = .ok (.iconst 0, 1) := by decide +kernel
theorem dL_govern_3 : decode cL_govern 3 = .ok (.aload_n 0, 1) := by decide +kernel
theorem dL_govern_4 : decode cL_govern 4 = .ok (.iload_n 1, 1) := by decide +kernel
theorem dL_govern_5 : decode cL_govern 5 = .ok (.iload_n 2, 1) := by decide +kernel
theorem dL_govern_6 : decode cL_govern 6 = .ok (.iload_n 3, 1) := by decide +kernel
theorem dL_govern_7 : decode cL_govern 7 = .ok (.invokevirtual 60, 3) := by decide +kernel
theorem dL_govern_10 : decode cL_govern 10 = .ok (.ifCond .eq 7, 3) := by decide +kernel
theorem dL_govern_13 : decode cL_govern 13 = .ok (.lconst 1, 1) := by decide +kernel
theorem dL_govern_14 : decode cL_govern 14 = .ok (.goto 4, 3) := by decide +kernel
theorem dL_govern_17 : decode cL_govern 17 = .ok (.lconst 0, 1) := by decide +kernel
theorem dL_govern_18 : decode cL_govern 18 = .ok (.lastore, 1) := by decide +kernel
theorem dL_govern_19 : decode cL_govern 19 = .ok (.goto 11, 3) := by decide +kernel
theorem dL_govern_22 : decode cL_govern 22 = .ok (.astore 5, 2) := by decide +kernel
theorem dL_govern_24 : decode cL_govern 24 = .ok (.iconst 1, 1) := by decide +kernel
theorem dL_govern_25 : decode cL_govern 25 = .ok (.ireturn, 1) := by decide +kernel
theorem dL_govern_26 : decode cL_govern 26 = .ok (.astore 5, 2) := by decide +kernel
theorem dL_govern_28 : decode cL_govern 28 = .ok (.iconst 2, 1) := by decide +kernel
theorem dL_govern_29 : decode cL_govern 29 = .ok (.ireturn, 1) := by decide +kernel
theorem dL_govern_30 : decode cL_govern 30 = .ok (.iconst 0, 1) := by decide +kernel
theorem dL_govern_31 : decode cL_govern 31 = .ok (.ireturn, 1) := by decide +kernel
theorem dL_stern_0 : decode cL_stern 0 = .ok (.aload_n 3, 1) := by decide +kernel
theorem dL_stern_1 : decode cL_stern 1 = .ok (.iconst 0, 1) := by decide +kernel
theorem dL_stern_2 : decode cL_stern 2 = .ok (.aload_n 0, 1) := by decide +kernel
theorem dL_stern_3 : decode cL_stern 3 = .ok (.iload_n 1, 1) := by decide +kernel
theorem dL_stern_4 : decode cL_stern 4 = .ok (.iload_n 2, 1) := by decide +kernel
theorem dL_stern_5 : decode cL_stern 5 = .ok (.invokevirtual 64, 3) := by decide +kernel
theorem dL_stern_8 : decode cL_stern 8 = .ok (.i2l, 1) := by decide +kernel
theorem dL_stern_9 : decode cL_stern 9 = .ok (.lastore, 1) := by decide +kernel
theorem dL_stern_10 : decode cL_stern 10 = .ok (.goto 11, 3) := by decide +kernel
theorem dL_stern_13 : decode cL_stern 13 = .ok (.astore 4, 2) := by decide +kernel
theorem dL_stern_15 : decode cL_stern 15 = .ok (.iconst 1, 1) := by decide +kernel
theorem dL_stern_16 : decode cL_stern 16 = .ok (.ireturn, 1) := by decide +kernel
theorem dL_stern_17 : decode cL_stern 17 = .ok (.astore 4, 2) := by decide +kernel
theorem dL_stern_19 : decode cL_stern 19 = .ok (.iconst 2, 1) := by decide +kernel
theorem dL_stern_20 : decode cL_stern 20 = .ok (.ireturn, 1) := by decide +kernel
theorem dL_stern_21 : decode cL_stern 21 = .ok (.iconst 0, 1) := by decide +kernel
theorem dL_stern_22 : decode cL_stern 22 = .ok (.ireturn, 1) := by decide +kernel
theorem dL_days_0 : decode cL_days 0 = .ok (.aload_n 2, 1) := by decide +kernel
theorem dL_days_1 : decode cL_days 1 = .ok (.iconst 0, 1) := by decide +kernel
theorem dL_days_2 : decode cL_days 2 = .ok (.aload_n 0, 1) := by decide +kernel
theorem dL_days_3 : decode cL_days 3 = .ok (.iload_n 1, 1) := by decide +kernel
theorem dL_days_4 : decode cL_days 4 = .ok (.invokevirtual 67, 3) := by decide +kernel
theorem dL_days_7 : decode cL_days 7 = .ok (.i2l, 1) := by decide +kernel
theorem dL_days_8 : decode cL_days 8 = .ok (.lastore, 1) := by decide +kernel
theorem dL_days_9 : decode cL_days 9 = .ok (.goto 6, 3) := by decide +kernel
theorem dL_days_12 : decode cL_days 12 = .ok (.astore_n 3, 1) := by decide +kernel
theorem dL_days_13 : decode cL_days 13 = .ok (.iconst 1, 1) := by decide +kernel
theorem dL_days_14 : decode cL_days 14 = .ok (.ireturn, 1) := by decide +kernel
theorem dL_days_15 : decode cL_days 15 = .ok (.iconst 0, 1) := by decide +kernel
theorem dL_days_16 : decode cL_days 16 = .ok (.ireturn, 1) := by decide +kernel
theorem dL_would_0 : decode cL_would 0 = .ok (.aload 4, 2) := by decide +kernel
theorem dL_would_2 : decode cL_would 2 = .ok (.iconst 0, 1) := by decide +kernel
theorem dL_would_3 : decode cL_would 3 = .ok (.aload_n 0, 1) := by decide +kernel
theorem dL_would_4 : decode cL_would 4 = .ok (.iload_n 1, 1) := by decide +kernel
theorem dL_would_5 : decode cL_would 5 = .ok (.iload_n 2, 1) := by decide +kernel
theorem dL_would_6 : decode cL_would 6 = .ok (.iload_n 3, 1) := by decide +kernel
theorem dL_would_7 : decode cL_would 7 = .ok (.invokevirtual 70, 3) := by decide +kernel
theorem dL_would_10 : decode cL_would 10 = .ok (.i2l, 1) := by decide +kernel
theorem dL_would_11 : decode cL_would 11 = .ok (.lastore, 1) := by decide +kernel
theorem dL_would_12 : decode cL_would 12 = .ok (.goto 11, 3) := by decide +kernel
theorem dL_would_15 : decode cL_would 15 = .ok (.astore 5, 2) := by decide +kernel
theorem dL_would_17 : decode cL_would 17 = .ok (.iconst 1, 1) := by decide +kernel
theorem dL_would_18 : decode cL_would 18 = .ok (.ireturn, 1) := by decide +kernel
theorem dL_would_19 : decode cL_would 19 = .ok (.astore 5, 2) := by decide +kernel
theorem dL_would_21 : decode cL_would 21 = .ok (.iconst 2, 1) := by decide +kernel
theorem dL_would_22 : decode cL_would 22 = .ok (.ireturn, 1) := by decide +kernel
theorem dL_would_23 : decode cL_would 23 = .ok (.iconst 0, 1) := by decide +kernel
theorem dL_would_24 : decode cL_would 24 = .ok (.ireturn, 1) := by decide +kernel
theorem dL_fewest_0 : decode cL_fewest 0 = .ok (.aload_n 3, 1) := by decide +kernel
theorem dL_fewest_1 : decode cL_fewest 1 = .ok (.iconst 0, 1) := by decide +kernel
theorem dL_fewest_2 : decode cL_fewest 2 = .ok (.aload_n 0, 1) := by decide +kernel
theorem dL_fewest_3 : decode cL_fewest 3 = .ok (.iload_n 1, 1) := by decide +kernel
theorem dL_fewest_4 : decode cL_fewest 4 = .ok (.iload_n 2, 1) := by decide +kernel
theorem dL_fewest_5 : decode cL_fewest 5 = .ok (.invokevirtual 73, 3) := by decide +kernel
theorem dL_fewest_8 : decode cL_fewest 8 = .ok (.i2l, 1) := by decide +kernel
theorem dL_fewest_9 : decode cL_fewest 9 = .ok (.lastore, 1) := by decide +kernel
theorem dL_fewest_10 : decode cL_fewest 10 = .ok (.goto 11, 3) := by decide +kernel
theorem dL_fewest_13 : decode cL_fewest 13 = .ok (.astore 4, 2) := by decide +kernel
theorem dL_fewest_15 : decode cL_fewest 15 = .ok (.iconst 1, 1) := by decide +kernel
theorem dL_fewest_16 : decode cL_fewest 16 = .ok (.ireturn, 1) := by decide +kernel
theorem dL_fewest_17 : decode cL_fewest 17 = .ok (.astore 4, 2) := by decide +kernel
theorem dL_fewest_19 : decode cL_fewest 19 = .ok (.iconst 2, 1) := by decide +kernel
theorem dL_fewest_20 : decode cL_fewest 20 = .ok (.ireturn, 1) := by decide +kernel
theorem dL_fewest_21 : decode cL_fewest 21 = .ok (.iconst 0, 1) := by decide +kernel
theorem dL_fewest_22 : decode cL_fewest 22 = .ok (.ireturn, 1) := by decide +kernel
theorem dL_first_0 : decode cL_first 0 = .ok (.aload_n 3, 1) := by decide +kernel
theorem dL_first_1 : decode cL_first 1 = .ok (.iconst 0, 1) := by decide +kernel
theorem dL_first_2 : decode cL_first 2 = .ok (.aload_n 0, 1) := by decide +kernel
theorem dL_first_3 : decode cL_first 3 = .ok (.iload_n 1, 1) := by decide +kernel
theorem dL_first_4 : decode cL_first 4 = .ok (.iload_n 2, 1) := by decide +kernel
theorem dL_first_5 : decode cL_first 5 = .ok (.invokevirtual 76, 3) := by decide +kernel
theorem dL_first_8 : decode cL_first 8 = .ok (.i2l, 1) := by decide +kernel
theorem dL_first_9 : decode cL_first 9 = .ok (.lastore, 1) := by decide +kernel
theorem dL_first_10 : decode cL_first 10 = .ok (.goto 11, 3) := by decide +kernel
theorem dL_first_13 : decode cL_first 13 = .ok (.astore 4, 2) := by decide +kernel
theorem dL_first_15 : decode cL_first 15 = .ok (.iconst 1, 1) := by decide +kernel
theorem dL_first_16 : decode cL_first 16 = .ok (.ireturn, 1) := by decide +kernel
theorem dL_first_17 : decode cL_first 17 = .ok (.astore 4, 2) := by decide +kernel
theorem dL_first_19 : decode cL_first 19 = .ok (.iconst 2, 1) := by decide +kernel
theorem dL_first_20 : decode cL_first 20 = .ok (.ireturn, 1) := by decide +kernel
theorem dL_first_21 : decode cL_first 21 = .ok (.iconst 0, 1) := by decide +kernel
theorem dL_first_22 : decode cL_first 22 = .ok (.ireturn, 1) := by decide +kernel
theorem dL_can_0 : decode cL_can 0 = .ok (.aload_n 3, 1) := by decide +kernel
theorem dL_can_1 : decode cL_can 1 = .ok (.iconst 0, 1) := by decide +kernel
theorem dL_can_2 : decode cL_can 2 = .ok (.aload_n 0, 1) := by decide +kernel
theorem dL_can_3 : decode cL_can 3 = .ok (.iload_n 1, 1) := by decide +kernel
theorem dL_can_4 : decode cL_can 4 = .ok (.iload_n 2, 1) := by decide +kernel
theorem dL_can_5 : decode cL_can 5 = .ok (.invokevirtual 79, 3) := by decide +kernel
theorem dL_can_8 : decode cL_can 8 = .ok (.i2l, 1) := by decide +kernel
theorem dL_can_9 : decode cL_can 9 = .ok (.lastore, 1) := by decide +kernel
theorem dL_can_10 : decode cL_can 10 = .ok (.goto 11, 3) := by decide +kernel
theorem dL_can_13 : decode cL_can 13 = .ok (.astore 4, 2) := by decide +kernel
theorem dL_can_15 : decode cL_can 15 = .ok (.iconst 1, 1) := by decide +kernel
theorem dL_can_16 : decode cL_can 16 = .ok (.ireturn, 1) := by decide +kernel
theorem dL_can_17 : decode cL_can 17 = .ok (.astore 4, 2) := by decide +kernel
theorem dL_can_19 : decode cL_can 19 = .ok (.iconst 2, 1) := by decide +kernel
theorem dL_can_20 : decode cL_can 20 = .ok (.ireturn, 1) := by decide +kernel
theorem dL_can_21 : decode cL_can 21 = .ok (.iconst 0, 1) := by decide +kernel
theorem dL_can_22 : decode cL_can 22 = .ok (.ireturn, 1) := by decide +kernel
theorem dL_harsh_0 : decode cL_harsh 0 = .ok (.aload_n 2, 1) := by decide +kernel
theorem dL_harsh_1 : decode cL_harsh 1 = .ok (.iconst 0, 1) := by decide +kernel
theorem dL_harsh_2 : decode cL_harsh 2 = .ok (.aload_n 0, 1) := by decide +kernel
theorem dL_harsh_3 : decode cL_harsh 3 = .ok (.iload_n 1, 1) := by decide +kernel
theorem dL_harsh_4 : decode cL_harsh 4 = .ok (.invokevirtual 82, 3) := by decide +kernel
theorem dL_harsh_7 : decode cL_harsh 7 = .ok (.i2l, 1) := by decide +kernel
theorem dL_harsh_8 : decode cL_harsh 8 = .ok (.lastore, 1) := by decide +kernel
theorem dL_harsh_9 : decode cL_harsh 9 = .ok (.goto 6, 3) := by decide +kernel
theorem dL_harsh_12 : decode cL_harsh 12 = .ok (.astore_n 3, 1) := by decide +kernel
theorem dL_harsh_13 : decode cL_harsh 13 = .ok (.iconst 1, 1) := by decide +kernel
theorem dL_harsh_14 : decode cL_harsh 14 = .ok (.ireturn, 1) := by decide +kernel
theorem dL_harsh_15 : decode cL_harsh 15 = .ok (.iconst 0, 1) := by decide +kernel
theorem dL_harsh_16 : decode cL_harsh 16 = .ok (.ireturn, 1) := by decide +kernel
theorem dL_kind_0 : decode cL_kind 0 = .ok (.aload_n 2, 1) := by decide +kernel
theorem dL_kind_1 : decode cL_kind 1 = .ok (.iconst 0, 1) := by decide +kernel
theorem dL_kind_2 : decode cL_kind 2 = .ok (.aload_n 0, 1) := by decide +kernel
theorem dL_kind_3 : decode cL_kind 3 = .ok (.iload_n 1, 1) := by decide +kernel
theorem dL_kind_4 : decode cL_kind 4 = .ok (.invokevirtual 85, 3) := by decide +kernel
theorem dL_kind_7 : decode cL_kind 7 = .ok (.i2l, 1) := by decide +kernel
theorem dL_kind_8 : decode cL_kind 8 = .ok (.lastore, 1) := by decide +kernel
theorem dL_kind_9 : decode cL_kind 9 = .ok (.goto 6, 3) := by decide +kernel
theorem dL_kind_12 : decode cL_kind 12 = .ok (.astore_n 3, 1) := by decide +kernel
theorem dL_kind_13 : decode cL_kind 13 = .ok (.iconst 1, 1) := by decide +kernel
theorem dL_kind_14 : decode cL_kind 14 = .ok (.ireturn, 1) := by decide +kernel
theorem dL_kind_15 : decode cL_kind 15 = .ok (.iconst 0, 1) := by decide +kernel
theorem dL_kind_16 : decode cL_kind 16 = .ok (.ireturn, 1) := by decide +kernel
theorem dL_over_0 : decode cL_over 0 = .ok (.aload_n 2, 1) := by decide +kernel
theorem dL_over_1 : decode cL_over 1 = .ok (.iconst 0, 1) := by decide +kernel
theorem dL_over_2 : decode cL_over 2 = .ok (.aload_n 0, 1) := by decide +kernel
theorem dL_over_3 : decode cL_over 3 = .ok (.iload_n 1, 1) := by decide +kernel
theorem dL_over_4 : decode cL_over 4 = .ok (.invokevirtual 88, 3) := by decide +kernel
theorem dL_over_7 : decode cL_over 7 = .ok (.i2l, 1) := by decide +kernel
theorem dL_over_8 : decode cL_over 8 = .ok (.lastore, 1) := by decide +kernel
theorem dL_over_9 : decode cL_over 9 = .ok (.goto 6, 3) := by decide +kernel
theorem dL_over_12 : decode cL_over 12 = .ok (.astore_n 3, 1) := by decide +kernel
theorem dL_over_13 : decode cL_over 13 = .ok (.iconst 1, 1) := by decide +kernel
theorem dL_over_14 : decode cL_over 14 = .ok (.ireturn, 1) := by decide +kernel
theorem dL_over_15 : decode cL_over 15 = .ok (.iconst 0, 1) := by decide +kernel
theorem dL_over_16 : decode cL_over 16 = .ok (.ireturn, 1) := by decide +kernel
theorem dL_said_0 : decode cL_said 0 = .ok (.aload_n 2, 1) := by decide +kernel
theorem dL_said_1 : decode cL_said 1 = .ok (.iconst 0, 1) := by decide +kernel
theorem dL_said_2 : decode cL_said 2 = .ok (.aload_n 0, 1) := by decide +kernel
theorem dL_said_3 : decode cL_said 3 = .ok (.iload_n 1, 1) := by decide +kernel
theorem dL_said_4 : decode cL_said 4 = .ok (.invokevirtual 91, 3) := by decide +kernel
theorem dL_said_7 : decode cL_said 7 = .ok (.i2l, 1) := by decide +kernel
theorem dL_said_8 : decode cL_said 8 = .ok (.lastore, 1) := by decide +kernel
theorem dL_said_9 : decode cL_said 9 = .ok (.goto 9, 3) := by decide +kernel
theorem dL_said_12 : decode cL_said 12 = .ok (.astore_n 3, 1) := by decide +kernel
theorem dL_said_13 : decode cL_said 13 = .ok (.iconst 1, 1) := by decide +kernel
theorem dL_said_14 : decode cL_said 14 = .ok (.ireturn, 1) := by decide +kernel
theorem dL_said_15 : decode cL_said 15 = .ok (.astore_n 3, 1) := by decide +kernel
theorem dL_said_16 : decode cL_said 16 = .ok (.iconst 2, 1) := by decide +kernel
theorem dL_said_17 : decode cL_said 17 = .ok (.ireturn, 1) := by decide +kernel
theorem dL_said_18 : decode cL_said 18 = .ok (.iconst 0, 1) := by decide +kernel
theorem dL_said_19 : decode cL_said 19 = .ok (.ireturn, 1) := by decide +kernel
theorem dL_ask_0 : decode cL_ask 0 = .ok (.aload_n 2, 1) := by decide +kernel
theorem dL_ask_1 : decode cL_ask 1 = .ok (.iconst 0, 1) := by decide +kernel
theorem dL_ask_2 : decode cL_ask 2 = .ok (.aload_n 0, 1) := by decide +kernel
theorem dL_ask_3 : decode cL_ask 3 = .ok (.iload_n 1, 1) := by decide +kernel
theorem dL_ask_4 : decode cL_ask 4 = .ok (.invokevirtual 94, 3) := by decide +kernel
theorem dL_ask_7 : decode cL_ask 7 = .ok (.i2l, 1) := by decide +kernel
theorem dL_ask_8 : decode cL_ask 8 = .ok (.lastore, 1) := by decide +kernel
theorem dL_ask_9 : decode cL_ask 9 = .ok (.goto 9, 3) := by decide +kernel
theorem dL_ask_12 : decode cL_ask 12 = .ok (.astore_n 3, 1) := by decide +kernel
theorem dL_ask_13 : decode cL_ask 13 = .ok (.iconst 1, 1) := by decide +kernel
theorem dL_ask_14 : decode cL_ask 14 = .ok (.ireturn, 1) := by decide +kernel
theorem dL_ask_15 : decode cL_ask 15 = .ok (.astore_n 3, 1) := by decide +kernel
theorem dL_ask_16 : decode cL_ask 16 = .ok (.iconst 2, 1) := by decide +kernel
theorem dL_ask_17 : decode cL_ask 17 = .ok (.ireturn, 1) := by decide +kernel
theorem dL_ask_18 : decode cL_ask 18 = .ok (.iconst 0, 1) := by decide +kernel
theorem dL_ask_19 : decode cL_ask 19 = .ok (.ireturn, 1) := by decide +kernel
theorem dL_mate_0 : decode cL_mate 0 = .ok (.aload_n 2, 1) := by decide +kernel
theorem dL_mate_1 : decode cL_mate 1 = .ok (.iconst 0, 1) := by decide +kernel
theorem dL_mate_2 : decode cL_mate 2 = .ok (.aload_n 0, 1) := by decide +kernel
theorem dL_mate_3 : decode cL_mate 3 = .ok (.iload_n 1, 1) := by decide +kernel
theorem dL_mate_4 : decode cL_mate 4 = .ok (.invokevirtual 97, 3) := by decide +kernel
theorem dL_mate_7 : decode cL_mate 7 = .ok (.i2l, 1) := by decide +kernel
theorem dL_mate_8 : decode cL_mate 8 = .ok (.lastore, 1) := by decide +kernel
theorem dL_mate_9 : decode cL_mate 9 = .ok (.goto 6, 3) := by decide +kernel
theorem dL_mate_12 : decode cL_mate 12 = .ok (.astore_n 3, 1) := by decide +kernel
theorem dL_mate_13 : decode cL_mate 13 = .ok (.iconst 1, 1) := by decide +kernel
theorem dL_mate_14 : decode cL_mate 14 = .ok (.ireturn, 1) := by decide +kernel
theorem dL_mate_15 : decode cL_mate 15 = .ok (.iconst 0, 1) := by decide +kernel
theorem dL_mate_16 : decode cL_mate 16 = .ok (.ireturn, 1) := by decide +kernel
theorem dL_stable_0 : decode cL_stable 0 = .ok (.aload_n 2, 1) := by decide +kernel
theorem dL_stable_1 : decode cL_stable 1 = .ok (.iconst 0, 1) := by decide +kernel
theorem dL_stable_2 : decode cL_stable 2 = .ok (.aload_n 0, 1) := by decide +kernel
theorem dL_stable_3 : decode cL_stable 3 = .ok (.iload_n 1, 1) := by decide +kernel
theorem dL_stable_4 : decode cL_stable 4 = .ok (.invokevirtual 100, 3) := by decide +kernel
theorem dL_stable_7 : decode cL_stable 7 = .ok (.i2l, 1) := by decide +kernel
theorem dL_stable_8 : decode cL_stable 8 = .ok (.lastore, 1) := by decide +kernel
theorem dL_stable_9 : decode cL_stable 9 = .ok (.goto 6, 3) := by decide +kernel
theorem dL_stable_12 : decode cL_stable 12 = .ok (.astore_n 3, 1) := by decide +kernel
theorem dL_stable_13 : decode cL_stable 13 = .ok (.iconst 1, 1) := by decide +kernel
theorem dL_stable_14 : decode cL_stable 14 = .ok (.ireturn, 1) := by decide +kernel
theorem dL_stable_15 : decode cL_stable 15 = .ok (.iconst 0, 1) := by decide +kernel
theorem dL_stable_16 : decode cL_stable 16 = .ok (.ireturn, 1) := by decide +kernel
theorem dL_owes_0 : decode cL_owes 0 = .ok (.aload_n 3, 1) := by decide +kernel
theorem dL_owes_1 : decode cL_owes 1 = .ok (.iconst 0, 1) := by decide +kernel
theorem dL_owes_2 : decode cL_owes 2 = .ok (.aload_n 0, 1) := by decide +kernel
theorem dL_owes_3 : decode cL_owes 3 = .ok (.iload_n 1, 1) := by decide +kernel
theorem dL_owes_4 : decode cL_owes 4 = .ok (.iload_n 2, 1) := by decide +kernel
theorem dL_owes_5 : decode cL_owes 5 = .ok (.invokevirtual 103, 3) := by decide +kernel
theorem dL_owes_8 : decode cL_owes 8 = .ok (.i2l, 1) := by decide +kernel
theorem dL_owes_9 : decode cL_owes 9 = .ok (.lastore, 1) := by decide +kernel
theorem dL_owes_10 : decode cL_owes 10 = .ok (.goto 11, 3) := by decide +kernel
theorem dL_owes_13 : decode cL_owes 13 = .ok (.astore 4, 2) := by decide +kernel
theorem dL_owes_15 : decode cL_owes 15 = .ok (.iconst 1, 1) := by decide +kernel
theorem dL_owes_16 : decode cL_owes 16 = .ok (.ireturn, 1) := by decide +kernel
theorem dL_owes_17 : decode cL_owes 17 = .ok (.astore 4, 2) := by decide +kernel
theorem dL_owes_19 : decode cL_owes 19 = .ok (.iconst 2, 1) := by decide +kernel
theorem dL_owes_20 : decode cL_owes 20 = .ok (.ireturn, 1) := by decide +kernel
theorem dL_owes_21 : decode cL_owes 21 = .ok (.iconst 0, 1) := by decide +kernel
theorem dL_owes_22 : decode cL_owes 22 = .ok (.ireturn, 1) := by decide +kernel
theorem dL_ring_0 : decode cL_ring 0 = .ok (.aload_n 2, 1) := by decide +kernel
theorem dL_ring_1 : decode cL_ring 1 = .ok (.iconst 0, 1) := by decide +kernel
theorem dL_ring_2 : decode cL_ring 2 = .ok (.aload_n 0, 1) := by decide +kernel
theorem dL_ring_3 : decode cL_ring 3 = .ok (.iload_n 1, 1) := by decide +kernel
theorem dL_ring_4 : decode cL_ring 4 = .ok (.invokevirtual 106, 3) := by decide +kernel
theorem dL_ring_7 : decode cL_ring 7 = .ok (.ifCond .eq 7, 3) := by decide +kernel
theorem dL_ring_10 : decode cL_ring 10 = .ok (.lconst 1, 1) := by decide +kernel
theorem dL_ring_11 : decode cL_ring 11 = .ok (.goto 4, 3) := by decide +kernel
theorem dL_ring_14 : decode cL_ring 14 = .ok (.lconst 0, 1) := by decide +kernel
theorem dL_ring_15 : decode cL_ring 15 = .ok (.lastore, 1) := by decide +kernel
theorem dL_ring_16 : decode cL_ring 16 = .ok (.goto 6, 3) := by decide +kernel
theorem dL_ring_19 : decode cL_ring 19 = .ok (.astore_n 3, 1) := by decide +kernel
theorem dL_ring_20 : decode cL_ring 20 = .ok (.iconst 1, 1) := by decide +kernel
theorem dL_ring_21 : decode cL_ring 21 = .ok (.ireturn, 1) := by decide +kernel
theorem dL_ring_22 : decode cL_ring 22 = .ok (.iconst 0, 1) := by decide +kernel
theorem dL_ring_23 : decode cL_ring 23 = .ok (.ireturn, 1) := by decide +kernel
theorem dL_rests_0 : decode cL_rests 0 = .ok (.aload_n 3, 1) := by decide +kernel
theorem dL_rests_1 : decode cL_rests 1 = .ok (.iconst 0, 1) := by decide +kernel
theorem dL_rests_2 : decode cL_rests 2 = .ok (.aload_n 0, 1) := by decide +kernel
theorem dL_rests_3 : decode cL_rests 3 = .ok (.iload_n 1, 1) := by decide +kernel
theorem dL_rests_4 : decode cL_rests 4 = .ok (.iload_n 2, 1) := by decide +kernel
theorem dL_rests_5 : decode cL_rests 5 = .ok (.invokevirtual 110, 3) := by decide +kernel
theorem dL_rests_8 : decode cL_rests 8 = .ok (.i2l, 1) := by decide +kernel
theorem dL_rests_9 : decode cL_rests 9 = .ok (.lastore, 1) := by decide +kernel
theorem dL_rests_10 : decode cL_rests 10 = .ok (.goto 15, 3) := by decide +kernel
theorem dL_rests_13 : decode cL_rests 13 = .ok (.astore 4, 2) := by decide +kernel
theorem dL_rests_15 : decode cL_rests 15 = .ok (.iconst 1, 1) := by decide +kernel
theorem dL_rests_16 : decode cL_rests 16 = .ok (.ireturn, 1) := by decide +kernel
theorem dL_rests_17 : decode cL_rests 17 = .ok (.astore 4, 2) := by decide +kernel
theorem dL_rests_19 : decode cL_rests 19 = .ok (.iconst 2, 1) := by decide +kernel
theorem dL_rests_20 : decode cL_rests 20 = .ok (.ireturn, 1) := by decide +kernel
theorem dL_rests_21 : decode cL_rests 21 = .ok (.astore 4, 2) := by decide +kernel
theorem dL_rests_23 : decode cL_rests 23 = .ok (.iconst 3, 1) := by decide +kernel
theorem dL_rests_24 : decode cL_rests 24 = .ok (.ireturn, 1) := by decide +kernel
theorem dL_rests_25 : decode cL_rests 25 = .ok (.iconst 0, 1) := by decide +kernel
theorem dL_rests_26 : decode cL_rests 26 = .ok (.ireturn, 1) := by decide +kernel
theorem dL_mild_0 : decode cL_mild 0 = .ok (.aload_n 2, 1) := by decide +kernel
theorem dL_mild_1 : decode cL_mild 1 = .ok (.iconst 0, 1) := by decide +kernel
theorem dL_mild_2 : decode cL_mild 2 = .ok (.aload_n 0, 1) := by decide +kernel
theorem dL_mild_3 : decode cL_mild 3 = .ok (.iload_n 1, 1) := by decide +kernel
theorem dL_mild_4 : decode cL_mild 4 = .ok (.invokevirtual 113, 3) := by decide +kernel
theorem dL_mild_7 : decode cL_mild 7 = .ok (.i2l, 1) := by decide +kernel
theorem dL_mild_8 : decode cL_mild 8 = .ok (.lastore, 1) := by decide +kernel
theorem dL_mild_9 : decode cL_mild 9 = .ok (.goto 6, 3) := by decide +kernel
theorem dL_mild_12 : decode cL_mild 12 = .ok (.astore_n 3, 1) := by decide +kernel
theorem dL_mild_13 : decode cL_mild 13 = .ok (.iconst 1, 1) := by decide +kernel
theorem dL_mild_14 : decode cL_mild 14 = .ok (.ireturn, 1) := by decide +kernel
theorem dL_mild_15 : decode cL_mild 15 = .ok (.iconst 0, 1) := by decide +kernel
theorem dL_mild_16 : decode cL_mild 16 = .ok (.ireturn, 1) := by decide +kernel
theorem dL_branch_0 : decode cL_branch 0 = .ok (.aload_n 2, 1) := by decide +kernel
theorem dL_branch_1 : decode cL_branch 1 = .ok (.iconst 0, 1) := by decide +kernel
theorem dL_branch_2 : decode cL_branch 2 = .ok (.aload_n 0, 1) := by decide +kernel
theorem dL_branch_3 : decode cL_branch 3 = .ok (.iload_n 1, 1) := by decide +kernel
theorem dL_branch_4 : decode cL_branch 4 = .ok (.invokevirtual 116, 3) := by decide +kernel
theorem dL_branch_7 : decode cL_branch 7 = .ok (.i2l, 1) := by decide +kernel
theorem dL_branch_8 : decode cL_branch 8 = .ok (.lastore, 1) := by decide +kernel
theorem dL_branch_9 : decode cL_branch 9 = .ok (.goto 6, 3) := by decide +kernel
theorem dL_branch_12 : decode cL_branch 12 = .ok (.astore_n 3, 1) := by decide +kernel
theorem dL_branch_13 : decode cL_branch 13 = .ok (.iconst 1, 1) := by decide +kernel
theorem dL_branch_14 : decode cL_branch 14 = .ok (.ireturn, 1) := by decide +kernel
theorem dL_branch_15 : decode cL_branch 15 = .ok (.iconst 0, 1) := by decide +kernel
theorem dL_branch_16 : decode cL_branch 16 = .ok (.ireturn, 1) := by decide +kernel
theorem dL_kin_0 : decode cL_kin 0 = .ok (.aload_n 3, 1) := by decide +kernel
theorem dL_kin_1 : decode cL_kin 1 = .ok (.iconst 0, 1) := by decide +kernel
theorem dL_kin_2 : decode cL_kin 2 = .ok (.aload_n 0, 1) := by decide +kernel
theorem dL_kin_3 : decode cL_kin 3 = .ok (.iload_n 1, 1) := by decide +kernel
theorem dL_kin_4 : decode cL_kin 4 = .ok (.iload_n 2, 1) := by decide +kernel
theorem dL_kin_5 : decode cL_kin 5 = .ok (.invokevirtual 119, 3) := by decide +kernel
theorem dL_kin_8 : decode cL_kin 8 = .ok (.i2l, 1) := by decide +kernel
theorem dL_kin_9 : decode cL_kin 9 = .ok (.lastore, 1) := by decide +kernel
theorem dL_kin_10 : decode cL_kin 10 = .ok (.goto 11, 3) := by decide +kernel
theorem dL_kin_13 : decode cL_kin 13 = .ok (.astore 4, 2) := by decide +kernel
theorem dL_kin_15 : decode cL_kin 15 = .ok (.iconst 1, 1) := by decide +kernel
theorem dL_kin_16 : decode cL_kin 16 = .ok (.ireturn, 1) := by decide +kernel
theorem dL_kin_17 : decode cL_kin 17 = .ok (.astore 4, 2) := by decide +kernel
theorem dL_kin_19 : decode cL_kin 19 = .ok (.iconst 2, 1) := by decide +kernel
theorem dL_kin_20 : decode cL_kin 20 = .ok (.ireturn, 1) := by decide +kernel
theorem dL_kin_21 : decode cL_kin 21 = .ok (.iconst 0, 1) := by decide +kernel
theorem dL_kin_22 : decode cL_kin 22 = .ok (.ireturn, 1) := by decide +kernel
theorem dL_cousins_0 : decode cL_cousins 0 = .ok (.aload_n 2, 1) := by decide +kernel
theorem dL_cousins_1 : decode cL_cousins 1 = .ok (.iconst 0, 1) := by decide +kernel
theorem dL_cousins_2 : decode cL_cousins 2 = .ok (.aload_n 0, 1) := by decide +kernel
theorem dL_cousins_3 : decode cL_cousins 3 = .ok (.iload_n 1, 1) := by decide +kernel
theorem dL_cousins_4 : decode cL_cousins 4 = .ok (.invokevirtual 122, 3) := by decide +kernel
theorem dL_cousins_7 : decode cL_cousins 7 = .ok (.i2l, 1) := by decide +kernel
theorem dL_cousins_8 : decode cL_cousins 8 = .ok (.lastore, 1) := by decide +kernel
theorem dL_cousins_9 : decode cL_cousins 9 = .ok (.goto 6, 3) := by decide +kernel
theorem dL_cousins_12 : decode cL_cousins 12 = .ok (.astore_n 3, 1) := by decide +kernel
theorem dL_cousins_13 : decode cL_cousins 13 = .ok (.iconst 1, 1) := by decide +kernel
theorem dL_cousins_14 : decode cL_cousins 14 = .ok (.ireturn, 1) := by decide +kernel
theorem dL_cousins_15 : decode cL_cousins 15 = .ok (.iconst 0, 1) := by decide +kernel
theorem dL_cousins_16 : decode cL_cousins 16 = .ok (.ireturn, 1) := by decide +kernel
theorem dL_under_0 : decode cL_under 0 = .ok (.aload_n 2, 1) := by decide +kernel
theorem dL_under_1 : decode cL_under 1 = .ok (.iconst 0, 1) := by decide +kernel
theorem dL_under_2 : decode cL_under 2 = .ok (.aload_n 0, 1) := by decide +kernel
theorem dL_under_3 : decode cL_under 3 = .ok (.iload_n 1, 1) := by decide +kernel
theorem dL_under_4 : decode cL_under 4 = .ok (.invokevirtual 125, 3) := by decide +kernel
theorem dL_under_7 : decode cL_under 7 = .ok (.i2l, 1) := by decide +kernel
theorem dL_under_8 : decode cL_under 8 = .ok (.lastore, 1) := by decide +kernel
theorem dL_under_9 : decode cL_under 9 = .ok (.goto 6, 3) := by decide +kernel
theorem dL_under_12 : decode cL_under 12 = .ok (.astore_n 3, 1) := by decide +kernel
theorem dL_under_13 : decode cL_under 13 = .ok (.iconst 1, 1) := by decide +kernel
theorem dL_under_14 : decode cL_under 14 = .ok (.ireturn, 1) := by decide +kernel
theorem dL_under_15 : decode cL_under 15 = .ok (.iconst 0, 1) := by decide +kernel
theorem dL_under_16 : decode cL_under 16 = .ok (.ireturn, 1) := by decide +kernel
theorem dL_odds_0 : decode cL_odds 0 = .ok (.aload 4, 2) := by decide +kernel
theorem dL_odds_2 : decode cL_odds 2 = .ok (.iconst 0, 1) := by decide +kernel
theorem dL_odds_3 : decode cL_odds 3 = .ok (.aload_n 0, 1) := by decide +kernel
theorem dL_odds_4 : decode cL_odds 4 = .ok (.iload_n 1, 1) := by decide +kernel
theorem dL_odds_5 : decode cL_odds 5 = .ok (.iload_n 2, 1) := by decide +kernel
theorem dL_odds_6 : decode cL_odds 6 = .ok (.iload_n 3, 1) := by decide +kernel
theorem dL_odds_7 : decode cL_odds 7 = .ok (.invokevirtual 128, 3) := by decide +kernel
theorem dL_odds_10 : decode cL_odds 10 = .ok (.i2l, 1) := by decide +kernel
theorem dL_odds_11 : decode cL_odds 11 = .ok (.lastore, 1) := by decide +kernel
theorem dL_odds_12 : decode cL_odds 12 = .ok (.goto 11, 3) := by decide +kernel
theorem dL_odds_15 : decode cL_odds 15 = .ok (.astore 5, 2) := by decide +kernel
theorem dL_odds_17 : decode cL_odds 17 = .ok (.iconst 1, 1) := by decide +kernel
theorem dL_odds_18 : decode cL_odds 18 = .ok (.ireturn, 1) := by decide +kernel
theorem dL_odds_19 : decode cL_odds 19 = .ok (.astore 5, 2) := by decide +kernel
theorem dL_odds_21 : decode cL_odds 21 = .ok (.iconst 2, 1) := by decide +kernel
theorem dL_odds_22 : decode cL_odds 22 = .ok (.ireturn, 1) := by decide +kernel
theorem dL_odds_23 : decode cL_odds 23 = .ok (.iconst 0, 1) := by decide +kernel
theorem dL_odds_24 : decode cL_odds 24 = .ok (.ireturn, 1) := by decide +kernel
theorem dL_ahead_0 : decode cL_ahead 0 = .ok (.aload 4, 2) := by decide +kernel
theorem dL_ahead_2 : decode cL_ahead 2 = .ok (.iconst 0, 1) := by decide +kernel
theorem dL_ahead_3 : decode cL_ahead 3 = .ok (.aload_n 0, 1) := by decide +kernel
theorem dL_ahead_4 : decode cL_ahead 4 = .ok (.iload_n 1, 1) := by decide +kernel
theorem dL_ahead_5 : decode cL_ahead 5 = .ok (.iload_n 2, 1) := by decide +kernel
theorem dL_ahead_6 : decode cL_ahead 6 = .ok (.iload_n 3, 1) := by decide +kernel
theorem dL_ahead_7 : decode cL_ahead 7 = .ok (.invokevirtual 132, 3) := by decide +kernel
theorem dL_ahead_10 : decode cL_ahead 10 = .ok (.i2l, 1) := by decide +kernel
theorem dL_ahead_11 : decode cL_ahead 11 = .ok (.lastore, 1) := by decide +kernel
theorem dL_ahead_12 : decode cL_ahead 12 = .ok (.goto 11, 3) := by decide +kernel
theorem dL_ahead_15 : decode cL_ahead 15 = .ok (.astore 5, 2) := by decide +kernel
theorem dL_ahead_17 : decode cL_ahead 17 = .ok (.iconst 1, 1) := by decide +kernel
theorem dL_ahead_18 : decode cL_ahead 18 = .ok (.ireturn, 1) := by decide +kernel
theorem dL_ahead_19 : decode cL_ahead 19 = .ok (.astore 5, 2) := by decide +kernel
theorem dL_ahead_21 : decode cL_ahead 21 = .ok (.iconst 2, 1) := by decide +kernel
theorem dL_ahead_22 : decode cL_ahead 22 = .ok (.ireturn, 1) := by decide +kernel
theorem dL_ahead_23 : decode cL_ahead 23 = .ok (.iconst 0, 1) := by decide +kernel
theorem dL_ahead_24 : decode cL_ahead 24 = .ok (.ireturn, 1) := by decide +kernel
theorem dL_trial_0 : decode cL_trial 0 = .ok (.aload_n 3, 1) := by decide +kernel
theorem dL_trial_1 : decode cL_trial 1 = .ok (.iconst 0, 1) := by decide +kernel
theorem dL_trial_2 : decode cL_trial 2 = .ok (.aload_n 0, 1) := by decide +kernel
theorem dL_trial_3 : decode cL_trial 3 = .ok (.iload_n 1, 1) := by decide +kernel
theorem dL_trial_4 : decode cL_trial 4 = .ok (.iload_n 2, 1) := by decide +kernel
theorem dL_trial_5 : decode cL_trial 5 = .ok (.invokevirtual 135, 3) := by decide +kernel
theorem dL_trial_8 : decode cL_trial 8 = .ok (.i2l, 1) := by decide +kernel
theorem dL_trial_9 : decode cL_trial 9 = .ok (.lastore, 1) := by decide +kernel
theorem dL_trial_10 : decode cL_trial 10 = .ok (.goto 7, 3) := by decide +kernel
theorem dL_trial_13 : decode cL_trial 13 = .ok (.astore 4, 2) := by decide +kernel
theorem dL_trial_15 : decode cL_trial 15 = .ok (.iconst 1, 1) := by decide +kernel
theorem dL_trial_16 : decode cL_trial 16 = .ok (.ireturn, 1) := by decide +kernel
theorem dL_trial_17 : decode cL_trial 17 = .ok (.iconst 0, 1) := by decide +kernel
theorem dL_trial_18 : decode cL_trial 18 = .ok (.ireturn, 1) := by decide +kernel
theorem dL_span_0 : decode cL_span 0 = .ok (.aload_n 3, 1) := by decide +kernel
theorem dL_span_1 : decode cL_span 1 = .ok (.iconst 0, 1) := by decide +kernel
theorem dL_span_2 : decode cL_span 2 = .ok (.aload_n 0, 1) := by decide +kernel
theorem dL_span_3 : decode cL_span 3 = .ok (.iload_n 1, 1) := by decide +kernel
theorem dL_span_4 : decode cL_span 4 = .ok (.iload_n 2, 1) := by decide +kernel
theorem dL_span_5 : decode cL_span 5 = .ok (.invokevirtual 138, 3) := by decide +kernel
theorem dL_span_8 : decode cL_span 8 = .ok (.i2l, 1) := by decide +kernel
theorem dL_span_9 : decode cL_span 9 = .ok (.lastore, 1) := by decide +kernel
theorem dL_span_10 : decode cL_span 10 = .ok (.goto 7, 3) := by decide +kernel
theorem dL_span_13 : decode cL_span 13 = .ok (.astore 4, 2) := by decide +kernel
theorem dL_span_15 : decode cL_span 15 = .ok (.iconst 1, 1) := by decide +kernel
theorem dL_span_16 : decode cL_span 16 = .ok (.ireturn, 1) := by decide +kernel
theorem dL_span_17 : decode cL_span 17 = .ok (.iconst 0, 1) := by decide +kernel
theorem dL_span_18 : decode cL_span 18 = .ok (.ireturn, 1) := by decide +kernel
theorem dL_led_0 : decode cL_led 0 = .ok (.aload_n 3, 1) := by decide +kernel
theorem dL_led_1 : decode cL_led 1 = .ok (.iconst 0, 1) := by decide +kernel
theorem dL_led_2 : decode cL_led 2 = .ok (.aload_n 0, 1) := by decide +kernel
theorem dL_led_3 : decode cL_led 3 = .ok (.iload_n 1, 1) := by decide +kernel
theorem dL_led_4 : decode cL_led 4 = .ok (.iload_n 2, 1) := by decide +kernel
theorem dL_led_5 : decode cL_led 5 = .ok (.invokevirtual 141, 3) := by decide +kernel
theorem dL_led_8 : decode cL_led 8 = .ok (.i2l, 1) := by decide +kernel
theorem dL_led_9 : decode cL_led 9 = .ok (.lastore, 1) := by decide +kernel
theorem dL_led_10 : decode cL_led 10 = .ok (.goto 7, 3) := by decide +kernel
theorem dL_led_13 : decode cL_led 13 = .ok (.astore 4, 2) := by decide +kernel
theorem dL_led_15 : decode cL_led 15 = .ok (.iconst 1, 1) := by decide +kernel
theorem dL_led_16 : decode cL_led 16 = .ok (.ireturn, 1) := by decide +kernel
theorem dL_led_17 : decode cL_led 17 = .ok (.iconst 0, 1) := by decide +kernel
theorem dL_led_18 : decode cL_led 18 = .ok (.ireturn, 1) := by decide +kernel
theorem dL_log_0 : decode cL_log 0 = .ok (.aload_n 3, 1) := by decide +kernel
theorem dL_log_1 : decode cL_log 1 = .ok (.iconst 0, 1) := by decide +kernel
theorem dL_log_2 : decode cL_log 2 = .ok (.aload_n 0, 1) := by decide +kernel
theorem dL_log_3 : decode cL_log 3 = .ok (.iload_n 1, 1) := by decide +kernel
theorem dL_log_4 : decode cL_log 4 = .ok (.iload_n 2, 1) := by decide +kernel
theorem dL_log_5 : decode cL_log 5 = .ok (.invokevirtual 144, 3) := by decide +kernel
theorem dL_log_8 : decode cL_log 8 = .ok (.i2l, 1) := by decide +kernel
theorem dL_log_9 : decode cL_log 9 = .ok (.lastore, 1) := by decide +kernel
theorem dL_log_10 : decode cL_log 10 = .ok (.goto 7, 3) := by decide +kernel
theorem dL_log_13 : decode cL_log 13 = .ok (.astore 4, 2) := by decide +kernel
theorem dL_log_15 : decode cL_log 15 = .ok (.iconst 1, 1) := by decide +kernel
theorem dL_log_16 : decode cL_log 16 = .ok (.ireturn, 1) := by decide +kernel
theorem dL_log_17 : decode cL_log 17 = .ok (.iconst 0, 1) := by decide +kernel
theorem dL_log_18 : decode cL_log 18 = .ok (.ireturn, 1) := by decide +kernel
