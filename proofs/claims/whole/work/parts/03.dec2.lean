theorem dX11_say_0 : decode cX11_say 0 = .ok (.aload_n 0, 1) := by decide +kernel
theorem dX11_say_1 : decode cX11_say 1 = .ok (.iload_n 1, 1) := by decide +kernel
theorem dX11_say_2 : decode cX11_say 2 = .ok (.invokevirtual 153, 3) := by decide +kernel
theorem dX11_say_5 : decode cX11_say 5 = .ok (.aload_n 0, 1) := by decide +kernel
theorem dX11_say_6 : decode cX11_say 6 = .ok (.iload_n 2, 1) := by decide +kernel
theorem dX11_say_7 : decode cX11_say 7 = .ok (.invokevirtual 153, 3) := by decide +kernel
theorem dX11_say_10 : decode cX11_say 10 = .ok (.aload_n 0, 1) := by decide +kernel
theorem dX11_say_11 : decode cX11_say 11 = .ok (.getfield 23, 3) := by decide +kernel
theorem dX11_say_14 : decode cX11_say 14 = .ok (.iload_n 1, 1) := by decide +kernel
theorem dX11_say_15 : decode cX11_say 15 = .ok (.iload_n 2, 1) := by decide +kernel
theorem dX11_say_16 : decode cX11_say 16 = .ok (.invokevirtual 231, 3) := by decide +kernel
theorem dX11_say_19 : decode cX11_say 19 = .ok (.invokestatic 235, 3) := by decide +kernel
theorem dX11_say_22 : decode cX11_say 22 = .ok (.aload_n 0, 1) := by decide +kernel
theorem dX11_say_23 : decode cX11_say 23 = .ok (.invokevirtual 239, 3) := by decide +kernel
theorem dX11_say_26 : decode cX11_say 26 = .ok (.aload_n 0, 1) := by decide +kernel
theorem dX11_say_27 : decode cX11_say 27 = .ok (.getfield 23, 3) := by decide +kernel
theorem dX11_say_30 : decode cX11_say 30 = .ok (.iload_n 1, 1) := by decide +kernel
theorem dX11_say_31 : decode cX11_say 31 = .ok (.iload_n 2, 1) := by decide +kernel
theorem dX11_say_32 : decode cX11_say 32 = .ok (.iload_n 3, 1) := by decide +kernel
theorem dX11_say_33 : decode cX11_say 33 = .ok (.aload_n 0, 1) := by decide +kernel
theorem dX11_say_34 : decode cX11_say 34 = .ok (.getfield 33, 3) := by decide +kernel
theorem dX11_say_37 : decode cX11_say 37 = .ok (.aload_n 0, 1) := by decide +kernel
theorem dX11_say_38 : decode cX11_say 38 = .ok (.getfield 23, 3) := by decide +kernel
theorem dX11_say_41 : decode cX11_say 41 = .ok (.iload_n 1, 1) := by decide +kernel
theorem dX11_say_42 : decode cX11_say 42 = .ok (.iload_n 2, 1) := by decide +kernel
theorem dX11_say_43 : decode cX11_say 43 = .ok (.iload_n 3, 1) := by decide +kernel
theorem dX11_say_44 : decode cX11_say 44 = .ok (.invokevirtual 224, 3) := by decide +kernel
theorem dX11_say_47 : decode cX11_say 47 = .ok (.invokevirtual 242, 3) := by decide +kernel
theorem dX11_say_50 : decode cX11_say 50 = .ok (.ireturn, 1) := by decide +kernel
theorem dX11_bear_0 : decode cX11_bear 0 = .ok (.aload_n 0, 1) := by decide +kernel
theorem dX11_bear_1 : decode cX11_bear 1 = .ok (.iload_n 1, 1) := by decide +kernel
theorem dX11_bear_2 : decode cX11_bear 2 = .ok (.invokevirtual 153, 3) := by decide +kernel
theorem dX11_bear_5 : decode cX11_bear 5 = .ok (.aload_n 0, 1) := by decide +kernel
theorem dX11_bear_6 : decode cX11_bear 6 = .ok (.getfield 23, 3) := by decide +kernel
theorem dX11_bear_9 : decode cX11_bear 9 = .ok (.iload_n 1, 1) := by decide +kernel
theorem dX11_bear_10 : decode cX11_bear 10 = .ok (.invokevirtual 165, 3) := by decide +kernel
theorem dX11_bear_13 : decode cX11_bear 13 = .ok (.getfield 177, 3) := by decide +kernel
theorem dX11_bear_16 : decode cX11_bear 16 = .ok (.iconst 1, 1) := by decide +kernel
theorem dX11_bear_17 : decode cX11_bear 17 = .ok (.if_icmp .ne 19, 3) := by decide +kernel
theorem dX11_bear_20 : decode cX11_bear 20 = .ok (.aload_n 0, 1) := by decide +kernel
theorem dX11_bear_21 : decode cX11_bear 21 = .ok (.getfield 23, 3) := by decide +kernel
theorem dX11_bear_24 : decode cX11_bear 24 = .ok (.getfield 246, 3) := by decide +kernel
theorem dX11_bear_27 : decode cX11_bear 27 = .ok (.bipush 8, 2) := by decide +kernel
theorem dX11_bear_29 : decode cX11_bear 29 = .ok (.if_icmp .ge 7, 3) := by decide +kernel
theorem dX11_bear_32 : decode cX11_bear 32 = .ok (.iconst 1, 1) := by decide +kernel
theorem dX11_bear_33 : decode cX11_bear 33 = .ok (.goto 4, 3) := by decide +kernel
theorem dX11_bear_36 : decode cX11_bear 36 = .ok (.iconst 0, 1) := by decide +kernel
theorem dX11_bear_37 : decode cX11_bear 37 = .ok (.invokestatic 235, 3) := by decide +kernel
theorem dX11_bear_40 : decode cX11_bear 40 = .ok (.aload_n 0, 1) := by decide +kernel
theorem dX11_bear_41 : decode cX11_bear 41 = .ok (.invokevirtual 239, 3) := by decide +kernel
theorem dX11_bear_44 : decode cX11_bear 44 = .ok (.aload_n 0, 1) := by decide +kernel
theorem dX11_bear_45 : decode cX11_bear 45 = .ok (.getfield 23, 3) := by decide +kernel
theorem dX11_bear_48 : decode cX11_bear 48 = .ok (.iload_n 2, 1) := by decide +kernel
theorem dX11_bear_49 : decode cX11_bear 49 = .ok (.ifCond .eq 7, 3) := by decide +kernel
theorem dX11_bear_52 : decode cX11_bear 52 = .ok (.iconst 1, 1) := by decide +kernel
theorem dX11_bear_53 : decode cX11_bear 53 = .ok (.goto 4, 3) := by decide +kernel
theorem dX11_bear_56 : decode cX11_bear 56 = .ok (.iconst 0, 1) := by decide +kernel
theorem dX11_bear_57 : decode cX11_bear 57 = .ok (.aload_n 0, 1) := by decide +kernel
theorem dX11_bear_58 : decode cX11_bear 58 = .ok (.getfield 23, 3) := by decide +kernel
theorem dX11_bear_61 : decode cX11_bear 61 = .ok (.getfield 249, 3) := by decide +kernel
theorem dX11_bear_64 : decode cX11_bear 64 = .ok (.iconst 2, 1) := by decide +kernel
theorem dX11_bear_65 : decode cX11_bear 65 = .ok (.idiv, 1) := by decide +kernel
theorem dX11_bear_66 : decode cX11_bear 66 = .ok (.iload_n 1, 1) := by decide +kernel
theorem dX11_bear_67 : decode cX11_bear 67 = .ok (.invokevirtual 252, 3) := by decide +kernel
theorem dX11_bear_70 : decode cX11_bear 70 = .ok (.istore_n 3, 1) := by decide +kernel
theorem dX11_bear_71 : decode cX11_bear 71 = .ok (.aload_n 0, 1) := by decide +kernel
theorem dX11_bear_72 : decode cX11_bear 72 = .ok (.getfield 23, 3) := by decide +kernel
theorem dX11_bear_75 : decode cX11_bear 75 = .ok (.iload_n 1, 1) := by decide +kernel
theorem dX11_bear_76 : decode cX11_bear 76 = .ok (.iload_n 3, 1) := by decide +kernel
theorem dX11_bear_77 : decode cX11_bear 77 = .ok (.iconst 1, 1) := by decide +kernel
theorem dX11_bear_78 : decode cX11_bear 78 = .ok (.invokevirtual 256, 3) := by decide +kernel
theorem dX11_bear_81 : decode cX11_bear 81 = .ok (.iload_n 3, 1) := by decide +kernel
theorem dX11_bear_82 : decode cX11_bear 82 = .ok (.ireturn, 1) := by decide +kernel
theorem dX11_wed_0 : decode cX11_wed 0 = .ok (.aload_n 0, 1) := by decide +kernel
theorem dX11_wed_1 : decode cX11_wed 1 = .ok (.iload_n 1, 1) := by decide +kernel
theorem dX11_wed_2 : decode cX11_wed 2 = .ok (.iload_n 2, 1) := by decide +kernel
theorem dX11_wed_3 : decode cX11_wed 3 = .ok (.invokevirtual 216, 3) := by decide +kernel
theorem dX11_wed_6 : decode cX11_wed 6 = .ok (.aload_n 0, 1) := by decide +kernel
theorem dX11_wed_7 : decode cX11_wed 7 = .ok (.getfield 23, 3) := by decide +kernel
theorem dX11_wed_10 : decode cX11_wed 10 = .ok (.iload_n 1, 1) := by decide +kernel
theorem dX11_wed_11 : decode cX11_wed 11 = .ok (.iload_n 2, 1) := by decide +kernel
theorem dX11_wed_12 : decode cX11_wed 12 = .ok (.invokevirtual 260, 3) := by decide +kernel
theorem dX11_wed_15 : decode cX11_wed 15 = .ok (.invokestatic 235, 3) := by decide +kernel
theorem dX11_wed_18 : decode cX11_wed 18 = .ok (.aload_n 0, 1) := by decide +kernel
theorem dX11_wed_19 : decode cX11_wed 19 = .ok (.invokevirtual 239, 3) := by decide +kernel
theorem dX11_wed_22 : decode cX11_wed 22 = .ok (.aload_n 0, 1) := by decide +kernel
theorem dX11_wed_23 : decode cX11_wed 23 = .ok (.getfield 23, 3) := by decide +kernel
theorem dX11_wed_26 : decode cX11_wed 26 = .ok (.iload_n 1, 1) := by decide +kernel
theorem dX11_wed_27 : decode cX11_wed 27 = .ok (.iload_n 2, 1) := by decide +kernel
theorem dX11_wed_28 : decode cX11_wed 28 = .ok (.invokevirtual 263, 3) := by decide +kernel
theorem dX11_wed_31 : decode cX11_wed 31 = .ok (.aload_n 0, 1) := by decide +kernel
theorem dX11_wed_32 : decode cX11_wed 32 = .ok (.getfield 23, 3) := by decide +kernel
theorem dX11_wed_35 : decode cX11_wed 35 = .ok (.iload_n 1, 1) := by decide +kernel
theorem dX11_wed_36 : decode cX11_wed 36 = .ok (.iload_n 2, 1) := by decide +kernel
theorem dX11_wed_37 : decode cX11_wed 37 = .ok (.invokevirtual 228, 3) := by decide +kernel
theorem dX11_wed_40 : decode cX11_wed 40 = .ok (.ireturn, 1) := by decide +kernel
theorem dX11_part_0 : decode cX11_part 0 = .ok (.aload_n 0, 1) := by decide +kernel
theorem dX11_part_1 : decode cX11_part 1 = .ok (.iload_n 1, 1) := by decide +kernel
theorem dX11_part_2 : decode cX11_part 2 = .ok (.invokevirtual 153, 3) := by decide +kernel
theorem dX11_part_5 : decode cX11_part 5 = .ok (.aload_n 0, 1) := by decide +kernel
theorem dX11_part_6 : decode cX11_part 6 = .ok (.getfield 23, 3) := by decide +kernel
theorem dX11_part_9 : decode cX11_part 9 = .ok (.iload_n 1, 1) := by decide +kernel
theorem dX11_part_10 : decode cX11_part 10 = .ok (.invokevirtual 165, 3) := by decide +kernel
theorem dX11_part_13 : decode cX11_part 13 = .ok (.getfield 183, 3) := by decide +kernel
theorem dX11_part_16 : decode cX11_part 16 = .ok (.istore_n 2, 1) := by decide +kernel
theorem dX11_part_17 : decode cX11_part 17 = .ok (.iload_n 2, 1) := by decide +kernel
theorem dX11_part_18 : decode cX11_part 18 = .ok (.iconst (-1), 1) := by decide +kernel
theorem dX11_part_19 : decode cX11_part 19 = .ok (.if_icmp .eq 7, 3) := by decide +kernel
theorem dX11_part_22 : decode cX11_part 22 = .ok (.iconst 1, 1) := by decide +kernel
theorem dX11_part_23 : decode cX11_part 23 = .ok (.goto 4, 3) := by decide +kernel
theorem dX11_part_26 : decode cX11_part 26 = .ok (.iconst 0, 1) := by decide +kernel
theorem dX11_part_27 : decode cX11_part 27 = .ok (.invokestatic 235, 3) := by decide +kernel
theorem dX11_part_30 : decode cX11_part 30 = .ok (.aload_n 0, 1) := by decide +kernel
theorem dX11_part_31 : decode cX11_part 31 = .ok (.invokevirtual 239, 3) := by decide +kernel
theorem dX11_part_34 : decode cX11_part 34 = .ok (.aload_n 0, 1) := by decide +kernel
theorem dX11_part_35 : decode cX11_part 35 = .ok (.getfield 23, 3) := by decide +kernel
theorem dX11_part_38 : decode cX11_part 38 = .ok (.iload_n 1, 1) := by decide +kernel
theorem dX11_part_39 : decode cX11_part 39 = .ok (.invokevirtual 165, 3) := by decide +kernel
theorem dX11_part_42 : decode cX11_part 42 = .ok (.iconst (-1), 1) := by decide +kernel
theorem dX11_part_43 : decode cX11_part 43 = .ok (.putfield 183, 3) := by decide +kernel
theorem dX11_part_46 : decode cX11_part 46 = .ok (.aload_n 0, 1) := by decide +kernel
theorem dX11_part_47 : decode cX11_part 47 = .ok (.getfield 23, 3) := by decide +kernel
theorem dX11_part_50 : decode cX11_part 50 = .ok (.iload_n 2, 1) := by decide +kernel
theorem dX11_part_51 : decode cX11_part 51 = .ok (.invokevirtual 165, 3) := by decide +kernel
theorem dX11_part_54 : decode cX11_part 54 = .ok (.iconst (-1), 1) := by decide +kernel
theorem dX11_part_55 : decode cX11_part 55 = .ok (.putfield 183, 3) := by decide +kernel
theorem dX11_part_58 : decode cX11_part 58 = .ok (.iload_n 2, 1) := by decide +kernel
theorem dX11_part_59 : decode cX11_part 59 = .ok (.ireturn, 1) := by decide +kernel
theorem dX11_lend_0 : decode cX11_lend 0 = .ok (.aload_n 0, 1) := by decide +kernel
theorem dX11_lend_1 : decode cX11_lend 1 = .ok (.iload_n 1, 1) := by decide +kernel
theorem dX11_lend_2 : decode cX11_lend 2 = .ok (.iload_n 2, 1) := by decide +kernel
theorem dX11_lend_3 : decode cX11_lend 3 = .ok (.invokevirtual 216, 3) := by decide +kernel
theorem dX11_lend_6 : decode cX11_lend 6 = .ok (.aload_n 0, 1) := by decide +kernel
theorem dX11_lend_7 : decode cX11_lend 7 = .ok (.getfield 23, 3) := by decide +kernel
theorem dX11_lend_10 : decode cX11_lend 10 = .ok (.iload_n 1, 1) := by decide +kernel
theorem dX11_lend_11 : decode cX11_lend 11 = .ok (.invokevirtual 165, 3) := by decide +kernel
theorem dX11_lend_14 : decode cX11_lend 14 = .ok (.astore_n 3, 1) := by decide +kernel
theorem dX11_lend_15 : decode cX11_lend 15 = .ok (.aload_n 0, 1) := by decide +kernel
theorem dX11_lend_16 : decode cX11_lend 16 = .ok (.getfield 23, 3) := by decide +kernel
theorem dX11_lend_19 : decode cX11_lend 19 = .ok (.iload_n 2, 1) := by decide +kernel
theorem dX11_lend_20 : decode cX11_lend 20 = .ok (.invokevirtual 165, 3) := by decide +kernel
theorem dX11_lend_23 : decode cX11_lend 23 = .ok (.astore 4, 2) := by decide +kernel
theorem dX11_lend_25 : decode cX11_lend 25 = .ok (.aload_n 3, 1) := by decide +kernel
theorem dX11_lend_26 : decode cX11_lend 26 = .ok (.getfield 192, 3) := by decide +kernel
theorem dX11_lend_29 : decode cX11_lend 29 = .ok (.ifCond .le 31, 3) := by decide +kernel
theorem dX11_lend_32 : decode cX11_lend 32 = .ok (.aload 4, 2) := by decide +kernel
theorem dX11_lend_34 : decode cX11_lend 34 = .ok (.getfield 192, 3) := by decide +kernel
theorem dX11_lend_37 : decode cX11_lend 37 = .ok (.bipush 9, 2) := by decide +kernel
theorem dX11_lend_39 : decode cX11_lend 39 = .ok (.if_icmp .ge 21, 3) := by decide +kernel
theorem dX11_lend_42 : decode cX11_lend 42 = .ok (.aload_n 0, 1) := by decide +kernel
theorem dX11_lend_43 : decode cX11_lend 43 = .ok (.getfield 23, 3) := by decide +kernel
theorem dX11_lend_46 : decode cX11_lend 46 = .ok (.iload_n 1, 1) := by decide +kernel
theorem dX11_lend_47 : decode cX11_lend 47 = .ok (.iload_n 2, 1) := by decide +kernel
theorem dX11_lend_48 : decode cX11_lend 48 = .ok (.invokevirtual 220, 3) := by decide +kernel
theorem dX11_lend_51 : decode cX11_lend 51 = .ok (.bipush 9, 2) := by decide +kernel
theorem dX11_lend_53 : decode cX11_lend 53 = .ok (.if_icmp .ge 7, 3) := by decide +kernel
theorem dX11_lend_56 : decode cX11_lend 56 = .ok (.iconst 1, 1) := by decide +kernel
theorem dX11_lend_57 : decode cX11_lend 57 = .ok (.goto 4, 3) := by decide +kernel
theorem dX11_lend_60 : decode cX11_lend 60 = .ok (.iconst 0, 1) := by decide +kernel
theorem dX11_lend_61 : decode cX11_lend 61 = .ok (.invokestatic 235, 3) := by decide +kernel
theorem dX11_lend_64 : decode cX11_lend 64 = .ok (.aload_n 0, 1) := by decide +kernel
theorem dX11_lend_65 : decode cX11_lend 65 = .ok (.invokevirtual 239, 3) := by decide +kernel
theorem dX11_lend_68 : decode cX11_lend 68 = .ok (.aload_n 0, 1) := by decide +kernel
theorem dX11_lend_69 : decode cX11_lend 69 = .ok (.getfield 23, 3) := by decide +kernel
theorem dX11_lend_72 : decode cX11_lend 72 = .ok (.iload_n 1, 1) := by decide +kernel
theorem dX11_lend_73 : decode cX11_lend 73 = .ok (.iload_n 2, 1) := by decide +kernel
theorem dX11_lend_74 : decode cX11_lend 74 = .ok (.invokevirtual 266, 3) := by decide +kernel
theorem dX11_lend_77 : decode cX11_lend 77 = .ok (.aload_n 3, 1) := by decide +kernel
theorem dX11_lend_78 : decode cX11_lend 78 = .ok (.getfield 192, 3) := by decide +kernel
theorem dX11_lend_81 : decode cX11_lend 81 = .ok (.ireturn, 1) := by decide +kernel
theorem dX11_use_0 : decode cX11_use 0 = .ok (.aload_n 0, 1) := by decide +kernel
theorem dX11_use_1 : decode cX11_use 1 = .ok (.iload_n 1, 1) := by decide +kernel
theorem dX11_use_2 : decode cX11_use 2 = .ok (.invokevirtual 153, 3) := by decide +kernel
theorem dX11_use_5 : decode cX11_use 5 = .ok (.aload_n 0, 1) := by decide +kernel
theorem dX11_use_6 : decode cX11_use 6 = .ok (.getfield 23, 3) := by decide +kernel
theorem dX11_use_9 : decode cX11_use 9 = .ok (.iload_n 1, 1) := by decide +kernel
theorem dX11_use_10 : decode cX11_use 10 = .ok (.invokevirtual 165, 3) := by decide +kernel
theorem dX11_use_13 : decode cX11_use 13 = .ok (.getfield 192, 3) := by decide +kernel
theorem dX11_use_16 : decode cX11_use 16 = .ok (.ifCond .le 7, 3) := by decide +kernel
theorem dX11_use_19 : decode cX11_use 19 = .ok (.iconst 1, 1) := by decide +kernel
theorem dX11_use_20 : decode cX11_use 20 = .ok (.goto 4, 3) := by decide +kernel
theorem dX11_use_23 : decode cX11_use 23 = .ok (.iconst 0, 1) := by decide +kernel
theorem dX11_use_24 : decode cX11_use 24 = .ok (.invokestatic 235, 3) := by decide +kernel
theorem dX11_use_27 : decode cX11_use 27 = .ok (.aload_n 0, 1) := by decide +kernel
theorem dX11_use_28 : decode cX11_use 28 = .ok (.invokevirtual 239, 3) := by decide +kernel
theorem dX11_use_31 : decode cX11_use 31 = .ok (.aload_n 0, 1) := by decide +kernel
theorem dX11_use_32 : decode cX11_use 32 = .ok (.getfield 23, 3) := by decide +kernel
theorem dX11_use_35 : decode cX11_use 35 = .ok (.iload_n 1, 1) := by decide +kernel
theorem dX11_use_36 : decode cX11_use 36 = .ok (.invokevirtual 165, 3) := by decide +kernel
theorem dX11_use_39 : decode cX11_use 39 = .ok (.dup, 1) := by decide +kernel
theorem dX11_use_40 : decode cX11_use 40 = .ok (.getfield 192, 3) := by decide +kernel
theorem dX11_use_43 : decode cX11_use 43 = .ok (.iconst 1, 1) := by decide +kernel
theorem dX11_use_44 : decode cX11_use 44 = .ok (.isub, 1) := by decide +kernel
theorem dX11_use_45 : decode cX11_use 45 = .ok (.putfield 192, 3) := by decide +kernel
theorem dX11_use_48 : decode cX11_use 48 = .ok (.aload_n 0, 1) := by decide +kernel
theorem dX11_use_49 : decode cX11_use 49 = .ok (.getfield 23, 3) := by decide +kernel
theorem dX11_use_52 : decode cX11_use 52 = .ok (.iload_n 1, 1) := by decide +kernel
theorem dX11_use_53 : decode cX11_use 53 = .ok (.iload_n 1, 1) := by decide +kernel
theorem dX11_use_54 : decode cX11_use 54 = .ok (.iconst 1, 1) := by decide +kernel
theorem dX11_use_55 : decode cX11_use 55 = .ok (.aload_n 0, 1) := by decide +kernel
theorem dX11_use_56 : decode cX11_use 56 = .ok (.getfield 23, 3) := by decide +kernel
theorem dX11_use_59 : decode cX11_use 59 = .ok (.aload_n 0, 1) := by decide +kernel
theorem dX11_use_60 : decode cX11_use 60 = .ok (.getfield 23, 3) := by decide +kernel
theorem dX11_use_63 : decode cX11_use 63 = .ok (.getfield 269, 3) := by decide +kernel
theorem dX11_use_66 : decode cX11_use 66 = .ok (.invokevirtual 272, 3) := by decide +kernel
theorem dX11_use_69 : decode cX11_use 69 = .ok (.invokevirtual 242, 3) := by decide +kernel
theorem dX11_use_72 : decode cX11_use 72 = .ok (.ireturn, 1) := by decide +kernel
theorem dX11_govern_0 : decode cX11_govern 0 = .ok (.aload_n 0, 1) := by decide +kernel
theorem dX11_govern_1 : decode cX11_govern 1 = .ok (.iload_n 1, 1) := by decide +kernel
theorem dX11_govern_2 : decode cX11_govern 2 = .ok (.iload_n 2, 1) := by decide +kernel
theorem dX11_govern_3 : decode cX11_govern 3 = .ok (.invokevirtual 216, 3) := by decide +kernel
theorem dX11_govern_6 : decode cX11_govern 6 = .ok (.aload_n 0, 1) := by decide +kernel
theorem dX11_govern_7 : decode cX11_govern 7 = .ok (.invokevirtual 239, 3) := by decide +kernel
theorem dX11_govern_10 : decode cX11_govern 10 = .ok (.aload_n 0, 1) := by decide +kernel
theorem dX11_govern_11 : decode cX11_govern 11 = .ok (.getfield 23, 3) := by decide +kernel
theorem dX11_govern_14 : decode cX11_govern 14 = .ok (.iload_n 1, 1) := by decide +kernel
theorem dX11_govern_15 : decode cX11_govern 15 = .ok (.iload_n 2, 1) := by decide +kernel
theorem dX11_govern_16 : decode cX11_govern 16 = .ok (.invokevirtual 231, 3) := by decide +kernel
theorem dX11_govern_19 : decode cX11_govern 19 = .ok (.istore 4, 2) := by decide +kernel
theorem dX11_govern_21 : decode cX11_govern 21 = .ok (.aload_n 0, 1) := by decide +kernel
theorem dX11_govern_22 : decode cX11_govern 22 = .ok (.getfield 23, 3) := by decide +kernel
theorem dX11_govern_25 : decode cX11_govern 25 = .ok (.iload_n 1, 1) := by decide +kernel
theorem dX11_govern_26 : decode cX11_govern 26 = .ok (.iload_n 2, 1) := by decide +kernel
theorem dX11_govern_27 : decode cX11_govern 27 = .ok (.iload_n 3, 1) := by decide +kernel
theorem dX11_govern_28 : decode cX11_govern 28 = .ok (.invokevirtual 256, 3) := by decide +kernel
theorem dX11_govern_31 : decode cX11_govern 31 = .ok (.iload 4, 2) := by decide +kernel
theorem dX11_govern_33 : decode cX11_govern 33 = .ok (.iload_n 3, 1) := by decide +kernel
theorem dX11_govern_34 : decode cX11_govern 34 = .ok (.if_icmp .eq 7, 3) := by decide +kernel
theorem dX11_govern_37 : decode cX11_govern 37 = .ok (.iconst 1, 1) := by decide +kernel
theorem dX11_govern_38 : decode cX11_govern 38 = .ok (.goto 4, 3) := by decide +kernel
theorem dX11_govern_41 : decode cX11_govern 41 = .ok (.iconst 0, 1) := by decide +kernel
theorem dX11_govern_42 : decode cX11_govern 42 = .ok (.ireturn, 1) := by decide +kernel
theorem dX11_stern_0 : decode cX11_stern 0 = .ok (.aload_n 0, 1) := by decide +kernel
theorem dX11_stern_1 : decode cX11_stern 1 = .ok (.iload_n 1, 1) := by decide +kernel
theorem dX11_stern_2 : decode cX11_stern 2 = .ok (.invokevirtual 153, 3) := by decide +kernel
theorem dX11_stern_5 : decode cX11_stern 5 = .ok (.iload_n 2, 1) := by decide +kernel
theorem dX11_stern_6 : decode cX11_stern 6 = .ok (.iconst 0, 1) := by decide +kernel
theorem dX11_stern_7 : decode cX11_stern 7 = .ok (.bipush 100, 2) := by decide +kernel
theorem dX11_stern_9 : decode cX11_stern 9 = .ok (.invokestatic 275, 3) := by decide +kernel
theorem dX11_stern_12 : decode cX11_stern 12 = .ok (.aload_n 0, 1) := by decide +kernel
theorem dX11_stern_13 : decode cX11_stern 13 = .ok (.invokevirtual 239, 3) := by decide +kernel
theorem dX11_stern_16 : decode cX11_stern 16 = .ok (.aload_n 0, 1) := by decide +kernel
theorem dX11_stern_17 : decode cX11_stern 17 = .ok (.getfield 23, 3) := by decide +kernel
theorem dX11_stern_20 : decode cX11_stern 20 = .ok (.iload_n 1, 1) := by decide +kernel
theorem dX11_stern_21 : decode cX11_stern 21 = .ok (.invokevirtual 165, 3) := by decide +kernel
theorem dX11_stern_24 : decode cX11_stern 24 = .ok (.getfield 189, 3) := by decide +kernel
theorem dX11_stern_27 : decode cX11_stern 27 = .ok (.istore_n 3, 1) := by decide +kernel
theorem dX11_stern_28 : decode cX11_stern 28 = .ok (.aload_n 0, 1) := by decide +kernel
theorem dX11_stern_29 : decode cX11_stern 29 = .ok (.getfield 23, 3) := by decide +kernel
theorem dX11_stern_32 : decode cX11_stern 32 = .ok (.iload_n 1, 1) := by decide +kernel
theorem dX11_stern_33 : decode cX11_stern 33 = .ok (.invokevirtual 165, 3) := by decide +kernel
theorem dX11_stern_36 : decode cX11_stern 36 = .ok (.iload_n 2, 1) := by decide +kernel
theorem dX11_stern_37 : decode cX11_stern 37 = .ok (.putfield 189, 3) := by decide +kernel
theorem dX11_stern_40 : decode cX11_stern 40 = .ok (.iload_n 3, 1) := by decide +kernel
theorem dX11_stern_41 : decode cX11_stern 41 = .ok (.ireturn, 1) := by decide +kernel
theorem dX11_days_0 : decode cX11_days 0 = .ok (.iload_n 1, 1) := by decide +kernel
theorem dX11_days_1 : decode cX11_days 1 = .ok (.iconst 1, 1) := by decide +kernel
theorem dX11_days_2 : decode cX11_days 2 = .ok (.bipush 100, 2) := by decide +kernel
theorem dX11_days_4 : decode cX11_days 4 = .ok (.invokestatic 275, 3) := by decide +kernel
theorem dX11_days_7 : decode cX11_days 7 = .ok (.aload_n 0, 1) := by decide +kernel
theorem dX11_days_8 : decode cX11_days 8 = .ok (.invokevirtual 239, 3) := by decide +kernel
theorem dX11_days_11 : decode cX11_days 11 = .ok (.aload_n 0, 1) := by decide +kernel
theorem dX11_days_12 : decode cX11_days 12 = .ok (.getfield 80, 3) := by decide +kernel
theorem dX11_days_15 : decode cX11_days 15 = .ok (.aload_n 0, 1) := by decide +kernel
theorem dX11_days_16 : decode cX11_days 16 = .ok (.getfield 23, 3) := by decide +kernel
theorem dX11_days_19 : decode cX11_days 19 = .ok (.iload_n 1, 1) := by decide +kernel
theorem dX11_days_20 : decode cX11_days 20 = .ok (.invokevirtual 279, 3) := by decide +kernel
theorem dX11_days_23 : decode cX11_days 23 = .ok (.ireturn, 1) := by decide +kernel
theorem dX11_would_0 : decode cX11_would 0 = .ok (.aload_n 0, 1) := by decide +kernel
theorem dX11_would_1 : decode cX11_would 1 = .ok (.iload_n 1, 1) := by decide +kernel
theorem dX11_would_2 : decode cX11_would 2 = .ok (.iload_n 2, 1) := by decide +kernel
theorem dX11_would_3 : decode cX11_would 3 = .ok (.invokevirtual 216, 3) := by decide +kernel
theorem dX11_would_6 : decode cX11_would 6 = .ok (.aload_n 0, 1) := by decide +kernel
theorem dX11_would_7 : decode cX11_would 7 = .ok (.getfield 23, 3) := by decide +kernel
theorem dX11_would_10 : decode cX11_would 10 = .ok (.aload_n 0, 1) := by decide +kernel
theorem dX11_would_11 : decode cX11_would 11 = .ok (.getfield 23, 3) := by decide +kernel
theorem dX11_would_14 : decode cX11_would 14 = .ok (.iload_n 2, 1) := by decide +kernel
theorem dX11_would_15 : decode cX11_would 15 = .ok (.invokevirtual 165, 3) := by decide +kernel
theorem dX11_would_18 : decode cX11_would 18 = .ok (.getfield 169, 3) := by decide +kernel
theorem dX11_would_21 : decode cX11_would 21 = .ok (.aload_n 0, 1) := by decide +kernel
theorem dX11_would_22 : decode cX11_would 22 = .ok (.getfield 33, 3) := by decide +kernel
theorem dX11_would_25 : decode cX11_would 25 = .ok (.aload_n 0, 1) := by decide +kernel
theorem dX11_would_26 : decode cX11_would 26 = .ok (.getfield 23, 3) := by decide +kernel
theorem dX11_would_29 : decode cX11_would 29 = .ok (.iload_n 1, 1) := by decide +kernel
theorem dX11_would_30 : decode cX11_would 30 = .ok (.iload_n 2, 1) := by decide +kernel
theorem dX11_would_31 : decode cX11_would 31 = .ok (.iload_n 3, 1) := by decide +kernel
theorem dX11_would_32 : decode cX11_would 32 = .ok (.invokevirtual 224, 3) := by decide +kernel
theorem dX11_would_35 : decode cX11_would 35 = .ok (.iload_n 3, 1) := by decide +kernel
theorem dX11_would_36 : decode cX11_would 36 = .ok (.invokevirtual 283, 3) := by decide +kernel
theorem dX11_would_39 : decode cX11_would 39 = .ok (.ireturn, 1) := by decide +kernel
theorem dX11_fewest_0 : decode cX11_fewest 0 = .ok (.aload_n 0, 1) := by decide +kernel
theorem dX11_fewest_1 : decode cX11_fewest 1 = .ok (.iload_n 1, 1) := by decide +kernel
theorem dX11_fewest_2 : decode cX11_fewest 2 = .ok (.invokevirtual 153, 3) := by decide +kernel
theorem dX11_fewest_5 : decode cX11_fewest 5 = .ok (.iload_n 2, 1) := by decide +kernel
theorem dX11_fewest_6 : decode cX11_fewest 6 = .ok (.iconst 0, 1) := by decide +kernel
theorem dX11_fewest_7 : decode cX11_fewest 7 = .ok (.aload_n 0, 1) := by decide +kernel
theorem dX11_fewest_8 : decode cX11_fewest 8 = .ok (.getfield 23, 3) := by decide +kernel
theorem dX11_fewest_11 : decode cX11_fewest 11 = .ok (.getfield 249, 3) := by decide +kernel
theorem dX11_fewest_14 : decode cX11_fewest 14 = .ok (.iconst 1, 1) := by decide +kernel
theorem dX11_fewest_15 : decode cX11_fewest 15 = .ok (.isub, 1) := by decide +kernel
theorem dX11_fewest_16 : decode cX11_fewest 16 = .ok (.invokestatic 275, 3) := by decide +kernel
theorem dX11_fewest_19 : decode cX11_fewest 19 = .ok (.aload_n 0, 1) := by decide +kernel
theorem dX11_fewest_20 : decode cX11_fewest 20 = .ok (.getfield 87, 3) := by decide +kernel
theorem dX11_fewest_23 : decode cX11_fewest 23 = .ok (.iload_n 1, 1) := by decide +kernel
theorem dX11_fewest_24 : decode cX11_fewest 24 = .ok (.iload_n 2, 1) := by decide +kernel
theorem dX11_fewest_25 : decode cX11_fewest 25 = .ok (.invokevirtual 287, 3) := by decide +kernel
theorem dX11_fewest_28 : decode cX11_fewest 28 = .ok (.ireturn, 1) := by decide +kernel
theorem dX11_first_0 : decode cX11_first 0 = .ok (.aload_n 0, 1) := by decide +kernel
theorem dX11_first_1 : decode cX11_first 1 = .ok (.iload_n 1, 1) := by decide +kernel
theorem dX11_first_2 : decode cX11_first 2 = .ok (.invokevirtual 153, 3) := by decide +kernel
theorem dX11_first_5 : decode cX11_first 5 = .ok (.iload_n 2, 1) := by decide +kernel
theorem dX11_first_6 : decode cX11_first 6 = .ok (.iconst 0, 1) := by decide +kernel
theorem dX11_first_7 : decode cX11_first 7 = .ok (.aload_n 0, 1) := by decide +kernel
theorem dX11_first_8 : decode cX11_first 8 = .ok (.getfield 23, 3) := by decide +kernel
theorem dX11_first_11 : decode cX11_first 11 = .ok (.getfield 249, 3) := by decide +kernel
theorem dX11_first_14 : decode cX11_first 14 = .ok (.iconst 1, 1) := by decide +kernel
theorem dX11_first_15 : decode cX11_first 15 = .ok (.isub, 1) := by decide +kernel
theorem dX11_first_16 : decode cX11_first 16 = .ok (.invokestatic 275, 3) := by decide +kernel
theorem dX11_first_19 : decode cX11_first 19 = .ok (.aload_n 0, 1) := by decide +kernel
theorem dX11_first_20 : decode cX11_first 20 = .ok (.getfield 87, 3) := by decide +kernel
theorem dX11_first_23 : decode cX11_first 23 = .ok (.iload_n 1, 1) := by decide +kernel
theorem dX11_first_24 : decode cX11_first 24 = .ok (.iload_n 2, 1) := by decide +kernel
theorem dX11_first_25 : decode cX11_first 25 = .ok (.invokevirtual 290, 3) := by decide +kernel
theorem dX11_first_28 : decode cX11_first 28 = .ok (.ireturn, 1) := by decide +kernel
theorem dX11_can_0 : decode cX11_can 0 = .ok (.aload_n 0, 1) := by decide +kernel
theorem dX11_can_1 : decode cX11_can 1 = .ok (.iload_n 1, 1) := by decide +kernel
theorem dX11_can_2 : decode cX11_can 2 = .ok (.invokevirtual 153, 3) := by decide +kernel
theorem dX11_can_5 : decode cX11_can 5 = .ok (.iload_n 2, 1) := by decide +kernel
theorem dX11_can_6 : decode cX11_can 6 = .ok (.iconst 0, 1) := by decide +kernel
theorem dX11_can_7 : decode cX11_can 7 = .ok (.bipush 20, 2) := by decide +kernel
theorem dX11_can_9 : decode cX11_can 9 = .ok (.invokestatic 275, 3) := by decide +kernel
theorem dX11_can_12 : decode cX11_can 12 = .ok (.aload_n 0, 1) := by decide +kernel
theorem dX11_can_13 : decode cX11_can 13 = .ok (.getfield 87, 3) := by decide +kernel
theorem dX11_can_16 : decode cX11_can 16 = .ok (.iload_n 1, 1) := by decide +kernel
theorem dX11_can_17 : decode cX11_can 17 = .ok (.iload_n 2, 1) := by decide +kernel
theorem dX11_can_18 : decode cX11_can 18 = .ok (.invokevirtual 293, 3) := by decide +kernel
theorem dX11_can_21 : decode cX11_can 21 = .ok (.ireturn, 1) := by decide +kernel
theorem dX11_harsh_0 : decode cX11_harsh 0 = .ok (.aload_n 0, 1) := by decide +kernel
theorem dX11_harsh_1 : decode cX11_harsh 1 = .ok (.iload_n 1, 1) := by decide +kernel
theorem dX11_harsh_2 : decode cX11_harsh 2 = .ok (.invokevirtual 153, 3) := by decide +kernel
theorem dX11_harsh_5 : decode cX11_harsh 5 = .ok (.aload_n 0, 1) := by decide +kernel
theorem dX11_harsh_6 : decode cX11_harsh 6 = .ok (.getfield 87, 3) := by decide +kernel
theorem dX11_harsh_9 : decode cX11_harsh 9 = .ok (.iload_n 1, 1) := by decide +kernel
theorem dX11_harsh_10 : decode cX11_harsh 10 = .ok (.iconst 0, 1) := by decide +kernel
theorem dX11_harsh_11 : decode cX11_harsh 11 = .ok (.invokevirtual 296, 3) := by decide +kernel
theorem dX11_harsh_14 : decode cX11_harsh 14 = .ok (.ireturn, 1) := by decide +kernel
theorem dX11_kind_0 : decode cX11_kind 0 = .ok (.aload_n 0, 1) := by decide +kernel
theorem dX11_kind_1 : decode cX11_kind 1 = .ok (.iload_n 1, 1) := by decide +kernel
theorem dX11_kind_2 : decode cX11_kind 2 = .ok (.invokevirtual 153, 3) := by decide +kernel
theorem dX11_kind_5 : decode cX11_kind 5 = .ok (.aload_n 0, 1) := by decide +kernel
theorem dX11_kind_6 : decode cX11_kind 6 = .ok (.getfield 87, 3) := by decide +kernel
theorem dX11_kind_9 : decode cX11_kind 9 = .ok (.iload_n 1, 1) := by decide +kernel
theorem dX11_kind_10 : decode cX11_kind 10 = .ok (.iconst 1, 1) := by decide +kernel
theorem dX11_kind_11 : decode cX11_kind 11 = .ok (.invokevirtual 296, 3) := by decide +kernel
theorem dX11_kind_14 : decode cX11_kind 14 = .ok (.ireturn, 1) := by decide +kernel
theorem dX11_cradle_0 : decode cX11_cradle 0 = .ok (.aload_n 0, 1) := by decide +kernel
theorem dX11_cradle_1 : decode cX11_cradle 1 = .ok (.getfield 80, 3) := by decide +kernel
theorem dX11_cradle_4 : decode cX11_cradle 4 = .ok (.iload_n 1, 1) := by decide +kernel
theorem dX11_cradle_5 : decode cX11_cradle 5 = .ok (.iload_n 2, 1) := by decide +kernel
theorem dX11_cradle_6 : decode cX11_cradle 6 = .ok (.invokevirtual 300, 3) := by decide +kernel
theorem dX11_cradle_9 : decode cX11_cradle 9 = .ok (.ireturn, 1) := by decide +kernel
theorem dX11_again_0 : decode cX11_again 0 = .ok (.aload_n 0, 1) := by decide +kernel
theorem dX11_again_1 : decode cX11_again 1 = .ok (.getfield 80, 3) := by decide +kernel
theorem dX11_again_4 : decode cX11_again 4 = .ok (.iload_n 1, 1) := by decide +kernel
theorem dX11_again_5 : decode cX11_again 5 = .ok (.invokevirtual 304, 3) := by decide +kernel
theorem dX11_again_8 : decode cX11_again 8 = .ok (.ireturn, 1) := by decide +kernel
theorem dX11_over_0 : decode cX11_over 0 = .ok (.aload_n 0, 1) := by decide +kernel
theorem dX11_over_1 : decode cX11_over 1 = .ok (.iload_n 1, 1) := by decide +kernel
theorem dX11_over_2 : decode cX11_over 2 = .ok (.invokevirtual 153, 3) := by decide +kernel
theorem dX11_over_5 : decode cX11_over 5 = .ok (.aload_n 0, 1) := by decide +kernel
theorem dX11_over_6 : decode cX11_over 6 = .ok (.getfield 80, 3) := by decide +kernel
theorem dX11_over_9 : decode cX11_over 9 = .ok (.iload_n 1, 1) := by decide +kernel
theorem dX11_over_10 : decode cX11_over 10 = .ok (.invokevirtual 308, 3) := by decide +kernel
theorem dX11_over_13 : decode cX11_over 13 = .ok (.ireturn, 1) := by decide +kernel
theorem dX11_said_0 : decode cX11_said 0 = .ok (.aload_n 0, 1) := by decide +kernel
theorem dX11_said_1 : decode cX11_said 1 = .ok (.invokevirtual 112, 3) := by decide +kernel
theorem dX11_said_4 : decode cX11_said 4 = .ok (.istore_n 2, 1) := by decide +kernel
theorem dX11_said_5 : decode cX11_said 5 = .ok (.aload_n 0, 1) := by decide +kernel
theorem dX11_said_6 : decode cX11_said 6 = .ok (.iload_n 1, 1) := by decide +kernel
theorem dX11_said_7 : decode cX11_said 7 = .ok (.invokevirtual 153, 3) := by decide +kernel
theorem dX11_said_10 : decode cX11_said 10 = .ok (.aload_n 0, 1) := by decide +kernel
theorem dX11_said_11 : decode cX11_said 11 = .ok (.iload_n 2, 1) := by decide +kernel
theorem dX11_said_12 : decode cX11_said 12 = .ok (.invokevirtual 311, 3) := by decide +kernel
theorem dX11_said_15 : decode cX11_said 15 = .ok (.aload_n 0, 1) := by decide +kernel
theorem dX11_said_16 : decode cX11_said 16 = .ok (.getfield 87, 3) := by decide +kernel
theorem dX11_said_19 : decode cX11_said 19 = .ok (.iload_n 1, 1) := by decide +kernel
theorem dX11_said_20 : decode cX11_said 20 = .ok (.aload_n 0, 1) := by decide +kernel
theorem dX11_said_21 : decode cX11_said 21 = .ok (.getfield 9, 3) := by decide +kernel
theorem dX11_said_24 : decode cX11_said 24 = .ok (.iload_n 2, 1) := by decide +kernel
theorem dX11_said_25 : decode cX11_said 25 = .ok (.invokevirtual 314, 3) := by decide +kernel
theorem dX11_said_28 : decode cX11_said 28 = .ok (.ireturn, 1) := by decide +kernel
theorem dX11_ask_0 : decode cX11_ask 0 = .ok (.aload_n 0, 1) := by decide +kernel
theorem dX11_ask_1 : decode cX11_ask 1 = .ok (.invokevirtual 112, 3) := by decide +kernel
theorem dX11_ask_4 : decode cX11_ask 4 = .ok (.istore_n 2, 1) := by decide +kernel
theorem dX11_ask_5 : decode cX11_ask 5 = .ok (.aload_n 0, 1) := by decide +kernel
theorem dX11_ask_6 : decode cX11_ask 6 = .ok (.iload_n 1, 1) := by decide +kernel
theorem dX11_ask_7 : decode cX11_ask 7 = .ok (.invokevirtual 153, 3) := by decide +kernel
theorem dX11_ask_10 : decode cX11_ask 10 = .ok (.aload_n 0, 1) := by decide +kernel
theorem dX11_ask_11 : decode cX11_ask 11 = .ok (.iload_n 2, 1) := by decide +kernel
theorem dX11_ask_12 : decode cX11_ask 12 = .ok (.invokevirtual 311, 3) := by decide +kernel
theorem dX11_ask_15 : decode cX11_ask 15 = .ok (.aload_n 0, 1) := by decide +kernel
theorem dX11_ask_16 : decode cX11_ask 16 = .ok (.getfield 87, 3) := by decide +kernel
theorem dX11_ask_19 : decode cX11_ask 19 = .ok (.iload_n 1, 1) := by decide +kernel
theorem dX11_ask_20 : decode cX11_ask 20 = .ok (.aload_n 0, 1) := by decide +kernel
theorem dX11_ask_21 : decode cX11_ask 21 = .ok (.getfield 9, 3) := by decide +kernel
theorem dX11_ask_24 : decode cX11_ask 24 = .ok (.iload_n 2, 1) := by decide +kernel
theorem dX11_ask_25 : decode cX11_ask 25 = .ok (.invokevirtual 318, 3) := by decide +kernel
theorem dX11_ask_28 : decode cX11_ask 28 = .ok (.ireturn, 1) := by decide +kernel
theorem dX11_mustBeSightings_0 : decode cX11_mustBeSightings 0 = .ok (.iload_n 1, 1) := by decide +kernel
theorem dX11_mustBeSightings_1 : decode cX11_mustBeSightings 1 = .ok (.bipush 40, 2) := by decide +kernel
theorem dX11_mustBeSightings_3 : decode cX11_mustBeSightings 3 = .ok (.if_icmp .gt 13, 3) := by decide +kernel
theorem dX11_mustBeSightings_6 : decode cX11_mustBeSightings 6 = .ok (.iload_n 1, 1) := by decide +kernel
theorem dX11_mustBeSightings_7 : decode cX11_mustBeSightings 7 = .ok (.iconst 2, 1) := by decide +kernel
theorem dX11_mustBeSightings_8 : decode cX11_mustBeSightings 8 = .ok (.irem, 1) := by decide +kernel
theorem dX11_mustBeSightings_9 : decode cX11_mustBeSightings 9 = .ok (.ifCond .ne 7, 3) := by decide +kernel
theorem dX11_mustBeSightings_12 : decode cX11_mustBeSightings 12 = .ok (.iconst 1, 1) := by decide +kernel
theorem dX11_mustBeSightings_13 : decode cX11_mustBeSightings 13 = .ok (.goto 4, 3) := by decide +kernel
theorem dX11_mustBeSightings_16 : decode cX11_mustBeSightings 16 = .ok (.iconst 0, 1) := by decide +kernel
theorem dX11_mustBeSightings_17 : decode cX11_mustBeSightings 17 = .ok (.istore_n 2, 1) := by decide +kernel
theorem dX11_mustBeSightings_18 : decode cX11_mustBeSightings 18 = .ok (.iconst 0, 1) := by decide +kernel
theorem dX11_mustBeSightings_19 : decode cX11_mustBeSightings 19 = .ok (.istore_n 3, 1) := by decide +kernel
theorem dX11_mustBeSightings_20 : decode cX11_mustBeSightings 20 = .ok (.iload_n 3, 1) := by decide +kernel
theorem dX11_mustBeSightings_21 : decode cX11_mustBeSightings 21 = .ok (.iload_n 1, 1) := by decide +kernel
theorem dX11_mustBeSightings_22 : decode cX11_mustBeSightings 22 = .ok (.if_icmp .ge 44, 3) := by decide +kernel
theorem dX11_mustBeSightings_25 : decode cX11_mustBeSightings 25 = .ok (.iload_n 3, 1) := by decide +kernel
theorem dX11_mustBeSightings_26 : decode cX11_mustBeSightings 26 = .ok (.aload_n 0, 1) := by decide +kernel
theorem dX11_mustBeSightings_27 : decode cX11_mustBeSightings 27 = .ok (.getfield 9, 3) := by decide +kernel
theorem dX11_mustBeSightings_30 : decode cX11_mustBeSightings 30 = .ok (.arraylength, 1) := by decide +kernel
theorem dX11_mustBeSightings_31 : decode cX11_mustBeSightings 31 = .ok (.if_icmp .ge 35, 3) := by decide +kernel
theorem dX11_mustBeSightings_34 : decode cX11_mustBeSightings 34 = .ok (.iload_n 2, 1) := by decide +kernel
theorem dX11_mustBeSightings_35 : decode cX11_mustBeSightings 35 = .ok (.ifCond .eq 23, 3) := by decide +kernel
theorem dX11_mustBeSightings_38 : decode cX11_mustBeSightings 38 = .ok (.aload_n 0, 1) := by decide +kernel
theorem dX11_mustBeSightings_39 : decode cX11_mustBeSightings 39 = .ok (.getfield 9, 3) := by decide +kernel
theorem dX11_mustBeSightings_42 : decode cX11_mustBeSightings 42 = .ok (.iload_n 3, 1) := by decide +kernel
theorem dX11_mustBeSightings_43 : decode cX11_mustBeSightings 43 = .ok (.iaload, 1) := by decide +kernel
theorem dX11_mustBeSightings_44 : decode cX11_mustBeSightings 44 = .ok (.aload_n 0, 1) := by decide +kernel
theorem dX11_mustBeSightings_45 : decode cX11_mustBeSightings 45 = .ok (.getfield 23, 3) := by decide +kernel
theorem dX11_mustBeSightings_48 : decode cX11_mustBeSightings 48 = .ok (.getfield 249, 3) := by decide +kernel
theorem dX11_mustBeSightings_51 : decode cX11_mustBeSightings 51 = .ok (.if_icmp .ge 7, 3) := by decide +kernel
theorem dX11_mustBeSightings_54 : decode cX11_mustBeSightings 54 = .ok (.iconst 1, 1) := by decide +kernel
theorem dX11_mustBeSightings_55 : decode cX11_mustBeSightings 55 = .ok (.goto 4, 3) := by decide +kernel
theorem dX11_mustBeSightings_58 : decode cX11_mustBeSightings 58 = .ok (.iconst 0, 1) := by decide +kernel
theorem dX11_mustBeSightings_59 : decode cX11_mustBeSightings 59 = .ok (.istore_n 2, 1) := by decide +kernel
theorem dX11_mustBeSightings_60 : decode cX11_mustBeSightings 60 = .ok (.iinc 3 1, 3) := by decide +kernel
theorem dX11_mustBeSightings_63 : decode cX11_mustBeSightings 63 = .ok (.goto (-43), 3) := by decide +kernel
theorem dX11_mustBeSightings_66 : decode cX11_mustBeSightings 66 = .ok (.iload_n 2, 1) := by decide +kernel
theorem dX11_mustBeSightings_67 : decode cX11_mustBeSightings 67 = .ok (.ifCond .ne 14, 3) := by decide +kernel
theorem dX11_mustBeSightings_70 : decode cX11_mustBeSightings 70 = .ok (.new 120, 3) := by decide +kernel
theorem dX11_mustBeSightings_73 : decode cX11_mustBeSightings 73 = .ok (.dup, 1) := by decide +kernel
theorem dX11_mustBeSightings_74 : decode cX11_mustBeSightings 74 = .ok (.ldc_w 321, 3) := by decide +kernel
theorem dX11_mustBeSightings_77 : decode cX11_mustBeSightings 77 = .ok (.invokespecial 124, 3) := by decide +kernel
theorem dX11_mustBeSightings_80 : decode cX11_mustBeSightings 80 = .ok (.athrow, 1) := by decide +kernel
theorem dX11_mustBeSightings_81 : decode cX11_mustBeSightings 81 = .ok (.return_, 1) := by decide +kernel
theorem dX11_match_0 : decode cX11_match 0 = .ok (.aload_n 0, 1) := by decide +kernel
theorem dX11_match_1 : decode cX11_match 1 = .ok (.getfield 94, 3) := by decide +kernel
theorem dX11_match_4 : decode cX11_match 4 = .ok (.invokevirtual 323, 3) := by decide +kernel
theorem dX11_match_7 : decode cX11_match 7 = .ok (.iload_n 1, 1) := by decide +kernel
theorem dX11_match_8 : decode cX11_match 8 = .ok (.ifCond .eq 13, 3) := by decide +kernel
theorem dX11_match_11 : decode cX11_match 11 = .ok (.aload_n 0, 1) := by decide +kernel
theorem dX11_match_12 : decode cX11_match 12 = .ok (.getfield 94, 3) := by decide +kernel
theorem dX11_match_15 : decode cX11_match 15 = .ok (.getfield 326, 3) := by decide +kernel
theorem dX11_match_18 : decode cX11_match 18 = .ok (.goto 10, 3) := by decide +kernel
theorem dX11_match_21 : decode cX11_match 21 = .ok (.aload_n 0, 1) := by decide +kernel
theorem dX11_match_22 : decode cX11_match 22 = .ok (.getfield 94, 3) := by decide +kernel
theorem dX11_match_25 : decode cX11_match 25 = .ok (.getfield 329, 3) := by decide +kernel
theorem dX11_match_28 : decode cX11_match 28 = .ok (.ireturn, 1) := by decide +kernel
theorem dX11_mate_0 : decode cX11_mate 0 = .ok (.aload_n 0, 1) := by decide +kernel
theorem dX11_mate_1 : decode cX11_mate 1 = .ok (.iload_n 1, 1) := by decide +kernel
theorem dX11_mate_2 : decode cX11_mate 2 = .ok (.invokevirtual 153, 3) := by decide +kernel
theorem dX11_mate_5 : decode cX11_mate 5 = .ok (.aload_n 0, 1) := by decide +kernel
theorem dX11_mate_6 : decode cX11_mate 6 = .ok (.getfield 94, 3) := by decide +kernel
theorem dX11_mate_9 : decode cX11_mate 9 = .ok (.invokevirtual 323, 3) := by decide +kernel
theorem dX11_mate_12 : decode cX11_mate 12 = .ok (.aload_n 0, 1) := by decide +kernel
theorem dX11_mate_13 : decode cX11_mate 13 = .ok (.getfield 94, 3) := by decide +kernel
theorem dX11_mate_16 : decode cX11_mate 16 = .ok (.iload_n 1, 1) := by decide +kernel
theorem dX11_mate_17 : decode cX11_mate 17 = .ok (.invokevirtual 332, 3) := by decide +kernel
theorem dX11_mate_20 : decode cX11_mate 20 = .ok (.ireturn, 1) := by decide +kernel
theorem dX11_stable_0 : decode cX11_stable 0 = .ok (.aload_n 0, 1) := by decide +kernel
theorem dX11_stable_1 : decode cX11_stable 1 = .ok (.iload_n 1, 1) := by decide +kernel
theorem dX11_stable_2 : decode cX11_stable 2 = .ok (.invokevirtual 153, 3) := by decide +kernel
theorem dX11_stable_5 : decode cX11_stable 5 = .ok (.aload_n 0, 1) := by decide +kernel
theorem dX11_stable_6 : decode cX11_stable 6 = .ok (.getfield 94, 3) := by decide +kernel
theorem dX11_stable_9 : decode cX11_stable 9 = .ok (.iload_n 1, 1) := by decide +kernel
theorem dX11_stable_10 : decode cX11_stable 10 = .ok (.invokevirtual 335, 3) := by decide +kernel
theorem dX11_stable_13 : decode cX11_stable 13 = .ok (.ireturn, 1) := by decide +kernel
theorem dX11_runs_0 : decode cX11_runs 0 = .ok (.aload_n 0, 1) := by decide +kernel
theorem dX11_runs_1 : decode cX11_runs 1 = .ok (.getfield 94, 3) := by decide +kernel
theorem dX11_runs_4 : decode cX11_runs 4 = .ok (.invokevirtual 338, 3) := by decide +kernel
theorem dX11_runs_7 : decode cX11_runs 7 = .ok (.ireturn, 1) := by decide +kernel
theorem dX11_owes_0 : decode cX11_owes 0 = .ok (.aload_n 0, 1) := by decide +kernel
theorem dX11_owes_1 : decode cX11_owes 1 = .ok (.iload_n 1, 1) := by decide +kernel
theorem dX11_owes_2 : decode cX11_owes 2 = .ok (.iload_n 2, 1) := by decide +kernel
theorem dX11_owes_3 : decode cX11_owes 3 = .ok (.invokevirtual 216, 3) := by decide +kernel
theorem dX11_owes_6 : decode cX11_owes 6 = .ok (.iconst 0, 1) := by decide +kernel
theorem dX11_owes_7 : decode cX11_owes 7 = .ok (.aload_n 0, 1) := by decide +kernel
theorem dX11_owes_8 : decode cX11_owes 8 = .ok (.getfield 23, 3) := by decide +kernel
theorem dX11_owes_11 : decode cX11_owes 11 = .ok (.iload_n 2, 1) := by decide +kernel
theorem dX11_owes_12 : decode cX11_owes 12 = .ok (.iload_n 1, 1) := by decide +kernel
theorem dX11_owes_13 : decode cX11_owes 13 = .ok (.invokevirtual 220, 3) := by decide +kernel
theorem dX11_owes_16 : decode cX11_owes 16 = .ok (.aload_n 0, 1) := by decide +kernel
theorem dX11_owes_17 : decode cX11_owes 17 = .ok (.getfield 23, 3) := by decide +kernel
theorem dX11_owes_20 : decode cX11_owes 20 = .ok (.iload_n 1, 1) := by decide +kernel
theorem dX11_owes_21 : decode cX11_owes 21 = .ok (.iload_n 2, 1) := by decide +kernel
theorem dX11_owes_22 : decode cX11_owes 22 = .ok (.invokevirtual 220, 3) := by decide +kernel
theorem dX11_owes_25 : decode cX11_owes 25 = .ok (.isub, 1) := by decide +kernel
theorem dX11_owes_26 : decode cX11_owes 26 = .ok (.invokestatic 341, 3) := by decide +kernel
theorem dX11_owes_29 : decode cX11_owes 29 = .ok (.ireturn, 1) := by decide +kernel
theorem dX11_net_0 : decode cX11_net 0 = .ok (.aload_n 0, 1) := by decide +kernel
theorem dX11_net_1 : decode cX11_net 1 = .ok (.getfield 101, 3) := by decide +kernel
theorem dX11_net_4 : decode cX11_net 4 = .ok (.invokevirtual 346, 3) := by decide +kernel
theorem dX11_net_7 : decode cX11_net 7 = .ok (.ireturn, 1) := by decide +kernel
theorem dX11_ring_0 : decode cX11_ring 0 = .ok (.aload_n 0, 1) := by decide +kernel
theorem dX11_ring_1 : decode cX11_ring 1 = .ok (.iload_n 1, 1) := by decide +kernel
theorem dX11_ring_2 : decode cX11_ring 2 = .ok (.invokevirtual 153, 3) := by decide +kernel
theorem dX11_ring_5 : decode cX11_ring 5 = .ok (.aload_n 0, 1) := by decide +kernel
theorem dX11_ring_6 : decode cX11_ring 6 = .ok (.getfield 101, 3) := by decide +kernel
theorem dX11_ring_9 : decode cX11_ring 9 = .ok (.iload_n 1, 1) := by decide +kernel
theorem dX11_ring_10 : decode cX11_ring 10 = .ok (.iconst 1, 1) := by decide +kernel
theorem dX11_ring_11 : decode cX11_ring 11 = .ok (.invokevirtual 349, 3) := by decide +kernel
theorem dX11_ring_14 : decode cX11_ring 14 = .ok (.iload_n 1, 1) := by decide +kernel
theorem dX11_ring_15 : decode cX11_ring 15 = .ok (.ishr, 1) := by decide +kernel
theorem dX11_ring_16 : decode cX11_ring 16 = .ok (.iconst 1, 1) := by decide +kernel
theorem dX11_ring_17 : decode cX11_ring 17 = .ok (.iand, 1) := by decide +kernel
theorem dX11_ring_18 : decode cX11_ring 18 = .ok (.iconst 1, 1) := by decide +kernel
theorem dX11_ring_19 : decode cX11_ring 19 = .ok (.if_icmp .ne 7, 3) := by decide +kernel
theorem dX11_ring_22 : decode cX11_ring 22 = .ok (.iconst 1, 1) := by decide +kernel
theorem dX11_ring_23 : decode cX11_ring 23 = .ok (.goto 4, 3) := by decide +kernel
theorem dX11_ring_26 : decode cX11_ring 26 = .ok (.iconst 0, 1) := by decide +kernel
theorem dX11_ring_27 : decode cX11_ring 27 = .ok (.ireturn, 1) := by decide +kernel
theorem dX11_rich_0 : decode cX11_rich 0 = .ok (.iconst (-1), 1) := by decide +kernel
theorem dX11_rich_1 : decode cX11_rich 1 = .ok (.istore_n 1, 1) := by decide +kernel
theorem dX11_rich_2 : decode cX11_rich 2 = .ok (.iconst 0, 1) := by decide +kernel
theorem dX11_rich_3 : decode cX11_rich 3 = .ok (.istore_n 2, 1) := by decide +kernel
theorem dX11_rich_4 : decode cX11_rich 4 = .ok (.iload_n 2, 1) := by decide +kernel
theorem dX11_rich_5 : decode cX11_rich 5 = .ok (.aload_n 0, 1) := by decide +kernel
theorem dX11_rich_6 : decode cX11_rich 6 = .ok (.getfield 23, 3) := by decide +kernel
theorem dX11_rich_9 : decode cX11_rich 9 = .ok (.getfield 246, 3) := by decide +kernel
theorem dX11_rich_12 : decode cX11_rich 12 = .ok (.if_icmp .ge 41, 3) := by decide +kernel
theorem dX11_rich_15 : decode cX11_rich 15 = .ok (.iload_n 1, 1) := by decide +kernel
theorem dX11_rich_16 : decode cX11_rich 16 = .ok (.iconst (-1), 1) := by decide +kernel
theorem dX11_rich_17 : decode cX11_rich 17 = .ok (.if_icmp .eq 28, 3) := by decide +kernel
theorem dX11_rich_20 : decode cX11_rich 20 = .ok (.aload_n 0, 1) := by decide +kernel
theorem dX11_rich_21 : decode cX11_rich 21 = .ok (.getfield 23, 3) := by decide +kernel
theorem dX11_rich_24 : decode cX11_rich 24 = .ok (.iload_n 2, 1) := by decide +kernel
theorem dX11_rich_25 : decode cX11_rich 25 = .ok (.invokevirtual 165, 3) := by decide +kernel
theorem dX11_rich_28 : decode cX11_rich 28 = .ok (.getfield 192, 3) := by decide +kernel
theorem dX11_rich_31 : decode cX11_rich 31 = .ok (.aload_n 0, 1) := by decide +kernel
theorem dX11_rich_32 : decode cX11_rich 32 = .ok (.getfield 23, 3) := by decide +kernel
theorem dX11_rich_35 : decode cX11_rich 35 = .ok (.iload_n 1, 1) := by decide +kernel
theorem dX11_rich_36 : decode cX11_rich 36 = .ok (.invokevirtual 165, 3) := by decide +kernel
theorem dX11_rich_39 : decode cX11_rich 39 = .ok (.getfield 192, 3) := by decide +kernel
theorem dX11_rich_42 : decode cX11_rich 42 = .ok (.if_icmp .le 5, 3) := by decide +kernel
theorem dX11_rich_45 : decode cX11_rich 45 = .ok (.iload_n 2, 1) := by decide +kernel
theorem dX11_rich_46 : decode cX11_rich 46 = .ok (.istore_n 1, 1) := by decide +kernel
theorem dX11_rich_47 : decode cX11_rich 47 = .ok (.iinc 2 1, 3) := by decide +kernel
theorem dX11_rich_50 : decode cX11_rich 50 = .ok (.goto (-46), 3) := by decide +kernel
theorem dX11_rich_53 : decode cX11_rich 53 = .ok (.iload_n 1, 1) := by decide +kernel
theorem dX11_rich_54 : decode cX11_rich 54 = .ok (.ireturn, 1) := by decide +kernel
theorem dX11_rests_0 : decode cX11_rests 0 = .ok (.aload_n 0, 1) := by decide +kernel
theorem dX11_rests_1 : decode cX11_rests 1 = .ok (.iload_n 1, 1) := by decide +kernel
theorem dX11_rests_2 : decode cX11_rests 2 = .ok (.iload_n 2, 1) := by decide +kernel
theorem dX11_rests_3 : decode cX11_rests 3 = .ok (.invokevirtual 216, 3) := by decide +kernel
theorem dX11_rests_6 : decode cX11_rests 6 = .ok (.aload_n 0, 1) := by decide +kernel
theorem dX11_rests_7 : decode cX11_rests 7 = .ok (.getfield 23, 3) := by decide +kernel
theorem dX11_rests_10 : decode cX11_rests 10 = .ok (.iload_n 1, 1) := by decide +kernel
theorem dX11_rests_11 : decode cX11_rests 11 = .ok (.iload_n 2, 1) := by decide +kernel
theorem dX11_rests_12 : decode cX11_rests 12 = .ok (.invokevirtual 231, 3) := by decide +kernel
theorem dX11_rests_15 : decode cX11_rests 15 = .ok (.invokestatic 235, 3) := by decide +kernel
theorem dX11_rests_18 : decode cX11_rests 18 = .ok (.aload_n 0, 1) := by decide +kernel
theorem dX11_rests_19 : decode cX11_rests 19 = .ok (.getfield 33, 3) := by decide +kernel
theorem dX11_rests_22 : decode cX11_rests 22 = .ok (.aload_n 0, 1) := by decide +kernel
theorem dX11_rests_23 : decode cX11_rests 23 = .ok (.getfield 23, 3) := by decide +kernel
theorem dX11_rests_26 : decode cX11_rests 26 = .ok (.iload_n 1, 1) := by decide +kernel
theorem dX11_rests_27 : decode cX11_rests 27 = .ok (.iload_n 2, 1) := by decide +kernel
theorem dX11_rests_28 : decode cX11_rests 28 = .ok (.iconst 0, 1) := by decide +kernel
theorem dX11_rests_29 : decode cX11_rests 29 = .ok (.invokevirtual 224, 3) := by decide +kernel
theorem dX11_rests_32 : decode cX11_rests 32 = .ok (.istore_n 3, 1) := by decide +kernel
theorem dX11_rests_33 : decode cX11_rests 33 = .ok (.aload_n 0, 1) := by decide +kernel
theorem dX11_rests_34 : decode cX11_rests 34 = .ok (.getfield 33, 3) := by decide +kernel
theorem dX11_rests_37 : decode cX11_rests 37 = .ok (.aload_n 0, 1) := by decide +kernel
theorem dX11_rests_38 : decode cX11_rests 38 = .ok (.getfield 23, 3) := by decide +kernel
theorem dX11_rests_41 : decode cX11_rests 41 = .ok (.iload_n 1, 1) := by decide +kernel
theorem dX11_rests_42 : decode cX11_rests 42 = .ok (.iload_n 2, 1) := by decide +kernel
theorem dX11_rests_43 : decode cX11_rests 43 = .ok (.iconst 1, 1) := by decide +kernel
theorem dX11_rests_44 : decode cX11_rests 44 = .ok (.invokevirtual 224, 3) := by decide +kernel
theorem dX11_rests_47 : decode cX11_rests 47 = .ok (.istore 4, 2) := by decide +kernel
theorem dX11_rests_49 : decode cX11_rests 49 = .ok (.aload_n 0, 1) := by decide +kernel
theorem dX11_rests_50 : decode cX11_rests 50 = .ok (.getfield 101, 3) := by decide +kernel
theorem dX11_rests_53 : decode cX11_rests 53 = .ok (.aload_n 0, 1) := by decide +kernel
theorem dX11_rests_54 : decode cX11_rests 54 = .ok (.getfield 23, 3) := by decide +kernel
theorem dX11_rests_57 : decode cX11_rests 57 = .ok (.iload_n 1, 1) := by decide +kernel
theorem dX11_rests_58 : decode cX11_rests 58 = .ok (.invokevirtual 165, 3) := by decide +kernel
theorem dX11_rests_61 : decode cX11_rests 61 = .ok (.getfield 189, 3) := by decide +kernel
theorem dX11_rests_64 : decode cX11_rests 64 = .ok (.bipush 10, 2) := by decide +kernel
theorem dX11_rests_66 : decode cX11_rests 66 = .ok (.idiv, 1) := by decide +kernel
theorem dX11_rests_67 : decode cX11_rests 67 = .ok (.iload_n 3, 1) := by decide +kernel
theorem dX11_rests_68 : decode cX11_rests 68 = .ok (.iload 4, 2) := by decide +kernel
theorem dX11_rests_70 : decode cX11_rests 70 = .ok (.invokevirtual 352, 3) := by decide +kernel
theorem dX11_rests_73 : decode cX11_rests 73 = .ok (.ireturn, 1) := by decide +kernel
theorem dX11_mild_0 : decode cX11_mild 0 = .ok (.iload_n 1, 1) := by decide +kernel
theorem dX11_mild_1 : decode cX11_mild 1 = .ok (.iconst 0, 1) := by decide +kernel
theorem dX11_mild_2 : decode cX11_mild 2 = .ok (.bipush 60, 2) := by decide +kernel
theorem dX11_mild_4 : decode cX11_mild 4 = .ok (.invokestatic 275, 3) := by decide +kernel
theorem dX11_mild_7 : decode cX11_mild 7 = .ok (.aload_n 0, 1) := by decide +kernel
theorem dX11_mild_8 : decode cX11_mild 8 = .ok (.getfield 80, 3) := by decide +kernel
theorem dX11_mild_11 : decode cX11_mild 11 = .ok (.iload_n 1, 1) := by decide +kernel
theorem dX11_mild_12 : decode cX11_mild 12 = .ok (.invokevirtual 355, 3) := by decide +kernel
theorem dX11_mild_15 : decode cX11_mild 15 = .ok (.ireturn, 1) := by decide +kernel
theorem dX11_branch_0 : decode cX11_branch 0 = .ok (.aload_n 0, 1) := by decide +kernel
theorem dX11_branch_1 : decode cX11_branch 1 = .ok (.iload_n 1, 1) := by decide +kernel
theorem dX11_branch_2 : decode cX11_branch 2 = .ok (.invokevirtual 153, 3) := by decide +kernel
theorem dX11_branch_5 : decode cX11_branch 5 = .ok (.aload_n 0, 1) := by decide +kernel
theorem dX11_branch_6 : decode cX11_branch 6 = .ok (.getfield 101, 3) := by decide +kernel
theorem dX11_branch_9 : decode cX11_branch 9 = .ok (.iload_n 1, 1) := by decide +kernel
theorem dX11_branch_10 : decode cX11_branch 10 = .ok (.invokevirtual 358, 3) := by decide +kernel
theorem dX11_branch_13 : decode cX11_branch 13 = .ok (.ireturn, 1) := by decide +kernel
theorem dX11_senior_0 : decode cX11_senior 0 = .ok (.aload_n 0, 1) := by decide +kernel
theorem dX11_senior_1 : decode cX11_senior 1 = .ok (.getfield 101, 3) := by decide +kernel
theorem dX11_senior_4 : decode cX11_senior 4 = .ok (.invokevirtual 361, 3) := by decide +kernel
theorem dX11_senior_7 : decode cX11_senior 7 = .ok (.ireturn, 1) := by decide +kernel
theorem dX11_kin_0 : decode cX11_kin 0 = .ok (.aload_n 0, 1) := by decide +kernel
theorem dX11_kin_1 : decode cX11_kin 1 = .ok (.iload_n 1, 1) := by decide +kernel
theorem dX11_kin_2 : decode cX11_kin 2 = .ok (.iload_n 2, 1) := by decide +kernel
theorem dX11_kin_3 : decode cX11_kin 3 = .ok (.invokevirtual 216, 3) := by decide +kernel
theorem dX11_kin_6 : decode cX11_kin 6 = .ok (.aload_n 0, 1) := by decide +kernel
theorem dX11_kin_7 : decode cX11_kin 7 = .ok (.getfield 101, 3) := by decide +kernel
theorem dX11_kin_10 : decode cX11_kin 10 = .ok (.iload_n 1, 1) := by decide +kernel
theorem dX11_kin_11 : decode cX11_kin 11 = .ok (.iload_n 2, 1) := by decide +kernel
theorem dX11_kin_12 : decode cX11_kin 12 = .ok (.invokevirtual 364, 3) := by decide +kernel
theorem dX11_kin_15 : decode cX11_kin 15 = .ok (.ireturn, 1) := by decide +kernel
theorem dX11_cousins_0 : decode cX11_cousins 0 = .ok (.aload_n 0, 1) := by decide +kernel
theorem dX11_cousins_1 : decode cX11_cousins 1 = .ok (.iload_n 1, 1) := by decide +kernel
theorem dX11_cousins_2 : decode cX11_cousins 2 = .ok (.invokevirtual 153, 3) := by decide +kernel
theorem dX11_cousins_5 : decode cX11_cousins 5 = .ok (.aload_n 0, 1) := by decide +kernel
theorem dX11_cousins_6 : decode cX11_cousins 6 = .ok (.getfield 101, 3) := by decide +kernel
theorem dX11_cousins_9 : decode cX11_cousins 9 = .ok (.iload_n 1, 1) := by decide +kernel
theorem dX11_cousins_10 : decode cX11_cousins 10 = .ok (.invokevirtual 367, 3) := by decide +kernel
theorem dX11_cousins_13 : decode cX11_cousins 13 = .ok (.ireturn, 1) := by decide +kernel
theorem dX11_under_0 : decode cX11_under 0 = .ok (.aload_n 0, 1) := by decide +kernel
theorem dX11_under_1 : decode cX11_under 1 = .ok (.iload_n 1, 1) := by decide +kernel
theorem dX11_under_2 : decode cX11_under 2 = .ok (.invokevirtual 153, 3) := by decide +kernel
theorem dX11_under_5 : decode cX11_under 5 = .ok (.aload_n 0, 1) := by decide +kernel
theorem dX11_under_6 : decode cX11_under 6 = .ok (.getfield 101, 3) := by decide +kernel
theorem dX11_under_9 : decode cX11_under 9 = .ok (.iload_n 1, 1) := by decide +kernel
theorem dX11_under_10 : decode cX11_under 10 = .ok (.iconst 0, 1) := by decide +kernel
theorem dX11_under_11 : decode cX11_under 11 = .ok (.invokevirtual 349, 3) := by decide +kernel
theorem dX11_under_14 : decode cX11_under 14 = .ok (.ireturn, 1) := by decide +kernel
theorem dX11_free_0 : decode cX11_free 0 = .ok (.iconst 0, 1) := by decide +kernel
theorem dX11_free_1 : decode cX11_free 1 = .ok (.istore_n 1, 1) := by decide +kernel
theorem dX11_free_2 : decode cX11_free 2 = .ok (.iconst 0, 1) := by decide +kernel
theorem dX11_free_3 : decode cX11_free 3 = .ok (.istore_n 2, 1) := by decide +kernel
theorem dX11_free_4 : decode cX11_free 4 = .ok (.iload_n 2, 1) := by decide +kernel
theorem dX11_free_5 : decode cX11_free 5 = .ok (.aload_n 0, 1) := by decide +kernel
theorem dX11_free_6 : decode cX11_free 6 = .ok (.getfield 23, 3) := by decide +kernel
theorem dX11_free_9 : decode cX11_free 9 = .ok (.getfield 246, 3) := by decide +kernel
theorem dX11_free_12 : decode cX11_free 12 = .ok (.if_icmp .ge 29, 3) := by decide +kernel
theorem dX11_free_15 : decode cX11_free 15 = .ok (.aload_n 0, 1) := by decide +kernel
theorem dX11_free_16 : decode cX11_free 16 = .ok (.getfield 23, 3) := by decide +kernel
theorem dX11_free_19 : decode cX11_free 19 = .ok (.iload_n 2, 1) := by decide +kernel
theorem dX11_free_20 : decode cX11_free 20 = .ok (.invokevirtual 165, 3) := by decide +kernel
theorem dX11_free_23 : decode cX11_free 23 = .ok (.getfield 195, 3) := by decide +kernel
theorem dX11_free_26 : decode cX11_free 26 = .ok (.ifCond .ne 9, 3) := by decide +kernel
theorem dX11_free_29 : decode cX11_free 29 = .ok (.iload_n 1, 1) := by decide +kernel
theorem dX11_free_30 : decode cX11_free 30 = .ok (.iconst 1, 1) := by decide +kernel
theorem dX11_free_31 : decode cX11_free 31 = .ok (.iload_n 2, 1) := by decide +kernel
theorem dX11_free_32 : decode cX11_free 32 = .ok (.ishl, 1) := by decide +kernel
theorem dX11_free_33 : decode cX11_free 33 = .ok (.ior, 1) := by decide +kernel
theorem dX11_free_34 : decode cX11_free 34 = .ok (.istore_n 1, 1) := by decide +kernel
theorem dX11_free_35 : decode cX11_free 35 = .ok (.iinc 2 1, 3) := by decide +kernel
theorem dX11_free_38 : decode cX11_free 38 = .ok (.goto (-34), 3) := by decide +kernel
theorem dX11_free_41 : decode cX11_free 41 = .ok (.iload_n 1, 1) := by decide +kernel
theorem dX11_free_42 : decode cX11_free 42 = .ok (.ireturn, 1) := by decide +kernel
theorem dX11_odds_0 : decode cX11_odds 0 = .ok (.aload_n 0, 1) := by decide +kernel
theorem dX11_odds_1 : decode cX11_odds 1 = .ok (.iload_n 1, 1) := by decide +kernel
theorem dX11_odds_2 : decode cX11_odds 2 = .ok (.invokevirtual 153, 3) := by decide +kernel
theorem dX11_odds_5 : decode cX11_odds 5 = .ok (.iload_n 2, 1) := by decide +kernel
theorem dX11_odds_6 : decode cX11_odds 6 = .ok (.iconst 0, 1) := by decide +kernel
theorem dX11_odds_7 : decode cX11_odds 7 = .ok (.iconst 3, 1) := by decide +kernel
theorem dX11_odds_8 : decode cX11_odds 8 = .ok (.invokestatic 275, 3) := by decide +kernel
theorem dX11_odds_11 : decode cX11_odds 11 = .ok (.iload_n 3, 1) := by decide +kernel
theorem dX11_odds_12 : decode cX11_odds 12 = .ok (.iconst 0, 1) := by decide +kernel
theorem dX11_odds_13 : decode cX11_odds 13 = .ok (.iconst 3, 1) := by decide +kernel
theorem dX11_odds_14 : decode cX11_odds 14 = .ok (.invokestatic 275, 3) := by decide +kernel
theorem dX11_odds_17 : decode cX11_odds 17 = .ok (.aload_n 0, 1) := by decide +kernel
theorem dX11_odds_18 : decode cX11_odds 18 = .ok (.getfield 101, 3) := by decide +kernel
theorem dX11_odds_21 : decode cX11_odds 21 = .ok (.iload_n 1, 1) := by decide +kernel
theorem dX11_odds_22 : decode cX11_odds 22 = .ok (.iload_n 2, 1) := by decide +kernel
theorem dX11_odds_23 : decode cX11_odds 23 = .ok (.iload_n 3, 1) := by decide +kernel
theorem dX11_odds_24 : decode cX11_odds 24 = .ok (.invokevirtual 370, 3) := by decide +kernel
theorem dX11_odds_27 : decode cX11_odds 27 = .ok (.ireturn, 1) := by decide +kernel
theorem dX11_twins_0 : decode cX11_twins 0 = .ok (.iconst 0, 1) := by decide +kernel
theorem dX11_twins_1 : decode cX11_twins 1 = .ok (.istore_n 1, 1) := by decide +kernel
theorem dX11_twins_2 : decode cX11_twins 2 = .ok (.iconst 0, 1) := by decide +kernel
theorem dX11_twins_3 : decode cX11_twins 3 = .ok (.istore_n 2, 1) := by decide +kernel
theorem dX11_twins_4 : decode cX11_twins 4 = .ok (.iload_n 2, 1) := by decide +kernel
theorem dX11_twins_5 : decode cX11_twins 5 = .ok (.aload_n 0, 1) := by decide +kernel
theorem dX11_twins_6 : decode cX11_twins 6 = .ok (.getfield 23, 3) := by decide +kernel
theorem dX11_twins_9 : decode cX11_twins 9 = .ok (.getfield 246, 3) := by decide +kernel
theorem dX11_twins_12 : decode cX11_twins 12 = .ok (.if_icmp .ge 58, 3) := by decide +kernel
theorem dX11_twins_15 : decode cX11_twins 15 = .ok (.iload_n 2, 1) := by decide +kernel
theorem dX11_twins_16 : decode cX11_twins 16 = .ok (.iconst 1, 1) := by decide +kernel
theorem dX11_twins_17 : decode cX11_twins 17 = .ok (.iadd, 1) := by decide +kernel
theorem dX11_twins_18 : decode cX11_twins 18 = .ok (.istore_n 3, 1) := by decide +kernel
theorem dX11_twins_19 : decode cX11_twins 19 = .ok (.iload_n 3, 1) := by decide +kernel
theorem dX11_twins_20 : decode cX11_twins 20 = .ok (.aload_n 0, 1) := by decide +kernel
theorem dX11_twins_21 : decode cX11_twins 21 = .ok (.getfield 23, 3) := by decide +kernel
theorem dX11_twins_24 : decode cX11_twins 24 = .ok (.getfield 246, 3) := by decide +kernel
theorem dX11_twins_27 : decode cX11_twins 27 = .ok (.if_icmp .ge 37, 3) := by decide +kernel
theorem dX11_twins_30 : decode cX11_twins 30 = .ok (.aload_n 0, 1) := by decide +kernel
theorem dX11_twins_31 : decode cX11_twins 31 = .ok (.getfield 23, 3) := by decide +kernel
theorem dX11_twins_34 : decode cX11_twins 34 = .ok (.iload_n 2, 1) := by decide +kernel
theorem dX11_twins_35 : decode cX11_twins 35 = .ok (.invokevirtual 165, 3) := by decide +kernel
theorem dX11_twins_38 : decode cX11_twins 38 = .ok (.getfield 169, 3) := by decide +kernel
theorem dX11_twins_41 : decode cX11_twins 41 = .ok (.aload_n 0, 1) := by decide +kernel
theorem dX11_twins_42 : decode cX11_twins 42 = .ok (.getfield 23, 3) := by decide +kernel
theorem dX11_twins_45 : decode cX11_twins 45 = .ok (.iload_n 3, 1) := by decide +kernel
theorem dX11_twins_46 : decode cX11_twins 46 = .ok (.invokevirtual 165, 3) := by decide +kernel
theorem dX11_twins_49 : decode cX11_twins 49 = .ok (.getfield 169, 3) := by decide +kernel
theorem dX11_twins_52 : decode cX11_twins 52 = .ok (.if_icmp .ne 6, 3) := by decide +kernel
theorem dX11_twins_55 : decode cX11_twins 55 = .ok (.iinc 1 1, 3) := by decide +kernel
theorem dX11_twins_58 : decode cX11_twins 58 = .ok (.iinc 3 1, 3) := by decide +kernel
theorem dX11_twins_61 : decode cX11_twins 61 = .ok (.goto (-42), 3) := by decide +kernel
theorem dX11_twins_64 : decode cX11_twins 64 = .ok (.iinc 2 1, 3) := by decide +kernel
theorem dX11_twins_67 : decode cX11_twins 67 = .ok (.goto (-63), 3) := by decide +kernel
theorem dX11_twins_70 : decode cX11_twins 70 = .ok (.iload_n 1, 1) := by decide +kernel
theorem dX11_twins_71 : decode cX11_twins 71 = .ok (.ireturn, 1) := by decide +kernel
theorem dX11_mean_0 : decode cX11_mean 0 = .ok (.aload_n 0, 1) := by decide +kernel
theorem dX11_mean_1 : decode cX11_mean 1 = .ok (.getfield 23, 3) := by decide +kernel
theorem dX11_mean_4 : decode cX11_mean 4 = .ok (.getfield 246, 3) := by decide +kernel
theorem dX11_mean_7 : decode cX11_mean 7 = .ok (.ifCond .le 21, 3) := by decide +kernel
theorem dX11_mean_10 : decode cX11_mean 10 = .ok (.aload_n 0, 1) := by decide +kernel
theorem dX11_mean_11 : decode cX11_mean 11 = .ok (.getfield 23, 3) := by decide +kernel
theorem dX11_mean_14 : decode cX11_mean 14 = .ok (.invokevirtual 373, 3) := by decide +kernel
theorem dX11_mean_17 : decode cX11_mean 17 = .ok (.aload_n 0, 1) := by decide +kernel
theorem dX11_mean_18 : decode cX11_mean 18 = .ok (.getfield 23, 3) := by decide +kernel
theorem dX11_mean_21 : decode cX11_mean 21 = .ok (.getfield 246, 3) := by decide +kernel
theorem dX11_mean_24 : decode cX11_mean 24 = .ok (.idiv, 1) := by decide +kernel
theorem dX11_mean_25 : decode cX11_mean 25 = .ok (.goto 4, 3) := by decide +kernel
theorem dX11_mean_28 : decode cX11_mean 28 = .ok (.iconst 0, 1) := by decide +kernel
theorem dX11_mean_29 : decode cX11_mean 29 = .ok (.ireturn, 1) := by decide +kernel
theorem dX11_oldest_0 : decode cX11_oldest 0 = .ok (.aload_n 0, 1) := by decide +kernel
theorem dX11_oldest_1 : decode cX11_oldest 1 = .ok (.iconst 1, 1) := by decide +kernel
theorem dX11_oldest_2 : decode cX11_oldest 2 = .ok (.invokevirtual 376, 3) := by decide +kernel
theorem dX11_oldest_5 : decode cX11_oldest 5 = .ok (.ireturn, 1) := by decide +kernel
theorem dX11_youngest_0 : decode cX11_youngest 0 = .ok (.aload_n 0, 1) := by decide +kernel
theorem dX11_youngest_1 : decode cX11_youngest 1 = .ok (.iconst (-1), 1) := by decide +kernel
theorem dX11_youngest_2 : decode cX11_youngest 2 = .ok (.invokevirtual 376, 3) := by decide +kernel
theorem dX11_youngest_5 : decode cX11_youngest 5 = .ok (.ireturn, 1) := by decide +kernel
theorem dX11_furthest_0 : decode cX11_furthest 0 = .ok (.iconst (-1), 1) := by decide +kernel
theorem dX11_furthest_1 : decode cX11_furthest 1 = .ok (.istore_n 2, 1) := by decide +kernel
theorem dX11_furthest_2 : decode cX11_furthest 2 = .ok (.iconst 0, 1) := by decide +kernel
theorem dX11_furthest_3 : decode cX11_furthest 3 = .ok (.istore_n 3, 1) := by decide +kernel
theorem dX11_furthest_4 : decode cX11_furthest 4 = .ok (.iload_n 3, 1) := by decide +kernel
theorem dX11_furthest_5 : decode cX11_furthest 5 = .ok (.aload_n 0, 1) := by decide +kernel
theorem dX11_furthest_6 : decode cX11_furthest 6 = .ok (.getfield 23, 3) := by decide +kernel
theorem dX11_furthest_9 : decode cX11_furthest 9 = .ok (.getfield 246, 3) := by decide +kernel
theorem dX11_furthest_12 : decode cX11_furthest 12 = .ok (.if_icmp .ge 45, 3) := by decide +kernel
theorem dX11_furthest_15 : decode cX11_furthest 15 = .ok (.iload_n 2, 1) := by decide +kernel
theorem dX11_furthest_16 : decode cX11_furthest 16 = .ok (.iconst (-1), 1) := by decide +kernel
theorem dX11_furthest_17 : decode cX11_furthest 17 = .ok (.if_icmp .eq 32, 3) := by decide +kernel
theorem dX11_furthest_20 : decode cX11_furthest 20 = .ok (.iload_n 1, 1) := by decide +kernel
theorem dX11_furthest_21 : decode cX11_furthest 21 = .ok (.aload_n 0, 1) := by decide +kernel
theorem dX11_furthest_22 : decode cX11_furthest 22 = .ok (.getfield 23, 3) := by decide +kernel
theorem dX11_furthest_25 : decode cX11_furthest 25 = .ok (.iload_n 3, 1) := by decide +kernel
theorem dX11_furthest_26 : decode cX11_furthest 26 = .ok (.invokevirtual 165, 3) := by decide +kernel
theorem dX11_furthest_29 : decode cX11_furthest 29 = .ok (.getfield 169, 3) := by decide +kernel
theorem dX11_furthest_32 : decode cX11_furthest 32 = .ok (.imul, 1) := by decide +kernel
theorem dX11_furthest_33 : decode cX11_furthest 33 = .ok (.iload_n 1, 1) := by decide +kernel
theorem dX11_furthest_34 : decode cX11_furthest 34 = .ok (.aload_n 0, 1) := by decide +kernel
theorem dX11_furthest_35 : decode cX11_furthest 35 = .ok (.getfield 23, 3) := by decide +kernel
theorem dX11_furthest_38 : decode cX11_furthest 38 = .ok (.iload_n 2, 1) := by decide +kernel
theorem dX11_furthest_39 : decode cX11_furthest 39 = .ok (.invokevirtual 165, 3) := by decide +kernel
theorem dX11_furthest_42 : decode cX11_furthest 42 = .ok (.getfield 169, 3) := by decide +kernel
theorem dX11_furthest_45 : decode cX11_furthest 45 = .ok (.imul, 1) := by decide +kernel
theorem dX11_furthest_46 : decode cX11_furthest 46 = .ok (.if_icmp .le 5, 3) := by decide +kernel
theorem dX11_furthest_49 : decode cX11_furthest 49 = .ok (.iload_n 3, 1) := by decide +kernel
theorem dX11_furthest_50 : decode cX11_furthest 50 = .ok (.istore_n 2, 1) := by decide +kernel
theorem dX11_furthest_51 : decode cX11_furthest 51 = .ok (.iinc 3 1, 3) := by decide +kernel
theorem dX11_furthest_54 : decode cX11_furthest 54 = .ok (.goto (-50), 3) := by decide +kernel
theorem dX11_furthest_57 : decode cX11_furthest 57 = .ok (.iload_n 2, 1) := by decide +kernel
theorem dX11_furthest_58 : decode cX11_furthest 58 = .ok (.ireturn, 1) := by decide +kernel
theorem dX11_crib_0 : decode cX11_crib 0 = .ok (.aload_n 0, 1) := by decide +kernel
theorem dX11_crib_1 : decode cX11_crib 1 = .ok (.getfield 23, 3) := by decide +kernel
theorem dX11_crib_4 : decode cX11_crib 4 = .ok (.invokevirtual 379, 3) := by decide +kernel
theorem dX11_crib_7 : decode cX11_crib 7 = .ok (.ireturn, 1) := by decide +kernel
theorem dX11_spread_0 : decode cX11_spread 0 = .ok (.iconst (-1), 1) := by decide +kernel
theorem dX11_spread_1 : decode cX11_spread 1 = .ok (.istore_n 1, 1) := by decide +kernel
theorem dX11_spread_2 : decode cX11_spread 2 = .ok (.iconst 0, 1) := by decide +kernel
theorem dX11_spread_3 : decode cX11_spread 3 = .ok (.istore_n 2, 1) := by decide +kernel
theorem dX11_spread_4 : decode cX11_spread 4 = .ok (.iload_n 2, 1) := by decide +kernel
theorem dX11_spread_5 : decode cX11_spread 5 = .ok (.aload_n 0, 1) := by decide +kernel
theorem dX11_spread_6 : decode cX11_spread 6 = .ok (.getfield 23, 3) := by decide +kernel
theorem dX11_spread_9 : decode cX11_spread 9 = .ok (.getfield 246, 3) := by decide +kernel
theorem dX11_spread_12 : decode cX11_spread 12 = .ok (.if_icmp .ge 95, 3) := by decide +kernel
theorem dX11_spread_15 : decode cX11_spread 15 = .ok (.iconst 0, 1) := by decide +kernel
theorem dX11_spread_16 : decode cX11_spread 16 = .ok (.istore_n 3, 1) := by decide +kernel
theorem dX11_spread_17 : decode cX11_spread 17 = .ok (.iconst 0, 1) := by decide +kernel
theorem dX11_spread_18 : decode cX11_spread 18 = .ok (.istore 4, 2) := by decide +kernel
theorem dX11_spread_20 : decode cX11_spread 20 = .ok (.iload 4, 2) := by decide +kernel
theorem dX11_spread_22 : decode cX11_spread 22 = .ok (.aload_n 0, 1) := by decide +kernel
theorem dX11_spread_23 : decode cX11_spread 23 = .ok (.getfield 23, 3) := by decide +kernel
theorem dX11_spread_26 : decode cX11_spread 26 = .ok (.getfield 246, 3) := by decide +kernel
theorem dX11_spread_29 : decode cX11_spread 29 = .ok (.if_icmp .ge 60, 3) := by decide +kernel
theorem dX11_spread_32 : decode cX11_spread 32 = .ok (.aload_n 0, 1) := by decide +kernel
theorem dX11_spread_33 : decode cX11_spread 33 = .ok (.getfield 23, 3) := by decide +kernel
theorem dX11_spread_36 : decode cX11_spread 36 = .ok (.iload 4, 2) := by decide +kernel
theorem dX11_spread_38 : decode cX11_spread 38 = .ok (.invokevirtual 165, 3) := by decide +kernel
theorem dX11_spread_41 : decode cX11_spread 41 = .ok (.getfield 169, 3) := by decide +kernel
theorem dX11_spread_44 : decode cX11_spread 44 = .ok (.aload_n 0, 1) := by decide +kernel
theorem dX11_spread_45 : decode cX11_spread 45 = .ok (.getfield 23, 3) := by decide +kernel
theorem dX11_spread_48 : decode cX11_spread 48 = .ok (.iload_n 2, 1) := by decide +kernel
theorem dX11_spread_49 : decode cX11_spread 49 = .ok (.invokevirtual 165, 3) := by decide +kernel
theorem dX11_spread_52 : decode cX11_spread 52 = .ok (.getfield 169, 3) := by decide +kernel
theorem dX11_spread_55 : decode cX11_spread 55 = .ok (.isub, 1) := by decide +kernel
theorem dX11_spread_56 : decode cX11_spread 56 = .ok (.istore 5, 2) := by decide +kernel
theorem dX11_spread_58 : decode cX11_spread 58 = .ok (.iload_n 3, 1) := by decide +kernel
theorem dX11_spread_59 : decode cX11_spread 59 = .ok (.iload 5, 2) := by decide +kernel
theorem dX11_spread_61 : decode cX11_spread 61 = .ok (.ifCond .ge 16, 3) := by decide +kernel
theorem dX11_spread_64 : decode cX11_spread 64 = .ok (.iload 5, 2) := by decide +kernel
theorem dX11_spread_66 : decode cX11_spread 66 = .ok (.aload_n 0, 1) := by decide +kernel
theorem dX11_spread_67 : decode cX11_spread 67 = .ok (.getfield 23, 3) := by decide +kernel
theorem dX11_spread_70 : decode cX11_spread 70 = .ok (.getfield 249, 3) := by decide +kernel
theorem dX11_spread_73 : decode cX11_spread 73 = .ok (.iadd, 1) := by decide +kernel
theorem dX11_spread_74 : decode cX11_spread 74 = .ok (.goto 5, 3) := by decide +kernel
theorem dX11_spread_77 : decode cX11_spread 77 = .ok (.iload 5, 2) := by decide +kernel
theorem dX11_spread_79 : decode cX11_spread 79 = .ok (.invokestatic 341, 3) := by decide +kernel
theorem dX11_spread_82 : decode cX11_spread 82 = .ok (.istore_n 3, 1) := by decide +kernel
theorem dX11_spread_83 : decode cX11_spread 83 = .ok (.iinc 4 1, 3) := by decide +kernel
theorem dX11_spread_86 : decode cX11_spread 86 = .ok (.goto (-66), 3) := by decide +kernel
theorem dX11_spread_89 : decode cX11_spread 89 = .ok (.iload_n 1, 1) := by decide +kernel
theorem dX11_spread_90 : decode cX11_spread 90 = .ok (.iconst (-1), 1) := by decide +kernel
theorem dX11_spread_91 : decode cX11_spread 91 = .ok (.if_icmp .eq 8, 3) := by decide +kernel
theorem dX11_spread_94 : decode cX11_spread 94 = .ok (.iload_n 3, 1) := by decide +kernel
theorem dX11_spread_95 : decode cX11_spread 95 = .ok (.iload_n 1, 1) := by decide +kernel
theorem dX11_spread_96 : decode cX11_spread 96 = .ok (.if_icmp .ge 5, 3) := by decide +kernel
theorem dX11_spread_99 : decode cX11_spread 99 = .ok (.iload_n 3, 1) := by decide +kernel
theorem dX11_spread_100 : decode cX11_spread 100 = .ok (.istore_n 1, 1) := by decide +kernel
theorem dX11_spread_101 : decode cX11_spread 101 = .ok (.iinc 2 1, 3) := by decide +kernel
theorem dX11_spread_104 : decode cX11_spread 104 = .ok (.goto (-100), 3) := by decide +kernel
theorem dX11_spread_107 : decode cX11_spread 107 = .ok (.iload_n 1, 1) := by decide +kernel
theorem dX11_spread_108 : decode cX11_spread 108 = .ok (.iconst (-1), 1) := by decide +kernel
theorem dX11_spread_109 : decode cX11_spread 109 = .ok (.if_icmp .ne 7, 3) := by decide +kernel
theorem dX11_spread_112 : decode cX11_spread 112 = .ok (.iconst 0, 1) := by decide +kernel
theorem dX11_spread_113 : decode cX11_spread 113 = .ok (.goto 4, 3) := by decide +kernel
theorem dX11_spread_116 : decode cX11_spread 116 = .ok (.iload_n 1, 1) := by decide +kernel
theorem dX11_spread_117 : decode cX11_spread 117 = .ok (.ireturn, 1) := by decide +kernel
theorem dX11_ahead_0 : decode cX11_ahead 0 = .ok (.aload_n 0, 1) := by decide +kernel
theorem dX11_ahead_1 : decode cX11_ahead 1 = .ok (.iload_n 1, 1) := by decide +kernel
theorem dX11_ahead_2 : decode cX11_ahead 2 = .ok (.invokevirtual 153, 3) := by decide +kernel
theorem dX11_ahead_5 : decode cX11_ahead 5 = .ok (.iload_n 2, 1) := by decide +kernel
theorem dX11_ahead_6 : decode cX11_ahead 6 = .ok (.iconst 0, 1) := by decide +kernel
theorem dX11_ahead_7 : decode cX11_ahead 7 = .ok (.bipush 100, 2) := by decide +kernel
theorem dX11_ahead_9 : decode cX11_ahead 9 = .ok (.invokestatic 275, 3) := by decide +kernel
theorem dX11_ahead_12 : decode cX11_ahead 12 = .ok (.aload_n 0, 1) := by decide +kernel
theorem dX11_ahead_13 : decode cX11_ahead 13 = .ok (.getfield 80, 3) := by decide +kernel
theorem dX11_ahead_16 : decode cX11_ahead 16 = .ok (.iload_n 1, 1) := by decide +kernel
theorem dX11_ahead_17 : decode cX11_ahead 17 = .ok (.iload_n 2, 1) := by decide +kernel
theorem dX11_ahead_18 : decode cX11_ahead 18 = .ok (.iload_n 3, 1) := by decide +kernel
theorem dX11_ahead_19 : decode cX11_ahead 19 = .ok (.invokevirtual 382, 3) := by decide +kernel
theorem dX11_ahead_22 : decode cX11_ahead 22 = .ok (.ireturn, 1) := by decide +kernel
theorem dX11_trial_0 : decode cX11_trial 0 = .ok (.iload_n 1, 1) := by decide +kernel
theorem dX11_trial_1 : decode cX11_trial 1 = .ok (.iconst 0, 1) := by decide +kernel
theorem dX11_trial_2 : decode cX11_trial 2 = .ok (.bipush 100, 2) := by decide +kernel
theorem dX11_trial_4 : decode cX11_trial 4 = .ok (.invokestatic 275, 3) := by decide +kernel
theorem dX11_trial_7 : decode cX11_trial 7 = .ok (.aload_n 0, 1) := by decide +kernel
theorem dX11_trial_8 : decode cX11_trial 8 = .ok (.getfield 80, 3) := by decide +kernel
theorem dX11_trial_11 : decode cX11_trial 11 = .ok (.iload_n 1, 1) := by decide +kernel
theorem dX11_trial_12 : decode cX11_trial 12 = .ok (.iload_n 2, 1) := by decide +kernel
theorem dX11_trial_13 : decode cX11_trial 13 = .ok (.invokevirtual 385, 3) := by decide +kernel
theorem dX11_trial_16 : decode cX11_trial 16 = .ok (.ireturn, 1) := by decide +kernel
theorem dX11_span_0 : decode cX11_span 0 = .ok (.iload_n 1, 1) := by decide +kernel
theorem dX11_span_1 : decode cX11_span 1 = .ok (.iconst 0, 1) := by decide +kernel
theorem dX11_span_2 : decode cX11_span 2 = .ok (.bipush 100, 2) := by decide +kernel
theorem dX11_span_4 : decode cX11_span 4 = .ok (.invokestatic 275, 3) := by decide +kernel
theorem dX11_span_7 : decode cX11_span 7 = .ok (.aload_n 0, 1) := by decide +kernel
theorem dX11_span_8 : decode cX11_span 8 = .ok (.getfield 80, 3) := by decide +kernel
theorem dX11_span_11 : decode cX11_span 11 = .ok (.iload_n 1, 1) := by decide +kernel
theorem dX11_span_12 : decode cX11_span 12 = .ok (.iload_n 2, 1) := by decide +kernel
theorem dX11_span_13 : decode cX11_span 13 = .ok (.invokevirtual 388, 3) := by decide +kernel
theorem dX11_span_16 : decode cX11_span 16 = .ok (.ireturn, 1) := by decide +kernel
theorem dX11_led_0 : decode cX11_led 0 = .ok (.aload_n 0, 1) := by decide +kernel
theorem dX11_led_1 : decode cX11_led 1 = .ok (.iload_n 1, 1) := by decide +kernel
theorem dX11_led_2 : decode cX11_led 2 = .ok (.invokevirtual 153, 3) := by decide +kernel
theorem dX11_led_5 : decode cX11_led 5 = .ok (.iload_n 2, 1) := by decide +kernel
theorem dX11_led_6 : decode cX11_led 6 = .ok (.ifCond .eq 17, 3) := by decide +kernel
theorem dX11_led_9 : decode cX11_led 9 = .ok (.aload_n 0, 1) := by decide +kernel
theorem dX11_led_10 : decode cX11_led 10 = .ok (.getfield 23, 3) := by decide +kernel
theorem dX11_led_13 : decode cX11_led 13 = .ok (.getfield 202, 3) := by decide +kernel
theorem dX11_led_16 : decode cX11_led 16 = .ok (.iload_n 1, 1) := by decide +kernel
theorem dX11_led_17 : decode cX11_led 17 = .ok (.invokevirtual 391, 3) := by decide +kernel
theorem dX11_led_20 : decode cX11_led 20 = .ok (.goto 14, 3) := by decide +kernel
theorem dX11_led_23 : decode cX11_led 23 = .ok (.aload_n 0, 1) := by decide +kernel
theorem dX11_led_24 : decode cX11_led 24 = .ok (.getfield 23, 3) := by decide +kernel
theorem dX11_led_27 : decode cX11_led 27 = .ok (.getfield 202, 3) := by decide +kernel
theorem dX11_led_30 : decode cX11_led 30 = .ok (.iload_n 1, 1) := by decide +kernel
theorem dX11_led_31 : decode cX11_led 31 = .ok (.invokevirtual 394, 3) := by decide +kernel
theorem dX11_led_34 : decode cX11_led 34 = .ok (.ireturn, 1) := by decide +kernel
theorem dX11_log_0 : decode cX11_log 0 = .ok (.iload_n 2, 1) := by decide +kernel
theorem dX11_log_1 : decode cX11_log 1 = .ok (.ifCond .lt 8, 3) := by decide +kernel
theorem dX11_log_4 : decode cX11_log 4 = .ok (.iload_n 2, 1) := by decide +kernel
theorem dX11_log_5 : decode cX11_log 5 = .ok (.iconst 5, 1) := by decide +kernel
theorem dX11_log_6 : decode cX11_log 6 = .ok (.if_icmp .lt 13, 3) := by decide +kernel
theorem dX11_log_9 : decode cX11_log 9 = .ok (.new 211, 3) := by decide +kernel
theorem dX11_log_12 : decode cX11_log 12 = .ok (.dup, 1) := by decide +kernel
theorem dX11_log_13 : decode cX11_log 13 = .ok (.ldc 213, 2) := by decide +kernel
theorem dX11_log_15 : decode cX11_log 15 = .ok (.invokespecial 215, 3) := by decide +kernel
theorem dX11_log_18 : decode cX11_log 18 = .ok (.athrow, 1) := by decide +kernel
theorem dX11_log_19 : decode cX11_log 19 = .ok (.aload_n 0, 1) := by decide +kernel
theorem dX11_log_20 : decode cX11_log 20 = .ok (.getfield 23, 3) := by decide +kernel
theorem dX11_log_23 : decode cX11_log 23 = .ok (.getfield 202, 3) := by decide +kernel
theorem dX11_log_26 : decode cX11_log 26 = .ok (.iload_n 1, 1) := by decide +kernel
theorem dX11_log_27 : decode cX11_log 27 = .ok (.iload_n 2, 1) := by decide +kernel
theorem dX11_log_28 : decode cX11_log 28 = .ok (.invokevirtual 397, 3) := by decide +kernel
theorem dX11_log_31 : decode cX11_log 31 = .ok (.ireturn, 1) := by decide +kernel
theorem dX11_seed_0 : decode cX11_seed 0 = .ok (.aload_n 0, 1) := by decide +kernel
theorem dX11_seed_1 : decode cX11_seed 1 = .ok (.getfield 23, 3) := by decide +kernel
theorem dX11_seed_4 : decode cX11_seed 4 = .ok (.getfield 400, 3) := by decide +kernel
theorem dX11_seed_7 : decode cX11_seed 7 = .ok (.istore_n 2, 1) := by decide +kernel
theorem dX11_seed_8 : decode cX11_seed 8 = .ok (.aload_n 0, 1) := by decide +kernel
theorem dX11_seed_9 : decode cX11_seed 9 = .ok (.getfield 23, 3) := by decide +kernel
theorem dX11_seed_12 : decode cX11_seed 12 = .ok (.iload_n 1, 1) := by decide +kernel
theorem dX11_seed_13 : decode cX11_seed 13 = .ok (.putfield 400, 3) := by decide +kernel
theorem dX11_seed_16 : decode cX11_seed 16 = .ok (.iload_n 2, 1) := by decide +kernel
theorem dX11_seed_17 : decode cX11_seed 17 = .ok (.ireturn, 1) := by decide +kernel
theorem dX11_undo_0 : decode cX11_undo 0 = .ok (.aload_n 0, 1) := by decide +kernel
theorem dX11_undo_1 : decode cX11_undo 1 = .ok (.getfield 62, 3) := by decide +kernel
theorem dX11_undo_4 : decode cX11_undo 4 = .ok (.ifCond .le 15, 3) := by decide +kernel
theorem dX11_undo_7 : decode cX11_undo 7 = .ok (.aload_n 0, 1) := by decide +kernel
theorem dX11_undo_8 : decode cX11_undo 8 = .ok (.getfield 62, 3) := by decide +kernel
theorem dX11_undo_11 : decode cX11_undo 11 = .ok (.aload_n 0, 1) := by decide +kernel
theorem dX11_undo_12 : decode cX11_undo 12 = .ok (.getfield 58, 3) := by decide +kernel
theorem dX11_undo_15 : decode cX11_undo 15 = .ok (.arraylength, 1) := by decide +kernel
theorem dX11_undo_16 : decode cX11_undo 16 = .ok (.if_icmp .le 5, 3) := by decide +kernel
theorem dX11_undo_19 : decode cX11_undo 19 = .ok (.iconst 0, 1) := by decide +kernel
theorem dX11_undo_20 : decode cX11_undo 20 = .ok (.ireturn, 1) := by decide +kernel
theorem dX11_undo_21 : decode cX11_undo 21 = .ok (.aload_n 0, 1) := by decide +kernel
theorem dX11_undo_22 : decode cX11_undo 22 = .ok (.dup, 1) := by decide +kernel
theorem dX11_undo_23 : decode cX11_undo 23 = .ok (.getfield 62, 3) := by decide +kernel
theorem dX11_undo_26 : decode cX11_undo 26 = .ok (.iconst 1, 1) := by decide +kernel
theorem dX11_undo_27 : decode cX11_undo 27 = .ok (.isub, 1) := by decide +kernel
theorem dX11_undo_28 : decode cX11_undo 28 = .ok (.putfield 62, 3) := by decide +kernel
theorem dX11_undo_31 : decode cX11_undo 31 = .ok (.aload_n 0, 1) := by decide +kernel
theorem dX11_undo_32 : decode cX11_undo 32 = .ok (.getfield 23, 3) := by decide +kernel
theorem dX11_undo_35 : decode cX11_undo 35 = .ok (.aload_n 0, 1) := by decide +kernel
theorem dX11_undo_36 : decode cX11_undo 36 = .ok (.getfield 58, 3) := by decide +kernel
theorem dX11_undo_39 : decode cX11_undo 39 = .ok (.aload_n 0, 1) := by decide +kernel
theorem dX11_undo_40 : decode cX11_undo 40 = .ok (.getfield 62, 3) := by decide +kernel
theorem dX11_undo_43 : decode cX11_undo 43 = .ok (.aaload, 1) := by decide +kernel
theorem dX11_undo_44 : decode cX11_undo 44 = .ok (.invokevirtual 109, 3) := by decide +kernel
theorem dX11_undo_47 : decode cX11_undo 47 = .ok (.iconst 1, 1) := by decide +kernel
theorem dX11_undo_48 : decode cX11_undo 48 = .ok (.ireturn, 1) := by decide +kernel
theorem dX11_image_0 : decode cX11_image 0 = .ok (.aload_n 0, 1) := by decide +kernel
theorem dX11_image_1 : decode cX11_image 1 = .ok (.getfield 65, 3) := by decide +kernel
theorem dX11_image_4 : decode cX11_image 4 = .ok (.aload_n 0, 1) := by decide +kernel
theorem dX11_image_5 : decode cX11_image 5 = .ok (.getfield 23, 3) := by decide +kernel
theorem dX11_image_8 : decode cX11_image 8 = .ok (.invokevirtual 109, 3) := by decide +kernel
theorem dX11_image_11 : decode cX11_image 11 = .ok (.aload_n 0, 1) := by decide +kernel
theorem dX11_image_12 : decode cX11_image 12 = .ok (.getfield 68, 3) := by decide +kernel
theorem dX11_image_15 : decode cX11_image 15 = .ok (.aload_n 0, 1) := by decide +kernel
theorem dX11_image_16 : decode cX11_image 16 = .ok (.getfield 33, 3) := by decide +kernel
theorem dX11_image_19 : decode cX11_image 19 = .ok (.invokevirtual 139, 3) := by decide +kernel
theorem dX11_image_22 : decode cX11_image 22 = .ok (.aload_n 0, 1) := by decide +kernel
theorem dX11_image_23 : decode cX11_image 23 = .ok (.iconst 1, 1) := by decide +kernel
theorem dX11_image_24 : decode cX11_image 24 = .ok (.putfield 71, 3) := by decide +kernel
theorem dX11_image_27 : decode cX11_image 27 = .ok (.return_, 1) := by decide +kernel
theorem dX11_back_0 : decode cX11_back 0 = .ok (.aload_n 0, 1) := by decide +kernel
theorem dX11_back_1 : decode cX11_back 1 = .ok (.getfield 71, 3) := by decide +kernel
theorem dX11_back_4 : decode cX11_back 4 = .ok (.ifCond .ne 5, 3) := by decide +kernel
theorem dX11_back_7 : decode cX11_back 7 = .ok (.iconst 0, 1) := by decide +kernel
theorem dX11_back_8 : decode cX11_back 8 = .ok (.ireturn, 1) := by decide +kernel
theorem dX11_back_9 : decode cX11_back 9 = .ok (.aload_n 0, 1) := by decide +kernel
theorem dX11_back_10 : decode cX11_back 10 = .ok (.getfield 23, 3) := by decide +kernel
theorem dX11_back_13 : decode cX11_back 13 = .ok (.aload_n 0, 1) := by decide +kernel
theorem dX11_back_14 : decode cX11_back 14 = .ok (.getfield 65, 3) := by decide +kernel
theorem dX11_back_17 : decode cX11_back 17 = .ok (.invokevirtual 109, 3) := by decide +kernel
theorem dX11_back_20 : decode cX11_back 20 = .ok (.aload_n 0, 1) := by decide +kernel
theorem dX11_back_21 : decode cX11_back 21 = .ok (.getfield 33, 3) := by decide +kernel
theorem dX11_back_24 : decode cX11_back 24 = .ok (.aload_n 0, 1) := by decide +kernel
theorem dX11_back_25 : decode cX11_back 25 = .ok (.getfield 68, 3) := by decide +kernel
theorem dX11_back_28 : decode cX11_back 28 = .ok (.invokevirtual 139, 3) := by decide +kernel
theorem dX11_back_31 : decode cX11_back 31 = .ok (.aload_n 0, 1) := by decide +kernel
theorem dX11_back_32 : decode cX11_back 32 = .ok (.iconst 0, 1) := by decide +kernel
theorem dX11_back_33 : decode cX11_back 33 = .ok (.putfield 62, 3) := by decide +kernel
theorem dX11_back_36 : decode cX11_back 36 = .ok (.iconst 1, 1) := by decide +kernel
theorem dX11_back_37 : decode cX11_back 37 = .ok (.ireturn, 1) := by decide +kernel
theorem dX11_count_0 : decode cX11_count 0 = .ok (.iload_n 1, 1) := by decide +kernel
theorem dX11_count_1 : decode cX11_count 1 = .ok (.tableswitch 171 0 12 #[67, 75, 83, 91, 99, 107, 115, 123, 131, 139, 147, 155, 166], 67) := by decide +kernel
theorem dX11_count_68 : decode cX11_count 68 = .ok (.aload_n 0, 1) := by decide +kernel
theorem dX11_count_69 : decode cX11_count 69 = .ok (.getfield 23, 3) := by decide +kernel
theorem dX11_count_72 : decode cX11_count 72 = .ok (.getfield 246, 3) := by decide +kernel
theorem dX11_count_75 : decode cX11_count 75 = .ok (.ireturn, 1) := by decide +kernel
theorem dX11_count_76 : decode cX11_count 76 = .ok (.aload_n 0, 1) := by decide +kernel
theorem dX11_count_77 : decode cX11_count 77 = .ok (.getfield 23, 3) := by decide +kernel
theorem dX11_count_80 : decode cX11_count 80 = .ok (.getfield 127, 3) := by decide +kernel
theorem dX11_count_83 : decode cX11_count 83 = .ok (.ireturn, 1) := by decide +kernel
theorem dX11_count_84 : decode cX11_count 84 = .ok (.aload_n 0, 1) := by decide +kernel
theorem dX11_count_85 : decode cX11_count 85 = .ok (.getfield 33, 3) := by decide +kernel
theorem dX11_count_88 : decode cX11_count 88 = .ok (.getfield 141, 3) := by decide +kernel
theorem dX11_count_91 : decode cX11_count 91 = .ok (.ireturn, 1) := by decide +kernel
theorem dX11_count_92 : decode cX11_count 92 = .ok (.aload_n 0, 1) := by decide +kernel
theorem dX11_count_93 : decode cX11_count 93 = .ok (.getfield 23, 3) := by decide +kernel
theorem dX11_count_96 : decode cX11_count 96 = .ok (.getfield 403, 3) := by decide +kernel
theorem dX11_count_99 : decode cX11_count 99 = .ok (.ireturn, 1) := by decide +kernel
theorem dX11_count_100 : decode cX11_count 100 = .ok (.aload_n 0, 1) := by decide +kernel
theorem dX11_count_101 : decode cX11_count 101 = .ok (.getfield 23, 3) := by decide +kernel
theorem dX11_count_104 : decode cX11_count 104 = .ok (.getfield 249, 3) := by decide +kernel
theorem dX11_count_107 : decode cX11_count 107 = .ok (.ireturn, 1) := by decide +kernel
theorem dX11_count_108 : decode cX11_count 108 = .ok (.aload_n 0, 1) := by decide +kernel
theorem dX11_count_109 : decode cX11_count 109 = .ok (.getfield 23, 3) := by decide +kernel
theorem dX11_count_112 : decode cX11_count 112 = .ok (.getfield 406, 3) := by decide +kernel
theorem dX11_count_115 : decode cX11_count 115 = .ok (.ireturn, 1) := by decide +kernel
theorem dX11_count_116 : decode cX11_count 116 = .ok (.aload_n 0, 1) := by decide +kernel
theorem dX11_count_117 : decode cX11_count 117 = .ok (.getfield 23, 3) := by decide +kernel
theorem dX11_count_120 : decode cX11_count 120 = .ok (.getfield 269, 3) := by decide +kernel
theorem dX11_count_123 : decode cX11_count 123 = .ok (.ireturn, 1) := by decide +kernel
theorem dX11_count_124 : decode cX11_count 124 = .ok (.aload_n 0, 1) := by decide +kernel
theorem dX11_count_125 : decode cX11_count 125 = .ok (.getfield 23, 3) := by decide +kernel
theorem dX11_count_128 : decode cX11_count 128 = .ok (.invokevirtual 373, 3) := by decide +kernel
theorem dX11_count_131 : decode cX11_count 131 = .ok (.ireturn, 1) := by decide +kernel
theorem dX11_count_132 : decode cX11_count 132 = .ok (.aload_n 0, 1) := by decide +kernel
theorem dX11_count_133 : decode cX11_count 133 = .ok (.getfield 23, 3) := by decide +kernel
theorem dX11_count_136 : decode cX11_count 136 = .ok (.invokevirtual 409, 3) := by decide +kernel
theorem dX11_count_139 : decode cX11_count 139 = .ok (.ireturn, 1) := by decide +kernel
theorem dX11_count_140 : decode cX11_count 140 = .ok (.aload_n 0, 1) := by decide +kernel
theorem dX11_count_141 : decode cX11_count 141 = .ok (.getfield 23, 3) := by decide +kernel
theorem dX11_count_144 : decode cX11_count 144 = .ok (.invokevirtual 412, 3) := by decide +kernel
theorem dX11_count_147 : decode cX11_count 147 = .ok (.ireturn, 1) := by decide +kernel
theorem dX11_count_148 : decode cX11_count 148 = .ok (.aload_n 0, 1) := by decide +kernel
theorem dX11_count_149 : decode cX11_count 149 = .ok (.getfield 23, 3) := by decide +kernel
theorem dX11_count_152 : decode cX11_count 152 = .ok (.invokevirtual 415, 3) := by decide +kernel
theorem dX11_count_155 : decode cX11_count 155 = .ok (.ireturn, 1) := by decide +kernel
theorem dX11_count_156 : decode cX11_count 156 = .ok (.aload_n 0, 1) := by decide +kernel
theorem dX11_count_157 : decode cX11_count 157 = .ok (.getfield 23, 3) := by decide +kernel
theorem dX11_count_160 : decode cX11_count 160 = .ok (.getfield 202, 3) := by decide +kernel
theorem dX11_count_163 : decode cX11_count 163 = .ok (.getfield 418, 3) := by decide +kernel
theorem dX11_count_166 : decode cX11_count 166 = .ok (.ireturn, 1) := by decide +kernel
theorem dX11_count_167 : decode cX11_count 167 = .ok (.aload_n 0, 1) := by decide +kernel
theorem dX11_count_168 : decode cX11_count 168 = .ok (.getfield 62, 3) := by decide +kernel
theorem dX11_count_171 : decode cX11_count 171 = .ok (.ireturn, 1) := by decide +kernel
theorem dX11_count_172 : decode cX11_count 172 = .ok (.iconst (-1), 1) := by decide +kernel
theorem dX11_count_173 : decode cX11_count 173 = .ok (.ireturn, 1) := by decide +kernel
theorem dX12_thrown_0 : decode cX12_thrown 0 = .ok (.aload_n 0, 1) := by decide +kernel
theorem dX12_thrown_1 : decode cX12_thrown 1 = .ok (.getfield 3, 3) := by decide +kernel
theorem dX12_thrown_4 : decode cX12_thrown 4 = .ok (.ireturn, 1) := by decide +kernel
theorem dX12_throwsIf_0 : decode cX12_throwsIf 0 = .ok (.iload_n 1, 1) := by decide +kernel
theorem dX12_throwsIf_1 : decode cX12_throwsIf 1 = .ok (.ifCond .eq 8, 3) := by decide +kernel
theorem dX12_throwsIf_4 : decode cX12_throwsIf 4 = .ok (.aload_n 0, 1) := by decide +kernel
theorem dX12_throwsIf_5 : decode cX12_throwsIf 5 = .ok (.iload_n 2, 1) := by decide +kernel
theorem dX12_throwsIf_6 : decode cX12_throwsIf 6 = .ok (.putfield 3, 3) := by decide +kernel
theorem dX12_throwsIf_9 : decode cX12_throwsIf 9 = .ok (.iload_n 1, 1) := by decide +kernel
theorem dX12_throwsIf_10 : decode cX12_throwsIf 10 = .ok (.ireturn, 1) := by decide +kernel
theorem dX12_in_0 : decode cX12_in 0 = .ok (.iload_n 0, 1) := by decide +kernel
theorem dX12_in_1 : decode cX12_in 1 = .ok (.iload_n 1, 1) := by decide +kernel
theorem dX12_in_2 : decode cX12_in 2 = .ok (.if_icmp .lt 12, 3) := by decide +kernel
theorem dX12_in_5 : decode cX12_in 5 = .ok (.iload_n 0, 1) := by decide +kernel
theorem dX12_in_6 : decode cX12_in 6 = .ok (.iload_n 2, 1) := by decide +kernel
theorem dX12_in_7 : decode cX12_in 7 = .ok (.if_icmp .gt 7, 3) := by decide +kernel
theorem dX12_in_10 : decode cX12_in 10 = .ok (.iconst 1, 1) := by decide +kernel
theorem dX12_in_11 : decode cX12_in 11 = .ok (.goto 4, 3) := by decide +kernel
theorem dX12_in_14 : decode cX12_in 14 = .ok (.iconst 0, 1) := by decide +kernel
theorem dX12_in_15 : decode cX12_in 15 = .ok (.ireturn, 1) := by decide +kernel
theorem dX12_has_0 : decode cX12_has 0 = .ok (.iload_n 0, 1) := by decide +kernel
theorem dX12_has_1 : decode cX12_has 1 = .ok (.iload_n 1, 1) := by decide +kernel
theorem dX12_has_2 : decode cX12_has 2 = .ok (.ishr, 1) := by decide +kernel
theorem dX12_has_3 : decode cX12_has 3 = .ok (.iconst 1, 1) := by decide +kernel
theorem dX12_has_4 : decode cX12_has 4 = .ok (.iand, 1) := by decide +kernel
theorem dX12_has_5 : decode cX12_has 5 = .ok (.iconst 1, 1) := by decide +kernel
theorem dX12_has_6 : decode cX12_has 6 = .ok (.if_icmp .ne 7, 3) := by decide +kernel
theorem dX12_has_9 : decode cX12_has 9 = .ok (.iconst 1, 1) := by decide +kernel
theorem dX12_has_10 : decode cX12_has 10 = .ok (.goto 4, 3) := by decide +kernel
theorem dX12_has_13 : decode cX12_has 13 = .ok (.iconst 0, 1) := by decide +kernel
theorem dX12_has_14 : decode cX12_has 14 = .ok (.ireturn, 1) := by decide +kernel
theorem dX12_init_0 : decode cX12_init 0 = .ok (.aload_n 0, 1) := by decide +kernel
theorem dX12_init_1 : decode cX12_init 1 = .ok (.invokespecial 7, 3) := by decide +kernel
theorem dX12_init_4 : decode cX12_init 4 = .ok (.aload_n 0, 1) := by decide +kernel
theorem dX12_init_5 : decode cX12_init 5 = .ok (.sipush 2143, 3) := by decide +kernel
theorem dX12_init_8 : decode cX12_init 8 = .ok (.newarray .int, 2) := by decide +kernel
theorem dX12_init_10 : decode cX12_init 10 = .ok (.putfield 13, 3) := by decide +kernel
theorem dX12_init_13 : decode cX12_init 13 = .ok (.aload_n 0, 1) := by decide +kernel
theorem dX12_init_14 : decode cX12_init 14 = .ok (.sipush 1294, 3) := by decide +kernel
theorem dX12_init_17 : decode cX12_init 17 = .ok (.newarray .int, 2) := by decide +kernel
theorem dX12_init_19 : decode cX12_init 19 = .ok (.putfield 17, 3) := by decide +kernel
theorem dX12_init_22 : decode cX12_init 22 = .ok (.aload_n 0, 1) := by decide +kernel
theorem dX12_init_23 : decode cX12_init 23 = .ok (.sipush 1294, 3) := by decide +kernel
theorem dX12_init_26 : decode cX12_init 26 = .ok (.newarray .int, 2) := by decide +kernel
theorem dX12_init_28 : decode cX12_init 28 = .ok (.putfield 20, 3) := by decide +kernel
theorem dX12_init_31 : decode cX12_init 31 = .ok (.aload_n 0, 1) := by decide +kernel
theorem dX12_init_32 : decode cX12_init 32 = .ok (.sipush 445, 3) := by decide +kernel
theorem dX12_init_35 : decode cX12_init 35 = .ok (.newarray .int, 2) := by decide +kernel
theorem dX12_init_37 : decode cX12_init 37 = .ok (.putfield 23, 3) := by decide +kernel
theorem dX12_init_40 : decode cX12_init 40 = .ok (.aload_n 0, 1) := by decide +kernel
theorem dX12_init_41 : decode cX12_init 41 = .ok (.sipush 5340, 3) := by decide +kernel
theorem dX12_init_44 : decode cX12_init 44 = .ok (.newarray .int, 2) := by decide +kernel
theorem dX12_init_46 : decode cX12_init 46 = .ok (.putfield 26, 3) := by decide +kernel
theorem dX12_init_49 : decode cX12_init 49 = .ok (.aload_n 0, 1) := by decide +kernel
theorem dX12_init_50 : decode cX12_init 50 = .ok (.sipush 400, 3) := by decide +kernel
theorem dX12_init_53 : decode cX12_init 53 = .ok (.newarray .byte, 2) := by decide +kernel
theorem dX12_init_55 : decode cX12_init 55 = .ok (.putfield 29, 3) := by decide +kernel
theorem dX12_init_58 : decode cX12_init 58 = .ok (.aload_n 0, 1) := by decide +kernel
theorem dX12_init_59 : decode cX12_init 59 = .ok (.iconst (-1), 1) := by decide +kernel
theorem dX12_init_60 : decode cX12_init 60 = .ok (.putfield 33, 3) := by decide +kernel
theorem dX12_init_63 : decode cX12_init 63 = .ok (.aload_n 0, 1) := by decide +kernel
theorem dX12_init_64 : decode cX12_init 64 = .ok (.iconst 5, 1) := by decide +kernel
theorem dX12_init_65 : decode cX12_init 65 = .ok (.newarray .int, 2) := by decide +kernel
theorem dX12_init_67 : decode cX12_init 67 = .ok (.putfield 36, 3) := by decide +kernel
theorem dX12_init_70 : decode cX12_init 70 = .ok (.aload_n 0, 1) := by decide +kernel
theorem dX12_init_71 : decode cX12_init 71 = .ok (.sipush 400, 3) := by decide +kernel
theorem dX12_init_74 : decode cX12_init 74 = .ok (.newarray .int, 2) := by decide +kernel
theorem dX12_init_76 : decode cX12_init 76 = .ok (.putfield 39, 3) := by decide +kernel
theorem dX12_init_79 : decode cX12_init 79 = .ok (.aload_n 0, 1) := by decide +kernel
theorem dX12_init_80 : decode cX12_init 80 = .ok (.bipush 99, 2) := by decide +kernel
theorem dX12_init_82 : decode cX12_init 82 = .ok (.newarray .int, 2) := by decide +kernel
theorem dX12_init_84 : decode cX12_init 84 = .ok (.putfield 42, 3) := by decide +kernel
theorem dX12_init_87 : decode cX12_init 87 = .ok (.aload_n 0, 1) := by decide +kernel
theorem dX12_init_88 : decode cX12_init 88 = .ok (.bipush 99, 2) := by decide +kernel
theorem dX12_init_90 : decode cX12_init 90 = .ok (.newarray .int, 2) := by decide +kernel
theorem dX12_init_92 : decode cX12_init 92 = .ok (.putfield 45, 3) := by decide +kernel
theorem dX12_init_95 : decode cX12_init 95 = .ok (.aload_n 0, 1) := by decide +kernel
theorem dX12_init_96 : decode cX12_init 96 = .ok (.bipush 99, 2) := by decide +kernel
theorem dX12_init_98 : decode cX12_init 98 = .ok (.newarray .int, 2) := by decide +kernel
theorem dX12_init_100 : decode cX12_init 100 = .ok (.putfield 48, 3) := by decide +kernel
theorem dX12_init_103 : decode cX12_init 103 = .ok (.aload_n 0, 1) := by decide +kernel
theorem dX12_init_104 : decode cX12_init 104 = .ok (.bipush 99, 2) := by decide +kernel
theorem dX12_init_106 : decode cX12_init 106 = .ok (.newarray .int, 2) := by decide +kernel
theorem dX12_init_108 : decode cX12_init 108 = .ok (.putfield 51, 3) := by decide +kernel
theorem dX12_init_111 : decode cX12_init 111 = .ok (.aload_n 0, 1) := by decide +kernel
theorem dX12_init_112 : decode cX12_init 112 = .ok (.sipush 2304, 3) := by decide +kernel
theorem dX12_init_115 : decode cX12_init 115 = .ok (.newarray .int, 2) := by decide +kernel
theorem dX12_init_117 : decode cX12_init 117 = .ok (.putfield 54, 3) := by decide +kernel
theorem dX12_init_120 : decode cX12_init 120 = .ok (.aload_n 0, 1) := by decide +kernel
theorem dX12_init_121 : decode cX12_init 121 = .ok (.bipush 8, 2) := by decide +kernel
theorem dX12_init_123 : decode cX12_init 123 = .ok (.newarray .int, 2) := by decide +kernel
theorem dX12_init_125 : decode cX12_init 125 = .ok (.putfield 57, 3) := by decide +kernel
theorem dX12_init_128 : decode cX12_init 128 = .ok (.aload_n 0, 1) := by decide +kernel
theorem dX12_init_129 : decode cX12_init 129 = .ok (.bipush 8, 2) := by decide +kernel
theorem dX12_init_131 : decode cX12_init 131 = .ok (.newarray .int, 2) := by decide +kernel
theorem dX12_init_133 : decode cX12_init 133 = .ok (.putfield 60, 3) := by decide +kernel
theorem dX12_init_136 : decode cX12_init 136 = .ok (.aload_n 0, 1) := by decide +kernel
theorem dX12_init_137 : decode cX12_init 137 = .ok (.iconst 4, 1) := by decide +kernel
theorem dX12_init_138 : decode cX12_init 138 = .ok (.newarray .long, 2) := by decide +kernel
theorem dX12_init_140 : decode cX12_init 140 = .ok (.putfield 63, 3) := by decide +kernel
theorem dX12_init_143 : decode cX12_init 143 = .ok (.aload_n 0, 1) := by decide +kernel
theorem dX12_init_144 : decode cX12_init 144 = .ok (.getfield 13, 3) := by decide +kernel
theorem dX12_init_147 : decode cX12_init 147 = .ok (.iconst 4, 1) := by decide +kernel
theorem dX12_init_148 : decode cX12_init 148 = .ok (.bipush 90, 2) := by decide +kernel
theorem dX12_init_150 : decode cX12_init 150 = .ok (.iastore, 1) := by decide +kernel
theorem dX12_init_151 : decode cX12_init 151 = .ok (.aload_n 0, 1) := by decide +kernel
theorem dX12_init_152 : decode cX12_init 152 = .ok (.getfield 13, 3) := by decide +kernel
theorem dX12_init_155 : decode cX12_init 155 = .ok (.iconst 5, 1) := by decide +kernel
theorem dX12_init_156 : decode cX12_init 156 = .ok (.iconst 5, 1) := by decide +kernel
theorem dX12_init_157 : decode cX12_init 157 = .ok (.iastore, 1) := by decide +kernel
theorem dX12_init_158 : decode cX12_init 158 = .ok (.aload_n 0, 1) := by decide +kernel
theorem dX12_init_159 : decode cX12_init 159 = .ok (.getfield 13, 3) := by decide +kernel
theorem dX12_init_162 : decode cX12_init 162 = .ok (.bipush 6, 2) := by decide +kernel
theorem dX12_init_164 : decode cX12_init 164 = .ok (.iconst 1, 1) := by decide +kernel
theorem dX12_init_165 : decode cX12_init 165 = .ok (.iastore, 1) := by decide +kernel
theorem dX12_init_166 : decode cX12_init 166 = .ok (.aload_n 0, 1) := by decide +kernel
theorem dX12_init_167 : decode cX12_init 167 = .ok (.getfield 13, 3) := by decide +kernel
theorem dX12_init_170 : decode cX12_init 170 = .ok (.bipush 8, 2) := by decide +kernel
theorem dX12_init_172 : decode cX12_init 172 = .ok (.iconst 1, 1) := by decide +kernel
theorem dX12_init_173 : decode cX12_init 173 = .ok (.iastore, 1) := by decide +kernel
theorem dX12_init_174 : decode cX12_init 174 = .ok (.return_, 1) := by decide +kernel
theorem dX12_image_0 : decode cX12_image 0 = .ok (.aload_n 0, 1) := by decide +kernel
theorem dX12_image_1 : decode cX12_image 1 = .ok (.iconst 0, 1) := by decide +kernel
theorem dX12_image_2 : decode cX12_image 2 = .ok (.putfield 3, 3) := by decide +kernel
theorem dX12_image_5 : decode cX12_image 5 = .ok (.iconst 0, 1) := by decide +kernel
theorem dX12_image_6 : decode cX12_image 6 = .ok (.istore_n 1, 1) := by decide +kernel
theorem dX12_image_7 : decode cX12_image 7 = .ok (.iload_n 1, 1) := by decide +kernel
theorem dX12_image_8 : decode cX12_image 8 = .ok (.sipush 1294, 3) := by decide +kernel
theorem dX12_image_11 : decode cX12_image 11 = .ok (.if_icmp .ge 21, 3) := by decide +kernel
theorem dX12_image_14 : decode cX12_image 14 = .ok (.aload_n 0, 1) := by decide +kernel
theorem dX12_image_15 : decode cX12_image 15 = .ok (.getfield 17, 3) := by decide +kernel
theorem dX12_image_18 : decode cX12_image 18 = .ok (.iload_n 1, 1) := by decide +kernel
theorem dX12_image_19 : decode cX12_image 19 = .ok (.aload_n 0, 1) := by decide +kernel
theorem dX12_image_20 : decode cX12_image 20 = .ok (.getfield 13, 3) := by decide +kernel
theorem dX12_image_23 : decode cX12_image 23 = .ok (.iload_n 1, 1) := by decide +kernel
theorem dX12_image_24 : decode cX12_image 24 = .ok (.iaload, 1) := by decide +kernel
theorem dX12_image_25 : decode cX12_image 25 = .ok (.iastore, 1) := by decide +kernel
theorem dX12_image_26 : decode cX12_image 26 = .ok (.iinc 1 1, 3) := by decide +kernel
theorem dX12_image_29 : decode cX12_image 29 = .ok (.goto (-22), 3) := by decide +kernel
theorem dX12_image_32 : decode cX12_image 32 = .ok (.aload_n 0, 1) := by decide +kernel
theorem dX12_image_33 : decode cX12_image 33 = .ok (.iconst 1, 1) := by decide +kernel
theorem dX12_image_34 : decode cX12_image 34 = .ok (.putfield 67, 3) := by decide +kernel
theorem dX12_image_37 : decode cX12_image 37 = .ok (.return_, 1) := by decide +kernel
theorem dX12_back_0 : decode cX12_back 0 = .ok (.aload_n 0, 1) := by decide +kernel
theorem dX12_back_1 : decode cX12_back 1 = .ok (.iconst 0, 1) := by decide +kernel
theorem dX12_back_2 : decode cX12_back 2 = .ok (.putfield 3, 3) := by decide +kernel
theorem dX12_back_5 : decode cX12_back 5 = .ok (.aload_n 0, 1) := by decide +kernel
theorem dX12_back_6 : decode cX12_back 6 = .ok (.getfield 67, 3) := by decide +kernel
theorem dX12_back_9 : decode cX12_back 9 = .ok (.ifCond .ne 5, 3) := by decide +kernel
theorem dX12_back_12 : decode cX12_back 12 = .ok (.iconst 0, 1) := by decide +kernel
theorem dX12_back_13 : decode cX12_back 13 = .ok (.ireturn, 1) := by decide +kernel
theorem dX12_back_14 : decode cX12_back 14 = .ok (.iconst 0, 1) := by decide +kernel
theorem dX12_back_15 : decode cX12_back 15 = .ok (.istore_n 1, 1) := by decide +kernel
theorem dX12_back_16 : decode cX12_back 16 = .ok (.iload_n 1, 1) := by decide +kernel
theorem dX12_back_17 : decode cX12_back 17 = .ok (.sipush 1294, 3) := by decide +kernel
theorem dX12_back_20 : decode cX12_back 20 = .ok (.if_icmp .ge 21, 3) := by decide +kernel
theorem dX12_back_23 : decode cX12_back 23 = .ok (.aload_n 0, 1) := by decide +kernel
theorem dX12_back_24 : decode cX12_back 24 = .ok (.getfield 13, 3) := by decide +kernel
theorem dX12_back_27 : decode cX12_back 27 = .ok (.iload_n 1, 1) := by decide +kernel
theorem dX12_back_28 : decode cX12_back 28 = .ok (.aload_n 0, 1) := by decide +kernel
theorem dX12_back_29 : decode cX12_back 29 = .ok (.getfield 17, 3) := by decide +kernel
theorem dX12_back_32 : decode cX12_back 32 = .ok (.iload_n 1, 1) := by decide +kernel
theorem dX12_back_33 : decode cX12_back 33 = .ok (.iaload, 1) := by decide +kernel
theorem dX12_back_34 : decode cX12_back 34 = .ok (.iastore, 1) := by decide +kernel
theorem dX12_back_35 : decode cX12_back 35 = .ok (.iinc 1 1, 3) := by decide +kernel
theorem dX12_back_38 : decode cX12_back 38 = .ok (.goto (-22), 3) := by decide +kernel
theorem dX12_back_41 : decode cX12_back 41 = .ok (.aload_n 0, 1) := by decide +kernel
theorem dX12_back_42 : decode cX12_back 42 = .ok (.iconst 0, 1) := by decide +kernel
theorem dX12_back_43 : decode cX12_back 43 = .ok (.putfield 71, 3) := by decide +kernel
theorem dX12_back_46 : decode cX12_back 46 = .ok (.iconst 1, 1) := by decide +kernel
theorem dX12_back_47 : decode cX12_back 47 = .ok (.ireturn, 1) := by decide +kernel
theorem dX12_remembers_0 : decode cX12_remembers 0 = .ok (.aload_n 0, 1) := by decide +kernel
theorem dX12_remembers_1 : decode cX12_remembers 1 = .ok (.getfield 71, 3) := by decide +kernel
theorem dX12_remembers_4 : decode cX12_remembers 4 = .ok (.bipush 12, 2) := by decide +kernel
theorem dX12_remembers_6 : decode cX12_remembers 6 = .ok (.if_icmp .ne 37, 3) := by decide +kernel
theorem dX12_remembers_9 : decode cX12_remembers 9 = .ok (.iconst 0, 1) := by decide +kernel
theorem dX12_remembers_10 : decode cX12_remembers 10 = .ok (.istore_n 1, 1) := by decide +kernel
theorem dX12_remembers_11 : decode cX12_remembers 11 = .ok (.iload_n 1, 1) := by decide +kernel
theorem dX12_remembers_12 : decode cX12_remembers 12 = .ok (.sipush 4895, 3) := by decide +kernel
theorem dX12_remembers_15 : decode cX12_remembers 15 = .ok (.if_icmp .ge 25, 3) := by decide +kernel
theorem dX12_remembers_18 : decode cX12_remembers 18 = .ok (.aload_n 0, 1) := by decide +kernel
theorem dX12_remembers_19 : decode cX12_remembers 19 = .ok (.getfield 26, 3) := by decide +kernel
theorem dX12_remembers_22 : decode cX12_remembers 22 = .ok (.iload_n 1, 1) := by decide +kernel
theorem dX12_remembers_23 : decode cX12_remembers 23 = .ok (.aload_n 0, 1) := by decide +kernel
theorem dX12_remembers_24 : decode cX12_remembers 24 = .ok (.getfield 26, 3) := by decide +kernel
theorem dX12_remembers_27 : decode cX12_remembers 27 = .ok (.iload_n 1, 1) := by decide +kernel
theorem dX12_remembers_28 : decode cX12_remembers 28 = .ok (.sipush 445, 3) := by decide +kernel
theorem dX12_remembers_31 : decode cX12_remembers 31 = .ok (.iadd, 1) := by decide +kernel
theorem dX12_remembers_32 : decode cX12_remembers 32 = .ok (.iaload, 1) := by decide +kernel
theorem dX12_remembers_33 : decode cX12_remembers 33 = .ok (.iastore, 1) := by decide +kernel
theorem dX12_remembers_34 : decode cX12_remembers 34 = .ok (.iinc 1 1, 3) := by decide +kernel
theorem dX12_remembers_37 : decode cX12_remembers 37 = .ok (.goto (-26), 3) := by decide +kernel
theorem dX12_remembers_40 : decode cX12_remembers 40 = .ok (.goto 13, 3) := by decide +kernel
theorem dX12_remembers_43 : decode cX12_remembers 43 = .ok (.aload_n 0, 1) := by decide +kernel
theorem dX12_remembers_44 : decode cX12_remembers 44 = .ok (.dup, 1) := by decide +kernel
theorem dX12_remembers_45 : decode cX12_remembers 45 = .ok (.getfield 71, 3) := by decide +kernel
theorem dX12_remembers_48 : decode cX12_remembers 48 = .ok (.iconst 1, 1) := by decide +kernel
theorem dX12_remembers_49 : decode cX12_remembers 49 = .ok (.iadd, 1) := by decide +kernel
theorem dX12_remembers_50 : decode cX12_remembers 50 = .ok (.putfield 71, 3) := by decide +kernel
theorem dX12_remembers_53 : decode cX12_remembers 53 = .ok (.iconst 0, 1) := by decide +kernel
theorem dX12_remembers_54 : decode cX12_remembers 54 = .ok (.istore_n 1, 1) := by decide +kernel
theorem dX12_remembers_55 : decode cX12_remembers 55 = .ok (.iload_n 1, 1) := by decide +kernel
theorem dX12_remembers_56 : decode cX12_remembers 56 = .ok (.sipush 445, 3) := by decide +kernel
theorem dX12_remembers_59 : decode cX12_remembers 59 = .ok (.if_icmp .ge 32, 3) := by decide +kernel
theorem dX12_remembers_62 : decode cX12_remembers 62 = .ok (.aload_n 0, 1) := by decide +kernel
theorem dX12_remembers_63 : decode cX12_remembers 63 = .ok (.getfield 26, 3) := by decide +kernel
theorem dX12_remembers_66 : decode cX12_remembers 66 = .ok (.sipush 445, 3) := by decide +kernel
theorem dX12_remembers_69 : decode cX12_remembers 69 = .ok (.aload_n 0, 1) := by decide +kernel
theorem dX12_remembers_70 : decode cX12_remembers 70 = .ok (.getfield 71, 3) := by decide +kernel
theorem dX12_remembers_73 : decode cX12_remembers 73 = .ok (.iconst 1, 1) := by decide +kernel
theorem dX12_remembers_74 : decode cX12_remembers 74 = .ok (.isub, 1) := by decide +kernel
theorem dX12_remembers_75 : decode cX12_remembers 75 = .ok (.imul, 1) := by decide +kernel
theorem dX12_remembers_76 : decode cX12_remembers 76 = .ok (.iload_n 1, 1) := by decide +kernel
theorem dX12_remembers_77 : decode cX12_remembers 77 = .ok (.iadd, 1) := by decide +kernel
theorem dX12_remembers_78 : decode cX12_remembers 78 = .ok (.aload_n 0, 1) := by decide +kernel
theorem dX12_remembers_79 : decode cX12_remembers 79 = .ok (.getfield 13, 3) := by decide +kernel
theorem dX12_remembers_82 : decode cX12_remembers 82 = .ok (.iload_n 1, 1) := by decide +kernel
theorem dX12_remembers_83 : decode cX12_remembers 83 = .ok (.iaload, 1) := by decide +kernel
theorem dX12_remembers_84 : decode cX12_remembers 84 = .ok (.iastore, 1) := by decide +kernel
theorem dX12_remembers_85 : decode cX12_remembers 85 = .ok (.iinc 1 1, 3) := by decide +kernel
theorem dX12_remembers_88 : decode cX12_remembers 88 = .ok (.goto (-33), 3) := by decide +kernel
theorem dX12_remembers_91 : decode cX12_remembers 91 = .ok (.return_, 1) := by decide +kernel
theorem dX12_undo_0 : decode cX12_undo 0 = .ok (.aload_n 0, 1) := by decide +kernel
theorem dX12_undo_1 : decode cX12_undo 1 = .ok (.iconst 0, 1) := by decide +kernel
theorem dX12_undo_2 : decode cX12_undo 2 = .ok (.putfield 3, 3) := by decide +kernel
theorem dX12_undo_5 : decode cX12_undo 5 = .ok (.aload_n 0, 1) := by decide +kernel
theorem dX12_undo_6 : decode cX12_undo 6 = .ok (.getfield 71, 3) := by decide +kernel
theorem dX12_undo_9 : decode cX12_undo 9 = .ok (.ifCond .ne 5, 3) := by decide +kernel
theorem dX12_undo_12 : decode cX12_undo 12 = .ok (.iconst 0, 1) := by decide +kernel
theorem dX12_undo_13 : decode cX12_undo 13 = .ok (.ireturn, 1) := by decide +kernel
theorem dX12_undo_14 : decode cX12_undo 14 = .ok (.aload_n 0, 1) := by decide +kernel
theorem dX12_undo_15 : decode cX12_undo 15 = .ok (.dup, 1) := by decide +kernel
theorem dX12_undo_16 : decode cX12_undo 16 = .ok (.getfield 71, 3) := by decide +kernel
theorem dX12_undo_19 : decode cX12_undo 19 = .ok (.iconst 1, 1) := by decide +kernel
theorem dX12_undo_20 : decode cX12_undo 20 = .ok (.isub, 1) := by decide +kernel
theorem dX12_undo_21 : decode cX12_undo 21 = .ok (.putfield 71, 3) := by decide +kernel
theorem dX12_undo_24 : decode cX12_undo 24 = .ok (.iconst 0, 1) := by decide +kernel
theorem dX12_undo_25 : decode cX12_undo 25 = .ok (.istore_n 1, 1) := by decide +kernel
theorem dX12_undo_26 : decode cX12_undo 26 = .ok (.iload_n 1, 1) := by decide +kernel
theorem dX12_undo_27 : decode cX12_undo 27 = .ok (.sipush 445, 3) := by decide +kernel
theorem dX12_undo_30 : decode cX12_undo 30 = .ok (.if_icmp .ge 30, 3) := by decide +kernel
theorem dX12_undo_33 : decode cX12_undo 33 = .ok (.aload_n 0, 1) := by decide +kernel
theorem dX12_undo_34 : decode cX12_undo 34 = .ok (.getfield 13, 3) := by decide +kernel
theorem dX12_undo_37 : decode cX12_undo 37 = .ok (.iload_n 1, 1) := by decide +kernel
theorem dX12_undo_38 : decode cX12_undo 38 = .ok (.aload_n 0, 1) := by decide +kernel
theorem dX12_undo_39 : decode cX12_undo 39 = .ok (.getfield 26, 3) := by decide +kernel
theorem dX12_undo_42 : decode cX12_undo 42 = .ok (.sipush 445, 3) := by decide +kernel
theorem dX12_undo_45 : decode cX12_undo 45 = .ok (.aload_n 0, 1) := by decide +kernel
theorem dX12_undo_46 : decode cX12_undo 46 = .ok (.getfield 71, 3) := by decide +kernel
theorem dX12_undo_49 : decode cX12_undo 49 = .ok (.imul, 1) := by decide +kernel
theorem dX12_undo_50 : decode cX12_undo 50 = .ok (.iload_n 1, 1) := by decide +kernel
theorem dX12_undo_51 : decode cX12_undo 51 = .ok (.iadd, 1) := by decide +kernel
theorem dX12_undo_52 : decode cX12_undo 52 = .ok (.iaload, 1) := by decide +kernel
theorem dX12_undo_53 : decode cX12_undo 53 = .ok (.iastore, 1) := by decide +kernel
theorem dX12_undo_54 : decode cX12_undo 54 = .ok (.iinc 1 1, 3) := by decide +kernel
theorem dX12_undo_57 : decode cX12_undo 57 = .ok (.goto (-31), 3) := by decide +kernel
theorem dX12_undo_60 : decode cX12_undo 60 = .ok (.iconst 1, 1) := by decide +kernel
theorem dX12_undo_61 : decode cX12_undo 61 = .ok (.ireturn, 1) := by decide +kernel
theorem dX12_people_0 : decode cX12_people 0 = .ok (.aload_n 0, 1) := by decide +kernel
theorem dX12_people_1 : decode cX12_people 1 = .ok (.getfield 13, 3) := by decide +kernel
theorem dX12_people_4 : decode cX12_people 4 = .ok (.iconst 0, 1) := by decide +kernel
theorem dX12_people_5 : decode cX12_people 5 = .ok (.iaload, 1) := by decide +kernel
theorem dX12_people_6 : decode cX12_people 6 = .ok (.ireturn, 1) := by decide +kernel
theorem dX12_at_0 : decode cX12_at 0 = .ok (.bipush 9, 2) := by decide +kernel
theorem dX12_at_2 : decode cX12_at 2 = .ok (.bipush 17, 2) := by decide +kernel
theorem dX12_at_4 : decode cX12_at 4 = .ok (.iload_n 0, 1) := by decide +kernel
theorem dX12_at_5 : decode cX12_at 5 = .ok (.imul, 1) := by decide +kernel
theorem dX12_at_6 : decode cX12_at 6 = .ok (.iadd, 1) := by decide +kernel
theorem dX12_at_7 : decode cX12_at 7 = .ok (.iload_n 1, 1) := by decide +kernel
theorem dX12_at_8 : decode cX12_at 8 = .ok (.iadd, 1) := by decide +kernel
theorem dX12_at_9 : decode cX12_at 9 = .ok (.ireturn, 1) := by decide +kernel
theorem dX12_of_0 : decode cX12_of 0 = .ok (.aload_n 0, 1) := by decide +kernel
theorem dX12_of_1 : decode cX12_of 1 = .ok (.getfield 13, 3) := by decide +kernel
theorem dX12_of_4 : decode cX12_of 4 = .ok (.iload_n 1, 1) := by decide +kernel
theorem dX12_of_5 : decode cX12_of 5 = .ok (.iload_n 2, 1) := by decide +kernel
theorem dX12_of_6 : decode cX12_of 6 = .ok (.invokestatic 74, 3) := by decide +kernel
theorem dX12_of_9 : decode cX12_of 9 = .ok (.iaload, 1) := by decide +kernel
theorem dX12_of_10 : decode cX12_of 10 = .ok (.ireturn, 1) := by decide +kernel
theorem dX12_nobody_0 : decode cX12_nobody 0 = .ok (.iload_n 1, 1) := by decide +kernel
theorem dX12_nobody_1 : decode cX12_nobody 1 = .ok (.iconst 0, 1) := by decide +kernel
theorem dX12_nobody_2 : decode cX12_nobody 2 = .ok (.aload_n 0, 1) := by decide +kernel
theorem dX12_nobody_3 : decode cX12_nobody 3 = .ok (.invokevirtual 78, 3) := by decide +kernel
theorem dX12_nobody_6 : decode cX12_nobody 6 = .ok (.iconst 1, 1) := by decide +kernel
theorem dX12_nobody_7 : decode cX12_nobody 7 = .ok (.isub, 1) := by decide +kernel
theorem dX12_nobody_8 : decode cX12_nobody 8 = .ok (.invokestatic 82, 3) := by decide +kernel
theorem dX12_nobody_11 : decode cX12_nobody 11 = .ok (.ifCond .ne 7, 3) := by decide +kernel
theorem dX12_nobody_14 : decode cX12_nobody 14 = .ok (.iconst 1, 1) := by decide +kernel
theorem dX12_nobody_15 : decode cX12_nobody 15 = .ok (.goto 4, 3) := by decide +kernel
theorem dX12_nobody_18 : decode cX12_nobody 18 = .ok (.iconst 0, 1) := by decide +kernel
theorem dX12_nobody_19 : decode cX12_nobody 19 = .ok (.ireturn, 1) := by decide +kernel
theorem dX12_governs_0 : decode cX12_governs 0 = .ok (.aload_n 0, 1) := by decide +kernel
theorem dX12_governs_1 : decode cX12_governs 1 = .ok (.iload_n 2, 1) := by decide +kernel
theorem dX12_governs_2 : decode cX12_governs 2 = .ok (.bipush 8, 2) := by decide +kernel
theorem dX12_governs_4 : decode cX12_governs 4 = .ok (.invokevirtual 86, 3) := by decide +kernel
theorem dX12_governs_7 : decode cX12_governs 7 = .ok (.iload_n 1, 1) := by decide +kernel
theorem dX12_governs_8 : decode cX12_governs 8 = .ok (.invokestatic 89, 3) := by decide +kernel
theorem dX12_governs_11 : decode cX12_governs 11 = .ok (.ireturn, 1) := by decide +kernel
theorem dX12_isParent_0 : decode cX12_isParent 0 = .ok (.aload_n 0, 1) := by decide +kernel
theorem dX12_isParent_1 : decode cX12_isParent 1 = .ok (.iload_n 2, 1) := by decide +kernel
theorem dX12_isParent_2 : decode cX12_isParent 2 = .ok (.iconst 3, 1) := by decide +kernel
theorem dX12_isParent_3 : decode cX12_isParent 3 = .ok (.invokevirtual 86, 3) := by decide +kernel
theorem dX12_isParent_6 : decode cX12_isParent 6 = .ok (.iload_n 1, 1) := by decide +kernel
theorem dX12_isParent_7 : decode cX12_isParent 7 = .ok (.if_icmp .ne 7, 3) := by decide +kernel
theorem dX12_isParent_10 : decode cX12_isParent 10 = .ok (.iconst 1, 1) := by decide +kernel
theorem dX12_isParent_11 : decode cX12_isParent 11 = .ok (.goto 4, 3) := by decide +kernel
theorem dX12_isParent_14 : decode cX12_isParent 14 = .ok (.iconst 0, 1) := by decide +kernel
theorem dX12_isParent_15 : decode cX12_isParent 15 = .ok (.ireturn, 1) := by decide +kernel
theorem dX12_areClose_0 : decode cX12_areClose 0 = .ok (.aload_n 0, 1) := by decide +kernel
theorem dX12_areClose_1 : decode cX12_areClose 1 = .ok (.iload_n 1, 1) := by decide +kernel
theorem dX12_areClose_2 : decode cX12_areClose 2 = .ok (.iload_n 2, 1) := by decide +kernel
theorem dX12_areClose_3 : decode cX12_areClose 3 = .ok (.invokevirtual 93, 3) := by decide +kernel
theorem dX12_areClose_6 : decode cX12_areClose 6 = .ok (.ifCond .ne 12, 3) := by decide +kernel
theorem dX12_areClose_9 : decode cX12_areClose 9 = .ok (.aload_n 0, 1) := by decide +kernel
theorem dX12_areClose_10 : decode cX12_areClose 10 = .ok (.iload_n 2, 1) := by decide +kernel
theorem dX12_areClose_11 : decode cX12_areClose 11 = .ok (.iload_n 1, 1) := by decide +kernel
theorem dX12_areClose_12 : decode cX12_areClose 12 = .ok (.invokevirtual 93, 3) := by decide +kernel
theorem dX12_areClose_15 : decode cX12_areClose 15 = .ok (.ifCond .eq 7, 3) := by decide +kernel
theorem dX12_areClose_18 : decode cX12_areClose 18 = .ok (.iconst 1, 1) := by decide +kernel
theorem dX12_areClose_19 : decode cX12_areClose 19 = .ok (.goto 4, 3) := by decide +kernel
theorem dX12_areClose_22 : decode cX12_areClose 22 = .ok (.iconst 0, 1) := by decide +kernel
theorem dX12_areClose_23 : decode cX12_areClose 23 = .ok (.ireturn, 1) := by decide +kernel
theorem dX12_isBoy_0 : decode cX12_isBoy 0 = .ok (.aload_n 0, 1) := by decide +kernel
theorem dX12_isBoy_1 : decode cX12_isBoy 1 = .ok (.iload_n 1, 1) := by decide +kernel
theorem dX12_isBoy_2 : decode cX12_isBoy 2 = .ok (.iconst 2, 1) := by decide +kernel
theorem dX12_isBoy_3 : decode cX12_isBoy 3 = .ok (.invokevirtual 86, 3) := by decide +kernel
theorem dX12_isBoy_6 : decode cX12_isBoy 6 = .ok (.ifCond .ne 7, 3) := by decide +kernel
theorem dX12_isBoy_9 : decode cX12_isBoy 9 = .ok (.iconst 1, 1) := by decide +kernel
theorem dX12_isBoy_10 : decode cX12_isBoy 10 = .ok (.goto 4, 3) := by decide +kernel
theorem dX12_isBoy_13 : decode cX12_isBoy 13 = .ok (.iconst 0, 1) := by decide +kernel
theorem dX12_isBoy_14 : decode cX12_isBoy 14 = .ok (.ireturn, 1) := by decide +kernel
theorem dX12_isSingle_0 : decode cX12_isSingle 0 = .ok (.aload_n 0, 1) := by decide +kernel
theorem dX12_isSingle_1 : decode cX12_isSingle 1 = .ok (.iload_n 1, 1) := by decide +kernel
theorem dX12_isSingle_2 : decode cX12_isSingle 2 = .ok (.iconst 4, 1) := by decide +kernel
theorem dX12_isSingle_3 : decode cX12_isSingle 3 = .ok (.invokevirtual 86, 3) := by decide +kernel
theorem dX12_isSingle_6 : decode cX12_isSingle 6 = .ok (.iconst (-1), 1) := by decide +kernel
theorem dX12_isSingle_7 : decode cX12_isSingle 7 = .ok (.if_icmp .ne 7, 3) := by decide +kernel
theorem dX12_isSingle_10 : decode cX12_isSingle 10 = .ok (.iconst 1, 1) := by decide +kernel
theorem dX12_isSingle_11 : decode cX12_isSingle 11 = .ok (.goto 4, 3) := by decide +kernel
theorem dX12_isSingle_14 : decode cX12_isSingle 14 = .ok (.iconst 0, 1) := by decide +kernel
theorem dX12_isSingle_15 : decode cX12_isSingle 15 = .ok (.ireturn, 1) := by decide +kernel
theorem dX12_drawn_0 : decode cX12_drawn 0 = .ok (.aload_n 0, 1) := by decide +kernel
theorem dX12_drawn_1 : decode cX12_drawn 1 = .ok (.getfield 13, 3) := by decide +kernel
theorem dX12_drawn_4 : decode cX12_drawn 4 = .ok (.bipush 8, 2) := by decide +kernel
theorem dX12_drawn_6 : decode cX12_drawn 6 = .ok (.ldc 96, 2) := by decide +kernel
theorem dX12_drawn_8 : decode cX12_drawn 8 = .ok (.aload_n 0, 1) := by decide +kernel
theorem dX12_drawn_9 : decode cX12_drawn 9 = .ok (.getfield 13, 3) := by decide +kernel
theorem dX12_drawn_12 : decode cX12_drawn 12 = .ok (.bipush 8, 2) := by decide +kernel
theorem dX12_drawn_14 : decode cX12_drawn 14 = .ok (.iaload, 1) := by decide +kernel
theorem dX12_drawn_15 : decode cX12_drawn 15 = .ok (.imul, 1) := by decide +kernel
theorem dX12_drawn_16 : decode cX12_drawn 16 = .ok (.sipush 12345, 3) := by decide +kernel
theorem dX12_drawn_19 : decode cX12_drawn 19 = .ok (.iadd, 1) := by decide +kernel
theorem dX12_drawn_20 : decode cX12_drawn 20 = .ok (.iastore, 1) := by decide +kernel
theorem dX12_drawn_21 : decode cX12_drawn 21 = .ok (.aload_n 0, 1) := by decide +kernel
theorem dX12_drawn_22 : decode cX12_drawn 22 = .ok (.getfield 13, 3) := by decide +kernel
theorem dX12_drawn_25 : decode cX12_drawn 25 = .ok (.bipush 8, 2) := by decide +kernel
theorem dX12_drawn_27 : decode cX12_drawn 27 = .ok (.iaload, 1) := by decide +kernel
theorem dX12_drawn_28 : decode cX12_drawn 28 = .ok (.bipush 16, 2) := by decide +kernel
theorem dX12_drawn_30 : decode cX12_drawn 30 = .ok (.ishr, 1) := by decide +kernel
theorem dX12_drawn_31 : decode cX12_drawn 31 = .ok (.sipush 32767, 3) := by decide +kernel
theorem dX12_drawn_34 : decode cX12_drawn 34 = .ok (.iand, 1) := by decide +kernel
theorem dX12_drawn_35 : decode cX12_drawn 35 = .ok (.iload_n 1, 1) := by decide +kernel
theorem dX12_drawn_36 : decode cX12_drawn 36 = .ok (.irem, 1) := by decide +kernel
theorem dX12_drawn_37 : decode cX12_drawn 37 = .ok (.ireturn, 1) := by decide +kernel
theorem dX12_feed_0 : decode cX12_feed 0 = .ok (.aload_n 0, 1) := by decide +kernel
theorem dX12_feed_1 : decode cX12_feed 1 = .ok (.iconst 0, 1) := by decide +kernel
theorem dX12_feed_2 : decode cX12_feed 2 = .ok (.putfield 3, 3) := by decide +kernel
theorem dX12_feed_5 : decode cX12_feed 5 = .ok (.aload_n 0, 1) := by decide +kernel
theorem dX12_feed_6 : decode cX12_feed 6 = .ok (.getfield 97, 3) := by decide +kernel
theorem dX12_feed_9 : decode cX12_feed 9 = .ok (.bipush 20, 2) := by decide +kernel
theorem dX12_feed_11 : decode cX12_feed 11 = .ok (.iadd, 1) := by decide +kernel
theorem dX12_feed_12 : decode cX12_feed 12 = .ok (.sipush 400, 3) := by decide +kernel
theorem dX12_feed_15 : decode cX12_feed 15 = .ok (.if_icmp .le 5, 3) := by decide +kernel
theorem dX12_feed_18 : decode cX12_feed 18 = .ok (.iconst (-1), 1) := by decide +kernel
theorem dX12_feed_19 : decode cX12_feed 19 = .ok (.ireturn, 1) := by decide +kernel
theorem dX12_feed_20 : decode cX12_feed 20 = .ok (.aload_n 0, 1) := by decide +kernel
theorem dX12_feed_21 : decode cX12_feed 21 = .ok (.getfield 36, 3) := by decide +kernel
theorem dX12_feed_24 : decode cX12_feed 24 = .ok (.iconst 0, 1) := by decide +kernel
theorem dX12_feed_25 : decode cX12_feed 25 = .ok (.iload_n 1, 1) := by decide +kernel
theorem dX12_feed_26 : decode cX12_feed 26 = .ok (.iastore, 1) := by decide +kernel
theorem dX12_feed_27 : decode cX12_feed 27 = .ok (.aload_n 0, 1) := by decide +kernel
theorem dX12_feed_28 : decode cX12_feed 28 = .ok (.getfield 36, 3) := by decide +kernel
theorem dX12_feed_31 : decode cX12_feed 31 = .ok (.iconst 1, 1) := by decide +kernel
theorem dX12_feed_32 : decode cX12_feed 32 = .ok (.iload_n 2, 1) := by decide +kernel
theorem dX12_feed_33 : decode cX12_feed 33 = .ok (.iastore, 1) := by decide +kernel
theorem dX12_feed_34 : decode cX12_feed 34 = .ok (.aload_n 0, 1) := by decide +kernel
theorem dX12_feed_35 : decode cX12_feed 35 = .ok (.getfield 36, 3) := by decide +kernel
theorem dX12_feed_38 : decode cX12_feed 38 = .ok (.iconst 2, 1) := by decide +kernel
theorem dX12_feed_39 : decode cX12_feed 39 = .ok (.iload_n 3, 1) := by decide +kernel
theorem dX12_feed_40 : decode cX12_feed 40 = .ok (.iastore, 1) := by decide +kernel
theorem dX12_feed_41 : decode cX12_feed 41 = .ok (.aload_n 0, 1) := by decide +kernel
theorem dX12_feed_42 : decode cX12_feed 42 = .ok (.getfield 36, 3) := by decide +kernel
theorem dX12_feed_45 : decode cX12_feed 45 = .ok (.iconst 3, 1) := by decide +kernel
theorem dX12_feed_46 : decode cX12_feed 46 = .ok (.iload 4, 2) := by decide +kernel
theorem dX12_feed_48 : decode cX12_feed 48 = .ok (.iastore, 1) := by decide +kernel
theorem dX12_feed_49 : decode cX12_feed 49 = .ok (.aload_n 0, 1) := by decide +kernel
theorem dX12_feed_50 : decode cX12_feed 50 = .ok (.getfield 36, 3) := by decide +kernel
theorem dX12_feed_53 : decode cX12_feed 53 = .ok (.iconst 4, 1) := by decide +kernel
theorem dX12_feed_54 : decode cX12_feed 54 = .ok (.iload 5, 2) := by decide +kernel
theorem dX12_feed_56 : decode cX12_feed 56 = .ok (.iastore, 1) := by decide +kernel
theorem dX12_feed_57 : decode cX12_feed 57 = .ok (.iconst 0, 1) := by decide +kernel
theorem dX12_feed_58 : decode cX12_feed 58 = .ok (.istore 6, 2) := by decide +kernel
theorem dX12_feed_60 : decode cX12_feed 60 = .ok (.iload 6, 2) := by decide +kernel
theorem dX12_feed_62 : decode cX12_feed 62 = .ok (.bipush 20, 2) := by decide +kernel
theorem dX12_feed_64 : decode cX12_feed 64 = .ok (.if_icmp .ge 42, 3) := by decide +kernel
theorem dX12_feed_67 : decode cX12_feed 67 = .ok (.aload_n 0, 1) := by decide +kernel
theorem dX12_feed_68 : decode cX12_feed 68 = .ok (.getfield 29, 3) := by decide +kernel
theorem dX12_feed_71 : decode cX12_feed 71 = .ok (.aload_n 0, 1) := by decide +kernel
theorem dX12_feed_72 : decode cX12_feed 72 = .ok (.getfield 97, 3) := by decide +kernel
theorem dX12_feed_75 : decode cX12_feed 75 = .ok (.iload 6, 2) := by decide +kernel
theorem dX12_feed_77 : decode cX12_feed 77 = .ok (.iadd, 1) := by decide +kernel
theorem dX12_feed_78 : decode cX12_feed 78 = .ok (.aload_n 0, 1) := by decide +kernel
theorem dX12_feed_79 : decode cX12_feed 79 = .ok (.getfield 36, 3) := by decide +kernel
theorem dX12_feed_82 : decode cX12_feed 82 = .ok (.iload 6, 2) := by decide +kernel
theorem dX12_feed_84 : decode cX12_feed 84 = .ok (.iconst 4, 1) := by decide +kernel
theorem dX12_feed_85 : decode cX12_feed 85 = .ok (.idiv, 1) := by decide +kernel
theorem dX12_feed_86 : decode cX12_feed 86 = .ok (.iaload, 1) := by decide +kernel
theorem dX12_feed_87 : decode cX12_feed 87 = .ok (.bipush 24, 2) := by decide +kernel
theorem dX12_feed_89 : decode cX12_feed 89 = .ok (.bipush 8, 2) := by decide +kernel
theorem dX12_feed_91 : decode cX12_feed 91 = .ok (.iload 6, 2) := by decide +kernel
theorem dX12_feed_93 : decode cX12_feed 93 = .ok (.iconst 4, 1) := by decide +kernel
theorem dX12_feed_94 : decode cX12_feed 94 = .ok (.irem, 1) := by decide +kernel
theorem dX12_feed_95 : decode cX12_feed 95 = .ok (.imul, 1) := by decide +kernel
theorem dX12_feed_96 : decode cX12_feed 96 = .ok (.isub, 1) := by decide +kernel
theorem dX12_feed_97 : decode cX12_feed 97 = .ok (.ishr, 1) := by decide +kernel
theorem dX12_feed_98 : decode cX12_feed 98 = .ok (.i2b, 1) := by decide +kernel
theorem dX12_feed_99 : decode cX12_feed 99 = .ok (.bastore, 1) := by decide +kernel
theorem dX12_feed_100 : decode cX12_feed 100 = .ok (.iinc 6 1, 3) := by decide +kernel
theorem dX12_feed_103 : decode cX12_feed 103 = .ok (.goto (-43), 3) := by decide +kernel
theorem dX12_feed_106 : decode cX12_feed 106 = .ok (.aload_n 0, 1) := by decide +kernel
theorem dX12_feed_107 : decode cX12_feed 107 = .ok (.dup, 1) := by decide +kernel
theorem dX12_feed_108 : decode cX12_feed 108 = .ok (.getfield 97, 3) := by decide +kernel
theorem dX12_feed_111 : decode cX12_feed 111 = .ok (.bipush 20, 2) := by decide +kernel
theorem dX12_feed_113 : decode cX12_feed 113 = .ok (.iadd, 1) := by decide +kernel
theorem dX12_feed_114 : decode cX12_feed 114 = .ok (.putfield 97, 3) := by decide +kernel
theorem dX12_feed_117 : decode cX12_feed 117 = .ok (.aload_n 0, 1) := by decide +kernel
theorem dX12_feed_118 : decode cX12_feed 118 = .ok (.getfield 97, 3) := by decide +kernel
theorem dX12_feed_121 : decode cX12_feed 121 = .ok (.ireturn, 1) := by decide +kernel
theorem dX12_end_0 : decode cX12_end 0 = .ok (.aload_n 0, 1) := by decide +kernel
theorem dX12_end_1 : decode cX12_end 1 = .ok (.iconst 0, 1) := by decide +kernel
theorem dX12_end_2 : decode cX12_end 2 = .ok (.putfield 3, 3) := by decide +kernel
theorem dX12_end_5 : decode cX12_end 5 = .ok (.iload_n 1, 1) := by decide +kernel
theorem dX12_end_6 : decode cX12_end 6 = .ok (.ifCond .lt 11, 3) := by decide +kernel
theorem dX12_end_9 : decode cX12_end 9 = .ok (.iload_n 1, 1) := by decide +kernel
theorem dX12_end_10 : decode cX12_end 10 = .ok (.aload_n 0, 1) := by decide +kernel
theorem dX12_end_11 : decode cX12_end 11 = .ok (.getfield 97, 3) := by decide +kernel
theorem dX12_end_14 : decode cX12_end 14 = .ok (.if_icmp .le 5, 3) := by decide +kernel
theorem dX12_end_17 : decode cX12_end 17 = .ok (.iconst 0, 1) := by decide +kernel
theorem dX12_end_18 : decode cX12_end 18 = .ok (.ireturn, 1) := by decide +kernel
theorem dX12_end_19 : decode cX12_end 19 = .ok (.aload_n 0, 1) := by decide +kernel
theorem dX12_end_20 : decode cX12_end 20 = .ok (.iload_n 1, 1) := by decide +kernel
theorem dX12_end_21 : decode cX12_end 21 = .ok (.putfield 97, 3) := by decide +kernel
theorem dX12_end_24 : decode cX12_end 24 = .ok (.iconst 1, 1) := by decide +kernel
theorem dX12_end_25 : decode cX12_end 25 = .ok (.ireturn, 1) := by decide +kernel
theorem dX12_isAt_0 : decode cX12_isAt 0 = .ok (.aload_n 0, 1) := by decide +kernel
theorem dX12_isAt_1 : decode cX12_isAt 1 = .ok (.getfield 100, 3) := by decide +kernel
theorem dX12_isAt_4 : decode cX12_isAt 4 = .ok (.aload_n 0, 1) := by decide +kernel
theorem dX12_isAt_5 : decode cX12_isAt 5 = .ok (.getfield 103, 3) := by decide +kernel
theorem dX12_isAt_8 : decode cX12_isAt 8 = .ok (.if_icmp .ge 33, 3) := by decide +kernel
theorem dX12_isAt_11 : decode cX12_isAt 11 = .ok (.aload_n 0, 1) := by decide +kernel
theorem dX12_isAt_12 : decode cX12_isAt 12 = .ok (.getfield 29, 3) := by decide +kernel
theorem dX12_isAt_15 : decode cX12_isAt 15 = .ok (.aload_n 0, 1) := by decide +kernel
theorem dX12_isAt_16 : decode cX12_isAt 16 = .ok (.getfield 100, 3) := by decide +kernel
theorem dX12_isAt_19 : decode cX12_isAt 19 = .ok (.baload, 1) := by decide +kernel
theorem dX12_isAt_20 : decode cX12_isAt 20 = .ok (.iload_n 1, 1) := by decide +kernel
theorem dX12_isAt_21 : decode cX12_isAt 21 = .ok (.if_icmp .lt 20, 3) := by decide +kernel
theorem dX12_isAt_24 : decode cX12_isAt 24 = .ok (.aload_n 0, 1) := by decide +kernel
theorem dX12_isAt_25 : decode cX12_isAt 25 = .ok (.getfield 29, 3) := by decide +kernel
theorem dX12_isAt_28 : decode cX12_isAt 28 = .ok (.aload_n 0, 1) := by decide +kernel
theorem dX12_isAt_29 : decode cX12_isAt 29 = .ok (.getfield 100, 3) := by decide +kernel
theorem dX12_isAt_32 : decode cX12_isAt 32 = .ok (.baload, 1) := by decide +kernel
theorem dX12_isAt_33 : decode cX12_isAt 33 = .ok (.iload_n 2, 1) := by decide +kernel
theorem dX12_isAt_34 : decode cX12_isAt 34 = .ok (.if_icmp .gt 7, 3) := by decide +kernel
theorem dX12_isAt_37 : decode cX12_isAt 37 = .ok (.iconst 1, 1) := by decide +kernel
theorem dX12_isAt_38 : decode cX12_isAt 38 = .ok (.goto 4, 3) := by decide +kernel
theorem dX12_isAt_41 : decode cX12_isAt 41 = .ok (.iconst 0, 1) := by decide +kernel
theorem dX12_isAt_42 : decode cX12_isAt 42 = .ok (.ireturn, 1) := by decide +kernel
theorem dX12_blanks_0 : decode cX12_blanks 0 = .ok (.aload_n 0, 1) := by decide +kernel
theorem dX12_blanks_1 : decode cX12_blanks 1 = .ok (.bipush 32, 2) := by decide +kernel
theorem dX12_blanks_3 : decode cX12_blanks 3 = .ok (.bipush 32, 2) := by decide +kernel
theorem dX12_blanks_5 : decode cX12_blanks 5 = .ok (.invokevirtual 106, 3) := by decide +kernel
theorem dX12_blanks_8 : decode cX12_blanks 8 = .ok (.ifCond .eq 16, 3) := by decide +kernel
theorem dX12_blanks_11 : decode cX12_blanks 11 = .ok (.aload_n 0, 1) := by decide +kernel
theorem dX12_blanks_12 : decode cX12_blanks 12 = .ok (.dup, 1) := by decide +kernel
theorem dX12_blanks_13 : decode cX12_blanks 13 = .ok (.getfield 100, 3) := by decide +kernel
theorem dX12_blanks_16 : decode cX12_blanks 16 = .ok (.iconst 1, 1) := by decide +kernel
theorem dX12_blanks_17 : decode cX12_blanks 17 = .ok (.iadd, 1) := by decide +kernel
theorem dX12_blanks_18 : decode cX12_blanks 18 = .ok (.putfield 100, 3) := by decide +kernel
theorem dX12_blanks_21 : decode cX12_blanks 21 = .ok (.goto (-21), 3) := by decide +kernel
theorem dX12_blanks_24 : decode cX12_blanks 24 = .ok (.aload_n 0, 1) := by decide +kernel
theorem dX12_blanks_25 : decode cX12_blanks 25 = .ok (.aload_n 0, 1) := by decide +kernel
theorem dX12_blanks_26 : decode cX12_blanks 26 = .ok (.getfield 100, 3) := by decide +kernel
theorem dX12_blanks_29 : decode cX12_blanks 29 = .ok (.putfield 109, 3) := by decide +kernel
theorem dX12_blanks_32 : decode cX12_blanks 32 = .ok (.return_, 1) := by decide +kernel
theorem dX12_letters_0 : decode cX12_letters 0 = .ok (.aload_n 0, 1) := by decide +kernel
theorem dX12_letters_1 : decode cX12_letters 1 = .ok (.invokevirtual 112, 3) := by decide +kernel
theorem dX12_letters_4 : decode cX12_letters 4 = .ok (.aload_n 0, 1) := by decide +kernel
theorem dX12_letters_5 : decode cX12_letters 5 = .ok (.bipush 97, 2) := by decide +kernel
theorem dX12_letters_7 : decode cX12_letters 7 = .ok (.bipush 122, 2) := by decide +kernel
theorem dX12_letters_9 : decode cX12_letters 9 = .ok (.invokevirtual 106, 3) := by decide +kernel
theorem dX12_letters_12 : decode cX12_letters 12 = .ok (.ifCond .eq 16, 3) := by decide +kernel
theorem dX12_letters_15 : decode cX12_letters 15 = .ok (.aload_n 0, 1) := by decide +kernel
theorem dX12_letters_16 : decode cX12_letters 16 = .ok (.dup, 1) := by decide +kernel
theorem dX12_letters_17 : decode cX12_letters 17 = .ok (.getfield 100, 3) := by decide +kernel
theorem dX12_letters_20 : decode cX12_letters 20 = .ok (.iconst 1, 1) := by decide +kernel
theorem dX12_letters_21 : decode cX12_letters 21 = .ok (.iadd, 1) := by decide +kernel
theorem dX12_letters_22 : decode cX12_letters 22 = .ok (.putfield 100, 3) := by decide +kernel
theorem dX12_letters_25 : decode cX12_letters 25 = .ok (.goto (-21), 3) := by decide +kernel
theorem dX12_letters_28 : decode cX12_letters 28 = .ok (.return_, 1) := by decide +kernel
theorem dX12_isWord_0 : decode cX12_isWord 0 = .ok (.aload_n 0, 1) := by decide +kernel
theorem dX12_isWord_1 : decode cX12_isWord 1 = .ok (.getfield 100, 3) := by decide +kernel
theorem dX12_isWord_4 : decode cX12_isWord 4 = .ok (.aload_n 0, 1) := by decide +kernel
theorem dX12_isWord_5 : decode cX12_isWord 5 = .ok (.getfield 109, 3) := by decide +kernel
theorem dX12_isWord_8 : decode cX12_isWord 8 = .ok (.isub, 1) := by decide +kernel
theorem dX12_isWord_9 : decode cX12_isWord 9 = .ok (.aload_n 1, 1) := by decide +kernel
theorem dX12_isWord_10 : decode cX12_isWord 10 = .ok (.invokevirtual 115, 3) := by decide +kernel
theorem dX12_isWord_13 : decode cX12_isWord 13 = .ok (.if_icmp .ne 7, 3) := by decide +kernel
theorem dX12_isWord_16 : decode cX12_isWord 16 = .ok (.iconst 1, 1) := by decide +kernel
theorem dX12_isWord_17 : decode cX12_isWord 17 = .ok (.goto 4, 3) := by decide +kernel
theorem dX12_isWord_20 : decode cX12_isWord 20 = .ok (.iconst 0, 1) := by decide +kernel
theorem dX12_isWord_21 : decode cX12_isWord 21 = .ok (.istore_n 2, 1) := by decide +kernel
theorem dX12_isWord_22 : decode cX12_isWord 22 = .ok (.iconst 0, 1) := by decide +kernel
theorem dX12_isWord_23 : decode cX12_isWord 23 = .ok (.istore_n 3, 1) := by decide +kernel
theorem dX12_isWord_24 : decode cX12_isWord 24 = .ok (.iload_n 2, 1) := by decide +kernel
theorem dX12_isWord_25 : decode cX12_isWord 25 = .ok (.ifCond .eq 42, 3) := by decide +kernel
theorem dX12_isWord_28 : decode cX12_isWord 28 = .ok (.iload_n 3, 1) := by decide +kernel
theorem dX12_isWord_29 : decode cX12_isWord 29 = .ok (.aload_n 1, 1) := by decide +kernel
theorem dX12_isWord_30 : decode cX12_isWord 30 = .ok (.invokevirtual 115, 3) := by decide +kernel
theorem dX12_isWord_33 : decode cX12_isWord 33 = .ok (.if_icmp .ge 34, 3) := by decide +kernel
theorem dX12_isWord_36 : decode cX12_isWord 36 = .ok (.aload_n 0, 1) := by decide +kernel
theorem dX12_isWord_37 : decode cX12_isWord 37 = .ok (.getfield 29, 3) := by decide +kernel
theorem dX12_isWord_40 : decode cX12_isWord 40 = .ok (.aload_n 0, 1) := by decide +kernel
theorem dX12_isWord_41 : decode cX12_isWord 41 = .ok (.getfield 109, 3) := by decide +kernel
theorem dX12_isWord_44 : decode cX12_isWord 44 = .ok (.iload_n 3, 1) := by decide +kernel
theorem dX12_isWord_45 : decode cX12_isWord 45 = .ok (.iadd, 1) := by decide +kernel
theorem dX12_isWord_46 : decode cX12_isWord 46 = .ok (.baload, 1) := by decide +kernel
theorem dX12_isWord_47 : decode cX12_isWord 47 = .ok (.aload_n 1, 1) := by decide +kernel
theorem dX12_isWord_48 : decode cX12_isWord 48 = .ok (.iload_n 3, 1) := by decide +kernel
theorem dX12_isWord_49 : decode cX12_isWord 49 = .ok (.invokevirtual 120, 3) := by decide +kernel
theorem dX12_isWord_52 : decode cX12_isWord 52 = .ok (.if_icmp .ne 7, 3) := by decide +kernel
theorem dX12_isWord_55 : decode cX12_isWord 55 = .ok (.iconst 1, 1) := by decide +kernel
theorem dX12_isWord_56 : decode cX12_isWord 56 = .ok (.goto 4, 3) := by decide +kernel
theorem dX12_isWord_59 : decode cX12_isWord 59 = .ok (.iconst 0, 1) := by decide +kernel
theorem dX12_isWord_60 : decode cX12_isWord 60 = .ok (.istore_n 2, 1) := by decide +kernel
theorem dX12_isWord_61 : decode cX12_isWord 61 = .ok (.iinc 3 1, 3) := by decide +kernel
theorem dX12_isWord_64 : decode cX12_isWord 64 = .ok (.goto (-40), 3) := by decide +kernel
theorem dX12_isWord_67 : decode cX12_isWord 67 = .ok (.iload_n 2, 1) := by decide +kernel
theorem dX12_isWord_68 : decode cX12_isWord 68 = .ok (.ireturn, 1) := by decide +kernel
theorem dX12_passes_0 : decode cX12_passes 0 = .ok (.aload_n 0, 1) := by decide +kernel
theorem dX12_passes_1 : decode cX12_passes 1 = .ok (.invokevirtual 124, 3) := by decide +kernel
theorem dX12_passes_4 : decode cX12_passes 4 = .ok (.aload_n 0, 1) := by decide +kernel
theorem dX12_passes_5 : decode cX12_passes 5 = .ok (.aload_n 1, 1) := by decide +kernel
theorem dX12_passes_6 : decode cX12_passes 6 = .ok (.invokevirtual 127, 3) := by decide +kernel
theorem dX12_passes_9 : decode cX12_passes 9 = .ok (.ifCond .eq 5, 3) := by decide +kernel
theorem dX12_passes_12 : decode cX12_passes 12 = .ok (.iconst 1, 1) := by decide +kernel
theorem dX12_passes_13 : decode cX12_passes 13 = .ok (.ireturn, 1) := by decide +kernel
theorem dX12_passes_14 : decode cX12_passes 14 = .ok (.aload_n 0, 1) := by decide +kernel
theorem dX12_passes_15 : decode cX12_passes 15 = .ok (.aload_n 0, 1) := by decide +kernel
theorem dX12_passes_16 : decode cX12_passes 16 = .ok (.getfield 109, 3) := by decide +kernel
theorem dX12_passes_19 : decode cX12_passes 19 = .ok (.putfield 100, 3) := by decide +kernel
theorem dX12_passes_22 : decode cX12_passes 22 = .ok (.iconst 0, 1) := by decide +kernel
theorem dX12_passes_23 : decode cX12_passes 23 = .ok (.ireturn, 1) := by decide +kernel
theorem dX12_sign_0 : decode cX12_sign 0 = .ok (.aload_n 0, 1) := by decide +kernel
theorem dX12_sign_1 : decode cX12_sign 1 = .ok (.invokevirtual 112, 3) := by decide +kernel
theorem dX12_sign_4 : decode cX12_sign 4 = .ok (.aload_n 0, 1) := by decide +kernel
theorem dX12_sign_5 : decode cX12_sign 5 = .ok (.iload_n 1, 1) := by decide +kernel
theorem dX12_sign_6 : decode cX12_sign 6 = .ok (.iload_n 1, 1) := by decide +kernel
theorem dX12_sign_7 : decode cX12_sign 7 = .ok (.invokevirtual 106, 3) := by decide +kernel
theorem dX12_sign_10 : decode cX12_sign 10 = .ok (.ifCond .ne 5, 3) := by decide +kernel
theorem dX12_sign_13 : decode cX12_sign 13 = .ok (.iconst 0, 1) := by decide +kernel
theorem dX12_sign_14 : decode cX12_sign 14 = .ok (.ireturn, 1) := by decide +kernel
theorem dX12_sign_15 : decode cX12_sign 15 = .ok (.aload_n 0, 1) := by decide +kernel
theorem dX12_sign_16 : decode cX12_sign 16 = .ok (.dup, 1) := by decide +kernel
theorem dX12_sign_17 : decode cX12_sign 17 = .ok (.getfield 100, 3) := by decide +kernel
theorem dX12_sign_20 : decode cX12_sign 20 = .ok (.iconst 1, 1) := by decide +kernel
theorem dX12_sign_21 : decode cX12_sign 21 = .ok (.iadd, 1) := by decide +kernel
theorem dX12_sign_22 : decode cX12_sign 22 = .ok (.putfield 100, 3) := by decide +kernel
theorem dX12_sign_25 : decode cX12_sign 25 = .ok (.iconst 1, 1) := by decide +kernel
theorem dX12_sign_26 : decode cX12_sign 26 = .ok (.ireturn, 1) := by decide +kernel
theorem dX12_number_0 : decode cX12_number 0 = .ok (.aload_n 0, 1) := by decide +kernel
theorem dX12_number_1 : decode cX12_number 1 = .ok (.invokevirtual 112, 3) := by decide +kernel
theorem dX12_number_4 : decode cX12_number 4 = .ok (.iconst 0, 1) := by decide +kernel
theorem dX12_number_5 : decode cX12_number 5 = .ok (.istore_n 3, 1) := by decide +kernel
theorem dX12_number_6 : decode cX12_number 6 = .ok (.aload_n 0, 1) := by decide +kernel
theorem dX12_number_7 : decode cX12_number 7 = .ok (.bipush 48, 2) := by decide +kernel
theorem dX12_number_9 : decode cX12_number 9 = .ok (.bipush 57, 2) := by decide +kernel
theorem dX12_number_11 : decode cX12_number 11 = .ok (.invokevirtual 106, 3) := by decide +kernel
theorem dX12_number_14 : decode cX12_number 14 = .ok (.ifCond .eq 51, 3) := by decide +kernel
theorem dX12_number_17 : decode cX12_number 17 = .ok (.aload_n 0, 1) := by decide +kernel
theorem dX12_number_18 : decode cX12_number 18 = .ok (.getfield 100, 3) := by decide +kernel
theorem dX12_number_21 : decode cX12_number 21 = .ok (.aload_n 0, 1) := by decide +kernel
theorem dX12_number_22 : decode cX12_number 22 = .ok (.getfield 109, 3) := by decide +kernel
theorem dX12_number_25 : decode cX12_number 25 = .ok (.isub, 1) := by decide +kernel
theorem dX12_number_26 : decode cX12_number 26 = .ok (.iconst 3, 1) := by decide +kernel
theorem dX12_number_27 : decode cX12_number 27 = .ok (.if_icmp .ge 23, 3) := by decide +kernel
theorem dX12_number_30 : decode cX12_number 30 = .ok (.bipush 10, 2) := by decide +kernel
theorem dX12_number_32 : decode cX12_number 32 = .ok (.iload_n 3, 1) := by decide +kernel
theorem dX12_number_33 : decode cX12_number 33 = .ok (.imul, 1) := by decide +kernel
theorem dX12_number_34 : decode cX12_number 34 = .ok (.aload_n 0, 1) := by decide +kernel
theorem dX12_number_35 : decode cX12_number 35 = .ok (.getfield 29, 3) := by decide +kernel
theorem dX12_number_38 : decode cX12_number 38 = .ok (.aload_n 0, 1) := by decide +kernel
theorem dX12_number_39 : decode cX12_number 39 = .ok (.getfield 100, 3) := by decide +kernel
theorem dX12_number_42 : decode cX12_number 42 = .ok (.baload, 1) := by decide +kernel
theorem dX12_number_43 : decode cX12_number 43 = .ok (.iadd, 1) := by decide +kernel
theorem dX12_number_44 : decode cX12_number 44 = .ok (.bipush 48, 2) := by decide +kernel
theorem dX12_number_46 : decode cX12_number 46 = .ok (.isub, 1) := by decide +kernel
theorem dX12_number_47 : decode cX12_number 47 = .ok (.goto 4, 3) := by decide +kernel
theorem dX12_number_50 : decode cX12_number 50 = .ok (.iload_n 3, 1) := by decide +kernel
theorem dX12_number_51 : decode cX12_number 51 = .ok (.istore_n 3, 1) := by decide +kernel
theorem dX12_number_52 : decode cX12_number 52 = .ok (.aload_n 0, 1) := by decide +kernel
theorem dX12_number_53 : decode cX12_number 53 = .ok (.dup, 1) := by decide +kernel
theorem dX12_number_54 : decode cX12_number 54 = .ok (.getfield 100, 3) := by decide +kernel
theorem dX12_number_57 : decode cX12_number 57 = .ok (.iconst 1, 1) := by decide +kernel
theorem dX12_number_58 : decode cX12_number 58 = .ok (.iadd, 1) := by decide +kernel
theorem dX12_number_59 : decode cX12_number 59 = .ok (.putfield 100, 3) := by decide +kernel
theorem dX12_number_62 : decode cX12_number 62 = .ok (.goto (-56), 3) := by decide +kernel
theorem dX12_number_65 : decode cX12_number 65 = .ok (.aload_n 0, 1) := by decide +kernel
theorem dX12_number_66 : decode cX12_number 66 = .ok (.getfield 100, 3) := by decide +kernel
theorem dX12_number_69 : decode cX12_number 69 = .ok (.aload_n 0, 1) := by decide +kernel
theorem dX12_number_70 : decode cX12_number 70 = .ok (.getfield 109, 3) := by decide +kernel
theorem dX12_number_73 : decode cX12_number 73 = .ok (.if_icmp .eq 26, 3) := by decide +kernel
theorem dX12_number_76 : decode cX12_number 76 = .ok (.aload_n 0, 1) := by decide +kernel
theorem dX12_number_77 : decode cX12_number 77 = .ok (.getfield 100, 3) := by decide +kernel
theorem dX12_number_80 : decode cX12_number 80 = .ok (.aload_n 0, 1) := by decide +kernel
theorem dX12_number_81 : decode cX12_number 81 = .ok (.getfield 109, 3) := by decide +kernel
theorem dX12_number_84 : decode cX12_number 84 = .ok (.isub, 1) := by decide +kernel
theorem dX12_number_85 : decode cX12_number 85 = .ok (.iconst 3, 1) := by decide +kernel
theorem dX12_number_86 : decode cX12_number 86 = .ok (.if_icmp .gt 13, 3) := by decide +kernel
theorem dX12_number_89 : decode cX12_number 89 = .ok (.iload_n 3, 1) := by decide +kernel
theorem dX12_number_90 : decode cX12_number 90 = .ok (.iload_n 1, 1) := by decide +kernel
theorem dX12_number_91 : decode cX12_number 91 = .ok (.if_icmp .lt 8, 3) := by decide +kernel
theorem dX12_number_94 : decode cX12_number 94 = .ok (.iload_n 3, 1) := by decide +kernel
theorem dX12_number_95 : decode cX12_number 95 = .ok (.iload_n 2, 1) := by decide +kernel
theorem dX12_number_96 : decode cX12_number 96 = .ok (.if_icmp .le 7, 3) := by decide +kernel
theorem dX12_number_99 : decode cX12_number 99 = .ok (.iconst (-1), 1) := by decide +kernel
theorem dX12_number_100 : decode cX12_number 100 = .ok (.goto 4, 3) := by decide +kernel
theorem dX12_number_103 : decode cX12_number 103 = .ok (.iload_n 3, 1) := by decide +kernel
theorem dX12_number_104 : decode cX12_number 104 = .ok (.ireturn, 1) := by decide +kernel
theorem dX12_after_0 : decode cX12_after 0 = .ok (.aload_n 0, 1) := by decide +kernel
theorem dX12_after_1 : decode cX12_after 1 = .ok (.invokevirtual 124, 3) := by decide +kernel
theorem dX12_after_4 : decode cX12_after 4 = .ok (.aload_n 0, 1) := by decide +kernel
theorem dX12_after_5 : decode cX12_after 5 = .ok (.aload_n 1, 1) := by decide +kernel
theorem dX12_after_6 : decode cX12_after 6 = .ok (.invokevirtual 127, 3) := by decide +kernel
theorem dX12_after_9 : decode cX12_after 9 = .ok (.ifCond .eq 12, 3) := by decide +kernel
theorem dX12_after_12 : decode cX12_after 12 = .ok (.aload_n 0, 1) := by decide +kernel
theorem dX12_after_13 : decode cX12_after 13 = .ok (.iload_n 2, 1) := by decide +kernel
theorem dX12_after_14 : decode cX12_after 14 = .ok (.iload_n 3, 1) := by decide +kernel
theorem dX12_after_15 : decode cX12_after 15 = .ok (.invokevirtual 131, 3) := by decide +kernel
theorem dX12_after_18 : decode cX12_after 18 = .ok (.goto 4, 3) := by decide +kernel
theorem dX12_after_21 : decode cX12_after 21 = .ok (.iconst (-1), 1) := by decide +kernel
theorem dX12_after_22 : decode cX12_after 22 = .ok (.ireturn, 1) := by decide +kernel
theorem dX12_fault_0 : decode cX12_fault 0 = .ok (.aload_n 0, 1) := by decide +kernel
theorem dX12_fault_1 : decode cX12_fault 1 = .ok (.iconst 0, 1) := by decide +kernel
theorem dX12_fault_2 : decode cX12_fault 2 = .ok (.putfield 3, 3) := by decide +kernel
theorem dX12_fault_5 : decode cX12_fault 5 = .ok (.aload_n 0, 1) := by decide +kernel
theorem dX12_fault_6 : decode cX12_fault 6 = .ok (.getfield 33, 3) := by decide +kernel
theorem dX12_fault_9 : decode cX12_fault 9 = .ok (.ireturn, 1) := by decide +kernel
theorem dX12_uses_0 : decode cX12_uses 0 = .ok (.aload_n 0, 1) := by decide +kernel
theorem dX12_uses_1 : decode cX12_uses 1 = .ok (.iconst 0, 1) := by decide +kernel
theorem dX12_uses_2 : decode cX12_uses 2 = .ok (.putfield 3, 3) := by decide +kernel
theorem dX12_uses_5 : decode cX12_uses 5 = .ok (.aload_n 0, 1) := by decide +kernel
theorem dX12_uses_6 : decode cX12_uses 6 = .ok (.aload_n 0, 1) := by decide +kernel
theorem dX12_uses_7 : decode cX12_uses 7 = .ok (.getfield 97, 3) := by decide +kernel
theorem dX12_uses_10 : decode cX12_uses 10 = .ok (.putfield 103, 3) := by decide +kernel
theorem dX12_uses_13 : decode cX12_uses 13 = .ok (.aload_n 0, 1) := by decide +kernel
theorem dX12_uses_14 : decode cX12_uses 14 = .ok (.iconst 0, 1) := by decide +kernel
theorem dX12_uses_15 : decode cX12_uses 15 = .ok (.putfield 97, 3) := by decide +kernel
theorem dX12_uses_18 : decode cX12_uses 18 = .ok (.aload_n 0, 1) := by decide +kernel
theorem dX12_uses_19 : decode cX12_uses 19 = .ok (.iconst 0, 1) := by decide +kernel
theorem dX12_uses_20 : decode cX12_uses 20 = .ok (.putfield 100, 3) := by decide +kernel
theorem dX12_uses_23 : decode cX12_uses 23 = .ok (.return_, 1) := by decide +kernel
theorem dX12_readNumber_0 : decode cX12_readNumber 0 = .ok (.aload_n 0, 1) := by decide +kernel
theorem dX12_readNumber_1 : decode cX12_readNumber 1 = .ok (.iload_n 2, 1) := by decide +kernel
theorem dX12_readNumber_2 : decode cX12_readNumber 2 = .ok (.iload_n 3, 1) := by decide +kernel
theorem dX12_readNumber_3 : decode cX12_readNumber 3 = .ok (.invokevirtual 131, 3) := by decide +kernel
theorem dX12_readNumber_6 : decode cX12_readNumber 6 = .ok (.istore 4, 2) := by decide +kernel
theorem dX12_readNumber_8 : decode cX12_readNumber 8 = .ok (.aload_n 0, 1) := by decide +kernel
theorem dX12_readNumber_9 : decode cX12_readNumber 9 = .ok (.getfield 13, 3) := by decide +kernel
theorem dX12_readNumber_12 : decode cX12_readNumber 12 = .ok (.iload_n 1, 1) := by decide +kernel
theorem dX12_readNumber_13 : decode cX12_readNumber 13 = .ok (.iload 4, 2) := by decide +kernel
theorem dX12_readNumber_15 : decode cX12_readNumber 15 = .ok (.ifCond .ge 12, 3) := by decide +kernel
theorem dX12_readNumber_18 : decode cX12_readNumber 18 = .ok (.aload_n 0, 1) := by decide +kernel
theorem dX12_readNumber_19 : decode cX12_readNumber 19 = .ok (.getfield 13, 3) := by decide +kernel
theorem dX12_readNumber_22 : decode cX12_readNumber 22 = .ok (.iload_n 1, 1) := by decide +kernel
theorem dX12_readNumber_23 : decode cX12_readNumber 23 = .ok (.iaload, 1) := by decide +kernel
theorem dX12_readNumber_24 : decode cX12_readNumber 24 = .ok (.goto 5, 3) := by decide +kernel
theorem dX12_readNumber_27 : decode cX12_readNumber 27 = .ok (.iload 4, 2) := by decide +kernel
theorem dX12_readNumber_29 : decode cX12_readNumber 29 = .ok (.iastore, 1) := by decide +kernel
theorem dX12_readNumber_30 : decode cX12_readNumber 30 = .ok (.iload 4, 2) := by decide +kernel
theorem dX12_readNumber_32 : decode cX12_readNumber 32 = .ok (.ifCond .lt 7, 3) := by decide +kernel
theorem dX12_readNumber_35 : decode cX12_readNumber 35 = .ok (.iconst 1, 1) := by decide +kernel
theorem dX12_readNumber_36 : decode cX12_readNumber 36 = .ok (.goto 4, 3) := by decide +kernel
theorem dX12_readNumber_39 : decode cX12_readNumber 39 = .ok (.iconst 0, 1) := by decide +kernel
theorem dX12_readNumber_40 : decode cX12_readNumber 40 = .ok (.ireturn, 1) := by decide +kernel
theorem dX12_told_0 : decode cX12_told 0 = .ok (.aload_n 0, 1) := by decide +kernel
theorem dX12_told_1 : decode cX12_told 1 = .ok (.aload_n 1, 1) := by decide +kernel
theorem dX12_told_2 : decode cX12_told 2 = .ok (.invokevirtual 134, 3) := by decide +kernel
theorem dX12_told_5 : decode cX12_told 5 = .ok (.ifCond .ne 6, 3) := by decide +kernel
theorem dX12_told_8 : decode cX12_told 8 = .ok (.iload 4, 2) := by decide +kernel
theorem dX12_told_10 : decode cX12_told 10 = .ok (.ireturn, 1) := by decide +kernel
theorem dX12_told_11 : decode cX12_told 11 = .ok (.aload_n 0, 1) := by decide +kernel
theorem dX12_told_12 : decode cX12_told 12 = .ok (.iload_n 2, 1) := by decide +kernel
theorem dX12_told_13 : decode cX12_told 13 = .ok (.iload_n 3, 1) := by decide +kernel
theorem dX12_told_14 : decode cX12_told 14 = .ok (.invokevirtual 131, 3) := by decide +kernel
theorem dX12_told_17 : decode cX12_told 17 = .ok (.istore 5, 2) := by decide +kernel
theorem dX12_told_19 : decode cX12_told 19 = .ok (.iload 5, 2) := by decide +kernel
theorem dX12_told_21 : decode cX12_told 21 = .ok (.ifCond .ge 8, 3) := by decide +kernel
theorem dX12_told_24 : decode cX12_told 24 = .ok (.ldc 137, 2) := by decide +kernel
theorem dX12_told_26 : decode cX12_told 26 = .ok (.goto 5, 3) := by decide +kernel
theorem dX12_told_29 : decode cX12_told 29 = .ok (.iload 5, 2) := by decide +kernel
theorem dX12_told_31 : decode cX12_told 31 = .ok (.ireturn, 1) := by decide +kernel
theorem dX12_isBorn_0 : decode cX12_isBorn 0 = .ok (.iconst 0, 1) := by decide +kernel
theorem dX12_isBorn_1 : decode cX12_isBorn 1 = .ok (.istore 5, 2) := by decide +kernel
theorem dX12_isBorn_3 : decode cX12_isBorn 3 = .ok (.iload 5, 2) := by decide +kernel
theorem dX12_isBorn_5 : decode cX12_isBorn 5 = .ok (.bipush 17, 2) := by decide +kernel
theorem dX12_isBorn_7 : decode cX12_isBorn 7 = .ok (.if_icmp .ge 21, 3) := by decide +kernel
theorem dX12_isBorn_10 : decode cX12_isBorn 10 = .ok (.aload_n 0, 1) := by decide +kernel
theorem dX12_isBorn_11 : decode cX12_isBorn 11 = .ok (.getfield 13, 3) := by decide +kernel
theorem dX12_isBorn_14 : decode cX12_isBorn 14 = .ok (.iload_n 1, 1) := by decide +kernel
theorem dX12_isBorn_15 : decode cX12_isBorn 15 = .ok (.iload 5, 2) := by decide +kernel
theorem dX12_isBorn_17 : decode cX12_isBorn 17 = .ok (.invokestatic 74, 3) := by decide +kernel
theorem dX12_isBorn_20 : decode cX12_isBorn 20 = .ok (.iconst 0, 1) := by decide +kernel
theorem dX12_isBorn_21 : decode cX12_isBorn 21 = .ok (.iastore, 1) := by decide +kernel
theorem dX12_isBorn_22 : decode cX12_isBorn 22 = .ok (.iinc 5 1, 3) := by decide +kernel
theorem dX12_isBorn_25 : decode cX12_isBorn 25 = .ok (.goto (-22), 3) := by decide +kernel
theorem dX12_isBorn_28 : decode cX12_isBorn 28 = .ok (.aload_n 0, 1) := by decide +kernel
theorem dX12_isBorn_29 : decode cX12_isBorn 29 = .ok (.getfield 13, 3) := by decide +kernel
theorem dX12_isBorn_32 : decode cX12_isBorn 32 = .ok (.iload_n 1, 1) := by decide +kernel
theorem dX12_isBorn_33 : decode cX12_isBorn 33 = .ok (.iconst 0, 1) := by decide +kernel
theorem dX12_isBorn_34 : decode cX12_isBorn 34 = .ok (.invokestatic 74, 3) := by decide +kernel
theorem dX12_isBorn_37 : decode cX12_isBorn 37 = .ok (.iload_n 3, 1) := by decide +kernel
theorem dX12_isBorn_38 : decode cX12_isBorn 38 = .ok (.iastore, 1) := by decide +kernel
theorem dX12_isBorn_39 : decode cX12_isBorn 39 = .ok (.aload_n 0, 1) := by decide +kernel
theorem dX12_isBorn_40 : decode cX12_isBorn 40 = .ok (.getfield 13, 3) := by decide +kernel
theorem dX12_isBorn_43 : decode cX12_isBorn 43 = .ok (.iload_n 1, 1) := by decide +kernel
theorem dX12_isBorn_44 : decode cX12_isBorn 44 = .ok (.iconst 2, 1) := by decide +kernel
theorem dX12_isBorn_45 : decode cX12_isBorn 45 = .ok (.invokestatic 74, 3) := by decide +kernel
theorem dX12_isBorn_48 : decode cX12_isBorn 48 = .ok (.iload_n 2, 1) := by decide +kernel
theorem dX12_isBorn_49 : decode cX12_isBorn 49 = .ok (.iastore, 1) := by decide +kernel
theorem dX12_isBorn_50 : decode cX12_isBorn 50 = .ok (.aload_n 0, 1) := by decide +kernel
theorem dX12_isBorn_51 : decode cX12_isBorn 51 = .ok (.getfield 13, 3) := by decide +kernel
theorem dX12_isBorn_54 : decode cX12_isBorn 54 = .ok (.iload_n 1, 1) := by decide +kernel
theorem dX12_isBorn_55 : decode cX12_isBorn 55 = .ok (.iconst 3, 1) := by decide +kernel
theorem dX12_isBorn_56 : decode cX12_isBorn 56 = .ok (.invokestatic 74, 3) := by decide +kernel
theorem dX12_isBorn_59 : decode cX12_isBorn 59 = .ok (.iload 4, 2) := by decide +kernel
theorem dX12_isBorn_61 : decode cX12_isBorn 61 = .ok (.iastore, 1) := by decide +kernel
theorem dX12_isBorn_62 : decode cX12_isBorn 62 = .ok (.aload_n 0, 1) := by decide +kernel
theorem dX12_isBorn_63 : decode cX12_isBorn 63 = .ok (.getfield 13, 3) := by decide +kernel
theorem dX12_isBorn_66 : decode cX12_isBorn 66 = .ok (.iload_n 1, 1) := by decide +kernel
theorem dX12_isBorn_67 : decode cX12_isBorn 67 = .ok (.iconst 4, 1) := by decide +kernel
theorem dX12_isBorn_68 : decode cX12_isBorn 68 = .ok (.invokestatic 74, 3) := by decide +kernel
theorem dX12_isBorn_71 : decode cX12_isBorn 71 = .ok (.iconst (-1), 1) := by decide +kernel
theorem dX12_isBorn_72 : decode cX12_isBorn 72 = .ok (.iastore, 1) := by decide +kernel
theorem dX12_isBorn_73 : decode cX12_isBorn 73 = .ok (.aload_n 0, 1) := by decide +kernel
theorem dX12_isBorn_74 : decode cX12_isBorn 74 = .ok (.getfield 13, 3) := by decide +kernel
theorem dX12_isBorn_77 : decode cX12_isBorn 77 = .ok (.iload_n 1, 1) := by decide +kernel
theorem dX12_isBorn_78 : decode cX12_isBorn 78 = .ok (.bipush 6, 2) := by decide +kernel
theorem dX12_isBorn_80 : decode cX12_isBorn 80 = .ok (.invokestatic 74, 3) := by decide +kernel
theorem dX12_isBorn_83 : decode cX12_isBorn 83 = .ok (.bipush 50, 2) := by decide +kernel
theorem dX12_isBorn_85 : decode cX12_isBorn 85 = .ok (.iastore, 1) := by decide +kernel
theorem dX12_isBorn_86 : decode cX12_isBorn 86 = .ok (.aload_n 0, 1) := by decide +kernel
theorem dX12_isBorn_87 : decode cX12_isBorn 87 = .ok (.getfield 13, 3) := by decide +kernel
theorem dX12_isBorn_90 : decode cX12_isBorn 90 = .ok (.iconst 0, 1) := by decide +kernel
theorem dX12_isBorn_91 : decode cX12_isBorn 91 = .ok (.dup2, 1) := by decide +kernel
theorem dX12_isBorn_92 : decode cX12_isBorn 92 = .ok (.iaload, 1) := by decide +kernel
theorem dX12_isBorn_93 : decode cX12_isBorn 93 = .ok (.iconst 1, 1) := by decide +kernel
theorem dX12_isBorn_94 : decode cX12_isBorn 94 = .ok (.iadd, 1) := by decide +kernel
theorem dX12_isBorn_95 : decode cX12_isBorn 95 = .ok (.iastore, 1) := by decide +kernel
theorem dX12_isBorn_96 : decode cX12_isBorn 96 = .ok (.return_, 1) := by decide +kernel
theorem dX12_readPerson_0 : decode cX12_readPerson 0 = .ok (.aload_n 0, 1) := by decide +kernel
theorem dX12_readPerson_1 : decode cX12_readPerson 1 = .ok (.invokevirtual 78, 3) := by decide +kernel
theorem dX12_readPerson_4 : decode cX12_readPerson 4 = .ok (.istore_n 1, 1) := by decide +kernel
theorem dX12_readPerson_5 : decode cX12_readPerson 5 = .ok (.iload_n 1, 1) := by decide +kernel
theorem dX12_readPerson_6 : decode cX12_readPerson 6 = .ok (.bipush 8, 2) := by decide +kernel
theorem dX12_readPerson_8 : decode cX12_readPerson 8 = .ok (.if_icmp .ne 5, 3) := by decide +kernel
theorem dX12_readPerson_11 : decode cX12_readPerson 11 = .ok (.iconst 0, 1) := by decide +kernel
theorem dX12_readPerson_12 : decode cX12_readPerson 12 = .ok (.ireturn, 1) := by decide +kernel
theorem dX12_readPerson_13 : decode cX12_readPerson 13 = .ok (.aload_n 0, 1) := by decide +kernel
theorem dX12_readPerson_14 : decode cX12_readPerson 14 = .ok (.invokevirtual 124, 3) := by decide +kernel
theorem dX12_readPerson_17 : decode cX12_readPerson 17 = .ok (.aload_n 0, 1) := by decide +kernel
theorem dX12_readPerson_18 : decode cX12_readPerson 18 = .ok (.ldc 138, 2) := by decide +kernel
theorem dX12_readPerson_20 : decode cX12_readPerson 20 = .ok (.invokevirtual 127, 3) := by decide +kernel
theorem dX12_readPerson_23 : decode cX12_readPerson 23 = .ok (.ifCond .eq 7, 3) := by decide +kernel
theorem dX12_readPerson_26 : decode cX12_readPerson 26 = .ok (.iconst 0, 1) := by decide +kernel
theorem dX12_readPerson_27 : decode cX12_readPerson 27 = .ok (.goto 17, 3) := by decide +kernel
theorem dX12_readPerson_30 : decode cX12_readPerson 30 = .ok (.aload_n 0, 1) := by decide +kernel
theorem dX12_readPerson_31 : decode cX12_readPerson 31 = .ok (.ldc 140, 2) := by decide +kernel
theorem dX12_readPerson_33 : decode cX12_readPerson 33 = .ok (.invokevirtual 127, 3) := by decide +kernel
theorem dX12_readPerson_36 : decode cX12_readPerson 36 = .ok (.ifCond .eq 7, 3) := by decide +kernel
theorem dX12_readPerson_39 : decode cX12_readPerson 39 = .ok (.iconst 1, 1) := by decide +kernel
theorem dX12_readPerson_40 : decode cX12_readPerson 40 = .ok (.goto 4, 3) := by decide +kernel
theorem dX12_readPerson_43 : decode cX12_readPerson 43 = .ok (.iconst (-1), 1) := by decide +kernel
theorem dX12_readPerson_44 : decode cX12_readPerson 44 = .ok (.istore_n 2, 1) := by decide +kernel
theorem dX12_readPerson_45 : decode cX12_readPerson 45 = .ok (.iload_n 2, 1) := by decide +kernel
theorem dX12_readPerson_46 : decode cX12_readPerson 46 = .ok (.ifCond .ge 7, 3) := by decide +kernel
theorem dX12_readPerson_49 : decode cX12_readPerson 49 = .ok (.iconst (-1), 1) := by decide +kernel
theorem dX12_readPerson_50 : decode cX12_readPerson 50 = .ok (.goto 18, 3) := by decide +kernel
theorem dX12_readPerson_53 : decode cX12_readPerson 53 = .ok (.aload_n 0, 1) := by decide +kernel
theorem dX12_readPerson_54 : decode cX12_readPerson 54 = .ok (.ldc 142, 2) := by decide +kernel
theorem dX12_readPerson_56 : decode cX12_readPerson 56 = .ok (.iconst 0, 1) := by decide +kernel
theorem dX12_readPerson_57 : decode cX12_readPerson 57 = .ok (.aload_n 0, 1) := by decide +kernel
theorem dX12_readPerson_58 : decode cX12_readPerson 58 = .ok (.getfield 13, 3) := by decide +kernel
theorem dX12_readPerson_61 : decode cX12_readPerson 61 = .ok (.iconst 4, 1) := by decide +kernel
theorem dX12_readPerson_62 : decode cX12_readPerson 62 = .ok (.iaload, 1) := by decide +kernel
theorem dX12_readPerson_63 : decode cX12_readPerson 63 = .ok (.iconst 1, 1) := by decide +kernel
theorem dX12_readPerson_64 : decode cX12_readPerson 64 = .ok (.isub, 1) := by decide +kernel
theorem dX12_readPerson_65 : decode cX12_readPerson 65 = .ok (.invokevirtual 144, 3) := by decide +kernel
theorem dX12_readPerson_68 : decode cX12_readPerson 68 = .ok (.istore_n 3, 1) := by decide +kernel
theorem dX12_readPerson_69 : decode cX12_readPerson 69 = .ok (.iload_n 3, 1) := by decide +kernel
theorem dX12_readPerson_70 : decode cX12_readPerson 70 = .ok (.ifCond .ge 5, 3) := by decide +kernel
theorem dX12_readPerson_73 : decode cX12_readPerson 73 = .ok (.iconst 0, 1) := by decide +kernel
theorem dX12_readPerson_74 : decode cX12_readPerson 74 = .ok (.ireturn, 1) := by decide +kernel
theorem dX12_readPerson_75 : decode cX12_readPerson 75 = .ok (.aload_n 0, 1) := by decide +kernel
theorem dX12_readPerson_76 : decode cX12_readPerson 76 = .ok (.ldc 148, 2) := by decide +kernel
theorem dX12_readPerson_78 : decode cX12_readPerson 78 = .ok (.iconst 0, 1) := by decide +kernel
theorem dX12_readPerson_79 : decode cX12_readPerson 79 = .ok (.iload_n 1, 1) := by decide +kernel
theorem dX12_readPerson_80 : decode cX12_readPerson 80 = .ok (.iconst 1, 1) := by decide +kernel
theorem dX12_readPerson_81 : decode cX12_readPerson 81 = .ok (.isub, 1) := by decide +kernel
theorem dX12_readPerson_82 : decode cX12_readPerson 82 = .ok (.iconst (-1), 1) := by decide +kernel
theorem dX12_readPerson_83 : decode cX12_readPerson 83 = .ok (.invokevirtual 149, 3) := by decide +kernel
theorem dX12_readPerson_86 : decode cX12_readPerson 86 = .ok (.istore 4, 2) := by decide +kernel
theorem dX12_readPerson_88 : decode cX12_readPerson 88 = .ok (.iload 4, 2) := by decide +kernel
theorem dX12_readPerson_90 : decode cX12_readPerson 90 = .ok (.ldc 137, 2) := by decide +kernel
theorem dX12_readPerson_92 : decode cX12_readPerson 92 = .ok (.if_icmp .ne 8, 3) := by decide +kernel
theorem dX12_readPerson_95 : decode cX12_readPerson 95 = .ok (.ldc 137, 2) := by decide +kernel
theorem dX12_readPerson_97 : decode cX12_readPerson 97 = .ok (.goto 13, 3) := by decide +kernel
theorem dX12_readPerson_100 : decode cX12_readPerson 100 = .ok (.aload_n 0, 1) := by decide +kernel
theorem dX12_readPerson_101 : decode cX12_readPerson 101 = .ok (.ldc 153, 2) := by decide +kernel
theorem dX12_readPerson_103 : decode cX12_readPerson 103 = .ok (.iconst 0, 1) := by decide +kernel
theorem dX12_readPerson_104 : decode cX12_readPerson 104 = .ok (.bipush 100, 2) := by decide +kernel
theorem dX12_readPerson_106 : decode cX12_readPerson 106 = .ok (.iconst 0, 1) := by decide +kernel
theorem dX12_readPerson_107 : decode cX12_readPerson 107 = .ok (.invokevirtual 149, 3) := by decide +kernel
theorem dX12_readPerson_110 : decode cX12_readPerson 110 = .ok (.istore 5, 2) := by decide +kernel
theorem dX12_readPerson_112 : decode cX12_readPerson 112 = .ok (.iload 5, 2) := by decide +kernel
theorem dX12_readPerson_114 : decode cX12_readPerson 114 = .ok (.ldc 137, 2) := by decide +kernel
theorem dX12_readPerson_116 : decode cX12_readPerson 116 = .ok (.if_icmp .ne 8, 3) := by decide +kernel
theorem dX12_readPerson_119 : decode cX12_readPerson 119 = .ok (.ldc 137, 2) := by decide +kernel
theorem dX12_readPerson_121 : decode cX12_readPerson 121 = .ok (.goto 14, 3) := by decide +kernel
theorem dX12_readPerson_124 : decode cX12_readPerson 124 = .ok (.aload_n 0, 1) := by decide +kernel
theorem dX12_readPerson_125 : decode cX12_readPerson 125 = .ok (.ldc 155, 2) := by decide +kernel
theorem dX12_readPerson_127 : decode cX12_readPerson 127 = .ok (.iconst 0, 1) := by decide +kernel
theorem dX12_readPerson_128 : decode cX12_readPerson 128 = .ok (.bipush 100, 2) := by decide +kernel
theorem dX12_readPerson_130 : decode cX12_readPerson 130 = .ok (.bipush 50, 2) := by decide +kernel
theorem dX12_readPerson_132 : decode cX12_readPerson 132 = .ok (.invokevirtual 149, 3) := by decide +kernel
theorem dX12_readPerson_135 : decode cX12_readPerson 135 = .ok (.istore 6, 2) := by decide +kernel
theorem dX12_readPerson_137 : decode cX12_readPerson 137 = .ok (.iload 6, 2) := by decide +kernel
theorem dX12_readPerson_139 : decode cX12_readPerson 139 = .ok (.ldc 137, 2) := by decide +kernel
theorem dX12_readPerson_141 : decode cX12_readPerson 141 = .ok (.if_icmp .ne 8, 3) := by decide +kernel
theorem dX12_readPerson_144 : decode cX12_readPerson 144 = .ok (.ldc 137, 2) := by decide +kernel
theorem dX12_readPerson_146 : decode cX12_readPerson 146 = .ok (.goto 13, 3) := by decide +kernel
theorem dX12_readPerson_149 : decode cX12_readPerson 149 = .ok (.aload_n 0, 1) := by decide +kernel
theorem dX12_readPerson_150 : decode cX12_readPerson 150 = .ok (.ldc 157, 2) := by decide +kernel
theorem dX12_readPerson_152 : decode cX12_readPerson 152 = .ok (.iconst 0, 1) := by decide +kernel
theorem dX12_readPerson_153 : decode cX12_readPerson 153 = .ok (.bipush 9, 2) := by decide +kernel
theorem dX12_readPerson_155 : decode cX12_readPerson 155 = .ok (.iconst 0, 1) := by decide +kernel
theorem dX12_readPerson_156 : decode cX12_readPerson 156 = .ok (.invokevirtual 149, 3) := by decide +kernel
theorem dX12_readPerson_159 : decode cX12_readPerson 159 = .ok (.istore 7, 2) := by decide +kernel
theorem dX12_readPerson_161 : decode cX12_readPerson 161 = .ok (.iload 7, 2) := by decide +kernel
theorem dX12_readPerson_163 : decode cX12_readPerson 163 = .ok (.ldc 137, 2) := by decide +kernel
theorem dX12_readPerson_165 : decode cX12_readPerson 165 = .ok (.if_icmp .ne 5, 3) := by decide +kernel
theorem dX12_readPerson_168 : decode cX12_readPerson 168 = .ok (.iconst 0, 1) := by decide +kernel
theorem dX12_readPerson_169 : decode cX12_readPerson 169 = .ok (.ireturn, 1) := by decide +kernel
theorem dX12_readPerson_170 : decode cX12_readPerson 170 = .ok (.aload_n 0, 1) := by decide +kernel
theorem dX12_readPerson_171 : decode cX12_readPerson 171 = .ok (.iload_n 1, 1) := by decide +kernel
theorem dX12_readPerson_172 : decode cX12_readPerson 172 = .ok (.iload_n 2, 1) := by decide +kernel
theorem dX12_readPerson_173 : decode cX12_readPerson 173 = .ok (.iload_n 3, 1) := by decide +kernel
theorem dX12_readPerson_174 : decode cX12_readPerson 174 = .ok (.iload 4, 2) := by decide +kernel
theorem dX12_readPerson_176 : decode cX12_readPerson 176 = .ok (.invokevirtual 159, 3) := by decide +kernel
theorem dX12_readPerson_179 : decode cX12_readPerson 179 = .ok (.aload_n 0, 1) := by decide +kernel
theorem dX12_readPerson_180 : decode cX12_readPerson 180 = .ok (.getfield 13, 3) := by decide +kernel
theorem dX12_readPerson_183 : decode cX12_readPerson 183 = .ok (.iload_n 1, 1) := by decide +kernel
theorem dX12_readPerson_184 : decode cX12_readPerson 184 = .ok (.iconst 5, 1) := by decide +kernel
theorem dX12_readPerson_185 : decode cX12_readPerson 185 = .ok (.invokestatic 74, 3) := by decide +kernel
theorem dX12_readPerson_188 : decode cX12_readPerson 188 = .ok (.iload 5, 2) := by decide +kernel
theorem dX12_readPerson_190 : decode cX12_readPerson 190 = .ok (.iastore, 1) := by decide +kernel
theorem dX12_readPerson_191 : decode cX12_readPerson 191 = .ok (.aload_n 0, 1) := by decide +kernel
theorem dX12_readPerson_192 : decode cX12_readPerson 192 = .ok (.getfield 13, 3) := by decide +kernel
theorem dX12_readPerson_195 : decode cX12_readPerson 195 = .ok (.iload_n 1, 1) := by decide +kernel
theorem dX12_readPerson_196 : decode cX12_readPerson 196 = .ok (.bipush 6, 2) := by decide +kernel
theorem dX12_readPerson_198 : decode cX12_readPerson 198 = .ok (.invokestatic 74, 3) := by decide +kernel
theorem dX12_readPerson_201 : decode cX12_readPerson 201 = .ok (.iload 6, 2) := by decide +kernel
theorem dX12_readPerson_203 : decode cX12_readPerson 203 = .ok (.iastore, 1) := by decide +kernel
theorem dX12_readPerson_204 : decode cX12_readPerson 204 = .ok (.aload_n 0, 1) := by decide +kernel
theorem dX12_readPerson_205 : decode cX12_readPerson 205 = .ok (.getfield 13, 3) := by decide +kernel
theorem dX12_readPerson_208 : decode cX12_readPerson 208 = .ok (.iload_n 1, 1) := by decide +kernel
theorem dX12_readPerson_209 : decode cX12_readPerson 209 = .ok (.bipush 7, 2) := by decide +kernel
theorem dX12_readPerson_211 : decode cX12_readPerson 211 = .ok (.invokestatic 74, 3) := by decide +kernel
theorem dX12_readPerson_214 : decode cX12_readPerson 214 = .ok (.iload 7, 2) := by decide +kernel
theorem dX12_readPerson_216 : decode cX12_readPerson 216 = .ok (.iastore, 1) := by decide +kernel
theorem dX12_readPerson_217 : decode cX12_readPerson 217 = .ok (.iconst 1, 1) := by decide +kernel
theorem dX12_readPerson_218 : decode cX12_readPerson 218 = .ok (.ireturn, 1) := by decide +kernel
theorem dX12_personTold_0 : decode cX12_personTold 0 = .ok (.aload_n 0, 1) := by decide +kernel
theorem dX12_personTold_1 : decode cX12_personTold 1 = .ok (.iconst 0, 1) := by decide +kernel
theorem dX12_personTold_2 : decode cX12_personTold 2 = .ok (.aload_n 0, 1) := by decide +kernel
theorem dX12_personTold_3 : decode cX12_personTold 3 = .ok (.invokevirtual 78, 3) := by decide +kernel
theorem dX12_personTold_6 : decode cX12_personTold 6 = .ok (.iconst 1, 1) := by decide +kernel
theorem dX12_personTold_7 : decode cX12_personTold 7 = .ok (.isub, 1) := by decide +kernel
theorem dX12_personTold_8 : decode cX12_personTold 8 = .ok (.invokevirtual 131, 3) := by decide +kernel
theorem dX12_personTold_11 : decode cX12_personTold 11 = .ok (.ireturn, 1) := by decide +kernel
theorem dX12_readGoverns_0 : decode cX12_readGoverns 0 = .ok (.aload_n 0, 1) := by decide +kernel
theorem dX12_readGoverns_1 : decode cX12_readGoverns 1 = .ok (.invokevirtual 163, 3) := by decide +kernel
theorem dX12_readGoverns_4 : decode cX12_readGoverns 4 = .ok (.istore_n 1, 1) := by decide +kernel
theorem dX12_readGoverns_5 : decode cX12_readGoverns 5 = .ok (.iload_n 1, 1) := by decide +kernel
theorem dX12_readGoverns_6 : decode cX12_readGoverns 6 = .ok (.ifCond .ge 7, 3) := by decide +kernel
theorem dX12_readGoverns_9 : decode cX12_readGoverns 9 = .ok (.iconst (-1), 1) := by decide +kernel
theorem dX12_readGoverns_10 : decode cX12_readGoverns 10 = .ok (.goto 7, 3) := by decide +kernel
theorem dX12_readGoverns_13 : decode cX12_readGoverns 13 = .ok (.aload_n 0, 1) := by decide +kernel
theorem dX12_readGoverns_14 : decode cX12_readGoverns 14 = .ok (.invokevirtual 163, 3) := by decide +kernel
theorem dX12_readGoverns_17 : decode cX12_readGoverns 17 = .ok (.istore_n 2, 1) := by decide +kernel
theorem dX12_readGoverns_18 : decode cX12_readGoverns 18 = .ok (.iload_n 2, 1) := by decide +kernel
theorem dX12_readGoverns_19 : decode cX12_readGoverns 19 = .ok (.ifCond .lt 8, 3) := by decide +kernel
theorem dX12_readGoverns_22 : decode cX12_readGoverns 22 = .ok (.iload_n 2, 1) := by decide +kernel
theorem dX12_readGoverns_23 : decode cX12_readGoverns 23 = .ok (.iload_n 1, 1) := by decide +kernel
theorem dX12_readGoverns_24 : decode cX12_readGoverns 24 = .ok (.if_icmp .ne 5, 3) := by decide +kernel
theorem dX12_readGoverns_27 : decode cX12_readGoverns 27 = .ok (.iconst 0, 1) := by decide +kernel
theorem dX12_readGoverns_28 : decode cX12_readGoverns 28 = .ok (.ireturn, 1) := by decide +kernel
theorem dX12_readGoverns_29 : decode cX12_readGoverns 29 = .ok (.aload_n 0, 1) := by decide +kernel
theorem dX12_readGoverns_30 : decode cX12_readGoverns 30 = .ok (.getfield 13, 3) := by decide +kernel
theorem dX12_readGoverns_33 : decode cX12_readGoverns 33 = .ok (.iload_n 2, 1) := by decide +kernel
theorem dX12_readGoverns_34 : decode cX12_readGoverns 34 = .ok (.bipush 8, 2) := by decide +kernel
theorem dX12_readGoverns_36 : decode cX12_readGoverns 36 = .ok (.invokestatic 74, 3) := by decide +kernel
theorem dX12_readGoverns_39 : decode cX12_readGoverns 39 = .ok (.dup2, 1) := by decide +kernel
theorem dX12_readGoverns_40 : decode cX12_readGoverns 40 = .ok (.iaload, 1) := by decide +kernel
theorem dX12_readGoverns_41 : decode cX12_readGoverns 41 = .ok (.iconst 1, 1) := by decide +kernel
theorem dX12_readGoverns_42 : decode cX12_readGoverns 42 = .ok (.iload_n 1, 1) := by decide +kernel
theorem dX12_readGoverns_43 : decode cX12_readGoverns 43 = .ok (.ishl, 1) := by decide +kernel
theorem dX12_readGoverns_44 : decode cX12_readGoverns 44 = .ok (.ior, 1) := by decide +kernel
theorem dX12_readGoverns_45 : decode cX12_readGoverns 45 = .ok (.iastore, 1) := by decide +kernel
theorem dX12_readGoverns_46 : decode cX12_readGoverns 46 = .ok (.iconst 1, 1) := by decide +kernel
theorem dX12_readGoverns_47 : decode cX12_readGoverns 47 = .ok (.ireturn, 1) := by decide +kernel
theorem dX12_mayWed_0 : decode cX12_mayWed 0 = .ok (.aload_n 0, 1) := by decide +kernel
theorem dX12_mayWed_1 : decode cX12_mayWed 1 = .ok (.iload_n 1, 1) := by decide +kernel
theorem dX12_mayWed_2 : decode cX12_mayWed 2 = .ok (.iconst 2, 1) := by decide +kernel
theorem dX12_mayWed_3 : decode cX12_mayWed 3 = .ok (.invokevirtual 86, 3) := by decide +kernel
theorem dX12_mayWed_6 : decode cX12_mayWed 6 = .ok (.aload_n 0, 1) := by decide +kernel
theorem dX12_mayWed_7 : decode cX12_mayWed 7 = .ok (.iload_n 2, 1) := by decide +kernel
theorem dX12_mayWed_8 : decode cX12_mayWed 8 = .ok (.iconst 2, 1) := by decide +kernel
theorem dX12_mayWed_9 : decode cX12_mayWed 9 = .ok (.invokevirtual 86, 3) := by decide +kernel
theorem dX12_mayWed_12 : decode cX12_mayWed 12 = .ok (.if_icmp .eq 32, 3) := by decide +kernel
theorem dX12_mayWed_15 : decode cX12_mayWed 15 = .ok (.aload_n 0, 1) := by decide +kernel
theorem dX12_mayWed_16 : decode cX12_mayWed 16 = .ok (.iload_n 1, 1) := by decide +kernel
theorem dX12_mayWed_17 : decode cX12_mayWed 17 = .ok (.invokevirtual 166, 3) := by decide +kernel
theorem dX12_mayWed_20 : decode cX12_mayWed 20 = .ok (.ifCond .eq 24, 3) := by decide +kernel
theorem dX12_mayWed_23 : decode cX12_mayWed 23 = .ok (.aload_n 0, 1) := by decide +kernel
theorem dX12_mayWed_24 : decode cX12_mayWed 24 = .ok (.iload_n 2, 1) := by decide +kernel
theorem dX12_mayWed_25 : decode cX12_mayWed 25 = .ok (.invokevirtual 166, 3) := by decide +kernel
theorem dX12_mayWed_28 : decode cX12_mayWed 28 = .ok (.ifCond .eq 16, 3) := by decide +kernel
theorem dX12_mayWed_31 : decode cX12_mayWed 31 = .ok (.aload_n 0, 1) := by decide +kernel
theorem dX12_mayWed_32 : decode cX12_mayWed 32 = .ok (.iload_n 1, 1) := by decide +kernel
theorem dX12_mayWed_33 : decode cX12_mayWed 33 = .ok (.iload_n 2, 1) := by decide +kernel
theorem dX12_mayWed_34 : decode cX12_mayWed 34 = .ok (.invokevirtual 170, 3) := by decide +kernel
theorem dX12_mayWed_37 : decode cX12_mayWed 37 = .ok (.ifCond .ne 7, 3) := by decide +kernel
theorem dX12_mayWed_40 : decode cX12_mayWed 40 = .ok (.iconst 1, 1) := by decide +kernel
theorem dX12_mayWed_41 : decode cX12_mayWed 41 = .ok (.goto 4, 3) := by decide +kernel
theorem dX12_mayWed_44 : decode cX12_mayWed 44 = .ok (.iconst 0, 1) := by decide +kernel
theorem dX12_mayWed_45 : decode cX12_mayWed 45 = .ok (.ireturn, 1) := by decide +kernel
theorem dX12_weds_0 : decode cX12_weds 0 = .ok (.aload_n 0, 1) := by decide +kernel
theorem dX12_weds_1 : decode cX12_weds 1 = .ok (.getfield 13, 3) := by decide +kernel
theorem dX12_weds_4 : decode cX12_weds 4 = .ok (.iload_n 1, 1) := by decide +kernel
theorem dX12_weds_5 : decode cX12_weds 5 = .ok (.iconst 4, 1) := by decide +kernel
theorem dX12_weds_6 : decode cX12_weds 6 = .ok (.invokestatic 74, 3) := by decide +kernel
theorem dX12_weds_9 : decode cX12_weds 9 = .ok (.iload_n 2, 1) := by decide +kernel
theorem dX12_weds_10 : decode cX12_weds 10 = .ok (.iastore, 1) := by decide +kernel
theorem dX12_weds_11 : decode cX12_weds 11 = .ok (.aload_n 0, 1) := by decide +kernel
theorem dX12_weds_12 : decode cX12_weds 12 = .ok (.getfield 13, 3) := by decide +kernel
theorem dX12_weds_15 : decode cX12_weds 15 = .ok (.iload_n 2, 1) := by decide +kernel
theorem dX12_weds_16 : decode cX12_weds 16 = .ok (.iconst 4, 1) := by decide +kernel
theorem dX12_weds_17 : decode cX12_weds 17 = .ok (.invokestatic 74, 3) := by decide +kernel
theorem dX12_weds_20 : decode cX12_weds 20 = .ok (.iload_n 1, 1) := by decide +kernel
theorem dX12_weds_21 : decode cX12_weds 21 = .ok (.iastore, 1) := by decide +kernel
theorem dX12_weds_22 : decode cX12_weds 22 = .ok (.return_, 1) := by decide +kernel
theorem dX12_readWed_0 : decode cX12_readWed 0 = .ok (.aload_n 0, 1) := by decide +kernel
theorem dX12_readWed_1 : decode cX12_readWed 1 = .ok (.invokevirtual 163, 3) := by decide +kernel
theorem dX12_readWed_4 : decode cX12_readWed 4 = .ok (.istore_n 1, 1) := by decide +kernel
theorem dX12_readWed_5 : decode cX12_readWed 5 = .ok (.iload_n 1, 1) := by decide +kernel
theorem dX12_readWed_6 : decode cX12_readWed 6 = .ok (.ifCond .ge 7, 3) := by decide +kernel
theorem dX12_readWed_9 : decode cX12_readWed 9 = .ok (.iconst (-1), 1) := by decide +kernel
theorem dX12_readWed_10 : decode cX12_readWed 10 = .ok (.goto 7, 3) := by decide +kernel
theorem dX12_readWed_13 : decode cX12_readWed 13 = .ok (.aload_n 0, 1) := by decide +kernel
theorem dX12_readWed_14 : decode cX12_readWed 14 = .ok (.invokevirtual 163, 3) := by decide +kernel
theorem dX12_readWed_17 : decode cX12_readWed 17 = .ok (.istore_n 2, 1) := by decide +kernel
theorem dX12_readWed_18 : decode cX12_readWed 18 = .ok (.iload_n 2, 1) := by decide +kernel
theorem dX12_readWed_19 : decode cX12_readWed 19 = .ok (.ifCond .lt 12, 3) := by decide +kernel
theorem dX12_readWed_22 : decode cX12_readWed 22 = .ok (.aload_n 0, 1) := by decide +kernel
theorem dX12_readWed_23 : decode cX12_readWed 23 = .ok (.iload_n 1, 1) := by decide +kernel
theorem dX12_readWed_24 : decode cX12_readWed 24 = .ok (.iload_n 2, 1) := by decide +kernel
theorem dX12_readWed_25 : decode cX12_readWed 25 = .ok (.invokevirtual 173, 3) := by decide +kernel
theorem dX12_readWed_28 : decode cX12_readWed 28 = .ok (.ifCond .ne 5, 3) := by decide +kernel
theorem dX12_readWed_31 : decode cX12_readWed 31 = .ok (.iconst 0, 1) := by decide +kernel
theorem dX12_readWed_32 : decode cX12_readWed 32 = .ok (.ireturn, 1) := by decide +kernel
theorem dX12_readWed_33 : decode cX12_readWed 33 = .ok (.aload_n 0, 1) := by decide +kernel
theorem dX12_readWed_34 : decode cX12_readWed 34 = .ok (.iload_n 1, 1) := by decide +kernel
theorem dX12_readWed_35 : decode cX12_readWed 35 = .ok (.iload_n 2, 1) := by decide +kernel
theorem dX12_readWed_36 : decode cX12_readWed 36 = .ok (.invokevirtual 176, 3) := by decide +kernel
theorem dX12_readWed_39 : decode cX12_readWed 39 = .ok (.iconst 1, 1) := by decide +kernel
theorem dX12_readWed_40 : decode cX12_readWed 40 = .ok (.ireturn, 1) := by decide +kernel
theorem dX12_greatestAge_0 : decode cX12_greatestAge 0 = .ok (.iconst (-1), 1) := by decide +kernel
theorem dX12_greatestAge_1 : decode cX12_greatestAge 1 = .ok (.istore_n 1, 1) := by decide +kernel
theorem dX12_greatestAge_2 : decode cX12_greatestAge 2 = .ok (.iconst 0, 1) := by decide +kernel
theorem dX12_greatestAge_3 : decode cX12_greatestAge 3 = .ok (.istore_n 2, 1) := by decide +kernel
theorem dX12_greatestAge_4 : decode cX12_greatestAge 4 = .ok (.iload_n 2, 1) := by decide +kernel
theorem dX12_greatestAge_5 : decode cX12_greatestAge 5 = .ok (.aload_n 0, 1) := by decide +kernel
theorem dX12_greatestAge_6 : decode cX12_greatestAge 6 = .ok (.invokevirtual 78, 3) := by decide +kernel
theorem dX12_greatestAge_9 : decode cX12_greatestAge 9 = .ok (.if_icmp .ge 20, 3) := by decide +kernel
theorem dX12_greatestAge_12 : decode cX12_greatestAge 12 = .ok (.iload_n 1, 1) := by decide +kernel
theorem dX12_greatestAge_13 : decode cX12_greatestAge 13 = .ok (.aload_n 0, 1) := by decide +kernel
theorem dX12_greatestAge_14 : decode cX12_greatestAge 14 = .ok (.iload_n 2, 1) := by decide +kernel
theorem dX12_greatestAge_15 : decode cX12_greatestAge 15 = .ok (.iconst 0, 1) := by decide +kernel
theorem dX12_greatestAge_16 : decode cX12_greatestAge 16 = .ok (.invokevirtual 86, 3) := by decide +kernel
theorem dX12_greatestAge_19 : decode cX12_greatestAge 19 = .ok (.invokestatic 180, 3) := by decide +kernel
theorem dX12_greatestAge_22 : decode cX12_greatestAge 22 = .ok (.istore_n 1, 1) := by decide +kernel
theorem dX12_greatestAge_23 : decode cX12_greatestAge 23 = .ok (.iinc 2 1, 3) := by decide +kernel
theorem dX12_greatestAge_26 : decode cX12_greatestAge 26 = .ok (.goto (-22), 3) := by decide +kernel
theorem dX12_greatestAge_29 : decode cX12_greatestAge 29 = .ok (.iload_n 1, 1) := by decide +kernel
theorem dX12_greatestAge_30 : decode cX12_greatestAge 30 = .ok (.ireturn, 1) := by decide +kernel
theorem dX12_readFamilyLine_0 : decode cX12_readFamilyLine 0 = .ok (.aload_n 0, 1) := by decide +kernel
theorem dX12_readFamilyLine_1 : decode cX12_readFamilyLine 1 = .ok (.ldc 185, 2) := by decide +kernel
theorem dX12_readFamilyLine_3 : decode cX12_readFamilyLine 3 = .ok (.invokevirtual 127, 3) := by decide +kernel
theorem dX12_readFamilyLine_6 : decode cX12_readFamilyLine 6 = .ok (.ifCond .eq 8, 3) := by decide +kernel
theorem dX12_readFamilyLine_9 : decode cX12_readFamilyLine 9 = .ok (.aload_n 0, 1) := by decide +kernel
theorem dX12_readFamilyLine_10 : decode cX12_readFamilyLine 10 = .ok (.invokevirtual 187, 3) := by decide +kernel
theorem dX12_readFamilyLine_13 : decode cX12_readFamilyLine 13 = .ok (.ireturn, 1) := by decide +kernel
theorem dX12_readFamilyLine_14 : decode cX12_readFamilyLine 14 = .ok (.aload_n 0, 1) := by decide +kernel
theorem dX12_readFamilyLine_15 : decode cX12_readFamilyLine 15 = .ok (.ldc 191, 2) := by decide +kernel
theorem dX12_readFamilyLine_17 : decode cX12_readFamilyLine 17 = .ok (.invokevirtual 127, 3) := by decide +kernel
theorem dX12_readFamilyLine_20 : decode cX12_readFamilyLine 20 = .ok (.ifCond .eq 8, 3) := by decide +kernel
theorem dX12_readFamilyLine_23 : decode cX12_readFamilyLine 23 = .ok (.aload_n 0, 1) := by decide +kernel
theorem dX12_readFamilyLine_24 : decode cX12_readFamilyLine 24 = .ok (.invokevirtual 193, 3) := by decide +kernel
theorem dX12_readFamilyLine_27 : decode cX12_readFamilyLine 27 = .ok (.ireturn, 1) := by decide +kernel
theorem dX12_readFamilyLine_28 : decode cX12_readFamilyLine 28 = .ok (.aload_n 0, 1) := by decide +kernel
theorem dX12_readFamilyLine_29 : decode cX12_readFamilyLine 29 = .ok (.ldc 196, 2) := by decide +kernel
theorem dX12_readFamilyLine_31 : decode cX12_readFamilyLine 31 = .ok (.invokevirtual 127, 3) := by decide +kernel
theorem dX12_readFamilyLine_34 : decode cX12_readFamilyLine 34 = .ok (.ifCond .eq 8, 3) := by decide +kernel
theorem dX12_readFamilyLine_37 : decode cX12_readFamilyLine 37 = .ok (.aload_n 0, 1) := by decide +kernel
theorem dX12_readFamilyLine_38 : decode cX12_readFamilyLine 38 = .ok (.invokevirtual 198, 3) := by decide +kernel
theorem dX12_readFamilyLine_41 : decode cX12_readFamilyLine 41 = .ok (.ireturn, 1) := by decide +kernel
theorem dX12_readFamilyLine_42 : decode cX12_readFamilyLine 42 = .ok (.aload_n 0, 1) := by decide +kernel
theorem dX12_readFamilyLine_43 : decode cX12_readFamilyLine 43 = .ok (.ldc 201, 2) := by decide +kernel
theorem dX12_readFamilyLine_45 : decode cX12_readFamilyLine 45 = .ok (.invokevirtual 127, 3) := by decide +kernel
theorem dX12_readFamilyLine_48 : decode cX12_readFamilyLine 48 = .ok (.ifCond .eq 21, 3) := by decide +kernel
theorem dX12_readFamilyLine_51 : decode cX12_readFamilyLine 51 = .ok (.aload_n 0, 1) := by decide +kernel
theorem dX12_readFamilyLine_52 : decode cX12_readFamilyLine 52 = .ok (.iconst 4, 1) := by decide +kernel
theorem dX12_readFamilyLine_53 : decode cX12_readFamilyLine 53 = .ok (.iconst 2, 1) := by decide +kernel
theorem dX12_readFamilyLine_54 : decode cX12_readFamilyLine 54 = .ok (.aload_n 0, 1) := by decide +kernel
theorem dX12_readFamilyLine_55 : decode cX12_readFamilyLine 55 = .ok (.invokevirtual 203, 3) := by decide +kernel
theorem dX12_readFamilyLine_58 : decode cX12_readFamilyLine 58 = .ok (.iconst 1, 1) := by decide +kernel
theorem dX12_readFamilyLine_59 : decode cX12_readFamilyLine 59 = .ok (.iadd, 1) := by decide +kernel
theorem dX12_readFamilyLine_60 : decode cX12_readFamilyLine 60 = .ok (.invokestatic 180, 3) := by decide +kernel
theorem dX12_readFamilyLine_63 : decode cX12_readFamilyLine 63 = .ok (.bipush 99, 2) := by decide +kernel
theorem dX12_readFamilyLine_65 : decode cX12_readFamilyLine 65 = .ok (.invokevirtual 206, 3) := by decide +kernel
theorem dX12_readFamilyLine_68 : decode cX12_readFamilyLine 68 = .ok (.ireturn, 1) := by decide +kernel
theorem dX12_readFamilyLine_69 : decode cX12_readFamilyLine 69 = .ok (.aload_n 0, 1) := by decide +kernel
theorem dX12_readFamilyLine_70 : decode cX12_readFamilyLine 70 = .ok (.ldc 209, 2) := by decide +kernel
theorem dX12_readFamilyLine_72 : decode cX12_readFamilyLine 72 = .ok (.invokevirtual 127, 3) := by decide +kernel
theorem dX12_readFamilyLine_75 : decode cX12_readFamilyLine 75 = .ok (.ifCond .eq 12, 3) := by decide +kernel
theorem dX12_readFamilyLine_78 : decode cX12_readFamilyLine 78 = .ok (.aload_n 0, 1) := by decide +kernel
theorem dX12_readFamilyLine_79 : decode cX12_readFamilyLine 79 = .ok (.iconst 5, 1) := by decide +kernel
theorem dX12_readFamilyLine_80 : decode cX12_readFamilyLine 80 = .ok (.iconst 0, 1) := by decide +kernel
theorem dX12_readFamilyLine_81 : decode cX12_readFamilyLine 81 = .ok (.bipush 99, 2) := by decide +kernel
theorem dX12_readFamilyLine_83 : decode cX12_readFamilyLine 83 = .ok (.invokevirtual 206, 3) := by decide +kernel
theorem dX12_readFamilyLine_86 : decode cX12_readFamilyLine 86 = .ok (.ireturn, 1) := by decide +kernel
theorem dX12_readFamilyLine_87 : decode cX12_readFamilyLine 87 = .ok (.aload_n 0, 1) := by decide +kernel
theorem dX12_readFamilyLine_88 : decode cX12_readFamilyLine 88 = .ok (.ldc 211, 2) := by decide +kernel
theorem dX12_readFamilyLine_90 : decode cX12_readFamilyLine 90 = .ok (.invokevirtual 127, 3) := by decide +kernel
theorem dX12_readFamilyLine_93 : decode cX12_readFamilyLine 93 = .ok (.ifCond .eq 13, 3) := by decide +kernel
theorem dX12_readFamilyLine_96 : decode cX12_readFamilyLine 96 = .ok (.aload_n 0, 1) := by decide +kernel
theorem dX12_readFamilyLine_97 : decode cX12_readFamilyLine 97 = .ok (.bipush 6, 2) := by decide +kernel
theorem dX12_readFamilyLine_99 : decode cX12_readFamilyLine 99 = .ok (.iconst 0, 1) := by decide +kernel
theorem dX12_readFamilyLine_100 : decode cX12_readFamilyLine 100 = .ok (.bipush 20, 2) := by decide +kernel
theorem dX12_readFamilyLine_102 : decode cX12_readFamilyLine 102 = .ok (.invokevirtual 206, 3) := by decide +kernel
theorem dX12_readFamilyLine_105 : decode cX12_readFamilyLine 105 = .ok (.ireturn, 1) := by decide +kernel
theorem dX12_readFamilyLine_106 : decode cX12_readFamilyLine 106 = .ok (.aload_n 0, 1) := by decide +kernel
theorem dX12_readFamilyLine_107 : decode cX12_readFamilyLine 107 = .ok (.ldc 213, 2) := by decide +kernel
theorem dX12_readFamilyLine_109 : decode cX12_readFamilyLine 109 = .ok (.invokevirtual 127, 3) := by decide +kernel
theorem dX12_readFamilyLine_112 : decode cX12_readFamilyLine 112 = .ok (.ifCond .eq 19, 3) := by decide +kernel
theorem dX12_readFamilyLine_115 : decode cX12_readFamilyLine 115 = .ok (.aload_n 0, 1) := by decide +kernel
theorem dX12_readFamilyLine_116 : decode cX12_readFamilyLine 116 = .ok (.iconst 3, 1) := by decide +kernel
theorem dX12_readFamilyLine_117 : decode cX12_readFamilyLine 117 = .ok (.iconst 0, 1) := by decide +kernel
theorem dX12_readFamilyLine_118 : decode cX12_readFamilyLine 118 = .ok (.sipush 999, 3) := by decide +kernel
theorem dX12_readFamilyLine_121 : decode cX12_readFamilyLine 121 = .ok (.invokevirtual 206, 3) := by decide +kernel
theorem dX12_readFamilyLine_124 : decode cX12_readFamilyLine 124 = .ok (.ifCond .eq 7, 3) := by decide +kernel
theorem dX12_readFamilyLine_127 : decode cX12_readFamilyLine 127 = .ok (.iconst 1, 1) := by decide +kernel
theorem dX12_readFamilyLine_128 : decode cX12_readFamilyLine 128 = .ok (.goto 4, 3) := by decide +kernel
theorem dX12_readFamilyLine_131 : decode cX12_readFamilyLine 131 = .ok (.iconst 0, 1) := by decide +kernel
theorem dX12_readFamilyLine_132 : decode cX12_readFamilyLine 132 = .ok (.ireturn, 1) := by decide +kernel
theorem dX12_emits_0 : decode cX12_emits 0 = .ok (.aload_n 0, 1) := by decide +kernel
theorem dX12_emits_1 : decode cX12_emits 1 = .ok (.getfield 13, 3) := by decide +kernel
theorem dX12_emits_4 : decode cX12_emits 4 = .ok (.sipush 1343, 3) := by decide +kernel
theorem dX12_emits_7 : decode cX12_emits 7 = .ok (.iconst 2, 1) := by decide +kernel
theorem dX12_emits_8 : decode cX12_emits 8 = .ok (.aload_n 0, 1) := by decide +kernel
theorem dX12_emits_9 : decode cX12_emits 9 = .ok (.getfield 215, 3) := by decide +kernel
theorem dX12_emits_12 : decode cX12_emits 12 = .ok (.imul, 1) := by decide +kernel
theorem dX12_emits_13 : decode cX12_emits 13 = .ok (.iadd, 1) := by decide +kernel
theorem dX12_emits_14 : decode cX12_emits 14 = .ok (.iload_n 1, 1) := by decide +kernel
theorem dX12_emits_15 : decode cX12_emits 15 = .ok (.iastore, 1) := by decide +kernel
theorem dX12_emits_16 : decode cX12_emits 16 = .ok (.aload_n 0, 1) := by decide +kernel
theorem dX12_emits_17 : decode cX12_emits 17 = .ok (.getfield 13, 3) := by decide +kernel
theorem dX12_emits_20 : decode cX12_emits 20 = .ok (.sipush 1343, 3) := by decide +kernel
theorem dX12_emits_23 : decode cX12_emits 23 = .ok (.iconst 2, 1) := by decide +kernel
theorem dX12_emits_24 : decode cX12_emits 24 = .ok (.aload_n 0, 1) := by decide +kernel
theorem dX12_emits_25 : decode cX12_emits 25 = .ok (.getfield 215, 3) := by decide +kernel
theorem dX12_emits_28 : decode cX12_emits 28 = .ok (.imul, 1) := by decide +kernel
theorem dX12_emits_29 : decode cX12_emits 29 = .ok (.iadd, 1) := by decide +kernel
theorem dX12_emits_30 : decode cX12_emits 30 = .ok (.iconst 1, 1) := by decide +kernel
theorem dX12_emits_31 : decode cX12_emits 31 = .ok (.iadd, 1) := by decide +kernel
theorem dX12_emits_32 : decode cX12_emits 32 = .ok (.iload_n 2, 1) := by decide +kernel
theorem dX12_emits_33 : decode cX12_emits 33 = .ok (.iastore, 1) := by decide +kernel
theorem dX12_emits_34 : decode cX12_emits 34 = .ok (.aload_n 0, 1) := by decide +kernel
theorem dX12_emits_35 : decode cX12_emits 35 = .ok (.dup, 1) := by decide +kernel
theorem dX12_emits_36 : decode cX12_emits 36 = .ok (.getfield 215, 3) := by decide +kernel
theorem dX12_emits_39 : decode cX12_emits 39 = .ok (.iconst 1, 1) := by decide +kernel
theorem dX12_emits_40 : decode cX12_emits 40 = .ok (.iadd, 1) := by decide +kernel
theorem dX12_emits_41 : decode cX12_emits 41 = .ok (.putfield 215, 3) := by decide +kernel
theorem dX12_emits_44 : decode cX12_emits 44 = .ok (.return_, 1) := by decide +kernel
theorem dX12_wordOfPart_0 : decode cX12_wordOfPart 0 = .ok (.aload_n 0, 1) := by decide +kernel
theorem dX12_wordOfPart_1 : decode cX12_wordOfPart 1 = .ok (.ldc 218, 2) := by decide +kernel
theorem dX12_wordOfPart_3 : decode cX12_wordOfPart 3 = .ok (.invokevirtual 127, 3) := by decide +kernel
theorem dX12_wordOfPart_6 : decode cX12_wordOfPart 6 = .ok (.ifCond .eq 5, 3) := by decide +kernel
theorem dX12_wordOfPart_9 : decode cX12_wordOfPart 9 = .ok (.iconst 0, 1) := by decide +kernel
theorem dX12_wordOfPart_10 : decode cX12_wordOfPart 10 = .ok (.ireturn, 1) := by decide +kernel
theorem dX12_wordOfPart_11 : decode cX12_wordOfPart 11 = .ok (.aload_n 0, 1) := by decide +kernel
theorem dX12_wordOfPart_12 : decode cX12_wordOfPart 12 = .ok (.ldc 220, 2) := by decide +kernel
theorem dX12_wordOfPart_14 : decode cX12_wordOfPart 14 = .ok (.invokevirtual 127, 3) := by decide +kernel
theorem dX12_wordOfPart_17 : decode cX12_wordOfPart 17 = .ok (.ifCond .eq 5, 3) := by decide +kernel
theorem dX12_wordOfPart_20 : decode cX12_wordOfPart 20 = .ok (.iconst 1, 1) := by decide +kernel
theorem dX12_wordOfPart_21 : decode cX12_wordOfPart 21 = .ok (.ireturn, 1) := by decide +kernel
theorem dX12_wordOfPart_22 : decode cX12_wordOfPart 22 = .ok (.aload_n 0, 1) := by decide +kernel
theorem dX12_wordOfPart_23 : decode cX12_wordOfPart 23 = .ok (.ldc 142, 2) := by decide +kernel
theorem dX12_wordOfPart_25 : decode cX12_wordOfPart 25 = .ok (.invokevirtual 127, 3) := by decide +kernel
theorem dX12_wordOfPart_28 : decode cX12_wordOfPart 28 = .ok (.ifCond .eq 5, 3) := by decide +kernel
theorem dX12_wordOfPart_31 : decode cX12_wordOfPart 31 = .ok (.iconst 2, 1) := by decide +kernel
theorem dX12_wordOfPart_32 : decode cX12_wordOfPart 32 = .ok (.ireturn, 1) := by decide +kernel
theorem dX12_wordOfPart_33 : decode cX12_wordOfPart 33 = .ok (.aload_n 0, 1) := by decide +kernel
theorem dX12_wordOfPart_34 : decode cX12_wordOfPart 34 = .ok (.ldc 222, 2) := by decide +kernel
theorem dX12_wordOfPart_36 : decode cX12_wordOfPart 36 = .ok (.invokevirtual 127, 3) := by decide +kernel
theorem dX12_wordOfPart_39 : decode cX12_wordOfPart 39 = .ok (.ifCond .eq 5, 3) := by decide +kernel
theorem dX12_wordOfPart_42 : decode cX12_wordOfPart 42 = .ok (.iconst 3, 1) := by decide +kernel
theorem dX12_wordOfPart_43 : decode cX12_wordOfPart 43 = .ok (.ireturn, 1) := by decide +kernel
theorem dX12_wordOfPart_44 : decode cX12_wordOfPart 44 = .ok (.aload_n 0, 1) := by decide +kernel
theorem dX12_wordOfPart_45 : decode cX12_wordOfPart 45 = .ok (.ldc 224, 2) := by decide +kernel
theorem dX12_wordOfPart_47 : decode cX12_wordOfPart 47 = .ok (.invokevirtual 127, 3) := by decide +kernel
theorem dX12_wordOfPart_50 : decode cX12_wordOfPart 50 = .ok (.ifCond .eq 5, 3) := by decide +kernel
theorem dX12_wordOfPart_53 : decode cX12_wordOfPart 53 = .ok (.iconst 4, 1) := by decide +kernel
theorem dX12_wordOfPart_54 : decode cX12_wordOfPart 54 = .ok (.ireturn, 1) := by decide +kernel
theorem dX12_wordOfPart_55 : decode cX12_wordOfPart 55 = .ok (.aload_n 0, 1) := by decide +kernel
theorem dX12_wordOfPart_56 : decode cX12_wordOfPart 56 = .ok (.ldc 213, 2) := by decide +kernel
theorem dX12_wordOfPart_58 : decode cX12_wordOfPart 58 = .ok (.invokevirtual 127, 3) := by decide +kernel
theorem dX12_wordOfPart_61 : decode cX12_wordOfPart 61 = .ok (.ifCond .eq 7, 3) := by decide +kernel
theorem dX12_wordOfPart_64 : decode cX12_wordOfPart 64 = .ok (.iconst 5, 1) := by decide +kernel
theorem dX12_wordOfPart_65 : decode cX12_wordOfPart 65 = .ok (.goto 4, 3) := by decide +kernel
theorem dX12_wordOfPart_68 : decode cX12_wordOfPart 68 = .ok (.iconst (-1), 1) := by decide +kernel
theorem dX12_wordOfPart_69 : decode cX12_wordOfPart 69 = .ok (.ireturn, 1) := by decide +kernel
theorem dX12_readPart_0 : decode cX12_readPart 0 = .ok (.aload_n 0, 1) := by decide +kernel
theorem dX12_readPart_1 : decode cX12_readPart 1 = .ok (.invokevirtual 124, 3) := by decide +kernel
theorem dX12_readPart_4 : decode cX12_readPart 4 = .ok (.aload_n 0, 1) := by decide +kernel
theorem dX12_readPart_5 : decode cX12_readPart 5 = .ok (.getfield 100, 3) := by decide +kernel
theorem dX12_readPart_8 : decode cX12_readPart 8 = .ok (.aload_n 0, 1) := by decide +kernel
theorem dX12_readPart_9 : decode cX12_readPart 9 = .ok (.getfield 109, 3) := by decide +kernel
theorem dX12_readPart_12 : decode cX12_readPart 12 = .ok (.if_icmp .ne 7, 3) := by decide +kernel
theorem dX12_readPart_15 : decode cX12_readPart 15 = .ok (.iconst 1, 1) := by decide +kernel
theorem dX12_readPart_16 : decode cX12_readPart 16 = .ok (.goto 4, 3) := by decide +kernel
theorem dX12_readPart_19 : decode cX12_readPart 19 = .ok (.iconst 0, 1) := by decide +kernel
theorem dX12_readPart_20 : decode cX12_readPart 20 = .ok (.istore_n 1, 1) := by decide +kernel
theorem dX12_readPart_21 : decode cX12_readPart 21 = .ok (.iload_n 1, 1) := by decide +kernel
theorem dX12_readPart_22 : decode cX12_readPart 22 = .ok (.ifCond .eq 14, 3) := by decide +kernel
theorem dX12_readPart_25 : decode cX12_readPart 25 = .ok (.aload_n 0, 1) := by decide +kernel
theorem dX12_readPart_26 : decode cX12_readPart 26 = .ok (.iconst 0, 1) := by decide +kernel
theorem dX12_readPart_27 : decode cX12_readPart 27 = .ok (.sipush 999, 3) := by decide +kernel
theorem dX12_readPart_30 : decode cX12_readPart 30 = .ok (.invokevirtual 131, 3) := by decide +kernel
theorem dX12_readPart_33 : decode cX12_readPart 33 = .ok (.goto 7, 3) := by decide +kernel
theorem dX12_readPart_36 : decode cX12_readPart 36 = .ok (.aload_n 0, 1) := by decide +kernel
theorem dX12_readPart_37 : decode cX12_readPart 37 = .ok (.invokevirtual 226, 3) := by decide +kernel
theorem dX12_readPart_40 : decode cX12_readPart 40 = .ok (.istore_n 2, 1) := by decide +kernel
theorem dX12_readPart_41 : decode cX12_readPart 41 = .ok (.aload_n 0, 1) := by decide +kernel
theorem dX12_readPart_42 : decode cX12_readPart 42 = .ok (.iload_n 1, 1) := by decide +kernel
theorem dX12_readPart_43 : decode cX12_readPart 43 = .ok (.ifCond .eq 8, 3) := by decide +kernel
theorem dX12_readPart_46 : decode cX12_readPart 46 = .ok (.bipush 9, 2) := by decide +kernel
theorem dX12_readPart_48 : decode cX12_readPart 48 = .ok (.goto 4, 3) := by decide +kernel
theorem dX12_readPart_51 : decode cX12_readPart 51 = .ok (.iload_n 2, 1) := by decide +kernel
theorem dX12_readPart_52 : decode cX12_readPart 52 = .ok (.iload_n 1, 1) := by decide +kernel
theorem dX12_readPart_53 : decode cX12_readPart 53 = .ok (.ifCond .eq 7, 3) := by decide +kernel
theorem dX12_readPart_56 : decode cX12_readPart 56 = .ok (.iload_n 2, 1) := by decide +kernel
theorem dX12_readPart_57 : decode cX12_readPart 57 = .ok (.goto 4, 3) := by decide +kernel
theorem dX12_readPart_60 : decode cX12_readPart 60 = .ok (.iconst 0, 1) := by decide +kernel
theorem dX12_readPart_61 : decode cX12_readPart 61 = .ok (.invokevirtual 229, 3) := by decide +kernel
theorem dX12_readPart_64 : decode cX12_readPart 64 = .ok (.iload_n 2, 1) := by decide +kernel
theorem dX12_readPart_65 : decode cX12_readPart 65 = .ok (.ifCond .lt 7, 3) := by decide +kernel
theorem dX12_readPart_68 : decode cX12_readPart 68 = .ok (.iconst 1, 1) := by decide +kernel
theorem dX12_readPart_69 : decode cX12_readPart 69 = .ok (.goto 4, 3) := by decide +kernel
theorem dX12_readPart_72 : decode cX12_readPart 72 = .ok (.iconst 0, 1) := by decide +kernel
theorem dX12_readPart_73 : decode cX12_readPart 73 = .ok (.ireturn, 1) := by decide +kernel
theorem dX12_readSum_0 : decode cX12_readSum 0 = .ok (.aload_n 0, 1) := by decide +kernel
theorem dX12_readSum_1 : decode cX12_readSum 1 = .ok (.invokevirtual 232, 3) := by decide +kernel
theorem dX12_readSum_4 : decode cX12_readSum 4 = .ok (.ifCond .ne 5, 3) := by decide +kernel
theorem dX12_readSum_7 : decode cX12_readSum 7 = .ok (.iconst 0, 1) := by decide +kernel
theorem dX12_readSum_8 : decode cX12_readSum 8 = .ok (.ireturn, 1) := by decide +kernel
theorem dX12_readSum_9 : decode cX12_readSum 9 = .ok (.aload_n 0, 1) := by decide +kernel
theorem dX12_readSum_10 : decode cX12_readSum 10 = .ok (.bipush 43, 2) := by decide +kernel
theorem dX12_readSum_12 : decode cX12_readSum 12 = .ok (.invokevirtual 235, 3) := by decide +kernel
theorem dX12_readSum_15 : decode cX12_readSum 15 = .ok (.ifCond .eq 22, 3) := by decide +kernel
theorem dX12_readSum_18 : decode cX12_readSum 18 = .ok (.aload_n 0, 1) := by decide +kernel
theorem dX12_readSum_19 : decode cX12_readSum 19 = .ok (.invokevirtual 232, 3) := by decide +kernel
theorem dX12_readSum_22 : decode cX12_readSum 22 = .ok (.ifCond .ne 5, 3) := by decide +kernel
theorem dX12_readSum_25 : decode cX12_readSum 25 = .ok (.iconst 0, 1) := by decide +kernel
theorem dX12_readSum_26 : decode cX12_readSum 26 = .ok (.ireturn, 1) := by decide +kernel
theorem dX12_readSum_27 : decode cX12_readSum 27 = .ok (.aload_n 0, 1) := by decide +kernel
theorem dX12_readSum_28 : decode cX12_readSum 28 = .ok (.bipush 10, 2) := by decide +kernel
theorem dX12_readSum_30 : decode cX12_readSum 30 = .ok (.iconst 0, 1) := by decide +kernel
theorem dX12_readSum_31 : decode cX12_readSum 31 = .ok (.invokevirtual 229, 3) := by decide +kernel
theorem dX12_readSum_34 : decode cX12_readSum 34 = .ok (.goto (-25), 3) := by decide +kernel
theorem dX12_readSum_37 : decode cX12_readSum 37 = .ok (.iconst 1, 1) := by decide +kernel
theorem dX12_readSum_38 : decode cX12_readSum 38 = .ok (.ireturn, 1) := by decide +kernel
theorem dX12_readTag_0 : decode cX12_readTag 0 = .ok (.aload_n 0, 1) := by decide +kernel
theorem dX12_readTag_1 : decode cX12_readTag 1 = .ok (.invokevirtual 124, 3) := by decide +kernel
theorem dX12_readTag_4 : decode cX12_readTag 4 = .ok (.aload_n 0, 1) := by decide +kernel
theorem dX12_readTag_5 : decode cX12_readTag 5 = .ok (.ldc 196, 2) := by decide +kernel
theorem dX12_readTag_7 : decode cX12_readTag 7 = .ok (.invokevirtual 127, 3) := by decide +kernel
theorem dX12_readTag_10 : decode cX12_readTag 10 = .ok (.ifCond .eq 8, 3) := by decide +kernel
theorem dX12_readTag_13 : decode cX12_readTag 13 = .ok (.bipush 6, 2) := by decide +kernel
theorem dX12_readTag_15 : decode cX12_readTag 15 = .ok (.goto 32, 3) := by decide +kernel
theorem dX12_readTag_18 : decode cX12_readTag 18 = .ok (.aload_n 0, 1) := by decide +kernel
theorem dX12_readTag_19 : decode cX12_readTag 19 = .ok (.ldc 238, 2) := by decide +kernel
theorem dX12_readTag_21 : decode cX12_readTag 21 = .ok (.invokevirtual 127, 3) := by decide +kernel
theorem dX12_readTag_24 : decode cX12_readTag 24 = .ok (.ifCond .eq 8, 3) := by decide +kernel
theorem dX12_readTag_27 : decode cX12_readTag 27 = .ok (.bipush 7, 2) := by decide +kernel
theorem dX12_readTag_29 : decode cX12_readTag 29 = .ok (.goto 18, 3) := by decide +kernel
theorem dX12_readTag_32 : decode cX12_readTag 32 = .ok (.aload_n 0, 1) := by decide +kernel
theorem dX12_readTag_33 : decode cX12_readTag 33 = .ok (.ldc 240, 2) := by decide +kernel
theorem dX12_readTag_35 : decode cX12_readTag 35 = .ok (.invokevirtual 127, 3) := by decide +kernel
theorem dX12_readTag_38 : decode cX12_readTag 38 = .ok (.ifCond .eq 8, 3) := by decide +kernel
theorem dX12_readTag_41 : decode cX12_readTag 41 = .ok (.bipush 8, 2) := by decide +kernel
theorem dX12_readTag_43 : decode cX12_readTag 43 = .ok (.goto 4, 3) := by decide +kernel
theorem dX12_readTag_46 : decode cX12_readTag 46 = .ok (.iconst (-1), 1) := by decide +kernel
theorem dX12_readTag_47 : decode cX12_readTag 47 = .ok (.istore_n 1, 1) := by decide +kernel
theorem dX12_readTag_48 : decode cX12_readTag 48 = .ok (.iload_n 1, 1) := by decide +kernel
theorem dX12_readTag_49 : decode cX12_readTag 49 = .ok (.ifCond .lt 12, 3) := by decide +kernel
theorem dX12_readTag_52 : decode cX12_readTag 52 = .ok (.aload_n 0, 1) := by decide +kernel
theorem dX12_readTag_53 : decode cX12_readTag 53 = .ok (.iload_n 1, 1) := by decide +kernel
theorem dX12_readTag_54 : decode cX12_readTag 54 = .ok (.iconst 0, 1) := by decide +kernel
theorem dX12_readTag_55 : decode cX12_readTag 55 = .ok (.invokevirtual 229, 3) := by decide +kernel
theorem dX12_readTag_58 : decode cX12_readTag 58 = .ok (.goto 11, 3) := by decide +kernel
theorem dX12_readTag_61 : decode cX12_readTag 61 = .ok (.aload_n 0, 1) := by decide +kernel
theorem dX12_readTag_62 : decode cX12_readTag 62 = .ok (.aload_n 0, 1) := by decide +kernel
theorem dX12_readTag_63 : decode cX12_readTag 63 = .ok (.getfield 109, 3) := by decide +kernel
theorem dX12_readTag_66 : decode cX12_readTag 66 = .ok (.putfield 100, 3) := by decide +kernel
theorem dX12_readTag_69 : decode cX12_readTag 69 = .ok (.iload_n 1, 1) := by decide +kernel
theorem dX12_readTag_70 : decode cX12_readTag 70 = .ok (.ifCond .lt 7, 3) := by decide +kernel
theorem dX12_readTag_73 : decode cX12_readTag 73 = .ok (.iconst 1, 1) := by decide +kernel
theorem dX12_readTag_74 : decode cX12_readTag 74 = .ok (.goto 4, 3) := by decide +kernel
theorem dX12_readTag_77 : decode cX12_readTag 77 = .ok (.iconst 0, 1) := by decide +kernel
theorem dX12_readTag_78 : decode cX12_readTag 78 = .ok (.ireturn, 1) := by decide +kernel
theorem dX12_readAtom_0 : decode cX12_readAtom 0 = .ok (.aload_n 0, 1) := by decide +kernel
theorem dX12_readAtom_1 : decode cX12_readAtom 1 = .ok (.bipush 40, 2) := by decide +kernel
theorem dX12_readAtom_3 : decode cX12_readAtom 3 = .ok (.invokevirtual 235, 3) := by decide +kernel
theorem dX12_readAtom_6 : decode cX12_readAtom 6 = .ok (.ifCond .eq 50, 3) := by decide +kernel
theorem dX12_readAtom_9 : decode cX12_readAtom 9 = .ok (.aload_n 0, 1) := by decide +kernel
theorem dX12_readAtom_10 : decode cX12_readAtom 10 = .ok (.getfield 242, 3) := by decide +kernel
theorem dX12_readAtom_13 : decode cX12_readAtom 13 = .ok (.bipush 6, 2) := by decide +kernel
theorem dX12_readAtom_15 : decode cX12_readAtom 15 = .ok (.if_icmp .ne 5, 3) := by decide +kernel
theorem dX12_readAtom_18 : decode cX12_readAtom 18 = .ok (.iconst 0, 1) := by decide +kernel
theorem dX12_readAtom_19 : decode cX12_readAtom 19 = .ok (.ireturn, 1) := by decide +kernel
theorem dX12_readAtom_20 : decode cX12_readAtom 20 = .ok (.aload_n 0, 1) := by decide +kernel
theorem dX12_readAtom_21 : decode cX12_readAtom 21 = .ok (.dup, 1) := by decide +kernel
theorem dX12_readAtom_22 : decode cX12_readAtom 22 = .ok (.getfield 242, 3) := by decide +kernel
theorem dX12_readAtom_25 : decode cX12_readAtom 25 = .ok (.iconst 1, 1) := by decide +kernel
theorem dX12_readAtom_26 : decode cX12_readAtom 26 = .ok (.iadd, 1) := by decide +kernel
theorem dX12_readAtom_27 : decode cX12_readAtom 27 = .ok (.putfield 242, 3) := by decide +kernel
theorem dX12_readAtom_30 : decode cX12_readAtom 30 = .ok (.aload_n 0, 1) := by decide +kernel
theorem dX12_readAtom_31 : decode cX12_readAtom 31 = .ok (.invokevirtual 245, 3) := by decide +kernel
theorem dX12_readAtom_34 : decode cX12_readAtom 34 = .ok (.ifCond .ne 5, 3) := by decide +kernel
theorem dX12_readAtom_37 : decode cX12_readAtom 37 = .ok (.iconst 0, 1) := by decide +kernel
theorem dX12_readAtom_38 : decode cX12_readAtom 38 = .ok (.ireturn, 1) := by decide +kernel
theorem dX12_readAtom_39 : decode cX12_readAtom 39 = .ok (.aload_n 0, 1) := by decide +kernel
theorem dX12_readAtom_40 : decode cX12_readAtom 40 = .ok (.dup, 1) := by decide +kernel
theorem dX12_readAtom_41 : decode cX12_readAtom 41 = .ok (.getfield 242, 3) := by decide +kernel
theorem dX12_readAtom_44 : decode cX12_readAtom 44 = .ok (.iconst 1, 1) := by decide +kernel
theorem dX12_readAtom_45 : decode cX12_readAtom 45 = .ok (.isub, 1) := by decide +kernel
theorem dX12_readAtom_46 : decode cX12_readAtom 46 = .ok (.putfield 242, 3) := by decide +kernel
theorem dX12_readAtom_49 : decode cX12_readAtom 49 = .ok (.aload_n 0, 1) := by decide +kernel
theorem dX12_readAtom_50 : decode cX12_readAtom 50 = .ok (.bipush 41, 2) := by decide +kernel
theorem dX12_readAtom_52 : decode cX12_readAtom 52 = .ok (.invokevirtual 235, 3) := by decide +kernel
theorem dX12_readAtom_55 : decode cX12_readAtom 55 = .ok (.ireturn, 1) := by decide +kernel
theorem dX12_readAtom_56 : decode cX12_readAtom 56 = .ok (.aload_n 0, 1) := by decide +kernel
theorem dX12_readAtom_57 : decode cX12_readAtom 57 = .ok (.ldc 248, 2) := by decide +kernel
theorem dX12_readAtom_59 : decode cX12_readAtom 59 = .ok (.invokevirtual 134, 3) := by decide +kernel
theorem dX12_readAtom_62 : decode cX12_readAtom 62 = .ok (.ifCond .eq 52, 3) := by decide +kernel
theorem dX12_readAtom_65 : decode cX12_readAtom 65 = .ok (.aload_n 0, 1) := by decide +kernel
theorem dX12_readAtom_66 : decode cX12_readAtom 66 = .ok (.getfield 242, 3) := by decide +kernel
theorem dX12_readAtom_69 : decode cX12_readAtom 69 = .ok (.bipush 6, 2) := by decide +kernel
theorem dX12_readAtom_71 : decode cX12_readAtom 71 = .ok (.if_icmp .ne 5, 3) := by decide +kernel
theorem dX12_readAtom_74 : decode cX12_readAtom 74 = .ok (.iconst 0, 1) := by decide +kernel
theorem dX12_readAtom_75 : decode cX12_readAtom 75 = .ok (.ireturn, 1) := by decide +kernel
theorem dX12_readAtom_76 : decode cX12_readAtom 76 = .ok (.aload_n 0, 1) := by decide +kernel
theorem dX12_readAtom_77 : decode cX12_readAtom 77 = .ok (.dup, 1) := by decide +kernel
theorem dX12_readAtom_78 : decode cX12_readAtom 78 = .ok (.getfield 242, 3) := by decide +kernel
theorem dX12_readAtom_81 : decode cX12_readAtom 81 = .ok (.iconst 1, 1) := by decide +kernel
theorem dX12_readAtom_82 : decode cX12_readAtom 82 = .ok (.iadd, 1) := by decide +kernel
theorem dX12_readAtom_83 : decode cX12_readAtom 83 = .ok (.putfield 242, 3) := by decide +kernel
theorem dX12_readAtom_86 : decode cX12_readAtom 86 = .ok (.aload_n 0, 1) := by decide +kernel
theorem dX12_readAtom_87 : decode cX12_readAtom 87 = .ok (.invokevirtual 250, 3) := by decide +kernel
theorem dX12_readAtom_90 : decode cX12_readAtom 90 = .ok (.ifCond .ne 5, 3) := by decide +kernel
theorem dX12_readAtom_93 : decode cX12_readAtom 93 = .ok (.iconst 0, 1) := by decide +kernel
theorem dX12_readAtom_94 : decode cX12_readAtom 94 = .ok (.ireturn, 1) := by decide +kernel
theorem dX12_readAtom_95 : decode cX12_readAtom 95 = .ok (.aload_n 0, 1) := by decide +kernel
theorem dX12_readAtom_96 : decode cX12_readAtom 96 = .ok (.dup, 1) := by decide +kernel
theorem dX12_readAtom_97 : decode cX12_readAtom 97 = .ok (.getfield 242, 3) := by decide +kernel
theorem dX12_readAtom_100 : decode cX12_readAtom 100 = .ok (.iconst 1, 1) := by decide +kernel
theorem dX12_readAtom_101 : decode cX12_readAtom 101 = .ok (.isub, 1) := by decide +kernel
theorem dX12_readAtom_102 : decode cX12_readAtom 102 = .ok (.putfield 242, 3) := by decide +kernel
theorem dX12_readAtom_105 : decode cX12_readAtom 105 = .ok (.aload_n 0, 1) := by decide +kernel
theorem dX12_readAtom_106 : decode cX12_readAtom 106 = .ok (.bipush 13, 2) := by decide +kernel
theorem dX12_readAtom_108 : decode cX12_readAtom 108 = .ok (.iconst 0, 1) := by decide +kernel
theorem dX12_readAtom_109 : decode cX12_readAtom 109 = .ok (.invokevirtual 229, 3) := by decide +kernel
theorem dX12_readAtom_112 : decode cX12_readAtom 112 = .ok (.iconst 1, 1) := by decide +kernel
theorem dX12_readAtom_113 : decode cX12_readAtom 113 = .ok (.ireturn, 1) := by decide +kernel
theorem dX12_readAtom_114 : decode cX12_readAtom 114 = .ok (.aload_n 0, 1) := by decide +kernel
theorem dX12_readAtom_115 : decode cX12_readAtom 115 = .ok (.invokevirtual 253, 3) := by decide +kernel
theorem dX12_readAtom_118 : decode cX12_readAtom 118 = .ok (.ifCond .eq 5, 3) := by decide +kernel
theorem dX12_readAtom_121 : decode cX12_readAtom 121 = .ok (.iconst 1, 1) := by decide +kernel
theorem dX12_readAtom_122 : decode cX12_readAtom 122 = .ok (.ireturn, 1) := by decide +kernel
theorem dX12_readAtom_123 : decode cX12_readAtom 123 = .ok (.aload_n 0, 1) := by decide +kernel
theorem dX12_readAtom_124 : decode cX12_readAtom 124 = .ok (.invokevirtual 256, 3) := by decide +kernel
theorem dX12_readAtom_127 : decode cX12_readAtom 127 = .ok (.ifCond .ne 5, 3) := by decide +kernel
theorem dX12_readAtom_130 : decode cX12_readAtom 130 = .ok (.iconst 0, 1) := by decide +kernel
theorem dX12_readAtom_131 : decode cX12_readAtom 131 = .ok (.ireturn, 1) := by decide +kernel
theorem dX12_readAtom_132 : decode cX12_readAtom 132 = .ok (.aload_n 0, 1) := by decide +kernel
theorem dX12_readAtom_133 : decode cX12_readAtom 133 = .ok (.bipush 60, 2) := by decide +kernel
theorem dX12_readAtom_135 : decode cX12_readAtom 135 = .ok (.invokevirtual 235, 3) := by decide +kernel
theorem dX12_readAtom_138 : decode cX12_readAtom 138 = .ok (.istore_n 1, 1) := by decide +kernel
theorem dX12_readAtom_139 : decode cX12_readAtom 139 = .ok (.iload_n 1, 1) := by decide +kernel
theorem dX12_readAtom_140 : decode cX12_readAtom 140 = .ok (.ifCond .ne 12, 3) := by decide +kernel
theorem dX12_readAtom_143 : decode cX12_readAtom 143 = .ok (.aload_n 0, 1) := by decide +kernel
theorem dX12_readAtom_144 : decode cX12_readAtom 144 = .ok (.bipush 62, 2) := by decide +kernel
theorem dX12_readAtom_146 : decode cX12_readAtom 146 = .ok (.invokevirtual 235, 3) := by decide +kernel
theorem dX12_readAtom_149 : decode cX12_readAtom 149 = .ok (.ifCond .eq 10, 3) := by decide +kernel
theorem dX12_readAtom_152 : decode cX12_readAtom 152 = .ok (.aload_n 0, 1) := by decide +kernel
theorem dX12_readAtom_153 : decode cX12_readAtom 153 = .ok (.invokevirtual 256, 3) := by decide +kernel
theorem dX12_readAtom_156 : decode cX12_readAtom 156 = .ok (.ifCond .ne 5, 3) := by decide +kernel
theorem dX12_readAtom_159 : decode cX12_readAtom 159 = .ok (.iconst 0, 1) := by decide +kernel
theorem dX12_readAtom_160 : decode cX12_readAtom 160 = .ok (.ireturn, 1) := by decide +kernel
theorem dX12_readAtom_161 : decode cX12_readAtom 161 = .ok (.aload_n 0, 1) := by decide +kernel
theorem dX12_readAtom_162 : decode cX12_readAtom 162 = .ok (.iload_n 1, 1) := by decide +kernel
theorem dX12_readAtom_163 : decode cX12_readAtom 163 = .ok (.ifCond .eq 8, 3) := by decide +kernel
theorem dX12_readAtom_166 : decode cX12_readAtom 166 = .ok (.bipush 11, 2) := by decide +kernel
theorem dX12_readAtom_168 : decode cX12_readAtom 168 = .ok (.goto 5, 3) := by decide +kernel
theorem dX12_readAtom_171 : decode cX12_readAtom 171 = .ok (.bipush 12, 2) := by decide +kernel
theorem dX12_readAtom_173 : decode cX12_readAtom 173 = .ok (.iconst 0, 1) := by decide +kernel
theorem dX12_readAtom_174 : decode cX12_readAtom 174 = .ok (.invokevirtual 229, 3) := by decide +kernel
theorem dX12_readAtom_177 : decode cX12_readAtom 177 = .ok (.iconst 1, 1) := by decide +kernel
theorem dX12_readAtom_178 : decode cX12_readAtom 178 = .ok (.ireturn, 1) := by decide +kernel
theorem dX12_readAllOf_0 : decode cX12_readAllOf 0 = .ok (.aload_n 0, 1) := by decide +kernel
theorem dX12_readAllOf_1 : decode cX12_readAllOf 1 = .ok (.invokevirtual 250, 3) := by decide +kernel
theorem dX12_readAllOf_4 : decode cX12_readAllOf 4 = .ok (.ifCond .ne 5, 3) := by decide +kernel
theorem dX12_readAllOf_7 : decode cX12_readAllOf 7 = .ok (.iconst 0, 1) := by decide +kernel
theorem dX12_readAllOf_8 : decode cX12_readAllOf 8 = .ok (.ireturn, 1) := by decide +kernel
theorem dX12_readAllOf_9 : decode cX12_readAllOf 9 = .ok (.aload_n 0, 1) := by decide +kernel
theorem dX12_readAllOf_10 : decode cX12_readAllOf 10 = .ok (.ldc_w 259, 3) := by decide +kernel
theorem dX12_readAllOf_13 : decode cX12_readAllOf 13 = .ok (.invokevirtual 134, 3) := by decide +kernel
theorem dX12_readAllOf_16 : decode cX12_readAllOf 16 = .ok (.ifCond .eq 22, 3) := by decide +kernel
theorem dX12_readAllOf_19 : decode cX12_readAllOf 19 = .ok (.aload_n 0, 1) := by decide +kernel
theorem dX12_readAllOf_20 : decode cX12_readAllOf 20 = .ok (.invokevirtual 250, 3) := by decide +kernel
theorem dX12_readAllOf_23 : decode cX12_readAllOf 23 = .ok (.ifCond .ne 5, 3) := by decide +kernel
theorem dX12_readAllOf_26 : decode cX12_readAllOf 26 = .ok (.iconst 0, 1) := by decide +kernel
theorem dX12_readAllOf_27 : decode cX12_readAllOf 27 = .ok (.ireturn, 1) := by decide +kernel
theorem dX12_readAllOf_28 : decode cX12_readAllOf 28 = .ok (.aload_n 0, 1) := by decide +kernel
theorem dX12_readAllOf_29 : decode cX12_readAllOf 29 = .ok (.bipush 14, 2) := by decide +kernel
theorem dX12_readAllOf_31 : decode cX12_readAllOf 31 = .ok (.iconst 0, 1) := by decide +kernel
theorem dX12_readAllOf_32 : decode cX12_readAllOf 32 = .ok (.invokevirtual 229, 3) := by decide +kernel
theorem dX12_readAllOf_35 : decode cX12_readAllOf 35 = .ok (.goto (-26), 3) := by decide +kernel
theorem dX12_readAllOf_38 : decode cX12_readAllOf 38 = .ok (.iconst 1, 1) := by decide +kernel
theorem dX12_readAllOf_39 : decode cX12_readAllOf 39 = .ok (.ireturn, 1) := by decide +kernel
theorem dX12_readCond_0 : decode cX12_readCond 0 = .ok (.aload_n 0, 1) := by decide +kernel
theorem dX12_readCond_1 : decode cX12_readCond 1 = .ok (.invokevirtual 261, 3) := by decide +kernel
theorem dX12_readCond_4 : decode cX12_readCond 4 = .ok (.ifCond .ne 5, 3) := by decide +kernel
theorem dX12_readCond_7 : decode cX12_readCond 7 = .ok (.iconst 0, 1) := by decide +kernel
theorem dX12_readCond_8 : decode cX12_readCond 8 = .ok (.ireturn, 1) := by decide +kernel
theorem dX12_readCond_9 : decode cX12_readCond 9 = .ok (.aload_n 0, 1) := by decide +kernel
theorem dX12_readCond_10 : decode cX12_readCond 10 = .ok (.ldc_w 264, 3) := by decide +kernel
theorem dX12_readCond_13 : decode cX12_readCond 13 = .ok (.invokevirtual 134, 3) := by decide +kernel
theorem dX12_readCond_16 : decode cX12_readCond 16 = .ok (.ifCond .eq 22, 3) := by decide +kernel
theorem dX12_readCond_19 : decode cX12_readCond 19 = .ok (.aload_n 0, 1) := by decide +kernel
theorem dX12_readCond_20 : decode cX12_readCond 20 = .ok (.invokevirtual 261, 3) := by decide +kernel
theorem dX12_readCond_23 : decode cX12_readCond 23 = .ok (.ifCond .ne 5, 3) := by decide +kernel
theorem dX12_readCond_26 : decode cX12_readCond 26 = .ok (.iconst 0, 1) := by decide +kernel
theorem dX12_readCond_27 : decode cX12_readCond 27 = .ok (.ireturn, 1) := by decide +kernel
theorem dX12_readCond_28 : decode cX12_readCond 28 = .ok (.aload_n 0, 1) := by decide +kernel
theorem dX12_readCond_29 : decode cX12_readCond 29 = .ok (.bipush 15, 2) := by decide +kernel
theorem dX12_readCond_31 : decode cX12_readCond 31 = .ok (.iconst 0, 1) := by decide +kernel
theorem dX12_readCond_32 : decode cX12_readCond 32 = .ok (.invokevirtual 229, 3) := by decide +kernel
theorem dX12_readCond_35 : decode cX12_readCond 35 = .ok (.goto (-26), 3) := by decide +kernel
theorem dX12_readCond_38 : decode cX12_readCond 38 = .ok (.iconst 1, 1) := by decide +kernel
theorem dX12_readCond_39 : decode cX12_readCond 39 = .ok (.ireturn, 1) := by decide +kernel
theorem dX12_readLawLine_0 : decode cX12_readLawLine 0 = .ok (.sipush 1295, 3) := by decide +kernel
theorem dX12_readLawLine_3 : decode cX12_readLawLine 3 = .ok (.iconst 4, 1) := by decide +kernel
theorem dX12_readLawLine_4 : decode cX12_readLawLine 4 = .ok (.iload_n 1, 1) := by decide +kernel
theorem dX12_readLawLine_5 : decode cX12_readLawLine 5 = .ok (.imul, 1) := by decide +kernel
theorem dX12_readLawLine_6 : decode cX12_readLawLine 6 = .ok (.iadd, 1) := by decide +kernel
theorem dX12_readLawLine_7 : decode cX12_readLawLine 7 = .ok (.istore_n 2, 1) := by decide +kernel
theorem dX12_readLawLine_8 : decode cX12_readLawLine 8 = .ok (.aload_n 0, 1) := by decide +kernel
theorem dX12_readLawLine_9 : decode cX12_readLawLine 9 = .ok (.getfield 13, 3) := by decide +kernel
theorem dX12_readLawLine_12 : decode cX12_readLawLine 12 = .ok (.iload_n 2, 1) := by decide +kernel
theorem dX12_readLawLine_13 : decode cX12_readLawLine 13 = .ok (.aload_n 0, 1) := by decide +kernel
theorem dX12_readLawLine_14 : decode cX12_readLawLine 14 = .ok (.ldc_w 266, 3) := by decide +kernel
theorem dX12_readLawLine_17 : decode cX12_readLawLine 17 = .ok (.invokevirtual 127, 3) := by decide +kernel
theorem dX12_readLawLine_20 : decode cX12_readLawLine 20 = .ok (.ifCond .eq 7, 3) := by decide +kernel
theorem dX12_readLawLine_23 : decode cX12_readLawLine 23 = .ok (.iconst 0, 1) := by decide +kernel
theorem dX12_readLawLine_24 : decode cX12_readLawLine 24 = .ok (.goto 32, 3) := by decide +kernel
theorem dX12_readLawLine_27 : decode cX12_readLawLine 27 = .ok (.aload_n 0, 1) := by decide +kernel
theorem dX12_readLawLine_28 : decode cX12_readLawLine 28 = .ok (.ldc_w 268, 3) := by decide +kernel
theorem dX12_readLawLine_31 : decode cX12_readLawLine 31 = .ok (.invokevirtual 127, 3) := by decide +kernel
theorem dX12_readLawLine_34 : decode cX12_readLawLine 34 = .ok (.ifCond .eq 7, 3) := by decide +kernel
theorem dX12_readLawLine_37 : decode cX12_readLawLine 37 = .ok (.iconst 1, 1) := by decide +kernel
theorem dX12_readLawLine_38 : decode cX12_readLawLine 38 = .ok (.goto 18, 3) := by decide +kernel
theorem dX12_readLawLine_41 : decode cX12_readLawLine 41 = .ok (.aload_n 0, 1) := by decide +kernel
theorem dX12_readLawLine_42 : decode cX12_readLawLine 42 = .ok (.ldc_w 270, 3) := by decide +kernel
theorem dX12_readLawLine_45 : decode cX12_readLawLine 45 = .ok (.invokevirtual 127, 3) := by decide +kernel
theorem dX12_readLawLine_48 : decode cX12_readLawLine 48 = .ok (.ifCond .eq 7, 3) := by decide +kernel
theorem dX12_readLawLine_51 : decode cX12_readLawLine 51 = .ok (.iconst 2, 1) := by decide +kernel
theorem dX12_readLawLine_52 : decode cX12_readLawLine 52 = .ok (.goto 4, 3) := by decide +kernel
theorem dX12_readLawLine_55 : decode cX12_readLawLine 55 = .ok (.iconst (-1), 1) := by decide +kernel
theorem dX12_readLawLine_56 : decode cX12_readLawLine 56 = .ok (.iastore, 1) := by decide +kernel
theorem dX12_readLawLine_57 : decode cX12_readLawLine 57 = .ok (.aload_n 0, 1) := by decide +kernel
theorem dX12_readLawLine_58 : decode cX12_readLawLine 58 = .ok (.getfield 13, 3) := by decide +kernel
theorem dX12_readLawLine_61 : decode cX12_readLawLine 61 = .ok (.iload_n 2, 1) := by decide +kernel
theorem dX12_readLawLine_62 : decode cX12_readLawLine 62 = .ok (.iaload, 1) := by decide +kernel
theorem dX12_readLawLine_63 : decode cX12_readLawLine 63 = .ok (.ifCond .ge 5, 3) := by decide +kernel
theorem dX12_readLawLine_66 : decode cX12_readLawLine 66 = .ok (.iconst 0, 1) := by decide +kernel
theorem dX12_readLawLine_67 : decode cX12_readLawLine 67 = .ok (.ireturn, 1) := by decide +kernel
theorem dX12_readLawLine_68 : decode cX12_readLawLine 68 = .ok (.aload_n 0, 1) := by decide +kernel
theorem dX12_readLawLine_69 : decode cX12_readLawLine 69 = .ok (.getfield 13, 3) := by decide +kernel
theorem dX12_readLawLine_72 : decode cX12_readLawLine 72 = .ok (.iload_n 2, 1) := by decide +kernel
theorem dX12_readLawLine_73 : decode cX12_readLawLine 73 = .ok (.iconst 1, 1) := by decide +kernel
theorem dX12_readLawLine_74 : decode cX12_readLawLine 74 = .ok (.iadd, 1) := by decide +kernel
theorem dX12_readLawLine_75 : decode cX12_readLawLine 75 = .ok (.aload_n 0, 1) := by decide +kernel
theorem dX12_readLawLine_76 : decode cX12_readLawLine 76 = .ok (.getfield 13, 3) := by decide +kernel
theorem dX12_readLawLine_79 : decode cX12_readLawLine 79 = .ok (.iload_n 2, 1) := by decide +kernel
theorem dX12_readLawLine_80 : decode cX12_readLawLine 80 = .ok (.iaload, 1) := by decide +kernel
theorem dX12_readLawLine_81 : decode cX12_readLawLine 81 = .ok (.iconst 2, 1) := by decide +kernel
theorem dX12_readLawLine_82 : decode cX12_readLawLine 82 = .ok (.if_icmp .ne 7, 3) := by decide +kernel
theorem dX12_readLawLine_85 : decode cX12_readLawLine 85 = .ok (.iconst 1, 1) := by decide +kernel
theorem dX12_readLawLine_86 : decode cX12_readLawLine 86 = .ok (.goto 10, 3) := by decide +kernel
theorem dX12_readLawLine_89 : decode cX12_readLawLine 89 = .ok (.aload_n 0, 1) := by decide +kernel
theorem dX12_readLawLine_90 : decode cX12_readLawLine 90 = .ok (.iconst 0, 1) := by decide +kernel
theorem dX12_readLawLine_91 : decode cX12_readLawLine 91 = .ok (.bipush 60, 2) := by decide +kernel
theorem dX12_readLawLine_93 : decode cX12_readLawLine 93 = .ok (.invokevirtual 131, 3) := by decide +kernel
theorem dX12_readLawLine_96 : decode cX12_readLawLine 96 = .ok (.iastore, 1) := by decide +kernel
theorem dX12_readLawLine_97 : decode cX12_readLawLine 97 = .ok (.aload_n 0, 1) := by decide +kernel
theorem dX12_readLawLine_98 : decode cX12_readLawLine 98 = .ok (.getfield 13, 3) := by decide +kernel
theorem dX12_readLawLine_101 : decode cX12_readLawLine 101 = .ok (.iload_n 2, 1) := by decide +kernel
theorem dX12_readLawLine_102 : decode cX12_readLawLine 102 = .ok (.iconst 1, 1) := by decide +kernel
theorem dX12_readLawLine_103 : decode cX12_readLawLine 103 = .ok (.iadd, 1) := by decide +kernel
theorem dX12_readLawLine_104 : decode cX12_readLawLine 104 = .ok (.iaload, 1) := by decide +kernel
theorem dX12_readLawLine_105 : decode cX12_readLawLine 105 = .ok (.ifCond .ge 5, 3) := by decide +kernel
theorem dX12_readLawLine_108 : decode cX12_readLawLine 108 = .ok (.iconst 0, 1) := by decide +kernel
theorem dX12_readLawLine_109 : decode cX12_readLawLine 109 = .ok (.ireturn, 1) := by decide +kernel
theorem dX12_readLawLine_110 : decode cX12_readLawLine 110 = .ok (.aload_n 0, 1) := by decide +kernel
theorem dX12_readLawLine_111 : decode cX12_readLawLine 111 = .ok (.getfield 13, 3) := by decide +kernel
theorem dX12_readLawLine_114 : decode cX12_readLawLine 114 = .ok (.iload_n 2, 1) := by decide +kernel
theorem dX12_readLawLine_115 : decode cX12_readLawLine 115 = .ok (.iconst 2, 1) := by decide +kernel
theorem dX12_readLawLine_116 : decode cX12_readLawLine 116 = .ok (.iadd, 1) := by decide +kernel
theorem dX12_readLawLine_117 : decode cX12_readLawLine 117 = .ok (.aload_n 0, 1) := by decide +kernel
theorem dX12_readLawLine_118 : decode cX12_readLawLine 118 = .ok (.getfield 215, 3) := by decide +kernel
theorem dX12_readLawLine_121 : decode cX12_readLawLine 121 = .ok (.iastore, 1) := by decide +kernel
theorem dX12_readLawLine_122 : decode cX12_readLawLine 122 = .ok (.aload_n 0, 1) := by decide +kernel
theorem dX12_readLawLine_123 : decode cX12_readLawLine 123 = .ok (.iconst 0, 1) := by decide +kernel
theorem dX12_readLawLine_124 : decode cX12_readLawLine 124 = .ok (.putfield 242, 3) := by decide +kernel
theorem dX12_readLawLine_127 : decode cX12_readLawLine 127 = .ok (.aload_n 0, 1) := by decide +kernel
theorem dX12_readLawLine_128 : decode cX12_readLawLine 128 = .ok (.ldc_w 272, 3) := by decide +kernel
theorem dX12_readLawLine_131 : decode cX12_readLawLine 131 = .ok (.invokevirtual 134, 3) := by decide +kernel
theorem dX12_readLawLine_134 : decode cX12_readLawLine 134 = .ok (.ifCond .eq 12, 3) := by decide +kernel
theorem dX12_readLawLine_137 : decode cX12_readLawLine 137 = .ok (.aload_n 0, 1) := by decide +kernel
theorem dX12_readLawLine_138 : decode cX12_readLawLine 138 = .ok (.invokevirtual 245, 3) := by decide +kernel
theorem dX12_readLawLine_141 : decode cX12_readLawLine 141 = .ok (.ifCond .ne 5, 3) := by decide +kernel
theorem dX12_readLawLine_144 : decode cX12_readLawLine 144 = .ok (.iconst 0, 1) := by decide +kernel
theorem dX12_readLawLine_145 : decode cX12_readLawLine 145 = .ok (.ireturn, 1) := by decide +kernel
theorem dX12_readLawLine_146 : decode cX12_readLawLine 146 = .ok (.aload_n 0, 1) := by decide +kernel
theorem dX12_readLawLine_147 : decode cX12_readLawLine 147 = .ok (.getfield 13, 3) := by decide +kernel
theorem dX12_readLawLine_150 : decode cX12_readLawLine 150 = .ok (.iload_n 2, 1) := by decide +kernel
theorem dX12_readLawLine_151 : decode cX12_readLawLine 151 = .ok (.iconst 3, 1) := by decide +kernel
theorem dX12_readLawLine_152 : decode cX12_readLawLine 152 = .ok (.iadd, 1) := by decide +kernel
theorem dX12_readLawLine_153 : decode cX12_readLawLine 153 = .ok (.aload_n 0, 1) := by decide +kernel
theorem dX12_readLawLine_154 : decode cX12_readLawLine 154 = .ok (.getfield 215, 3) := by decide +kernel
theorem dX12_readLawLine_157 : decode cX12_readLawLine 157 = .ok (.iastore, 1) := by decide +kernel
theorem dX12_readLawLine_158 : decode cX12_readLawLine 158 = .ok (.iconst 1, 1) := by decide +kernel
theorem dX12_readLawLine_159 : decode cX12_readLawLine 159 = .ok (.ireturn, 1) := by decide +kernel
