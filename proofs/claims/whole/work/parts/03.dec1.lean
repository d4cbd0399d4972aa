theorem dX5_reach_30 : decode cX5_reach 30 = .ok (.getfield 20, 3) := by decide +kernel
theorem dX5_reach_33 : decode cX5_reach 33 = .ok (.iload_n 1, 1) := by decide +kernel
theorem dX5_reach_34 : decode cX5_reach 34 = .ok (.iload_n 3, 1) := by decide +kernel
theorem dX5_reach_35 : decode cX5_reach 35 = .ok (.iastore, 1) := by decide +kernel
theorem dX5_reach_36 : decode cX5_reach 36 = .ok (.aload_n 0, 1) := by decide +kernel
theorem dX5_reach_37 : decode cX5_reach 37 = .ok (.getfield 13, 3) := by decide +kernel
theorem dX5_reach_40 : decode cX5_reach 40 = .ok (.aload_n 0, 1) := by decide +kernel
theorem dX5_reach_41 : decode cX5_reach 41 = .ok (.getfield 48, 3) := by decide +kernel
theorem dX5_reach_44 : decode cX5_reach 44 = .ok (.iload_n 1, 1) := by decide +kernel
theorem dX5_reach_45 : decode cX5_reach 45 = .ok (.iastore, 1) := by decide +kernel
theorem dX5_reach_46 : decode cX5_reach 46 = .ok (.aload_n 0, 1) := by decide +kernel
theorem dX5_reach_47 : decode cX5_reach 47 = .ok (.dup, 1) := by decide +kernel
theorem dX5_reach_48 : decode cX5_reach 48 = .ok (.getfield 48, 3) := by decide +kernel
theorem dX5_reach_51 : decode cX5_reach 51 = .ok (.iconst 1, 1) := by decide +kernel
theorem dX5_reach_52 : decode cX5_reach 52 = .ok (.iadd, 1) := by decide +kernel
theorem dX5_reach_53 : decode cX5_reach 53 = .ok (.putfield 48, 3) := by decide +kernel
theorem dX5_reach_56 : decode cX5_reach 56 = .ok (.return_, 1) := by decide +kernel
theorem dX5_writeRow_0 : decode cX5_writeRow 0 = .ok (.aload_n 0, 1) := by decide +kernel
theorem dX5_writeRow_1 : decode cX5_writeRow 1 = .ok (.getfield 28, 3) := by decide +kernel
theorem dX5_writeRow_4 : decode cX5_writeRow 4 = .ok (.iload_n 2, 1) := by decide +kernel
theorem dX5_writeRow_5 : decode cX5_writeRow 5 = .ok (.invokevirtual 77, 3) := by decide +kernel
theorem dX5_writeRow_8 : decode cX5_writeRow 8 = .ok (.pop, 1) := by decide +kernel
theorem dX5_writeRow_9 : decode cX5_writeRow 9 = .ok (.iload_n 1, 1) := by decide +kernel
theorem dX5_writeRow_10 : decode cX5_writeRow 10 = .ok (.istore_n 3, 1) := by decide +kernel
theorem dX5_writeRow_11 : decode cX5_writeRow 11 = .ok (.iconst 0, 1) := by decide +kernel
theorem dX5_writeRow_12 : decode cX5_writeRow 12 = .ok (.istore 4, 2) := by decide +kernel
theorem dX5_writeRow_14 : decode cX5_writeRow 14 = .ok (.iload 4, 2) := by decide +kernel
theorem dX5_writeRow_16 : decode cX5_writeRow 16 = .ok (.sipush 3072, 3) := by decide +kernel
theorem dX5_writeRow_19 : decode cX5_writeRow 19 = .ok (.if_icmp .ge 39, 3) := by decide +kernel
theorem dX5_writeRow_22 : decode cX5_writeRow 22 = .ok (.aload_n 0, 1) := by decide +kernel
theorem dX5_writeRow_23 : decode cX5_writeRow 23 = .ok (.getfield 17, 3) := by decide +kernel
theorem dX5_writeRow_26 : decode cX5_writeRow 26 = .ok (.iload_n 3, 1) := by decide +kernel
theorem dX5_writeRow_27 : decode cX5_writeRow 27 = .ok (.iaload, 1) := by decide +kernel
theorem dX5_writeRow_28 : decode cX5_writeRow 28 = .ok (.ifCond .lt 30, 3) := by decide +kernel
theorem dX5_writeRow_31 : decode cX5_writeRow 31 = .ok (.aload_n 0, 1) := by decide +kernel
theorem dX5_writeRow_32 : decode cX5_writeRow 32 = .ok (.getfield 28, 3) := by decide +kernel
theorem dX5_writeRow_35 : decode cX5_writeRow 35 = .ok (.aload_n 0, 1) := by decide +kernel
theorem dX5_writeRow_36 : decode cX5_writeRow 36 = .ok (.getfield 20, 3) := by decide +kernel
theorem dX5_writeRow_39 : decode cX5_writeRow 39 = .ok (.iload_n 3, 1) := by decide +kernel
theorem dX5_writeRow_40 : decode cX5_writeRow 40 = .ok (.iaload, 1) := by decide +kernel
theorem dX5_writeRow_41 : decode cX5_writeRow 41 = .ok (.invokevirtual 77, 3) := by decide +kernel
theorem dX5_writeRow_44 : decode cX5_writeRow 44 = .ok (.pop, 1) := by decide +kernel
theorem dX5_writeRow_45 : decode cX5_writeRow 45 = .ok (.aload_n 0, 1) := by decide +kernel
theorem dX5_writeRow_46 : decode cX5_writeRow 46 = .ok (.getfield 17, 3) := by decide +kernel
theorem dX5_writeRow_49 : decode cX5_writeRow 49 = .ok (.iload_n 3, 1) := by decide +kernel
theorem dX5_writeRow_50 : decode cX5_writeRow 50 = .ok (.iaload, 1) := by decide +kernel
theorem dX5_writeRow_51 : decode cX5_writeRow 51 = .ok (.istore_n 3, 1) := by decide +kernel
theorem dX5_writeRow_52 : decode cX5_writeRow 52 = .ok (.iinc 4 1, 3) := by decide +kernel
theorem dX5_writeRow_55 : decode cX5_writeRow 55 = .ok (.goto (-41), 3) := by decide +kernel
theorem dX5_writeRow_58 : decode cX5_writeRow 58 = .ok (.aload_n 0, 1) := by decide +kernel
theorem dX5_writeRow_59 : decode cX5_writeRow 59 = .ok (.getfield 28, 3) := by decide +kernel
theorem dX5_writeRow_62 : decode cX5_writeRow 62 = .ok (.invokevirtual 81, 3) := by decide +kernel
theorem dX5_writeRow_65 : decode cX5_writeRow 65 = .ok (.return_, 1) := by decide +kernel
theorem dX6_init_0 : decode cX6_init 0 = .ok (.aload_n 0, 1) := by decide +kernel
theorem dX6_init_1 : decode cX6_init 1 = .ok (.invokespecial 1, 3) := by decide +kernel
theorem dX6_init_4 : decode cX6_init 4 = .ok (.aload_n 0, 1) := by decide +kernel
theorem dX6_init_5 : decode cX6_init 5 = .ok (.iconst 5, 1) := by decide +kernel
theorem dX6_init_6 : decode cX6_init 6 = .ok (.newarray .int, 2) := by decide +kernel
theorem dX6_init_8 : decode cX6_init 8 = .ok (.putfield 9, 3) := by decide +kernel
theorem dX6_init_11 : decode cX6_init 11 = .ok (.aload_n 0, 1) := by decide +kernel
theorem dX6_init_12 : decode cX6_init 12 = .ok (.iconst 5, 1) := by decide +kernel
theorem dX6_init_13 : decode cX6_init 13 = .ok (.newarray .int, 2) := by decide +kernel
theorem dX6_init_15 : decode cX6_init 15 = .ok (.putfield 13, 3) := by decide +kernel
theorem dX6_init_18 : decode cX6_init 18 = .ok (.aload_n 0, 1) := by decide +kernel
theorem dX6_init_19 : decode cX6_init 19 = .ok (.iconst 5, 1) := by decide +kernel
theorem dX6_init_20 : decode cX6_init 20 = .ok (.newarray .int, 2) := by decide +kernel
theorem dX6_init_22 : decode cX6_init 22 = .ok (.putfield 16, 3) := by decide +kernel
theorem dX6_init_25 : decode cX6_init 25 = .ok (.aload_n 0, 1) := by decide +kernel
theorem dX6_init_26 : decode cX6_init 26 = .ok (.bipush 48, 2) := by decide +kernel
theorem dX6_init_28 : decode cX6_init 28 = .ok (.newarray .long, 2) := by decide +kernel
theorem dX6_init_30 : decode cX6_init 30 = .ok (.putfield 21, 3) := by decide +kernel
theorem dX6_init_33 : decode cX6_init 33 = .ok (.aload_n 0, 1) := by decide +kernel
theorem dX6_init_34 : decode cX6_init 34 = .ok (.bipush 48, 2) := by decide +kernel
theorem dX6_init_36 : decode cX6_init 36 = .ok (.newarray .long, 2) := by decide +kernel
theorem dX6_init_38 : decode cX6_init 38 = .ok (.putfield 25, 3) := by decide +kernel
theorem dX6_init_41 : decode cX6_init 41 = .ok (.return_, 1) := by decide +kernel
theorem dX6_clear_0 : decode cX6_clear 0 = .ok (.aload_n 0, 1) := by decide +kernel
theorem dX6_clear_1 : decode cX6_clear 1 = .ok (.iconst 0, 1) := by decide +kernel
theorem dX6_clear_2 : decode cX6_clear 2 = .ok (.putfield 28, 3) := by decide +kernel
theorem dX6_clear_5 : decode cX6_clear 5 = .ok (.return_, 1) := by decide +kernel
theorem dX6_add_0 : decode cX6_add 0 = .ok (.aload_n 0, 1) := by decide +kernel
theorem dX6_add_1 : decode cX6_add 1 = .ok (.getfield 28, 3) := by decide +kernel
theorem dX6_add_4 : decode cX6_add 4 = .ok (.iconst 5, 1) := by decide +kernel
theorem dX6_add_5 : decode cX6_add 5 = .ok (.if_icmp .ge 19, 3) := by decide +kernel
theorem dX6_add_8 : decode cX6_add 8 = .ok (.iload_n 2, 1) := by decide +kernel
theorem dX6_add_9 : decode cX6_add 9 = .ok (.ifCond .lt 15, 3) := by decide +kernel
theorem dX6_add_12 : decode cX6_add 12 = .ok (.iload_n 2, 1) := by decide +kernel
theorem dX6_add_13 : decode cX6_add 13 = .ok (.iload_n 3, 1) := by decide +kernel
theorem dX6_add_14 : decode cX6_add 14 = .ok (.if_icmp .gt 10, 3) := by decide +kernel
theorem dX6_add_17 : decode cX6_add 17 = .ok (.iload_n 3, 1) := by decide +kernel
theorem dX6_add_18 : decode cX6_add 18 = .ok (.sipush 200, 3) := by decide +kernel
theorem dX6_add_21 : decode cX6_add 21 = .ok (.if_icmp .le 5, 3) := by decide +kernel
theorem dX6_add_24 : decode cX6_add 24 = .ok (.iconst 0, 1) := by decide +kernel
theorem dX6_add_25 : decode cX6_add 25 = .ok (.ireturn, 1) := by decide +kernel
theorem dX6_add_26 : decode cX6_add 26 = .ok (.aload_n 0, 1) := by decide +kernel
theorem dX6_add_27 : decode cX6_add 27 = .ok (.getfield 9, 3) := by decide +kernel
theorem dX6_add_30 : decode cX6_add 30 = .ok (.aload_n 0, 1) := by decide +kernel
theorem dX6_add_31 : decode cX6_add 31 = .ok (.getfield 28, 3) := by decide +kernel
theorem dX6_add_34 : decode cX6_add 34 = .ok (.iload_n 1, 1) := by decide +kernel
theorem dX6_add_35 : decode cX6_add 35 = .ok (.iastore, 1) := by decide +kernel
theorem dX6_add_36 : decode cX6_add 36 = .ok (.aload_n 0, 1) := by decide +kernel
theorem dX6_add_37 : decode cX6_add 37 = .ok (.getfield 13, 3) := by decide +kernel
theorem dX6_add_40 : decode cX6_add 40 = .ok (.aload_n 0, 1) := by decide +kernel
theorem dX6_add_41 : decode cX6_add 41 = .ok (.getfield 28, 3) := by decide +kernel
theorem dX6_add_44 : decode cX6_add 44 = .ok (.iload_n 2, 1) := by decide +kernel
theorem dX6_add_45 : decode cX6_add 45 = .ok (.iastore, 1) := by decide +kernel
theorem dX6_add_46 : decode cX6_add 46 = .ok (.aload_n 0, 1) := by decide +kernel
theorem dX6_add_47 : decode cX6_add 47 = .ok (.getfield 16, 3) := by decide +kernel
theorem dX6_add_50 : decode cX6_add 50 = .ok (.aload_n 0, 1) := by decide +kernel
theorem dX6_add_51 : decode cX6_add 51 = .ok (.getfield 28, 3) := by decide +kernel
theorem dX6_add_54 : decode cX6_add 54 = .ok (.iload_n 3, 1) := by decide +kernel
theorem dX6_add_55 : decode cX6_add 55 = .ok (.iastore, 1) := by decide +kernel
theorem dX6_add_56 : decode cX6_add 56 = .ok (.aload_n 0, 1) := by decide +kernel
theorem dX6_add_57 : decode cX6_add 57 = .ok (.dup, 1) := by decide +kernel
theorem dX6_add_58 : decode cX6_add 58 = .ok (.getfield 28, 3) := by decide +kernel
theorem dX6_add_61 : decode cX6_add 61 = .ok (.iconst 1, 1) := by decide +kernel
theorem dX6_add_62 : decode cX6_add 62 = .ok (.iadd, 1) := by decide +kernel
theorem dX6_add_63 : decode cX6_add 63 = .ok (.putfield 28, 3) := by decide +kernel
theorem dX6_add_66 : decode cX6_add 66 = .ok (.iconst 1, 1) := by decide +kernel
theorem dX6_add_67 : decode cX6_add 67 = .ok (.ireturn, 1) := by decide +kernel
theorem dX6_mostTogether_0 : decode cX6_mostTogether 0 = .ok (.aload_n 0, 1) := by decide +kernel
theorem dX6_mostTogether_1 : decode cX6_mostTogether 1 = .ok (.getfield 25, 3) := by decide +kernel
theorem dX6_mostTogether_4 : decode cX6_mostTogether 4 = .ok (.lconst 0, 1) := by decide +kernel
theorem dX6_mostTogether_5 : decode cX6_mostTogether 5 = .ok (.invokestatic 32, 3) := by decide +kernel
theorem dX6_mostTogether_8 : decode cX6_mostTogether 8 = .ok (.aload_n 0, 1) := by decide +kernel
theorem dX6_mostTogether_9 : decode cX6_mostTogether 9 = .ok (.getfield 25, 3) := by decide +kernel
theorem dX6_mostTogether_12 : decode cX6_mostTogether 12 = .ok (.iconst 0, 1) := by decide +kernel
theorem dX6_mostTogether_13 : decode cX6_mostTogether 13 = .ok (.lconst 1, 1) := by decide +kernel
theorem dX6_mostTogether_14 : decode cX6_mostTogether 14 = .ok (.aload_n 1, 1) := by decide +kernel
theorem dX6_mostTogether_15 : decode cX6_mostTogether 15 = .ok (.getfield 38, 3) := by decide +kernel
theorem dX6_mostTogether_18 : decode cX6_mostTogether 18 = .ok (.lshl, 1) := by decide +kernel
theorem dX6_mostTogether_19 : decode cX6_mostTogether 19 = .ok (.lastore, 1) := by decide +kernel
theorem dX6_mostTogether_20 : decode cX6_mostTogether 20 = .ok (.aload_n 0, 1) := by decide +kernel
theorem dX6_mostTogether_21 : decode cX6_mostTogether 21 = .ok (.iconst 0, 1) := by decide +kernel
theorem dX6_mostTogether_22 : decode cX6_mostTogether 22 = .ok (.iconst 0, 1) := by decide +kernel
theorem dX6_mostTogether_23 : decode cX6_mostTogether 23 = .ok (.invokevirtual 41, 3) := by decide +kernel
theorem dX6_mostTogether_26 : decode cX6_mostTogether 26 = .ok (.istore_n 2, 1) := by decide +kernel
theorem dX6_mostTogether_27 : decode cX6_mostTogether 27 = .ok (.iconst 1, 1) := by decide +kernel
theorem dX6_mostTogether_28 : decode cX6_mostTogether 28 = .ok (.istore_n 3, 1) := by decide +kernel
theorem dX6_mostTogether_29 : decode cX6_mostTogether 29 = .ok (.iconst 0, 1) := by decide +kernel
theorem dX6_mostTogether_30 : decode cX6_mostTogether 30 = .ok (.istore 4, 2) := by decide +kernel
theorem dX6_mostTogether_32 : decode cX6_mostTogether 32 = .ok (.iload 4, 2) := by decide +kernel
theorem dX6_mostTogether_34 : decode cX6_mostTogether 34 = .ok (.sipush 200, 3) := by decide +kernel
theorem dX6_mostTogether_37 : decode cX6_mostTogether 37 = .ok (.if_icmp .ge 67, 3) := by decide +kernel
theorem dX6_mostTogether_40 : decode cX6_mostTogether 40 = .ok (.iload_n 3, 1) := by decide +kernel
theorem dX6_mostTogether_41 : decode cX6_mostTogether 41 = .ok (.ifCond .eq 63, 3) := by decide +kernel
theorem dX6_mostTogether_44 : decode cX6_mostTogether 44 = .ok (.iload_n 2, 1) := by decide +kernel
theorem dX6_mostTogether_45 : decode cX6_mostTogether 45 = .ok (.aload_n 0, 1) := by decide +kernel
theorem dX6_mostTogether_46 : decode cX6_mostTogether 46 = .ok (.getfield 28, 3) := by decide +kernel
theorem dX6_mostTogether_49 : decode cX6_mostTogether 49 = .ok (.if_icmp .ge 55, 3) := by decide +kernel
theorem dX6_mostTogether_52 : decode cX6_mostTogether 52 = .ok (.aload_n 0, 1) := by decide +kernel
theorem dX6_mostTogether_53 : decode cX6_mostTogether 53 = .ok (.getfield 21, 3) := by decide +kernel
theorem dX6_mostTogether_56 : decode cX6_mostTogether 56 = .ok (.astore 5, 2) := by decide +kernel
theorem dX6_mostTogether_58 : decode cX6_mostTogether 58 = .ok (.aload_n 0, 1) := by decide +kernel
theorem dX6_mostTogether_59 : decode cX6_mostTogether 59 = .ok (.aload_n 0, 1) := by decide +kernel
theorem dX6_mostTogether_60 : decode cX6_mostTogether 60 = .ok (.getfield 25, 3) := by decide +kernel
theorem dX6_mostTogether_63 : decode cX6_mostTogether 63 = .ok (.putfield 21, 3) := by decide +kernel
theorem dX6_mostTogether_66 : decode cX6_mostTogether 66 = .ok (.aload_n 0, 1) := by decide +kernel
theorem dX6_mostTogether_67 : decode cX6_mostTogether 67 = .ok (.aload 5, 2) := by decide +kernel
theorem dX6_mostTogether_69 : decode cX6_mostTogether 69 = .ok (.putfield 25, 3) := by decide +kernel
theorem dX6_mostTogether_72 : decode cX6_mostTogether 72 = .ok (.aload_n 0, 1) := by decide +kernel
theorem dX6_mostTogether_73 : decode cX6_mostTogether 73 = .ok (.getfield 25, 3) := by decide +kernel
theorem dX6_mostTogether_76 : decode cX6_mostTogether 76 = .ok (.lconst 0, 1) := by decide +kernel
theorem dX6_mostTogether_77 : decode cX6_mostTogether 77 = .ok (.invokestatic 32, 3) := by decide +kernel
theorem dX6_mostTogether_80 : decode cX6_mostTogether 80 = .ok (.aload_n 0, 1) := by decide +kernel
theorem dX6_mostTogether_81 : decode cX6_mostTogether 81 = .ok (.aload_n 1, 1) := by decide +kernel
theorem dX6_mostTogether_82 : decode cX6_mostTogether 82 = .ok (.iload 4, 2) := by decide +kernel
theorem dX6_mostTogether_84 : decode cX6_mostTogether 84 = .ok (.invokevirtual 45, 3) := by decide +kernel
theorem dX6_mostTogether_87 : decode cX6_mostTogether 87 = .ok (.istore_n 3, 1) := by decide +kernel
theorem dX6_mostTogether_88 : decode cX6_mostTogether 88 = .ok (.aload_n 0, 1) := by decide +kernel
theorem dX6_mostTogether_89 : decode cX6_mostTogether 89 = .ok (.iload 4, 2) := by decide +kernel
theorem dX6_mostTogether_91 : decode cX6_mostTogether 91 = .ok (.iconst 1, 1) := by decide +kernel
theorem dX6_mostTogether_92 : decode cX6_mostTogether 92 = .ok (.iadd, 1) := by decide +kernel
theorem dX6_mostTogether_93 : decode cX6_mostTogether 93 = .ok (.iload_n 2, 1) := by decide +kernel
theorem dX6_mostTogether_94 : decode cX6_mostTogether 94 = .ok (.invokevirtual 41, 3) := by decide +kernel
theorem dX6_mostTogether_97 : decode cX6_mostTogether 97 = .ok (.istore_n 2, 1) := by decide +kernel
theorem dX6_mostTogether_98 : decode cX6_mostTogether 98 = .ok (.iinc 4 1, 3) := by decide +kernel
theorem dX6_mostTogether_101 : decode cX6_mostTogether 101 = .ok (.goto (-69), 3) := by decide +kernel
theorem dX6_mostTogether_104 : decode cX6_mostTogether 104 = .ok (.iload_n 2, 1) := by decide +kernel
theorem dX6_mostTogether_105 : decode cX6_mostTogether 105 = .ok (.ireturn, 1) := by decide +kernel
theorem dX6_countDone_0 : decode cX6_countDone 0 = .ok (.iload_n 2, 1) := by decide +kernel
theorem dX6_countDone_1 : decode cX6_countDone 1 = .ok (.istore_n 3, 1) := by decide +kernel
theorem dX6_countDone_2 : decode cX6_countDone 2 = .ok (.iconst 0, 1) := by decide +kernel
theorem dX6_countDone_3 : decode cX6_countDone 3 = .ok (.istore 4, 2) := by decide +kernel
theorem dX6_countDone_5 : decode cX6_countDone 5 = .ok (.iload 4, 2) := by decide +kernel
theorem dX6_countDone_7 : decode cX6_countDone 7 = .ok (.aload_n 0, 1) := by decide +kernel
theorem dX6_countDone_8 : decode cX6_countDone 8 = .ok (.getfield 28, 3) := by decide +kernel
theorem dX6_countDone_11 : decode cX6_countDone 11 = .ok (.if_icmp .ge 126, 3) := by decide +kernel
theorem dX6_countDone_14 : decode cX6_countDone 14 = .ok (.iload_n 1, 1) := by decide +kernel
theorem dX6_countDone_15 : decode cX6_countDone 15 = .ok (.aload_n 0, 1) := by decide +kernel
theorem dX6_countDone_16 : decode cX6_countDone 16 = .ok (.getfield 13, 3) := by decide +kernel
theorem dX6_countDone_19 : decode cX6_countDone 19 = .ok (.iload 4, 2) := by decide +kernel
theorem dX6_countDone_21 : decode cX6_countDone 21 = .ok (.iaload, 1) := by decide +kernel
theorem dX6_countDone_22 : decode cX6_countDone 22 = .ok (.if_icmp .lt 109, 3) := by decide +kernel
theorem dX6_countDone_25 : decode cX6_countDone 25 = .ok (.iload_n 1, 1) := by decide +kernel
theorem dX6_countDone_26 : decode cX6_countDone 26 = .ok (.aload_n 0, 1) := by decide +kernel
theorem dX6_countDone_27 : decode cX6_countDone 27 = .ok (.getfield 16, 3) := by decide +kernel
theorem dX6_countDone_30 : decode cX6_countDone 30 = .ok (.iload 4, 2) := by decide +kernel
theorem dX6_countDone_32 : decode cX6_countDone 32 = .ok (.iaload, 1) := by decide +kernel
theorem dX6_countDone_33 : decode cX6_countDone 33 = .ok (.if_icmp .le 6, 3) := by decide +kernel
theorem dX6_countDone_36 : decode cX6_countDone 36 = .ok (.goto 95, 3) := by decide +kernel
theorem dX6_countDone_39 : decode cX6_countDone 39 = .ok (.iconst 0, 1) := by decide +kernel
theorem dX6_countDone_40 : decode cX6_countDone 40 = .ok (.istore 5, 2) := by decide +kernel
theorem dX6_countDone_42 : decode cX6_countDone 42 = .ok (.iload 5, 2) := by decide +kernel
theorem dX6_countDone_44 : decode cX6_countDone 44 = .ok (.bipush 8, 2) := by decide +kernel
theorem dX6_countDone_46 : decode cX6_countDone 46 = .ok (.if_icmp .ge 85, 3) := by decide +kernel
theorem dX6_countDone_49 : decode cX6_countDone 49 = .ok (.iload 4, 2) := by decide +kernel
theorem dX6_countDone_51 : decode cX6_countDone 51 = .ok (.bipush 8, 2) := by decide +kernel
theorem dX6_countDone_53 : decode cX6_countDone 53 = .ok (.imul, 1) := by decide +kernel
theorem dX6_countDone_54 : decode cX6_countDone 54 = .ok (.iload 5, 2) := by decide +kernel
theorem dX6_countDone_56 : decode cX6_countDone 56 = .ok (.iadd, 1) := by decide +kernel
theorem dX6_countDone_57 : decode cX6_countDone 57 = .ok (.istore 6, 2) := by decide +kernel
theorem dX6_countDone_59 : decode cX6_countDone 59 = .ok (.aload_n 0, 1) := by decide +kernel
theorem dX6_countDone_60 : decode cX6_countDone 60 = .ok (.getfield 25, 3) := by decide +kernel
theorem dX6_countDone_63 : decode cX6_countDone 63 = .ok (.iload 6, 2) := by decide +kernel
theorem dX6_countDone_65 : decode cX6_countDone 65 = .ok (.laload, 1) := by decide +kernel
theorem dX6_countDone_66 : decode cX6_countDone 66 = .ok (.lconst 1, 1) := by decide +kernel
theorem dX6_countDone_67 : decode cX6_countDone 67 = .ok (.aload_n 0, 1) := by decide +kernel
theorem dX6_countDone_68 : decode cX6_countDone 68 = .ok (.getfield 9, 3) := by decide +kernel
theorem dX6_countDone_71 : decode cX6_countDone 71 = .ok (.iload 4, 2) := by decide +kernel
theorem dX6_countDone_73 : decode cX6_countDone 73 = .ok (.iaload, 1) := by decide +kernel
theorem dX6_countDone_74 : decode cX6_countDone 74 = .ok (.lshl, 1) := by decide +kernel
theorem dX6_countDone_75 : decode cX6_countDone 75 = .ok (.land, 1) := by decide +kernel
theorem dX6_countDone_76 : decode cX6_countDone 76 = .ok (.lstore 7, 2) := by decide +kernel
theorem dX6_countDone_78 : decode cX6_countDone 78 = .ok (.aload_n 0, 1) := by decide +kernel
theorem dX6_countDone_79 : decode cX6_countDone 79 = .ok (.getfield 25, 3) := by decide +kernel
theorem dX6_countDone_82 : decode cX6_countDone 82 = .ok (.iload 6, 2) := by decide +kernel
theorem dX6_countDone_84 : decode cX6_countDone 84 = .ok (.dup2, 1) := by decide +kernel
theorem dX6_countDone_85 : decode cX6_countDone 85 = .ok (.laload, 1) := by decide +kernel
theorem dX6_countDone_86 : decode cX6_countDone 86 = .ok (.lload 7, 2) := by decide +kernel
theorem dX6_countDone_88 : decode cX6_countDone 88 = .ok (.ldc2_w 49, 3) := by decide +kernel
theorem dX6_countDone_91 : decode cX6_countDone 91 = .ok (.lxor, 1) := by decide +kernel
theorem dX6_countDone_92 : decode cX6_countDone 92 = .ok (.land, 1) := by decide +kernel
theorem dX6_countDone_93 : decode cX6_countDone 93 = .ok (.lastore, 1) := by decide +kernel
theorem dX6_countDone_94 : decode cX6_countDone 94 = .ok (.aload_n 0, 1) := by decide +kernel
theorem dX6_countDone_95 : decode cX6_countDone 95 = .ok (.getfield 25, 3) := by decide +kernel
theorem dX6_countDone_98 : decode cX6_countDone 98 = .ok (.iload 6, 2) := by decide +kernel
theorem dX6_countDone_100 : decode cX6_countDone 100 = .ok (.bipush 8, 2) := by decide +kernel
theorem dX6_countDone_102 : decode cX6_countDone 102 = .ok (.iadd, 1) := by decide +kernel
theorem dX6_countDone_103 : decode cX6_countDone 103 = .ok (.dup2, 1) := by decide +kernel
theorem dX6_countDone_104 : decode cX6_countDone 104 = .ok (.laload, 1) := by decide +kernel
theorem dX6_countDone_105 : decode cX6_countDone 105 = .ok (.lload 7, 2) := by decide +kernel
theorem dX6_countDone_107 : decode cX6_countDone 107 = .ok (.lor, 1) := by decide +kernel
theorem dX6_countDone_108 : decode cX6_countDone 108 = .ok (.lastore, 1) := by decide +kernel
theorem dX6_countDone_109 : decode cX6_countDone 109 = .ok (.lload 7, 2) := by decide +kernel
theorem dX6_countDone_111 : decode cX6_countDone 111 = .ok (.lconst 0, 1) := by decide +kernel
theorem dX6_countDone_112 : decode cX6_countDone 112 = .ok (.lcmp, 1) := by decide +kernel
theorem dX6_countDone_113 : decode cX6_countDone 113 = .ok (.ifCond .eq 12, 3) := by decide +kernel
theorem dX6_countDone_116 : decode cX6_countDone 116 = .ok (.iload_n 3, 1) := by decide +kernel
theorem dX6_countDone_117 : decode cX6_countDone 117 = .ok (.iload 4, 2) := by decide +kernel
theorem dX6_countDone_119 : decode cX6_countDone 119 = .ok (.iconst 1, 1) := by decide +kernel
theorem dX6_countDone_120 : decode cX6_countDone 120 = .ok (.iadd, 1) := by decide +kernel
theorem dX6_countDone_121 : decode cX6_countDone 121 = .ok (.invokestatic 51, 3) := by decide +kernel
theorem dX6_countDone_124 : decode cX6_countDone 124 = .ok (.istore_n 3, 1) := by decide +kernel
theorem dX6_countDone_125 : decode cX6_countDone 125 = .ok (.iinc 5 1, 3) := by decide +kernel
theorem dX6_countDone_128 : decode cX6_countDone 128 = .ok (.goto (-86), 3) := by decide +kernel
theorem dX6_countDone_131 : decode cX6_countDone 131 = .ok (.iinc 4 1, 3) := by decide +kernel
theorem dX6_countDone_134 : decode cX6_countDone 134 = .ok (.goto (-129), 3) := by decide +kernel
theorem dX6_countDone_137 : decode cX6_countDone 137 = .ok (.iload_n 3, 1) := by decide +kernel
theorem dX6_countDone_138 : decode cX6_countDone 138 = .ok (.ireturn, 1) := by decide +kernel
theorem dX6_goOn_0 : decode cX6_goOn 0 = .ok (.iload_n 2, 1) := by decide +kernel
theorem dX6_goOn_1 : decode cX6_goOn 1 = .ok (.ifCond .ne 7, 3) := by decide +kernel
theorem dX6_goOn_4 : decode cX6_goOn 4 = .ok (.lconst 0, 1) := by decide +kernel
theorem dX6_goOn_5 : decode cX6_goOn 5 = .ok (.goto 7, 3) := by decide +kernel
theorem dX6_goOn_8 : decode cX6_goOn 8 = .ok (.aload_n 1, 1) := by decide +kernel
theorem dX6_goOn_9 : decode cX6_goOn 9 = .ok (.getfield 56, 3) := by decide +kernel
theorem dX6_goOn_12 : decode cX6_goOn 12 = .ok (.lstore_n 3, 1) := by decide +kernel
theorem dX6_goOn_13 : decode cX6_goOn 13 = .ok (.iconst 0, 1) := by decide +kernel
theorem dX6_goOn_14 : decode cX6_goOn 14 = .ok (.istore 5, 2) := by decide +kernel
theorem dX6_goOn_16 : decode cX6_goOn 16 = .ok (.iconst 0, 1) := by decide +kernel
theorem dX6_goOn_17 : decode cX6_goOn 17 = .ok (.istore 6, 2) := by decide +kernel
theorem dX6_goOn_19 : decode cX6_goOn 19 = .ok (.iload 6, 2) := by decide +kernel
theorem dX6_goOn_21 : decode cX6_goOn 21 = .ok (.aload_n 0, 1) := by decide +kernel
theorem dX6_goOn_22 : decode cX6_goOn 22 = .ok (.getfield 28, 3) := by decide +kernel
theorem dX6_goOn_25 : decode cX6_goOn 25 = .ok (.if_icmp .ge 85, 3) := by decide +kernel
theorem dX6_goOn_28 : decode cX6_goOn 28 = .ok (.iconst 0, 1) := by decide +kernel
theorem dX6_goOn_29 : decode cX6_goOn 29 = .ok (.istore 7, 2) := by decide +kernel
theorem dX6_goOn_31 : decode cX6_goOn 31 = .ok (.iload 7, 2) := by decide +kernel
theorem dX6_goOn_33 : decode cX6_goOn 33 = .ok (.bipush 8, 2) := by decide +kernel
theorem dX6_goOn_35 : decode cX6_goOn 35 = .ok (.if_icmp .ge 69, 3) := by decide +kernel
theorem dX6_goOn_38 : decode cX6_goOn 38 = .ok (.iload_n 2, 1) := by decide +kernel
theorem dX6_goOn_39 : decode cX6_goOn 39 = .ok (.aload_n 0, 1) := by decide +kernel
theorem dX6_goOn_40 : decode cX6_goOn 40 = .ok (.getfield 16, 3) := by decide +kernel
theorem dX6_goOn_43 : decode cX6_goOn 43 = .ok (.iload 6, 2) := by decide +kernel
theorem dX6_goOn_45 : decode cX6_goOn 45 = .ok (.iaload, 1) := by decide +kernel
theorem dX6_goOn_46 : decode cX6_goOn 46 = .ok (.if_icmp .ge 58, 3) := by decide +kernel
theorem dX6_goOn_49 : decode cX6_goOn 49 = .ok (.aload_n 0, 1) := by decide +kernel
theorem dX6_goOn_50 : decode cX6_goOn 50 = .ok (.getfield 21, 3) := by decide +kernel
theorem dX6_goOn_53 : decode cX6_goOn 53 = .ok (.iload 6, 2) := by decide +kernel
theorem dX6_goOn_55 : decode cX6_goOn 55 = .ok (.bipush 8, 2) := by decide +kernel
theorem dX6_goOn_57 : decode cX6_goOn 57 = .ok (.imul, 1) := by decide +kernel
theorem dX6_goOn_58 : decode cX6_goOn 58 = .ok (.iload 7, 2) := by decide +kernel
theorem dX6_goOn_60 : decode cX6_goOn 60 = .ok (.iadd, 1) := by decide +kernel
theorem dX6_goOn_61 : decode cX6_goOn 61 = .ok (.laload, 1) := by decide +kernel
theorem dX6_goOn_62 : decode cX6_goOn 62 = .ok (.lload_n 3, 1) := by decide +kernel
theorem dX6_goOn_63 : decode cX6_goOn 63 = .ok (.ldc2_w 49, 3) := by decide +kernel
theorem dX6_goOn_66 : decode cX6_goOn 66 = .ok (.lxor, 1) := by decide +kernel
theorem dX6_goOn_67 : decode cX6_goOn 67 = .ok (.land, 1) := by decide +kernel
theorem dX6_goOn_68 : decode cX6_goOn 68 = .ok (.lstore 8, 2) := by decide +kernel
theorem dX6_goOn_70 : decode cX6_goOn 70 = .ok (.lload 8, 2) := by decide +kernel
theorem dX6_goOn_72 : decode cX6_goOn 72 = .ok (.lconst 0, 1) := by decide +kernel
theorem dX6_goOn_73 : decode cX6_goOn 73 = .ok (.lcmp, 1) := by decide +kernel
theorem dX6_goOn_74 : decode cX6_goOn 74 = .ok (.ifCond .eq 24, 3) := by decide +kernel
theorem dX6_goOn_77 : decode cX6_goOn 77 = .ok (.aload_n 0, 1) := by decide +kernel
theorem dX6_goOn_78 : decode cX6_goOn 78 = .ok (.aload_n 1, 1) := by decide +kernel
theorem dX6_goOn_79 : decode cX6_goOn 79 = .ok (.aload_n 1, 1) := by decide +kernel
theorem dX6_goOn_80 : decode cX6_goOn 80 = .ok (.lload 8, 2) := by decide +kernel
theorem dX6_goOn_82 : decode cX6_goOn 82 = .ok (.iload 7, 2) := by decide +kernel
theorem dX6_goOn_84 : decode cX6_goOn 84 = .ok (.iload_n 2, 1) := by decide +kernel
theorem dX6_goOn_85 : decode cX6_goOn 85 = .ok (.invokevirtual 60, 3) := by decide +kernel
theorem dX6_goOn_88 : decode cX6_goOn 88 = .ok (.iload 6, 2) := by decide +kernel
theorem dX6_goOn_90 : decode cX6_goOn 90 = .ok (.iload 7, 2) := by decide +kernel
theorem dX6_goOn_92 : decode cX6_goOn 92 = .ok (.invokevirtual 64, 3) := by decide +kernel
theorem dX6_goOn_95 : decode cX6_goOn 95 = .ok (.iconst 1, 1) := by decide +kernel
theorem dX6_goOn_96 : decode cX6_goOn 96 = .ok (.istore 5, 2) := by decide +kernel
theorem dX6_goOn_98 : decode cX6_goOn 98 = .ok (.iinc 7 1, 3) := by decide +kernel
theorem dX6_goOn_101 : decode cX6_goOn 101 = .ok (.goto (-70), 3) := by decide +kernel
theorem dX6_goOn_104 : decode cX6_goOn 104 = .ok (.iinc 6 1, 3) := by decide +kernel
theorem dX6_goOn_107 : decode cX6_goOn 107 = .ok (.goto (-88), 3) := by decide +kernel
theorem dX6_goOn_110 : decode cX6_goOn 110 = .ok (.iload 5, 2) := by decide +kernel
theorem dX6_goOn_112 : decode cX6_goOn 112 = .ok (.ireturn, 1) := by decide +kernel
theorem dX6_arrive_0 : decode cX6_arrive 0 = .ok (.lload_n 2, 1) := by decide +kernel
theorem dX6_arrive_1 : decode cX6_arrive 1 = .ok (.lstore 6, 2) := by decide +kernel
theorem dX6_arrive_3 : decode cX6_arrive 3 = .ok (.iconst 0, 1) := by decide +kernel
theorem dX6_arrive_4 : decode cX6_arrive 4 = .ok (.istore 8, 2) := by decide +kernel
theorem dX6_arrive_6 : decode cX6_arrive 6 = .ok (.iload 8, 2) := by decide +kernel
theorem dX6_arrive_8 : decode cX6_arrive 8 = .ok (.iconst 3, 1) := by decide +kernel
theorem dX6_arrive_9 : decode cX6_arrive 9 = .ok (.if_icmp .ge 54, 3) := by decide +kernel
theorem dX6_arrive_12 : decode cX6_arrive 12 = .ok (.lload_n 2, 1) := by decide +kernel
theorem dX6_arrive_13 : decode cX6_arrive 13 = .ok (.aload_n 1, 1) := by decide +kernel
theorem dX6_arrive_14 : decode cX6_arrive 14 = .ok (.getfield 68, 3) := by decide +kernel
theorem dX6_arrive_17 : decode cX6_arrive 17 = .ok (.iload 8, 2) := by decide +kernel
theorem dX6_arrive_19 : decode cX6_arrive 19 = .ok (.laload, 1) := by decide +kernel
theorem dX6_arrive_20 : decode cX6_arrive 20 = .ok (.land, 1) := by decide +kernel
theorem dX6_arrive_21 : decode cX6_arrive 21 = .ok (.lstore 9, 2) := by decide +kernel
theorem dX6_arrive_23 : decode cX6_arrive 23 = .ok (.aload_n 0, 1) := by decide +kernel
theorem dX6_arrive_24 : decode cX6_arrive 24 = .ok (.getfield 25, 3) := by decide +kernel
theorem dX6_arrive_27 : decode cX6_arrive 27 = .ok (.iload 4, 2) := by decide +kernel
theorem dX6_arrive_29 : decode cX6_arrive 29 = .ok (.bipush 8, 2) := by decide +kernel
theorem dX6_arrive_31 : decode cX6_arrive 31 = .ok (.imul, 1) := by decide +kernel
theorem dX6_arrive_32 : decode cX6_arrive 32 = .ok (.iload 5, 2) := by decide +kernel
theorem dX6_arrive_34 : decode cX6_arrive 34 = .ok (.iconst 1, 1) := by decide +kernel
theorem dX6_arrive_35 : decode cX6_arrive 35 = .ok (.iload 8, 2) := by decide +kernel
theorem dX6_arrive_37 : decode cX6_arrive 37 = .ok (.ishl, 1) := by decide +kernel
theorem dX6_arrive_38 : decode cX6_arrive 38 = .ok (.ior, 1) := by decide +kernel
theorem dX6_arrive_39 : decode cX6_arrive 39 = .ok (.iadd, 1) := by decide +kernel
theorem dX6_arrive_40 : decode cX6_arrive 40 = .ok (.dup2, 1) := by decide +kernel
theorem dX6_arrive_41 : decode cX6_arrive 41 = .ok (.laload, 1) := by decide +kernel
theorem dX6_arrive_42 : decode cX6_arrive 42 = .ok (.lload 9, 2) := by decide +kernel
theorem dX6_arrive_44 : decode cX6_arrive 44 = .ok (.lor, 1) := by decide +kernel
theorem dX6_arrive_45 : decode cX6_arrive 45 = .ok (.lastore, 1) := by decide +kernel
theorem dX6_arrive_46 : decode cX6_arrive 46 = .ok (.lload 6, 2) := by decide +kernel
theorem dX6_arrive_48 : decode cX6_arrive 48 = .ok (.lload 9, 2) := by decide +kernel
theorem dX6_arrive_50 : decode cX6_arrive 50 = .ok (.ldc2_w 49, 3) := by decide +kernel
theorem dX6_arrive_53 : decode cX6_arrive 53 = .ok (.lxor, 1) := by decide +kernel
theorem dX6_arrive_54 : decode cX6_arrive 54 = .ok (.land, 1) := by decide +kernel
theorem dX6_arrive_55 : decode cX6_arrive 55 = .ok (.lstore 6, 2) := by decide +kernel
theorem dX6_arrive_57 : decode cX6_arrive 57 = .ok (.iinc 8 1, 3) := by decide +kernel
theorem dX6_arrive_60 : decode cX6_arrive 60 = .ok (.goto (-54), 3) := by decide +kernel
theorem dX6_arrive_63 : decode cX6_arrive 63 = .ok (.aload_n 0, 1) := by decide +kernel
theorem dX6_arrive_64 : decode cX6_arrive 64 = .ok (.getfield 25, 3) := by decide +kernel
theorem dX6_arrive_67 : decode cX6_arrive 67 = .ok (.iload 4, 2) := by decide +kernel
theorem dX6_arrive_69 : decode cX6_arrive 69 = .ok (.bipush 8, 2) := by decide +kernel
theorem dX6_arrive_71 : decode cX6_arrive 71 = .ok (.imul, 1) := by decide +kernel
theorem dX6_arrive_72 : decode cX6_arrive 72 = .ok (.iload 5, 2) := by decide +kernel
theorem dX6_arrive_74 : decode cX6_arrive 74 = .ok (.iadd, 1) := by decide +kernel
theorem dX6_arrive_75 : decode cX6_arrive 75 = .ok (.dup2, 1) := by decide +kernel
theorem dX6_arrive_76 : decode cX6_arrive 76 = .ok (.laload, 1) := by decide +kernel
theorem dX6_arrive_77 : decode cX6_arrive 77 = .ok (.lload 6, 2) := by decide +kernel
theorem dX6_arrive_79 : decode cX6_arrive 79 = .ok (.lor, 1) := by decide +kernel
theorem dX6_arrive_80 : decode cX6_arrive 80 = .ok (.lastore, 1) := by decide +kernel
theorem dX6_arrive_81 : decode cX6_arrive 81 = .ok (.return_, 1) := by decide +kernel
theorem dX7_init_0 : decode cX7_init 0 = .ok (.aload_n 0, 1) := by decide +kernel
theorem dX7_init_1 : decode cX7_init 1 = .ok (.invokespecial 1, 3) := by decide +kernel
theorem dX7_init_4 : decode cX7_init 4 = .ok (.aload_n 0, 1) := by decide +kernel
theorem dX7_init_5 : decode cX7_init 5 = .ok (.new 7, 3) := by decide +kernel
theorem dX7_init_8 : decode cX7_init 8 = .ok (.dup, 1) := by decide +kernel
theorem dX7_init_9 : decode cX7_init 9 = .ok (.invokespecial 9, 3) := by decide +kernel
theorem dX7_init_12 : decode cX7_init 12 = .ok (.putfield 10, 3) := by decide +kernel
theorem dX7_init_15 : decode cX7_init 15 = .ok (.aload_n 0, 1) := by decide +kernel
theorem dX7_init_16 : decode cX7_init 16 = .ok (.new 16, 3) := by decide +kernel
theorem dX7_init_19 : decode cX7_init 19 = .ok (.dup, 1) := by decide +kernel
theorem dX7_init_20 : decode cX7_init 20 = .ok (.invokespecial 18, 3) := by decide +kernel
theorem dX7_init_23 : decode cX7_init 23 = .ok (.putfield 19, 3) := by decide +kernel
theorem dX7_init_26 : decode cX7_init 26 = .ok (.aload_n 0, 1) := by decide +kernel
theorem dX7_init_27 : decode cX7_init 27 = .ok (.iconst 4, 1) := by decide +kernel
theorem dX7_init_28 : decode cX7_init 28 = .ok (.anewarray 16, 3) := by decide +kernel
theorem dX7_init_31 : decode cX7_init 31 = .ok (.putfield 23, 3) := by decide +kernel
theorem dX7_init_34 : decode cX7_init 34 = .ok (.iconst 0, 1) := by decide +kernel
theorem dX7_init_35 : decode cX7_init 35 = .ok (.istore_n 1, 1) := by decide +kernel
theorem dX7_init_36 : decode cX7_init 36 = .ok (.iload_n 1, 1) := by decide +kernel
theorem dX7_init_37 : decode cX7_init 37 = .ok (.iconst 4, 1) := by decide +kernel
theorem dX7_init_38 : decode cX7_init 38 = .ok (.if_icmp .ge 22, 3) := by decide +kernel
theorem dX7_init_41 : decode cX7_init 41 = .ok (.aload_n 0, 1) := by decide +kernel
theorem dX7_init_42 : decode cX7_init 42 = .ok (.getfield 23, 3) := by decide +kernel
theorem dX7_init_45 : decode cX7_init 45 = .ok (.iload_n 1, 1) := by decide +kernel
theorem dX7_init_46 : decode cX7_init 46 = .ok (.new 16, 3) := by decide +kernel
theorem dX7_init_49 : decode cX7_init 49 = .ok (.dup, 1) := by decide +kernel
theorem dX7_init_50 : decode cX7_init 50 = .ok (.invokespecial 18, 3) := by decide +kernel
theorem dX7_init_53 : decode cX7_init 53 = .ok (.aastore, 1) := by decide +kernel
theorem dX7_init_54 : decode cX7_init 54 = .ok (.iinc 1 1, 3) := by decide +kernel
theorem dX7_init_57 : decode cX7_init 57 = .ok (.goto (-21), 3) := by decide +kernel
theorem dX7_init_60 : decode cX7_init 60 = .ok (.aload_n 0, 1) := by decide +kernel
theorem dX7_init_61 : decode cX7_init 61 = .ok (.iconst 4, 1) := by decide +kernel
theorem dX7_init_62 : decode cX7_init 62 = .ok (.newarray .boolean, 2) := by decide +kernel
theorem dX7_init_64 : decode cX7_init 64 = .ok (.putfield 27, 3) := by decide +kernel
theorem dX7_init_67 : decode cX7_init 67 = .ok (.aload_n 0, 1) := by decide +kernel
theorem dX7_init_68 : decode cX7_init 68 = .ok (.new 31, 3) := by decide +kernel
theorem dX7_init_71 : decode cX7_init 71 = .ok (.dup, 1) := by decide +kernel
theorem dX7_init_72 : decode cX7_init 72 = .ok (.invokespecial 33, 3) := by decide +kernel
theorem dX7_init_75 : decode cX7_init 75 = .ok (.putfield 34, 3) := by decide +kernel
theorem dX7_init_78 : decode cX7_init 78 = .ok (.aload_n 0, 1) := by decide +kernel
theorem dX7_init_79 : decode cX7_init 79 = .ok (.new 38, 3) := by decide +kernel
theorem dX7_init_82 : decode cX7_init 82 = .ok (.dup, 1) := by decide +kernel
theorem dX7_init_83 : decode cX7_init 83 = .ok (.sipush 400, 3) := by decide +kernel
theorem dX7_init_86 : decode cX7_init 86 = .ok (.invokespecial 40, 3) := by decide +kernel
theorem dX7_init_89 : decode cX7_init 89 = .ok (.putfield 43, 3) := by decide +kernel
theorem dX7_init_92 : decode cX7_init 92 = .ok (.aload_n 0, 1) := by decide +kernel
theorem dX7_init_93 : decode cX7_init 93 = .ok (.new 47, 3) := by decide +kernel
theorem dX7_init_96 : decode cX7_init 96 = .ok (.dup, 1) := by decide +kernel
theorem dX7_init_97 : decode cX7_init 97 = .ok (.invokespecial 49, 3) := by decide +kernel
theorem dX7_init_100 : decode cX7_init 100 = .ok (.putfield 50, 3) := by decide +kernel
theorem dX7_init_103 : decode cX7_init 103 = .ok (.aload_n 0, 1) := by decide +kernel
theorem dX7_init_104 : decode cX7_init 104 = .ok (.new 54, 3) := by decide +kernel
theorem dX7_init_107 : decode cX7_init 107 = .ok (.dup, 1) := by decide +kernel
theorem dX7_init_108 : decode cX7_init 108 = .ok (.invokespecial 56, 3) := by decide +kernel
theorem dX7_init_111 : decode cX7_init 111 = .ok (.putfield 57, 3) := by decide +kernel
theorem dX7_init_114 : decode cX7_init 114 = .ok (.return_, 1) := by decide +kernel
theorem dX7_board_0 : decode cX7_board 0 = .ok (.iload_n 1, 1) := by decide +kernel
theorem dX7_board_1 : decode cX7_board 1 = .ok (.invokestatic 61, 3) := by decide +kernel
theorem dX7_board_4 : decode cX7_board 4 = .ok (.ifCond .eq 10, 3) := by decide +kernel
theorem dX7_board_7 : decode cX7_board 7 = .ok (.iload_n 2, 1) := by decide +kernel
theorem dX7_board_8 : decode cX7_board 8 = .ok (.invokestatic 61, 3) := by decide +kernel
theorem dX7_board_11 : decode cX7_board 11 = .ok (.ifCond .ne 5, 3) := by decide +kernel
theorem dX7_board_14 : decode cX7_board 14 = .ok (.iconst 0, 1) := by decide +kernel
theorem dX7_board_15 : decode cX7_board 15 = .ok (.ireturn, 1) := by decide +kernel
theorem dX7_board_16 : decode cX7_board 16 = .ok (.aload_n 0, 1) := by decide +kernel
theorem dX7_board_17 : decode cX7_board 17 = .ok (.getfield 10, 3) := by decide +kernel
theorem dX7_board_20 : decode cX7_board 20 = .ok (.iload_n 1, 1) := by decide +kernel
theorem dX7_board_21 : decode cX7_board 21 = .ok (.iload_n 2, 1) := by decide +kernel
theorem dX7_board_22 : decode cX7_board 22 = .ok (.invokevirtual 65, 3) := by decide +kernel
theorem dX7_board_25 : decode cX7_board 25 = .ok (.aload_n 0, 1) := by decide +kernel
theorem dX7_board_26 : decode cX7_board 26 = .ok (.getfield 50, 3) := by decide +kernel
theorem dX7_board_29 : decode cX7_board 29 = .ok (.invokevirtual 69, 3) := by decide +kernel
theorem dX7_board_32 : decode cX7_board 32 = .ok (.aload_n 0, 1) := by decide +kernel
theorem dX7_board_33 : decode cX7_board 33 = .ok (.getfield 43, 3) := by decide +kernel
theorem dX7_board_36 : decode cX7_board 36 = .ok (.invokevirtual 72, 3) := by decide +kernel
theorem dX7_board_39 : decode cX7_board 39 = .ok (.aload_n 0, 1) := by decide +kernel
theorem dX7_board_40 : decode cX7_board 40 = .ok (.invokevirtual 73, 3) := by decide +kernel
theorem dX7_board_43 : decode cX7_board 43 = .ok (.iconst 1, 1) := by decide +kernel
theorem dX7_board_44 : decode cX7_board 44 = .ok (.ireturn, 1) := by decide +kernel
theorem dX7_cell_0 : decode cX7_cell 0 = .ok (.aload_n 0, 1) := by decide +kernel
theorem dX7_cell_1 : decode cX7_cell 1 = .ok (.getfield 10, 3) := by decide +kernel
theorem dX7_cell_4 : decode cX7_cell 4 = .ok (.iload_n 1, 1) := by decide +kernel
theorem dX7_cell_5 : decode cX7_cell 5 = .ok (.iload_n 2, 1) := by decide +kernel
theorem dX7_cell_6 : decode cX7_cell 6 = .ok (.invokevirtual 76, 3) := by decide +kernel
theorem dX7_cell_9 : decode cX7_cell 9 = .ok (.ifCond .eq 10, 3) := by decide +kernel
theorem dX7_cell_12 : decode cX7_cell 12 = .ok (.iload_n 3, 1) := by decide +kernel
theorem dX7_cell_13 : decode cX7_cell 13 = .ok (.invokestatic 80, 3) := by decide +kernel
theorem dX7_cell_16 : decode cX7_cell 16 = .ok (.ifCond .ne 5, 3) := by decide +kernel
theorem dX7_cell_19 : decode cX7_cell 19 = .ok (.iconst 0, 1) := by decide +kernel
theorem dX7_cell_20 : decode cX7_cell 20 = .ok (.ireturn, 1) := by decide +kernel
theorem dX7_cell_21 : decode cX7_cell 21 = .ok (.aload_n 0, 1) := by decide +kernel
theorem dX7_cell_22 : decode cX7_cell 22 = .ok (.getfield 10, 3) := by decide +kernel
theorem dX7_cell_25 : decode cX7_cell 25 = .ok (.iload_n 1, 1) := by decide +kernel
theorem dX7_cell_26 : decode cX7_cell 26 = .ok (.iload_n 2, 1) := by decide +kernel
theorem dX7_cell_27 : decode cX7_cell 27 = .ok (.invokestatic 83, 3) := by decide +kernel
theorem dX7_cell_30 : decode cX7_cell 30 = .ok (.iload_n 3, 1) := by decide +kernel
theorem dX7_cell_31 : decode cX7_cell 31 = .ok (.invokevirtual 87, 3) := by decide +kernel
theorem dX7_cell_34 : decode cX7_cell 34 = .ok (.aload_n 0, 1) := by decide +kernel
theorem dX7_cell_35 : decode cX7_cell 35 = .ok (.invokevirtual 73, 3) := by decide +kernel
theorem dX7_cell_38 : decode cX7_cell 38 = .ok (.iconst 1, 1) := by decide +kernel
theorem dX7_cell_39 : decode cX7_cell 39 = .ok (.ireturn, 1) := by decide +kernel
theorem dX7_foe_0 : decode cX7_foe 0 = .ok (.aload_n 0, 1) := by decide +kernel
theorem dX7_foe_1 : decode cX7_foe 1 = .ok (.getfield 10, 3) := by decide +kernel
theorem dX7_foe_4 : decode cX7_foe 4 = .ok (.iload_n 1, 1) := by decide +kernel
theorem dX7_foe_5 : decode cX7_foe 5 = .ok (.iload_n 2, 1) := by decide +kernel
theorem dX7_foe_6 : decode cX7_foe 6 = .ok (.invokevirtual 76, 3) := by decide +kernel
theorem dX7_foe_9 : decode cX7_foe 9 = .ok (.ifCond .eq 18, 3) := by decide +kernel
theorem dX7_foe_12 : decode cX7_foe 12 = .ok (.aload_n 0, 1) := by decide +kernel
theorem dX7_foe_13 : decode cX7_foe 13 = .ok (.getfield 10, 3) := by decide +kernel
theorem dX7_foe_16 : decode cX7_foe 16 = .ok (.iload_n 1, 1) := by decide +kernel
theorem dX7_foe_17 : decode cX7_foe 17 = .ok (.iload_n 2, 1) := by decide +kernel
theorem dX7_foe_18 : decode cX7_foe 18 = .ok (.invokestatic 83, 3) := by decide +kernel
theorem dX7_foe_21 : decode cX7_foe 21 = .ok (.invokevirtual 90, 3) := by decide +kernel
theorem dX7_foe_24 : decode cX7_foe 24 = .ok (.ifCond .ne 5, 3) := by decide +kernel
theorem dX7_foe_27 : decode cX7_foe 27 = .ok (.iconst 0, 1) := by decide +kernel
theorem dX7_foe_28 : decode cX7_foe 28 = .ok (.ireturn, 1) := by decide +kernel
theorem dX7_foe_29 : decode cX7_foe 29 = .ok (.aload_n 0, 1) := by decide +kernel
theorem dX7_foe_30 : decode cX7_foe 30 = .ok (.invokevirtual 73, 3) := by decide +kernel
theorem dX7_foe_33 : decode cX7_foe 33 = .ok (.iconst 1, 1) := by decide +kernel
theorem dX7_foe_34 : decode cX7_foe 34 = .ok (.ireturn, 1) := by decide +kernel
theorem dX7_start_0 : decode cX7_start 0 = .ok (.aload_n 0, 1) := by decide +kernel
theorem dX7_start_1 : decode cX7_start 1 = .ok (.getfield 10, 3) := by decide +kernel
theorem dX7_start_4 : decode cX7_start 4 = .ok (.iload_n 1, 1) := by decide +kernel
theorem dX7_start_5 : decode cX7_start 5 = .ok (.iload_n 2, 1) := by decide +kernel
theorem dX7_start_6 : decode cX7_start 6 = .ok (.invokevirtual 76, 3) := by decide +kernel
theorem dX7_start_9 : decode cX7_start 9 = .ok (.ifCond .ne 5, 3) := by decide +kernel
theorem dX7_start_12 : decode cX7_start 12 = .ok (.iconst 0, 1) := by decide +kernel
theorem dX7_start_13 : decode cX7_start 13 = .ok (.ireturn, 1) := by decide +kernel
theorem dX7_start_14 : decode cX7_start 14 = .ok (.aload_n 0, 1) := by decide +kernel
theorem dX7_start_15 : decode cX7_start 15 = .ok (.getfield 10, 3) := by decide +kernel
theorem dX7_start_18 : decode cX7_start 18 = .ok (.iload_n 1, 1) := by decide +kernel
theorem dX7_start_19 : decode cX7_start 19 = .ok (.iload_n 2, 1) := by decide +kernel
theorem dX7_start_20 : decode cX7_start 20 = .ok (.invokestatic 83, 3) := by decide +kernel
theorem dX7_start_23 : decode cX7_start 23 = .ok (.putfield 93, 3) := by decide +kernel
theorem dX7_start_26 : decode cX7_start 26 = .ok (.aload_n 0, 1) := by decide +kernel
theorem dX7_start_27 : decode cX7_start 27 = .ok (.invokevirtual 73, 3) := by decide +kernel
theorem dX7_start_30 : decode cX7_start 30 = .ok (.iconst 1, 1) := by decide +kernel
theorem dX7_start_31 : decode cX7_start 31 = .ok (.ireturn, 1) := by decide +kernel
theorem dX7_press_0 : decode cX7_press 0 = .ok (.iload_n 1, 1) := by decide +kernel
theorem dX7_press_1 : decode cX7_press 1 = .ok (.invokestatic 97, 3) := by decide +kernel
theorem dX7_press_4 : decode cX7_press 4 = .ok (.ifCond .eq 13, 3) := by decide +kernel
theorem dX7_press_7 : decode cX7_press 7 = .ok (.aload_n 0, 1) := by decide +kernel
theorem dX7_press_8 : decode cX7_press 8 = .ok (.getfield 19, 3) := by decide +kernel
theorem dX7_press_11 : decode cX7_press 11 = .ok (.getfield 100, 3) := by decide +kernel
theorem dX7_press_14 : decode cX7_press 14 = .ok (.ifCond .eq 5, 3) := by decide +kernel
theorem dX7_press_17 : decode cX7_press 17 = .ok (.iconst (-1), 1) := by decide +kernel
theorem dX7_press_18 : decode cX7_press 18 = .ok (.ireturn, 1) := by decide +kernel
theorem dX7_press_19 : decode cX7_press 19 = .ok (.aload_n 0, 1) := by decide +kernel
theorem dX7_press_20 : decode cX7_press 20 = .ok (.getfield 19, 3) := by decide +kernel
theorem dX7_press_23 : decode cX7_press 23 = .ok (.getfield 103, 3) := by decide +kernel
theorem dX7_press_26 : decode cX7_press 26 = .ok (.getfield 106, 3) := by decide +kernel
theorem dX7_press_29 : decode cX7_press 29 = .ok (.istore_n 2, 1) := by decide +kernel
theorem dX7_press_30 : decode cX7_press 30 = .ok (.aload_n 0, 1) := by decide +kernel
theorem dX7_press_31 : decode cX7_press 31 = .ok (.getfield 19, 3) := by decide +kernel
theorem dX7_press_34 : decode cX7_press 34 = .ok (.getfield 103, 3) := by decide +kernel
theorem dX7_press_37 : decode cX7_press 37 = .ok (.iload_n 1, 1) := by decide +kernel
theorem dX7_press_38 : decode cX7_press 38 = .ok (.invokevirtual 109, 3) := by decide +kernel
theorem dX7_press_41 : decode cX7_press 41 = .ok (.ifCond .ne 5, 3) := by decide +kernel
theorem dX7_press_44 : decode cX7_press 44 = .ok (.iconst (-1), 1) := by decide +kernel
theorem dX7_press_45 : decode cX7_press 45 = .ok (.ireturn, 1) := by decide +kernel
theorem dX7_press_46 : decode cX7_press 46 = .ok (.aload_n 0, 1) := by decide +kernel
theorem dX7_press_47 : decode cX7_press 47 = .ok (.getfield 10, 3) := by decide +kernel
theorem dX7_press_50 : decode cX7_press 50 = .ok (.aload_n 0, 1) := by decide +kernel
theorem dX7_press_51 : decode cX7_press 51 = .ok (.getfield 19, 3) := by decide +kernel
theorem dX7_press_54 : decode cX7_press 54 = .ok (.getfield 112, 3) := by decide +kernel
theorem dX7_press_57 : decode cX7_press 57 = .ok (.iload_n 2, 1) := by decide +kernel
theorem dX7_press_58 : decode cX7_press 58 = .ok (.iload_n 1, 1) := by decide +kernel
theorem dX7_press_59 : decode cX7_press 59 = .ok (.invokevirtual 115, 3) := by decide +kernel
theorem dX7_press_62 : decode cX7_press 62 = .ok (.istore_n 3, 1) := by decide +kernel
theorem dX7_press_63 : decode cX7_press 63 = .ok (.aload_n 0, 1) := by decide +kernel
theorem dX7_press_64 : decode cX7_press 64 = .ok (.getfield 19, 3) := by decide +kernel
theorem dX7_press_67 : decode cX7_press 67 = .ok (.iload_n 3, 1) := by decide +kernel
theorem dX7_press_68 : decode cX7_press 68 = .ok (.invokestatic 119, 3) := by decide +kernel
theorem dX7_press_71 : decode cX7_press 71 = .ok (.putfield 112, 3) := by decide +kernel
theorem dX7_press_74 : decode cX7_press 74 = .ok (.aload_n 0, 1) := by decide +kernel
theorem dX7_press_75 : decode cX7_press 75 = .ok (.getfield 19, 3) := by decide +kernel
theorem dX7_press_78 : decode cX7_press 78 = .ok (.iload_n 3, 1) := by decide +kernel
theorem dX7_press_79 : decode cX7_press 79 = .ok (.invokestatic 123, 3) := by decide +kernel
theorem dX7_press_82 : decode cX7_press 82 = .ok (.putfield 100, 3) := by decide +kernel
theorem dX7_press_85 : decode cX7_press 85 = .ok (.aload_n 0, 1) := by decide +kernel
theorem dX7_press_86 : decode cX7_press 86 = .ok (.getfield 19, 3) := by decide +kernel
theorem dX7_press_89 : decode cX7_press 89 = .ok (.getfield 100, 3) := by decide +kernel
theorem dX7_press_92 : decode cX7_press 92 = .ok (.ireturn, 1) := by decide +kernel
theorem dX7_state_0 : decode cX7_state 0 = .ok (.aload_n 0, 1) := by decide +kernel
theorem dX7_state_1 : decode cX7_state 1 = .ok (.getfield 19, 3) := by decide +kernel
theorem dX7_state_4 : decode cX7_state 4 = .ok (.getfield 103, 3) := by decide +kernel
theorem dX7_state_7 : decode cX7_state 7 = .ok (.getfield 106, 3) := by decide +kernel
theorem dX7_state_10 : decode cX7_state 10 = .ok (.istore_n 2, 1) := by decide +kernel
theorem dX7_state_11 : decode cX7_state 11 = .ok (.aload_n 0, 1) := by decide +kernel
theorem dX7_state_12 : decode cX7_state 12 = .ok (.getfield 19, 3) := by decide +kernel
theorem dX7_state_15 : decode cX7_state 15 = .ok (.getfield 112, 3) := by decide +kernel
theorem dX7_state_18 : decode cX7_state 18 = .ok (.invokestatic 126, 3) := by decide +kernel
theorem dX7_state_21 : decode cX7_state 21 = .ok (.istore_n 3, 1) := by decide +kernel
theorem dX7_state_22 : decode cX7_state 22 = .ok (.aload_n 0, 1) := by decide +kernel
theorem dX7_state_23 : decode cX7_state 23 = .ok (.getfield 10, 3) := by decide +kernel
theorem dX7_state_26 : decode cX7_state 26 = .ok (.iload_n 2, 1) := by decide +kernel
theorem dX7_state_27 : decode cX7_state 27 = .ok (.invokevirtual 129, 3) := by decide +kernel
theorem dX7_state_30 : decode cX7_state 30 = .ok (.istore 4, 2) := by decide +kernel
theorem dX7_state_32 : decode cX7_state 32 = .ok (.iload_n 1, 1) := by decide +kernel
theorem dX7_state_33 : decode cX7_state 33 = .ok (.tableswitch 106 0 6 #[43, 48, 53, 64, 66, 74, 90], 43) := by decide +kernel
theorem dX7_state_76 : decode cX7_state 76 = .ok (.iload_n 3, 1) := by decide +kernel
theorem dX7_state_77 : decode cX7_state 77 = .ok (.invokestatic 132, 3) := by decide +kernel
theorem dX7_state_80 : decode cX7_state 80 = .ok (.ireturn, 1) := by decide +kernel
theorem dX7_state_81 : decode cX7_state 81 = .ok (.iload_n 3, 1) := by decide +kernel
theorem dX7_state_82 : decode cX7_state 82 = .ok (.invokestatic 135, 3) := by decide +kernel
theorem dX7_state_85 : decode cX7_state 85 = .ok (.ireturn, 1) := by decide +kernel
theorem dX7_state_86 : decode cX7_state 86 = .ok (.aload_n 0, 1) := by decide +kernel
theorem dX7_state_87 : decode cX7_state 87 = .ok (.getfield 19, 3) := by decide +kernel
theorem dX7_state_90 : decode cX7_state 90 = .ok (.getfield 112, 3) := by decide +kernel
theorem dX7_state_93 : decode cX7_state 93 = .ok (.invokestatic 138, 3) := by decide +kernel
theorem dX7_state_96 : decode cX7_state 96 = .ok (.ireturn, 1) := by decide +kernel
theorem dX7_state_97 : decode cX7_state 97 = .ok (.iload_n 2, 1) := by decide +kernel
theorem dX7_state_98 : decode cX7_state 98 = .ok (.ireturn, 1) := by decide +kernel
theorem dX7_state_99 : decode cX7_state 99 = .ok (.aload_n 0, 1) := by decide +kernel
theorem dX7_state_100 : decode cX7_state 100 = .ok (.getfield 19, 3) := by decide +kernel
theorem dX7_state_103 : decode cX7_state 103 = .ok (.getfield 100, 3) := by decide +kernel
theorem dX7_state_106 : decode cX7_state 106 = .ok (.ireturn, 1) := by decide +kernel
theorem dX7_state_107 : decode cX7_state 107 = .ok (.iload 4, 2) := by decide +kernel
theorem dX7_state_109 : decode cX7_state 109 = .ok (.iconst (-1), 1) := by decide +kernel
theorem dX7_state_110 : decode cX7_state 110 = .ok (.if_icmp .ne 7, 3) := by decide +kernel
theorem dX7_state_113 : decode cX7_state 113 = .ok (.iconst (-1), 1) := by decide +kernel
theorem dX7_state_114 : decode cX7_state 114 = .ok (.goto 8, 3) := by decide +kernel
theorem dX7_state_117 : decode cX7_state 117 = .ok (.iload 4, 2) := by decide +kernel
theorem dX7_state_119 : decode cX7_state 119 = .ok (.invokestatic 132, 3) := by decide +kernel
theorem dX7_state_122 : decode cX7_state 122 = .ok (.ireturn, 1) := by decide +kernel
theorem dX7_state_123 : decode cX7_state 123 = .ok (.iload 4, 2) := by decide +kernel
theorem dX7_state_125 : decode cX7_state 125 = .ok (.iconst (-1), 1) := by decide +kernel
theorem dX7_state_126 : decode cX7_state 126 = .ok (.if_icmp .ne 7, 3) := by decide +kernel
theorem dX7_state_129 : decode cX7_state 129 = .ok (.iconst (-1), 1) := by decide +kernel
theorem dX7_state_130 : decode cX7_state 130 = .ok (.goto 8, 3) := by decide +kernel
theorem dX7_state_133 : decode cX7_state 133 = .ok (.iload 4, 2) := by decide +kernel
theorem dX7_state_135 : decode cX7_state 135 = .ok (.invokestatic 135, 3) := by decide +kernel
theorem dX7_state_138 : decode cX7_state 138 = .ok (.ireturn, 1) := by decide +kernel
theorem dX7_state_139 : decode cX7_state 139 = .ok (.iconst (-1), 1) := by decide +kernel
theorem dX7_state_140 : decode cX7_state 140 = .ok (.ireturn, 1) := by decide +kernel
theorem dX7_save_0 : decode cX7_save 0 = .ok (.iload_n 1, 1) := by decide +kernel
theorem dX7_save_1 : decode cX7_save 1 = .ok (.invokestatic 141, 3) := by decide +kernel
theorem dX7_save_4 : decode cX7_save 4 = .ok (.ifCond .ne 5, 3) := by decide +kernel
theorem dX7_save_7 : decode cX7_save 7 = .ok (.iconst 0, 1) := by decide +kernel
theorem dX7_save_8 : decode cX7_save 8 = .ok (.ireturn, 1) := by decide +kernel
theorem dX7_save_9 : decode cX7_save 9 = .ok (.aload_n 0, 1) := by decide +kernel
theorem dX7_save_10 : decode cX7_save 10 = .ok (.getfield 23, 3) := by decide +kernel
theorem dX7_save_13 : decode cX7_save 13 = .ok (.iload_n 1, 1) := by decide +kernel
theorem dX7_save_14 : decode cX7_save 14 = .ok (.aaload, 1) := by decide +kernel
theorem dX7_save_15 : decode cX7_save 15 = .ok (.aload_n 0, 1) := by decide +kernel
theorem dX7_save_16 : decode cX7_save 16 = .ok (.getfield 19, 3) := by decide +kernel
theorem dX7_save_19 : decode cX7_save 19 = .ok (.invokevirtual 144, 3) := by decide +kernel
theorem dX7_save_22 : decode cX7_save 22 = .ok (.aload_n 0, 1) := by decide +kernel
theorem dX7_save_23 : decode cX7_save 23 = .ok (.getfield 27, 3) := by decide +kernel
theorem dX7_save_26 : decode cX7_save 26 = .ok (.iload_n 1, 1) := by decide +kernel
theorem dX7_save_27 : decode cX7_save 27 = .ok (.iconst 1, 1) := by decide +kernel
theorem dX7_save_28 : decode cX7_save 28 = .ok (.bastore, 1) := by decide +kernel
theorem dX7_save_29 : decode cX7_save 29 = .ok (.iconst 1, 1) := by decide +kernel
theorem dX7_save_30 : decode cX7_save 30 = .ok (.ireturn, 1) := by decide +kernel
theorem dX7_back_0 : decode cX7_back 0 = .ok (.iload_n 1, 1) := by decide +kernel
theorem dX7_back_1 : decode cX7_back 1 = .ok (.invokestatic 141, 3) := by decide +kernel
theorem dX7_back_4 : decode cX7_back 4 = .ok (.ifCond .eq 12, 3) := by decide +kernel
theorem dX7_back_7 : decode cX7_back 7 = .ok (.aload_n 0, 1) := by decide +kernel
theorem dX7_back_8 : decode cX7_back 8 = .ok (.getfield 27, 3) := by decide +kernel
theorem dX7_back_11 : decode cX7_back 11 = .ok (.iload_n 1, 1) := by decide +kernel
theorem dX7_back_12 : decode cX7_back 12 = .ok (.baload, 1) := by decide +kernel
theorem dX7_back_13 : decode cX7_back 13 = .ok (.ifCond .ne 5, 3) := by decide +kernel
theorem dX7_back_16 : decode cX7_back 16 = .ok (.iconst 0, 1) := by decide +kernel
theorem dX7_back_17 : decode cX7_back 17 = .ok (.ireturn, 1) := by decide +kernel
theorem dX7_back_18 : decode cX7_back 18 = .ok (.aload_n 0, 1) := by decide +kernel
theorem dX7_back_19 : decode cX7_back 19 = .ok (.getfield 19, 3) := by decide +kernel
theorem dX7_back_22 : decode cX7_back 22 = .ok (.aload_n 0, 1) := by decide +kernel
theorem dX7_back_23 : decode cX7_back 23 = .ok (.getfield 23, 3) := by decide +kernel
theorem dX7_back_26 : decode cX7_back 26 = .ok (.iload_n 1, 1) := by decide +kernel
theorem dX7_back_27 : decode cX7_back 27 = .ok (.aaload, 1) := by decide +kernel
theorem dX7_back_28 : decode cX7_back 28 = .ok (.invokevirtual 144, 3) := by decide +kernel
theorem dX7_back_31 : decode cX7_back 31 = .ok (.iconst 1, 1) := by decide +kernel
theorem dX7_back_32 : decode cX7_back 32 = .ok (.ireturn, 1) := by decide +kernel
theorem dX7_begin_0 : decode cX7_begin 0 = .ok (.aload_n 0, 1) := by decide +kernel
theorem dX7_begin_1 : decode cX7_begin 1 = .ok (.getfield 19, 3) := by decide +kernel
theorem dX7_begin_4 : decode cX7_begin 4 = .ok (.aload_n 0, 1) := by decide +kernel
theorem dX7_begin_5 : decode cX7_begin 5 = .ok (.getfield 10, 3) := by decide +kernel
theorem dX7_begin_8 : decode cX7_begin 8 = .ok (.invokevirtual 148, 3) := by decide +kernel
theorem dX7_begin_11 : decode cX7_begin 11 = .ok (.invokevirtual 152, 3) := by decide +kernel
theorem dX7_begin_14 : decode cX7_begin 14 = .ok (.return_, 1) := by decide +kernel
theorem dX7_least_0 : decode cX7_least 0 = .ok (.aload_n 0, 1) := by decide +kernel
theorem dX7_least_1 : decode cX7_least 1 = .ok (.getfield 34, 3) := by decide +kernel
theorem dX7_least_4 : decode cX7_least 4 = .ok (.getfield 155, 3) := by decide +kernel
theorem dX7_least_7 : decode cX7_least 7 = .ok (.invokevirtual 72, 3) := by decide +kernel
theorem dX7_least_10 : decode cX7_least 10 = .ok (.aload_n 0, 1) := by decide +kernel
theorem dX7_least_11 : decode cX7_least 11 = .ok (.getfield 19, 3) := by decide +kernel
theorem dX7_least_14 : decode cX7_least 14 = .ok (.getfield 100, 3) := by decide +kernel
theorem dX7_least_17 : decode cX7_least 17 = .ok (.iconst 1, 1) := by decide +kernel
theorem dX7_least_18 : decode cX7_least 18 = .ok (.if_icmp .ne 5, 3) := by decide +kernel
theorem dX7_least_21 : decode cX7_least 21 = .ok (.iconst (-1), 1) := by decide +kernel
theorem dX7_least_22 : decode cX7_least 22 = .ok (.ireturn, 1) := by decide +kernel
theorem dX7_least_23 : decode cX7_least 23 = .ok (.aload_n 0, 1) := by decide +kernel
theorem dX7_least_24 : decode cX7_least 24 = .ok (.getfield 19, 3) := by decide +kernel
theorem dX7_least_27 : decode cX7_least 27 = .ok (.getfield 100, 3) := by decide +kernel
theorem dX7_least_30 : decode cX7_least 30 = .ok (.iconst 2, 1) := by decide +kernel
theorem dX7_least_31 : decode cX7_least 31 = .ok (.if_icmp .ne 5, 3) := by decide +kernel
theorem dX7_least_34 : decode cX7_least 34 = .ok (.iconst 0, 1) := by decide +kernel
theorem dX7_least_35 : decode cX7_least 35 = .ok (.ireturn, 1) := by decide +kernel
theorem dX7_least_36 : decode cX7_least 36 = .ok (.aload_n 0, 1) := by decide +kernel
theorem dX7_least_37 : decode cX7_least 37 = .ok (.getfield 34, 3) := by decide +kernel
theorem dX7_least_40 : decode cX7_least 40 = .ok (.aload_n 0, 1) := by decide +kernel
theorem dX7_least_41 : decode cX7_least 41 = .ok (.getfield 10, 3) := by decide +kernel
theorem dX7_least_44 : decode cX7_least 44 = .ok (.aload_n 0, 1) := by decide +kernel
theorem dX7_least_45 : decode cX7_least 45 = .ok (.getfield 19, 3) := by decide +kernel
theorem dX7_least_48 : decode cX7_least 48 = .ok (.getfield 112, 3) := by decide +kernel
theorem dX7_least_51 : decode cX7_least 51 = .ok (.aload_n 0, 1) := by decide +kernel
theorem dX7_least_52 : decode cX7_least 52 = .ok (.getfield 19, 3) := by decide +kernel
theorem dX7_least_55 : decode cX7_least 55 = .ok (.getfield 103, 3) := by decide +kernel
theorem dX7_least_58 : decode cX7_least 58 = .ok (.getfield 106, 3) := by decide +kernel
theorem dX7_least_61 : decode cX7_least 61 = .ok (.invokevirtual 158, 3) := by decide +kernel
theorem dX7_least_64 : decode cX7_least 64 = .ok (.istore_n 1, 1) := by decide +kernel
theorem dX7_least_65 : decode cX7_least 65 = .ok (.iload_n 1, 1) := by decide +kernel
theorem dX7_least_66 : decode cX7_least 66 = .ok (.ifCond .eq 16, 3) := by decide +kernel
theorem dX7_least_69 : decode cX7_least 69 = .ok (.aload_n 0, 1) := by decide +kernel
theorem dX7_least_70 : decode cX7_least 70 = .ok (.getfield 34, 3) := by decide +kernel
theorem dX7_least_73 : decode cX7_least 73 = .ok (.getfield 155, 3) := by decide +kernel
theorem dX7_least_76 : decode cX7_least 76 = .ok (.getfield 106, 3) := by decide +kernel
theorem dX7_least_79 : decode cX7_least 79 = .ok (.goto 4, 3) := by decide +kernel
theorem dX7_least_82 : decode cX7_least 82 = .ok (.iconst (-1), 1) := by decide +kernel
theorem dX7_least_83 : decode cX7_least 83 = .ok (.ireturn, 1) := by decide +kernel
theorem dX7_best_0 : decode cX7_best 0 = .ok (.aload_n 0, 1) := by decide +kernel
theorem dX7_best_1 : decode cX7_best 1 = .ok (.getfield 34, 3) := by decide +kernel
theorem dX7_best_4 : decode cX7_best 4 = .ok (.getfield 155, 3) := by decide +kernel
theorem dX7_best_7 : decode cX7_best 7 = .ok (.iload_n 1, 1) := by decide +kernel
theorem dX7_best_8 : decode cX7_best 8 = .ok (.invokevirtual 162, 3) := by decide +kernel
theorem dX7_best_11 : decode cX7_best 11 = .ok (.ireturn, 1) := by decide +kernel
theorem dX7_claim_0 : decode cX7_claim 0 = .ok (.iload_n 1, 1) := by decide +kernel
theorem dX7_claim_1 : decode cX7_claim 1 = .ok (.invokestatic 97, 3) := by decide +kernel
theorem dX7_claim_4 : decode cX7_claim 4 = .ok (.ifCond .eq 14, 3) := by decide +kernel
theorem dX7_claim_7 : decode cX7_claim 7 = .ok (.aload_n 0, 1) := by decide +kernel
theorem dX7_claim_8 : decode cX7_claim 8 = .ok (.getfield 43, 3) := by decide +kernel
theorem dX7_claim_11 : decode cX7_claim 11 = .ok (.iload_n 1, 1) := by decide +kernel
theorem dX7_claim_12 : decode cX7_claim 12 = .ok (.invokevirtual 109, 3) := by decide +kernel
theorem dX7_claim_15 : decode cX7_claim 15 = .ok (.ifCond .ne 5, 3) := by decide +kernel
theorem dX7_claim_18 : decode cX7_claim 18 = .ok (.iconst (-1), 1) := by decide +kernel
theorem dX7_claim_19 : decode cX7_claim 19 = .ok (.ireturn, 1) := by decide +kernel
theorem dX7_claim_20 : decode cX7_claim 20 = .ok (.aload_n 0, 1) := by decide +kernel
theorem dX7_claim_21 : decode cX7_claim 21 = .ok (.getfield 43, 3) := by decide +kernel
theorem dX7_claim_24 : decode cX7_claim 24 = .ok (.getfield 106, 3) := by decide +kernel
theorem dX7_claim_27 : decode cX7_claim 27 = .ok (.ireturn, 1) := by decide +kernel
theorem dX7_unclaim_0 : decode cX7_unclaim 0 = .ok (.aload_n 0, 1) := by decide +kernel
theorem dX7_unclaim_1 : decode cX7_unclaim 1 = .ok (.getfield 43, 3) := by decide +kernel
theorem dX7_unclaim_4 : decode cX7_unclaim 4 = .ok (.invokevirtual 72, 3) := by decide +kernel
theorem dX7_unclaim_7 : decode cX7_unclaim 7 = .ok (.return_, 1) := by decide +kernel
theorem dX7_prove_0 : decode cX7_prove 0 = .ok (.aload_n 0, 1) := by decide +kernel
theorem dX7_prove_1 : decode cX7_prove 1 = .ok (.getfield 10, 3) := by decide +kernel
theorem dX7_prove_4 : decode cX7_prove 4 = .ok (.invokevirtual 148, 3) := by decide +kernel
theorem dX7_prove_7 : decode cX7_prove 7 = .ok (.istore_n 2, 1) := by decide +kernel
theorem dX7_prove_8 : decode cX7_prove 8 = .ok (.aload_n 0, 1) := by decide +kernel
theorem dX7_prove_9 : decode cX7_prove 9 = .ok (.getfield 43, 3) := by decide +kernel
theorem dX7_prove_12 : decode cX7_prove 12 = .ok (.getfield 106, 3) := by decide +kernel
theorem dX7_prove_15 : decode cX7_prove 15 = .ok (.istore_n 3, 1) := by decide +kernel
theorem dX7_prove_16 : decode cX7_prove 16 = .ok (.iconst 0, 1) := by decide +kernel
theorem dX7_prove_17 : decode cX7_prove 17 = .ok (.istore 4, 2) := by decide +kernel
theorem dX7_prove_19 : decode cX7_prove 19 = .ok (.iload 4, 2) := by decide +kernel
theorem dX7_prove_21 : decode cX7_prove 21 = .ok (.iload_n 3, 1) := by decide +kernel
theorem dX7_prove_22 : decode cX7_prove 22 = .ok (.if_icmp .ge 84, 3) := by decide +kernel
theorem dX7_prove_25 : decode cX7_prove 25 = .ok (.aload_n 0, 1) := by decide +kernel
theorem dX7_prove_26 : decode cX7_prove 26 = .ok (.getfield 10, 3) := by decide +kernel
theorem dX7_prove_29 : decode cX7_prove 29 = .ok (.iload_n 2, 1) := by decide +kernel
theorem dX7_prove_30 : decode cX7_prove 30 = .ok (.iload 4, 2) := by decide +kernel
theorem dX7_prove_32 : decode cX7_prove 32 = .ok (.aload_n 0, 1) := by decide +kernel
theorem dX7_prove_33 : decode cX7_prove 33 = .ok (.getfield 43, 3) := by decide +kernel
theorem dX7_prove_36 : decode cX7_prove 36 = .ok (.iload 4, 2) := by decide +kernel
theorem dX7_prove_38 : decode cX7_prove 38 = .ok (.invokevirtual 162, 3) := by decide +kernel
theorem dX7_prove_41 : decode cX7_prove 41 = .ok (.invokevirtual 115, 3) := by decide +kernel
theorem dX7_prove_44 : decode cX7_prove 44 = .ok (.istore 5, 2) := by decide +kernel
theorem dX7_prove_46 : decode cX7_prove 46 = .ok (.iload 5, 2) := by decide +kernel
theorem dX7_prove_48 : decode cX7_prove 48 = .ok (.invokestatic 123, 3) := by decide +kernel
theorem dX7_prove_51 : decode cX7_prove 51 = .ok (.istore 6, 2) := by decide +kernel
theorem dX7_prove_53 : decode cX7_prove 53 = .ok (.iload 6, 2) := by decide +kernel
theorem dX7_prove_55 : decode cX7_prove 55 = .ok (.iconst 1, 1) := by decide +kernel
theorem dX7_prove_56 : decode cX7_prove 56 = .ok (.if_icmp .ne 5, 3) := by decide +kernel
theorem dX7_prove_59 : decode cX7_prove 59 = .ok (.iconst 3, 1) := by decide +kernel
theorem dX7_prove_60 : decode cX7_prove 60 = .ok (.ireturn, 1) := by decide +kernel
theorem dX7_prove_61 : decode cX7_prove 61 = .ok (.iload 6, 2) := by decide +kernel
theorem dX7_prove_63 : decode cX7_prove 63 = .ok (.iconst 2, 1) := by decide +kernel
theorem dX7_prove_64 : decode cX7_prove 64 = .ok (.if_icmp .ne 13, 3) := by decide +kernel
theorem dX7_prove_67 : decode cX7_prove 67 = .ok (.iload 4, 2) := by decide +kernel
theorem dX7_prove_69 : decode cX7_prove 69 = .ok (.iconst 1, 1) := by decide +kernel
theorem dX7_prove_70 : decode cX7_prove 70 = .ok (.iadd, 1) := by decide +kernel
theorem dX7_prove_71 : decode cX7_prove 71 = .ok (.iload_n 3, 1) := by decide +kernel
theorem dX7_prove_72 : decode cX7_prove 72 = .ok (.if_icmp .ge 5, 3) := by decide +kernel
theorem dX7_prove_75 : decode cX7_prove 75 = .ok (.iconst 2, 1) := by decide +kernel
theorem dX7_prove_76 : decode cX7_prove 76 = .ok (.ireturn, 1) := by decide +kernel
theorem dX7_prove_77 : decode cX7_prove 77 = .ok (.iload 6, 2) := by decide +kernel
theorem dX7_prove_79 : decode cX7_prove 79 = .ok (.iconst 2, 1) := by decide +kernel
theorem dX7_prove_80 : decode cX7_prove 80 = .ok (.if_icmp .ne 14, 3) := by decide +kernel
theorem dX7_prove_83 : decode cX7_prove 83 = .ok (.iload_n 1, 1) := by decide +kernel
theorem dX7_prove_84 : decode cX7_prove 84 = .ok (.iload_n 3, 1) := by decide +kernel
theorem dX7_prove_85 : decode cX7_prove 85 = .ok (.if_icmp .ne 7, 3) := by decide +kernel
theorem dX7_prove_88 : decode cX7_prove 88 = .ok (.iconst 0, 1) := by decide +kernel
theorem dX7_prove_89 : decode cX7_prove 89 = .ok (.goto 4, 3) := by decide +kernel
theorem dX7_prove_92 : decode cX7_prove 92 = .ok (.iconst 1, 1) := by decide +kernel
theorem dX7_prove_93 : decode cX7_prove 93 = .ok (.ireturn, 1) := by decide +kernel
theorem dX7_prove_94 : decode cX7_prove 94 = .ok (.iload 5, 2) := by decide +kernel
theorem dX7_prove_96 : decode cX7_prove 96 = .ok (.invokestatic 119, 3) := by decide +kernel
theorem dX7_prove_99 : decode cX7_prove 99 = .ok (.istore_n 2, 1) := by decide +kernel
theorem dX7_prove_100 : decode cX7_prove 100 = .ok (.iinc 4 1, 3) := by decide +kernel
theorem dX7_prove_103 : decode cX7_prove 103 = .ok (.goto (-84), 3) := by decide +kernel
theorem dX7_prove_106 : decode cX7_prove 106 = .ok (.iconst 4, 1) := by decide +kernel
theorem dX7_prove_107 : decode cX7_prove 107 = .ok (.ireturn, 1) := by decide +kernel
theorem dX7_differs_0 : decode cX7_differs 0 = .ok (.aload_n 0, 1) := by decide +kernel
theorem dX7_differs_1 : decode cX7_differs 1 = .ok (.getfield 43, 3) := by decide +kernel
theorem dX7_differs_4 : decode cX7_differs 4 = .ok (.aload_n 0, 1) := by decide +kernel
theorem dX7_differs_5 : decode cX7_differs 5 = .ok (.getfield 19, 3) := by decide +kernel
theorem dX7_differs_8 : decode cX7_differs 8 = .ok (.getfield 103, 3) := by decide +kernel
theorem dX7_differs_11 : decode cX7_differs 11 = .ok (.invokevirtual 165, 3) := by decide +kernel
theorem dX7_differs_14 : decode cX7_differs 14 = .ok (.istore_n 1, 1) := by decide +kernel
theorem dX7_differs_15 : decode cX7_differs 15 = .ok (.iload_n 1, 1) := by decide +kernel
theorem dX7_differs_16 : decode cX7_differs 16 = .ok (.iconst (-1), 1) := by decide +kernel
theorem dX7_differs_17 : decode cX7_differs 17 = .ok (.if_icmp .ne 7, 3) := by decide +kernel
theorem dX7_differs_20 : decode cX7_differs 20 = .ok (.iconst (-1), 1) := by decide +kernel
theorem dX7_differs_21 : decode cX7_differs 21 = .ok (.goto 6, 3) := by decide +kernel
theorem dX7_differs_24 : decode cX7_differs 24 = .ok (.iload_n 1, 1) := by decide +kernel
theorem dX7_differs_25 : decode cX7_differs 25 = .ok (.iconst 1, 1) := by decide +kernel
theorem dX7_differs_26 : decode cX7_differs 26 = .ok (.iadd, 1) := by decide +kernel
theorem dX7_differs_27 : decode cX7_differs 27 = .ok (.ireturn, 1) := by decide +kernel
theorem dX7_split_0 : decode cX7_split 0 = .ok (.aload_n 0, 1) := by decide +kernel
theorem dX7_split_1 : decode cX7_split 1 = .ok (.getfield 10, 3) := by decide +kernel
theorem dX7_split_4 : decode cX7_split 4 = .ok (.iload_n 1, 1) := by decide +kernel
theorem dX7_split_5 : decode cX7_split 5 = .ok (.iload_n 2, 1) := by decide +kernel
theorem dX7_split_6 : decode cX7_split 6 = .ok (.invokevirtual 76, 3) := by decide +kernel
theorem dX7_split_9 : decode cX7_split 9 = .ok (.ifCond .eq 21, 3) := by decide +kernel
theorem dX7_split_12 : decode cX7_split 12 = .ok (.aload_n 0, 1) := by decide +kernel
theorem dX7_split_13 : decode cX7_split 13 = .ok (.getfield 50, 3) := by decide +kernel
theorem dX7_split_16 : decode cX7_split 16 = .ok (.iload_n 1, 1) := by decide +kernel
theorem dX7_split_17 : decode cX7_split 17 = .ok (.iload_n 2, 1) := by decide +kernel
theorem dX7_split_18 : decode cX7_split 18 = .ok (.invokestatic 83, 3) := by decide +kernel
theorem dX7_split_21 : decode cX7_split 21 = .ok (.iload_n 3, 1) := by decide +kernel
theorem dX7_split_22 : decode cX7_split 22 = .ok (.iload 4, 2) := by decide +kernel
theorem dX7_split_24 : decode cX7_split 24 = .ok (.invokevirtual 169, 3) := by decide +kernel
theorem dX7_split_27 : decode cX7_split 27 = .ok (.ifCond .ne 5, 3) := by decide +kernel
theorem dX7_split_30 : decode cX7_split 30 = .ok (.iconst (-1), 1) := by decide +kernel
theorem dX7_split_31 : decode cX7_split 31 = .ok (.ireturn, 1) := by decide +kernel
theorem dX7_split_32 : decode cX7_split 32 = .ok (.aload_n 0, 1) := by decide +kernel
theorem dX7_split_33 : decode cX7_split 33 = .ok (.getfield 50, 3) := by decide +kernel
theorem dX7_split_36 : decode cX7_split 36 = .ok (.getfield 172, 3) := by decide +kernel
theorem dX7_split_39 : decode cX7_split 39 = .ok (.ireturn, 1) := by decide +kernel
theorem dX7_unsplit_0 : decode cX7_unsplit 0 = .ok (.aload_n 0, 1) := by decide +kernel
theorem dX7_unsplit_1 : decode cX7_unsplit 1 = .ok (.getfield 50, 3) := by decide +kernel
theorem dX7_unsplit_4 : decode cX7_unsplit 4 = .ok (.invokevirtual 69, 3) := by decide +kernel
theorem dX7_unsplit_7 : decode cX7_unsplit 7 = .ok (.return_, 1) := by decide +kernel
theorem dX7_could_0 : decode cX7_could 0 = .ok (.aload_n 0, 1) := by decide +kernel
theorem dX7_could_1 : decode cX7_could 1 = .ok (.getfield 50, 3) := by decide +kernel
theorem dX7_could_4 : decode cX7_could 4 = .ok (.aload_n 0, 1) := by decide +kernel
theorem dX7_could_5 : decode cX7_could 5 = .ok (.getfield 10, 3) := by decide +kernel
theorem dX7_could_8 : decode cX7_could 8 = .ok (.invokevirtual 173, 3) := by decide +kernel
theorem dX7_could_11 : decode cX7_could 11 = .ok (.ireturn, 1) := by decide +kernel
theorem dX7_road_0 : decode cX7_road 0 = .ok (.aload_n 0, 1) := by decide +kernel
theorem dX7_road_1 : decode cX7_road 1 = .ok (.getfield 57, 3) := by decide +kernel
theorem dX7_road_4 : decode cX7_road 4 = .ok (.invokevirtual 177, 3) := by decide +kernel
theorem dX7_road_7 : decode cX7_road 7 = .ok (.ifCond .ne 14, 3) := by decide +kernel
theorem dX7_road_10 : decode cX7_road 10 = .ok (.iload_n 1, 1) := by decide +kernel
theorem dX7_road_11 : decode cX7_road 11 = .ok (.iload_n 2, 1) := by decide +kernel
theorem dX7_road_12 : decode cX7_road 12 = .ok (.iload_n 3, 1) := by decide +kernel
theorem dX7_road_13 : decode cX7_road 13 = .ok (.iload 4, 2) := by decide +kernel
theorem dX7_road_15 : decode cX7_road 15 = .ok (.invokestatic 181, 3) := by decide +kernel
theorem dX7_road_18 : decode cX7_road 18 = .ok (.ifCond .ne 5, 3) := by decide +kernel
theorem dX7_road_21 : decode cX7_road 21 = .ok (.iconst (-1), 1) := by decide +kernel
theorem dX7_road_22 : decode cX7_road 22 = .ok (.ireturn, 1) := by decide +kernel
theorem dX7_road_23 : decode cX7_road 23 = .ok (.iload 5, 2) := by decide +kernel
theorem dX7_road_25 : decode cX7_road 25 = .ok (.invokestatic 185, 3) := by decide +kernel
theorem dX7_road_28 : decode cX7_road 28 = .ok (.ifCond .eq 11, 3) := by decide +kernel
theorem dX7_road_31 : decode cX7_road 31 = .ok (.iload 6, 2) := by decide +kernel
theorem dX7_road_33 : decode cX7_road 33 = .ok (.invokestatic 188, 3) := by decide +kernel
theorem dX7_road_36 : decode cX7_road 36 = .ok (.ifCond .ne 5, 3) := by decide +kernel
theorem dX7_road_39 : decode cX7_road 39 = .ok (.iconst (-1), 1) := by decide +kernel
theorem dX7_road_40 : decode cX7_road 40 = .ok (.ireturn, 1) := by decide +kernel
theorem dX7_road_41 : decode cX7_road 41 = .ok (.iload 6, 2) := by decide +kernel
theorem dX7_road_43 : decode cX7_road 43 = .ok (.bipush 8, 2) := by decide +kernel
theorem dX7_road_45 : decode cX7_road 45 = .ok (.if_icmp .ge 7, 3) := by decide +kernel
theorem dX7_road_48 : decode cX7_road 48 = .ok (.iconst 1, 1) := by decide +kernel
theorem dX7_road_49 : decode cX7_road 49 = .ok (.goto 4, 3) := by decide +kernel
theorem dX7_road_52 : decode cX7_road 52 = .ok (.iconst 0, 1) := by decide +kernel
theorem dX7_road_53 : decode cX7_road 53 = .ok (.istore 9, 2) := by decide +kernel
theorem dX7_road_55 : decode cX7_road 55 = .ok (.iload 9, 2) := by decide +kernel
theorem dX7_road_57 : decode cX7_road 57 = .ok (.ifCond .eq 21, 3) := by decide +kernel
theorem dX7_road_60 : decode cX7_road 60 = .ok (.iload 7, 2) := by decide +kernel
theorem dX7_road_62 : decode cX7_road 62 = .ok (.invokestatic 191, 3) := by decide +kernel
theorem dX7_road_65 : decode cX7_road 65 = .ok (.ifCond .eq 11, 3) := by decide +kernel
theorem dX7_road_68 : decode cX7_road 68 = .ok (.iload 8, 2) := by decide +kernel
theorem dX7_road_70 : decode cX7_road 70 = .ok (.invokestatic 185, 3) := by decide +kernel
theorem dX7_road_73 : decode cX7_road 73 = .ok (.ifCond .ne 5, 3) := by decide +kernel
theorem dX7_road_76 : decode cX7_road 76 = .ok (.iconst (-1), 1) := by decide +kernel
theorem dX7_road_77 : decode cX7_road 77 = .ok (.ireturn, 1) := by decide +kernel
theorem dX7_road_78 : decode cX7_road 78 = .ok (.aload_n 0, 1) := by decide +kernel
theorem dX7_road_79 : decode cX7_road 79 = .ok (.getfield 57, 3) := by decide +kernel
theorem dX7_road_82 : decode cX7_road 82 = .ok (.getfield 194, 3) := by decide +kernel
theorem dX7_road_85 : decode cX7_road 85 = .ok (.aload_n 0, 1) := by decide +kernel
theorem dX7_road_86 : decode cX7_road 86 = .ok (.getfield 57, 3) := by decide +kernel
theorem dX7_road_89 : decode cX7_road 89 = .ok (.getfield 197, 3) := by decide +kernel
theorem dX7_road_92 : decode cX7_road 92 = .ok (.aaload, 1) := by decide +kernel
theorem dX7_road_93 : decode cX7_road 93 = .ok (.astore 10, 2) := by decide +kernel
theorem dX7_road_95 : decode cX7_road 95 = .ok (.aload 10, 2) := by decide +kernel
theorem dX7_road_97 : decode cX7_road 97 = .ok (.iload_n 1, 1) := by decide +kernel
theorem dX7_road_98 : decode cX7_road 98 = .ok (.iload_n 2, 1) := by decide +kernel
theorem dX7_road_99 : decode cX7_road 99 = .ok (.iload_n 3, 1) := by decide +kernel
theorem dX7_road_100 : decode cX7_road 100 = .ok (.iload 4, 2) := by decide +kernel
theorem dX7_road_102 : decode cX7_road 102 = .ok (.invokevirtual 198, 3) := by decide +kernel
theorem dX7_road_105 : decode cX7_road 105 = .ok (.aload 10, 2) := by decide +kernel
theorem dX7_road_107 : decode cX7_road 107 = .ok (.iload 5, 2) := by decide +kernel
theorem dX7_road_109 : decode cX7_road 109 = .ok (.iload 6, 2) := by decide +kernel
theorem dX7_road_111 : decode cX7_road 111 = .ok (.invokevirtual 204, 3) := by decide +kernel
theorem dX7_road_114 : decode cX7_road 114 = .ok (.aload 10, 2) := by decide +kernel
theorem dX7_road_116 : decode cX7_road 116 = .ok (.iload 9, 2) := by decide +kernel
theorem dX7_road_118 : decode cX7_road 118 = .ok (.ifCond .eq 8, 3) := by decide +kernel
theorem dX7_road_121 : decode cX7_road 121 = .ok (.iload 7, 2) := by decide +kernel
theorem dX7_road_123 : decode cX7_road 123 = .ok (.goto 4, 3) := by decide +kernel
theorem dX7_road_126 : decode cX7_road 126 = .ok (.iconst 0, 1) := by decide +kernel
theorem dX7_road_127 : decode cX7_road 127 = .ok (.iload 9, 2) := by decide +kernel
theorem dX7_road_129 : decode cX7_road 129 = .ok (.ifCond .eq 8, 3) := by decide +kernel
theorem dX7_road_132 : decode cX7_road 132 = .ok (.iload 8, 2) := by decide +kernel
theorem dX7_road_134 : decode cX7_road 134 = .ok (.goto 4, 3) := by decide +kernel
theorem dX7_road_137 : decode cX7_road 137 = .ok (.iconst 1, 1) := by decide +kernel
theorem dX7_road_138 : decode cX7_road 138 = .ok (.invokevirtual 207, 3) := by decide +kernel
theorem dX7_road_141 : decode cX7_road 141 = .ok (.aload_n 0, 1) := by decide +kernel
theorem dX7_road_142 : decode cX7_road 142 = .ok (.getfield 57, 3) := by decide +kernel
theorem dX7_road_145 : decode cX7_road 145 = .ok (.invokevirtual 210, 3) := by decide +kernel
theorem dX7_road_148 : decode cX7_road 148 = .ok (.ireturn, 1) := by decide +kernel
theorem dX7_bar_0 : decode cX7_bar 0 = .ok (.aload_n 0, 1) := by decide +kernel
theorem dX7_bar_1 : decode cX7_bar 1 = .ok (.getfield 57, 3) := by decide +kernel
theorem dX7_bar_4 : decode cX7_bar 4 = .ok (.iload_n 1, 1) := by decide +kernel
theorem dX7_bar_5 : decode cX7_bar 5 = .ok (.invokevirtual 213, 3) := by decide +kernel
theorem dX7_bar_8 : decode cX7_bar 8 = .ok (.ifCond .ne 5, 3) := by decide +kernel
theorem dX7_bar_11 : decode cX7_bar 11 = .ok (.iconst 0, 1) := by decide +kernel
theorem dX7_bar_12 : decode cX7_bar 12 = .ok (.ireturn, 1) := by decide +kernel
theorem dX7_bar_13 : decode cX7_bar 13 = .ok (.aload_n 0, 1) := by decide +kernel
theorem dX7_bar_14 : decode cX7_bar 14 = .ok (.getfield 57, 3) := by decide +kernel
theorem dX7_bar_17 : decode cX7_bar 17 = .ok (.getfield 194, 3) := by decide +kernel
theorem dX7_bar_20 : decode cX7_bar 20 = .ok (.iload_n 1, 1) := by decide +kernel
theorem dX7_bar_21 : decode cX7_bar 21 = .ok (.aaload, 1) := by decide +kernel
theorem dX7_bar_22 : decode cX7_bar 22 = .ok (.iload_n 2, 1) := by decide +kernel
theorem dX7_bar_23 : decode cX7_bar 23 = .ok (.putfield 216, 3) := by decide +kernel
theorem dX7_bar_26 : decode cX7_bar 26 = .ok (.aload_n 0, 1) := by decide +kernel
theorem dX7_bar_27 : decode cX7_bar 27 = .ok (.getfield 57, 3) := by decide +kernel
theorem dX7_bar_30 : decode cX7_bar 30 = .ok (.invokevirtual 220, 3) := by decide +kernel
theorem dX7_bar_33 : decode cX7_bar 33 = .ok (.iconst 1, 1) := by decide +kernel
theorem dX7_bar_34 : decode cX7_bar 34 = .ok (.ireturn, 1) := by decide +kernel
theorem dX7_goal_0 : decode cX7_goal 0 = .ok (.iload_n 1, 1) := by decide +kernel
theorem dX7_goal_1 : decode cX7_goal 1 = .ok (.invokestatic 191, 3) := by decide +kernel
theorem dX7_goal_4 : decode cX7_goal 4 = .ok (.ifCond .eq 10, 3) := by decide +kernel
theorem dX7_goal_7 : decode cX7_goal 7 = .ok (.iload_n 2, 1) := by decide +kernel
theorem dX7_goal_8 : decode cX7_goal 8 = .ok (.invokestatic 223, 3) := by decide +kernel
theorem dX7_goal_11 : decode cX7_goal 11 = .ok (.ifCond .ne 5, 3) := by decide +kernel
theorem dX7_goal_14 : decode cX7_goal 14 = .ok (.iconst 0, 1) := by decide +kernel
theorem dX7_goal_15 : decode cX7_goal 15 = .ok (.ireturn, 1) := by decide +kernel
theorem dX7_goal_16 : decode cX7_goal 16 = .ok (.aload_n 0, 1) := by decide +kernel
theorem dX7_goal_17 : decode cX7_goal 17 = .ok (.getfield 57, 3) := by decide +kernel
theorem dX7_goal_20 : decode cX7_goal 20 = .ok (.iload_n 1, 1) := by decide +kernel
theorem dX7_goal_21 : decode cX7_goal 21 = .ok (.putfield 226, 3) := by decide +kernel
theorem dX7_goal_24 : decode cX7_goal 24 = .ok (.aload_n 0, 1) := by decide +kernel
theorem dX7_goal_25 : decode cX7_goal 25 = .ok (.getfield 57, 3) := by decide +kernel
theorem dX7_goal_28 : decode cX7_goal 28 = .ok (.iload_n 2, 1) := by decide +kernel
theorem dX7_goal_29 : decode cX7_goal 29 = .ok (.putfield 229, 3) := by decide +kernel
theorem dX7_goal_32 : decode cX7_goal 32 = .ok (.aload_n 0, 1) := by decide +kernel
theorem dX7_goal_33 : decode cX7_goal 33 = .ok (.getfield 57, 3) := by decide +kernel
theorem dX7_goal_36 : decode cX7_goal 36 = .ok (.invokevirtual 220, 3) := by decide +kernel
theorem dX7_goal_39 : decode cX7_goal 39 = .ok (.iconst 1, 1) := by decide +kernel
theorem dX7_goal_40 : decode cX7_goal 40 = .ok (.ireturn, 1) := by decide +kernel
theorem dX7_anew_0 : decode cX7_anew 0 = .ok (.iload_n 1, 1) := by decide +kernel
theorem dX7_anew_1 : decode cX7_anew 1 = .ok (.ifCond .eq 12, 3) := by decide +kernel
theorem dX7_anew_4 : decode cX7_anew 4 = .ok (.iload_n 1, 1) := by decide +kernel
theorem dX7_anew_5 : decode cX7_anew 5 = .ok (.invokestatic 185, 3) := by decide +kernel
theorem dX7_anew_8 : decode cX7_anew 8 = .ok (.ifCond .ne 5, 3) := by decide +kernel
theorem dX7_anew_11 : decode cX7_anew 11 = .ok (.iconst 0, 1) := by decide +kernel
theorem dX7_anew_12 : decode cX7_anew 12 = .ok (.ireturn, 1) := by decide +kernel
theorem dX7_anew_13 : decode cX7_anew 13 = .ok (.aload_n 0, 1) := by decide +kernel
theorem dX7_anew_14 : decode cX7_anew 14 = .ok (.getfield 57, 3) := by decide +kernel
theorem dX7_anew_17 : decode cX7_anew 17 = .ok (.iload_n 1, 1) := by decide +kernel
theorem dX7_anew_18 : decode cX7_anew 18 = .ok (.putfield 232, 3) := by decide +kernel
theorem dX7_anew_21 : decode cX7_anew 21 = .ok (.aload_n 0, 1) := by decide +kernel
theorem dX7_anew_22 : decode cX7_anew 22 = .ok (.getfield 57, 3) := by decide +kernel
theorem dX7_anew_25 : decode cX7_anew 25 = .ok (.invokevirtual 220, 3) := by decide +kernel
theorem dX7_anew_28 : decode cX7_anew 28 = .ok (.iconst 1, 1) := by decide +kernel
theorem dX7_anew_29 : decode cX7_anew 29 = .ok (.ireturn, 1) := by decide +kernel
theorem dX7_sure_0 : decode cX7_sure 0 = .ok (.aload_n 0, 1) := by decide +kernel
theorem dX7_sure_1 : decode cX7_sure 1 = .ok (.getfield 57, 3) := by decide +kernel
theorem dX7_sure_4 : decode cX7_sure 4 = .ok (.invokevirtual 235, 3) := by decide +kernel
theorem dX7_sure_7 : decode cX7_sure 7 = .ok (.ireturn, 1) := by decide +kernel
theorem dX7_chance_0 : decode cX7_chance 0 = .ok (.iload_n 1, 1) := by decide +kernel
theorem dX7_chance_1 : decode cX7_chance 1 = .ok (.iload_n 2, 1) := by decide +kernel
theorem dX7_chance_2 : decode cX7_chance 2 = .ok (.iload_n 3, 1) := by decide +kernel
theorem dX7_chance_3 : decode cX7_chance 3 = .ok (.invokestatic 238, 3) := by decide +kernel
theorem dX7_chance_6 : decode cX7_chance 6 = .ok (.ifCond .ne 7, 3) := by decide +kernel
theorem dX7_chance_9 : decode cX7_chance 9 = .ok (.ldc2_w 241, 3) := by decide +kernel
theorem dX7_chance_12 : decode cX7_chance 12 = .ok (.lreturn, 1) := by decide +kernel
theorem dX7_chance_13 : decode cX7_chance 13 = .ok (.aload_n 0, 1) := by decide +kernel
theorem dX7_chance_14 : decode cX7_chance 14 = .ok (.getfield 57, 3) := by decide +kernel
theorem dX7_chance_17 : decode cX7_chance 17 = .ok (.iload_n 1, 1) := by decide +kernel
theorem dX7_chance_18 : decode cX7_chance 18 = .ok (.iload_n 2, 1) := by decide +kernel
theorem dX7_chance_19 : decode cX7_chance 19 = .ok (.iload_n 3, 1) := by decide +kernel
theorem dX7_chance_20 : decode cX7_chance 20 = .ok (.invokevirtual 243, 3) := by decide +kernel
theorem dX7_chance_23 : decode cX7_chance 23 = .ok (.i2l, 1) := by decide +kernel
theorem dX7_chance_24 : decode cX7_chance 24 = .ok (.lreturn, 1) := by decide +kernel
theorem dX7_choice_0 : decode cX7_choice 0 = .ok (.iload_n 1, 1) := by decide +kernel
theorem dX7_choice_1 : decode cX7_choice 1 = .ok (.iload_n 2, 1) := by decide +kernel
theorem dX7_choice_2 : decode cX7_choice 2 = .ok (.iload_n 3, 1) := by decide +kernel
theorem dX7_choice_3 : decode cX7_choice 3 = .ok (.invokestatic 238, 3) := by decide +kernel
theorem dX7_choice_6 : decode cX7_choice 6 = .ok (.ifCond .ne 6, 3) := by decide +kernel
theorem dX7_choice_9 : decode cX7_choice 9 = .ok (.bipush (-3), 2) := by decide +kernel
theorem dX7_choice_11 : decode cX7_choice 11 = .ok (.ireturn, 1) := by decide +kernel
theorem dX7_choice_12 : decode cX7_choice 12 = .ok (.aload_n 0, 1) := by decide +kernel
theorem dX7_choice_13 : decode cX7_choice 13 = .ok (.getfield 57, 3) := by decide +kernel
theorem dX7_choice_16 : decode cX7_choice 16 = .ok (.iload_n 1, 1) := by decide +kernel
theorem dX7_choice_17 : decode cX7_choice 17 = .ok (.iload_n 2, 1) := by decide +kernel
theorem dX7_choice_18 : decode cX7_choice 18 = .ok (.iload_n 3, 1) := by decide +kernel
theorem dX7_choice_19 : decode cX7_choice 19 = .ok (.invokevirtual 246, 3) := by decide +kernel
theorem dX7_choice_22 : decode cX7_choice 22 = .ok (.ireturn, 1) := by decide +kernel
theorem dX7_count_0 : decode cX7_count 0 = .ok (.iload_n 1, 1) := by decide +kernel
theorem dX7_count_1 : decode cX7_count 1 = .ok (.tableswitch 87 0 5 #[39, 47, 55, 63, 71, 79], 39) := by decide +kernel
theorem dX7_count_40 : decode cX7_count 40 = .ok (.aload_n 0, 1) := by decide +kernel
theorem dX7_count_41 : decode cX7_count 41 = .ok (.getfield 10, 3) := by decide +kernel
theorem dX7_count_44 : decode cX7_count 44 = .ok (.getfield 249, 3) := by decide +kernel
theorem dX7_count_47 : decode cX7_count 47 = .ok (.ireturn, 1) := by decide +kernel
theorem dX7_count_48 : decode cX7_count 48 = .ok (.aload_n 0, 1) := by decide +kernel
theorem dX7_count_49 : decode cX7_count 49 = .ok (.getfield 10, 3) := by decide +kernel
theorem dX7_count_52 : decode cX7_count 52 = .ok (.getfield 252, 3) := by decide +kernel
theorem dX7_count_55 : decode cX7_count 55 = .ok (.ireturn, 1) := by decide +kernel
theorem dX7_count_56 : decode cX7_count 56 = .ok (.aload_n 0, 1) := by decide +kernel
theorem dX7_count_57 : decode cX7_count 57 = .ok (.getfield 10, 3) := by decide +kernel
theorem dX7_count_60 : decode cX7_count 60 = .ok (.getfield 255, 3) := by decide +kernel
theorem dX7_count_63 : decode cX7_count 63 = .ok (.ireturn, 1) := by decide +kernel
theorem dX7_count_64 : decode cX7_count 64 = .ok (.aload_n 0, 1) := by decide +kernel
theorem dX7_count_65 : decode cX7_count 65 = .ok (.getfield 43, 3) := by decide +kernel
theorem dX7_count_68 : decode cX7_count 68 = .ok (.getfield 106, 3) := by decide +kernel
theorem dX7_count_71 : decode cX7_count 71 = .ok (.ireturn, 1) := by decide +kernel
theorem dX7_count_72 : decode cX7_count 72 = .ok (.aload_n 0, 1) := by decide +kernel
theorem dX7_count_73 : decode cX7_count 73 = .ok (.getfield 50, 3) := by decide +kernel
theorem dX7_count_76 : decode cX7_count 76 = .ok (.getfield 172, 3) := by decide +kernel
theorem dX7_count_79 : decode cX7_count 79 = .ok (.ireturn, 1) := by decide +kernel
theorem dX7_count_80 : decode cX7_count 80 = .ok (.aload_n 0, 1) := by decide +kernel
theorem dX7_count_81 : decode cX7_count 81 = .ok (.getfield 57, 3) := by decide +kernel
theorem dX7_count_84 : decode cX7_count 84 = .ok (.getfield 197, 3) := by decide +kernel
theorem dX7_count_87 : decode cX7_count 87 = .ok (.ireturn, 1) := by decide +kernel
theorem dX7_count_88 : decode cX7_count 88 = .ok (.iconst (-1), 1) := by decide +kernel
theorem dX7_count_89 : decode cX7_count 89 = .ok (.ireturn, 1) := by decide +kernel
theorem dX7_beginInChangedGame_0 : decode cX7_beginInChangedGame 0 = .ok (.iconst 0, 1) := by decide +kernel
theorem dX7_beginInChangedGame_1 : decode cX7_beginInChangedGame 1 = .ok (.istore_n 1, 1) := by decide +kernel
theorem dX7_beginInChangedGame_2 : decode cX7_beginInChangedGame 2 = .ok (.iload_n 1, 1) := by decide +kernel
theorem dX7_beginInChangedGame_3 : decode cX7_beginInChangedGame 3 = .ok (.iconst 4, 1) := by decide +kernel
theorem dX7_beginInChangedGame_4 : decode cX7_beginInChangedGame 4 = .ok (.if_icmp .ge 16, 3) := by decide +kernel
theorem dX7_beginInChangedGame_7 : decode cX7_beginInChangedGame 7 = .ok (.aload_n 0, 1) := by decide +kernel
theorem dX7_beginInChangedGame_8 : decode cX7_beginInChangedGame 8 = .ok (.getfield 27, 3) := by decide +kernel
theorem dX7_beginInChangedGame_11 : decode cX7_beginInChangedGame 11 = .ok (.iload_n 1, 1) := by decide +kernel
theorem dX7_beginInChangedGame_12 : decode cX7_beginInChangedGame 12 = .ok (.iconst 0, 1) := by decide +kernel
theorem dX7_beginInChangedGame_13 : decode cX7_beginInChangedGame 13 = .ok (.bastore, 1) := by decide +kernel
theorem dX7_beginInChangedGame_14 : decode cX7_beginInChangedGame 14 = .ok (.iinc 1 1, 3) := by decide +kernel
theorem dX7_beginInChangedGame_17 : decode cX7_beginInChangedGame 17 = .ok (.goto (-15), 3) := by decide +kernel
theorem dX7_beginInChangedGame_20 : decode cX7_beginInChangedGame 20 = .ok (.aload_n 0, 1) := by decide +kernel
theorem dX7_beginInChangedGame_21 : decode cX7_beginInChangedGame 21 = .ok (.getfield 19, 3) := by decide +kernel
theorem dX7_beginInChangedGame_24 : decode cX7_beginInChangedGame 24 = .ok (.aload_n 0, 1) := by decide +kernel
theorem dX7_beginInChangedGame_25 : decode cX7_beginInChangedGame 25 = .ok (.getfield 10, 3) := by decide +kernel
theorem dX7_beginInChangedGame_28 : decode cX7_beginInChangedGame 28 = .ok (.invokevirtual 148, 3) := by decide +kernel
theorem dX7_beginInChangedGame_31 : decode cX7_beginInChangedGame 31 = .ok (.invokevirtual 152, 3) := by decide +kernel
theorem dX7_beginInChangedGame_34 : decode cX7_beginInChangedGame 34 = .ok (.return_, 1) := by decide +kernel
theorem dX7_isPress_0 : decode cX7_isPress 0 = .ok (.iload_n 0, 1) := by decide +kernel
theorem dX7_isPress_1 : decode cX7_isPress 1 = .ok (.ifCond .lt 12, 3) := by decide +kernel
theorem dX7_isPress_4 : decode cX7_isPress 4 = .ok (.iload_n 0, 1) := by decide +kernel
theorem dX7_isPress_5 : decode cX7_isPress 5 = .ok (.iconst 5, 1) := by decide +kernel
theorem dX7_isPress_6 : decode cX7_isPress 6 = .ok (.if_icmp .ge 7, 3) := by decide +kernel
theorem dX7_isPress_9 : decode cX7_isPress 9 = .ok (.iconst 1, 1) := by decide +kernel
theorem dX7_isPress_10 : decode cX7_isPress 10 = .ok (.goto 4, 3) := by decide +kernel
theorem dX7_isPress_13 : decode cX7_isPress 13 = .ok (.iconst 0, 1) := by decide +kernel
theorem dX7_isPress_14 : decode cX7_isPress 14 = .ok (.ireturn, 1) := by decide +kernel
theorem dX7_isPlace_0 : decode cX7_isPlace 0 = .ok (.iload_n 0, 1) := by decide +kernel
theorem dX7_isPlace_1 : decode cX7_isPlace 1 = .ok (.ifCond .lt 12, 3) := by decide +kernel
theorem dX7_isPlace_4 : decode cX7_isPlace 4 = .ok (.iload_n 0, 1) := by decide +kernel
theorem dX7_isPlace_5 : decode cX7_isPlace 5 = .ok (.iconst 4, 1) := by decide +kernel
theorem dX7_isPlace_6 : decode cX7_isPlace 6 = .ok (.if_icmp .ge 7, 3) := by decide +kernel
theorem dX7_isPlace_9 : decode cX7_isPlace 9 = .ok (.iconst 1, 1) := by decide +kernel
theorem dX7_isPlace_10 : decode cX7_isPlace 10 = .ok (.goto 4, 3) := by decide +kernel
theorem dX7_isPlace_13 : decode cX7_isPlace 13 = .ok (.iconst 0, 1) := by decide +kernel
theorem dX7_isPlace_14 : decode cX7_isPlace 14 = .ok (.ireturn, 1) := by decide +kernel
theorem dX8_init_0 : decode cX8_init 0 = .ok (.aload_n 0, 1) := by decide +kernel
theorem dX8_init_1 : decode cX8_init 1 = .ok (.invokespecial 1, 3) := by decide +kernel
theorem dX8_init_4 : decode cX8_init 4 = .ok (.aload_n 0, 1) := by decide +kernel
theorem dX8_init_5 : decode cX8_init 5 = .ok (.iconst 2, 1) := by decide +kernel
theorem dX8_init_6 : decode cX8_init 6 = .ok (.putfield 7, 3) := by decide +kernel
theorem dX8_init_9 : decode cX8_init 9 = .ok (.aload_n 0, 1) := by decide +kernel
theorem dX8_init_10 : decode cX8_init 10 = .ok (.iconst 2, 1) := by decide +kernel
theorem dX8_init_11 : decode cX8_init 11 = .ok (.putfield 13, 3) := by decide +kernel
theorem dX8_init_14 : decode cX8_init 14 = .ok (.aload_n 0, 1) := by decide +kernel
theorem dX8_init_15 : decode cX8_init 15 = .ok (.bipush 64, 2) := by decide +kernel
theorem dX8_init_17 : decode cX8_init 17 = .ok (.newarray .int, 2) := by decide +kernel
theorem dX8_init_19 : decode cX8_init 19 = .ok (.putfield 16, 3) := by decide +kernel
theorem dX8_init_22 : decode cX8_init 22 = .ok (.aload_n 0, 1) := by decide +kernel
theorem dX8_init_23 : decode cX8_init 23 = .ok (.bipush 6, 2) := by decide +kernel
theorem dX8_init_25 : decode cX8_init 25 = .ok (.newarray .int, 2) := by decide +kernel
theorem dX8_init_27 : decode cX8_init 27 = .ok (.putfield 20, 3) := by decide +kernel
theorem dX8_init_30 : decode cX8_init 30 = .ok (.aload_n 0, 1) := by decide +kernel
theorem dX8_init_31 : decode cX8_init 31 = .ok (.sipush 500, 3) := by decide +kernel
theorem dX8_init_34 : decode cX8_init 34 = .ok (.newarray .int, 2) := by decide +kernel
theorem dX8_init_36 : decode cX8_init 36 = .ok (.putfield 23, 3) := by decide +kernel
theorem dX8_init_39 : decode cX8_init 39 = .ok (.aload_n 0, 1) := by decide +kernel
theorem dX8_init_40 : decode cX8_init 40 = .ok (.iconst 4, 1) := by decide +kernel
theorem dX8_init_41 : decode cX8_init 41 = .ok (.newarray .boolean, 2) := by decide +kernel
theorem dX8_init_43 : decode cX8_init 43 = .ok (.putfield 26, 3) := by decide +kernel
theorem dX8_init_46 : decode cX8_init 46 = .ok (.aload_n 0, 1) := by decide +kernel
theorem dX8_init_47 : decode cX8_init 47 = .ok (.iconst 4, 1) := by decide +kernel
theorem dX8_init_48 : decode cX8_init 48 = .ok (.newarray .int, 2) := by decide +kernel
theorem dX8_init_50 : decode cX8_init 50 = .ok (.putfield 30, 3) := by decide +kernel
theorem dX8_init_53 : decode cX8_init 53 = .ok (.aload_n 0, 1) := by decide +kernel
theorem dX8_init_54 : decode cX8_init 54 = .ok (.iconst 4, 1) := by decide +kernel
theorem dX8_init_55 : decode cX8_init 55 = .ok (.newarray .int, 2) := by decide +kernel
theorem dX8_init_57 : decode cX8_init 57 = .ok (.putfield 33, 3) := by decide +kernel
theorem dX8_init_60 : decode cX8_init 60 = .ok (.aload_n 0, 1) := by decide +kernel
theorem dX8_init_61 : decode cX8_init 61 = .ok (.iconst 4, 1) := by decide +kernel
theorem dX8_init_62 : decode cX8_init 62 = .ok (.newarray .int, 2) := by decide +kernel
theorem dX8_init_64 : decode cX8_init 64 = .ok (.putfield 36, 3) := by decide +kernel
theorem dX8_init_67 : decode cX8_init 67 = .ok (.aload_n 0, 1) := by decide +kernel
theorem dX8_init_68 : decode cX8_init 68 = .ok (.iconst 4, 1) := by decide +kernel
theorem dX8_init_69 : decode cX8_init 69 = .ok (.newarray .int, 2) := by decide +kernel
theorem dX8_init_71 : decode cX8_init 71 = .ok (.putfield 39, 3) := by decide +kernel
theorem dX8_init_74 : decode cX8_init 74 = .ok (.aload_n 0, 1) := by decide +kernel
theorem dX8_init_75 : decode cX8_init 75 = .ok (.sipush 2000, 3) := by decide +kernel
theorem dX8_init_78 : decode cX8_init 78 = .ok (.newarray .int, 2) := by decide +kernel
theorem dX8_init_80 : decode cX8_init 80 = .ok (.putfield 42, 3) := by decide +kernel
theorem dX8_init_83 : decode cX8_init 83 = .ok (.aload_n 0, 1) := by decide +kernel
theorem dX8_init_84 : decode cX8_init 84 = .ok (.sipush 3100, 3) := by decide +kernel
theorem dX8_init_87 : decode cX8_init 87 = .ok (.newarray .int, 2) := by decide +kernel
theorem dX8_init_89 : decode cX8_init 89 = .ok (.putfield 45, 3) := by decide +kernel
theorem dX8_init_92 : decode cX8_init 92 = .ok (.aload_n 0, 1) := by decide +kernel
theorem dX8_init_93 : decode cX8_init 93 = .ok (.sipush 3100, 3) := by decide +kernel
theorem dX8_init_96 : decode cX8_init 96 = .ok (.newarray .int, 2) := by decide +kernel
theorem dX8_init_98 : decode cX8_init 98 = .ok (.putfield 48, 3) := by decide +kernel
theorem dX8_init_101 : decode cX8_init 101 = .ok (.aload_n 0, 1) := by decide +kernel
theorem dX8_init_102 : decode cX8_init 102 = .ok (.sipush 3100, 3) := by decide +kernel
theorem dX8_init_105 : decode cX8_init 105 = .ok (.newarray .int, 2) := by decide +kernel
theorem dX8_init_107 : decode cX8_init 107 = .ok (.putfield 51, 3) := by decide +kernel
theorem dX8_init_110 : decode cX8_init 110 = .ok (.aload_n 0, 1) := by decide +kernel
theorem dX8_init_111 : decode cX8_init 111 = .ok (.sipush 3100, 3) := by decide +kernel
theorem dX8_init_114 : decode cX8_init 114 = .ok (.newarray .boolean, 2) := by decide +kernel
theorem dX8_init_116 : decode cX8_init 116 = .ok (.putfield 54, 3) := by decide +kernel
theorem dX8_init_119 : decode cX8_init 119 = .ok (.aload_n 0, 1) := by decide +kernel
theorem dX8_init_120 : decode cX8_init 120 = .ok (.sipush 3100, 3) := by decide +kernel
theorem dX8_init_123 : decode cX8_init 123 = .ok (.newarray .int, 2) := by decide +kernel
theorem dX8_init_125 : decode cX8_init 125 = .ok (.putfield 57, 3) := by decide +kernel
theorem dX8_init_128 : decode cX8_init 128 = .ok (.aload_n 0, 1) := by decide +kernel
theorem dX8_init_129 : decode cX8_init 129 = .ok (.sipush 400, 3) := by decide +kernel
theorem dX8_init_132 : decode cX8_init 132 = .ok (.newarray .int, 2) := by decide +kernel
theorem dX8_init_134 : decode cX8_init 134 = .ok (.putfield 60, 3) := by decide +kernel
theorem dX8_init_137 : decode cX8_init 137 = .ok (.aload_n 0, 1) := by decide +kernel
theorem dX8_init_138 : decode cX8_init 138 = .ok (.iconst 5, 1) := by decide +kernel
theorem dX8_init_139 : decode cX8_init 139 = .ok (.newarray .int, 2) := by decide +kernel
theorem dX8_init_141 : decode cX8_init 141 = .ok (.putfield 63, 3) := by decide +kernel
theorem dX8_init_144 : decode cX8_init 144 = .ok (.aload_n 0, 1) := by decide +kernel
theorem dX8_init_145 : decode cX8_init 145 = .ok (.iconst 5, 1) := by decide +kernel
theorem dX8_init_146 : decode cX8_init 146 = .ok (.newarray .int, 2) := by decide +kernel
theorem dX8_init_148 : decode cX8_init 148 = .ok (.putfield 66, 3) := by decide +kernel
theorem dX8_init_151 : decode cX8_init 151 = .ok (.aload_n 0, 1) := by decide +kernel
theorem dX8_init_152 : decode cX8_init 152 = .ok (.iconst 5, 1) := by decide +kernel
theorem dX8_init_153 : decode cX8_init 153 = .ok (.newarray .int, 2) := by decide +kernel
theorem dX8_init_155 : decode cX8_init 155 = .ok (.putfield 69, 3) := by decide +kernel
theorem dX8_init_158 : decode cX8_init 158 = .ok (.aload_n 0, 1) := by decide +kernel
theorem dX8_init_159 : decode cX8_init 159 = .ok (.sipush 3072, 3) := by decide +kernel
theorem dX8_init_162 : decode cX8_init 162 = .ok (.newarray .boolean, 2) := by decide +kernel
theorem dX8_init_164 : decode cX8_init 164 = .ok (.putfield 72, 3) := by decide +kernel
theorem dX8_init_167 : decode cX8_init 167 = .ok (.aload_n 0, 1) := by decide +kernel
theorem dX8_init_168 : decode cX8_init 168 = .ok (.sipush 3072, 3) := by decide +kernel
theorem dX8_init_171 : decode cX8_init 171 = .ok (.newarray .boolean, 2) := by decide +kernel
theorem dX8_init_173 : decode cX8_init 173 = .ok (.putfield 75, 3) := by decide +kernel
theorem dX8_init_176 : decode cX8_init 176 = .ok (.aload_n 0, 1) := by decide +kernel
theorem dX8_init_177 : decode cX8_init 177 = .ok (.bipush 40, 2) := by decide +kernel
theorem dX8_init_179 : decode cX8_init 179 = .ok (.newarray .int, 2) := by decide +kernel
theorem dX8_init_181 : decode cX8_init 181 = .ok (.putfield 78, 3) := by decide +kernel
theorem dX8_init_184 : decode cX8_init 184 = .ok (.aload_n 0, 1) := by decide +kernel
theorem dX8_init_185 : decode cX8_init 185 = .ok (.bipush 40, 2) := by decide +kernel
theorem dX8_init_187 : decode cX8_init 187 = .ok (.newarray .int, 2) := by decide +kernel
theorem dX8_init_189 : decode cX8_init 189 = .ok (.putfield 81, 3) := by decide +kernel
theorem dX8_init_192 : decode cX8_init 192 = .ok (.aload_n 0, 1) := by decide +kernel
theorem dX8_init_193 : decode cX8_init 193 = .ok (.bipush 40, 2) := by decide +kernel
theorem dX8_init_195 : decode cX8_init 195 = .ok (.newarray .int, 2) := by decide +kernel
theorem dX8_init_197 : decode cX8_init 197 = .ok (.putfield 84, 3) := by decide +kernel
theorem dX8_init_200 : decode cX8_init 200 = .ok (.aload_n 0, 1) := by decide +kernel
theorem dX8_init_201 : decode cX8_init 201 = .ok (.bipush 40, 2) := by decide +kernel
theorem dX8_init_203 : decode cX8_init 203 = .ok (.newarray .int, 2) := by decide +kernel
theorem dX8_init_205 : decode cX8_init 205 = .ok (.putfield 87, 3) := by decide +kernel
theorem dX8_init_208 : decode cX8_init 208 = .ok (.aload_n 0, 1) := by decide +kernel
theorem dX8_init_209 : decode cX8_init 209 = .ok (.bipush 40, 2) := by decide +kernel
theorem dX8_init_211 : decode cX8_init 211 = .ok (.newarray .int, 2) := by decide +kernel
theorem dX8_init_213 : decode cX8_init 213 = .ok (.putfield 90, 3) := by decide +kernel
theorem dX8_init_216 : decode cX8_init 216 = .ok (.aload_n 0, 1) := by decide +kernel
theorem dX8_init_217 : decode cX8_init 217 = .ok (.bipush 40, 2) := by decide +kernel
theorem dX8_init_219 : decode cX8_init 219 = .ok (.newarray .int, 2) := by decide +kernel
theorem dX8_init_221 : decode cX8_init 221 = .ok (.putfield 93, 3) := by decide +kernel
theorem dX8_init_224 : decode cX8_init 224 = .ok (.aload_n 0, 1) := by decide +kernel
theorem dX8_init_225 : decode cX8_init 225 = .ok (.bipush 40, 2) := by decide +kernel
theorem dX8_init_227 : decode cX8_init 227 = .ok (.newarray .int, 2) := by decide +kernel
theorem dX8_init_229 : decode cX8_init 229 = .ok (.putfield 96, 3) := by decide +kernel
theorem dX8_init_232 : decode cX8_init 232 = .ok (.aload_n 0, 1) := by decide +kernel
theorem dX8_init_233 : decode cX8_init 233 = .ok (.bipush 40, 2) := by decide +kernel
theorem dX8_init_235 : decode cX8_init 235 = .ok (.newarray .int, 2) := by decide +kernel
theorem dX8_init_237 : decode cX8_init 237 = .ok (.putfield 99, 3) := by decide +kernel
theorem dX8_init_240 : decode cX8_init 240 = .ok (.aload_n 0, 1) := by decide +kernel
theorem dX8_init_241 : decode cX8_init 241 = .ok (.bipush 40, 2) := by decide +kernel
theorem dX8_init_243 : decode cX8_init 243 = .ok (.newarray .boolean, 2) := by decide +kernel
theorem dX8_init_245 : decode cX8_init 245 = .ok (.putfield 102, 3) := by decide +kernel
theorem dX8_init_248 : decode cX8_init 248 = .ok (.aload_n 0, 1) := by decide +kernel
theorem dX8_init_249 : decode cX8_init 249 = .ok (.sipush 160, 3) := by decide +kernel
theorem dX8_init_252 : decode cX8_init 252 = .ok (.newarray .int, 2) := by decide +kernel
theorem dX8_init_254 : decode cX8_init 254 = .ok (.putfield 105, 3) := by decide +kernel
theorem dX8_init_257 : decode cX8_init 257 = .ok (.aload_n 0, 1) := by decide +kernel
theorem dX8_init_258 : decode cX8_init 258 = .ok (.ldc 108, 2) := by decide +kernel
theorem dX8_init_260 : decode cX8_init 260 = .ok (.newarray .int, 2) := by decide +kernel
theorem dX8_init_262 : decode cX8_init 262 = .ok (.putfield 109, 3) := by decide +kernel
theorem dX8_init_265 : decode cX8_init 265 = .ok (.return_, 1) := by decide +kernel
theorem dX8_isCell_0 : decode cX8_isCell 0 = .ok (.iload_n 1, 1) := by decide +kernel
theorem dX8_isCell_1 : decode cX8_isCell 1 = .ok (.ifCond .lt 27, 3) := by decide +kernel
theorem dX8_isCell_4 : decode cX8_isCell 4 = .ok (.iload_n 1, 1) := by decide +kernel
theorem dX8_isCell_5 : decode cX8_isCell 5 = .ok (.aload_n 0, 1) := by decide +kernel
theorem dX8_isCell_6 : decode cX8_isCell 6 = .ok (.getfield 7, 3) := by decide +kernel
theorem dX8_isCell_9 : decode cX8_isCell 9 = .ok (.if_icmp .ge 19, 3) := by decide +kernel
theorem dX8_isCell_12 : decode cX8_isCell 12 = .ok (.iload_n 2, 1) := by decide +kernel
theorem dX8_isCell_13 : decode cX8_isCell 13 = .ok (.ifCond .lt 15, 3) := by decide +kernel
theorem dX8_isCell_16 : decode cX8_isCell 16 = .ok (.iload_n 2, 1) := by decide +kernel
theorem dX8_isCell_17 : decode cX8_isCell 17 = .ok (.aload_n 0, 1) := by decide +kernel
theorem dX8_isCell_18 : decode cX8_isCell 18 = .ok (.getfield 13, 3) := by decide +kernel
theorem dX8_isCell_21 : decode cX8_isCell 21 = .ok (.if_icmp .ge 7, 3) := by decide +kernel
theorem dX8_isCell_24 : decode cX8_isCell 24 = .ok (.iconst 1, 1) := by decide +kernel
theorem dX8_isCell_25 : decode cX8_isCell 25 = .ok (.goto 4, 3) := by decide +kernel
theorem dX8_isCell_28 : decode cX8_isCell 28 = .ok (.iconst 0, 1) := by decide +kernel
theorem dX8_isCell_29 : decode cX8_isCell 29 = .ok (.ireturn, 1) := by decide +kernel
theorem dX8_begins_0 : decode cX8_begins 0 = .ok (.aload_n 0, 1) := by decide +kernel
theorem dX8_begins_1 : decode cX8_begins 1 = .ok (.aload_n 0, 1) := by decide +kernel
theorem dX8_begins_2 : decode cX8_begins 2 = .ok (.getfield 115, 3) := by decide +kernel
theorem dX8_begins_5 : decode cX8_begins 5 = .ok (.putfield 118, 3) := by decide +kernel
theorem dX8_begins_8 : decode cX8_begins 8 = .ok (.aload_n 0, 1) := by decide +kernel
theorem dX8_begins_9 : decode cX8_begins 9 = .ok (.iconst 0, 1) := by decide +kernel
theorem dX8_begins_10 : decode cX8_begins 10 = .ok (.putfield 121, 3) := by decide +kernel
theorem dX8_begins_13 : decode cX8_begins 13 = .ok (.aload_n 0, 1) := by decide +kernel
theorem dX8_begins_14 : decode cX8_begins 14 = .ok (.iconst 0, 1) := by decide +kernel
theorem dX8_begins_15 : decode cX8_begins 15 = .ok (.putfield 124, 3) := by decide +kernel
theorem dX8_begins_18 : decode cX8_begins 18 = .ok (.aload_n 0, 1) := by decide +kernel
theorem dX8_begins_19 : decode cX8_begins 19 = .ok (.iconst 0, 1) := by decide +kernel
theorem dX8_begins_20 : decode cX8_begins 20 = .ok (.putfield 127, 3) := by decide +kernel
theorem dX8_begins_23 : decode cX8_begins 23 = .ok (.return_, 1) := by decide +kernel
theorem dX8_changed_0 : decode cX8_changed 0 = .ok (.iconst 0, 1) := by decide +kernel
theorem dX8_changed_1 : decode cX8_changed 1 = .ok (.istore_n 1, 1) := by decide +kernel
theorem dX8_changed_2 : decode cX8_changed 2 = .ok (.iload_n 1, 1) := by decide +kernel
theorem dX8_changed_3 : decode cX8_changed 3 = .ok (.iconst 4, 1) := by decide +kernel
theorem dX8_changed_4 : decode cX8_changed 4 = .ok (.if_icmp .ge 16, 3) := by decide +kernel
theorem dX8_changed_7 : decode cX8_changed 7 = .ok (.aload_n 0, 1) := by decide +kernel
theorem dX8_changed_8 : decode cX8_changed 8 = .ok (.getfield 26, 3) := by decide +kernel
theorem dX8_changed_11 : decode cX8_changed 11 = .ok (.iload_n 1, 1) := by decide +kernel
theorem dX8_changed_12 : decode cX8_changed 12 = .ok (.iconst 0, 1) := by decide +kernel
theorem dX8_changed_13 : decode cX8_changed 13 = .ok (.bastore, 1) := by decide +kernel
theorem dX8_changed_14 : decode cX8_changed 14 = .ok (.iinc 1 1, 3) := by decide +kernel
theorem dX8_changed_17 : decode cX8_changed 17 = .ok (.goto (-15), 3) := by decide +kernel
theorem dX8_changed_20 : decode cX8_changed 20 = .ok (.aload_n 0, 1) := by decide +kernel
theorem dX8_changed_21 : decode cX8_changed 21 = .ok (.invokevirtual 130, 3) := by decide +kernel
theorem dX8_changed_24 : decode cX8_changed 24 = .ok (.return_, 1) := by decide +kernel
theorem dX8_board_0 : decode cX8_board 0 = .ok (.aload_n 0, 1) := by decide +kernel
theorem dX8_board_1 : decode cX8_board 1 = .ok (.iconst 0, 1) := by decide +kernel
theorem dX8_board_2 : decode cX8_board 2 = .ok (.putfield 112, 3) := by decide +kernel
theorem dX8_board_5 : decode cX8_board 5 = .ok (.iload_n 1, 1) := by decide +kernel
theorem dX8_board_6 : decode cX8_board 6 = .ok (.iconst 2, 1) := by decide +kernel
theorem dX8_board_7 : decode cX8_board 7 = .ok (.if_icmp .lt 20, 3) := by decide +kernel
theorem dX8_board_10 : decode cX8_board 10 = .ok (.iload_n 1, 1) := by decide +kernel
theorem dX8_board_11 : decode cX8_board 11 = .ok (.bipush 8, 2) := by decide +kernel
theorem dX8_board_13 : decode cX8_board 13 = .ok (.if_icmp .gt 14, 3) := by decide +kernel
theorem dX8_board_16 : decode cX8_board 16 = .ok (.iload_n 2, 1) := by decide +kernel
theorem dX8_board_17 : decode cX8_board 17 = .ok (.iconst 2, 1) := by decide +kernel
theorem dX8_board_18 : decode cX8_board 18 = .ok (.if_icmp .lt 9, 3) := by decide +kernel
theorem dX8_board_21 : decode cX8_board 21 = .ok (.iload_n 2, 1) := by decide +kernel
theorem dX8_board_22 : decode cX8_board 22 = .ok (.bipush 8, 2) := by decide +kernel
theorem dX8_board_24 : decode cX8_board 24 = .ok (.if_icmp .le 5, 3) := by decide +kernel
theorem dX8_board_27 : decode cX8_board 27 = .ok (.iconst 0, 1) := by decide +kernel
theorem dX8_board_28 : decode cX8_board 28 = .ok (.ireturn, 1) := by decide +kernel
theorem dX8_board_29 : decode cX8_board 29 = .ok (.aload_n 0, 1) := by decide +kernel
theorem dX8_board_30 : decode cX8_board 30 = .ok (.iload_n 1, 1) := by decide +kernel
theorem dX8_board_31 : decode cX8_board 31 = .ok (.putfield 7, 3) := by decide +kernel
theorem dX8_board_34 : decode cX8_board 34 = .ok (.aload_n 0, 1) := by decide +kernel
theorem dX8_board_35 : decode cX8_board 35 = .ok (.iload_n 2, 1) := by decide +kernel
theorem dX8_board_36 : decode cX8_board 36 = .ok (.putfield 13, 3) := by decide +kernel
theorem dX8_board_39 : decode cX8_board 39 = .ok (.iconst 0, 1) := by decide +kernel
theorem dX8_board_40 : decode cX8_board 40 = .ok (.istore_n 3, 1) := by decide +kernel
theorem dX8_board_41 : decode cX8_board 41 = .ok (.iload_n 3, 1) := by decide +kernel
theorem dX8_board_42 : decode cX8_board 42 = .ok (.bipush 64, 2) := by decide +kernel
theorem dX8_board_44 : decode cX8_board 44 = .ok (.if_icmp .ge 16, 3) := by decide +kernel
theorem dX8_board_47 : decode cX8_board 47 = .ok (.aload_n 0, 1) := by decide +kernel
theorem dX8_board_48 : decode cX8_board 48 = .ok (.getfield 16, 3) := by decide +kernel
theorem dX8_board_51 : decode cX8_board 51 = .ok (.iload_n 3, 1) := by decide +kernel
theorem dX8_board_52 : decode cX8_board 52 = .ok (.iconst 0, 1) := by decide +kernel
theorem dX8_board_53 : decode cX8_board 53 = .ok (.iastore, 1) := by decide +kernel
theorem dX8_board_54 : decode cX8_board 54 = .ok (.iinc 3 1, 3) := by decide +kernel
theorem dX8_board_57 : decode cX8_board 57 = .ok (.goto (-16), 3) := by decide +kernel
theorem dX8_board_60 : decode cX8_board 60 = .ok (.aload_n 0, 1) := by decide +kernel
theorem dX8_board_61 : decode cX8_board 61 = .ok (.iconst 0, 1) := by decide +kernel
theorem dX8_board_62 : decode cX8_board 62 = .ok (.putfield 133, 3) := by decide +kernel
theorem dX8_board_65 : decode cX8_board 65 = .ok (.aload_n 0, 1) := by decide +kernel
theorem dX8_board_66 : decode cX8_board 66 = .ok (.iconst 0, 1) := by decide +kernel
theorem dX8_board_67 : decode cX8_board 67 = .ok (.putfield 115, 3) := by decide +kernel
theorem dX8_board_70 : decode cX8_board 70 = .ok (.aload_n 0, 1) := by decide +kernel
theorem dX8_board_71 : decode cX8_board 71 = .ok (.iconst 0, 1) := by decide +kernel
theorem dX8_board_72 : decode cX8_board 72 = .ok (.putfield 136, 3) := by decide +kernel
theorem dX8_board_75 : decode cX8_board 75 = .ok (.aload_n 0, 1) := by decide +kernel
theorem dX8_board_76 : decode cX8_board 76 = .ok (.iconst 0, 1) := by decide +kernel
theorem dX8_board_77 : decode cX8_board 77 = .ok (.putfield 139, 3) := by decide +kernel
theorem dX8_board_80 : decode cX8_board 80 = .ok (.aload_n 0, 1) := by decide +kernel
theorem dX8_board_81 : decode cX8_board 81 = .ok (.invokevirtual 142, 3) := by decide +kernel
theorem dX8_board_84 : decode cX8_board 84 = .ok (.iconst 1, 1) := by decide +kernel
theorem dX8_board_85 : decode cX8_board 85 = .ok (.ireturn, 1) := by decide +kernel
theorem dX8_cell_0 : decode cX8_cell 0 = .ok (.aload_n 0, 1) := by decide +kernel
theorem dX8_cell_1 : decode cX8_cell 1 = .ok (.iconst 0, 1) := by decide +kernel
theorem dX8_cell_2 : decode cX8_cell 2 = .ok (.putfield 112, 3) := by decide +kernel
theorem dX8_cell_5 : decode cX8_cell 5 = .ok (.aload_n 0, 1) := by decide +kernel
theorem dX8_cell_6 : decode cX8_cell 6 = .ok (.iload_n 1, 1) := by decide +kernel
theorem dX8_cell_7 : decode cX8_cell 7 = .ok (.iload_n 2, 1) := by decide +kernel
theorem dX8_cell_8 : decode cX8_cell 8 = .ok (.invokevirtual 145, 3) := by decide +kernel
theorem dX8_cell_11 : decode cX8_cell 11 = .ok (.ifCond .eq 13, 3) := by decide +kernel
theorem dX8_cell_14 : decode cX8_cell 14 = .ok (.iload_n 3, 1) := by decide +kernel
theorem dX8_cell_15 : decode cX8_cell 15 = .ok (.ifCond .lt 9, 3) := by decide +kernel
theorem dX8_cell_18 : decode cX8_cell 18 = .ok (.iload_n 3, 1) := by decide +kernel
theorem dX8_cell_19 : decode cX8_cell 19 = .ok (.bipush 8, 2) := by decide +kernel
theorem dX8_cell_21 : decode cX8_cell 21 = .ok (.if_icmp .le 5, 3) := by decide +kernel
theorem dX8_cell_24 : decode cX8_cell 24 = .ok (.iconst 0, 1) := by decide +kernel
theorem dX8_cell_25 : decode cX8_cell 25 = .ok (.ireturn, 1) := by decide +kernel
theorem dX8_cell_26 : decode cX8_cell 26 = .ok (.aload_n 0, 1) := by decide +kernel
theorem dX8_cell_27 : decode cX8_cell 27 = .ok (.getfield 16, 3) := by decide +kernel
theorem dX8_cell_30 : decode cX8_cell 30 = .ok (.bipush 8, 2) := by decide +kernel
theorem dX8_cell_32 : decode cX8_cell 32 = .ok (.iload_n 2, 1) := by decide +kernel
theorem dX8_cell_33 : decode cX8_cell 33 = .ok (.imul, 1) := by decide +kernel
theorem dX8_cell_34 : decode cX8_cell 34 = .ok (.iload_n 1, 1) := by decide +kernel
theorem dX8_cell_35 : decode cX8_cell 35 = .ok (.iadd, 1) := by decide +kernel
theorem dX8_cell_36 : decode cX8_cell 36 = .ok (.iload_n 3, 1) := by decide +kernel
theorem dX8_cell_37 : decode cX8_cell 37 = .ok (.iastore, 1) := by decide +kernel
theorem dX8_cell_38 : decode cX8_cell 38 = .ok (.aload_n 0, 1) := by decide +kernel
theorem dX8_cell_39 : decode cX8_cell 39 = .ok (.invokevirtual 142, 3) := by decide +kernel
theorem dX8_cell_42 : decode cX8_cell 42 = .ok (.iconst 1, 1) := by decide +kernel
theorem dX8_cell_43 : decode cX8_cell 43 = .ok (.ireturn, 1) := by decide +kernel
theorem dX8_foe_0 : decode cX8_foe 0 = .ok (.aload_n 0, 1) := by decide +kernel
theorem dX8_foe_1 : decode cX8_foe 1 = .ok (.iconst 0, 1) := by decide +kernel
theorem dX8_foe_2 : decode cX8_foe 2 = .ok (.putfield 112, 3) := by decide +kernel
theorem dX8_foe_5 : decode cX8_foe 5 = .ok (.aload_n 0, 1) := by decide +kernel
theorem dX8_foe_6 : decode cX8_foe 6 = .ok (.iload_n 1, 1) := by decide +kernel
theorem dX8_foe_7 : decode cX8_foe 7 = .ok (.iload_n 2, 1) := by decide +kernel
theorem dX8_foe_8 : decode cX8_foe 8 = .ok (.invokevirtual 145, 3) := by decide +kernel
theorem dX8_foe_11 : decode cX8_foe 11 = .ok (.ifCond .eq 12, 3) := by decide +kernel
theorem dX8_foe_14 : decode cX8_foe 14 = .ok (.aload_n 0, 1) := by decide +kernel
theorem dX8_foe_15 : decode cX8_foe 15 = .ok (.getfield 133, 3) := by decide +kernel
theorem dX8_foe_18 : decode cX8_foe 18 = .ok (.bipush 6, 2) := by decide +kernel
theorem dX8_foe_20 : decode cX8_foe 20 = .ok (.if_icmp .ne 5, 3) := by decide +kernel
theorem dX8_foe_23 : decode cX8_foe 23 = .ok (.iconst 0, 1) := by decide +kernel
theorem dX8_foe_24 : decode cX8_foe 24 = .ok (.ireturn, 1) := by decide +kernel
theorem dX8_foe_25 : decode cX8_foe 25 = .ok (.aload_n 0, 1) := by decide +kernel
theorem dX8_foe_26 : decode cX8_foe 26 = .ok (.getfield 20, 3) := by decide +kernel
theorem dX8_foe_29 : decode cX8_foe 29 = .ok (.aload_n 0, 1) := by decide +kernel
theorem dX8_foe_30 : decode cX8_foe 30 = .ok (.getfield 133, 3) := by decide +kernel
theorem dX8_foe_33 : decode cX8_foe 33 = .ok (.bipush 8, 2) := by decide +kernel
theorem dX8_foe_35 : decode cX8_foe 35 = .ok (.iload_n 2, 1) := by decide +kernel
theorem dX8_foe_36 : decode cX8_foe 36 = .ok (.imul, 1) := by decide +kernel
theorem dX8_foe_37 : decode cX8_foe 37 = .ok (.iload_n 1, 1) := by decide +kernel
theorem dX8_foe_38 : decode cX8_foe 38 = .ok (.iadd, 1) := by decide +kernel
theorem dX8_foe_39 : decode cX8_foe 39 = .ok (.iastore, 1) := by decide +kernel
theorem dX8_foe_40 : decode cX8_foe 40 = .ok (.aload_n 0, 1) := by decide +kernel
theorem dX8_foe_41 : decode cX8_foe 41 = .ok (.dup, 1) := by decide +kernel
theorem dX8_foe_42 : decode cX8_foe 42 = .ok (.getfield 133, 3) := by decide +kernel
theorem dX8_foe_45 : decode cX8_foe 45 = .ok (.iconst 1, 1) := by decide +kernel
theorem dX8_foe_46 : decode cX8_foe 46 = .ok (.iadd, 1) := by decide +kernel
theorem dX8_foe_47 : decode cX8_foe 47 = .ok (.putfield 133, 3) := by decide +kernel
theorem dX8_foe_50 : decode cX8_foe 50 = .ok (.aload_n 0, 1) := by decide +kernel
theorem dX8_foe_51 : decode cX8_foe 51 = .ok (.invokevirtual 142, 3) := by decide +kernel
theorem dX8_foe_54 : decode cX8_foe 54 = .ok (.iconst 1, 1) := by decide +kernel
theorem dX8_foe_55 : decode cX8_foe 55 = .ok (.ireturn, 1) := by decide +kernel
theorem dX8_start_0 : decode cX8_start 0 = .ok (.aload_n 0, 1) := by decide +kernel
theorem dX8_start_1 : decode cX8_start 1 = .ok (.iconst 0, 1) := by decide +kernel
theorem dX8_start_2 : decode cX8_start 2 = .ok (.putfield 112, 3) := by decide +kernel
theorem dX8_start_5 : decode cX8_start 5 = .ok (.aload_n 0, 1) := by decide +kernel
theorem dX8_start_6 : decode cX8_start 6 = .ok (.iload_n 1, 1) := by decide +kernel
theorem dX8_start_7 : decode cX8_start 7 = .ok (.iload_n 2, 1) := by decide +kernel
theorem dX8_start_8 : decode cX8_start 8 = .ok (.invokevirtual 145, 3) := by decide +kernel
theorem dX8_start_11 : decode cX8_start 11 = .ok (.ifCond .ne 5, 3) := by decide +kernel
theorem dX8_start_14 : decode cX8_start 14 = .ok (.iconst 0, 1) := by decide +kernel
theorem dX8_start_15 : decode cX8_start 15 = .ok (.ireturn, 1) := by decide +kernel
theorem dX8_start_16 : decode cX8_start 16 = .ok (.aload_n 0, 1) := by decide +kernel
theorem dX8_start_17 : decode cX8_start 17 = .ok (.bipush 8, 2) := by decide +kernel
theorem dX8_start_19 : decode cX8_start 19 = .ok (.iload_n 2, 1) := by decide +kernel
theorem dX8_start_20 : decode cX8_start 20 = .ok (.imul, 1) := by decide +kernel
theorem dX8_start_21 : decode cX8_start 21 = .ok (.iload_n 1, 1) := by decide +kernel
theorem dX8_start_22 : decode cX8_start 22 = .ok (.iadd, 1) := by decide +kernel
theorem dX8_start_23 : decode cX8_start 23 = .ok (.putfield 115, 3) := by decide +kernel
theorem dX8_start_26 : decode cX8_start 26 = .ok (.aload_n 0, 1) := by decide +kernel
theorem dX8_start_27 : decode cX8_start 27 = .ok (.invokevirtual 142, 3) := by decide +kernel
theorem dX8_start_30 : decode cX8_start 30 = .ok (.iconst 1, 1) := by decide +kernel
theorem dX8_start_31 : decode cX8_start 31 = .ok (.ireturn, 1) := by decide +kernel
theorem dX8_foeAt_0 : decode cX8_foeAt 0 = .ok (.aload_n 0, 1) := by decide +kernel
theorem dX8_foeAt_1 : decode cX8_foeAt 1 = .ok (.getfield 133, 3) := by decide +kernel
theorem dX8_foeAt_4 : decode cX8_foeAt 4 = .ok (.ifCond .ne 7, 3) := by decide +kernel
theorem dX8_foeAt_7 : decode cX8_foeAt 7 = .ok (.iconst (-1), 1) := by decide +kernel
theorem dX8_foeAt_8 : decode cX8_foeAt 8 = .ok (.goto 14, 3) := by decide +kernel
theorem dX8_foeAt_11 : decode cX8_foeAt 11 = .ok (.aload_n 0, 1) := by decide +kernel
theorem dX8_foeAt_12 : decode cX8_foeAt 12 = .ok (.getfield 20, 3) := by decide +kernel
theorem dX8_foeAt_15 : decode cX8_foeAt 15 = .ok (.iload_n 1, 1) := by decide +kernel
theorem dX8_foeAt_16 : decode cX8_foeAt 16 = .ok (.aload_n 0, 1) := by decide +kernel
theorem dX8_foeAt_17 : decode cX8_foeAt 17 = .ok (.getfield 133, 3) := by decide +kernel
theorem dX8_foeAt_20 : decode cX8_foeAt 20 = .ok (.irem, 1) := by decide +kernel
theorem dX8_foeAt_21 : decode cX8_foeAt 21 = .ok (.iaload, 1) := by decide +kernel
theorem dX8_foeAt_22 : decode cX8_foeAt 22 = .ok (.ireturn, 1) := by decide +kernel
theorem dX8_ticks_0 : decode cX8_ticks 0 = .ok (.iload_n 1, 1) := by decide +kernel
theorem dX8_ticks_1 : decode cX8_ticks 1 = .ok (.bipush 8, 2) := by decide +kernel
theorem dX8_ticks_3 : decode cX8_ticks 3 = .ok (.irem, 1) := by decide +kernel
theorem dX8_ticks_4 : decode cX8_ticks 4 = .ok (.iload 4, 2) := by decide +kernel
theorem dX8_ticks_6 : decode cX8_ticks 6 = .ok (.iconst 2, 1) := by decide +kernel
theorem dX8_ticks_7 : decode cX8_ticks 7 = .ok (.if_icmp .ne 7, 3) := by decide +kernel
theorem dX8_ticks_10 : decode cX8_ticks 10 = .ok (.iconst 1, 1) := by decide +kernel
theorem dX8_ticks_11 : decode cX8_ticks 11 = .ok (.goto 14, 3) := by decide +kernel
theorem dX8_ticks_14 : decode cX8_ticks 14 = .ok (.iload 4, 2) := by decide +kernel
theorem dX8_ticks_16 : decode cX8_ticks 16 = .ok (.iconst 4, 1) := by decide +kernel
theorem dX8_ticks_17 : decode cX8_ticks 17 = .ok (.if_icmp .ne 7, 3) := by decide +kernel
theorem dX8_ticks_20 : decode cX8_ticks 20 = .ok (.iconst (-1), 1) := by decide +kernel
theorem dX8_ticks_21 : decode cX8_ticks 21 = .ok (.goto 4, 3) := by decide +kernel
theorem dX8_ticks_24 : decode cX8_ticks 24 = .ok (.iconst 0, 1) := by decide +kernel
theorem dX8_ticks_25 : decode cX8_ticks 25 = .ok (.iadd, 1) := by decide +kernel
theorem dX8_ticks_26 : decode cX8_ticks 26 = .ok (.istore 5, 2) := by decide +kernel
theorem dX8_ticks_28 : decode cX8_ticks 28 = .ok (.iload_n 1, 1) := by decide +kernel
theorem dX8_ticks_29 : decode cX8_ticks 29 = .ok (.bipush 8, 2) := by decide +kernel
theorem dX8_ticks_31 : decode cX8_ticks 31 = .ok (.idiv, 1) := by decide +kernel
theorem dX8_ticks_32 : decode cX8_ticks 32 = .ok (.iload 4, 2) := by decide +kernel
theorem dX8_ticks_34 : decode cX8_ticks 34 = .ok (.iconst 3, 1) := by decide +kernel
theorem dX8_ticks_35 : decode cX8_ticks 35 = .ok (.if_icmp .ne 7, 3) := by decide +kernel
theorem dX8_ticks_38 : decode cX8_ticks 38 = .ok (.iconst 1, 1) := by decide +kernel
theorem dX8_ticks_39 : decode cX8_ticks 39 = .ok (.goto 14, 3) := by decide +kernel
theorem dX8_ticks_42 : decode cX8_ticks 42 = .ok (.iload 4, 2) := by decide +kernel
theorem dX8_ticks_44 : decode cX8_ticks 44 = .ok (.iconst 1, 1) := by decide +kernel
theorem dX8_ticks_45 : decode cX8_ticks 45 = .ok (.if_icmp .ne 7, 3) := by decide +kernel
theorem dX8_ticks_48 : decode cX8_ticks 48 = .ok (.iconst (-1), 1) := by decide +kernel
theorem dX8_ticks_49 : decode cX8_ticks 49 = .ok (.goto 4, 3) := by decide +kernel
theorem dX8_ticks_52 : decode cX8_ticks 52 = .ok (.iconst 0, 1) := by decide +kernel
theorem dX8_ticks_53 : decode cX8_ticks 53 = .ok (.iadd, 1) := by decide +kernel
theorem dX8_ticks_54 : decode cX8_ticks 54 = .ok (.istore 6, 2) := by decide +kernel
theorem dX8_ticks_56 : decode cX8_ticks 56 = .ok (.aload_n 0, 1) := by decide +kernel
theorem dX8_ticks_57 : decode cX8_ticks 57 = .ok (.iload_n 1, 1) := by decide +kernel
theorem dX8_ticks_58 : decode cX8_ticks 58 = .ok (.putfield 149, 3) := by decide +kernel
theorem dX8_ticks_61 : decode cX8_ticks 61 = .ok (.aload_n 0, 1) := by decide +kernel
theorem dX8_ticks_62 : decode cX8_ticks 62 = .ok (.iload 5, 2) := by decide +kernel
theorem dX8_ticks_64 : decode cX8_ticks 64 = .ok (.iload 6, 2) := by decide +kernel
theorem dX8_ticks_66 : decode cX8_ticks 66 = .ok (.invokevirtual 145, 3) := by decide +kernel
theorem dX8_ticks_69 : decode cX8_ticks 69 = .ok (.ifCond .eq 72, 3) := by decide +kernel
theorem dX8_ticks_72 : decode cX8_ticks 72 = .ok (.aload_n 0, 1) := by decide +kernel
theorem dX8_ticks_73 : decode cX8_ticks 73 = .ok (.getfield 16, 3) := by decide +kernel
theorem dX8_ticks_76 : decode cX8_ticks 76 = .ok (.bipush 8, 2) := by decide +kernel
theorem dX8_ticks_78 : decode cX8_ticks 78 = .ok (.iload 6, 2) := by decide +kernel
theorem dX8_ticks_80 : decode cX8_ticks 80 = .ok (.imul, 1) := by decide +kernel
theorem dX8_ticks_81 : decode cX8_ticks 81 = .ok (.iload 5, 2) := by decide +kernel
theorem dX8_ticks_83 : decode cX8_ticks 83 = .ok (.iadd, 1) := by decide +kernel
theorem dX8_ticks_84 : decode cX8_ticks 84 = .ok (.iaload, 1) := by decide +kernel
theorem dX8_ticks_85 : decode cX8_ticks 85 = .ok (.istore 7, 2) := by decide +kernel
theorem dX8_ticks_87 : decode cX8_ticks 87 = .ok (.iload 7, 2) := by decide +kernel
theorem dX8_ticks_89 : decode cX8_ticks 89 = .ok (.iconst 1, 1) := by decide +kernel
theorem dX8_ticks_90 : decode cX8_ticks 90 = .ok (.if_icmp .eq 27, 3) := by decide +kernel
theorem dX8_ticks_93 : decode cX8_ticks 93 = .ok (.iload 7, 2) := by decide +kernel
theorem dX8_ticks_95 : decode cX8_ticks 95 = .ok (.iconst 5, 1) := by decide +kernel
theorem dX8_ticks_96 : decode cX8_ticks 96 = .ok (.if_icmp .lt 25, 3) := by decide +kernel
theorem dX8_ticks_99 : decode cX8_ticks 99 = .ok (.iload 7, 2) := by decide +kernel
theorem dX8_ticks_101 : decode cX8_ticks 101 = .ok (.bipush 7, 2) := by decide +kernel
theorem dX8_ticks_103 : decode cX8_ticks 103 = .ok (.if_icmp .gt 18, 3) := by decide +kernel
theorem dX8_ticks_106 : decode cX8_ticks 106 = .ok (.iload_n 2, 1) := by decide +kernel
theorem dX8_ticks_107 : decode cX8_ticks 107 = .ok (.iload 7, 2) := by decide +kernel
theorem dX8_ticks_109 : decode cX8_ticks 109 = .ok (.iconst 5, 1) := by decide +kernel
theorem dX8_ticks_110 : decode cX8_ticks 110 = .ok (.isub, 1) := by decide +kernel
theorem dX8_ticks_111 : decode cX8_ticks 111 = .ok (.ishr, 1) := by decide +kernel
theorem dX8_ticks_112 : decode cX8_ticks 112 = .ok (.iconst 1, 1) := by decide +kernel
theorem dX8_ticks_113 : decode cX8_ticks 113 = .ok (.iand, 1) := by decide +kernel
theorem dX8_ticks_114 : decode cX8_ticks 114 = .ok (.ifCond .ne 7, 3) := by decide +kernel
theorem dX8_ticks_117 : decode cX8_ticks 117 = .ok (.iconst 1, 1) := by decide +kernel
theorem dX8_ticks_118 : decode cX8_ticks 118 = .ok (.goto 4, 3) := by decide +kernel
theorem dX8_ticks_121 : decode cX8_ticks 121 = .ok (.iconst 0, 1) := by decide +kernel
theorem dX8_ticks_122 : decode cX8_ticks 122 = .ok (.istore 8, 2) := by decide +kernel
theorem dX8_ticks_124 : decode cX8_ticks 124 = .ok (.iload 8, 2) := by decide +kernel
theorem dX8_ticks_126 : decode cX8_ticks 126 = .ok (.ifCond .ne 15, 3) := by decide +kernel
theorem dX8_ticks_129 : decode cX8_ticks 129 = .ok (.aload_n 0, 1) := by decide +kernel
theorem dX8_ticks_130 : decode cX8_ticks 130 = .ok (.bipush 8, 2) := by decide +kernel
theorem dX8_ticks_132 : decode cX8_ticks 132 = .ok (.iload 6, 2) := by decide +kernel
theorem dX8_ticks_134 : decode cX8_ticks 134 = .ok (.imul, 1) := by decide +kernel
theorem dX8_ticks_135 : decode cX8_ticks 135 = .ok (.iload 5, 2) := by decide +kernel
theorem dX8_ticks_137 : decode cX8_ticks 137 = .ok (.iadd, 1) := by decide +kernel
theorem dX8_ticks_138 : decode cX8_ticks 138 = .ok (.putfield 149, 3) := by decide +kernel
theorem dX8_ticks_141 : decode cX8_ticks 141 = .ok (.aload_n 0, 1) := by decide +kernel
theorem dX8_ticks_142 : decode cX8_ticks 142 = .ok (.iload_n 2, 1) := by decide +kernel
theorem dX8_ticks_143 : decode cX8_ticks 143 = .ok (.putfield 152, 3) := by decide +kernel
theorem dX8_ticks_146 : decode cX8_ticks 146 = .ok (.aload_n 0, 1) := by decide +kernel
theorem dX8_ticks_147 : decode cX8_ticks 147 = .ok (.iconst 0, 1) := by decide +kernel
theorem dX8_ticks_148 : decode cX8_ticks 148 = .ok (.putfield 155, 3) := by decide +kernel
theorem dX8_ticks_151 : decode cX8_ticks 151 = .ok (.aload_n 0, 1) := by decide +kernel
theorem dX8_ticks_152 : decode cX8_ticks 152 = .ok (.iload_n 3, 1) := by decide +kernel
theorem dX8_ticks_153 : decode cX8_ticks 153 = .ok (.invokevirtual 158, 3) := by decide +kernel
theorem dX8_ticks_156 : decode cX8_ticks 156 = .ok (.istore 7, 2) := by decide +kernel
theorem dX8_ticks_158 : decode cX8_ticks 158 = .ok (.aload_n 0, 1) := by decide +kernel
theorem dX8_ticks_159 : decode cX8_ticks 159 = .ok (.iload_n 3, 1) := by decide +kernel
theorem dX8_ticks_160 : decode cX8_ticks 160 = .ok (.iconst 1, 1) := by decide +kernel
theorem dX8_ticks_161 : decode cX8_ticks 161 = .ok (.iadd, 1) := by decide +kernel
theorem dX8_ticks_162 : decode cX8_ticks 162 = .ok (.invokevirtual 158, 3) := by decide +kernel
theorem dX8_ticks_165 : decode cX8_ticks 165 = .ok (.istore 8, 2) := by decide +kernel
theorem dX8_ticks_167 : decode cX8_ticks 167 = .ok (.iload 8, 2) := by decide +kernel
theorem dX8_ticks_169 : decode cX8_ticks 169 = .ok (.iconst (-1), 1) := by decide +kernel
theorem dX8_ticks_170 : decode cX8_ticks 170 = .ok (.if_icmp .eq 39, 3) := by decide +kernel
theorem dX8_ticks_173 : decode cX8_ticks 173 = .ok (.iload 8, 2) := by decide +kernel
theorem dX8_ticks_175 : decode cX8_ticks 175 = .ok (.aload_n 0, 1) := by decide +kernel
theorem dX8_ticks_176 : decode cX8_ticks 176 = .ok (.getfield 149, 3) := by decide +kernel
theorem dX8_ticks_179 : decode cX8_ticks 179 = .ok (.if_icmp .eq 24, 3) := by decide +kernel
theorem dX8_ticks_182 : decode cX8_ticks 182 = .ok (.iload 8, 2) := by decide +kernel
theorem dX8_ticks_184 : decode cX8_ticks 184 = .ok (.iload_n 1, 1) := by decide +kernel
theorem dX8_ticks_185 : decode cX8_ticks 185 = .ok (.if_icmp .ne 24, 3) := by decide +kernel
theorem dX8_ticks_188 : decode cX8_ticks 188 = .ok (.iload 7, 2) := by decide +kernel
theorem dX8_ticks_190 : decode cX8_ticks 190 = .ok (.aload_n 0, 1) := by decide +kernel
theorem dX8_ticks_191 : decode cX8_ticks 191 = .ok (.getfield 149, 3) := by decide +kernel
theorem dX8_ticks_194 : decode cX8_ticks 194 = .ok (.if_icmp .ne 15, 3) := by decide +kernel
theorem dX8_ticks_197 : decode cX8_ticks 197 = .ok (.iload 7, 2) := by decide +kernel
theorem dX8_ticks_199 : decode cX8_ticks 199 = .ok (.iload_n 1, 1) := by decide +kernel
theorem dX8_ticks_200 : decode cX8_ticks 200 = .ok (.if_icmp .eq 9, 3) := by decide +kernel
theorem dX8_ticks_203 : decode cX8_ticks 203 = .ok (.aload_n 0, 1) := by decide +kernel
theorem dX8_ticks_204 : decode cX8_ticks 204 = .ok (.iconst 1, 1) := by decide +kernel
theorem dX8_ticks_205 : decode cX8_ticks 205 = .ok (.putfield 155, 3) := by decide +kernel
theorem dX8_ticks_208 : decode cX8_ticks 208 = .ok (.return_, 1) := by decide +kernel
theorem dX8_ticks_209 : decode cX8_ticks 209 = .ok (.aload_n 0, 1) := by decide +kernel
theorem dX8_ticks_210 : decode cX8_ticks 210 = .ok (.getfield 16, 3) := by decide +kernel
theorem dX8_ticks_213 : decode cX8_ticks 213 = .ok (.aload_n 0, 1) := by decide +kernel
theorem dX8_ticks_214 : decode cX8_ticks 214 = .ok (.getfield 149, 3) := by decide +kernel
theorem dX8_ticks_217 : decode cX8_ticks 217 = .ok (.iaload, 1) := by decide +kernel
theorem dX8_ticks_218 : decode cX8_ticks 218 = .ok (.istore 9, 2) := by decide +kernel
theorem dX8_ticks_220 : decode cX8_ticks 220 = .ok (.iload 9, 2) := by decide +kernel
theorem dX8_ticks_222 : decode cX8_ticks 222 = .ok (.iconst 2, 1) := by decide +kernel
theorem dX8_ticks_223 : decode cX8_ticks 223 = .ok (.if_icmp .lt 27, 3) := by decide +kernel
theorem dX8_ticks_226 : decode cX8_ticks 226 = .ok (.iload 9, 2) := by decide +kernel
theorem dX8_ticks_228 : decode cX8_ticks 228 = .ok (.iconst 4, 1) := by decide +kernel
theorem dX8_ticks_229 : decode cX8_ticks 229 = .ok (.if_icmp .gt 21, 3) := by decide +kernel
theorem dX8_ticks_232 : decode cX8_ticks 232 = .ok (.aload_n 0, 1) := by decide +kernel
theorem dX8_ticks_233 : decode cX8_ticks 233 = .ok (.dup, 1) := by decide +kernel
theorem dX8_ticks_234 : decode cX8_ticks 234 = .ok (.getfield 152, 3) := by decide +kernel
theorem dX8_ticks_237 : decode cX8_ticks 237 = .ok (.iconst 1, 1) := by decide +kernel
theorem dX8_ticks_238 : decode cX8_ticks 238 = .ok (.iload 9, 2) := by decide +kernel
theorem dX8_ticks_240 : decode cX8_ticks 240 = .ok (.iconst 2, 1) := by decide +kernel
theorem dX8_ticks_241 : decode cX8_ticks 241 = .ok (.isub, 1) := by decide +kernel
theorem dX8_ticks_242 : decode cX8_ticks 242 = .ok (.ishl, 1) := by decide +kernel
theorem dX8_ticks_243 : decode cX8_ticks 243 = .ok (.ior, 1) := by decide +kernel
theorem dX8_ticks_244 : decode cX8_ticks 244 = .ok (.putfield 152, 3) := by decide +kernel
theorem dX8_ticks_247 : decode cX8_ticks 247 = .ok (.goto 15, 3) := by decide +kernel
theorem dX8_ticks_250 : decode cX8_ticks 250 = .ok (.iload 9, 2) := by decide +kernel
theorem dX8_ticks_252 : decode cX8_ticks 252 = .ok (.bipush 8, 2) := by decide +kernel
theorem dX8_ticks_254 : decode cX8_ticks 254 = .ok (.if_icmp .ne 8, 3) := by decide +kernel
theorem dX8_ticks_257 : decode cX8_ticks 257 = .ok (.aload_n 0, 1) := by decide +kernel
theorem dX8_ticks_258 : decode cX8_ticks 258 = .ok (.iconst 2, 1) := by decide +kernel
theorem dX8_ticks_259 : decode cX8_ticks 259 = .ok (.putfield 155, 3) := by decide +kernel
theorem dX8_ticks_262 : decode cX8_ticks 262 = .ok (.return_, 1) := by decide +kernel
theorem dX8_press_0 : decode cX8_press 0 = .ok (.aload_n 0, 1) := by decide +kernel
theorem dX8_press_1 : decode cX8_press 1 = .ok (.iconst 0, 1) := by decide +kernel
theorem dX8_press_2 : decode cX8_press 2 = .ok (.putfield 112, 3) := by decide +kernel
theorem dX8_press_5 : decode cX8_press 5 = .ok (.iload_n 1, 1) := by decide +kernel
theorem dX8_press_6 : decode cX8_press 6 = .ok (.ifCond .lt 25, 3) := by decide +kernel
theorem dX8_press_9 : decode cX8_press 9 = .ok (.iload_n 1, 1) := by decide +kernel
theorem dX8_press_10 : decode cX8_press 10 = .ok (.iconst 4, 1) := by decide +kernel
theorem dX8_press_11 : decode cX8_press 11 = .ok (.if_icmp .gt 20, 3) := by decide +kernel
theorem dX8_press_14 : decode cX8_press 14 = .ok (.aload_n 0, 1) := by decide +kernel
theorem dX8_press_15 : decode cX8_press 15 = .ok (.getfield 127, 3) := by decide +kernel
theorem dX8_press_18 : decode cX8_press 18 = .ok (.ifCond .ne 13, 3) := by decide +kernel
theorem dX8_press_21 : decode cX8_press 21 = .ok (.aload_n 0, 1) := by decide +kernel
theorem dX8_press_22 : decode cX8_press 22 = .ok (.getfield 124, 3) := by decide +kernel
theorem dX8_press_25 : decode cX8_press 25 = .ok (.sipush 500, 3) := by decide +kernel
theorem dX8_press_28 : decode cX8_press 28 = .ok (.if_icmp .ne 5, 3) := by decide +kernel
theorem dX8_press_31 : decode cX8_press 31 = .ok (.iconst (-1), 1) := by decide +kernel
theorem dX8_press_32 : decode cX8_press 32 = .ok (.ireturn, 1) := by decide +kernel
theorem dX8_press_33 : decode cX8_press 33 = .ok (.aload_n 0, 1) := by decide +kernel
theorem dX8_press_34 : decode cX8_press 34 = .ok (.aload_n 0, 1) := by decide +kernel
theorem dX8_press_35 : decode cX8_press 35 = .ok (.getfield 118, 3) := by decide +kernel
theorem dX8_press_38 : decode cX8_press 38 = .ok (.aload_n 0, 1) := by decide +kernel
theorem dX8_press_39 : decode cX8_press 39 = .ok (.getfield 121, 3) := by decide +kernel
theorem dX8_press_42 : decode cX8_press 42 = .ok (.aload_n 0, 1) := by decide +kernel
theorem dX8_press_43 : decode cX8_press 43 = .ok (.getfield 124, 3) := by decide +kernel
theorem dX8_press_46 : decode cX8_press 46 = .ok (.iload_n 1, 1) := by decide +kernel
theorem dX8_press_47 : decode cX8_press 47 = .ok (.invokevirtual 162, 3) := by decide +kernel
theorem dX8_press_50 : decode cX8_press 50 = .ok (.aload_n 0, 1) := by decide +kernel
theorem dX8_press_51 : decode cX8_press 51 = .ok (.getfield 23, 3) := by decide +kernel
theorem dX8_press_54 : decode cX8_press 54 = .ok (.aload_n 0, 1) := by decide +kernel
theorem dX8_press_55 : decode cX8_press 55 = .ok (.getfield 124, 3) := by decide +kernel
theorem dX8_press_58 : decode cX8_press 58 = .ok (.iload_n 1, 1) := by decide +kernel
theorem dX8_press_59 : decode cX8_press 59 = .ok (.iastore, 1) := by decide +kernel
theorem dX8_press_60 : decode cX8_press 60 = .ok (.aload_n 0, 1) := by decide +kernel
theorem dX8_press_61 : decode cX8_press 61 = .ok (.aload_n 0, 1) := by decide +kernel
theorem dX8_press_62 : decode cX8_press 62 = .ok (.getfield 149, 3) := by decide +kernel
theorem dX8_press_65 : decode cX8_press 65 = .ok (.putfield 118, 3) := by decide +kernel
theorem dX8_press_68 : decode cX8_press 68 = .ok (.aload_n 0, 1) := by decide +kernel
theorem dX8_press_69 : decode cX8_press 69 = .ok (.aload_n 0, 1) := by decide +kernel
theorem dX8_press_70 : decode cX8_press 70 = .ok (.getfield 152, 3) := by decide +kernel
theorem dX8_press_73 : decode cX8_press 73 = .ok (.putfield 121, 3) := by decide +kernel
theorem dX8_press_76 : decode cX8_press 76 = .ok (.aload_n 0, 1) := by decide +kernel
theorem dX8_press_77 : decode cX8_press 77 = .ok (.aload_n 0, 1) := by decide +kernel
theorem dX8_press_78 : decode cX8_press 78 = .ok (.getfield 155, 3) := by decide +kernel
theorem dX8_press_81 : decode cX8_press 81 = .ok (.putfield 127, 3) := by decide +kernel
theorem dX8_press_84 : decode cX8_press 84 = .ok (.aload_n 0, 1) := by decide +kernel
theorem dX8_press_85 : decode cX8_press 85 = .ok (.dup, 1) := by decide +kernel
theorem dX8_press_86 : decode cX8_press 86 = .ok (.getfield 124, 3) := by decide +kernel
theorem dX8_press_89 : decode cX8_press 89 = .ok (.iconst 1, 1) := by decide +kernel
theorem dX8_press_90 : decode cX8_press 90 = .ok (.iadd, 1) := by decide +kernel
theorem dX8_press_91 : decode cX8_press 91 = .ok (.putfield 124, 3) := by decide +kernel
theorem dX8_press_94 : decode cX8_press 94 = .ok (.aload_n 0, 1) := by decide +kernel
theorem dX8_press_95 : decode cX8_press 95 = .ok (.getfield 127, 3) := by decide +kernel
theorem dX8_press_98 : decode cX8_press 98 = .ok (.ireturn, 1) := by decide +kernel
theorem dX8_state_0 : decode cX8_state 0 = .ok (.aload_n 0, 1) := by decide +kernel
theorem dX8_state_1 : decode cX8_state 1 = .ok (.iconst 0, 1) := by decide +kernel
theorem dX8_state_2 : decode cX8_state 2 = .ok (.putfield 112, 3) := by decide +kernel
theorem dX8_state_5 : decode cX8_state 5 = .ok (.aload_n 0, 1) := by decide +kernel
theorem dX8_state_6 : decode cX8_state 6 = .ok (.aload_n 0, 1) := by decide +kernel
theorem dX8_state_7 : decode cX8_state 7 = .ok (.getfield 124, 3) := by decide +kernel
theorem dX8_state_10 : decode cX8_state 10 = .ok (.invokevirtual 158, 3) := by decide +kernel
theorem dX8_state_13 : decode cX8_state 13 = .ok (.istore_n 2, 1) := by decide +kernel
theorem dX8_state_14 : decode cX8_state 14 = .ok (.iload_n 1, 1) := by decide +kernel
theorem dX8_state_15 : decode cX8_state 15 = .ok (.tableswitch 100 0 6 #[41, 49, 57, 62, 67, 72, 86], 41) := by decide +kernel
theorem dX8_state_56 : decode cX8_state 56 = .ok (.aload_n 0, 1) := by decide +kernel
theorem dX8_state_57 : decode cX8_state 57 = .ok (.getfield 118, 3) := by decide +kernel
theorem dX8_state_60 : decode cX8_state 60 = .ok (.bipush 8, 2) := by decide +kernel
theorem dX8_state_62 : decode cX8_state 62 = .ok (.irem, 1) := by decide +kernel
theorem dX8_state_63 : decode cX8_state 63 = .ok (.ireturn, 1) := by decide +kernel
theorem dX8_state_64 : decode cX8_state 64 = .ok (.aload_n 0, 1) := by decide +kernel
theorem dX8_state_65 : decode cX8_state 65 = .ok (.getfield 118, 3) := by decide +kernel
theorem dX8_state_68 : decode cX8_state 68 = .ok (.bipush 8, 2) := by decide +kernel
theorem dX8_state_70 : decode cX8_state 70 = .ok (.idiv, 1) := by decide +kernel
theorem dX8_state_71 : decode cX8_state 71 = .ok (.ireturn, 1) := by decide +kernel
theorem dX8_state_72 : decode cX8_state 72 = .ok (.aload_n 0, 1) := by decide +kernel
theorem dX8_state_73 : decode cX8_state 73 = .ok (.getfield 121, 3) := by decide +kernel
theorem dX8_state_76 : decode cX8_state 76 = .ok (.ireturn, 1) := by decide +kernel
theorem dX8_state_77 : decode cX8_state 77 = .ok (.aload_n 0, 1) := by decide +kernel
theorem dX8_state_78 : decode cX8_state 78 = .ok (.getfield 124, 3) := by decide +kernel
theorem dX8_state_81 : decode cX8_state 81 = .ok (.ireturn, 1) := by decide +kernel
theorem dX8_state_82 : decode cX8_state 82 = .ok (.aload_n 0, 1) := by decide +kernel
theorem dX8_state_83 : decode cX8_state 83 = .ok (.getfield 127, 3) := by decide +kernel
theorem dX8_state_86 : decode cX8_state 86 = .ok (.ireturn, 1) := by decide +kernel
theorem dX8_state_87 : decode cX8_state 87 = .ok (.iload_n 2, 1) := by decide +kernel
