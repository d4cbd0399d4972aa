theorem dX8_state_88 : decode cX8_state 88 = .ok (.iconst (-1), 1) := by decide +kernel
theorem dX8_state_89 : decode cX8_state 89 = .ok (.if_icmp .ne 7, 3) := by decide +kernel
theorem dX8_state_92 : decode cX8_state 92 = .ok (.iconst (-1), 1) := by decide +kernel
theorem dX8_state_93 : decode cX8_state 93 = .ok (.goto 7, 3) := by decide +kernel
theorem dX8_state_96 : decode cX8_state 96 = .ok (.iload_n 2, 1) := by decide +kernel
theorem dX8_state_97 : decode cX8_state 97 = .ok (.bipush 8, 2) := by decide +kernel
theorem dX8_state_99 : decode cX8_state 99 = .ok (.irem, 1) := by decide +kernel
theorem dX8_state_100 : decode cX8_state 100 = .ok (.ireturn, 1) := by decide +kernel
theorem dX8_state_101 : decode cX8_state 101 = .ok (.iload_n 2, 1) := by decide +kernel
theorem dX8_state_102 : decode cX8_state 102 = .ok (.iconst (-1), 1) := by decide +kernel
theorem dX8_state_103 : decode cX8_state 103 = .ok (.if_icmp .ne 7, 3) := by decide +kernel
theorem dX8_state_106 : decode cX8_state 106 = .ok (.iconst (-1), 1) := by decide +kernel
theorem dX8_state_107 : decode cX8_state 107 = .ok (.goto 7, 3) := by decide +kernel
theorem dX8_state_110 : decode cX8_state 110 = .ok (.iload_n 2, 1) := by decide +kernel
theorem dX8_state_111 : decode cX8_state 111 = .ok (.bipush 8, 2) := by decide +kernel
theorem dX8_state_113 : decode cX8_state 113 = .ok (.idiv, 1) := by decide +kernel
theorem dX8_state_114 : decode cX8_state 114 = .ok (.ireturn, 1) := by decide +kernel
theorem dX8_state_115 : decode cX8_state 115 = .ok (.iconst (-1), 1) := by decide +kernel
theorem dX8_state_116 : decode cX8_state 116 = .ok (.ireturn, 1) := by decide +kernel
theorem dX8_save_0 : decode cX8_save 0 = .ok (.aload_n 0, 1) := by decide +kernel
theorem dX8_save_1 : decode cX8_save 1 = .ok (.iconst 0, 1) := by decide +kernel
theorem dX8_save_2 : decode cX8_save 2 = .ok (.putfield 112, 3) := by decide +kernel
theorem dX8_save_5 : decode cX8_save 5 = .ok (.iload_n 1, 1) := by decide +kernel
theorem dX8_save_6 : decode cX8_save 6 = .ok (.ifCond .lt 8, 3) := by decide +kernel
theorem dX8_save_9 : decode cX8_save 9 = .ok (.iload_n 1, 1) := by decide +kernel
theorem dX8_save_10 : decode cX8_save 10 = .ok (.iconst 3, 1) := by decide +kernel
theorem dX8_save_11 : decode cX8_save 11 = .ok (.if_icmp .le 5, 3) := by decide +kernel
theorem dX8_save_14 : decode cX8_save 14 = .ok (.iconst 0, 1) := by decide +kernel
theorem dX8_save_15 : decode cX8_save 15 = .ok (.ireturn, 1) := by decide +kernel
theorem dX8_save_16 : decode cX8_save 16 = .ok (.aload_n 0, 1) := by decide +kernel
theorem dX8_save_17 : decode cX8_save 17 = .ok (.getfield 26, 3) := by decide +kernel
theorem dX8_save_20 : decode cX8_save 20 = .ok (.iload_n 1, 1) := by decide +kernel
theorem dX8_save_21 : decode cX8_save 21 = .ok (.iconst 1, 1) := by decide +kernel
theorem dX8_save_22 : decode cX8_save 22 = .ok (.bastore, 1) := by decide +kernel
theorem dX8_save_23 : decode cX8_save 23 = .ok (.aload_n 0, 1) := by decide +kernel
theorem dX8_save_24 : decode cX8_save 24 = .ok (.getfield 30, 3) := by decide +kernel
theorem dX8_save_27 : decode cX8_save 27 = .ok (.iload_n 1, 1) := by decide +kernel
theorem dX8_save_28 : decode cX8_save 28 = .ok (.aload_n 0, 1) := by decide +kernel
theorem dX8_save_29 : decode cX8_save 29 = .ok (.getfield 118, 3) := by decide +kernel
theorem dX8_save_32 : decode cX8_save 32 = .ok (.iastore, 1) := by decide +kernel
theorem dX8_save_33 : decode cX8_save 33 = .ok (.aload_n 0, 1) := by decide +kernel
theorem dX8_save_34 : decode cX8_save 34 = .ok (.getfield 33, 3) := by decide +kernel
theorem dX8_save_37 : decode cX8_save 37 = .ok (.iload_n 1, 1) := by decide +kernel
theorem dX8_save_38 : decode cX8_save 38 = .ok (.aload_n 0, 1) := by decide +kernel
theorem dX8_save_39 : decode cX8_save 39 = .ok (.getfield 121, 3) := by decide +kernel
theorem dX8_save_42 : decode cX8_save 42 = .ok (.iastore, 1) := by decide +kernel
theorem dX8_save_43 : decode cX8_save 43 = .ok (.aload_n 0, 1) := by decide +kernel
theorem dX8_save_44 : decode cX8_save 44 = .ok (.getfield 36, 3) := by decide +kernel
theorem dX8_save_47 : decode cX8_save 47 = .ok (.iload_n 1, 1) := by decide +kernel
theorem dX8_save_48 : decode cX8_save 48 = .ok (.aload_n 0, 1) := by decide +kernel
theorem dX8_save_49 : decode cX8_save 49 = .ok (.getfield 124, 3) := by decide +kernel
theorem dX8_save_52 : decode cX8_save 52 = .ok (.iastore, 1) := by decide +kernel
theorem dX8_save_53 : decode cX8_save 53 = .ok (.aload_n 0, 1) := by decide +kernel
theorem dX8_save_54 : decode cX8_save 54 = .ok (.getfield 39, 3) := by decide +kernel
theorem dX8_save_57 : decode cX8_save 57 = .ok (.iload_n 1, 1) := by decide +kernel
theorem dX8_save_58 : decode cX8_save 58 = .ok (.aload_n 0, 1) := by decide +kernel
theorem dX8_save_59 : decode cX8_save 59 = .ok (.getfield 127, 3) := by decide +kernel
theorem dX8_save_62 : decode cX8_save 62 = .ok (.iastore, 1) := by decide +kernel
theorem dX8_save_63 : decode cX8_save 63 = .ok (.iconst 0, 1) := by decide +kernel
theorem dX8_save_64 : decode cX8_save 64 = .ok (.istore_n 2, 1) := by decide +kernel
theorem dX8_save_65 : decode cX8_save 65 = .ok (.iload_n 2, 1) := by decide +kernel
theorem dX8_save_66 : decode cX8_save 66 = .ok (.aload_n 0, 1) := by decide +kernel
theorem dX8_save_67 : decode cX8_save 67 = .ok (.getfield 124, 3) := by decide +kernel
theorem dX8_save_70 : decode cX8_save 70 = .ok (.if_icmp .ge 27, 3) := by decide +kernel
theorem dX8_save_73 : decode cX8_save 73 = .ok (.aload_n 0, 1) := by decide +kernel
theorem dX8_save_74 : decode cX8_save 74 = .ok (.getfield 42, 3) := by decide +kernel
theorem dX8_save_77 : decode cX8_save 77 = .ok (.sipush 500, 3) := by decide +kernel
theorem dX8_save_80 : decode cX8_save 80 = .ok (.iload_n 1, 1) := by decide +kernel
theorem dX8_save_81 : decode cX8_save 81 = .ok (.imul, 1) := by decide +kernel
theorem dX8_save_82 : decode cX8_save 82 = .ok (.iload_n 2, 1) := by decide +kernel
theorem dX8_save_83 : decode cX8_save 83 = .ok (.iadd, 1) := by decide +kernel
theorem dX8_save_84 : decode cX8_save 84 = .ok (.aload_n 0, 1) := by decide +kernel
theorem dX8_save_85 : decode cX8_save 85 = .ok (.getfield 23, 3) := by decide +kernel
theorem dX8_save_88 : decode cX8_save 88 = .ok (.iload_n 2, 1) := by decide +kernel
theorem dX8_save_89 : decode cX8_save 89 = .ok (.iaload, 1) := by decide +kernel
theorem dX8_save_90 : decode cX8_save 90 = .ok (.iastore, 1) := by decide +kernel
theorem dX8_save_91 : decode cX8_save 91 = .ok (.iinc 2 1, 3) := by decide +kernel
theorem dX8_save_94 : decode cX8_save 94 = .ok (.goto (-29), 3) := by decide +kernel
theorem dX8_save_97 : decode cX8_save 97 = .ok (.iconst 1, 1) := by decide +kernel
theorem dX8_save_98 : decode cX8_save 98 = .ok (.ireturn, 1) := by decide +kernel
theorem dX8_back_0 : decode cX8_back 0 = .ok (.aload_n 0, 1) := by decide +kernel
theorem dX8_back_1 : decode cX8_back 1 = .ok (.iconst 0, 1) := by decide +kernel
theorem dX8_back_2 : decode cX8_back 2 = .ok (.putfield 112, 3) := by decide +kernel
theorem dX8_back_5 : decode cX8_back 5 = .ok (.iload_n 1, 1) := by decide +kernel
theorem dX8_back_6 : decode cX8_back 6 = .ok (.ifCond .lt 17, 3) := by decide +kernel
theorem dX8_back_9 : decode cX8_back 9 = .ok (.iload_n 1, 1) := by decide +kernel
theorem dX8_back_10 : decode cX8_back 10 = .ok (.iconst 3, 1) := by decide +kernel
theorem dX8_back_11 : decode cX8_back 11 = .ok (.if_icmp .gt 12, 3) := by decide +kernel
theorem dX8_back_14 : decode cX8_back 14 = .ok (.aload_n 0, 1) := by decide +kernel
theorem dX8_back_15 : decode cX8_back 15 = .ok (.getfield 26, 3) := by decide +kernel
theorem dX8_back_18 : decode cX8_back 18 = .ok (.iload_n 1, 1) := by decide +kernel
theorem dX8_back_19 : decode cX8_back 19 = .ok (.baload, 1) := by decide +kernel
theorem dX8_back_20 : decode cX8_back 20 = .ok (.ifCond .ne 5, 3) := by decide +kernel
theorem dX8_back_23 : decode cX8_back 23 = .ok (.iconst 0, 1) := by decide +kernel
theorem dX8_back_24 : decode cX8_back 24 = .ok (.ireturn, 1) := by decide +kernel
theorem dX8_back_25 : decode cX8_back 25 = .ok (.aload_n 0, 1) := by decide +kernel
theorem dX8_back_26 : decode cX8_back 26 = .ok (.aload_n 0, 1) := by decide +kernel
theorem dX8_back_27 : decode cX8_back 27 = .ok (.getfield 30, 3) := by decide +kernel
theorem dX8_back_30 : decode cX8_back 30 = .ok (.iload_n 1, 1) := by decide +kernel
theorem dX8_back_31 : decode cX8_back 31 = .ok (.iaload, 1) := by decide +kernel
theorem dX8_back_32 : decode cX8_back 32 = .ok (.putfield 118, 3) := by decide +kernel
theorem dX8_back_35 : decode cX8_back 35 = .ok (.aload_n 0, 1) := by decide +kernel
theorem dX8_back_36 : decode cX8_back 36 = .ok (.aload_n 0, 1) := by decide +kernel
theorem dX8_back_37 : decode cX8_back 37 = .ok (.getfield 33, 3) := by decide +kernel
theorem dX8_back_40 : decode cX8_back 40 = .ok (.iload_n 1, 1) := by decide +kernel
theorem dX8_back_41 : decode cX8_back 41 = .ok (.iaload, 1) := by decide +kernel
theorem dX8_back_42 : decode cX8_back 42 = .ok (.putfield 121, 3) := by decide +kernel
theorem dX8_back_45 : decode cX8_back 45 = .ok (.aload_n 0, 1) := by decide +kernel
theorem dX8_back_46 : decode cX8_back 46 = .ok (.aload_n 0, 1) := by decide +kernel
theorem dX8_back_47 : decode cX8_back 47 = .ok (.getfield 36, 3) := by decide +kernel
theorem dX8_back_50 : decode cX8_back 50 = .ok (.iload_n 1, 1) := by decide +kernel
theorem dX8_back_51 : decode cX8_back 51 = .ok (.iaload, 1) := by decide +kernel
theorem dX8_back_52 : decode cX8_back 52 = .ok (.putfield 124, 3) := by decide +kernel
theorem dX8_back_55 : decode cX8_back 55 = .ok (.aload_n 0, 1) := by decide +kernel
theorem dX8_back_56 : decode cX8_back 56 = .ok (.aload_n 0, 1) := by decide +kernel
theorem dX8_back_57 : decode cX8_back 57 = .ok (.getfield 39, 3) := by decide +kernel
theorem dX8_back_60 : decode cX8_back 60 = .ok (.iload_n 1, 1) := by decide +kernel
theorem dX8_back_61 : decode cX8_back 61 = .ok (.iaload, 1) := by decide +kernel
theorem dX8_back_62 : decode cX8_back 62 = .ok (.putfield 127, 3) := by decide +kernel
theorem dX8_back_65 : decode cX8_back 65 = .ok (.iconst 0, 1) := by decide +kernel
theorem dX8_back_66 : decode cX8_back 66 = .ok (.istore_n 2, 1) := by decide +kernel
theorem dX8_back_67 : decode cX8_back 67 = .ok (.iload_n 2, 1) := by decide +kernel
theorem dX8_back_68 : decode cX8_back 68 = .ok (.aload_n 0, 1) := by decide +kernel
theorem dX8_back_69 : decode cX8_back 69 = .ok (.getfield 124, 3) := by decide +kernel
theorem dX8_back_72 : decode cX8_back 72 = .ok (.if_icmp .ge 27, 3) := by decide +kernel
theorem dX8_back_75 : decode cX8_back 75 = .ok (.aload_n 0, 1) := by decide +kernel
theorem dX8_back_76 : decode cX8_back 76 = .ok (.getfield 23, 3) := by decide +kernel
theorem dX8_back_79 : decode cX8_back 79 = .ok (.iload_n 2, 1) := by decide +kernel
theorem dX8_back_80 : decode cX8_back 80 = .ok (.aload_n 0, 1) := by decide +kernel
theorem dX8_back_81 : decode cX8_back 81 = .ok (.getfield 42, 3) := by decide +kernel
theorem dX8_back_84 : decode cX8_back 84 = .ok (.sipush 500, 3) := by decide +kernel
theorem dX8_back_87 : decode cX8_back 87 = .ok (.iload_n 1, 1) := by decide +kernel
theorem dX8_back_88 : decode cX8_back 88 = .ok (.imul, 1) := by decide +kernel
theorem dX8_back_89 : decode cX8_back 89 = .ok (.iload_n 2, 1) := by decide +kernel
theorem dX8_back_90 : decode cX8_back 90 = .ok (.iadd, 1) := by decide +kernel
theorem dX8_back_91 : decode cX8_back 91 = .ok (.iaload, 1) := by decide +kernel
theorem dX8_back_92 : decode cX8_back 92 = .ok (.iastore, 1) := by decide +kernel
theorem dX8_back_93 : decode cX8_back 93 = .ok (.iinc 2 1, 3) := by decide +kernel
theorem dX8_back_96 : decode cX8_back 96 = .ok (.goto (-29), 3) := by decide +kernel
theorem dX8_back_99 : decode cX8_back 99 = .ok (.iconst 1, 1) := by decide +kernel
theorem dX8_back_100 : decode cX8_back 100 = .ok (.ireturn, 1) := by decide +kernel
theorem dX8_begin_0 : decode cX8_begin 0 = .ok (.aload_n 0, 1) := by decide +kernel
theorem dX8_begin_1 : decode cX8_begin 1 = .ok (.iconst 0, 1) := by decide +kernel
theorem dX8_begin_2 : decode cX8_begin 2 = .ok (.putfield 112, 3) := by decide +kernel
theorem dX8_begin_5 : decode cX8_begin 5 = .ok (.aload_n 0, 1) := by decide +kernel
theorem dX8_begin_6 : decode cX8_begin 6 = .ok (.invokevirtual 130, 3) := by decide +kernel
theorem dX8_begin_9 : decode cX8_begin 9 = .ok (.return_, 1) := by decide +kernel
theorem dX8_phases_0 : decode cX8_phases 0 = .ok (.aload_n 0, 1) := by decide +kernel
theorem dX8_phases_1 : decode cX8_phases 1 = .ok (.getfield 133, 3) := by decide +kernel
theorem dX8_phases_4 : decode cX8_phases 4 = .ok (.ifCond .ne 7, 3) := by decide +kernel
theorem dX8_phases_7 : decode cX8_phases 7 = .ok (.iconst 1, 1) := by decide +kernel
theorem dX8_phases_8 : decode cX8_phases 8 = .ok (.goto 7, 3) := by decide +kernel
theorem dX8_phases_11 : decode cX8_phases 11 = .ok (.aload_n 0, 1) := by decide +kernel
theorem dX8_phases_12 : decode cX8_phases 12 = .ok (.getfield 133, 3) := by decide +kernel
theorem dX8_phases_15 : decode cX8_phases 15 = .ok (.ireturn, 1) := by decide +kernel
theorem dX8_least_0 : decode cX8_least 0 = .ok (.aload_n 0, 1) := by decide +kernel
theorem dX8_least_1 : decode cX8_least 1 = .ok (.iconst 0, 1) := by decide +kernel
theorem dX8_least_2 : decode cX8_least 2 = .ok (.putfield 112, 3) := by decide +kernel
theorem dX8_least_5 : decode cX8_least 5 = .ok (.aload_n 0, 1) := by decide +kernel
theorem dX8_least_6 : decode cX8_least 6 = .ok (.iconst 0, 1) := by decide +kernel
theorem dX8_least_7 : decode cX8_least 7 = .ok (.putfield 166, 3) := by decide +kernel
theorem dX8_least_10 : decode cX8_least 10 = .ok (.aload_n 0, 1) := by decide +kernel
theorem dX8_least_11 : decode cX8_least 11 = .ok (.getfield 127, 3) := by decide +kernel
theorem dX8_least_14 : decode cX8_least 14 = .ok (.iconst 1, 1) := by decide +kernel
theorem dX8_least_15 : decode cX8_least 15 = .ok (.if_icmp .ne 5, 3) := by decide +kernel
theorem dX8_least_18 : decode cX8_least 18 = .ok (.iconst (-1), 1) := by decide +kernel
theorem dX8_least_19 : decode cX8_least 19 = .ok (.ireturn, 1) := by decide +kernel
theorem dX8_least_20 : decode cX8_least 20 = .ok (.aload_n 0, 1) := by decide +kernel
theorem dX8_least_21 : decode cX8_least 21 = .ok (.getfield 127, 3) := by decide +kernel
theorem dX8_least_24 : decode cX8_least 24 = .ok (.iconst 2, 1) := by decide +kernel
theorem dX8_least_25 : decode cX8_least 25 = .ok (.if_icmp .ne 5, 3) := by decide +kernel
theorem dX8_least_28 : decode cX8_least 28 = .ok (.iconst 0, 1) := by decide +kernel
theorem dX8_least_29 : decode cX8_least 29 = .ok (.ireturn, 1) := by decide +kernel
theorem dX8_least_30 : decode cX8_least 30 = .ok (.iconst 0, 1) := by decide +kernel
theorem dX8_least_31 : decode cX8_least 31 = .ok (.istore_n 1, 1) := by decide +kernel
theorem dX8_least_32 : decode cX8_least 32 = .ok (.iload_n 1, 1) := by decide +kernel
theorem dX8_least_33 : decode cX8_least 33 = .ok (.sipush 3100, 3) := by decide +kernel
theorem dX8_least_36 : decode cX8_least 36 = .ok (.if_icmp .ge 16, 3) := by decide +kernel
theorem dX8_least_39 : decode cX8_least 39 = .ok (.aload_n 0, 1) := by decide +kernel
theorem dX8_least_40 : decode cX8_least 40 = .ok (.getfield 54, 3) := by decide +kernel
theorem dX8_least_43 : decode cX8_least 43 = .ok (.iload_n 1, 1) := by decide +kernel
theorem dX8_least_44 : decode cX8_least 44 = .ok (.iconst 0, 1) := by decide +kernel
theorem dX8_least_45 : decode cX8_least 45 = .ok (.bastore, 1) := by decide +kernel
theorem dX8_least_46 : decode cX8_least 46 = .ok (.iinc 1 1, 3) := by decide +kernel
theorem dX8_least_49 : decode cX8_least 49 = .ok (.goto (-17), 3) := by decide +kernel
theorem dX8_least_52 : decode cX8_least 52 = .ok (.iconst 1, 1) := by decide +kernel
theorem dX8_least_53 : decode cX8_least 53 = .ok (.istore_n 1, 1) := by decide +kernel
theorem dX8_least_54 : decode cX8_least 54 = .ok (.aload_n 0, 1) := by decide +kernel
theorem dX8_least_55 : decode cX8_least 55 = .ok (.getfield 45, 3) := by decide +kernel
theorem dX8_least_58 : decode cX8_least 58 = .ok (.iconst 0, 1) := by decide +kernel
theorem dX8_least_59 : decode cX8_least 59 = .ok (.bipush 8, 2) := by decide +kernel
theorem dX8_least_61 : decode cX8_least 61 = .ok (.aload_n 0, 1) := by decide +kernel
theorem dX8_least_62 : decode cX8_least 62 = .ok (.getfield 118, 3) := by decide +kernel
theorem dX8_least_65 : decode cX8_least 65 = .ok (.imul, 1) := by decide +kernel
theorem dX8_least_66 : decode cX8_least 66 = .ok (.aload_n 0, 1) := by decide +kernel
theorem dX8_least_67 : decode cX8_least 67 = .ok (.getfield 121, 3) := by decide +kernel
theorem dX8_least_70 : decode cX8_least 70 = .ok (.iadd, 1) := by decide +kernel
theorem dX8_least_71 : decode cX8_least 71 = .ok (.bipush 6, 2) := by decide +kernel
theorem dX8_least_73 : decode cX8_least 73 = .ok (.imul, 1) := by decide +kernel
theorem dX8_least_74 : decode cX8_least 74 = .ok (.aload_n 0, 1) := by decide +kernel
theorem dX8_least_75 : decode cX8_least 75 = .ok (.getfield 124, 3) := by decide +kernel
theorem dX8_least_78 : decode cX8_least 78 = .ok (.aload_n 0, 1) := by decide +kernel
theorem dX8_least_79 : decode cX8_least 79 = .ok (.invokevirtual 169, 3) := by decide +kernel
theorem dX8_least_82 : decode cX8_least 82 = .ok (.irem, 1) := by decide +kernel
theorem dX8_least_83 : decode cX8_least 83 = .ok (.iadd, 1) := by decide +kernel
theorem dX8_least_84 : decode cX8_least 84 = .ok (.iastore, 1) := by decide +kernel
theorem dX8_least_85 : decode cX8_least 85 = .ok (.aload_n 0, 1) := by decide +kernel
theorem dX8_least_86 : decode cX8_least 86 = .ok (.getfield 48, 3) := by decide +kernel
theorem dX8_least_89 : decode cX8_least 89 = .ok (.iconst 0, 1) := by decide +kernel
theorem dX8_least_90 : decode cX8_least 90 = .ok (.iconst (-1), 1) := by decide +kernel
theorem dX8_least_91 : decode cX8_least 91 = .ok (.iastore, 1) := by decide +kernel
theorem dX8_least_92 : decode cX8_least 92 = .ok (.aload_n 0, 1) := by decide +kernel
theorem dX8_least_93 : decode cX8_least 93 = .ok (.getfield 54, 3) := by decide +kernel
theorem dX8_least_96 : decode cX8_least 96 = .ok (.aload_n 0, 1) := by decide +kernel
theorem dX8_least_97 : decode cX8_least 97 = .ok (.getfield 45, 3) := by decide +kernel
theorem dX8_least_100 : decode cX8_least 100 = .ok (.iconst 0, 1) := by decide +kernel
theorem dX8_least_101 : decode cX8_least 101 = .ok (.iaload, 1) := by decide +kernel
theorem dX8_least_102 : decode cX8_least 102 = .ok (.iconst 1, 1) := by decide +kernel
theorem dX8_least_103 : decode cX8_least 103 = .ok (.bastore, 1) := by decide +kernel
theorem dX8_least_104 : decode cX8_least 104 = .ok (.iconst 0, 1) := by decide +kernel
theorem dX8_least_105 : decode cX8_least 105 = .ok (.istore_n 2, 1) := by decide +kernel
theorem dX8_least_106 : decode cX8_least 106 = .ok (.iload_n 2, 1) := by decide +kernel
theorem dX8_least_107 : decode cX8_least 107 = .ok (.iload_n 1, 1) := by decide +kernel
theorem dX8_least_108 : decode cX8_least 108 = .ok (.if_icmp .ge 158, 3) := by decide +kernel
theorem dX8_least_111 : decode cX8_least 111 = .ok (.aload_n 0, 1) := by decide +kernel
theorem dX8_least_112 : decode cX8_least 112 = .ok (.getfield 45, 3) := by decide +kernel
theorem dX8_least_115 : decode cX8_least 115 = .ok (.iload_n 2, 1) := by decide +kernel
theorem dX8_least_116 : decode cX8_least 116 = .ok (.iaload, 1) := by decide +kernel
theorem dX8_least_117 : decode cX8_least 117 = .ok (.istore_n 3, 1) := by decide +kernel
theorem dX8_least_118 : decode cX8_least 118 = .ok (.iload_n 3, 1) := by decide +kernel
theorem dX8_least_119 : decode cX8_least 119 = .ok (.bipush 6, 2) := by decide +kernel
theorem dX8_least_121 : decode cX8_least 121 = .ok (.irem, 1) := by decide +kernel
theorem dX8_least_122 : decode cX8_least 122 = .ok (.istore 4, 2) := by decide +kernel
theorem dX8_least_124 : decode cX8_least 124 = .ok (.iconst 0, 1) := by decide +kernel
theorem dX8_least_125 : decode cX8_least 125 = .ok (.istore 5, 2) := by decide +kernel
theorem dX8_least_127 : decode cX8_least 127 = .ok (.iload 5, 2) := by decide +kernel
theorem dX8_least_129 : decode cX8_least 129 = .ok (.iconst 4, 1) := by decide +kernel
theorem dX8_least_130 : decode cX8_least 130 = .ok (.if_icmp .gt 130, 3) := by decide +kernel
theorem dX8_least_133 : decode cX8_least 133 = .ok (.aload_n 0, 1) := by decide +kernel
theorem dX8_least_134 : decode cX8_least 134 = .ok (.iload_n 3, 1) := by decide +kernel
theorem dX8_least_135 : decode cX8_least 135 = .ok (.bipush 48, 2) := by decide +kernel
theorem dX8_least_137 : decode cX8_least 137 = .ok (.idiv, 1) := by decide +kernel
theorem dX8_least_138 : decode cX8_least 138 = .ok (.iload_n 3, 1) := by decide +kernel
theorem dX8_least_139 : decode cX8_least 139 = .ok (.bipush 6, 2) := by decide +kernel
theorem dX8_least_141 : decode cX8_least 141 = .ok (.idiv, 1) := by decide +kernel
theorem dX8_least_142 : decode cX8_least 142 = .ok (.bipush 8, 2) := by decide +kernel
theorem dX8_least_144 : decode cX8_least 144 = .ok (.irem, 1) := by decide +kernel
theorem dX8_least_145 : decode cX8_least 145 = .ok (.iload 4, 2) := by decide +kernel
theorem dX8_least_147 : decode cX8_least 147 = .ok (.iload 5, 2) := by decide +kernel
theorem dX8_least_149 : decode cX8_least 149 = .ok (.invokevirtual 162, 3) := by decide +kernel
theorem dX8_least_152 : decode cX8_least 152 = .ok (.aload_n 0, 1) := by decide +kernel
theorem dX8_least_153 : decode cX8_least 153 = .ok (.getfield 155, 3) := by decide +kernel
theorem dX8_least_156 : decode cX8_least 156 = .ok (.iconst 2, 1) := by decide +kernel
theorem dX8_least_157 : decode cX8_least 157 = .ok (.if_icmp .ne 15, 3) := by decide +kernel
theorem dX8_least_160 : decode cX8_least 160 = .ok (.aload_n 0, 1) := by decide +kernel
theorem dX8_least_161 : decode cX8_least 161 = .ok (.iload_n 2, 1) := by decide +kernel
theorem dX8_least_162 : decode cX8_least 162 = .ok (.iload 5, 2) := by decide +kernel
theorem dX8_least_164 : decode cX8_least 164 = .ok (.invokevirtual 173, 3) := by decide +kernel
theorem dX8_least_167 : decode cX8_least 167 = .ok (.aload_n 0, 1) := by decide +kernel
theorem dX8_least_168 : decode cX8_least 168 = .ok (.getfield 166, 3) := by decide +kernel
theorem dX8_least_171 : decode cX8_least 171 = .ok (.ireturn, 1) := by decide +kernel
theorem dX8_least_172 : decode cX8_least 172 = .ok (.bipush 8, 2) := by decide +kernel
theorem dX8_least_174 : decode cX8_least 174 = .ok (.aload_n 0, 1) := by decide +kernel
theorem dX8_least_175 : decode cX8_least 175 = .ok (.getfield 149, 3) := by decide +kernel
theorem dX8_least_178 : decode cX8_least 178 = .ok (.imul, 1) := by decide +kernel
theorem dX8_least_179 : decode cX8_least 179 = .ok (.aload_n 0, 1) := by decide +kernel
theorem dX8_least_180 : decode cX8_least 180 = .ok (.getfield 152, 3) := by decide +kernel
theorem dX8_least_183 : decode cX8_least 183 = .ok (.iadd, 1) := by decide +kernel
theorem dX8_least_184 : decode cX8_least 184 = .ok (.bipush 6, 2) := by decide +kernel
theorem dX8_least_186 : decode cX8_least 186 = .ok (.imul, 1) := by decide +kernel
theorem dX8_least_187 : decode cX8_least 187 = .ok (.iload 4, 2) := by decide +kernel
theorem dX8_least_189 : decode cX8_least 189 = .ok (.iconst 1, 1) := by decide +kernel
theorem dX8_least_190 : decode cX8_least 190 = .ok (.iadd, 1) := by decide +kernel
theorem dX8_least_191 : decode cX8_least 191 = .ok (.aload_n 0, 1) := by decide +kernel
theorem dX8_least_192 : decode cX8_least 192 = .ok (.invokevirtual 169, 3) := by decide +kernel
theorem dX8_least_195 : decode cX8_least 195 = .ok (.irem, 1) := by decide +kernel
theorem dX8_least_196 : decode cX8_least 196 = .ok (.iadd, 1) := by decide +kernel
theorem dX8_least_197 : decode cX8_least 197 = .ok (.istore 6, 2) := by decide +kernel
theorem dX8_least_199 : decode cX8_least 199 = .ok (.aload_n 0, 1) := by decide +kernel
theorem dX8_least_200 : decode cX8_least 200 = .ok (.getfield 155, 3) := by decide +kernel
theorem dX8_least_203 : decode cX8_least 203 = .ok (.iconst 1, 1) := by decide +kernel
theorem dX8_least_204 : decode cX8_least 204 = .ok (.if_icmp .eq 50, 3) := by decide +kernel
theorem dX8_least_207 : decode cX8_least 207 = .ok (.aload_n 0, 1) := by decide +kernel
theorem dX8_least_208 : decode cX8_least 208 = .ok (.getfield 54, 3) := by decide +kernel
theorem dX8_least_211 : decode cX8_least 211 = .ok (.iload 6, 2) := by decide +kernel
theorem dX8_least_213 : decode cX8_least 213 = .ok (.baload, 1) := by decide +kernel
theorem dX8_least_214 : decode cX8_least 214 = .ok (.ifCond .eq 6, 3) := by decide +kernel
theorem dX8_least_217 : decode cX8_least 217 = .ok (.goto 37, 3) := by decide +kernel
theorem dX8_least_220 : decode cX8_least 220 = .ok (.aload_n 0, 1) := by decide +kernel
theorem dX8_least_221 : decode cX8_least 221 = .ok (.getfield 54, 3) := by decide +kernel
theorem dX8_least_224 : decode cX8_least 224 = .ok (.iload 6, 2) := by decide +kernel
theorem dX8_least_226 : decode cX8_least 226 = .ok (.iconst 1, 1) := by decide +kernel
theorem dX8_least_227 : decode cX8_least 227 = .ok (.bastore, 1) := by decide +kernel
theorem dX8_least_228 : decode cX8_least 228 = .ok (.aload_n 0, 1) := by decide +kernel
theorem dX8_least_229 : decode cX8_least 229 = .ok (.getfield 45, 3) := by decide +kernel
theorem dX8_least_232 : decode cX8_least 232 = .ok (.iload_n 1, 1) := by decide +kernel
theorem dX8_least_233 : decode cX8_least 233 = .ok (.iload 6, 2) := by decide +kernel
theorem dX8_least_235 : decode cX8_least 235 = .ok (.iastore, 1) := by decide +kernel
theorem dX8_least_236 : decode cX8_least 236 = .ok (.aload_n 0, 1) := by decide +kernel
theorem dX8_least_237 : decode cX8_least 237 = .ok (.getfield 48, 3) := by decide +kernel
theorem dX8_least_240 : decode cX8_least 240 = .ok (.iload_n 1, 1) := by decide +kernel
theorem dX8_least_241 : decode cX8_least 241 = .ok (.iload_n 2, 1) := by decide +kernel
theorem dX8_least_242 : decode cX8_least 242 = .ok (.iastore, 1) := by decide +kernel
theorem dX8_least_243 : decode cX8_least 243 = .ok (.aload_n 0, 1) := by decide +kernel
theorem dX8_least_244 : decode cX8_least 244 = .ok (.getfield 51, 3) := by decide +kernel
theorem dX8_least_247 : decode cX8_least 247 = .ok (.iload_n 1, 1) := by decide +kernel
theorem dX8_least_248 : decode cX8_least 248 = .ok (.iload 5, 2) := by decide +kernel
theorem dX8_least_250 : decode cX8_least 250 = .ok (.iastore, 1) := by decide +kernel
theorem dX8_least_251 : decode cX8_least 251 = .ok (.iinc 1 1, 3) := by decide +kernel
theorem dX8_least_254 : decode cX8_least 254 = .ok (.iinc 5 1, 3) := by decide +kernel
theorem dX8_least_257 : decode cX8_least 257 = .ok (.goto (-130), 3) := by decide +kernel
theorem dX8_least_260 : decode cX8_least 260 = .ok (.iinc 2 1, 3) := by decide +kernel
theorem dX8_least_263 : decode cX8_least 263 = .ok (.goto (-157), 3) := by decide +kernel
theorem dX8_least_266 : decode cX8_least 266 = .ok (.iconst (-1), 1) := by decide +kernel
theorem dX8_least_267 : decode cX8_least 267 = .ok (.ireturn, 1) := by decide +kernel
theorem dX8_rows_0 : decode cX8_rows 0 = .ok (.iconst 1, 1) := by decide +kernel
theorem dX8_rows_1 : decode cX8_rows 1 = .ok (.istore_n 3, 1) := by decide +kernel
theorem dX8_rows_2 : decode cX8_rows 2 = .ok (.iload_n 1, 1) := by decide +kernel
theorem dX8_rows_3 : decode cX8_rows 3 = .ok (.istore 4, 2) := by decide +kernel
theorem dX8_rows_5 : decode cX8_rows 5 = .ok (.aload_n 0, 1) := by decide +kernel
theorem dX8_rows_6 : decode cX8_rows 6 = .ok (.getfield 48, 3) := by decide +kernel
theorem dX8_rows_9 : decode cX8_rows 9 = .ok (.iload 4, 2) := by decide +kernel
theorem dX8_rows_11 : decode cX8_rows 11 = .ok (.iaload, 1) := by decide +kernel
theorem dX8_rows_12 : decode cX8_rows 12 = .ok (.iconst (-1), 1) := by decide +kernel
theorem dX8_rows_13 : decode cX8_rows 13 = .ok (.if_icmp .eq 18, 3) := by decide +kernel
theorem dX8_rows_16 : decode cX8_rows 16 = .ok (.iinc 3 1, 3) := by decide +kernel
theorem dX8_rows_19 : decode cX8_rows 19 = .ok (.aload_n 0, 1) := by decide +kernel
theorem dX8_rows_20 : decode cX8_rows 20 = .ok (.getfield 48, 3) := by decide +kernel
theorem dX8_rows_23 : decode cX8_rows 23 = .ok (.iload 4, 2) := by decide +kernel
theorem dX8_rows_25 : decode cX8_rows 25 = .ok (.iaload, 1) := by decide +kernel
theorem dX8_rows_26 : decode cX8_rows 26 = .ok (.istore 4, 2) := by decide +kernel
theorem dX8_rows_28 : decode cX8_rows 28 = .ok (.goto (-23), 3) := by decide +kernel
theorem dX8_rows_31 : decode cX8_rows 31 = .ok (.aload_n 0, 1) := by decide +kernel
theorem dX8_rows_32 : decode cX8_rows 32 = .ok (.iload_n 3, 1) := by decide +kernel
theorem dX8_rows_33 : decode cX8_rows 33 = .ok (.putfield 166, 3) := by decide +kernel
theorem dX8_rows_36 : decode cX8_rows 36 = .ok (.iinc 3 (-1), 3) := by decide +kernel
theorem dX8_rows_39 : decode cX8_rows 39 = .ok (.aload_n 0, 1) := by decide +kernel
theorem dX8_rows_40 : decode cX8_rows 40 = .ok (.getfield 57, 3) := by decide +kernel
theorem dX8_rows_43 : decode cX8_rows 43 = .ok (.iload_n 3, 1) := by decide +kernel
theorem dX8_rows_44 : decode cX8_rows 44 = .ok (.iload_n 2, 1) := by decide +kernel
theorem dX8_rows_45 : decode cX8_rows 45 = .ok (.iastore, 1) := by decide +kernel
theorem dX8_rows_46 : decode cX8_rows 46 = .ok (.iload_n 1, 1) := by decide +kernel
theorem dX8_rows_47 : decode cX8_rows 47 = .ok (.istore 4, 2) := by decide +kernel
theorem dX8_rows_49 : decode cX8_rows 49 = .ok (.aload_n 0, 1) := by decide +kernel
theorem dX8_rows_50 : decode cX8_rows 50 = .ok (.getfield 48, 3) := by decide +kernel
theorem dX8_rows_53 : decode cX8_rows 53 = .ok (.iload 4, 2) := by decide +kernel
theorem dX8_rows_55 : decode cX8_rows 55 = .ok (.iaload, 1) := by decide +kernel
theorem dX8_rows_56 : decode cX8_rows 56 = .ok (.iconst (-1), 1) := by decide +kernel
theorem dX8_rows_57 : decode cX8_rows 57 = .ok (.if_icmp .eq 31, 3) := by decide +kernel
theorem dX8_rows_60 : decode cX8_rows 60 = .ok (.iinc 3 (-1), 3) := by decide +kernel
theorem dX8_rows_63 : decode cX8_rows 63 = .ok (.aload_n 0, 1) := by decide +kernel
theorem dX8_rows_64 : decode cX8_rows 64 = .ok (.getfield 57, 3) := by decide +kernel
theorem dX8_rows_67 : decode cX8_rows 67 = .ok (.iload_n 3, 1) := by decide +kernel
theorem dX8_rows_68 : decode cX8_rows 68 = .ok (.aload_n 0, 1) := by decide +kernel
theorem dX8_rows_69 : decode cX8_rows 69 = .ok (.getfield 51, 3) := by decide +kernel
theorem dX8_rows_72 : decode cX8_rows 72 = .ok (.iload 4, 2) := by decide +kernel
theorem dX8_rows_74 : decode cX8_rows 74 = .ok (.iaload, 1) := by decide +kernel
theorem dX8_rows_75 : decode cX8_rows 75 = .ok (.iastore, 1) := by decide +kernel
theorem dX8_rows_76 : decode cX8_rows 76 = .ok (.aload_n 0, 1) := by decide +kernel
theorem dX8_rows_77 : decode cX8_rows 77 = .ok (.getfield 48, 3) := by decide +kernel
theorem dX8_rows_80 : decode cX8_rows 80 = .ok (.iload 4, 2) := by decide +kernel
theorem dX8_rows_82 : decode cX8_rows 82 = .ok (.iaload, 1) := by decide +kernel
theorem dX8_rows_83 : decode cX8_rows 83 = .ok (.istore 4, 2) := by decide +kernel
theorem dX8_rows_85 : decode cX8_rows 85 = .ok (.goto (-36), 3) := by decide +kernel
theorem dX8_rows_88 : decode cX8_rows 88 = .ok (.return_, 1) := by decide +kernel
theorem dX8_best_0 : decode cX8_best 0 = .ok (.aload_n 0, 1) := by decide +kernel
theorem dX8_best_1 : decode cX8_best 1 = .ok (.iconst 0, 1) := by decide +kernel
theorem dX8_best_2 : decode cX8_best 2 = .ok (.putfield 112, 3) := by decide +kernel
theorem dX8_best_5 : decode cX8_best 5 = .ok (.iload_n 1, 1) := by decide +kernel
theorem dX8_best_6 : decode cX8_best 6 = .ok (.ifCond .lt 11, 3) := by decide +kernel
theorem dX8_best_9 : decode cX8_best 9 = .ok (.iload_n 1, 1) := by decide +kernel
theorem dX8_best_10 : decode cX8_best 10 = .ok (.aload_n 0, 1) := by decide +kernel
theorem dX8_best_11 : decode cX8_best 11 = .ok (.getfield 166, 3) := by decide +kernel
theorem dX8_best_14 : decode cX8_best 14 = .ok (.if_icmp .lt 7, 3) := by decide +kernel
theorem dX8_best_17 : decode cX8_best 17 = .ok (.iconst (-1), 1) := by decide +kernel
theorem dX8_best_18 : decode cX8_best 18 = .ok (.goto 9, 3) := by decide +kernel
theorem dX8_best_21 : decode cX8_best 21 = .ok (.aload_n 0, 1) := by decide +kernel
theorem dX8_best_22 : decode cX8_best 22 = .ok (.getfield 57, 3) := by decide +kernel
theorem dX8_best_25 : decode cX8_best 25 = .ok (.iload_n 1, 1) := by decide +kernel
theorem dX8_best_26 : decode cX8_best 26 = .ok (.iaload, 1) := by decide +kernel
theorem dX8_best_27 : decode cX8_best 27 = .ok (.ireturn, 1) := by decide +kernel
theorem dX8_claim_0 : decode cX8_claim 0 = .ok (.aload_n 0, 1) := by decide +kernel
theorem dX8_claim_1 : decode cX8_claim 1 = .ok (.iconst 0, 1) := by decide +kernel
theorem dX8_claim_2 : decode cX8_claim 2 = .ok (.putfield 112, 3) := by decide +kernel
theorem dX8_claim_5 : decode cX8_claim 5 = .ok (.iload_n 1, 1) := by decide +kernel
theorem dX8_claim_6 : decode cX8_claim 6 = .ok (.ifCond .lt 18, 3) := by decide +kernel
theorem dX8_claim_9 : decode cX8_claim 9 = .ok (.iload_n 1, 1) := by decide +kernel
theorem dX8_claim_10 : decode cX8_claim 10 = .ok (.iconst 4, 1) := by decide +kernel
theorem dX8_claim_11 : decode cX8_claim 11 = .ok (.if_icmp .gt 13, 3) := by decide +kernel
theorem dX8_claim_14 : decode cX8_claim 14 = .ok (.aload_n 0, 1) := by decide +kernel
theorem dX8_claim_15 : decode cX8_claim 15 = .ok (.getfield 139, 3) := by decide +kernel
theorem dX8_claim_18 : decode cX8_claim 18 = .ok (.sipush 400, 3) := by decide +kernel
theorem dX8_claim_21 : decode cX8_claim 21 = .ok (.if_icmp .ne 5, 3) := by decide +kernel
theorem dX8_claim_24 : decode cX8_claim 24 = .ok (.iconst (-1), 1) := by decide +kernel
theorem dX8_claim_25 : decode cX8_claim 25 = .ok (.ireturn, 1) := by decide +kernel
theorem dX8_claim_26 : decode cX8_claim 26 = .ok (.aload_n 0, 1) := by decide +kernel
theorem dX8_claim_27 : decode cX8_claim 27 = .ok (.getfield 60, 3) := by decide +kernel
theorem dX8_claim_30 : decode cX8_claim 30 = .ok (.aload_n 0, 1) := by decide +kernel
theorem dX8_claim_31 : decode cX8_claim 31 = .ok (.getfield 139, 3) := by decide +kernel
theorem dX8_claim_34 : decode cX8_claim 34 = .ok (.iload_n 1, 1) := by decide +kernel
theorem dX8_claim_35 : decode cX8_claim 35 = .ok (.iastore, 1) := by decide +kernel
theorem dX8_claim_36 : decode cX8_claim 36 = .ok (.aload_n 0, 1) := by decide +kernel
theorem dX8_claim_37 : decode cX8_claim 37 = .ok (.dup, 1) := by decide +kernel
theorem dX8_claim_38 : decode cX8_claim 38 = .ok (.getfield 139, 3) := by decide +kernel
theorem dX8_claim_41 : decode cX8_claim 41 = .ok (.iconst 1, 1) := by decide +kernel
theorem dX8_claim_42 : decode cX8_claim 42 = .ok (.iadd, 1) := by decide +kernel
theorem dX8_claim_43 : decode cX8_claim 43 = .ok (.putfield 139, 3) := by decide +kernel
theorem dX8_claim_46 : decode cX8_claim 46 = .ok (.aload_n 0, 1) := by decide +kernel
theorem dX8_claim_47 : decode cX8_claim 47 = .ok (.getfield 139, 3) := by decide +kernel
theorem dX8_claim_50 : decode cX8_claim 50 = .ok (.ireturn, 1) := by decide +kernel
theorem dX8_unclaim_0 : decode cX8_unclaim 0 = .ok (.aload_n 0, 1) := by decide +kernel
theorem dX8_unclaim_1 : decode cX8_unclaim 1 = .ok (.iconst 0, 1) := by decide +kernel
theorem dX8_unclaim_2 : decode cX8_unclaim 2 = .ok (.putfield 112, 3) := by decide +kernel
theorem dX8_unclaim_5 : decode cX8_unclaim 5 = .ok (.aload_n 0, 1) := by decide +kernel
theorem dX8_unclaim_6 : decode cX8_unclaim 6 = .ok (.iconst 0, 1) := by decide +kernel
theorem dX8_unclaim_7 : decode cX8_unclaim 7 = .ok (.putfield 139, 3) := by decide +kernel
theorem dX8_unclaim_10 : decode cX8_unclaim 10 = .ok (.return_, 1) := by decide +kernel
theorem dX8_prove_0 : decode cX8_prove 0 = .ok (.aload_n 0, 1) := by decide +kernel
theorem dX8_prove_1 : decode cX8_prove 1 = .ok (.iconst 0, 1) := by decide +kernel
theorem dX8_prove_2 : decode cX8_prove 2 = .ok (.putfield 112, 3) := by decide +kernel
theorem dX8_prove_5 : decode cX8_prove 5 = .ok (.aload_n 0, 1) := by decide +kernel
theorem dX8_prove_6 : decode cX8_prove 6 = .ok (.getfield 115, 3) := by decide +kernel
theorem dX8_prove_9 : decode cX8_prove 9 = .ok (.istore_n 2, 1) := by decide +kernel
theorem dX8_prove_10 : decode cX8_prove 10 = .ok (.iconst 0, 1) := by decide +kernel
theorem dX8_prove_11 : decode cX8_prove 11 = .ok (.istore_n 3, 1) := by decide +kernel
theorem dX8_prove_12 : decode cX8_prove 12 = .ok (.iconst 0, 1) := by decide +kernel
theorem dX8_prove_13 : decode cX8_prove 13 = .ok (.istore 4, 2) := by decide +kernel
theorem dX8_prove_15 : decode cX8_prove 15 = .ok (.iload 4, 2) := by decide +kernel
theorem dX8_prove_17 : decode cX8_prove 17 = .ok (.aload_n 0, 1) := by decide +kernel
theorem dX8_prove_18 : decode cX8_prove 18 = .ok (.getfield 139, 3) := by decide +kernel
theorem dX8_prove_21 : decode cX8_prove 21 = .ok (.if_icmp .ge 81, 3) := by decide +kernel
theorem dX8_prove_24 : decode cX8_prove 24 = .ok (.aload_n 0, 1) := by decide +kernel
theorem dX8_prove_25 : decode cX8_prove 25 = .ok (.iload_n 2, 1) := by decide +kernel
theorem dX8_prove_26 : decode cX8_prove 26 = .ok (.iload_n 3, 1) := by decide +kernel
theorem dX8_prove_27 : decode cX8_prove 27 = .ok (.iload 4, 2) := by decide +kernel
theorem dX8_prove_29 : decode cX8_prove 29 = .ok (.aload_n 0, 1) := by decide +kernel
theorem dX8_prove_30 : decode cX8_prove 30 = .ok (.getfield 60, 3) := by decide +kernel
theorem dX8_prove_33 : decode cX8_prove 33 = .ok (.iload 4, 2) := by decide +kernel
theorem dX8_prove_35 : decode cX8_prove 35 = .ok (.iaload, 1) := by decide +kernel
theorem dX8_prove_36 : decode cX8_prove 36 = .ok (.invokevirtual 162, 3) := by decide +kernel
theorem dX8_prove_39 : decode cX8_prove 39 = .ok (.aload_n 0, 1) := by decide +kernel
theorem dX8_prove_40 : decode cX8_prove 40 = .ok (.getfield 149, 3) := by decide +kernel
theorem dX8_prove_43 : decode cX8_prove 43 = .ok (.istore_n 2, 1) := by decide +kernel
theorem dX8_prove_44 : decode cX8_prove 44 = .ok (.aload_n 0, 1) := by decide +kernel
theorem dX8_prove_45 : decode cX8_prove 45 = .ok (.getfield 152, 3) := by decide +kernel
theorem dX8_prove_48 : decode cX8_prove 48 = .ok (.istore_n 3, 1) := by decide +kernel
theorem dX8_prove_49 : decode cX8_prove 49 = .ok (.aload_n 0, 1) := by decide +kernel
theorem dX8_prove_50 : decode cX8_prove 50 = .ok (.getfield 155, 3) := by decide +kernel
theorem dX8_prove_53 : decode cX8_prove 53 = .ok (.iconst 1, 1) := by decide +kernel
theorem dX8_prove_54 : decode cX8_prove 54 = .ok (.if_icmp .ne 5, 3) := by decide +kernel
theorem dX8_prove_57 : decode cX8_prove 57 = .ok (.iconst 3, 1) := by decide +kernel
theorem dX8_prove_58 : decode cX8_prove 58 = .ok (.ireturn, 1) := by decide +kernel
theorem dX8_prove_59 : decode cX8_prove 59 = .ok (.aload_n 0, 1) := by decide +kernel
theorem dX8_prove_60 : decode cX8_prove 60 = .ok (.getfield 155, 3) := by decide +kernel
theorem dX8_prove_63 : decode cX8_prove 63 = .ok (.iconst 2, 1) := by decide +kernel
theorem dX8_prove_64 : decode cX8_prove 64 = .ok (.if_icmp .ne 32, 3) := by decide +kernel
theorem dX8_prove_67 : decode cX8_prove 67 = .ok (.iload 4, 2) := by decide +kernel
theorem dX8_prove_69 : decode cX8_prove 69 = .ok (.iconst 1, 1) := by decide +kernel
theorem dX8_prove_70 : decode cX8_prove 70 = .ok (.iadd, 1) := by decide +kernel
theorem dX8_prove_71 : decode cX8_prove 71 = .ok (.aload_n 0, 1) := by decide +kernel
theorem dX8_prove_72 : decode cX8_prove 72 = .ok (.getfield 139, 3) := by decide +kernel
theorem dX8_prove_75 : decode cX8_prove 75 = .ok (.if_icmp .ge 7, 3) := by decide +kernel
theorem dX8_prove_78 : decode cX8_prove 78 = .ok (.iconst 2, 1) := by decide +kernel
theorem dX8_prove_79 : decode cX8_prove 79 = .ok (.goto 16, 3) := by decide +kernel
theorem dX8_prove_82 : decode cX8_prove 82 = .ok (.iload 4, 2) := by decide +kernel
theorem dX8_prove_84 : decode cX8_prove 84 = .ok (.iconst 1, 1) := by decide +kernel
theorem dX8_prove_85 : decode cX8_prove 85 = .ok (.iadd, 1) := by decide +kernel
theorem dX8_prove_86 : decode cX8_prove 86 = .ok (.iload_n 1, 1) := by decide +kernel
theorem dX8_prove_87 : decode cX8_prove 87 = .ok (.if_icmp .ne 7, 3) := by decide +kernel
theorem dX8_prove_90 : decode cX8_prove 90 = .ok (.iconst 0, 1) := by decide +kernel
theorem dX8_prove_91 : decode cX8_prove 91 = .ok (.goto 4, 3) := by decide +kernel
theorem dX8_prove_94 : decode cX8_prove 94 = .ok (.iconst 1, 1) := by decide +kernel
theorem dX8_prove_95 : decode cX8_prove 95 = .ok (.ireturn, 1) := by decide +kernel
theorem dX8_prove_96 : decode cX8_prove 96 = .ok (.iinc 4 1, 3) := by decide +kernel
theorem dX8_prove_99 : decode cX8_prove 99 = .ok (.goto (-84), 3) := by decide +kernel
theorem dX8_prove_102 : decode cX8_prove 102 = .ok (.iconst 4, 1) := by decide +kernel
theorem dX8_prove_103 : decode cX8_prove 103 = .ok (.ireturn, 1) := by decide +kernel
theorem dX8_differs_0 : decode cX8_differs 0 = .ok (.aload_n 0, 1) := by decide +kernel
theorem dX8_differs_1 : decode cX8_differs 1 = .ok (.iconst 0, 1) := by decide +kernel
theorem dX8_differs_2 : decode cX8_differs 2 = .ok (.putfield 112, 3) := by decide +kernel
theorem dX8_differs_5 : decode cX8_differs 5 = .ok (.iconst 0, 1) := by decide +kernel
theorem dX8_differs_6 : decode cX8_differs 6 = .ok (.istore_n 1, 1) := by decide +kernel
theorem dX8_differs_7 : decode cX8_differs 7 = .ok (.iload_n 1, 1) := by decide +kernel
theorem dX8_differs_8 : decode cX8_differs 8 = .ok (.aload_n 0, 1) := by decide +kernel
theorem dX8_differs_9 : decode cX8_differs 9 = .ok (.getfield 139, 3) := by decide +kernel
theorem dX8_differs_12 : decode cX8_differs 12 = .ok (.if_icmp .lt 11, 3) := by decide +kernel
theorem dX8_differs_15 : decode cX8_differs 15 = .ok (.iload_n 1, 1) := by decide +kernel
theorem dX8_differs_16 : decode cX8_differs 16 = .ok (.aload_n 0, 1) := by decide +kernel
theorem dX8_differs_17 : decode cX8_differs 17 = .ok (.getfield 124, 3) := by decide +kernel
theorem dX8_differs_20 : decode cX8_differs 20 = .ok (.if_icmp .ge 44, 3) := by decide +kernel
theorem dX8_differs_23 : decode cX8_differs 23 = .ok (.iload_n 1, 1) := by decide +kernel
theorem dX8_differs_24 : decode cX8_differs 24 = .ok (.aload_n 0, 1) := by decide +kernel
theorem dX8_differs_25 : decode cX8_differs 25 = .ok (.getfield 139, 3) := by decide +kernel
theorem dX8_differs_28 : decode cX8_differs 28 = .ok (.if_icmp .ge 26, 3) := by decide +kernel
theorem dX8_differs_31 : decode cX8_differs 31 = .ok (.iload_n 1, 1) := by decide +kernel
theorem dX8_differs_32 : decode cX8_differs 32 = .ok (.aload_n 0, 1) := by decide +kernel
theorem dX8_differs_33 : decode cX8_differs 33 = .ok (.getfield 124, 3) := by decide +kernel
theorem dX8_differs_36 : decode cX8_differs 36 = .ok (.if_icmp .ge 18, 3) := by decide +kernel
theorem dX8_differs_39 : decode cX8_differs 39 = .ok (.aload_n 0, 1) := by decide +kernel
theorem dX8_differs_40 : decode cX8_differs 40 = .ok (.getfield 60, 3) := by decide +kernel
theorem dX8_differs_43 : decode cX8_differs 43 = .ok (.iload_n 1, 1) := by decide +kernel
theorem dX8_differs_44 : decode cX8_differs 44 = .ok (.iaload, 1) := by decide +kernel
theorem dX8_differs_45 : decode cX8_differs 45 = .ok (.aload_n 0, 1) := by decide +kernel
theorem dX8_differs_46 : decode cX8_differs 46 = .ok (.getfield 23, 3) := by decide +kernel
theorem dX8_differs_49 : decode cX8_differs 49 = .ok (.iload_n 1, 1) := by decide +kernel
theorem dX8_differs_50 : decode cX8_differs 50 = .ok (.iaload, 1) := by decide +kernel
theorem dX8_differs_51 : decode cX8_differs 51 = .ok (.if_icmp .eq 7, 3) := by decide +kernel
theorem dX8_differs_54 : decode cX8_differs 54 = .ok (.iload_n 1, 1) := by decide +kernel
theorem dX8_differs_55 : decode cX8_differs 55 = .ok (.iconst 1, 1) := by decide +kernel
theorem dX8_differs_56 : decode cX8_differs 56 = .ok (.iadd, 1) := by decide +kernel
theorem dX8_differs_57 : decode cX8_differs 57 = .ok (.ireturn, 1) := by decide +kernel
theorem dX8_differs_58 : decode cX8_differs 58 = .ok (.iinc 1 1, 3) := by decide +kernel
theorem dX8_differs_61 : decode cX8_differs 61 = .ok (.goto (-54), 3) := by decide +kernel
theorem dX8_differs_64 : decode cX8_differs 64 = .ok (.iconst (-1), 1) := by decide +kernel
theorem dX8_differs_65 : decode cX8_differs 65 = .ok (.ireturn, 1) := by decide +kernel
theorem dX8_split_0 : decode cX8_split 0 = .ok (.aload_n 0, 1) := by decide +kernel
theorem dX8_split_1 : decode cX8_split 1 = .ok (.iconst 0, 1) := by decide +kernel
theorem dX8_split_2 : decode cX8_split 2 = .ok (.putfield 112, 3) := by decide +kernel
theorem dX8_split_5 : decode cX8_split 5 = .ok (.aload_n 0, 1) := by decide +kernel
theorem dX8_split_6 : decode cX8_split 6 = .ok (.iload_n 1, 1) := by decide +kernel
theorem dX8_split_7 : decode cX8_split 7 = .ok (.iload_n 2, 1) := by decide +kernel
theorem dX8_split_8 : decode cX8_split 8 = .ok (.invokevirtual 145, 3) := by decide +kernel
theorem dX8_split_11 : decode cX8_split 11 = .ok (.ifCond .eq 29, 3) := by decide +kernel
theorem dX8_split_14 : decode cX8_split 14 = .ok (.iload_n 3, 1) := by decide +kernel
theorem dX8_split_15 : decode cX8_split 15 = .ok (.ifCond .lt 25, 3) := by decide +kernel
theorem dX8_split_18 : decode cX8_split 18 = .ok (.iload 4, 2) := by decide +kernel
theorem dX8_split_20 : decode cX8_split 20 = .ok (.sipush 200, 3) := by decide +kernel
theorem dX8_split_23 : decode cX8_split 23 = .ok (.if_icmp .gt 17, 3) := by decide +kernel
theorem dX8_split_26 : decode cX8_split 26 = .ok (.iload_n 3, 1) := by decide +kernel
theorem dX8_split_27 : decode cX8_split 27 = .ok (.iload 4, 2) := by decide +kernel
theorem dX8_split_29 : decode cX8_split 29 = .ok (.if_icmp .gt 11, 3) := by decide +kernel
theorem dX8_split_32 : decode cX8_split 32 = .ok (.aload_n 0, 1) := by decide +kernel
theorem dX8_split_33 : decode cX8_split 33 = .ok (.getfield 136, 3) := by decide +kernel
theorem dX8_split_36 : decode cX8_split 36 = .ok (.iconst 5, 1) := by decide +kernel
theorem dX8_split_37 : decode cX8_split 37 = .ok (.if_icmp .ne 5, 3) := by decide +kernel
theorem dX8_split_40 : decode cX8_split 40 = .ok (.iconst (-1), 1) := by decide +kernel
theorem dX8_split_41 : decode cX8_split 41 = .ok (.ireturn, 1) := by decide +kernel
theorem dX8_split_42 : decode cX8_split 42 = .ok (.aload_n 0, 1) := by decide +kernel
theorem dX8_split_43 : decode cX8_split 43 = .ok (.getfield 63, 3) := by decide +kernel
theorem dX8_split_46 : decode cX8_split 46 = .ok (.aload_n 0, 1) := by decide +kernel
theorem dX8_split_47 : decode cX8_split 47 = .ok (.getfield 136, 3) := by decide +kernel
theorem dX8_split_50 : decode cX8_split 50 = .ok (.bipush 8, 2) := by decide +kernel
theorem dX8_split_52 : decode cX8_split 52 = .ok (.iload_n 2, 1) := by decide +kernel
theorem dX8_split_53 : decode cX8_split 53 = .ok (.imul, 1) := by decide +kernel
theorem dX8_split_54 : decode cX8_split 54 = .ok (.iload_n 1, 1) := by decide +kernel
theorem dX8_split_55 : decode cX8_split 55 = .ok (.iadd, 1) := by decide +kernel
theorem dX8_split_56 : decode cX8_split 56 = .ok (.iastore, 1) := by decide +kernel
theorem dX8_split_57 : decode cX8_split 57 = .ok (.aload_n 0, 1) := by decide +kernel
theorem dX8_split_58 : decode cX8_split 58 = .ok (.getfield 66, 3) := by decide +kernel
theorem dX8_split_61 : decode cX8_split 61 = .ok (.aload_n 0, 1) := by decide +kernel
theorem dX8_split_62 : decode cX8_split 62 = .ok (.getfield 136, 3) := by decide +kernel
theorem dX8_split_65 : decode cX8_split 65 = .ok (.iload_n 3, 1) := by decide +kernel
theorem dX8_split_66 : decode cX8_split 66 = .ok (.iastore, 1) := by decide +kernel
theorem dX8_split_67 : decode cX8_split 67 = .ok (.aload_n 0, 1) := by decide +kernel
theorem dX8_split_68 : decode cX8_split 68 = .ok (.getfield 69, 3) := by decide +kernel
theorem dX8_split_71 : decode cX8_split 71 = .ok (.aload_n 0, 1) := by decide +kernel
theorem dX8_split_72 : decode cX8_split 72 = .ok (.getfield 136, 3) := by decide +kernel
theorem dX8_split_75 : decode cX8_split 75 = .ok (.iload 4, 2) := by decide +kernel
theorem dX8_split_77 : decode cX8_split 77 = .ok (.iastore, 1) := by decide +kernel
theorem dX8_split_78 : decode cX8_split 78 = .ok (.aload_n 0, 1) := by decide +kernel
theorem dX8_split_79 : decode cX8_split 79 = .ok (.dup, 1) := by decide +kernel
theorem dX8_split_80 : decode cX8_split 80 = .ok (.getfield 136, 3) := by decide +kernel
theorem dX8_split_83 : decode cX8_split 83 = .ok (.iconst 1, 1) := by decide +kernel
theorem dX8_split_84 : decode cX8_split 84 = .ok (.iadd, 1) := by decide +kernel
theorem dX8_split_85 : decode cX8_split 85 = .ok (.putfield 136, 3) := by decide +kernel
theorem dX8_split_88 : decode cX8_split 88 = .ok (.aload_n 0, 1) := by decide +kernel
theorem dX8_split_89 : decode cX8_split 89 = .ok (.getfield 136, 3) := by decide +kernel
theorem dX8_split_92 : decode cX8_split 92 = .ok (.ireturn, 1) := by decide +kernel
theorem dX8_unsplit_0 : decode cX8_unsplit 0 = .ok (.aload_n 0, 1) := by decide +kernel
theorem dX8_unsplit_1 : decode cX8_unsplit 1 = .ok (.iconst 0, 1) := by decide +kernel
theorem dX8_unsplit_2 : decode cX8_unsplit 2 = .ok (.putfield 112, 3) := by decide +kernel
theorem dX8_unsplit_5 : decode cX8_unsplit 5 = .ok (.aload_n 0, 1) := by decide +kernel
theorem dX8_unsplit_6 : decode cX8_unsplit 6 = .ok (.iconst 0, 1) := by decide +kernel
theorem dX8_unsplit_7 : decode cX8_unsplit 7 = .ok (.putfield 136, 3) := by decide +kernel
theorem dX8_unsplit_10 : decode cX8_unsplit 10 = .ok (.return_, 1) := by decide +kernel
theorem dX8_so_0 : decode cX8_so 0 = .ok (.iload_n 1, 1) := by decide +kernel
theorem dX8_so_1 : decode cX8_so 1 = .ok (.istore 4, 2) := by decide +kernel
theorem dX8_so_3 : decode cX8_so 3 = .ok (.iload 4, 2) := by decide +kernel
theorem dX8_so_5 : decode cX8_so 5 = .ok (.aload_n 0, 1) := by decide +kernel
theorem dX8_so_6 : decode cX8_so 6 = .ok (.getfield 136, 3) := by decide +kernel
theorem dX8_so_9 : decode cX8_so 9 = .ok (.if_icmp .ge 42, 3) := by decide +kernel
theorem dX8_so_12 : decode cX8_so 12 = .ok (.aload_n 0, 1) := by decide +kernel
theorem dX8_so_13 : decode cX8_so 13 = .ok (.getfield 63, 3) := by decide +kernel
theorem dX8_so_16 : decode cX8_so 16 = .ok (.iload 4, 2) := by decide +kernel
theorem dX8_so_18 : decode cX8_so 18 = .ok (.iaload, 1) := by decide +kernel
theorem dX8_so_19 : decode cX8_so 19 = .ok (.iload_n 2, 1) := by decide +kernel
theorem dX8_so_20 : decode cX8_so 20 = .ok (.if_icmp .ne 31, 3) := by decide +kernel
theorem dX8_so_23 : decode cX8_so 23 = .ok (.iload_n 3, 1) := by decide +kernel
theorem dX8_so_24 : decode cX8_so 24 = .ok (.aload_n 0, 1) := by decide +kernel
theorem dX8_so_25 : decode cX8_so 25 = .ok (.getfield 66, 3) := by decide +kernel
theorem dX8_so_28 : decode cX8_so 28 = .ok (.iload 4, 2) := by decide +kernel
theorem dX8_so_30 : decode cX8_so 30 = .ok (.iaload, 1) := by decide +kernel
theorem dX8_so_31 : decode cX8_so 31 = .ok (.if_icmp .lt 20, 3) := by decide +kernel
theorem dX8_so_34 : decode cX8_so 34 = .ok (.iload_n 3, 1) := by decide +kernel
theorem dX8_so_35 : decode cX8_so 35 = .ok (.aload_n 0, 1) := by decide +kernel
theorem dX8_so_36 : decode cX8_so 36 = .ok (.getfield 69, 3) := by decide +kernel
theorem dX8_so_39 : decode cX8_so 39 = .ok (.iload 4, 2) := by decide +kernel
theorem dX8_so_41 : decode cX8_so 41 = .ok (.iaload, 1) := by decide +kernel
theorem dX8_so_42 : decode cX8_so 42 = .ok (.if_icmp .gt 9, 3) := by decide +kernel
theorem dX8_so_45 : decode cX8_so 45 = .ok (.iinc 4 1, 3) := by decide +kernel
theorem dX8_so_48 : decode cX8_so 48 = .ok (.goto (-45), 3) := by decide +kernel
theorem dX8_so_51 : decode cX8_so 51 = .ok (.iload 4, 2) := by decide +kernel
theorem dX8_so_53 : decode cX8_so 53 = .ok (.ireturn, 1) := by decide +kernel
theorem dX8_could_0 : decode cX8_could 0 = .ok (.aload_n 0, 1) := by decide +kernel
theorem dX8_could_1 : decode cX8_could 1 = .ok (.iconst 0, 1) := by decide +kernel
theorem dX8_could_2 : decode cX8_could 2 = .ok (.putfield 112, 3) := by decide +kernel
theorem dX8_could_5 : decode cX8_could 5 = .ok (.iconst 0, 1) := by decide +kernel
theorem dX8_could_6 : decode cX8_could 6 = .ok (.istore_n 1, 1) := by decide +kernel
theorem dX8_could_7 : decode cX8_could 7 = .ok (.iload_n 1, 1) := by decide +kernel
theorem dX8_could_8 : decode cX8_could 8 = .ok (.sipush 3072, 3) := by decide +kernel
theorem dX8_could_11 : decode cX8_could 11 = .ok (.if_icmp .ge 16, 3) := by decide +kernel
theorem dX8_could_14 : decode cX8_could 14 = .ok (.aload_n 0, 1) := by decide +kernel
theorem dX8_could_15 : decode cX8_could 15 = .ok (.getfield 72, 3) := by decide +kernel
theorem dX8_could_18 : decode cX8_could 18 = .ok (.iload_n 1, 1) := by decide +kernel
theorem dX8_could_19 : decode cX8_could 19 = .ok (.iconst 0, 1) := by decide +kernel
theorem dX8_could_20 : decode cX8_could 20 = .ok (.bastore, 1) := by decide +kernel
theorem dX8_could_21 : decode cX8_could 21 = .ok (.iinc 1 1, 3) := by decide +kernel
theorem dX8_could_24 : decode cX8_could 24 = .ok (.goto (-17), 3) := by decide +kernel
theorem dX8_could_27 : decode cX8_could 27 = .ok (.aload_n 0, 1) := by decide +kernel
theorem dX8_could_28 : decode cX8_could 28 = .ok (.iconst 0, 1) := by decide +kernel
theorem dX8_could_29 : decode cX8_could 29 = .ok (.aload_n 0, 1) := by decide +kernel
theorem dX8_could_30 : decode cX8_could 30 = .ok (.getfield 115, 3) := by decide +kernel
theorem dX8_could_33 : decode cX8_could 33 = .ok (.iconst 0, 1) := by decide +kernel
theorem dX8_could_34 : decode cX8_could 34 = .ok (.invokevirtual 177, 3) := by decide +kernel
theorem dX8_could_37 : decode cX8_could 37 = .ok (.istore_n 1, 1) := by decide +kernel
theorem dX8_could_38 : decode cX8_could 38 = .ok (.aload_n 0, 1) := by decide +kernel
theorem dX8_could_39 : decode cX8_could 39 = .ok (.getfield 72, 3) := by decide +kernel
theorem dX8_could_42 : decode cX8_could 42 = .ok (.bipush 48, 2) := by decide +kernel
theorem dX8_could_44 : decode cX8_could 44 = .ok (.aload_n 0, 1) := by decide +kernel
theorem dX8_could_45 : decode cX8_could 45 = .ok (.getfield 115, 3) := by decide +kernel
theorem dX8_could_48 : decode cX8_could 48 = .ok (.imul, 1) := by decide +kernel
theorem dX8_could_49 : decode cX8_could 49 = .ok (.iload_n 1, 1) := by decide +kernel
theorem dX8_could_50 : decode cX8_could 50 = .ok (.iadd, 1) := by decide +kernel
theorem dX8_could_51 : decode cX8_could 51 = .ok (.iconst 1, 1) := by decide +kernel
theorem dX8_could_52 : decode cX8_could 52 = .ok (.bastore, 1) := by decide +kernel
theorem dX8_could_53 : decode cX8_could 53 = .ok (.iconst 0, 1) := by decide +kernel
theorem dX8_could_54 : decode cX8_could 54 = .ok (.istore_n 2, 1) := by decide +kernel
theorem dX8_could_55 : decode cX8_could 55 = .ok (.iload_n 2, 1) := by decide +kernel
theorem dX8_could_56 : decode cX8_could 56 = .ok (.sipush 200, 3) := by decide +kernel
theorem dX8_could_59 : decode cX8_could 59 = .ok (.if_icmp .ge 184, 3) := by decide +kernel
theorem dX8_could_62 : decode cX8_could 62 = .ok (.iconst 0, 1) := by decide +kernel
theorem dX8_could_63 : decode cX8_could 63 = .ok (.istore_n 3, 1) := by decide +kernel
theorem dX8_could_64 : decode cX8_could 64 = .ok (.iload_n 3, 1) := by decide +kernel
theorem dX8_could_65 : decode cX8_could 65 = .ok (.sipush 3072, 3) := by decide +kernel
theorem dX8_could_68 : decode cX8_could 68 = .ok (.if_icmp .ge 16, 3) := by decide +kernel
theorem dX8_could_71 : decode cX8_could 71 = .ok (.aload_n 0, 1) := by decide +kernel
theorem dX8_could_72 : decode cX8_could 72 = .ok (.getfield 75, 3) := by decide +kernel
theorem dX8_could_75 : decode cX8_could 75 = .ok (.iload_n 3, 1) := by decide +kernel
theorem dX8_could_76 : decode cX8_could 76 = .ok (.iconst 0, 1) := by decide +kernel
theorem dX8_could_77 : decode cX8_could 77 = .ok (.bastore, 1) := by decide +kernel
theorem dX8_could_78 : decode cX8_could 78 = .ok (.iinc 3 1, 3) := by decide +kernel
theorem dX8_could_81 : decode cX8_could 81 = .ok (.goto (-17), 3) := by decide +kernel
theorem dX8_could_84 : decode cX8_could 84 = .ok (.iconst 0, 1) := by decide +kernel
theorem dX8_could_85 : decode cX8_could 85 = .ok (.istore_n 3, 1) := by decide +kernel
theorem dX8_could_86 : decode cX8_could 86 = .ok (.iload_n 3, 1) := by decide +kernel
theorem dX8_could_87 : decode cX8_could 87 = .ok (.sipush 3072, 3) := by decide +kernel
theorem dX8_could_90 : decode cX8_could 90 = .ok (.if_icmp .ge 120, 3) := by decide +kernel
theorem dX8_could_93 : decode cX8_could 93 = .ok (.aload_n 0, 1) := by decide +kernel
theorem dX8_could_94 : decode cX8_could 94 = .ok (.getfield 72, 3) := by decide +kernel
theorem dX8_could_97 : decode cX8_could 97 = .ok (.iload_n 3, 1) := by decide +kernel
theorem dX8_could_98 : decode cX8_could 98 = .ok (.baload, 1) := by decide +kernel
theorem dX8_could_99 : decode cX8_could 99 = .ok (.ifCond .ne 6, 3) := by decide +kernel
theorem dX8_could_102 : decode cX8_could 102 = .ok (.goto 102, 3) := by decide +kernel
theorem dX8_could_105 : decode cX8_could 105 = .ok (.iconst 0, 1) := by decide +kernel
theorem dX8_could_106 : decode cX8_could 106 = .ok (.istore 4, 2) := by decide +kernel
theorem dX8_could_108 : decode cX8_could 108 = .ok (.iload 4, 2) := by decide +kernel
theorem dX8_could_110 : decode cX8_could 110 = .ok (.iconst 4, 1) := by decide +kernel
theorem dX8_could_111 : decode cX8_could 111 = .ok (.if_icmp .gt 93, 3) := by decide +kernel
theorem dX8_could_114 : decode cX8_could 114 = .ok (.aload_n 0, 1) := by decide +kernel
theorem dX8_could_115 : decode cX8_could 115 = .ok (.iload_n 3, 1) := by decide +kernel
theorem dX8_could_116 : decode cX8_could 116 = .ok (.bipush 48, 2) := by decide +kernel
theorem dX8_could_118 : decode cX8_could 118 = .ok (.idiv, 1) := by decide +kernel
theorem dX8_could_119 : decode cX8_could 119 = .ok (.iload_n 3, 1) := by decide +kernel
theorem dX8_could_120 : decode cX8_could 120 = .ok (.bipush 6, 2) := by decide +kernel
theorem dX8_could_122 : decode cX8_could 122 = .ok (.idiv, 1) := by decide +kernel
theorem dX8_could_123 : decode cX8_could 123 = .ok (.bipush 8, 2) := by decide +kernel
theorem dX8_could_125 : decode cX8_could 125 = .ok (.irem, 1) := by decide +kernel
theorem dX8_could_126 : decode cX8_could 126 = .ok (.iload_n 2, 1) := by decide +kernel
theorem dX8_could_127 : decode cX8_could 127 = .ok (.iload 4, 2) := by decide +kernel
theorem dX8_could_129 : decode cX8_could 129 = .ok (.invokevirtual 162, 3) := by decide +kernel
theorem dX8_could_132 : decode cX8_could 132 = .ok (.aload_n 0, 1) := by decide +kernel
theorem dX8_could_133 : decode cX8_could 133 = .ok (.getfield 155, 3) := by decide +kernel
theorem dX8_could_136 : decode cX8_could 136 = .ok (.iconst 1, 1) := by decide +kernel
theorem dX8_could_137 : decode cX8_could 137 = .ok (.if_icmp .ne 6, 3) := by decide +kernel
theorem dX8_could_140 : decode cX8_could 140 = .ok (.goto 58, 3) := by decide +kernel
theorem dX8_could_143 : decode cX8_could 143 = .ok (.aload_n 0, 1) := by decide +kernel
theorem dX8_could_144 : decode cX8_could 144 = .ok (.iload_n 3, 1) := by decide +kernel
theorem dX8_could_145 : decode cX8_could 145 = .ok (.bipush 6, 2) := by decide +kernel
theorem dX8_could_147 : decode cX8_could 147 = .ok (.irem, 1) := by decide +kernel
theorem dX8_could_148 : decode cX8_could 148 = .ok (.aload_n 0, 1) := by decide +kernel
theorem dX8_could_149 : decode cX8_could 149 = .ok (.getfield 149, 3) := by decide +kernel
theorem dX8_could_152 : decode cX8_could 152 = .ok (.iload_n 2, 1) := by decide +kernel
theorem dX8_could_153 : decode cX8_could 153 = .ok (.iconst 1, 1) := by decide +kernel
theorem dX8_could_154 : decode cX8_could 154 = .ok (.iadd, 1) := by decide +kernel
theorem dX8_could_155 : decode cX8_could 155 = .ok (.invokevirtual 177, 3) := by decide +kernel
theorem dX8_could_158 : decode cX8_could 158 = .ok (.istore 5, 2) := by decide +kernel
theorem dX8_could_160 : decode cX8_could 160 = .ok (.iload_n 1, 1) := by decide +kernel
theorem dX8_could_161 : decode cX8_could 161 = .ok (.iload 5, 2) := by decide +kernel
theorem dX8_could_163 : decode cX8_could 163 = .ok (.invokestatic 181, 3) := by decide +kernel
theorem dX8_could_166 : decode cX8_could 166 = .ok (.istore_n 1, 1) := by decide +kernel
theorem dX8_could_167 : decode cX8_could 167 = .ok (.aload_n 0, 1) := by decide +kernel
theorem dX8_could_168 : decode cX8_could 168 = .ok (.getfield 155, 3) := by decide +kernel
theorem dX8_could_171 : decode cX8_could 171 = .ok (.ifCond .ne 27, 3) := by decide +kernel
theorem dX8_could_174 : decode cX8_could 174 = .ok (.aload_n 0, 1) := by decide +kernel
theorem dX8_could_175 : decode cX8_could 175 = .ok (.getfield 75, 3) := by decide +kernel
theorem dX8_could_178 : decode cX8_could 178 = .ok (.bipush 48, 2) := by decide +kernel
theorem dX8_could_180 : decode cX8_could 180 = .ok (.aload_n 0, 1) := by decide +kernel
theorem dX8_could_181 : decode cX8_could 181 = .ok (.getfield 149, 3) := by decide +kernel
theorem dX8_could_184 : decode cX8_could 184 = .ok (.imul, 1) := by decide +kernel
theorem dX8_could_185 : decode cX8_could 185 = .ok (.bipush 6, 2) := by decide +kernel
theorem dX8_could_187 : decode cX8_could 187 = .ok (.aload_n 0, 1) := by decide +kernel
theorem dX8_could_188 : decode cX8_could 188 = .ok (.getfield 152, 3) := by decide +kernel
theorem dX8_could_191 : decode cX8_could 191 = .ok (.imul, 1) := by decide +kernel
theorem dX8_could_192 : decode cX8_could 192 = .ok (.iadd, 1) := by decide +kernel
theorem dX8_could_193 : decode cX8_could 193 = .ok (.iload 5, 2) := by decide +kernel
theorem dX8_could_195 : decode cX8_could 195 = .ok (.iadd, 1) := by decide +kernel
theorem dX8_could_196 : decode cX8_could 196 = .ok (.iconst 1, 1) := by decide +kernel
theorem dX8_could_197 : decode cX8_could 197 = .ok (.bastore, 1) := by decide +kernel
theorem dX8_could_198 : decode cX8_could 198 = .ok (.iinc 4 1, 3) := by decide +kernel
theorem dX8_could_201 : decode cX8_could 201 = .ok (.goto (-93), 3) := by decide +kernel
theorem dX8_could_204 : decode cX8_could 204 = .ok (.iinc 3 1, 3) := by decide +kernel
theorem dX8_could_207 : decode cX8_could 207 = .ok (.goto (-121), 3) := by decide +kernel
theorem dX8_could_210 : decode cX8_could 210 = .ok (.iconst 0, 1) := by decide +kernel
theorem dX8_could_211 : decode cX8_could 211 = .ok (.istore_n 3, 1) := by decide +kernel
theorem dX8_could_212 : decode cX8_could 212 = .ok (.iload_n 3, 1) := by decide +kernel
theorem dX8_could_213 : decode cX8_could 213 = .ok (.sipush 3072, 3) := by decide +kernel
theorem dX8_could_216 : decode cX8_could 216 = .ok (.if_icmp .ge 21, 3) := by decide +kernel
theorem dX8_could_219 : decode cX8_could 219 = .ok (.aload_n 0, 1) := by decide +kernel
theorem dX8_could_220 : decode cX8_could 220 = .ok (.getfield 72, 3) := by decide +kernel
theorem dX8_could_223 : decode cX8_could 223 = .ok (.iload_n 3, 1) := by decide +kernel
theorem dX8_could_224 : decode cX8_could 224 = .ok (.aload_n 0, 1) := by decide +kernel
theorem dX8_could_225 : decode cX8_could 225 = .ok (.getfield 75, 3) := by decide +kernel
theorem dX8_could_228 : decode cX8_could 228 = .ok (.iload_n 3, 1) := by decide +kernel
theorem dX8_could_229 : decode cX8_could 229 = .ok (.baload, 1) := by decide +kernel
theorem dX8_could_230 : decode cX8_could 230 = .ok (.bastore, 1) := by decide +kernel
theorem dX8_could_231 : decode cX8_could 231 = .ok (.iinc 3 1, 3) := by decide +kernel
theorem dX8_could_234 : decode cX8_could 234 = .ok (.goto (-22), 3) := by decide +kernel
theorem dX8_could_237 : decode cX8_could 237 = .ok (.iinc 2 1, 3) := by decide +kernel
theorem dX8_could_240 : decode cX8_could 240 = .ok (.goto (-185), 3) := by decide +kernel
theorem dX8_could_243 : decode cX8_could 243 = .ok (.iload_n 1, 1) := by decide +kernel
theorem dX8_could_244 : decode cX8_could 244 = .ok (.ireturn, 1) := by decide +kernel
theorem dX8_isRoom_0 : decode cX8_isRoom 0 = .ok (.iload_n 0, 1) := by decide +kernel
theorem dX8_isRoom_1 : decode cX8_isRoom 1 = .ok (.ifCond .lt 13, 3) := by decide +kernel
theorem dX8_isRoom_4 : decode cX8_isRoom 4 = .ok (.iload_n 0, 1) := by decide +kernel
theorem dX8_isRoom_5 : decode cX8_isRoom 5 = .ok (.bipush 9, 2) := by decide +kernel
theorem dX8_isRoom_7 : decode cX8_isRoom 7 = .ok (.if_icmp .gt 7, 3) := by decide +kernel
theorem dX8_isRoom_10 : decode cX8_isRoom 10 = .ok (.iconst 1, 1) := by decide +kernel
theorem dX8_isRoom_11 : decode cX8_isRoom 11 = .ok (.goto 4, 3) := by decide +kernel
theorem dX8_isRoom_14 : decode cX8_isRoom 14 = .ok (.iconst 0, 1) := by decide +kernel
theorem dX8_isRoom_15 : decode cX8_isRoom 15 = .ok (.ireturn, 1) := by decide +kernel
theorem dX8_areThings_0 : decode cX8_areThings 0 = .ok (.iload_n 0, 1) := by decide +kernel
theorem dX8_areThings_1 : decode cX8_areThings 1 = .ok (.ifCond .lt 13, 3) := by decide +kernel
theorem dX8_areThings_4 : decode cX8_areThings 4 = .ok (.iload_n 0, 1) := by decide +kernel
theorem dX8_areThings_5 : decode cX8_areThings 5 = .ok (.bipush 15, 2) := by decide +kernel
theorem dX8_areThings_7 : decode cX8_areThings 7 = .ok (.if_icmp .gt 7, 3) := by decide +kernel
theorem dX8_areThings_10 : decode cX8_areThings 10 = .ok (.iconst 1, 1) := by decide +kernel
theorem dX8_areThings_11 : decode cX8_areThings 11 = .ok (.goto 4, 3) := by decide +kernel
theorem dX8_areThings_14 : decode cX8_areThings 14 = .ok (.iconst 0, 1) := by decide +kernel
theorem dX8_areThings_15 : decode cX8_areThings 15 = .ok (.ireturn, 1) := by decide +kernel
theorem dX8_road_0 : decode cX8_road 0 = .ok (.aload_n 0, 1) := by decide +kernel
theorem dX8_road_1 : decode cX8_road 1 = .ok (.iconst 0, 1) := by decide +kernel
theorem dX8_road_2 : decode cX8_road 2 = .ok (.putfield 112, 3) := by decide +kernel
theorem dX8_road_5 : decode cX8_road 5 = .ok (.iload_n 1, 1) := by decide +kernel
theorem dX8_road_6 : decode cX8_road 6 = .ok (.invokestatic 187, 3) := by decide +kernel
theorem dX8_road_9 : decode cX8_road 9 = .ok (.ifCond .eq 60, 3) := by decide +kernel
theorem dX8_road_12 : decode cX8_road 12 = .ok (.iload_n 2, 1) := by decide +kernel
theorem dX8_road_13 : decode cX8_road 13 = .ok (.invokestatic 187, 3) := by decide +kernel
theorem dX8_road_16 : decode cX8_road 16 = .ok (.ifCond .eq 53, 3) := by decide +kernel
theorem dX8_road_19 : decode cX8_road 19 = .ok (.iload_n 3, 1) := by decide +kernel
theorem dX8_road_20 : decode cX8_road 20 = .ok (.invokestatic 191, 3) := by decide +kernel
theorem dX8_road_23 : decode cX8_road 23 = .ok (.ifCond .eq 46, 3) := by decide +kernel
theorem dX8_road_26 : decode cX8_road 26 = .ok (.iload 4, 2) := by decide +kernel
theorem dX8_road_28 : decode cX8_road 28 = .ok (.invokestatic 191, 3) := by decide +kernel
theorem dX8_road_31 : decode cX8_road 31 = .ok (.ifCond .eq 38, 3) := by decide +kernel
theorem dX8_road_34 : decode cX8_road 34 = .ok (.iload 5, 2) := by decide +kernel
theorem dX8_road_36 : decode cX8_road 36 = .ok (.iconst 1, 1) := by decide +kernel
theorem dX8_road_37 : decode cX8_road 37 = .ok (.if_icmp .lt 32, 3) := by decide +kernel
theorem dX8_road_40 : decode cX8_road 40 = .ok (.iload 5, 2) := by decide +kernel
theorem dX8_road_42 : decode cX8_road 42 = .ok (.bipush 100, 2) := by decide +kernel
theorem dX8_road_44 : decode cX8_road 44 = .ok (.if_icmp .gt 25, 3) := by decide +kernel
theorem dX8_road_47 : decode cX8_road 47 = .ok (.iload 6, 2) := by decide +kernel
theorem dX8_road_49 : decode cX8_road 49 = .ok (.iconst 1, 1) := by decide +kernel
theorem dX8_road_50 : decode cX8_road 50 = .ok (.if_icmp .lt 19, 3) := by decide +kernel
theorem dX8_road_53 : decode cX8_road 53 = .ok (.iload 6, 2) := by decide +kernel
theorem dX8_road_55 : decode cX8_road 55 = .ok (.bipush 8, 2) := by decide +kernel
theorem dX8_road_57 : decode cX8_road 57 = .ok (.if_icmp .gt 12, 3) := by decide +kernel
theorem dX8_road_60 : decode cX8_road 60 = .ok (.aload_n 0, 1) := by decide +kernel
theorem dX8_road_61 : decode cX8_road 61 = .ok (.getfield 194, 3) := by decide +kernel
theorem dX8_road_64 : decode cX8_road 64 = .ok (.bipush 40, 2) := by decide +kernel
theorem dX8_road_66 : decode cX8_road 66 = .ok (.if_icmp .ne 5, 3) := by decide +kernel
theorem dX8_road_69 : decode cX8_road 69 = .ok (.iconst (-1), 1) := by decide +kernel
theorem dX8_road_70 : decode cX8_road 70 = .ok (.ireturn, 1) := by decide +kernel
theorem dX8_road_71 : decode cX8_road 71 = .ok (.iload 6, 2) := by decide +kernel
theorem dX8_road_73 : decode cX8_road 73 = .ok (.bipush 8, 2) := by decide +kernel
theorem dX8_road_75 : decode cX8_road 75 = .ok (.if_icmp .ge 26, 3) := by decide +kernel
theorem dX8_road_78 : decode cX8_road 78 = .ok (.iload 7, 2) := by decide +kernel
theorem dX8_road_80 : decode cX8_road 80 = .ok (.invokestatic 187, 3) := by decide +kernel
theorem dX8_road_83 : decode cX8_road 83 = .ok (.ifCond .eq 16, 3) := by decide +kernel
theorem dX8_road_86 : decode cX8_road 86 = .ok (.iload 8, 2) := by decide +kernel
theorem dX8_road_88 : decode cX8_road 88 = .ok (.iconst 1, 1) := by decide +kernel
theorem dX8_road_89 : decode cX8_road 89 = .ok (.if_icmp .lt 10, 3) := by decide +kernel
theorem dX8_road_92 : decode cX8_road 92 = .ok (.iload 8, 2) := by decide +kernel
theorem dX8_road_94 : decode cX8_road 94 = .ok (.bipush 100, 2) := by decide +kernel
theorem dX8_road_96 : decode cX8_road 96 = .ok (.if_icmp .le 5, 3) := by decide +kernel
theorem dX8_road_99 : decode cX8_road 99 = .ok (.iconst (-1), 1) := by decide +kernel
theorem dX8_road_100 : decode cX8_road 100 = .ok (.ireturn, 1) := by decide +kernel
theorem dX8_road_101 : decode cX8_road 101 = .ok (.aload_n 0, 1) := by decide +kernel
theorem dX8_road_102 : decode cX8_road 102 = .ok (.getfield 78, 3) := by decide +kernel
theorem dX8_road_105 : decode cX8_road 105 = .ok (.aload_n 0, 1) := by decide +kernel
theorem dX8_road_106 : decode cX8_road 106 = .ok (.getfield 194, 3) := by decide +kernel
theorem dX8_road_109 : decode cX8_road 109 = .ok (.iload_n 1, 1) := by decide +kernel
theorem dX8_road_110 : decode cX8_road 110 = .ok (.iastore, 1) := by decide +kernel
theorem dX8_road_111 : decode cX8_road 111 = .ok (.aload_n 0, 1) := by decide +kernel
theorem dX8_road_112 : decode cX8_road 112 = .ok (.getfield 81, 3) := by decide +kernel
theorem dX8_road_115 : decode cX8_road 115 = .ok (.aload_n 0, 1) := by decide +kernel
theorem dX8_road_116 : decode cX8_road 116 = .ok (.getfield 194, 3) := by decide +kernel
theorem dX8_road_119 : decode cX8_road 119 = .ok (.iload_n 2, 1) := by decide +kernel
theorem dX8_road_120 : decode cX8_road 120 = .ok (.iastore, 1) := by decide +kernel
theorem dX8_road_121 : decode cX8_road 121 = .ok (.aload_n 0, 1) := by decide +kernel
theorem dX8_road_122 : decode cX8_road 122 = .ok (.getfield 84, 3) := by decide +kernel
theorem dX8_road_125 : decode cX8_road 125 = .ok (.aload_n 0, 1) := by decide +kernel
theorem dX8_road_126 : decode cX8_road 126 = .ok (.getfield 194, 3) := by decide +kernel
theorem dX8_road_129 : decode cX8_road 129 = .ok (.iload_n 3, 1) := by decide +kernel
theorem dX8_road_130 : decode cX8_road 130 = .ok (.iastore, 1) := by decide +kernel
theorem dX8_road_131 : decode cX8_road 131 = .ok (.aload_n 0, 1) := by decide +kernel
theorem dX8_road_132 : decode cX8_road 132 = .ok (.getfield 87, 3) := by decide +kernel
theorem dX8_road_135 : decode cX8_road 135 = .ok (.aload_n 0, 1) := by decide +kernel
theorem dX8_road_136 : decode cX8_road 136 = .ok (.getfield 194, 3) := by decide +kernel
theorem dX8_road_139 : decode cX8_road 139 = .ok (.iload 4, 2) := by decide +kernel
theorem dX8_road_141 : decode cX8_road 141 = .ok (.iastore, 1) := by decide +kernel
theorem dX8_road_142 : decode cX8_road 142 = .ok (.aload_n 0, 1) := by decide +kernel
theorem dX8_road_143 : decode cX8_road 143 = .ok (.getfield 90, 3) := by decide +kernel
theorem dX8_road_146 : decode cX8_road 146 = .ok (.aload_n 0, 1) := by decide +kernel
theorem dX8_road_147 : decode cX8_road 147 = .ok (.getfield 194, 3) := by decide +kernel
theorem dX8_road_150 : decode cX8_road 150 = .ok (.iload 5, 2) := by decide +kernel
theorem dX8_road_152 : decode cX8_road 152 = .ok (.iastore, 1) := by decide +kernel
theorem dX8_road_153 : decode cX8_road 153 = .ok (.aload_n 0, 1) := by decide +kernel
theorem dX8_road_154 : decode cX8_road 154 = .ok (.getfield 93, 3) := by decide +kernel
theorem dX8_road_157 : decode cX8_road 157 = .ok (.aload_n 0, 1) := by decide +kernel
theorem dX8_road_158 : decode cX8_road 158 = .ok (.getfield 194, 3) := by decide +kernel
theorem dX8_road_161 : decode cX8_road 161 = .ok (.iload 6, 2) := by decide +kernel
theorem dX8_road_163 : decode cX8_road 163 = .ok (.iastore, 1) := by decide +kernel
theorem dX8_road_164 : decode cX8_road 164 = .ok (.aload_n 0, 1) := by decide +kernel
theorem dX8_road_165 : decode cX8_road 165 = .ok (.getfield 96, 3) := by decide +kernel
theorem dX8_road_168 : decode cX8_road 168 = .ok (.aload_n 0, 1) := by decide +kernel
theorem dX8_road_169 : decode cX8_road 169 = .ok (.getfield 194, 3) := by decide +kernel
theorem dX8_road_172 : decode cX8_road 172 = .ok (.iload 7, 2) := by decide +kernel
theorem dX8_road_174 : decode cX8_road 174 = .ok (.iastore, 1) := by decide +kernel
theorem dX8_road_175 : decode cX8_road 175 = .ok (.aload_n 0, 1) := by decide +kernel
theorem dX8_road_176 : decode cX8_road 176 = .ok (.getfield 99, 3) := by decide +kernel
theorem dX8_road_179 : decode cX8_road 179 = .ok (.aload_n 0, 1) := by decide +kernel
theorem dX8_road_180 : decode cX8_road 180 = .ok (.getfield 194, 3) := by decide +kernel
theorem dX8_road_183 : decode cX8_road 183 = .ok (.iload 8, 2) := by decide +kernel
theorem dX8_road_185 : decode cX8_road 185 = .ok (.iastore, 1) := by decide +kernel
theorem dX8_road_186 : decode cX8_road 186 = .ok (.aload_n 0, 1) := by decide +kernel
theorem dX8_road_187 : decode cX8_road 187 = .ok (.getfield 102, 3) := by decide +kernel
theorem dX8_road_190 : decode cX8_road 190 = .ok (.aload_n 0, 1) := by decide +kernel
theorem dX8_road_191 : decode cX8_road 191 = .ok (.getfield 194, 3) := by decide +kernel
theorem dX8_road_194 : decode cX8_road 194 = .ok (.iconst 0, 1) := by decide +kernel
theorem dX8_road_195 : decode cX8_road 195 = .ok (.bastore, 1) := by decide +kernel
theorem dX8_road_196 : decode cX8_road 196 = .ok (.aload_n 0, 1) := by decide +kernel
theorem dX8_road_197 : decode cX8_road 197 = .ok (.dup, 1) := by decide +kernel
theorem dX8_road_198 : decode cX8_road 198 = .ok (.getfield 194, 3) := by decide +kernel
theorem dX8_road_201 : decode cX8_road 201 = .ok (.iconst 1, 1) := by decide +kernel
theorem dX8_road_202 : decode cX8_road 202 = .ok (.iadd, 1) := by decide +kernel
theorem dX8_road_203 : decode cX8_road 203 = .ok (.putfield 194, 3) := by decide +kernel
theorem dX8_road_206 : decode cX8_road 206 = .ok (.aload_n 0, 1) := by decide +kernel
theorem dX8_road_207 : decode cX8_road 207 = .ok (.getfield 194, 3) := by decide +kernel
theorem dX8_road_210 : decode cX8_road 210 = .ok (.iconst 1, 1) := by decide +kernel
theorem dX8_road_211 : decode cX8_road 211 = .ok (.isub, 1) := by decide +kernel
theorem dX8_road_212 : decode cX8_road 212 = .ok (.ireturn, 1) := by decide +kernel
theorem dX8_bar_0 : decode cX8_bar 0 = .ok (.aload_n 0, 1) := by decide +kernel
theorem dX8_bar_1 : decode cX8_bar 1 = .ok (.iconst 0, 1) := by decide +kernel
theorem dX8_bar_2 : decode cX8_bar 2 = .ok (.putfield 112, 3) := by decide +kernel
theorem dX8_bar_5 : decode cX8_bar 5 = .ok (.iload_n 1, 1) := by decide +kernel
theorem dX8_bar_6 : decode cX8_bar 6 = .ok (.ifCond .lt 11, 3) := by decide +kernel
theorem dX8_bar_9 : decode cX8_bar 9 = .ok (.iload_n 1, 1) := by decide +kernel
theorem dX8_bar_10 : decode cX8_bar 10 = .ok (.aload_n 0, 1) := by decide +kernel
theorem dX8_bar_11 : decode cX8_bar 11 = .ok (.getfield 194, 3) := by decide +kernel
theorem dX8_bar_14 : decode cX8_bar 14 = .ok (.if_icmp .lt 5, 3) := by decide +kernel
theorem dX8_bar_17 : decode cX8_bar 17 = .ok (.iconst 0, 1) := by decide +kernel
theorem dX8_bar_18 : decode cX8_bar 18 = .ok (.ireturn, 1) := by decide +kernel
theorem dX8_bar_19 : decode cX8_bar 19 = .ok (.aload_n 0, 1) := by decide +kernel
theorem dX8_bar_20 : decode cX8_bar 20 = .ok (.getfield 102, 3) := by decide +kernel
theorem dX8_bar_23 : decode cX8_bar 23 = .ok (.iload_n 1, 1) := by decide +kernel
theorem dX8_bar_24 : decode cX8_bar 24 = .ok (.iload_n 2, 1) := by decide +kernel
theorem dX8_bar_25 : decode cX8_bar 25 = .ok (.bastore, 1) := by decide +kernel
theorem dX8_bar_26 : decode cX8_bar 26 = .ok (.iconst 1, 1) := by decide +kernel
theorem dX8_bar_27 : decode cX8_bar 27 = .ok (.ireturn, 1) := by decide +kernel
theorem dX8_goal_0 : decode cX8_goal 0 = .ok (.aload_n 0, 1) := by decide +kernel
theorem dX8_goal_1 : decode cX8_goal 1 = .ok (.iconst 0, 1) := by decide +kernel
theorem dX8_goal_2 : decode cX8_goal 2 = .ok (.putfield 112, 3) := by decide +kernel
theorem dX8_goal_5 : decode cX8_goal 5 = .ok (.iload_n 1, 1) := by decide +kernel
theorem dX8_goal_6 : decode cX8_goal 6 = .ok (.invokestatic 187, 3) := by decide +kernel
theorem dX8_goal_9 : decode cX8_goal 9 = .ok (.ifCond .eq 10, 3) := by decide +kernel
theorem dX8_goal_12 : decode cX8_goal 12 = .ok (.iload_n 2, 1) := by decide +kernel
theorem dX8_goal_13 : decode cX8_goal 13 = .ok (.invokestatic 191, 3) := by decide +kernel
theorem dX8_goal_16 : decode cX8_goal 16 = .ok (.ifCond .ne 5, 3) := by decide +kernel
theorem dX8_goal_19 : decode cX8_goal 19 = .ok (.iconst 0, 1) := by decide +kernel
theorem dX8_goal_20 : decode cX8_goal 20 = .ok (.ireturn, 1) := by decide +kernel
theorem dX8_goal_21 : decode cX8_goal 21 = .ok (.aload_n 0, 1) := by decide +kernel
theorem dX8_goal_22 : decode cX8_goal 22 = .ok (.iload_n 1, 1) := by decide +kernel
theorem dX8_goal_23 : decode cX8_goal 23 = .ok (.putfield 197, 3) := by decide +kernel
theorem dX8_goal_26 : decode cX8_goal 26 = .ok (.aload_n 0, 1) := by decide +kernel
theorem dX8_goal_27 : decode cX8_goal 27 = .ok (.iload_n 2, 1) := by decide +kernel
theorem dX8_goal_28 : decode cX8_goal 28 = .ok (.putfield 200, 3) := by decide +kernel
theorem dX8_goal_31 : decode cX8_goal 31 = .ok (.iconst 1, 1) := by decide +kernel
theorem dX8_goal_32 : decode cX8_goal 32 = .ok (.ireturn, 1) := by decide +kernel
theorem dX8_anew_0 : decode cX8_anew 0 = .ok (.aload_n 0, 1) := by decide +kernel
theorem dX8_anew_1 : decode cX8_anew 1 = .ok (.iconst 0, 1) := by decide +kernel
theorem dX8_anew_2 : decode cX8_anew 2 = .ok (.putfield 112, 3) := by decide +kernel
theorem dX8_anew_5 : decode cX8_anew 5 = .ok (.iload_n 1, 1) := by decide +kernel
theorem dX8_anew_6 : decode cX8_anew 6 = .ok (.ifCond .lt 9, 3) := by decide +kernel
theorem dX8_anew_9 : decode cX8_anew 9 = .ok (.iload_n 1, 1) := by decide +kernel
theorem dX8_anew_10 : decode cX8_anew 10 = .ok (.bipush 100, 2) := by decide +kernel
theorem dX8_anew_12 : decode cX8_anew 12 = .ok (.if_icmp .le 5, 3) := by decide +kernel
theorem dX8_anew_15 : decode cX8_anew 15 = .ok (.iconst 0, 1) := by decide +kernel
theorem dX8_anew_16 : decode cX8_anew 16 = .ok (.ireturn, 1) := by decide +kernel
theorem dX8_anew_17 : decode cX8_anew 17 = .ok (.aload_n 0, 1) := by decide +kernel
theorem dX8_anew_18 : decode cX8_anew 18 = .ok (.iload_n 1, 1) := by decide +kernel
theorem dX8_anew_19 : decode cX8_anew 19 = .ok (.putfield 203, 3) := by decide +kernel
theorem dX8_anew_22 : decode cX8_anew 22 = .ok (.iconst 1, 1) := by decide +kernel
theorem dX8_anew_23 : decode cX8_anew 23 = .ok (.ireturn, 1) := by decide +kernel
theorem dX8_isGoal_0 : decode cX8_isGoal 0 = .ok (.iload_n 1, 1) := by decide +kernel
theorem dX8_isGoal_1 : decode cX8_isGoal 1 = .ok (.aload_n 0, 1) := by decide +kernel
theorem dX8_isGoal_2 : decode cX8_isGoal 2 = .ok (.getfield 197, 3) := by decide +kernel
theorem dX8_isGoal_5 : decode cX8_isGoal 5 = .ok (.if_icmp .ne 20, 3) := by decide +kernel
theorem dX8_isGoal_8 : decode cX8_isGoal 8 = .ok (.iload_n 2, 1) := by decide +kernel
theorem dX8_isGoal_9 : decode cX8_isGoal 9 = .ok (.aload_n 0, 1) := by decide +kernel
theorem dX8_isGoal_10 : decode cX8_isGoal 10 = .ok (.getfield 200, 3) := by decide +kernel
theorem dX8_isGoal_13 : decode cX8_isGoal 13 = .ok (.iand, 1) := by decide +kernel
theorem dX8_isGoal_14 : decode cX8_isGoal 14 = .ok (.aload_n 0, 1) := by decide +kernel
theorem dX8_isGoal_15 : decode cX8_isGoal 15 = .ok (.getfield 200, 3) := by decide +kernel
theorem dX8_isGoal_18 : decode cX8_isGoal 18 = .ok (.if_icmp .ne 7, 3) := by decide +kernel
theorem dX8_isGoal_21 : decode cX8_isGoal 21 = .ok (.iconst 1, 1) := by decide +kernel
theorem dX8_isGoal_22 : decode cX8_isGoal 22 = .ok (.goto 4, 3) := by decide +kernel
theorem dX8_isGoal_25 : decode cX8_isGoal 25 = .ok (.iconst 0, 1) := by decide +kernel
theorem dX8_isGoal_26 : decode cX8_isGoal 26 = .ok (.ireturn, 1) := by decide +kernel
theorem dX8_canGo_0 : decode cX8_canGo 0 = .ok (.aload_n 0, 1) := by decide +kernel
theorem dX8_canGo_1 : decode cX8_canGo 1 = .ok (.getfield 102, 3) := by decide +kernel
theorem dX8_canGo_4 : decode cX8_canGo 4 = .ok (.iload_n 1, 1) := by decide +kernel
theorem dX8_canGo_5 : decode cX8_canGo 5 = .ok (.baload, 1) := by decide +kernel
theorem dX8_canGo_6 : decode cX8_canGo 6 = .ok (.ifCond .ne 34, 3) := by decide +kernel
theorem dX8_canGo_9 : decode cX8_canGo 9 = .ok (.aload_n 0, 1) := by decide +kernel
theorem dX8_canGo_10 : decode cX8_canGo 10 = .ok (.getfield 78, 3) := by decide +kernel
theorem dX8_canGo_13 : decode cX8_canGo 13 = .ok (.iload_n 1, 1) := by decide +kernel
theorem dX8_canGo_14 : decode cX8_canGo 14 = .ok (.iaload, 1) := by decide +kernel
theorem dX8_canGo_15 : decode cX8_canGo 15 = .ok (.iload_n 2, 1) := by decide +kernel
theorem dX8_canGo_16 : decode cX8_canGo 16 = .ok (.if_icmp .ne 24, 3) := by decide +kernel
theorem dX8_canGo_19 : decode cX8_canGo 19 = .ok (.iload_n 3, 1) := by decide +kernel
theorem dX8_canGo_20 : decode cX8_canGo 20 = .ok (.aload_n 0, 1) := by decide +kernel
theorem dX8_canGo_21 : decode cX8_canGo 21 = .ok (.getfield 84, 3) := by decide +kernel
theorem dX8_canGo_24 : decode cX8_canGo 24 = .ok (.iload_n 1, 1) := by decide +kernel
theorem dX8_canGo_25 : decode cX8_canGo 25 = .ok (.iaload, 1) := by decide +kernel
theorem dX8_canGo_26 : decode cX8_canGo 26 = .ok (.iand, 1) := by decide +kernel
theorem dX8_canGo_27 : decode cX8_canGo 27 = .ok (.aload_n 0, 1) := by decide +kernel
theorem dX8_canGo_28 : decode cX8_canGo 28 = .ok (.getfield 84, 3) := by decide +kernel
theorem dX8_canGo_31 : decode cX8_canGo 31 = .ok (.iload_n 1, 1) := by decide +kernel
theorem dX8_canGo_32 : decode cX8_canGo 32 = .ok (.iaload, 1) := by decide +kernel
theorem dX8_canGo_33 : decode cX8_canGo 33 = .ok (.if_icmp .ne 7, 3) := by decide +kernel
theorem dX8_canGo_36 : decode cX8_canGo 36 = .ok (.iconst 1, 1) := by decide +kernel
theorem dX8_canGo_37 : decode cX8_canGo 37 = .ok (.goto 4, 3) := by decide +kernel
theorem dX8_canGo_40 : decode cX8_canGo 40 = .ok (.iconst 0, 1) := by decide +kernel
theorem dX8_canGo_41 : decode cX8_canGo 41 = .ok (.ireturn, 1) := by decide +kernel
theorem dX8_sure_0 : decode cX8_sure 0 = .ok (.aload_n 0, 1) := by decide +kernel
theorem dX8_sure_1 : decode cX8_sure 1 = .ok (.iconst 0, 1) := by decide +kernel
theorem dX8_sure_2 : decode cX8_sure 2 = .ok (.putfield 112, 3) := by decide +kernel
theorem dX8_sure_5 : decode cX8_sure 5 = .ok (.iconst 0, 1) := by decide +kernel
theorem dX8_sure_6 : decode cX8_sure 6 = .ok (.istore_n 1, 1) := by decide +kernel
theorem dX8_sure_7 : decode cX8_sure 7 = .ok (.iload_n 1, 1) := by decide +kernel
theorem dX8_sure_8 : decode cX8_sure 8 = .ok (.sipush 160, 3) := by decide +kernel
theorem dX8_sure_11 : decode cX8_sure 11 = .ok (.if_icmp .ge 24, 3) := by decide +kernel
theorem dX8_sure_14 : decode cX8_sure 14 = .ok (.aload_n 0, 1) := by decide +kernel
theorem dX8_sure_15 : decode cX8_sure 15 = .ok (.getfield 105, 3) := by decide +kernel
theorem dX8_sure_18 : decode cX8_sure 18 = .ok (.iload_n 1, 1) := by decide +kernel
theorem dX8_sure_19 : decode cX8_sure 19 = .ok (.iload_n 1, 1) := by decide +kernel
theorem dX8_sure_20 : decode cX8_sure 20 = .ok (.ifCond .ne 7, 3) := by decide +kernel
theorem dX8_sure_23 : decode cX8_sure 23 = .ok (.iconst 0, 1) := by decide +kernel
theorem dX8_sure_24 : decode cX8_sure 24 = .ok (.goto 4, 3) := by decide +kernel
theorem dX8_sure_27 : decode cX8_sure 27 = .ok (.iconst (-1), 1) := by decide +kernel
theorem dX8_sure_28 : decode cX8_sure 28 = .ok (.iastore, 1) := by decide +kernel
theorem dX8_sure_29 : decode cX8_sure 29 = .ok (.iinc 1 1, 3) := by decide +kernel
theorem dX8_sure_32 : decode cX8_sure 32 = .ok (.goto (-25), 3) := by decide +kernel
theorem dX8_sure_35 : decode cX8_sure 35 = .ok (.iconst 1, 1) := by decide +kernel
theorem dX8_sure_36 : decode cX8_sure 36 = .ok (.istore_n 1, 1) := by decide +kernel
theorem dX8_sure_37 : decode cX8_sure 37 = .ok (.iload_n 1, 1) := by decide +kernel
theorem dX8_sure_38 : decode cX8_sure 38 = .ok (.ifCond .eq 164, 3) := by decide +kernel
theorem dX8_sure_41 : decode cX8_sure 41 = .ok (.iconst 0, 1) := by decide +kernel
theorem dX8_sure_42 : decode cX8_sure 42 = .ok (.istore_n 1, 1) := by decide +kernel
theorem dX8_sure_43 : decode cX8_sure 43 = .ok (.iconst 0, 1) := by decide +kernel
theorem dX8_sure_44 : decode cX8_sure 44 = .ok (.istore_n 2, 1) := by decide +kernel
theorem dX8_sure_45 : decode cX8_sure 45 = .ok (.iload_n 2, 1) := by decide +kernel
theorem dX8_sure_46 : decode cX8_sure 46 = .ok (.sipush 160, 3) := by decide +kernel
theorem dX8_sure_49 : decode cX8_sure 49 = .ok (.if_icmp .ge 150, 3) := by decide +kernel
theorem dX8_sure_52 : decode cX8_sure 52 = .ok (.aload_n 0, 1) := by decide +kernel
theorem dX8_sure_53 : decode cX8_sure 53 = .ok (.getfield 105, 3) := by decide +kernel
theorem dX8_sure_56 : decode cX8_sure 56 = .ok (.iload_n 2, 1) := by decide +kernel
theorem dX8_sure_57 : decode cX8_sure 57 = .ok (.iaload, 1) := by decide +kernel
theorem dX8_sure_58 : decode cX8_sure 58 = .ok (.iconst (-1), 1) := by decide +kernel
theorem dX8_sure_59 : decode cX8_sure 59 = .ok (.if_icmp .ne 6, 3) := by decide +kernel
theorem dX8_sure_62 : decode cX8_sure 62 = .ok (.goto 131, 3) := by decide +kernel
theorem dX8_sure_65 : decode cX8_sure 65 = .ok (.iconst 0, 1) := by decide +kernel
theorem dX8_sure_66 : decode cX8_sure 66 = .ok (.istore_n 3, 1) := by decide +kernel
theorem dX8_sure_67 : decode cX8_sure 67 = .ok (.iload_n 3, 1) := by decide +kernel
theorem dX8_sure_68 : decode cX8_sure 68 = .ok (.aload_n 0, 1) := by decide +kernel
theorem dX8_sure_69 : decode cX8_sure 69 = .ok (.getfield 194, 3) := by decide +kernel
theorem dX8_sure_72 : decode cX8_sure 72 = .ok (.if_icmp .ge 121, 3) := by decide +kernel
theorem dX8_sure_75 : decode cX8_sure 75 = .ok (.aload_n 0, 1) := by decide +kernel
theorem dX8_sure_76 : decode cX8_sure 76 = .ok (.getfield 93, 3) := by decide +kernel
theorem dX8_sure_79 : decode cX8_sure 79 = .ok (.iload_n 3, 1) := by decide +kernel
theorem dX8_sure_80 : decode cX8_sure 80 = .ok (.iaload, 1) := by decide +kernel
theorem dX8_sure_81 : decode cX8_sure 81 = .ok (.bipush 8, 2) := by decide +kernel
theorem dX8_sure_83 : decode cX8_sure 83 = .ok (.if_icmp .ne 104, 3) := by decide +kernel
theorem dX8_sure_86 : decode cX8_sure 86 = .ok (.aload_n 0, 1) := by decide +kernel
theorem dX8_sure_87 : decode cX8_sure 87 = .ok (.iload_n 3, 1) := by decide +kernel
theorem dX8_sure_88 : decode cX8_sure 88 = .ok (.iload_n 2, 1) := by decide +kernel
theorem dX8_sure_89 : decode cX8_sure 89 = .ok (.bipush 16, 2) := by decide +kernel
theorem dX8_sure_91 : decode cX8_sure 91 = .ok (.idiv, 1) := by decide +kernel
theorem dX8_sure_92 : decode cX8_sure 92 = .ok (.iload_n 2, 1) := by decide +kernel
theorem dX8_sure_93 : decode cX8_sure 93 = .ok (.bipush 16, 2) := by decide +kernel
theorem dX8_sure_95 : decode cX8_sure 95 = .ok (.irem, 1) := by decide +kernel
theorem dX8_sure_96 : decode cX8_sure 96 = .ok (.invokevirtual 206, 3) := by decide +kernel
theorem dX8_sure_99 : decode cX8_sure 99 = .ok (.ifCond .ne 6, 3) := by decide +kernel
theorem dX8_sure_102 : decode cX8_sure 102 = .ok (.goto 85, 3) := by decide +kernel
theorem dX8_sure_105 : decode cX8_sure 105 = .ok (.bipush 16, 2) := by decide +kernel
theorem dX8_sure_107 : decode cX8_sure 107 = .ok (.aload_n 0, 1) := by decide +kernel
theorem dX8_sure_108 : decode cX8_sure 108 = .ok (.getfield 81, 3) := by decide +kernel
theorem dX8_sure_111 : decode cX8_sure 111 = .ok (.iload_n 3, 1) := by decide +kernel
theorem dX8_sure_112 : decode cX8_sure 112 = .ok (.iaload, 1) := by decide +kernel
theorem dX8_sure_113 : decode cX8_sure 113 = .ok (.imul, 1) := by decide +kernel
theorem dX8_sure_114 : decode cX8_sure 114 = .ok (.iload_n 2, 1) := by decide +kernel
theorem dX8_sure_115 : decode cX8_sure 115 = .ok (.bipush 16, 2) := by decide +kernel
theorem dX8_sure_117 : decode cX8_sure 117 = .ok (.irem, 1) := by decide +kernel
theorem dX8_sure_118 : decode cX8_sure 118 = .ok (.aload_n 0, 1) := by decide +kernel
theorem dX8_sure_119 : decode cX8_sure 119 = .ok (.getfield 87, 3) := by decide +kernel
theorem dX8_sure_122 : decode cX8_sure 122 = .ok (.iload_n 3, 1) := by decide +kernel
theorem dX8_sure_123 : decode cX8_sure 123 = .ok (.iaload, 1) := by decide +kernel
theorem dX8_sure_124 : decode cX8_sure 124 = .ok (.ior, 1) := by decide +kernel
theorem dX8_sure_125 : decode cX8_sure 125 = .ok (.iadd, 1) := by decide +kernel
theorem dX8_sure_126 : decode cX8_sure 126 = .ok (.istore 4, 2) := by decide +kernel
theorem dX8_sure_128 : decode cX8_sure 128 = .ok (.aload_n 0, 1) := by decide +kernel
theorem dX8_sure_129 : decode cX8_sure 129 = .ok (.getfield 105, 3) := by decide +kernel
theorem dX8_sure_132 : decode cX8_sure 132 = .ok (.iload 4, 2) := by decide +kernel
theorem dX8_sure_134 : decode cX8_sure 134 = .ok (.iaload, 1) := by decide +kernel
theorem dX8_sure_135 : decode cX8_sure 135 = .ok (.iconst (-1), 1) := by decide +kernel
theorem dX8_sure_136 : decode cX8_sure 136 = .ok (.if_icmp .eq 29, 3) := by decide +kernel
theorem dX8_sure_139 : decode cX8_sure 139 = .ok (.aload_n 0, 1) := by decide +kernel
theorem dX8_sure_140 : decode cX8_sure 140 = .ok (.getfield 105, 3) := by decide +kernel
theorem dX8_sure_143 : decode cX8_sure 143 = .ok (.iload 4, 2) := by decide +kernel
theorem dX8_sure_145 : decode cX8_sure 145 = .ok (.iaload, 1) := by decide +kernel
theorem dX8_sure_146 : decode cX8_sure 146 = .ok (.aload_n 0, 1) := by decide +kernel
theorem dX8_sure_147 : decode cX8_sure 147 = .ok (.getfield 105, 3) := by decide +kernel
theorem dX8_sure_150 : decode cX8_sure 150 = .ok (.iload_n 2, 1) := by decide +kernel
theorem dX8_sure_151 : decode cX8_sure 151 = .ok (.iaload, 1) := by decide +kernel
theorem dX8_sure_152 : decode cX8_sure 152 = .ok (.aload_n 0, 1) := by decide +kernel
theorem dX8_sure_153 : decode cX8_sure 153 = .ok (.getfield 90, 3) := by decide +kernel
theorem dX8_sure_156 : decode cX8_sure 156 = .ok (.iload_n 3, 1) := by decide +kernel
theorem dX8_sure_157 : decode cX8_sure 157 = .ok (.iaload, 1) := by decide +kernel
theorem dX8_sure_158 : decode cX8_sure 158 = .ok (.iadd, 1) := by decide +kernel
theorem dX8_sure_159 : decode cX8_sure 159 = .ok (.if_icmp .gt 6, 3) := by decide +kernel
theorem dX8_sure_162 : decode cX8_sure 162 = .ok (.goto 25, 3) := by decide +kernel
theorem dX8_sure_165 : decode cX8_sure 165 = .ok (.aload_n 0, 1) := by decide +kernel
theorem dX8_sure_166 : decode cX8_sure 166 = .ok (.getfield 105, 3) := by decide +kernel
theorem dX8_sure_169 : decode cX8_sure 169 = .ok (.iload 4, 2) := by decide +kernel
theorem dX8_sure_171 : decode cX8_sure 171 = .ok (.aload_n 0, 1) := by decide +kernel
theorem dX8_sure_172 : decode cX8_sure 172 = .ok (.getfield 105, 3) := by decide +kernel
theorem dX8_sure_175 : decode cX8_sure 175 = .ok (.iload_n 2, 1) := by decide +kernel
theorem dX8_sure_176 : decode cX8_sure 176 = .ok (.iaload, 1) := by decide +kernel
theorem dX8_sure_177 : decode cX8_sure 177 = .ok (.aload_n 0, 1) := by decide +kernel
theorem dX8_sure_178 : decode cX8_sure 178 = .ok (.getfield 90, 3) := by decide +kernel
theorem dX8_sure_181 : decode cX8_sure 181 = .ok (.iload_n 3, 1) := by decide +kernel
theorem dX8_sure_182 : decode cX8_sure 182 = .ok (.iaload, 1) := by decide +kernel
theorem dX8_sure_183 : decode cX8_sure 183 = .ok (.iadd, 1) := by decide +kernel
theorem dX8_sure_184 : decode cX8_sure 184 = .ok (.iastore, 1) := by decide +kernel
theorem dX8_sure_185 : decode cX8_sure 185 = .ok (.iconst 1, 1) := by decide +kernel
theorem dX8_sure_186 : decode cX8_sure 186 = .ok (.istore_n 1, 1) := by decide +kernel
theorem dX8_sure_187 : decode cX8_sure 187 = .ok (.iinc 3 1, 3) := by decide +kernel
theorem dX8_sure_190 : decode cX8_sure 190 = .ok (.goto (-123), 3) := by decide +kernel
theorem dX8_sure_193 : decode cX8_sure 193 = .ok (.iinc 2 1, 3) := by decide +kernel
theorem dX8_sure_196 : decode cX8_sure 196 = .ok (.goto (-151), 3) := by decide +kernel
theorem dX8_sure_199 : decode cX8_sure 199 = .ok (.goto (-162), 3) := by decide +kernel
theorem dX8_sure_202 : decode cX8_sure 202 = .ok (.iconst (-1), 1) := by decide +kernel
theorem dX8_sure_203 : decode cX8_sure 203 = .ok (.istore_n 2, 1) := by decide +kernel
theorem dX8_sure_204 : decode cX8_sure 204 = .ok (.iconst 0, 1) := by decide +kernel
theorem dX8_sure_205 : decode cX8_sure 205 = .ok (.istore_n 3, 1) := by decide +kernel
theorem dX8_sure_206 : decode cX8_sure 206 = .ok (.iload_n 3, 1) := by decide +kernel
theorem dX8_sure_207 : decode cX8_sure 207 = .ok (.sipush 160, 3) := by decide +kernel
theorem dX8_sure_210 : decode cX8_sure 210 = .ok (.if_icmp .ge 56, 3) := by decide +kernel
theorem dX8_sure_213 : decode cX8_sure 213 = .ok (.aload_n 0, 1) := by decide +kernel
theorem dX8_sure_214 : decode cX8_sure 214 = .ok (.getfield 105, 3) := by decide +kernel
theorem dX8_sure_217 : decode cX8_sure 217 = .ok (.iload_n 3, 1) := by decide +kernel
theorem dX8_sure_218 : decode cX8_sure 218 = .ok (.iaload, 1) := by decide +kernel
theorem dX8_sure_219 : decode cX8_sure 219 = .ok (.iconst (-1), 1) := by decide +kernel
theorem dX8_sure_220 : decode cX8_sure 220 = .ok (.if_icmp .eq 40, 3) := by decide +kernel
theorem dX8_sure_223 : decode cX8_sure 223 = .ok (.aload_n 0, 1) := by decide +kernel
theorem dX8_sure_224 : decode cX8_sure 224 = .ok (.iload_n 3, 1) := by decide +kernel
theorem dX8_sure_225 : decode cX8_sure 225 = .ok (.bipush 16, 2) := by decide +kernel
theorem dX8_sure_227 : decode cX8_sure 227 = .ok (.idiv, 1) := by decide +kernel
theorem dX8_sure_228 : decode cX8_sure 228 = .ok (.iload_n 3, 1) := by decide +kernel
theorem dX8_sure_229 : decode cX8_sure 229 = .ok (.bipush 16, 2) := by decide +kernel
theorem dX8_sure_231 : decode cX8_sure 231 = .ok (.irem, 1) := by decide +kernel
theorem dX8_sure_232 : decode cX8_sure 232 = .ok (.invokevirtual 210, 3) := by decide +kernel
theorem dX8_sure_235 : decode cX8_sure 235 = .ok (.ifCond .eq 25, 3) := by decide +kernel
theorem dX8_sure_238 : decode cX8_sure 238 = .ok (.iload_n 2, 1) := by decide +kernel
theorem dX8_sure_239 : decode cX8_sure 239 = .ok (.iconst (-1), 1) := by decide +kernel
theorem dX8_sure_240 : decode cX8_sure 240 = .ok (.if_icmp .eq 13, 3) := by decide +kernel
theorem dX8_sure_243 : decode cX8_sure 243 = .ok (.aload_n 0, 1) := by decide +kernel
theorem dX8_sure_244 : decode cX8_sure 244 = .ok (.getfield 105, 3) := by decide +kernel
theorem dX8_sure_247 : decode cX8_sure 247 = .ok (.iload_n 3, 1) := by decide +kernel
theorem dX8_sure_248 : decode cX8_sure 248 = .ok (.iaload, 1) := by decide +kernel
theorem dX8_sure_249 : decode cX8_sure 249 = .ok (.iload_n 2, 1) := by decide +kernel
theorem dX8_sure_250 : decode cX8_sure 250 = .ok (.if_icmp .ge 10, 3) := by decide +kernel
theorem dX8_sure_253 : decode cX8_sure 253 = .ok (.aload_n 0, 1) := by decide +kernel
theorem dX8_sure_254 : decode cX8_sure 254 = .ok (.getfield 105, 3) := by decide +kernel
theorem dX8_sure_257 : decode cX8_sure 257 = .ok (.iload_n 3, 1) := by decide +kernel
theorem dX8_sure_258 : decode cX8_sure 258 = .ok (.iaload, 1) := by decide +kernel
theorem dX8_sure_259 : decode cX8_sure 259 = .ok (.istore_n 2, 1) := by decide +kernel
theorem dX8_sure_260 : decode cX8_sure 260 = .ok (.iinc 3 1, 3) := by decide +kernel
theorem dX8_sure_263 : decode cX8_sure 263 = .ok (.goto (-57), 3) := by decide +kernel
theorem dX8_sure_266 : decode cX8_sure 266 = .ok (.iload_n 2, 1) := by decide +kernel
theorem dX8_sure_267 : decode cX8_sure 267 = .ok (.ireturn, 1) := by decide +kernel
theorem dX8_chanceOf_0 : decode cX8_chanceOf 0 = .ok (.iload_n 1, 1) := by decide +kernel
theorem dX8_chanceOf_1 : decode cX8_chanceOf 1 = .ok (.ifCond .ge 7, 3) := by decide +kernel
theorem dX8_chanceOf_4 : decode cX8_chanceOf 4 = .ok (.iconst 0, 1) := by decide +kernel
theorem dX8_chanceOf_5 : decode cX8_chanceOf 5 = .ok (.goto 20, 3) := by decide +kernel
theorem dX8_chanceOf_8 : decode cX8_chanceOf 8 = .ok (.aload_n 0, 1) := by decide +kernel
theorem dX8_chanceOf_9 : decode cX8_chanceOf 9 = .ok (.getfield 109, 3) := by decide +kernel
theorem dX8_chanceOf_12 : decode cX8_chanceOf 12 = .ok (.sipush 160, 3) := by decide +kernel
theorem dX8_chanceOf_15 : decode cX8_chanceOf 15 = .ok (.iload_n 1, 1) := by decide +kernel
theorem dX8_chanceOf_16 : decode cX8_chanceOf 16 = .ok (.imul, 1) := by decide +kernel
theorem dX8_chanceOf_17 : decode cX8_chanceOf 17 = .ok (.bipush 16, 2) := by decide +kernel
theorem dX8_chanceOf_19 : decode cX8_chanceOf 19 = .ok (.iload_n 2, 1) := by decide +kernel
theorem dX8_chanceOf_20 : decode cX8_chanceOf 20 = .ok (.imul, 1) := by decide +kernel
theorem dX8_chanceOf_21 : decode cX8_chanceOf 21 = .ok (.iadd, 1) := by decide +kernel
theorem dX8_chanceOf_22 : decode cX8_chanceOf 22 = .ok (.iload_n 3, 1) := by decide +kernel
theorem dX8_chanceOf_23 : decode cX8_chanceOf 23 = .ok (.iadd, 1) := by decide +kernel
theorem dX8_chanceOf_24 : decode cX8_chanceOf 24 = .ok (.iaload, 1) := by decide +kernel
theorem dX8_chanceOf_25 : decode cX8_chanceOf 25 = .ok (.ireturn, 1) := by decide +kernel
theorem dX8_roadChance_0 : decode cX8_roadChance 0 = .ok (.aload_n 0, 1) := by decide +kernel
theorem dX8_roadChance_1 : decode cX8_roadChance 1 = .ok (.iload_n 2, 1) := by decide +kernel
theorem dX8_roadChance_2 : decode cX8_roadChance 2 = .ok (.aload_n 0, 1) := by decide +kernel
theorem dX8_roadChance_3 : decode cX8_roadChance 3 = .ok (.getfield 90, 3) := by decide +kernel
theorem dX8_roadChance_6 : decode cX8_roadChance 6 = .ok (.iload_n 1, 1) := by decide +kernel
theorem dX8_roadChance_7 : decode cX8_roadChance 7 = .ok (.iaload, 1) := by decide +kernel
theorem dX8_roadChance_8 : decode cX8_roadChance 8 = .ok (.isub, 1) := by decide +kernel
theorem dX8_roadChance_9 : decode cX8_roadChance 9 = .ok (.aload_n 0, 1) := by decide +kernel
theorem dX8_roadChance_10 : decode cX8_roadChance 10 = .ok (.getfield 81, 3) := by decide +kernel
theorem dX8_roadChance_13 : decode cX8_roadChance 13 = .ok (.iload_n 1, 1) := by decide +kernel
theorem dX8_roadChance_14 : decode cX8_roadChance 14 = .ok (.iaload, 1) := by decide +kernel
theorem dX8_roadChance_15 : decode cX8_roadChance 15 = .ok (.iload_n 3, 1) := by decide +kernel
theorem dX8_roadChance_16 : decode cX8_roadChance 16 = .ok (.aload_n 0, 1) := by decide +kernel
theorem dX8_roadChance_17 : decode cX8_roadChance 17 = .ok (.getfield 87, 3) := by decide +kernel
theorem dX8_roadChance_20 : decode cX8_roadChance 20 = .ok (.iload_n 1, 1) := by decide +kernel
theorem dX8_roadChance_21 : decode cX8_roadChance 21 = .ok (.iaload, 1) := by decide +kernel
theorem dX8_roadChance_22 : decode cX8_roadChance 22 = .ok (.ior, 1) := by decide +kernel
theorem dX8_roadChance_23 : decode cX8_roadChance 23 = .ok (.invokevirtual 213, 3) := by decide +kernel
theorem dX8_roadChance_26 : decode cX8_roadChance 26 = .ok (.i2l, 1) := by decide +kernel
theorem dX8_roadChance_27 : decode cX8_roadChance 27 = .ok (.lstore 4, 2) := by decide +kernel
theorem dX8_roadChance_29 : decode cX8_roadChance 29 = .ok (.aload_n 0, 1) := by decide +kernel
theorem dX8_roadChance_30 : decode cX8_roadChance 30 = .ok (.getfield 93, 3) := by decide +kernel
theorem dX8_roadChance_33 : decode cX8_roadChance 33 = .ok (.iload_n 1, 1) := by decide +kernel
theorem dX8_roadChance_34 : decode cX8_roadChance 34 = .ok (.iaload, 1) := by decide +kernel
theorem dX8_roadChance_35 : decode cX8_roadChance 35 = .ok (.bipush 8, 2) := by decide +kernel
theorem dX8_roadChance_37 : decode cX8_roadChance 37 = .ok (.if_icmp .ne 7, 3) := by decide +kernel
theorem dX8_roadChance_40 : decode cX8_roadChance 40 = .ok (.lload 4, 2) := by decide +kernel
theorem dX8_roadChance_42 : decode cX8_roadChance 42 = .ok (.l2i, 1) := by decide +kernel
theorem dX8_roadChance_43 : decode cX8_roadChance 43 = .ok (.ireturn, 1) := by decide +kernel
theorem dX8_roadChance_44 : decode cX8_roadChance 44 = .ok (.aload_n 0, 1) := by decide +kernel
theorem dX8_roadChance_45 : decode cX8_roadChance 45 = .ok (.iload_n 2, 1) := by decide +kernel
theorem dX8_roadChance_46 : decode cX8_roadChance 46 = .ok (.aload_n 0, 1) := by decide +kernel
theorem dX8_roadChance_47 : decode cX8_roadChance 47 = .ok (.getfield 99, 3) := by decide +kernel
theorem dX8_roadChance_50 : decode cX8_roadChance 50 = .ok (.iload_n 1, 1) := by decide +kernel
theorem dX8_roadChance_51 : decode cX8_roadChance 51 = .ok (.iaload, 1) := by decide +kernel
theorem dX8_roadChance_52 : decode cX8_roadChance 52 = .ok (.isub, 1) := by decide +kernel
theorem dX8_roadChance_53 : decode cX8_roadChance 53 = .ok (.aload_n 0, 1) := by decide +kernel
theorem dX8_roadChance_54 : decode cX8_roadChance 54 = .ok (.getfield 96, 3) := by decide +kernel
theorem dX8_roadChance_57 : decode cX8_roadChance 57 = .ok (.iload_n 1, 1) := by decide +kernel
theorem dX8_roadChance_58 : decode cX8_roadChance 58 = .ok (.iaload, 1) := by decide +kernel
theorem dX8_roadChance_59 : decode cX8_roadChance 59 = .ok (.iload_n 3, 1) := by decide +kernel
theorem dX8_roadChance_60 : decode cX8_roadChance 60 = .ok (.invokevirtual 213, 3) := by decide +kernel
theorem dX8_roadChance_63 : decode cX8_roadChance 63 = .ok (.i2l, 1) := by decide +kernel
theorem dX8_roadChance_64 : decode cX8_roadChance 64 = .ok (.lstore 6, 2) := by decide +kernel
theorem dX8_roadChance_66 : decode cX8_roadChance 66 = .ok (.aload_n 0, 1) := by decide +kernel
theorem dX8_roadChance_67 : decode cX8_roadChance 67 = .ok (.getfield 93, 3) := by decide +kernel
theorem dX8_roadChance_70 : decode cX8_roadChance 70 = .ok (.iload_n 1, 1) := by decide +kernel
theorem dX8_roadChance_71 : decode cX8_roadChance 71 = .ok (.iaload, 1) := by decide +kernel
theorem dX8_roadChance_72 : decode cX8_roadChance 72 = .ok (.i2l, 1) := by decide +kernel
theorem dX8_roadChance_73 : decode cX8_roadChance 73 = .ok (.lload 4, 2) := by decide +kernel
theorem dX8_roadChance_75 : decode cX8_roadChance 75 = .ok (.lmul, 1) := by decide +kernel
theorem dX8_roadChance_76 : decode cX8_roadChance 76 = .ok (.bipush 8, 2) := by decide +kernel
theorem dX8_roadChance_78 : decode cX8_roadChance 78 = .ok (.aload_n 0, 1) := by decide +kernel
theorem dX8_roadChance_79 : decode cX8_roadChance 79 = .ok (.getfield 93, 3) := by decide +kernel
theorem dX8_roadChance_82 : decode cX8_roadChance 82 = .ok (.iload_n 1, 1) := by decide +kernel
theorem dX8_roadChance_83 : decode cX8_roadChance 83 = .ok (.iaload, 1) := by decide +kernel
theorem dX8_roadChance_84 : decode cX8_roadChance 84 = .ok (.isub, 1) := by decide +kernel
theorem dX8_roadChance_85 : decode cX8_roadChance 85 = .ok (.i2l, 1) := by decide +kernel
theorem dX8_roadChance_86 : decode cX8_roadChance 86 = .ok (.lload 6, 2) := by decide +kernel
theorem dX8_roadChance_88 : decode cX8_roadChance 88 = .ok (.lmul, 1) := by decide +kernel
theorem dX8_roadChance_89 : decode cX8_roadChance 89 = .ok (.ladd, 1) := by decide +kernel
theorem dX8_roadChance_90 : decode cX8_roadChance 90 = .ok (.ldc2_w 216, 3) := by decide +kernel
theorem dX8_roadChance_93 : decode cX8_roadChance 93 = .ok (.ldiv, 1) := by decide +kernel
theorem dX8_roadChance_94 : decode cX8_roadChance 94 = .ok (.l2i, 1) := by decide +kernel
theorem dX8_roadChance_95 : decode cX8_roadChance 95 = .ok (.ireturn, 1) := by decide +kernel
theorem dX8_reckons_0 : decode cX8_reckons 0 = .ok (.iconst 0, 1) := by decide +kernel
theorem dX8_reckons_1 : decode cX8_reckons 1 = .ok (.istore_n 2, 1) := by decide +kernel
theorem dX8_reckons_2 : decode cX8_reckons 2 = .ok (.iload_n 2, 1) := by decide +kernel
theorem dX8_reckons_3 : decode cX8_reckons 3 = .ok (.iload_n 1, 1) := by decide +kernel
theorem dX8_reckons_4 : decode cX8_reckons 4 = .ok (.if_icmp .gt 136, 3) := by decide +kernel
theorem dX8_reckons_7 : decode cX8_reckons 7 = .ok (.iconst 0, 1) := by decide +kernel
theorem dX8_reckons_8 : decode cX8_reckons 8 = .ok (.istore_n 3, 1) := by decide +kernel
theorem dX8_reckons_9 : decode cX8_reckons 9 = .ok (.iload_n 3, 1) := by decide +kernel
theorem dX8_reckons_10 : decode cX8_reckons 10 = .ok (.sipush 160, 3) := by decide +kernel
theorem dX8_reckons_13 : decode cX8_reckons 13 = .ok (.if_icmp .ge 121, 3) := by decide +kernel
theorem dX8_reckons_16 : decode cX8_reckons 16 = .ok (.aload_n 0, 1) := by decide +kernel
theorem dX8_reckons_17 : decode cX8_reckons 17 = .ok (.getfield 203, 3) := by decide +kernel
theorem dX8_reckons_20 : decode cX8_reckons 20 = .ok (.ifCond .le 18, 3) := by decide +kernel
theorem dX8_reckons_23 : decode cX8_reckons 23 = .ok (.aload_n 0, 1) := by decide +kernel
theorem dX8_reckons_24 : decode cX8_reckons 24 = .ok (.iload_n 2, 1) := by decide +kernel
theorem dX8_reckons_25 : decode cX8_reckons 25 = .ok (.aload_n 0, 1) := by decide +kernel
theorem dX8_reckons_26 : decode cX8_reckons 26 = .ok (.getfield 203, 3) := by decide +kernel
theorem dX8_reckons_29 : decode cX8_reckons 29 = .ok (.isub, 1) := by decide +kernel
theorem dX8_reckons_30 : decode cX8_reckons 30 = .ok (.iconst 0, 1) := by decide +kernel
theorem dX8_reckons_31 : decode cX8_reckons 31 = .ok (.iconst 0, 1) := by decide +kernel
theorem dX8_reckons_32 : decode cX8_reckons 32 = .ok (.invokevirtual 213, 3) := by decide +kernel
theorem dX8_reckons_35 : decode cX8_reckons 35 = .ok (.goto 4, 3) := by decide +kernel
theorem dX8_reckons_38 : decode cX8_reckons 38 = .ok (.iconst 0, 1) := by decide +kernel
theorem dX8_reckons_39 : decode cX8_reckons 39 = .ok (.istore 4, 2) := by decide +kernel
theorem dX8_reckons_41 : decode cX8_reckons 41 = .ok (.iconst 0, 1) := by decide +kernel
theorem dX8_reckons_42 : decode cX8_reckons 42 = .ok (.istore 5, 2) := by decide +kernel
theorem dX8_reckons_44 : decode cX8_reckons 44 = .ok (.iload 5, 2) := by decide +kernel
theorem dX8_reckons_46 : decode cX8_reckons 46 = .ok (.aload_n 0, 1) := by decide +kernel
theorem dX8_reckons_47 : decode cX8_reckons 47 = .ok (.getfield 194, 3) := by decide +kernel
theorem dX8_reckons_50 : decode cX8_reckons 50 = .ok (.if_icmp .ge 44, 3) := by decide +kernel
theorem dX8_reckons_53 : decode cX8_reckons 53 = .ok (.aload_n 0, 1) := by decide +kernel
theorem dX8_reckons_54 : decode cX8_reckons 54 = .ok (.iload 5, 2) := by decide +kernel
theorem dX8_reckons_56 : decode cX8_reckons 56 = .ok (.iload_n 3, 1) := by decide +kernel
theorem dX8_reckons_57 : decode cX8_reckons 57 = .ok (.bipush 16, 2) := by decide +kernel
theorem dX8_reckons_59 : decode cX8_reckons 59 = .ok (.idiv, 1) := by decide +kernel
theorem dX8_reckons_60 : decode cX8_reckons 60 = .ok (.iload_n 3, 1) := by decide +kernel
theorem dX8_reckons_61 : decode cX8_reckons 61 = .ok (.bipush 16, 2) := by decide +kernel
theorem dX8_reckons_63 : decode cX8_reckons 63 = .ok (.irem, 1) := by decide +kernel
theorem dX8_reckons_64 : decode cX8_reckons 64 = .ok (.invokevirtual 206, 3) := by decide +kernel
theorem dX8_reckons_67 : decode cX8_reckons 67 = .ok (.ifCond .eq 21, 3) := by decide +kernel
theorem dX8_reckons_70 : decode cX8_reckons 70 = .ok (.iload 4, 2) := by decide +kernel
theorem dX8_reckons_72 : decode cX8_reckons 72 = .ok (.aload_n 0, 1) := by decide +kernel
theorem dX8_reckons_73 : decode cX8_reckons 73 = .ok (.iload 5, 2) := by decide +kernel
theorem dX8_reckons_75 : decode cX8_reckons 75 = .ok (.iload_n 2, 1) := by decide +kernel
theorem dX8_reckons_76 : decode cX8_reckons 76 = .ok (.iload_n 3, 1) := by decide +kernel
theorem dX8_reckons_77 : decode cX8_reckons 77 = .ok (.bipush 16, 2) := by decide +kernel
theorem dX8_reckons_79 : decode cX8_reckons 79 = .ok (.irem, 1) := by decide +kernel
theorem dX8_reckons_80 : decode cX8_reckons 80 = .ok (.invokevirtual 218, 3) := by decide +kernel
theorem dX8_reckons_83 : decode cX8_reckons 83 = .ok (.invokestatic 181, 3) := by decide +kernel
theorem dX8_reckons_86 : decode cX8_reckons 86 = .ok (.istore 4, 2) := by decide +kernel
theorem dX8_reckons_88 : decode cX8_reckons 88 = .ok (.iinc 5 1, 3) := by decide +kernel
theorem dX8_reckons_91 : decode cX8_reckons 91 = .ok (.goto (-47), 3) := by decide +kernel
theorem dX8_reckons_94 : decode cX8_reckons 94 = .ok (.aload_n 0, 1) := by decide +kernel
theorem dX8_reckons_95 : decode cX8_reckons 95 = .ok (.getfield 109, 3) := by decide +kernel
theorem dX8_reckons_98 : decode cX8_reckons 98 = .ok (.sipush 160, 3) := by decide +kernel
theorem dX8_reckons_101 : decode cX8_reckons 101 = .ok (.iload_n 2, 1) := by decide +kernel
theorem dX8_reckons_102 : decode cX8_reckons 102 = .ok (.imul, 1) := by decide +kernel
theorem dX8_reckons_103 : decode cX8_reckons 103 = .ok (.iload_n 3, 1) := by decide +kernel
theorem dX8_reckons_104 : decode cX8_reckons 104 = .ok (.iadd, 1) := by decide +kernel
theorem dX8_reckons_105 : decode cX8_reckons 105 = .ok (.aload_n 0, 1) := by decide +kernel
theorem dX8_reckons_106 : decode cX8_reckons 106 = .ok (.iload_n 3, 1) := by decide +kernel
theorem dX8_reckons_107 : decode cX8_reckons 107 = .ok (.bipush 16, 2) := by decide +kernel
theorem dX8_reckons_109 : decode cX8_reckons 109 = .ok (.idiv, 1) := by decide +kernel
theorem dX8_reckons_110 : decode cX8_reckons 110 = .ok (.iload_n 3, 1) := by decide +kernel
theorem dX8_reckons_111 : decode cX8_reckons 111 = .ok (.bipush 16, 2) := by decide +kernel
theorem dX8_reckons_113 : decode cX8_reckons 113 = .ok (.irem, 1) := by decide +kernel
theorem dX8_reckons_114 : decode cX8_reckons 114 = .ok (.invokevirtual 210, 3) := by decide +kernel
theorem dX8_reckons_117 : decode cX8_reckons 117 = .ok (.ifCond .eq 8, 3) := by decide +kernel
theorem dX8_reckons_120 : decode cX8_reckons 120 = .ok (.ldc 221, 2) := by decide +kernel
theorem dX8_reckons_122 : decode cX8_reckons 122 = .ok (.goto 5, 3) := by decide +kernel
theorem dX8_reckons_125 : decode cX8_reckons 125 = .ok (.iload 4, 2) := by decide +kernel
theorem dX8_reckons_127 : decode cX8_reckons 127 = .ok (.iastore, 1) := by decide +kernel
theorem dX8_reckons_128 : decode cX8_reckons 128 = .ok (.iinc 3 1, 3) := by decide +kernel
theorem dX8_reckons_131 : decode cX8_reckons 131 = .ok (.goto (-122), 3) := by decide +kernel
theorem dX8_reckons_134 : decode cX8_reckons 134 = .ok (.iinc 2 1, 3) := by decide +kernel
theorem dX8_reckons_137 : decode cX8_reckons 137 = .ok (.goto (-135), 3) := by decide +kernel
theorem dX8_reckons_140 : decode cX8_reckons 140 = .ok (.return_, 1) := by decide +kernel
theorem dX8_canAsk_0 : decode cX8_canAsk 0 = .ok (.iload_n 0, 1) := by decide +kernel
theorem dX8_canAsk_1 : decode cX8_canAsk 1 = .ok (.invokestatic 187, 3) := by decide +kernel
theorem dX8_canAsk_4 : decode cX8_canAsk 4 = .ok (.ifCond .eq 25, 3) := by decide +kernel
theorem dX8_canAsk_7 : decode cX8_canAsk 7 = .ok (.iload_n 1, 1) := by decide +kernel
theorem dX8_canAsk_8 : decode cX8_canAsk 8 = .ok (.invokestatic 191, 3) := by decide +kernel
theorem dX8_canAsk_11 : decode cX8_canAsk 11 = .ok (.ifCond .eq 18, 3) := by decide +kernel
theorem dX8_canAsk_14 : decode cX8_canAsk 14 = .ok (.iload_n 2, 1) := by decide +kernel
theorem dX8_canAsk_15 : decode cX8_canAsk 15 = .ok (.ifCond .lt 14, 3) := by decide +kernel
theorem dX8_canAsk_18 : decode cX8_canAsk 18 = .ok (.iload_n 2, 1) := by decide +kernel
theorem dX8_canAsk_19 : decode cX8_canAsk 19 = .ok (.sipush 300, 3) := by decide +kernel
theorem dX8_canAsk_22 : decode cX8_canAsk 22 = .ok (.if_icmp .gt 7, 3) := by decide +kernel
theorem dX8_canAsk_25 : decode cX8_canAsk 25 = .ok (.iconst 1, 1) := by decide +kernel
theorem dX8_canAsk_26 : decode cX8_canAsk 26 = .ok (.goto 4, 3) := by decide +kernel
theorem dX8_canAsk_29 : decode cX8_canAsk 29 = .ok (.iconst 0, 1) := by decide +kernel
theorem dX8_canAsk_30 : decode cX8_canAsk 30 = .ok (.ireturn, 1) := by decide +kernel
theorem dX8_chance_0 : decode cX8_chance 0 = .ok (.aload_n 0, 1) := by decide +kernel
theorem dX8_chance_1 : decode cX8_chance 1 = .ok (.iconst 0, 1) := by decide +kernel
theorem dX8_chance_2 : decode cX8_chance 2 = .ok (.putfield 112, 3) := by decide +kernel
theorem dX8_chance_5 : decode cX8_chance 5 = .ok (.iload_n 1, 1) := by decide +kernel
theorem dX8_chance_6 : decode cX8_chance 6 = .ok (.iload_n 2, 1) := by decide +kernel
theorem dX8_chance_7 : decode cX8_chance 7 = .ok (.iload_n 3, 1) := by decide +kernel
theorem dX8_chance_8 : decode cX8_chance 8 = .ok (.invokestatic 222, 3) := by decide +kernel
theorem dX8_chance_11 : decode cX8_chance 11 = .ok (.ifCond .ne 7, 3) := by decide +kernel
theorem dX8_chance_14 : decode cX8_chance 14 = .ok (.ldc2_w 225, 3) := by decide +kernel
theorem dX8_chance_17 : decode cX8_chance 17 = .ok (.lreturn, 1) := by decide +kernel
theorem dX8_chance_18 : decode cX8_chance 18 = .ok (.aload_n 0, 1) := by decide +kernel
theorem dX8_chance_19 : decode cX8_chance 19 = .ok (.iload_n 3, 1) := by decide +kernel
theorem dX8_chance_20 : decode cX8_chance 20 = .ok (.invokevirtual 227, 3) := by decide +kernel
theorem dX8_chance_23 : decode cX8_chance 23 = .ok (.aload_n 0, 1) := by decide +kernel
theorem dX8_chance_24 : decode cX8_chance 24 = .ok (.iload_n 3, 1) := by decide +kernel
theorem dX8_chance_25 : decode cX8_chance 25 = .ok (.iload_n 1, 1) := by decide +kernel
theorem dX8_chance_26 : decode cX8_chance 26 = .ok (.iload_n 2, 1) := by decide +kernel
theorem dX8_chance_27 : decode cX8_chance 27 = .ok (.invokevirtual 213, 3) := by decide +kernel
theorem dX8_chance_30 : decode cX8_chance 30 = .ok (.i2l, 1) := by decide +kernel
theorem dX8_chance_31 : decode cX8_chance 31 = .ok (.lreturn, 1) := by decide +kernel
theorem dX8_choice_0 : decode cX8_choice 0 = .ok (.aload_n 0, 1) := by decide +kernel
theorem dX8_choice_1 : decode cX8_choice 1 = .ok (.iconst 0, 1) := by decide +kernel
theorem dX8_choice_2 : decode cX8_choice 2 = .ok (.putfield 112, 3) := by decide +kernel
theorem dX8_choice_5 : decode cX8_choice 5 = .ok (.iload_n 1, 1) := by decide +kernel
theorem dX8_choice_6 : decode cX8_choice 6 = .ok (.iload_n 2, 1) := by decide +kernel
theorem dX8_choice_7 : decode cX8_choice 7 = .ok (.iload_n 3, 1) := by decide +kernel
theorem dX8_choice_8 : decode cX8_choice 8 = .ok (.invokestatic 222, 3) := by decide +kernel
theorem dX8_choice_11 : decode cX8_choice 11 = .ok (.ifCond .ne 6, 3) := by decide +kernel
theorem dX8_choice_14 : decode cX8_choice 14 = .ok (.bipush (-3), 2) := by decide +kernel
theorem dX8_choice_16 : decode cX8_choice 16 = .ok (.ireturn, 1) := by decide +kernel
theorem dX8_choice_17 : decode cX8_choice 17 = .ok (.aload_n 0, 1) := by decide +kernel
theorem dX8_choice_18 : decode cX8_choice 18 = .ok (.iload_n 3, 1) := by decide +kernel
theorem dX8_choice_19 : decode cX8_choice 19 = .ok (.invokevirtual 227, 3) := by decide +kernel
theorem dX8_choice_22 : decode cX8_choice 22 = .ok (.aload_n 0, 1) := by decide +kernel
theorem dX8_choice_23 : decode cX8_choice 23 = .ok (.iload_n 3, 1) := by decide +kernel
theorem dX8_choice_24 : decode cX8_choice 24 = .ok (.iload_n 1, 1) := by decide +kernel
theorem dX8_choice_25 : decode cX8_choice 25 = .ok (.iload_n 2, 1) := by decide +kernel
theorem dX8_choice_26 : decode cX8_choice 26 = .ok (.invokevirtual 213, 3) := by decide +kernel
theorem dX8_choice_29 : decode cX8_choice 29 = .ok (.istore 4, 2) := by decide +kernel
theorem dX8_choice_31 : decode cX8_choice 31 = .ok (.iload 4, 2) := by decide +kernel
theorem dX8_choice_33 : decode cX8_choice 33 = .ok (.ifCond .eq 12, 3) := by decide +kernel
theorem dX8_choice_36 : decode cX8_choice 36 = .ok (.aload_n 0, 1) := by decide +kernel
theorem dX8_choice_37 : decode cX8_choice 37 = .ok (.iload_n 1, 1) := by decide +kernel
theorem dX8_choice_38 : decode cX8_choice 38 = .ok (.iload_n 2, 1) := by decide +kernel
theorem dX8_choice_39 : decode cX8_choice 39 = .ok (.invokevirtual 210, 3) := by decide +kernel
theorem dX8_choice_42 : decode cX8_choice 42 = .ok (.ifCond .eq 5, 3) := by decide +kernel
theorem dX8_choice_45 : decode cX8_choice 45 = .ok (.iconst (-1), 1) := by decide +kernel
theorem dX8_choice_46 : decode cX8_choice 46 = .ok (.ireturn, 1) := by decide +kernel
theorem dX8_choice_47 : decode cX8_choice 47 = .ok (.iconst 0, 1) := by decide +kernel
theorem dX8_choice_48 : decode cX8_choice 48 = .ok (.istore 5, 2) := by decide +kernel
theorem dX8_choice_50 : decode cX8_choice 50 = .ok (.iload 5, 2) := by decide +kernel
theorem dX8_choice_52 : decode cX8_choice 52 = .ok (.aload_n 0, 1) := by decide +kernel
theorem dX8_choice_53 : decode cX8_choice 53 = .ok (.getfield 194, 3) := by decide +kernel
theorem dX8_choice_56 : decode cX8_choice 56 = .ok (.if_icmp .ge 36, 3) := by decide +kernel
theorem dX8_choice_59 : decode cX8_choice 59 = .ok (.aload_n 0, 1) := by decide +kernel
theorem dX8_choice_60 : decode cX8_choice 60 = .ok (.iload 5, 2) := by decide +kernel
theorem dX8_choice_62 : decode cX8_choice 62 = .ok (.iload_n 1, 1) := by decide +kernel
theorem dX8_choice_63 : decode cX8_choice 63 = .ok (.iload_n 2, 1) := by decide +kernel
theorem dX8_choice_64 : decode cX8_choice 64 = .ok (.invokevirtual 206, 3) := by decide +kernel
theorem dX8_choice_67 : decode cX8_choice 67 = .ok (.ifCond .eq 19, 3) := by decide +kernel
theorem dX8_choice_70 : decode cX8_choice 70 = .ok (.aload_n 0, 1) := by decide +kernel
theorem dX8_choice_71 : decode cX8_choice 71 = .ok (.iload 5, 2) := by decide +kernel
theorem dX8_choice_73 : decode cX8_choice 73 = .ok (.iload_n 3, 1) := by decide +kernel
theorem dX8_choice_74 : decode cX8_choice 74 = .ok (.iload_n 2, 1) := by decide +kernel
theorem dX8_choice_75 : decode cX8_choice 75 = .ok (.invokevirtual 218, 3) := by decide +kernel
theorem dX8_choice_78 : decode cX8_choice 78 = .ok (.iload 4, 2) := by decide +kernel
theorem dX8_choice_80 : decode cX8_choice 80 = .ok (.if_icmp .ne 6, 3) := by decide +kernel
theorem dX8_choice_83 : decode cX8_choice 83 = .ok (.iload 5, 2) := by decide +kernel
theorem dX8_choice_85 : decode cX8_choice 85 = .ok (.ireturn, 1) := by decide +kernel
theorem dX8_choice_86 : decode cX8_choice 86 = .ok (.iinc 5 1, 3) := by decide +kernel
theorem dX8_choice_89 : decode cX8_choice 89 = .ok (.goto (-39), 3) := by decide +kernel
theorem dX8_choice_92 : decode cX8_choice 92 = .ok (.bipush (-2), 2) := by decide +kernel
theorem dX8_choice_94 : decode cX8_choice 94 = .ok (.ireturn, 1) := by decide +kernel
theorem dX8_count_0 : decode cX8_count 0 = .ok (.aload_n 0, 1) := by decide +kernel
theorem dX8_count_1 : decode cX8_count 1 = .ok (.iconst 0, 1) := by decide +kernel
theorem dX8_count_2 : decode cX8_count 2 = .ok (.putfield 112, 3) := by decide +kernel
theorem dX8_count_5 : decode cX8_count 5 = .ok (.iload_n 1, 1) := by decide +kernel
theorem dX8_count_6 : decode cX8_count 6 = .ok (.tableswitch 68 0 5 #[38, 43, 48, 53, 58, 63], 38) := by decide +kernel
theorem dX8_count_44 : decode cX8_count 44 = .ok (.aload_n 0, 1) := by decide +kernel
theorem dX8_count_45 : decode cX8_count 45 = .ok (.getfield 7, 3) := by decide +kernel
theorem dX8_count_48 : decode cX8_count 48 = .ok (.ireturn, 1) := by decide +kernel
theorem dX8_count_49 : decode cX8_count 49 = .ok (.aload_n 0, 1) := by decide +kernel
theorem dX8_count_50 : decode cX8_count 50 = .ok (.getfield 13, 3) := by decide +kernel
theorem dX8_count_53 : decode cX8_count 53 = .ok (.ireturn, 1) := by decide +kernel
theorem dX8_count_54 : decode cX8_count 54 = .ok (.aload_n 0, 1) := by decide +kernel
theorem dX8_count_55 : decode cX8_count 55 = .ok (.getfield 133, 3) := by decide +kernel
theorem dX8_count_58 : decode cX8_count 58 = .ok (.ireturn, 1) := by decide +kernel
theorem dX8_count_59 : decode cX8_count 59 = .ok (.aload_n 0, 1) := by decide +kernel
theorem dX8_count_60 : decode cX8_count 60 = .ok (.getfield 139, 3) := by decide +kernel
theorem dX8_count_63 : decode cX8_count 63 = .ok (.ireturn, 1) := by decide +kernel
theorem dX8_count_64 : decode cX8_count 64 = .ok (.aload_n 0, 1) := by decide +kernel
theorem dX8_count_65 : decode cX8_count 65 = .ok (.getfield 136, 3) := by decide +kernel
theorem dX8_count_68 : decode cX8_count 68 = .ok (.ireturn, 1) := by decide +kernel
theorem dX8_count_69 : decode cX8_count 69 = .ok (.aload_n 0, 1) := by decide +kernel
theorem dX8_count_70 : decode cX8_count 70 = .ok (.getfield 194, 3) := by decide +kernel
theorem dX8_count_73 : decode cX8_count 73 = .ok (.ireturn, 1) := by decide +kernel
theorem dX8_count_74 : decode cX8_count 74 = .ok (.iconst (-1), 1) := by decide +kernel
theorem dX8_count_75 : decode cX8_count 75 = .ok (.ireturn, 1) := by decide +kernel
theorem dJ9_floorMod_7cf53_0 : decode cJ9_floorMod_7cf53 0 = .ok (.iload_n 0, 1) := by decide +kernel
theorem dJ9_floorMod_7cf53_1 : decode cJ9_floorMod_7cf53 1 = .ok (.iload_n 1, 1) := by decide +kernel
theorem dJ9_floorMod_7cf53_2 : decode cJ9_floorMod_7cf53 2 = .ok (.irem, 1) := by decide +kernel
theorem dJ9_floorMod_7cf53_3 : decode cJ9_floorMod_7cf53 3 = .ok (.istore_n 2, 1) := by decide +kernel
theorem dJ9_floorMod_7cf53_4 : decode cJ9_floorMod_7cf53 4 = .ok (.iload_n 0, 1) := by decide +kernel
theorem dJ9_floorMod_7cf53_5 : decode cJ9_floorMod_7cf53 5 = .ok (.iload_n 1, 1) := by decide +kernel
theorem dJ9_floorMod_7cf53_6 : decode cJ9_floorMod_7cf53 6 = .ok (.ixor, 1) := by decide +kernel
theorem dJ9_floorMod_7cf53_7 : decode cJ9_floorMod_7cf53 7 = .ok (.ifCond .ge 11, 3) := by decide +kernel
theorem dJ9_floorMod_7cf53_10 : decode cJ9_floorMod_7cf53 10 = .ok (.iload_n 2, 1) := by decide +kernel
theorem dJ9_floorMod_7cf53_11 : decode cJ9_floorMod_7cf53 11 = .ok (.ifCond .eq 7, 3) := by decide +kernel
theorem dJ9_floorMod_7cf53_14 : decode cJ9_floorMod_7cf53 14 = .ok (.iload_n 2, 1) := by decide +kernel
theorem dJ9_floorMod_7cf53_15 : decode cJ9_floorMod_7cf53 15 = .ok (.iload_n 1, 1) := by decide +kernel
theorem dJ9_floorMod_7cf53_16 : decode cJ9_floorMod_7cf53 16 = .ok (.iadd, 1) := by decide +kernel
theorem dJ9_floorMod_7cf53_17 : decode cJ9_floorMod_7cf53 17 = .ok (.ireturn, 1) := by decide +kernel
theorem dJ9_floorMod_7cf53_18 : decode cJ9_floorMod_7cf53 18 = .ok (.iload_n 2, 1) := by decide +kernel
theorem dJ9_floorMod_7cf53_19 : decode cJ9_floorMod_7cf53 19 = .ok (.ireturn, 1) := by decide +kernel
theorem dJ9_max_7cf53_0 : decode cJ9_max_7cf53 0 = .ok (.iload_n 0, 1) := by decide +kernel
theorem dJ9_max_7cf53_1 : decode cJ9_max_7cf53 1 = .ok (.iload_n 1, 1) := by decide +kernel
theorem dJ9_max_7cf53_2 : decode cJ9_max_7cf53 2 = .ok (.if_icmp .lt 7, 3) := by decide +kernel
theorem dJ9_max_7cf53_5 : decode cJ9_max_7cf53 5 = .ok (.iload_n 0, 1) := by decide +kernel
theorem dJ9_max_7cf53_6 : decode cJ9_max_7cf53 6 = .ok (.goto 4, 3) := by decide +kernel
theorem dJ9_max_7cf53_9 : decode cJ9_max_7cf53 9 = .ok (.iload_n 1, 1) := by decide +kernel
theorem dJ9_max_7cf53_10 : decode cJ9_max_7cf53 10 = .ok (.ireturn, 1) := by decide +kernel
theorem dJ9_min_7cf53_0 : decode cJ9_min_7cf53 0 = .ok (.iload_n 0, 1) := by decide +kernel
theorem dJ9_min_7cf53_1 : decode cJ9_min_7cf53 1 = .ok (.iload_n 1, 1) := by decide +kernel
theorem dJ9_min_7cf53_2 : decode cJ9_min_7cf53 2 = .ok (.if_icmp .gt 7, 3) := by decide +kernel
theorem dJ9_min_7cf53_5 : decode cJ9_min_7cf53 5 = .ok (.iload_n 0, 1) := by decide +kernel
theorem dJ9_min_7cf53_6 : decode cJ9_min_7cf53 6 = .ok (.goto 4, 3) := by decide +kernel
theorem dJ9_min_7cf53_9 : decode cJ9_min_7cf53 9 = .ok (.iload_n 1, 1) := by decide +kernel
theorem dJ9_min_7cf53_10 : decode cJ9_min_7cf53 10 = .ok (.ireturn, 1) := by decide +kernel
theorem dJ7_fill_d0a16_0 : decode cJ7_fill_d0a16 0 = .ok (.iconst 0, 1) := by decide +kernel
theorem dJ7_fill_d0a16_1 : decode cJ7_fill_d0a16 1 = .ok (.istore_n 3, 1) := by decide +kernel
theorem dJ7_fill_d0a16_2 : decode cJ7_fill_d0a16 2 = .ok (.aload_n 0, 1) := by decide +kernel
theorem dJ7_fill_d0a16_3 : decode cJ7_fill_d0a16 3 = .ok (.arraylength, 1) := by decide +kernel
theorem dJ7_fill_d0a16_4 : decode cJ7_fill_d0a16 4 = .ok (.istore 4, 2) := by decide +kernel
theorem dJ7_fill_d0a16_6 : decode cJ7_fill_d0a16 6 = .ok (.iload_n 3, 1) := by decide +kernel
theorem dJ7_fill_d0a16_7 : decode cJ7_fill_d0a16 7 = .ok (.iload 4, 2) := by decide +kernel
theorem dJ7_fill_d0a16_9 : decode cJ7_fill_d0a16 9 = .ok (.if_icmp .ge 13, 3) := by decide +kernel
theorem dJ7_fill_d0a16_12 : decode cJ7_fill_d0a16 12 = .ok (.aload_n 0, 1) := by decide +kernel
theorem dJ7_fill_d0a16_13 : decode cJ7_fill_d0a16 13 = .ok (.iload_n 3, 1) := by decide +kernel
theorem dJ7_fill_d0a16_14 : decode cJ7_fill_d0a16 14 = .ok (.lload_n 1, 1) := by decide +kernel
theorem dJ7_fill_d0a16_15 : decode cJ7_fill_d0a16 15 = .ok (.lastore, 1) := by decide +kernel
theorem dJ7_fill_d0a16_16 : decode cJ7_fill_d0a16 16 = .ok (.iinc 3 1, 3) := by decide +kernel
theorem dJ7_fill_d0a16_19 : decode cJ7_fill_d0a16 19 = .ok (.goto (-13), 3) := by decide +kernel
theorem dJ7_fill_d0a16_22 : decode cJ7_fill_d0a16 22 = .ok (.return_, 1) := by decide +kernel
theorem dJ7_fill_53178_0 : decode cJ7_fill_53178 0 = .ok (.iconst 0, 1) := by decide +kernel
theorem dJ7_fill_53178_1 : decode cJ7_fill_53178 1 = .ok (.istore_n 2, 1) := by decide +kernel
theorem dJ7_fill_53178_2 : decode cJ7_fill_53178 2 = .ok (.aload_n 0, 1) := by decide +kernel
theorem dJ7_fill_53178_3 : decode cJ7_fill_53178 3 = .ok (.arraylength, 1) := by decide +kernel
theorem dJ7_fill_53178_4 : decode cJ7_fill_53178 4 = .ok (.istore_n 3, 1) := by decide +kernel
theorem dJ7_fill_53178_5 : decode cJ7_fill_53178 5 = .ok (.iload_n 2, 1) := by decide +kernel
theorem dJ7_fill_53178_6 : decode cJ7_fill_53178 6 = .ok (.iload_n 3, 1) := by decide +kernel
theorem dJ7_fill_53178_7 : decode cJ7_fill_53178 7 = .ok (.if_icmp .ge 13, 3) := by decide +kernel
theorem dJ7_fill_53178_10 : decode cJ7_fill_53178 10 = .ok (.aload_n 0, 1) := by decide +kernel
theorem dJ7_fill_53178_11 : decode cJ7_fill_53178 11 = .ok (.iload_n 2, 1) := by decide +kernel
theorem dJ7_fill_53178_12 : decode cJ7_fill_53178 12 = .ok (.iload_n 1, 1) := by decide +kernel
theorem dJ7_fill_53178_13 : decode cJ7_fill_53178 13 = .ok (.iastore, 1) := by decide +kernel
theorem dJ7_fill_53178_14 : decode cJ7_fill_53178 14 = .ok (.iinc 2 1, 3) := by decide +kernel
theorem dJ7_fill_53178_17 : decode cJ7_fill_53178 17 = .ok (.goto (-12), 3) := by decide +kernel
theorem dJ7_fill_53178_20 : decode cJ7_fill_53178 20 = .ok (.return_, 1) := by decide +kernel
