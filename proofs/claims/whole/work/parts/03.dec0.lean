theorem dX0_init_0 : decode cX0_init 0 = .ok (.aload_n 0, 1) := by decide +kernel
theorem dX0_init_1 : decode cX0_init 1 = .ok (.invokespecial 5, 3) := by decide +kernel
theorem dX0_init_4 : decode cX0_init 4 = .ok (.aload_n 0, 1) := by decide +kernel
theorem dX0_init_5 : decode cX0_init 5 = .ok (.bipush 64, 2) := by decide +kernel
theorem dX0_init_7 : decode cX0_init 7 = .ok (.newarray .int, 2) := by decide +kernel
theorem dX0_init_9 : decode cX0_init 9 = .ok (.putfield 11, 3) := by decide +kernel
theorem dX0_init_12 : decode cX0_init 12 = .ok (.aload_n 0, 1) := by decide +kernel
theorem dX0_init_13 : decode cX0_init 13 = .ok (.bipush 8, 2) := by decide +kernel
theorem dX0_init_15 : decode cX0_init 15 = .ok (.newarray .long, 2) := by decide +kernel
theorem dX0_init_17 : decode cX0_init 17 = .ok (.putfield 15, 3) := by decide +kernel
theorem dX0_init_20 : decode cX0_init 20 = .ok (.aload_n 0, 1) := by decide +kernel
theorem dX0_init_21 : decode cX0_init 21 = .ok (.iconst 3, 1) := by decide +kernel
theorem dX0_init_22 : decode cX0_init 22 = .ok (.newarray .long, 2) := by decide +kernel
theorem dX0_init_24 : decode cX0_init 24 = .ok (.putfield 19, 3) := by decide +kernel
theorem dX0_init_27 : decode cX0_init 27 = .ok (.aload_n 0, 1) := by decide +kernel
theorem dX0_init_28 : decode cX0_init 28 = .ok (.bipush 6, 2) := by decide +kernel
theorem dX0_init_30 : decode cX0_init 30 = .ok (.newarray .int, 2) := by decide +kernel
theorem dX0_init_32 : decode cX0_init 32 = .ok (.putfield 22, 3) := by decide +kernel
theorem dX0_init_35 : decode cX0_init 35 = .ok (.aload_n 0, 1) := by decide +kernel
theorem dX0_init_36 : decode cX0_init 36 = .ok (.iconst 2, 1) := by decide +kernel
theorem dX0_init_37 : decode cX0_init 37 = .ok (.iconst 2, 1) := by decide +kernel
theorem dX0_init_38 : decode cX0_init 38 = .ok (.invokevirtual 25, 3) := by decide +kernel
theorem dX0_init_41 : decode cX0_init 41 = .ok (.return_, 1) := by decide +kernel
theorem dX0_isSize_0 : decode cX0_isSize 0 = .ok (.iload_n 0, 1) := by decide +kernel
theorem dX0_isSize_1 : decode cX0_isSize 1 = .ok (.iconst 2, 1) := by decide +kernel
theorem dX0_isSize_2 : decode cX0_isSize 2 = .ok (.if_icmp .lt 13, 3) := by decide +kernel
theorem dX0_isSize_5 : decode cX0_isSize 5 = .ok (.iload_n 0, 1) := by decide +kernel
theorem dX0_isSize_6 : decode cX0_isSize 6 = .ok (.bipush 8, 2) := by decide +kernel
theorem dX0_isSize_8 : decode cX0_isSize 8 = .ok (.if_icmp .gt 7, 3) := by decide +kernel
theorem dX0_isSize_11 : decode cX0_isSize 11 = .ok (.iconst 1, 1) := by decide +kernel
theorem dX0_isSize_12 : decode cX0_isSize 12 = .ok (.goto 4, 3) := by decide +kernel
theorem dX0_isSize_15 : decode cX0_isSize 15 = .ok (.iconst 0, 1) := by decide +kernel
theorem dX0_isSize_16 : decode cX0_isSize 16 = .ok (.ireturn, 1) := by decide +kernel
theorem dX0_isKind_0 : decode cX0_isKind 0 = .ok (.iload_n 0, 1) := by decide +kernel
theorem dX0_isKind_1 : decode cX0_isKind 1 = .ok (.ifCond .lt 13, 3) := by decide +kernel
theorem dX0_isKind_4 : decode cX0_isKind 4 = .ok (.iload_n 0, 1) := by decide +kernel
theorem dX0_isKind_5 : decode cX0_isKind 5 = .ok (.bipush 8, 2) := by decide +kernel
theorem dX0_isKind_7 : decode cX0_isKind 7 = .ok (.if_icmp .gt 7, 3) := by decide +kernel
theorem dX0_isKind_10 : decode cX0_isKind 10 = .ok (.iconst 1, 1) := by decide +kernel
theorem dX0_isKind_11 : decode cX0_isKind 11 = .ok (.goto 4, 3) := by decide +kernel
theorem dX0_isKind_14 : decode cX0_isKind 14 = .ok (.iconst 0, 1) := by decide +kernel
theorem dX0_isKind_15 : decode cX0_isKind 15 = .ok (.ireturn, 1) := by decide +kernel
theorem dX0_cellAt_0 : decode cX0_cellAt 0 = .ok (.iload_n 1, 1) := by decide +kernel
theorem dX0_cellAt_1 : decode cX0_cellAt 1 = .ok (.bipush 8, 2) := by decide +kernel
theorem dX0_cellAt_3 : decode cX0_cellAt 3 = .ok (.imul, 1) := by decide +kernel
theorem dX0_cellAt_4 : decode cX0_cellAt 4 = .ok (.iload_n 0, 1) := by decide +kernel
theorem dX0_cellAt_5 : decode cX0_cellAt 5 = .ok (.iadd, 1) := by decide +kernel
theorem dX0_cellAt_6 : decode cX0_cellAt 6 = .ok (.ireturn, 1) := by decide +kernel
theorem dX0_xOf_0 : decode cX0_xOf 0 = .ok (.iload_n 0, 1) := by decide +kernel
theorem dX0_xOf_1 : decode cX0_xOf 1 = .ok (.bipush 8, 2) := by decide +kernel
theorem dX0_xOf_3 : decode cX0_xOf 3 = .ok (.irem, 1) := by decide +kernel
theorem dX0_xOf_4 : decode cX0_xOf 4 = .ok (.ireturn, 1) := by decide +kernel
theorem dX0_yOf_0 : decode cX0_yOf 0 = .ok (.iload_n 0, 1) := by decide +kernel
theorem dX0_yOf_1 : decode cX0_yOf 1 = .ok (.bipush 8, 2) := by decide +kernel
theorem dX0_yOf_3 : decode cX0_yOf 3 = .ok (.idiv, 1) := by decide +kernel
theorem dX0_yOf_4 : decode cX0_yOf 4 = .ok (.ireturn, 1) := by decide +kernel
theorem dX0_cellOf_0 : decode cX0_cellOf 0 = .ok (.iload_n 0, 1) := by decide +kernel
theorem dX0_cellOf_1 : decode cX0_cellOf 1 = .ok (.bipush 64, 2) := by decide +kernel
theorem dX0_cellOf_3 : decode cX0_cellOf 3 = .ok (.irem, 1) := by decide +kernel
theorem dX0_cellOf_4 : decode cX0_cellOf 4 = .ok (.ireturn, 1) := by decide +kernel
theorem dX0_keysOf_0 : decode cX0_keysOf 0 = .ok (.iload_n 0, 1) := by decide +kernel
theorem dX0_keysOf_1 : decode cX0_keysOf 1 = .ok (.bipush 64, 2) := by decide +kernel
theorem dX0_keysOf_3 : decode cX0_keysOf 3 = .ok (.idiv, 1) := by decide +kernel
theorem dX0_keysOf_4 : decode cX0_keysOf 4 = .ok (.ireturn, 1) := by decide +kernel
theorem dX0_spotOf_0 : decode cX0_spotOf 0 = .ok (.iload_n 0, 1) := by decide +kernel
theorem dX0_spotOf_1 : decode cX0_spotOf 1 = .ok (.sipush 512, 3) := by decide +kernel
theorem dX0_spotOf_4 : decode cX0_spotOf 4 = .ok (.irem, 1) := by decide +kernel
theorem dX0_spotOf_5 : decode cX0_spotOf 5 = .ok (.ireturn, 1) := by decide +kernel
theorem dX0_outcomeOf_0 : decode cX0_outcomeOf 0 = .ok (.iload_n 0, 1) := by decide +kernel
theorem dX0_outcomeOf_1 : decode cX0_outcomeOf 1 = .ok (.sipush 512, 3) := by decide +kernel
theorem dX0_outcomeOf_4 : decode cX0_outcomeOf 4 = .ok (.idiv, 1) := by decide +kernel
theorem dX0_outcomeOf_5 : decode cX0_outcomeOf 5 = .ok (.ireturn, 1) := by decide +kernel
theorem dX0_lay_0 : decode cX0_lay 0 = .ok (.aload_n 0, 1) := by decide +kernel
theorem dX0_lay_1 : decode cX0_lay 1 = .ok (.iload_n 1, 1) := by decide +kernel
theorem dX0_lay_2 : decode cX0_lay 2 = .ok (.putfield 29, 3) := by decide +kernel
theorem dX0_lay_5 : decode cX0_lay 5 = .ok (.aload_n 0, 1) := by decide +kernel
theorem dX0_lay_6 : decode cX0_lay 6 = .ok (.iload_n 2, 1) := by decide +kernel
theorem dX0_lay_7 : decode cX0_lay 7 = .ok (.putfield 33, 3) := by decide +kernel
theorem dX0_lay_10 : decode cX0_lay 10 = .ok (.aload_n 0, 1) := by decide +kernel
theorem dX0_lay_11 : decode cX0_lay 11 = .ok (.iconst 0, 1) := by decide +kernel
theorem dX0_lay_12 : decode cX0_lay 12 = .ok (.putfield 36, 3) := by decide +kernel
theorem dX0_lay_15 : decode cX0_lay 15 = .ok (.aload_n 0, 1) := by decide +kernel
theorem dX0_lay_16 : decode cX0_lay 16 = .ok (.iconst 0, 1) := by decide +kernel
theorem dX0_lay_17 : decode cX0_lay 17 = .ok (.putfield 39, 3) := by decide +kernel
theorem dX0_lay_20 : decode cX0_lay 20 = .ok (.aload_n 0, 1) := by decide +kernel
theorem dX0_lay_21 : decode cX0_lay 21 = .ok (.getfield 11, 3) := by decide +kernel
theorem dX0_lay_24 : decode cX0_lay 24 = .ok (.iconst 0, 1) := by decide +kernel
theorem dX0_lay_25 : decode cX0_lay 25 = .ok (.invokestatic 42, 3) := by decide +kernel
theorem dX0_lay_28 : decode cX0_lay 28 = .ok (.aload_n 0, 1) := by decide +kernel
theorem dX0_lay_29 : decode cX0_lay 29 = .ok (.getfield 15, 3) := by decide +kernel
theorem dX0_lay_32 : decode cX0_lay 32 = .ok (.aload_n 0, 1) := by decide +kernel
theorem dX0_lay_33 : decode cX0_lay 33 = .ok (.invokevirtual 48, 3) := by decide +kernel
theorem dX0_lay_36 : decode cX0_lay 36 = .ok (.invokestatic 52, 3) := by decide +kernel
theorem dX0_lay_39 : decode cX0_lay 39 = .ok (.aload_n 0, 1) := by decide +kernel
theorem dX0_lay_40 : decode cX0_lay 40 = .ok (.getfield 19, 3) := by decide +kernel
theorem dX0_lay_43 : decode cX0_lay 43 = .ok (.lconst 0, 1) := by decide +kernel
theorem dX0_lay_44 : decode cX0_lay 44 = .ok (.invokestatic 52, 3) := by decide +kernel
theorem dX0_lay_47 : decode cX0_lay 47 = .ok (.aload_n 0, 1) := by decide +kernel
theorem dX0_lay_48 : decode cX0_lay 48 = .ok (.lconst 0, 1) := by decide +kernel
theorem dX0_lay_49 : decode cX0_lay 49 = .ok (.putfield 55, 3) := by decide +kernel
theorem dX0_lay_52 : decode cX0_lay 52 = .ok (.return_, 1) := by decide +kernel
theorem dX0_allCells_0 : decode cX0_allCells 0 = .ok (.lconst 0, 1) := by decide +kernel
theorem dX0_allCells_1 : decode cX0_allCells 1 = .ok (.lstore_n 1, 1) := by decide +kernel
theorem dX0_allCells_2 : decode cX0_allCells 2 = .ok (.iconst 0, 1) := by decide +kernel
theorem dX0_allCells_3 : decode cX0_allCells 3 = .ok (.istore_n 3, 1) := by decide +kernel
theorem dX0_allCells_4 : decode cX0_allCells 4 = .ok (.iload_n 3, 1) := by decide +kernel
theorem dX0_allCells_5 : decode cX0_allCells 5 = .ok (.aload_n 0, 1) := by decide +kernel
theorem dX0_allCells_6 : decode cX0_allCells 6 = .ok (.getfield 33, 3) := by decide +kernel
theorem dX0_allCells_9 : decode cX0_allCells 9 = .ok (.if_icmp .ge 38, 3) := by decide +kernel
theorem dX0_allCells_12 : decode cX0_allCells 12 = .ok (.iconst 0, 1) := by decide +kernel
theorem dX0_allCells_13 : decode cX0_allCells 13 = .ok (.istore 4, 2) := by decide +kernel
theorem dX0_allCells_15 : decode cX0_allCells 15 = .ok (.iload 4, 2) := by decide +kernel
theorem dX0_allCells_17 : decode cX0_allCells 17 = .ok (.aload_n 0, 1) := by decide +kernel
theorem dX0_allCells_18 : decode cX0_allCells 18 = .ok (.getfield 29, 3) := by decide +kernel
theorem dX0_allCells_21 : decode cX0_allCells 21 = .ok (.if_icmp .ge 20, 3) := by decide +kernel
theorem dX0_allCells_24 : decode cX0_allCells 24 = .ok (.lload_n 1, 1) := by decide +kernel
theorem dX0_allCells_25 : decode cX0_allCells 25 = .ok (.lconst 1, 1) := by decide +kernel
theorem dX0_allCells_26 : decode cX0_allCells 26 = .ok (.iload 4, 2) := by decide +kernel
theorem dX0_allCells_28 : decode cX0_allCells 28 = .ok (.iload_n 3, 1) := by decide +kernel
theorem dX0_allCells_29 : decode cX0_allCells 29 = .ok (.invokestatic 59, 3) := by decide +kernel
theorem dX0_allCells_32 : decode cX0_allCells 32 = .ok (.lshl, 1) := by decide +kernel
theorem dX0_allCells_33 : decode cX0_allCells 33 = .ok (.lor, 1) := by decide +kernel
theorem dX0_allCells_34 : decode cX0_allCells 34 = .ok (.lstore_n 1, 1) := by decide +kernel
theorem dX0_allCells_35 : decode cX0_allCells 35 = .ok (.iinc 4 1, 3) := by decide +kernel
theorem dX0_allCells_38 : decode cX0_allCells 38 = .ok (.goto (-23), 3) := by decide +kernel
theorem dX0_allCells_41 : decode cX0_allCells 41 = .ok (.iinc 3 1, 3) := by decide +kernel
theorem dX0_allCells_44 : decode cX0_allCells 44 = .ok (.goto (-40), 3) := by decide +kernel
theorem dX0_allCells_47 : decode cX0_allCells 47 = .ok (.lload_n 1, 1) := by decide +kernel
theorem dX0_allCells_48 : decode cX0_allCells 48 = .ok (.lreturn, 1) := by decide +kernel
theorem dX0_setKind_0 : decode cX0_setKind 0 = .ok (.iload_n 1, 1) := by decide +kernel
theorem dX0_setKind_1 : decode cX0_setKind 1 = .ok (.ifCond .lt 9, 3) := by decide +kernel
theorem dX0_setKind_4 : decode cX0_setKind 4 = .ok (.iload_n 1, 1) := by decide +kernel
theorem dX0_setKind_5 : decode cX0_setKind 5 = .ok (.bipush 64, 2) := by decide +kernel
theorem dX0_setKind_7 : decode cX0_setKind 7 = .ok (.if_icmp .lt 4, 3) := by decide +kernel
theorem dX0_setKind_10 : decode cX0_setKind 10 = .ok (.return_, 1) := by decide +kernel
theorem dX0_setKind_11 : decode cX0_setKind 11 = .ok (.aload_n 0, 1) := by decide +kernel
theorem dX0_setKind_12 : decode cX0_setKind 12 = .ok (.getfield 11, 3) := by decide +kernel
theorem dX0_setKind_15 : decode cX0_setKind 15 = .ok (.iload_n 1, 1) := by decide +kernel
theorem dX0_setKind_16 : decode cX0_setKind 16 = .ok (.iload_n 2, 1) := by decide +kernel
theorem dX0_setKind_17 : decode cX0_setKind 17 = .ok (.iastore, 1) := by decide +kernel
theorem dX0_setKind_18 : decode cX0_setKind 18 = .ok (.iconst 0, 1) := by decide +kernel
theorem dX0_setKind_19 : decode cX0_setKind 19 = .ok (.istore_n 3, 1) := by decide +kernel
theorem dX0_setKind_20 : decode cX0_setKind 20 = .ok (.iload_n 3, 1) := by decide +kernel
theorem dX0_setKind_21 : decode cX0_setKind 21 = .ok (.bipush 8, 2) := by decide +kernel
theorem dX0_setKind_23 : decode cX0_setKind 23 = .ok (.if_icmp .ge 30, 3) := by decide +kernel
theorem dX0_setKind_26 : decode cX0_setKind 26 = .ok (.aload_n 0, 1) := by decide +kernel
theorem dX0_setKind_27 : decode cX0_setKind 27 = .ok (.getfield 15, 3) := by decide +kernel
theorem dX0_setKind_30 : decode cX0_setKind 30 = .ok (.iload_n 3, 1) := by decide +kernel
theorem dX0_setKind_31 : decode cX0_setKind 31 = .ok (.aload_n 0, 1) := by decide +kernel
theorem dX0_setKind_32 : decode cX0_setKind 32 = .ok (.getfield 15, 3) := by decide +kernel
theorem dX0_setKind_35 : decode cX0_setKind 35 = .ok (.iload_n 3, 1) := by decide +kernel
theorem dX0_setKind_36 : decode cX0_setKind 36 = .ok (.laload, 1) := by decide +kernel
theorem dX0_setKind_37 : decode cX0_setKind 37 = .ok (.iload_n 1, 1) := by decide +kernel
theorem dX0_setKind_38 : decode cX0_setKind 38 = .ok (.iload_n 2, 1) := by decide +kernel
theorem dX0_setKind_39 : decode cX0_setKind 39 = .ok (.iload_n 3, 1) := by decide +kernel
theorem dX0_setKind_40 : decode cX0_setKind 40 = .ok (.invokestatic 63, 3) := by decide +kernel
theorem dX0_setKind_43 : decode cX0_setKind 43 = .ok (.invokestatic 67, 3) := by decide +kernel
theorem dX0_setKind_46 : decode cX0_setKind 46 = .ok (.lastore, 1) := by decide +kernel
theorem dX0_setKind_47 : decode cX0_setKind 47 = .ok (.iinc 3 1, 3) := by decide +kernel
theorem dX0_setKind_50 : decode cX0_setKind 50 = .ok (.goto (-30), 3) := by decide +kernel
theorem dX0_setKind_53 : decode cX0_setKind 53 = .ok (.iconst 0, 1) := by decide +kernel
theorem dX0_setKind_54 : decode cX0_setKind 54 = .ok (.istore_n 3, 1) := by decide +kernel
theorem dX0_setKind_55 : decode cX0_setKind 55 = .ok (.iload_n 3, 1) := by decide +kernel
theorem dX0_setKind_56 : decode cX0_setKind 56 = .ok (.iconst 3, 1) := by decide +kernel
theorem dX0_setKind_57 : decode cX0_setKind 57 = .ok (.if_icmp .ge 37, 3) := by decide +kernel
theorem dX0_setKind_60 : decode cX0_setKind 60 = .ok (.aload_n 0, 1) := by decide +kernel
theorem dX0_setKind_61 : decode cX0_setKind 61 = .ok (.getfield 19, 3) := by decide +kernel
theorem dX0_setKind_64 : decode cX0_setKind 64 = .ok (.iload_n 3, 1) := by decide +kernel
theorem dX0_setKind_65 : decode cX0_setKind 65 = .ok (.aload_n 0, 1) := by decide +kernel
theorem dX0_setKind_66 : decode cX0_setKind 66 = .ok (.getfield 19, 3) := by decide +kernel
theorem dX0_setKind_69 : decode cX0_setKind 69 = .ok (.iload_n 3, 1) := by decide +kernel
theorem dX0_setKind_70 : decode cX0_setKind 70 = .ok (.laload, 1) := by decide +kernel
theorem dX0_setKind_71 : decode cX0_setKind 71 = .ok (.iload_n 1, 1) := by decide +kernel
theorem dX0_setKind_72 : decode cX0_setKind 72 = .ok (.iload_n 2, 1) := by decide +kernel
theorem dX0_setKind_73 : decode cX0_setKind 73 = .ok (.iconst 2, 1) := by decide +kernel
theorem dX0_setKind_74 : decode cX0_setKind 74 = .ok (.iload_n 3, 1) := by decide +kernel
theorem dX0_setKind_75 : decode cX0_setKind 75 = .ok (.iadd, 1) := by decide +kernel
theorem dX0_setKind_76 : decode cX0_setKind 76 = .ok (.if_icmp .ne 7, 3) := by decide +kernel
theorem dX0_setKind_79 : decode cX0_setKind 79 = .ok (.iconst 1, 1) := by decide +kernel
theorem dX0_setKind_80 : decode cX0_setKind 80 = .ok (.goto 4, 3) := by decide +kernel
theorem dX0_setKind_83 : decode cX0_setKind 83 = .ok (.iconst 0, 1) := by decide +kernel
theorem dX0_setKind_84 : decode cX0_setKind 84 = .ok (.invokestatic 67, 3) := by decide +kernel
theorem dX0_setKind_87 : decode cX0_setKind 87 = .ok (.lastore, 1) := by decide +kernel
theorem dX0_setKind_88 : decode cX0_setKind 88 = .ok (.iinc 3 1, 3) := by decide +kernel
theorem dX0_setKind_91 : decode cX0_setKind 91 = .ok (.goto (-36), 3) := by decide +kernel
theorem dX0_setKind_94 : decode cX0_setKind 94 = .ok (.aload_n 0, 1) := by decide +kernel
theorem dX0_setKind_95 : decode cX0_setKind 95 = .ok (.aload_n 0, 1) := by decide +kernel
theorem dX0_setKind_96 : decode cX0_setKind 96 = .ok (.getfield 55, 3) := by decide +kernel
theorem dX0_setKind_99 : decode cX0_setKind 99 = .ok (.iload_n 1, 1) := by decide +kernel
theorem dX0_setKind_100 : decode cX0_setKind 100 = .ok (.iload_n 2, 1) := by decide +kernel
theorem dX0_setKind_101 : decode cX0_setKind 101 = .ok (.bipush 8, 2) := by decide +kernel
theorem dX0_setKind_103 : decode cX0_setKind 103 = .ok (.if_icmp .ne 7, 3) := by decide +kernel
theorem dX0_setKind_106 : decode cX0_setKind 106 = .ok (.iconst 1, 1) := by decide +kernel
theorem dX0_setKind_107 : decode cX0_setKind 107 = .ok (.goto 4, 3) := by decide +kernel
theorem dX0_setKind_110 : decode cX0_setKind 110 = .ok (.iconst 0, 1) := by decide +kernel
theorem dX0_setKind_111 : decode cX0_setKind 111 = .ok (.invokestatic 67, 3) := by decide +kernel
theorem dX0_setKind_114 : decode cX0_setKind 114 = .ok (.putfield 55, 3) := by decide +kernel
theorem dX0_setKind_117 : decode cX0_setKind 117 = .ok (.return_, 1) := by decide +kernel
theorem dX0_with_0 : decode cX0_with 0 = .ok (.lconst 1, 1) := by decide +kernel
theorem dX0_with_1 : decode cX0_with 1 = .ok (.iload_n 2, 1) := by decide +kernel
theorem dX0_with_2 : decode cX0_with 2 = .ok (.lshl, 1) := by decide +kernel
theorem dX0_with_3 : decode cX0_with 3 = .ok (.lstore 4, 2) := by decide +kernel
theorem dX0_with_5 : decode cX0_with 5 = .ok (.iload_n 3, 1) := by decide +kernel
theorem dX0_with_6 : decode cX0_with 6 = .ok (.ifCond .eq 10, 3) := by decide +kernel
theorem dX0_with_9 : decode cX0_with 9 = .ok (.lload_n 0, 1) := by decide +kernel
theorem dX0_with_10 : decode cX0_with 10 = .ok (.lload 4, 2) := by decide +kernel
theorem dX0_with_12 : decode cX0_with 12 = .ok (.lor, 1) := by decide +kernel
theorem dX0_with_13 : decode cX0_with 13 = .ok (.goto 11, 3) := by decide +kernel
theorem dX0_with_16 : decode cX0_with 16 = .ok (.lload_n 0, 1) := by decide +kernel
theorem dX0_with_17 : decode cX0_with 17 = .ok (.lload 4, 2) := by decide +kernel
theorem dX0_with_19 : decode cX0_with 19 = .ok (.ldc2_w 71, 3) := by decide +kernel
theorem dX0_with_22 : decode cX0_with 22 = .ok (.lxor, 1) := by decide +kernel
theorem dX0_with_23 : decode cX0_with 23 = .ok (.land, 1) := by decide +kernel
theorem dX0_with_24 : decode cX0_with 24 = .ok (.lreturn, 1) := by decide +kernel
theorem dX0_has_0 : decode cX0_has 0 = .ok (.iload_n 1, 1) := by decide +kernel
theorem dX0_has_1 : decode cX0_has 1 = .ok (.ifCond .lt 27, 3) := by decide +kernel
theorem dX0_has_4 : decode cX0_has 4 = .ok (.iload_n 1, 1) := by decide +kernel
theorem dX0_has_5 : decode cX0_has 5 = .ok (.aload_n 0, 1) := by decide +kernel
theorem dX0_has_6 : decode cX0_has 6 = .ok (.getfield 29, 3) := by decide +kernel
theorem dX0_has_9 : decode cX0_has 9 = .ok (.if_icmp .ge 19, 3) := by decide +kernel
theorem dX0_has_12 : decode cX0_has 12 = .ok (.iload_n 2, 1) := by decide +kernel
theorem dX0_has_13 : decode cX0_has 13 = .ok (.ifCond .lt 15, 3) := by decide +kernel
theorem dX0_has_16 : decode cX0_has 16 = .ok (.iload_n 2, 1) := by decide +kernel
theorem dX0_has_17 : decode cX0_has 17 = .ok (.aload_n 0, 1) := by decide +kernel
theorem dX0_has_18 : decode cX0_has 18 = .ok (.getfield 33, 3) := by decide +kernel
theorem dX0_has_21 : decode cX0_has 21 = .ok (.if_icmp .ge 7, 3) := by decide +kernel
theorem dX0_has_24 : decode cX0_has 24 = .ok (.iconst 1, 1) := by decide +kernel
theorem dX0_has_25 : decode cX0_has 25 = .ok (.goto 4, 3) := by decide +kernel
theorem dX0_has_28 : decode cX0_has 28 = .ok (.iconst 0, 1) := by decide +kernel
theorem dX0_has_29 : decode cX0_has 29 = .ok (.ireturn, 1) := by decide +kernel
theorem dX0_lengthenRound_0 : decode cX0_lengthenRound 0 = .ok (.aload_n 0, 1) := by decide +kernel
theorem dX0_lengthenRound_1 : decode cX0_lengthenRound 1 = .ok (.getfield 36, 3) := by decide +kernel
theorem dX0_lengthenRound_4 : decode cX0_lengthenRound 4 = .ok (.bipush 6, 2) := by decide +kernel
theorem dX0_lengthenRound_6 : decode cX0_lengthenRound 6 = .ok (.if_icmp .lt 5, 3) := by decide +kernel
theorem dX0_lengthenRound_9 : decode cX0_lengthenRound 9 = .ok (.iconst 0, 1) := by decide +kernel
theorem dX0_lengthenRound_10 : decode cX0_lengthenRound 10 = .ok (.ireturn, 1) := by decide +kernel
theorem dX0_lengthenRound_11 : decode cX0_lengthenRound 11 = .ok (.aload_n 0, 1) := by decide +kernel
theorem dX0_lengthenRound_12 : decode cX0_lengthenRound 12 = .ok (.getfield 22, 3) := by decide +kernel
theorem dX0_lengthenRound_15 : decode cX0_lengthenRound 15 = .ok (.aload_n 0, 1) := by decide +kernel
theorem dX0_lengthenRound_16 : decode cX0_lengthenRound 16 = .ok (.getfield 36, 3) := by decide +kernel
theorem dX0_lengthenRound_19 : decode cX0_lengthenRound 19 = .ok (.iload_n 1, 1) := by decide +kernel
theorem dX0_lengthenRound_20 : decode cX0_lengthenRound 20 = .ok (.iastore, 1) := by decide +kernel
theorem dX0_lengthenRound_21 : decode cX0_lengthenRound 21 = .ok (.aload_n 0, 1) := by decide +kernel
theorem dX0_lengthenRound_22 : decode cX0_lengthenRound 22 = .ok (.dup, 1) := by decide +kernel
theorem dX0_lengthenRound_23 : decode cX0_lengthenRound 23 = .ok (.getfield 36, 3) := by decide +kernel
theorem dX0_lengthenRound_26 : decode cX0_lengthenRound 26 = .ok (.iconst 1, 1) := by decide +kernel
theorem dX0_lengthenRound_27 : decode cX0_lengthenRound 27 = .ok (.iadd, 1) := by decide +kernel
theorem dX0_lengthenRound_28 : decode cX0_lengthenRound 28 = .ok (.putfield 36, 3) := by decide +kernel
theorem dX0_lengthenRound_31 : decode cX0_lengthenRound 31 = .ok (.iconst 1, 1) := by decide +kernel
theorem dX0_lengthenRound_32 : decode cX0_lengthenRound 32 = .ok (.ireturn, 1) := by decide +kernel
theorem dX0_startSpot_0 : decode cX0_startSpot 0 = .ok (.aload_n 0, 1) := by decide +kernel
theorem dX0_startSpot_1 : decode cX0_startSpot 1 = .ok (.getfield 39, 3) := by decide +kernel
theorem dX0_startSpot_4 : decode cX0_startSpot 4 = .ok (.ireturn, 1) := by decide +kernel
theorem dX0_foeCell_0 : decode cX0_foeCell 0 = .ok (.aload_n 0, 1) := by decide +kernel
theorem dX0_foeCell_1 : decode cX0_foeCell 1 = .ok (.getfield 36, 3) := by decide +kernel
theorem dX0_foeCell_4 : decode cX0_foeCell 4 = .ok (.ifCond .le 19, 3) := by decide +kernel
theorem dX0_foeCell_7 : decode cX0_foeCell 7 = .ok (.aload_n 0, 1) := by decide +kernel
theorem dX0_foeCell_8 : decode cX0_foeCell 8 = .ok (.getfield 22, 3) := by decide +kernel
theorem dX0_foeCell_11 : decode cX0_foeCell 11 = .ok (.iload_n 1, 1) := by decide +kernel
theorem dX0_foeCell_12 : decode cX0_foeCell 12 = .ok (.aload_n 0, 1) := by decide +kernel
theorem dX0_foeCell_13 : decode cX0_foeCell 13 = .ok (.getfield 36, 3) := by decide +kernel
theorem dX0_foeCell_16 : decode cX0_foeCell 16 = .ok (.invokestatic 73, 3) := by decide +kernel
theorem dX0_foeCell_19 : decode cX0_foeCell 19 = .ok (.iaload, 1) := by decide +kernel
theorem dX0_foeCell_20 : decode cX0_foeCell 20 = .ok (.goto 4, 3) := by decide +kernel
theorem dX0_foeCell_23 : decode cX0_foeCell 23 = .ok (.iconst (-1), 1) := by decide +kernel
theorem dX0_foeCell_24 : decode cX0_foeCell 24 = .ok (.ireturn, 1) := by decide +kernel
theorem dX0_after_0 : decode cX0_after 0 = .ok (.iload_n 1, 1) := by decide +kernel
theorem dX0_after_1 : decode cX0_after 1 = .ok (.invokestatic 78, 3) := by decide +kernel
theorem dX0_after_4 : decode cX0_after 4 = .ok (.istore 4, 2) := by decide +kernel
theorem dX0_after_6 : decode cX0_after 6 = .ok (.iload_n 1, 1) := by decide +kernel
theorem dX0_after_7 : decode cX0_after 7 = .ok (.invokestatic 82, 3) := by decide +kernel
theorem dX0_after_10 : decode cX0_after 10 = .ok (.istore 5, 2) := by decide +kernel
theorem dX0_after_12 : decode cX0_after 12 = .ok (.aload_n 0, 1) := by decide +kernel
theorem dX0_after_13 : decode cX0_after 13 = .ok (.iload 4, 2) := by decide +kernel
theorem dX0_after_15 : decode cX0_after 15 = .ok (.iload 5, 2) := by decide +kernel
theorem dX0_after_17 : decode cX0_after 17 = .ok (.iload_n 3, 1) := by decide +kernel
theorem dX0_after_18 : decode cX0_after 18 = .ok (.invokevirtual 85, 3) := by decide +kernel
theorem dX0_after_21 : decode cX0_after 21 = .ok (.istore 6, 2) := by decide +kernel
theorem dX0_after_23 : decode cX0_after 23 = .ok (.iconst 0, 1) := by decide +kernel
theorem dX0_after_24 : decode cX0_after 24 = .ok (.istore 7, 2) := by decide +kernel
theorem dX0_after_26 : decode cX0_after 26 = .ok (.aload_n 0, 1) := by decide +kernel
theorem dX0_after_27 : decode cX0_after 27 = .ok (.iload 4, 2) := by decide +kernel
theorem dX0_after_29 : decode cX0_after 29 = .ok (.iload 6, 2) := by decide +kernel
theorem dX0_after_31 : decode cX0_after 31 = .ok (.iload_n 2, 1) := by decide +kernel
theorem dX0_after_32 : decode cX0_after 32 = .ok (.invokevirtual 89, 3) := by decide +kernel
theorem dX0_after_35 : decode cX0_after 35 = .ok (.ifCond .eq 9, 3) := by decide +kernel
theorem dX0_after_38 : decode cX0_after 38 = .ok (.iconst 1, 1) := by decide +kernel
theorem dX0_after_39 : decode cX0_after 39 = .ok (.istore 7, 2) := by decide +kernel
theorem dX0_after_41 : decode cX0_after 41 = .ok (.goto 36, 3) := by decide +kernel
theorem dX0_after_44 : decode cX0_after 44 = .ok (.aload_n 0, 1) := by decide +kernel
theorem dX0_after_45 : decode cX0_after 45 = .ok (.getfield 11, 3) := by decide +kernel
theorem dX0_after_48 : decode cX0_after 48 = .ok (.iload 6, 2) := by decide +kernel
theorem dX0_after_50 : decode cX0_after 50 = .ok (.iaload, 1) := by decide +kernel
theorem dX0_after_51 : decode cX0_after 51 = .ok (.bipush 8, 2) := by decide +kernel
theorem dX0_after_53 : decode cX0_after 53 = .ok (.if_icmp .ne 9, 3) := by decide +kernel
theorem dX0_after_56 : decode cX0_after 56 = .ok (.iconst 2, 1) := by decide +kernel
theorem dX0_after_57 : decode cX0_after 57 = .ok (.istore 7, 2) := by decide +kernel
theorem dX0_after_59 : decode cX0_after 59 = .ok (.goto 18, 3) := by decide +kernel
theorem dX0_after_62 : decode cX0_after 62 = .ok (.iload 5, 2) := by decide +kernel
theorem dX0_after_64 : decode cX0_after 64 = .ok (.aload_n 0, 1) := by decide +kernel
theorem dX0_after_65 : decode cX0_after 65 = .ok (.getfield 11, 3) := by decide +kernel
theorem dX0_after_68 : decode cX0_after 68 = .ok (.iload 6, 2) := by decide +kernel
theorem dX0_after_70 : decode cX0_after 70 = .ok (.iaload, 1) := by decide +kernel
theorem dX0_after_71 : decode cX0_after 71 = .ok (.invokestatic 93, 3) := by decide +kernel
theorem dX0_after_74 : decode cX0_after 74 = .ok (.ior, 1) := by decide +kernel
theorem dX0_after_75 : decode cX0_after 75 = .ok (.istore 5, 2) := by decide +kernel
theorem dX0_after_77 : decode cX0_after 77 = .ok (.iload 7, 2) := by decide +kernel
theorem dX0_after_79 : decode cX0_after 79 = .ok (.sipush 512, 3) := by decide +kernel
theorem dX0_after_82 : decode cX0_after 82 = .ok (.imul, 1) := by decide +kernel
theorem dX0_after_83 : decode cX0_after 83 = .ok (.iload 5, 2) := by decide +kernel
theorem dX0_after_85 : decode cX0_after 85 = .ok (.bipush 64, 2) := by decide +kernel
theorem dX0_after_87 : decode cX0_after 87 = .ok (.imul, 1) := by decide +kernel
theorem dX0_after_88 : decode cX0_after 88 = .ok (.iadd, 1) := by decide +kernel
theorem dX0_after_89 : decode cX0_after 89 = .ok (.iload 6, 2) := by decide +kernel
theorem dX0_after_91 : decode cX0_after 91 = .ok (.iadd, 1) := by decide +kernel
theorem dX0_after_92 : decode cX0_after 92 = .ok (.ireturn, 1) := by decide +kernel
theorem dX0_target_0 : decode cX0_target 0 = .ok (.iload_n 3, 1) := by decide +kernel
theorem dX0_target_1 : decode cX0_target 1 = .ok (.invokestatic 96, 3) := by decide +kernel
theorem dX0_target_4 : decode cX0_target 4 = .ok (.ifCond .ne 5, 3) := by decide +kernel
theorem dX0_target_7 : decode cX0_target 7 = .ok (.iload_n 1, 1) := by decide +kernel
theorem dX0_target_8 : decode cX0_target 8 = .ok (.ireturn, 1) := by decide +kernel
theorem dX0_target_9 : decode cX0_target 9 = .ok (.iload_n 1, 1) := by decide +kernel
theorem dX0_target_10 : decode cX0_target 10 = .ok (.invokestatic 100, 3) := by decide +kernel
theorem dX0_target_13 : decode cX0_target 13 = .ok (.getstatic 103, 3) := by decide +kernel
theorem dX0_target_16 : decode cX0_target 16 = .ok (.iload_n 3, 1) := by decide +kernel
theorem dX0_target_17 : decode cX0_target 17 = .ok (.iaload, 1) := by decide +kernel
theorem dX0_target_18 : decode cX0_target 18 = .ok (.iadd, 1) := by decide +kernel
theorem dX0_target_19 : decode cX0_target 19 = .ok (.istore 4, 2) := by decide +kernel
theorem dX0_target_21 : decode cX0_target 21 = .ok (.iload_n 1, 1) := by decide +kernel
theorem dX0_target_22 : decode cX0_target 22 = .ok (.invokestatic 106, 3) := by decide +kernel
theorem dX0_target_25 : decode cX0_target 25 = .ok (.getstatic 109, 3) := by decide +kernel
theorem dX0_target_28 : decode cX0_target 28 = .ok (.iload_n 3, 1) := by decide +kernel
theorem dX0_target_29 : decode cX0_target 29 = .ok (.iaload, 1) := by decide +kernel
theorem dX0_target_30 : decode cX0_target 30 = .ok (.iadd, 1) := by decide +kernel
theorem dX0_target_31 : decode cX0_target 31 = .ok (.istore 5, 2) := by decide +kernel
theorem dX0_target_33 : decode cX0_target 33 = .ok (.aload_n 0, 1) := by decide +kernel
theorem dX0_target_34 : decode cX0_target 34 = .ok (.iload 4, 2) := by decide +kernel
theorem dX0_target_36 : decode cX0_target 36 = .ok (.iload 5, 2) := by decide +kernel
theorem dX0_target_38 : decode cX0_target 38 = .ok (.invokevirtual 112, 3) := by decide +kernel
theorem dX0_target_41 : decode cX0_target 41 = .ok (.ifCond .ne 5, 3) := by decide +kernel
theorem dX0_target_44 : decode cX0_target 44 = .ok (.iload_n 1, 1) := by decide +kernel
theorem dX0_target_45 : decode cX0_target 45 = .ok (.ireturn, 1) := by decide +kernel
theorem dX0_target_46 : decode cX0_target 46 = .ok (.iload 4, 2) := by decide +kernel
theorem dX0_target_48 : decode cX0_target 48 = .ok (.iload 5, 2) := by decide +kernel
theorem dX0_target_50 : decode cX0_target 50 = .ok (.invokestatic 59, 3) := by decide +kernel
theorem dX0_target_53 : decode cX0_target 53 = .ok (.istore 6, 2) := by decide +kernel
theorem dX0_target_55 : decode cX0_target 55 = .ok (.aload_n 0, 1) := by decide +kernel
theorem dX0_target_56 : decode cX0_target 56 = .ok (.getfield 11, 3) := by decide +kernel
theorem dX0_target_59 : decode cX0_target 59 = .ok (.iload 6, 2) := by decide +kernel
theorem dX0_target_61 : decode cX0_target 61 = .ok (.iaload, 1) := by decide +kernel
theorem dX0_target_62 : decode cX0_target 62 = .ok (.iload_n 2, 1) := by decide +kernel
theorem dX0_target_63 : decode cX0_target 63 = .ok (.invokestatic 63, 3) := by decide +kernel
theorem dX0_target_66 : decode cX0_target 66 = .ok (.ifCond .eq 8, 3) := by decide +kernel
theorem dX0_target_69 : decode cX0_target 69 = .ok (.iload 6, 2) := by decide +kernel
theorem dX0_target_71 : decode cX0_target 71 = .ok (.goto 4, 3) := by decide +kernel
theorem dX0_target_74 : decode cX0_target 74 = .ok (.iload_n 1, 1) := by decide +kernel
theorem dX0_target_75 : decode cX0_target 75 = .ok (.ireturn, 1) := by decide +kernel
theorem dX0_allAfter_0 : decode cX0_allAfter 0 = .ok (.aload_n 0, 1) := by decide +kernel
theorem dX0_allAfter_1 : decode cX0_allAfter 1 = .ok (.getfield 36, 3) := by decide +kernel
theorem dX0_allAfter_4 : decode cX0_allAfter 4 = .ok (.ifCond .ne 12, 3) := by decide +kernel
theorem dX0_allAfter_7 : decode cX0_allAfter 7 = .ok (.lload_n 1, 1) := by decide +kernel
theorem dX0_allAfter_8 : decode cX0_allAfter 8 = .ok (.aload_n 0, 1) := by decide +kernel
theorem dX0_allAfter_9 : decode cX0_allAfter 9 = .ok (.lload_n 1, 1) := by decide +kernel
theorem dX0_allAfter_10 : decode cX0_allAfter 10 = .ok (.iload_n 3, 1) := by decide +kernel
theorem dX0_allAfter_11 : decode cX0_allAfter 11 = .ok (.invokevirtual 115, 3) := by decide +kernel
theorem dX0_allAfter_14 : decode cX0_allAfter 14 = .ok (.lor, 1) := by decide +kernel
theorem dX0_allAfter_15 : decode cX0_allAfter 15 = .ok (.lreturn, 1) := by decide +kernel
theorem dX0_allAfter_16 : decode cX0_allAfter 16 = .ok (.lconst 1, 1) := by decide +kernel
theorem dX0_allAfter_17 : decode cX0_allAfter 17 = .ok (.aload_n 0, 1) := by decide +kernel
theorem dX0_allAfter_18 : decode cX0_allAfter 18 = .ok (.iload 4, 2) := by decide +kernel
theorem dX0_allAfter_20 : decode cX0_allAfter 20 = .ok (.invokevirtual 119, 3) := by decide +kernel
theorem dX0_allAfter_23 : decode cX0_allAfter 23 = .ok (.lshl, 1) := by decide +kernel
theorem dX0_allAfter_24 : decode cX0_allAfter 24 = .ok (.lstore 5, 2) := by decide +kernel
theorem dX0_allAfter_26 : decode cX0_allAfter 26 = .ok (.lconst 1, 1) := by decide +kernel
theorem dX0_allAfter_27 : decode cX0_allAfter 27 = .ok (.aload_n 0, 1) := by decide +kernel
theorem dX0_allAfter_28 : decode cX0_allAfter 28 = .ok (.iload 4, 2) := by decide +kernel
theorem dX0_allAfter_30 : decode cX0_allAfter 30 = .ok (.iconst 1, 1) := by decide +kernel
theorem dX0_allAfter_31 : decode cX0_allAfter 31 = .ok (.iadd, 1) := by decide +kernel
theorem dX0_allAfter_32 : decode cX0_allAfter 32 = .ok (.invokevirtual 119, 3) := by decide +kernel
theorem dX0_allAfter_35 : decode cX0_allAfter 35 = .ok (.lshl, 1) := by decide +kernel
theorem dX0_allAfter_36 : decode cX0_allAfter 36 = .ok (.lstore 7, 2) := by decide +kernel
theorem dX0_allAfter_38 : decode cX0_allAfter 38 = .ok (.aload_n 0, 1) := by decide +kernel
theorem dX0_allAfter_39 : decode cX0_allAfter 39 = .ok (.lload_n 1, 1) := by decide +kernel
theorem dX0_allAfter_40 : decode cX0_allAfter 40 = .ok (.lload 7, 2) := by decide +kernel
theorem dX0_allAfter_42 : decode cX0_allAfter 42 = .ok (.ldc2_w 71, 3) := by decide +kernel
theorem dX0_allAfter_45 : decode cX0_allAfter 45 = .ok (.lxor, 1) := by decide +kernel
theorem dX0_allAfter_46 : decode cX0_allAfter 46 = .ok (.land, 1) := by decide +kernel
theorem dX0_allAfter_47 : decode cX0_allAfter 47 = .ok (.iload_n 3, 1) := by decide +kernel
theorem dX0_allAfter_48 : decode cX0_allAfter 48 = .ok (.invokevirtual 115, 3) := by decide +kernel
theorem dX0_allAfter_51 : decode cX0_allAfter 51 = .ok (.lstore 9, 2) := by decide +kernel
theorem dX0_allAfter_53 : decode cX0_allAfter 53 = .ok (.aload_n 0, 1) := by decide +kernel
theorem dX0_allAfter_54 : decode cX0_allAfter 54 = .ok (.lload_n 1, 1) := by decide +kernel
theorem dX0_allAfter_55 : decode cX0_allAfter 55 = .ok (.lload 7, 2) := by decide +kernel
theorem dX0_allAfter_57 : decode cX0_allAfter 57 = .ok (.land, 1) := by decide +kernel
theorem dX0_allAfter_58 : decode cX0_allAfter 58 = .ok (.iload_n 3, 1) := by decide +kernel
theorem dX0_allAfter_59 : decode cX0_allAfter 59 = .ok (.invokevirtual 115, 3) := by decide +kernel
theorem dX0_allAfter_62 : decode cX0_allAfter 62 = .ok (.lload 5, 2) := by decide +kernel
theorem dX0_allAfter_64 : decode cX0_allAfter 64 = .ok (.ldc2_w 71, 3) := by decide +kernel
theorem dX0_allAfter_67 : decode cX0_allAfter 67 = .ok (.lxor, 1) := by decide +kernel
theorem dX0_allAfter_68 : decode cX0_allAfter 68 = .ok (.land, 1) := by decide +kernel
theorem dX0_allAfter_69 : decode cX0_allAfter 69 = .ok (.lstore 11, 2) := by decide +kernel
theorem dX0_allAfter_71 : decode cX0_allAfter 71 = .ok (.lload_n 1, 1) := by decide +kernel
theorem dX0_allAfter_72 : decode cX0_allAfter 72 = .ok (.lload 9, 2) := by decide +kernel
theorem dX0_allAfter_74 : decode cX0_allAfter 74 = .ok (.lor, 1) := by decide +kernel
theorem dX0_allAfter_75 : decode cX0_allAfter 75 = .ok (.lload 11, 2) := by decide +kernel
theorem dX0_allAfter_77 : decode cX0_allAfter 77 = .ok (.lor, 1) := by decide +kernel
theorem dX0_allAfter_78 : decode cX0_allAfter 78 = .ok (.lload 7, 2) := by decide +kernel
theorem dX0_allAfter_80 : decode cX0_allAfter 80 = .ok (.ldc2_w 71, 3) := by decide +kernel
theorem dX0_allAfter_83 : decode cX0_allAfter 83 = .ok (.lxor, 1) := by decide +kernel
theorem dX0_allAfter_84 : decode cX0_allAfter 84 = .ok (.land, 1) := by decide +kernel
theorem dX0_allAfter_85 : decode cX0_allAfter 85 = .ok (.lreturn, 1) := by decide +kernel
theorem dX0_allMoved_0 : decode cX0_allMoved 0 = .ok (.iload_n 3, 1) := by decide +kernel
theorem dX0_allMoved_1 : decode cX0_allMoved 1 = .ok (.ifCond .lt 9, 3) := by decide +kernel
theorem dX0_allMoved_4 : decode cX0_allMoved 4 = .ok (.iload_n 3, 1) := by decide +kernel
theorem dX0_allMoved_5 : decode cX0_allMoved 5 = .ok (.bipush 8, 2) := by decide +kernel
theorem dX0_allMoved_7 : decode cX0_allMoved 7 = .ok (.if_icmp .lt 5, 3) := by decide +kernel
theorem dX0_allMoved_10 : decode cX0_allMoved 10 = .ok (.lconst 0, 1) := by decide +kernel
theorem dX0_allMoved_11 : decode cX0_allMoved 11 = .ok (.lreturn, 1) := by decide +kernel
theorem dX0_allMoved_12 : decode cX0_allMoved 12 = .ok (.lload_n 1, 1) := by decide +kernel
theorem dX0_allMoved_13 : decode cX0_allMoved 13 = .ok (.bipush 8, 2) := by decide +kernel
theorem dX0_allMoved_15 : decode cX0_allMoved 15 = .ok (.lushr, 1) := by decide +kernel
theorem dX0_allMoved_16 : decode cX0_allMoved 16 = .ok (.lload_n 1, 1) := by decide +kernel
theorem dX0_allMoved_17 : decode cX0_allMoved 17 = .ok (.bipush 8, 2) := by decide +kernel
theorem dX0_allMoved_19 : decode cX0_allMoved 19 = .ok (.lshl, 1) := by decide +kernel
theorem dX0_allMoved_20 : decode cX0_allMoved 20 = .ok (.lor, 1) := by decide +kernel
theorem dX0_allMoved_21 : decode cX0_allMoved 21 = .ok (.lstore 4, 2) := by decide +kernel
theorem dX0_allMoved_23 : decode cX0_allMoved 23 = .ok (.lload_n 1, 1) := by decide +kernel
theorem dX0_allMoved_24 : decode cX0_allMoved 24 = .ok (.ldc2_w 122, 3) := by decide +kernel
theorem dX0_allMoved_27 : decode cX0_allMoved 27 = .ok (.land, 1) := by decide +kernel
theorem dX0_allMoved_28 : decode cX0_allMoved 28 = .ok (.iconst 1, 1) := by decide +kernel
theorem dX0_allMoved_29 : decode cX0_allMoved 29 = .ok (.lshl, 1) := by decide +kernel
theorem dX0_allMoved_30 : decode cX0_allMoved 30 = .ok (.lload_n 1, 1) := by decide +kernel
theorem dX0_allMoved_31 : decode cX0_allMoved 31 = .ok (.ldc2_w 124, 3) := by decide +kernel
theorem dX0_allMoved_34 : decode cX0_allMoved 34 = .ok (.land, 1) := by decide +kernel
theorem dX0_allMoved_35 : decode cX0_allMoved 35 = .ok (.iconst 1, 1) := by decide +kernel
theorem dX0_allMoved_36 : decode cX0_allMoved 36 = .ok (.lushr, 1) := by decide +kernel
theorem dX0_allMoved_37 : decode cX0_allMoved 37 = .ok (.lor, 1) := by decide +kernel
theorem dX0_allMoved_38 : decode cX0_allMoved 38 = .ok (.lstore 6, 2) := by decide +kernel
theorem dX0_allMoved_40 : decode cX0_allMoved 40 = .ok (.lload 4, 2) := by decide +kernel
theorem dX0_allMoved_42 : decode cX0_allMoved 42 = .ok (.lload 6, 2) := by decide +kernel
theorem dX0_allMoved_44 : decode cX0_allMoved 44 = .ok (.lor, 1) := by decide +kernel
theorem dX0_allMoved_45 : decode cX0_allMoved 45 = .ok (.aload_n 0, 1) := by decide +kernel
theorem dX0_allMoved_46 : decode cX0_allMoved 46 = .ok (.getfield 15, 3) := by decide +kernel
theorem dX0_allMoved_49 : decode cX0_allMoved 49 = .ok (.iload_n 3, 1) := by decide +kernel
theorem dX0_allMoved_50 : decode cX0_allMoved 50 = .ok (.laload, 1) := by decide +kernel
theorem dX0_allMoved_51 : decode cX0_allMoved 51 = .ok (.land, 1) := by decide +kernel
theorem dX0_allMoved_52 : decode cX0_allMoved 52 = .ok (.lreturn, 1) := by decide +kernel
theorem dX0_lets_0 : decode cX0_lets 0 = .ok (.iload_n 0, 1) := by decide +kernel
theorem dX0_lets_1 : decode cX0_lets 1 = .ok (.iconst 5, 1) := by decide +kernel
theorem dX0_lets_2 : decode cX0_lets 2 = .ok (.if_icmp .lt 26, 3) := by decide +kernel
theorem dX0_lets_5 : decode cX0_lets 5 = .ok (.iload_n 0, 1) := by decide +kernel
theorem dX0_lets_6 : decode cX0_lets 6 = .ok (.bipush 8, 2) := by decide +kernel
theorem dX0_lets_8 : decode cX0_lets 8 = .ok (.if_icmp .ge 20, 3) := by decide +kernel
theorem dX0_lets_11 : decode cX0_lets 11 = .ok (.iload_n 1, 1) := by decide +kernel
theorem dX0_lets_12 : decode cX0_lets 12 = .ok (.iload_n 0, 1) := by decide +kernel
theorem dX0_lets_13 : decode cX0_lets 13 = .ok (.iconst 5, 1) := by decide +kernel
theorem dX0_lets_14 : decode cX0_lets 14 = .ok (.isub, 1) := by decide +kernel
theorem dX0_lets_15 : decode cX0_lets 15 = .ok (.ishr, 1) := by decide +kernel
theorem dX0_lets_16 : decode cX0_lets 16 = .ok (.iconst 1, 1) := by decide +kernel
theorem dX0_lets_17 : decode cX0_lets 17 = .ok (.iand, 1) := by decide +kernel
theorem dX0_lets_18 : decode cX0_lets 18 = .ok (.iconst 1, 1) := by decide +kernel
theorem dX0_lets_19 : decode cX0_lets 19 = .ok (.if_icmp .ne 7, 3) := by decide +kernel
theorem dX0_lets_22 : decode cX0_lets 22 = .ok (.iconst 1, 1) := by decide +kernel
theorem dX0_lets_23 : decode cX0_lets 23 = .ok (.goto 4, 3) := by decide +kernel
theorem dX0_lets_26 : decode cX0_lets 26 = .ok (.iconst 0, 1) := by decide +kernel
theorem dX0_lets_27 : decode cX0_lets 27 = .ok (.ireturn, 1) := by decide +kernel
theorem dX0_lets_28 : decode cX0_lets 28 = .ok (.iload_n 0, 1) := by decide +kernel
theorem dX0_lets_29 : decode cX0_lets 29 = .ok (.iconst 1, 1) := by decide +kernel
theorem dX0_lets_30 : decode cX0_lets 30 = .ok (.if_icmp .eq 7, 3) := by decide +kernel
theorem dX0_lets_33 : decode cX0_lets 33 = .ok (.iconst 1, 1) := by decide +kernel
theorem dX0_lets_34 : decode cX0_lets 34 = .ok (.goto 4, 3) := by decide +kernel
theorem dX0_lets_37 : decode cX0_lets 37 = .ok (.iconst 0, 1) := by decide +kernel
theorem dX0_lets_38 : decode cX0_lets 38 = .ok (.ireturn, 1) := by decide +kernel
theorem dX0_keyIn_0 : decode cX0_keyIn 0 = .ok (.iload_n 0, 1) := by decide +kernel
theorem dX0_keyIn_1 : decode cX0_keyIn 1 = .ok (.iconst 2, 1) := by decide +kernel
theorem dX0_keyIn_2 : decode cX0_keyIn 2 = .ok (.if_icmp .lt 16, 3) := by decide +kernel
theorem dX0_keyIn_5 : decode cX0_keyIn 5 = .ok (.iload_n 0, 1) := by decide +kernel
theorem dX0_keyIn_6 : decode cX0_keyIn 6 = .ok (.iconst 5, 1) := by decide +kernel
theorem dX0_keyIn_7 : decode cX0_keyIn 7 = .ok (.if_icmp .ge 11, 3) := by decide +kernel
theorem dX0_keyIn_10 : decode cX0_keyIn 10 = .ok (.iconst 1, 1) := by decide +kernel
theorem dX0_keyIn_11 : decode cX0_keyIn 11 = .ok (.iload_n 0, 1) := by decide +kernel
theorem dX0_keyIn_12 : decode cX0_keyIn 12 = .ok (.iconst 2, 1) := by decide +kernel
theorem dX0_keyIn_13 : decode cX0_keyIn 13 = .ok (.isub, 1) := by decide +kernel
theorem dX0_keyIn_14 : decode cX0_keyIn 14 = .ok (.ishl, 1) := by decide +kernel
theorem dX0_keyIn_15 : decode cX0_keyIn 15 = .ok (.goto 4, 3) := by decide +kernel
theorem dX0_keyIn_18 : decode cX0_keyIn 18 = .ok (.iconst 0, 1) := by decide +kernel
theorem dX0_keyIn_19 : decode cX0_keyIn 19 = .ok (.ireturn, 1) := by decide +kernel
theorem dX0_meetsFoe_0 : decode cX0_meetsFoe 0 = .ok (.aload_n 0, 1) := by decide +kernel
theorem dX0_meetsFoe_1 : decode cX0_meetsFoe 1 = .ok (.getfield 36, 3) := by decide +kernel
theorem dX0_meetsFoe_4 : decode cX0_meetsFoe 4 = .ok (.ifCond .ne 5, 3) := by decide +kernel
theorem dX0_meetsFoe_7 : decode cX0_meetsFoe 7 = .ok (.iconst 0, 1) := by decide +kernel
theorem dX0_meetsFoe_8 : decode cX0_meetsFoe 8 = .ok (.ireturn, 1) := by decide +kernel
theorem dX0_meetsFoe_9 : decode cX0_meetsFoe 9 = .ok (.aload_n 0, 1) := by decide +kernel
theorem dX0_meetsFoe_10 : decode cX0_meetsFoe 10 = .ok (.iload_n 3, 1) := by decide +kernel
theorem dX0_meetsFoe_11 : decode cX0_meetsFoe 11 = .ok (.invokevirtual 119, 3) := by decide +kernel
theorem dX0_meetsFoe_14 : decode cX0_meetsFoe 14 = .ok (.istore 4, 2) := by decide +kernel
theorem dX0_meetsFoe_16 : decode cX0_meetsFoe 16 = .ok (.aload_n 0, 1) := by decide +kernel
theorem dX0_meetsFoe_17 : decode cX0_meetsFoe 17 = .ok (.iload_n 3, 1) := by decide +kernel
theorem dX0_meetsFoe_18 : decode cX0_meetsFoe 18 = .ok (.iconst 1, 1) := by decide +kernel
theorem dX0_meetsFoe_19 : decode cX0_meetsFoe 19 = .ok (.iadd, 1) := by decide +kernel
theorem dX0_meetsFoe_20 : decode cX0_meetsFoe 20 = .ok (.invokevirtual 119, 3) := by decide +kernel
theorem dX0_meetsFoe_23 : decode cX0_meetsFoe 23 = .ok (.istore 5, 2) := by decide +kernel
theorem dX0_meetsFoe_25 : decode cX0_meetsFoe 25 = .ok (.iload_n 2, 1) := by decide +kernel
theorem dX0_meetsFoe_26 : decode cX0_meetsFoe 26 = .ok (.iload 5, 2) := by decide +kernel
theorem dX0_meetsFoe_28 : decode cX0_meetsFoe 28 = .ok (.if_icmp .eq 15, 3) := by decide +kernel
theorem dX0_meetsFoe_31 : decode cX0_meetsFoe 31 = .ok (.iload_n 2, 1) := by decide +kernel
theorem dX0_meetsFoe_32 : decode cX0_meetsFoe 32 = .ok (.iload 4, 2) := by decide +kernel
theorem dX0_meetsFoe_34 : decode cX0_meetsFoe 34 = .ok (.if_icmp .ne 13, 3) := by decide +kernel
theorem dX0_meetsFoe_37 : decode cX0_meetsFoe 37 = .ok (.iload_n 1, 1) := by decide +kernel
theorem dX0_meetsFoe_38 : decode cX0_meetsFoe 38 = .ok (.iload 5, 2) := by decide +kernel
theorem dX0_meetsFoe_40 : decode cX0_meetsFoe 40 = .ok (.if_icmp .ne 7, 3) := by decide +kernel
theorem dX0_meetsFoe_43 : decode cX0_meetsFoe 43 = .ok (.iconst 1, 1) := by decide +kernel
theorem dX0_meetsFoe_44 : decode cX0_meetsFoe 44 = .ok (.goto 4, 3) := by decide +kernel
theorem dX0_meetsFoe_47 : decode cX0_meetsFoe 47 = .ok (.iconst 0, 1) := by decide +kernel
theorem dX0_meetsFoe_48 : decode cX0_meetsFoe 48 = .ok (.ireturn, 1) := by decide +kernel
theorem dX1_init_0 : decode cX1_init 0 = .ok (.aload_n 0, 1) := by decide +kernel
theorem dX1_init_1 : decode cX1_init 1 = .ok (.invokespecial 1, 3) := by decide +kernel
theorem dX1_init_4 : decode cX1_init 4 = .ok (.return_, 1) := by decide +kernel
theorem dX1_lead_0 : decode cX1_lead 0 = .ok (.aload_n 0, 1) := by decide +kernel
theorem dX1_lead_1 : decode cX1_lead 1 = .ok (.iload_n 1, 1) := by decide +kernel
theorem dX1_lead_2 : decode cX1_lead 2 = .ok (.putfield 7, 3) := by decide +kernel
theorem dX1_lead_5 : decode cX1_lead 5 = .ok (.aload_n 0, 1) := by decide +kernel
theorem dX1_lead_6 : decode cX1_lead 6 = .ok (.iload_n 2, 1) := by decide +kernel
theorem dX1_lead_7 : decode cX1_lead 7 = .ok (.putfield 13, 3) := by decide +kernel
theorem dX1_lead_10 : decode cX1_lead 10 = .ok (.aload_n 0, 1) := by decide +kernel
theorem dX1_lead_11 : decode cX1_lead 11 = .ok (.iload_n 3, 1) := by decide +kernel
theorem dX1_lead_12 : decode cX1_lead 12 = .ok (.putfield 16, 3) := by decide +kernel
theorem dX1_lead_15 : decode cX1_lead 15 = .ok (.aload_n 0, 1) := by decide +kernel
theorem dX1_lead_16 : decode cX1_lead 16 = .ok (.iload 4, 2) := by decide +kernel
theorem dX1_lead_18 : decode cX1_lead 18 = .ok (.putfield 19, 3) := by decide +kernel
theorem dX1_lead_21 : decode cX1_lead 21 = .ok (.return_, 1) := by decide +kernel
theorem dX1_succeed_0 : decode cX1_succeed 0 = .ok (.aload_n 0, 1) := by decide +kernel
theorem dX1_succeed_1 : decode cX1_succeed 1 = .ok (.iload_n 1, 1) := by decide +kernel
theorem dX1_succeed_2 : decode cX1_succeed 2 = .ok (.putfield 22, 3) := by decide +kernel
theorem dX1_succeed_5 : decode cX1_succeed 5 = .ok (.aload_n 0, 1) := by decide +kernel
theorem dX1_succeed_6 : decode cX1_succeed 6 = .ok (.iload_n 2, 1) := by decide +kernel
theorem dX1_succeed_7 : decode cX1_succeed 7 = .ok (.putfield 25, 3) := by decide +kernel
theorem dX1_succeed_10 : decode cX1_succeed 10 = .ok (.return_, 1) := by decide +kernel
theorem dX1_fail_0 : decode cX1_fail 0 = .ok (.aload_n 0, 1) := by decide +kernel
theorem dX1_fail_1 : decode cX1_fail 1 = .ok (.iload_n 1, 1) := by decide +kernel
theorem dX1_fail_2 : decode cX1_fail 2 = .ok (.putfield 28, 3) := by decide +kernel
theorem dX1_fail_5 : decode cX1_fail 5 = .ok (.aload_n 0, 1) := by decide +kernel
theorem dX1_fail_6 : decode cX1_fail 6 = .ok (.iload_n 2, 1) := by decide +kernel
theorem dX1_fail_7 : decode cX1_fail 7 = .ok (.putfield 31, 3) := by decide +kernel
theorem dX1_fail_10 : decode cX1_fail 10 = .ok (.return_, 1) := by decide +kernel
theorem dX1_isOpenFor_0 : decode cX1_isOpenFor 0 = .ok (.aload_n 0, 1) := by decide +kernel
theorem dX1_isOpenFor_1 : decode cX1_isOpenFor 1 = .ok (.getfield 34, 3) := by decide +kernel
theorem dX1_isOpenFor_4 : decode cX1_isOpenFor 4 = .ok (.ifCond .ne 28, 3) := by decide +kernel
theorem dX1_isOpenFor_7 : decode cX1_isOpenFor 7 = .ok (.aload_n 0, 1) := by decide +kernel
theorem dX1_isOpenFor_8 : decode cX1_isOpenFor 8 = .ok (.getfield 7, 3) := by decide +kernel
theorem dX1_isOpenFor_11 : decode cX1_isOpenFor 11 = .ok (.iload_n 1, 1) := by decide +kernel
theorem dX1_isOpenFor_12 : decode cX1_isOpenFor 12 = .ok (.if_icmp .ne 20, 3) := by decide +kernel
theorem dX1_isOpenFor_15 : decode cX1_isOpenFor 15 = .ok (.iload_n 2, 1) := by decide +kernel
theorem dX1_isOpenFor_16 : decode cX1_isOpenFor 16 = .ok (.aload_n 0, 1) := by decide +kernel
theorem dX1_isOpenFor_17 : decode cX1_isOpenFor 17 = .ok (.getfield 16, 3) := by decide +kernel
theorem dX1_isOpenFor_20 : decode cX1_isOpenFor 20 = .ok (.iand, 1) := by decide +kernel
theorem dX1_isOpenFor_21 : decode cX1_isOpenFor 21 = .ok (.aload_n 0, 1) := by decide +kernel
theorem dX1_isOpenFor_22 : decode cX1_isOpenFor 22 = .ok (.getfield 16, 3) := by decide +kernel
theorem dX1_isOpenFor_25 : decode cX1_isOpenFor 25 = .ok (.if_icmp .ne 7, 3) := by decide +kernel
theorem dX1_isOpenFor_28 : decode cX1_isOpenFor 28 = .ok (.iconst 1, 1) := by decide +kernel
theorem dX1_isOpenFor_29 : decode cX1_isOpenFor 29 = .ok (.goto 4, 3) := by decide +kernel
theorem dX1_isOpenFor_32 : decode cX1_isOpenFor 32 = .ok (.iconst 0, 1) := by decide +kernel
theorem dX1_isOpenFor_33 : decode cX1_isOpenFor 33 = .ok (.ireturn, 1) := by decide +kernel
theorem dX1_isSure_0 : decode cX1_isSure 0 = .ok (.aload_n 0, 1) := by decide +kernel
theorem dX1_isSure_1 : decode cX1_isSure 1 = .ok (.getfield 25, 3) := by decide +kernel
theorem dX1_isSure_4 : decode cX1_isSure 4 = .ok (.bipush 8, 2) := by decide +kernel
theorem dX1_isSure_6 : decode cX1_isSure 6 = .ok (.if_icmp .ne 7, 3) := by decide +kernel
theorem dX1_isSure_9 : decode cX1_isSure 9 = .ok (.iconst 1, 1) := by decide +kernel
theorem dX1_isSure_10 : decode cX1_isSure 10 = .ok (.goto 4, 3) := by decide +kernel
theorem dX1_isSure_13 : decode cX1_isSure 13 = .ok (.iconst 0, 1) := by decide +kernel
theorem dX1_isSure_14 : decode cX1_isSure 14 = .ok (.ireturn, 1) := by decide +kernel
theorem dX2_init_0 : decode cX2_init 0 = .ok (.aload_n 0, 1) := by decide +kernel
theorem dX2_init_1 : decode cX2_init 1 = .ok (.invokespecial 5, 3) := by decide +kernel
theorem dX2_init_4 : decode cX2_init 4 = .ok (.aload_n 0, 1) := by decide +kernel
theorem dX2_init_5 : decode cX2_init 5 = .ok (.bipush 40, 2) := by decide +kernel
theorem dX2_init_7 : decode cX2_init 7 = .ok (.anewarray 11, 3) := by decide +kernel
theorem dX2_init_10 : decode cX2_init 10 = .ok (.putfield 13, 3) := by decide +kernel
theorem dX2_init_13 : decode cX2_init 13 = .ok (.aload_n 0, 1) := by decide +kernel
theorem dX2_init_14 : decode cX2_init 14 = .ok (.sipush 160, 3) := by decide +kernel
theorem dX2_init_17 : decode cX2_init 17 = .ok (.newarray .int, 2) := by decide +kernel
theorem dX2_init_19 : decode cX2_init 19 = .ok (.putfield 17, 3) := by decide +kernel
theorem dX2_init_22 : decode cX2_init 22 = .ok (.aload_n 0, 1) := by decide +kernel
theorem dX2_init_23 : decode cX2_init 23 = .ok (.ldc 21, 2) := by decide +kernel
theorem dX2_init_25 : decode cX2_init 25 = .ok (.newarray .int, 2) := by decide +kernel
theorem dX2_init_27 : decode cX2_init 27 = .ok (.putfield 22, 3) := by decide +kernel
theorem dX2_init_30 : decode cX2_init 30 = .ok (.aload_n 0, 1) := by decide +kernel
theorem dX2_init_31 : decode cX2_init 31 = .ok (.sipush 160, 3) := by decide +kernel
theorem dX2_init_34 : decode cX2_init 34 = .ok (.newarray .int, 2) := by decide +kernel
theorem dX2_init_36 : decode cX2_init 36 = .ok (.putfield 25, 3) := by decide +kernel
theorem dX2_init_39 : decode cX2_init 39 = .ok (.aload_n 0, 1) := by decide +kernel
theorem dX2_init_40 : decode cX2_init 40 = .ok (.sipush 160, 3) := by decide +kernel
theorem dX2_init_43 : decode cX2_init 43 = .ok (.newarray .boolean, 2) := by decide +kernel
theorem dX2_init_45 : decode cX2_init 45 = .ok (.putfield 28, 3) := by decide +kernel
theorem dX2_init_48 : decode cX2_init 48 = .ok (.aload_n 0, 1) := by decide +kernel
theorem dX2_init_49 : decode cX2_init 49 = .ok (.sipush 640, 3) := by decide +kernel
theorem dX2_init_52 : decode cX2_init 52 = .ok (.newarray .int, 2) := by decide +kernel
theorem dX2_init_54 : decode cX2_init 54 = .ok (.putfield 32, 3) := by decide +kernel
theorem dX2_init_57 : decode cX2_init 57 = .ok (.aload_n 0, 1) := by decide +kernel
theorem dX2_init_58 : decode cX2_init 58 = .ok (.sipush 640, 3) := by decide +kernel
theorem dX2_init_61 : decode cX2_init 61 = .ok (.newarray .int, 2) := by decide +kernel
theorem dX2_init_63 : decode cX2_init 63 = .ok (.putfield 35, 3) := by decide +kernel
theorem dX2_init_66 : decode cX2_init 66 = .ok (.iconst 0, 1) := by decide +kernel
theorem dX2_init_67 : decode cX2_init 67 = .ok (.istore_n 1, 1) := by decide +kernel
theorem dX2_init_68 : decode cX2_init 68 = .ok (.iload_n 1, 1) := by decide +kernel
theorem dX2_init_69 : decode cX2_init 69 = .ok (.bipush 40, 2) := by decide +kernel
theorem dX2_init_71 : decode cX2_init 71 = .ok (.if_icmp .ge 22, 3) := by decide +kernel
theorem dX2_init_74 : decode cX2_init 74 = .ok (.aload_n 0, 1) := by decide +kernel
theorem dX2_init_75 : decode cX2_init 75 = .ok (.getfield 13, 3) := by decide +kernel
theorem dX2_init_78 : decode cX2_init 78 = .ok (.iload_n 1, 1) := by decide +kernel
theorem dX2_init_79 : decode cX2_init 79 = .ok (.new 11, 3) := by decide +kernel
theorem dX2_init_82 : decode cX2_init 82 = .ok (.dup, 1) := by decide +kernel
theorem dX2_init_83 : decode cX2_init 83 = .ok (.invokespecial 38, 3) := by decide +kernel
theorem dX2_init_86 : decode cX2_init 86 = .ok (.aastore, 1) := by decide +kernel
theorem dX2_init_87 : decode cX2_init 87 = .ok (.iinc 1 1, 3) := by decide +kernel
theorem dX2_init_90 : decode cX2_init 90 = .ok (.goto (-22), 3) := by decide +kernel
theorem dX2_init_93 : decode cX2_init 93 = .ok (.return_, 1) := by decide +kernel
theorem dX2_isRoom_0 : decode cX2_isRoom 0 = .ok (.iload_n 0, 1) := by decide +kernel
theorem dX2_isRoom_1 : decode cX2_isRoom 1 = .ok (.ifCond .lt 13, 3) := by decide +kernel
theorem dX2_isRoom_4 : decode cX2_isRoom 4 = .ok (.iload_n 0, 1) := by decide +kernel
theorem dX2_isRoom_5 : decode cX2_isRoom 5 = .ok (.bipush 10, 2) := by decide +kernel
theorem dX2_isRoom_7 : decode cX2_isRoom 7 = .ok (.if_icmp .ge 7, 3) := by decide +kernel
theorem dX2_isRoom_10 : decode cX2_isRoom 10 = .ok (.iconst 1, 1) := by decide +kernel
theorem dX2_isRoom_11 : decode cX2_isRoom 11 = .ok (.goto 4, 3) := by decide +kernel
theorem dX2_isRoom_14 : decode cX2_isRoom 14 = .ok (.iconst 0, 1) := by decide +kernel
theorem dX2_isRoom_15 : decode cX2_isRoom 15 = .ok (.ireturn, 1) := by decide +kernel
theorem dX2_isThings_0 : decode cX2_isThings 0 = .ok (.iload_n 0, 1) := by decide +kernel
theorem dX2_isThings_1 : decode cX2_isThings 1 = .ok (.ifCond .lt 13, 3) := by decide +kernel
theorem dX2_isThings_4 : decode cX2_isThings 4 = .ok (.iload_n 0, 1) := by decide +kernel
theorem dX2_isThings_5 : decode cX2_isThings 5 = .ok (.bipush 16, 2) := by decide +kernel
theorem dX2_isThings_7 : decode cX2_isThings 7 = .ok (.if_icmp .ge 7, 3) := by decide +kernel
theorem dX2_isThings_10 : decode cX2_isThings 10 = .ok (.iconst 1, 1) := by decide +kernel
theorem dX2_isThings_11 : decode cX2_isThings 11 = .ok (.goto 4, 3) := by decide +kernel
theorem dX2_isThings_14 : decode cX2_isThings 14 = .ok (.iconst 0, 1) := by decide +kernel
theorem dX2_isThings_15 : decode cX2_isThings 15 = .ok (.ireturn, 1) := by decide +kernel
theorem dX2_isTicks_0 : decode cX2_isTicks 0 = .ok (.iload_n 0, 1) := by decide +kernel
theorem dX2_isTicks_1 : decode cX2_isTicks 1 = .ok (.iconst 1, 1) := by decide +kernel
theorem dX2_isTicks_2 : decode cX2_isTicks 2 = .ok (.if_icmp .lt 13, 3) := by decide +kernel
theorem dX2_isTicks_5 : decode cX2_isTicks 5 = .ok (.iload_n 0, 1) := by decide +kernel
theorem dX2_isTicks_6 : decode cX2_isTicks 6 = .ok (.bipush 100, 2) := by decide +kernel
theorem dX2_isTicks_8 : decode cX2_isTicks 8 = .ok (.if_icmp .gt 7, 3) := by decide +kernel
theorem dX2_isTicks_11 : decode cX2_isTicks 11 = .ok (.iconst 1, 1) := by decide +kernel
theorem dX2_isTicks_12 : decode cX2_isTicks 12 = .ok (.goto 4, 3) := by decide +kernel
theorem dX2_isTicks_15 : decode cX2_isTicks 15 = .ok (.iconst 0, 1) := by decide +kernel
theorem dX2_isTicks_16 : decode cX2_isTicks 16 = .ok (.ireturn, 1) := by decide +kernel
theorem dX2_isOdds_0 : decode cX2_isOdds 0 = .ok (.iload_n 0, 1) := by decide +kernel
theorem dX2_isOdds_1 : decode cX2_isOdds 1 = .ok (.iconst 1, 1) := by decide +kernel
theorem dX2_isOdds_2 : decode cX2_isOdds 2 = .ok (.if_icmp .lt 13, 3) := by decide +kernel
theorem dX2_isOdds_5 : decode cX2_isOdds 5 = .ok (.iload_n 0, 1) := by decide +kernel
theorem dX2_isOdds_6 : decode cX2_isOdds 6 = .ok (.bipush 8, 2) := by decide +kernel
theorem dX2_isOdds_8 : decode cX2_isOdds 8 = .ok (.if_icmp .gt 7, 3) := by decide +kernel
theorem dX2_isOdds_11 : decode cX2_isOdds 11 = .ok (.iconst 1, 1) := by decide +kernel
theorem dX2_isOdds_12 : decode cX2_isOdds 12 = .ok (.goto 4, 3) := by decide +kernel
theorem dX2_isOdds_15 : decode cX2_isOdds 15 = .ok (.iconst 0, 1) := by decide +kernel
theorem dX2_isOdds_16 : decode cX2_isOdds 16 = .ok (.ireturn, 1) := by decide +kernel
theorem dX2_isWay_0 : decode cX2_isWay 0 = .ok (.iload_n 0, 1) := by decide +kernel
theorem dX2_isWay_1 : decode cX2_isWay 1 = .ok (.invokestatic 39, 3) := by decide +kernel
theorem dX2_isWay_4 : decode cX2_isWay 4 = .ok (.ifCond .eq 28, 3) := by decide +kernel
theorem dX2_isWay_7 : decode cX2_isWay 7 = .ok (.iload_n 1, 1) := by decide +kernel
theorem dX2_isWay_8 : decode cX2_isWay 8 = .ok (.invokestatic 39, 3) := by decide +kernel
theorem dX2_isWay_11 : decode cX2_isWay 11 = .ok (.ifCond .eq 21, 3) := by decide +kernel
theorem dX2_isWay_14 : decode cX2_isWay 14 = .ok (.iload_n 2, 1) := by decide +kernel
theorem dX2_isWay_15 : decode cX2_isWay 15 = .ok (.invokestatic 43, 3) := by decide +kernel
theorem dX2_isWay_18 : decode cX2_isWay 18 = .ok (.ifCond .eq 14, 3) := by decide +kernel
theorem dX2_isWay_21 : decode cX2_isWay 21 = .ok (.iload_n 3, 1) := by decide +kernel
theorem dX2_isWay_22 : decode cX2_isWay 22 = .ok (.invokestatic 43, 3) := by decide +kernel
theorem dX2_isWay_25 : decode cX2_isWay 25 = .ok (.ifCond .eq 7, 3) := by decide +kernel
theorem dX2_isWay_28 : decode cX2_isWay 28 = .ok (.iconst 1, 1) := by decide +kernel
theorem dX2_isWay_29 : decode cX2_isWay 29 = .ok (.goto 4, 3) := by decide +kernel
theorem dX2_isWay_32 : decode cX2_isWay 32 = .ok (.iconst 0, 1) := by decide +kernel
theorem dX2_isWay_33 : decode cX2_isWay 33 = .ok (.ireturn, 1) := by decide +kernel
theorem dX2_isAsked_0 : decode cX2_isAsked 0 = .ok (.iload_n 0, 1) := by decide +kernel
theorem dX2_isAsked_1 : decode cX2_isAsked 1 = .ok (.invokestatic 39, 3) := by decide +kernel
theorem dX2_isAsked_4 : decode cX2_isAsked 4 = .ok (.ifCond .eq 25, 3) := by decide +kernel
theorem dX2_isAsked_7 : decode cX2_isAsked 7 = .ok (.iload_n 1, 1) := by decide +kernel
theorem dX2_isAsked_8 : decode cX2_isAsked 8 = .ok (.invokestatic 43, 3) := by decide +kernel
theorem dX2_isAsked_11 : decode cX2_isAsked 11 = .ok (.ifCond .eq 18, 3) := by decide +kernel
theorem dX2_isAsked_14 : decode cX2_isAsked 14 = .ok (.iload_n 2, 1) := by decide +kernel
theorem dX2_isAsked_15 : decode cX2_isAsked 15 = .ok (.ifCond .lt 14, 3) := by decide +kernel
theorem dX2_isAsked_18 : decode cX2_isAsked 18 = .ok (.iload_n 2, 1) := by decide +kernel
theorem dX2_isAsked_19 : decode cX2_isAsked 19 = .ok (.sipush 300, 3) := by decide +kernel
theorem dX2_isAsked_22 : decode cX2_isAsked 22 = .ok (.if_icmp .gt 7, 3) := by decide +kernel
theorem dX2_isAsked_25 : decode cX2_isAsked 25 = .ok (.iconst 1, 1) := by decide +kernel
theorem dX2_isAsked_26 : decode cX2_isAsked 26 = .ok (.goto 4, 3) := by decide +kernel
theorem dX2_isAsked_29 : decode cX2_isAsked 29 = .ok (.iconst 0, 1) := by decide +kernel
theorem dX2_isAsked_30 : decode cX2_isAsked 30 = .ok (.ireturn, 1) := by decide +kernel
theorem dX2_standAt_0 : decode cX2_standAt 0 = .ok (.iload_n 0, 1) := by decide +kernel
theorem dX2_standAt_1 : decode cX2_standAt 1 = .ok (.bipush 16, 2) := by decide +kernel
theorem dX2_standAt_3 : decode cX2_standAt 3 = .ok (.imul, 1) := by decide +kernel
theorem dX2_standAt_4 : decode cX2_standAt 4 = .ok (.iload_n 1, 1) := by decide +kernel
theorem dX2_standAt_5 : decode cX2_standAt 5 = .ok (.iadd, 1) := by decide +kernel
theorem dX2_standAt_6 : decode cX2_standAt 6 = .ok (.ireturn, 1) := by decide +kernel
theorem dX2_isFull_0 : decode cX2_isFull 0 = .ok (.aload_n 0, 1) := by decide +kernel
theorem dX2_isFull_1 : decode cX2_isFull 1 = .ok (.getfield 46, 3) := by decide +kernel
theorem dX2_isFull_4 : decode cX2_isFull 4 = .ok (.bipush 40, 2) := by decide +kernel
theorem dX2_isFull_6 : decode cX2_isFull 6 = .ok (.if_icmp .lt 7, 3) := by decide +kernel
theorem dX2_isFull_9 : decode cX2_isFull 9 = .ok (.iconst 1, 1) := by decide +kernel
theorem dX2_isFull_10 : decode cX2_isFull 10 = .ok (.goto 4, 3) := by decide +kernel
theorem dX2_isFull_13 : decode cX2_isFull 13 = .ok (.iconst 0, 1) := by decide +kernel
theorem dX2_isFull_14 : decode cX2_isFull 14 = .ok (.ireturn, 1) := by decide +kernel
theorem dX2_hasRoad_0 : decode cX2_hasRoad 0 = .ok (.iload_n 1, 1) := by decide +kernel
theorem dX2_hasRoad_1 : decode cX2_hasRoad 1 = .ok (.ifCond .lt 15, 3) := by decide +kernel
theorem dX2_hasRoad_4 : decode cX2_hasRoad 4 = .ok (.iload_n 1, 1) := by decide +kernel
theorem dX2_hasRoad_5 : decode cX2_hasRoad 5 = .ok (.aload_n 0, 1) := by decide +kernel
theorem dX2_hasRoad_6 : decode cX2_hasRoad 6 = .ok (.getfield 46, 3) := by decide +kernel
theorem dX2_hasRoad_9 : decode cX2_hasRoad 9 = .ok (.if_icmp .ge 7, 3) := by decide +kernel
theorem dX2_hasRoad_12 : decode cX2_hasRoad 12 = .ok (.iconst 1, 1) := by decide +kernel
theorem dX2_hasRoad_13 : decode cX2_hasRoad 13 = .ok (.goto 4, 3) := by decide +kernel
theorem dX2_hasRoad_16 : decode cX2_hasRoad 16 = .ok (.iconst 0, 1) := by decide +kernel
theorem dX2_hasRoad_17 : decode cX2_hasRoad 17 = .ok (.ireturn, 1) := by decide +kernel
theorem dX2_openNext_0 : decode cX2_openNext 0 = .ok (.aload_n 0, 1) := by decide +kernel
theorem dX2_openNext_1 : decode cX2_openNext 1 = .ok (.invokevirtual 50, 3) := by decide +kernel
theorem dX2_openNext_4 : decode cX2_openNext 4 = .ok (.aload_n 0, 1) := by decide +kernel
theorem dX2_openNext_5 : decode cX2_openNext 5 = .ok (.dup, 1) := by decide +kernel
theorem dX2_openNext_6 : decode cX2_openNext 6 = .ok (.getfield 46, 3) := by decide +kernel
theorem dX2_openNext_9 : decode cX2_openNext 9 = .ok (.iconst 1, 1) := by decide +kernel
theorem dX2_openNext_10 : decode cX2_openNext 10 = .ok (.iadd, 1) := by decide +kernel
theorem dX2_openNext_11 : decode cX2_openNext 11 = .ok (.putfield 46, 3) := by decide +kernel
theorem dX2_openNext_14 : decode cX2_openNext 14 = .ok (.aload_n 0, 1) := by decide +kernel
theorem dX2_openNext_15 : decode cX2_openNext 15 = .ok (.getfield 46, 3) := by decide +kernel
theorem dX2_openNext_18 : decode cX2_openNext 18 = .ok (.iconst 1, 1) := by decide +kernel
theorem dX2_openNext_19 : decode cX2_openNext 19 = .ok (.isub, 1) := by decide +kernel
theorem dX2_openNext_20 : decode cX2_openNext 20 = .ok (.ireturn, 1) := by decide +kernel
theorem dX2_forgetChances_0 : decode cX2_forgetChances 0 = .ok (.aload_n 0, 1) := by decide +kernel
theorem dX2_forgetChances_1 : decode cX2_forgetChances 1 = .ok (.iconst 0, 1) := by decide +kernel
theorem dX2_forgetChances_2 : decode cX2_forgetChances 2 = .ok (.putfield 53, 3) := by decide +kernel
theorem dX2_forgetChances_5 : decode cX2_forgetChances 5 = .ok (.iconst 0, 1) := by decide +kernel
theorem dX2_forgetChances_6 : decode cX2_forgetChances 6 = .ok (.istore_n 1, 1) := by decide +kernel
theorem dX2_forgetChances_7 : decode cX2_forgetChances 7 = .ok (.iload_n 1, 1) := by decide +kernel
theorem dX2_forgetChances_8 : decode cX2_forgetChances 8 = .ok (.aload_n 0, 1) := by decide +kernel
theorem dX2_forgetChances_9 : decode cX2_forgetChances 9 = .ok (.getfield 56, 3) := by decide +kernel
theorem dX2_forgetChances_12 : decode cX2_forgetChances 12 = .ok (.if_icmp .ge 21, 3) := by decide +kernel
theorem dX2_forgetChances_15 : decode cX2_forgetChances 15 = .ok (.aload_n 0, 1) := by decide +kernel
theorem dX2_forgetChances_16 : decode cX2_forgetChances 16 = .ok (.getfield 28, 3) := by decide +kernel
theorem dX2_forgetChances_19 : decode cX2_forgetChances 19 = .ok (.aload_n 0, 1) := by decide +kernel
theorem dX2_forgetChances_20 : decode cX2_forgetChances 20 = .ok (.getfield 25, 3) := by decide +kernel
theorem dX2_forgetChances_23 : decode cX2_forgetChances 23 = .ok (.iload_n 1, 1) := by decide +kernel
theorem dX2_forgetChances_24 : decode cX2_forgetChances 24 = .ok (.iaload, 1) := by decide +kernel
theorem dX2_forgetChances_25 : decode cX2_forgetChances 25 = .ok (.iconst 0, 1) := by decide +kernel
theorem dX2_forgetChances_26 : decode cX2_forgetChances 26 = .ok (.bastore, 1) := by decide +kernel
theorem dX2_forgetChances_27 : decode cX2_forgetChances 27 = .ok (.iinc 1 1, 3) := by decide +kernel
theorem dX2_forgetChances_30 : decode cX2_forgetChances 30 = .ok (.goto (-23), 3) := by decide +kernel
theorem dX2_forgetChances_33 : decode cX2_forgetChances 33 = .ok (.aload_n 0, 1) := by decide +kernel
theorem dX2_forgetChances_34 : decode cX2_forgetChances 34 = .ok (.iconst 0, 1) := by decide +kernel
theorem dX2_forgetChances_35 : decode cX2_forgetChances 35 = .ok (.putfield 56, 3) := by decide +kernel
theorem dX2_forgetChances_38 : decode cX2_forgetChances 38 = .ok (.return_, 1) := by decide +kernel
theorem dX2_isMet_0 : decode cX2_isMet 0 = .ok (.iload_n 1, 1) := by decide +kernel
theorem dX2_isMet_1 : decode cX2_isMet 1 = .ok (.aload_n 0, 1) := by decide +kernel
theorem dX2_isMet_2 : decode cX2_isMet 2 = .ok (.getfield 59, 3) := by decide +kernel
theorem dX2_isMet_5 : decode cX2_isMet 5 = .ok (.if_icmp .ne 20, 3) := by decide +kernel
theorem dX2_isMet_8 : decode cX2_isMet 8 = .ok (.iload_n 2, 1) := by decide +kernel
theorem dX2_isMet_9 : decode cX2_isMet 9 = .ok (.aload_n 0, 1) := by decide +kernel
theorem dX2_isMet_10 : decode cX2_isMet 10 = .ok (.getfield 62, 3) := by decide +kernel
theorem dX2_isMet_13 : decode cX2_isMet 13 = .ok (.iand, 1) := by decide +kernel
theorem dX2_isMet_14 : decode cX2_isMet 14 = .ok (.aload_n 0, 1) := by decide +kernel
theorem dX2_isMet_15 : decode cX2_isMet 15 = .ok (.getfield 62, 3) := by decide +kernel
theorem dX2_isMet_18 : decode cX2_isMet 18 = .ok (.if_icmp .ne 7, 3) := by decide +kernel
theorem dX2_isMet_21 : decode cX2_isMet 21 = .ok (.iconst 1, 1) := by decide +kernel
theorem dX2_isMet_22 : decode cX2_isMet 22 = .ok (.goto 4, 3) := by decide +kernel
theorem dX2_isMet_25 : decode cX2_isMet 25 = .ok (.iconst 0, 1) := by decide +kernel
theorem dX2_isMet_26 : decode cX2_isMet 26 = .ok (.ireturn, 1) := by decide +kernel
theorem dX2_fewestSureTicks_0 : decode cX2_fewestSureTicks 0 = .ok (.aload_n 0, 1) := by decide +kernel
theorem dX2_fewestSureTicks_1 : decode cX2_fewestSureTicks 1 = .ok (.getfield 17, 3) := by decide +kernel
theorem dX2_fewestSureTicks_4 : decode cX2_fewestSureTicks 4 = .ok (.iconst (-1), 1) := by decide +kernel
theorem dX2_fewestSureTicks_5 : decode cX2_fewestSureTicks 5 = .ok (.invokestatic 65, 3) := by decide +kernel
theorem dX2_fewestSureTicks_8 : decode cX2_fewestSureTicks 8 = .ok (.aload_n 0, 1) := by decide +kernel
theorem dX2_fewestSureTicks_9 : decode cX2_fewestSureTicks 9 = .ok (.getfield 17, 3) := by decide +kernel
theorem dX2_fewestSureTicks_12 : decode cX2_fewestSureTicks 12 = .ok (.iconst 0, 1) := by decide +kernel
theorem dX2_fewestSureTicks_13 : decode cX2_fewestSureTicks 13 = .ok (.iconst 0, 1) := by decide +kernel
theorem dX2_fewestSureTicks_14 : decode cX2_fewestSureTicks 14 = .ok (.iastore, 1) := by decide +kernel
theorem dX2_fewestSureTicks_15 : decode cX2_fewestSureTicks 15 = .ok (.iconst 1, 1) := by decide +kernel
theorem dX2_fewestSureTicks_16 : decode cX2_fewestSureTicks 16 = .ok (.istore_n 1, 1) := by decide +kernel
theorem dX2_fewestSureTicks_17 : decode cX2_fewestSureTicks 17 = .ok (.iconst 0, 1) := by decide +kernel
theorem dX2_fewestSureTicks_18 : decode cX2_fewestSureTicks 18 = .ok (.istore_n 2, 1) := by decide +kernel
theorem dX2_fewestSureTicks_19 : decode cX2_fewestSureTicks 19 = .ok (.iload_n 2, 1) := by decide +kernel
theorem dX2_fewestSureTicks_20 : decode cX2_fewestSureTicks 20 = .ok (.sipush 160, 3) := by decide +kernel
theorem dX2_fewestSureTicks_23 : decode cX2_fewestSureTicks 23 = .ok (.if_icmp .ge 58, 3) := by decide +kernel
theorem dX2_fewestSureTicks_26 : decode cX2_fewestSureTicks 26 = .ok (.iload_n 1, 1) := by decide +kernel
theorem dX2_fewestSureTicks_27 : decode cX2_fewestSureTicks 27 = .ok (.ifCond .eq 54, 3) := by decide +kernel
theorem dX2_fewestSureTicks_30 : decode cX2_fewestSureTicks 30 = .ok (.iconst 0, 1) := by decide +kernel
theorem dX2_fewestSureTicks_31 : decode cX2_fewestSureTicks 31 = .ok (.istore_n 1, 1) := by decide +kernel
theorem dX2_fewestSureTicks_32 : decode cX2_fewestSureTicks 32 = .ok (.iconst 0, 1) := by decide +kernel
theorem dX2_fewestSureTicks_33 : decode cX2_fewestSureTicks 33 = .ok (.istore_n 3, 1) := by decide +kernel
theorem dX2_fewestSureTicks_34 : decode cX2_fewestSureTicks 34 = .ok (.iload_n 3, 1) := by decide +kernel
theorem dX2_fewestSureTicks_35 : decode cX2_fewestSureTicks 35 = .ok (.aload_n 0, 1) := by decide +kernel
theorem dX2_fewestSureTicks_36 : decode cX2_fewestSureTicks 36 = .ok (.getfield 46, 3) := by decide +kernel
theorem dX2_fewestSureTicks_39 : decode cX2_fewestSureTicks 39 = .ok (.if_icmp .ge 36, 3) := by decide +kernel
theorem dX2_fewestSureTicks_42 : decode cX2_fewestSureTicks 42 = .ok (.aload_n 0, 1) := by decide +kernel
theorem dX2_fewestSureTicks_43 : decode cX2_fewestSureTicks 43 = .ok (.getfield 13, 3) := by decide +kernel
theorem dX2_fewestSureTicks_46 : decode cX2_fewestSureTicks 46 = .ok (.iload_n 3, 1) := by decide +kernel
theorem dX2_fewestSureTicks_47 : decode cX2_fewestSureTicks 47 = .ok (.aaload, 1) := by decide +kernel
theorem dX2_fewestSureTicks_48 : decode cX2_fewestSureTicks 48 = .ok (.invokevirtual 71, 3) := by decide +kernel
theorem dX2_fewestSureTicks_51 : decode cX2_fewestSureTicks 51 = .ok (.ifCond .eq 18, 3) := by decide +kernel
theorem dX2_fewestSureTicks_54 : decode cX2_fewestSureTicks 54 = .ok (.aload_n 0, 1) := by decide +kernel
theorem dX2_fewestSureTicks_55 : decode cX2_fewestSureTicks 55 = .ok (.aload_n 0, 1) := by decide +kernel
theorem dX2_fewestSureTicks_56 : decode cX2_fewestSureTicks 56 = .ok (.getfield 13, 3) := by decide +kernel
theorem dX2_fewestSureTicks_59 : decode cX2_fewestSureTicks 59 = .ok (.iload_n 3, 1) := by decide +kernel
theorem dX2_fewestSureTicks_60 : decode cX2_fewestSureTicks 60 = .ok (.aaload, 1) := by decide +kernel
theorem dX2_fewestSureTicks_61 : decode cX2_fewestSureTicks 61 = .ok (.invokevirtual 75, 3) := by decide +kernel
theorem dX2_fewestSureTicks_64 : decode cX2_fewestSureTicks 64 = .ok (.ifCond .eq 5, 3) := by decide +kernel
theorem dX2_fewestSureTicks_67 : decode cX2_fewestSureTicks 67 = .ok (.iconst 1, 1) := by decide +kernel
theorem dX2_fewestSureTicks_68 : decode cX2_fewestSureTicks 68 = .ok (.istore_n 1, 1) := by decide +kernel
theorem dX2_fewestSureTicks_69 : decode cX2_fewestSureTicks 69 = .ok (.iinc 3 1, 3) := by decide +kernel
theorem dX2_fewestSureTicks_72 : decode cX2_fewestSureTicks 72 = .ok (.goto (-38), 3) := by decide +kernel
theorem dX2_fewestSureTicks_75 : decode cX2_fewestSureTicks 75 = .ok (.iinc 2 1, 3) := by decide +kernel
theorem dX2_fewestSureTicks_78 : decode cX2_fewestSureTicks 78 = .ok (.goto (-59), 3) := by decide +kernel
theorem dX2_fewestSureTicks_81 : decode cX2_fewestSureTicks 81 = .ok (.aload_n 0, 1) := by decide +kernel
theorem dX2_fewestSureTicks_82 : decode cX2_fewestSureTicks 82 = .ok (.invokevirtual 79, 3) := by decide +kernel
theorem dX2_fewestSureTicks_85 : decode cX2_fewestSureTicks 85 = .ok (.ireturn, 1) := by decide +kernel
theorem dX2_goSurely_0 : decode cX2_goSurely 0 = .ok (.iconst 0, 1) := by decide +kernel
theorem dX2_goSurely_1 : decode cX2_goSurely 1 = .ok (.istore_n 2, 1) := by decide +kernel
theorem dX2_goSurely_2 : decode cX2_goSurely 2 = .ok (.iconst 0, 1) := by decide +kernel
theorem dX2_goSurely_3 : decode cX2_goSurely 3 = .ok (.istore_n 3, 1) := by decide +kernel
theorem dX2_goSurely_4 : decode cX2_goSurely 4 = .ok (.iload_n 3, 1) := by decide +kernel
theorem dX2_goSurely_5 : decode cX2_goSurely 5 = .ok (.bipush 16, 2) := by decide +kernel
theorem dX2_goSurely_7 : decode cX2_goSurely 7 = .ok (.if_icmp .ge 103, 3) := by decide +kernel
theorem dX2_goSurely_10 : decode cX2_goSurely 10 = .ok (.aload_n 0, 1) := by decide +kernel
theorem dX2_goSurely_11 : decode cX2_goSurely 11 = .ok (.getfield 17, 3) := by decide +kernel
theorem dX2_goSurely_14 : decode cX2_goSurely 14 = .ok (.aload_n 1, 1) := by decide +kernel
theorem dX2_goSurely_15 : decode cX2_goSurely 15 = .ok (.getfield 83, 3) := by decide +kernel
theorem dX2_goSurely_18 : decode cX2_goSurely 18 = .ok (.iload_n 3, 1) := by decide +kernel
theorem dX2_goSurely_19 : decode cX2_goSurely 19 = .ok (.invokestatic 86, 3) := by decide +kernel
theorem dX2_goSurely_22 : decode cX2_goSurely 22 = .ok (.iaload, 1) := by decide +kernel
theorem dX2_goSurely_23 : decode cX2_goSurely 23 = .ok (.istore 4, 2) := by decide +kernel
theorem dX2_goSurely_25 : decode cX2_goSurely 25 = .ok (.iload 4, 2) := by decide +kernel
theorem dX2_goSurely_27 : decode cX2_goSurely 27 = .ok (.iconst (-1), 1) := by decide +kernel
theorem dX2_goSurely_28 : decode cX2_goSurely 28 = .ok (.if_icmp .eq 76, 3) := by decide +kernel
theorem dX2_goSurely_31 : decode cX2_goSurely 31 = .ok (.aload_n 1, 1) := by decide +kernel
theorem dX2_goSurely_32 : decode cX2_goSurely 32 = .ok (.aload_n 1, 1) := by decide +kernel
theorem dX2_goSurely_33 : decode cX2_goSurely 33 = .ok (.getfield 83, 3) := by decide +kernel
theorem dX2_goSurely_36 : decode cX2_goSurely 36 = .ok (.iload_n 3, 1) := by decide +kernel
theorem dX2_goSurely_37 : decode cX2_goSurely 37 = .ok (.invokevirtual 90, 3) := by decide +kernel
theorem dX2_goSurely_40 : decode cX2_goSurely 40 = .ok (.ifCond .ne 6, 3) := by decide +kernel
theorem dX2_goSurely_43 : decode cX2_goSurely 43 = .ok (.goto 61, 3) := by decide +kernel
theorem dX2_goSurely_46 : decode cX2_goSurely 46 = .ok (.aload_n 1, 1) := by decide +kernel
theorem dX2_goSurely_47 : decode cX2_goSurely 47 = .ok (.getfield 94, 3) := by decide +kernel
theorem dX2_goSurely_50 : decode cX2_goSurely 50 = .ok (.iload_n 3, 1) := by decide +kernel
theorem dX2_goSurely_51 : decode cX2_goSurely 51 = .ok (.aload_n 1, 1) := by decide +kernel
theorem dX2_goSurely_52 : decode cX2_goSurely 52 = .ok (.getfield 97, 3) := by decide +kernel
theorem dX2_goSurely_55 : decode cX2_goSurely 55 = .ok (.ior, 1) := by decide +kernel
theorem dX2_goSurely_56 : decode cX2_goSurely 56 = .ok (.invokestatic 86, 3) := by decide +kernel
theorem dX2_goSurely_59 : decode cX2_goSurely 59 = .ok (.istore 5, 2) := by decide +kernel
theorem dX2_goSurely_61 : decode cX2_goSurely 61 = .ok (.iload 4, 2) := by decide +kernel
theorem dX2_goSurely_63 : decode cX2_goSurely 63 = .ok (.aload_n 1, 1) := by decide +kernel
theorem dX2_goSurely_64 : decode cX2_goSurely 64 = .ok (.getfield 100, 3) := by decide +kernel
theorem dX2_goSurely_67 : decode cX2_goSurely 67 = .ok (.iadd, 1) := by decide +kernel
theorem dX2_goSurely_68 : decode cX2_goSurely 68 = .ok (.istore 6, 2) := by decide +kernel
theorem dX2_goSurely_70 : decode cX2_goSurely 70 = .ok (.aload_n 0, 1) := by decide +kernel
theorem dX2_goSurely_71 : decode cX2_goSurely 71 = .ok (.getfield 17, 3) := by decide +kernel
theorem dX2_goSurely_74 : decode cX2_goSurely 74 = .ok (.iload 5, 2) := by decide +kernel
theorem dX2_goSurely_76 : decode cX2_goSurely 76 = .ok (.iaload, 1) := by decide +kernel
theorem dX2_goSurely_77 : decode cX2_goSurely 77 = .ok (.iconst (-1), 1) := by decide +kernel
theorem dX2_goSurely_78 : decode cX2_goSurely 78 = .ok (.if_icmp .eq 15, 3) := by decide +kernel
theorem dX2_goSurely_81 : decode cX2_goSurely 81 = .ok (.iload 6, 2) := by decide +kernel
theorem dX2_goSurely_83 : decode cX2_goSurely 83 = .ok (.aload_n 0, 1) := by decide +kernel
theorem dX2_goSurely_84 : decode cX2_goSurely 84 = .ok (.getfield 17, 3) := by decide +kernel
theorem dX2_goSurely_87 : decode cX2_goSurely 87 = .ok (.iload 5, 2) := by decide +kernel
theorem dX2_goSurely_89 : decode cX2_goSurely 89 = .ok (.iaload, 1) := by decide +kernel
theorem dX2_goSurely_90 : decode cX2_goSurely 90 = .ok (.if_icmp .ge 14, 3) := by decide +kernel
theorem dX2_goSurely_93 : decode cX2_goSurely 93 = .ok (.aload_n 0, 1) := by decide +kernel
theorem dX2_goSurely_94 : decode cX2_goSurely 94 = .ok (.getfield 17, 3) := by decide +kernel
theorem dX2_goSurely_97 : decode cX2_goSurely 97 = .ok (.iload 5, 2) := by decide +kernel
theorem dX2_goSurely_99 : decode cX2_goSurely 99 = .ok (.iload 6, 2) := by decide +kernel
theorem dX2_goSurely_101 : decode cX2_goSurely 101 = .ok (.iastore, 1) := by decide +kernel
theorem dX2_goSurely_102 : decode cX2_goSurely 102 = .ok (.iconst 1, 1) := by decide +kernel
theorem dX2_goSurely_103 : decode cX2_goSurely 103 = .ok (.istore_n 2, 1) := by decide +kernel
theorem dX2_goSurely_104 : decode cX2_goSurely 104 = .ok (.iinc 3 1, 3) := by decide +kernel
theorem dX2_goSurely_107 : decode cX2_goSurely 107 = .ok (.goto (-103), 3) := by decide +kernel
theorem dX2_goSurely_110 : decode cX2_goSurely 110 = .ok (.iload_n 2, 1) := by decide +kernel
theorem dX2_goSurely_111 : decode cX2_goSurely 111 = .ok (.ireturn, 1) := by decide +kernel
theorem dX2_fewestAtGoal_0 : decode cX2_fewestAtGoal 0 = .ok (.iconst (-1), 1) := by decide +kernel
theorem dX2_fewestAtGoal_1 : decode cX2_fewestAtGoal 1 = .ok (.istore_n 1, 1) := by decide +kernel
theorem dX2_fewestAtGoal_2 : decode cX2_fewestAtGoal 2 = .ok (.iconst 0, 1) := by decide +kernel
theorem dX2_fewestAtGoal_3 : decode cX2_fewestAtGoal 3 = .ok (.istore_n 2, 1) := by decide +kernel
theorem dX2_fewestAtGoal_4 : decode cX2_fewestAtGoal 4 = .ok (.iload_n 2, 1) := by decide +kernel
theorem dX2_fewestAtGoal_5 : decode cX2_fewestAtGoal 5 = .ok (.bipush 16, 2) := by decide +kernel
theorem dX2_fewestAtGoal_7 : decode cX2_fewestAtGoal 7 = .ok (.if_icmp .ge 64, 3) := by decide +kernel
theorem dX2_fewestAtGoal_10 : decode cX2_fewestAtGoal 10 = .ok (.aload_n 0, 1) := by decide +kernel
theorem dX2_fewestAtGoal_11 : decode cX2_fewestAtGoal 11 = .ok (.getfield 17, 3) := by decide +kernel
theorem dX2_fewestAtGoal_14 : decode cX2_fewestAtGoal 14 = .ok (.aload_n 0, 1) := by decide +kernel
theorem dX2_fewestAtGoal_15 : decode cX2_fewestAtGoal 15 = .ok (.getfield 59, 3) := by decide +kernel
theorem dX2_fewestAtGoal_18 : decode cX2_fewestAtGoal 18 = .ok (.iload_n 2, 1) := by decide +kernel
theorem dX2_fewestAtGoal_19 : decode cX2_fewestAtGoal 19 = .ok (.invokestatic 86, 3) := by decide +kernel
theorem dX2_fewestAtGoal_22 : decode cX2_fewestAtGoal 22 = .ok (.iaload, 1) := by decide +kernel
theorem dX2_fewestAtGoal_23 : decode cX2_fewestAtGoal 23 = .ok (.istore_n 3, 1) := by decide +kernel
theorem dX2_fewestAtGoal_24 : decode cX2_fewestAtGoal 24 = .ok (.iload_n 3, 1) := by decide +kernel
theorem dX2_fewestAtGoal_25 : decode cX2_fewestAtGoal 25 = .ok (.iconst (-1), 1) := by decide +kernel
theorem dX2_fewestAtGoal_26 : decode cX2_fewestAtGoal 26 = .ok (.if_icmp .eq 19, 3) := by decide +kernel
theorem dX2_fewestAtGoal_29 : decode cX2_fewestAtGoal 29 = .ok (.aload_n 0, 1) := by decide +kernel
theorem dX2_fewestAtGoal_30 : decode cX2_fewestAtGoal 30 = .ok (.aload_n 0, 1) := by decide +kernel
theorem dX2_fewestAtGoal_31 : decode cX2_fewestAtGoal 31 = .ok (.getfield 59, 3) := by decide +kernel
theorem dX2_fewestAtGoal_34 : decode cX2_fewestAtGoal 34 = .ok (.iload_n 2, 1) := by decide +kernel
theorem dX2_fewestAtGoal_35 : decode cX2_fewestAtGoal 35 = .ok (.invokevirtual 103, 3) := by decide +kernel
theorem dX2_fewestAtGoal_38 : decode cX2_fewestAtGoal 38 = .ok (.ifCond .eq 7, 3) := by decide +kernel
theorem dX2_fewestAtGoal_41 : decode cX2_fewestAtGoal 41 = .ok (.iconst 1, 1) := by decide +kernel
theorem dX2_fewestAtGoal_42 : decode cX2_fewestAtGoal 42 = .ok (.goto 4, 3) := by decide +kernel
theorem dX2_fewestAtGoal_45 : decode cX2_fewestAtGoal 45 = .ok (.iconst 0, 1) := by decide +kernel
theorem dX2_fewestAtGoal_46 : decode cX2_fewestAtGoal 46 = .ok (.istore 4, 2) := by decide +kernel
theorem dX2_fewestAtGoal_48 : decode cX2_fewestAtGoal 48 = .ok (.iload 4, 2) := by decide +kernel
theorem dX2_fewestAtGoal_50 : decode cX2_fewestAtGoal 50 = .ok (.ifCond .eq 15, 3) := by decide +kernel
theorem dX2_fewestAtGoal_53 : decode cX2_fewestAtGoal 53 = .ok (.iload_n 1, 1) := by decide +kernel
theorem dX2_fewestAtGoal_54 : decode cX2_fewestAtGoal 54 = .ok (.iconst (-1), 1) := by decide +kernel
theorem dX2_fewestAtGoal_55 : decode cX2_fewestAtGoal 55 = .ok (.if_icmp .eq 8, 3) := by decide +kernel
theorem dX2_fewestAtGoal_58 : decode cX2_fewestAtGoal 58 = .ok (.iload_n 3, 1) := by decide +kernel
theorem dX2_fewestAtGoal_59 : decode cX2_fewestAtGoal 59 = .ok (.iload_n 1, 1) := by decide +kernel
theorem dX2_fewestAtGoal_60 : decode cX2_fewestAtGoal 60 = .ok (.if_icmp .ge 5, 3) := by decide +kernel
theorem dX2_fewestAtGoal_63 : decode cX2_fewestAtGoal 63 = .ok (.iload_n 3, 1) := by decide +kernel
theorem dX2_fewestAtGoal_64 : decode cX2_fewestAtGoal 64 = .ok (.istore_n 1, 1) := by decide +kernel
theorem dX2_fewestAtGoal_65 : decode cX2_fewestAtGoal 65 = .ok (.iinc 2 1, 3) := by decide +kernel
theorem dX2_fewestAtGoal_68 : decode cX2_fewestAtGoal 68 = .ok (.goto (-64), 3) := by decide +kernel
theorem dX2_fewestAtGoal_71 : decode cX2_fewestAtGoal 71 = .ok (.iload_n 1, 1) := by decide +kernel
theorem dX2_fewestAtGoal_72 : decode cX2_fewestAtGoal 72 = .ok (.ireturn, 1) := by decide +kernel
theorem dX2_greatest_0 : decode cX2_greatest 0 = .ok (.aload_n 0, 1) := by decide +kernel
theorem dX2_greatest_1 : decode cX2_greatest 1 = .ok (.iload_n 1, 1) := by decide +kernel
theorem dX2_greatest_2 : decode cX2_greatest 2 = .ok (.iload_n 2, 1) := by decide +kernel
theorem dX2_greatest_3 : decode cX2_greatest 3 = .ok (.invokestatic 86, 3) := by decide +kernel
theorem dX2_greatest_6 : decode cX2_greatest 6 = .ok (.invokevirtual 106, 3) := by decide +kernel
theorem dX2_greatest_9 : decode cX2_greatest 9 = .ok (.aload_n 0, 1) := by decide +kernel
theorem dX2_greatest_10 : decode cX2_greatest 10 = .ok (.iload_n 3, 1) := by decide +kernel
theorem dX2_greatest_11 : decode cX2_greatest 11 = .ok (.invokevirtual 110, 3) := by decide +kernel
theorem dX2_greatest_14 : decode cX2_greatest 14 = .ok (.aload_n 0, 1) := by decide +kernel
theorem dX2_greatest_15 : decode cX2_greatest 15 = .ok (.iload_n 1, 1) := by decide +kernel
theorem dX2_greatest_16 : decode cX2_greatest 16 = .ok (.iload_n 2, 1) := by decide +kernel
theorem dX2_greatest_17 : decode cX2_greatest 17 = .ok (.invokestatic 86, 3) := by decide +kernel
theorem dX2_greatest_20 : decode cX2_greatest 20 = .ok (.iload_n 3, 1) := by decide +kernel
theorem dX2_greatest_21 : decode cX2_greatest 21 = .ok (.invokevirtual 113, 3) := by decide +kernel
theorem dX2_greatest_24 : decode cX2_greatest 24 = .ok (.ireturn, 1) := by decide +kernel
theorem dX2_chosen_0 : decode cX2_chosen 0 = .ok (.aload_n 0, 1) := by decide +kernel
theorem dX2_chosen_1 : decode cX2_chosen 1 = .ok (.iload_n 1, 1) := by decide +kernel
theorem dX2_chosen_2 : decode cX2_chosen 2 = .ok (.iload_n 2, 1) := by decide +kernel
theorem dX2_chosen_3 : decode cX2_chosen 3 = .ok (.iload_n 3, 1) := by decide +kernel
theorem dX2_chosen_4 : decode cX2_chosen 4 = .ok (.invokevirtual 116, 3) := by decide +kernel
theorem dX2_chosen_7 : decode cX2_chosen 7 = .ok (.istore 4, 2) := by decide +kernel
theorem dX2_chosen_9 : decode cX2_chosen 9 = .ok (.iload 4, 2) := by decide +kernel
theorem dX2_chosen_11 : decode cX2_chosen 11 = .ok (.ifCond .eq 12, 3) := by decide +kernel
theorem dX2_chosen_14 : decode cX2_chosen 14 = .ok (.aload_n 0, 1) := by decide +kernel
theorem dX2_chosen_15 : decode cX2_chosen 15 = .ok (.iload_n 1, 1) := by decide +kernel
theorem dX2_chosen_16 : decode cX2_chosen 16 = .ok (.iload_n 2, 1) := by decide +kernel
theorem dX2_chosen_17 : decode cX2_chosen 17 = .ok (.invokevirtual 103, 3) := by decide +kernel
theorem dX2_chosen_20 : decode cX2_chosen 20 = .ok (.ifCond .eq 5, 3) := by decide +kernel
theorem dX2_chosen_23 : decode cX2_chosen 23 = .ok (.iconst (-1), 1) := by decide +kernel
theorem dX2_chosen_24 : decode cX2_chosen 24 = .ok (.ireturn, 1) := by decide +kernel
theorem dX2_chosen_25 : decode cX2_chosen 25 = .ok (.iconst 0, 1) := by decide +kernel
theorem dX2_chosen_26 : decode cX2_chosen 26 = .ok (.istore 5, 2) := by decide +kernel
theorem dX2_chosen_28 : decode cX2_chosen 28 = .ok (.iload 5, 2) := by decide +kernel
theorem dX2_chosen_30 : decode cX2_chosen 30 = .ok (.aload_n 0, 1) := by decide +kernel
theorem dX2_chosen_31 : decode cX2_chosen 31 = .ok (.getfield 46, 3) := by decide +kernel
theorem dX2_chosen_34 : decode cX2_chosen 34 = .ok (.if_icmp .ge 44, 3) := by decide +kernel
theorem dX2_chosen_37 : decode cX2_chosen 37 = .ok (.aload_n 0, 1) := by decide +kernel
theorem dX2_chosen_38 : decode cX2_chosen 38 = .ok (.getfield 13, 3) := by decide +kernel
theorem dX2_chosen_41 : decode cX2_chosen 41 = .ok (.iload 5, 2) := by decide +kernel
theorem dX2_chosen_43 : decode cX2_chosen 43 = .ok (.aaload, 1) := by decide +kernel
theorem dX2_chosen_44 : decode cX2_chosen 44 = .ok (.astore 6, 2) := by decide +kernel
theorem dX2_chosen_46 : decode cX2_chosen 46 = .ok (.aload 6, 2) := by decide +kernel
theorem dX2_chosen_48 : decode cX2_chosen 48 = .ok (.iload_n 1, 1) := by decide +kernel
theorem dX2_chosen_49 : decode cX2_chosen 49 = .ok (.iload_n 2, 1) := by decide +kernel
theorem dX2_chosen_50 : decode cX2_chosen 50 = .ok (.invokevirtual 90, 3) := by decide +kernel
theorem dX2_chosen_53 : decode cX2_chosen 53 = .ok (.ifCond .eq 19, 3) := by decide +kernel
theorem dX2_chosen_56 : decode cX2_chosen 56 = .ok (.aload_n 0, 1) := by decide +kernel
theorem dX2_chosen_57 : decode cX2_chosen 57 = .ok (.aload 6, 2) := by decide +kernel
theorem dX2_chosen_59 : decode cX2_chosen 59 = .ok (.iload_n 2, 1) := by decide +kernel
theorem dX2_chosen_60 : decode cX2_chosen 60 = .ok (.iload_n 3, 1) := by decide +kernel
theorem dX2_chosen_61 : decode cX2_chosen 61 = .ok (.invokevirtual 120, 3) := by decide +kernel
theorem dX2_chosen_64 : decode cX2_chosen 64 = .ok (.iload 4, 2) := by decide +kernel
theorem dX2_chosen_66 : decode cX2_chosen 66 = .ok (.if_icmp .ne 6, 3) := by decide +kernel
theorem dX2_chosen_69 : decode cX2_chosen 69 = .ok (.iload 5, 2) := by decide +kernel
theorem dX2_chosen_71 : decode cX2_chosen 71 = .ok (.ireturn, 1) := by decide +kernel
theorem dX2_chosen_72 : decode cX2_chosen 72 = .ok (.iinc 5 1, 3) := by decide +kernel
theorem dX2_chosen_75 : decode cX2_chosen 75 = .ok (.goto (-47), 3) := by decide +kernel
theorem dX2_chosen_78 : decode cX2_chosen 78 = .ok (.bipush (-2), 2) := by decide +kernel
theorem dX2_chosen_80 : decode cX2_chosen 80 = .ok (.ireturn, 1) := by decide +kernel
theorem dX2_listFrom_0 : decode cX2_listFrom 0 = .ok (.aload_n 0, 1) := by decide +kernel
theorem dX2_listFrom_1 : decode cX2_listFrom 1 = .ok (.getfield 28, 3) := by decide +kernel
theorem dX2_listFrom_4 : decode cX2_listFrom 4 = .ok (.iload_n 1, 1) := by decide +kernel
theorem dX2_listFrom_5 : decode cX2_listFrom 5 = .ok (.baload, 1) := by decide +kernel
theorem dX2_listFrom_6 : decode cX2_listFrom 6 = .ok (.ifCond .eq 4, 3) := by decide +kernel
theorem dX2_listFrom_9 : decode cX2_listFrom 9 = .ok (.return_, 1) := by decide +kernel
theorem dX2_listFrom_10 : decode cX2_listFrom 10 = .ok (.aload_n 0, 1) := by decide +kernel
theorem dX2_listFrom_11 : decode cX2_listFrom 11 = .ok (.iconst 0, 1) := by decide +kernel
theorem dX2_listFrom_12 : decode cX2_listFrom 12 = .ok (.putfield 124, 3) := by decide +kernel
theorem dX2_listFrom_15 : decode cX2_listFrom 15 = .ok (.aload_n 0, 1) := by decide +kernel
theorem dX2_listFrom_16 : decode cX2_listFrom 16 = .ok (.getfield 56, 3) := by decide +kernel
theorem dX2_listFrom_19 : decode cX2_listFrom 19 = .ok (.istore_n 2, 1) := by decide +kernel
theorem dX2_listFrom_20 : decode cX2_listFrom 20 = .ok (.aload_n 0, 1) := by decide +kernel
theorem dX2_listFrom_21 : decode cX2_listFrom 21 = .ok (.iload_n 1, 1) := by decide +kernel
theorem dX2_listFrom_22 : decode cX2_listFrom 22 = .ok (.invokevirtual 127, 3) := by decide +kernel
theorem dX2_listFrom_25 : decode cX2_listFrom 25 = .ok (.aload_n 0, 1) := by decide +kernel
theorem dX2_listFrom_26 : decode cX2_listFrom 26 = .ok (.getfield 130, 3) := by decide +kernel
theorem dX2_listFrom_29 : decode cX2_listFrom 29 = .ok (.ifCond .le 12, 3) := by decide +kernel
theorem dX2_listFrom_32 : decode cX2_listFrom 32 = .ok (.aload_n 0, 1) := by decide +kernel
theorem dX2_listFrom_33 : decode cX2_listFrom 33 = .ok (.iconst 0, 1) := by decide +kernel
theorem dX2_listFrom_34 : decode cX2_listFrom 34 = .ok (.iconst 0, 1) := by decide +kernel
theorem dX2_listFrom_35 : decode cX2_listFrom 35 = .ok (.invokestatic 86, 3) := by decide +kernel
theorem dX2_listFrom_38 : decode cX2_listFrom 38 = .ok (.invokevirtual 127, 3) := by decide +kernel
theorem dX2_listFrom_41 : decode cX2_listFrom 41 = .ok (.iload_n 2, 1) := by decide +kernel
theorem dX2_listFrom_42 : decode cX2_listFrom 42 = .ok (.istore_n 3, 1) := by decide +kernel
theorem dX2_listFrom_43 : decode cX2_listFrom 43 = .ok (.iload_n 3, 1) := by decide +kernel
theorem dX2_listFrom_44 : decode cX2_listFrom 44 = .ok (.aload_n 0, 1) := by decide +kernel
theorem dX2_listFrom_45 : decode cX2_listFrom 45 = .ok (.getfield 56, 3) := by decide +kernel
theorem dX2_listFrom_48 : decode cX2_listFrom 48 = .ok (.if_icmp .ge 38, 3) := by decide +kernel
theorem dX2_listFrom_51 : decode cX2_listFrom 51 = .ok (.iload_n 3, 1) := by decide +kernel
theorem dX2_listFrom_52 : decode cX2_listFrom 52 = .ok (.sipush 160, 3) := by decide +kernel
theorem dX2_listFrom_55 : decode cX2_listFrom 55 = .ok (.if_icmp .ge 31, 3) := by decide +kernel
theorem dX2_listFrom_58 : decode cX2_listFrom 58 = .ok (.aload_n 0, 1) := by decide +kernel
theorem dX2_listFrom_59 : decode cX2_listFrom 59 = .ok (.aload_n 0, 1) := by decide +kernel
theorem dX2_listFrom_60 : decode cX2_listFrom 60 = .ok (.getfield 25, 3) := by decide +kernel
theorem dX2_listFrom_63 : decode cX2_listFrom 63 = .ok (.iload_n 3, 1) := by decide +kernel
theorem dX2_listFrom_64 : decode cX2_listFrom 64 = .ok (.iaload, 1) := by decide +kernel
theorem dX2_listFrom_65 : decode cX2_listFrom 65 = .ok (.bipush 16, 2) := by decide +kernel
theorem dX2_listFrom_67 : decode cX2_listFrom 67 = .ok (.idiv, 1) := by decide +kernel
theorem dX2_listFrom_68 : decode cX2_listFrom 68 = .ok (.aload_n 0, 1) := by decide +kernel
theorem dX2_listFrom_69 : decode cX2_listFrom 69 = .ok (.getfield 25, 3) := by decide +kernel
theorem dX2_listFrom_72 : decode cX2_listFrom 72 = .ok (.iload_n 3, 1) := by decide +kernel
theorem dX2_listFrom_73 : decode cX2_listFrom 73 = .ok (.iaload, 1) := by decide +kernel
theorem dX2_listFrom_74 : decode cX2_listFrom 74 = .ok (.bipush 16, 2) := by decide +kernel
theorem dX2_listFrom_76 : decode cX2_listFrom 76 = .ok (.irem, 1) := by decide +kernel
theorem dX2_listFrom_77 : decode cX2_listFrom 77 = .ok (.invokevirtual 133, 3) := by decide +kernel
theorem dX2_listFrom_80 : decode cX2_listFrom 80 = .ok (.iinc 3 1, 3) := by decide +kernel
theorem dX2_listFrom_83 : decode cX2_listFrom 83 = .ok (.goto (-40), 3) := by decide +kernel
theorem dX2_listFrom_86 : decode cX2_listFrom 86 = .ok (.return_, 1) := by decide +kernel
theorem dX2_addStand_0 : decode cX2_addStand 0 = .ok (.aload_n 0, 1) := by decide +kernel
theorem dX2_addStand_1 : decode cX2_addStand 1 = .ok (.getfield 28, 3) := by decide +kernel
theorem dX2_addStand_4 : decode cX2_addStand 4 = .ok (.iload_n 1, 1) := by decide +kernel
theorem dX2_addStand_5 : decode cX2_addStand 5 = .ok (.baload, 1) := by decide +kernel
theorem dX2_addStand_6 : decode cX2_addStand 6 = .ok (.ifCond .ne 40, 3) := by decide +kernel
theorem dX2_addStand_9 : decode cX2_addStand 9 = .ok (.aload_n 0, 1) := by decide +kernel
theorem dX2_addStand_10 : decode cX2_addStand 10 = .ok (.getfield 56, 3) := by decide +kernel
theorem dX2_addStand_13 : decode cX2_addStand 13 = .ok (.sipush 160, 3) := by decide +kernel
theorem dX2_addStand_16 : decode cX2_addStand 16 = .ok (.if_icmp .ge 30, 3) := by decide +kernel
theorem dX2_addStand_19 : decode cX2_addStand 19 = .ok (.aload_n 0, 1) := by decide +kernel
theorem dX2_addStand_20 : decode cX2_addStand 20 = .ok (.getfield 28, 3) := by decide +kernel
theorem dX2_addStand_23 : decode cX2_addStand 23 = .ok (.iload_n 1, 1) := by decide +kernel
theorem dX2_addStand_24 : decode cX2_addStand 24 = .ok (.iconst 1, 1) := by decide +kernel
theorem dX2_addStand_25 : decode cX2_addStand 25 = .ok (.bastore, 1) := by decide +kernel
theorem dX2_addStand_26 : decode cX2_addStand 26 = .ok (.aload_n 0, 1) := by decide +kernel
theorem dX2_addStand_27 : decode cX2_addStand 27 = .ok (.getfield 25, 3) := by decide +kernel
theorem dX2_addStand_30 : decode cX2_addStand 30 = .ok (.aload_n 0, 1) := by decide +kernel
theorem dX2_addStand_31 : decode cX2_addStand 31 = .ok (.getfield 56, 3) := by decide +kernel
theorem dX2_addStand_34 : decode cX2_addStand 34 = .ok (.iload_n 1, 1) := by decide +kernel
theorem dX2_addStand_35 : decode cX2_addStand 35 = .ok (.iastore, 1) := by decide +kernel
theorem dX2_addStand_36 : decode cX2_addStand 36 = .ok (.aload_n 0, 1) := by decide +kernel
theorem dX2_addStand_37 : decode cX2_addStand 37 = .ok (.dup, 1) := by decide +kernel
theorem dX2_addStand_38 : decode cX2_addStand 38 = .ok (.getfield 56, 3) := by decide +kernel
theorem dX2_addStand_41 : decode cX2_addStand 41 = .ok (.iconst 1, 1) := by decide +kernel
theorem dX2_addStand_42 : decode cX2_addStand 42 = .ok (.iadd, 1) := by decide +kernel
theorem dX2_addStand_43 : decode cX2_addStand 43 = .ok (.putfield 56, 3) := by decide +kernel
theorem dX2_addStand_46 : decode cX2_addStand 46 = .ok (.return_, 1) := by decide +kernel
theorem dX2_listSteps_0 : decode cX2_listSteps 0 = .ok (.iconst 0, 1) := by decide +kernel
theorem dX2_listSteps_1 : decode cX2_listSteps 1 = .ok (.istore_n 3, 1) := by decide +kernel
theorem dX2_listSteps_2 : decode cX2_listSteps 2 = .ok (.iload_n 3, 1) := by decide +kernel
theorem dX2_listSteps_3 : decode cX2_listSteps 3 = .ok (.aload_n 0, 1) := by decide +kernel
theorem dX2_listSteps_4 : decode cX2_listSteps 4 = .ok (.getfield 46, 3) := by decide +kernel
theorem dX2_listSteps_7 : decode cX2_listSteps 7 = .ok (.if_icmp .ge 119, 3) := by decide +kernel
theorem dX2_listSteps_10 : decode cX2_listSteps 10 = .ok (.aload_n 0, 1) := by decide +kernel
theorem dX2_listSteps_11 : decode cX2_listSteps 11 = .ok (.iload_n 1, 1) := by decide +kernel
theorem dX2_listSteps_12 : decode cX2_listSteps 12 = .ok (.iload_n 2, 1) := by decide +kernel
theorem dX2_listSteps_13 : decode cX2_listSteps 13 = .ok (.invokevirtual 103, 3) := by decide +kernel
theorem dX2_listSteps_16 : decode cX2_listSteps 16 = .ok (.ifCond .ne 110, 3) := by decide +kernel
theorem dX2_listSteps_19 : decode cX2_listSteps 19 = .ok (.aload_n 0, 1) := by decide +kernel
theorem dX2_listSteps_20 : decode cX2_listSteps 20 = .ok (.getfield 13, 3) := by decide +kernel
theorem dX2_listSteps_23 : decode cX2_listSteps 23 = .ok (.iload_n 3, 1) := by decide +kernel
theorem dX2_listSteps_24 : decode cX2_listSteps 24 = .ok (.aaload, 1) := by decide +kernel
theorem dX2_listSteps_25 : decode cX2_listSteps 25 = .ok (.astore 4, 2) := by decide +kernel
theorem dX2_listSteps_27 : decode cX2_listSteps 27 = .ok (.aload 4, 2) := by decide +kernel
theorem dX2_listSteps_29 : decode cX2_listSteps 29 = .ok (.iload_n 1, 1) := by decide +kernel
theorem dX2_listSteps_30 : decode cX2_listSteps 30 = .ok (.iload_n 2, 1) := by decide +kernel
theorem dX2_listSteps_31 : decode cX2_listSteps 31 = .ok (.invokevirtual 90, 3) := by decide +kernel
theorem dX2_listSteps_34 : decode cX2_listSteps 34 = .ok (.ifCond .eq 86, 3) := by decide +kernel
theorem dX2_listSteps_37 : decode cX2_listSteps 37 = .ok (.aload_n 0, 1) := by decide +kernel
theorem dX2_listSteps_38 : decode cX2_listSteps 38 = .ok (.getfield 53, 3) := by decide +kernel
theorem dX2_listSteps_41 : decode cX2_listSteps 41 = .ok (.sipush 640, 3) := by decide +kernel
theorem dX2_listSteps_44 : decode cX2_listSteps 44 = .ok (.if_icmp .lt 6, 3) := by decide +kernel
theorem dX2_listSteps_47 : decode cX2_listSteps 47 = .ok (.goto 73, 3) := by decide +kernel
theorem dX2_listSteps_50 : decode cX2_listSteps 50 = .ok (.aload_n 0, 1) := by decide +kernel
theorem dX2_listSteps_51 : decode cX2_listSteps 51 = .ok (.getfield 32, 3) := by decide +kernel
theorem dX2_listSteps_54 : decode cX2_listSteps 54 = .ok (.aload_n 0, 1) := by decide +kernel
theorem dX2_listSteps_55 : decode cX2_listSteps 55 = .ok (.getfield 53, 3) := by decide +kernel
theorem dX2_listSteps_58 : decode cX2_listSteps 58 = .ok (.iload_n 3, 1) := by decide +kernel
theorem dX2_listSteps_59 : decode cX2_listSteps 59 = .ok (.iastore, 1) := by decide +kernel
theorem dX2_listSteps_60 : decode cX2_listSteps 60 = .ok (.aload_n 0, 1) := by decide +kernel
theorem dX2_listSteps_61 : decode cX2_listSteps 61 = .ok (.getfield 35, 3) := by decide +kernel
theorem dX2_listSteps_64 : decode cX2_listSteps 64 = .ok (.aload_n 0, 1) := by decide +kernel
theorem dX2_listSteps_65 : decode cX2_listSteps 65 = .ok (.getfield 53, 3) := by decide +kernel
theorem dX2_listSteps_68 : decode cX2_listSteps 68 = .ok (.iload_n 2, 1) := by decide +kernel
theorem dX2_listSteps_69 : decode cX2_listSteps 69 = .ok (.iastore, 1) := by decide +kernel
theorem dX2_listSteps_70 : decode cX2_listSteps 70 = .ok (.aload_n 0, 1) := by decide +kernel
theorem dX2_listSteps_71 : decode cX2_listSteps 71 = .ok (.dup, 1) := by decide +kernel
theorem dX2_listSteps_72 : decode cX2_listSteps 72 = .ok (.getfield 53, 3) := by decide +kernel
theorem dX2_listSteps_75 : decode cX2_listSteps 75 = .ok (.iconst 1, 1) := by decide +kernel
theorem dX2_listSteps_76 : decode cX2_listSteps 76 = .ok (.iadd, 1) := by decide +kernel
theorem dX2_listSteps_77 : decode cX2_listSteps 77 = .ok (.putfield 53, 3) := by decide +kernel
theorem dX2_listSteps_80 : decode cX2_listSteps 80 = .ok (.aload_n 0, 1) := by decide +kernel
theorem dX2_listSteps_81 : decode cX2_listSteps 81 = .ok (.aload 4, 2) := by decide +kernel
theorem dX2_listSteps_83 : decode cX2_listSteps 83 = .ok (.getfield 94, 3) := by decide +kernel
theorem dX2_listSteps_86 : decode cX2_listSteps 86 = .ok (.iload_n 2, 1) := by decide +kernel
theorem dX2_listSteps_87 : decode cX2_listSteps 87 = .ok (.aload 4, 2) := by decide +kernel
theorem dX2_listSteps_89 : decode cX2_listSteps 89 = .ok (.getfield 97, 3) := by decide +kernel
theorem dX2_listSteps_92 : decode cX2_listSteps 92 = .ok (.ior, 1) := by decide +kernel
theorem dX2_listSteps_93 : decode cX2_listSteps 93 = .ok (.invokestatic 86, 3) := by decide +kernel
theorem dX2_listSteps_96 : decode cX2_listSteps 96 = .ok (.invokevirtual 127, 3) := by decide +kernel
theorem dX2_listSteps_99 : decode cX2_listSteps 99 = .ok (.aload 4, 2) := by decide +kernel
theorem dX2_listSteps_101 : decode cX2_listSteps 101 = .ok (.invokevirtual 71, 3) := by decide +kernel
theorem dX2_listSteps_104 : decode cX2_listSteps 104 = .ok (.ifCond .ne 16, 3) := by decide +kernel
theorem dX2_listSteps_107 : decode cX2_listSteps 107 = .ok (.aload_n 0, 1) := by decide +kernel
theorem dX2_listSteps_108 : decode cX2_listSteps 108 = .ok (.aload 4, 2) := by decide +kernel
theorem dX2_listSteps_110 : decode cX2_listSteps 110 = .ok (.getfield 137, 3) := by decide +kernel
theorem dX2_listSteps_113 : decode cX2_listSteps 113 = .ok (.iload_n 2, 1) := by decide +kernel
theorem dX2_listSteps_114 : decode cX2_listSteps 114 = .ok (.invokestatic 86, 3) := by decide +kernel
theorem dX2_listSteps_117 : decode cX2_listSteps 117 = .ok (.invokevirtual 127, 3) := by decide +kernel
theorem dX2_listSteps_120 : decode cX2_listSteps 120 = .ok (.iinc 3 1, 3) := by decide +kernel
theorem dX2_listSteps_123 : decode cX2_listSteps 123 = .ok (.goto (-121), 3) := by decide +kernel
theorem dX2_listSteps_126 : decode cX2_listSteps 126 = .ok (.return_, 1) := by decide +kernel
theorem dX2_fillLevels_0 : decode cX2_fillLevels 0 = .ok (.aload_n 0, 1) := by decide +kernel
theorem dX2_fillLevels_1 : decode cX2_fillLevels 1 = .ok (.getfield 124, 3) := by decide +kernel
theorem dX2_fillLevels_4 : decode cX2_fillLevels 4 = .ok (.istore_n 2, 1) := by decide +kernel
theorem dX2_fillLevels_5 : decode cX2_fillLevels 5 = .ok (.iload_n 2, 1) := by decide +kernel
theorem dX2_fillLevels_6 : decode cX2_fillLevels 6 = .ok (.iload_n 1, 1) := by decide +kernel
theorem dX2_fillLevels_7 : decode cX2_fillLevels 7 = .ok (.if_icmp .gt 33, 3) := by decide +kernel
theorem dX2_fillLevels_10 : decode cX2_fillLevels 10 = .ok (.iload_n 2, 1) := by decide +kernel
theorem dX2_fillLevels_11 : decode cX2_fillLevels 11 = .ok (.sipush 300, 3) := by decide +kernel
theorem dX2_fillLevels_14 : decode cX2_fillLevels 14 = .ok (.if_icmp .gt 26, 3) := by decide +kernel
theorem dX2_fillLevels_17 : decode cX2_fillLevels 17 = .ok (.aload_n 0, 1) := by decide +kernel
theorem dX2_fillLevels_18 : decode cX2_fillLevels 18 = .ok (.iload_n 2, 1) := by decide +kernel
theorem dX2_fillLevels_19 : decode cX2_fillLevels 19 = .ok (.invokevirtual 140, 3) := by decide +kernel
theorem dX2_fillLevels_22 : decode cX2_fillLevels 22 = .ok (.aload_n 0, 1) := by decide +kernel
theorem dX2_fillLevels_23 : decode cX2_fillLevels 23 = .ok (.iload_n 2, 1) := by decide +kernel
theorem dX2_fillLevels_24 : decode cX2_fillLevels 24 = .ok (.invokevirtual 143, 3) := by decide +kernel
theorem dX2_fillLevels_27 : decode cX2_fillLevels 27 = .ok (.aload_n 0, 1) := by decide +kernel
theorem dX2_fillLevels_28 : decode cX2_fillLevels 28 = .ok (.iload_n 2, 1) := by decide +kernel
theorem dX2_fillLevels_29 : decode cX2_fillLevels 29 = .ok (.iconst 1, 1) := by decide +kernel
theorem dX2_fillLevels_30 : decode cX2_fillLevels 30 = .ok (.iadd, 1) := by decide +kernel
theorem dX2_fillLevels_31 : decode cX2_fillLevels 31 = .ok (.putfield 124, 3) := by decide +kernel
theorem dX2_fillLevels_34 : decode cX2_fillLevels 34 = .ok (.iinc 2 1, 3) := by decide +kernel
theorem dX2_fillLevels_37 : decode cX2_fillLevels 37 = .ok (.goto (-32), 3) := by decide +kernel
theorem dX2_fillLevels_40 : decode cX2_fillLevels 40 = .ok (.return_, 1) := by decide +kernel
theorem dX2_fillWithoutRoads_0 : decode cX2_fillWithoutRoads 0 = .ok (.aload_n 0, 1) := by decide +kernel
theorem dX2_fillWithoutRoads_1 : decode cX2_fillWithoutRoads 1 = .ok (.getfield 130, 3) := by decide +kernel
theorem dX2_fillWithoutRoads_4 : decode cX2_fillWithoutRoads 4 = .ok (.ifCond .le 21, 3) := by decide +kernel
theorem dX2_fillWithoutRoads_7 : decode cX2_fillWithoutRoads 7 = .ok (.aload_n 0, 1) := by decide +kernel
theorem dX2_fillWithoutRoads_8 : decode cX2_fillWithoutRoads 8 = .ok (.iconst 0, 1) := by decide +kernel
theorem dX2_fillWithoutRoads_9 : decode cX2_fillWithoutRoads 9 = .ok (.iconst 0, 1) := by decide +kernel
theorem dX2_fillWithoutRoads_10 : decode cX2_fillWithoutRoads 10 = .ok (.invokestatic 86, 3) := by decide +kernel
theorem dX2_fillWithoutRoads_13 : decode cX2_fillWithoutRoads 13 = .ok (.iload_n 1, 1) := by decide +kernel
theorem dX2_fillWithoutRoads_14 : decode cX2_fillWithoutRoads 14 = .ok (.aload_n 0, 1) := by decide +kernel
theorem dX2_fillWithoutRoads_15 : decode cX2_fillWithoutRoads 15 = .ok (.getfield 130, 3) := by decide +kernel
theorem dX2_fillWithoutRoads_18 : decode cX2_fillWithoutRoads 18 = .ok (.isub, 1) := by decide +kernel
theorem dX2_fillWithoutRoads_19 : decode cX2_fillWithoutRoads 19 = .ok (.invokevirtual 113, 3) := by decide +kernel
theorem dX2_fillWithoutRoads_22 : decode cX2_fillWithoutRoads 22 = .ok (.goto 4, 3) := by decide +kernel
theorem dX2_fillWithoutRoads_25 : decode cX2_fillWithoutRoads 25 = .ok (.iconst 0, 1) := by decide +kernel
theorem dX2_fillWithoutRoads_26 : decode cX2_fillWithoutRoads 26 = .ok (.istore_n 2, 1) := by decide +kernel
theorem dX2_fillWithoutRoads_27 : decode cX2_fillWithoutRoads 27 = .ok (.iconst 0, 1) := by decide +kernel
theorem dX2_fillWithoutRoads_28 : decode cX2_fillWithoutRoads 28 = .ok (.istore_n 3, 1) := by decide +kernel
theorem dX2_fillWithoutRoads_29 : decode cX2_fillWithoutRoads 29 = .ok (.iload_n 3, 1) := by decide +kernel
theorem dX2_fillWithoutRoads_30 : decode cX2_fillWithoutRoads 30 = .ok (.aload_n 0, 1) := by decide +kernel
theorem dX2_fillWithoutRoads_31 : decode cX2_fillWithoutRoads 31 = .ok (.getfield 56, 3) := by decide +kernel
theorem dX2_fillWithoutRoads_34 : decode cX2_fillWithoutRoads 34 = .ok (.if_icmp .ge 57, 3) := by decide +kernel
theorem dX2_fillWithoutRoads_37 : decode cX2_fillWithoutRoads 37 = .ok (.aload_n 0, 1) := by decide +kernel
theorem dX2_fillWithoutRoads_38 : decode cX2_fillWithoutRoads 38 = .ok (.getfield 25, 3) := by decide +kernel
theorem dX2_fillWithoutRoads_41 : decode cX2_fillWithoutRoads 41 = .ok (.iload_n 3, 1) := by decide +kernel
theorem dX2_fillWithoutRoads_42 : decode cX2_fillWithoutRoads 42 = .ok (.iaload, 1) := by decide +kernel
theorem dX2_fillWithoutRoads_43 : decode cX2_fillWithoutRoads 43 = .ok (.istore 4, 2) := by decide +kernel
theorem dX2_fillWithoutRoads_45 : decode cX2_fillWithoutRoads 45 = .ok (.aload_n 0, 1) := by decide +kernel
theorem dX2_fillWithoutRoads_46 : decode cX2_fillWithoutRoads 46 = .ok (.iload 4, 2) := by decide +kernel
theorem dX2_fillWithoutRoads_48 : decode cX2_fillWithoutRoads 48 = .ok (.bipush 16, 2) := by decide +kernel
theorem dX2_fillWithoutRoads_50 : decode cX2_fillWithoutRoads 50 = .ok (.idiv, 1) := by decide +kernel
theorem dX2_fillWithoutRoads_51 : decode cX2_fillWithoutRoads 51 = .ok (.iload 4, 2) := by decide +kernel
theorem dX2_fillWithoutRoads_53 : decode cX2_fillWithoutRoads 53 = .ok (.bipush 16, 2) := by decide +kernel
theorem dX2_fillWithoutRoads_55 : decode cX2_fillWithoutRoads 55 = .ok (.irem, 1) := by decide +kernel
theorem dX2_fillWithoutRoads_56 : decode cX2_fillWithoutRoads 56 = .ok (.invokevirtual 103, 3) := by decide +kernel
theorem dX2_fillWithoutRoads_59 : decode cX2_fillWithoutRoads 59 = .ok (.istore 5, 2) := by decide +kernel
theorem dX2_fillWithoutRoads_61 : decode cX2_fillWithoutRoads 61 = .ok (.aload_n 0, 1) := by decide +kernel
theorem dX2_fillWithoutRoads_62 : decode cX2_fillWithoutRoads 62 = .ok (.getfield 22, 3) := by decide +kernel
theorem dX2_fillWithoutRoads_65 : decode cX2_fillWithoutRoads 65 = .ok (.iload_n 1, 1) := by decide +kernel
theorem dX2_fillWithoutRoads_66 : decode cX2_fillWithoutRoads 66 = .ok (.sipush 160, 3) := by decide +kernel
theorem dX2_fillWithoutRoads_69 : decode cX2_fillWithoutRoads 69 = .ok (.imul, 1) := by decide +kernel
theorem dX2_fillWithoutRoads_70 : decode cX2_fillWithoutRoads 70 = .ok (.iload 4, 2) := by decide +kernel
theorem dX2_fillWithoutRoads_72 : decode cX2_fillWithoutRoads 72 = .ok (.iadd, 1) := by decide +kernel
theorem dX2_fillWithoutRoads_73 : decode cX2_fillWithoutRoads 73 = .ok (.iload 5, 2) := by decide +kernel
theorem dX2_fillWithoutRoads_75 : decode cX2_fillWithoutRoads 75 = .ok (.ifCond .eq 8, 3) := by decide +kernel
theorem dX2_fillWithoutRoads_78 : decode cX2_fillWithoutRoads 78 = .ok (.ldc 146, 2) := by decide +kernel
theorem dX2_fillWithoutRoads_80 : decode cX2_fillWithoutRoads 80 = .ok (.goto 4, 3) := by decide +kernel
theorem dX2_fillWithoutRoads_83 : decode cX2_fillWithoutRoads 83 = .ok (.iload_n 2, 1) := by decide +kernel
theorem dX2_fillWithoutRoads_84 : decode cX2_fillWithoutRoads 84 = .ok (.iastore, 1) := by decide +kernel
theorem dX2_fillWithoutRoads_85 : decode cX2_fillWithoutRoads 85 = .ok (.iinc 3 1, 3) := by decide +kernel
theorem dX2_fillWithoutRoads_88 : decode cX2_fillWithoutRoads 88 = .ok (.goto (-59), 3) := by decide +kernel
theorem dX2_fillWithoutRoads_91 : decode cX2_fillWithoutRoads 91 = .ok (.return_, 1) := by decide +kernel
theorem dX2_raiseByRoads_0 : decode cX2_raiseByRoads 0 = .ok (.iconst 0, 1) := by decide +kernel
theorem dX2_raiseByRoads_1 : decode cX2_raiseByRoads 1 = .ok (.istore_n 2, 1) := by decide +kernel
theorem dX2_raiseByRoads_2 : decode cX2_raiseByRoads 2 = .ok (.iload_n 2, 1) := by decide +kernel
theorem dX2_raiseByRoads_3 : decode cX2_raiseByRoads 3 = .ok (.aload_n 0, 1) := by decide +kernel
theorem dX2_raiseByRoads_4 : decode cX2_raiseByRoads 4 = .ok (.getfield 53, 3) := by decide +kernel
theorem dX2_raiseByRoads_7 : decode cX2_raiseByRoads 7 = .ok (.if_icmp .ge 71, 3) := by decide +kernel
theorem dX2_raiseByRoads_10 : decode cX2_raiseByRoads 10 = .ok (.aload_n 0, 1) := by decide +kernel
theorem dX2_raiseByRoads_11 : decode cX2_raiseByRoads 11 = .ok (.getfield 13, 3) := by decide +kernel
theorem dX2_raiseByRoads_14 : decode cX2_raiseByRoads 14 = .ok (.aload_n 0, 1) := by decide +kernel
theorem dX2_raiseByRoads_15 : decode cX2_raiseByRoads 15 = .ok (.getfield 32, 3) := by decide +kernel
theorem dX2_raiseByRoads_18 : decode cX2_raiseByRoads 18 = .ok (.iload_n 2, 1) := by decide +kernel
theorem dX2_raiseByRoads_19 : decode cX2_raiseByRoads 19 = .ok (.iaload, 1) := by decide +kernel
theorem dX2_raiseByRoads_20 : decode cX2_raiseByRoads 20 = .ok (.aaload, 1) := by decide +kernel
theorem dX2_raiseByRoads_21 : decode cX2_raiseByRoads 21 = .ok (.astore_n 3, 1) := by decide +kernel
theorem dX2_raiseByRoads_22 : decode cX2_raiseByRoads 22 = .ok (.iload_n 1, 1) := by decide +kernel
theorem dX2_raiseByRoads_23 : decode cX2_raiseByRoads 23 = .ok (.sipush 160, 3) := by decide +kernel
theorem dX2_raiseByRoads_26 : decode cX2_raiseByRoads 26 = .ok (.imul, 1) := by decide +kernel
theorem dX2_raiseByRoads_27 : decode cX2_raiseByRoads 27 = .ok (.aload_n 3, 1) := by decide +kernel
theorem dX2_raiseByRoads_28 : decode cX2_raiseByRoads 28 = .ok (.getfield 83, 3) := by decide +kernel
theorem dX2_raiseByRoads_31 : decode cX2_raiseByRoads 31 = .ok (.aload_n 0, 1) := by decide +kernel
theorem dX2_raiseByRoads_32 : decode cX2_raiseByRoads 32 = .ok (.getfield 35, 3) := by decide +kernel
theorem dX2_raiseByRoads_35 : decode cX2_raiseByRoads 35 = .ok (.iload_n 2, 1) := by decide +kernel
theorem dX2_raiseByRoads_36 : decode cX2_raiseByRoads 36 = .ok (.iaload, 1) := by decide +kernel
theorem dX2_raiseByRoads_37 : decode cX2_raiseByRoads 37 = .ok (.invokestatic 86, 3) := by decide +kernel
theorem dX2_raiseByRoads_40 : decode cX2_raiseByRoads 40 = .ok (.iadd, 1) := by decide +kernel
theorem dX2_raiseByRoads_41 : decode cX2_raiseByRoads 41 = .ok (.istore 4, 2) := by decide +kernel
theorem dX2_raiseByRoads_43 : decode cX2_raiseByRoads 43 = .ok (.aload_n 0, 1) := by decide +kernel
theorem dX2_raiseByRoads_44 : decode cX2_raiseByRoads 44 = .ok (.getfield 22, 3) := by decide +kernel
theorem dX2_raiseByRoads_47 : decode cX2_raiseByRoads 47 = .ok (.iload 4, 2) := by decide +kernel
theorem dX2_raiseByRoads_49 : decode cX2_raiseByRoads 49 = .ok (.aload_n 0, 1) := by decide +kernel
theorem dX2_raiseByRoads_50 : decode cX2_raiseByRoads 50 = .ok (.getfield 22, 3) := by decide +kernel
theorem dX2_raiseByRoads_53 : decode cX2_raiseByRoads 53 = .ok (.iload 4, 2) := by decide +kernel
theorem dX2_raiseByRoads_55 : decode cX2_raiseByRoads 55 = .ok (.iaload, 1) := by decide +kernel
theorem dX2_raiseByRoads_56 : decode cX2_raiseByRoads 56 = .ok (.aload_n 0, 1) := by decide +kernel
theorem dX2_raiseByRoads_57 : decode cX2_raiseByRoads 57 = .ok (.aload_n 3, 1) := by decide +kernel
theorem dX2_raiseByRoads_58 : decode cX2_raiseByRoads 58 = .ok (.aload_n 0, 1) := by decide +kernel
theorem dX2_raiseByRoads_59 : decode cX2_raiseByRoads 59 = .ok (.getfield 35, 3) := by decide +kernel
theorem dX2_raiseByRoads_62 : decode cX2_raiseByRoads 62 = .ok (.iload_n 2, 1) := by decide +kernel
theorem dX2_raiseByRoads_63 : decode cX2_raiseByRoads 63 = .ok (.iaload, 1) := by decide +kernel
theorem dX2_raiseByRoads_64 : decode cX2_raiseByRoads 64 = .ok (.iload_n 1, 1) := by decide +kernel
theorem dX2_raiseByRoads_65 : decode cX2_raiseByRoads 65 = .ok (.invokevirtual 120, 3) := by decide +kernel
theorem dX2_raiseByRoads_68 : decode cX2_raiseByRoads 68 = .ok (.invokestatic 147, 3) := by decide +kernel
theorem dX2_raiseByRoads_71 : decode cX2_raiseByRoads 71 = .ok (.iastore, 1) := by decide +kernel
theorem dX2_raiseByRoads_72 : decode cX2_raiseByRoads 72 = .ok (.iinc 2 1, 3) := by decide +kernel
theorem dX2_raiseByRoads_75 : decode cX2_raiseByRoads 75 = .ok (.goto (-73), 3) := by decide +kernel
theorem dX2_raiseByRoads_78 : decode cX2_raiseByRoads 78 = .ok (.return_, 1) := by decide +kernel
theorem dX2_worth_0 : decode cX2_worth 0 = .ok (.aload_n 0, 1) := by decide +kernel
theorem dX2_worth_1 : decode cX2_worth 1 = .ok (.aload_n 1, 1) := by decide +kernel
theorem dX2_worth_2 : decode cX2_worth 2 = .ok (.getfield 94, 3) := by decide +kernel
theorem dX2_worth_5 : decode cX2_worth 5 = .ok (.iload_n 2, 1) := by decide +kernel
theorem dX2_worth_6 : decode cX2_worth 6 = .ok (.aload_n 1, 1) := by decide +kernel
theorem dX2_worth_7 : decode cX2_worth 7 = .ok (.getfield 97, 3) := by decide +kernel
theorem dX2_worth_10 : decode cX2_worth 10 = .ok (.ior, 1) := by decide +kernel
theorem dX2_worth_11 : decode cX2_worth 11 = .ok (.invokestatic 86, 3) := by decide +kernel
theorem dX2_worth_14 : decode cX2_worth 14 = .ok (.iload_n 3, 1) := by decide +kernel
theorem dX2_worth_15 : decode cX2_worth 15 = .ok (.aload_n 1, 1) := by decide +kernel
theorem dX2_worth_16 : decode cX2_worth 16 = .ok (.getfield 100, 3) := by decide +kernel
theorem dX2_worth_19 : decode cX2_worth 19 = .ok (.isub, 1) := by decide +kernel
theorem dX2_worth_20 : decode cX2_worth 20 = .ok (.invokevirtual 113, 3) := by decide +kernel
theorem dX2_worth_23 : decode cX2_worth 23 = .ok (.istore 4, 2) := by decide +kernel
theorem dX2_worth_25 : decode cX2_worth 25 = .ok (.aload_n 1, 1) := by decide +kernel
theorem dX2_worth_26 : decode cX2_worth 26 = .ok (.invokevirtual 71, 3) := by decide +kernel
theorem dX2_worth_29 : decode cX2_worth 29 = .ok (.ifCond .eq 6, 3) := by decide +kernel
theorem dX2_worth_32 : decode cX2_worth 32 = .ok (.iload 4, 2) := by decide +kernel
theorem dX2_worth_34 : decode cX2_worth 34 = .ok (.ireturn, 1) := by decide +kernel
theorem dX2_worth_35 : decode cX2_worth 35 = .ok (.aload_n 0, 1) := by decide +kernel
theorem dX2_worth_36 : decode cX2_worth 36 = .ok (.aload_n 1, 1) := by decide +kernel
theorem dX2_worth_37 : decode cX2_worth 37 = .ok (.getfield 137, 3) := by decide +kernel
theorem dX2_worth_40 : decode cX2_worth 40 = .ok (.iload_n 2, 1) := by decide +kernel
theorem dX2_worth_41 : decode cX2_worth 41 = .ok (.invokestatic 86, 3) := by decide +kernel
theorem dX2_worth_44 : decode cX2_worth 44 = .ok (.iload_n 3, 1) := by decide +kernel
theorem dX2_worth_45 : decode cX2_worth 45 = .ok (.aload_n 1, 1) := by decide +kernel
theorem dX2_worth_46 : decode cX2_worth 46 = .ok (.getfield 152, 3) := by decide +kernel
theorem dX2_worth_49 : decode cX2_worth 49 = .ok (.isub, 1) := by decide +kernel
theorem dX2_worth_50 : decode cX2_worth 50 = .ok (.invokevirtual 113, 3) := by decide +kernel
theorem dX2_worth_53 : decode cX2_worth 53 = .ok (.istore 5, 2) := by decide +kernel
theorem dX2_worth_55 : decode cX2_worth 55 = .ok (.aload_n 1, 1) := by decide +kernel
theorem dX2_worth_56 : decode cX2_worth 56 = .ok (.getfield 155, 3) := by decide +kernel
theorem dX2_worth_59 : decode cX2_worth 59 = .ok (.i2l, 1) := by decide +kernel
theorem dX2_worth_60 : decode cX2_worth 60 = .ok (.iload 4, 2) := by decide +kernel
theorem dX2_worth_62 : decode cX2_worth 62 = .ok (.i2l, 1) := by decide +kernel
theorem dX2_worth_63 : decode cX2_worth 63 = .ok (.lmul, 1) := by decide +kernel
theorem dX2_worth_64 : decode cX2_worth 64 = .ok (.bipush 8, 2) := by decide +kernel
theorem dX2_worth_66 : decode cX2_worth 66 = .ok (.aload_n 1, 1) := by decide +kernel
theorem dX2_worth_67 : decode cX2_worth 67 = .ok (.getfield 155, 3) := by decide +kernel
theorem dX2_worth_70 : decode cX2_worth 70 = .ok (.isub, 1) := by decide +kernel
theorem dX2_worth_71 : decode cX2_worth 71 = .ok (.i2l, 1) := by decide +kernel
theorem dX2_worth_72 : decode cX2_worth 72 = .ok (.iload 5, 2) := by decide +kernel
theorem dX2_worth_74 : decode cX2_worth 74 = .ok (.i2l, 1) := by decide +kernel
theorem dX2_worth_75 : decode cX2_worth 75 = .ok (.lmul, 1) := by decide +kernel
theorem dX2_worth_76 : decode cX2_worth 76 = .ok (.ladd, 1) := by decide +kernel
theorem dX2_worth_77 : decode cX2_worth 77 = .ok (.lstore 6, 2) := by decide +kernel
theorem dX2_worth_79 : decode cX2_worth 79 = .ok (.lload 6, 2) := by decide +kernel
theorem dX2_worth_81 : decode cX2_worth 81 = .ok (.ldc2_w 158, 3) := by decide +kernel
theorem dX2_worth_84 : decode cX2_worth 84 = .ok (.ldiv, 1) := by decide +kernel
theorem dX2_worth_85 : decode cX2_worth 85 = .ok (.l2i, 1) := by decide +kernel
theorem dX2_worth_86 : decode cX2_worth 86 = .ok (.ireturn, 1) := by decide +kernel
theorem dX2_chanceAt_0 : decode cX2_chanceAt 0 = .ok (.iload_n 2, 1) := by decide +kernel
theorem dX2_chanceAt_1 : decode cX2_chanceAt 1 = .ok (.ifCond .lt 25, 3) := by decide +kernel
theorem dX2_chanceAt_4 : decode cX2_chanceAt 4 = .ok (.iload_n 2, 1) := by decide +kernel
theorem dX2_chanceAt_5 : decode cX2_chanceAt 5 = .ok (.sipush 300, 3) := by decide +kernel
theorem dX2_chanceAt_8 : decode cX2_chanceAt 8 = .ok (.if_icmp .gt 18, 3) := by decide +kernel
theorem dX2_chanceAt_11 : decode cX2_chanceAt 11 = .ok (.aload_n 0, 1) := by decide +kernel
theorem dX2_chanceAt_12 : decode cX2_chanceAt 12 = .ok (.getfield 22, 3) := by decide +kernel
theorem dX2_chanceAt_15 : decode cX2_chanceAt 15 = .ok (.iload_n 2, 1) := by decide +kernel
theorem dX2_chanceAt_16 : decode cX2_chanceAt 16 = .ok (.sipush 160, 3) := by decide +kernel
theorem dX2_chanceAt_19 : decode cX2_chanceAt 19 = .ok (.imul, 1) := by decide +kernel
theorem dX2_chanceAt_20 : decode cX2_chanceAt 20 = .ok (.iload_n 1, 1) := by decide +kernel
theorem dX2_chanceAt_21 : decode cX2_chanceAt 21 = .ok (.iadd, 1) := by decide +kernel
theorem dX2_chanceAt_22 : decode cX2_chanceAt 22 = .ok (.iaload, 1) := by decide +kernel
theorem dX2_chanceAt_23 : decode cX2_chanceAt 23 = .ok (.goto 4, 3) := by decide +kernel
theorem dX2_chanceAt_26 : decode cX2_chanceAt 26 = .ok (.iconst 0, 1) := by decide +kernel
theorem dX2_chanceAt_27 : decode cX2_chanceAt 27 = .ok (.ireturn, 1) := by decide +kernel
theorem dX3_init_0 : decode cX3_init 0 = .ok (.aload_n 0, 1) := by decide +kernel
theorem dX3_init_1 : decode cX3_init 1 = .ok (.invokespecial 3, 3) := by decide +kernel
theorem dX3_init_4 : decode cX3_init 4 = .ok (.aload_n 0, 1) := by decide +kernel
theorem dX3_init_5 : decode cX3_init 5 = .ok (.iload_n 1, 1) := by decide +kernel
theorem dX3_init_6 : decode cX3_init 6 = .ok (.iconst 0, 1) := by decide +kernel
theorem dX3_init_7 : decode cX3_init 7 = .ok (.invokestatic 9, 3) := by decide +kernel
theorem dX3_init_10 : decode cX3_init 10 = .ok (.newarray .int, 2) := by decide +kernel
theorem dX3_init_12 : decode cX3_init 12 = .ok (.putfield 15, 3) := by decide +kernel
theorem dX3_init_15 : decode cX3_init 15 = .ok (.return_, 1) := by decide +kernel
theorem dX3_clear_0 : decode cX3_clear 0 = .ok (.aload_n 0, 1) := by decide +kernel
theorem dX3_clear_1 : decode cX3_clear 1 = .ok (.iconst 0, 1) := by decide +kernel
theorem dX3_clear_2 : decode cX3_clear 2 = .ok (.putfield 21, 3) := by decide +kernel
theorem dX3_clear_5 : decode cX3_clear 5 = .ok (.return_, 1) := by decide +kernel
theorem dX3_add_0 : decode cX3_add 0 = .ok (.aload_n 0, 1) := by decide +kernel
theorem dX3_add_1 : decode cX3_add 1 = .ok (.getfield 21, 3) := by decide +kernel
theorem dX3_add_4 : decode cX3_add 4 = .ok (.aload_n 0, 1) := by decide +kernel
theorem dX3_add_5 : decode cX3_add 5 = .ok (.getfield 15, 3) := by decide +kernel
theorem dX3_add_8 : decode cX3_add 8 = .ok (.arraylength, 1) := by decide +kernel
theorem dX3_add_9 : decode cX3_add 9 = .ok (.if_icmp .lt 5, 3) := by decide +kernel
theorem dX3_add_12 : decode cX3_add 12 = .ok (.iconst 0, 1) := by decide +kernel
theorem dX3_add_13 : decode cX3_add 13 = .ok (.ireturn, 1) := by decide +kernel
theorem dX3_add_14 : decode cX3_add 14 = .ok (.aload_n 0, 1) := by decide +kernel
theorem dX3_add_15 : decode cX3_add 15 = .ok (.getfield 15, 3) := by decide +kernel
theorem dX3_add_18 : decode cX3_add 18 = .ok (.aload_n 0, 1) := by decide +kernel
theorem dX3_add_19 : decode cX3_add 19 = .ok (.getfield 21, 3) := by decide +kernel
theorem dX3_add_22 : decode cX3_add 22 = .ok (.iload_n 1, 1) := by decide +kernel
theorem dX3_add_23 : decode cX3_add 23 = .ok (.iastore, 1) := by decide +kernel
theorem dX3_add_24 : decode cX3_add 24 = .ok (.aload_n 0, 1) := by decide +kernel
theorem dX3_add_25 : decode cX3_add 25 = .ok (.dup, 1) := by decide +kernel
theorem dX3_add_26 : decode cX3_add 26 = .ok (.getfield 21, 3) := by decide +kernel
theorem dX3_add_29 : decode cX3_add 29 = .ok (.iconst 1, 1) := by decide +kernel
theorem dX3_add_30 : decode cX3_add 30 = .ok (.iadd, 1) := by decide +kernel
theorem dX3_add_31 : decode cX3_add 31 = .ok (.putfield 21, 3) := by decide +kernel
theorem dX3_add_34 : decode cX3_add 34 = .ok (.iconst 1, 1) := by decide +kernel
theorem dX3_add_35 : decode cX3_add 35 = .ok (.ireturn, 1) := by decide +kernel
theorem dX3_at_0 : decode cX3_at 0 = .ok (.iload_n 1, 1) := by decide +kernel
theorem dX3_at_1 : decode cX3_at 1 = .ok (.ifCond .lt 20, 3) := by decide +kernel
theorem dX3_at_4 : decode cX3_at 4 = .ok (.iload_n 1, 1) := by decide +kernel
theorem dX3_at_5 : decode cX3_at 5 = .ok (.aload_n 0, 1) := by decide +kernel
theorem dX3_at_6 : decode cX3_at 6 = .ok (.getfield 21, 3) := by decide +kernel
theorem dX3_at_9 : decode cX3_at 9 = .ok (.if_icmp .ge 12, 3) := by decide +kernel
theorem dX3_at_12 : decode cX3_at 12 = .ok (.aload_n 0, 1) := by decide +kernel
theorem dX3_at_13 : decode cX3_at 13 = .ok (.getfield 15, 3) := by decide +kernel
theorem dX3_at_16 : decode cX3_at 16 = .ok (.iload_n 1, 1) := by decide +kernel
theorem dX3_at_17 : decode cX3_at 17 = .ok (.iaload, 1) := by decide +kernel
theorem dX3_at_18 : decode cX3_at 18 = .ok (.goto 4, 3) := by decide +kernel
theorem dX3_at_21 : decode cX3_at 21 = .ok (.iconst (-1), 1) := by decide +kernel
theorem dX3_at_22 : decode cX3_at 22 = .ok (.ireturn, 1) := by decide +kernel
theorem dX3_takeFrom_0 : decode cX3_takeFrom 0 = .ok (.aload_n 0, 1) := by decide +kernel
theorem dX3_takeFrom_1 : decode cX3_takeFrom 1 = .ok (.aload_n 1, 1) := by decide +kernel
theorem dX3_takeFrom_2 : decode cX3_takeFrom 2 = .ok (.getfield 21, 3) := by decide +kernel
theorem dX3_takeFrom_5 : decode cX3_takeFrom 5 = .ok (.aload_n 0, 1) := by decide +kernel
theorem dX3_takeFrom_6 : decode cX3_takeFrom 6 = .ok (.getfield 15, 3) := by decide +kernel
theorem dX3_takeFrom_9 : decode cX3_takeFrom 9 = .ok (.arraylength, 1) := by decide +kernel
theorem dX3_takeFrom_10 : decode cX3_takeFrom 10 = .ok (.invokestatic 25, 3) := by decide +kernel
theorem dX3_takeFrom_13 : decode cX3_takeFrom 13 = .ok (.putfield 21, 3) := by decide +kernel
theorem dX3_takeFrom_16 : decode cX3_takeFrom 16 = .ok (.aload_n 1, 1) := by decide +kernel
theorem dX3_takeFrom_17 : decode cX3_takeFrom 17 = .ok (.getfield 15, 3) := by decide +kernel
theorem dX3_takeFrom_20 : decode cX3_takeFrom 20 = .ok (.iconst 0, 1) := by decide +kernel
theorem dX3_takeFrom_21 : decode cX3_takeFrom 21 = .ok (.aload_n 0, 1) := by decide +kernel
theorem dX3_takeFrom_22 : decode cX3_takeFrom 22 = .ok (.getfield 15, 3) := by decide +kernel
theorem dX3_takeFrom_25 : decode cX3_takeFrom 25 = .ok (.iconst 0, 1) := by decide +kernel
theorem dX3_takeFrom_26 : decode cX3_takeFrom 26 = .ok (.aload_n 0, 1) := by decide +kernel
theorem dX3_takeFrom_27 : decode cX3_takeFrom 27 = .ok (.getfield 21, 3) := by decide +kernel
theorem dX3_takeFrom_30 : decode cX3_takeFrom 30 = .ok (.invokestatic 28, 3) := by decide +kernel
theorem dX3_takeFrom_33 : decode cX3_takeFrom 33 = .ok (.return_, 1) := by decide +kernel
theorem dX3_reverse_0 : decode cX3_reverse 0 = .ok (.iconst 0, 1) := by decide +kernel
theorem dX3_reverse_1 : decode cX3_reverse 1 = .ok (.istore_n 1, 1) := by decide +kernel
theorem dX3_reverse_2 : decode cX3_reverse 2 = .ok (.aload_n 0, 1) := by decide +kernel
theorem dX3_reverse_3 : decode cX3_reverse 3 = .ok (.getfield 21, 3) := by decide +kernel
theorem dX3_reverse_6 : decode cX3_reverse 6 = .ok (.iconst 1, 1) := by decide +kernel
theorem dX3_reverse_7 : decode cX3_reverse 7 = .ok (.isub, 1) := by decide +kernel
theorem dX3_reverse_8 : decode cX3_reverse 8 = .ok (.istore_n 2, 1) := by decide +kernel
theorem dX3_reverse_9 : decode cX3_reverse 9 = .ok (.iload_n 1, 1) := by decide +kernel
theorem dX3_reverse_10 : decode cX3_reverse 10 = .ok (.iload_n 2, 1) := by decide +kernel
theorem dX3_reverse_11 : decode cX3_reverse 11 = .ok (.if_icmp .ge 38, 3) := by decide +kernel
theorem dX3_reverse_14 : decode cX3_reverse 14 = .ok (.aload_n 0, 1) := by decide +kernel
theorem dX3_reverse_15 : decode cX3_reverse 15 = .ok (.getfield 15, 3) := by decide +kernel
theorem dX3_reverse_18 : decode cX3_reverse 18 = .ok (.iload_n 1, 1) := by decide +kernel
theorem dX3_reverse_19 : decode cX3_reverse 19 = .ok (.iaload, 1) := by decide +kernel
theorem dX3_reverse_20 : decode cX3_reverse 20 = .ok (.istore_n 3, 1) := by decide +kernel
theorem dX3_reverse_21 : decode cX3_reverse 21 = .ok (.aload_n 0, 1) := by decide +kernel
theorem dX3_reverse_22 : decode cX3_reverse 22 = .ok (.getfield 15, 3) := by decide +kernel
theorem dX3_reverse_25 : decode cX3_reverse 25 = .ok (.iload_n 1, 1) := by decide +kernel
theorem dX3_reverse_26 : decode cX3_reverse 26 = .ok (.aload_n 0, 1) := by decide +kernel
theorem dX3_reverse_27 : decode cX3_reverse 27 = .ok (.getfield 15, 3) := by decide +kernel
theorem dX3_reverse_30 : decode cX3_reverse 30 = .ok (.iload_n 2, 1) := by decide +kernel
theorem dX3_reverse_31 : decode cX3_reverse 31 = .ok (.iaload, 1) := by decide +kernel
theorem dX3_reverse_32 : decode cX3_reverse 32 = .ok (.iastore, 1) := by decide +kernel
theorem dX3_reverse_33 : decode cX3_reverse 33 = .ok (.aload_n 0, 1) := by decide +kernel
theorem dX3_reverse_34 : decode cX3_reverse 34 = .ok (.getfield 15, 3) := by decide +kernel
theorem dX3_reverse_37 : decode cX3_reverse 37 = .ok (.iload_n 2, 1) := by decide +kernel
theorem dX3_reverse_38 : decode cX3_reverse 38 = .ok (.iload_n 3, 1) := by decide +kernel
theorem dX3_reverse_39 : decode cX3_reverse 39 = .ok (.iastore, 1) := by decide +kernel
theorem dX3_reverse_40 : decode cX3_reverse 40 = .ok (.iinc 1 1, 3) := by decide +kernel
theorem dX3_reverse_43 : decode cX3_reverse 43 = .ok (.iinc 2 (-1), 3) := by decide +kernel
theorem dX3_reverse_46 : decode cX3_reverse 46 = .ok (.goto (-37), 3) := by decide +kernel
theorem dX3_reverse_49 : decode cX3_reverse 49 = .ok (.return_, 1) := by decide +kernel
theorem dX3_firstUnlike_0 : decode cX3_firstUnlike 0 = .ok (.aload_n 0, 1) := by decide +kernel
theorem dX3_firstUnlike_1 : decode cX3_firstUnlike 1 = .ok (.getfield 21, 3) := by decide +kernel
theorem dX3_firstUnlike_4 : decode cX3_firstUnlike 4 = .ok (.aload_n 1, 1) := by decide +kernel
theorem dX3_firstUnlike_5 : decode cX3_firstUnlike 5 = .ok (.getfield 21, 3) := by decide +kernel
theorem dX3_firstUnlike_8 : decode cX3_firstUnlike 8 = .ok (.invokestatic 9, 3) := by decide +kernel
theorem dX3_firstUnlike_11 : decode cX3_firstUnlike 11 = .ok (.istore_n 2, 1) := by decide +kernel
theorem dX3_firstUnlike_12 : decode cX3_firstUnlike 12 = .ok (.iconst 0, 1) := by decide +kernel
theorem dX3_firstUnlike_13 : decode cX3_firstUnlike 13 = .ok (.istore_n 3, 1) := by decide +kernel
theorem dX3_firstUnlike_14 : decode cX3_firstUnlike 14 = .ok (.iload_n 3, 1) := by decide +kernel
theorem dX3_firstUnlike_15 : decode cX3_firstUnlike 15 = .ok (.iload_n 2, 1) := by decide +kernel
theorem dX3_firstUnlike_16 : decode cX3_firstUnlike 16 = .ok (.if_icmp .ge 24, 3) := by decide +kernel
theorem dX3_firstUnlike_19 : decode cX3_firstUnlike 19 = .ok (.aload_n 0, 1) := by decide +kernel
theorem dX3_firstUnlike_20 : decode cX3_firstUnlike 20 = .ok (.iload_n 3, 1) := by decide +kernel
theorem dX3_firstUnlike_21 : decode cX3_firstUnlike 21 = .ok (.invokevirtual 34, 3) := by decide +kernel
theorem dX3_firstUnlike_24 : decode cX3_firstUnlike 24 = .ok (.aload_n 1, 1) := by decide +kernel
theorem dX3_firstUnlike_25 : decode cX3_firstUnlike 25 = .ok (.iload_n 3, 1) := by decide +kernel
theorem dX3_firstUnlike_26 : decode cX3_firstUnlike 26 = .ok (.invokevirtual 34, 3) := by decide +kernel
theorem dX3_firstUnlike_29 : decode cX3_firstUnlike 29 = .ok (.if_icmp .eq 5, 3) := by decide +kernel
theorem dX3_firstUnlike_32 : decode cX3_firstUnlike 32 = .ok (.iload_n 3, 1) := by decide +kernel
theorem dX3_firstUnlike_33 : decode cX3_firstUnlike 33 = .ok (.ireturn, 1) := by decide +kernel
theorem dX3_firstUnlike_34 : decode cX3_firstUnlike 34 = .ok (.iinc 3 1, 3) := by decide +kernel
theorem dX3_firstUnlike_37 : decode cX3_firstUnlike 37 = .ok (.goto (-23), 3) := by decide +kernel
theorem dX3_firstUnlike_40 : decode cX3_firstUnlike 40 = .ok (.iconst (-1), 1) := by decide +kernel
theorem dX3_firstUnlike_41 : decode cX3_firstUnlike 41 = .ok (.ireturn, 1) := by decide +kernel
theorem dX4_init_0 : decode cX4_init 0 = .ok (.aload_n 0, 1) := by decide +kernel
theorem dX4_init_1 : decode cX4_init 1 = .ok (.invokespecial 3, 3) := by decide +kernel
theorem dX4_init_4 : decode cX4_init 4 = .ok (.aload_n 0, 1) := by decide +kernel
theorem dX4_init_5 : decode cX4_init 5 = .ok (.new 9, 3) := by decide +kernel
theorem dX4_init_8 : decode cX4_init 8 = .ok (.dup, 1) := by decide +kernel
theorem dX4_init_9 : decode cX4_init 9 = .ok (.sipush 500, 3) := by decide +kernel
theorem dX4_init_12 : decode cX4_init 12 = .ok (.invokespecial 11, 3) := by decide +kernel
theorem dX4_init_15 : decode cX4_init 15 = .ok (.putfield 14, 3) := by decide +kernel
theorem dX4_init_18 : decode cX4_init 18 = .ok (.return_, 1) := by decide +kernel
theorem dX4_restart_0 : decode cX4_restart 0 = .ok (.aload_n 0, 1) := by decide +kernel
theorem dX4_restart_1 : decode cX4_restart 1 = .ok (.getfield 14, 3) := by decide +kernel
theorem dX4_restart_4 : decode cX4_restart 4 = .ok (.invokevirtual 20, 3) := by decide +kernel
theorem dX4_restart_7 : decode cX4_restart 7 = .ok (.aload_n 0, 1) := by decide +kernel
theorem dX4_restart_8 : decode cX4_restart 8 = .ok (.iload_n 1, 1) := by decide +kernel
theorem dX4_restart_9 : decode cX4_restart 9 = .ok (.putfield 23, 3) := by decide +kernel
theorem dX4_restart_12 : decode cX4_restart 12 = .ok (.aload_n 0, 1) := by decide +kernel
theorem dX4_restart_13 : decode cX4_restart 13 = .ok (.iconst 0, 1) := by decide +kernel
theorem dX4_restart_14 : decode cX4_restart 14 = .ok (.putfield 27, 3) := by decide +kernel
theorem dX4_restart_17 : decode cX4_restart 17 = .ok (.return_, 1) := by decide +kernel
theorem dX4_takeFrom_0 : decode cX4_takeFrom 0 = .ok (.aload_n 0, 1) := by decide +kernel
theorem dX4_takeFrom_1 : decode cX4_takeFrom 1 = .ok (.getfield 14, 3) := by decide +kernel
theorem dX4_takeFrom_4 : decode cX4_takeFrom 4 = .ok (.aload_n 1, 1) := by decide +kernel
theorem dX4_takeFrom_5 : decode cX4_takeFrom 5 = .ok (.getfield 14, 3) := by decide +kernel
theorem dX4_takeFrom_8 : decode cX4_takeFrom 8 = .ok (.invokevirtual 30, 3) := by decide +kernel
theorem dX4_takeFrom_11 : decode cX4_takeFrom 11 = .ok (.aload_n 0, 1) := by decide +kernel
theorem dX4_takeFrom_12 : decode cX4_takeFrom 12 = .ok (.aload_n 1, 1) := by decide +kernel
theorem dX4_takeFrom_13 : decode cX4_takeFrom 13 = .ok (.getfield 23, 3) := by decide +kernel
theorem dX4_takeFrom_16 : decode cX4_takeFrom 16 = .ok (.putfield 23, 3) := by decide +kernel
theorem dX4_takeFrom_19 : decode cX4_takeFrom 19 = .ok (.aload_n 0, 1) := by decide +kernel
theorem dX4_takeFrom_20 : decode cX4_takeFrom 20 = .ok (.aload_n 1, 1) := by decide +kernel
theorem dX4_takeFrom_21 : decode cX4_takeFrom 21 = .ok (.getfield 27, 3) := by decide +kernel
theorem dX4_takeFrom_24 : decode cX4_takeFrom 24 = .ok (.putfield 27, 3) := by decide +kernel
theorem dX4_takeFrom_27 : decode cX4_takeFrom 27 = .ok (.return_, 1) := by decide +kernel
theorem dX5_init_0 : decode cX5_init 0 = .ok (.aload_n 0, 1) := by decide +kernel
theorem dX5_init_1 : decode cX5_init 1 = .ok (.invokespecial 5, 3) := by decide +kernel
theorem dX5_init_4 : decode cX5_init 4 = .ok (.aload_n 0, 1) := by decide +kernel
theorem dX5_init_5 : decode cX5_init 5 = .ok (.sipush 3072, 3) := by decide +kernel
theorem dX5_init_8 : decode cX5_init 8 = .ok (.newarray .int, 2) := by decide +kernel
theorem dX5_init_10 : decode cX5_init 10 = .ok (.putfield 13, 3) := by decide +kernel
theorem dX5_init_13 : decode cX5_init 13 = .ok (.aload_n 0, 1) := by decide +kernel
theorem dX5_init_14 : decode cX5_init 14 = .ok (.sipush 3072, 3) := by decide +kernel
theorem dX5_init_17 : decode cX5_init 17 = .ok (.newarray .int, 2) := by decide +kernel
theorem dX5_init_19 : decode cX5_init 19 = .ok (.putfield 17, 3) := by decide +kernel
theorem dX5_init_22 : decode cX5_init 22 = .ok (.aload_n 0, 1) := by decide +kernel
theorem dX5_init_23 : decode cX5_init 23 = .ok (.sipush 3072, 3) := by decide +kernel
theorem dX5_init_26 : decode cX5_init 26 = .ok (.newarray .int, 2) := by decide +kernel
theorem dX5_init_28 : decode cX5_init 28 = .ok (.putfield 20, 3) := by decide +kernel
theorem dX5_init_31 : decode cX5_init 31 = .ok (.aload_n 0, 1) := by decide +kernel
theorem dX5_init_32 : decode cX5_init 32 = .ok (.new 23, 3) := by decide +kernel
theorem dX5_init_35 : decode cX5_init 35 = .ok (.dup, 1) := by decide +kernel
theorem dX5_init_36 : decode cX5_init 36 = .ok (.sipush 3072, 3) := by decide +kernel
theorem dX5_init_39 : decode cX5_init 39 = .ok (.invokespecial 25, 3) := by decide +kernel
theorem dX5_init_42 : decode cX5_init 42 = .ok (.putfield 28, 3) := by decide +kernel
theorem dX5_init_45 : decode cX5_init 45 = .ok (.return_, 1) := by decide +kernel
theorem dX5_find_0 : decode cX5_find 0 = .ok (.aload_n 1, 1) := by decide +kernel
theorem dX5_find_1 : decode cX5_find 1 = .ok (.getfield 32, 3) := by decide +kernel
theorem dX5_find_4 : decode cX5_find 4 = .ok (.iconst 1, 1) := by decide +kernel
theorem dX5_find_5 : decode cX5_find 5 = .ok (.invokestatic 36, 3) := by decide +kernel
theorem dX5_find_8 : decode cX5_find 8 = .ok (.istore 4, 2) := by decide +kernel
theorem dX5_find_10 : decode cX5_find 10 = .ok (.aload_n 0, 1) := by decide +kernel
theorem dX5_find_11 : decode cX5_find 11 = .ok (.getfield 17, 3) := by decide +kernel
theorem dX5_find_14 : decode cX5_find 14 = .ok (.bipush (-2), 2) := by decide +kernel
theorem dX5_find_16 : decode cX5_find 16 = .ok (.invokestatic 42, 3) := by decide +kernel
theorem dX5_find_19 : decode cX5_find 19 = .ok (.aload_n 0, 1) := by decide +kernel
theorem dX5_find_20 : decode cX5_find 20 = .ok (.iconst 0, 1) := by decide +kernel
theorem dX5_find_21 : decode cX5_find 21 = .ok (.putfield 48, 3) := by decide +kernel
theorem dX5_find_24 : decode cX5_find 24 = .ok (.aload_n 0, 1) := by decide +kernel
theorem dX5_find_25 : decode cX5_find 25 = .ok (.iload_n 3, 1) := by decide +kernel
theorem dX5_find_26 : decode cX5_find 26 = .ok (.iload 4, 2) := by decide +kernel
theorem dX5_find_28 : decode cX5_find 28 = .ok (.invokestatic 51, 3) := by decide +kernel
theorem dX5_find_31 : decode cX5_find 31 = .ok (.sipush 512, 3) := by decide +kernel
theorem dX5_find_34 : decode cX5_find 34 = .ok (.imul, 1) := by decide +kernel
theorem dX5_find_35 : decode cX5_find 35 = .ok (.iload_n 2, 1) := by decide +kernel
theorem dX5_find_36 : decode cX5_find 36 = .ok (.iadd, 1) := by decide +kernel
theorem dX5_find_37 : decode cX5_find 37 = .ok (.iconst (-1), 1) := by decide +kernel
theorem dX5_find_38 : decode cX5_find 38 = .ok (.iconst 0, 1) := by decide +kernel
theorem dX5_find_39 : decode cX5_find 39 = .ok (.invokevirtual 54, 3) := by decide +kernel
theorem dX5_find_42 : decode cX5_find 42 = .ok (.iconst 0, 1) := by decide +kernel
theorem dX5_find_43 : decode cX5_find 43 = .ok (.istore 5, 2) := by decide +kernel
theorem dX5_find_45 : decode cX5_find 45 = .ok (.iload 5, 2) := by decide +kernel
theorem dX5_find_47 : decode cX5_find 47 = .ok (.aload_n 0, 1) := by decide +kernel
theorem dX5_find_48 : decode cX5_find 48 = .ok (.getfield 48, 3) := by decide +kernel
theorem dX5_find_51 : decode cX5_find 51 = .ok (.if_icmp .ge 54, 3) := by decide +kernel
theorem dX5_find_54 : decode cX5_find 54 = .ok (.iload 5, 2) := by decide +kernel
theorem dX5_find_56 : decode cX5_find 56 = .ok (.sipush 3072, 3) := by decide +kernel
theorem dX5_find_59 : decode cX5_find 59 = .ok (.if_icmp .ge 46, 3) := by decide +kernel
theorem dX5_find_62 : decode cX5_find 62 = .ok (.aload_n 0, 1) := by decide +kernel
theorem dX5_find_63 : decode cX5_find 63 = .ok (.aload_n 1, 1) := by decide +kernel
theorem dX5_find_64 : decode cX5_find 64 = .ok (.aload_n 0, 1) := by decide +kernel
theorem dX5_find_65 : decode cX5_find 65 = .ok (.getfield 13, 3) := by decide +kernel
theorem dX5_find_68 : decode cX5_find 68 = .ok (.iload 5, 2) := by decide +kernel
theorem dX5_find_70 : decode cX5_find 70 = .ok (.iaload, 1) := by decide +kernel
theorem dX5_find_71 : decode cX5_find 71 = .ok (.iload 4, 2) := by decide +kernel
theorem dX5_find_73 : decode cX5_find 73 = .ok (.invokevirtual 58, 3) := by decide +kernel
theorem dX5_find_76 : decode cX5_find 76 = .ok (.istore 6, 2) := by decide +kernel
theorem dX5_find_78 : decode cX5_find 78 = .ok (.iload 6, 2) := by decide +kernel
theorem dX5_find_80 : decode cX5_find 80 = .ok (.iconst (-1), 1) := by decide +kernel
theorem dX5_find_81 : decode cX5_find 81 = .ok (.if_icmp .eq 18, 3) := by decide +kernel
theorem dX5_find_84 : decode cX5_find 84 = .ok (.aload_n 0, 1) := by decide +kernel
theorem dX5_find_85 : decode cX5_find 85 = .ok (.aload_n 0, 1) := by decide +kernel
theorem dX5_find_86 : decode cX5_find 86 = .ok (.getfield 13, 3) := by decide +kernel
theorem dX5_find_89 : decode cX5_find 89 = .ok (.iload 5, 2) := by decide +kernel
theorem dX5_find_91 : decode cX5_find 91 = .ok (.iaload, 1) := by decide +kernel
theorem dX5_find_92 : decode cX5_find 92 = .ok (.iload 6, 2) := by decide +kernel
theorem dX5_find_94 : decode cX5_find 94 = .ok (.invokevirtual 62, 3) := by decide +kernel
theorem dX5_find_97 : decode cX5_find 97 = .ok (.iconst 1, 1) := by decide +kernel
theorem dX5_find_98 : decode cX5_find 98 = .ok (.ireturn, 1) := by decide +kernel
theorem dX5_find_99 : decode cX5_find 99 = .ok (.iinc 5 1, 3) := by decide +kernel
theorem dX5_find_102 : decode cX5_find 102 = .ok (.goto (-57), 3) := by decide +kernel
theorem dX5_find_105 : decode cX5_find 105 = .ok (.iconst 0, 1) := by decide +kernel
theorem dX5_find_106 : decode cX5_find 106 = .ok (.ireturn, 1) := by decide +kernel
theorem dX5_pressesFrom_0 : decode cX5_pressesFrom 0 = .ok (.iload_n 2, 1) := by decide +kernel
theorem dX5_pressesFrom_1 : decode cX5_pressesFrom 1 = .ok (.sipush 512, 3) := by decide +kernel
theorem dX5_pressesFrom_4 : decode cX5_pressesFrom 4 = .ok (.idiv, 1) := by decide +kernel
theorem dX5_pressesFrom_5 : decode cX5_pressesFrom 5 = .ok (.istore 4, 2) := by decide +kernel
theorem dX5_pressesFrom_7 : decode cX5_pressesFrom 7 = .ok (.iload 4, 2) := by decide +kernel
theorem dX5_pressesFrom_9 : decode cX5_pressesFrom 9 = .ok (.iconst 1, 1) := by decide +kernel
theorem dX5_pressesFrom_10 : decode cX5_pressesFrom 10 = .ok (.iadd, 1) := by decide +kernel
theorem dX5_pressesFrom_11 : decode cX5_pressesFrom 11 = .ok (.iload_n 3, 1) := by decide +kernel
theorem dX5_pressesFrom_12 : decode cX5_pressesFrom 12 = .ok (.if_icmp .ge 10, 3) := by decide +kernel
theorem dX5_pressesFrom_15 : decode cX5_pressesFrom 15 = .ok (.iload 4, 2) := by decide +kernel
theorem dX5_pressesFrom_17 : decode cX5_pressesFrom 17 = .ok (.iconst 1, 1) := by decide +kernel
theorem dX5_pressesFrom_18 : decode cX5_pressesFrom 18 = .ok (.iadd, 1) := by decide +kernel
theorem dX5_pressesFrom_19 : decode cX5_pressesFrom 19 = .ok (.goto 4, 3) := by decide +kernel
theorem dX5_pressesFrom_22 : decode cX5_pressesFrom 22 = .ok (.iconst 0, 1) := by decide +kernel
theorem dX5_pressesFrom_23 : decode cX5_pressesFrom 23 = .ok (.istore 5, 2) := by decide +kernel
theorem dX5_pressesFrom_25 : decode cX5_pressesFrom 25 = .ok (.iconst 0, 1) := by decide +kernel
theorem dX5_pressesFrom_26 : decode cX5_pressesFrom 26 = .ok (.istore 6, 2) := by decide +kernel
theorem dX5_pressesFrom_28 : decode cX5_pressesFrom 28 = .ok (.iload 6, 2) := by decide +kernel
theorem dX5_pressesFrom_30 : decode cX5_pressesFrom 30 = .ok (.iconst 5, 1) := by decide +kernel
theorem dX5_pressesFrom_31 : decode cX5_pressesFrom 31 = .ok (.if_icmp .ge 64, 3) := by decide +kernel
theorem dX5_pressesFrom_34 : decode cX5_pressesFrom 34 = .ok (.aload_n 1, 1) := by decide +kernel
theorem dX5_pressesFrom_35 : decode cX5_pressesFrom 35 = .ok (.iload_n 2, 1) := by decide +kernel
theorem dX5_pressesFrom_36 : decode cX5_pressesFrom 36 = .ok (.sipush 512, 3) := by decide +kernel
theorem dX5_pressesFrom_39 : decode cX5_pressesFrom 39 = .ok (.irem, 1) := by decide +kernel
theorem dX5_pressesFrom_40 : decode cX5_pressesFrom 40 = .ok (.iload 4, 2) := by decide +kernel
theorem dX5_pressesFrom_42 : decode cX5_pressesFrom 42 = .ok (.iload 6, 2) := by decide +kernel
theorem dX5_pressesFrom_44 : decode cX5_pressesFrom 44 = .ok (.invokevirtual 66, 3) := by decide +kernel
theorem dX5_pressesFrom_47 : decode cX5_pressesFrom 47 = .ok (.istore 7, 2) := by decide +kernel
theorem dX5_pressesFrom_49 : decode cX5_pressesFrom 49 = .ok (.iload 7, 2) := by decide +kernel
theorem dX5_pressesFrom_51 : decode cX5_pressesFrom 51 = .ok (.invokestatic 70, 3) := by decide +kernel
theorem dX5_pressesFrom_54 : decode cX5_pressesFrom 54 = .ok (.istore 8, 2) := by decide +kernel
theorem dX5_pressesFrom_56 : decode cX5_pressesFrom 56 = .ok (.iload 8, 2) := by decide +kernel
theorem dX5_pressesFrom_58 : decode cX5_pressesFrom 58 = .ok (.iconst 2, 1) := by decide +kernel
theorem dX5_pressesFrom_59 : decode cX5_pressesFrom 59 = .ok (.if_icmp .ne 6, 3) := by decide +kernel
theorem dX5_pressesFrom_62 : decode cX5_pressesFrom 62 = .ok (.iload 6, 2) := by decide +kernel
theorem dX5_pressesFrom_64 : decode cX5_pressesFrom 64 = .ok (.ireturn, 1) := by decide +kernel
theorem dX5_pressesFrom_65 : decode cX5_pressesFrom 65 = .ok (.iload 8, 2) := by decide +kernel
theorem dX5_pressesFrom_67 : decode cX5_pressesFrom 67 = .ok (.ifCond .ne 22, 3) := by decide +kernel
theorem dX5_pressesFrom_70 : decode cX5_pressesFrom 70 = .ok (.aload_n 0, 1) := by decide +kernel
theorem dX5_pressesFrom_71 : decode cX5_pressesFrom 71 = .ok (.iload 5, 2) := by decide +kernel
theorem dX5_pressesFrom_73 : decode cX5_pressesFrom 73 = .ok (.sipush 512, 3) := by decide +kernel
theorem dX5_pressesFrom_76 : decode cX5_pressesFrom 76 = .ok (.imul, 1) := by decide +kernel
theorem dX5_pressesFrom_77 : decode cX5_pressesFrom 77 = .ok (.iload 7, 2) := by decide +kernel
theorem dX5_pressesFrom_79 : decode cX5_pressesFrom 79 = .ok (.invokestatic 74, 3) := by decide +kernel
theorem dX5_pressesFrom_82 : decode cX5_pressesFrom 82 = .ok (.iadd, 1) := by decide +kernel
theorem dX5_pressesFrom_83 : decode cX5_pressesFrom 83 = .ok (.iload_n 2, 1) := by decide +kernel
theorem dX5_pressesFrom_84 : decode cX5_pressesFrom 84 = .ok (.iload 6, 2) := by decide +kernel
theorem dX5_pressesFrom_86 : decode cX5_pressesFrom 86 = .ok (.invokevirtual 54, 3) := by decide +kernel
theorem dX5_pressesFrom_89 : decode cX5_pressesFrom 89 = .ok (.iinc 6 1, 3) := by decide +kernel
theorem dX5_pressesFrom_92 : decode cX5_pressesFrom 92 = .ok (.goto (-64), 3) := by decide +kernel
theorem dX5_pressesFrom_95 : decode cX5_pressesFrom 95 = .ok (.iconst (-1), 1) := by decide +kernel
theorem dX5_pressesFrom_96 : decode cX5_pressesFrom 96 = .ok (.ireturn, 1) := by decide +kernel
theorem dX5_reach_0 : decode cX5_reach 0 = .ok (.aload_n 0, 1) := by decide +kernel
theorem dX5_reach_1 : decode cX5_reach 1 = .ok (.getfield 17, 3) := by decide +kernel
theorem dX5_reach_4 : decode cX5_reach 4 = .ok (.iload_n 1, 1) := by decide +kernel
theorem dX5_reach_5 : decode cX5_reach 5 = .ok (.iaload, 1) := by decide +kernel
theorem dX5_reach_6 : decode cX5_reach 6 = .ok (.bipush (-2), 2) := by decide +kernel
theorem dX5_reach_8 : decode cX5_reach 8 = .ok (.if_icmp .ne 13, 3) := by decide +kernel
theorem dX5_reach_11 : decode cX5_reach 11 = .ok (.aload_n 0, 1) := by decide +kernel
theorem dX5_reach_12 : decode cX5_reach 12 = .ok (.getfield 48, 3) := by decide +kernel
theorem dX5_reach_15 : decode cX5_reach 15 = .ok (.sipush 3072, 3) := by decide +kernel
theorem dX5_reach_18 : decode cX5_reach 18 = .ok (.if_icmp .lt 4, 3) := by decide +kernel
theorem dX5_reach_21 : decode cX5_reach 21 = .ok (.return_, 1) := by decide +kernel
theorem dX5_reach_22 : decode cX5_reach 22 = .ok (.aload_n 0, 1) := by decide +kernel
theorem dX5_reach_23 : decode cX5_reach 23 = .ok (.getfield 17, 3) := by decide +kernel
theorem dX5_reach_26 : decode cX5_reach 26 = .ok (.iload_n 1, 1) := by decide +kernel
theorem dX5_reach_27 : decode cX5_reach 27 = .ok (.iload_n 2, 1) := by decide +kernel
theorem dX5_reach_28 : decode cX5_reach 28 = .ok (.iastore, 1) := by decide +kernel
theorem dX5_reach_29 : decode cX5_reach 29 = .ok (.aload_n 0, 1) := by decide +kernel
