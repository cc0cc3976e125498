theorem dX5_readLine_20 : decode cX5_readLine 20 = .ok (.istore_n 1, 1) := by decide +kernel
theorem dX5_readLine_21 : decode cX5_readLine 21 = .ok (.goto 100, 3) := by decide +kernel
theorem dX5_readLine_24 : decode cX5_readLine 24 = .ok (.aload_n 2, 1) := by decide +kernel
theorem dX5_readLine_25 : decode cX5_readLine 25 = .ok (.getstatic 76, 3) := by decide +kernel
theorem dX5_readLine_28 : decode cX5_readLine 28 = .ok (.if_acmp .ne 12, 3) := by decide +kernel
theorem dX5_readLine_31 : decode cX5_readLine 31 = .ok (.aload_n 0, 1) := by decide +kernel
theorem dX5_readLine_32 : decode cX5_readLine 32 = .ok (.iconst 0, 1) := by decide +kernel
theorem dX5_readLine_33 : decode cX5_readLine 33 = .ok (.invokevirtual 72, 3) := by decide +kernel
theorem dX5_readLine_36 : decode cX5_readLine 36 = .ok (.istore_n 1, 1) := by decide +kernel
theorem dX5_readLine_37 : decode cX5_readLine 37 = .ok (.goto 84, 3) := by decide +kernel
theorem dX5_readLine_40 : decode cX5_readLine 40 = .ok (.aload_n 2, 1) := by decide +kernel
theorem dX5_readLine_41 : decode cX5_readLine 41 = .ok (.getstatic 79, 3) := by decide +kernel
theorem dX5_readLine_44 : decode cX5_readLine 44 = .ok (.if_acmp .ne 11, 3) := by decide +kernel
theorem dX5_readLine_47 : decode cX5_readLine 47 = .ok (.aload_n 0, 1) := by decide +kernel
theorem dX5_readLine_48 : decode cX5_readLine 48 = .ok (.invokevirtual 82, 3) := by decide +kernel
theorem dX5_readLine_51 : decode cX5_readLine 51 = .ok (.istore_n 1, 1) := by decide +kernel
theorem dX5_readLine_52 : decode cX5_readLine 52 = .ok (.goto 69, 3) := by decide +kernel
theorem dX5_readLine_55 : decode cX5_readLine 55 = .ok (.aload_n 2, 1) := by decide +kernel
theorem dX5_readLine_56 : decode cX5_readLine 56 = .ok (.getstatic 85, 3) := by decide +kernel
theorem dX5_readLine_59 : decode cX5_readLine 59 = .ok (.if_acmp .ne 11, 3) := by decide +kernel
theorem dX5_readLine_62 : decode cX5_readLine 62 = .ok (.aload_n 0, 1) := by decide +kernel
theorem dX5_readLine_63 : decode cX5_readLine 63 = .ok (.invokevirtual 88, 3) := by decide +kernel
theorem dX5_readLine_66 : decode cX5_readLine 66 = .ok (.istore_n 1, 1) := by decide +kernel
theorem dX5_readLine_67 : decode cX5_readLine 67 = .ok (.goto 54, 3) := by decide +kernel
theorem dX5_readLine_70 : decode cX5_readLine 70 = .ok (.aload_n 2, 1) := by decide +kernel
theorem dX5_readLine_71 : decode cX5_readLine 71 = .ok (.getstatic 91, 3) := by decide +kernel
theorem dX5_readLine_74 : decode cX5_readLine 74 = .ok (.if_acmp .ne 11, 3) := by decide +kernel
theorem dX5_readLine_77 : decode cX5_readLine 77 = .ok (.aload_n 0, 1) := by decide +kernel
theorem dX5_readLine_78 : decode cX5_readLine 78 = .ok (.invokevirtual 94, 3) := by decide +kernel
theorem dX5_readLine_81 : decode cX5_readLine 81 = .ok (.istore_n 1, 1) := by decide +kernel
theorem dX5_readLine_82 : decode cX5_readLine 82 = .ok (.goto 39, 3) := by decide +kernel
theorem dX5_readLine_85 : decode cX5_readLine 85 = .ok (.aload_n 2, 1) := by decide +kernel
theorem dX5_readLine_86 : decode cX5_readLine 86 = .ok (.getstatic 97, 3) := by decide +kernel
theorem dX5_readLine_89 : decode cX5_readLine 89 = .ok (.if_acmp .ne 11, 3) := by decide +kernel
theorem dX5_readLine_92 : decode cX5_readLine 92 = .ok (.aload_n 0, 1) := by decide +kernel
theorem dX5_readLine_93 : decode cX5_readLine 93 = .ok (.invokevirtual 100, 3) := by decide +kernel
theorem dX5_readLine_96 : decode cX5_readLine 96 = .ok (.istore_n 1, 1) := by decide +kernel
theorem dX5_readLine_97 : decode cX5_readLine 97 = .ok (.goto 24, 3) := by decide +kernel
theorem dX5_readLine_100 : decode cX5_readLine 100 = .ok (.aload_n 2, 1) := by decide +kernel
theorem dX5_readLine_101 : decode cX5_readLine 101 = .ok (.getstatic 103, 3) := by decide +kernel
theorem dX5_readLine_104 : decode cX5_readLine 104 = .ok (.if_acmp .ne 11, 3) := by decide +kernel
theorem dX5_readLine_107 : decode cX5_readLine 107 = .ok (.aload_n 0, 1) := by decide +kernel
theorem dX5_readLine_108 : decode cX5_readLine 108 = .ok (.invokevirtual 106, 3) := by decide +kernel
theorem dX5_readLine_111 : decode cX5_readLine 111 = .ok (.istore_n 1, 1) := by decide +kernel
theorem dX5_readLine_112 : decode cX5_readLine 112 = .ok (.goto 9, 3) := by decide +kernel
theorem dX5_readLine_115 : decode cX5_readLine 115 = .ok (.aload_n 0, 1) := by decide +kernel
theorem dX5_readLine_116 : decode cX5_readLine 116 = .ok (.iconst 1, 1) := by decide +kernel
theorem dX5_readLine_117 : decode cX5_readLine 117 = .ok (.invokevirtual 109, 3) := by decide +kernel
theorem dX5_readLine_120 : decode cX5_readLine 120 = .ok (.istore_n 1, 1) := by decide +kernel
theorem dX5_readLine_121 : decode cX5_readLine 121 = .ok (.iload_n 1, 1) := by decide +kernel
theorem dX5_readLine_122 : decode cX5_readLine 122 = .ok (.ifCond .eq 16, 3) := by decide +kernel
theorem dX5_readLine_125 : decode cX5_readLine 125 = .ok (.aload_n 0, 1) := by decide +kernel
theorem dX5_readLine_126 : decode cX5_readLine 126 = .ok (.bipush 59, 2) := by decide +kernel
theorem dX5_readLine_128 : decode cX5_readLine 128 = .ok (.invokevirtual 113, 3) := by decide +kernel
theorem dX5_readLine_131 : decode cX5_readLine 131 = .ok (.ifCond .eq 7, 3) := by decide +kernel
theorem dX5_readLine_134 : decode cX5_readLine 134 = .ok (.iconst 1, 1) := by decide +kernel
theorem dX5_readLine_135 : decode cX5_readLine 135 = .ok (.goto 4, 3) := by decide +kernel
theorem dX5_readLine_138 : decode cX5_readLine 138 = .ok (.iconst 0, 1) := by decide +kernel
theorem dX5_readLine_139 : decode cX5_readLine 139 = .ok (.ireturn, 1) := by decide +kernel
theorem dX5_readFormula_0 : decode cX5_readFormula 0 = .ok (.iload_n 1, 1) := by decide +kernel
theorem dX5_readFormula_1 : decode cX5_readFormula 1 = .ok (.ifCond .eq 13, 3) := by decide +kernel
theorem dX5_readFormula_4 : decode cX5_readFormula 4 = .ok (.aload_n 0, 1) := by decide +kernel
theorem dX5_readFormula_5 : decode cX5_readFormula 5 = .ok (.getfield 12, 3) := by decide +kernel
theorem dX5_readFormula_8 : decode cX5_readFormula 8 = .ok (.getfield 116, 3) := by decide +kernel
theorem dX5_readFormula_11 : decode cX5_readFormula 11 = .ok (.goto 10, 3) := by decide +kernel
theorem dX5_readFormula_14 : decode cX5_readFormula 14 = .ok (.aload_n 0, 1) := by decide +kernel
theorem dX5_readFormula_15 : decode cX5_readFormula 15 = .ok (.getfield 12, 3) := by decide +kernel
theorem dX5_readFormula_18 : decode cX5_readFormula 18 = .ok (.getfield 120, 3) := by decide +kernel
theorem dX5_readFormula_21 : decode cX5_readFormula 21 = .ok (.ifnull 9, 3) := by decide +kernel
theorem dX5_readFormula_24 : decode cX5_readFormula 24 = .ok (.aload_n 0, 1) := by decide +kernel
theorem dX5_readFormula_25 : decode cX5_readFormula 25 = .ok (.iconst 3, 1) := by decide +kernel
theorem dX5_readFormula_26 : decode cX5_readFormula 26 = .ok (.invokevirtual 109, 3) := by decide +kernel
theorem dX5_readFormula_29 : decode cX5_readFormula 29 = .ok (.ireturn, 1) := by decide +kernel
theorem dX5_readFormula_30 : decode cX5_readFormula 30 = .ok (.aload_n 0, 1) := by decide +kernel
theorem dX5_readFormula_31 : decode cX5_readFormula 31 = .ok (.iload_n 1, 1) := by decide +kernel
theorem dX5_readFormula_32 : decode cX5_readFormula 32 = .ok (.ifCond .eq 7, 3) := by decide +kernel
theorem dX5_readFormula_35 : decode cX5_readFormula 35 = .ok (.iconst 0, 1) := by decide +kernel
theorem dX5_readFormula_36 : decode cX5_readFormula 36 = .ok (.goto 4, 3) := by decide +kernel
theorem dX5_readFormula_39 : decode cX5_readFormula 39 = .ok (.iconst 3, 1) := by decide +kernel
theorem dX5_readFormula_40 : decode cX5_readFormula 40 = .ok (.putfield 123, 3) := by decide +kernel
theorem dX5_readFormula_43 : decode cX5_readFormula 43 = .ok (.aload_n 0, 1) := by decide +kernel
theorem dX5_readFormula_44 : decode cX5_readFormula 44 = .ok (.iload_n 1, 1) := by decide +kernel
theorem dX5_readFormula_45 : decode cX5_readFormula 45 = .ok (.ifCond .eq 7, 3) := by decide +kernel
theorem dX5_readFormula_48 : decode cX5_readFormula 48 = .ok (.iconst 2, 1) := by decide +kernel
theorem dX5_readFormula_49 : decode cX5_readFormula 49 = .ok (.goto 5, 3) := by decide +kernel
theorem dX5_readFormula_52 : decode cX5_readFormula 52 = .ok (.bipush 8, 2) := by decide +kernel
theorem dX5_readFormula_54 : decode cX5_readFormula 54 = .ok (.putfield 126, 3) := by decide +kernel
theorem dX5_readFormula_57 : decode cX5_readFormula 57 = .ok (.aload_n 0, 1) := by decide +kernel
theorem dX5_readFormula_58 : decode cX5_readFormula 58 = .ok (.iconst 0, 1) := by decide +kernel
theorem dX5_readFormula_59 : decode cX5_readFormula 59 = .ok (.putfield 129, 3) := by decide +kernel
theorem dX5_readFormula_62 : decode cX5_readFormula 62 = .ok (.aload_n 0, 1) := by decide +kernel
theorem dX5_readFormula_63 : decode cX5_readFormula 63 = .ok (.getfield 30, 3) := by decide +kernel
theorem dX5_readFormula_66 : decode cX5_readFormula 66 = .ok (.invokevirtual 42, 3) := by decide +kernel
theorem dX5_readFormula_69 : decode cX5_readFormula 69 = .ok (.aload_n 0, 1) := by decide +kernel
theorem dX5_readFormula_70 : decode cX5_readFormula 70 = .ok (.iconst 0, 1) := by decide +kernel
theorem dX5_readFormula_71 : decode cX5_readFormula 71 = .ok (.iconst 0, 1) := by decide +kernel
theorem dX5_readFormula_72 : decode cX5_readFormula 72 = .ok (.invokevirtual 132, 3) := by decide +kernel
theorem dX5_readFormula_75 : decode cX5_readFormula 75 = .ok (.ifCond .ne 5, 3) := by decide +kernel
theorem dX5_readFormula_78 : decode cX5_readFormula 78 = .ok (.iconst 0, 1) := by decide +kernel
theorem dX5_readFormula_79 : decode cX5_readFormula 79 = .ok (.ireturn, 1) := by decide +kernel
theorem dX5_readFormula_80 : decode cX5_readFormula 80 = .ok (.new 136, 3) := by decide +kernel
theorem dX5_readFormula_83 : decode cX5_readFormula 83 = .ok (.dup, 1) := by decide +kernel
theorem dX5_readFormula_84 : decode cX5_readFormula 84 = .ok (.aload_n 0, 1) := by decide +kernel
theorem dX5_readFormula_85 : decode cX5_readFormula 85 = .ok (.getfield 38, 3) := by decide +kernel
theorem dX5_readFormula_88 : decode cX5_readFormula 88 = .ok (.aload_n 0, 1) := by decide +kernel
theorem dX5_readFormula_89 : decode cX5_readFormula 89 = .ok (.getfield 129, 3) := by decide +kernel
theorem dX5_readFormula_92 : decode cX5_readFormula 92 = .ok (.invokespecial 138, 3) := by decide +kernel
theorem dX5_readFormula_95 : decode cX5_readFormula 95 = .ok (.astore_n 2, 1) := by decide +kernel
theorem dX5_readFormula_96 : decode cX5_readFormula 96 = .ok (.iload_n 1, 1) := by decide +kernel
theorem dX5_readFormula_97 : decode cX5_readFormula 97 = .ok (.ifCond .eq 14, 3) := by decide +kernel
theorem dX5_readFormula_100 : decode cX5_readFormula 100 = .ok (.aload_n 0, 1) := by decide +kernel
theorem dX5_readFormula_101 : decode cX5_readFormula 101 = .ok (.getfield 12, 3) := by decide +kernel
theorem dX5_readFormula_104 : decode cX5_readFormula 104 = .ok (.aload_n 2, 1) := by decide +kernel
theorem dX5_readFormula_105 : decode cX5_readFormula 105 = .ok (.putfield 116, 3) := by decide +kernel
theorem dX5_readFormula_108 : decode cX5_readFormula 108 = .ok (.goto 11, 3) := by decide +kernel
theorem dX5_readFormula_111 : decode cX5_readFormula 111 = .ok (.aload_n 0, 1) := by decide +kernel
theorem dX5_readFormula_112 : decode cX5_readFormula 112 = .ok (.getfield 12, 3) := by decide +kernel
theorem dX5_readFormula_115 : decode cX5_readFormula 115 = .ok (.aload_n 2, 1) := by decide +kernel
theorem dX5_readFormula_116 : decode cX5_readFormula 116 = .ok (.putfield 120, 3) := by decide +kernel
theorem dX5_readFormula_119 : decode cX5_readFormula 119 = .ok (.iconst 1, 1) := by decide +kernel
theorem dX5_readFormula_120 : decode cX5_readFormula 120 = .ok (.ireturn, 1) := by decide +kernel
theorem dX5_readMild_0 : decode cX5_readMild 0 = .ok (.aload_n 0, 1) := by decide +kernel
theorem dX5_readMild_1 : decode cX5_readMild 1 = .ok (.getfield 141, 3) := by decide +kernel
theorem dX5_readMild_4 : decode cX5_readMild 4 = .ok (.ifCond .eq 9, 3) := by decide +kernel
theorem dX5_readMild_7 : decode cX5_readMild 7 = .ok (.aload_n 0, 1) := by decide +kernel
theorem dX5_readMild_8 : decode cX5_readMild 8 = .ok (.iconst 3, 1) := by decide +kernel
theorem dX5_readMild_9 : decode cX5_readMild 9 = .ok (.invokevirtual 109, 3) := by decide +kernel
theorem dX5_readMild_12 : decode cX5_readMild 12 = .ok (.ireturn, 1) := by decide +kernel
theorem dX5_readMild_13 : decode cX5_readMild 13 = .ok (.aload_n 0, 1) := by decide +kernel
theorem dX5_readMild_14 : decode cX5_readMild 14 = .ok (.getfield 30, 3) := by decide +kernel
theorem dX5_readMild_17 : decode cX5_readMild 17 = .ok (.invokevirtual 42, 3) := by decide +kernel
theorem dX5_readMild_20 : decode cX5_readMild 20 = .ok (.aload_n 0, 1) := by decide +kernel
theorem dX5_readMild_21 : decode cX5_readMild 21 = .ok (.bipush 20, 2) := by decide +kernel
theorem dX5_readMild_23 : decode cX5_readMild 23 = .ok (.invokevirtual 145, 3) := by decide +kernel
theorem dX5_readMild_26 : decode cX5_readMild 26 = .ok (.ifCond .ne 5, 3) := by decide +kernel
theorem dX5_readMild_29 : decode cX5_readMild 29 = .ok (.iconst 0, 1) := by decide +kernel
theorem dX5_readMild_30 : decode cX5_readMild 30 = .ok (.ireturn, 1) := by decide +kernel
theorem dX5_readMild_31 : decode cX5_readMild 31 = .ok (.aload_n 0, 1) := by decide +kernel
theorem dX5_readMild_32 : decode cX5_readMild 32 = .ok (.iconst 1, 1) := by decide +kernel
theorem dX5_readMild_33 : decode cX5_readMild 33 = .ok (.putfield 141, 3) := by decide +kernel
theorem dX5_readMild_36 : decode cX5_readMild 36 = .ok (.aload_n 0, 1) := by decide +kernel
theorem dX5_readMild_37 : decode cX5_readMild 37 = .ok (.getfield 12, 3) := by decide +kernel
theorem dX5_readMild_40 : decode cX5_readMild 40 = .ok (.aload_n 0, 1) := by decide +kernel
theorem dX5_readMild_41 : decode cX5_readMild 41 = .ok (.getfield 148, 3) := by decide +kernel
theorem dX5_readMild_44 : decode cX5_readMild 44 = .ok (.putfield 151, 3) := by decide +kernel
theorem dX5_readMild_47 : decode cX5_readMild 47 = .ok (.iconst 1, 1) := by decide +kernel
theorem dX5_readMild_48 : decode cX5_readMild 48 = .ok (.ireturn, 1) := by decide +kernel
theorem dX5_readCell_0 : decode cX5_readCell 0 = .ok (.aload_n 0, 1) := by decide +kernel
theorem dX5_readCell_1 : decode cX5_readCell 1 = .ok (.getfield 12, 3) := by decide +kernel
theorem dX5_readCell_4 : decode cX5_readCell 4 = .ok (.getfield 154, 3) := by decide +kernel
theorem dX5_readCell_7 : decode cX5_readCell 7 = .ok (.istore_n 1, 1) := by decide +kernel
theorem dX5_readCell_8 : decode cX5_readCell 8 = .ok (.iload_n 1, 1) := by decide +kernel
theorem dX5_readCell_9 : decode cX5_readCell 9 = .ok (.bipush 8, 2) := by decide +kernel
theorem dX5_readCell_11 : decode cX5_readCell 11 = .ok (.if_icmp .lt 9, 3) := by decide +kernel
theorem dX5_readCell_14 : decode cX5_readCell 14 = .ok (.aload_n 0, 1) := by decide +kernel
theorem dX5_readCell_15 : decode cX5_readCell 15 = .ok (.iconst 5, 1) := by decide +kernel
theorem dX5_readCell_16 : decode cX5_readCell 16 = .ok (.invokevirtual 109, 3) := by decide +kernel
theorem dX5_readCell_19 : decode cX5_readCell 19 = .ok (.ireturn, 1) := by decide +kernel
theorem dX5_readCell_20 : decode cX5_readCell 20 = .ok (.aload_n 0, 1) := by decide +kernel
theorem dX5_readCell_21 : decode cX5_readCell 21 = .ok (.getfield 30, 3) := by decide +kernel
theorem dX5_readCell_24 : decode cX5_readCell 24 = .ok (.invokevirtual 42, 3) := by decide +kernel
theorem dX5_readCell_27 : decode cX5_readCell 27 = .ok (.aload_n 0, 1) := by decide +kernel
theorem dX5_readCell_28 : decode cX5_readCell 28 = .ok (.invokevirtual 157, 3) := by decide +kernel
theorem dX5_readCell_31 : decode cX5_readCell 31 = .ok (.ifCond .ne 5, 3) := by decide +kernel
theorem dX5_readCell_34 : decode cX5_readCell 34 = .ok (.iconst 0, 1) := by decide +kernel
theorem dX5_readCell_35 : decode cX5_readCell 35 = .ok (.ireturn, 1) := by decide +kernel
theorem dX5_readCell_36 : decode cX5_readCell 36 = .ok (.aload_n 0, 1) := by decide +kernel
theorem dX5_readCell_37 : decode cX5_readCell 37 = .ok (.getfield 18, 3) := by decide +kernel
theorem dX5_readCell_40 : decode cX5_readCell 40 = .ok (.iload_n 1, 1) := by decide +kernel
theorem dX5_readCell_41 : decode cX5_readCell 41 = .ok (.aload_n 0, 1) := by decide +kernel
theorem dX5_readCell_42 : decode cX5_readCell 42 = .ok (.getfield 30, 3) := by decide +kernel
theorem dX5_readCell_45 : decode cX5_readCell 45 = .ok (.getfield 160, 3) := by decide +kernel
theorem dX5_readCell_48 : decode cX5_readCell 48 = .ok (.lastore, 1) := by decide +kernel
theorem dX5_readCell_49 : decode cX5_readCell 49 = .ok (.aload_n 0, 1) := by decide +kernel
theorem dX5_readCell_50 : decode cX5_readCell 50 = .ok (.getfield 30, 3) := by decide +kernel
theorem dX5_readCell_53 : decode cX5_readCell 53 = .ok (.invokevirtual 42, 3) := by decide +kernel
theorem dX5_readCell_56 : decode cX5_readCell 56 = .ok (.aload_n 0, 1) := by decide +kernel
theorem dX5_readCell_57 : decode cX5_readCell 57 = .ok (.getstatic 164, 3) := by decide +kernel
theorem dX5_readCell_60 : decode cX5_readCell 60 = .ok (.invokevirtual 167, 3) := by decide +kernel
theorem dX5_readCell_63 : decode cX5_readCell 63 = .ok (.ifCond .eq 12, 3) := by decide +kernel
theorem dX5_readCell_66 : decode cX5_readCell 66 = .ok (.aload_n 0, 1) := by decide +kernel
theorem dX5_readCell_67 : decode cX5_readCell 67 = .ok (.bipush 9, 2) := by decide +kernel
theorem dX5_readCell_69 : decode cX5_readCell 69 = .ok (.invokevirtual 145, 3) := by decide +kernel
theorem dX5_readCell_72 : decode cX5_readCell 72 = .ok (.ifCond .ne 5, 3) := by decide +kernel
theorem dX5_readCell_75 : decode cX5_readCell 75 = .ok (.iconst 0, 1) := by decide +kernel
theorem dX5_readCell_76 : decode cX5_readCell 76 = .ok (.ireturn, 1) := by decide +kernel
theorem dX5_readCell_77 : decode cX5_readCell 77 = .ok (.aload_n 0, 1) := by decide +kernel
theorem dX5_readCell_78 : decode cX5_readCell 78 = .ok (.getfield 12, 3) := by decide +kernel
theorem dX5_readCell_81 : decode cX5_readCell 81 = .ok (.getfield 171, 3) := by decide +kernel
theorem dX5_readCell_84 : decode cX5_readCell 84 = .ok (.iload_n 1, 1) := by decide +kernel
theorem dX5_readCell_85 : decode cX5_readCell 85 = .ok (.aload_n 0, 1) := by decide +kernel
theorem dX5_readCell_86 : decode cX5_readCell 86 = .ok (.getfield 148, 3) := by decide +kernel
theorem dX5_readCell_89 : decode cX5_readCell 89 = .ok (.iastore, 1) := by decide +kernel
theorem dX5_readCell_90 : decode cX5_readCell 90 = .ok (.aload_n 0, 1) := by decide +kernel
theorem dX5_readCell_91 : decode cX5_readCell 91 = .ok (.getfield 12, 3) := by decide +kernel
theorem dX5_readCell_94 : decode cX5_readCell 94 = .ok (.dup, 1) := by decide +kernel
theorem dX5_readCell_95 : decode cX5_readCell 95 = .ok (.getfield 154, 3) := by decide +kernel
theorem dX5_readCell_98 : decode cX5_readCell 98 = .ok (.iconst 1, 1) := by decide +kernel
theorem dX5_readCell_99 : decode cX5_readCell 99 = .ok (.iadd, 1) := by decide +kernel
theorem dX5_readCell_100 : decode cX5_readCell 100 = .ok (.putfield 154, 3) := by decide +kernel
theorem dX5_readCell_103 : decode cX5_readCell 103 = .ok (.iconst 1, 1) := by decide +kernel
theorem dX5_readCell_104 : decode cX5_readCell 104 = .ok (.ireturn, 1) := by decide +kernel
theorem dX5_readDoor_0 : decode cX5_readDoor 0 = .ok (.aload_n 0, 1) := by decide +kernel
theorem dX5_readDoor_1 : decode cX5_readDoor 1 = .ok (.getfield 12, 3) := by decide +kernel
theorem dX5_readDoor_4 : decode cX5_readDoor 4 = .ok (.getfield 174, 3) := by decide +kernel
theorem dX5_readDoor_7 : decode cX5_readDoor 7 = .ok (.istore_n 1, 1) := by decide +kernel
theorem dX5_readDoor_8 : decode cX5_readDoor 8 = .ok (.iload_n 1, 1) := by decide +kernel
theorem dX5_readDoor_9 : decode cX5_readDoor 9 = .ok (.bipush 10, 2) := by decide +kernel
theorem dX5_readDoor_11 : decode cX5_readDoor 11 = .ok (.if_icmp .lt 9, 3) := by decide +kernel
theorem dX5_readDoor_14 : decode cX5_readDoor 14 = .ok (.aload_n 0, 1) := by decide +kernel
theorem dX5_readDoor_15 : decode cX5_readDoor 15 = .ok (.iconst 5, 1) := by decide +kernel
theorem dX5_readDoor_16 : decode cX5_readDoor 16 = .ok (.invokevirtual 109, 3) := by decide +kernel
theorem dX5_readDoor_19 : decode cX5_readDoor 19 = .ok (.ireturn, 1) := by decide +kernel
theorem dX5_readDoor_20 : decode cX5_readDoor 20 = .ok (.aload_n 0, 1) := by decide +kernel
theorem dX5_readDoor_21 : decode cX5_readDoor 21 = .ok (.getfield 30, 3) := by decide +kernel
theorem dX5_readDoor_24 : decode cX5_readDoor 24 = .ok (.invokevirtual 42, 3) := by decide +kernel
theorem dX5_readDoor_27 : decode cX5_readDoor 27 = .ok (.aload_n 0, 1) := by decide +kernel
theorem dX5_readDoor_28 : decode cX5_readDoor 28 = .ok (.invokevirtual 177, 3) := by decide +kernel
theorem dX5_readDoor_31 : decode cX5_readDoor 31 = .ok (.ifCond .ne 5, 3) := by decide +kernel
theorem dX5_readDoor_34 : decode cX5_readDoor 34 = .ok (.iconst 0, 1) := by decide +kernel
theorem dX5_readDoor_35 : decode cX5_readDoor 35 = .ok (.ireturn, 1) := by decide +kernel
theorem dX5_readDoor_36 : decode cX5_readDoor 36 = .ok (.aload_n 0, 1) := by decide +kernel
theorem dX5_readDoor_37 : decode cX5_readDoor 37 = .ok (.getfield 12, 3) := by decide +kernel
theorem dX5_readDoor_40 : decode cX5_readDoor 40 = .ok (.getfield 180, 3) := by decide +kernel
theorem dX5_readDoor_43 : decode cX5_readDoor 43 = .ok (.iload_n 1, 1) := by decide +kernel
theorem dX5_readDoor_44 : decode cX5_readDoor 44 = .ok (.aload_n 0, 1) := by decide +kernel
theorem dX5_readDoor_45 : decode cX5_readDoor 45 = .ok (.aload_n 0, 1) := by decide +kernel
theorem dX5_readDoor_46 : decode cX5_readDoor 46 = .ok (.getfield 30, 3) := by decide +kernel
theorem dX5_readDoor_49 : decode cX5_readDoor 49 = .ok (.getfield 160, 3) := by decide +kernel
theorem dX5_readDoor_52 : decode cX5_readDoor 52 = .ok (.invokevirtual 183, 3) := by decide +kernel
theorem dX5_readDoor_55 : decode cX5_readDoor 55 = .ok (.iastore, 1) := by decide +kernel
theorem dX5_readDoor_56 : decode cX5_readDoor 56 = .ok (.aload_n 0, 1) := by decide +kernel
theorem dX5_readDoor_57 : decode cX5_readDoor 57 = .ok (.getfield 30, 3) := by decide +kernel
theorem dX5_readDoor_60 : decode cX5_readDoor 60 = .ok (.invokevirtual 42, 3) := by decide +kernel
theorem dX5_readDoor_63 : decode cX5_readDoor 63 = .ok (.aload_n 0, 1) := by decide +kernel
theorem dX5_readDoor_64 : decode cX5_readDoor 64 = .ok (.getstatic 187, 3) := by decide +kernel
theorem dX5_readDoor_67 : decode cX5_readDoor 67 = .ok (.invokevirtual 167, 3) := by decide +kernel
theorem dX5_readDoor_70 : decode cX5_readDoor 70 = .ok (.ifCond .eq 30, 3) := by decide +kernel
theorem dX5_readDoor_73 : decode cX5_readDoor 73 = .ok (.aload_n 0, 1) := by decide +kernel
theorem dX5_readDoor_74 : decode cX5_readDoor 74 = .ok (.iload_n 1, 1) := by decide +kernel
theorem dX5_readDoor_75 : decode cX5_readDoor 75 = .ok (.invokevirtual 190, 3) := by decide +kernel
theorem dX5_readDoor_78 : decode cX5_readDoor 78 = .ok (.ifCond .eq 22, 3) := by decide +kernel
theorem dX5_readDoor_81 : decode cX5_readDoor 81 = .ok (.aload_n 0, 1) := by decide +kernel
theorem dX5_readDoor_82 : decode cX5_readDoor 82 = .ok (.getstatic 193, 3) := by decide +kernel
theorem dX5_readDoor_85 : decode cX5_readDoor 85 = .ok (.invokevirtual 167, 3) := by decide +kernel
theorem dX5_readDoor_88 : decode cX5_readDoor 88 = .ok (.ifCond .eq 12, 3) := by decide +kernel
theorem dX5_readDoor_91 : decode cX5_readDoor 91 = .ok (.aload_n 0, 1) := by decide +kernel
theorem dX5_readDoor_92 : decode cX5_readDoor 92 = .ok (.bipush 99, 2) := by decide +kernel
theorem dX5_readDoor_94 : decode cX5_readDoor 94 = .ok (.invokevirtual 145, 3) := by decide +kernel
theorem dX5_readDoor_97 : decode cX5_readDoor 97 = .ok (.ifCond .ne 5, 3) := by decide +kernel
theorem dX5_readDoor_100 : decode cX5_readDoor 100 = .ok (.iconst 0, 1) := by decide +kernel
theorem dX5_readDoor_101 : decode cX5_readDoor 101 = .ok (.ireturn, 1) := by decide +kernel
theorem dX5_readDoor_102 : decode cX5_readDoor 102 = .ok (.aload_n 0, 1) := by decide +kernel
theorem dX5_readDoor_103 : decode cX5_readDoor 103 = .ok (.getfield 12, 3) := by decide +kernel
theorem dX5_readDoor_106 : decode cX5_readDoor 106 = .ok (.getfield 196, 3) := by decide +kernel
theorem dX5_readDoor_109 : decode cX5_readDoor 109 = .ok (.iload_n 1, 1) := by decide +kernel
theorem dX5_readDoor_110 : decode cX5_readDoor 110 = .ok (.aload_n 0, 1) := by decide +kernel
theorem dX5_readDoor_111 : decode cX5_readDoor 111 = .ok (.getfield 148, 3) := by decide +kernel
theorem dX5_readDoor_114 : decode cX5_readDoor 114 = .ok (.iastore, 1) := by decide +kernel
theorem dX5_readDoor_115 : decode cX5_readDoor 115 = .ok (.aload_n 0, 1) := by decide +kernel
theorem dX5_readDoor_116 : decode cX5_readDoor 116 = .ok (.getfield 12, 3) := by decide +kernel
theorem dX5_readDoor_119 : decode cX5_readDoor 119 = .ok (.dup, 1) := by decide +kernel
theorem dX5_readDoor_120 : decode cX5_readDoor 120 = .ok (.getfield 174, 3) := by decide +kernel
theorem dX5_readDoor_123 : decode cX5_readDoor 123 = .ok (.iconst 1, 1) := by decide +kernel
theorem dX5_readDoor_124 : decode cX5_readDoor 124 = .ok (.iadd, 1) := by decide +kernel
theorem dX5_readDoor_125 : decode cX5_readDoor 125 = .ok (.putfield 174, 3) := by decide +kernel
theorem dX5_readDoor_128 : decode cX5_readDoor 128 = .ok (.iconst 1, 1) := by decide +kernel
theorem dX5_readDoor_129 : decode cX5_readDoor 129 = .ok (.ireturn, 1) := by decide +kernel
theorem dX5_readOther_0 : decode cX5_readOther 0 = .ok (.iconst (-1), 1) := by decide +kernel
theorem dX5_readOther_1 : decode cX5_readOther 1 = .ok (.istore_n 2, 1) := by decide +kernel
theorem dX5_readOther_2 : decode cX5_readOther 2 = .ok (.aload_n 0, 1) := by decide +kernel
theorem dX5_readOther_3 : decode cX5_readOther 3 = .ok (.getfield 30, 3) := by decide +kernel
theorem dX5_readOther_6 : decode cX5_readOther 6 = .ok (.getfield 63, 3) := by decide +kernel
theorem dX5_readOther_9 : decode cX5_readOther 9 = .ok (.getstatic 199, 3) := by decide +kernel
theorem dX5_readOther_12 : decode cX5_readOther 12 = .ok (.if_acmp .eq 43, 3) := by decide +kernel
theorem dX5_readOther_15 : decode cX5_readOther 15 = .ok (.aload_n 0, 1) := by decide +kernel
theorem dX5_readOther_16 : decode cX5_readOther 16 = .ok (.invokevirtual 177, 3) := by decide +kernel
theorem dX5_readOther_19 : decode cX5_readOther 19 = .ok (.ifCond .ne 5, 3) := by decide +kernel
theorem dX5_readOther_22 : decode cX5_readOther 22 = .ok (.iconst 0, 1) := by decide +kernel
theorem dX5_readOther_23 : decode cX5_readOther 23 = .ok (.ireturn, 1) := by decide +kernel
theorem dX5_readOther_24 : decode cX5_readOther 24 = .ok (.aload_n 0, 1) := by decide +kernel
theorem dX5_readOther_25 : decode cX5_readOther 25 = .ok (.aload_n 0, 1) := by decide +kernel
theorem dX5_readOther_26 : decode cX5_readOther 26 = .ok (.getfield 30, 3) := by decide +kernel
theorem dX5_readOther_29 : decode cX5_readOther 29 = .ok (.getfield 160, 3) := by decide +kernel
theorem dX5_readOther_32 : decode cX5_readOther 32 = .ok (.invokevirtual 183, 3) := by decide +kernel
theorem dX5_readOther_35 : decode cX5_readOther 35 = .ok (.istore_n 2, 1) := by decide +kernel
theorem dX5_readOther_36 : decode cX5_readOther 36 = .ok (.iload_n 2, 1) := by decide +kernel
theorem dX5_readOther_37 : decode cX5_readOther 37 = .ok (.aload_n 0, 1) := by decide +kernel
theorem dX5_readOther_38 : decode cX5_readOther 38 = .ok (.getfield 12, 3) := by decide +kernel
theorem dX5_readOther_41 : decode cX5_readOther 41 = .ok (.getfield 180, 3) := by decide +kernel
theorem dX5_readOther_44 : decode cX5_readOther 44 = .ok (.iload_n 1, 1) := by decide +kernel
theorem dX5_readOther_45 : decode cX5_readOther 45 = .ok (.iaload, 1) := by decide +kernel
theorem dX5_readOther_46 : decode cX5_readOther 46 = .ok (.if_icmp .ne 9, 3) := by decide +kernel
theorem dX5_readOther_49 : decode cX5_readOther 49 = .ok (.aload_n 0, 1) := by decide +kernel
theorem dX5_readOther_50 : decode cX5_readOther 50 = .ok (.iconst 3, 1) := by decide +kernel
theorem dX5_readOther_51 : decode cX5_readOther 51 = .ok (.invokevirtual 109, 3) := by decide +kernel
theorem dX5_readOther_54 : decode cX5_readOther 54 = .ok (.ireturn, 1) := by decide +kernel
theorem dX5_readOther_55 : decode cX5_readOther 55 = .ok (.aload_n 0, 1) := by decide +kernel
theorem dX5_readOther_56 : decode cX5_readOther 56 = .ok (.getfield 12, 3) := by decide +kernel
theorem dX5_readOther_59 : decode cX5_readOther 59 = .ok (.getfield 202, 3) := by decide +kernel
theorem dX5_readOther_62 : decode cX5_readOther 62 = .ok (.iload_n 1, 1) := by decide +kernel
theorem dX5_readOther_63 : decode cX5_readOther 63 = .ok (.iload_n 2, 1) := by decide +kernel
theorem dX5_readOther_64 : decode cX5_readOther 64 = .ok (.iastore, 1) := by decide +kernel
theorem dX5_readOther_65 : decode cX5_readOther 65 = .ok (.aload_n 0, 1) := by decide +kernel
theorem dX5_readOther_66 : decode cX5_readOther 66 = .ok (.getfield 30, 3) := by decide +kernel
theorem dX5_readOther_69 : decode cX5_readOther 69 = .ok (.invokevirtual 42, 3) := by decide +kernel
theorem dX5_readOther_72 : decode cX5_readOther 72 = .ok (.iconst 1, 1) := by decide +kernel
theorem dX5_readOther_73 : decode cX5_readOther 73 = .ok (.ireturn, 1) := by decide +kernel
theorem dX5_readMan_0 : decode cX5_readMan 0 = .ok (.aload_n 0, 1) := by decide +kernel
theorem dX5_readMan_1 : decode cX5_readMan 1 = .ok (.getfield 12, 3) := by decide +kernel
theorem dX5_readMan_4 : decode cX5_readMan 4 = .ok (.getfield 205, 3) := by decide +kernel
theorem dX5_readMan_7 : decode cX5_readMan 7 = .ok (.istore_n 1, 1) := by decide +kernel
theorem dX5_readMan_8 : decode cX5_readMan 8 = .ok (.iload_n 1, 1) := by decide +kernel
theorem dX5_readMan_9 : decode cX5_readMan 9 = .ok (.bipush 6, 2) := by decide +kernel
theorem dX5_readMan_11 : decode cX5_readMan 11 = .ok (.if_icmp .lt 9, 3) := by decide +kernel
theorem dX5_readMan_14 : decode cX5_readMan 14 = .ok (.aload_n 0, 1) := by decide +kernel
theorem dX5_readMan_15 : decode cX5_readMan 15 = .ok (.iconst 5, 1) := by decide +kernel
theorem dX5_readMan_16 : decode cX5_readMan 16 = .ok (.invokevirtual 109, 3) := by decide +kernel
theorem dX5_readMan_19 : decode cX5_readMan 19 = .ok (.ireturn, 1) := by decide +kernel
theorem dX5_readMan_20 : decode cX5_readMan 20 = .ok (.aload_n 0, 1) := by decide +kernel
theorem dX5_readMan_21 : decode cX5_readMan 21 = .ok (.getfield 30, 3) := by decide +kernel
theorem dX5_readMan_24 : decode cX5_readMan 24 = .ok (.invokevirtual 42, 3) := by decide +kernel
theorem dX5_readMan_27 : decode cX5_readMan 27 = .ok (.aload_n 0, 1) := by decide +kernel
theorem dX5_readMan_28 : decode cX5_readMan 28 = .ok (.invokevirtual 157, 3) := by decide +kernel
theorem dX5_readMan_31 : decode cX5_readMan 31 = .ok (.ifCond .ne 5, 3) := by decide +kernel
theorem dX5_readMan_34 : decode cX5_readMan 34 = .ok (.iconst 0, 1) := by decide +kernel
theorem dX5_readMan_35 : decode cX5_readMan 35 = .ok (.ireturn, 1) := by decide +kernel
theorem dX5_readMan_36 : decode cX5_readMan 36 = .ok (.aload_n 0, 1) := by decide +kernel
theorem dX5_readMan_37 : decode cX5_readMan 37 = .ok (.getfield 22, 3) := by decide +kernel
theorem dX5_readMan_40 : decode cX5_readMan 40 = .ok (.iload_n 1, 1) := by decide +kernel
theorem dX5_readMan_41 : decode cX5_readMan 41 = .ok (.aload_n 0, 1) := by decide +kernel
theorem dX5_readMan_42 : decode cX5_readMan 42 = .ok (.getfield 30, 3) := by decide +kernel
theorem dX5_readMan_45 : decode cX5_readMan 45 = .ok (.getfield 160, 3) := by decide +kernel
theorem dX5_readMan_48 : decode cX5_readMan 48 = .ok (.lastore, 1) := by decide +kernel
theorem dX5_readMan_49 : decode cX5_readMan 49 = .ok (.aload_n 0, 1) := by decide +kernel
theorem dX5_readMan_50 : decode cX5_readMan 50 = .ok (.getfield 30, 3) := by decide +kernel
theorem dX5_readMan_53 : decode cX5_readMan 53 = .ok (.invokevirtual 42, 3) := by decide +kernel
theorem dX5_readMan_56 : decode cX5_readMan 56 = .ok (.aload_n 0, 1) := by decide +kernel
theorem dX5_readMan_57 : decode cX5_readMan 57 = .ok (.getstatic 208, 3) := by decide +kernel
theorem dX5_readMan_60 : decode cX5_readMan 60 = .ok (.invokevirtual 167, 3) := by decide +kernel
theorem dX5_readMan_63 : decode cX5_readMan 63 = .ok (.ifCond .eq 10, 3) := by decide +kernel
theorem dX5_readMan_66 : decode cX5_readMan 66 = .ok (.aload_n 0, 1) := by decide +kernel
theorem dX5_readMan_67 : decode cX5_readMan 67 = .ok (.invokevirtual 177, 3) := by decide +kernel
theorem dX5_readMan_70 : decode cX5_readMan 70 = .ok (.ifCond .ne 5, 3) := by decide +kernel
theorem dX5_readMan_73 : decode cX5_readMan 73 = .ok (.iconst 0, 1) := by decide +kernel
theorem dX5_readMan_74 : decode cX5_readMan 74 = .ok (.ireturn, 1) := by decide +kernel
theorem dX5_readMan_75 : decode cX5_readMan 75 = .ok (.aload_n 0, 1) := by decide +kernel
theorem dX5_readMan_76 : decode cX5_readMan 76 = .ok (.getfield 12, 3) := by decide +kernel
theorem dX5_readMan_79 : decode cX5_readMan 79 = .ok (.getfield 211, 3) := by decide +kernel
theorem dX5_readMan_82 : decode cX5_readMan 82 = .ok (.iload_n 1, 1) := by decide +kernel
theorem dX5_readMan_83 : decode cX5_readMan 83 = .ok (.aload_n 0, 1) := by decide +kernel
theorem dX5_readMan_84 : decode cX5_readMan 84 = .ok (.aload_n 0, 1) := by decide +kernel
theorem dX5_readMan_85 : decode cX5_readMan 85 = .ok (.getfield 30, 3) := by decide +kernel
theorem dX5_readMan_88 : decode cX5_readMan 88 = .ok (.getfield 160, 3) := by decide +kernel
theorem dX5_readMan_91 : decode cX5_readMan 91 = .ok (.invokevirtual 183, 3) := by decide +kernel
theorem dX5_readMan_94 : decode cX5_readMan 94 = .ok (.iastore, 1) := by decide +kernel
theorem dX5_readMan_95 : decode cX5_readMan 95 = .ok (.aload_n 0, 1) := by decide +kernel
theorem dX5_readMan_96 : decode cX5_readMan 96 = .ok (.getfield 30, 3) := by decide +kernel
theorem dX5_readMan_99 : decode cX5_readMan 99 = .ok (.invokevirtual 42, 3) := by decide +kernel
theorem dX5_readMan_102 : decode cX5_readMan 102 = .ok (.aload_n 0, 1) := by decide +kernel
theorem dX5_readMan_103 : decode cX5_readMan 103 = .ok (.getstatic 214, 3) := by decide +kernel
theorem dX5_readMan_106 : decode cX5_readMan 106 = .ok (.invokevirtual 167, 3) := by decide +kernel
theorem dX5_readMan_109 : decode cX5_readMan 109 = .ok (.ifCond .eq 12, 3) := by decide +kernel
theorem dX5_readMan_112 : decode cX5_readMan 112 = .ok (.aload_n 0, 1) := by decide +kernel
theorem dX5_readMan_113 : decode cX5_readMan 113 = .ok (.bipush 9, 2) := by decide +kernel
theorem dX5_readMan_115 : decode cX5_readMan 115 = .ok (.invokevirtual 145, 3) := by decide +kernel
theorem dX5_readMan_118 : decode cX5_readMan 118 = .ok (.ifCond .ne 5, 3) := by decide +kernel
theorem dX5_readMan_121 : decode cX5_readMan 121 = .ok (.iconst 0, 1) := by decide +kernel
theorem dX5_readMan_122 : decode cX5_readMan 122 = .ok (.ireturn, 1) := by decide +kernel
theorem dX5_readMan_123 : decode cX5_readMan 123 = .ok (.aload_n 0, 1) := by decide +kernel
theorem dX5_readMan_124 : decode cX5_readMan 124 = .ok (.getfield 12, 3) := by decide +kernel
theorem dX5_readMan_127 : decode cX5_readMan 127 = .ok (.getfield 217, 3) := by decide +kernel
theorem dX5_readMan_130 : decode cX5_readMan 130 = .ok (.iload_n 1, 1) := by decide +kernel
theorem dX5_readMan_131 : decode cX5_readMan 131 = .ok (.aload_n 0, 1) := by decide +kernel
theorem dX5_readMan_132 : decode cX5_readMan 132 = .ok (.getfield 148, 3) := by decide +kernel
theorem dX5_readMan_135 : decode cX5_readMan 135 = .ok (.iastore, 1) := by decide +kernel
theorem dX5_readMan_136 : decode cX5_readMan 136 = .ok (.aload_n 0, 1) := by decide +kernel
theorem dX5_readMan_137 : decode cX5_readMan 137 = .ok (.getstatic 220, 3) := by decide +kernel
theorem dX5_readMan_140 : decode cX5_readMan 140 = .ok (.invokevirtual 167, 3) := by decide +kernel
theorem dX5_readMan_143 : decode cX5_readMan 143 = .ok (.ifCond .eq 12, 3) := by decide +kernel
theorem dX5_readMan_146 : decode cX5_readMan 146 = .ok (.aload_n 0, 1) := by decide +kernel
theorem dX5_readMan_147 : decode cX5_readMan 147 = .ok (.bipush 99, 2) := by decide +kernel
theorem dX5_readMan_149 : decode cX5_readMan 149 = .ok (.invokevirtual 145, 3) := by decide +kernel
theorem dX5_readMan_152 : decode cX5_readMan 152 = .ok (.ifCond .ne 5, 3) := by decide +kernel
theorem dX5_readMan_155 : decode cX5_readMan 155 = .ok (.iconst 0, 1) := by decide +kernel
theorem dX5_readMan_156 : decode cX5_readMan 156 = .ok (.ireturn, 1) := by decide +kernel
theorem dX5_readMan_157 : decode cX5_readMan 157 = .ok (.aload_n 0, 1) := by decide +kernel
theorem dX5_readMan_158 : decode cX5_readMan 158 = .ok (.getfield 12, 3) := by decide +kernel
theorem dX5_readMan_161 : decode cX5_readMan 161 = .ok (.getfield 223, 3) := by decide +kernel
theorem dX5_readMan_164 : decode cX5_readMan 164 = .ok (.iload_n 1, 1) := by decide +kernel
theorem dX5_readMan_165 : decode cX5_readMan 165 = .ok (.aload_n 0, 1) := by decide +kernel
theorem dX5_readMan_166 : decode cX5_readMan 166 = .ok (.getfield 148, 3) := by decide +kernel
theorem dX5_readMan_169 : decode cX5_readMan 169 = .ok (.iastore, 1) := by decide +kernel
theorem dX5_readMan_170 : decode cX5_readMan 170 = .ok (.aload_n 0, 1) := by decide +kernel
theorem dX5_readMan_171 : decode cX5_readMan 171 = .ok (.getfield 12, 3) := by decide +kernel
theorem dX5_readMan_174 : decode cX5_readMan 174 = .ok (.dup, 1) := by decide +kernel
theorem dX5_readMan_175 : decode cX5_readMan 175 = .ok (.getfield 205, 3) := by decide +kernel
theorem dX5_readMan_178 : decode cX5_readMan 178 = .ok (.iconst 1, 1) := by decide +kernel
theorem dX5_readMan_179 : decode cX5_readMan 179 = .ok (.iadd, 1) := by decide +kernel
theorem dX5_readMan_180 : decode cX5_readMan 180 = .ok (.putfield 205, 3) := by decide +kernel
theorem dX5_readMan_183 : decode cX5_readMan 183 = .ok (.iconst 1, 1) := by decide +kernel
theorem dX5_readMan_184 : decode cX5_readMan 184 = .ok (.ireturn, 1) := by decide +kernel
theorem dX5_readGuard_0 : decode cX5_readGuard 0 = .ok (.aload_n 0, 1) := by decide +kernel
theorem dX5_readGuard_1 : decode cX5_readGuard 1 = .ok (.getfield 12, 3) := by decide +kernel
theorem dX5_readGuard_4 : decode cX5_readGuard 4 = .ok (.getfield 226, 3) := by decide +kernel
theorem dX5_readGuard_7 : decode cX5_readGuard 7 = .ok (.istore_n 1, 1) := by decide +kernel
theorem dX5_readGuard_8 : decode cX5_readGuard 8 = .ok (.iload_n 1, 1) := by decide +kernel
theorem dX5_readGuard_9 : decode cX5_readGuard 9 = .ok (.iconst 2, 1) := by decide +kernel
theorem dX5_readGuard_10 : decode cX5_readGuard 10 = .ok (.if_icmp .lt 9, 3) := by decide +kernel
theorem dX5_readGuard_13 : decode cX5_readGuard 13 = .ok (.aload_n 0, 1) := by decide +kernel
theorem dX5_readGuard_14 : decode cX5_readGuard 14 = .ok (.iconst 5, 1) := by decide +kernel
theorem dX5_readGuard_15 : decode cX5_readGuard 15 = .ok (.invokevirtual 109, 3) := by decide +kernel
theorem dX5_readGuard_18 : decode cX5_readGuard 18 = .ok (.ireturn, 1) := by decide +kernel
theorem dX5_readGuard_19 : decode cX5_readGuard 19 = .ok (.aload_n 0, 1) := by decide +kernel
theorem dX5_readGuard_20 : decode cX5_readGuard 20 = .ok (.getfield 30, 3) := by decide +kernel
theorem dX5_readGuard_23 : decode cX5_readGuard 23 = .ok (.invokevirtual 42, 3) := by decide +kernel
theorem dX5_readGuard_26 : decode cX5_readGuard 26 = .ok (.iconst 0, 1) := by decide +kernel
theorem dX5_readGuard_27 : decode cX5_readGuard 27 = .ok (.istore_n 2, 1) := by decide +kernel
theorem dX5_readGuard_28 : decode cX5_readGuard 28 = .ok (.iload_n 2, 1) := by decide +kernel
theorem dX5_readGuard_29 : decode cX5_readGuard 29 = .ok (.bipush 8, 2) := by decide +kernel
theorem dX5_readGuard_31 : decode cX5_readGuard 31 = .ok (.if_icmp .ge 64, 3) := by decide +kernel
theorem dX5_readGuard_34 : decode cX5_readGuard 34 = .ok (.iload_n 2, 1) := by decide +kernel
theorem dX5_readGuard_35 : decode cX5_readGuard 35 = .ok (.ifCond .eq 13, 3) := by decide +kernel
theorem dX5_readGuard_38 : decode cX5_readGuard 38 = .ok (.aload_n 0, 1) := by decide +kernel
theorem dX5_readGuard_39 : decode cX5_readGuard 39 = .ok (.getfield 30, 3) := by decide +kernel
theorem dX5_readGuard_42 : decode cX5_readGuard 42 = .ok (.invokevirtual 229, 3) := by decide +kernel
theorem dX5_readGuard_45 : decode cX5_readGuard 45 = .ok (.ifCond .eq 50, 3) := by decide +kernel
theorem dX5_readGuard_48 : decode cX5_readGuard 48 = .ok (.aload_n 0, 1) := by decide +kernel
theorem dX5_readGuard_49 : decode cX5_readGuard 49 = .ok (.invokevirtual 177, 3) := by decide +kernel
theorem dX5_readGuard_52 : decode cX5_readGuard 52 = .ok (.ifCond .ne 5, 3) := by decide +kernel
theorem dX5_readGuard_55 : decode cX5_readGuard 55 = .ok (.iconst 0, 1) := by decide +kernel
theorem dX5_readGuard_56 : decode cX5_readGuard 56 = .ok (.ireturn, 1) := by decide +kernel
theorem dX5_readGuard_57 : decode cX5_readGuard 57 = .ok (.aload_n 0, 1) := by decide +kernel
theorem dX5_readGuard_58 : decode cX5_readGuard 58 = .ok (.getfield 12, 3) := by decide +kernel
theorem dX5_readGuard_61 : decode cX5_readGuard 61 = .ok (.getfield 232, 3) := by decide +kernel
theorem dX5_readGuard_64 : decode cX5_readGuard 64 = .ok (.iload_n 1, 1) := by decide +kernel
theorem dX5_readGuard_65 : decode cX5_readGuard 65 = .ok (.bipush 8, 2) := by decide +kernel
theorem dX5_readGuard_67 : decode cX5_readGuard 67 = .ok (.imul, 1) := by decide +kernel
theorem dX5_readGuard_68 : decode cX5_readGuard 68 = .ok (.iload_n 2, 1) := by decide +kernel
theorem dX5_readGuard_69 : decode cX5_readGuard 69 = .ok (.iadd, 1) := by decide +kernel
theorem dX5_readGuard_70 : decode cX5_readGuard 70 = .ok (.aload_n 0, 1) := by decide +kernel
theorem dX5_readGuard_71 : decode cX5_readGuard 71 = .ok (.aload_n 0, 1) := by decide +kernel
theorem dX5_readGuard_72 : decode cX5_readGuard 72 = .ok (.getfield 30, 3) := by decide +kernel
theorem dX5_readGuard_75 : decode cX5_readGuard 75 = .ok (.getfield 160, 3) := by decide +kernel
theorem dX5_readGuard_78 : decode cX5_readGuard 78 = .ok (.invokevirtual 183, 3) := by decide +kernel
theorem dX5_readGuard_81 : decode cX5_readGuard 81 = .ok (.iastore, 1) := by decide +kernel
theorem dX5_readGuard_82 : decode cX5_readGuard 82 = .ok (.iinc 2 1, 3) := by decide +kernel
theorem dX5_readGuard_85 : decode cX5_readGuard 85 = .ok (.aload_n 0, 1) := by decide +kernel
theorem dX5_readGuard_86 : decode cX5_readGuard 86 = .ok (.getfield 30, 3) := by decide +kernel
theorem dX5_readGuard_89 : decode cX5_readGuard 89 = .ok (.invokevirtual 42, 3) := by decide +kernel
theorem dX5_readGuard_92 : decode cX5_readGuard 92 = .ok (.goto (-64), 3) := by decide +kernel
theorem dX5_readGuard_95 : decode cX5_readGuard 95 = .ok (.aload_n 0, 1) := by decide +kernel
theorem dX5_readGuard_96 : decode cX5_readGuard 96 = .ok (.getfield 30, 3) := by decide +kernel
theorem dX5_readGuard_99 : decode cX5_readGuard 99 = .ok (.invokevirtual 229, 3) := by decide +kernel
theorem dX5_readGuard_102 : decode cX5_readGuard 102 = .ok (.ifCond .eq 24, 3) := by decide +kernel
theorem dX5_readGuard_105 : decode cX5_readGuard 105 = .ok (.aload_n 0, 1) := by decide +kernel
theorem dX5_readGuard_106 : decode cX5_readGuard 106 = .ok (.invokevirtual 177, 3) := by decide +kernel
theorem dX5_readGuard_109 : decode cX5_readGuard 109 = .ok (.ifCond .eq 15, 3) := by decide +kernel
theorem dX5_readGuard_112 : decode cX5_readGuard 112 = .ok (.aload_n 0, 1) := by decide +kernel
theorem dX5_readGuard_113 : decode cX5_readGuard 113 = .ok (.iconst 5, 1) := by decide +kernel
theorem dX5_readGuard_114 : decode cX5_readGuard 114 = .ok (.invokevirtual 109, 3) := by decide +kernel
theorem dX5_readGuard_117 : decode cX5_readGuard 117 = .ok (.ifCond .eq 7, 3) := by decide +kernel
theorem dX5_readGuard_120 : decode cX5_readGuard 120 = .ok (.iconst 1, 1) := by decide +kernel
theorem dX5_readGuard_121 : decode cX5_readGuard 121 = .ok (.goto 4, 3) := by decide +kernel
theorem dX5_readGuard_124 : decode cX5_readGuard 124 = .ok (.iconst 0, 1) := by decide +kernel
theorem dX5_readGuard_125 : decode cX5_readGuard 125 = .ok (.ireturn, 1) := by decide +kernel
theorem dX5_readGuard_126 : decode cX5_readGuard 126 = .ok (.aload_n 0, 1) := by decide +kernel
theorem dX5_readGuard_127 : decode cX5_readGuard 127 = .ok (.getfield 12, 3) := by decide +kernel
theorem dX5_readGuard_130 : decode cX5_readGuard 130 = .ok (.getfield 235, 3) := by decide +kernel
theorem dX5_readGuard_133 : decode cX5_readGuard 133 = .ok (.iload_n 1, 1) := by decide +kernel
theorem dX5_readGuard_134 : decode cX5_readGuard 134 = .ok (.iload_n 2, 1) := by decide +kernel
theorem dX5_readGuard_135 : decode cX5_readGuard 135 = .ok (.iastore, 1) := by decide +kernel
theorem dX5_readGuard_136 : decode cX5_readGuard 136 = .ok (.aload_n 0, 1) := by decide +kernel
theorem dX5_readGuard_137 : decode cX5_readGuard 137 = .ok (.getfield 12, 3) := by decide +kernel
theorem dX5_readGuard_140 : decode cX5_readGuard 140 = .ok (.dup, 1) := by decide +kernel
theorem dX5_readGuard_141 : decode cX5_readGuard 141 = .ok (.getfield 226, 3) := by decide +kernel
theorem dX5_readGuard_144 : decode cX5_readGuard 144 = .ok (.iconst 1, 1) := by decide +kernel
theorem dX5_readGuard_145 : decode cX5_readGuard 145 = .ok (.iadd, 1) := by decide +kernel
theorem dX5_readGuard_146 : decode cX5_readGuard 146 = .ok (.putfield 226, 3) := by decide +kernel
theorem dX5_readGuard_149 : decode cX5_readGuard 149 = .ok (.iconst 1, 1) := by decide +kernel
theorem dX5_readGuard_150 : decode cX5_readGuard 150 = .ok (.ireturn, 1) := by decide +kernel
theorem dX5_readSign_0 : decode cX5_readSign 0 = .ok (.aload_n 0, 1) := by decide +kernel
theorem dX5_readSign_1 : decode cX5_readSign 1 = .ok (.getfield 30, 3) := by decide +kernel
theorem dX5_readSign_4 : decode cX5_readSign 4 = .ok (.iload_n 1, 1) := by decide +kernel
theorem dX5_readSign_5 : decode cX5_readSign 5 = .ok (.invokevirtual 238, 3) := by decide +kernel
theorem dX5_readSign_8 : decode cX5_readSign 8 = .ok (.ifCond .ne 9, 3) := by decide +kernel
theorem dX5_readSign_11 : decode cX5_readSign 11 = .ok (.aload_n 0, 1) := by decide +kernel
theorem dX5_readSign_12 : decode cX5_readSign 12 = .ok (.iconst 1, 1) := by decide +kernel
theorem dX5_readSign_13 : decode cX5_readSign 13 = .ok (.invokevirtual 109, 3) := by decide +kernel
theorem dX5_readSign_16 : decode cX5_readSign 16 = .ok (.ireturn, 1) := by decide +kernel
theorem dX5_readSign_17 : decode cX5_readSign 17 = .ok (.aload_n 0, 1) := by decide +kernel
theorem dX5_readSign_18 : decode cX5_readSign 18 = .ok (.getfield 30, 3) := by decide +kernel
theorem dX5_readSign_21 : decode cX5_readSign 21 = .ok (.invokevirtual 42, 3) := by decide +kernel
theorem dX5_readSign_24 : decode cX5_readSign 24 = .ok (.iconst 1, 1) := by decide +kernel
theorem dX5_readSign_25 : decode cX5_readSign 25 = .ok (.ireturn, 1) := by decide +kernel
theorem dX5_readWord_0 : decode cX5_readWord 0 = .ok (.aload_n 0, 1) := by decide +kernel
theorem dX5_readWord_1 : decode cX5_readWord 1 = .ok (.getfield 30, 3) := by decide +kernel
theorem dX5_readWord_4 : decode cX5_readWord 4 = .ok (.getfield 63, 3) := by decide +kernel
theorem dX5_readWord_7 : decode cX5_readWord 7 = .ok (.aload_n 1, 1) := by decide +kernel
theorem dX5_readWord_8 : decode cX5_readWord 8 = .ok (.if_acmp .eq 9, 3) := by decide +kernel
theorem dX5_readWord_11 : decode cX5_readWord 11 = .ok (.aload_n 0, 1) := by decide +kernel
theorem dX5_readWord_12 : decode cX5_readWord 12 = .ok (.iconst 1, 1) := by decide +kernel
theorem dX5_readWord_13 : decode cX5_readWord 13 = .ok (.invokevirtual 109, 3) := by decide +kernel
theorem dX5_readWord_16 : decode cX5_readWord 16 = .ok (.ireturn, 1) := by decide +kernel
theorem dX5_readWord_17 : decode cX5_readWord 17 = .ok (.aload_n 0, 1) := by decide +kernel
theorem dX5_readWord_18 : decode cX5_readWord 18 = .ok (.getfield 30, 3) := by decide +kernel
theorem dX5_readWord_21 : decode cX5_readWord 21 = .ok (.invokevirtual 42, 3) := by decide +kernel
theorem dX5_readWord_24 : decode cX5_readWord 24 = .ok (.iconst 1, 1) := by decide +kernel
theorem dX5_readWord_25 : decode cX5_readWord 25 = .ok (.ireturn, 1) := by decide +kernel
theorem dX5_readNumber_0 : decode cX5_readNumber 0 = .ok (.aload_n 0, 1) := by decide +kernel
theorem dX5_readNumber_1 : decode cX5_readNumber 1 = .ok (.getfield 30, 3) := by decide +kernel
theorem dX5_readNumber_4 : decode cX5_readNumber 4 = .ok (.getfield 47, 3) := by decide +kernel
theorem dX5_readNumber_7 : decode cX5_readNumber 7 = .ok (.iconst 3, 1) := by decide +kernel
theorem dX5_readNumber_8 : decode cX5_readNumber 8 = .ok (.if_icmp .eq 9, 3) := by decide +kernel
theorem dX5_readNumber_11 : decode cX5_readNumber 11 = .ok (.aload_n 0, 1) := by decide +kernel
theorem dX5_readNumber_12 : decode cX5_readNumber 12 = .ok (.iconst 1, 1) := by decide +kernel
theorem dX5_readNumber_13 : decode cX5_readNumber 13 = .ok (.invokevirtual 109, 3) := by decide +kernel
theorem dX5_readNumber_16 : decode cX5_readNumber 16 = .ok (.ireturn, 1) := by decide +kernel
theorem dX5_readNumber_17 : decode cX5_readNumber 17 = .ok (.aload_n 0, 1) := by decide +kernel
theorem dX5_readNumber_18 : decode cX5_readNumber 18 = .ok (.getfield 30, 3) := by decide +kernel
theorem dX5_readNumber_21 : decode cX5_readNumber 21 = .ok (.getfield 241, 3) := by decide +kernel
theorem dX5_readNumber_24 : decode cX5_readNumber 24 = .ok (.iload_n 1, 1) := by decide +kernel
theorem dX5_readNumber_25 : decode cX5_readNumber 25 = .ok (.if_icmp .le 9, 3) := by decide +kernel
theorem dX5_readNumber_28 : decode cX5_readNumber 28 = .ok (.aload_n 0, 1) := by decide +kernel
theorem dX5_readNumber_29 : decode cX5_readNumber 29 = .ok (.iconst 4, 1) := by decide +kernel
theorem dX5_readNumber_30 : decode cX5_readNumber 30 = .ok (.invokevirtual 109, 3) := by decide +kernel
theorem dX5_readNumber_33 : decode cX5_readNumber 33 = .ok (.ireturn, 1) := by decide +kernel
theorem dX5_readNumber_34 : decode cX5_readNumber 34 = .ok (.aload_n 0, 1) := by decide +kernel
theorem dX5_readNumber_35 : decode cX5_readNumber 35 = .ok (.aload_n 0, 1) := by decide +kernel
theorem dX5_readNumber_36 : decode cX5_readNumber 36 = .ok (.getfield 30, 3) := by decide +kernel
theorem dX5_readNumber_39 : decode cX5_readNumber 39 = .ok (.getfield 241, 3) := by decide +kernel
theorem dX5_readNumber_42 : decode cX5_readNumber 42 = .ok (.putfield 148, 3) := by decide +kernel
theorem dX5_readNumber_45 : decode cX5_readNumber 45 = .ok (.aload_n 0, 1) := by decide +kernel
theorem dX5_readNumber_46 : decode cX5_readNumber 46 = .ok (.getfield 30, 3) := by decide +kernel
theorem dX5_readNumber_49 : decode cX5_readNumber 49 = .ok (.invokevirtual 42, 3) := by decide +kernel
theorem dX5_readNumber_52 : decode cX5_readNumber 52 = .ok (.iconst 1, 1) := by decide +kernel
theorem dX5_readNumber_53 : decode cX5_readNumber 53 = .ok (.ireturn, 1) := by decide +kernel
theorem dX5_isNewName_0 : decode cX5_isNewName 0 = .ok (.aload_n 0, 1) := by decide +kernel
theorem dX5_isNewName_1 : decode cX5_isNewName 1 = .ok (.getfield 30, 3) := by decide +kernel
theorem dX5_isNewName_4 : decode cX5_isNewName 4 = .ok (.invokevirtual 229, 3) := by decide +kernel
theorem dX5_isNewName_7 : decode cX5_isNewName 7 = .ok (.ifCond .ne 9, 3) := by decide +kernel
theorem dX5_isNewName_10 : decode cX5_isNewName 10 = .ok (.aload_n 0, 1) := by decide +kernel
theorem dX5_isNewName_11 : decode cX5_isNewName 11 = .ok (.iconst 1, 1) := by decide +kernel
theorem dX5_isNewName_12 : decode cX5_isNewName 12 = .ok (.invokevirtual 109, 3) := by decide +kernel
theorem dX5_isNewName_15 : decode cX5_isNewName 15 = .ok (.ireturn, 1) := by decide +kernel
theorem dX5_isNewName_16 : decode cX5_isNewName 16 = .ok (.aload_n 0, 1) := by decide +kernel
theorem dX5_isNewName_17 : decode cX5_isNewName 17 = .ok (.aload_n 0, 1) := by decide +kernel
theorem dX5_isNewName_18 : decode cX5_isNewName 18 = .ok (.getfield 30, 3) := by decide +kernel
theorem dX5_isNewName_21 : decode cX5_isNewName 21 = .ok (.getfield 160, 3) := by decide +kernel
theorem dX5_isNewName_24 : decode cX5_isNewName 24 = .ok (.invokevirtual 183, 3) := by decide +kernel
theorem dX5_isNewName_27 : decode cX5_isNewName 27 = .ok (.iconst (-1), 1) := by decide +kernel
theorem dX5_isNewName_28 : decode cX5_isNewName 28 = .ok (.if_icmp .eq 7, 3) := by decide +kernel
theorem dX5_isNewName_31 : decode cX5_isNewName 31 = .ok (.iconst 1, 1) := by decide +kernel
theorem dX5_isNewName_32 : decode cX5_isNewName 32 = .ok (.goto 4, 3) := by decide +kernel
theorem dX5_isNewName_35 : decode cX5_isNewName 35 = .ok (.iconst 0, 1) := by decide +kernel
theorem dX5_isNewName_36 : decode cX5_isNewName 36 = .ok (.istore_n 1, 1) := by decide +kernel
theorem dX5_isNewName_37 : decode cX5_isNewName 37 = .ok (.iconst 0, 1) := by decide +kernel
theorem dX5_isNewName_38 : decode cX5_isNewName 38 = .ok (.istore_n 2, 1) := by decide +kernel
theorem dX5_isNewName_39 : decode cX5_isNewName 39 = .ok (.iload_n 2, 1) := by decide +kernel
theorem dX5_isNewName_40 : decode cX5_isNewName 40 = .ok (.aload_n 0, 1) := by decide +kernel
theorem dX5_isNewName_41 : decode cX5_isNewName 41 = .ok (.getfield 12, 3) := by decide +kernel
theorem dX5_isNewName_44 : decode cX5_isNewName 44 = .ok (.getfield 205, 3) := by decide +kernel
theorem dX5_isNewName_47 : decode cX5_isNewName 47 = .ok (.if_icmp .ge 36, 3) := by decide +kernel
theorem dX5_isNewName_50 : decode cX5_isNewName 50 = .ok (.iload_n 1, 1) := by decide +kernel
theorem dX5_isNewName_51 : decode cX5_isNewName 51 = .ok (.ifCond .ne 20, 3) := by decide +kernel
theorem dX5_isNewName_54 : decode cX5_isNewName 54 = .ok (.aload_n 0, 1) := by decide +kernel
theorem dX5_isNewName_55 : decode cX5_isNewName 55 = .ok (.getfield 22, 3) := by decide +kernel
theorem dX5_isNewName_58 : decode cX5_isNewName 58 = .ok (.iload_n 2, 1) := by decide +kernel
theorem dX5_isNewName_59 : decode cX5_isNewName 59 = .ok (.laload, 1) := by decide +kernel
theorem dX5_isNewName_60 : decode cX5_isNewName 60 = .ok (.aload_n 0, 1) := by decide +kernel
theorem dX5_isNewName_61 : decode cX5_isNewName 61 = .ok (.getfield 30, 3) := by decide +kernel
theorem dX5_isNewName_64 : decode cX5_isNewName 64 = .ok (.getfield 160, 3) := by decide +kernel
theorem dX5_isNewName_67 : decode cX5_isNewName 67 = .ok (.lcmp, 1) := by decide +kernel
theorem dX5_isNewName_68 : decode cX5_isNewName 68 = .ok (.ifCond .ne 7, 3) := by decide +kernel
theorem dX5_isNewName_71 : decode cX5_isNewName 71 = .ok (.iconst 1, 1) := by decide +kernel
theorem dX5_isNewName_72 : decode cX5_isNewName 72 = .ok (.goto 4, 3) := by decide +kernel
theorem dX5_isNewName_75 : decode cX5_isNewName 75 = .ok (.iconst 0, 1) := by decide +kernel
theorem dX5_isNewName_76 : decode cX5_isNewName 76 = .ok (.istore_n 1, 1) := by decide +kernel
theorem dX5_isNewName_77 : decode cX5_isNewName 77 = .ok (.iinc 2 1, 3) := by decide +kernel
theorem dX5_isNewName_80 : decode cX5_isNewName 80 = .ok (.goto (-41), 3) := by decide +kernel
theorem dX5_isNewName_83 : decode cX5_isNewName 83 = .ok (.iload_n 1, 1) := by decide +kernel
theorem dX5_isNewName_84 : decode cX5_isNewName 84 = .ok (.ifCond .eq 11, 3) := by decide +kernel
theorem dX5_isNewName_87 : decode cX5_isNewName 87 = .ok (.aload_n 0, 1) := by decide +kernel
theorem dX5_isNewName_88 : decode cX5_isNewName 88 = .ok (.iconst 3, 1) := by decide +kernel
theorem dX5_isNewName_89 : decode cX5_isNewName 89 = .ok (.invokevirtual 109, 3) := by decide +kernel
theorem dX5_isNewName_92 : decode cX5_isNewName 92 = .ok (.ifCond .eq 7, 3) := by decide +kernel
theorem dX5_isNewName_95 : decode cX5_isNewName 95 = .ok (.iconst 1, 1) := by decide +kernel
theorem dX5_isNewName_96 : decode cX5_isNewName 96 = .ok (.goto 4, 3) := by decide +kernel
theorem dX5_isNewName_99 : decode cX5_isNewName 99 = .ok (.iconst 0, 1) := by decide +kernel
theorem dX5_isNewName_100 : decode cX5_isNewName 100 = .ok (.ireturn, 1) := by decide +kernel
theorem dX5_isCellName_0 : decode cX5_isCellName 0 = .ok (.aload_n 0, 1) := by decide +kernel
theorem dX5_isCellName_1 : decode cX5_isCellName 1 = .ok (.getfield 30, 3) := by decide +kernel
theorem dX5_isCellName_4 : decode cX5_isCellName 4 = .ok (.invokevirtual 229, 3) := by decide +kernel
theorem dX5_isCellName_7 : decode cX5_isCellName 7 = .ok (.ifCond .ne 9, 3) := by decide +kernel
theorem dX5_isCellName_10 : decode cX5_isCellName 10 = .ok (.aload_n 0, 1) := by decide +kernel
theorem dX5_isCellName_11 : decode cX5_isCellName 11 = .ok (.iconst 1, 1) := by decide +kernel
theorem dX5_isCellName_12 : decode cX5_isCellName 12 = .ok (.invokevirtual 109, 3) := by decide +kernel
theorem dX5_isCellName_15 : decode cX5_isCellName 15 = .ok (.ireturn, 1) := by decide +kernel
theorem dX5_isCellName_16 : decode cX5_isCellName 16 = .ok (.aload_n 0, 1) := by decide +kernel
theorem dX5_isCellName_17 : decode cX5_isCellName 17 = .ok (.aload_n 0, 1) := by decide +kernel
theorem dX5_isCellName_18 : decode cX5_isCellName 18 = .ok (.getfield 30, 3) := by decide +kernel
theorem dX5_isCellName_21 : decode cX5_isCellName 21 = .ok (.getfield 160, 3) := by decide +kernel
theorem dX5_isCellName_24 : decode cX5_isCellName 24 = .ok (.invokevirtual 183, 3) := by decide +kernel
theorem dX5_isCellName_27 : decode cX5_isCellName 27 = .ok (.iconst (-1), 1) := by decide +kernel
theorem dX5_isCellName_28 : decode cX5_isCellName 28 = .ok (.if_icmp .ne 11, 3) := by decide +kernel
theorem dX5_isCellName_31 : decode cX5_isCellName 31 = .ok (.aload_n 0, 1) := by decide +kernel
theorem dX5_isCellName_32 : decode cX5_isCellName 32 = .ok (.iconst 2, 1) := by decide +kernel
theorem dX5_isCellName_33 : decode cX5_isCellName 33 = .ok (.invokevirtual 109, 3) := by decide +kernel
theorem dX5_isCellName_36 : decode cX5_isCellName 36 = .ok (.ifCond .eq 7, 3) := by decide +kernel
theorem dX5_isCellName_39 : decode cX5_isCellName 39 = .ok (.iconst 1, 1) := by decide +kernel
theorem dX5_isCellName_40 : decode cX5_isCellName 40 = .ok (.goto 4, 3) := by decide +kernel
theorem dX5_isCellName_43 : decode cX5_isCellName 43 = .ok (.iconst 0, 1) := by decide +kernel
theorem dX5_isCellName_44 : decode cX5_isCellName 44 = .ok (.ireturn, 1) := by decide +kernel
theorem dX5_cellNamed_0 : decode cX5_cellNamed 0 = .ok (.iconst 0, 1) := by decide +kernel
theorem dX5_cellNamed_1 : decode cX5_cellNamed 1 = .ok (.istore_n 3, 1) := by decide +kernel
theorem dX5_cellNamed_2 : decode cX5_cellNamed 2 = .ok (.iload_n 3, 1) := by decide +kernel
theorem dX5_cellNamed_3 : decode cX5_cellNamed 3 = .ok (.aload_n 0, 1) := by decide +kernel
theorem dX5_cellNamed_4 : decode cX5_cellNamed 4 = .ok (.getfield 12, 3) := by decide +kernel
theorem dX5_cellNamed_7 : decode cX5_cellNamed 7 = .ok (.getfield 154, 3) := by decide +kernel
theorem dX5_cellNamed_10 : decode cX5_cellNamed 10 = .ok (.if_icmp .ge 22, 3) := by decide +kernel
theorem dX5_cellNamed_13 : decode cX5_cellNamed 13 = .ok (.aload_n 0, 1) := by decide +kernel
theorem dX5_cellNamed_14 : decode cX5_cellNamed 14 = .ok (.getfield 18, 3) := by decide +kernel
theorem dX5_cellNamed_17 : decode cX5_cellNamed 17 = .ok (.iload_n 3, 1) := by decide +kernel
theorem dX5_cellNamed_18 : decode cX5_cellNamed 18 = .ok (.laload, 1) := by decide +kernel
theorem dX5_cellNamed_19 : decode cX5_cellNamed 19 = .ok (.lload_n 1, 1) := by decide +kernel
theorem dX5_cellNamed_20 : decode cX5_cellNamed 20 = .ok (.lcmp, 1) := by decide +kernel
theorem dX5_cellNamed_21 : decode cX5_cellNamed 21 = .ok (.ifCond .ne 5, 3) := by decide +kernel
theorem dX5_cellNamed_24 : decode cX5_cellNamed 24 = .ok (.iload_n 3, 1) := by decide +kernel
theorem dX5_cellNamed_25 : decode cX5_cellNamed 25 = .ok (.ireturn, 1) := by decide +kernel
theorem dX5_cellNamed_26 : decode cX5_cellNamed 26 = .ok (.iinc 3 1, 3) := by decide +kernel
theorem dX5_cellNamed_29 : decode cX5_cellNamed 29 = .ok (.goto (-27), 3) := by decide +kernel
theorem dX5_cellNamed_32 : decode cX5_cellNamed 32 = .ok (.iconst (-1), 1) := by decide +kernel
theorem dX5_cellNamed_33 : decode cX5_cellNamed 33 = .ok (.ireturn, 1) := by decide +kernel
theorem dX5_readLevel_0 : decode cX5_readLevel 0 = .ok (.iload_n 1, 1) := by decide +kernel
theorem dX5_readLevel_1 : decode cX5_readLevel 1 = .ok (.iconst 4, 1) := by decide +kernel
theorem dX5_readLevel_2 : decode cX5_readLevel 2 = .ok (.if_icmp .lt 9, 3) := by decide +kernel
theorem dX5_readLevel_5 : decode cX5_readLevel 5 = .ok (.aload_n 0, 1) := by decide +kernel
theorem dX5_readLevel_6 : decode cX5_readLevel 6 = .ok (.iload_n 2, 1) := by decide +kernel
theorem dX5_readLevel_7 : decode cX5_readLevel 7 = .ok (.invokevirtual 242, 3) := by decide +kernel
theorem dX5_readLevel_10 : decode cX5_readLevel 10 = .ok (.ireturn, 1) := by decide +kernel
theorem dX5_readLevel_11 : decode cX5_readLevel 11 = .ok (.aload_n 0, 1) := by decide +kernel
theorem dX5_readLevel_12 : decode cX5_readLevel 12 = .ok (.iload_n 1, 1) := by decide +kernel
theorem dX5_readLevel_13 : decode cX5_readLevel 13 = .ok (.iconst 1, 1) := by decide +kernel
theorem dX5_readLevel_14 : decode cX5_readLevel 14 = .ok (.iadd, 1) := by decide +kernel
theorem dX5_readLevel_15 : decode cX5_readLevel 15 = .ok (.iload_n 2, 1) := by decide +kernel
theorem dX5_readLevel_16 : decode cX5_readLevel 16 = .ok (.invokevirtual 132, 3) := by decide +kernel
theorem dX5_readLevel_19 : decode cX5_readLevel 19 = .ok (.ifCond .ne 5, 3) := by decide +kernel
theorem dX5_readLevel_22 : decode cX5_readLevel 22 = .ok (.iconst 0, 1) := by decide +kernel
theorem dX5_readLevel_23 : decode cX5_readLevel 23 = .ok (.ireturn, 1) := by decide +kernel
theorem dX5_readLevel_24 : decode cX5_readLevel 24 = .ok (.iload_n 1, 1) := by decide +kernel
theorem dX5_readLevel_25 : decode cX5_readLevel 25 = .ok (.iconst 1, 1) := by decide +kernel
theorem dX5_readLevel_26 : decode cX5_readLevel 26 = .ok (.if_icmp .ne 7, 3) := by decide +kernel
theorem dX5_readLevel_29 : decode cX5_readLevel 29 = .ok (.iconst 1, 1) := by decide +kernel
theorem dX5_readLevel_30 : decode cX5_readLevel 30 = .ok (.goto 6, 3) := by decide +kernel
theorem dX5_readLevel_33 : decode cX5_readLevel 33 = .ok (.sipush 1000, 3) := by decide +kernel
theorem dX5_readLevel_36 : decode cX5_readLevel 36 = .ok (.istore_n 3, 1) := by decide +kernel
theorem dX5_readLevel_37 : decode cX5_readLevel 37 = .ok (.iconst 0, 1) := by decide +kernel
theorem dX5_readLevel_38 : decode cX5_readLevel 38 = .ok (.istore 4, 2) := by decide +kernel
theorem dX5_readLevel_40 : decode cX5_readLevel 40 = .ok (.iload 4, 2) := by decide +kernel
theorem dX5_readLevel_42 : decode cX5_readLevel 42 = .ok (.iload_n 3, 1) := by decide +kernel
theorem dX5_readLevel_43 : decode cX5_readLevel 43 = .ok (.if_icmp .ge 51, 3) := by decide +kernel
theorem dX5_readLevel_46 : decode cX5_readLevel 46 = .ok (.aload_n 0, 1) := by decide +kernel
theorem dX5_readLevel_47 : decode cX5_readLevel 47 = .ok (.iload_n 1, 1) := by decide +kernel
theorem dX5_readLevel_48 : decode cX5_readLevel 48 = .ok (.invokevirtual 245, 3) := by decide +kernel
theorem dX5_readLevel_51 : decode cX5_readLevel 51 = .ok (.istore 5, 2) := by decide +kernel
theorem dX5_readLevel_53 : decode cX5_readLevel 53 = .ok (.iload 5, 2) := by decide +kernel
theorem dX5_readLevel_55 : decode cX5_readLevel 55 = .ok (.iconst (-1), 1) := by decide +kernel
theorem dX5_readLevel_56 : decode cX5_readLevel 56 = .ok (.if_icmp .ne 5, 3) := by decide +kernel
theorem dX5_readLevel_59 : decode cX5_readLevel 59 = .ok (.iconst 1, 1) := by decide +kernel
theorem dX5_readLevel_60 : decode cX5_readLevel 60 = .ok (.ireturn, 1) := by decide +kernel
theorem dX5_readLevel_61 : decode cX5_readLevel 61 = .ok (.aload_n 0, 1) := by decide +kernel
theorem dX5_readLevel_62 : decode cX5_readLevel 62 = .ok (.getfield 30, 3) := by decide +kernel
theorem dX5_readLevel_65 : decode cX5_readLevel 65 = .ok (.invokevirtual 42, 3) := by decide +kernel
theorem dX5_readLevel_68 : decode cX5_readLevel 68 = .ok (.aload_n 0, 1) := by decide +kernel
theorem dX5_readLevel_69 : decode cX5_readLevel 69 = .ok (.iload_n 1, 1) := by decide +kernel
theorem dX5_readLevel_70 : decode cX5_readLevel 70 = .ok (.iconst 1, 1) := by decide +kernel
theorem dX5_readLevel_71 : decode cX5_readLevel 71 = .ok (.iadd, 1) := by decide +kernel
theorem dX5_readLevel_72 : decode cX5_readLevel 72 = .ok (.iload_n 2, 1) := by decide +kernel
theorem dX5_readLevel_73 : decode cX5_readLevel 73 = .ok (.invokevirtual 132, 3) := by decide +kernel
theorem dX5_readLevel_76 : decode cX5_readLevel 76 = .ok (.ifCond .ne 5, 3) := by decide +kernel
theorem dX5_readLevel_79 : decode cX5_readLevel 79 = .ok (.iconst 0, 1) := by decide +kernel
theorem dX5_readLevel_80 : decode cX5_readLevel 80 = .ok (.ireturn, 1) := by decide +kernel
theorem dX5_readLevel_81 : decode cX5_readLevel 81 = .ok (.aload_n 0, 1) := by decide +kernel
theorem dX5_readLevel_82 : decode cX5_readLevel 82 = .ok (.iload 5, 2) := by decide +kernel
theorem dX5_readLevel_84 : decode cX5_readLevel 84 = .ok (.iconst 0, 1) := by decide +kernel
theorem dX5_readLevel_85 : decode cX5_readLevel 85 = .ok (.invokevirtual 249, 3) := by decide +kernel
theorem dX5_readLevel_88 : decode cX5_readLevel 88 = .ok (.iinc 4 1, 3) := by decide +kernel
theorem dX5_readLevel_91 : decode cX5_readLevel 91 = .ok (.goto (-51), 3) := by decide +kernel
theorem dX5_readLevel_94 : decode cX5_readLevel 94 = .ok (.iconst 1, 1) := by decide +kernel
theorem dX5_readLevel_95 : decode cX5_readLevel 95 = .ok (.ireturn, 1) := by decide +kernel
theorem dX5_operatorOf_0 : decode cX5_operatorOf 0 = .ok (.iload_n 1, 1) := by decide +kernel
theorem dX5_operatorOf_1 : decode cX5_operatorOf 1 = .ok (.tableswitch 134 0 2 #[27, 63, 98], 27) := by decide +kernel
theorem dX5_operatorOf_28 : decode cX5_operatorOf 28 = .ok (.aload_n 0, 1) := by decide +kernel
theorem dX5_operatorOf_29 : decode cX5_operatorOf 29 = .ok (.getfield 30, 3) := by decide +kernel
theorem dX5_operatorOf_32 : decode cX5_operatorOf 32 = .ok (.getfield 63, 3) := by decide +kernel
theorem dX5_operatorOf_35 : decode cX5_operatorOf 35 = .ok (.getstatic 253, 3) := by decide +kernel
theorem dX5_operatorOf_38 : decode cX5_operatorOf 38 = .ok (.if_acmp .ne 7, 3) := by decide +kernel
theorem dX5_operatorOf_41 : decode cX5_operatorOf 41 = .ok (.iconst 3, 1) := by decide +kernel
theorem dX5_operatorOf_42 : decode cX5_operatorOf 42 = .ok (.goto 21, 3) := by decide +kernel
theorem dX5_operatorOf_45 : decode cX5_operatorOf 45 = .ok (.aload_n 0, 1) := by decide +kernel
theorem dX5_operatorOf_46 : decode cX5_operatorOf 46 = .ok (.getfield 30, 3) := by decide +kernel
theorem dX5_operatorOf_49 : decode cX5_operatorOf 49 = .ok (.getfield 63, 3) := by decide +kernel
theorem dX5_operatorOf_52 : decode cX5_operatorOf 52 = .ok (.getstatic 256, 3) := by decide +kernel
theorem dX5_operatorOf_55 : decode cX5_operatorOf 55 = .ok (.if_acmp .ne 7, 3) := by decide +kernel
theorem dX5_operatorOf_58 : decode cX5_operatorOf 58 = .ok (.iconst 4, 1) := by decide +kernel
theorem dX5_operatorOf_59 : decode cX5_operatorOf 59 = .ok (.goto 4, 3) := by decide +kernel
theorem dX5_operatorOf_62 : decode cX5_operatorOf 62 = .ok (.iconst (-1), 1) := by decide +kernel
theorem dX5_operatorOf_63 : decode cX5_operatorOf 63 = .ok (.ireturn, 1) := by decide +kernel
theorem dX5_operatorOf_64 : decode cX5_operatorOf 64 = .ok (.aload_n 0, 1) := by decide +kernel
theorem dX5_operatorOf_65 : decode cX5_operatorOf 65 = .ok (.getfield 30, 3) := by decide +kernel
theorem dX5_operatorOf_68 : decode cX5_operatorOf 68 = .ok (.bipush 60, 2) := by decide +kernel
theorem dX5_operatorOf_70 : decode cX5_operatorOf 70 = .ok (.invokevirtual 238, 3) := by decide +kernel
theorem dX5_operatorOf_73 : decode cX5_operatorOf 73 = .ok (.ifCond .eq 7, 3) := by decide +kernel
theorem dX5_operatorOf_76 : decode cX5_operatorOf 76 = .ok (.iconst 5, 1) := by decide +kernel
theorem dX5_operatorOf_77 : decode cX5_operatorOf 77 = .ok (.goto 21, 3) := by decide +kernel
theorem dX5_operatorOf_80 : decode cX5_operatorOf 80 = .ok (.aload_n 0, 1) := by decide +kernel
theorem dX5_operatorOf_81 : decode cX5_operatorOf 81 = .ok (.getfield 30, 3) := by decide +kernel
theorem dX5_operatorOf_84 : decode cX5_operatorOf 84 = .ok (.bipush 61, 2) := by decide +kernel
theorem dX5_operatorOf_86 : decode cX5_operatorOf 86 = .ok (.invokevirtual 238, 3) := by decide +kernel
theorem dX5_operatorOf_89 : decode cX5_operatorOf 89 = .ok (.ifCond .eq 8, 3) := by decide +kernel
theorem dX5_operatorOf_92 : decode cX5_operatorOf 92 = .ok (.bipush 6, 2) := by decide +kernel
theorem dX5_operatorOf_94 : decode cX5_operatorOf 94 = .ok (.goto 4, 3) := by decide +kernel
theorem dX5_operatorOf_97 : decode cX5_operatorOf 97 = .ok (.iconst (-1), 1) := by decide +kernel
theorem dX5_operatorOf_98 : decode cX5_operatorOf 98 = .ok (.ireturn, 1) := by decide +kernel
theorem dX5_operatorOf_99 : decode cX5_operatorOf 99 = .ok (.aload_n 0, 1) := by decide +kernel
theorem dX5_operatorOf_100 : decode cX5_operatorOf 100 = .ok (.getfield 30, 3) := by decide +kernel
theorem dX5_operatorOf_103 : decode cX5_operatorOf 103 = .ok (.bipush 43, 2) := by decide +kernel
theorem dX5_operatorOf_105 : decode cX5_operatorOf 105 = .ok (.invokevirtual 238, 3) := by decide +kernel
theorem dX5_operatorOf_108 : decode cX5_operatorOf 108 = .ok (.ifCond .eq 8, 3) := by decide +kernel
theorem dX5_operatorOf_111 : decode cX5_operatorOf 111 = .ok (.bipush 7, 2) := by decide +kernel
theorem dX5_operatorOf_113 : decode cX5_operatorOf 113 = .ok (.goto 21, 3) := by decide +kernel
theorem dX5_operatorOf_116 : decode cX5_operatorOf 116 = .ok (.aload_n 0, 1) := by decide +kernel
theorem dX5_operatorOf_117 : decode cX5_operatorOf 117 = .ok (.getfield 30, 3) := by decide +kernel
theorem dX5_operatorOf_120 : decode cX5_operatorOf 120 = .ok (.bipush 45, 2) := by decide +kernel
theorem dX5_operatorOf_122 : decode cX5_operatorOf 122 = .ok (.invokevirtual 238, 3) := by decide +kernel
theorem dX5_operatorOf_125 : decode cX5_operatorOf 125 = .ok (.ifCond .eq 8, 3) := by decide +kernel
theorem dX5_operatorOf_128 : decode cX5_operatorOf 128 = .ok (.bipush 8, 2) := by decide +kernel
theorem dX5_operatorOf_130 : decode cX5_operatorOf 130 = .ok (.goto 4, 3) := by decide +kernel
theorem dX5_operatorOf_133 : decode cX5_operatorOf 133 = .ok (.iconst (-1), 1) := by decide +kernel
theorem dX5_operatorOf_134 : decode cX5_operatorOf 134 = .ok (.ireturn, 1) := by decide +kernel
theorem dX5_operatorOf_135 : decode cX5_operatorOf 135 = .ok (.aload_n 0, 1) := by decide +kernel
theorem dX5_operatorOf_136 : decode cX5_operatorOf 136 = .ok (.getfield 30, 3) := by decide +kernel
theorem dX5_operatorOf_139 : decode cX5_operatorOf 139 = .ok (.bipush 42, 2) := by decide +kernel
theorem dX5_operatorOf_141 : decode cX5_operatorOf 141 = .ok (.invokevirtual 238, 3) := by decide +kernel
theorem dX5_operatorOf_144 : decode cX5_operatorOf 144 = .ok (.ifCond .eq 8, 3) := by decide +kernel
theorem dX5_operatorOf_147 : decode cX5_operatorOf 147 = .ok (.bipush 9, 2) := by decide +kernel
theorem dX5_operatorOf_149 : decode cX5_operatorOf 149 = .ok (.goto 4, 3) := by decide +kernel
theorem dX5_operatorOf_152 : decode cX5_operatorOf 152 = .ok (.iconst (-1), 1) := by decide +kernel
theorem dX5_operatorOf_153 : decode cX5_operatorOf 153 = .ok (.ireturn, 1) := by decide +kernel
theorem dX5_readPart_0 : decode cX5_readPart 0 = .ok (.aload_n 0, 1) := by decide +kernel
theorem dX5_readPart_1 : decode cX5_readPart 1 = .ok (.getfield 30, 3) := by decide +kernel
theorem dX5_readPart_4 : decode cX5_readPart 4 = .ok (.getfield 47, 3) := by decide +kernel
theorem dX5_readPart_7 : decode cX5_readPart 7 = .ok (.iconst 3, 1) := by decide +kernel
theorem dX5_readPart_8 : decode cX5_readPart 8 = .ok (.if_icmp .ne 7, 3) := by decide +kernel
theorem dX5_readPart_11 : decode cX5_readPart 11 = .ok (.iconst 1, 1) := by decide +kernel
theorem dX5_readPart_12 : decode cX5_readPart 12 = .ok (.goto 4, 3) := by decide +kernel
theorem dX5_readPart_15 : decode cX5_readPart 15 = .ok (.iconst 0, 1) := by decide +kernel
theorem dX5_readPart_16 : decode cX5_readPart 16 = .ok (.istore_n 2, 1) := by decide +kernel
theorem dX5_readPart_17 : decode cX5_readPart 17 = .ok (.aload_n 0, 1) := by decide +kernel
theorem dX5_readPart_18 : decode cX5_readPart 18 = .ok (.getfield 30, 3) := by decide +kernel
theorem dX5_readPart_21 : decode cX5_readPart 21 = .ok (.getfield 63, 3) := by decide +kernel
theorem dX5_readPart_24 : decode cX5_readPart 24 = .ok (.getstatic 259, 3) := by decide +kernel
theorem dX5_readPart_27 : decode cX5_readPart 27 = .ok (.if_acmp .ne 7, 3) := by decide +kernel
theorem dX5_readPart_30 : decode cX5_readPart 30 = .ok (.iconst 1, 1) := by decide +kernel
theorem dX5_readPart_31 : decode cX5_readPart 31 = .ok (.goto 4, 3) := by decide +kernel
theorem dX5_readPart_34 : decode cX5_readPart 34 = .ok (.iconst 0, 1) := by decide +kernel
theorem dX5_readPart_35 : decode cX5_readPart 35 = .ok (.istore_n 3, 1) := by decide +kernel
theorem dX5_readPart_36 : decode cX5_readPart 36 = .ok (.aload_n 0, 1) := by decide +kernel
theorem dX5_readPart_37 : decode cX5_readPart 37 = .ok (.getfield 30, 3) := by decide +kernel
theorem dX5_readPart_40 : decode cX5_readPart 40 = .ok (.getfield 63, 3) := by decide +kernel
theorem dX5_readPart_43 : decode cX5_readPart 43 = .ok (.ifnull 31, 3) := by decide +kernel
theorem dX5_readPart_46 : decode cX5_readPart 46 = .ok (.aload_n 0, 1) := by decide +kernel
theorem dX5_readPart_47 : decode cX5_readPart 47 = .ok (.getfield 30, 3) := by decide +kernel
theorem dX5_readPart_50 : decode cX5_readPart 50 = .ok (.getfield 63, 3) := by decide +kernel
theorem dX5_readPart_53 : decode cX5_readPart 53 = .ok (.getfield 262, 3) := by decide +kernel
theorem dX5_readPart_56 : decode cX5_readPart 56 = .ok (.aload_n 0, 1) := by decide +kernel
theorem dX5_readPart_57 : decode cX5_readPart 57 = .ok (.getfield 123, 3) := by decide +kernel
theorem dX5_readPart_60 : decode cX5_readPart 60 = .ok (.aload_n 0, 1) := by decide +kernel
theorem dX5_readPart_61 : decode cX5_readPart 61 = .ok (.getfield 126, 3) := by decide +kernel
theorem dX5_readPart_64 : decode cX5_readPart 64 = .ok (.invokestatic 265, 3) := by decide +kernel
theorem dX5_readPart_67 : decode cX5_readPart 67 = .ok (.ifCond .eq 7, 3) := by decide +kernel
theorem dX5_readPart_70 : decode cX5_readPart 70 = .ok (.iconst 1, 1) := by decide +kernel
theorem dX5_readPart_71 : decode cX5_readPart 71 = .ok (.goto 4, 3) := by decide +kernel
theorem dX5_readPart_74 : decode cX5_readPart 74 = .ok (.iconst 0, 1) := by decide +kernel
theorem dX5_readPart_75 : decode cX5_readPart 75 = .ok (.istore 4, 2) := by decide +kernel
theorem dX5_readPart_77 : decode cX5_readPart 77 = .ok (.iload_n 2, 1) := by decide +kernel
theorem dX5_readPart_78 : decode cX5_readPart 78 = .ok (.ifCond .ne 30, 3) := by decide +kernel
theorem dX5_readPart_81 : decode cX5_readPart 81 = .ok (.iload_n 3, 1) := by decide +kernel
theorem dX5_readPart_82 : decode cX5_readPart 82 = .ok (.ifCond .ne 26, 3) := by decide +kernel
theorem dX5_readPart_85 : decode cX5_readPart 85 = .ok (.iload 4, 2) := by decide +kernel
theorem dX5_readPart_87 : decode cX5_readPart 87 = .ok (.ifCond .ne 21, 3) := by decide +kernel
theorem dX5_readPart_90 : decode cX5_readPart 90 = .ok (.aload_n 0, 1) := by decide +kernel
theorem dX5_readPart_91 : decode cX5_readPart 91 = .ok (.getfield 30, 3) := by decide +kernel
theorem dX5_readPart_94 : decode cX5_readPart 94 = .ok (.bipush 40, 2) := by decide +kernel
theorem dX5_readPart_96 : decode cX5_readPart 96 = .ok (.invokevirtual 238, 3) := by decide +kernel
theorem dX5_readPart_99 : decode cX5_readPart 99 = .ok (.ifCond .ne 9, 3) := by decide +kernel
theorem dX5_readPart_102 : decode cX5_readPart 102 = .ok (.aload_n 0, 1) := by decide +kernel
theorem dX5_readPart_103 : decode cX5_readPart 103 = .ok (.iconst 1, 1) := by decide +kernel
theorem dX5_readPart_104 : decode cX5_readPart 104 = .ok (.invokevirtual 109, 3) := by decide +kernel
theorem dX5_readPart_107 : decode cX5_readPart 107 = .ok (.ireturn, 1) := by decide +kernel
theorem dX5_readPart_108 : decode cX5_readPart 108 = .ok (.iload_n 1, 1) := by decide +kernel
theorem dX5_readPart_109 : decode cX5_readPart 109 = .ok (.iconst 5, 1) := by decide +kernel
theorem dX5_readPart_110 : decode cX5_readPart 110 = .ok (.if_icmp .lt 9, 3) := by decide +kernel
theorem dX5_readPart_113 : decode cX5_readPart 113 = .ok (.aload_n 0, 1) := by decide +kernel
theorem dX5_readPart_114 : decode cX5_readPart 114 = .ok (.iconst 5, 1) := by decide +kernel
theorem dX5_readPart_115 : decode cX5_readPart 115 = .ok (.invokevirtual 109, 3) := by decide +kernel
theorem dX5_readPart_118 : decode cX5_readPart 118 = .ok (.ireturn, 1) := by decide +kernel
theorem dX5_readPart_119 : decode cX5_readPart 119 = .ok (.iload_n 2, 1) := by decide +kernel
theorem dX5_readPart_120 : decode cX5_readPart 120 = .ok (.ifCond .eq 18, 3) := by decide +kernel
theorem dX5_readPart_123 : decode cX5_readPart 123 = .ok (.aload_n 0, 1) := by decide +kernel
theorem dX5_readPart_124 : decode cX5_readPart 124 = .ok (.iconst 0, 1) := by decide +kernel
theorem dX5_readPart_125 : decode cX5_readPart 125 = .ok (.aload_n 0, 1) := by decide +kernel
theorem dX5_readPart_126 : decode cX5_readPart 126 = .ok (.getfield 30, 3) := by decide +kernel
theorem dX5_readPart_129 : decode cX5_readPart 129 = .ok (.getfield 241, 3) := by decide +kernel
theorem dX5_readPart_132 : decode cX5_readPart 132 = .ok (.invokevirtual 249, 3) := by decide +kernel
theorem dX5_readPart_135 : decode cX5_readPart 135 = .ok (.goto 23, 3) := by decide +kernel
theorem dX5_readPart_138 : decode cX5_readPart 138 = .ok (.iload 4, 2) := by decide +kernel
theorem dX5_readPart_140 : decode cX5_readPart 140 = .ok (.ifCond .eq 18, 3) := by decide +kernel
theorem dX5_readPart_143 : decode cX5_readPart 143 = .ok (.aload_n 0, 1) := by decide +kernel
theorem dX5_readPart_144 : decode cX5_readPart 144 = .ok (.iconst 1, 1) := by decide +kernel
theorem dX5_readPart_145 : decode cX5_readPart 145 = .ok (.aload_n 0, 1) := by decide +kernel
theorem dX5_readPart_146 : decode cX5_readPart 146 = .ok (.getfield 30, 3) := by decide +kernel
theorem dX5_readPart_149 : decode cX5_readPart 149 = .ok (.getfield 63, 3) := by decide +kernel
theorem dX5_readPart_152 : decode cX5_readPart 152 = .ok (.getfield 262, 3) := by decide +kernel
theorem dX5_readPart_155 : decode cX5_readPart 155 = .ok (.invokevirtual 249, 3) := by decide +kernel
theorem dX5_readPart_158 : decode cX5_readPart 158 = .ok (.aload_n 0, 1) := by decide +kernel
theorem dX5_readPart_159 : decode cX5_readPart 159 = .ok (.getfield 30, 3) := by decide +kernel
theorem dX5_readPart_162 : decode cX5_readPart 162 = .ok (.invokevirtual 42, 3) := by decide +kernel
theorem dX5_readPart_165 : decode cX5_readPart 165 = .ok (.iload_n 2, 1) := by decide +kernel
theorem dX5_readPart_166 : decode cX5_readPart 166 = .ok (.ifCond .ne 8, 3) := by decide +kernel
theorem dX5_readPart_169 : decode cX5_readPart 169 = .ok (.iload 4, 2) := by decide +kernel
theorem dX5_readPart_171 : decode cX5_readPart 171 = .ok (.ifCond .eq 5, 3) := by decide +kernel
theorem dX5_readPart_174 : decode cX5_readPart 174 = .ok (.iconst 1, 1) := by decide +kernel
theorem dX5_readPart_175 : decode cX5_readPart 175 = .ok (.ireturn, 1) := by decide +kernel
theorem dX5_readPart_176 : decode cX5_readPart 176 = .ok (.iload_n 3, 1) := by decide +kernel
theorem dX5_readPart_177 : decode cX5_readPart 177 = .ok (.ifCond .ne 29, 3) := by decide +kernel
theorem dX5_readPart_180 : decode cX5_readPart 180 = .ok (.aload_n 0, 1) := by decide +kernel
theorem dX5_readPart_181 : decode cX5_readPart 181 = .ok (.iconst 0, 1) := by decide +kernel
theorem dX5_readPart_182 : decode cX5_readPart 182 = .ok (.iload_n 1, 1) := by decide +kernel
theorem dX5_readPart_183 : decode cX5_readPart 183 = .ok (.iconst 1, 1) := by decide +kernel
theorem dX5_readPart_184 : decode cX5_readPart 184 = .ok (.iadd, 1) := by decide +kernel
theorem dX5_readPart_185 : decode cX5_readPart 185 = .ok (.invokevirtual 132, 3) := by decide +kernel
theorem dX5_readPart_188 : decode cX5_readPart 188 = .ok (.ifCond .eq 16, 3) := by decide +kernel
theorem dX5_readPart_191 : decode cX5_readPart 191 = .ok (.aload_n 0, 1) := by decide +kernel
theorem dX5_readPart_192 : decode cX5_readPart 192 = .ok (.bipush 41, 2) := by decide +kernel
theorem dX5_readPart_194 : decode cX5_readPart 194 = .ok (.invokevirtual 113, 3) := by decide +kernel
theorem dX5_readPart_197 : decode cX5_readPart 197 = .ok (.ifCond .eq 7, 3) := by decide +kernel
theorem dX5_readPart_200 : decode cX5_readPart 200 = .ok (.iconst 1, 1) := by decide +kernel
theorem dX5_readPart_201 : decode cX5_readPart 201 = .ok (.goto 4, 3) := by decide +kernel
theorem dX5_readPart_204 : decode cX5_readPart 204 = .ok (.iconst 0, 1) := by decide +kernel
theorem dX5_readPart_205 : decode cX5_readPart 205 = .ok (.ireturn, 1) := by decide +kernel
theorem dX5_readPart_206 : decode cX5_readPart 206 = .ok (.aload_n 0, 1) := by decide +kernel
theorem dX5_readPart_207 : decode cX5_readPart 207 = .ok (.iload_n 1, 1) := by decide +kernel
theorem dX5_readPart_208 : decode cX5_readPart 208 = .ok (.iconst 1, 1) := by decide +kernel
theorem dX5_readPart_209 : decode cX5_readPart 209 = .ok (.iadd, 1) := by decide +kernel
theorem dX5_readPart_210 : decode cX5_readPart 210 = .ok (.invokevirtual 242, 3) := by decide +kernel
theorem dX5_readPart_213 : decode cX5_readPart 213 = .ok (.ifCond .ne 5, 3) := by decide +kernel
theorem dX5_readPart_216 : decode cX5_readPart 216 = .ok (.iconst 0, 1) := by decide +kernel
theorem dX5_readPart_217 : decode cX5_readPart 217 = .ok (.ireturn, 1) := by decide +kernel
theorem dX5_readPart_218 : decode cX5_readPart 218 = .ok (.aload_n 0, 1) := by decide +kernel
theorem dX5_readPart_219 : decode cX5_readPart 219 = .ok (.iconst 2, 1) := by decide +kernel
theorem dX5_readPart_220 : decode cX5_readPart 220 = .ok (.iconst 0, 1) := by decide +kernel
theorem dX5_readPart_221 : decode cX5_readPart 221 = .ok (.invokevirtual 249, 3) := by decide +kernel
theorem dX5_readPart_224 : decode cX5_readPart 224 = .ok (.iconst 1, 1) := by decide +kernel
theorem dX5_readPart_225 : decode cX5_readPart 225 = .ok (.ireturn, 1) := by decide +kernel
theorem dX5_addStep_0 : decode cX5_addStep 0 = .ok (.aload_n 0, 1) := by decide +kernel
theorem dX5_addStep_1 : decode cX5_addStep 1 = .ok (.getfield 129, 3) := by decide +kernel
theorem dX5_addStep_4 : decode cX5_addStep 4 = .ok (.aload_n 0, 1) := by decide +kernel
theorem dX5_addStep_5 : decode cX5_addStep 5 = .ok (.getfield 38, 3) := by decide +kernel
theorem dX5_addStep_8 : decode cX5_addStep 8 = .ok (.arraylength, 1) := by decide +kernel
theorem dX5_addStep_9 : decode cX5_addStep 9 = .ok (.if_icmp .ge 27, 3) := by decide +kernel
theorem dX5_addStep_12 : decode cX5_addStep 12 = .ok (.aload_n 0, 1) := by decide +kernel
theorem dX5_addStep_13 : decode cX5_addStep 13 = .ok (.getfield 38, 3) := by decide +kernel
theorem dX5_addStep_16 : decode cX5_addStep 16 = .ok (.aload_n 0, 1) := by decide +kernel
theorem dX5_addStep_17 : decode cX5_addStep 17 = .ok (.getfield 129, 3) := by decide +kernel
theorem dX5_addStep_20 : decode cX5_addStep 20 = .ok (.iload_n 1, 1) := by decide +kernel
theorem dX5_addStep_21 : decode cX5_addStep 21 = .ok (.iload_n 2, 1) := by decide +kernel
theorem dX5_addStep_22 : decode cX5_addStep 22 = .ok (.invokestatic 269, 3) := by decide +kernel
theorem dX5_addStep_25 : decode cX5_addStep 25 = .ok (.iastore, 1) := by decide +kernel
theorem dX5_addStep_26 : decode cX5_addStep 26 = .ok (.aload_n 0, 1) := by decide +kernel
theorem dX5_addStep_27 : decode cX5_addStep 27 = .ok (.dup, 1) := by decide +kernel
theorem dX5_addStep_28 : decode cX5_addStep 28 = .ok (.getfield 129, 3) := by decide +kernel
theorem dX5_addStep_31 : decode cX5_addStep 31 = .ok (.iconst 1, 1) := by decide +kernel
theorem dX5_addStep_32 : decode cX5_addStep 32 = .ok (.iadd, 1) := by decide +kernel
theorem dX5_addStep_33 : decode cX5_addStep 33 = .ok (.putfield 129, 3) := by decide +kernel
theorem dX5_addStep_36 : decode cX5_addStep 36 = .ok (.return_, 1) := by decide +kernel
theorem dX6_init_0 : decode cX6_init 0 = .ok (.aload_n 0, 1) := by decide +kernel
theorem dX6_init_1 : decode cX6_init 1 = .ok (.invokespecial 1, 3) := by decide +kernel
theorem dX6_init_4 : decode cX6_init 4 = .ok (.aload_n 0, 1) := by decide +kernel
theorem dX6_init_5 : decode cX6_init 5 = .ok (.sipush 1000, 3) := by decide +kernel
theorem dX6_init_8 : decode cX6_init 8 = .ok (.newarray .byte, 2) := by decide +kernel
theorem dX6_init_10 : decode cX6_init 10 = .ok (.putfield 9, 3) := by decide +kernel
theorem dX6_init_13 : decode cX6_init 13 = .ok (.return_, 1) := by decide +kernel
theorem dX6_addBytes_0 : decode cX6_addBytes 0 = .ok (.bipush 56, 2) := by decide +kernel
theorem dX6_addBytes_2 : decode cX6_addBytes 2 = .ok (.istore_n 3, 1) := by decide +kernel
theorem dX6_addBytes_3 : decode cX6_addBytes 3 = .ok (.iload_n 3, 1) := by decide +kernel
theorem dX6_addBytes_4 : decode cX6_addBytes 4 = .ok (.ifCond .lt 82, 3) := by decide +kernel
theorem dX6_addBytes_7 : decode cX6_addBytes 7 = .ok (.lload_n 1, 1) := by decide +kernel
theorem dX6_addBytes_8 : decode cX6_addBytes 8 = .ok (.iload_n 3, 1) := by decide +kernel
theorem dX6_addBytes_9 : decode cX6_addBytes 9 = .ok (.lshr, 1) := by decide +kernel
theorem dX6_addBytes_10 : decode cX6_addBytes 10 = .ok (.l2i, 1) := by decide +kernel
theorem dX6_addBytes_11 : decode cX6_addBytes 11 = .ok (.sipush 255, 3) := by decide +kernel
theorem dX6_addBytes_14 : decode cX6_addBytes 14 = .ok (.iand, 1) := by decide +kernel
theorem dX6_addBytes_15 : decode cX6_addBytes 15 = .ok (.istore 4, 2) := by decide +kernel
theorem dX6_addBytes_17 : decode cX6_addBytes 17 = .ok (.iload 4, 2) := by decide +kernel
theorem dX6_addBytes_19 : decode cX6_addBytes 19 = .ok (.bipush 10, 2) := by decide +kernel
theorem dX6_addBytes_21 : decode cX6_addBytes 21 = .ok (.if_icmp .eq 15, 3) := by decide +kernel
theorem dX6_addBytes_24 : decode cX6_addBytes 24 = .ok (.iload 4, 2) := by decide +kernel
theorem dX6_addBytes_26 : decode cX6_addBytes 26 = .ok (.bipush 32, 2) := by decide +kernel
theorem dX6_addBytes_28 : decode cX6_addBytes 28 = .ok (.bipush 126, 2) := by decide +kernel
theorem dX6_addBytes_30 : decode cX6_addBytes 30 = .ok (.invokestatic 13, 3) := by decide +kernel
theorem dX6_addBytes_33 : decode cX6_addBytes 33 = .ok (.ifCond .eq 7, 3) := by decide +kernel
theorem dX6_addBytes_36 : decode cX6_addBytes 36 = .ok (.iconst 1, 1) := by decide +kernel
theorem dX6_addBytes_37 : decode cX6_addBytes 37 = .ok (.goto 4, 3) := by decide +kernel
theorem dX6_addBytes_40 : decode cX6_addBytes 40 = .ok (.iconst 0, 1) := by decide +kernel
theorem dX6_addBytes_41 : decode cX6_addBytes 41 = .ok (.istore 5, 2) := by decide +kernel
theorem dX6_addBytes_43 : decode cX6_addBytes 43 = .ok (.iload 5, 2) := by decide +kernel
theorem dX6_addBytes_45 : decode cX6_addBytes 45 = .ok (.ifCond .eq 35, 3) := by decide +kernel
theorem dX6_addBytes_48 : decode cX6_addBytes 48 = .ok (.aload_n 0, 1) := by decide +kernel
theorem dX6_addBytes_49 : decode cX6_addBytes 49 = .ok (.getfield 19, 3) := by decide +kernel
theorem dX6_addBytes_52 : decode cX6_addBytes 52 = .ok (.sipush 1000, 3) := by decide +kernel
theorem dX6_addBytes_55 : decode cX6_addBytes 55 = .ok (.if_icmp .ge 25, 3) := by decide +kernel
theorem dX6_addBytes_58 : decode cX6_addBytes 58 = .ok (.aload_n 0, 1) := by decide +kernel
theorem dX6_addBytes_59 : decode cX6_addBytes 59 = .ok (.getfield 9, 3) := by decide +kernel
theorem dX6_addBytes_62 : decode cX6_addBytes 62 = .ok (.aload_n 0, 1) := by decide +kernel
theorem dX6_addBytes_63 : decode cX6_addBytes 63 = .ok (.getfield 19, 3) := by decide +kernel
theorem dX6_addBytes_66 : decode cX6_addBytes 66 = .ok (.iload 4, 2) := by decide +kernel
theorem dX6_addBytes_68 : decode cX6_addBytes 68 = .ok (.i2b, 1) := by decide +kernel
theorem dX6_addBytes_69 : decode cX6_addBytes 69 = .ok (.bastore, 1) := by decide +kernel
theorem dX6_addBytes_70 : decode cX6_addBytes 70 = .ok (.aload_n 0, 1) := by decide +kernel
theorem dX6_addBytes_71 : decode cX6_addBytes 71 = .ok (.dup, 1) := by decide +kernel
theorem dX6_addBytes_72 : decode cX6_addBytes 72 = .ok (.getfield 19, 3) := by decide +kernel
theorem dX6_addBytes_75 : decode cX6_addBytes 75 = .ok (.iconst 1, 1) := by decide +kernel
theorem dX6_addBytes_76 : decode cX6_addBytes 76 = .ok (.iadd, 1) := by decide +kernel
theorem dX6_addBytes_77 : decode cX6_addBytes 77 = .ok (.putfield 19, 3) := by decide +kernel
theorem dX6_addBytes_80 : decode cX6_addBytes 80 = .ok (.iinc 3 (-8), 3) := by decide +kernel
theorem dX6_addBytes_83 : decode cX6_addBytes 83 = .ok (.goto (-80), 3) := by decide +kernel
theorem dX6_addBytes_86 : decode cX6_addBytes 86 = .ok (.return_, 1) := by decide +kernel
theorem dX7_init_0 : decode cX7_init 0 = .ok (.aload_n 0, 1) := by decide +kernel
theorem dX7_init_1 : decode cX7_init 1 = .ok (.invokespecial 1, 3) := by decide +kernel
theorem dX7_init_4 : decode cX7_init 4 = .ok (.aload_n 0, 1) := by decide +kernel
theorem dX7_init_5 : decode cX7_init 5 = .ok (.aload_n 1, 1) := by decide +kernel
theorem dX7_init_6 : decode cX7_init 6 = .ok (.getfield 7, 3) := by decide +kernel
theorem dX7_init_9 : decode cX7_init 9 = .ok (.putfield 13, 3) := by decide +kernel
theorem dX7_init_12 : decode cX7_init 12 = .ok (.aload_n 0, 1) := by decide +kernel
theorem dX7_init_13 : decode cX7_init 13 = .ok (.aload_n 1, 1) := by decide +kernel
theorem dX7_init_14 : decode cX7_init 14 = .ok (.getfield 16, 3) := by decide +kernel
theorem dX7_init_17 : decode cX7_init 17 = .ok (.aload_n 1, 1) := by decide +kernel
theorem dX7_init_18 : decode cX7_init 18 = .ok (.getfield 7, 3) := by decide +kernel
theorem dX7_init_21 : decode cX7_init 21 = .ok (.arraylength, 1) := by decide +kernel
theorem dX7_init_22 : decode cX7_init 22 = .ok (.invokestatic 20, 3) := by decide +kernel
theorem dX7_init_25 : decode cX7_init 25 = .ok (.putfield 26, 3) := by decide +kernel
theorem dX7_init_28 : decode cX7_init 28 = .ok (.return_, 1) := by decide +kernel
theorem dX7_withLetter_0 : decode cX7_withLetter 0 = .ok (.lload_n 0, 1) := by decide +kernel
theorem dX7_withLetter_1 : decode cX7_withLetter 1 = .ok (.ldc2_w 27, 3) := by decide +kernel
theorem dX7_withLetter_4 : decode cX7_withLetter 4 = .ok (.lmul, 1) := by decide +kernel
theorem dX7_withLetter_5 : decode cX7_withLetter 5 = .ok (.iload_n 2, 1) := by decide +kernel
theorem dX7_withLetter_6 : decode cX7_withLetter 6 = .ok (.bipush 97, 2) := by decide +kernel
theorem dX7_withLetter_8 : decode cX7_withLetter 8 = .ok (.isub, 1) := by decide +kernel
theorem dX7_withLetter_9 : decode cX7_withLetter 9 = .ok (.iconst 1, 1) := by decide +kernel
theorem dX7_withLetter_10 : decode cX7_withLetter 10 = .ok (.iadd, 1) := by decide +kernel
theorem dX7_withLetter_11 : decode cX7_withLetter 11 = .ok (.i2l, 1) := by decide +kernel
theorem dX7_withLetter_12 : decode cX7_withLetter 12 = .ok (.ladd, 1) := by decide +kernel
theorem dX7_withLetter_13 : decode cX7_withLetter 13 = .ok (.lreturn, 1) := by decide +kernel
theorem dX7_isSign_0 : decode cX7_isSign 0 = .ok (.aload_n 0, 1) := by decide +kernel
theorem dX7_isSign_1 : decode cX7_isSign 1 = .ok (.getfield 29, 3) := by decide +kernel
theorem dX7_isSign_4 : decode cX7_isSign 4 = .ok (.iconst 4, 1) := by decide +kernel
theorem dX7_isSign_5 : decode cX7_isSign 5 = .ok (.if_icmp .ne 15, 3) := by decide +kernel
theorem dX7_isSign_8 : decode cX7_isSign 8 = .ok (.aload_n 0, 1) := by decide +kernel
theorem dX7_isSign_9 : decode cX7_isSign 9 = .ok (.getfield 32, 3) := by decide +kernel
theorem dX7_isSign_12 : decode cX7_isSign 12 = .ok (.iload_n 1, 1) := by decide +kernel
theorem dX7_isSign_13 : decode cX7_isSign 13 = .ok (.if_icmp .ne 7, 3) := by decide +kernel
theorem dX7_isSign_16 : decode cX7_isSign 16 = .ok (.iconst 1, 1) := by decide +kernel
theorem dX7_isSign_17 : decode cX7_isSign 17 = .ok (.goto 4, 3) := by decide +kernel
theorem dX7_isSign_20 : decode cX7_isSign 20 = .ok (.iconst 0, 1) := by decide +kernel
theorem dX7_isSign_21 : decode cX7_isSign 21 = .ok (.ireturn, 1) := by decide +kernel
theorem dX7_isName_0 : decode cX7_isName 0 = .ok (.aload_n 0, 1) := by decide +kernel
theorem dX7_isName_1 : decode cX7_isName 1 = .ok (.getfield 29, 3) := by decide +kernel
theorem dX7_isName_4 : decode cX7_isName 4 = .ok (.iconst 2, 1) := by decide +kernel
theorem dX7_isName_5 : decode cX7_isName 5 = .ok (.if_icmp .ne 24, 3) := by decide +kernel
theorem dX7_isName_8 : decode cX7_isName 8 = .ok (.aload_n 0, 1) := by decide +kernel
theorem dX7_isName_9 : decode cX7_isName 9 = .ok (.getfield 35, 3) := by decide +kernel
theorem dX7_isName_12 : decode cX7_isName 12 = .ok (.ifnull 13, 3) := by decide +kernel
theorem dX7_isName_15 : decode cX7_isName 15 = .ok (.aload_n 0, 1) := by decide +kernel
theorem dX7_isName_16 : decode cX7_isName 16 = .ok (.getfield 35, 3) := by decide +kernel
theorem dX7_isName_19 : decode cX7_isName 19 = .ok (.getfield 39, 3) := by decide +kernel
theorem dX7_isName_22 : decode cX7_isName 22 = .ok (.ifCond .ne 7, 3) := by decide +kernel
theorem dX7_isName_25 : decode cX7_isName 25 = .ok (.iconst 1, 1) := by decide +kernel
theorem dX7_isName_26 : decode cX7_isName 26 = .ok (.goto 4, 3) := by decide +kernel
theorem dX7_isName_29 : decode cX7_isName 29 = .ok (.iconst 0, 1) := by decide +kernel
theorem dX7_isName_30 : decode cX7_isName 30 = .ok (.ireturn, 1) := by decide +kernel
theorem dX7_next_0 : decode cX7_next 0 = .ok (.aload_n 0, 1) := by decide +kernel
theorem dX7_next_1 : decode cX7_next 1 = .ok (.getfield 45, 3) := by decide +kernel
theorem dX7_next_4 : decode cX7_next 4 = .ok (.aload_n 0, 1) := by decide +kernel
theorem dX7_next_5 : decode cX7_next 5 = .ok (.getfield 26, 3) := by decide +kernel
theorem dX7_next_8 : decode cX7_next 8 = .ok (.if_icmp .ge 44, 3) := by decide +kernel
theorem dX7_next_11 : decode cX7_next 11 = .ok (.aload_n 0, 1) := by decide +kernel
theorem dX7_next_12 : decode cX7_next 12 = .ok (.getfield 13, 3) := by decide +kernel
theorem dX7_next_15 : decode cX7_next 15 = .ok (.aload_n 0, 1) := by decide +kernel
theorem dX7_next_16 : decode cX7_next 16 = .ok (.getfield 45, 3) := by decide +kernel
theorem dX7_next_19 : decode cX7_next 19 = .ok (.baload, 1) := by decide +kernel
theorem dX7_next_20 : decode cX7_next 20 = .ok (.bipush 32, 2) := by decide +kernel
theorem dX7_next_22 : decode cX7_next 22 = .ok (.if_icmp .eq 17, 3) := by decide +kernel
theorem dX7_next_25 : decode cX7_next 25 = .ok (.aload_n 0, 1) := by decide +kernel
theorem dX7_next_26 : decode cX7_next 26 = .ok (.getfield 13, 3) := by decide +kernel
theorem dX7_next_29 : decode cX7_next 29 = .ok (.aload_n 0, 1) := by decide +kernel
theorem dX7_next_30 : decode cX7_next 30 = .ok (.getfield 45, 3) := by decide +kernel
theorem dX7_next_33 : decode cX7_next 33 = .ok (.baload, 1) := by decide +kernel
theorem dX7_next_34 : decode cX7_next 34 = .ok (.bipush 10, 2) := by decide +kernel
theorem dX7_next_36 : decode cX7_next 36 = .ok (.if_icmp .ne 16, 3) := by decide +kernel
theorem dX7_next_39 : decode cX7_next 39 = .ok (.aload_n 0, 1) := by decide +kernel
theorem dX7_next_40 : decode cX7_next 40 = .ok (.dup, 1) := by decide +kernel
theorem dX7_next_41 : decode cX7_next 41 = .ok (.getfield 45, 3) := by decide +kernel
theorem dX7_next_44 : decode cX7_next 44 = .ok (.iconst 1, 1) := by decide +kernel
theorem dX7_next_45 : decode cX7_next 45 = .ok (.iadd, 1) := by decide +kernel
theorem dX7_next_46 : decode cX7_next 46 = .ok (.putfield 45, 3) := by decide +kernel
theorem dX7_next_49 : decode cX7_next 49 = .ok (.goto (-49), 3) := by decide +kernel
theorem dX7_next_52 : decode cX7_next 52 = .ok (.aload_n 0, 1) := by decide +kernel
theorem dX7_next_53 : decode cX7_next 53 = .ok (.aload_n 0, 1) := by decide +kernel
theorem dX7_next_54 : decode cX7_next 54 = .ok (.getfield 45, 3) := by decide +kernel
theorem dX7_next_57 : decode cX7_next 57 = .ok (.putfield 48, 3) := by decide +kernel
theorem dX7_next_60 : decode cX7_next 60 = .ok (.aload_n 0, 1) := by decide +kernel
theorem dX7_next_61 : decode cX7_next 61 = .ok (.aconst_null, 1) := by decide +kernel
theorem dX7_next_62 : decode cX7_next 62 = .ok (.putfield 35, 3) := by decide +kernel
theorem dX7_next_65 : decode cX7_next 65 = .ok (.aload_n 0, 1) := by decide +kernel
theorem dX7_next_66 : decode cX7_next 66 = .ok (.getfield 45, 3) := by decide +kernel
theorem dX7_next_69 : decode cX7_next 69 = .ok (.aload_n 0, 1) := by decide +kernel
theorem dX7_next_70 : decode cX7_next 70 = .ok (.getfield 26, 3) := by decide +kernel
theorem dX7_next_73 : decode cX7_next 73 = .ok (.if_icmp .lt 11, 3) := by decide +kernel
theorem dX7_next_76 : decode cX7_next 76 = .ok (.aload_n 0, 1) := by decide +kernel
theorem dX7_next_77 : decode cX7_next 77 = .ok (.iconst 0, 1) := by decide +kernel
theorem dX7_next_78 : decode cX7_next 78 = .ok (.putfield 29, 3) := by decide +kernel
theorem dX7_next_81 : decode cX7_next 81 = .ok (.goto 100, 3) := by decide +kernel
theorem dX7_next_84 : decode cX7_next 84 = .ok (.aload_n 0, 1) := by decide +kernel
theorem dX7_next_85 : decode cX7_next 85 = .ok (.getfield 13, 3) := by decide +kernel
theorem dX7_next_88 : decode cX7_next 88 = .ok (.aload_n 0, 1) := by decide +kernel
theorem dX7_next_89 : decode cX7_next 89 = .ok (.getfield 45, 3) := by decide +kernel
theorem dX7_next_92 : decode cX7_next 92 = .ok (.baload, 1) := by decide +kernel
theorem dX7_next_93 : decode cX7_next 93 = .ok (.bipush 97, 2) := by decide +kernel
theorem dX7_next_95 : decode cX7_next 95 = .ok (.bipush 122, 2) := by decide +kernel
theorem dX7_next_97 : decode cX7_next 97 = .ok (.invokestatic 51, 3) := by decide +kernel
theorem dX7_next_100 : decode cX7_next 100 = .ok (.ifCond .eq 10, 3) := by decide +kernel
theorem dX7_next_103 : decode cX7_next 103 = .ok (.aload_n 0, 1) := by decide +kernel
theorem dX7_next_104 : decode cX7_next 104 = .ok (.invokevirtual 57, 3) := by decide +kernel
theorem dX7_next_107 : decode cX7_next 107 = .ok (.goto 74, 3) := by decide +kernel
theorem dX7_next_110 : decode cX7_next 110 = .ok (.aload_n 0, 1) := by decide +kernel
theorem dX7_next_111 : decode cX7_next 111 = .ok (.getfield 13, 3) := by decide +kernel
theorem dX7_next_114 : decode cX7_next 114 = .ok (.aload_n 0, 1) := by decide +kernel
theorem dX7_next_115 : decode cX7_next 115 = .ok (.getfield 45, 3) := by decide +kernel
theorem dX7_next_118 : decode cX7_next 118 = .ok (.baload, 1) := by decide +kernel
theorem dX7_next_119 : decode cX7_next 119 = .ok (.bipush 48, 2) := by decide +kernel
theorem dX7_next_121 : decode cX7_next 121 = .ok (.bipush 57, 2) := by decide +kernel
theorem dX7_next_123 : decode cX7_next 123 = .ok (.invokestatic 51, 3) := by decide +kernel
theorem dX7_next_126 : decode cX7_next 126 = .ok (.ifCond .eq 10, 3) := by decide +kernel
theorem dX7_next_129 : decode cX7_next 129 = .ok (.aload_n 0, 1) := by decide +kernel
theorem dX7_next_130 : decode cX7_next 130 = .ok (.invokevirtual 60, 3) := by decide +kernel
theorem dX7_next_133 : decode cX7_next 133 = .ok (.goto 48, 3) := by decide +kernel
theorem dX7_next_136 : decode cX7_next 136 = .ok (.aload_n 0, 1) := by decide +kernel
theorem dX7_next_137 : decode cX7_next 137 = .ok (.aload_n 0, 1) := by decide +kernel
theorem dX7_next_138 : decode cX7_next 138 = .ok (.getfield 13, 3) := by decide +kernel
theorem dX7_next_141 : decode cX7_next 141 = .ok (.aload_n 0, 1) := by decide +kernel
theorem dX7_next_142 : decode cX7_next 142 = .ok (.getfield 45, 3) := by decide +kernel
theorem dX7_next_145 : decode cX7_next 145 = .ok (.baload, 1) := by decide +kernel
theorem dX7_next_146 : decode cX7_next 146 = .ok (.putfield 32, 3) := by decide +kernel
theorem dX7_next_149 : decode cX7_next 149 = .ok (.aload_n 0, 1) := by decide +kernel
theorem dX7_next_150 : decode cX7_next 150 = .ok (.ldc 63, 2) := by decide +kernel
theorem dX7_next_152 : decode cX7_next 152 = .ok (.aload_n 0, 1) := by decide +kernel
theorem dX7_next_153 : decode cX7_next 153 = .ok (.getfield 32, 3) := by decide +kernel
theorem dX7_next_156 : decode cX7_next 156 = .ok (.i2c, 1) := by decide +kernel
theorem dX7_next_157 : decode cX7_next 157 = .ok (.invokevirtual 65, 3) := by decide +kernel
theorem dX7_next_160 : decode cX7_next 160 = .ok (.ifCond .lt 7, 3) := by decide +kernel
theorem dX7_next_163 : decode cX7_next 163 = .ok (.iconst 4, 1) := by decide +kernel
theorem dX7_next_164 : decode cX7_next 164 = .ok (.goto 4, 3) := by decide +kernel
theorem dX7_next_167 : decode cX7_next 167 = .ok (.iconst 1, 1) := by decide +kernel
theorem dX7_next_168 : decode cX7_next 168 = .ok (.putfield 29, 3) := by decide +kernel
theorem dX7_next_171 : decode cX7_next 171 = .ok (.aload_n 0, 1) := by decide +kernel
theorem dX7_next_172 : decode cX7_next 172 = .ok (.dup, 1) := by decide +kernel
theorem dX7_next_173 : decode cX7_next 173 = .ok (.getfield 45, 3) := by decide +kernel
theorem dX7_next_176 : decode cX7_next 176 = .ok (.iconst 1, 1) := by decide +kernel
theorem dX7_next_177 : decode cX7_next 177 = .ok (.iadd, 1) := by decide +kernel
theorem dX7_next_178 : decode cX7_next 178 = .ok (.putfield 45, 3) := by decide +kernel
theorem dX7_next_181 : decode cX7_next 181 = .ok (.return_, 1) := by decide +kernel
theorem dX7_takeWord_0 : decode cX7_takeWord 0 = .ok (.aload_n 0, 1) := by decide +kernel
theorem dX7_takeWord_1 : decode cX7_takeWord 1 = .ok (.lconst 0, 1) := by decide +kernel
theorem dX7_takeWord_2 : decode cX7_takeWord 2 = .ok (.putfield 71, 3) := by decide +kernel
theorem dX7_takeWord_5 : decode cX7_takeWord 5 = .ok (.aload_n 0, 1) := by decide +kernel
theorem dX7_takeWord_6 : decode cX7_takeWord 6 = .ok (.getfield 45, 3) := by decide +kernel
theorem dX7_takeWord_9 : decode cX7_takeWord 9 = .ok (.aload_n 0, 1) := by decide +kernel
theorem dX7_takeWord_10 : decode cX7_takeWord 10 = .ok (.getfield 26, 3) := by decide +kernel
theorem dX7_takeWord_13 : decode cX7_takeWord 13 = .ok (.if_icmp .ge 55, 3) := by decide +kernel
theorem dX7_takeWord_16 : decode cX7_takeWord 16 = .ok (.aload_n 0, 1) := by decide +kernel
theorem dX7_takeWord_17 : decode cX7_takeWord 17 = .ok (.getfield 13, 3) := by decide +kernel
theorem dX7_takeWord_20 : decode cX7_takeWord 20 = .ok (.aload_n 0, 1) := by decide +kernel
theorem dX7_takeWord_21 : decode cX7_takeWord 21 = .ok (.getfield 45, 3) := by decide +kernel
theorem dX7_takeWord_24 : decode cX7_takeWord 24 = .ok (.baload, 1) := by decide +kernel
theorem dX7_takeWord_25 : decode cX7_takeWord 25 = .ok (.bipush 97, 2) := by decide +kernel
theorem dX7_takeWord_27 : decode cX7_takeWord 27 = .ok (.bipush 122, 2) := by decide +kernel
theorem dX7_takeWord_29 : decode cX7_takeWord 29 = .ok (.invokestatic 51, 3) := by decide +kernel
theorem dX7_takeWord_32 : decode cX7_takeWord 32 = .ok (.ifCond .eq 36, 3) := by decide +kernel
theorem dX7_takeWord_35 : decode cX7_takeWord 35 = .ok (.aload_n 0, 1) := by decide +kernel
theorem dX7_takeWord_36 : decode cX7_takeWord 36 = .ok (.aload_n 0, 1) := by decide +kernel
theorem dX7_takeWord_37 : decode cX7_takeWord 37 = .ok (.getfield 71, 3) := by decide +kernel
theorem dX7_takeWord_40 : decode cX7_takeWord 40 = .ok (.aload_n 0, 1) := by decide +kernel
theorem dX7_takeWord_41 : decode cX7_takeWord 41 = .ok (.getfield 13, 3) := by decide +kernel
theorem dX7_takeWord_44 : decode cX7_takeWord 44 = .ok (.aload_n 0, 1) := by decide +kernel
theorem dX7_takeWord_45 : decode cX7_takeWord 45 = .ok (.getfield 45, 3) := by decide +kernel
theorem dX7_takeWord_48 : decode cX7_takeWord 48 = .ok (.baload, 1) := by decide +kernel
theorem dX7_takeWord_49 : decode cX7_takeWord 49 = .ok (.invokestatic 75, 3) := by decide +kernel
theorem dX7_takeWord_52 : decode cX7_takeWord 52 = .ok (.putfield 71, 3) := by decide +kernel
theorem dX7_takeWord_55 : decode cX7_takeWord 55 = .ok (.aload_n 0, 1) := by decide +kernel
theorem dX7_takeWord_56 : decode cX7_takeWord 56 = .ok (.dup, 1) := by decide +kernel
theorem dX7_takeWord_57 : decode cX7_takeWord 57 = .ok (.getfield 45, 3) := by decide +kernel
theorem dX7_takeWord_60 : decode cX7_takeWord 60 = .ok (.iconst 1, 1) := by decide +kernel
theorem dX7_takeWord_61 : decode cX7_takeWord 61 = .ok (.iadd, 1) := by decide +kernel
theorem dX7_takeWord_62 : decode cX7_takeWord 62 = .ok (.putfield 45, 3) := by decide +kernel
theorem dX7_takeWord_65 : decode cX7_takeWord 65 = .ok (.goto (-60), 3) := by decide +kernel
theorem dX7_takeWord_68 : decode cX7_takeWord 68 = .ok (.aload_n 0, 1) := by decide +kernel
theorem dX7_takeWord_69 : decode cX7_takeWord 69 = .ok (.aload_n 0, 1) := by decide +kernel
theorem dX7_takeWord_70 : decode cX7_takeWord 70 = .ok (.getfield 45, 3) := by decide +kernel
theorem dX7_takeWord_73 : decode cX7_takeWord 73 = .ok (.aload_n 0, 1) := by decide +kernel
theorem dX7_takeWord_74 : decode cX7_takeWord 74 = .ok (.getfield 48, 3) := by decide +kernel
theorem dX7_takeWord_77 : decode cX7_takeWord 77 = .ok (.isub, 1) := by decide +kernel
theorem dX7_takeWord_78 : decode cX7_takeWord 78 = .ok (.bipush 8, 2) := by decide +kernel
theorem dX7_takeWord_80 : decode cX7_takeWord 80 = .ok (.if_icmp .gt 7, 3) := by decide +kernel
theorem dX7_takeWord_83 : decode cX7_takeWord 83 = .ok (.iconst 2, 1) := by decide +kernel
theorem dX7_takeWord_84 : decode cX7_takeWord 84 = .ok (.goto 4, 3) := by decide +kernel
theorem dX7_takeWord_87 : decode cX7_takeWord 87 = .ok (.iconst 1, 1) := by decide +kernel
theorem dX7_takeWord_88 : decode cX7_takeWord 88 = .ok (.putfield 29, 3) := by decide +kernel
theorem dX7_takeWord_91 : decode cX7_takeWord 91 = .ok (.aload_n 0, 1) := by decide +kernel
theorem dX7_takeWord_92 : decode cX7_takeWord 92 = .ok (.getfield 29, 3) := by decide +kernel
theorem dX7_takeWord_95 : decode cX7_takeWord 95 = .ok (.iconst 2, 1) := by decide +kernel
theorem dX7_takeWord_96 : decode cX7_takeWord 96 = .ok (.if_icmp .ne 14, 3) := by decide +kernel
theorem dX7_takeWord_99 : decode cX7_takeWord 99 = .ok (.aload_n 0, 1) := by decide +kernel
theorem dX7_takeWord_100 : decode cX7_takeWord 100 = .ok (.aload_n 0, 1) := by decide +kernel
theorem dX7_takeWord_101 : decode cX7_takeWord 101 = .ok (.getfield 71, 3) := by decide +kernel
theorem dX7_takeWord_104 : decode cX7_takeWord 104 = .ok (.invokestatic 79, 3) := by decide +kernel
theorem dX7_takeWord_107 : decode cX7_takeWord 107 = .ok (.putfield 35, 3) := by decide +kernel
theorem dX7_takeWord_110 : decode cX7_takeWord 110 = .ok (.return_, 1) := by decide +kernel
theorem dX7_takeNumber_0 : decode cX7_takeNumber 0 = .ok (.aload_n 0, 1) := by decide +kernel
theorem dX7_takeNumber_1 : decode cX7_takeNumber 1 = .ok (.iconst 0, 1) := by decide +kernel
theorem dX7_takeNumber_2 : decode cX7_takeNumber 2 = .ok (.putfield 83, 3) := by decide +kernel
theorem dX7_takeNumber_5 : decode cX7_takeNumber 5 = .ok (.aload_n 0, 1) := by decide +kernel
theorem dX7_takeNumber_6 : decode cX7_takeNumber 6 = .ok (.getfield 45, 3) := by decide +kernel
theorem dX7_takeNumber_9 : decode cX7_takeNumber 9 = .ok (.aload_n 0, 1) := by decide +kernel
theorem dX7_takeNumber_10 : decode cX7_takeNumber 10 = .ok (.getfield 26, 3) := by decide +kernel
theorem dX7_takeNumber_13 : decode cX7_takeNumber 13 = .ok (.if_icmp .ge 59, 3) := by decide +kernel
theorem dX7_takeNumber_16 : decode cX7_takeNumber 16 = .ok (.aload_n 0, 1) := by decide +kernel
theorem dX7_takeNumber_17 : decode cX7_takeNumber 17 = .ok (.getfield 13, 3) := by decide +kernel
theorem dX7_takeNumber_20 : decode cX7_takeNumber 20 = .ok (.aload_n 0, 1) := by decide +kernel
theorem dX7_takeNumber_21 : decode cX7_takeNumber 21 = .ok (.getfield 45, 3) := by decide +kernel
theorem dX7_takeNumber_24 : decode cX7_takeNumber 24 = .ok (.baload, 1) := by decide +kernel
theorem dX7_takeNumber_25 : decode cX7_takeNumber 25 = .ok (.bipush 48, 2) := by decide +kernel
theorem dX7_takeNumber_27 : decode cX7_takeNumber 27 = .ok (.bipush 57, 2) := by decide +kernel
theorem dX7_takeNumber_29 : decode cX7_takeNumber 29 = .ok (.invokestatic 51, 3) := by decide +kernel
theorem dX7_takeNumber_32 : decode cX7_takeNumber 32 = .ok (.ifCond .eq 40, 3) := by decide +kernel
theorem dX7_takeNumber_35 : decode cX7_takeNumber 35 = .ok (.aload_n 0, 1) := by decide +kernel
theorem dX7_takeNumber_36 : decode cX7_takeNumber 36 = .ok (.aload_n 0, 1) := by decide +kernel
theorem dX7_takeNumber_37 : decode cX7_takeNumber 37 = .ok (.getfield 83, 3) := by decide +kernel
theorem dX7_takeNumber_40 : decode cX7_takeNumber 40 = .ok (.bipush 10, 2) := by decide +kernel
theorem dX7_takeNumber_42 : decode cX7_takeNumber 42 = .ok (.imul, 1) := by decide +kernel
theorem dX7_takeNumber_43 : decode cX7_takeNumber 43 = .ok (.aload_n 0, 1) := by decide +kernel
theorem dX7_takeNumber_44 : decode cX7_takeNumber 44 = .ok (.getfield 13, 3) := by decide +kernel
theorem dX7_takeNumber_47 : decode cX7_takeNumber 47 = .ok (.aload_n 0, 1) := by decide +kernel
theorem dX7_takeNumber_48 : decode cX7_takeNumber 48 = .ok (.getfield 45, 3) := by decide +kernel
theorem dX7_takeNumber_51 : decode cX7_takeNumber 51 = .ok (.baload, 1) := by decide +kernel
theorem dX7_takeNumber_52 : decode cX7_takeNumber 52 = .ok (.bipush 48, 2) := by decide +kernel
theorem dX7_takeNumber_54 : decode cX7_takeNumber 54 = .ok (.isub, 1) := by decide +kernel
theorem dX7_takeNumber_55 : decode cX7_takeNumber 55 = .ok (.iadd, 1) := by decide +kernel
theorem dX7_takeNumber_56 : decode cX7_takeNumber 56 = .ok (.putfield 83, 3) := by decide +kernel
theorem dX7_takeNumber_59 : decode cX7_takeNumber 59 = .ok (.aload_n 0, 1) := by decide +kernel
theorem dX7_takeNumber_60 : decode cX7_takeNumber 60 = .ok (.dup, 1) := by decide +kernel
theorem dX7_takeNumber_61 : decode cX7_takeNumber 61 = .ok (.getfield 45, 3) := by decide +kernel
theorem dX7_takeNumber_64 : decode cX7_takeNumber 64 = .ok (.iconst 1, 1) := by decide +kernel
theorem dX7_takeNumber_65 : decode cX7_takeNumber 65 = .ok (.iadd, 1) := by decide +kernel
theorem dX7_takeNumber_66 : decode cX7_takeNumber 66 = .ok (.putfield 45, 3) := by decide +kernel
theorem dX7_takeNumber_69 : decode cX7_takeNumber 69 = .ok (.goto (-64), 3) := by decide +kernel
theorem dX7_takeNumber_72 : decode cX7_takeNumber 72 = .ok (.aload_n 0, 1) := by decide +kernel
theorem dX7_takeNumber_73 : decode cX7_takeNumber 73 = .ok (.aload_n 0, 1) := by decide +kernel
theorem dX7_takeNumber_74 : decode cX7_takeNumber 74 = .ok (.getfield 45, 3) := by decide +kernel
theorem dX7_takeNumber_77 : decode cX7_takeNumber 77 = .ok (.aload_n 0, 1) := by decide +kernel
theorem dX7_takeNumber_78 : decode cX7_takeNumber 78 = .ok (.getfield 48, 3) := by decide +kernel
theorem dX7_takeNumber_81 : decode cX7_takeNumber 81 = .ok (.isub, 1) := by decide +kernel
theorem dX7_takeNumber_82 : decode cX7_takeNumber 82 = .ok (.iconst 4, 1) := by decide +kernel
theorem dX7_takeNumber_83 : decode cX7_takeNumber 83 = .ok (.if_icmp .gt 7, 3) := by decide +kernel
theorem dX7_takeNumber_86 : decode cX7_takeNumber 86 = .ok (.iconst 3, 1) := by decide +kernel
theorem dX7_takeNumber_87 : decode cX7_takeNumber 87 = .ok (.goto 4, 3) := by decide +kernel
theorem dX7_takeNumber_90 : decode cX7_takeNumber 90 = .ok (.iconst 1, 1) := by decide +kernel
theorem dX7_takeNumber_91 : decode cX7_takeNumber 91 = .ok (.putfield 29, 3) := by decide +kernel
theorem dX7_takeNumber_94 : decode cX7_takeNumber 94 = .ok (.return_, 1) := by decide +kernel
theorem dX8_named_0 : decode cX8_named 0 = .ok (.iconst 0, 1) := by decide +kernel
theorem dX8_named_1 : decode cX8_named 1 = .ok (.istore_n 2, 1) := by decide +kernel
theorem dX8_named_2 : decode cX8_named 2 = .ok (.iload_n 2, 1) := by decide +kernel
theorem dX8_named_3 : decode cX8_named 3 = .ok (.getstatic 119, 3) := by decide +kernel
theorem dX8_named_6 : decode cX8_named 6 = .ok (.arraylength, 1) := by decide +kernel
theorem dX8_named_7 : decode cX8_named 7 = .ok (.if_icmp .ge 28, 3) := by decide +kernel
theorem dX8_named_10 : decode cX8_named 10 = .ok (.getstatic 119, 3) := by decide +kernel
theorem dX8_named_13 : decode cX8_named 13 = .ok (.iload_n 2, 1) := by decide +kernel
theorem dX8_named_14 : decode cX8_named 14 = .ok (.aaload, 1) := by decide +kernel
theorem dX8_named_15 : decode cX8_named 15 = .ok (.getfield 107, 3) := by decide +kernel
theorem dX8_named_18 : decode cX8_named 18 = .ok (.lload_n 0, 1) := by decide +kernel
