theorem dX0_init_0 : decode cX0_init 0 = .ok (.aload_n 0, 1) := by decide +kernel
theorem dX0_init_1 : decode cX0_init 1 = .ok (.invokespecial 1, 3) := by decide +kernel
theorem dX0_init_4 : decode cX0_init 4 = .ok (.aload_n 0, 1) := by decide +kernel
theorem dX0_init_5 : decode cX0_init 5 = .ok (.iload_n 1, 1) := by decide +kernel
theorem dX0_init_6 : decode cX0_init 6 = .ok (.i2l, 1) := by decide +kernel
theorem dX0_init_7 : decode cX0_init 7 = .ok (.putfield 7, 3) := by decide +kernel
theorem dX0_init_10 : decode cX0_init 10 = .ok (.return_, 1) := by decide +kernel
theorem dX0_drawBelow_0 : decode cX0_drawBelow 0 = .ok (.aload_n 0, 1) := by decide +kernel
theorem dX0_drawBelow_1 : decode cX0_drawBelow 1 = .ok (.aload_n 0, 1) := by decide +kernel
theorem dX0_drawBelow_2 : decode cX0_drawBelow 2 = .ok (.getfield 7, 3) := by decide +kernel
theorem dX0_drawBelow_5 : decode cX0_drawBelow 5 = .ok (.ldc2_w 13, 3) := by decide +kernel
theorem dX0_drawBelow_8 : decode cX0_drawBelow 8 = .ok (.lmul, 1) := by decide +kernel
theorem dX0_drawBelow_9 : decode cX0_drawBelow 9 = .ok (.ldc2_w 15, 3) := by decide +kernel
theorem dX0_drawBelow_12 : decode cX0_drawBelow 12 = .ok (.ladd, 1) := by decide +kernel
theorem dX0_drawBelow_13 : decode cX0_drawBelow 13 = .ok (.ldc2_w 17, 3) := by decide +kernel
theorem dX0_drawBelow_16 : decode cX0_drawBelow 16 = .ok (.lrem, 1) := by decide +kernel
theorem dX0_drawBelow_17 : decode cX0_drawBelow 17 = .ok (.putfield 7, 3) := by decide +kernel
theorem dX0_drawBelow_20 : decode cX0_drawBelow 20 = .ok (.iload_n 1, 1) := by decide +kernel
theorem dX0_drawBelow_21 : decode cX0_drawBelow 21 = .ok (.ifCond .le 18, 3) := by decide +kernel
theorem dX0_drawBelow_24 : decode cX0_drawBelow 24 = .ok (.aload_n 0, 1) := by decide +kernel
theorem dX0_drawBelow_25 : decode cX0_drawBelow 25 = .ok (.getfield 7, 3) := by decide +kernel
theorem dX0_drawBelow_28 : decode cX0_drawBelow 28 = .ok (.ldc2_w 19, 3) := by decide +kernel
theorem dX0_drawBelow_31 : decode cX0_drawBelow 31 = .ok (.ldiv, 1) := by decide +kernel
theorem dX0_drawBelow_32 : decode cX0_drawBelow 32 = .ok (.iload_n 1, 1) := by decide +kernel
theorem dX0_drawBelow_33 : decode cX0_drawBelow 33 = .ok (.i2l, 1) := by decide +kernel
theorem dX0_drawBelow_34 : decode cX0_drawBelow 34 = .ok (.lrem, 1) := by decide +kernel
theorem dX0_drawBelow_35 : decode cX0_drawBelow 35 = .ok (.l2i, 1) := by decide +kernel
theorem dX0_drawBelow_36 : decode cX0_drawBelow 36 = .ok (.goto 4, 3) := by decide +kernel
theorem dX0_drawBelow_39 : decode cX0_drawBelow 39 = .ok (.iconst 0, 1) := by decide +kernel
theorem dX0_drawBelow_40 : decode cX0_drawBelow 40 = .ok (.ireturn, 1) := by decide +kernel
theorem dX1_init_0 : decode cX1_init 0 = .ok (.aload_n 0, 1) := by decide +kernel
theorem dX1_init_1 : decode cX1_init 1 = .ok (.invokespecial 1, 3) := by decide +kernel
theorem dX1_init_4 : decode cX1_init 4 = .ok (.aload_n 0, 1) := by decide +kernel
theorem dX1_init_5 : decode cX1_init 5 = .ok (.bipush 32, 2) := by decide +kernel
theorem dX1_init_7 : decode cX1_init 7 = .ok (.newarray .int, 2) := by decide +kernel
theorem dX1_init_9 : decode cX1_init 9 = .ok (.putfield 9, 3) := by decide +kernel
theorem dX1_init_12 : decode cX1_init 12 = .ok (.aload_n 0, 1) := by decide +kernel
theorem dX1_init_13 : decode cX1_init 13 = .ok (.aload_n 1, 1) := by decide +kernel
theorem dX1_init_14 : decode cX1_init 14 = .ok (.iload_n 2, 1) := by decide +kernel
theorem dX1_init_15 : decode cX1_init 15 = .ok (.invokestatic 13, 3) := by decide +kernel
theorem dX1_init_18 : decode cX1_init 18 = .ok (.putfield 19, 3) := by decide +kernel
theorem dX1_init_21 : decode cX1_init 21 = .ok (.return_, 1) := by decide +kernel
theorem dX1_stepOf_0 : decode cX1_stepOf 0 = .ok (.iload_n 1, 1) := by decide +kernel
theorem dX1_stepOf_1 : decode cX1_stepOf 1 = .ok (.bipush 16, 2) := by decide +kernel
theorem dX1_stepOf_3 : decode cX1_stepOf 3 = .ok (.imul, 1) := by decide +kernel
theorem dX1_stepOf_4 : decode cX1_stepOf 4 = .ok (.iload_n 0, 1) := by decide +kernel
theorem dX1_stepOf_5 : decode cX1_stepOf 5 = .ok (.iadd, 1) := by decide +kernel
theorem dX1_stepOf_6 : decode cX1_stepOf 6 = .ok (.ireturn, 1) := by decide +kernel
theorem dX1_valueBy_0 : decode cX1_valueBy 0 = .ok (.iconst 0, 1) := by decide +kernel
theorem dX1_valueBy_1 : decode cX1_valueBy 1 = .ok (.istore_n 2, 1) := by decide +kernel
theorem dX1_valueBy_2 : decode cX1_valueBy 2 = .ok (.iconst 0, 1) := by decide +kernel
theorem dX1_valueBy_3 : decode cX1_valueBy 3 = .ok (.istore_n 3, 1) := by decide +kernel
theorem dX1_valueBy_4 : decode cX1_valueBy 4 = .ok (.iload_n 3, 1) := by decide +kernel
theorem dX1_valueBy_5 : decode cX1_valueBy 5 = .ok (.aload_n 0, 1) := by decide +kernel
theorem dX1_valueBy_6 : decode cX1_valueBy 6 = .ok (.getfield 19, 3) := by decide +kernel
theorem dX1_valueBy_9 : decode cX1_valueBy 9 = .ok (.arraylength, 1) := by decide +kernel
theorem dX1_valueBy_10 : decode cX1_valueBy 10 = .ok (.if_icmp .ge 151, 3) := by decide +kernel
theorem dX1_valueBy_13 : decode cX1_valueBy 13 = .ok (.aload_n 0, 1) := by decide +kernel
theorem dX1_valueBy_14 : decode cX1_valueBy 14 = .ok (.getfield 19, 3) := by decide +kernel
theorem dX1_valueBy_17 : decode cX1_valueBy 17 = .ok (.iload_n 3, 1) := by decide +kernel
theorem dX1_valueBy_18 : decode cX1_valueBy 18 = .ok (.iaload, 1) := by decide +kernel
theorem dX1_valueBy_19 : decode cX1_valueBy 19 = .ok (.bipush 16, 2) := by decide +kernel
theorem dX1_valueBy_21 : decode cX1_valueBy 21 = .ok (.irem, 1) := by decide +kernel
theorem dX1_valueBy_22 : decode cX1_valueBy 22 = .ok (.istore 4, 2) := by decide +kernel
theorem dX1_valueBy_24 : decode cX1_valueBy 24 = .ok (.aload_n 0, 1) := by decide +kernel
theorem dX1_valueBy_25 : decode cX1_valueBy 25 = .ok (.getfield 19, 3) := by decide +kernel
theorem dX1_valueBy_28 : decode cX1_valueBy 28 = .ok (.iload_n 3, 1) := by decide +kernel
theorem dX1_valueBy_29 : decode cX1_valueBy 29 = .ok (.iaload, 1) := by decide +kernel
theorem dX1_valueBy_30 : decode cX1_valueBy 30 = .ok (.bipush 16, 2) := by decide +kernel
theorem dX1_valueBy_32 : decode cX1_valueBy 32 = .ok (.idiv, 1) := by decide +kernel
theorem dX1_valueBy_33 : decode cX1_valueBy 33 = .ok (.istore 5, 2) := by decide +kernel
theorem dX1_valueBy_35 : decode cX1_valueBy 35 = .ok (.iload 4, 2) := by decide +kernel
theorem dX1_valueBy_37 : decode cX1_valueBy 37 = .ok (.ifCond .eq 9, 3) := by decide +kernel
theorem dX1_valueBy_40 : decode cX1_valueBy 40 = .ok (.iload 4, 2) := by decide +kernel
theorem dX1_valueBy_42 : decode cX1_valueBy 42 = .ok (.iconst 1, 1) := by decide +kernel
theorem dX1_valueBy_43 : decode cX1_valueBy 43 = .ok (.if_icmp .ne 37, 3) := by decide +kernel
theorem dX1_valueBy_46 : decode cX1_valueBy 46 = .ok (.iload_n 2, 1) := by decide +kernel
theorem dX1_valueBy_47 : decode cX1_valueBy 47 = .ok (.bipush 32, 2) := by decide +kernel
theorem dX1_valueBy_49 : decode cX1_valueBy 49 = .ok (.if_icmp .ge 106, 3) := by decide +kernel
theorem dX1_valueBy_52 : decode cX1_valueBy 52 = .ok (.aload_n 0, 1) := by decide +kernel
theorem dX1_valueBy_53 : decode cX1_valueBy 53 = .ok (.getfield 9, 3) := by decide +kernel
theorem dX1_valueBy_56 : decode cX1_valueBy 56 = .ok (.iload_n 2, 1) := by decide +kernel
theorem dX1_valueBy_57 : decode cX1_valueBy 57 = .ok (.iload 4, 2) := by decide +kernel
theorem dX1_valueBy_59 : decode cX1_valueBy 59 = .ok (.ifCond .ne 8, 3) := by decide +kernel
theorem dX1_valueBy_62 : decode cX1_valueBy 62 = .ok (.iload 5, 2) := by decide +kernel
theorem dX1_valueBy_64 : decode cX1_valueBy 64 = .ok (.goto 9, 3) := by decide +kernel
theorem dX1_valueBy_67 : decode cX1_valueBy 67 = .ok (.aload_n 1, 1) := by decide +kernel
theorem dX1_valueBy_68 : decode cX1_valueBy 68 = .ok (.iload 5, 2) := by decide +kernel
theorem dX1_valueBy_70 : decode cX1_valueBy 70 = .ok (.invokestatic 22, 3) := by decide +kernel
theorem dX1_valueBy_73 : decode cX1_valueBy 73 = .ok (.iastore, 1) := by decide +kernel
theorem dX1_valueBy_74 : decode cX1_valueBy 74 = .ok (.iinc 2 1, 3) := by decide +kernel
theorem dX1_valueBy_77 : decode cX1_valueBy 77 = .ok (.goto 78, 3) := by decide +kernel
theorem dX1_valueBy_80 : decode cX1_valueBy 80 = .ok (.iload 4, 2) := by decide +kernel
theorem dX1_valueBy_82 : decode cX1_valueBy 82 = .ok (.iconst 2, 1) := by decide +kernel
theorem dX1_valueBy_83 : decode cX1_valueBy 83 = .ok (.if_icmp .ne 37, 3) := by decide +kernel
theorem dX1_valueBy_86 : decode cX1_valueBy 86 = .ok (.iload_n 2, 1) := by decide +kernel
theorem dX1_valueBy_87 : decode cX1_valueBy 87 = .ok (.ifCond .le 68, 3) := by decide +kernel
theorem dX1_valueBy_90 : decode cX1_valueBy 90 = .ok (.aload_n 0, 1) := by decide +kernel
theorem dX1_valueBy_91 : decode cX1_valueBy 91 = .ok (.getfield 9, 3) := by decide +kernel
theorem dX1_valueBy_94 : decode cX1_valueBy 94 = .ok (.iload_n 2, 1) := by decide +kernel
theorem dX1_valueBy_95 : decode cX1_valueBy 95 = .ok (.iconst 1, 1) := by decide +kernel
theorem dX1_valueBy_96 : decode cX1_valueBy 96 = .ok (.isub, 1) := by decide +kernel
theorem dX1_valueBy_97 : decode cX1_valueBy 97 = .ok (.aload_n 0, 1) := by decide +kernel
theorem dX1_valueBy_98 : decode cX1_valueBy 98 = .ok (.getfield 9, 3) := by decide +kernel
theorem dX1_valueBy_101 : decode cX1_valueBy 101 = .ok (.iload_n 2, 1) := by decide +kernel
theorem dX1_valueBy_102 : decode cX1_valueBy 102 = .ok (.iconst 1, 1) := by decide +kernel
theorem dX1_valueBy_103 : decode cX1_valueBy 103 = .ok (.isub, 1) := by decide +kernel
theorem dX1_valueBy_104 : decode cX1_valueBy 104 = .ok (.iaload, 1) := by decide +kernel
theorem dX1_valueBy_105 : decode cX1_valueBy 105 = .ok (.ifCond .ne 7, 3) := by decide +kernel
theorem dX1_valueBy_108 : decode cX1_valueBy 108 = .ok (.iconst 1, 1) := by decide +kernel
theorem dX1_valueBy_109 : decode cX1_valueBy 109 = .ok (.goto 4, 3) := by decide +kernel
theorem dX1_valueBy_112 : decode cX1_valueBy 112 = .ok (.iconst 0, 1) := by decide +kernel
theorem dX1_valueBy_113 : decode cX1_valueBy 113 = .ok (.invokestatic 26, 3) := by decide +kernel
theorem dX1_valueBy_116 : decode cX1_valueBy 116 = .ok (.iastore, 1) := by decide +kernel
theorem dX1_valueBy_117 : decode cX1_valueBy 117 = .ok (.goto 38, 3) := by decide +kernel
theorem dX1_valueBy_120 : decode cX1_valueBy 120 = .ok (.iload_n 2, 1) := by decide +kernel
theorem dX1_valueBy_121 : decode cX1_valueBy 121 = .ok (.iconst 1, 1) := by decide +kernel
theorem dX1_valueBy_122 : decode cX1_valueBy 122 = .ok (.if_icmp .le 33, 3) := by decide +kernel
theorem dX1_valueBy_125 : decode cX1_valueBy 125 = .ok (.iinc 2 (-1), 3) := by decide +kernel
theorem dX1_valueBy_128 : decode cX1_valueBy 128 = .ok (.aload_n 0, 1) := by decide +kernel
theorem dX1_valueBy_129 : decode cX1_valueBy 129 = .ok (.getfield 9, 3) := by decide +kernel
theorem dX1_valueBy_132 : decode cX1_valueBy 132 = .ok (.iload_n 2, 1) := by decide +kernel
theorem dX1_valueBy_133 : decode cX1_valueBy 133 = .ok (.iconst 1, 1) := by decide +kernel
theorem dX1_valueBy_134 : decode cX1_valueBy 134 = .ok (.isub, 1) := by decide +kernel
theorem dX1_valueBy_135 : decode cX1_valueBy 135 = .ok (.iload 4, 2) := by decide +kernel
theorem dX1_valueBy_137 : decode cX1_valueBy 137 = .ok (.aload_n 0, 1) := by decide +kernel
theorem dX1_valueBy_138 : decode cX1_valueBy 138 = .ok (.getfield 9, 3) := by decide +kernel
theorem dX1_valueBy_141 : decode cX1_valueBy 141 = .ok (.iload_n 2, 1) := by decide +kernel
theorem dX1_valueBy_142 : decode cX1_valueBy 142 = .ok (.iconst 1, 1) := by decide +kernel
theorem dX1_valueBy_143 : decode cX1_valueBy 143 = .ok (.isub, 1) := by decide +kernel
theorem dX1_valueBy_144 : decode cX1_valueBy 144 = .ok (.iaload, 1) := by decide +kernel
theorem dX1_valueBy_145 : decode cX1_valueBy 145 = .ok (.aload_n 0, 1) := by decide +kernel
theorem dX1_valueBy_146 : decode cX1_valueBy 146 = .ok (.getfield 9, 3) := by decide +kernel
theorem dX1_valueBy_149 : decode cX1_valueBy 149 = .ok (.iload_n 2, 1) := by decide +kernel
theorem dX1_valueBy_150 : decode cX1_valueBy 150 = .ok (.iaload, 1) := by decide +kernel
theorem dX1_valueBy_151 : decode cX1_valueBy 151 = .ok (.invokestatic 30, 3) := by decide +kernel
theorem dX1_valueBy_154 : decode cX1_valueBy 154 = .ok (.iastore, 1) := by decide +kernel
theorem dX1_valueBy_155 : decode cX1_valueBy 155 = .ok (.iinc 3 1, 3) := by decide +kernel
theorem dX1_valueBy_158 : decode cX1_valueBy 158 = .ok (.goto (-154), 3) := by decide +kernel
theorem dX1_valueBy_161 : decode cX1_valueBy 161 = .ok (.aload_n 0, 1) := by decide +kernel
theorem dX1_valueBy_162 : decode cX1_valueBy 162 = .ok (.getfield 9, 3) := by decide +kernel
theorem dX1_valueBy_165 : decode cX1_valueBy 165 = .ok (.iconst 0, 1) := by decide +kernel
theorem dX1_valueBy_166 : decode cX1_valueBy 166 = .ok (.iaload, 1) := by decide +kernel
theorem dX1_valueBy_167 : decode cX1_valueBy 167 = .ok (.ireturn, 1) := by decide +kernel
theorem dX1_factOf_0 : decode cX1_factOf 0 = .ok (.iload_n 1, 1) := by decide +kernel
theorem dX1_factOf_1 : decode cX1_factOf 1 = .ok (.aload_n 0, 1) := by decide +kernel
theorem dX1_factOf_2 : decode cX1_factOf 2 = .ok (.arraylength, 1) := by decide +kernel
theorem dX1_factOf_3 : decode cX1_factOf 3 = .ok (.invokestatic 34, 3) := by decide +kernel
theorem dX1_factOf_6 : decode cX1_factOf 6 = .ok (.ifCond .eq 9, 3) := by decide +kernel
theorem dX1_factOf_9 : decode cX1_factOf 9 = .ok (.aload_n 0, 1) := by decide +kernel
theorem dX1_factOf_10 : decode cX1_factOf 10 = .ok (.iload_n 1, 1) := by decide +kernel
theorem dX1_factOf_11 : decode cX1_factOf 11 = .ok (.iaload, 1) := by decide +kernel
theorem dX1_factOf_12 : decode cX1_factOf 12 = .ok (.goto 4, 3) := by decide +kernel
theorem dX1_factOf_15 : decode cX1_factOf 15 = .ok (.iconst 0, 1) := by decide +kernel
theorem dX1_factOf_16 : decode cX1_factOf 16 = .ok (.ireturn, 1) := by decide +kernel
theorem dX1_joined_0 : decode cX1_joined 0 = .ok (.iload_n 0, 1) := by decide +kernel
theorem dX1_joined_1 : decode cX1_joined 1 = .ok (.tableswitch 109 3 8 #[39, 56, 73, 87, 101, 105], 39) := by decide +kernel
theorem dX1_joined_40 : decode cX1_joined 40 = .ok (.iload_n 1, 1) := by decide +kernel
theorem dX1_joined_41 : decode cX1_joined 41 = .ok (.ifCond .eq 11, 3) := by decide +kernel
theorem dX1_joined_44 : decode cX1_joined 44 = .ok (.iload_n 2, 1) := by decide +kernel
theorem dX1_joined_45 : decode cX1_joined 45 = .ok (.ifCond .eq 7, 3) := by decide +kernel
theorem dX1_joined_48 : decode cX1_joined 48 = .ok (.iconst 1, 1) := by decide +kernel
theorem dX1_joined_49 : decode cX1_joined 49 = .ok (.goto 4, 3) := by decide +kernel
theorem dX1_joined_52 : decode cX1_joined 52 = .ok (.iconst 0, 1) := by decide +kernel
theorem dX1_joined_53 : decode cX1_joined 53 = .ok (.invokestatic 26, 3) := by decide +kernel
theorem dX1_joined_56 : decode cX1_joined 56 = .ok (.ireturn, 1) := by decide +kernel
theorem dX1_joined_57 : decode cX1_joined 57 = .ok (.iload_n 1, 1) := by decide +kernel
theorem dX1_joined_58 : decode cX1_joined 58 = .ok (.ifCond .ne 7, 3) := by decide +kernel
theorem dX1_joined_61 : decode cX1_joined 61 = .ok (.iload_n 2, 1) := by decide +kernel
theorem dX1_joined_62 : decode cX1_joined 62 = .ok (.ifCond .eq 7, 3) := by decide +kernel
theorem dX1_joined_65 : decode cX1_joined 65 = .ok (.iconst 1, 1) := by decide +kernel
theorem dX1_joined_66 : decode cX1_joined 66 = .ok (.goto 4, 3) := by decide +kernel
theorem dX1_joined_69 : decode cX1_joined 69 = .ok (.iconst 0, 1) := by decide +kernel
theorem dX1_joined_70 : decode cX1_joined 70 = .ok (.invokestatic 26, 3) := by decide +kernel
theorem dX1_joined_73 : decode cX1_joined 73 = .ok (.ireturn, 1) := by decide +kernel
theorem dX1_joined_74 : decode cX1_joined 74 = .ok (.iload_n 1, 1) := by decide +kernel
theorem dX1_joined_75 : decode cX1_joined 75 = .ok (.iload_n 2, 1) := by decide +kernel
theorem dX1_joined_76 : decode cX1_joined 76 = .ok (.if_icmp .ge 7, 3) := by decide +kernel
theorem dX1_joined_79 : decode cX1_joined 79 = .ok (.iconst 1, 1) := by decide +kernel
theorem dX1_joined_80 : decode cX1_joined 80 = .ok (.goto 4, 3) := by decide +kernel
theorem dX1_joined_83 : decode cX1_joined 83 = .ok (.iconst 0, 1) := by decide +kernel
theorem dX1_joined_84 : decode cX1_joined 84 = .ok (.invokestatic 26, 3) := by decide +kernel
theorem dX1_joined_87 : decode cX1_joined 87 = .ok (.ireturn, 1) := by decide +kernel
theorem dX1_joined_88 : decode cX1_joined 88 = .ok (.iload_n 1, 1) := by decide +kernel
theorem dX1_joined_89 : decode cX1_joined 89 = .ok (.iload_n 2, 1) := by decide +kernel
theorem dX1_joined_90 : decode cX1_joined 90 = .ok (.if_icmp .ne 7, 3) := by decide +kernel
theorem dX1_joined_93 : decode cX1_joined 93 = .ok (.iconst 1, 1) := by decide +kernel
theorem dX1_joined_94 : decode cX1_joined 94 = .ok (.goto 4, 3) := by decide +kernel
theorem dX1_joined_97 : decode cX1_joined 97 = .ok (.iconst 0, 1) := by decide +kernel
theorem dX1_joined_98 : decode cX1_joined 98 = .ok (.invokestatic 26, 3) := by decide +kernel
theorem dX1_joined_101 : decode cX1_joined 101 = .ok (.ireturn, 1) := by decide +kernel
theorem dX1_joined_102 : decode cX1_joined 102 = .ok (.iload_n 1, 1) := by decide +kernel
theorem dX1_joined_103 : decode cX1_joined 103 = .ok (.iload_n 2, 1) := by decide +kernel
theorem dX1_joined_104 : decode cX1_joined 104 = .ok (.iadd, 1) := by decide +kernel
theorem dX1_joined_105 : decode cX1_joined 105 = .ok (.ireturn, 1) := by decide +kernel
theorem dX1_joined_106 : decode cX1_joined 106 = .ok (.iload_n 1, 1) := by decide +kernel
theorem dX1_joined_107 : decode cX1_joined 107 = .ok (.iload_n 2, 1) := by decide +kernel
theorem dX1_joined_108 : decode cX1_joined 108 = .ok (.isub, 1) := by decide +kernel
theorem dX1_joined_109 : decode cX1_joined 109 = .ok (.ireturn, 1) := by decide +kernel
theorem dX1_joined_110 : decode cX1_joined 110 = .ok (.iload_n 1, 1) := by decide +kernel
theorem dX1_joined_111 : decode cX1_joined 111 = .ok (.iload_n 2, 1) := by decide +kernel
theorem dX1_joined_112 : decode cX1_joined 112 = .ok (.imul, 1) := by decide +kernel
theorem dX1_joined_113 : decode cX1_joined 113 = .ok (.ireturn, 1) := by decide +kernel
theorem dX1_bit_0 : decode cX1_bit 0 = .ok (.iload_n 0, 1) := by decide +kernel
theorem dX1_bit_1 : decode cX1_bit 1 = .ok (.ifCond .eq 7, 3) := by decide +kernel
theorem dX1_bit_4 : decode cX1_bit 4 = .ok (.iconst 1, 1) := by decide +kernel
theorem dX1_bit_5 : decode cX1_bit 5 = .ok (.goto 4, 3) := by decide +kernel
theorem dX1_bit_8 : decode cX1_bit 8 = .ok (.iconst 0, 1) := by decide +kernel
theorem dX1_bit_9 : decode cX1_bit 9 = .ok (.ireturn, 1) := by decide +kernel
theorem dX2_init_0 : decode cX2_init 0 = .ok (.aload_n 0, 1) := by decide +kernel
theorem dX2_init_1 : decode cX2_init 1 = .ok (.invokespecial 3, 3) := by decide +kernel
theorem dX2_init_4 : decode cX2_init 4 = .ok (.aload_n 0, 1) := by decide +kernel
theorem dX2_init_5 : decode cX2_init 5 = .ok (.bipush 8, 2) := by decide +kernel
theorem dX2_init_7 : decode cX2_init 7 = .ok (.newarray .int, 2) := by decide +kernel
theorem dX2_init_9 : decode cX2_init 9 = .ok (.putfield 9, 3) := by decide +kernel
theorem dX2_init_12 : decode cX2_init 12 = .ok (.aload_n 0, 1) := by decide +kernel
theorem dX2_init_13 : decode cX2_init 13 = .ok (.bipush 8, 2) := by decide +kernel
theorem dX2_init_15 : decode cX2_init 15 = .ok (.newarray .int, 2) := by decide +kernel
theorem dX2_init_17 : decode cX2_init 17 = .ok (.putfield 15, 3) := by decide +kernel
theorem dX2_init_20 : decode cX2_init 20 = .ok (.aload_n 0, 1) := by decide +kernel
theorem dX2_init_21 : decode cX2_init 21 = .ok (.bipush 10, 2) := by decide +kernel
theorem dX2_init_23 : decode cX2_init 23 = .ok (.newarray .int, 2) := by decide +kernel
theorem dX2_init_25 : decode cX2_init 25 = .ok (.putfield 18, 3) := by decide +kernel
theorem dX2_init_28 : decode cX2_init 28 = .ok (.aload_n 0, 1) := by decide +kernel
theorem dX2_init_29 : decode cX2_init 29 = .ok (.bipush 10, 2) := by decide +kernel
theorem dX2_init_31 : decode cX2_init 31 = .ok (.newarray .int, 2) := by decide +kernel
theorem dX2_init_33 : decode cX2_init 33 = .ok (.putfield 21, 3) := by decide +kernel
theorem dX2_init_36 : decode cX2_init 36 = .ok (.aload_n 0, 1) := by decide +kernel
theorem dX2_init_37 : decode cX2_init 37 = .ok (.bipush 10, 2) := by decide +kernel
theorem dX2_init_39 : decode cX2_init 39 = .ok (.newarray .int, 2) := by decide +kernel
theorem dX2_init_41 : decode cX2_init 41 = .ok (.putfield 24, 3) := by decide +kernel
theorem dX2_init_44 : decode cX2_init 44 = .ok (.aload_n 0, 1) := by decide +kernel
theorem dX2_init_45 : decode cX2_init 45 = .ok (.bipush 6, 2) := by decide +kernel
theorem dX2_init_47 : decode cX2_init 47 = .ok (.newarray .int, 2) := by decide +kernel
theorem dX2_init_49 : decode cX2_init 49 = .ok (.putfield 27, 3) := by decide +kernel
theorem dX2_init_52 : decode cX2_init 52 = .ok (.aload_n 0, 1) := by decide +kernel
theorem dX2_init_53 : decode cX2_init 53 = .ok (.bipush 6, 2) := by decide +kernel
theorem dX2_init_55 : decode cX2_init 55 = .ok (.newarray .int, 2) := by decide +kernel
theorem dX2_init_57 : decode cX2_init 57 = .ok (.putfield 30, 3) := by decide +kernel
theorem dX2_init_60 : decode cX2_init 60 = .ok (.aload_n 0, 1) := by decide +kernel
theorem dX2_init_61 : decode cX2_init 61 = .ok (.bipush 6, 2) := by decide +kernel
theorem dX2_init_63 : decode cX2_init 63 = .ok (.newarray .int, 2) := by decide +kernel
theorem dX2_init_65 : decode cX2_init 65 = .ok (.putfield 33, 3) := by decide +kernel
theorem dX2_init_68 : decode cX2_init 68 = .ok (.aload_n 0, 1) := by decide +kernel
theorem dX2_init_69 : decode cX2_init 69 = .ok (.bipush 16, 2) := by decide +kernel
theorem dX2_init_71 : decode cX2_init 71 = .ok (.newarray .int, 2) := by decide +kernel
theorem dX2_init_73 : decode cX2_init 73 = .ok (.putfield 36, 3) := by decide +kernel
theorem dX2_init_76 : decode cX2_init 76 = .ok (.aload_n 0, 1) := by decide +kernel
theorem dX2_init_77 : decode cX2_init 77 = .ok (.iconst 2, 1) := by decide +kernel
theorem dX2_init_78 : decode cX2_init 78 = .ok (.newarray .int, 2) := by decide +kernel
theorem dX2_init_80 : decode cX2_init 80 = .ok (.putfield 39, 3) := by decide +kernel
theorem dX2_init_83 : decode cX2_init 83 = .ok (.return_, 1) := by decide +kernel
theorem dX2_across_0 : decode cX2_across 0 = .ok (.aload_n 0, 1) := by decide +kernel
theorem dX2_across_1 : decode cX2_across 1 = .ok (.getfield 18, 3) := by decide +kernel
theorem dX2_across_4 : decode cX2_across 4 = .ok (.iload_n 1, 1) := by decide +kernel
theorem dX2_across_5 : decode cX2_across 5 = .ok (.iaload, 1) := by decide +kernel
theorem dX2_across_6 : decode cX2_across 6 = .ok (.iload_n 2, 1) := by decide +kernel
theorem dX2_across_7 : decode cX2_across 7 = .ok (.if_icmp .ne 10, 3) := by decide +kernel
theorem dX2_across_10 : decode cX2_across 10 = .ok (.aload_n 0, 1) := by decide +kernel
theorem dX2_across_11 : decode cX2_across 11 = .ok (.getfield 21, 3) := by decide +kernel
theorem dX2_across_14 : decode cX2_across 14 = .ok (.iload_n 1, 1) := by decide +kernel
theorem dX2_across_15 : decode cX2_across 15 = .ok (.iaload, 1) := by decide +kernel
theorem dX2_across_16 : decode cX2_across 16 = .ok (.ireturn, 1) := by decide +kernel
theorem dX2_across_17 : decode cX2_across 17 = .ok (.aload_n 0, 1) := by decide +kernel
theorem dX2_across_18 : decode cX2_across 18 = .ok (.getfield 21, 3) := by decide +kernel
theorem dX2_across_21 : decode cX2_across 21 = .ok (.iload_n 1, 1) := by decide +kernel
theorem dX2_across_22 : decode cX2_across 22 = .ok (.iaload, 1) := by decide +kernel
theorem dX2_across_23 : decode cX2_across 23 = .ok (.iload_n 2, 1) := by decide +kernel
theorem dX2_across_24 : decode cX2_across 24 = .ok (.if_icmp .ne 12, 3) := by decide +kernel
theorem dX2_across_27 : decode cX2_across 27 = .ok (.aload_n 0, 1) := by decide +kernel
theorem dX2_across_28 : decode cX2_across 28 = .ok (.getfield 18, 3) := by decide +kernel
theorem dX2_across_31 : decode cX2_across 31 = .ok (.iload_n 1, 1) := by decide +kernel
theorem dX2_across_32 : decode cX2_across 32 = .ok (.iaload, 1) := by decide +kernel
theorem dX2_across_33 : decode cX2_across 33 = .ok (.goto 5, 3) := by decide +kernel
theorem dX2_across_36 : decode cX2_across 36 = .ok (.bipush (-2), 2) := by decide +kernel
theorem dX2_across_38 : decode cX2_across 38 = .ok (.ireturn, 1) := by decide +kernel
theorem dX2_farOf_0 : decode cX2_farOf 0 = .ok (.iload_n 1, 1) := by decide +kernel
theorem dX2_farOf_1 : decode cX2_farOf 1 = .ok (.iconst (-1), 1) := by decide +kernel
theorem dX2_farOf_2 : decode cX2_farOf 2 = .ok (.if_icmp .ne 7, 3) := by decide +kernel
theorem dX2_farOf_5 : decode cX2_farOf 5 = .ok (.iconst 0, 1) := by decide +kernel
theorem dX2_farOf_6 : decode cX2_farOf 6 = .ok (.goto 9, 3) := by decide +kernel
theorem dX2_farOf_9 : decode cX2_farOf 9 = .ok (.aload_n 0, 1) := by decide +kernel
theorem dX2_farOf_10 : decode cX2_farOf 10 = .ok (.getfield 15, 3) := by decide +kernel
theorem dX2_farOf_13 : decode cX2_farOf 13 = .ok (.iload_n 1, 1) := by decide +kernel
theorem dX2_farOf_14 : decode cX2_farOf 14 = .ok (.iaload, 1) := by decide +kernel
theorem dX2_farOf_15 : decode cX2_farOf 15 = .ok (.ireturn, 1) := by decide +kernel
theorem dX2_guardCell_0 : decode cX2_guardCell 0 = .ok (.aload_n 0, 1) := by decide +kernel
theorem dX2_guardCell_1 : decode cX2_guardCell 1 = .ok (.getfield 39, 3) := by decide +kernel
theorem dX2_guardCell_4 : decode cX2_guardCell 4 = .ok (.iload_n 1, 1) := by decide +kernel
theorem dX2_guardCell_5 : decode cX2_guardCell 5 = .ok (.iaload, 1) := by decide +kernel
theorem dX2_guardCell_6 : decode cX2_guardCell 6 = .ok (.istore_n 3, 1) := by decide +kernel
theorem dX2_guardCell_7 : decode cX2_guardCell 7 = .ok (.iload_n 3, 1) := by decide +kernel
theorem dX2_guardCell_8 : decode cX2_guardCell 8 = .ok (.ifCond .le 21, 3) := by decide +kernel
theorem dX2_guardCell_11 : decode cX2_guardCell 11 = .ok (.aload_n 0, 1) := by decide +kernel
theorem dX2_guardCell_12 : decode cX2_guardCell 12 = .ok (.getfield 36, 3) := by decide +kernel
theorem dX2_guardCell_15 : decode cX2_guardCell 15 = .ok (.iload_n 1, 1) := by decide +kernel
theorem dX2_guardCell_16 : decode cX2_guardCell 16 = .ok (.bipush 8, 2) := by decide +kernel
theorem dX2_guardCell_18 : decode cX2_guardCell 18 = .ok (.imul, 1) := by decide +kernel
theorem dX2_guardCell_19 : decode cX2_guardCell 19 = .ok (.iload_n 2, 1) := by decide +kernel
theorem dX2_guardCell_20 : decode cX2_guardCell 20 = .ok (.iload_n 3, 1) := by decide +kernel
theorem dX2_guardCell_21 : decode cX2_guardCell 21 = .ok (.invokestatic 42, 3) := by decide +kernel
theorem dX2_guardCell_24 : decode cX2_guardCell 24 = .ok (.iadd, 1) := by decide +kernel
theorem dX2_guardCell_25 : decode cX2_guardCell 25 = .ok (.iaload, 1) := by decide +kernel
theorem dX2_guardCell_26 : decode cX2_guardCell 26 = .ok (.goto 5, 3) := by decide +kernel
theorem dX2_guardCell_29 : decode cX2_guardCell 29 = .ok (.bipush (-2), 2) := by decide +kernel
theorem dX2_guardCell_31 : decode cX2_guardCell 31 = .ok (.ireturn, 1) := by decide +kernel
theorem dX2_measureFar_0 : decode cX2_measureFar 0 = .ok (.aload_n 0, 1) := by decide +kernel
theorem dX2_measureFar_1 : decode cX2_measureFar 1 = .ok (.getfield 15, 3) := by decide +kernel
theorem dX2_measureFar_4 : decode cX2_measureFar 4 = .ok (.iconst (-1), 1) := by decide +kernel
theorem dX2_measureFar_5 : decode cX2_measureFar 5 = .ok (.invokestatic 48, 3) := by decide +kernel
theorem dX2_measureFar_8 : decode cX2_measureFar 8 = .ok (.iconst 0, 1) := by decide +kernel
theorem dX2_measureFar_9 : decode cX2_measureFar 9 = .ok (.istore_n 1, 1) := by decide +kernel
theorem dX2_measureFar_10 : decode cX2_measureFar 10 = .ok (.iload_n 1, 1) := by decide +kernel
theorem dX2_measureFar_11 : decode cX2_measureFar 11 = .ok (.aload_n 0, 1) := by decide +kernel
theorem dX2_measureFar_12 : decode cX2_measureFar 12 = .ok (.getfield 54, 3) := by decide +kernel
theorem dX2_measureFar_15 : decode cX2_measureFar 15 = .ok (.if_icmp .ge 57, 3) := by decide +kernel
theorem dX2_measureFar_18 : decode cX2_measureFar 18 = .ok (.iconst 0, 1) := by decide +kernel
theorem dX2_measureFar_19 : decode cX2_measureFar 19 = .ok (.istore_n 2, 1) := by decide +kernel
theorem dX2_measureFar_20 : decode cX2_measureFar 20 = .ok (.iload_n 2, 1) := by decide +kernel
theorem dX2_measureFar_21 : decode cX2_measureFar 21 = .ok (.aload_n 0, 1) := by decide +kernel
theorem dX2_measureFar_22 : decode cX2_measureFar 22 = .ok (.getfield 58, 3) := by decide +kernel
theorem dX2_measureFar_25 : decode cX2_measureFar 25 = .ok (.if_icmp .ge 41, 3) := by decide +kernel
theorem dX2_measureFar_28 : decode cX2_measureFar 28 = .ok (.aload_n 0, 1) := by decide +kernel
theorem dX2_measureFar_29 : decode cX2_measureFar 29 = .ok (.aload_n 0, 1) := by decide +kernel
theorem dX2_measureFar_30 : decode cX2_measureFar 30 = .ok (.getfield 18, 3) := by decide +kernel
theorem dX2_measureFar_33 : decode cX2_measureFar 33 = .ok (.iload_n 2, 1) := by decide +kernel
theorem dX2_measureFar_34 : decode cX2_measureFar 34 = .ok (.iaload, 1) := by decide +kernel
theorem dX2_measureFar_35 : decode cX2_measureFar 35 = .ok (.aload_n 0, 1) := by decide +kernel
theorem dX2_measureFar_36 : decode cX2_measureFar 36 = .ok (.getfield 21, 3) := by decide +kernel
theorem dX2_measureFar_39 : decode cX2_measureFar 39 = .ok (.iload_n 2, 1) := by decide +kernel
theorem dX2_measureFar_40 : decode cX2_measureFar 40 = .ok (.iaload, 1) := by decide +kernel
theorem dX2_measureFar_41 : decode cX2_measureFar 41 = .ok (.invokevirtual 61, 3) := by decide +kernel
theorem dX2_measureFar_44 : decode cX2_measureFar 44 = .ok (.aload_n 0, 1) := by decide +kernel
theorem dX2_measureFar_45 : decode cX2_measureFar 45 = .ok (.aload_n 0, 1) := by decide +kernel
theorem dX2_measureFar_46 : decode cX2_measureFar 46 = .ok (.getfield 21, 3) := by decide +kernel
theorem dX2_measureFar_49 : decode cX2_measureFar 49 = .ok (.iload_n 2, 1) := by decide +kernel
theorem dX2_measureFar_50 : decode cX2_measureFar 50 = .ok (.iaload, 1) := by decide +kernel
theorem dX2_measureFar_51 : decode cX2_measureFar 51 = .ok (.aload_n 0, 1) := by decide +kernel
theorem dX2_measureFar_52 : decode cX2_measureFar 52 = .ok (.getfield 18, 3) := by decide +kernel
theorem dX2_measureFar_55 : decode cX2_measureFar 55 = .ok (.iload_n 2, 1) := by decide +kernel
theorem dX2_measureFar_56 : decode cX2_measureFar 56 = .ok (.iaload, 1) := by decide +kernel
theorem dX2_measureFar_57 : decode cX2_measureFar 57 = .ok (.invokevirtual 61, 3) := by decide +kernel
theorem dX2_measureFar_60 : decode cX2_measureFar 60 = .ok (.iinc 2 1, 3) := by decide +kernel
theorem dX2_measureFar_63 : decode cX2_measureFar 63 = .ok (.goto (-43), 3) := by decide +kernel
theorem dX2_measureFar_66 : decode cX2_measureFar 66 = .ok (.iinc 1 1, 3) := by decide +kernel
theorem dX2_measureFar_69 : decode cX2_measureFar 69 = .ok (.goto (-59), 3) := by decide +kernel
theorem dX2_measureFar_72 : decode cX2_measureFar 72 = .ok (.return_, 1) := by decide +kernel
theorem dX2_measureDoor_0 : decode cX2_measureDoor 0 = .ok (.iload_n 1, 1) := by decide +kernel
theorem dX2_measureDoor_1 : decode cX2_measureDoor 1 = .ok (.iconst (-1), 1) := by decide +kernel
theorem dX2_measureDoor_2 : decode cX2_measureDoor 2 = .ok (.if_icmp .eq 12, 3) := by decide +kernel
theorem dX2_measureDoor_5 : decode cX2_measureDoor 5 = .ok (.aload_n 0, 1) := by decide +kernel
theorem dX2_measureDoor_6 : decode cX2_measureDoor 6 = .ok (.iload_n 2, 1) := by decide +kernel
theorem dX2_measureDoor_7 : decode cX2_measureDoor 7 = .ok (.invokevirtual 65, 3) := by decide +kernel
theorem dX2_measureDoor_10 : decode cX2_measureDoor 10 = .ok (.iconst (-1), 1) := by decide +kernel
theorem dX2_measureDoor_11 : decode cX2_measureDoor 11 = .ok (.if_icmp .ne 4, 3) := by decide +kernel
theorem dX2_measureDoor_14 : decode cX2_measureDoor 14 = .ok (.return_, 1) := by decide +kernel
theorem dX2_measureDoor_15 : decode cX2_measureDoor 15 = .ok (.aload_n 0, 1) := by decide +kernel
theorem dX2_measureDoor_16 : decode cX2_measureDoor 16 = .ok (.getfield 15, 3) := by decide +kernel
theorem dX2_measureDoor_19 : decode cX2_measureDoor 19 = .ok (.iload_n 1, 1) := by decide +kernel
theorem dX2_measureDoor_20 : decode cX2_measureDoor 20 = .ok (.iaload, 1) := by decide +kernel
theorem dX2_measureDoor_21 : decode cX2_measureDoor 21 = .ok (.iconst (-1), 1) := by decide +kernel
theorem dX2_measureDoor_22 : decode cX2_measureDoor 22 = .ok (.if_icmp .eq 19, 3) := by decide +kernel
theorem dX2_measureDoor_25 : decode cX2_measureDoor 25 = .ok (.aload_n 0, 1) := by decide +kernel
theorem dX2_measureDoor_26 : decode cX2_measureDoor 26 = .ok (.iload_n 2, 1) := by decide +kernel
theorem dX2_measureDoor_27 : decode cX2_measureDoor 27 = .ok (.invokevirtual 65, 3) := by decide +kernel
theorem dX2_measureDoor_30 : decode cX2_measureDoor 30 = .ok (.iconst 1, 1) := by decide +kernel
theorem dX2_measureDoor_31 : decode cX2_measureDoor 31 = .ok (.iadd, 1) := by decide +kernel
theorem dX2_measureDoor_32 : decode cX2_measureDoor 32 = .ok (.aload_n 0, 1) := by decide +kernel
theorem dX2_measureDoor_33 : decode cX2_measureDoor 33 = .ok (.getfield 15, 3) := by decide +kernel
theorem dX2_measureDoor_36 : decode cX2_measureDoor 36 = .ok (.iload_n 1, 1) := by decide +kernel
theorem dX2_measureDoor_37 : decode cX2_measureDoor 37 = .ok (.iaload, 1) := by decide +kernel
theorem dX2_measureDoor_38 : decode cX2_measureDoor 38 = .ok (.if_icmp .ge 16, 3) := by decide +kernel
theorem dX2_measureDoor_41 : decode cX2_measureDoor 41 = .ok (.aload_n 0, 1) := by decide +kernel
theorem dX2_measureDoor_42 : decode cX2_measureDoor 42 = .ok (.getfield 15, 3) := by decide +kernel
theorem dX2_measureDoor_45 : decode cX2_measureDoor 45 = .ok (.iload_n 1, 1) := by decide +kernel
theorem dX2_measureDoor_46 : decode cX2_measureDoor 46 = .ok (.aload_n 0, 1) := by decide +kernel
theorem dX2_measureDoor_47 : decode cX2_measureDoor 47 = .ok (.iload_n 2, 1) := by decide +kernel
theorem dX2_measureDoor_48 : decode cX2_measureDoor 48 = .ok (.invokevirtual 65, 3) := by decide +kernel
theorem dX2_measureDoor_51 : decode cX2_measureDoor 51 = .ok (.iconst 1, 1) := by decide +kernel
theorem dX2_measureDoor_52 : decode cX2_measureDoor 52 = .ok (.iadd, 1) := by decide +kernel
theorem dX2_measureDoor_53 : decode cX2_measureDoor 53 = .ok (.iastore, 1) := by decide +kernel
theorem dX2_measureDoor_54 : decode cX2_measureDoor 54 = .ok (.return_, 1) := by decide +kernel
theorem dX3_init_0 : decode cX3_init 0 = .ok (.aload_n 0, 1) := by decide +kernel
theorem dX3_init_1 : decode cX3_init 1 = .ok (.invokespecial 3, 3) := by decide +kernel
theorem dX3_init_4 : decode cX3_init 4 = .ok (.return_, 1) := by decide +kernel
theorem dX3_begin_0 : decode cX3_begin 0 = .ok (.aload_n 0, 1) := by decide +kernel
theorem dX3_begin_1 : decode cX3_begin 1 = .ok (.iload_n 1, 1) := by decide +kernel
theorem dX3_begin_2 : decode cX3_begin 2 = .ok (.putfield 9, 3) := by decide +kernel
theorem dX3_begin_5 : decode cX3_begin 5 = .ok (.aload_n 0, 1) := by decide +kernel
theorem dX3_begin_6 : decode cX3_begin 6 = .ok (.iconst 0, 1) := by decide +kernel
theorem dX3_begin_7 : decode cX3_begin 7 = .ok (.putfield 15, 3) := by decide +kernel
theorem dX3_begin_10 : decode cX3_begin 10 = .ok (.aload_n 0, 1) := by decide +kernel
theorem dX3_begin_11 : decode cX3_begin 11 = .ok (.iconst 0, 1) := by decide +kernel
theorem dX3_begin_12 : decode cX3_begin 12 = .ok (.putfield 18, 3) := by decide +kernel
theorem dX3_begin_15 : decode cX3_begin 15 = .ok (.aload_n 0, 1) := by decide +kernel
theorem dX3_begin_16 : decode cX3_begin 16 = .ok (.iload_n 1, 1) := by decide +kernel
theorem dX3_begin_17 : decode cX3_begin 17 = .ok (.putfield 21, 3) := by decide +kernel
theorem dX3_begin_20 : decode cX3_begin 20 = .ok (.aload_n 0, 1) := by decide +kernel
theorem dX3_begin_21 : decode cX3_begin 21 = .ok (.iconst (-1), 1) := by decide +kernel
theorem dX3_begin_22 : decode cX3_begin 22 = .ok (.putfield 24, 3) := by decide +kernel
theorem dX3_begin_25 : decode cX3_begin 25 = .ok (.return_, 1) := by decide +kernel
theorem dX3_copyFrom_0 : decode cX3_copyFrom 0 = .ok (.aload_n 0, 1) := by decide +kernel
theorem dX3_copyFrom_1 : decode cX3_copyFrom 1 = .ok (.aload_n 1, 1) := by decide +kernel
theorem dX3_copyFrom_2 : decode cX3_copyFrom 2 = .ok (.getfield 9, 3) := by decide +kernel
theorem dX3_copyFrom_5 : decode cX3_copyFrom 5 = .ok (.putfield 9, 3) := by decide +kernel
theorem dX3_copyFrom_8 : decode cX3_copyFrom 8 = .ok (.aload_n 0, 1) := by decide +kernel
theorem dX3_copyFrom_9 : decode cX3_copyFrom 9 = .ok (.aload_n 1, 1) := by decide +kernel
theorem dX3_copyFrom_10 : decode cX3_copyFrom 10 = .ok (.getfield 15, 3) := by decide +kernel
theorem dX3_copyFrom_13 : decode cX3_copyFrom 13 = .ok (.putfield 15, 3) := by decide +kernel
theorem dX3_copyFrom_16 : decode cX3_copyFrom 16 = .ok (.aload_n 0, 1) := by decide +kernel
theorem dX3_copyFrom_17 : decode cX3_copyFrom 17 = .ok (.aload_n 1, 1) := by decide +kernel
theorem dX3_copyFrom_18 : decode cX3_copyFrom 18 = .ok (.getfield 18, 3) := by decide +kernel
theorem dX3_copyFrom_21 : decode cX3_copyFrom 21 = .ok (.putfield 18, 3) := by decide +kernel
theorem dX3_copyFrom_24 : decode cX3_copyFrom 24 = .ok (.aload_n 0, 1) := by decide +kernel
theorem dX3_copyFrom_25 : decode cX3_copyFrom 25 = .ok (.aload_n 1, 1) := by decide +kernel
theorem dX3_copyFrom_26 : decode cX3_copyFrom 26 = .ok (.getfield 21, 3) := by decide +kernel
theorem dX3_copyFrom_29 : decode cX3_copyFrom 29 = .ok (.putfield 21, 3) := by decide +kernel
theorem dX3_copyFrom_32 : decode cX3_copyFrom 32 = .ok (.aload_n 0, 1) := by decide +kernel
theorem dX3_copyFrom_33 : decode cX3_copyFrom 33 = .ok (.aload_n 1, 1) := by decide +kernel
theorem dX3_copyFrom_34 : decode cX3_copyFrom 34 = .ok (.getfield 24, 3) := by decide +kernel
theorem dX3_copyFrom_37 : decode cX3_copyFrom 37 = .ok (.putfield 24, 3) := by decide +kernel
theorem dX3_copyFrom_40 : decode cX3_copyFrom 40 = .ok (.return_, 1) := by decide +kernel
theorem dX3_held_0 : decode cX3_held 0 = .ok (.aload_n 0, 1) := by decide +kernel
theorem dX3_held_1 : decode cX3_held 1 = .ok (.getfield 9, 3) := by decide +kernel
theorem dX3_held_4 : decode cX3_held 4 = .ok (.aload_n 0, 1) := by decide +kernel
theorem dX3_held_5 : decode cX3_held 5 = .ok (.getfield 15, 3) := by decide +kernel
theorem dX3_held_8 : decode cX3_held 8 = .ok (.iadd, 1) := by decide +kernel
theorem dX3_held_9 : decode cX3_held 9 = .ok (.ireturn, 1) := by decide +kernel
theorem dX3_isLoose_0 : decode cX3_isLoose 0 = .ok (.aload_n 0, 1) := by decide +kernel
theorem dX3_isLoose_1 : decode cX3_isLoose 1 = .ok (.getfield 9, 3) := by decide +kernel
theorem dX3_isLoose_4 : decode cX3_isLoose 4 = .ok (.ifCond .ne 7, 3) := by decide +kernel
theorem dX3_isLoose_7 : decode cX3_isLoose 7 = .ok (.iconst 1, 1) := by decide +kernel
theorem dX3_isLoose_8 : decode cX3_isLoose 8 = .ok (.goto 4, 3) := by decide +kernel
theorem dX3_isLoose_11 : decode cX3_isLoose 11 = .ok (.iconst 0, 1) := by decide +kernel
theorem dX3_isLoose_12 : decode cX3_isLoose 12 = .ok (.ireturn, 1) := by decide +kernel
theorem dX3_saltBehind_0 : decode cX3_saltBehind 0 = .ok (.iconst 0, 1) := by decide +kernel
theorem dX3_saltBehind_1 : decode cX3_saltBehind 1 = .ok (.aload_n 0, 1) := by decide +kernel
theorem dX3_saltBehind_2 : decode cX3_saltBehind 2 = .ok (.getfield 18, 3) := by decide +kernel
theorem dX3_saltBehind_5 : decode cX3_saltBehind 5 = .ok (.iload_n 1, 1) := by decide +kernel
theorem dX3_saltBehind_6 : decode cX3_saltBehind 6 = .ok (.isub, 1) := by decide +kernel
theorem dX3_saltBehind_7 : decode cX3_saltBehind 7 = .ok (.invokestatic 27, 3) := by decide +kernel
theorem dX3_saltBehind_10 : decode cX3_saltBehind 10 = .ok (.ireturn, 1) := by decide +kernel
theorem dX3_takeWater_0 : decode cX3_takeWater 0 = .ok (.iload_n 1, 1) := by decide +kernel
theorem dX3_takeWater_1 : decode cX3_takeWater 1 = .ok (.bipush 99, 2) := by decide +kernel
theorem dX3_takeWater_3 : decode cX3_takeWater 3 = .ok (.aload_n 0, 1) := by decide +kernel
theorem dX3_takeWater_4 : decode cX3_takeWater 4 = .ok (.invokevirtual 33, 3) := by decide +kernel
theorem dX3_takeWater_7 : decode cX3_takeWater 7 = .ok (.isub, 1) := by decide +kernel
theorem dX3_takeWater_8 : decode cX3_takeWater 8 = .ok (.invokestatic 37, 3) := by decide +kernel
theorem dX3_takeWater_11 : decode cX3_takeWater 11 = .ok (.istore_n 2, 1) := by decide +kernel
theorem dX3_takeWater_12 : decode cX3_takeWater 12 = .ok (.aload_n 0, 1) := by decide +kernel
theorem dX3_takeWater_13 : decode cX3_takeWater 13 = .ok (.dup, 1) := by decide +kernel
theorem dX3_takeWater_14 : decode cX3_takeWater 14 = .ok (.getfield 15, 3) := by decide +kernel
theorem dX3_takeWater_17 : decode cX3_takeWater 17 = .ok (.iload_n 2, 1) := by decide +kernel
theorem dX3_takeWater_18 : decode cX3_takeWater 18 = .ok (.iadd, 1) := by decide +kernel
theorem dX3_takeWater_19 : decode cX3_takeWater 19 = .ok (.putfield 15, 3) := by decide +kernel
theorem dX3_takeWater_22 : decode cX3_takeWater 22 = .ok (.iload_n 2, 1) := by decide +kernel
theorem dX3_takeWater_23 : decode cX3_takeWater 23 = .ok (.ireturn, 1) := by decide +kernel
theorem dX4_init_0 : decode cX4_init 0 = .ok (.aload_n 0, 1) := by decide +kernel
theorem dX4_init_1 : decode cX4_init 1 = .ok (.invokespecial 3, 3) := by decide +kernel
theorem dX4_init_4 : decode cX4_init 4 = .ok (.aload_n 0, 1) := by decide +kernel
theorem dX4_init_5 : decode cX4_init 5 = .ok (.bipush 8, 2) := by decide +kernel
theorem dX4_init_7 : decode cX4_init 7 = .ok (.newarray .int, 2) := by decide +kernel
theorem dX4_init_9 : decode cX4_init 9 = .ok (.putfield 9, 3) := by decide +kernel
theorem dX4_init_12 : decode cX4_init 12 = .ok (.aload_n 0, 1) := by decide +kernel
theorem dX4_init_13 : decode cX4_init 13 = .ok (.bipush 6, 2) := by decide +kernel
theorem dX4_init_15 : decode cX4_init 15 = .ok (.newarray .int, 2) := by decide +kernel
theorem dX4_init_17 : decode cX4_init 17 = .ok (.putfield 15, 3) := by decide +kernel
theorem dX4_init_20 : decode cX4_init 20 = .ok (.aload_n 0, 1) := by decide +kernel
theorem dX4_init_21 : decode cX4_init 21 = .ok (.bipush 6, 2) := by decide +kernel
theorem dX4_init_23 : decode cX4_init 23 = .ok (.newarray .int, 2) := by decide +kernel
theorem dX4_init_25 : decode cX4_init 25 = .ok (.putfield 18, 3) := by decide +kernel
theorem dX4_init_28 : decode cX4_init 28 = .ok (.aload_n 0, 1) := by decide +kernel
theorem dX4_init_29 : decode cX4_init 29 = .ok (.bipush 10, 2) := by decide +kernel
theorem dX4_init_31 : decode cX4_init 31 = .ok (.anewarray 21, 3) := by decide +kernel
theorem dX4_init_34 : decode cX4_init 34 = .ok (.putfield 23, 3) := by decide +kernel
theorem dX4_init_37 : decode cX4_init 37 = .ok (.aload_n 0, 1) := by decide +kernel
theorem dX4_init_38 : decode cX4_init 38 = .ok (.bipush 9, 2) := by decide +kernel
theorem dX4_init_40 : decode cX4_init 40 = .ok (.newarray .int, 2) := by decide +kernel
theorem dX4_init_42 : decode cX4_init 42 = .ok (.putfield 27, 3) := by decide +kernel
theorem dX4_init_45 : decode cX4_init 45 = .ok (.iconst 0, 1) := by decide +kernel
theorem dX4_init_46 : decode cX4_init 46 = .ok (.istore_n 2, 1) := by decide +kernel
theorem dX4_init_47 : decode cX4_init 47 = .ok (.iload_n 2, 1) := by decide +kernel
theorem dX4_init_48 : decode cX4_init 48 = .ok (.bipush 10, 2) := by decide +kernel
theorem dX4_init_50 : decode cX4_init 50 = .ok (.if_icmp .ge 22, 3) := by decide +kernel
theorem dX4_init_53 : decode cX4_init 53 = .ok (.aload_n 0, 1) := by decide +kernel
theorem dX4_init_54 : decode cX4_init 54 = .ok (.getfield 23, 3) := by decide +kernel
theorem dX4_init_57 : decode cX4_init 57 = .ok (.iload_n 2, 1) := by decide +kernel
theorem dX4_init_58 : decode cX4_init 58 = .ok (.new 21, 3) := by decide +kernel
theorem dX4_init_61 : decode cX4_init 61 = .ok (.dup, 1) := by decide +kernel
theorem dX4_init_62 : decode cX4_init 62 = .ok (.invokespecial 30, 3) := by decide +kernel
theorem dX4_init_65 : decode cX4_init 65 = .ok (.aastore, 1) := by decide +kernel
theorem dX4_init_66 : decode cX4_init 66 = .ok (.iinc 2 1, 3) := by decide +kernel
theorem dX4_init_69 : decode cX4_init 69 = .ok (.goto (-22), 3) := by decide +kernel
theorem dX4_init_72 : decode cX4_init 72 = .ok (.aload_n 0, 1) := by decide +kernel
theorem dX4_init_73 : decode cX4_init 73 = .ok (.aload_n 1, 1) := by decide +kernel
theorem dX4_init_74 : decode cX4_init 74 = .ok (.putfield 31, 3) := by decide +kernel
theorem dX4_init_77 : decode cX4_init 77 = .ok (.aload_n 0, 1) := by decide +kernel
theorem dX4_init_78 : decode cX4_init 78 = .ok (.iconst (-1), 1) := by decide +kernel
theorem dX4_init_79 : decode cX4_init 79 = .ok (.putfield 35, 3) := by decide +kernel
theorem dX4_init_82 : decode cX4_init 82 = .ok (.return_, 1) := by decide +kernel
theorem dX4_begin_0 : decode cX4_begin 0 = .ok (.aload_n 0, 1) := by decide +kernel
theorem dX4_begin_1 : decode cX4_begin 1 = .ok (.aload_n 1, 1) := by decide +kernel
theorem dX4_begin_2 : decode cX4_begin 2 = .ok (.putfield 31, 3) := by decide +kernel
theorem dX4_begin_5 : decode cX4_begin 5 = .ok (.aload_n 0, 1) := by decide +kernel
theorem dX4_begin_6 : decode cX4_begin 6 = .ok (.iconst 0, 1) := by decide +kernel
theorem dX4_begin_7 : decode cX4_begin 7 = .ok (.putfield 39, 3) := by decide +kernel
theorem dX4_begin_10 : decode cX4_begin 10 = .ok (.aload_n 1, 1) := by decide +kernel
theorem dX4_begin_11 : decode cX4_begin 11 = .ok (.getfield 42, 3) := by decide +kernel
theorem dX4_begin_14 : decode cX4_begin 14 = .ok (.iconst 0, 1) := by decide +kernel
theorem dX4_begin_15 : decode cX4_begin 15 = .ok (.aload_n 0, 1) := by decide +kernel
theorem dX4_begin_16 : decode cX4_begin 16 = .ok (.getfield 9, 3) := by decide +kernel
theorem dX4_begin_19 : decode cX4_begin 19 = .ok (.iconst 0, 1) := by decide +kernel
theorem dX4_begin_20 : decode cX4_begin 20 = .ok (.bipush 8, 2) := by decide +kernel
theorem dX4_begin_22 : decode cX4_begin 22 = .ok (.invokestatic 45, 3) := by decide +kernel
theorem dX4_begin_25 : decode cX4_begin 25 = .ok (.aload_n 1, 1) := by decide +kernel
theorem dX4_begin_26 : decode cX4_begin 26 = .ok (.getfield 51, 3) := by decide +kernel
theorem dX4_begin_29 : decode cX4_begin 29 = .ok (.iconst 0, 1) := by decide +kernel
theorem dX4_begin_30 : decode cX4_begin 30 = .ok (.aload_n 0, 1) := by decide +kernel
theorem dX4_begin_31 : decode cX4_begin 31 = .ok (.getfield 15, 3) := by decide +kernel
theorem dX4_begin_34 : decode cX4_begin 34 = .ok (.iconst 0, 1) := by decide +kernel
theorem dX4_begin_35 : decode cX4_begin 35 = .ok (.bipush 6, 2) := by decide +kernel
theorem dX4_begin_37 : decode cX4_begin 37 = .ok (.invokestatic 45, 3) := by decide +kernel
theorem dX4_begin_40 : decode cX4_begin 40 = .ok (.aload_n 1, 1) := by decide +kernel
theorem dX4_begin_41 : decode cX4_begin 41 = .ok (.getfield 52, 3) := by decide +kernel
theorem dX4_begin_44 : decode cX4_begin 44 = .ok (.iconst 0, 1) := by decide +kernel
theorem dX4_begin_45 : decode cX4_begin 45 = .ok (.aload_n 0, 1) := by decide +kernel
theorem dX4_begin_46 : decode cX4_begin 46 = .ok (.getfield 18, 3) := by decide +kernel
theorem dX4_begin_49 : decode cX4_begin 49 = .ok (.iconst 0, 1) := by decide +kernel
theorem dX4_begin_50 : decode cX4_begin 50 = .ok (.bipush 6, 2) := by decide +kernel
theorem dX4_begin_52 : decode cX4_begin 52 = .ok (.invokestatic 45, 3) := by decide +kernel
theorem dX4_begin_55 : decode cX4_begin 55 = .ok (.iconst 0, 1) := by decide +kernel
theorem dX4_begin_56 : decode cX4_begin 56 = .ok (.istore_n 2, 1) := by decide +kernel
theorem dX4_begin_57 : decode cX4_begin 57 = .ok (.iload_n 2, 1) := by decide +kernel
theorem dX4_begin_58 : decode cX4_begin 58 = .ok (.bipush 10, 2) := by decide +kernel
theorem dX4_begin_60 : decode cX4_begin 60 = .ok (.if_icmp .ge 24, 3) := by decide +kernel
theorem dX4_begin_63 : decode cX4_begin 63 = .ok (.aload_n 0, 1) := by decide +kernel
theorem dX4_begin_64 : decode cX4_begin 64 = .ok (.getfield 23, 3) := by decide +kernel
theorem dX4_begin_67 : decode cX4_begin 67 = .ok (.iload_n 2, 1) := by decide +kernel
theorem dX4_begin_68 : decode cX4_begin 68 = .ok (.aaload, 1) := by decide +kernel
theorem dX4_begin_69 : decode cX4_begin 69 = .ok (.aload_n 1, 1) := by decide +kernel
theorem dX4_begin_70 : decode cX4_begin 70 = .ok (.getfield 53, 3) := by decide +kernel
theorem dX4_begin_73 : decode cX4_begin 73 = .ok (.iload_n 2, 1) := by decide +kernel
theorem dX4_begin_74 : decode cX4_begin 74 = .ok (.iaload, 1) := by decide +kernel
theorem dX4_begin_75 : decode cX4_begin 75 = .ok (.invokevirtual 56, 3) := by decide +kernel
theorem dX4_begin_78 : decode cX4_begin 78 = .ok (.iinc 2 1, 3) := by decide +kernel
theorem dX4_begin_81 : decode cX4_begin 81 = .ok (.goto (-24), 3) := by decide +kernel
theorem dX4_begin_84 : decode cX4_begin 84 = .ok (.return_, 1) := by decide +kernel
theorem dX4_copyFrom_0 : decode cX4_copyFrom 0 = .ok (.aload_n 0, 1) := by decide +kernel
theorem dX4_copyFrom_1 : decode cX4_copyFrom 1 = .ok (.aload_n 1, 1) := by decide +kernel
theorem dX4_copyFrom_2 : decode cX4_copyFrom 2 = .ok (.getfield 31, 3) := by decide +kernel
theorem dX4_copyFrom_5 : decode cX4_copyFrom 5 = .ok (.putfield 31, 3) := by decide +kernel
theorem dX4_copyFrom_8 : decode cX4_copyFrom 8 = .ok (.aload_n 0, 1) := by decide +kernel
theorem dX4_copyFrom_9 : decode cX4_copyFrom 9 = .ok (.aload_n 1, 1) := by decide +kernel
theorem dX4_copyFrom_10 : decode cX4_copyFrom 10 = .ok (.getfield 39, 3) := by decide +kernel
theorem dX4_copyFrom_13 : decode cX4_copyFrom 13 = .ok (.putfield 39, 3) := by decide +kernel
theorem dX4_copyFrom_16 : decode cX4_copyFrom 16 = .ok (.aload_n 0, 1) := by decide +kernel
theorem dX4_copyFrom_17 : decode cX4_copyFrom 17 = .ok (.iconst (-1), 1) := by decide +kernel
theorem dX4_copyFrom_18 : decode cX4_copyFrom 18 = .ok (.putfield 35, 3) := by decide +kernel
theorem dX4_copyFrom_21 : decode cX4_copyFrom 21 = .ok (.aload_n 1, 1) := by decide +kernel
theorem dX4_copyFrom_22 : decode cX4_copyFrom 22 = .ok (.getfield 9, 3) := by decide +kernel
theorem dX4_copyFrom_25 : decode cX4_copyFrom 25 = .ok (.iconst 0, 1) := by decide +kernel
theorem dX4_copyFrom_26 : decode cX4_copyFrom 26 = .ok (.aload_n 0, 1) := by decide +kernel
theorem dX4_copyFrom_27 : decode cX4_copyFrom 27 = .ok (.getfield 9, 3) := by decide +kernel
theorem dX4_copyFrom_30 : decode cX4_copyFrom 30 = .ok (.iconst 0, 1) := by decide +kernel
theorem dX4_copyFrom_31 : decode cX4_copyFrom 31 = .ok (.bipush 8, 2) := by decide +kernel
theorem dX4_copyFrom_33 : decode cX4_copyFrom 33 = .ok (.invokestatic 45, 3) := by decide +kernel
theorem dX4_copyFrom_36 : decode cX4_copyFrom 36 = .ok (.aload_n 1, 1) := by decide +kernel
theorem dX4_copyFrom_37 : decode cX4_copyFrom 37 = .ok (.getfield 15, 3) := by decide +kernel
theorem dX4_copyFrom_40 : decode cX4_copyFrom 40 = .ok (.iconst 0, 1) := by decide +kernel
theorem dX4_copyFrom_41 : decode cX4_copyFrom 41 = .ok (.aload_n 0, 1) := by decide +kernel
theorem dX4_copyFrom_42 : decode cX4_copyFrom 42 = .ok (.getfield 15, 3) := by decide +kernel
theorem dX4_copyFrom_45 : decode cX4_copyFrom 45 = .ok (.iconst 0, 1) := by decide +kernel
theorem dX4_copyFrom_46 : decode cX4_copyFrom 46 = .ok (.bipush 6, 2) := by decide +kernel
theorem dX4_copyFrom_48 : decode cX4_copyFrom 48 = .ok (.invokestatic 45, 3) := by decide +kernel
theorem dX4_copyFrom_51 : decode cX4_copyFrom 51 = .ok (.aload_n 1, 1) := by decide +kernel
theorem dX4_copyFrom_52 : decode cX4_copyFrom 52 = .ok (.getfield 18, 3) := by decide +kernel
theorem dX4_copyFrom_55 : decode cX4_copyFrom 55 = .ok (.iconst 0, 1) := by decide +kernel
theorem dX4_copyFrom_56 : decode cX4_copyFrom 56 = .ok (.aload_n 0, 1) := by decide +kernel
theorem dX4_copyFrom_57 : decode cX4_copyFrom 57 = .ok (.getfield 18, 3) := by decide +kernel
theorem dX4_copyFrom_60 : decode cX4_copyFrom 60 = .ok (.iconst 0, 1) := by decide +kernel
theorem dX4_copyFrom_61 : decode cX4_copyFrom 61 = .ok (.bipush 6, 2) := by decide +kernel
theorem dX4_copyFrom_63 : decode cX4_copyFrom 63 = .ok (.invokestatic 45, 3) := by decide +kernel
theorem dX4_copyFrom_66 : decode cX4_copyFrom 66 = .ok (.iconst 0, 1) := by decide +kernel
theorem dX4_copyFrom_67 : decode cX4_copyFrom 67 = .ok (.istore_n 2, 1) := by decide +kernel
theorem dX4_copyFrom_68 : decode cX4_copyFrom 68 = .ok (.iload_n 2, 1) := by decide +kernel
theorem dX4_copyFrom_69 : decode cX4_copyFrom 69 = .ok (.bipush 10, 2) := by decide +kernel
theorem dX4_copyFrom_71 : decode cX4_copyFrom 71 = .ok (.if_icmp .ge 24, 3) := by decide +kernel
theorem dX4_copyFrom_74 : decode cX4_copyFrom 74 = .ok (.aload_n 0, 1) := by decide +kernel
theorem dX4_copyFrom_75 : decode cX4_copyFrom 75 = .ok (.getfield 23, 3) := by decide +kernel
theorem dX4_copyFrom_78 : decode cX4_copyFrom 78 = .ok (.iload_n 2, 1) := by decide +kernel
theorem dX4_copyFrom_79 : decode cX4_copyFrom 79 = .ok (.aaload, 1) := by decide +kernel
theorem dX4_copyFrom_80 : decode cX4_copyFrom 80 = .ok (.aload_n 1, 1) := by decide +kernel
theorem dX4_copyFrom_81 : decode cX4_copyFrom 81 = .ok (.getfield 23, 3) := by decide +kernel
theorem dX4_copyFrom_84 : decode cX4_copyFrom 84 = .ok (.iload_n 2, 1) := by decide +kernel
theorem dX4_copyFrom_85 : decode cX4_copyFrom 85 = .ok (.aaload, 1) := by decide +kernel
theorem dX4_copyFrom_86 : decode cX4_copyFrom 86 = .ok (.invokevirtual 60, 3) := by decide +kernel
theorem dX4_copyFrom_89 : decode cX4_copyFrom 89 = .ok (.iinc 2 1, 3) := by decide +kernel
theorem dX4_copyFrom_92 : decode cX4_copyFrom 92 = .ok (.goto (-24), 3) := by decide +kernel
theorem dX4_copyFrom_95 : decode cX4_copyFrom 95 = .ok (.return_, 1) := by decide +kernel
theorem dX4_menIn_0 : decode cX4_menIn 0 = .ok (.iconst 0, 1) := by decide +kernel
theorem dX4_menIn_1 : decode cX4_menIn 1 = .ok (.istore_n 3, 1) := by decide +kernel
theorem dX4_menIn_2 : decode cX4_menIn 2 = .ok (.iconst 0, 1) := by decide +kernel
theorem dX4_menIn_3 : decode cX4_menIn 3 = .ok (.istore 4, 2) := by decide +kernel
theorem dX4_menIn_5 : decode cX4_menIn 5 = .ok (.iload 4, 2) := by decide +kernel
theorem dX4_menIn_7 : decode cX4_menIn 7 = .ok (.aload_n 0, 1) := by decide +kernel
theorem dX4_menIn_8 : decode cX4_menIn 8 = .ok (.getfield 31, 3) := by decide +kernel
theorem dX4_menIn_11 : decode cX4_menIn 11 = .ok (.getfield 64, 3) := by decide +kernel
theorem dX4_menIn_14 : decode cX4_menIn 14 = .ok (.if_icmp .ge 61, 3) := by decide +kernel
theorem dX4_menIn_17 : decode cX4_menIn 17 = .ok (.aload_n 0, 1) := by decide +kernel
theorem dX4_menIn_18 : decode cX4_menIn 18 = .ok (.getfield 15, 3) := by decide +kernel
theorem dX4_menIn_21 : decode cX4_menIn 21 = .ok (.iload 4, 2) := by decide +kernel
theorem dX4_menIn_23 : decode cX4_menIn 23 = .ok (.iaload, 1) := by decide +kernel
theorem dX4_menIn_24 : decode cX4_menIn 24 = .ok (.iload_n 1, 1) := by decide +kernel
theorem dX4_menIn_25 : decode cX4_menIn 25 = .ok (.if_icmp .eq 14, 3) := by decide +kernel
theorem dX4_menIn_28 : decode cX4_menIn 28 = .ok (.aload_n 0, 1) := by decide +kernel
theorem dX4_menIn_29 : decode cX4_menIn 29 = .ok (.getfield 15, 3) := by decide +kernel
theorem dX4_menIn_32 : decode cX4_menIn 32 = .ok (.iload 4, 2) := by decide +kernel
theorem dX4_menIn_34 : decode cX4_menIn 34 = .ok (.iaload, 1) := by decide +kernel
theorem dX4_menIn_35 : decode cX4_menIn 35 = .ok (.iload_n 2, 1) := by decide +kernel
theorem dX4_menIn_36 : decode cX4_menIn 36 = .ok (.if_icmp .ne 7, 3) := by decide +kernel
theorem dX4_menIn_39 : decode cX4_menIn 39 = .ok (.iconst 1, 1) := by decide +kernel
theorem dX4_menIn_40 : decode cX4_menIn 40 = .ok (.goto 4, 3) := by decide +kernel
theorem dX4_menIn_43 : decode cX4_menIn 43 = .ok (.iconst 0, 1) := by decide +kernel
theorem dX4_menIn_44 : decode cX4_menIn 44 = .ok (.istore 5, 2) := by decide +kernel
theorem dX4_menIn_46 : decode cX4_menIn 46 = .ok (.iload 5, 2) := by decide +kernel
theorem dX4_menIn_48 : decode cX4_menIn 48 = .ok (.ifCond .eq 21, 3) := by decide +kernel
theorem dX4_menIn_51 : decode cX4_menIn 51 = .ok (.aload_n 0, 1) := by decide +kernel
theorem dX4_menIn_52 : decode cX4_menIn 52 = .ok (.getfield 15, 3) := by decide +kernel
theorem dX4_menIn_55 : decode cX4_menIn 55 = .ok (.iload 4, 2) := by decide +kernel
theorem dX4_menIn_57 : decode cX4_menIn 57 = .ok (.iaload, 1) := by decide +kernel
theorem dX4_menIn_58 : decode cX4_menIn 58 = .ok (.iconst (-1), 1) := by decide +kernel
theorem dX4_menIn_59 : decode cX4_menIn 59 = .ok (.if_icmp .eq 10, 3) := by decide +kernel
theorem dX4_menIn_62 : decode cX4_menIn 62 = .ok (.iload_n 3, 1) := by decide +kernel
theorem dX4_menIn_63 : decode cX4_menIn 63 = .ok (.iconst 1, 1) := by decide +kernel
theorem dX4_menIn_64 : decode cX4_menIn 64 = .ok (.iload 4, 2) := by decide +kernel
theorem dX4_menIn_66 : decode cX4_menIn 66 = .ok (.ishl, 1) := by decide +kernel
theorem dX4_menIn_67 : decode cX4_menIn 67 = .ok (.ior, 1) := by decide +kernel
theorem dX4_menIn_68 : decode cX4_menIn 68 = .ok (.istore_n 3, 1) := by decide +kernel
theorem dX4_menIn_69 : decode cX4_menIn 69 = .ok (.iinc 4 1, 3) := by decide +kernel
theorem dX4_menIn_72 : decode cX4_menIn 72 = .ok (.goto (-67), 3) := by decide +kernel
theorem dX4_menIn_75 : decode cX4_menIn 75 = .ok (.iload_n 3, 1) := by decide +kernel
theorem dX4_menIn_76 : decode cX4_menIn 76 = .ok (.ireturn, 1) := by decide +kernel
theorem dX4_menHeld_0 : decode cX4_menHeld 0 = .ok (.iconst 0, 1) := by decide +kernel
theorem dX4_menHeld_1 : decode cX4_menHeld 1 = .ok (.istore_n 1, 1) := by decide +kernel
theorem dX4_menHeld_2 : decode cX4_menHeld 2 = .ok (.iconst 0, 1) := by decide +kernel
theorem dX4_menHeld_3 : decode cX4_menHeld 3 = .ok (.istore_n 2, 1) := by decide +kernel
theorem dX4_menHeld_4 : decode cX4_menHeld 4 = .ok (.iload_n 2, 1) := by decide +kernel
theorem dX4_menHeld_5 : decode cX4_menHeld 5 = .ok (.aload_n 0, 1) := by decide +kernel
theorem dX4_menHeld_6 : decode cX4_menHeld 6 = .ok (.getfield 31, 3) := by decide +kernel
theorem dX4_menHeld_9 : decode cX4_menHeld 9 = .ok (.getfield 64, 3) := by decide +kernel
theorem dX4_menHeld_12 : decode cX4_menHeld 12 = .ok (.if_icmp .ge 27, 3) := by decide +kernel
theorem dX4_menHeld_15 : decode cX4_menHeld 15 = .ok (.iload_n 1, 1) := by decide +kernel
theorem dX4_menHeld_16 : decode cX4_menHeld 16 = .ok (.aload_n 0, 1) := by decide +kernel
theorem dX4_menHeld_17 : decode cX4_menHeld 17 = .ok (.getfield 15, 3) := by decide +kernel
theorem dX4_menHeld_20 : decode cX4_menHeld 20 = .ok (.iload_n 2, 1) := by decide +kernel
theorem dX4_menHeld_21 : decode cX4_menHeld 21 = .ok (.iaload, 1) := by decide +kernel
theorem dX4_menHeld_22 : decode cX4_menHeld 22 = .ok (.iconst (-1), 1) := by decide +kernel
theorem dX4_menHeld_23 : decode cX4_menHeld 23 = .ok (.if_icmp .eq 7, 3) := by decide +kernel
theorem dX4_menHeld_26 : decode cX4_menHeld 26 = .ok (.iconst 1, 1) := by decide +kernel
theorem dX4_menHeld_27 : decode cX4_menHeld 27 = .ok (.goto 4, 3) := by decide +kernel
theorem dX4_menHeld_30 : decode cX4_menHeld 30 = .ok (.iconst 0, 1) := by decide +kernel
theorem dX4_menHeld_31 : decode cX4_menHeld 31 = .ok (.iadd, 1) := by decide +kernel
theorem dX4_menHeld_32 : decode cX4_menHeld 32 = .ok (.istore_n 1, 1) := by decide +kernel
theorem dX4_menHeld_33 : decode cX4_menHeld 33 = .ok (.iinc 2 1, 3) := by decide +kernel
theorem dX4_menHeld_36 : decode cX4_menHeld 36 = .ok (.goto (-32), 3) := by decide +kernel
theorem dX4_menHeld_39 : decode cX4_menHeld 39 = .ok (.iload_n 1, 1) := by decide +kernel
theorem dX4_menHeld_40 : decode cX4_menHeld 40 = .ok (.ireturn, 1) := by decide +kernel
theorem dX4_guardsIn_0 : decode cX4_guardsIn 0 = .ok (.iconst 0, 1) := by decide +kernel
theorem dX4_guardsIn_1 : decode cX4_guardsIn 1 = .ok (.istore_n 2, 1) := by decide +kernel
theorem dX4_guardsIn_2 : decode cX4_guardsIn 2 = .ok (.iconst 0, 1) := by decide +kernel
theorem dX4_guardsIn_3 : decode cX4_guardsIn 3 = .ok (.istore_n 3, 1) := by decide +kernel
theorem dX4_guardsIn_4 : decode cX4_guardsIn 4 = .ok (.iload_n 3, 1) := by decide +kernel
theorem dX4_guardsIn_5 : decode cX4_guardsIn 5 = .ok (.aload_n 0, 1) := by decide +kernel
theorem dX4_guardsIn_6 : decode cX4_guardsIn 6 = .ok (.getfield 31, 3) := by decide +kernel
theorem dX4_guardsIn_9 : decode cX4_guardsIn 9 = .ok (.getfield 67, 3) := by decide +kernel
theorem dX4_guardsIn_12 : decode cX4_guardsIn 12 = .ok (.if_icmp .ge 33, 3) := by decide +kernel
theorem dX4_guardsIn_15 : decode cX4_guardsIn 15 = .ok (.iload_n 2, 1) := by decide +kernel
theorem dX4_guardsIn_16 : decode cX4_guardsIn 16 = .ok (.aload_n 0, 1) := by decide +kernel
theorem dX4_guardsIn_17 : decode cX4_guardsIn 17 = .ok (.getfield 31, 3) := by decide +kernel
theorem dX4_guardsIn_20 : decode cX4_guardsIn 20 = .ok (.iload_n 3, 1) := by decide +kernel
theorem dX4_guardsIn_21 : decode cX4_guardsIn 21 = .ok (.aload_n 0, 1) := by decide +kernel
theorem dX4_guardsIn_22 : decode cX4_guardsIn 22 = .ok (.getfield 39, 3) := by decide +kernel
theorem dX4_guardsIn_25 : decode cX4_guardsIn 25 = .ok (.invokevirtual 70, 3) := by decide +kernel
theorem dX4_guardsIn_28 : decode cX4_guardsIn 28 = .ok (.iload_n 1, 1) := by decide +kernel
theorem dX4_guardsIn_29 : decode cX4_guardsIn 29 = .ok (.if_icmp .ne 7, 3) := by decide +kernel
theorem dX4_guardsIn_32 : decode cX4_guardsIn 32 = .ok (.iconst 1, 1) := by decide +kernel
theorem dX4_guardsIn_33 : decode cX4_guardsIn 33 = .ok (.goto 4, 3) := by decide +kernel
theorem dX4_guardsIn_36 : decode cX4_guardsIn 36 = .ok (.iconst 0, 1) := by decide +kernel
theorem dX4_guardsIn_37 : decode cX4_guardsIn 37 = .ok (.iadd, 1) := by decide +kernel
theorem dX4_guardsIn_38 : decode cX4_guardsIn 38 = .ok (.istore_n 2, 1) := by decide +kernel
theorem dX4_guardsIn_39 : decode cX4_guardsIn 39 = .ok (.iinc 3 1, 3) := by decide +kernel
theorem dX4_guardsIn_42 : decode cX4_guardsIn 42 = .ok (.goto (-38), 3) := by decide +kernel
theorem dX4_guardsIn_45 : decode cX4_guardsIn 45 = .ok (.iload_n 2, 1) := by decide +kernel
theorem dX4_guardsIn_46 : decode cX4_guardsIn 46 = .ok (.ireturn, 1) := by decide +kernel
theorem dX4_someLoose_0 : decode cX4_someLoose 0 = .ok (.iconst 0, 1) := by decide +kernel
theorem dX4_someLoose_1 : decode cX4_someLoose 1 = .ok (.istore_n 1, 1) := by decide +kernel
theorem dX4_someLoose_2 : decode cX4_someLoose 2 = .ok (.iload_n 1, 1) := by decide +kernel
theorem dX4_someLoose_3 : decode cX4_someLoose 3 = .ok (.aload_n 0, 1) := by decide +kernel
theorem dX4_someLoose_4 : decode cX4_someLoose 4 = .ok (.getfield 31, 3) := by decide +kernel
theorem dX4_someLoose_7 : decode cX4_someLoose 7 = .ok (.getfield 74, 3) := by decide +kernel
theorem dX4_someLoose_10 : decode cX4_someLoose 10 = .ok (.if_icmp .ge 23, 3) := by decide +kernel
theorem dX4_someLoose_13 : decode cX4_someLoose 13 = .ok (.aload_n 0, 1) := by decide +kernel
theorem dX4_someLoose_14 : decode cX4_someLoose 14 = .ok (.getfield 23, 3) := by decide +kernel
theorem dX4_someLoose_17 : decode cX4_someLoose 17 = .ok (.iload_n 1, 1) := by decide +kernel
theorem dX4_someLoose_18 : decode cX4_someLoose 18 = .ok (.aaload, 1) := by decide +kernel
theorem dX4_someLoose_19 : decode cX4_someLoose 19 = .ok (.invokevirtual 77, 3) := by decide +kernel
theorem dX4_someLoose_22 : decode cX4_someLoose 22 = .ok (.ifCond .eq 5, 3) := by decide +kernel
theorem dX4_someLoose_25 : decode cX4_someLoose 25 = .ok (.iconst 1, 1) := by decide +kernel
theorem dX4_someLoose_26 : decode cX4_someLoose 26 = .ok (.ireturn, 1) := by decide +kernel
theorem dX4_someLoose_27 : decode cX4_someLoose 27 = .ok (.iinc 1 1, 3) := by decide +kernel
theorem dX4_someLoose_30 : decode cX4_someLoose 30 = .ok (.goto (-28), 3) := by decide +kernel
theorem dX4_someLoose_33 : decode cX4_someLoose 33 = .ok (.iconst 0, 1) := by decide +kernel
theorem dX4_someLoose_34 : decode cX4_someLoose 34 = .ok (.ireturn, 1) := by decide +kernel
theorem dX4_degreesBehind_0 : decode cX4_degreesBehind 0 = .ok (.aload_n 0, 1) := by decide +kernel
theorem dX4_degreesBehind_1 : decode cX4_degreesBehind 1 = .ok (.getfield 31, 3) := by decide +kernel
theorem dX4_degreesBehind_4 : decode cX4_degreesBehind 4 = .ok (.getfield 81, 3) := by decide +kernel
theorem dX4_degreesBehind_7 : decode cX4_degreesBehind 7 = .ok (.ifnonnull 6, 3) := by decide +kernel
theorem dX4_degreesBehind_10 : decode cX4_degreesBehind 10 = .ok (.bipush (-10), 2) := by decide +kernel
theorem dX4_degreesBehind_12 : decode cX4_degreesBehind 12 = .ok (.ireturn, 1) := by decide +kernel
theorem dX4_degreesBehind_13 : decode cX4_degreesBehind 13 = .ok (.aload_n 0, 1) := by decide +kernel
theorem dX4_degreesBehind_14 : decode cX4_degreesBehind 14 = .ok (.getfield 27, 3) := by decide +kernel
theorem dX4_degreesBehind_17 : decode cX4_degreesBehind 17 = .ok (.iconst 0, 1) := by decide +kernel
theorem dX4_degreesBehind_18 : decode cX4_degreesBehind 18 = .ok (.aload_n 0, 1) := by decide +kernel
theorem dX4_degreesBehind_19 : decode cX4_degreesBehind 19 = .ok (.getfield 39, 3) := by decide +kernel
theorem dX4_degreesBehind_22 : decode cX4_degreesBehind 22 = .ok (.iload_n 1, 1) := by decide +kernel
theorem dX4_degreesBehind_23 : decode cX4_degreesBehind 23 = .ok (.iadd, 1) := by decide +kernel
theorem dX4_degreesBehind_24 : decode cX4_degreesBehind 24 = .ok (.bipush 24, 2) := by decide +kernel
theorem dX4_degreesBehind_26 : decode cX4_degreesBehind 26 = .ok (.irem, 1) := by decide +kernel
theorem dX4_degreesBehind_27 : decode cX4_degreesBehind 27 = .ok (.iastore, 1) := by decide +kernel
theorem dX4_degreesBehind_28 : decode cX4_degreesBehind 28 = .ok (.aload_n 0, 1) := by decide +kernel
theorem dX4_degreesBehind_29 : decode cX4_degreesBehind 29 = .ok (.getfield 27, 3) := by decide +kernel
theorem dX4_degreesBehind_32 : decode cX4_degreesBehind 32 = .ok (.iconst 1, 1) := by decide +kernel
theorem dX4_degreesBehind_33 : decode cX4_degreesBehind 33 = .ok (.aload_n 0, 1) := by decide +kernel
theorem dX4_degreesBehind_34 : decode cX4_degreesBehind 34 = .ok (.getfield 39, 3) := by decide +kernel
theorem dX4_degreesBehind_37 : decode cX4_degreesBehind 37 = .ok (.iload_n 1, 1) := by decide +kernel
theorem dX4_degreesBehind_38 : decode cX4_degreesBehind 38 = .ok (.iadd, 1) := by decide +kernel
theorem dX4_degreesBehind_39 : decode cX4_degreesBehind 39 = .ok (.bipush 24, 2) := by decide +kernel
theorem dX4_degreesBehind_41 : decode cX4_degreesBehind 41 = .ok (.idiv, 1) := by decide +kernel
theorem dX4_degreesBehind_42 : decode cX4_degreesBehind 42 = .ok (.iastore, 1) := by decide +kernel
theorem dX4_degreesBehind_43 : decode cX4_degreesBehind 43 = .ok (.aload_n 0, 1) := by decide +kernel
theorem dX4_degreesBehind_44 : decode cX4_degreesBehind 44 = .ok (.getfield 27, 3) := by decide +kernel
theorem dX4_degreesBehind_47 : decode cX4_degreesBehind 47 = .ok (.iconst 2, 1) := by decide +kernel
theorem dX4_degreesBehind_48 : decode cX4_degreesBehind 48 = .ok (.iload_n 2, 1) := by decide +kernel
theorem dX4_degreesBehind_49 : decode cX4_degreesBehind 49 = .ok (.iastore, 1) := by decide +kernel
theorem dX4_degreesBehind_50 : decode cX4_degreesBehind 50 = .ok (.bipush 40, 2) := by decide +kernel
theorem dX4_degreesBehind_52 : decode cX4_degreesBehind 52 = .ok (.aload_n 0, 1) := by decide +kernel
theorem dX4_degreesBehind_53 : decode cX4_degreesBehind 53 = .ok (.getfield 31, 3) := by decide +kernel
theorem dX4_degreesBehind_56 : decode cX4_degreesBehind 56 = .ok (.getfield 81, 3) := by decide +kernel
theorem dX4_degreesBehind_59 : decode cX4_degreesBehind 59 = .ok (.aload_n 0, 1) := by decide +kernel
theorem dX4_degreesBehind_60 : decode cX4_degreesBehind 60 = .ok (.getfield 27, 3) := by decide +kernel
theorem dX4_degreesBehind_63 : decode cX4_degreesBehind 63 = .ok (.invokevirtual 85, 3) := by decide +kernel
theorem dX4_degreesBehind_66 : decode cX4_degreesBehind 66 = .ok (.invokestatic 91, 3) := by decide +kernel
theorem dX4_degreesBehind_69 : decode cX4_degreesBehind 69 = .ok (.ireturn, 1) := by decide +kernel
theorem dX4_laySalt_0 : decode cX4_laySalt 0 = .ok (.aload_n 0, 1) := by decide +kernel
theorem dX4_laySalt_1 : decode cX4_laySalt 1 = .ok (.getfield 23, 3) := by decide +kernel
theorem dX4_laySalt_4 : decode cX4_laySalt 4 = .ok (.iload_n 2, 1) := by decide +kernel
theorem dX4_laySalt_5 : decode cX4_laySalt 5 = .ok (.aaload, 1) := by decide +kernel
theorem dX4_laySalt_6 : decode cX4_laySalt 6 = .ok (.astore_n 3, 1) := by decide +kernel
theorem dX4_laySalt_7 : decode cX4_laySalt 7 = .ok (.aload_n 0, 1) := by decide +kernel
theorem dX4_laySalt_8 : decode cX4_laySalt 8 = .ok (.getfield 18, 3) := by decide +kernel
theorem dX4_laySalt_11 : decode cX4_laySalt 11 = .ok (.iload_n 1, 1) := by decide +kernel
theorem dX4_laySalt_12 : decode cX4_laySalt 12 = .ok (.dup2, 1) := by decide +kernel
theorem dX4_laySalt_13 : decode cX4_laySalt 13 = .ok (.iaload, 1) := by decide +kernel
theorem dX4_laySalt_14 : decode cX4_laySalt 14 = .ok (.iconst 1, 1) := by decide +kernel
theorem dX4_laySalt_15 : decode cX4_laySalt 15 = .ok (.isub, 1) := by decide +kernel
theorem dX4_laySalt_16 : decode cX4_laySalt 16 = .ok (.iastore, 1) := by decide +kernel
theorem dX4_laySalt_17 : decode cX4_laySalt 17 = .ok (.aload_n 3, 1) := by decide +kernel
theorem dX4_laySalt_18 : decode cX4_laySalt 18 = .ok (.dup, 1) := by decide +kernel
theorem dX4_laySalt_19 : decode cX4_laySalt 19 = .ok (.getfield 94, 3) := by decide +kernel
theorem dX4_laySalt_22 : decode cX4_laySalt 22 = .ok (.iconst 1, 1) := by decide +kernel
theorem dX4_laySalt_23 : decode cX4_laySalt 23 = .ok (.iadd, 1) := by decide +kernel
theorem dX4_laySalt_24 : decode cX4_laySalt 24 = .ok (.putfield 94, 3) := by decide +kernel
theorem dX4_laySalt_27 : decode cX4_laySalt 27 = .ok (.aload_n 3, 1) := by decide +kernel
theorem dX4_laySalt_28 : decode cX4_laySalt 28 = .ok (.getfield 97, 3) := by decide +kernel
theorem dX4_laySalt_31 : decode cX4_laySalt 31 = .ok (.iconst (-1), 1) := by decide +kernel
theorem dX4_laySalt_32 : decode cX4_laySalt 32 = .ok (.if_icmp .ne 29, 3) := by decide +kernel
theorem dX4_laySalt_35 : decode cX4_laySalt 35 = .ok (.aload_n 3, 1) := by decide +kernel
theorem dX4_laySalt_36 : decode cX4_laySalt 36 = .ok (.aload_n 0, 1) := by decide +kernel
theorem dX4_laySalt_37 : decode cX4_laySalt 37 = .ok (.aload_n 0, 1) := by decide +kernel
theorem dX4_laySalt_38 : decode cX4_laySalt 38 = .ok (.getfield 31, 3) := by decide +kernel
theorem dX4_laySalt_41 : decode cX4_laySalt 41 = .ok (.getfield 100, 3) := by decide +kernel
theorem dX4_laySalt_44 : decode cX4_laySalt 44 = .ok (.iload_n 2, 1) := by decide +kernel
theorem dX4_laySalt_45 : decode cX4_laySalt 45 = .ok (.iaload, 1) := by decide +kernel
theorem dX4_laySalt_46 : decode cX4_laySalt 46 = .ok (.aload_n 0, 1) := by decide +kernel
theorem dX4_laySalt_47 : decode cX4_laySalt 47 = .ok (.getfield 31, 3) := by decide +kernel
theorem dX4_laySalt_50 : decode cX4_laySalt 50 = .ok (.getfield 103, 3) := by decide +kernel
theorem dX4_laySalt_53 : decode cX4_laySalt 53 = .ok (.iload_n 2, 1) := by decide +kernel
theorem dX4_laySalt_54 : decode cX4_laySalt 54 = .ok (.iaload, 1) := by decide +kernel
theorem dX4_laySalt_55 : decode cX4_laySalt 55 = .ok (.invokevirtual 106, 3) := by decide +kernel
theorem dX4_laySalt_58 : decode cX4_laySalt 58 = .ok (.putfield 97, 3) := by decide +kernel
theorem dX4_laySalt_61 : decode cX4_laySalt 61 = .ok (.return_, 1) := by decide +kernel
theorem dX4_passHour_0 : decode cX4_passHour 0 = .ok (.aload_n 0, 1) := by decide +kernel
theorem dX4_passHour_1 : decode cX4_passHour 1 = .ok (.iconst 0, 1) := by decide +kernel
theorem dX4_passHour_2 : decode cX4_passHour 2 = .ok (.iload_n 1, 1) := by decide +kernel
theorem dX4_passHour_3 : decode cX4_passHour 3 = .ok (.invokevirtual 109, 3) := by decide +kernel
theorem dX4_passHour_6 : decode cX4_passHour 6 = .ok (.istore_n 2, 1) := by decide +kernel
theorem dX4_passHour_7 : decode cX4_passHour 7 = .ok (.iconst 0, 1) := by decide +kernel
theorem dX4_passHour_8 : decode cX4_passHour 8 = .ok (.istore_n 3, 1) := by decide +kernel
theorem dX4_passHour_9 : decode cX4_passHour 9 = .ok (.iload_n 3, 1) := by decide +kernel
theorem dX4_passHour_10 : decode cX4_passHour 10 = .ok (.aload_n 0, 1) := by decide +kernel
theorem dX4_passHour_11 : decode cX4_passHour 11 = .ok (.getfield 31, 3) := by decide +kernel
theorem dX4_passHour_14 : decode cX4_passHour 14 = .ok (.getfield 74, 3) := by decide +kernel
theorem dX4_passHour_17 : decode cX4_passHour 17 = .ok (.if_icmp .ge 34, 3) := by decide +kernel
theorem dX4_passHour_20 : decode cX4_passHour 20 = .ok (.aload_n 0, 1) := by decide +kernel
theorem dX4_passHour_21 : decode cX4_passHour 21 = .ok (.iload_n 2, 1) := by decide +kernel
theorem dX4_passHour_22 : decode cX4_passHour 22 = .ok (.aload_n 0, 1) := by decide +kernel
theorem dX4_passHour_23 : decode cX4_passHour 23 = .ok (.iload_n 3, 1) := by decide +kernel
theorem dX4_passHour_24 : decode cX4_passHour 24 = .ok (.invokevirtual 112, 3) := by decide +kernel
theorem dX4_passHour_27 : decode cX4_passHour 27 = .ok (.aload_n 0, 1) := by decide +kernel
theorem dX4_passHour_28 : decode cX4_passHour 28 = .ok (.iload_n 3, 1) := by decide +kernel
theorem dX4_passHour_29 : decode cX4_passHour 29 = .ok (.invokevirtual 116, 3) := by decide +kernel
theorem dX4_passHour_32 : decode cX4_passHour 32 = .ok (.invokevirtual 119, 3) := by decide +kernel
theorem dX4_passHour_35 : decode cX4_passHour 35 = .ok (.aload_n 0, 1) := by decide +kernel
theorem dX4_passHour_36 : decode cX4_passHour 36 = .ok (.aload_n 0, 1) := by decide +kernel
theorem dX4_passHour_37 : decode cX4_passHour 37 = .ok (.getfield 23, 3) := by decide +kernel
theorem dX4_passHour_40 : decode cX4_passHour 40 = .ok (.iload_n 3, 1) := by decide +kernel
theorem dX4_passHour_41 : decode cX4_passHour 41 = .ok (.aaload, 1) := by decide +kernel
theorem dX4_passHour_42 : decode cX4_passHour 42 = .ok (.invokevirtual 123, 3) := by decide +kernel
theorem dX4_passHour_45 : decode cX4_passHour 45 = .ok (.iinc 3 1, 3) := by decide +kernel
theorem dX4_passHour_48 : decode cX4_passHour 48 = .ok (.goto (-39), 3) := by decide +kernel
theorem dX4_passHour_51 : decode cX4_passHour 51 = .ok (.iconst 0, 1) := by decide +kernel
theorem dX4_passHour_52 : decode cX4_passHour 52 = .ok (.istore_n 3, 1) := by decide +kernel
theorem dX4_passHour_53 : decode cX4_passHour 53 = .ok (.iload_n 3, 1) := by decide +kernel
theorem dX4_passHour_54 : decode cX4_passHour 54 = .ok (.aload_n 0, 1) := by decide +kernel
theorem dX4_passHour_55 : decode cX4_passHour 55 = .ok (.getfield 31, 3) := by decide +kernel
theorem dX4_passHour_58 : decode cX4_passHour 58 = .ok (.getfield 64, 3) := by decide +kernel
theorem dX4_passHour_61 : decode cX4_passHour 61 = .ok (.if_icmp .ge 14, 3) := by decide +kernel
theorem dX4_passHour_64 : decode cX4_passHour 64 = .ok (.aload_n 0, 1) := by decide +kernel
theorem dX4_passHour_65 : decode cX4_passHour 65 = .ok (.iload_n 3, 1) := by decide +kernel
theorem dX4_passHour_66 : decode cX4_passHour 66 = .ok (.invokevirtual 126, 3) := by decide +kernel
theorem dX4_passHour_69 : decode cX4_passHour 69 = .ok (.iinc 3 1, 3) := by decide +kernel
theorem dX4_passHour_72 : decode cX4_passHour 72 = .ok (.goto (-19), 3) := by decide +kernel
theorem dX4_passHour_75 : decode cX4_passHour 75 = .ok (.aload_n 0, 1) := by decide +kernel
theorem dX4_passHour_76 : decode cX4_passHour 76 = .ok (.dup, 1) := by decide +kernel
theorem dX4_passHour_77 : decode cX4_passHour 77 = .ok (.getfield 39, 3) := by decide +kernel
theorem dX4_passHour_80 : decode cX4_passHour 80 = .ok (.iconst 1, 1) := by decide +kernel
theorem dX4_passHour_81 : decode cX4_passHour 81 = .ok (.iadd, 1) := by decide +kernel
theorem dX4_passHour_82 : decode cX4_passHour 82 = .ok (.putfield 39, 3) := by decide +kernel
theorem dX4_passHour_85 : decode cX4_passHour 85 = .ok (.return_, 1) := by decide +kernel
theorem dX4_stoveAt_0 : decode cX4_stoveAt 0 = .ok (.aload_n 0, 1) := by decide +kernel
theorem dX4_stoveAt_1 : decode cX4_stoveAt 1 = .ok (.getfield 31, 3) := by decide +kernel
theorem dX4_stoveAt_4 : decode cX4_stoveAt 4 = .ok (.getfield 103, 3) := by decide +kernel
theorem dX4_stoveAt_7 : decode cX4_stoveAt 7 = .ok (.iload_n 1, 1) := by decide +kernel
theorem dX4_stoveAt_8 : decode cX4_stoveAt 8 = .ok (.iaload, 1) := by decide +kernel
theorem dX4_stoveAt_9 : decode cX4_stoveAt 9 = .ok (.istore_n 2, 1) := by decide +kernel
theorem dX4_stoveAt_10 : decode cX4_stoveAt 10 = .ok (.aload_n 0, 1) := by decide +kernel
theorem dX4_stoveAt_11 : decode cX4_stoveAt 11 = .ok (.getfield 9, 3) := by decide +kernel
theorem dX4_stoveAt_14 : decode cX4_stoveAt 14 = .ok (.aload_n 0, 1) := by decide +kernel
theorem dX4_stoveAt_15 : decode cX4_stoveAt 15 = .ok (.getfield 31, 3) := by decide +kernel
theorem dX4_stoveAt_18 : decode cX4_stoveAt 18 = .ok (.getfield 100, 3) := by decide +kernel
theorem dX4_stoveAt_21 : decode cX4_stoveAt 21 = .ok (.iload_n 1, 1) := by decide +kernel
theorem dX4_stoveAt_22 : decode cX4_stoveAt 22 = .ok (.iaload, 1) := by decide +kernel
theorem dX4_stoveAt_23 : decode cX4_stoveAt 23 = .ok (.iaload, 1) := by decide +kernel
theorem dX4_stoveAt_24 : decode cX4_stoveAt 24 = .ok (.iload_n 2, 1) := by decide +kernel
theorem dX4_stoveAt_25 : decode cX4_stoveAt 25 = .ok (.iconst (-1), 1) := by decide +kernel
theorem dX4_stoveAt_26 : decode cX4_stoveAt 26 = .ok (.if_icmp .ne 7, 3) := by decide +kernel
theorem dX4_stoveAt_29 : decode cX4_stoveAt 29 = .ok (.iconst 0, 1) := by decide +kernel
theorem dX4_stoveAt_30 : decode cX4_stoveAt 30 = .ok (.goto 9, 3) := by decide +kernel
theorem dX4_stoveAt_33 : decode cX4_stoveAt 33 = .ok (.aload_n 0, 1) := by decide +kernel
theorem dX4_stoveAt_34 : decode cX4_stoveAt 34 = .ok (.getfield 9, 3) := by decide +kernel
theorem dX4_stoveAt_37 : decode cX4_stoveAt 37 = .ok (.iload_n 2, 1) := by decide +kernel
theorem dX4_stoveAt_38 : decode cX4_stoveAt 38 = .ok (.iaload, 1) := by decide +kernel
theorem dX4_stoveAt_39 : decode cX4_stoveAt 39 = .ok (.iadd, 1) := by decide +kernel
theorem dX4_stoveAt_40 : decode cX4_stoveAt 40 = .ok (.ireturn, 1) := by decide +kernel
theorem dX4_breathAt_0 : decode cX4_breathAt 0 = .ok (.aload_n 0, 1) := by decide +kernel
theorem dX4_breathAt_1 : decode cX4_breathAt 1 = .ok (.getfield 31, 3) := by decide +kernel
theorem dX4_breathAt_4 : decode cX4_breathAt 4 = .ok (.getfield 100, 3) := by decide +kernel
theorem dX4_breathAt_7 : decode cX4_breathAt 7 = .ok (.iload_n 1, 1) := by decide +kernel
theorem dX4_breathAt_8 : decode cX4_breathAt 8 = .ok (.iaload, 1) := by decide +kernel
theorem dX4_breathAt_9 : decode cX4_breathAt 9 = .ok (.istore_n 2, 1) := by decide +kernel
theorem dX4_breathAt_10 : decode cX4_breathAt 10 = .ok (.aload_n 0, 1) := by decide +kernel
theorem dX4_breathAt_11 : decode cX4_breathAt 11 = .ok (.getfield 31, 3) := by decide +kernel
theorem dX4_breathAt_14 : decode cX4_breathAt 14 = .ok (.getfield 103, 3) := by decide +kernel
theorem dX4_breathAt_17 : decode cX4_breathAt 17 = .ok (.iload_n 1, 1) := by decide +kernel
theorem dX4_breathAt_18 : decode cX4_breathAt 18 = .ok (.iaload, 1) := by decide +kernel
theorem dX4_breathAt_19 : decode cX4_breathAt 19 = .ok (.istore_n 3, 1) := by decide +kernel
theorem dX4_breathAt_20 : decode cX4_breathAt 20 = .ok (.aload_n 0, 1) := by decide +kernel
theorem dX4_breathAt_21 : decode cX4_breathAt 21 = .ok (.iload_n 2, 1) := by decide +kernel
theorem dX4_breathAt_22 : decode cX4_breathAt 22 = .ok (.iload_n 3, 1) := by decide +kernel
theorem dX4_breathAt_23 : decode cX4_breathAt 23 = .ok (.invokevirtual 106, 3) := by decide +kernel
theorem dX4_breathAt_26 : decode cX4_breathAt 26 = .ok (.invokestatic 129, 3) := by decide +kernel
theorem dX4_breathAt_29 : decode cX4_breathAt 29 = .ok (.aload_n 0, 1) := by decide +kernel
theorem dX4_breathAt_30 : decode cX4_breathAt 30 = .ok (.iload_n 2, 1) := by decide +kernel
theorem dX4_breathAt_31 : decode cX4_breathAt 31 = .ok (.invokevirtual 134, 3) := by decide +kernel
theorem dX4_breathAt_34 : decode cX4_breathAt 34 = .ok (.iadd, 1) := by decide +kernel
theorem dX4_breathAt_35 : decode cX4_breathAt 35 = .ok (.aload_n 0, 1) := by decide +kernel
theorem dX4_breathAt_36 : decode cX4_breathAt 36 = .ok (.iload_n 3, 1) := by decide +kernel
theorem dX4_breathAt_37 : decode cX4_breathAt 37 = .ok (.invokevirtual 134, 3) := by decide +kernel
theorem dX4_breathAt_40 : decode cX4_breathAt 40 = .ok (.iadd, 1) := by decide +kernel
theorem dX4_breathAt_41 : decode cX4_breathAt 41 = .ok (.ireturn, 1) := by decide +kernel
theorem dX4_setAround_0 : decode cX4_setAround 0 = .ok (.aload_n 0, 1) := by decide +kernel
theorem dX4_setAround_1 : decode cX4_setAround 1 = .ok (.getfield 27, 3) := by decide +kernel
theorem dX4_setAround_4 : decode cX4_setAround 4 = .ok (.iconst 3, 1) := by decide +kernel
theorem dX4_setAround_5 : decode cX4_setAround 5 = .ok (.iload_n 1, 1) := by decide +kernel
theorem dX4_setAround_6 : decode cX4_setAround 6 = .ok (.iastore, 1) := by decide +kernel
theorem dX4_setAround_7 : decode cX4_setAround 7 = .ok (.aload_n 0, 1) := by decide +kernel
theorem dX4_setAround_8 : decode cX4_setAround 8 = .ok (.getfield 27, 3) := by decide +kernel
theorem dX4_setAround_11 : decode cX4_setAround 11 = .ok (.iconst 4, 1) := by decide +kernel
theorem dX4_setAround_12 : decode cX4_setAround 12 = .ok (.iload_n 2, 1) := by decide +kernel
theorem dX4_setAround_13 : decode cX4_setAround 13 = .ok (.iastore, 1) := by decide +kernel
theorem dX4_setAround_14 : decode cX4_setAround 14 = .ok (.aload_n 0, 1) := by decide +kernel
theorem dX4_setAround_15 : decode cX4_setAround 15 = .ok (.getfield 27, 3) := by decide +kernel
theorem dX4_setAround_18 : decode cX4_setAround 18 = .ok (.bipush 6, 2) := by decide +kernel
theorem dX4_setAround_20 : decode cX4_setAround 20 = .ok (.iload_n 3, 1) := by decide +kernel
theorem dX4_setAround_21 : decode cX4_setAround 21 = .ok (.iastore, 1) := by decide +kernel
theorem dX4_setAround_22 : decode cX4_setAround 22 = .ok (.return_, 1) := by decide +kernel
theorem dX4_iceBehind_0 : decode cX4_iceBehind 0 = .ok (.aload_n 0, 1) := by decide +kernel
theorem dX4_iceBehind_1 : decode cX4_iceBehind 1 = .ok (.getfield 31, 3) := by decide +kernel
theorem dX4_iceBehind_4 : decode cX4_iceBehind 4 = .ok (.getfield 137, 3) := by decide +kernel
theorem dX4_iceBehind_7 : decode cX4_iceBehind 7 = .ok (.ifnonnull 34, 3) := by decide +kernel
theorem dX4_iceBehind_10 : decode cX4_iceBehind 10 = .ok (.aload_n 0, 1) := by decide +kernel
theorem dX4_iceBehind_11 : decode cX4_iceBehind 11 = .ok (.getfield 27, 3) := by decide +kernel
theorem dX4_iceBehind_14 : decode cX4_iceBehind 14 = .ok (.iconst 3, 1) := by decide +kernel
theorem dX4_iceBehind_15 : decode cX4_iceBehind 15 = .ok (.iaload, 1) := by decide +kernel
theorem dX4_iceBehind_16 : decode cX4_iceBehind 16 = .ok (.ineg, 1) := by decide +kernel
theorem dX4_iceBehind_17 : decode cX4_iceBehind 17 = .ok (.aload_n 0, 1) := by decide +kernel
theorem dX4_iceBehind_18 : decode cX4_iceBehind 18 = .ok (.getfield 27, 3) := by decide +kernel
theorem dX4_iceBehind_21 : decode cX4_iceBehind 21 = .ok (.iconst 4, 1) := by decide +kernel
theorem dX4_iceBehind_22 : decode cX4_iceBehind 22 = .ok (.iaload, 1) := by decide +kernel
theorem dX4_iceBehind_23 : decode cX4_iceBehind 23 = .ok (.isub, 1) := by decide +kernel
theorem dX4_iceBehind_24 : decode cX4_iceBehind 24 = .ok (.iload_n 1, 1) := by decide +kernel
theorem dX4_iceBehind_25 : decode cX4_iceBehind 25 = .ok (.iconst 3, 1) := by decide +kernel
theorem dX4_iceBehind_26 : decode cX4_iceBehind 26 = .ok (.imul, 1) := by decide +kernel
theorem dX4_iceBehind_27 : decode cX4_iceBehind 27 = .ok (.isub, 1) := by decide +kernel
theorem dX4_iceBehind_28 : decode cX4_iceBehind 28 = .ok (.aload_n 0, 1) := by decide +kernel
theorem dX4_iceBehind_29 : decode cX4_iceBehind 29 = .ok (.getfield 27, 3) := by decide +kernel
theorem dX4_iceBehind_32 : decode cX4_iceBehind 32 = .ok (.bipush 6, 2) := by decide +kernel
theorem dX4_iceBehind_34 : decode cX4_iceBehind 34 = .ok (.iaload, 1) := by decide +kernel
theorem dX4_iceBehind_35 : decode cX4_iceBehind 35 = .ok (.isub, 1) := by decide +kernel
theorem dX4_iceBehind_36 : decode cX4_iceBehind 36 = .ok (.istore 4, 2) := by decide +kernel
theorem dX4_iceBehind_38 : decode cX4_iceBehind 38 = .ok (.goto 42, 3) := by decide +kernel
theorem dX4_iceBehind_41 : decode cX4_iceBehind 41 = .ok (.aload_n 0, 1) := by decide +kernel
theorem dX4_iceBehind_42 : decode cX4_iceBehind 42 = .ok (.getfield 27, 3) := by decide +kernel
theorem dX4_iceBehind_45 : decode cX4_iceBehind 45 = .ok (.iconst 5, 1) := by decide +kernel
theorem dX4_iceBehind_46 : decode cX4_iceBehind 46 = .ok (.iload_n 1, 1) := by decide +kernel
theorem dX4_iceBehind_47 : decode cX4_iceBehind 47 = .ok (.iastore, 1) := by decide +kernel
theorem dX4_iceBehind_48 : decode cX4_iceBehind 48 = .ok (.aload_n 0, 1) := by decide +kernel
theorem dX4_iceBehind_49 : decode cX4_iceBehind 49 = .ok (.getfield 27, 3) := by decide +kernel
theorem dX4_iceBehind_52 : decode cX4_iceBehind 52 = .ok (.bipush 7, 2) := by decide +kernel
theorem dX4_iceBehind_54 : decode cX4_iceBehind 54 = .ok (.iload_n 2, 1) := by decide +kernel
theorem dX4_iceBehind_55 : decode cX4_iceBehind 55 = .ok (.iastore, 1) := by decide +kernel
theorem dX4_iceBehind_56 : decode cX4_iceBehind 56 = .ok (.aload_n 0, 1) := by decide +kernel
theorem dX4_iceBehind_57 : decode cX4_iceBehind 57 = .ok (.getfield 27, 3) := by decide +kernel
theorem dX4_iceBehind_60 : decode cX4_iceBehind 60 = .ok (.bipush 8, 2) := by decide +kernel
theorem dX4_iceBehind_62 : decode cX4_iceBehind 62 = .ok (.iload_n 3, 1) := by decide +kernel
theorem dX4_iceBehind_63 : decode cX4_iceBehind 63 = .ok (.iastore, 1) := by decide +kernel
theorem dX4_iceBehind_64 : decode cX4_iceBehind 64 = .ok (.aload_n 0, 1) := by decide +kernel
theorem dX4_iceBehind_65 : decode cX4_iceBehind 65 = .ok (.getfield 31, 3) := by decide +kernel
theorem dX4_iceBehind_68 : decode cX4_iceBehind 68 = .ok (.getfield 137, 3) := by decide +kernel
theorem dX4_iceBehind_71 : decode cX4_iceBehind 71 = .ok (.aload_n 0, 1) := by decide +kernel
theorem dX4_iceBehind_72 : decode cX4_iceBehind 72 = .ok (.getfield 27, 3) := by decide +kernel
theorem dX4_iceBehind_75 : decode cX4_iceBehind 75 = .ok (.invokevirtual 85, 3) := by decide +kernel
theorem dX4_iceBehind_78 : decode cX4_iceBehind 78 = .ok (.istore 4, 2) := by decide +kernel
theorem dX4_iceBehind_80 : decode cX4_iceBehind 80 = .ok (.bipush 20, 2) := by decide +kernel
theorem dX4_iceBehind_82 : decode cX4_iceBehind 82 = .ok (.iload 4, 2) := by decide +kernel
theorem dX4_iceBehind_84 : decode cX4_iceBehind 84 = .ok (.invokestatic 91, 3) := by decide +kernel
theorem dX4_iceBehind_87 : decode cX4_iceBehind 87 = .ok (.istore 4, 2) := by decide +kernel
theorem dX4_iceBehind_89 : decode cX4_iceBehind 89 = .ok (.iload 4, 2) := by decide +kernel
theorem dX4_iceBehind_91 : decode cX4_iceBehind 91 = .ok (.ifCond .lt 14, 3) := by decide +kernel
theorem dX4_iceBehind_94 : decode cX4_iceBehind 94 = .ok (.iload_n 2, 1) := by decide +kernel
theorem dX4_iceBehind_95 : decode cX4_iceBehind 95 = .ok (.iload 4, 2) := by decide +kernel
theorem dX4_iceBehind_97 : decode cX4_iceBehind 97 = .ok (.iload_n 3, 1) := by decide +kernel
theorem dX4_iceBehind_98 : decode cX4_iceBehind 98 = .ok (.invokestatic 140, 3) := by decide +kernel
theorem dX4_iceBehind_101 : decode cX4_iceBehind 101 = .ok (.iadd, 1) := by decide +kernel
theorem dX4_iceBehind_102 : decode cX4_iceBehind 102 = .ok (.goto 12, 3) := by decide +kernel
theorem dX4_iceBehind_105 : decode cX4_iceBehind 105 = .ok (.iload_n 2, 1) := by decide +kernel
theorem dX4_iceBehind_106 : decode cX4_iceBehind 106 = .ok (.iload 4, 2) := by decide +kernel
theorem dX4_iceBehind_108 : decode cX4_iceBehind 108 = .ok (.ineg, 1) := by decide +kernel
theorem dX4_iceBehind_109 : decode cX4_iceBehind 109 = .ok (.iload_n 2, 1) := by decide +kernel
theorem dX4_iceBehind_110 : decode cX4_iceBehind 110 = .ok (.invokestatic 140, 3) := by decide +kernel
theorem dX4_iceBehind_113 : decode cX4_iceBehind 113 = .ok (.isub, 1) := by decide +kernel
theorem dX4_iceBehind_114 : decode cX4_iceBehind 114 = .ok (.ireturn, 1) := by decide +kernel
theorem dX4_freeze_0 : decode cX4_freeze 0 = .ok (.aload_n 1, 1) := by decide +kernel
theorem dX4_freeze_1 : decode cX4_freeze 1 = .ok (.invokevirtual 145, 3) := by decide +kernel
theorem dX4_freeze_4 : decode cX4_freeze 4 = .ok (.istore_n 2, 1) := by decide +kernel
theorem dX4_freeze_5 : decode cX4_freeze 5 = .ok (.aload_n 1, 1) := by decide +kernel
theorem dX4_freeze_6 : decode cX4_freeze 6 = .ok (.getfield 94, 3) := by decide +kernel
theorem dX4_freeze_9 : decode cX4_freeze 9 = .ok (.ifCond .ne 18, 3) := by decide +kernel
theorem dX4_freeze_12 : decode cX4_freeze 12 = .ok (.aload_n 1, 1) := by decide +kernel
theorem dX4_freeze_13 : decode cX4_freeze 13 = .ok (.getfield 149, 3) := by decide +kernel
theorem dX4_freeze_16 : decode cX4_freeze 16 = .ok (.aload_n 1, 1) := by decide +kernel
theorem dX4_freeze_17 : decode cX4_freeze 17 = .ok (.getfield 152, 3) := by decide +kernel
theorem dX4_freeze_20 : decode cX4_freeze 20 = .ok (.if_icmp .ne 7, 3) := by decide +kernel
theorem dX4_freeze_23 : decode cX4_freeze 23 = .ok (.iconst 1, 1) := by decide +kernel
theorem dX4_freeze_24 : decode cX4_freeze 24 = .ok (.goto 4, 3) := by decide +kernel
theorem dX4_freeze_27 : decode cX4_freeze 27 = .ok (.iconst 0, 1) := by decide +kernel
theorem dX4_freeze_28 : decode cX4_freeze 28 = .ok (.istore_n 3, 1) := by decide +kernel
theorem dX4_freeze_29 : decode cX4_freeze 29 = .ok (.aload_n 0, 1) := by decide +kernel
theorem dX4_freeze_30 : decode cX4_freeze 30 = .ok (.aload_n 1, 1) := by decide +kernel
theorem dX4_freeze_31 : decode cX4_freeze 31 = .ok (.getfield 94, 3) := by decide +kernel
theorem dX4_freeze_34 : decode cX4_freeze 34 = .ok (.aload_n 1, 1) := by decide +kernel
theorem dX4_freeze_35 : decode cX4_freeze 35 = .ok (.getfield 152, 3) := by decide +kernel
theorem dX4_freeze_38 : decode cX4_freeze 38 = .ok (.aload_n 1, 1) := by decide +kernel
theorem dX4_freeze_39 : decode cX4_freeze 39 = .ok (.getfield 154, 3) := by decide +kernel
theorem dX4_freeze_42 : decode cX4_freeze 42 = .ok (.invokevirtual 157, 3) := by decide +kernel
theorem dX4_freeze_45 : decode cX4_freeze 45 = .ok (.istore 4, 2) := by decide +kernel
theorem dX4_freeze_47 : decode cX4_freeze 47 = .ok (.aload_n 1, 1) := by decide +kernel
theorem dX4_freeze_48 : decode cX4_freeze 48 = .ok (.iload_n 3, 1) := by decide +kernel
theorem dX4_freeze_49 : decode cX4_freeze 49 = .ok (.ifCond .eq 8, 3) := by decide +kernel
theorem dX4_freeze_52 : decode cX4_freeze 52 = .ok (.iload 4, 2) := by decide +kernel
theorem dX4_freeze_54 : decode cX4_freeze 54 = .ok (.goto 18, 3) := by decide +kernel
theorem dX4_freeze_57 : decode cX4_freeze 57 = .ok (.aload_n 0, 1) := by decide +kernel
theorem dX4_freeze_58 : decode cX4_freeze 58 = .ok (.iconst 0, 1) := by decide +kernel
theorem dX4_freeze_59 : decode cX4_freeze 59 = .ok (.aload_n 1, 1) := by decide +kernel
theorem dX4_freeze_60 : decode cX4_freeze 60 = .ok (.getfield 149, 3) := by decide +kernel
theorem dX4_freeze_63 : decode cX4_freeze 63 = .ok (.iload_n 2, 1) := by decide +kernel
theorem dX4_freeze_64 : decode cX4_freeze 64 = .ok (.aload_n 1, 1) := by decide +kernel
theorem dX4_freeze_65 : decode cX4_freeze 65 = .ok (.getfield 149, 3) := by decide +kernel
theorem dX4_freeze_68 : decode cX4_freeze 68 = .ok (.isub, 1) := by decide +kernel
theorem dX4_freeze_69 : decode cX4_freeze 69 = .ok (.invokevirtual 157, 3) := by decide +kernel
theorem dX4_freeze_72 : decode cX4_freeze 72 = .ok (.putfield 149, 3) := by decide +kernel
theorem dX4_freeze_75 : decode cX4_freeze 75 = .ok (.aload_n 1, 1) := by decide +kernel
theorem dX4_freeze_76 : decode cX4_freeze 76 = .ok (.iload 4, 2) := by decide +kernel
theorem dX4_freeze_78 : decode cX4_freeze 78 = .ok (.putfield 152, 3) := by decide +kernel
theorem dX4_freeze_81 : decode cX4_freeze 81 = .ok (.aload_n 1, 1) := by decide +kernel
theorem dX4_freeze_82 : decode cX4_freeze 82 = .ok (.iload_n 2, 1) := by decide +kernel
theorem dX4_freeze_83 : decode cX4_freeze 83 = .ok (.iload 4, 2) := by decide +kernel
theorem dX4_freeze_85 : decode cX4_freeze 85 = .ok (.isub, 1) := by decide +kernel
theorem dX4_freeze_86 : decode cX4_freeze 86 = .ok (.putfield 154, 3) := by decide +kernel
theorem dX4_freeze_89 : decode cX4_freeze 89 = .ok (.aload_n 1, 1) := by decide +kernel
theorem dX4_freeze_90 : decode cX4_freeze 90 = .ok (.aload_n 1, 1) := by decide +kernel
theorem dX4_freeze_91 : decode cX4_freeze 91 = .ok (.iconst 1, 1) := by decide +kernel
theorem dX4_freeze_92 : decode cX4_freeze 92 = .ok (.invokevirtual 161, 3) := by decide +kernel
theorem dX4_freeze_95 : decode cX4_freeze 95 = .ok (.putfield 94, 3) := by decide +kernel
theorem dX4_freeze_98 : decode cX4_freeze 98 = .ok (.return_, 1) := by decide +kernel
theorem dX4_letGo_0 : decode cX4_letGo 0 = .ok (.aload_n 0, 1) := by decide +kernel
theorem dX4_letGo_1 : decode cX4_letGo 1 = .ok (.getfield 15, 3) := by decide +kernel
theorem dX4_letGo_4 : decode cX4_letGo 4 = .ok (.iload_n 1, 1) := by decide +kernel
theorem dX4_letGo_5 : decode cX4_letGo 5 = .ok (.iaload, 1) := by decide +kernel
theorem dX4_letGo_6 : decode cX4_letGo 6 = .ok (.istore_n 2, 1) := by decide +kernel
theorem dX4_letGo_7 : decode cX4_letGo 7 = .ok (.iload_n 2, 1) := by decide +kernel
theorem dX4_letGo_8 : decode cX4_letGo 8 = .ok (.iconst (-1), 1) := by decide +kernel
theorem dX4_letGo_9 : decode cX4_letGo 9 = .ok (.if_icmp .eq 30, 3) := by decide +kernel
theorem dX4_letGo_12 : decode cX4_letGo 12 = .ok (.aload_n 0, 1) := by decide +kernel
theorem dX4_letGo_13 : decode cX4_letGo 13 = .ok (.getfield 39, 3) := by decide +kernel
theorem dX4_letGo_16 : decode cX4_letGo 16 = .ok (.bipush 24, 2) := by decide +kernel
theorem dX4_letGo_18 : decode cX4_letGo 18 = .ok (.idiv, 1) := by decide +kernel
theorem dX4_letGo_19 : decode cX4_letGo 19 = .ok (.aload_n 0, 1) := by decide +kernel
theorem dX4_letGo_20 : decode cX4_letGo 20 = .ok (.getfield 31, 3) := by decide +kernel
theorem dX4_letGo_23 : decode cX4_letGo 23 = .ok (.getfield 164, 3) := by decide +kernel
theorem dX4_letGo_26 : decode cX4_letGo 26 = .ok (.iload_n 1, 1) := by decide +kernel
theorem dX4_letGo_27 : decode cX4_letGo 27 = .ok (.iaload, 1) := by decide +kernel
theorem dX4_letGo_28 : decode cX4_letGo 28 = .ok (.if_icmp .lt 11, 3) := by decide +kernel
theorem dX4_letGo_31 : decode cX4_letGo 31 = .ok (.aload_n 0, 1) := by decide +kernel
theorem dX4_letGo_32 : decode cX4_letGo 32 = .ok (.iload_n 2, 1) := by decide +kernel
theorem dX4_letGo_33 : decode cX4_letGo 33 = .ok (.invokevirtual 134, 3) := by decide +kernel
theorem dX4_letGo_36 : decode cX4_letGo 36 = .ok (.ifCond .le 4, 3) := by decide +kernel
theorem dX4_letGo_39 : decode cX4_letGo 39 = .ok (.return_, 1) := by decide +kernel
theorem dX4_letGo_40 : decode cX4_letGo 40 = .ok (.iload_n 2, 1) := by decide +kernel
theorem dX4_letGo_41 : decode cX4_letGo 41 = .ok (.istore_n 3, 1) := by decide +kernel
theorem dX4_letGo_42 : decode cX4_letGo 42 = .ok (.iconst 0, 1) := by decide +kernel
theorem dX4_letGo_43 : decode cX4_letGo 43 = .ok (.istore 4, 2) := by decide +kernel
theorem dX4_letGo_45 : decode cX4_letGo 45 = .ok (.iload 4, 2) := by decide +kernel
theorem dX4_letGo_47 : decode cX4_letGo 47 = .ok (.aload_n 0, 1) := by decide +kernel
theorem dX4_letGo_48 : decode cX4_letGo 48 = .ok (.getfield 31, 3) := by decide +kernel
theorem dX4_letGo_51 : decode cX4_letGo 51 = .ok (.getfield 74, 3) := by decide +kernel
theorem dX4_letGo_54 : decode cX4_letGo 54 = .ok (.if_icmp .ge 84, 3) := by decide +kernel
theorem dX4_letGo_57 : decode cX4_letGo 57 = .ok (.aload_n 0, 1) := by decide +kernel
theorem dX4_letGo_58 : decode cX4_letGo 58 = .ok (.getfield 31, 3) := by decide +kernel
theorem dX4_letGo_61 : decode cX4_letGo 61 = .ok (.iload 4, 2) := by decide +kernel
theorem dX4_letGo_63 : decode cX4_letGo 63 = .ok (.iload_n 2, 1) := by decide +kernel
theorem dX4_letGo_64 : decode cX4_letGo 64 = .ok (.invokevirtual 167, 3) := by decide +kernel
theorem dX4_letGo_67 : decode cX4_letGo 67 = .ok (.istore 5, 2) := by decide +kernel
theorem dX4_letGo_69 : decode cX4_letGo 69 = .ok (.iload 5, 2) := by decide +kernel
theorem dX4_letGo_71 : decode cX4_letGo 71 = .ok (.bipush (-2), 2) := by decide +kernel
theorem dX4_letGo_73 : decode cX4_letGo 73 = .ok (.if_icmp .eq 29, 3) := by decide +kernel
theorem dX4_letGo_76 : decode cX4_letGo 76 = .ok (.iload 4, 2) := by decide +kernel
theorem dX4_letGo_78 : decode cX4_letGo 78 = .ok (.aload_n 0, 1) := by decide +kernel
theorem dX4_letGo_79 : decode cX4_letGo 79 = .ok (.getfield 35, 3) := by decide +kernel
theorem dX4_letGo_82 : decode cX4_letGo 82 = .ok (.if_icmp .eq 20, 3) := by decide +kernel
theorem dX4_letGo_85 : decode cX4_letGo 85 = .ok (.aload_n 0, 1) := by decide +kernel
theorem dX4_letGo_86 : decode cX4_letGo 86 = .ok (.getfield 23, 3) := by decide +kernel
theorem dX4_letGo_89 : decode cX4_letGo 89 = .ok (.iload 4, 2) := by decide +kernel
theorem dX4_letGo_91 : decode cX4_letGo 91 = .ok (.aaload, 1) := by decide +kernel
theorem dX4_letGo_92 : decode cX4_letGo 92 = .ok (.invokevirtual 77, 3) := by decide +kernel
theorem dX4_letGo_95 : decode cX4_letGo 95 = .ok (.ifCond .eq 7, 3) := by decide +kernel
theorem dX4_letGo_98 : decode cX4_letGo 98 = .ok (.iconst 1, 1) := by decide +kernel
theorem dX4_letGo_99 : decode cX4_letGo 99 = .ok (.goto 4, 3) := by decide +kernel
theorem dX4_letGo_102 : decode cX4_letGo 102 = .ok (.iconst 0, 1) := by decide +kernel
theorem dX4_letGo_103 : decode cX4_letGo 103 = .ok (.istore 6, 2) := by decide +kernel
theorem dX4_letGo_105 : decode cX4_letGo 105 = .ok (.iload 6, 2) := by decide +kernel
theorem dX4_letGo_107 : decode cX4_letGo 107 = .ok (.ifCond .eq 25, 3) := by decide +kernel
theorem dX4_letGo_110 : decode cX4_letGo 110 = .ok (.aload_n 0, 1) := by decide +kernel
theorem dX4_letGo_111 : decode cX4_letGo 111 = .ok (.iload 5, 2) := by decide +kernel
theorem dX4_letGo_113 : decode cX4_letGo 113 = .ok (.iload_n 3, 1) := by decide +kernel
theorem dX4_letGo_114 : decode cX4_letGo 114 = .ok (.invokevirtual 170, 3) := by decide +kernel
theorem dX4_letGo_117 : decode cX4_letGo 117 = .ok (.ifCond .eq 15, 3) := by decide +kernel
theorem dX4_letGo_120 : decode cX4_letGo 120 = .ok (.aload_n 0, 1) := by decide +kernel
theorem dX4_letGo_121 : decode cX4_letGo 121 = .ok (.iload 5, 2) := by decide +kernel
theorem dX4_letGo_123 : decode cX4_letGo 123 = .ok (.invokevirtual 134, 3) := by decide +kernel
theorem dX4_letGo_126 : decode cX4_letGo 126 = .ok (.ifCond .ne 6, 3) := by decide +kernel
theorem dX4_letGo_129 : decode cX4_letGo 129 = .ok (.iload 5, 2) := by decide +kernel
theorem dX4_letGo_131 : decode cX4_letGo 131 = .ok (.istore_n 3, 1) := by decide +kernel
theorem dX4_letGo_132 : decode cX4_letGo 132 = .ok (.iinc 4 1, 3) := by decide +kernel
theorem dX4_letGo_135 : decode cX4_letGo 135 = .ok (.goto (-90), 3) := by decide +kernel
theorem dX4_letGo_138 : decode cX4_letGo 138 = .ok (.aload_n 0, 1) := by decide +kernel
theorem dX4_letGo_139 : decode cX4_letGo 139 = .ok (.getfield 15, 3) := by decide +kernel
theorem dX4_letGo_142 : decode cX4_letGo 142 = .ok (.iload_n 1, 1) := by decide +kernel
theorem dX4_letGo_143 : decode cX4_letGo 143 = .ok (.iload_n 3, 1) := by decide +kernel
theorem dX4_letGo_144 : decode cX4_letGo 144 = .ok (.iastore, 1) := by decide +kernel
theorem dX4_letGo_145 : decode cX4_letGo 145 = .ok (.return_, 1) := by decide +kernel
theorem dX4_isNearer_0 : decode cX4_isNearer 0 = .ok (.aload_n 0, 1) := by decide +kernel
theorem dX4_isNearer_1 : decode cX4_isNearer 1 = .ok (.getfield 31, 3) := by decide +kernel
theorem dX4_isNearer_4 : decode cX4_isNearer 4 = .ok (.iload_n 1, 1) := by decide +kernel
theorem dX4_isNearer_5 : decode cX4_isNearer 5 = .ok (.invokevirtual 174, 3) := by decide +kernel
theorem dX4_isNearer_8 : decode cX4_isNearer 8 = .ok (.istore_n 3, 1) := by decide +kernel
theorem dX4_isNearer_9 : decode cX4_isNearer 9 = .ok (.iload_n 3, 1) := by decide +kernel
theorem dX4_isNearer_10 : decode cX4_isNearer 10 = .ok (.iconst (-1), 1) := by decide +kernel
theorem dX4_isNearer_11 : decode cX4_isNearer 11 = .ok (.if_icmp .eq 19, 3) := by decide +kernel
theorem dX4_isNearer_14 : decode cX4_isNearer 14 = .ok (.iload_n 3, 1) := by decide +kernel
theorem dX4_isNearer_15 : decode cX4_isNearer 15 = .ok (.aload_n 0, 1) := by decide +kernel
theorem dX4_isNearer_16 : decode cX4_isNearer 16 = .ok (.getfield 31, 3) := by decide +kernel
theorem dX4_isNearer_19 : decode cX4_isNearer 19 = .ok (.iload_n 2, 1) := by decide +kernel
theorem dX4_isNearer_20 : decode cX4_isNearer 20 = .ok (.invokevirtual 174, 3) := by decide +kernel
theorem dX4_isNearer_23 : decode cX4_isNearer 23 = .ok (.if_icmp .ge 7, 3) := by decide +kernel
theorem dX4_isNearer_26 : decode cX4_isNearer 26 = .ok (.iconst 1, 1) := by decide +kernel
theorem dX4_isNearer_27 : decode cX4_isNearer 27 = .ok (.goto 4, 3) := by decide +kernel
theorem dX4_isNearer_30 : decode cX4_isNearer 30 = .ok (.iconst 0, 1) := by decide +kernel
theorem dX4_isNearer_31 : decode cX4_isNearer 31 = .ok (.ireturn, 1) := by decide +kernel
theorem dX4_atMost_0 : decode cX4_atMost 0 = .ok (.iload_n 0, 1) := by decide +kernel
theorem dX4_atMost_1 : decode cX4_atMost 1 = .ok (.ineg, 1) := by decide +kernel
theorem dX4_atMost_2 : decode cX4_atMost 2 = .ok (.iload_n 0, 1) := by decide +kernel
theorem dX4_atMost_3 : decode cX4_atMost 3 = .ok (.iload_n 1, 1) := by decide +kernel
theorem dX4_atMost_4 : decode cX4_atMost 4 = .ok (.invokestatic 140, 3) := by decide +kernel
theorem dX4_atMost_7 : decode cX4_atMost 7 = .ok (.invokestatic 177, 3) := by decide +kernel
theorem dX4_atMost_10 : decode cX4_atMost 10 = .ok (.ireturn, 1) := by decide +kernel
theorem dX5_init_0 : decode cX5_init 0 = .ok (.aload_n 0, 1) := by decide +kernel
theorem dX5_init_1 : decode cX5_init 1 = .ok (.invokespecial 3, 3) := by decide +kernel
theorem dX5_init_4 : decode cX5_init 4 = .ok (.aload_n 0, 1) := by decide +kernel
theorem dX5_init_5 : decode cX5_init 5 = .ok (.new 9, 3) := by decide +kernel
theorem dX5_init_8 : decode cX5_init 8 = .ok (.dup, 1) := by decide +kernel
theorem dX5_init_9 : decode cX5_init 9 = .ok (.invokespecial 11, 3) := by decide +kernel
theorem dX5_init_12 : decode cX5_init 12 = .ok (.putfield 12, 3) := by decide +kernel
theorem dX5_init_15 : decode cX5_init 15 = .ok (.aload_n 0, 1) := by decide +kernel
theorem dX5_init_16 : decode cX5_init 16 = .ok (.bipush 8, 2) := by decide +kernel
theorem dX5_init_18 : decode cX5_init 18 = .ok (.newarray .long, 2) := by decide +kernel
theorem dX5_init_20 : decode cX5_init 20 = .ok (.putfield 18, 3) := by decide +kernel
theorem dX5_init_23 : decode cX5_init 23 = .ok (.aload_n 0, 1) := by decide +kernel
theorem dX5_init_24 : decode cX5_init 24 = .ok (.bipush 6, 2) := by decide +kernel
theorem dX5_init_26 : decode cX5_init 26 = .ok (.newarray .long, 2) := by decide +kernel
theorem dX5_init_28 : decode cX5_init 28 = .ok (.putfield 22, 3) := by decide +kernel
theorem dX5_init_31 : decode cX5_init 31 = .ok (.aload_n 0, 1) := by decide +kernel
theorem dX5_init_32 : decode cX5_init 32 = .ok (.new 25, 3) := by decide +kernel
theorem dX5_init_35 : decode cX5_init 35 = .ok (.dup, 1) := by decide +kernel
theorem dX5_init_36 : decode cX5_init 36 = .ok (.aload_n 1, 1) := by decide +kernel
theorem dX5_init_37 : decode cX5_init 37 = .ok (.invokespecial 27, 3) := by decide +kernel
theorem dX5_init_40 : decode cX5_init 40 = .ok (.putfield 30, 3) := by decide +kernel
theorem dX5_init_43 : decode cX5_init 43 = .ok (.aload_n 0, 1) := by decide +kernel
theorem dX5_init_44 : decode cX5_init 44 = .ok (.aload_n 0, 1) := by decide +kernel
theorem dX5_init_45 : decode cX5_init 45 = .ok (.getfield 30, 3) := by decide +kernel
theorem dX5_init_48 : decode cX5_init 48 = .ok (.getfield 34, 3) := by decide +kernel
theorem dX5_init_51 : decode cX5_init 51 = .ok (.newarray .int, 2) := by decide +kernel
theorem dX5_init_53 : decode cX5_init 53 = .ok (.putfield 38, 3) := by decide +kernel
theorem dX5_init_56 : decode cX5_init 56 = .ok (.return_, 1) := by decide +kernel
theorem dX5_readAll_0 : decode cX5_readAll 0 = .ok (.aload_n 0, 1) := by decide +kernel
theorem dX5_readAll_1 : decode cX5_readAll 1 = .ok (.getfield 30, 3) := by decide +kernel
theorem dX5_readAll_4 : decode cX5_readAll 4 = .ok (.invokevirtual 42, 3) := by decide +kernel
theorem dX5_readAll_7 : decode cX5_readAll 7 = .ok (.iconst 0, 1) := by decide +kernel
theorem dX5_readAll_8 : decode cX5_readAll 8 = .ok (.istore_n 1, 1) := by decide +kernel
theorem dX5_readAll_9 : decode cX5_readAll 9 = .ok (.iload_n 1, 1) := by decide +kernel
theorem dX5_readAll_10 : decode cX5_readAll 10 = .ok (.sipush 1000, 3) := by decide +kernel
theorem dX5_readAll_13 : decode cX5_readAll 13 = .ok (.if_icmp .gt 31, 3) := by decide +kernel
theorem dX5_readAll_16 : decode cX5_readAll 16 = .ok (.aload_n 0, 1) := by decide +kernel
theorem dX5_readAll_17 : decode cX5_readAll 17 = .ok (.getfield 30, 3) := by decide +kernel
theorem dX5_readAll_20 : decode cX5_readAll 20 = .ok (.getfield 47, 3) := by decide +kernel
theorem dX5_readAll_23 : decode cX5_readAll 23 = .ok (.ifCond .eq 21, 3) := by decide +kernel
theorem dX5_readAll_26 : decode cX5_readAll 26 = .ok (.aload_n 0, 1) := by decide +kernel
theorem dX5_readAll_27 : decode cX5_readAll 27 = .ok (.invokevirtual 50, 3) := by decide +kernel
theorem dX5_readAll_30 : decode cX5_readAll 30 = .ok (.ifCond .ne 8, 3) := by decide +kernel
theorem dX5_readAll_33 : decode cX5_readAll 33 = .ok (.aload_n 0, 1) := by decide +kernel
theorem dX5_readAll_34 : decode cX5_readAll 34 = .ok (.getfield 54, 3) := by decide +kernel
theorem dX5_readAll_37 : decode cX5_readAll 37 = .ok (.ireturn, 1) := by decide +kernel
theorem dX5_readAll_38 : decode cX5_readAll 38 = .ok (.iinc 1 1, 3) := by decide +kernel
theorem dX5_readAll_41 : decode cX5_readAll 41 = .ok (.goto (-32), 3) := by decide +kernel
theorem dX5_readAll_44 : decode cX5_readAll 44 = .ok (.aload_n 0, 1) := by decide +kernel
theorem dX5_readAll_45 : decode cX5_readAll 45 = .ok (.getfield 12, 3) := by decide +kernel
theorem dX5_readAll_48 : decode cX5_readAll 48 = .ok (.invokevirtual 57, 3) := by decide +kernel
theorem dX5_readAll_51 : decode cX5_readAll 51 = .ok (.iconst 0, 1) := by decide +kernel
theorem dX5_readAll_52 : decode cX5_readAll 52 = .ok (.ireturn, 1) := by decide +kernel
theorem dX5_wrong_0 : decode cX5_wrong 0 = .ok (.aload_n 0, 1) := by decide +kernel
theorem dX5_wrong_1 : decode cX5_wrong 1 = .ok (.iload_n 1, 1) := by decide +kernel
theorem dX5_wrong_2 : decode cX5_wrong 2 = .ok (.bipush 16, 2) := by decide +kernel
theorem dX5_wrong_4 : decode cX5_wrong 4 = .ok (.aload_n 0, 1) := by decide +kernel
theorem dX5_wrong_5 : decode cX5_wrong 5 = .ok (.getfield 30, 3) := by decide +kernel
theorem dX5_wrong_8 : decode cX5_wrong 8 = .ok (.getfield 60, 3) := by decide +kernel
theorem dX5_wrong_11 : decode cX5_wrong 11 = .ok (.imul, 1) := by decide +kernel
theorem dX5_wrong_12 : decode cX5_wrong 12 = .ok (.iadd, 1) := by decide +kernel
theorem dX5_wrong_13 : decode cX5_wrong 13 = .ok (.putfield 54, 3) := by decide +kernel
theorem dX5_wrong_16 : decode cX5_wrong 16 = .ok (.iconst 0, 1) := by decide +kernel
theorem dX5_wrong_17 : decode cX5_wrong 17 = .ok (.ireturn, 1) := by decide +kernel
theorem dX5_readLine_0 : decode cX5_readLine 0 = .ok (.aload_n 0, 1) := by decide +kernel
theorem dX5_readLine_1 : decode cX5_readLine 1 = .ok (.getfield 30, 3) := by decide +kernel
theorem dX5_readLine_4 : decode cX5_readLine 4 = .ok (.getfield 63, 3) := by decide +kernel
theorem dX5_readLine_7 : decode cX5_readLine 7 = .ok (.astore_n 2, 1) := by decide +kernel
theorem dX5_readLine_8 : decode cX5_readLine 8 = .ok (.aload_n 2, 1) := by decide +kernel
theorem dX5_readLine_9 : decode cX5_readLine 9 = .ok (.getstatic 67, 3) := by decide +kernel
theorem dX5_readLine_12 : decode cX5_readLine 12 = .ok (.if_acmp .ne 12, 3) := by decide +kernel
theorem dX5_readLine_15 : decode cX5_readLine 15 = .ok (.aload_n 0, 1) := by decide +kernel
theorem dX5_readLine_16 : decode cX5_readLine 16 = .ok (.iconst 1, 1) := by decide +kernel
theorem dX5_readLine_17 : decode cX5_readLine 17 = .ok (.invokevirtual 72, 3) := by decide +kernel
