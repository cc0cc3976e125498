theorem dX10_isDoor_4 : decode cX10_isDoor 4 = .ok (.iload_n 1, 1) := by decide +kernel
theorem dX10_isDoor_5 : decode cX10_isDoor 5 = .ok (.aload_n 0, 1) := by decide +kernel
theorem dX10_isDoor_6 : decode cX10_isDoor 6 = .ok (.getfield 16, 3) := by decide +kernel
theorem dX10_isDoor_9 : decode cX10_isDoor 9 = .ok (.iconst 0, 1) := by decide +kernel
theorem dX10_isDoor_10 : decode cX10_isDoor 10 = .ok (.iaload, 1) := by decide +kernel
theorem dX10_isDoor_11 : decode cX10_isDoor 11 = .ok (.if_icmp .ge 7, 3) := by decide +kernel
theorem dX10_isDoor_14 : decode cX10_isDoor 14 = .ok (.iconst 1, 1) := by decide +kernel
theorem dX10_isDoor_15 : decode cX10_isDoor 15 = .ok (.goto 4, 3) := by decide +kernel
theorem dX10_isDoor_18 : decode cX10_isDoor 18 = .ok (.iconst 0, 1) := by decide +kernel
theorem dX10_isDoor_19 : decode cX10_isDoor 19 = .ok (.ireturn, 1) := by decide +kernel
theorem dX10_isMan_0 : decode cX10_isMan 0 = .ok (.iload_n 1, 1) := by decide +kernel
theorem dX10_isMan_1 : decode cX10_isMan 1 = .ok (.ifCond .lt 17, 3) := by decide +kernel
theorem dX10_isMan_4 : decode cX10_isMan 4 = .ok (.iload_n 1, 1) := by decide +kernel
theorem dX10_isMan_5 : decode cX10_isMan 5 = .ok (.aload_n 0, 1) := by decide +kernel
theorem dX10_isMan_6 : decode cX10_isMan 6 = .ok (.getfield 19, 3) := by decide +kernel
theorem dX10_isMan_9 : decode cX10_isMan 9 = .ok (.iconst 0, 1) := by decide +kernel
theorem dX10_isMan_10 : decode cX10_isMan 10 = .ok (.iaload, 1) := by decide +kernel
theorem dX10_isMan_11 : decode cX10_isMan 11 = .ok (.if_icmp .ge 7, 3) := by decide +kernel
theorem dX10_isMan_14 : decode cX10_isMan 14 = .ok (.iconst 1, 1) := by decide +kernel
theorem dX10_isMan_15 : decode cX10_isMan 15 = .ok (.goto 4, 3) := by decide +kernel
theorem dX10_isMan_18 : decode cX10_isMan 18 = .ok (.iconst 0, 1) := by decide +kernel
theorem dX10_isMan_19 : decode cX10_isMan 19 = .ok (.ireturn, 1) := by decide +kernel
theorem dX10_isHeld_0 : decode cX10_isHeld 0 = .ok (.aload_n 0, 1) := by decide +kernel
theorem dX10_isHeld_1 : decode cX10_isHeld 1 = .ok (.iload_n 1, 1) := by decide +kernel
theorem dX10_isHeld_2 : decode cX10_isHeld 2 = .ok (.invokevirtual 324, 3) := by decide +kernel
theorem dX10_isHeld_5 : decode cX10_isHeld 5 = .ok (.ifCond .eq 19, 3) := by decide +kernel
theorem dX10_isHeld_8 : decode cX10_isHeld 8 = .ok (.aload_n 0, 1) := by decide +kernel
theorem dX10_isHeld_9 : decode cX10_isHeld 9 = .ok (.getfield 108, 3) := by decide +kernel
theorem dX10_isHeld_12 : decode cX10_isHeld 12 = .ok (.bipush 68, 2) := by decide +kernel
theorem dX10_isHeld_14 : decode cX10_isHeld 14 = .ok (.iload_n 1, 1) := by decide +kernel
theorem dX10_isHeld_15 : decode cX10_isHeld 15 = .ok (.iadd, 1) := by decide +kernel
theorem dX10_isHeld_16 : decode cX10_isHeld 16 = .ok (.iaload, 1) := by decide +kernel
theorem dX10_isHeld_17 : decode cX10_isHeld 17 = .ok (.ifCond .lt 7, 3) := by decide +kernel
theorem dX10_isHeld_20 : decode cX10_isHeld 20 = .ok (.iconst 1, 1) := by decide +kernel
theorem dX10_isHeld_21 : decode cX10_isHeld 21 = .ok (.goto 4, 3) := by decide +kernel
theorem dX10_isHeld_24 : decode cX10_isHeld 24 = .ok (.iconst 0, 1) := by decide +kernel
theorem dX10_isHeld_25 : decode cX10_isHeld 25 = .ok (.ireturn, 1) := by decide +kernel
theorem dX10_ways_0 : decode cX10_ways 0 = .ok (.iconst 0, 1) := by decide +kernel
theorem dX10_ways_1 : decode cX10_ways 1 = .ok (.istore_n 1, 1) := by decide +kernel
theorem dX10_ways_2 : decode cX10_ways 2 = .ok (.iload_n 1, 1) := by decide +kernel
theorem dX10_ways_3 : decode cX10_ways 3 = .ok (.bipush 8, 2) := by decide +kernel
theorem dX10_ways_5 : decode cX10_ways 5 = .ok (.if_icmp .ge 16, 3) := by decide +kernel
theorem dX10_ways_8 : decode cX10_ways 8 = .ok (.aload_n 0, 1) := by decide +kernel
theorem dX10_ways_9 : decode cX10_ways 9 = .ok (.getfield 117, 3) := by decide +kernel
theorem dX10_ways_12 : decode cX10_ways 12 = .ok (.iload_n 1, 1) := by decide +kernel
theorem dX10_ways_13 : decode cX10_ways 13 = .ok (.iconst 0, 1) := by decide +kernel
theorem dX10_ways_14 : decode cX10_ways 14 = .ok (.iastore, 1) := by decide +kernel
theorem dX10_ways_15 : decode cX10_ways 15 = .ok (.iinc 1 1, 3) := by decide +kernel
theorem dX10_ways_18 : decode cX10_ways 18 = .ok (.goto (-16), 3) := by decide +kernel
theorem dX10_ways_21 : decode cX10_ways 21 = .ok (.iconst 1, 1) := by decide +kernel
theorem dX10_ways_22 : decode cX10_ways 22 = .ok (.istore_n 1, 1) := by decide +kernel
theorem dX10_ways_23 : decode cX10_ways 23 = .ok (.iload_n 1, 1) := by decide +kernel
theorem dX10_ways_24 : decode cX10_ways 24 = .ok (.bipush 9, 2) := by decide +kernel
theorem dX10_ways_26 : decode cX10_ways 26 = .ok (.if_icmp .ge 140, 3) := by decide +kernel
theorem dX10_ways_29 : decode cX10_ways 29 = .ok (.iconst 0, 1) := by decide +kernel
theorem dX10_ways_30 : decode cX10_ways 30 = .ok (.istore_n 2, 1) := by decide +kernel
theorem dX10_ways_31 : decode cX10_ways 31 = .ok (.iload_n 2, 1) := by decide +kernel
theorem dX10_ways_32 : decode cX10_ways 32 = .ok (.aload_n 0, 1) := by decide +kernel
theorem dX10_ways_33 : decode cX10_ways 33 = .ok (.getfield 16, 3) := by decide +kernel
theorem dX10_ways_36 : decode cX10_ways 36 = .ok (.iconst 0, 1) := by decide +kernel
theorem dX10_ways_37 : decode cX10_ways 37 = .ok (.iaload, 1) := by decide +kernel
theorem dX10_ways_38 : decode cX10_ways 38 = .ok (.if_icmp .ge 122, 3) := by decide +kernel
theorem dX10_ways_41 : decode cX10_ways 41 = .ok (.aload_n 0, 1) := by decide +kernel
theorem dX10_ways_42 : decode cX10_ways 42 = .ok (.getfield 38, 3) := by decide +kernel
theorem dX10_ways_45 : decode cX10_ways 45 = .ok (.iload_n 2, 1) := by decide +kernel
theorem dX10_ways_46 : decode cX10_ways 46 = .ok (.iaload, 1) := by decide +kernel
theorem dX10_ways_47 : decode cX10_ways 47 = .ok (.istore_n 3, 1) := by decide +kernel
theorem dX10_ways_48 : decode cX10_ways 48 = .ok (.aload_n 0, 1) := by decide +kernel
theorem dX10_ways_49 : decode cX10_ways 49 = .ok (.getfield 41, 3) := by decide +kernel
theorem dX10_ways_52 : decode cX10_ways 52 = .ok (.iload_n 2, 1) := by decide +kernel
theorem dX10_ways_53 : decode cX10_ways 53 = .ok (.iaload, 1) := by decide +kernel
theorem dX10_ways_54 : decode cX10_ways 54 = .ok (.istore 4, 2) := by decide +kernel
theorem dX10_ways_56 : decode cX10_ways 56 = .ok (.iload 4, 2) := by decide +kernel
theorem dX10_ways_58 : decode cX10_ways 58 = .ok (.ifCond .ge 27, 3) := by decide +kernel
theorem dX10_ways_61 : decode cX10_ways 61 = .ok (.aload_n 0, 1) := by decide +kernel
theorem dX10_ways_62 : decode cX10_ways 62 = .ok (.getfield 117, 3) := by decide +kernel
theorem dX10_ways_65 : decode cX10_ways 65 = .ok (.iload_n 3, 1) := by decide +kernel
theorem dX10_ways_66 : decode cX10_ways 66 = .ok (.iload_n 1, 1) := by decide +kernel
theorem dX10_ways_67 : decode cX10_ways 67 = .ok (.iconst 1, 1) := by decide +kernel
theorem dX10_ways_68 : decode cX10_ways 68 = .ok (.if_icmp .ne 7, 3) := by decide +kernel
theorem dX10_ways_71 : decode cX10_ways 71 = .ok (.iconst 1, 1) := by decide +kernel
theorem dX10_ways_72 : decode cX10_ways 72 = .ok (.goto 9, 3) := by decide +kernel
theorem dX10_ways_75 : decode cX10_ways 75 = .ok (.aload_n 0, 1) := by decide +kernel
theorem dX10_ways_76 : decode cX10_ways 76 = .ok (.getfield 117, 3) := by decide +kernel
theorem dX10_ways_79 : decode cX10_ways 79 = .ok (.iload_n 3, 1) := by decide +kernel
theorem dX10_ways_80 : decode cX10_ways 80 = .ok (.iaload, 1) := by decide +kernel
theorem dX10_ways_81 : decode cX10_ways 81 = .ok (.iastore, 1) := by decide +kernel
theorem dX10_ways_82 : decode cX10_ways 82 = .ok (.goto 72, 3) := by decide +kernel
theorem dX10_ways_85 : decode cX10_ways 85 = .ok (.aload_n 0, 1) := by decide +kernel
theorem dX10_ways_86 : decode cX10_ways 86 = .ok (.getfield 117, 3) := by decide +kernel
theorem dX10_ways_89 : decode cX10_ways 89 = .ok (.iload_n 3, 1) := by decide +kernel
theorem dX10_ways_90 : decode cX10_ways 90 = .ok (.iaload, 1) := by decide +kernel
theorem dX10_ways_91 : decode cX10_ways 91 = .ok (.ifCond .ne 28, 3) := by decide +kernel
theorem dX10_ways_94 : decode cX10_ways 94 = .ok (.aload_n 0, 1) := by decide +kernel
theorem dX10_ways_95 : decode cX10_ways 95 = .ok (.getfield 117, 3) := by decide +kernel
theorem dX10_ways_98 : decode cX10_ways 98 = .ok (.iload 4, 2) := by decide +kernel
theorem dX10_ways_100 : decode cX10_ways 100 = .ok (.iaload, 1) := by decide +kernel
theorem dX10_ways_101 : decode cX10_ways 101 = .ok (.iload_n 1, 1) := by decide +kernel
theorem dX10_ways_102 : decode cX10_ways 102 = .ok (.iconst 1, 1) := by decide +kernel
theorem dX10_ways_103 : decode cX10_ways 103 = .ok (.isub, 1) := by decide +kernel
theorem dX10_ways_104 : decode cX10_ways 104 = .ok (.if_icmp .ne 15, 3) := by decide +kernel
theorem dX10_ways_107 : decode cX10_ways 107 = .ok (.iload_n 1, 1) := by decide +kernel
theorem dX10_ways_108 : decode cX10_ways 108 = .ok (.iconst 1, 1) := by decide +kernel
theorem dX10_ways_109 : decode cX10_ways 109 = .ok (.if_icmp .le 10, 3) := by decide +kernel
theorem dX10_ways_112 : decode cX10_ways 112 = .ok (.aload_n 0, 1) := by decide +kernel
theorem dX10_ways_113 : decode cX10_ways 113 = .ok (.getfield 117, 3) := by decide +kernel
theorem dX10_ways_116 : decode cX10_ways 116 = .ok (.iload_n 3, 1) := by decide +kernel
theorem dX10_ways_117 : decode cX10_ways 117 = .ok (.iload_n 1, 1) := by decide +kernel
theorem dX10_ways_118 : decode cX10_ways 118 = .ok (.iastore, 1) := by decide +kernel
theorem dX10_ways_119 : decode cX10_ways 119 = .ok (.aload_n 0, 1) := by decide +kernel
theorem dX10_ways_120 : decode cX10_ways 120 = .ok (.getfield 117, 3) := by decide +kernel
theorem dX10_ways_123 : decode cX10_ways 123 = .ok (.iload 4, 2) := by decide +kernel
theorem dX10_ways_125 : decode cX10_ways 125 = .ok (.iaload, 1) := by decide +kernel
theorem dX10_ways_126 : decode cX10_ways 126 = .ok (.ifCond .ne 28, 3) := by decide +kernel
theorem dX10_ways_129 : decode cX10_ways 129 = .ok (.aload_n 0, 1) := by decide +kernel
theorem dX10_ways_130 : decode cX10_ways 130 = .ok (.getfield 117, 3) := by decide +kernel
theorem dX10_ways_133 : decode cX10_ways 133 = .ok (.iload_n 3, 1) := by decide +kernel
theorem dX10_ways_134 : decode cX10_ways 134 = .ok (.iaload, 1) := by decide +kernel
theorem dX10_ways_135 : decode cX10_ways 135 = .ok (.iload_n 1, 1) := by decide +kernel
theorem dX10_ways_136 : decode cX10_ways 136 = .ok (.iconst 1, 1) := by decide +kernel
theorem dX10_ways_137 : decode cX10_ways 137 = .ok (.isub, 1) := by decide +kernel
theorem dX10_ways_138 : decode cX10_ways 138 = .ok (.if_icmp .ne 16, 3) := by decide +kernel
theorem dX10_ways_141 : decode cX10_ways 141 = .ok (.iload_n 1, 1) := by decide +kernel
theorem dX10_ways_142 : decode cX10_ways 142 = .ok (.iconst 1, 1) := by decide +kernel
theorem dX10_ways_143 : decode cX10_ways 143 = .ok (.if_icmp .le 11, 3) := by decide +kernel
theorem dX10_ways_146 : decode cX10_ways 146 = .ok (.aload_n 0, 1) := by decide +kernel
theorem dX10_ways_147 : decode cX10_ways 147 = .ok (.getfield 117, 3) := by decide +kernel
theorem dX10_ways_150 : decode cX10_ways 150 = .ok (.iload 4, 2) := by decide +kernel
theorem dX10_ways_152 : decode cX10_ways 152 = .ok (.iload_n 1, 1) := by decide +kernel
theorem dX10_ways_153 : decode cX10_ways 153 = .ok (.iastore, 1) := by decide +kernel
theorem dX10_ways_154 : decode cX10_ways 154 = .ok (.iinc 2 1, 3) := by decide +kernel
theorem dX10_ways_157 : decode cX10_ways 157 = .ok (.goto (-126), 3) := by decide +kernel
theorem dX10_ways_160 : decode cX10_ways 160 = .ok (.iinc 1 1, 3) := by decide +kernel
theorem dX10_ways_163 : decode cX10_ways 163 = .ok (.goto (-140), 3) := by decide +kernel
theorem dX10_ways_166 : decode cX10_ways 166 = .ok (.return_, 1) := by decide +kernel
theorem dX10_leads_0 : decode cX10_leads 0 = .ok (.aload_n 0, 1) := by decide +kernel
theorem dX10_leads_1 : decode cX10_leads 1 = .ok (.getfield 38, 3) := by decide +kernel
theorem dX10_leads_4 : decode cX10_leads 4 = .ok (.iload_n 1, 1) := by decide +kernel
theorem dX10_leads_5 : decode cX10_leads 5 = .ok (.iaload, 1) := by decide +kernel
theorem dX10_leads_6 : decode cX10_leads 6 = .ok (.iload_n 2, 1) := by decide +kernel
theorem dX10_leads_7 : decode cX10_leads 7 = .ok (.if_icmp .ne 12, 3) := by decide +kernel
theorem dX10_leads_10 : decode cX10_leads 10 = .ok (.aload_n 0, 1) := by decide +kernel
theorem dX10_leads_11 : decode cX10_leads 11 = .ok (.getfield 41, 3) := by decide +kernel
theorem dX10_leads_14 : decode cX10_leads 14 = .ok (.iload_n 1, 1) := by decide +kernel
theorem dX10_leads_15 : decode cX10_leads 15 = .ok (.iaload, 1) := by decide +kernel
theorem dX10_leads_16 : decode cX10_leads 16 = .ok (.goto 24, 3) := by decide +kernel
theorem dX10_leads_19 : decode cX10_leads 19 = .ok (.aload_n 0, 1) := by decide +kernel
theorem dX10_leads_20 : decode cX10_leads 20 = .ok (.getfield 41, 3) := by decide +kernel
theorem dX10_leads_23 : decode cX10_leads 23 = .ok (.iload_n 1, 1) := by decide +kernel
theorem dX10_leads_24 : decode cX10_leads 24 = .ok (.iaload, 1) := by decide +kernel
theorem dX10_leads_25 : decode cX10_leads 25 = .ok (.iload_n 2, 1) := by decide +kernel
theorem dX10_leads_26 : decode cX10_leads 26 = .ok (.if_icmp .ne 12, 3) := by decide +kernel
theorem dX10_leads_29 : decode cX10_leads 29 = .ok (.aload_n 0, 1) := by decide +kernel
theorem dX10_leads_30 : decode cX10_leads 30 = .ok (.getfield 38, 3) := by decide +kernel
theorem dX10_leads_33 : decode cX10_leads 33 = .ok (.iload_n 1, 1) := by decide +kernel
theorem dX10_leads_34 : decode cX10_leads 34 = .ok (.iaload, 1) := by decide +kernel
theorem dX10_leads_35 : decode cX10_leads 35 = .ok (.goto 5, 3) := by decide +kernel
theorem dX10_leads_38 : decode cX10_leads 38 = .ok (.bipush (-2), 2) := by decide +kernel
theorem dX10_leads_40 : decode cX10_leads 40 = .ok (.ireturn, 1) := by decide +kernel
theorem dX10_farOf_0 : decode cX10_farOf 0 = .ok (.iload_n 1, 1) := by decide +kernel
theorem dX10_farOf_1 : decode cX10_farOf 1 = .ok (.ifCond .ge 7, 3) := by decide +kernel
theorem dX10_farOf_4 : decode cX10_farOf 4 = .ok (.iconst 0, 1) := by decide +kernel
theorem dX10_farOf_5 : decode cX10_farOf 5 = .ok (.goto 9, 3) := by decide +kernel
theorem dX10_farOf_8 : decode cX10_farOf 8 = .ok (.aload_n 0, 1) := by decide +kernel
theorem dX10_farOf_9 : decode cX10_farOf 9 = .ok (.getfield 117, 3) := by decide +kernel
theorem dX10_farOf_12 : decode cX10_farOf 12 = .ok (.iload_n 1, 1) := by decide +kernel
theorem dX10_farOf_13 : decode cX10_farOf 13 = .ok (.iaload, 1) := by decide +kernel
theorem dX10_farOf_14 : decode cX10_farOf 14 = .ok (.ireturn, 1) := by decide +kernel
theorem dX10_hasGuard_0 : decode cX10_hasGuard 0 = .ok (.iconst 0, 1) := by decide +kernel
theorem dX10_hasGuard_1 : decode cX10_hasGuard 1 = .ok (.istore_n 3, 1) := by decide +kernel
theorem dX10_hasGuard_2 : decode cX10_hasGuard 2 = .ok (.iload_n 3, 1) := by decide +kernel
theorem dX10_hasGuard_3 : decode cX10_hasGuard 3 = .ok (.aload_n 0, 1) := by decide +kernel
theorem dX10_hasGuard_4 : decode cX10_hasGuard 4 = .ok (.getfield 22, 3) := by decide +kernel
theorem dX10_hasGuard_7 : decode cX10_hasGuard 7 = .ok (.iconst 0, 1) := by decide +kernel
theorem dX10_hasGuard_8 : decode cX10_hasGuard 8 = .ok (.iaload, 1) := by decide +kernel
theorem dX10_hasGuard_9 : decode cX10_hasGuard 9 = .ok (.if_icmp .ge 37, 3) := by decide +kernel
theorem dX10_hasGuard_12 : decode cX10_hasGuard 12 = .ok (.iload_n 1, 1) := by decide +kernel
theorem dX10_hasGuard_13 : decode cX10_hasGuard 13 = .ok (.ifCond .lt 27, 3) := by decide +kernel
theorem dX10_hasGuard_16 : decode cX10_hasGuard 16 = .ok (.aload_n 0, 1) := by decide +kernel
theorem dX10_hasGuard_17 : decode cX10_hasGuard 17 = .ok (.getfield 59, 3) := by decide +kernel
theorem dX10_hasGuard_20 : decode cX10_hasGuard 20 = .ok (.bipush 8, 2) := by decide +kernel
theorem dX10_hasGuard_22 : decode cX10_hasGuard 22 = .ok (.iload_n 3, 1) := by decide +kernel
theorem dX10_hasGuard_23 : decode cX10_hasGuard 23 = .ok (.imul, 1) := by decide +kernel
theorem dX10_hasGuard_24 : decode cX10_hasGuard 24 = .ok (.iload_n 2, 1) := by decide +kernel
theorem dX10_hasGuard_25 : decode cX10_hasGuard 25 = .ok (.aload_n 0, 1) := by decide +kernel
theorem dX10_hasGuard_26 : decode cX10_hasGuard 26 = .ok (.getfield 56, 3) := by decide +kernel
theorem dX10_hasGuard_29 : decode cX10_hasGuard 29 = .ok (.iload_n 3, 1) := by decide +kernel
theorem dX10_hasGuard_30 : decode cX10_hasGuard 30 = .ok (.iaload, 1) := by decide +kernel
theorem dX10_hasGuard_31 : decode cX10_hasGuard 31 = .ok (.irem, 1) := by decide +kernel
theorem dX10_hasGuard_32 : decode cX10_hasGuard 32 = .ok (.iadd, 1) := by decide +kernel
theorem dX10_hasGuard_33 : decode cX10_hasGuard 33 = .ok (.iaload, 1) := by decide +kernel
theorem dX10_hasGuard_34 : decode cX10_hasGuard 34 = .ok (.iload_n 1, 1) := by decide +kernel
theorem dX10_hasGuard_35 : decode cX10_hasGuard 35 = .ok (.if_icmp .ne 5, 3) := by decide +kernel
theorem dX10_hasGuard_38 : decode cX10_hasGuard 38 = .ok (.iconst 1, 1) := by decide +kernel
theorem dX10_hasGuard_39 : decode cX10_hasGuard 39 = .ok (.ireturn, 1) := by decide +kernel
theorem dX10_hasGuard_40 : decode cX10_hasGuard 40 = .ok (.iinc 3 1, 3) := by decide +kernel
theorem dX10_hasGuard_43 : decode cX10_hasGuard 43 = .ok (.goto (-41), 3) := by decide +kernel
theorem dX10_hasGuard_46 : decode cX10_hasGuard 46 = .ok (.iconst 0, 1) := by decide +kernel
theorem dX10_hasGuard_47 : decode cX10_hasGuard 47 = .ok (.ireturn, 1) := by decide +kernel
theorem dX10_guardsIn_0 : decode cX10_guardsIn 0 = .ok (.iconst 0, 1) := by decide +kernel
theorem dX10_guardsIn_1 : decode cX10_guardsIn 1 = .ok (.istore_n 3, 1) := by decide +kernel
theorem dX10_guardsIn_2 : decode cX10_guardsIn 2 = .ok (.iconst 0, 1) := by decide +kernel
theorem dX10_guardsIn_3 : decode cX10_guardsIn 3 = .ok (.istore 4, 2) := by decide +kernel
theorem dX10_guardsIn_5 : decode cX10_guardsIn 5 = .ok (.iload 4, 2) := by decide +kernel
theorem dX10_guardsIn_7 : decode cX10_guardsIn 7 = .ok (.aload_n 0, 1) := by decide +kernel
theorem dX10_guardsIn_8 : decode cX10_guardsIn 8 = .ok (.getfield 22, 3) := by decide +kernel
theorem dX10_guardsIn_11 : decode cX10_guardsIn 11 = .ok (.iconst 0, 1) := by decide +kernel
theorem dX10_guardsIn_12 : decode cX10_guardsIn 12 = .ok (.iaload, 1) := by decide +kernel
theorem dX10_guardsIn_13 : decode cX10_guardsIn 13 = .ok (.if_icmp .ge 45, 3) := by decide +kernel
theorem dX10_guardsIn_16 : decode cX10_guardsIn 16 = .ok (.iload_n 3, 1) := by decide +kernel
theorem dX10_guardsIn_17 : decode cX10_guardsIn 17 = .ok (.iload_n 1, 1) := by decide +kernel
theorem dX10_guardsIn_18 : decode cX10_guardsIn 18 = .ok (.ifCond .lt 31, 3) := by decide +kernel
theorem dX10_guardsIn_21 : decode cX10_guardsIn 21 = .ok (.aload_n 0, 1) := by decide +kernel
theorem dX10_guardsIn_22 : decode cX10_guardsIn 22 = .ok (.getfield 59, 3) := by decide +kernel
theorem dX10_guardsIn_25 : decode cX10_guardsIn 25 = .ok (.bipush 8, 2) := by decide +kernel
theorem dX10_guardsIn_27 : decode cX10_guardsIn 27 = .ok (.iload 4, 2) := by decide +kernel
theorem dX10_guardsIn_29 : decode cX10_guardsIn 29 = .ok (.imul, 1) := by decide +kernel
theorem dX10_guardsIn_30 : decode cX10_guardsIn 30 = .ok (.iload_n 2, 1) := by decide +kernel
theorem dX10_guardsIn_31 : decode cX10_guardsIn 31 = .ok (.aload_n 0, 1) := by decide +kernel
theorem dX10_guardsIn_32 : decode cX10_guardsIn 32 = .ok (.getfield 56, 3) := by decide +kernel
theorem dX10_guardsIn_35 : decode cX10_guardsIn 35 = .ok (.iload 4, 2) := by decide +kernel
theorem dX10_guardsIn_37 : decode cX10_guardsIn 37 = .ok (.iaload, 1) := by decide +kernel
theorem dX10_guardsIn_38 : decode cX10_guardsIn 38 = .ok (.irem, 1) := by decide +kernel
theorem dX10_guardsIn_39 : decode cX10_guardsIn 39 = .ok (.iadd, 1) := by decide +kernel
theorem dX10_guardsIn_40 : decode cX10_guardsIn 40 = .ok (.iaload, 1) := by decide +kernel
theorem dX10_guardsIn_41 : decode cX10_guardsIn 41 = .ok (.iload_n 1, 1) := by decide +kernel
theorem dX10_guardsIn_42 : decode cX10_guardsIn 42 = .ok (.if_icmp .ne 7, 3) := by decide +kernel
theorem dX10_guardsIn_45 : decode cX10_guardsIn 45 = .ok (.iconst 1, 1) := by decide +kernel
theorem dX10_guardsIn_46 : decode cX10_guardsIn 46 = .ok (.goto 4, 3) := by decide +kernel
theorem dX10_guardsIn_49 : decode cX10_guardsIn 49 = .ok (.iconst 0, 1) := by decide +kernel
theorem dX10_guardsIn_50 : decode cX10_guardsIn 50 = .ok (.iadd, 1) := by decide +kernel
theorem dX10_guardsIn_51 : decode cX10_guardsIn 51 = .ok (.istore_n 3, 1) := by decide +kernel
theorem dX10_guardsIn_52 : decode cX10_guardsIn 52 = .ok (.iinc 4 1, 3) := by decide +kernel
theorem dX10_guardsIn_55 : decode cX10_guardsIn 55 = .ok (.goto (-50), 3) := by decide +kernel
theorem dX10_guardsIn_58 : decode cX10_guardsIn 58 = .ok (.iload_n 3, 1) := by decide +kernel
theorem dX10_guardsIn_59 : decode cX10_guardsIn 59 = .ok (.ireturn, 1) := by decide +kernel
theorem dX10_menIn_0 : decode cX10_menIn 0 = .ok (.iconst 0, 1) := by decide +kernel
theorem dX10_menIn_1 : decode cX10_menIn 1 = .ok (.istore_n 2, 1) := by decide +kernel
theorem dX10_menIn_2 : decode cX10_menIn 2 = .ok (.iconst 0, 1) := by decide +kernel
theorem dX10_menIn_3 : decode cX10_menIn 3 = .ok (.istore_n 3, 1) := by decide +kernel
theorem dX10_menIn_4 : decode cX10_menIn 4 = .ok (.iload_n 3, 1) := by decide +kernel
theorem dX10_menIn_5 : decode cX10_menIn 5 = .ok (.aload_n 0, 1) := by decide +kernel
theorem dX10_menIn_6 : decode cX10_menIn 6 = .ok (.getfield 19, 3) := by decide +kernel
theorem dX10_menIn_9 : decode cX10_menIn 9 = .ok (.iconst 0, 1) := by decide +kernel
theorem dX10_menIn_10 : decode cX10_menIn 10 = .ok (.iaload, 1) := by decide +kernel
theorem dX10_menIn_11 : decode cX10_menIn 11 = .ok (.if_icmp .ge 36, 3) := by decide +kernel
theorem dX10_menIn_14 : decode cX10_menIn 14 = .ok (.iload_n 2, 1) := by decide +kernel
theorem dX10_menIn_15 : decode cX10_menIn 15 = .ok (.iload_n 1, 1) := by decide +kernel
theorem dX10_menIn_16 : decode cX10_menIn 16 = .ok (.ifCond .lt 22, 3) := by decide +kernel
theorem dX10_menIn_19 : decode cX10_menIn 19 = .ok (.aload_n 0, 1) := by decide +kernel
theorem dX10_menIn_20 : decode cX10_menIn 20 = .ok (.getfield 108, 3) := by decide +kernel
theorem dX10_menIn_23 : decode cX10_menIn 23 = .ok (.bipush 68, 2) := by decide +kernel
theorem dX10_menIn_25 : decode cX10_menIn 25 = .ok (.iload_n 3, 1) := by decide +kernel
theorem dX10_menIn_26 : decode cX10_menIn 26 = .ok (.iadd, 1) := by decide +kernel
theorem dX10_menIn_27 : decode cX10_menIn 27 = .ok (.iaload, 1) := by decide +kernel
theorem dX10_menIn_28 : decode cX10_menIn 28 = .ok (.iload_n 1, 1) := by decide +kernel
theorem dX10_menIn_29 : decode cX10_menIn 29 = .ok (.if_icmp .ne 9, 3) := by decide +kernel
theorem dX10_menIn_32 : decode cX10_menIn 32 = .ok (.iconst 1, 1) := by decide +kernel
theorem dX10_menIn_33 : decode cX10_menIn 33 = .ok (.iload_n 3, 1) := by decide +kernel
theorem dX10_menIn_34 : decode cX10_menIn 34 = .ok (.ishl, 1) := by decide +kernel
theorem dX10_menIn_35 : decode cX10_menIn 35 = .ok (.goto 4, 3) := by decide +kernel
theorem dX10_menIn_38 : decode cX10_menIn 38 = .ok (.iconst 0, 1) := by decide +kernel
theorem dX10_menIn_39 : decode cX10_menIn 39 = .ok (.ior, 1) := by decide +kernel
theorem dX10_menIn_40 : decode cX10_menIn 40 = .ok (.istore_n 2, 1) := by decide +kernel
theorem dX10_menIn_41 : decode cX10_menIn 41 = .ok (.iinc 3 1, 3) := by decide +kernel
theorem dX10_menIn_44 : decode cX10_menIn 44 = .ok (.goto (-40), 3) := by decide +kernel
theorem dX10_menIn_47 : decode cX10_menIn 47 = .ok (.iload_n 2, 1) := by decide +kernel
theorem dX10_menIn_48 : decode cX10_menIn 48 = .ok (.ireturn, 1) := by decide +kernel
theorem dX10_bits_0 : decode cX10_bits 0 = .ok (.iconst 0, 1) := by decide +kernel
theorem dX10_bits_1 : decode cX10_bits 1 = .ok (.istore_n 1, 1) := by decide +kernel
theorem dX10_bits_2 : decode cX10_bits 2 = .ok (.iconst 0, 1) := by decide +kernel
theorem dX10_bits_3 : decode cX10_bits 3 = .ok (.istore_n 2, 1) := by decide +kernel
theorem dX10_bits_4 : decode cX10_bits 4 = .ok (.iload_n 2, 1) := by decide +kernel
theorem dX10_bits_5 : decode cX10_bits 5 = .ok (.bipush 6, 2) := by decide +kernel
theorem dX10_bits_7 : decode cX10_bits 7 = .ok (.if_icmp .ge 17, 3) := by decide +kernel
theorem dX10_bits_10 : decode cX10_bits 10 = .ok (.iload_n 1, 1) := by decide +kernel
theorem dX10_bits_11 : decode cX10_bits 11 = .ok (.iload_n 0, 1) := by decide +kernel
theorem dX10_bits_12 : decode cX10_bits 12 = .ok (.iload_n 2, 1) := by decide +kernel
theorem dX10_bits_13 : decode cX10_bits 13 = .ok (.ishr, 1) := by decide +kernel
theorem dX10_bits_14 : decode cX10_bits 14 = .ok (.iconst 1, 1) := by decide +kernel
theorem dX10_bits_15 : decode cX10_bits 15 = .ok (.iand, 1) := by decide +kernel
theorem dX10_bits_16 : decode cX10_bits 16 = .ok (.iadd, 1) := by decide +kernel
theorem dX10_bits_17 : decode cX10_bits 17 = .ok (.istore_n 1, 1) := by decide +kernel
theorem dX10_bits_18 : decode cX10_bits 18 = .ok (.iinc 2 1, 3) := by decide +kernel
theorem dX10_bits_21 : decode cX10_bits 21 = .ok (.goto (-17), 3) := by decide +kernel
theorem dX10_bits_24 : decode cX10_bits 24 = .ok (.iload_n 1, 1) := by decide +kernel
theorem dX10_bits_25 : decode cX10_bits 25 = .ok (.ireturn, 1) := by decide +kernel
theorem dX10_cell_0 : decode cX10_cell 0 = .ok (.aload_n 0, 1) := by decide +kernel
theorem dX10_cell_1 : decode cX10_cell 1 = .ok (.iconst 0, 1) := by decide +kernel
theorem dX10_cell_2 : decode cX10_cell 2 = .ok (.putfield 135, 3) := by decide +kernel
theorem dX10_cell_5 : decode cX10_cell 5 = .ok (.aload_n 0, 1) := by decide +kernel
theorem dX10_cell_6 : decode cX10_cell 6 = .ok (.iload_n 1, 1) := by decide +kernel
theorem dX10_cell_7 : decode cX10_cell 7 = .ok (.invokevirtual 327, 3) := by decide +kernel
theorem dX10_cell_10 : decode cX10_cell 10 = .ok (.ifCond .eq 12, 3) := by decide +kernel
theorem dX10_cell_13 : decode cX10_cell 13 = .ok (.iload_n 2, 1) := by decide +kernel
theorem dX10_cell_14 : decode cX10_cell 14 = .ok (.iconst 0, 1) := by decide +kernel
theorem dX10_cell_15 : decode cX10_cell 15 = .ok (.iconst 3, 1) := by decide +kernel
theorem dX10_cell_16 : decode cX10_cell 16 = .ok (.invokestatic 263, 3) := by decide +kernel
theorem dX10_cell_19 : decode cX10_cell 19 = .ok (.ifCond .ne 5, 3) := by decide +kernel
theorem dX10_cell_22 : decode cX10_cell 22 = .ok (.iconst (-1), 1) := by decide +kernel
theorem dX10_cell_23 : decode cX10_cell 23 = .ok (.ireturn, 1) := by decide +kernel
theorem dX10_cell_24 : decode cX10_cell 24 = .ok (.iload_n 2, 1) := by decide +kernel
theorem dX10_cell_25 : decode cX10_cell 25 = .ok (.iconst 2, 1) := by decide +kernel
theorem dX10_cell_26 : decode cX10_cell 26 = .ok (.if_icmp .ge 25, 3) := by decide +kernel
theorem dX10_cell_29 : decode cX10_cell 29 = .ok (.iload_n 2, 1) := by decide +kernel
theorem dX10_cell_30 : decode cX10_cell 30 = .ok (.ifCond .ne 15, 3) := by decide +kernel
theorem dX10_cell_33 : decode cX10_cell 33 = .ok (.aload_n 0, 1) := by decide +kernel
theorem dX10_cell_34 : decode cX10_cell 34 = .ok (.getfield 108, 3) := by decide +kernel
theorem dX10_cell_37 : decode cX10_cell 37 = .ok (.bipush 60, 2) := by decide +kernel
theorem dX10_cell_39 : decode cX10_cell 39 = .ok (.iload_n 1, 1) := by decide +kernel
theorem dX10_cell_40 : decode cX10_cell 40 = .ok (.iadd, 1) := by decide +kernel
theorem dX10_cell_41 : decode cX10_cell 41 = .ok (.iaload, 1) := by decide +kernel
theorem dX10_cell_42 : decode cX10_cell 42 = .ok (.goto 8, 3) := by decide +kernel
theorem dX10_cell_45 : decode cX10_cell 45 = .ok (.aload_n 0, 1) := by decide +kernel
theorem dX10_cell_46 : decode cX10_cell 46 = .ok (.iload_n 1, 1) := by decide +kernel
theorem dX10_cell_47 : decode cX10_cell 47 = .ok (.invokevirtual 330, 3) := by decide +kernel
theorem dX10_cell_50 : decode cX10_cell 50 = .ok (.ireturn, 1) := by decide +kernel
theorem dX10_cell_51 : decode cX10_cell 51 = .ok (.iload_n 2, 1) := by decide +kernel
theorem dX10_cell_52 : decode cX10_cell 52 = .ok (.iconst 2, 1) := by decide +kernel
theorem dX10_cell_53 : decode cX10_cell 53 = .ok (.if_icmp .ne 18, 3) := by decide +kernel
theorem dX10_cell_56 : decode cX10_cell 56 = .ok (.aload_n 0, 1) := by decide +kernel
theorem dX10_cell_57 : decode cX10_cell 57 = .ok (.iload_n 1, 1) := by decide +kernel
theorem dX10_cell_58 : decode cX10_cell 58 = .ok (.aload_n 0, 1) := by decide +kernel
theorem dX10_cell_59 : decode cX10_cell 59 = .ok (.getfield 108, 3) := by decide +kernel
theorem dX10_cell_62 : decode cX10_cell 62 = .ok (.bipush 80, 2) := by decide +kernel
theorem dX10_cell_64 : decode cX10_cell 64 = .ok (.iaload, 1) := by decide +kernel
theorem dX10_cell_65 : decode cX10_cell 65 = .ok (.invokevirtual 333, 3) := by decide +kernel
theorem dX10_cell_68 : decode cX10_cell 68 = .ok (.goto 22, 3) := by decide +kernel
theorem dX10_cell_71 : decode cX10_cell 71 = .ok (.aload_n 0, 1) := by decide +kernel
theorem dX10_cell_72 : decode cX10_cell 72 = .ok (.getfield 117, 3) := by decide +kernel
theorem dX10_cell_75 : decode cX10_cell 75 = .ok (.iload_n 1, 1) := by decide +kernel
theorem dX10_cell_76 : decode cX10_cell 76 = .ok (.iaload, 1) := by decide +kernel
theorem dX10_cell_77 : decode cX10_cell 77 = .ok (.ifCond .ne 7, 3) := by decide +kernel
theorem dX10_cell_80 : decode cX10_cell 80 = .ok (.iconst (-1), 1) := by decide +kernel
theorem dX10_cell_81 : decode cX10_cell 81 = .ok (.goto 9, 3) := by decide +kernel
theorem dX10_cell_84 : decode cX10_cell 84 = .ok (.aload_n 0, 1) := by decide +kernel
theorem dX10_cell_85 : decode cX10_cell 85 = .ok (.getfield 117, 3) := by decide +kernel
theorem dX10_cell_88 : decode cX10_cell 88 = .ok (.iload_n 1, 1) := by decide +kernel
theorem dX10_cell_89 : decode cX10_cell 89 = .ok (.iaload, 1) := by decide +kernel
theorem dX10_cell_90 : decode cX10_cell 90 = .ok (.ireturn, 1) := by decide +kernel
theorem dX10_door_0 : decode cX10_door 0 = .ok (.aload_n 0, 1) := by decide +kernel
theorem dX10_door_1 : decode cX10_door 1 = .ok (.iconst 0, 1) := by decide +kernel
theorem dX10_door_2 : decode cX10_door 2 = .ok (.putfield 135, 3) := by decide +kernel
theorem dX10_door_5 : decode cX10_door 5 = .ok (.aload_n 0, 1) := by decide +kernel
theorem dX10_door_6 : decode cX10_door 6 = .ok (.iload_n 1, 1) := by decide +kernel
theorem dX10_door_7 : decode cX10_door 7 = .ok (.invokevirtual 337, 3) := by decide +kernel
theorem dX10_door_10 : decode cX10_door 10 = .ok (.ifCond .eq 12, 3) := by decide +kernel
theorem dX10_door_13 : decode cX10_door 13 = .ok (.iload_n 2, 1) := by decide +kernel
theorem dX10_door_14 : decode cX10_door 14 = .ok (.iconst 0, 1) := by decide +kernel
theorem dX10_door_15 : decode cX10_door 15 = .ok (.iconst 4, 1) := by decide +kernel
theorem dX10_door_16 : decode cX10_door 16 = .ok (.invokestatic 263, 3) := by decide +kernel
theorem dX10_door_19 : decode cX10_door 19 = .ok (.ifCond .ne 5, 3) := by decide +kernel
theorem dX10_door_22 : decode cX10_door 22 = .ok (.iconst (-1), 1) := by decide +kernel
theorem dX10_door_23 : decode cX10_door 23 = .ok (.ireturn, 1) := by decide +kernel
theorem dX10_door_24 : decode cX10_door 24 = .ok (.iload_n 2, 1) := by decide +kernel
theorem dX10_door_25 : decode cX10_door 25 = .ok (.ifCond .ne 12, 3) := by decide +kernel
theorem dX10_door_28 : decode cX10_door 28 = .ok (.aload_n 0, 1) := by decide +kernel
theorem dX10_door_29 : decode cX10_door 29 = .ok (.getfield 108, 3) := by decide +kernel
theorem dX10_door_32 : decode cX10_door 32 = .ok (.iload_n 1, 1) := by decide +kernel
theorem dX10_door_33 : decode cX10_door 33 = .ok (.iaload, 1) := by decide +kernel
theorem dX10_door_34 : decode cX10_door 34 = .ok (.goto 57, 3) := by decide +kernel
theorem dX10_door_37 : decode cX10_door 37 = .ok (.iload_n 2, 1) := by decide +kernel
theorem dX10_door_38 : decode cX10_door 38 = .ok (.iconst 1, 1) := by decide +kernel
theorem dX10_door_39 : decode cX10_door 39 = .ok (.if_icmp .ne 15, 3) := by decide +kernel
theorem dX10_door_42 : decode cX10_door 42 = .ok (.aload_n 0, 1) := by decide +kernel
theorem dX10_door_43 : decode cX10_door 43 = .ok (.getfield 108, 3) := by decide +kernel
theorem dX10_door_46 : decode cX10_door 46 = .ok (.bipush 10, 2) := by decide +kernel
theorem dX10_door_48 : decode cX10_door 48 = .ok (.iload_n 1, 1) := by decide +kernel
theorem dX10_door_49 : decode cX10_door 49 = .ok (.iadd, 1) := by decide +kernel
theorem dX10_door_50 : decode cX10_door 50 = .ok (.iaload, 1) := by decide +kernel
theorem dX10_door_51 : decode cX10_door 51 = .ok (.goto 40, 3) := by decide +kernel
theorem dX10_door_54 : decode cX10_door 54 = .ok (.iload_n 2, 1) := by decide +kernel
theorem dX10_door_55 : decode cX10_door 55 = .ok (.iconst 2, 1) := by decide +kernel
theorem dX10_door_56 : decode cX10_door 56 = .ok (.if_icmp .ne 15, 3) := by decide +kernel
theorem dX10_door_59 : decode cX10_door 59 = .ok (.aload_n 0, 1) := by decide +kernel
theorem dX10_door_60 : decode cX10_door 60 = .ok (.getfield 108, 3) := by decide +kernel
theorem dX10_door_63 : decode cX10_door 63 = .ok (.bipush 20, 2) := by decide +kernel
theorem dX10_door_65 : decode cX10_door 65 = .ok (.iload_n 1, 1) := by decide +kernel
theorem dX10_door_66 : decode cX10_door 66 = .ok (.iadd, 1) := by decide +kernel
theorem dX10_door_67 : decode cX10_door 67 = .ok (.iaload, 1) := by decide +kernel
theorem dX10_door_68 : decode cX10_door 68 = .ok (.goto 23, 3) := by decide +kernel
theorem dX10_door_71 : decode cX10_door 71 = .ok (.iload_n 2, 1) := by decide +kernel
theorem dX10_door_72 : decode cX10_door 72 = .ok (.iconst 3, 1) := by decide +kernel
theorem dX10_door_73 : decode cX10_door 73 = .ok (.if_icmp .ne 12, 3) := by decide +kernel
theorem dX10_door_76 : decode cX10_door 76 = .ok (.aload_n 0, 1) := by decide +kernel
theorem dX10_door_77 : decode cX10_door 77 = .ok (.getfield 38, 3) := by decide +kernel
theorem dX10_door_80 : decode cX10_door 80 = .ok (.iload_n 1, 1) := by decide +kernel
theorem dX10_door_81 : decode cX10_door 81 = .ok (.iaload, 1) := by decide +kernel
theorem dX10_door_82 : decode cX10_door 82 = .ok (.goto 9, 3) := by decide +kernel
theorem dX10_door_85 : decode cX10_door 85 = .ok (.aload_n 0, 1) := by decide +kernel
theorem dX10_door_86 : decode cX10_door 86 = .ok (.getfield 41, 3) := by decide +kernel
theorem dX10_door_89 : decode cX10_door 89 = .ok (.iload_n 1, 1) := by decide +kernel
theorem dX10_door_90 : decode cX10_door 90 = .ok (.iaload, 1) := by decide +kernel
theorem dX10_door_91 : decode cX10_door 91 = .ok (.ireturn, 1) := by decide +kernel
theorem dX10_man_0 : decode cX10_man 0 = .ok (.aload_n 0, 1) := by decide +kernel
theorem dX10_man_1 : decode cX10_man 1 = .ok (.aload_n 0, 1) := by decide +kernel
theorem dX10_man_2 : decode cX10_man 2 = .ok (.iload_n 1, 1) := by decide +kernel
theorem dX10_man_3 : decode cX10_man 3 = .ok (.invokevirtual 324, 3) := by decide +kernel
theorem dX10_man_6 : decode cX10_man 6 = .ok (.ifCond .eq 16, 3) := by decide +kernel
theorem dX10_man_9 : decode cX10_man 9 = .ok (.iload_n 2, 1) := by decide +kernel
theorem dX10_man_10 : decode cX10_man 10 = .ok (.iconst 0, 1) := by decide +kernel
theorem dX10_man_11 : decode cX10_man 11 = .ok (.iconst 2, 1) := by decide +kernel
theorem dX10_man_12 : decode cX10_man 12 = .ok (.invokestatic 263, 3) := by decide +kernel
theorem dX10_man_15 : decode cX10_man 15 = .ok (.ifCond .eq 7, 3) := by decide +kernel
theorem dX10_man_18 : decode cX10_man 18 = .ok (.iconst 0, 1) := by decide +kernel
theorem dX10_man_19 : decode cX10_man 19 = .ok (.goto 4, 3) := by decide +kernel
theorem dX10_man_22 : decode cX10_man 22 = .ok (.iconst 1, 1) := by decide +kernel
theorem dX10_man_23 : decode cX10_man 23 = .ok (.putfield 135, 3) := by decide +kernel
theorem dX10_man_26 : decode cX10_man 26 = .ok (.aload_n 0, 1) := by decide +kernel
theorem dX10_man_27 : decode cX10_man 27 = .ok (.getfield 135, 3) := by decide +kernel
theorem dX10_man_30 : decode cX10_man 30 = .ok (.iconst 1, 1) := by decide +kernel
theorem dX10_man_31 : decode cX10_man 31 = .ok (.if_icmp .ne 5, 3) := by decide +kernel
theorem dX10_man_34 : decode cX10_man 34 = .ok (.iconst 0, 1) := by decide +kernel
theorem dX10_man_35 : decode cX10_man 35 = .ok (.ireturn, 1) := by decide +kernel
theorem dX10_man_36 : decode cX10_man 36 = .ok (.iload_n 2, 1) := by decide +kernel
theorem dX10_man_37 : decode cX10_man 37 = .ok (.ifCond .ne 15, 3) := by decide +kernel
theorem dX10_man_40 : decode cX10_man 40 = .ok (.aload_n 0, 1) := by decide +kernel
theorem dX10_man_41 : decode cX10_man 41 = .ok (.getfield 108, 3) := by decide +kernel
theorem dX10_man_44 : decode cX10_man 44 = .ok (.bipush 68, 2) := by decide +kernel
theorem dX10_man_46 : decode cX10_man 46 = .ok (.iload_n 1, 1) := by decide +kernel
theorem dX10_man_47 : decode cX10_man 47 = .ok (.iadd, 1) := by decide +kernel
theorem dX10_man_48 : decode cX10_man 48 = .ok (.iaload, 1) := by decide +kernel
theorem dX10_man_49 : decode cX10_man 49 = .ok (.goto 26, 3) := by decide +kernel
theorem dX10_man_52 : decode cX10_man 52 = .ok (.iload_n 2, 1) := by decide +kernel
theorem dX10_man_53 : decode cX10_man 53 = .ok (.iconst 1, 1) := by decide +kernel
theorem dX10_man_54 : decode cX10_man 54 = .ok (.if_icmp .ne 15, 3) := by decide +kernel
theorem dX10_man_57 : decode cX10_man 57 = .ok (.aload_n 0, 1) := by decide +kernel
theorem dX10_man_58 : decode cX10_man 58 = .ok (.getfield 108, 3) := by decide +kernel
theorem dX10_man_61 : decode cX10_man 61 = .ok (.bipush 74, 2) := by decide +kernel
theorem dX10_man_63 : decode cX10_man 63 = .ok (.iload_n 1, 1) := by decide +kernel
theorem dX10_man_64 : decode cX10_man 64 = .ok (.iadd, 1) := by decide +kernel
theorem dX10_man_65 : decode cX10_man 65 = .ok (.iaload, 1) := by decide +kernel
theorem dX10_man_66 : decode cX10_man 66 = .ok (.goto 9, 3) := by decide +kernel
theorem dX10_man_69 : decode cX10_man 69 = .ok (.aload_n 0, 1) := by decide +kernel
theorem dX10_man_70 : decode cX10_man 70 = .ok (.getfield 53, 3) := by decide +kernel
theorem dX10_man_73 : decode cX10_man 73 = .ok (.iload_n 1, 1) := by decide +kernel
theorem dX10_man_74 : decode cX10_man 74 = .ok (.iaload, 1) := by decide +kernel
theorem dX10_man_75 : decode cX10_man 75 = .ok (.ireturn, 1) := by decide +kernel
theorem dX10_degreesAt_0 : decode cX10_degreesAt 0 = .ok (.aload_n 0, 1) := by decide +kernel
theorem dX10_degreesAt_1 : decode cX10_degreesAt 1 = .ok (.getfield 65, 3) := by decide +kernel
theorem dX10_degreesAt_4 : decode cX10_degreesAt 4 = .ok (.iconst 0, 1) := by decide +kernel
theorem dX10_degreesAt_5 : decode cX10_degreesAt 5 = .ok (.iaload, 1) := by decide +kernel
theorem dX10_degreesAt_6 : decode cX10_degreesAt 6 = .ok (.aload_n 0, 1) := by decide +kernel
theorem dX10_degreesAt_7 : decode cX10_degreesAt 7 = .ok (.getfield 62, 3) := by decide +kernel
theorem dX10_degreesAt_10 : decode cX10_degreesAt 10 = .ok (.iconst 0, 1) := by decide +kernel
theorem dX10_degreesAt_11 : decode cX10_degreesAt 11 = .ok (.iaload, 1) := by decide +kernel
theorem dX10_degreesAt_12 : decode cX10_degreesAt 12 = .ok (.if_icmp .ne 6, 3) := by decide +kernel
theorem dX10_degreesAt_15 : decode cX10_degreesAt 15 = .ok (.bipush (-10), 2) := by decide +kernel
theorem dX10_degreesAt_17 : decode cX10_degreesAt 17 = .ok (.ireturn, 1) := by decide +kernel
theorem dX10_degreesAt_18 : decode cX10_degreesAt 18 = .ok (.aload_n 0, 1) := by decide +kernel
theorem dX10_degreesAt_19 : decode cX10_degreesAt 19 = .ok (.getfield 105, 3) := by decide +kernel
theorem dX10_degreesAt_22 : decode cX10_degreesAt 22 = .ok (.iconst 1, 1) := by decide +kernel
theorem dX10_degreesAt_23 : decode cX10_degreesAt 23 = .ok (.iload_n 1, 1) := by decide +kernel
theorem dX10_degreesAt_24 : decode cX10_degreesAt 24 = .ok (.bipush 24, 2) := by decide +kernel
theorem dX10_degreesAt_26 : decode cX10_degreesAt 26 = .ok (.irem, 1) := by decide +kernel
theorem dX10_degreesAt_27 : decode cX10_degreesAt 27 = .ok (.iastore, 1) := by decide +kernel
theorem dX10_degreesAt_28 : decode cX10_degreesAt 28 = .ok (.aload_n 0, 1) := by decide +kernel
theorem dX10_degreesAt_29 : decode cX10_degreesAt 29 = .ok (.getfield 105, 3) := by decide +kernel
theorem dX10_degreesAt_32 : decode cX10_degreesAt 32 = .ok (.iconst 2, 1) := by decide +kernel
theorem dX10_degreesAt_33 : decode cX10_degreesAt 33 = .ok (.iload_n 1, 1) := by decide +kernel
theorem dX10_degreesAt_34 : decode cX10_degreesAt 34 = .ok (.bipush 24, 2) := by decide +kernel
theorem dX10_degreesAt_36 : decode cX10_degreesAt 36 = .ok (.idiv, 1) := by decide +kernel
theorem dX10_degreesAt_37 : decode cX10_degreesAt 37 = .ok (.iastore, 1) := by decide +kernel
theorem dX10_degreesAt_38 : decode cX10_degreesAt 38 = .ok (.aload_n 0, 1) := by decide +kernel
theorem dX10_degreesAt_39 : decode cX10_degreesAt 39 = .ok (.getfield 105, 3) := by decide +kernel
theorem dX10_degreesAt_42 : decode cX10_degreesAt 42 = .ok (.iconst 3, 1) := by decide +kernel
theorem dX10_degreesAt_43 : decode cX10_degreesAt 43 = .ok (.iload_n 2, 1) := by decide +kernel
theorem dX10_degreesAt_44 : decode cX10_degreesAt 44 = .ok (.iastore, 1) := by decide +kernel
theorem dX10_degreesAt_45 : decode cX10_degreesAt 45 = .ok (.aload_n 0, 1) := by decide +kernel
theorem dX10_degreesAt_46 : decode cX10_degreesAt 46 = .ok (.iconst 0, 1) := by decide +kernel
theorem dX10_degreesAt_47 : decode cX10_degreesAt 47 = .ok (.invokevirtual 340, 3) := by decide +kernel
theorem dX10_degreesAt_50 : decode cX10_degreesAt 50 = .ok (.bipush (-40), 2) := by decide +kernel
theorem dX10_degreesAt_52 : decode cX10_degreesAt 52 = .ok (.bipush 40, 2) := by decide +kernel
theorem dX10_degreesAt_54 : decode cX10_degreesAt 54 = .ok (.invokestatic 343, 3) := by decide +kernel
theorem dX10_degreesAt_57 : decode cX10_degreesAt 57 = .ok (.ireturn, 1) := by decide +kernel
theorem dX10_degrees_0 : decode cX10_degrees 0 = .ok (.aload_n 0, 1) := by decide +kernel
theorem dX10_degrees_1 : decode cX10_degrees 1 = .ok (.iload_n 1, 1) := by decide +kernel
theorem dX10_degrees_2 : decode cX10_degrees 2 = .ok (.iconst 0, 1) := by decide +kernel
theorem dX10_degrees_3 : decode cX10_degrees 3 = .ok (.sipush 9999, 3) := by decide +kernel
theorem dX10_degrees_6 : decode cX10_degrees 6 = .ok (.invokestatic 263, 3) := by decide +kernel
theorem dX10_degrees_9 : decode cX10_degrees 9 = .ok (.ifCond .eq 7, 3) := by decide +kernel
theorem dX10_degrees_12 : decode cX10_degrees 12 = .ok (.iconst 0, 1) := by decide +kernel
theorem dX10_degrees_13 : decode cX10_degrees 13 = .ok (.goto 4, 3) := by decide +kernel
theorem dX10_degrees_16 : decode cX10_degrees 16 = .ok (.iconst 1, 1) := by decide +kernel
theorem dX10_degrees_17 : decode cX10_degrees 17 = .ok (.putfield 135, 3) := by decide +kernel
theorem dX10_degrees_20 : decode cX10_degrees 20 = .ok (.aload_n 0, 1) := by decide +kernel
theorem dX10_degrees_21 : decode cX10_degrees 21 = .ok (.getfield 135, 3) := by decide +kernel
theorem dX10_degrees_24 : decode cX10_degrees 24 = .ok (.iconst 1, 1) := by decide +kernel
theorem dX10_degrees_25 : decode cX10_degrees 25 = .ok (.if_icmp .ne 7, 3) := by decide +kernel
theorem dX10_degrees_28 : decode cX10_degrees 28 = .ok (.iconst 0, 1) := by decide +kernel
theorem dX10_degrees_29 : decode cX10_degrees 29 = .ok (.goto 17, 3) := by decide +kernel
theorem dX10_degrees_32 : decode cX10_degrees 32 = .ok (.aload_n 0, 1) := by decide +kernel
theorem dX10_degrees_33 : decode cX10_degrees 33 = .ok (.aload_n 0, 1) := by decide +kernel
theorem dX10_degrees_34 : decode cX10_degrees 34 = .ok (.getfield 108, 3) := by decide +kernel
theorem dX10_degrees_37 : decode cX10_degrees 37 = .ok (.bipush 80, 2) := by decide +kernel
theorem dX10_degrees_39 : decode cX10_degrees 39 = .ok (.iaload, 1) := by decide +kernel
theorem dX10_degrees_40 : decode cX10_degrees 40 = .ok (.iload_n 1, 1) := by decide +kernel
theorem dX10_degrees_41 : decode cX10_degrees 41 = .ok (.iadd, 1) := by decide +kernel
theorem dX10_degrees_42 : decode cX10_degrees 42 = .ok (.iconst 0, 1) := by decide +kernel
theorem dX10_degrees_43 : decode cX10_degrees 43 = .ok (.invokevirtual 347, 3) := by decide +kernel
theorem dX10_degrees_46 : decode cX10_degrees 46 = .ok (.ireturn, 1) := by decide +kernel
theorem dX10_poursIn_0 : decode cX10_poursIn 0 = .ok (.iload_n 2, 1) := by decide +kernel
theorem dX10_poursIn_1 : decode cX10_poursIn 1 = .ok (.bipush 99, 2) := by decide +kernel
theorem dX10_poursIn_3 : decode cX10_poursIn 3 = .ok (.aload_n 0, 1) := by decide +kernel
theorem dX10_poursIn_4 : decode cX10_poursIn 4 = .ok (.getfield 108, 3) := by decide +kernel
theorem dX10_poursIn_7 : decode cX10_poursIn 7 = .ok (.iload_n 1, 1) := by decide +kernel
theorem dX10_poursIn_8 : decode cX10_poursIn 8 = .ok (.iaload, 1) := by decide +kernel
theorem dX10_poursIn_9 : decode cX10_poursIn 9 = .ok (.isub, 1) := by decide +kernel
theorem dX10_poursIn_10 : decode cX10_poursIn 10 = .ok (.aload_n 0, 1) := by decide +kernel
theorem dX10_poursIn_11 : decode cX10_poursIn 11 = .ok (.getfield 108, 3) := by decide +kernel
theorem dX10_poursIn_14 : decode cX10_poursIn 14 = .ok (.bipush 10, 2) := by decide +kernel
theorem dX10_poursIn_16 : decode cX10_poursIn 16 = .ok (.iload_n 1, 1) := by decide +kernel
theorem dX10_poursIn_17 : decode cX10_poursIn 17 = .ok (.iadd, 1) := by decide +kernel
theorem dX10_poursIn_18 : decode cX10_poursIn 18 = .ok (.iaload, 1) := by decide +kernel
theorem dX10_poursIn_19 : decode cX10_poursIn 19 = .ok (.isub, 1) := by decide +kernel
theorem dX10_poursIn_20 : decode cX10_poursIn 20 = .ok (.invokestatic 350, 3) := by decide +kernel
theorem dX10_poursIn_23 : decode cX10_poursIn 23 = .ok (.istore_n 3, 1) := by decide +kernel
theorem dX10_poursIn_24 : decode cX10_poursIn 24 = .ok (.aload_n 0, 1) := by decide +kernel
theorem dX10_poursIn_25 : decode cX10_poursIn 25 = .ok (.getfield 108, 3) := by decide +kernel
theorem dX10_poursIn_28 : decode cX10_poursIn 28 = .ok (.bipush 10, 2) := by decide +kernel
theorem dX10_poursIn_30 : decode cX10_poursIn 30 = .ok (.iload_n 1, 1) := by decide +kernel
theorem dX10_poursIn_31 : decode cX10_poursIn 31 = .ok (.iadd, 1) := by decide +kernel
theorem dX10_poursIn_32 : decode cX10_poursIn 32 = .ok (.dup2, 1) := by decide +kernel
theorem dX10_poursIn_33 : decode cX10_poursIn 33 = .ok (.iaload, 1) := by decide +kernel
theorem dX10_poursIn_34 : decode cX10_poursIn 34 = .ok (.iload_n 3, 1) := by decide +kernel
theorem dX10_poursIn_35 : decode cX10_poursIn 35 = .ok (.iadd, 1) := by decide +kernel
theorem dX10_poursIn_36 : decode cX10_poursIn 36 = .ok (.iastore, 1) := by decide +kernel
theorem dX10_poursIn_37 : decode cX10_poursIn 37 = .ok (.aload_n 0, 1) := by decide +kernel
theorem dX10_poursIn_38 : decode cX10_poursIn 38 = .ok (.getfield 108, 3) := by decide +kernel
theorem dX10_poursIn_41 : decode cX10_poursIn 41 = .ok (.bipush 40, 2) := by decide +kernel
theorem dX10_poursIn_43 : decode cX10_poursIn 43 = .ok (.iload_n 1, 1) := by decide +kernel
theorem dX10_poursIn_44 : decode cX10_poursIn 44 = .ok (.iadd, 1) := by decide +kernel
theorem dX10_poursIn_45 : decode cX10_poursIn 45 = .ok (.dup2, 1) := by decide +kernel
theorem dX10_poursIn_46 : decode cX10_poursIn 46 = .ok (.iaload, 1) := by decide +kernel
theorem dX10_poursIn_47 : decode cX10_poursIn 47 = .ok (.iload_n 3, 1) := by decide +kernel
theorem dX10_poursIn_48 : decode cX10_poursIn 48 = .ok (.iadd, 1) := by decide +kernel
theorem dX10_poursIn_49 : decode cX10_poursIn 49 = .ok (.iastore, 1) := by decide +kernel
theorem dX10_poursIn_50 : decode cX10_poursIn 50 = .ok (.iload_n 3, 1) := by decide +kernel
theorem dX10_poursIn_51 : decode cX10_poursIn 51 = .ok (.ireturn, 1) := by decide +kernel
theorem dX10_pour_0 : decode cX10_pour 0 = .ok (.aload_n 0, 1) := by decide +kernel
theorem dX10_pour_1 : decode cX10_pour 1 = .ok (.iconst 0, 1) := by decide +kernel
theorem dX10_pour_2 : decode cX10_pour 2 = .ok (.putfield 135, 3) := by decide +kernel
theorem dX10_pour_5 : decode cX10_pour 5 = .ok (.aload_n 0, 1) := by decide +kernel
theorem dX10_pour_6 : decode cX10_pour 6 = .ok (.iload_n 1, 1) := by decide +kernel
theorem dX10_pour_7 : decode cX10_pour 7 = .ok (.invokevirtual 337, 3) := by decide +kernel
theorem dX10_pour_10 : decode cX10_pour 10 = .ok (.ifCond .eq 22, 3) := by decide +kernel
theorem dX10_pour_13 : decode cX10_pour 13 = .ok (.iload_n 2, 1) := by decide +kernel
theorem dX10_pour_14 : decode cX10_pour 14 = .ok (.iconst 0, 1) := by decide +kernel
theorem dX10_pour_15 : decode cX10_pour 15 = .ok (.bipush 99, 2) := by decide +kernel
theorem dX10_pour_17 : decode cX10_pour 17 = .ok (.invokestatic 263, 3) := by decide +kernel
theorem dX10_pour_20 : decode cX10_pour 20 = .ok (.ifCond .eq 12, 3) := by decide +kernel
theorem dX10_pour_23 : decode cX10_pour 23 = .ok (.aload_n 0, 1) := by decide +kernel
theorem dX10_pour_24 : decode cX10_pour 24 = .ok (.iload_n 1, 1) := by decide +kernel
theorem dX10_pour_25 : decode cX10_pour 25 = .ok (.iload_n 2, 1) := by decide +kernel
theorem dX10_pour_26 : decode cX10_pour 26 = .ok (.invokevirtual 355, 3) := by decide +kernel
theorem dX10_pour_29 : decode cX10_pour 29 = .ok (.goto 4, 3) := by decide +kernel
theorem dX10_pour_32 : decode cX10_pour 32 = .ok (.iconst (-1), 1) := by decide +kernel
theorem dX10_pour_33 : decode cX10_pour 33 = .ok (.ireturn, 1) := by decide +kernel
theorem dX10_salt_0 : decode cX10_salt 0 = .ok (.aload_n 0, 1) := by decide +kernel
theorem dX10_salt_1 : decode cX10_salt 1 = .ok (.iconst 0, 1) := by decide +kernel
theorem dX10_salt_2 : decode cX10_salt 2 = .ok (.putfield 135, 3) := by decide +kernel
theorem dX10_salt_5 : decode cX10_salt 5 = .ok (.aload_n 0, 1) := by decide +kernel
theorem dX10_salt_6 : decode cX10_salt 6 = .ok (.iload_n 1, 1) := by decide +kernel
theorem dX10_salt_7 : decode cX10_salt 7 = .ok (.invokevirtual 358, 3) := by decide +kernel
theorem dX10_salt_10 : decode cX10_salt 10 = .ok (.ifCond .eq 42, 3) := by decide +kernel
theorem dX10_salt_13 : decode cX10_salt 13 = .ok (.aload_n 0, 1) := by decide +kernel
theorem dX10_salt_14 : decode cX10_salt 14 = .ok (.iload_n 2, 1) := by decide +kernel
theorem dX10_salt_15 : decode cX10_salt 15 = .ok (.invokevirtual 337, 3) := by decide +kernel
theorem dX10_salt_18 : decode cX10_salt 18 = .ok (.ifCond .eq 34, 3) := by decide +kernel
theorem dX10_salt_21 : decode cX10_salt 21 = .ok (.aload_n 0, 1) := by decide +kernel
theorem dX10_salt_22 : decode cX10_salt 22 = .ok (.getfield 108, 3) := by decide +kernel
theorem dX10_salt_25 : decode cX10_salt 25 = .ok (.bipush 74, 2) := by decide +kernel
theorem dX10_salt_27 : decode cX10_salt 27 = .ok (.iload_n 1, 1) := by decide +kernel
theorem dX10_salt_28 : decode cX10_salt 28 = .ok (.iadd, 1) := by decide +kernel
theorem dX10_salt_29 : decode cX10_salt 29 = .ok (.iaload, 1) := by decide +kernel
theorem dX10_salt_30 : decode cX10_salt 30 = .ok (.ifCond .eq 22, 3) := by decide +kernel
theorem dX10_salt_33 : decode cX10_salt 33 = .ok (.aload_n 0, 1) := by decide +kernel
theorem dX10_salt_34 : decode cX10_salt 34 = .ok (.iload_n 2, 1) := by decide +kernel
theorem dX10_salt_35 : decode cX10_salt 35 = .ok (.aload_n 0, 1) := by decide +kernel
theorem dX10_salt_36 : decode cX10_salt 36 = .ok (.getfield 108, 3) := by decide +kernel
theorem dX10_salt_39 : decode cX10_salt 39 = .ok (.bipush 68, 2) := by decide +kernel
theorem dX10_salt_41 : decode cX10_salt 41 = .ok (.iload_n 1, 1) := by decide +kernel
theorem dX10_salt_42 : decode cX10_salt 42 = .ok (.iadd, 1) := by decide +kernel
theorem dX10_salt_43 : decode cX10_salt 43 = .ok (.iaload, 1) := by decide +kernel
theorem dX10_salt_44 : decode cX10_salt 44 = .ok (.invokevirtual 361, 3) := by decide +kernel
theorem dX10_salt_47 : decode cX10_salt 47 = .ok (.bipush (-2), 2) := by decide +kernel
theorem dX10_salt_49 : decode cX10_salt 49 = .ok (.if_icmp .ne 5, 3) := by decide +kernel
theorem dX10_salt_52 : decode cX10_salt 52 = .ok (.iconst 0, 1) := by decide +kernel
theorem dX10_salt_53 : decode cX10_salt 53 = .ok (.ireturn, 1) := by decide +kernel
theorem dX10_salt_54 : decode cX10_salt 54 = .ok (.aload_n 0, 1) := by decide +kernel
theorem dX10_salt_55 : decode cX10_salt 55 = .ok (.getfield 108, 3) := by decide +kernel
theorem dX10_salt_58 : decode cX10_salt 58 = .ok (.bipush 74, 2) := by decide +kernel
theorem dX10_salt_60 : decode cX10_salt 60 = .ok (.iload_n 1, 1) := by decide +kernel
theorem dX10_salt_61 : decode cX10_salt 61 = .ok (.iadd, 1) := by decide +kernel
theorem dX10_salt_62 : decode cX10_salt 62 = .ok (.dup2, 1) := by decide +kernel
theorem dX10_salt_63 : decode cX10_salt 63 = .ok (.iaload, 1) := by decide +kernel
theorem dX10_salt_64 : decode cX10_salt 64 = .ok (.iconst 1, 1) := by decide +kernel
theorem dX10_salt_65 : decode cX10_salt 65 = .ok (.isub, 1) := by decide +kernel
theorem dX10_salt_66 : decode cX10_salt 66 = .ok (.iastore, 1) := by decide +kernel
theorem dX10_salt_67 : decode cX10_salt 67 = .ok (.aload_n 0, 1) := by decide +kernel
theorem dX10_salt_68 : decode cX10_salt 68 = .ok (.getfield 108, 3) := by decide +kernel
theorem dX10_salt_71 : decode cX10_salt 71 = .ok (.bipush 20, 2) := by decide +kernel
theorem dX10_salt_73 : decode cX10_salt 73 = .ok (.iload_n 2, 1) := by decide +kernel
theorem dX10_salt_74 : decode cX10_salt 74 = .ok (.iadd, 1) := by decide +kernel
theorem dX10_salt_75 : decode cX10_salt 75 = .ok (.dup2, 1) := by decide +kernel
theorem dX10_salt_76 : decode cX10_salt 76 = .ok (.iaload, 1) := by decide +kernel
theorem dX10_salt_77 : decode cX10_salt 77 = .ok (.iconst 1, 1) := by decide +kernel
theorem dX10_salt_78 : decode cX10_salt 78 = .ok (.iadd, 1) := by decide +kernel
theorem dX10_salt_79 : decode cX10_salt 79 = .ok (.iastore, 1) := by decide +kernel
theorem dX10_salt_80 : decode cX10_salt 80 = .ok (.aload_n 0, 1) := by decide +kernel
theorem dX10_salt_81 : decode cX10_salt 81 = .ok (.getfield 108, 3) := by decide +kernel
theorem dX10_salt_84 : decode cX10_salt 84 = .ok (.bipush 50, 2) := by decide +kernel
theorem dX10_salt_86 : decode cX10_salt 86 = .ok (.iload_n 2, 1) := by decide +kernel
theorem dX10_salt_87 : decode cX10_salt 87 = .ok (.iadd, 1) := by decide +kernel
theorem dX10_salt_88 : decode cX10_salt 88 = .ok (.iaload, 1) := by decide +kernel
theorem dX10_salt_89 : decode cX10_salt 89 = .ok (.ifCond .ne 35, 3) := by decide +kernel
theorem dX10_salt_92 : decode cX10_salt 92 = .ok (.aload_n 0, 1) := by decide +kernel
theorem dX10_salt_93 : decode cX10_salt 93 = .ok (.getfield 108, 3) := by decide +kernel
theorem dX10_salt_96 : decode cX10_salt 96 = .ok (.bipush 50, 2) := by decide +kernel
theorem dX10_salt_98 : decode cX10_salt 98 = .ok (.iload_n 2, 1) := by decide +kernel
theorem dX10_salt_99 : decode cX10_salt 99 = .ok (.iadd, 1) := by decide +kernel
theorem dX10_salt_100 : decode cX10_salt 100 = .ok (.iconst 1, 1) := by decide +kernel
theorem dX10_salt_101 : decode cX10_salt 101 = .ok (.aload_n 0, 1) := by decide +kernel
theorem dX10_salt_102 : decode cX10_salt 102 = .ok (.aload_n 0, 1) := by decide +kernel
theorem dX10_salt_103 : decode cX10_salt 103 = .ok (.getfield 38, 3) := by decide +kernel
theorem dX10_salt_106 : decode cX10_salt 106 = .ok (.iload_n 2, 1) := by decide +kernel
theorem dX10_salt_107 : decode cX10_salt 107 = .ok (.iaload, 1) := by decide +kernel
theorem dX10_salt_108 : decode cX10_salt 108 = .ok (.invokevirtual 330, 3) := by decide +kernel
theorem dX10_salt_111 : decode cX10_salt 111 = .ok (.aload_n 0, 1) := by decide +kernel
theorem dX10_salt_112 : decode cX10_salt 112 = .ok (.aload_n 0, 1) := by decide +kernel
theorem dX10_salt_113 : decode cX10_salt 113 = .ok (.getfield 41, 3) := by decide +kernel
theorem dX10_salt_116 : decode cX10_salt 116 = .ok (.iload_n 2, 1) := by decide +kernel
theorem dX10_salt_117 : decode cX10_salt 117 = .ok (.iaload, 1) := by decide +kernel
theorem dX10_salt_118 : decode cX10_salt 118 = .ok (.invokevirtual 330, 3) := by decide +kernel
theorem dX10_salt_121 : decode cX10_salt 121 = .ok (.ior, 1) := by decide +kernel
theorem dX10_salt_122 : decode cX10_salt 122 = .ok (.iadd, 1) := by decide +kernel
theorem dX10_salt_123 : decode cX10_salt 123 = .ok (.iastore, 1) := by decide +kernel
theorem dX10_salt_124 : decode cX10_salt 124 = .ok (.iconst 1, 1) := by decide +kernel
theorem dX10_salt_125 : decode cX10_salt 125 = .ok (.ireturn, 1) := by decide +kernel
theorem dX10_stove_0 : decode cX10_stove 0 = .ok (.aload_n 0, 1) := by decide +kernel
theorem dX10_stove_1 : decode cX10_stove 1 = .ok (.iconst 0, 1) := by decide +kernel
theorem dX10_stove_2 : decode cX10_stove 2 = .ok (.putfield 135, 3) := by decide +kernel
theorem dX10_stove_5 : decode cX10_stove 5 = .ok (.aload_n 0, 1) := by decide +kernel
theorem dX10_stove_6 : decode cX10_stove 6 = .ok (.iload_n 1, 1) := by decide +kernel
theorem dX10_stove_7 : decode cX10_stove 7 = .ok (.invokevirtual 327, 3) := by decide +kernel
theorem dX10_stove_10 : decode cX10_stove 10 = .ok (.ifCond .eq 13, 3) := by decide +kernel
theorem dX10_stove_13 : decode cX10_stove 13 = .ok (.iload_n 2, 1) := by decide +kernel
theorem dX10_stove_14 : decode cX10_stove 14 = .ok (.iconst 0, 1) := by decide +kernel
theorem dX10_stove_15 : decode cX10_stove 15 = .ok (.bipush 9, 2) := by decide +kernel
theorem dX10_stove_17 : decode cX10_stove 17 = .ok (.invokestatic 263, 3) := by decide +kernel
theorem dX10_stove_20 : decode cX10_stove 20 = .ok (.ifCond .ne 5, 3) := by decide +kernel
theorem dX10_stove_23 : decode cX10_stove 23 = .ok (.iconst 0, 1) := by decide +kernel
theorem dX10_stove_24 : decode cX10_stove 24 = .ok (.ireturn, 1) := by decide +kernel
theorem dX10_stove_25 : decode cX10_stove 25 = .ok (.aload_n 0, 1) := by decide +kernel
theorem dX10_stove_26 : decode cX10_stove 26 = .ok (.getfield 108, 3) := by decide +kernel
theorem dX10_stove_29 : decode cX10_stove 29 = .ok (.bipush 60, 2) := by decide +kernel
theorem dX10_stove_31 : decode cX10_stove 31 = .ok (.iload_n 1, 1) := by decide +kernel
theorem dX10_stove_32 : decode cX10_stove 32 = .ok (.iadd, 1) := by decide +kernel
theorem dX10_stove_33 : decode cX10_stove 33 = .ok (.iload_n 2, 1) := by decide +kernel
theorem dX10_stove_34 : decode cX10_stove 34 = .ok (.iastore, 1) := by decide +kernel
theorem dX10_stove_35 : decode cX10_stove 35 = .ok (.iconst 1, 1) := by decide +kernel
theorem dX10_stove_36 : decode cX10_stove 36 = .ok (.ireturn, 1) := by decide +kernel
theorem dX10_pardon_0 : decode cX10_pardon 0 = .ok (.aload_n 0, 1) := by decide +kernel
theorem dX10_pardon_1 : decode cX10_pardon 1 = .ok (.iconst 0, 1) := by decide +kernel
theorem dX10_pardon_2 : decode cX10_pardon 2 = .ok (.putfield 135, 3) := by decide +kernel
theorem dX10_pardon_5 : decode cX10_pardon 5 = .ok (.aload_n 0, 1) := by decide +kernel
theorem dX10_pardon_6 : decode cX10_pardon 6 = .ok (.iload_n 1, 1) := by decide +kernel
theorem dX10_pardon_7 : decode cX10_pardon 7 = .ok (.invokevirtual 358, 3) := by decide +kernel
theorem dX10_pardon_10 : decode cX10_pardon 10 = .ok (.ifCond .ne 5, 3) := by decide +kernel
theorem dX10_pardon_13 : decode cX10_pardon 13 = .ok (.iconst 0, 1) := by decide +kernel
theorem dX10_pardon_14 : decode cX10_pardon 14 = .ok (.ireturn, 1) := by decide +kernel
theorem dX10_pardon_15 : decode cX10_pardon 15 = .ok (.aload_n 0, 1) := by decide +kernel
theorem dX10_pardon_16 : decode cX10_pardon 16 = .ok (.getfield 108, 3) := by decide +kernel
theorem dX10_pardon_19 : decode cX10_pardon 19 = .ok (.bipush 68, 2) := by decide +kernel
theorem dX10_pardon_21 : decode cX10_pardon 21 = .ok (.iload_n 1, 1) := by decide +kernel
theorem dX10_pardon_22 : decode cX10_pardon 22 = .ok (.iadd, 1) := by decide +kernel
theorem dX10_pardon_23 : decode cX10_pardon 23 = .ok (.iconst (-1), 1) := by decide +kernel
theorem dX10_pardon_24 : decode cX10_pardon 24 = .ok (.iastore, 1) := by decide +kernel
theorem dX10_pardon_25 : decode cX10_pardon 25 = .ok (.iconst 1, 1) := by decide +kernel
theorem dX10_pardon_26 : decode cX10_pardon 26 = .ok (.ireturn, 1) := by decide +kernel
theorem dX10_freezes_0 : decode cX10_freezes 0 = .ok (.aload_n 0, 1) := by decide +kernel
theorem dX10_freezes_1 : decode cX10_freezes 1 = .ok (.getfield 65, 3) := by decide +kernel
theorem dX10_freezes_4 : decode cX10_freezes 4 = .ok (.iconst 1, 1) := by decide +kernel
theorem dX10_freezes_5 : decode cX10_freezes 5 = .ok (.iaload, 1) := by decide +kernel
theorem dX10_freezes_6 : decode cX10_freezes 6 = .ok (.aload_n 0, 1) := by decide +kernel
theorem dX10_freezes_7 : decode cX10_freezes 7 = .ok (.getfield 62, 3) := by decide +kernel
theorem dX10_freezes_10 : decode cX10_freezes 10 = .ok (.iconst 1, 1) := by decide +kernel
theorem dX10_freezes_11 : decode cX10_freezes 11 = .ok (.iaload, 1) := by decide +kernel
theorem dX10_freezes_12 : decode cX10_freezes 12 = .ok (.if_icmp .ne 22, 3) := by decide +kernel
theorem dX10_freezes_15 : decode cX10_freezes 15 = .ok (.iload_n 1, 1) := by decide +kernel
theorem dX10_freezes_16 : decode cX10_freezes 16 = .ok (.ineg, 1) := by decide +kernel
theorem dX10_freezes_17 : decode cX10_freezes 17 = .ok (.iload_n 2, 1) := by decide +kernel
theorem dX10_freezes_18 : decode cX10_freezes 18 = .ok (.isub, 1) := by decide +kernel
theorem dX10_freezes_19 : decode cX10_freezes 19 = .ok (.iload_n 3, 1) := by decide +kernel
theorem dX10_freezes_20 : decode cX10_freezes 20 = .ok (.iconst 3, 1) := by decide +kernel
theorem dX10_freezes_21 : decode cX10_freezes 21 = .ok (.imul, 1) := by decide +kernel
theorem dX10_freezes_22 : decode cX10_freezes 22 = .ok (.isub, 1) := by decide +kernel
theorem dX10_freezes_23 : decode cX10_freezes 23 = .ok (.iload 4, 2) := by decide +kernel
theorem dX10_freezes_25 : decode cX10_freezes 25 = .ok (.isub, 1) := by decide +kernel
theorem dX10_freezes_26 : decode cX10_freezes 26 = .ok (.bipush (-20), 2) := by decide +kernel
theorem dX10_freezes_28 : decode cX10_freezes 28 = .ok (.bipush 20, 2) := by decide +kernel
theorem dX10_freezes_30 : decode cX10_freezes 30 = .ok (.invokestatic 343, 3) := by decide +kernel
theorem dX10_freezes_33 : decode cX10_freezes 33 = .ok (.ireturn, 1) := by decide +kernel
theorem dX10_freezes_34 : decode cX10_freezes 34 = .ok (.aload_n 0, 1) := by decide +kernel
theorem dX10_freezes_35 : decode cX10_freezes 35 = .ok (.getfield 105, 3) := by decide +kernel
theorem dX10_freezes_38 : decode cX10_freezes 38 = .ok (.iconst 1, 1) := by decide +kernel
theorem dX10_freezes_39 : decode cX10_freezes 39 = .ok (.iload_n 1, 1) := by decide +kernel
theorem dX10_freezes_40 : decode cX10_freezes 40 = .ok (.iastore, 1) := by decide +kernel
theorem dX10_freezes_41 : decode cX10_freezes 41 = .ok (.aload_n 0, 1) := by decide +kernel
theorem dX10_freezes_42 : decode cX10_freezes 42 = .ok (.getfield 105, 3) := by decide +kernel
theorem dX10_freezes_45 : decode cX10_freezes 45 = .ok (.iconst 2, 1) := by decide +kernel
theorem dX10_freezes_46 : decode cX10_freezes 46 = .ok (.iload_n 2, 1) := by decide +kernel
theorem dX10_freezes_47 : decode cX10_freezes 47 = .ok (.iastore, 1) := by decide +kernel
theorem dX10_freezes_48 : decode cX10_freezes 48 = .ok (.aload_n 0, 1) := by decide +kernel
theorem dX10_freezes_49 : decode cX10_freezes 49 = .ok (.getfield 105, 3) := by decide +kernel
theorem dX10_freezes_52 : decode cX10_freezes 52 = .ok (.iconst 3, 1) := by decide +kernel
theorem dX10_freezes_53 : decode cX10_freezes 53 = .ok (.iload_n 3, 1) := by decide +kernel
theorem dX10_freezes_54 : decode cX10_freezes 54 = .ok (.iastore, 1) := by decide +kernel
theorem dX10_freezes_55 : decode cX10_freezes 55 = .ok (.aload_n 0, 1) := by decide +kernel
theorem dX10_freezes_56 : decode cX10_freezes 56 = .ok (.getfield 105, 3) := by decide +kernel
theorem dX10_freezes_59 : decode cX10_freezes 59 = .ok (.iconst 4, 1) := by decide +kernel
theorem dX10_freezes_60 : decode cX10_freezes 60 = .ok (.iload 4, 2) := by decide +kernel
theorem dX10_freezes_62 : decode cX10_freezes 62 = .ok (.iastore, 1) := by decide +kernel
theorem dX10_freezes_63 : decode cX10_freezes 63 = .ok (.aload_n 0, 1) := by decide +kernel
theorem dX10_freezes_64 : decode cX10_freezes 64 = .ok (.getfield 105, 3) := by decide +kernel
theorem dX10_freezes_67 : decode cX10_freezes 67 = .ok (.iconst 5, 1) := by decide +kernel
theorem dX10_freezes_68 : decode cX10_freezes 68 = .ok (.iload 5, 2) := by decide +kernel
theorem dX10_freezes_70 : decode cX10_freezes 70 = .ok (.iastore, 1) := by decide +kernel
theorem dX10_freezes_71 : decode cX10_freezes 71 = .ok (.aload_n 0, 1) := by decide +kernel
theorem dX10_freezes_72 : decode cX10_freezes 72 = .ok (.getfield 105, 3) := by decide +kernel
theorem dX10_freezes_75 : decode cX10_freezes 75 = .ok (.bipush 6, 2) := by decide +kernel
theorem dX10_freezes_77 : decode cX10_freezes 77 = .ok (.iload 6, 2) := by decide +kernel
theorem dX10_freezes_79 : decode cX10_freezes 79 = .ok (.iastore, 1) := by decide +kernel
theorem dX10_freezes_80 : decode cX10_freezes 80 = .ok (.aload_n 0, 1) := by decide +kernel
theorem dX10_freezes_81 : decode cX10_freezes 81 = .ok (.iconst 1, 1) := by decide +kernel
theorem dX10_freezes_82 : decode cX10_freezes 82 = .ok (.invokevirtual 340, 3) := by decide +kernel
theorem dX10_freezes_85 : decode cX10_freezes 85 = .ok (.bipush (-20), 2) := by decide +kernel
theorem dX10_freezes_87 : decode cX10_freezes 87 = .ok (.bipush 20, 2) := by decide +kernel
theorem dX10_freezes_89 : decode cX10_freezes 89 = .ok (.invokestatic 343, 3) := by decide +kernel
theorem dX10_freezes_92 : decode cX10_freezes 92 = .ok (.ireturn, 1) := by decide +kernel
theorem dX10_turns_0 : decode cX10_turns 0 = .ok (.iload_n 3, 1) := by decide +kernel
theorem dX10_turns_1 : decode cX10_turns 1 = .ok (.ifCond .le 16, 3) := by decide +kernel
theorem dX10_turns_4 : decode cX10_turns 4 = .ok (.iload_n 3, 1) := by decide +kernel
theorem dX10_turns_5 : decode cX10_turns 5 = .ok (.aload_n 0, 1) := by decide +kernel
theorem dX10_turns_6 : decode cX10_turns 6 = .ok (.getfield 108, 3) := by decide +kernel
theorem dX10_turns_9 : decode cX10_turns 9 = .ok (.iload_n 2, 1) := by decide +kernel
theorem dX10_turns_10 : decode cX10_turns 10 = .ok (.iaload, 1) := by decide +kernel
theorem dX10_turns_11 : decode cX10_turns 11 = .ok (.invokestatic 350, 3) := by decide +kernel
theorem dX10_turns_14 : decode cX10_turns 14 = .ok (.goto 15, 3) := by decide +kernel
theorem dX10_turns_17 : decode cX10_turns 17 = .ok (.iload_n 3, 1) := by decide +kernel
theorem dX10_turns_18 : decode cX10_turns 18 = .ok (.ineg, 1) := by decide +kernel
theorem dX10_turns_19 : decode cX10_turns 19 = .ok (.aload_n 0, 1) := by decide +kernel
theorem dX10_turns_20 : decode cX10_turns 20 = .ok (.getfield 108, 3) := by decide +kernel
theorem dX10_turns_23 : decode cX10_turns 23 = .ok (.iload_n 1, 1) := by decide +kernel
theorem dX10_turns_24 : decode cX10_turns 24 = .ok (.iaload, 1) := by decide +kernel
theorem dX10_turns_25 : decode cX10_turns 25 = .ok (.invokestatic 350, 3) := by decide +kernel
theorem dX10_turns_28 : decode cX10_turns 28 = .ok (.ineg, 1) := by decide +kernel
theorem dX10_turns_29 : decode cX10_turns 29 = .ok (.istore 4, 2) := by decide +kernel
theorem dX10_turns_31 : decode cX10_turns 31 = .ok (.aload_n 0, 1) := by decide +kernel
theorem dX10_turns_32 : decode cX10_turns 32 = .ok (.getfield 108, 3) := by decide +kernel
theorem dX10_turns_35 : decode cX10_turns 35 = .ok (.iload_n 1, 1) := by decide +kernel
theorem dX10_turns_36 : decode cX10_turns 36 = .ok (.dup2, 1) := by decide +kernel
theorem dX10_turns_37 : decode cX10_turns 37 = .ok (.iaload, 1) := by decide +kernel
theorem dX10_turns_38 : decode cX10_turns 38 = .ok (.iload 4, 2) := by decide +kernel
theorem dX10_turns_40 : decode cX10_turns 40 = .ok (.iadd, 1) := by decide +kernel
theorem dX10_turns_41 : decode cX10_turns 41 = .ok (.iastore, 1) := by decide +kernel
theorem dX10_turns_42 : decode cX10_turns 42 = .ok (.aload_n 0, 1) := by decide +kernel
theorem dX10_turns_43 : decode cX10_turns 43 = .ok (.getfield 108, 3) := by decide +kernel
theorem dX10_turns_46 : decode cX10_turns 46 = .ok (.iload_n 2, 1) := by decide +kernel
theorem dX10_turns_47 : decode cX10_turns 47 = .ok (.dup2, 1) := by decide +kernel
theorem dX10_turns_48 : decode cX10_turns 48 = .ok (.iaload, 1) := by decide +kernel
theorem dX10_turns_49 : decode cX10_turns 49 = .ok (.iload 4, 2) := by decide +kernel
theorem dX10_turns_51 : decode cX10_turns 51 = .ok (.isub, 1) := by decide +kernel
theorem dX10_turns_52 : decode cX10_turns 52 = .ok (.iastore, 1) := by decide +kernel
theorem dX10_turns_53 : decode cX10_turns 53 = .ok (.return_, 1) := by decide +kernel
theorem dX10_inAndBy_0 : decode cX10_inAndBy 0 = .ok (.aload_n 0, 1) := by decide +kernel
theorem dX10_inAndBy_1 : decode cX10_inAndBy 1 = .ok (.getfield 108, 3) := by decide +kernel
theorem dX10_inAndBy_4 : decode cX10_inAndBy 4 = .ok (.bipush 80, 2) := by decide +kernel
theorem dX10_inAndBy_6 : decode cX10_inAndBy 6 = .ok (.iaload, 1) := by decide +kernel
theorem dX10_inAndBy_7 : decode cX10_inAndBy 7 = .ok (.istore_n 2, 1) := by decide +kernel
theorem dX10_inAndBy_8 : decode cX10_inAndBy 8 = .ok (.aload_n 0, 1) := by decide +kernel
theorem dX10_inAndBy_9 : decode cX10_inAndBy 9 = .ok (.aload_n 0, 1) := by decide +kernel
theorem dX10_inAndBy_10 : decode cX10_inAndBy 10 = .ok (.getfield 38, 3) := by decide +kernel
theorem dX10_inAndBy_13 : decode cX10_inAndBy 13 = .ok (.iload_n 1, 1) := by decide +kernel
theorem dX10_inAndBy_14 : decode cX10_inAndBy 14 = .ok (.iaload, 1) := by decide +kernel
theorem dX10_inAndBy_15 : decode cX10_inAndBy 15 = .ok (.invokevirtual 330, 3) := by decide +kernel
theorem dX10_inAndBy_18 : decode cX10_inAndBy 18 = .ok (.invokestatic 364, 3) := by decide +kernel
theorem dX10_inAndBy_21 : decode cX10_inAndBy 21 = .ok (.aload_n 0, 1) := by decide +kernel
theorem dX10_inAndBy_22 : decode cX10_inAndBy 22 = .ok (.aload_n 0, 1) := by decide +kernel
theorem dX10_inAndBy_23 : decode cX10_inAndBy 23 = .ok (.getfield 41, 3) := by decide +kernel
theorem dX10_inAndBy_26 : decode cX10_inAndBy 26 = .ok (.iload_n 1, 1) := by decide +kernel
theorem dX10_inAndBy_27 : decode cX10_inAndBy 27 = .ok (.iaload, 1) := by decide +kernel
theorem dX10_inAndBy_28 : decode cX10_inAndBy 28 = .ok (.invokevirtual 330, 3) := by decide +kernel
theorem dX10_inAndBy_31 : decode cX10_inAndBy 31 = .ok (.invokestatic 364, 3) := by decide +kernel
theorem dX10_inAndBy_34 : decode cX10_inAndBy 34 = .ok (.iadd, 1) := by decide +kernel
theorem dX10_inAndBy_35 : decode cX10_inAndBy 35 = .ok (.aload_n 0, 1) := by decide +kernel
theorem dX10_inAndBy_36 : decode cX10_inAndBy 36 = .ok (.aload_n 0, 1) := by decide +kernel
theorem dX10_inAndBy_37 : decode cX10_inAndBy 37 = .ok (.getfield 38, 3) := by decide +kernel
theorem dX10_inAndBy_40 : decode cX10_inAndBy 40 = .ok (.iload_n 1, 1) := by decide +kernel
theorem dX10_inAndBy_41 : decode cX10_inAndBy 41 = .ok (.iaload, 1) := by decide +kernel
theorem dX10_inAndBy_42 : decode cX10_inAndBy 42 = .ok (.iload_n 2, 1) := by decide +kernel
theorem dX10_inAndBy_43 : decode cX10_inAndBy 43 = .ok (.invokevirtual 333, 3) := by decide +kernel
theorem dX10_inAndBy_46 : decode cX10_inAndBy 46 = .ok (.iadd, 1) := by decide +kernel
theorem dX10_inAndBy_47 : decode cX10_inAndBy 47 = .ok (.aload_n 0, 1) := by decide +kernel
theorem dX10_inAndBy_48 : decode cX10_inAndBy 48 = .ok (.aload_n 0, 1) := by decide +kernel
theorem dX10_inAndBy_49 : decode cX10_inAndBy 49 = .ok (.getfield 41, 3) := by decide +kernel
theorem dX10_inAndBy_52 : decode cX10_inAndBy 52 = .ok (.iload_n 1, 1) := by decide +kernel
theorem dX10_inAndBy_53 : decode cX10_inAndBy 53 = .ok (.iaload, 1) := by decide +kernel
theorem dX10_inAndBy_54 : decode cX10_inAndBy 54 = .ok (.iload_n 2, 1) := by decide +kernel
theorem dX10_inAndBy_55 : decode cX10_inAndBy 55 = .ok (.invokevirtual 333, 3) := by decide +kernel
theorem dX10_inAndBy_58 : decode cX10_inAndBy 58 = .ok (.iadd, 1) := by decide +kernel
theorem dX10_inAndBy_59 : decode cX10_inAndBy 59 = .ok (.ireturn, 1) := by decide +kernel
theorem dX10_frosts_0 : decode cX10_frosts 0 = .ok (.aload_n 0, 1) := by decide +kernel
theorem dX10_frosts_1 : decode cX10_frosts 1 = .ok (.aload_n 0, 1) := by decide +kernel
theorem dX10_frosts_2 : decode cX10_frosts 2 = .ok (.getfield 108, 3) := by decide +kernel
theorem dX10_frosts_5 : decode cX10_frosts 5 = .ok (.bipush 80, 2) := by decide +kernel
theorem dX10_frosts_7 : decode cX10_frosts 7 = .ok (.iaload, 1) := by decide +kernel
theorem dX10_frosts_8 : decode cX10_frosts 8 = .ok (.iload_n 1, 1) := by decide +kernel
theorem dX10_frosts_9 : decode cX10_frosts 9 = .ok (.invokevirtual 347, 3) := by decide +kernel
theorem dX10_frosts_12 : decode cX10_frosts 12 = .ok (.istore_n 2, 1) := by decide +kernel
theorem dX10_frosts_13 : decode cX10_frosts 13 = .ok (.iconst 0, 1) := by decide +kernel
theorem dX10_frosts_14 : decode cX10_frosts 14 = .ok (.istore_n 3, 1) := by decide +kernel
theorem dX10_frosts_15 : decode cX10_frosts 15 = .ok (.iload_n 3, 1) := by decide +kernel
theorem dX10_frosts_16 : decode cX10_frosts 16 = .ok (.aload_n 0, 1) := by decide +kernel
theorem dX10_frosts_17 : decode cX10_frosts 17 = .ok (.getfield 16, 3) := by decide +kernel
theorem dX10_frosts_20 : decode cX10_frosts 20 = .ok (.iconst 0, 1) := by decide +kernel
theorem dX10_frosts_21 : decode cX10_frosts 21 = .ok (.iaload, 1) := by decide +kernel
theorem dX10_frosts_22 : decode cX10_frosts 22 = .ok (.if_icmp .ge 166, 3) := by decide +kernel
theorem dX10_frosts_25 : decode cX10_frosts 25 = .ok (.aload_n 0, 1) := by decide +kernel
theorem dX10_frosts_26 : decode cX10_frosts 26 = .ok (.getfield 108, 3) := by decide +kernel
theorem dX10_frosts_29 : decode cX10_frosts 29 = .ok (.bipush 60, 2) := by decide +kernel
theorem dX10_frosts_31 : decode cX10_frosts 31 = .ok (.aload_n 0, 1) := by decide +kernel
theorem dX10_frosts_32 : decode cX10_frosts 32 = .ok (.getfield 38, 3) := by decide +kernel
theorem dX10_frosts_35 : decode cX10_frosts 35 = .ok (.iload_n 3, 1) := by decide +kernel
theorem dX10_frosts_36 : decode cX10_frosts 36 = .ok (.iaload, 1) := by decide +kernel
theorem dX10_frosts_37 : decode cX10_frosts 37 = .ok (.iadd, 1) := by decide +kernel
theorem dX10_frosts_38 : decode cX10_frosts 38 = .ok (.iaload, 1) := by decide +kernel
theorem dX10_frosts_39 : decode cX10_frosts 39 = .ok (.aload_n 0, 1) := by decide +kernel
theorem dX10_frosts_40 : decode cX10_frosts 40 = .ok (.getfield 41, 3) := by decide +kernel
theorem dX10_frosts_43 : decode cX10_frosts 43 = .ok (.iload_n 3, 1) := by decide +kernel
theorem dX10_frosts_44 : decode cX10_frosts 44 = .ok (.iaload, 1) := by decide +kernel
theorem dX10_frosts_45 : decode cX10_frosts 45 = .ok (.ifCond .ge 7, 3) := by decide +kernel
theorem dX10_frosts_48 : decode cX10_frosts 48 = .ok (.iconst 0, 1) := by decide +kernel
theorem dX10_frosts_49 : decode cX10_frosts 49 = .ok (.goto 17, 3) := by decide +kernel
theorem dX10_frosts_52 : decode cX10_frosts 52 = .ok (.aload_n 0, 1) := by decide +kernel
theorem dX10_frosts_53 : decode cX10_frosts 53 = .ok (.getfield 108, 3) := by decide +kernel
theorem dX10_frosts_56 : decode cX10_frosts 56 = .ok (.bipush 60, 2) := by decide +kernel
theorem dX10_frosts_58 : decode cX10_frosts 58 = .ok (.aload_n 0, 1) := by decide +kernel
theorem dX10_frosts_59 : decode cX10_frosts 59 = .ok (.getfield 41, 3) := by decide +kernel
theorem dX10_frosts_62 : decode cX10_frosts 62 = .ok (.iload_n 3, 1) := by decide +kernel
theorem dX10_frosts_63 : decode cX10_frosts 63 = .ok (.iaload, 1) := by decide +kernel
theorem dX10_frosts_64 : decode cX10_frosts 64 = .ok (.iadd, 1) := by decide +kernel
theorem dX10_frosts_65 : decode cX10_frosts 65 = .ok (.iaload, 1) := by decide +kernel
theorem dX10_frosts_66 : decode cX10_frosts 66 = .ok (.iadd, 1) := by decide +kernel
theorem dX10_frosts_67 : decode cX10_frosts 67 = .ok (.istore 4, 2) := by decide +kernel
theorem dX10_frosts_69 : decode cX10_frosts 69 = .ok (.aload_n 0, 1) := by decide +kernel
theorem dX10_frosts_70 : decode cX10_frosts 70 = .ok (.iload_n 3, 1) := by decide +kernel
theorem dX10_frosts_71 : decode cX10_frosts 71 = .ok (.invokevirtual 367, 3) := by decide +kernel
theorem dX10_frosts_74 : decode cX10_frosts 74 = .ok (.istore 5, 2) := by decide +kernel
theorem dX10_frosts_76 : decode cX10_frosts 76 = .ok (.aload_n 0, 1) := by decide +kernel
theorem dX10_frosts_77 : decode cX10_frosts 77 = .ok (.iload_n 3, 1) := by decide +kernel
theorem dX10_frosts_78 : decode cX10_frosts 78 = .ok (.bipush 10, 2) := by decide +kernel
theorem dX10_frosts_80 : decode cX10_frosts 80 = .ok (.iload_n 3, 1) := by decide +kernel
theorem dX10_frosts_81 : decode cX10_frosts 81 = .ok (.iadd, 1) := by decide +kernel
theorem dX10_frosts_82 : decode cX10_frosts 82 = .ok (.aload_n 0, 1) := by decide +kernel
theorem dX10_frosts_83 : decode cX10_frosts 83 = .ok (.iload_n 2, 1) := by decide +kernel
theorem dX10_frosts_84 : decode cX10_frosts 84 = .ok (.iload 4, 2) := by decide +kernel
theorem dX10_frosts_86 : decode cX10_frosts 86 = .ok (.aload_n 0, 1) := by decide +kernel
theorem dX10_frosts_87 : decode cX10_frosts 87 = .ok (.getfield 108, 3) := by decide +kernel
theorem dX10_frosts_90 : decode cX10_frosts 90 = .ok (.bipush 20, 2) := by decide +kernel
theorem dX10_frosts_92 : decode cX10_frosts 92 = .ok (.iload_n 3, 1) := by decide +kernel
theorem dX10_frosts_93 : decode cX10_frosts 93 = .ok (.iadd, 1) := by decide +kernel
theorem dX10_frosts_94 : decode cX10_frosts 94 = .ok (.iaload, 1) := by decide +kernel
theorem dX10_frosts_95 : decode cX10_frosts 95 = .ok (.iload 5, 2) := by decide +kernel
theorem dX10_frosts_97 : decode cX10_frosts 97 = .ok (.aload_n 0, 1) := by decide +kernel
theorem dX10_frosts_98 : decode cX10_frosts 98 = .ok (.getfield 108, 3) := by decide +kernel
theorem dX10_frosts_101 : decode cX10_frosts 101 = .ok (.iload_n 3, 1) := by decide +kernel
theorem dX10_frosts_102 : decode cX10_frosts 102 = .ok (.iaload, 1) := by decide +kernel
theorem dX10_frosts_103 : decode cX10_frosts 103 = .ok (.aload_n 0, 1) := by decide +kernel
theorem dX10_frosts_104 : decode cX10_frosts 104 = .ok (.getfield 108, 3) := by decide +kernel
theorem dX10_frosts_107 : decode cX10_frosts 107 = .ok (.bipush 10, 2) := by decide +kernel
theorem dX10_frosts_109 : decode cX10_frosts 109 = .ok (.iload_n 3, 1) := by decide +kernel
theorem dX10_frosts_110 : decode cX10_frosts 110 = .ok (.iadd, 1) := by decide +kernel
theorem dX10_frosts_111 : decode cX10_frosts 111 = .ok (.iaload, 1) := by decide +kernel
theorem dX10_frosts_112 : decode cX10_frosts 112 = .ok (.invokevirtual 370, 3) := by decide +kernel
theorem dX10_frosts_115 : decode cX10_frosts 115 = .ok (.invokevirtual 374, 3) := by decide +kernel
theorem dX10_frosts_118 : decode cX10_frosts 118 = .ok (.aload_n 0, 1) := by decide +kernel
theorem dX10_frosts_119 : decode cX10_frosts 119 = .ok (.bipush 30, 2) := by decide +kernel
theorem dX10_frosts_121 : decode cX10_frosts 121 = .ok (.iload_n 3, 1) := by decide +kernel
theorem dX10_frosts_122 : decode cX10_frosts 122 = .ok (.iadd, 1) := by decide +kernel
theorem dX10_frosts_123 : decode cX10_frosts 123 = .ok (.bipush 40, 2) := by decide +kernel
theorem dX10_frosts_125 : decode cX10_frosts 125 = .ok (.iload_n 3, 1) := by decide +kernel
theorem dX10_frosts_126 : decode cX10_frosts 126 = .ok (.iadd, 1) := by decide +kernel
theorem dX10_frosts_127 : decode cX10_frosts 127 = .ok (.aload_n 0, 1) := by decide +kernel
theorem dX10_frosts_128 : decode cX10_frosts 128 = .ok (.iload_n 2, 1) := by decide +kernel
theorem dX10_frosts_129 : decode cX10_frosts 129 = .ok (.iload 4, 2) := by decide +kernel
theorem dX10_frosts_131 : decode cX10_frosts 131 = .ok (.iconst 0, 1) := by decide +kernel
theorem dX10_frosts_132 : decode cX10_frosts 132 = .ok (.iload 5, 2) := by decide +kernel
theorem dX10_frosts_134 : decode cX10_frosts 134 = .ok (.aload_n 0, 1) := by decide +kernel
theorem dX10_frosts_135 : decode cX10_frosts 135 = .ok (.getfield 108, 3) := by decide +kernel
theorem dX10_frosts_138 : decode cX10_frosts 138 = .ok (.bipush 30, 2) := by decide +kernel
theorem dX10_frosts_140 : decode cX10_frosts 140 = .ok (.iload_n 3, 1) := by decide +kernel
theorem dX10_frosts_141 : decode cX10_frosts 141 = .ok (.iadd, 1) := by decide +kernel
theorem dX10_frosts_142 : decode cX10_frosts 142 = .ok (.iaload, 1) := by decide +kernel
theorem dX10_frosts_143 : decode cX10_frosts 143 = .ok (.aload_n 0, 1) := by decide +kernel
theorem dX10_frosts_144 : decode cX10_frosts 144 = .ok (.getfield 108, 3) := by decide +kernel
theorem dX10_frosts_147 : decode cX10_frosts 147 = .ok (.bipush 40, 2) := by decide +kernel
theorem dX10_frosts_149 : decode cX10_frosts 149 = .ok (.iload_n 3, 1) := by decide +kernel
theorem dX10_frosts_150 : decode cX10_frosts 150 = .ok (.iadd, 1) := by decide +kernel
theorem dX10_frosts_151 : decode cX10_frosts 151 = .ok (.iaload, 1) := by decide +kernel
theorem dX10_frosts_152 : decode cX10_frosts 152 = .ok (.invokevirtual 370, 3) := by decide +kernel
theorem dX10_frosts_155 : decode cX10_frosts 155 = .ok (.invokevirtual 374, 3) := by decide +kernel
theorem dX10_frosts_158 : decode cX10_frosts 158 = .ok (.aload_n 0, 1) := by decide +kernel
theorem dX10_frosts_159 : decode cX10_frosts 159 = .ok (.getfield 108, 3) := by decide +kernel
theorem dX10_frosts_162 : decode cX10_frosts 162 = .ok (.bipush 20, 2) := by decide +kernel
theorem dX10_frosts_164 : decode cX10_frosts 164 = .ok (.iload_n 3, 1) := by decide +kernel
theorem dX10_frosts_165 : decode cX10_frosts 165 = .ok (.iadd, 1) := by decide +kernel
theorem dX10_frosts_166 : decode cX10_frosts 166 = .ok (.iconst 0, 1) := by decide +kernel
theorem dX10_frosts_167 : decode cX10_frosts 167 = .ok (.aload_n 0, 1) := by decide +kernel
theorem dX10_frosts_168 : decode cX10_frosts 168 = .ok (.getfield 108, 3) := by decide +kernel
theorem dX10_frosts_171 : decode cX10_frosts 171 = .ok (.bipush 20, 2) := by decide +kernel
theorem dX10_frosts_173 : decode cX10_frosts 173 = .ok (.iload_n 3, 1) := by decide +kernel
theorem dX10_frosts_174 : decode cX10_frosts 174 = .ok (.iadd, 1) := by decide +kernel
theorem dX10_frosts_175 : decode cX10_frosts 175 = .ok (.iaload, 1) := by decide +kernel
theorem dX10_frosts_176 : decode cX10_frosts 176 = .ok (.iconst 1, 1) := by decide +kernel
theorem dX10_frosts_177 : decode cX10_frosts 177 = .ok (.isub, 1) := by decide +kernel
theorem dX10_frosts_178 : decode cX10_frosts 178 = .ok (.invokestatic 378, 3) := by decide +kernel
theorem dX10_frosts_181 : decode cX10_frosts 181 = .ok (.iastore, 1) := by decide +kernel
theorem dX10_frosts_182 : decode cX10_frosts 182 = .ok (.iinc 3 1, 3) := by decide +kernel
theorem dX10_frosts_185 : decode cX10_frosts 185 = .ok (.goto (-170), 3) := by decide +kernel
theorem dX10_frosts_188 : decode cX10_frosts 188 = .ok (.return_, 1) := by decide +kernel
theorem dX10_walks_0 : decode cX10_walks 0 = .ok (.aload_n 0, 1) := by decide +kernel
theorem dX10_walks_1 : decode cX10_walks 1 = .ok (.getfield 108, 3) := by decide +kernel
theorem dX10_walks_4 : decode cX10_walks 4 = .ok (.bipush 68, 2) := by decide +kernel
theorem dX10_walks_6 : decode cX10_walks 6 = .ok (.iload_n 1, 1) := by decide +kernel
theorem dX10_walks_7 : decode cX10_walks 7 = .ok (.iadd, 1) := by decide +kernel
theorem dX10_walks_8 : decode cX10_walks 8 = .ok (.iaload, 1) := by decide +kernel
theorem dX10_walks_9 : decode cX10_walks 9 = .ok (.istore_n 2, 1) := by decide +kernel
theorem dX10_walks_10 : decode cX10_walks 10 = .ok (.aload_n 0, 1) := by decide +kernel
theorem dX10_walks_11 : decode cX10_walks 11 = .ok (.getfield 108, 3) := by decide +kernel
theorem dX10_walks_14 : decode cX10_walks 14 = .ok (.bipush 80, 2) := by decide +kernel
theorem dX10_walks_16 : decode cX10_walks 16 = .ok (.iaload, 1) := by decide +kernel
theorem dX10_walks_17 : decode cX10_walks 17 = .ok (.istore_n 3, 1) := by decide +kernel
theorem dX10_walks_18 : decode cX10_walks 18 = .ok (.iload_n 2, 1) := by decide +kernel
theorem dX10_walks_19 : decode cX10_walks 19 = .ok (.ifCond .lt 25, 3) := by decide +kernel
theorem dX10_walks_22 : decode cX10_walks 22 = .ok (.iload_n 3, 1) := by decide +kernel
theorem dX10_walks_23 : decode cX10_walks 23 = .ok (.bipush 24, 2) := by decide +kernel
theorem dX10_walks_25 : decode cX10_walks 25 = .ok (.idiv, 1) := by decide +kernel
theorem dX10_walks_26 : decode cX10_walks 26 = .ok (.aload_n 0, 1) := by decide +kernel
theorem dX10_walks_27 : decode cX10_walks 27 = .ok (.getfield 53, 3) := by decide +kernel
theorem dX10_walks_30 : decode cX10_walks 30 = .ok (.iload_n 1, 1) := by decide +kernel
theorem dX10_walks_31 : decode cX10_walks 31 = .ok (.iaload, 1) := by decide +kernel
theorem dX10_walks_32 : decode cX10_walks 32 = .ok (.if_icmp .lt 12, 3) := by decide +kernel
theorem dX10_walks_35 : decode cX10_walks 35 = .ok (.aload_n 0, 1) := by decide +kernel
theorem dX10_walks_36 : decode cX10_walks 36 = .ok (.iload_n 2, 1) := by decide +kernel
theorem dX10_walks_37 : decode cX10_walks 37 = .ok (.iload_n 3, 1) := by decide +kernel
theorem dX10_walks_38 : decode cX10_walks 38 = .ok (.invokevirtual 381, 3) := by decide +kernel
theorem dX10_walks_41 : decode cX10_walks 41 = .ok (.ifCond .eq 4, 3) := by decide +kernel
theorem dX10_walks_44 : decode cX10_walks 44 = .ok (.return_, 1) := by decide +kernel
theorem dX10_walks_45 : decode cX10_walks 45 = .ok (.iconst (-1), 1) := by decide +kernel
theorem dX10_walks_46 : decode cX10_walks 46 = .ok (.istore 4, 2) := by decide +kernel
theorem dX10_walks_48 : decode cX10_walks 48 = .ok (.iconst 0, 1) := by decide +kernel
theorem dX10_walks_49 : decode cX10_walks 49 = .ok (.istore 5, 2) := by decide +kernel
theorem dX10_walks_51 : decode cX10_walks 51 = .ok (.iload 5, 2) := by decide +kernel
theorem dX10_walks_53 : decode cX10_walks 53 = .ok (.aload_n 0, 1) := by decide +kernel
theorem dX10_walks_54 : decode cX10_walks 54 = .ok (.getfield 16, 3) := by decide +kernel
theorem dX10_walks_57 : decode cX10_walks 57 = .ok (.iconst 0, 1) := by decide +kernel
theorem dX10_walks_58 : decode cX10_walks 58 = .ok (.iaload, 1) := by decide +kernel
theorem dX10_walks_59 : decode cX10_walks 59 = .ok (.if_icmp .ge 123, 3) := by decide +kernel
theorem dX10_walks_62 : decode cX10_walks 62 = .ok (.aload_n 0, 1) := by decide +kernel
theorem dX10_walks_63 : decode cX10_walks 63 = .ok (.iload 5, 2) := by decide +kernel
theorem dX10_walks_65 : decode cX10_walks 65 = .ok (.iload_n 2, 1) := by decide +kernel
theorem dX10_walks_66 : decode cX10_walks 66 = .ok (.invokevirtual 361, 3) := by decide +kernel
theorem dX10_walks_69 : decode cX10_walks 69 = .ok (.istore 6, 2) := by decide +kernel
theorem dX10_walks_71 : decode cX10_walks 71 = .ok (.iload 6, 2) := by decide +kernel
theorem dX10_walks_73 : decode cX10_walks 73 = .ok (.bipush (-2), 2) := by decide +kernel
theorem dX10_walks_75 : decode cX10_walks 75 = .ok (.if_icmp .eq 101, 3) := by decide +kernel
theorem dX10_walks_78 : decode cX10_walks 78 = .ok (.aload_n 0, 1) := by decide +kernel
theorem dX10_walks_79 : decode cX10_walks 79 = .ok (.getfield 108, 3) := by decide +kernel
theorem dX10_walks_82 : decode cX10_walks 82 = .ok (.iload 5, 2) := by decide +kernel
theorem dX10_walks_84 : decode cX10_walks 84 = .ok (.iaload, 1) := by decide +kernel
theorem dX10_walks_85 : decode cX10_walks 85 = .ok (.ifCond .gt 91, 3) := by decide +kernel
theorem dX10_walks_88 : decode cX10_walks 88 = .ok (.aload_n 0, 1) := by decide +kernel
theorem dX10_walks_89 : decode cX10_walks 89 = .ok (.iload 6, 2) := by decide +kernel
theorem dX10_walks_91 : decode cX10_walks 91 = .ok (.iload_n 3, 1) := by decide +kernel
theorem dX10_walks_92 : decode cX10_walks 92 = .ok (.invokevirtual 381, 3) := by decide +kernel
theorem dX10_walks_95 : decode cX10_walks 95 = .ok (.ifCond .eq 6, 3) := by decide +kernel
theorem dX10_walks_98 : decode cX10_walks 98 = .ok (.goto 78, 3) := by decide +kernel
theorem dX10_walks_101 : decode cX10_walks 101 = .ok (.iload 6, 2) := by decide +kernel
theorem dX10_walks_103 : decode cX10_walks 103 = .ok (.ifCond .lt 29, 3) := by decide +kernel
theorem dX10_walks_106 : decode cX10_walks 106 = .ok (.aload_n 0, 1) := by decide +kernel
theorem dX10_walks_107 : decode cX10_walks 107 = .ok (.getfield 117, 3) := by decide +kernel
theorem dX10_walks_110 : decode cX10_walks 110 = .ok (.iload 6, 2) := by decide +kernel
theorem dX10_walks_112 : decode cX10_walks 112 = .ok (.iaload, 1) := by decide +kernel
theorem dX10_walks_113 : decode cX10_walks 113 = .ok (.ifCond .le 23, 3) := by decide +kernel
theorem dX10_walks_116 : decode cX10_walks 116 = .ok (.aload_n 0, 1) := by decide +kernel
theorem dX10_walks_117 : decode cX10_walks 117 = .ok (.getfield 117, 3) := by decide +kernel
theorem dX10_walks_120 : decode cX10_walks 120 = .ok (.iload 6, 2) := by decide +kernel
theorem dX10_walks_122 : decode cX10_walks 122 = .ok (.iaload, 1) := by decide +kernel
theorem dX10_walks_123 : decode cX10_walks 123 = .ok (.aload_n 0, 1) := by decide +kernel
theorem dX10_walks_124 : decode cX10_walks 124 = .ok (.getfield 117, 3) := by decide +kernel
theorem dX10_walks_127 : decode cX10_walks 127 = .ok (.iload_n 2, 1) := by decide +kernel
theorem dX10_walks_128 : decode cX10_walks 128 = .ok (.iaload, 1) := by decide +kernel
theorem dX10_walks_129 : decode cX10_walks 129 = .ok (.if_icmp .ge 7, 3) := by decide +kernel
theorem dX10_walks_132 : decode cX10_walks 132 = .ok (.iconst 1, 1) := by decide +kernel
theorem dX10_walks_133 : decode cX10_walks 133 = .ok (.goto 4, 3) := by decide +kernel
theorem dX10_walks_136 : decode cX10_walks 136 = .ok (.iconst 0, 1) := by decide +kernel
theorem dX10_walks_137 : decode cX10_walks 137 = .ok (.istore 7, 2) := by decide +kernel
theorem dX10_walks_139 : decode cX10_walks 139 = .ok (.iload 7, 2) := by decide +kernel
theorem dX10_walks_141 : decode cX10_walks 141 = .ok (.ifCond .eq 35, 3) := by decide +kernel
theorem dX10_walks_144 : decode cX10_walks 144 = .ok (.iload 4, 2) := by decide +kernel
theorem dX10_walks_146 : decode cX10_walks 146 = .ok (.ifCond .lt 26, 3) := by decide +kernel
theorem dX10_walks_149 : decode cX10_walks 149 = .ok (.aload_n 0, 1) := by decide +kernel
theorem dX10_walks_150 : decode cX10_walks 150 = .ok (.iload 6, 2) := by decide +kernel
theorem dX10_walks_152 : decode cX10_walks 152 = .ok (.invokevirtual 384, 3) := by decide +kernel
theorem dX10_walks_155 : decode cX10_walks 155 = .ok (.aload_n 0, 1) := by decide +kernel
theorem dX10_walks_156 : decode cX10_walks 156 = .ok (.aload_n 0, 1) := by decide +kernel
theorem dX10_walks_157 : decode cX10_walks 157 = .ok (.iload 4, 2) := by decide +kernel
theorem dX10_walks_159 : decode cX10_walks 159 = .ok (.iload_n 2, 1) := by decide +kernel
theorem dX10_walks_160 : decode cX10_walks 160 = .ok (.invokevirtual 361, 3) := by decide +kernel
theorem dX10_walks_163 : decode cX10_walks 163 = .ok (.invokevirtual 384, 3) := by decide +kernel
theorem dX10_walks_166 : decode cX10_walks 166 = .ok (.if_icmp .lt 6, 3) := by decide +kernel
theorem dX10_walks_169 : decode cX10_walks 169 = .ok (.goto 7, 3) := by decide +kernel
theorem dX10_walks_172 : decode cX10_walks 172 = .ok (.iload 5, 2) := by decide +kernel
theorem dX10_walks_174 : decode cX10_walks 174 = .ok (.istore 4, 2) := by decide +kernel
theorem dX10_walks_176 : decode cX10_walks 176 = .ok (.iinc 5 1, 3) := by decide +kernel
theorem dX10_walks_179 : decode cX10_walks 179 = .ok (.goto (-128), 3) := by decide +kernel
theorem dX10_walks_182 : decode cX10_walks 182 = .ok (.iload 4, 2) := by decide +kernel
theorem dX10_walks_184 : decode cX10_walks 184 = .ok (.ifCond .lt 19, 3) := by decide +kernel
theorem dX10_walks_187 : decode cX10_walks 187 = .ok (.aload_n 0, 1) := by decide +kernel
theorem dX10_walks_188 : decode cX10_walks 188 = .ok (.getfield 108, 3) := by decide +kernel
theorem dX10_walks_191 : decode cX10_walks 191 = .ok (.bipush 68, 2) := by decide +kernel
theorem dX10_walks_193 : decode cX10_walks 193 = .ok (.iload_n 1, 1) := by decide +kernel
theorem dX10_walks_194 : decode cX10_walks 194 = .ok (.iadd, 1) := by decide +kernel
theorem dX10_walks_195 : decode cX10_walks 195 = .ok (.aload_n 0, 1) := by decide +kernel
theorem dX10_walks_196 : decode cX10_walks 196 = .ok (.iload 4, 2) := by decide +kernel
theorem dX10_walks_198 : decode cX10_walks 198 = .ok (.iload_n 2, 1) := by decide +kernel
theorem dX10_walks_199 : decode cX10_walks 199 = .ok (.invokevirtual 361, 3) := by decide +kernel
theorem dX10_walks_202 : decode cX10_walks 202 = .ok (.iastore, 1) := by decide +kernel
theorem dX10_walks_203 : decode cX10_walks 203 = .ok (.return_, 1) := by decide +kernel
theorem dX10_passes_0 : decode cX10_passes 0 = .ok (.aload_n 0, 1) := by decide +kernel
theorem dX10_passes_1 : decode cX10_passes 1 = .ok (.iload_n 1, 1) := by decide +kernel
theorem dX10_passes_2 : decode cX10_passes 2 = .ok (.invokevirtual 387, 3) := by decide +kernel
theorem dX10_passes_5 : decode cX10_passes 5 = .ok (.iconst 0, 1) := by decide +kernel
theorem dX10_passes_6 : decode cX10_passes 6 = .ok (.istore_n 2, 1) := by decide +kernel
theorem dX10_passes_7 : decode cX10_passes 7 = .ok (.iload_n 2, 1) := by decide +kernel
theorem dX10_passes_8 : decode cX10_passes 8 = .ok (.aload_n 0, 1) := by decide +kernel
theorem dX10_passes_9 : decode cX10_passes 9 = .ok (.getfield 19, 3) := by decide +kernel
theorem dX10_passes_12 : decode cX10_passes 12 = .ok (.iconst 0, 1) := by decide +kernel
theorem dX10_passes_13 : decode cX10_passes 13 = .ok (.iaload, 1) := by decide +kernel
theorem dX10_passes_14 : decode cX10_passes 14 = .ok (.if_icmp .ge 14, 3) := by decide +kernel
theorem dX10_passes_17 : decode cX10_passes 17 = .ok (.aload_n 0, 1) := by decide +kernel
theorem dX10_passes_18 : decode cX10_passes 18 = .ok (.iload_n 2, 1) := by decide +kernel
theorem dX10_passes_19 : decode cX10_passes 19 = .ok (.invokevirtual 390, 3) := by decide +kernel
theorem dX10_passes_22 : decode cX10_passes 22 = .ok (.iinc 2 1, 3) := by decide +kernel
theorem dX10_passes_25 : decode cX10_passes 25 = .ok (.goto (-18), 3) := by decide +kernel
theorem dX10_passes_28 : decode cX10_passes 28 = .ok (.aload_n 0, 1) := by decide +kernel
theorem dX10_passes_29 : decode cX10_passes 29 = .ok (.getfield 108, 3) := by decide +kernel
theorem dX10_passes_32 : decode cX10_passes 32 = .ok (.bipush 80, 2) := by decide +kernel
theorem dX10_passes_34 : decode cX10_passes 34 = .ok (.dup2, 1) := by decide +kernel
theorem dX10_passes_35 : decode cX10_passes 35 = .ok (.iaload, 1) := by decide +kernel
theorem dX10_passes_36 : decode cX10_passes 36 = .ok (.iconst 1, 1) := by decide +kernel
theorem dX10_passes_37 : decode cX10_passes 37 = .ok (.iadd, 1) := by decide +kernel
theorem dX10_passes_38 : decode cX10_passes 38 = .ok (.iastore, 1) := by decide +kernel
theorem dX10_passes_39 : decode cX10_passes 39 = .ok (.return_, 1) := by decide +kernel
theorem dX10_hours_0 : decode cX10_hours 0 = .ok (.aload_n 0, 1) := by decide +kernel
theorem dX10_hours_1 : decode cX10_hours 1 = .ok (.iconst 0, 1) := by decide +kernel
theorem dX10_hours_2 : decode cX10_hours 2 = .ok (.putfield 135, 3) := by decide +kernel
theorem dX10_hours_5 : decode cX10_hours 5 = .ok (.iload_n 1, 1) := by decide +kernel
theorem dX10_hours_6 : decode cX10_hours 6 = .ok (.iconst 1, 1) := by decide +kernel
theorem dX10_hours_7 : decode cX10_hours 7 = .ok (.sipush 1000, 3) := by decide +kernel
theorem dX10_hours_10 : decode cX10_hours 10 = .ok (.invokestatic 263, 3) := by decide +kernel
theorem dX10_hours_13 : decode cX10_hours 13 = .ok (.ifCond .ne 5, 3) := by decide +kernel
theorem dX10_hours_16 : decode cX10_hours 16 = .ok (.iconst (-1), 1) := by decide +kernel
theorem dX10_hours_17 : decode cX10_hours 17 = .ok (.ireturn, 1) := by decide +kernel
theorem dX10_hours_18 : decode cX10_hours 18 = .ok (.iconst 0, 1) := by decide +kernel
theorem dX10_hours_19 : decode cX10_hours 19 = .ok (.istore_n 2, 1) := by decide +kernel
theorem dX10_hours_20 : decode cX10_hours 20 = .ok (.iload_n 2, 1) := by decide +kernel
theorem dX10_hours_21 : decode cX10_hours 21 = .ok (.iload_n 1, 1) := by decide +kernel
theorem dX10_hours_22 : decode cX10_hours 22 = .ok (.if_icmp .ge 14, 3) := by decide +kernel
theorem dX10_hours_25 : decode cX10_hours 25 = .ok (.aload_n 0, 1) := by decide +kernel
theorem dX10_hours_26 : decode cX10_hours 26 = .ok (.iconst 0, 1) := by decide +kernel
theorem dX10_hours_27 : decode cX10_hours 27 = .ok (.invokevirtual 393, 3) := by decide +kernel
theorem dX10_hours_30 : decode cX10_hours 30 = .ok (.iinc 2 1, 3) := by decide +kernel
theorem dX10_hours_33 : decode cX10_hours 33 = .ok (.goto (-13), 3) := by decide +kernel
theorem dX10_hours_36 : decode cX10_hours 36 = .ok (.aload_n 0, 1) := by decide +kernel
theorem dX10_hours_37 : decode cX10_hours 37 = .ok (.getfield 108, 3) := by decide +kernel
theorem dX10_hours_40 : decode cX10_hours 40 = .ok (.bipush 80, 2) := by decide +kernel
theorem dX10_hours_42 : decode cX10_hours 42 = .ok (.iaload, 1) := by decide +kernel
theorem dX10_hours_43 : decode cX10_hours 43 = .ok (.ireturn, 1) := by decide +kernel
theorem dX10_isSome_0 : decode cX10_isSome 0 = .ok (.iload_n 0, 1) := by decide +kernel
theorem dX10_isSome_1 : decode cX10_isSome 1 = .ok (.iconst 1, 1) := by decide +kernel
theorem dX10_isSome_2 : decode cX10_isSome 2 = .ok (.sipush 240, 3) := by decide +kernel
theorem dX10_isSome_5 : decode cX10_isSome 5 = .ok (.invokestatic 263, 3) := by decide +kernel
theorem dX10_isSome_8 : decode cX10_isSome 8 = .ok (.ireturn, 1) := by decide +kernel
theorem dX10_soons_0 : decode cX10_soons 0 = .ok (.aload_n 0, 1) := by decide +kernel
theorem dX10_soons_1 : decode cX10_soons 1 = .ok (.getfield 108, 3) := by decide +kernel
theorem dX10_soons_4 : decode cX10_soons 4 = .ok (.iconst 0, 1) := by decide +kernel
theorem dX10_soons_5 : decode cX10_soons 5 = .ok (.aload_n 0, 1) := by decide +kernel
theorem dX10_soons_6 : decode cX10_soons 6 = .ok (.getfield 111, 3) := by decide +kernel
theorem dX10_soons_9 : decode cX10_soons 9 = .ok (.iconst 0, 1) := by decide +kernel
theorem dX10_soons_10 : decode cX10_soons 10 = .ok (.invokestatic 396, 3) := by decide +kernel
theorem dX10_soons_13 : decode cX10_soons 13 = .ok (.iconst 0, 1) := by decide +kernel
theorem dX10_soons_14 : decode cX10_soons 14 = .ok (.istore_n 2, 1) := by decide +kernel
theorem dX10_soons_15 : decode cX10_soons 15 = .ok (.iload_n 2, 1) := by decide +kernel
theorem dX10_soons_16 : decode cX10_soons 16 = .ok (.bipush 10, 2) := by decide +kernel
theorem dX10_soons_18 : decode cX10_soons 18 = .ok (.if_icmp .ge 16, 3) := by decide +kernel
theorem dX10_soons_21 : decode cX10_soons 21 = .ok (.aload_n 0, 1) := by decide +kernel
theorem dX10_soons_22 : decode cX10_soons 22 = .ok (.getfield 120, 3) := by decide +kernel
theorem dX10_soons_25 : decode cX10_soons 25 = .ok (.iload_n 2, 1) := by decide +kernel
theorem dX10_soons_26 : decode cX10_soons 26 = .ok (.iconst (-1), 1) := by decide +kernel
theorem dX10_soons_27 : decode cX10_soons 27 = .ok (.iastore, 1) := by decide +kernel
theorem dX10_soons_28 : decode cX10_soons 28 = .ok (.iinc 2 1, 3) := by decide +kernel
theorem dX10_soons_31 : decode cX10_soons 31 = .ok (.goto (-16), 3) := by decide +kernel
theorem dX10_soons_34 : decode cX10_soons 34 = .ok (.iconst 0, 1) := by decide +kernel
theorem dX10_soons_35 : decode cX10_soons 35 = .ok (.istore_n 2, 1) := by decide +kernel
theorem dX10_soons_36 : decode cX10_soons 36 = .ok (.iload_n 2, 1) := by decide +kernel
theorem dX10_soons_37 : decode cX10_soons 37 = .ok (.iload_n 1, 1) := by decide +kernel
theorem dX10_soons_38 : decode cX10_soons 38 = .ok (.if_icmp .gt 57, 3) := by decide +kernel
theorem dX10_soons_41 : decode cX10_soons 41 = .ok (.iconst 0, 1) := by decide +kernel
theorem dX10_soons_42 : decode cX10_soons 42 = .ok (.istore_n 3, 1) := by decide +kernel
theorem dX10_soons_43 : decode cX10_soons 43 = .ok (.iload_n 3, 1) := by decide +kernel
theorem dX10_soons_44 : decode cX10_soons 44 = .ok (.aload_n 0, 1) := by decide +kernel
theorem dX10_soons_45 : decode cX10_soons 45 = .ok (.getfield 16, 3) := by decide +kernel
theorem dX10_soons_48 : decode cX10_soons 48 = .ok (.iconst 0, 1) := by decide +kernel
theorem dX10_soons_49 : decode cX10_soons 49 = .ok (.iaload, 1) := by decide +kernel
theorem dX10_soons_50 : decode cX10_soons 50 = .ok (.if_icmp .ge 34, 3) := by decide +kernel
theorem dX10_soons_53 : decode cX10_soons 53 = .ok (.aload_n 0, 1) := by decide +kernel
theorem dX10_soons_54 : decode cX10_soons 54 = .ok (.getfield 108, 3) := by decide +kernel
theorem dX10_soons_57 : decode cX10_soons 57 = .ok (.iload_n 3, 1) := by decide +kernel
theorem dX10_soons_58 : decode cX10_soons 58 = .ok (.iaload, 1) := by decide +kernel
theorem dX10_soons_59 : decode cX10_soons 59 = .ok (.ifCond .ne 19, 3) := by decide +kernel
theorem dX10_soons_62 : decode cX10_soons 62 = .ok (.aload_n 0, 1) := by decide +kernel
theorem dX10_soons_63 : decode cX10_soons 63 = .ok (.getfield 120, 3) := by decide +kernel
theorem dX10_soons_66 : decode cX10_soons 66 = .ok (.iload_n 3, 1) := by decide +kernel
theorem dX10_soons_67 : decode cX10_soons 67 = .ok (.iaload, 1) := by decide +kernel
theorem dX10_soons_68 : decode cX10_soons 68 = .ok (.ifCond .ge 10, 3) := by decide +kernel
theorem dX10_soons_71 : decode cX10_soons 71 = .ok (.aload_n 0, 1) := by decide +kernel
theorem dX10_soons_72 : decode cX10_soons 72 = .ok (.getfield 120, 3) := by decide +kernel
theorem dX10_soons_75 : decode cX10_soons 75 = .ok (.iload_n 3, 1) := by decide +kernel
theorem dX10_soons_76 : decode cX10_soons 76 = .ok (.iload_n 2, 1) := by decide +kernel
theorem dX10_soons_77 : decode cX10_soons 77 = .ok (.iastore, 1) := by decide +kernel
theorem dX10_soons_78 : decode cX10_soons 78 = .ok (.iinc 3 1, 3) := by decide +kernel
theorem dX10_soons_81 : decode cX10_soons 81 = .ok (.goto (-38), 3) := by decide +kernel
theorem dX10_soons_84 : decode cX10_soons 84 = .ok (.aload_n 0, 1) := by decide +kernel
theorem dX10_soons_85 : decode cX10_soons 85 = .ok (.iconst 0, 1) := by decide +kernel
theorem dX10_soons_86 : decode cX10_soons 86 = .ok (.invokevirtual 393, 3) := by decide +kernel
theorem dX10_soons_89 : decode cX10_soons 89 = .ok (.iinc 2 1, 3) := by decide +kernel
theorem dX10_soons_92 : decode cX10_soons 92 = .ok (.goto (-56), 3) := by decide +kernel
theorem dX10_soons_95 : decode cX10_soons 95 = .ok (.aload_n 0, 1) := by decide +kernel
theorem dX10_soons_96 : decode cX10_soons 96 = .ok (.getfield 111, 3) := by decide +kernel
theorem dX10_soons_99 : decode cX10_soons 99 = .ok (.iconst 0, 1) := by decide +kernel
theorem dX10_soons_100 : decode cX10_soons 100 = .ok (.aload_n 0, 1) := by decide +kernel
theorem dX10_soons_101 : decode cX10_soons 101 = .ok (.getfield 108, 3) := by decide +kernel
theorem dX10_soons_104 : decode cX10_soons 104 = .ok (.iconst 0, 1) := by decide +kernel
theorem dX10_soons_105 : decode cX10_soons 105 = .ok (.invokestatic 396, 3) := by decide +kernel
theorem dX10_soons_108 : decode cX10_soons 108 = .ok (.return_, 1) := by decide +kernel
theorem dX10_soon_0 : decode cX10_soon 0 = .ok (.aload_n 0, 1) := by decide +kernel
theorem dX10_soon_1 : decode cX10_soon 1 = .ok (.iconst 0, 1) := by decide +kernel
theorem dX10_soon_2 : decode cX10_soon 2 = .ok (.putfield 135, 3) := by decide +kernel
theorem dX10_soon_5 : decode cX10_soon 5 = .ok (.aload_n 0, 1) := by decide +kernel
theorem dX10_soon_6 : decode cX10_soon 6 = .ok (.iload_n 1, 1) := by decide +kernel
theorem dX10_soon_7 : decode cX10_soon 7 = .ok (.invokevirtual 337, 3) := by decide +kernel
theorem dX10_soon_10 : decode cX10_soon 10 = .ok (.ifCond .eq 10, 3) := by decide +kernel
theorem dX10_soon_13 : decode cX10_soon 13 = .ok (.iload_n 2, 1) := by decide +kernel
theorem dX10_soon_14 : decode cX10_soon 14 = .ok (.invokestatic 400, 3) := by decide +kernel
theorem dX10_soon_17 : decode cX10_soon 17 = .ok (.ifCond .ne 5, 3) := by decide +kernel
theorem dX10_soon_20 : decode cX10_soon 20 = .ok (.iconst (-1), 1) := by decide +kernel
theorem dX10_soon_21 : decode cX10_soon 21 = .ok (.ireturn, 1) := by decide +kernel
theorem dX10_soon_22 : decode cX10_soon 22 = .ok (.aload_n 0, 1) := by decide +kernel
theorem dX10_soon_23 : decode cX10_soon 23 = .ok (.iload_n 2, 1) := by decide +kernel
theorem dX10_soon_24 : decode cX10_soon 24 = .ok (.invokevirtual 403, 3) := by decide +kernel
theorem dX10_soon_27 : decode cX10_soon 27 = .ok (.aload_n 0, 1) := by decide +kernel
theorem dX10_soon_28 : decode cX10_soon 28 = .ok (.getfield 120, 3) := by decide +kernel
theorem dX10_soon_31 : decode cX10_soon 31 = .ok (.iload_n 1, 1) := by decide +kernel
theorem dX10_soon_32 : decode cX10_soon 32 = .ok (.iaload, 1) := by decide +kernel
theorem dX10_soon_33 : decode cX10_soon 33 = .ok (.ireturn, 1) := by decide +kernel
theorem dX10_holds_0 : decode cX10_holds 0 = .ok (.aload_n 0, 1) := by decide +kernel
theorem dX10_holds_1 : decode cX10_holds 1 = .ok (.getfield 108, 3) := by decide +kernel
theorem dX10_holds_4 : decode cX10_holds 4 = .ok (.iconst 0, 1) := by decide +kernel
theorem dX10_holds_5 : decode cX10_holds 5 = .ok (.aload_n 0, 1) := by decide +kernel
theorem dX10_holds_6 : decode cX10_holds 6 = .ok (.getfield 111, 3) := by decide +kernel
theorem dX10_holds_9 : decode cX10_holds 9 = .ok (.iconst 0, 1) := by decide +kernel
theorem dX10_holds_10 : decode cX10_holds 10 = .ok (.invokestatic 396, 3) := by decide +kernel
theorem dX10_holds_13 : decode cX10_holds 13 = .ok (.aload_n 0, 1) := by decide +kernel
theorem dX10_holds_14 : decode cX10_holds 14 = .ok (.iload_n 1, 1) := by decide +kernel
theorem dX10_holds_15 : decode cX10_holds 15 = .ok (.iload_n 2, 1) := by decide +kernel
theorem dX10_holds_16 : decode cX10_holds 16 = .ok (.invokevirtual 355, 3) := by decide +kernel
theorem dX10_holds_19 : decode cX10_holds 19 = .ok (.pop, 1) := by decide +kernel
theorem dX10_holds_20 : decode cX10_holds 20 = .ok (.iconst 1, 1) := by decide +kernel
theorem dX10_holds_21 : decode cX10_holds 21 = .ok (.istore 4, 2) := by decide +kernel
theorem dX10_holds_23 : decode cX10_holds 23 = .ok (.iconst 0, 1) := by decide +kernel
theorem dX10_holds_24 : decode cX10_holds 24 = .ok (.istore 5, 2) := by decide +kernel
theorem dX10_holds_26 : decode cX10_holds 26 = .ok (.iload 5, 2) := by decide +kernel
theorem dX10_holds_28 : decode cX10_holds 28 = .ok (.iload_n 3, 1) := by decide +kernel
theorem dX10_holds_29 : decode cX10_holds 29 = .ok (.if_icmp .ge 35, 3) := by decide +kernel
theorem dX10_holds_32 : decode cX10_holds 32 = .ok (.iload 4, 2) := by decide +kernel
theorem dX10_holds_34 : decode cX10_holds 34 = .ok (.ifCond .eq 30, 3) := by decide +kernel
theorem dX10_holds_37 : decode cX10_holds 37 = .ok (.aload_n 0, 1) := by decide +kernel
theorem dX10_holds_38 : decode cX10_holds 38 = .ok (.iconst 0, 1) := by decide +kernel
