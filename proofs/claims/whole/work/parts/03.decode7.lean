theorem dX10_holds_39 : decode cX10_holds 39 = .ok (.invokevirtual 393, 3) := by decide +kernel
theorem dX10_holds_42 : decode cX10_holds 42 = .ok (.aload_n 0, 1) := by decide +kernel
theorem dX10_holds_43 : decode cX10_holds 43 = .ok (.getfield 108, 3) := by decide +kernel
theorem dX10_holds_46 : decode cX10_holds 46 = .ok (.iload_n 1, 1) := by decide +kernel
theorem dX10_holds_47 : decode cX10_holds 47 = .ok (.iaload, 1) := by decide +kernel
theorem dX10_holds_48 : decode cX10_holds 48 = .ok (.ifCond .le 7, 3) := by decide +kernel
theorem dX10_holds_51 : decode cX10_holds 51 = .ok (.iconst 1, 1) := by decide +kernel
theorem dX10_holds_52 : decode cX10_holds 52 = .ok (.goto 4, 3) := by decide +kernel
theorem dX10_holds_55 : decode cX10_holds 55 = .ok (.iconst 0, 1) := by decide +kernel
theorem dX10_holds_56 : decode cX10_holds 56 = .ok (.istore 4, 2) := by decide +kernel
theorem dX10_holds_58 : decode cX10_holds 58 = .ok (.iinc 5 1, 3) := by decide +kernel
theorem dX10_holds_61 : decode cX10_holds 61 = .ok (.goto (-35), 3) := by decide +kernel
theorem dX10_holds_64 : decode cX10_holds 64 = .ok (.aload_n 0, 1) := by decide +kernel
theorem dX10_holds_65 : decode cX10_holds 65 = .ok (.getfield 111, 3) := by decide +kernel
theorem dX10_holds_68 : decode cX10_holds 68 = .ok (.iconst 0, 1) := by decide +kernel
theorem dX10_holds_69 : decode cX10_holds 69 = .ok (.aload_n 0, 1) := by decide +kernel
theorem dX10_holds_70 : decode cX10_holds 70 = .ok (.getfield 108, 3) := by decide +kernel
theorem dX10_holds_73 : decode cX10_holds 73 = .ok (.iconst 0, 1) := by decide +kernel
theorem dX10_holds_74 : decode cX10_holds 74 = .ok (.invokestatic 396, 3) := by decide +kernel
theorem dX10_holds_77 : decode cX10_holds 77 = .ok (.iload 4, 2) := by decide +kernel
theorem dX10_holds_79 : decode cX10_holds 79 = .ok (.ireturn, 1) := by decide +kernel
theorem dX10_needs_0 : decode cX10_needs 0 = .ok (.aload_n 0, 1) := by decide +kernel
theorem dX10_needs_1 : decode cX10_needs 1 = .ok (.iconst 0, 1) := by decide +kernel
theorem dX10_needs_2 : decode cX10_needs 2 = .ok (.putfield 135, 3) := by decide +kernel
theorem dX10_needs_5 : decode cX10_needs 5 = .ok (.aload_n 0, 1) := by decide +kernel
theorem dX10_needs_6 : decode cX10_needs 6 = .ok (.iload_n 1, 1) := by decide +kernel
theorem dX10_needs_7 : decode cX10_needs 7 = .ok (.invokevirtual 337, 3) := by decide +kernel
theorem dX10_needs_10 : decode cX10_needs 10 = .ok (.ifCond .eq 10, 3) := by decide +kernel
theorem dX10_needs_13 : decode cX10_needs 13 = .ok (.iload_n 2, 1) := by decide +kernel
theorem dX10_needs_14 : decode cX10_needs 14 = .ok (.invokestatic 400, 3) := by decide +kernel
theorem dX10_needs_17 : decode cX10_needs 17 = .ok (.ifCond .ne 5, 3) := by decide +kernel
theorem dX10_needs_20 : decode cX10_needs 20 = .ok (.iconst (-1), 1) := by decide +kernel
theorem dX10_needs_21 : decode cX10_needs 21 = .ok (.ireturn, 1) := by decide +kernel
theorem dX10_needs_22 : decode cX10_needs 22 = .ok (.bipush 99, 2) := by decide +kernel
theorem dX10_needs_24 : decode cX10_needs 24 = .ok (.aload_n 0, 1) := by decide +kernel
theorem dX10_needs_25 : decode cX10_needs 25 = .ok (.getfield 108, 3) := by decide +kernel
theorem dX10_needs_28 : decode cX10_needs 28 = .ok (.iload_n 1, 1) := by decide +kernel
theorem dX10_needs_29 : decode cX10_needs 29 = .ok (.iaload, 1) := by decide +kernel
theorem dX10_needs_30 : decode cX10_needs 30 = .ok (.isub, 1) := by decide +kernel
theorem dX10_needs_31 : decode cX10_needs 31 = .ok (.aload_n 0, 1) := by decide +kernel
theorem dX10_needs_32 : decode cX10_needs 32 = .ok (.getfield 108, 3) := by decide +kernel
theorem dX10_needs_35 : decode cX10_needs 35 = .ok (.bipush 10, 2) := by decide +kernel
theorem dX10_needs_37 : decode cX10_needs 37 = .ok (.iload_n 1, 1) := by decide +kernel
theorem dX10_needs_38 : decode cX10_needs 38 = .ok (.iadd, 1) := by decide +kernel
theorem dX10_needs_39 : decode cX10_needs 39 = .ok (.iaload, 1) := by decide +kernel
theorem dX10_needs_40 : decode cX10_needs 40 = .ok (.isub, 1) := by decide +kernel
theorem dX10_needs_41 : decode cX10_needs 41 = .ok (.istore_n 3, 1) := by decide +kernel
theorem dX10_needs_42 : decode cX10_needs 42 = .ok (.iconst 0, 1) := by decide +kernel
theorem dX10_needs_43 : decode cX10_needs 43 = .ok (.istore 4, 2) := by decide +kernel
theorem dX10_needs_45 : decode cX10_needs 45 = .ok (.iload 4, 2) := by decide +kernel
theorem dX10_needs_47 : decode cX10_needs 47 = .ok (.iload_n 3, 1) := by decide +kernel
theorem dX10_needs_48 : decode cX10_needs 48 = .ok (.if_icmp .gt 23, 3) := by decide +kernel
theorem dX10_needs_51 : decode cX10_needs 51 = .ok (.aload_n 0, 1) := by decide +kernel
theorem dX10_needs_52 : decode cX10_needs 52 = .ok (.iload_n 1, 1) := by decide +kernel
theorem dX10_needs_53 : decode cX10_needs 53 = .ok (.iload 4, 2) := by decide +kernel
theorem dX10_needs_55 : decode cX10_needs 55 = .ok (.iload_n 2, 1) := by decide +kernel
theorem dX10_needs_56 : decode cX10_needs 56 = .ok (.invokevirtual 406, 3) := by decide +kernel
theorem dX10_needs_59 : decode cX10_needs 59 = .ok (.ifCond .eq 6, 3) := by decide +kernel
theorem dX10_needs_62 : decode cX10_needs 62 = .ok (.iload 4, 2) := by decide +kernel
theorem dX10_needs_64 : decode cX10_needs 64 = .ok (.ireturn, 1) := by decide +kernel
theorem dX10_needs_65 : decode cX10_needs 65 = .ok (.iinc 4 1, 3) := by decide +kernel
theorem dX10_needs_68 : decode cX10_needs 68 = .ok (.goto (-23), 3) := by decide +kernel
theorem dX10_needs_71 : decode cX10_needs 71 = .ok (.iconst (-1), 1) := by decide +kernel
theorem dX10_needs_72 : decode cX10_needs 72 = .ok (.ireturn, 1) := by decide +kernel
theorem dX10_orders_0 : decode cX10_orders 0 = .ok (.aload_n 0, 1) := by decide +kernel
theorem dX10_orders_1 : decode cX10_orders 1 = .ok (.iload_n 1, 1) := by decide +kernel
theorem dX10_orders_2 : decode cX10_orders 2 = .ok (.invokevirtual 403, 3) := by decide +kernel
theorem dX10_orders_5 : decode cX10_orders 5 = .ok (.iconst 0, 1) := by decide +kernel
theorem dX10_orders_6 : decode cX10_orders 6 = .ok (.istore_n 2, 1) := by decide +kernel
theorem dX10_orders_7 : decode cX10_orders 7 = .ok (.iconst 0, 1) := by decide +kernel
theorem dX10_orders_8 : decode cX10_orders 8 = .ok (.istore_n 3, 1) := by decide +kernel
theorem dX10_orders_9 : decode cX10_orders 9 = .ok (.iload_n 3, 1) := by decide +kernel
theorem dX10_orders_10 : decode cX10_orders 10 = .ok (.iload_n 1, 1) := by decide +kernel
theorem dX10_orders_11 : decode cX10_orders 11 = .ok (.iconst 1, 1) := by decide +kernel
theorem dX10_orders_12 : decode cX10_orders 12 = .ok (.iadd, 1) := by decide +kernel
theorem dX10_orders_13 : decode cX10_orders 13 = .ok (.if_icmp .gt 63, 3) := by decide +kernel
theorem dX10_orders_16 : decode cX10_orders 16 = .ok (.iconst 0, 1) := by decide +kernel
theorem dX10_orders_17 : decode cX10_orders 17 = .ok (.istore 4, 2) := by decide +kernel
theorem dX10_orders_19 : decode cX10_orders 19 = .ok (.iload 4, 2) := by decide +kernel
theorem dX10_orders_21 : decode cX10_orders 21 = .ok (.aload_n 0, 1) := by decide +kernel
theorem dX10_orders_22 : decode cX10_orders 22 = .ok (.getfield 16, 3) := by decide +kernel
theorem dX10_orders_25 : decode cX10_orders 25 = .ok (.iconst 0, 1) := by decide +kernel
theorem dX10_orders_26 : decode cX10_orders 26 = .ok (.iaload, 1) := by decide +kernel
theorem dX10_orders_27 : decode cX10_orders 27 = .ok (.if_icmp .ge 43, 3) := by decide +kernel
theorem dX10_orders_30 : decode cX10_orders 30 = .ok (.iload_n 3, 1) := by decide +kernel
theorem dX10_orders_31 : decode cX10_orders 31 = .ok (.iload_n 1, 1) := by decide +kernel
theorem dX10_orders_32 : decode cX10_orders 32 = .ok (.if_icmp .le 7, 3) := by decide +kernel
theorem dX10_orders_35 : decode cX10_orders 35 = .ok (.iconst (-1), 1) := by decide +kernel
theorem dX10_orders_36 : decode cX10_orders 36 = .ok (.goto 4, 3) := by decide +kernel
theorem dX10_orders_39 : decode cX10_orders 39 = .ok (.iload_n 3, 1) := by decide +kernel
theorem dX10_orders_40 : decode cX10_orders 40 = .ok (.aload_n 0, 1) := by decide +kernel
theorem dX10_orders_41 : decode cX10_orders 41 = .ok (.getfield 120, 3) := by decide +kernel
theorem dX10_orders_44 : decode cX10_orders 44 = .ok (.iload 4, 2) := by decide +kernel
theorem dX10_orders_46 : decode cX10_orders 46 = .ok (.iaload, 1) := by decide +kernel
theorem dX10_orders_47 : decode cX10_orders 47 = .ok (.if_icmp .eq 6, 3) := by decide +kernel
theorem dX10_orders_50 : decode cX10_orders 50 = .ok (.goto 14, 3) := by decide +kernel
theorem dX10_orders_53 : decode cX10_orders 53 = .ok (.aload_n 0, 1) := by decide +kernel
theorem dX10_orders_54 : decode cX10_orders 54 = .ok (.getfield 123, 3) := by decide +kernel
theorem dX10_orders_57 : decode cX10_orders 57 = .ok (.iload_n 2, 1) := by decide +kernel
theorem dX10_orders_58 : decode cX10_orders 58 = .ok (.iload 4, 2) := by decide +kernel
theorem dX10_orders_60 : decode cX10_orders 60 = .ok (.iastore, 1) := by decide +kernel
theorem dX10_orders_61 : decode cX10_orders 61 = .ok (.iinc 2 1, 3) := by decide +kernel
theorem dX10_orders_64 : decode cX10_orders 64 = .ok (.iinc 4 1, 3) := by decide +kernel
theorem dX10_orders_67 : decode cX10_orders 67 = .ok (.goto (-48), 3) := by decide +kernel
theorem dX10_orders_70 : decode cX10_orders 70 = .ok (.iinc 3 1, 3) := by decide +kernel
theorem dX10_orders_73 : decode cX10_orders 73 = .ok (.goto (-64), 3) := by decide +kernel
theorem dX10_orders_76 : decode cX10_orders 76 = .ok (.return_, 1) := by decide +kernel
theorem dX10_first_0 : decode cX10_first 0 = .ok (.aload_n 0, 1) := by decide +kernel
theorem dX10_first_1 : decode cX10_first 1 = .ok (.iconst 0, 1) := by decide +kernel
theorem dX10_first_2 : decode cX10_first 2 = .ok (.putfield 135, 3) := by decide +kernel
theorem dX10_first_5 : decode cX10_first 5 = .ok (.iload_n 1, 1) := by decide +kernel
theorem dX10_first_6 : decode cX10_first 6 = .ok (.invokestatic 400, 3) := by decide +kernel
theorem dX10_first_9 : decode cX10_first 9 = .ok (.ifCond .eq 11, 3) := by decide +kernel
theorem dX10_first_12 : decode cX10_first 12 = .ok (.aload_n 0, 1) := by decide +kernel
theorem dX10_first_13 : decode cX10_first 13 = .ok (.iload_n 2, 1) := by decide +kernel
theorem dX10_first_14 : decode cX10_first 14 = .ok (.invokevirtual 337, 3) := by decide +kernel
theorem dX10_first_17 : decode cX10_first 17 = .ok (.ifCond .ne 5, 3) := by decide +kernel
theorem dX10_first_20 : decode cX10_first 20 = .ok (.iconst (-1), 1) := by decide +kernel
theorem dX10_first_21 : decode cX10_first 21 = .ok (.ireturn, 1) := by decide +kernel
theorem dX10_first_22 : decode cX10_first 22 = .ok (.aload_n 0, 1) := by decide +kernel
theorem dX10_first_23 : decode cX10_first 23 = .ok (.iload_n 1, 1) := by decide +kernel
theorem dX10_first_24 : decode cX10_first 24 = .ok (.invokevirtual 409, 3) := by decide +kernel
theorem dX10_first_27 : decode cX10_first 27 = .ok (.aload_n 0, 1) := by decide +kernel
theorem dX10_first_28 : decode cX10_first 28 = .ok (.getfield 123, 3) := by decide +kernel
theorem dX10_first_31 : decode cX10_first 31 = .ok (.iload_n 2, 1) := by decide +kernel
theorem dX10_first_32 : decode cX10_first 32 = .ok (.iaload, 1) := by decide +kernel
theorem dX10_first_33 : decode cX10_first 33 = .ok (.ireturn, 1) := by decide +kernel
theorem dX10_enough_0 : decode cX10_enough 0 = .ok (.aload_n 0, 1) := by decide +kernel
theorem dX10_enough_1 : decode cX10_enough 1 = .ok (.iconst 0, 1) := by decide +kernel
theorem dX10_enough_2 : decode cX10_enough 2 = .ok (.putfield 135, 3) := by decide +kernel
theorem dX10_enough_5 : decode cX10_enough 5 = .ok (.iload_n 1, 1) := by decide +kernel
theorem dX10_enough_6 : decode cX10_enough 6 = .ok (.iconst 0, 1) := by decide +kernel
theorem dX10_enough_7 : decode cX10_enough 7 = .ok (.bipush 99, 2) := by decide +kernel
theorem dX10_enough_9 : decode cX10_enough 9 = .ok (.invokestatic 263, 3) := by decide +kernel
theorem dX10_enough_12 : decode cX10_enough 12 = .ok (.ifCond .eq 10, 3) := by decide +kernel
theorem dX10_enough_15 : decode cX10_enough 15 = .ok (.iload_n 2, 1) := by decide +kernel
theorem dX10_enough_16 : decode cX10_enough 16 = .ok (.invokestatic 400, 3) := by decide +kernel
theorem dX10_enough_19 : decode cX10_enough 19 = .ok (.ifCond .ne 5, 3) := by decide +kernel
theorem dX10_enough_22 : decode cX10_enough 22 = .ok (.iconst (-1), 1) := by decide +kernel
theorem dX10_enough_23 : decode cX10_enough 23 = .ok (.ireturn, 1) := by decide +kernel
theorem dX10_enough_24 : decode cX10_enough 24 = .ok (.aload_n 0, 1) := by decide +kernel
theorem dX10_enough_25 : decode cX10_enough 25 = .ok (.iload_n 2, 1) := by decide +kernel
theorem dX10_enough_26 : decode cX10_enough 26 = .ok (.invokevirtual 409, 3) := by decide +kernel
theorem dX10_enough_29 : decode cX10_enough 29 = .ok (.aload_n 0, 1) := by decide +kernel
theorem dX10_enough_30 : decode cX10_enough 30 = .ok (.getfield 108, 3) := by decide +kernel
theorem dX10_enough_33 : decode cX10_enough 33 = .ok (.iconst 0, 1) := by decide +kernel
theorem dX10_enough_34 : decode cX10_enough 34 = .ok (.aload_n 0, 1) := by decide +kernel
theorem dX10_enough_35 : decode cX10_enough 35 = .ok (.getfield 111, 3) := by decide +kernel
theorem dX10_enough_38 : decode cX10_enough 38 = .ok (.iconst 0, 1) := by decide +kernel
theorem dX10_enough_39 : decode cX10_enough 39 = .ok (.invokestatic 396, 3) := by decide +kernel
theorem dX10_enough_42 : decode cX10_enough 42 = .ok (.iconst 1, 1) := by decide +kernel
theorem dX10_enough_43 : decode cX10_enough 43 = .ok (.istore_n 3, 1) := by decide +kernel
theorem dX10_enough_44 : decode cX10_enough 44 = .ok (.iconst 0, 1) := by decide +kernel
theorem dX10_enough_45 : decode cX10_enough 45 = .ok (.istore 4, 2) := by decide +kernel
theorem dX10_enough_47 : decode cX10_enough 47 = .ok (.iload 4, 2) := by decide +kernel
theorem dX10_enough_49 : decode cX10_enough 49 = .ok (.iload_n 2, 1) := by decide +kernel
theorem dX10_enough_50 : decode cX10_enough 50 = .ok (.if_icmp .ge 74, 3) := by decide +kernel
theorem dX10_enough_53 : decode cX10_enough 53 = .ok (.iload 4, 2) := by decide +kernel
theorem dX10_enough_55 : decode cX10_enough 55 = .ok (.aload_n 0, 1) := by decide +kernel
theorem dX10_enough_56 : decode cX10_enough 56 = .ok (.getfield 16, 3) := by decide +kernel
theorem dX10_enough_59 : decode cX10_enough 59 = .ok (.iconst 0, 1) := by decide +kernel
theorem dX10_enough_60 : decode cX10_enough 60 = .ok (.iaload, 1) := by decide +kernel
theorem dX10_enough_61 : decode cX10_enough 61 = .ok (.if_icmp .ge 16, 3) := by decide +kernel
theorem dX10_enough_64 : decode cX10_enough 64 = .ok (.aload_n 0, 1) := by decide +kernel
theorem dX10_enough_65 : decode cX10_enough 65 = .ok (.aload_n 0, 1) := by decide +kernel
theorem dX10_enough_66 : decode cX10_enough 66 = .ok (.getfield 123, 3) := by decide +kernel
theorem dX10_enough_69 : decode cX10_enough 69 = .ok (.iload 4, 2) := by decide +kernel
theorem dX10_enough_71 : decode cX10_enough 71 = .ok (.iaload, 1) := by decide +kernel
theorem dX10_enough_72 : decode cX10_enough 72 = .ok (.iload_n 1, 1) := by decide +kernel
theorem dX10_enough_73 : decode cX10_enough 73 = .ok (.invokevirtual 355, 3) := by decide +kernel
theorem dX10_enough_76 : decode cX10_enough 76 = .ok (.pop, 1) := by decide +kernel
theorem dX10_enough_77 : decode cX10_enough 77 = .ok (.aload_n 0, 1) := by decide +kernel
theorem dX10_enough_78 : decode cX10_enough 78 = .ok (.iconst 0, 1) := by decide +kernel
theorem dX10_enough_79 : decode cX10_enough 79 = .ok (.invokevirtual 393, 3) := by decide +kernel
theorem dX10_enough_82 : decode cX10_enough 82 = .ok (.iconst 0, 1) := by decide +kernel
theorem dX10_enough_83 : decode cX10_enough 83 = .ok (.istore 5, 2) := by decide +kernel
theorem dX10_enough_85 : decode cX10_enough 85 = .ok (.iload 5, 2) := by decide +kernel
theorem dX10_enough_87 : decode cX10_enough 87 = .ok (.aload_n 0, 1) := by decide +kernel
theorem dX10_enough_88 : decode cX10_enough 88 = .ok (.getfield 16, 3) := by decide +kernel
theorem dX10_enough_91 : decode cX10_enough 91 = .ok (.iconst 0, 1) := by decide +kernel
theorem dX10_enough_92 : decode cX10_enough 92 = .ok (.iaload, 1) := by decide +kernel
theorem dX10_enough_93 : decode cX10_enough 93 = .ok (.if_icmp .ge 25, 3) := by decide +kernel
theorem dX10_enough_96 : decode cX10_enough 96 = .ok (.aload_n 0, 1) := by decide +kernel
theorem dX10_enough_97 : decode cX10_enough 97 = .ok (.getfield 108, 3) := by decide +kernel
theorem dX10_enough_100 : decode cX10_enough 100 = .ok (.iload 5, 2) := by decide +kernel
theorem dX10_enough_102 : decode cX10_enough 102 = .ok (.iaload, 1) := by decide +kernel
theorem dX10_enough_103 : decode cX10_enough 103 = .ok (.ifCond .ne 7, 3) := by decide +kernel
theorem dX10_enough_106 : decode cX10_enough 106 = .ok (.iconst 0, 1) := by decide +kernel
theorem dX10_enough_107 : decode cX10_enough 107 = .ok (.goto 4, 3) := by decide +kernel
theorem dX10_enough_110 : decode cX10_enough 110 = .ok (.iload_n 3, 1) := by decide +kernel
theorem dX10_enough_111 : decode cX10_enough 111 = .ok (.istore_n 3, 1) := by decide +kernel
theorem dX10_enough_112 : decode cX10_enough 112 = .ok (.iinc 5 1, 3) := by decide +kernel
theorem dX10_enough_115 : decode cX10_enough 115 = .ok (.goto (-30), 3) := by decide +kernel
theorem dX10_enough_118 : decode cX10_enough 118 = .ok (.iinc 4 1, 3) := by decide +kernel
theorem dX10_enough_121 : decode cX10_enough 121 = .ok (.goto (-74), 3) := by decide +kernel
theorem dX10_enough_124 : decode cX10_enough 124 = .ok (.aload_n 0, 1) := by decide +kernel
theorem dX10_enough_125 : decode cX10_enough 125 = .ok (.getfield 111, 3) := by decide +kernel
theorem dX10_enough_128 : decode cX10_enough 128 = .ok (.iconst 0, 1) := by decide +kernel
theorem dX10_enough_129 : decode cX10_enough 129 = .ok (.aload_n 0, 1) := by decide +kernel
theorem dX10_enough_130 : decode cX10_enough 130 = .ok (.getfield 108, 3) := by decide +kernel
theorem dX10_enough_133 : decode cX10_enough 133 = .ok (.iconst 0, 1) := by decide +kernel
theorem dX10_enough_134 : decode cX10_enough 134 = .ok (.invokestatic 396, 3) := by decide +kernel
theorem dX10_enough_137 : decode cX10_enough 137 = .ok (.iload_n 3, 1) := by decide +kernel
theorem dX10_enough_138 : decode cX10_enough 138 = .ok (.ireturn, 1) := by decide +kernel
theorem dX10_tries_0 : decode cX10_tries 0 = .ok (.iload_n 1, 1) := by decide +kernel
theorem dX10_tries_1 : decode cX10_tries 1 = .ok (.ifCond .ge 78, 3) := by decide +kernel
theorem dX10_tries_4 : decode cX10_tries 4 = .ok (.aload_n 0, 1) := by decide +kernel
theorem dX10_tries_5 : decode cX10_tries 5 = .ok (.getfield 412, 3) := by decide +kernel
theorem dX10_tries_8 : decode cX10_tries 8 = .ok (.ifCond .lt 30, 3) := by decide +kernel
theorem dX10_tries_11 : decode cX10_tries 11 = .ok (.iload 4, 2) := by decide +kernel
theorem dX10_tries_13 : decode cX10_tries 13 = .ok (.aload_n 0, 1) := by decide +kernel
theorem dX10_tries_14 : decode cX10_tries 14 = .ok (.getfield 412, 3) := by decide +kernel
theorem dX10_tries_17 : decode cX10_tries 17 = .ok (.if_icmp .gt 20, 3) := by decide +kernel
theorem dX10_tries_20 : decode cX10_tries 20 = .ok (.iload 4, 2) := by decide +kernel
theorem dX10_tries_22 : decode cX10_tries 22 = .ok (.aload_n 0, 1) := by decide +kernel
theorem dX10_tries_23 : decode cX10_tries 23 = .ok (.getfield 412, 3) := by decide +kernel
theorem dX10_tries_26 : decode cX10_tries 26 = .ok (.if_icmp .ne 12, 3) := by decide +kernel
theorem dX10_tries_29 : decode cX10_tries 29 = .ok (.iload_n 3, 1) := by decide +kernel
theorem dX10_tries_30 : decode cX10_tries 30 = .ok (.aload_n 0, 1) := by decide +kernel
theorem dX10_tries_31 : decode cX10_tries 31 = .ok (.getfield 415, 3) := by decide +kernel
theorem dX10_tries_34 : decode cX10_tries 34 = .ok (.if_icmp .lt 4, 3) := by decide +kernel
theorem dX10_tries_37 : decode cX10_tries 37 = .ok (.return_, 1) := by decide +kernel
theorem dX10_tries_38 : decode cX10_tries 38 = .ok (.aload_n 0, 1) := by decide +kernel
theorem dX10_tries_39 : decode cX10_tries 39 = .ok (.iload 4, 2) := by decide +kernel
theorem dX10_tries_41 : decode cX10_tries 41 = .ok (.putfield 412, 3) := by decide +kernel
theorem dX10_tries_44 : decode cX10_tries 44 = .ok (.aload_n 0, 1) := by decide +kernel
theorem dX10_tries_45 : decode cX10_tries 45 = .ok (.iload_n 3, 1) := by decide +kernel
theorem dX10_tries_46 : decode cX10_tries 46 = .ok (.putfield 415, 3) := by decide +kernel
theorem dX10_tries_49 : decode cX10_tries 49 = .ok (.iconst 0, 1) := by decide +kernel
theorem dX10_tries_50 : decode cX10_tries 50 = .ok (.istore 5, 2) := by decide +kernel
theorem dX10_tries_52 : decode cX10_tries 52 = .ok (.iload 5, 2) := by decide +kernel
theorem dX10_tries_54 : decode cX10_tries 54 = .ok (.iload_n 3, 1) := by decide +kernel
theorem dX10_tries_55 : decode cX10_tries 55 = .ok (.if_icmp .ge 23, 3) := by decide +kernel
theorem dX10_tries_58 : decode cX10_tries 58 = .ok (.aload_n 0, 1) := by decide +kernel
theorem dX10_tries_59 : decode cX10_tries 59 = .ok (.getfield 126, 3) := by decide +kernel
theorem dX10_tries_62 : decode cX10_tries 62 = .ok (.iload 5, 2) := by decide +kernel
theorem dX10_tries_64 : decode cX10_tries 64 = .ok (.aload_n 0, 1) := by decide +kernel
theorem dX10_tries_65 : decode cX10_tries 65 = .ok (.getfield 129, 3) := by decide +kernel
theorem dX10_tries_68 : decode cX10_tries 68 = .ok (.iload 5, 2) := by decide +kernel
theorem dX10_tries_70 : decode cX10_tries 70 = .ok (.iaload, 1) := by decide +kernel
theorem dX10_tries_71 : decode cX10_tries 71 = .ok (.iastore, 1) := by decide +kernel
theorem dX10_tries_72 : decode cX10_tries 72 = .ok (.iinc 5 1, 3) := by decide +kernel
theorem dX10_tries_75 : decode cX10_tries 75 = .ok (.goto (-23), 3) := by decide +kernel
theorem dX10_tries_78 : decode cX10_tries 78 = .ok (.return_, 1) := by decide +kernel
theorem dX10_tries_79 : decode cX10_tries 79 = .ok (.iconst 0, 1) := by decide +kernel
theorem dX10_tries_80 : decode cX10_tries 80 = .ok (.istore 5, 2) := by decide +kernel
theorem dX10_tries_82 : decode cX10_tries 82 = .ok (.iload 5, 2) := by decide +kernel
theorem dX10_tries_84 : decode cX10_tries 84 = .ok (.aload_n 0, 1) := by decide +kernel
theorem dX10_tries_85 : decode cX10_tries 85 = .ok (.getfield 16, 3) := by decide +kernel
theorem dX10_tries_88 : decode cX10_tries 88 = .ok (.iconst 0, 1) := by decide +kernel
theorem dX10_tries_89 : decode cX10_tries 89 = .ok (.iaload, 1) := by decide +kernel
theorem dX10_tries_90 : decode cX10_tries 90 = .ok (.if_icmp .ge 89, 3) := by decide +kernel
theorem dX10_tries_93 : decode cX10_tries 93 = .ok (.aload_n 0, 1) := by decide +kernel
theorem dX10_tries_94 : decode cX10_tries 94 = .ok (.iload 5, 2) := by decide +kernel
theorem dX10_tries_96 : decode cX10_tries 96 = .ok (.iload_n 1, 1) := by decide +kernel
theorem dX10_tries_97 : decode cX10_tries 97 = .ok (.invokevirtual 361, 3) := by decide +kernel
theorem dX10_tries_100 : decode cX10_tries 100 = .ok (.istore 6, 2) := by decide +kernel
theorem dX10_tries_102 : decode cX10_tries 102 = .ok (.iload 6, 2) := by decide +kernel
theorem dX10_tries_104 : decode cX10_tries 104 = .ok (.bipush (-2), 2) := by decide +kernel
theorem dX10_tries_106 : decode cX10_tries 106 = .ok (.if_icmp .eq 67, 3) := by decide +kernel
theorem dX10_tries_109 : decode cX10_tries 109 = .ok (.iload 6, 2) := by decide +kernel
theorem dX10_tries_111 : decode cX10_tries 111 = .ok (.ifCond .lt 16, 3) := by decide +kernel
theorem dX10_tries_114 : decode cX10_tries 114 = .ok (.iload_n 2, 1) := by decide +kernel
theorem dX10_tries_115 : decode cX10_tries 115 = .ok (.iload 6, 2) := by decide +kernel
theorem dX10_tries_117 : decode cX10_tries 117 = .ok (.ishr, 1) := by decide +kernel
theorem dX10_tries_118 : decode cX10_tries 118 = .ok (.iconst 1, 1) := by decide +kernel
theorem dX10_tries_119 : decode cX10_tries 119 = .ok (.iand, 1) := by decide +kernel
theorem dX10_tries_120 : decode cX10_tries 120 = .ok (.iconst 1, 1) := by decide +kernel
theorem dX10_tries_121 : decode cX10_tries 121 = .ok (.if_icmp .ne 6, 3) := by decide +kernel
theorem dX10_tries_124 : decode cX10_tries 124 = .ok (.goto 49, 3) := by decide +kernel
theorem dX10_tries_127 : decode cX10_tries 127 = .ok (.aload_n 0, 1) := by decide +kernel
theorem dX10_tries_128 : decode cX10_tries 128 = .ok (.getfield 129, 3) := by decide +kernel
theorem dX10_tries_131 : decode cX10_tries 131 = .ok (.iload_n 3, 1) := by decide +kernel
theorem dX10_tries_132 : decode cX10_tries 132 = .ok (.iload 5, 2) := by decide +kernel
theorem dX10_tries_134 : decode cX10_tries 134 = .ok (.iastore, 1) := by decide +kernel
theorem dX10_tries_135 : decode cX10_tries 135 = .ok (.aload_n 0, 1) := by decide +kernel
theorem dX10_tries_136 : decode cX10_tries 136 = .ok (.iload 6, 2) := by decide +kernel
theorem dX10_tries_138 : decode cX10_tries 138 = .ok (.iload 6, 2) := by decide +kernel
theorem dX10_tries_140 : decode cX10_tries 140 = .ok (.ifCond .ge 7, 3) := by decide +kernel
theorem dX10_tries_143 : decode cX10_tries 143 = .ok (.iload_n 2, 1) := by decide +kernel
theorem dX10_tries_144 : decode cX10_tries 144 = .ok (.goto 9, 3) := by decide +kernel
theorem dX10_tries_147 : decode cX10_tries 147 = .ok (.iload_n 2, 1) := by decide +kernel
theorem dX10_tries_148 : decode cX10_tries 148 = .ok (.iconst 1, 1) := by decide +kernel
theorem dX10_tries_149 : decode cX10_tries 149 = .ok (.iload 6, 2) := by decide +kernel
theorem dX10_tries_151 : decode cX10_tries 151 = .ok (.ishl, 1) := by decide +kernel
theorem dX10_tries_152 : decode cX10_tries 152 = .ok (.ior, 1) := by decide +kernel
theorem dX10_tries_153 : decode cX10_tries 153 = .ok (.iload_n 3, 1) := by decide +kernel
theorem dX10_tries_154 : decode cX10_tries 154 = .ok (.iconst 1, 1) := by decide +kernel
theorem dX10_tries_155 : decode cX10_tries 155 = .ok (.iadd, 1) := by decide +kernel
theorem dX10_tries_156 : decode cX10_tries 156 = .ok (.iload 4, 2) := by decide +kernel
theorem dX10_tries_158 : decode cX10_tries 158 = .ok (.aload_n 0, 1) := by decide +kernel
theorem dX10_tries_159 : decode cX10_tries 159 = .ok (.getfield 108, 3) := by decide +kernel
theorem dX10_tries_162 : decode cX10_tries 162 = .ok (.iload 5, 2) := by decide +kernel
theorem dX10_tries_164 : decode cX10_tries 164 = .ok (.iaload, 1) := by decide +kernel
theorem dX10_tries_165 : decode cX10_tries 165 = .ok (.iconst 4, 1) := by decide +kernel
theorem dX10_tries_166 : decode cX10_tries 166 = .ok (.iadd, 1) := by decide +kernel
theorem dX10_tries_167 : decode cX10_tries 167 = .ok (.iconst 5, 1) := by decide +kernel
theorem dX10_tries_168 : decode cX10_tries 168 = .ok (.idiv, 1) := by decide +kernel
theorem dX10_tries_169 : decode cX10_tries 169 = .ok (.iadd, 1) := by decide +kernel
theorem dX10_tries_170 : decode cX10_tries 170 = .ok (.invokevirtual 418, 3) := by decide +kernel
theorem dX10_tries_173 : decode cX10_tries 173 = .ok (.iinc 5 1, 3) := by decide +kernel
theorem dX10_tries_176 : decode cX10_tries 176 = .ok (.goto (-94), 3) := by decide +kernel
theorem dX10_tries_179 : decode cX10_tries 179 = .ok (.return_, 1) := by decide +kernel
theorem dX10_plan_0 : decode cX10_plan 0 = .ok (.aload_n 0, 1) := by decide +kernel
theorem dX10_plan_1 : decode cX10_plan 1 = .ok (.iconst 0, 1) := by decide +kernel
theorem dX10_plan_2 : decode cX10_plan 2 = .ok (.putfield 135, 3) := by decide +kernel
theorem dX10_plan_5 : decode cX10_plan 5 = .ok (.aload_n 0, 1) := by decide +kernel
theorem dX10_plan_6 : decode cX10_plan 6 = .ok (.iload_n 1, 1) := by decide +kernel
theorem dX10_plan_7 : decode cX10_plan 7 = .ok (.invokevirtual 358, 3) := by decide +kernel
theorem dX10_plan_10 : decode cX10_plan 10 = .ok (.ifCond .eq 13, 3) := by decide +kernel
theorem dX10_plan_13 : decode cX10_plan 13 = .ok (.iload_n 2, 1) := by decide +kernel
theorem dX10_plan_14 : decode cX10_plan 14 = .ok (.iconst 0, 1) := by decide +kernel
theorem dX10_plan_15 : decode cX10_plan 15 = .ok (.bipush 9, 2) := by decide +kernel
theorem dX10_plan_17 : decode cX10_plan 17 = .ok (.invokestatic 263, 3) := by decide +kernel
theorem dX10_plan_20 : decode cX10_plan 20 = .ok (.ifCond .ne 5, 3) := by decide +kernel
theorem dX10_plan_23 : decode cX10_plan 23 = .ok (.iconst (-1), 1) := by decide +kernel
theorem dX10_plan_24 : decode cX10_plan 24 = .ok (.ireturn, 1) := by decide +kernel
theorem dX10_plan_25 : decode cX10_plan 25 = .ok (.aload_n 0, 1) := by decide +kernel
theorem dX10_plan_26 : decode cX10_plan 26 = .ok (.iconst (-1), 1) := by decide +kernel
theorem dX10_plan_27 : decode cX10_plan 27 = .ok (.putfield 412, 3) := by decide +kernel
theorem dX10_plan_30 : decode cX10_plan 30 = .ok (.aload_n 0, 1) := by decide +kernel
theorem dX10_plan_31 : decode cX10_plan 31 = .ok (.aload_n 0, 1) := by decide +kernel
theorem dX10_plan_32 : decode cX10_plan 32 = .ok (.getfield 108, 3) := by decide +kernel
theorem dX10_plan_35 : decode cX10_plan 35 = .ok (.bipush 68, 2) := by decide +kernel
theorem dX10_plan_37 : decode cX10_plan 37 = .ok (.iload_n 1, 1) := by decide +kernel
theorem dX10_plan_38 : decode cX10_plan 38 = .ok (.iadd, 1) := by decide +kernel
theorem dX10_plan_39 : decode cX10_plan 39 = .ok (.iaload, 1) := by decide +kernel
theorem dX10_plan_40 : decode cX10_plan 40 = .ok (.iconst 1, 1) := by decide +kernel
theorem dX10_plan_41 : decode cX10_plan 41 = .ok (.aload_n 0, 1) := by decide +kernel
theorem dX10_plan_42 : decode cX10_plan 42 = .ok (.getfield 108, 3) := by decide +kernel
theorem dX10_plan_45 : decode cX10_plan 45 = .ok (.bipush 68, 2) := by decide +kernel
theorem dX10_plan_47 : decode cX10_plan 47 = .ok (.iload_n 1, 1) := by decide +kernel
theorem dX10_plan_48 : decode cX10_plan 48 = .ok (.iadd, 1) := by decide +kernel
theorem dX10_plan_49 : decode cX10_plan 49 = .ok (.iaload, 1) := by decide +kernel
theorem dX10_plan_50 : decode cX10_plan 50 = .ok (.ishl, 1) := by decide +kernel
theorem dX10_plan_51 : decode cX10_plan 51 = .ok (.iconst 0, 1) := by decide +kernel
theorem dX10_plan_52 : decode cX10_plan 52 = .ok (.iconst 0, 1) := by decide +kernel
theorem dX10_plan_53 : decode cX10_plan 53 = .ok (.invokevirtual 418, 3) := by decide +kernel
theorem dX10_plan_56 : decode cX10_plan 56 = .ok (.aload_n 0, 1) := by decide +kernel
theorem dX10_plan_57 : decode cX10_plan 57 = .ok (.getfield 412, 3) := by decide +kernel
theorem dX10_plan_60 : decode cX10_plan 60 = .ok (.ifCond .ge 5, 3) := by decide +kernel
theorem dX10_plan_63 : decode cX10_plan 63 = .ok (.iconst (-1), 1) := by decide +kernel
theorem dX10_plan_64 : decode cX10_plan 64 = .ok (.ireturn, 1) := by decide +kernel
theorem dX10_plan_65 : decode cX10_plan 65 = .ok (.iload_n 2, 1) := by decide +kernel
theorem dX10_plan_66 : decode cX10_plan 66 = .ok (.ifCond .ne 10, 3) := by decide +kernel
theorem dX10_plan_69 : decode cX10_plan 69 = .ok (.aload_n 0, 1) := by decide +kernel
theorem dX10_plan_70 : decode cX10_plan 70 = .ok (.getfield 412, 3) := by decide +kernel
theorem dX10_plan_73 : decode cX10_plan 73 = .ok (.goto 37, 3) := by decide +kernel
theorem dX10_plan_76 : decode cX10_plan 76 = .ok (.iload_n 2, 1) := by decide +kernel
theorem dX10_plan_77 : decode cX10_plan 77 = .ok (.iconst 1, 1) := by decide +kernel
theorem dX10_plan_78 : decode cX10_plan 78 = .ok (.if_icmp .ne 10, 3) := by decide +kernel
theorem dX10_plan_81 : decode cX10_plan 81 = .ok (.aload_n 0, 1) := by decide +kernel
theorem dX10_plan_82 : decode cX10_plan 82 = .ok (.getfield 415, 3) := by decide +kernel
theorem dX10_plan_85 : decode cX10_plan 85 = .ok (.goto 25, 3) := by decide +kernel
theorem dX10_plan_88 : decode cX10_plan 88 = .ok (.iload_n 2, 1) := by decide +kernel
theorem dX10_plan_89 : decode cX10_plan 89 = .ok (.iconst 2, 1) := by decide +kernel
theorem dX10_plan_90 : decode cX10_plan 90 = .ok (.isub, 1) := by decide +kernel
theorem dX10_plan_91 : decode cX10_plan 91 = .ok (.aload_n 0, 1) := by decide +kernel
theorem dX10_plan_92 : decode cX10_plan 92 = .ok (.getfield 415, 3) := by decide +kernel
theorem dX10_plan_95 : decode cX10_plan 95 = .ok (.if_icmp .ge 14, 3) := by decide +kernel
theorem dX10_plan_98 : decode cX10_plan 98 = .ok (.aload_n 0, 1) := by decide +kernel
theorem dX10_plan_99 : decode cX10_plan 99 = .ok (.getfield 126, 3) := by decide +kernel
theorem dX10_plan_102 : decode cX10_plan 102 = .ok (.iload_n 2, 1) := by decide +kernel
theorem dX10_plan_103 : decode cX10_plan 103 = .ok (.iconst 2, 1) := by decide +kernel
theorem dX10_plan_104 : decode cX10_plan 104 = .ok (.isub, 1) := by decide +kernel
theorem dX10_plan_105 : decode cX10_plan 105 = .ok (.iaload, 1) := by decide +kernel
theorem dX10_plan_106 : decode cX10_plan 106 = .ok (.goto 4, 3) := by decide +kernel
theorem dX10_plan_109 : decode cX10_plan 109 = .ok (.iconst (-1), 1) := by decide +kernel
theorem dX10_plan_110 : decode cX10_plan 110 = .ok (.ireturn, 1) := by decide +kernel
theorem dX10_escape_0 : decode cX10_escape 0 = .ok (.aload_n 0, 1) := by decide +kernel
theorem dX10_escape_1 : decode cX10_escape 1 = .ok (.iconst 0, 1) := by decide +kernel
theorem dX10_escape_2 : decode cX10_escape 2 = .ok (.putfield 135, 3) := by decide +kernel
theorem dX10_escape_5 : decode cX10_escape 5 = .ok (.aload_n 0, 1) := by decide +kernel
theorem dX10_escape_6 : decode cX10_escape 6 = .ok (.iload_n 1, 1) := by decide +kernel
theorem dX10_escape_7 : decode cX10_escape 7 = .ok (.invokevirtual 358, 3) := by decide +kernel
theorem dX10_escape_10 : decode cX10_escape 10 = .ok (.ifCond .eq 10, 3) := by decide +kernel
theorem dX10_escape_13 : decode cX10_escape 13 = .ok (.iload_n 2, 1) := by decide +kernel
theorem dX10_escape_14 : decode cX10_escape 14 = .ok (.invokestatic 400, 3) := by decide +kernel
theorem dX10_escape_17 : decode cX10_escape 17 = .ok (.ifCond .ne 5, 3) := by decide +kernel
theorem dX10_escape_20 : decode cX10_escape 20 = .ok (.iconst (-1), 1) := by decide +kernel
theorem dX10_escape_21 : decode cX10_escape 21 = .ok (.ireturn, 1) := by decide +kernel
theorem dX10_escape_22 : decode cX10_escape 22 = .ok (.aload_n 0, 1) := by decide +kernel
theorem dX10_escape_23 : decode cX10_escape 23 = .ok (.getfield 108, 3) := by decide +kernel
theorem dX10_escape_26 : decode cX10_escape 26 = .ok (.iconst 0, 1) := by decide +kernel
theorem dX10_escape_27 : decode cX10_escape 27 = .ok (.aload_n 0, 1) := by decide +kernel
theorem dX10_escape_28 : decode cX10_escape 28 = .ok (.getfield 111, 3) := by decide +kernel
theorem dX10_escape_31 : decode cX10_escape 31 = .ok (.iconst 0, 1) := by decide +kernel
theorem dX10_escape_32 : decode cX10_escape 32 = .ok (.invokestatic 396, 3) := by decide +kernel
theorem dX10_escape_35 : decode cX10_escape 35 = .ok (.iconst (-1), 1) := by decide +kernel
theorem dX10_escape_36 : decode cX10_escape 36 = .ok (.istore_n 3, 1) := by decide +kernel
theorem dX10_escape_37 : decode cX10_escape 37 = .ok (.iconst 1, 1) := by decide +kernel
theorem dX10_escape_38 : decode cX10_escape 38 = .ok (.istore 4, 2) := by decide +kernel
theorem dX10_escape_40 : decode cX10_escape 40 = .ok (.iload 4, 2) := by decide +kernel
theorem dX10_escape_42 : decode cX10_escape 42 = .ok (.iload_n 2, 1) := by decide +kernel
theorem dX10_escape_43 : decode cX10_escape 43 = .ok (.if_icmp .gt 37, 3) := by decide +kernel
theorem dX10_escape_46 : decode cX10_escape 46 = .ok (.iload_n 3, 1) := by decide +kernel
theorem dX10_escape_47 : decode cX10_escape 47 = .ok (.ifCond .ge 33, 3) := by decide +kernel
theorem dX10_escape_50 : decode cX10_escape 50 = .ok (.aload_n 0, 1) := by decide +kernel
theorem dX10_escape_51 : decode cX10_escape 51 = .ok (.iconst 0, 1) := by decide +kernel
theorem dX10_escape_52 : decode cX10_escape 52 = .ok (.invokevirtual 393, 3) := by decide +kernel
theorem dX10_escape_55 : decode cX10_escape 55 = .ok (.aload_n 0, 1) := by decide +kernel
theorem dX10_escape_56 : decode cX10_escape 56 = .ok (.getfield 108, 3) := by decide +kernel
theorem dX10_escape_59 : decode cX10_escape 59 = .ok (.bipush 68, 2) := by decide +kernel
theorem dX10_escape_61 : decode cX10_escape 61 = .ok (.iload_n 1, 1) := by decide +kernel
theorem dX10_escape_62 : decode cX10_escape 62 = .ok (.iadd, 1) := by decide +kernel
theorem dX10_escape_63 : decode cX10_escape 63 = .ok (.iaload, 1) := by decide +kernel
theorem dX10_escape_64 : decode cX10_escape 64 = .ok (.ifCond .ge 8, 3) := by decide +kernel
theorem dX10_escape_67 : decode cX10_escape 67 = .ok (.iload 4, 2) := by decide +kernel
theorem dX10_escape_69 : decode cX10_escape 69 = .ok (.goto 4, 3) := by decide +kernel
theorem dX10_escape_72 : decode cX10_escape 72 = .ok (.iload_n 3, 1) := by decide +kernel
theorem dX10_escape_73 : decode cX10_escape 73 = .ok (.istore_n 3, 1) := by decide +kernel
theorem dX10_escape_74 : decode cX10_escape 74 = .ok (.iinc 4 1, 3) := by decide +kernel
theorem dX10_escape_77 : decode cX10_escape 77 = .ok (.goto (-37), 3) := by decide +kernel
theorem dX10_escape_80 : decode cX10_escape 80 = .ok (.aload_n 0, 1) := by decide +kernel
theorem dX10_escape_81 : decode cX10_escape 81 = .ok (.getfield 111, 3) := by decide +kernel
theorem dX10_escape_84 : decode cX10_escape 84 = .ok (.iconst 0, 1) := by decide +kernel
theorem dX10_escape_85 : decode cX10_escape 85 = .ok (.aload_n 0, 1) := by decide +kernel
theorem dX10_escape_86 : decode cX10_escape 86 = .ok (.getfield 108, 3) := by decide +kernel
theorem dX10_escape_89 : decode cX10_escape 89 = .ok (.iconst 0, 1) := by decide +kernel
theorem dX10_escape_90 : decode cX10_escape 90 = .ok (.invokestatic 396, 3) := by decide +kernel
theorem dX10_escape_93 : decode cX10_escape 93 = .ok (.iload_n 3, 1) := by decide +kernel
theorem dX10_escape_94 : decode cX10_escape 94 = .ok (.ireturn, 1) := by decide +kernel
theorem dX10_salted_0 : decode cX10_salted 0 = .ok (.aload_n 0, 1) := by decide +kernel
theorem dX10_salted_1 : decode cX10_salted 1 = .ok (.iconst 0, 1) := by decide +kernel
theorem dX10_salted_2 : decode cX10_salted 2 = .ok (.putfield 135, 3) := by decide +kernel
theorem dX10_salted_5 : decode cX10_salted 5 = .ok (.iload_n 1, 1) := by decide +kernel
theorem dX10_salted_6 : decode cX10_salted 6 = .ok (.iconst 1, 1) := by decide +kernel
theorem dX10_salted_7 : decode cX10_salted 7 = .ok (.bipush 99, 2) := by decide +kernel
theorem dX10_salted_9 : decode cX10_salted 9 = .ok (.invokestatic 263, 3) := by decide +kernel
theorem dX10_salted_12 : decode cX10_salted 12 = .ok (.ifCond .ne 5, 3) := by decide +kernel
theorem dX10_salted_15 : decode cX10_salted 15 = .ok (.iconst (-1), 1) := by decide +kernel
theorem dX10_salted_16 : decode cX10_salted 16 = .ok (.ireturn, 1) := by decide +kernel
theorem dX10_salted_17 : decode cX10_salted 17 = .ok (.iconst 0, 1) := by decide +kernel
theorem dX10_salted_18 : decode cX10_salted 18 = .ok (.istore_n 2, 1) := by decide +kernel
theorem dX10_salted_19 : decode cX10_salted 19 = .ok (.iconst 0, 1) := by decide +kernel
theorem dX10_salted_20 : decode cX10_salted 20 = .ok (.istore_n 3, 1) := by decide +kernel
theorem dX10_salted_21 : decode cX10_salted 21 = .ok (.iload_n 3, 1) := by decide +kernel
theorem dX10_salted_22 : decode cX10_salted 22 = .ok (.aload_n 0, 1) := by decide +kernel
theorem dX10_salted_23 : decode cX10_salted 23 = .ok (.getfield 16, 3) := by decide +kernel
theorem dX10_salted_26 : decode cX10_salted 26 = .ok (.iconst 0, 1) := by decide +kernel
theorem dX10_salted_27 : decode cX10_salted 27 = .ok (.iaload, 1) := by decide +kernel
theorem dX10_salted_28 : decode cX10_salted 28 = .ok (.if_icmp .ge 39, 3) := by decide +kernel
theorem dX10_salted_31 : decode cX10_salted 31 = .ok (.iload_n 2, 1) := by decide +kernel
theorem dX10_salted_32 : decode cX10_salted 32 = .ok (.aload_n 0, 1) := by decide +kernel
theorem dX10_salted_33 : decode cX10_salted 33 = .ok (.getfield 108, 3) := by decide +kernel
theorem dX10_salted_36 : decode cX10_salted 36 = .ok (.bipush 30, 2) := by decide +kernel
theorem dX10_salted_38 : decode cX10_salted 38 = .ok (.iload_n 3, 1) := by decide +kernel
theorem dX10_salted_39 : decode cX10_salted 39 = .ok (.iadd, 1) := by decide +kernel
theorem dX10_salted_40 : decode cX10_salted 40 = .ok (.iaload, 1) := by decide +kernel
theorem dX10_salted_41 : decode cX10_salted 41 = .ok (.aload_n 0, 1) := by decide +kernel
theorem dX10_salted_42 : decode cX10_salted 42 = .ok (.getfield 108, 3) := by decide +kernel
theorem dX10_salted_45 : decode cX10_salted 45 = .ok (.iload_n 3, 1) := by decide +kernel
theorem dX10_salted_46 : decode cX10_salted 46 = .ok (.iaload, 1) := by decide +kernel
theorem dX10_salted_47 : decode cX10_salted 47 = .ok (.isub, 1) := by decide +kernel
theorem dX10_salted_48 : decode cX10_salted 48 = .ok (.iload_n 1, 1) := by decide +kernel
theorem dX10_salted_49 : decode cX10_salted 49 = .ok (.if_icmp .lt 9, 3) := by decide +kernel
theorem dX10_salted_52 : decode cX10_salted 52 = .ok (.iconst 1, 1) := by decide +kernel
theorem dX10_salted_53 : decode cX10_salted 53 = .ok (.iload_n 3, 1) := by decide +kernel
theorem dX10_salted_54 : decode cX10_salted 54 = .ok (.ishl, 1) := by decide +kernel
theorem dX10_salted_55 : decode cX10_salted 55 = .ok (.goto 4, 3) := by decide +kernel
theorem dX10_salted_58 : decode cX10_salted 58 = .ok (.iconst 0, 1) := by decide +kernel
theorem dX10_salted_59 : decode cX10_salted 59 = .ok (.ior, 1) := by decide +kernel
theorem dX10_salted_60 : decode cX10_salted 60 = .ok (.istore_n 2, 1) := by decide +kernel
theorem dX10_salted_61 : decode cX10_salted 61 = .ok (.iinc 3 1, 3) := by decide +kernel
theorem dX10_salted_64 : decode cX10_salted 64 = .ok (.goto (-43), 3) := by decide +kernel
theorem dX10_salted_67 : decode cX10_salted 67 = .ok (.iload_n 2, 1) := by decide +kernel
theorem dX10_salted_68 : decode cX10_salted 68 = .ok (.ireturn, 1) := by decide +kernel
theorem dX10_beside_0 : decode cX10_beside 0 = .ok (.aload_n 0, 1) := by decide +kernel
theorem dX10_beside_1 : decode cX10_beside 1 = .ok (.iconst 0, 1) := by decide +kernel
theorem dX10_beside_2 : decode cX10_beside 2 = .ok (.putfield 135, 3) := by decide +kernel
theorem dX10_beside_5 : decode cX10_beside 5 = .ok (.aload_n 0, 1) := by decide +kernel
theorem dX10_beside_6 : decode cX10_beside 6 = .ok (.iload_n 1, 1) := by decide +kernel
theorem dX10_beside_7 : decode cX10_beside 7 = .ok (.invokevirtual 337, 3) := by decide +kernel
theorem dX10_beside_10 : decode cX10_beside 10 = .ok (.ifCond .eq 17, 3) := by decide +kernel
theorem dX10_beside_13 : decode cX10_beside 13 = .ok (.aload_n 0, 1) := by decide +kernel
theorem dX10_beside_14 : decode cX10_beside 14 = .ok (.getfield 108, 3) := by decide +kernel
theorem dX10_beside_17 : decode cX10_beside 17 = .ok (.bipush 50, 2) := by decide +kernel
theorem dX10_beside_19 : decode cX10_beside 19 = .ok (.iload_n 1, 1) := by decide +kernel
theorem dX10_beside_20 : decode cX10_beside 20 = .ok (.iadd, 1) := by decide +kernel
theorem dX10_beside_21 : decode cX10_beside 21 = .ok (.iaload, 1) := by decide +kernel
theorem dX10_beside_22 : decode cX10_beside 22 = .ok (.iconst 1, 1) := by decide +kernel
theorem dX10_beside_23 : decode cX10_beside 23 = .ok (.isub, 1) := by decide +kernel
theorem dX10_beside_24 : decode cX10_beside 24 = .ok (.goto 4, 3) := by decide +kernel
theorem dX10_beside_27 : decode cX10_beside 27 = .ok (.iconst (-1), 1) := by decide +kernel
theorem dX10_beside_28 : decode cX10_beside 28 = .ok (.ireturn, 1) := by decide +kernel
theorem dX10_thaw_0 : decode cX10_thaw 0 = .ok (.aload_n 0, 1) := by decide +kernel
theorem dX10_thaw_1 : decode cX10_thaw 1 = .ok (.iconst 0, 1) := by decide +kernel
theorem dX10_thaw_2 : decode cX10_thaw 2 = .ok (.putfield 135, 3) := by decide +kernel
theorem dX10_thaw_5 : decode cX10_thaw 5 = .ok (.iload_n 1, 1) := by decide +kernel
theorem dX10_thaw_6 : decode cX10_thaw 6 = .ok (.invokestatic 400, 3) := by decide +kernel
theorem dX10_thaw_9 : decode cX10_thaw 9 = .ok (.ifCond .ne 5, 3) := by decide +kernel
theorem dX10_thaw_12 : decode cX10_thaw 12 = .ok (.iconst (-1), 1) := by decide +kernel
theorem dX10_thaw_13 : decode cX10_thaw 13 = .ok (.ireturn, 1) := by decide +kernel
theorem dX10_thaw_14 : decode cX10_thaw 14 = .ok (.iconst 0, 1) := by decide +kernel
theorem dX10_thaw_15 : decode cX10_thaw 15 = .ok (.istore_n 2, 1) := by decide +kernel
theorem dX10_thaw_16 : decode cX10_thaw 16 = .ok (.iload_n 2, 1) := by decide +kernel
theorem dX10_thaw_17 : decode cX10_thaw 17 = .ok (.iload_n 1, 1) := by decide +kernel
theorem dX10_thaw_18 : decode cX10_thaw 18 = .ok (.if_icmp .gt 28, 3) := by decide +kernel
theorem dX10_thaw_21 : decode cX10_thaw 21 = .ok (.aload_n 0, 1) := by decide +kernel
theorem dX10_thaw_22 : decode cX10_thaw 22 = .ok (.aload_n 0, 1) := by decide +kernel
theorem dX10_thaw_23 : decode cX10_thaw 23 = .ok (.getfield 108, 3) := by decide +kernel
theorem dX10_thaw_26 : decode cX10_thaw 26 = .ok (.bipush 80, 2) := by decide +kernel
theorem dX10_thaw_28 : decode cX10_thaw 28 = .ok (.iaload, 1) := by decide +kernel
theorem dX10_thaw_29 : decode cX10_thaw 29 = .ok (.iload_n 2, 1) := by decide +kernel
theorem dX10_thaw_30 : decode cX10_thaw 30 = .ok (.iadd, 1) := by decide +kernel
theorem dX10_thaw_31 : decode cX10_thaw 31 = .ok (.iconst 0, 1) := by decide +kernel
theorem dX10_thaw_32 : decode cX10_thaw 32 = .ok (.invokevirtual 347, 3) := by decide +kernel
theorem dX10_thaw_35 : decode cX10_thaw 35 = .ok (.ifCond .lt 5, 3) := by decide +kernel
theorem dX10_thaw_38 : decode cX10_thaw 38 = .ok (.iload_n 2, 1) := by decide +kernel
theorem dX10_thaw_39 : decode cX10_thaw 39 = .ok (.ireturn, 1) := by decide +kernel
theorem dX10_thaw_40 : decode cX10_thaw 40 = .ok (.iinc 2 1, 3) := by decide +kernel
theorem dX10_thaw_43 : decode cX10_thaw 43 = .ok (.goto (-27), 3) := by decide +kernel
theorem dX10_thaw_46 : decode cX10_thaw 46 = .ok (.iconst (-1), 1) := by decide +kernel
theorem dX10_thaw_47 : decode cX10_thaw 47 = .ok (.ireturn, 1) := by decide +kernel
theorem dX10_held_0 : decode cX10_held 0 = .ok (.iconst 0, 1) := by decide +kernel
theorem dX10_held_1 : decode cX10_held 1 = .ok (.istore_n 1, 1) := by decide +kernel
theorem dX10_held_2 : decode cX10_held 2 = .ok (.iconst 0, 1) := by decide +kernel
theorem dX10_held_3 : decode cX10_held 3 = .ok (.istore_n 2, 1) := by decide +kernel
theorem dX10_held_4 : decode cX10_held 4 = .ok (.iload_n 2, 1) := by decide +kernel
theorem dX10_held_5 : decode cX10_held 5 = .ok (.aload_n 0, 1) := by decide +kernel
theorem dX10_held_6 : decode cX10_held 6 = .ok (.getfield 19, 3) := by decide +kernel
theorem dX10_held_9 : decode cX10_held 9 = .ok (.iconst 0, 1) := by decide +kernel
theorem dX10_held_10 : decode cX10_held 10 = .ok (.iaload, 1) := by decide +kernel
theorem dX10_held_11 : decode cX10_held 11 = .ok (.if_icmp .ge 29, 3) := by decide +kernel
theorem dX10_held_14 : decode cX10_held 14 = .ok (.iload_n 1, 1) := by decide +kernel
theorem dX10_held_15 : decode cX10_held 15 = .ok (.aload_n 0, 1) := by decide +kernel
theorem dX10_held_16 : decode cX10_held 16 = .ok (.getfield 108, 3) := by decide +kernel
theorem dX10_held_19 : decode cX10_held 19 = .ok (.bipush 68, 2) := by decide +kernel
theorem dX10_held_21 : decode cX10_held 21 = .ok (.iload_n 2, 1) := by decide +kernel
theorem dX10_held_22 : decode cX10_held 22 = .ok (.iadd, 1) := by decide +kernel
theorem dX10_held_23 : decode cX10_held 23 = .ok (.iaload, 1) := by decide +kernel
theorem dX10_held_24 : decode cX10_held 24 = .ok (.ifCond .lt 7, 3) := by decide +kernel
theorem dX10_held_27 : decode cX10_held 27 = .ok (.iconst 1, 1) := by decide +kernel
theorem dX10_held_28 : decode cX10_held 28 = .ok (.goto 4, 3) := by decide +kernel
theorem dX10_held_31 : decode cX10_held 31 = .ok (.iconst 0, 1) := by decide +kernel
theorem dX10_held_32 : decode cX10_held 32 = .ok (.iadd, 1) := by decide +kernel
theorem dX10_held_33 : decode cX10_held 33 = .ok (.istore_n 1, 1) := by decide +kernel
theorem dX10_held_34 : decode cX10_held 34 = .ok (.iinc 2 1, 3) := by decide +kernel
theorem dX10_held_37 : decode cX10_held 37 = .ok (.goto (-33), 3) := by decide +kernel
theorem dX10_held_40 : decode cX10_held 40 = .ok (.iload_n 1, 1) := by decide +kernel
theorem dX10_held_41 : decode cX10_held 41 = .ok (.ireturn, 1) := by decide +kernel
theorem dX10_amnesty_0 : decode cX10_amnesty 0 = .ok (.aload_n 0, 1) := by decide +kernel
theorem dX10_amnesty_1 : decode cX10_amnesty 1 = .ok (.iconst 0, 1) := by decide +kernel
theorem dX10_amnesty_2 : decode cX10_amnesty 2 = .ok (.putfield 135, 3) := by decide +kernel
theorem dX10_amnesty_5 : decode cX10_amnesty 5 = .ok (.aload_n 0, 1) := by decide +kernel
theorem dX10_amnesty_6 : decode cX10_amnesty 6 = .ok (.invokevirtual 422, 3) := by decide +kernel
theorem dX10_amnesty_9 : decode cX10_amnesty 9 = .ok (.istore_n 3, 1) := by decide +kernel
theorem dX10_amnesty_10 : decode cX10_amnesty 10 = .ok (.iload_n 3, 1) := by decide +kernel
theorem dX10_amnesty_11 : decode cX10_amnesty 11 = .ok (.ifCond .eq 21, 3) := by decide +kernel
theorem dX10_amnesty_14 : decode cX10_amnesty 14 = .ok (.iload_n 1, 1) := by decide +kernel
theorem dX10_amnesty_15 : decode cX10_amnesty 15 = .ok (.iconst 0, 1) := by decide +kernel
theorem dX10_amnesty_16 : decode cX10_amnesty 16 = .ok (.iload_n 3, 1) := by decide +kernel
theorem dX10_amnesty_17 : decode cX10_amnesty 17 = .ok (.invokestatic 263, 3) := by decide +kernel
theorem dX10_amnesty_20 : decode cX10_amnesty 20 = .ok (.ifCond .eq 12, 3) := by decide +kernel
theorem dX10_amnesty_23 : decode cX10_amnesty 23 = .ok (.iload_n 2, 1) := by decide +kernel
theorem dX10_amnesty_24 : decode cX10_amnesty 24 = .ok (.iconst 0, 1) := by decide +kernel
theorem dX10_amnesty_25 : decode cX10_amnesty 25 = .ok (.iconst 1, 1) := by decide +kernel
theorem dX10_amnesty_26 : decode cX10_amnesty 26 = .ok (.invokestatic 263, 3) := by decide +kernel
theorem dX10_amnesty_29 : decode cX10_amnesty 29 = .ok (.ifCond .ne 5, 3) := by decide +kernel
theorem dX10_amnesty_32 : decode cX10_amnesty 32 = .ok (.iconst (-1), 1) := by decide +kernel
theorem dX10_amnesty_33 : decode cX10_amnesty 33 = .ok (.ireturn, 1) := by decide +kernel
theorem dX10_amnesty_34 : decode cX10_amnesty 34 = .ok (.iload_n 2, 1) := by decide +kernel
theorem dX10_amnesty_35 : decode cX10_amnesty 35 = .ok (.ifCond .ne 7, 3) := by decide +kernel
theorem dX10_amnesty_38 : decode cX10_amnesty 38 = .ok (.iload_n 1, 1) := by decide +kernel
theorem dX10_amnesty_39 : decode cX10_amnesty 39 = .ok (.goto 4, 3) := by decide +kernel
theorem dX10_amnesty_42 : decode cX10_amnesty 42 = .ok (.iload_n 3, 1) := by decide +kernel
theorem dX10_amnesty_43 : decode cX10_amnesty 43 = .ok (.iload_n 1, 1) := by decide +kernel
theorem dX10_amnesty_44 : decode cX10_amnesty 44 = .ok (.iload_n 3, 1) := by decide +kernel
theorem dX10_amnesty_45 : decode cX10_amnesty 45 = .ok (.invokestatic 425, 3) := by decide +kernel
theorem dX10_amnesty_48 : decode cX10_amnesty 48 = .ok (.idiv, 1) := by decide +kernel
theorem dX10_amnesty_49 : decode cX10_amnesty 49 = .ok (.ireturn, 1) := by decide +kernel
theorem dX10_draws_0 : decode cX10_draws 0 = .ok (.aload_n 0, 1) := by decide +kernel
theorem dX10_draws_1 : decode cX10_draws 1 = .ok (.aload_n 0, 1) := by decide +kernel
theorem dX10_draws_2 : decode cX10_draws 2 = .ok (.getfield 428, 3) := by decide +kernel
theorem dX10_draws_5 : decode cX10_draws 5 = .ok (.ldc2_w 431, 3) := by decide +kernel
theorem dX10_draws_8 : decode cX10_draws 8 = .ok (.lmul, 1) := by decide +kernel
theorem dX10_draws_9 : decode cX10_draws 9 = .ok (.ldc2_w 433, 3) := by decide +kernel
theorem dX10_draws_12 : decode cX10_draws 12 = .ok (.ladd, 1) := by decide +kernel
theorem dX10_draws_13 : decode cX10_draws 13 = .ok (.ldc2_w 435, 3) := by decide +kernel
theorem dX10_draws_16 : decode cX10_draws 16 = .ok (.lrem, 1) := by decide +kernel
theorem dX10_draws_17 : decode cX10_draws 17 = .ok (.putfield 428, 3) := by decide +kernel
theorem dX10_draws_20 : decode cX10_draws 20 = .ok (.aload_n 0, 1) := by decide +kernel
theorem dX10_draws_21 : decode cX10_draws 21 = .ok (.getfield 428, 3) := by decide +kernel
theorem dX10_draws_24 : decode cX10_draws 24 = .ok (.ldc2_w 437, 3) := by decide +kernel
theorem dX10_draws_27 : decode cX10_draws 27 = .ok (.ldiv, 1) := by decide +kernel
theorem dX10_draws_28 : decode cX10_draws 28 = .ok (.iload_n 1, 1) := by decide +kernel
theorem dX10_draws_29 : decode cX10_draws 29 = .ok (.i2l, 1) := by decide +kernel
theorem dX10_draws_30 : decode cX10_draws 30 = .ok (.lrem, 1) := by decide +kernel
theorem dX10_draws_31 : decode cX10_draws 31 = .ok (.l2i, 1) := by decide +kernel
theorem dX10_draws_32 : decode cX10_draws 32 = .ok (.ireturn, 1) := by decide +kernel
theorem dX10_lots_0 : decode cX10_lots 0 = .ok (.aload_n 0, 1) := by decide +kernel
theorem dX10_lots_1 : decode cX10_lots 1 = .ok (.iconst 0, 1) := by decide +kernel
theorem dX10_lots_2 : decode cX10_lots 2 = .ok (.putfield 135, 3) := by decide +kernel
theorem dX10_lots_5 : decode cX10_lots 5 = .ok (.iload_n 1, 1) := by decide +kernel
theorem dX10_lots_6 : decode cX10_lots 6 = .ok (.iconst 0, 1) := by decide +kernel
theorem dX10_lots_7 : decode cX10_lots 7 = .ok (.sipush 9999, 3) := by decide +kernel
theorem dX10_lots_10 : decode cX10_lots 10 = .ok (.invokestatic 263, 3) := by decide +kernel
theorem dX10_lots_13 : decode cX10_lots 13 = .ok (.ifCond .eq 33, 3) := by decide +kernel
theorem dX10_lots_16 : decode cX10_lots 16 = .ok (.iload_n 2, 1) := by decide +kernel
theorem dX10_lots_17 : decode cX10_lots 17 = .ok (.iconst 1, 1) := by decide +kernel
theorem dX10_lots_18 : decode cX10_lots 18 = .ok (.bipush 20, 2) := by decide +kernel
theorem dX10_lots_20 : decode cX10_lots 20 = .ok (.invokestatic 263, 3) := by decide +kernel
theorem dX10_lots_23 : decode cX10_lots 23 = .ok (.ifCond .eq 23, 3) := by decide +kernel
theorem dX10_lots_26 : decode cX10_lots 26 = .ok (.iload_n 3, 1) := by decide +kernel
theorem dX10_lots_27 : decode cX10_lots 27 = .ok (.iconst 1, 1) := by decide +kernel
theorem dX10_lots_28 : decode cX10_lots 28 = .ok (.bipush 120, 2) := by decide +kernel
theorem dX10_lots_30 : decode cX10_lots 30 = .ok (.invokestatic 263, 3) := by decide +kernel
theorem dX10_lots_33 : decode cX10_lots 33 = .ok (.ifCond .eq 13, 3) := by decide +kernel
theorem dX10_lots_36 : decode cX10_lots 36 = .ok (.iload 4, 2) := by decide +kernel
theorem dX10_lots_38 : decode cX10_lots 38 = .ok (.iconst 0, 1) := by decide +kernel
theorem dX10_lots_39 : decode cX10_lots 39 = .ok (.iconst 1, 1) := by decide +kernel
theorem dX10_lots_40 : decode cX10_lots 40 = .ok (.invokestatic 263, 3) := by decide +kernel
theorem dX10_lots_43 : decode cX10_lots 43 = .ok (.ifCond .ne 5, 3) := by decide +kernel
theorem dX10_lots_46 : decode cX10_lots 46 = .ok (.iconst (-1), 1) := by decide +kernel
theorem dX10_lots_47 : decode cX10_lots 47 = .ok (.ireturn, 1) := by decide +kernel
theorem dX10_lots_48 : decode cX10_lots 48 = .ok (.aload_n 0, 1) := by decide +kernel
theorem dX10_lots_49 : decode cX10_lots 49 = .ok (.iload_n 1, 1) := by decide +kernel
theorem dX10_lots_50 : decode cX10_lots 50 = .ok (.i2l, 1) := by decide +kernel
theorem dX10_lots_51 : decode cX10_lots 51 = .ok (.putfield 428, 3) := by decide +kernel
theorem dX10_lots_54 : decode cX10_lots 54 = .ok (.aload_n 0, 1) := by decide +kernel
theorem dX10_lots_55 : decode cX10_lots 55 = .ok (.getfield 108, 3) := by decide +kernel
theorem dX10_lots_58 : decode cX10_lots 58 = .ok (.iconst 0, 1) := by decide +kernel
theorem dX10_lots_59 : decode cX10_lots 59 = .ok (.aload_n 0, 1) := by decide +kernel
theorem dX10_lots_60 : decode cX10_lots 60 = .ok (.getfield 111, 3) := by decide +kernel
theorem dX10_lots_63 : decode cX10_lots 63 = .ok (.iconst 0, 1) := by decide +kernel
theorem dX10_lots_64 : decode cX10_lots 64 = .ok (.invokestatic 396, 3) := by decide +kernel
theorem dX10_lots_67 : decode cX10_lots 67 = .ok (.iconst 0, 1) := by decide +kernel
theorem dX10_lots_68 : decode cX10_lots 68 = .ok (.istore 5, 2) := by decide +kernel
theorem dX10_lots_70 : decode cX10_lots 70 = .ok (.iconst 0, 1) := by decide +kernel
theorem dX10_lots_71 : decode cX10_lots 71 = .ok (.istore 6, 2) := by decide +kernel
theorem dX10_lots_73 : decode cX10_lots 73 = .ok (.iconst 0, 1) := by decide +kernel
theorem dX10_lots_74 : decode cX10_lots 74 = .ok (.istore 7, 2) := by decide +kernel
theorem dX10_lots_76 : decode cX10_lots 76 = .ok (.iload 7, 2) := by decide +kernel
theorem dX10_lots_78 : decode cX10_lots 78 = .ok (.iload_n 2, 1) := by decide +kernel
theorem dX10_lots_79 : decode cX10_lots 79 = .ok (.if_icmp .ge 129, 3) := by decide +kernel
theorem dX10_lots_82 : decode cX10_lots 82 = .ok (.iconst 0, 1) := by decide +kernel
theorem dX10_lots_83 : decode cX10_lots 83 = .ok (.istore 8, 2) := by decide +kernel
theorem dX10_lots_85 : decode cX10_lots 85 = .ok (.iload 8, 2) := by decide +kernel
theorem dX10_lots_87 : decode cX10_lots 87 = .ok (.iload_n 3, 1) := by decide +kernel
theorem dX10_lots_88 : decode cX10_lots 88 = .ok (.if_icmp .ge 85, 3) := by decide +kernel
theorem dX10_lots_91 : decode cX10_lots 91 = .ok (.aload_n 0, 1) := by decide +kernel
theorem dX10_lots_92 : decode cX10_lots 92 = .ok (.aload_n 0, 1) := by decide +kernel
theorem dX10_lots_93 : decode cX10_lots 93 = .ok (.aload_n 0, 1) := by decide +kernel
theorem dX10_lots_94 : decode cX10_lots 94 = .ok (.getfield 25, 3) := by decide +kernel
theorem dX10_lots_97 : decode cX10_lots 97 = .ok (.iconst 0, 1) := by decide +kernel
theorem dX10_lots_98 : decode cX10_lots 98 = .ok (.iaload, 1) := by decide +kernel
theorem dX10_lots_99 : decode cX10_lots 99 = .ok (.iconst 1, 1) := by decide +kernel
theorem dX10_lots_100 : decode cX10_lots 100 = .ok (.iadd, 1) := by decide +kernel
theorem dX10_lots_101 : decode cX10_lots 101 = .ok (.invokevirtual 439, 3) := by decide +kernel
theorem dX10_lots_104 : decode cX10_lots 104 = .ok (.invokevirtual 393, 3) := by decide +kernel
theorem dX10_lots_107 : decode cX10_lots 107 = .ok (.iconst 0, 1) := by decide +kernel
theorem dX10_lots_108 : decode cX10_lots 108 = .ok (.istore 9, 2) := by decide +kernel
theorem dX10_lots_110 : decode cX10_lots 110 = .ok (.iconst 0, 1) := by decide +kernel
theorem dX10_lots_111 : decode cX10_lots 111 = .ok (.istore 10, 2) := by decide +kernel
theorem dX10_lots_113 : decode cX10_lots 113 = .ok (.iload 10, 2) := by decide +kernel
theorem dX10_lots_115 : decode cX10_lots 115 = .ok (.aload_n 0, 1) := by decide +kernel
theorem dX10_lots_116 : decode cX10_lots 116 = .ok (.getfield 16, 3) := by decide +kernel
theorem dX10_lots_119 : decode cX10_lots 119 = .ok (.iconst 0, 1) := by decide +kernel
theorem dX10_lots_120 : decode cX10_lots 120 = .ok (.iaload, 1) := by decide +kernel
theorem dX10_lots_121 : decode cX10_lots 121 = .ok (.if_icmp .ge 31, 3) := by decide +kernel
theorem dX10_lots_124 : decode cX10_lots 124 = .ok (.iload 9, 2) := by decide +kernel
theorem dX10_lots_126 : decode cX10_lots 126 = .ok (.ifCond .ne 13, 3) := by decide +kernel
theorem dX10_lots_129 : decode cX10_lots 129 = .ok (.aload_n 0, 1) := by decide +kernel
theorem dX10_lots_130 : decode cX10_lots 130 = .ok (.getfield 108, 3) := by decide +kernel
theorem dX10_lots_133 : decode cX10_lots 133 = .ok (.iload 10, 2) := by decide +kernel
theorem dX10_lots_135 : decode cX10_lots 135 = .ok (.iaload, 1) := by decide +kernel
theorem dX10_lots_136 : decode cX10_lots 136 = .ok (.ifCond .ne 7, 3) := by decide +kernel
theorem dX10_lots_139 : decode cX10_lots 139 = .ok (.iconst 1, 1) := by decide +kernel
theorem dX10_lots_140 : decode cX10_lots 140 = .ok (.goto 4, 3) := by decide +kernel
theorem dX10_lots_143 : decode cX10_lots 143 = .ok (.iconst 0, 1) := by decide +kernel
theorem dX10_lots_144 : decode cX10_lots 144 = .ok (.istore 9, 2) := by decide +kernel
theorem dX10_lots_146 : decode cX10_lots 146 = .ok (.iinc 10 1, 3) := by decide +kernel
theorem dX10_lots_149 : decode cX10_lots 149 = .ok (.goto (-36), 3) := by decide +kernel
theorem dX10_lots_152 : decode cX10_lots 152 = .ok (.iload 6, 2) := by decide +kernel
theorem dX10_lots_154 : decode cX10_lots 154 = .ok (.iload 9, 2) := by decide +kernel
theorem dX10_lots_156 : decode cX10_lots 156 = .ok (.ifCond .eq 7, 3) := by decide +kernel
theorem dX10_lots_159 : decode cX10_lots 159 = .ok (.iconst 1, 1) := by decide +kernel
theorem dX10_lots_160 : decode cX10_lots 160 = .ok (.goto 4, 3) := by decide +kernel
theorem dX10_lots_163 : decode cX10_lots 163 = .ok (.iconst 0, 1) := by decide +kernel
theorem dX10_lots_164 : decode cX10_lots 164 = .ok (.iadd, 1) := by decide +kernel
theorem dX10_lots_165 : decode cX10_lots 165 = .ok (.istore 6, 2) := by decide +kernel
theorem dX10_lots_167 : decode cX10_lots 167 = .ok (.iinc 8 1, 3) := by decide +kernel
theorem dX10_lots_170 : decode cX10_lots 170 = .ok (.goto (-85), 3) := by decide +kernel
theorem dX10_lots_173 : decode cX10_lots 173 = .ok (.iload 5, 2) := by decide +kernel
theorem dX10_lots_175 : decode cX10_lots 175 = .ok (.aload_n 0, 1) := by decide +kernel
theorem dX10_lots_176 : decode cX10_lots 176 = .ok (.getfield 19, 3) := by decide +kernel
theorem dX10_lots_179 : decode cX10_lots 179 = .ok (.iconst 0, 1) := by decide +kernel
theorem dX10_lots_180 : decode cX10_lots 180 = .ok (.iaload, 1) := by decide +kernel
theorem dX10_lots_181 : decode cX10_lots 181 = .ok (.aload_n 0, 1) := by decide +kernel
theorem dX10_lots_182 : decode cX10_lots 182 = .ok (.invokevirtual 422, 3) := by decide +kernel
theorem dX10_lots_185 : decode cX10_lots 185 = .ok (.isub, 1) := by decide +kernel
theorem dX10_lots_186 : decode cX10_lots 186 = .ok (.iadd, 1) := by decide +kernel
theorem dX10_lots_187 : decode cX10_lots 187 = .ok (.istore 5, 2) := by decide +kernel
theorem dX10_lots_189 : decode cX10_lots 189 = .ok (.aload_n 0, 1) := by decide +kernel
theorem dX10_lots_190 : decode cX10_lots 190 = .ok (.getfield 111, 3) := by decide +kernel
theorem dX10_lots_193 : decode cX10_lots 193 = .ok (.iconst 0, 1) := by decide +kernel
theorem dX10_lots_194 : decode cX10_lots 194 = .ok (.aload_n 0, 1) := by decide +kernel
theorem dX10_lots_195 : decode cX10_lots 195 = .ok (.getfield 108, 3) := by decide +kernel
theorem dX10_lots_198 : decode cX10_lots 198 = .ok (.iconst 0, 1) := by decide +kernel
theorem dX10_lots_199 : decode cX10_lots 199 = .ok (.invokestatic 396, 3) := by decide +kernel
theorem dX10_lots_202 : decode cX10_lots 202 = .ok (.iinc 7 1, 3) := by decide +kernel
theorem dX10_lots_205 : decode cX10_lots 205 = .ok (.goto (-129), 3) := by decide +kernel
theorem dX10_lots_208 : decode cX10_lots 208 = .ok (.iload 4, 2) := by decide +kernel
theorem dX10_lots_210 : decode cX10_lots 210 = .ok (.ifCond .ne 8, 3) := by decide +kernel
theorem dX10_lots_213 : decode cX10_lots 213 = .ok (.iload 5, 2) := by decide +kernel
theorem dX10_lots_215 : decode cX10_lots 215 = .ok (.goto 5, 3) := by decide +kernel
theorem dX10_lots_218 : decode cX10_lots 218 = .ok (.iload 6, 2) := by decide +kernel
theorem dX10_lots_220 : decode cX10_lots 220 = .ok (.ireturn, 1) := by decide +kernel
theorem dX10_mark_0 : decode cX10_mark 0 = .ok (.aload_n 0, 1) := by decide +kernel
theorem dX10_mark_1 : decode cX10_mark 1 = .ok (.iconst 0, 1) := by decide +kernel
theorem dX10_mark_2 : decode cX10_mark 2 = .ok (.putfield 135, 3) := by decide +kernel
theorem dX10_mark_5 : decode cX10_mark 5 = .ok (.iload_n 1, 1) := by decide +kernel
theorem dX10_mark_6 : decode cX10_mark 6 = .ok (.iconst 0, 1) := by decide +kernel
theorem dX10_mark_7 : decode cX10_mark 7 = .ok (.iconst 3, 1) := by decide +kernel
theorem dX10_mark_8 : decode cX10_mark 8 = .ok (.invokestatic 263, 3) := by decide +kernel
theorem dX10_mark_11 : decode cX10_mark 11 = .ok (.ifCond .eq 16, 3) := by decide +kernel
theorem dX10_mark_14 : decode cX10_mark 14 = .ok (.iload_n 2, 1) := by decide +kernel
theorem dX10_mark_15 : decode cX10_mark 15 = .ok (.ifCond .eq 14, 3) := by decide +kernel
theorem dX10_mark_18 : decode cX10_mark 18 = .ok (.aload_n 0, 1) := by decide +kernel
theorem dX10_mark_19 : decode cX10_mark 19 = .ok (.getfield 132, 3) := by decide +kernel
theorem dX10_mark_22 : decode cX10_mark 22 = .ok (.iload_n 1, 1) := by decide +kernel
theorem dX10_mark_23 : decode cX10_mark 23 = .ok (.baload, 1) := by decide +kernel
theorem dX10_mark_24 : decode cX10_mark 24 = .ok (.ifCond .ne 5, 3) := by decide +kernel
theorem dX10_mark_27 : decode cX10_mark 27 = .ok (.iconst 0, 1) := by decide +kernel
theorem dX10_mark_28 : decode cX10_mark 28 = .ok (.ireturn, 1) := by decide +kernel
theorem dX10_mark_29 : decode cX10_mark 29 = .ok (.aload_n 0, 1) := by decide +kernel
theorem dX10_mark_30 : decode cX10_mark 30 = .ok (.getfield 132, 3) := by decide +kernel
theorem dX10_mark_33 : decode cX10_mark 33 = .ok (.iload_n 1, 1) := by decide +kernel
theorem dX10_mark_34 : decode cX10_mark 34 = .ok (.iconst 1, 1) := by decide +kernel
theorem dX10_mark_35 : decode cX10_mark 35 = .ok (.bastore, 1) := by decide +kernel
theorem dX10_mark_36 : decode cX10_mark 36 = .ok (.iload_n 2, 1) := by decide +kernel
theorem dX10_mark_37 : decode cX10_mark 37 = .ok (.ifCond .eq 33, 3) := by decide +kernel
theorem dX10_mark_40 : decode cX10_mark 40 = .ok (.aload_n 0, 1) := by decide +kernel
theorem dX10_mark_41 : decode cX10_mark 41 = .ok (.iconst 2, 1) := by decide +kernel
theorem dX10_mark_42 : decode cX10_mark 42 = .ok (.iload_n 1, 1) := by decide +kernel
theorem dX10_mark_43 : decode cX10_mark 43 = .ok (.iadd, 1) := by decide +kernel
theorem dX10_mark_44 : decode cX10_mark 44 = .ok (.iconst 0, 1) := by decide +kernel
theorem dX10_mark_45 : decode cX10_mark 45 = .ok (.invokevirtual 317, 3) := by decide +kernel
theorem dX10_mark_48 : decode cX10_mark 48 = .ok (.aload_n 0, 1) := by decide +kernel
theorem dX10_mark_49 : decode cX10_mark 49 = .ok (.getfield 114, 3) := by decide +kernel
theorem dX10_mark_52 : decode cX10_mark 52 = .ok (.bipush 96, 2) := by decide +kernel
theorem dX10_mark_54 : decode cX10_mark 54 = .ok (.iload_n 1, 1) := by decide +kernel
theorem dX10_mark_55 : decode cX10_mark 55 = .ok (.imul, 1) := by decide +kernel
theorem dX10_mark_56 : decode cX10_mark 56 = .ok (.aload_n 0, 1) := by decide +kernel
theorem dX10_mark_57 : decode cX10_mark 57 = .ok (.getfield 108, 3) := by decide +kernel
theorem dX10_mark_60 : decode cX10_mark 60 = .ok (.iconst 0, 1) := by decide +kernel
theorem dX10_mark_61 : decode cX10_mark 61 = .ok (.invokestatic 396, 3) := by decide +kernel
theorem dX10_mark_64 : decode cX10_mark 64 = .ok (.aload_n 0, 1) := by decide +kernel
theorem dX10_mark_65 : decode cX10_mark 65 = .ok (.invokevirtual 321, 3) := by decide +kernel
theorem dX10_mark_68 : decode cX10_mark 68 = .ok (.iconst 1, 1) := by decide +kernel
theorem dX10_mark_69 : decode cX10_mark 69 = .ok (.ireturn, 1) := by decide +kernel
theorem dX10_mark_70 : decode cX10_mark 70 = .ok (.aload_n 0, 1) := by decide +kernel
theorem dX10_mark_71 : decode cX10_mark 71 = .ok (.iconst 0, 1) := by decide +kernel
theorem dX10_mark_72 : decode cX10_mark 72 = .ok (.iconst 2, 1) := by decide +kernel
theorem dX10_mark_73 : decode cX10_mark 73 = .ok (.iload_n 1, 1) := by decide +kernel
theorem dX10_mark_74 : decode cX10_mark 74 = .ok (.iadd, 1) := by decide +kernel
theorem dX10_mark_75 : decode cX10_mark 75 = .ok (.invokevirtual 317, 3) := by decide +kernel
theorem dX10_mark_78 : decode cX10_mark 78 = .ok (.aload_n 0, 1) := by decide +kernel
theorem dX10_mark_79 : decode cX10_mark 79 = .ok (.getfield 108, 3) := by decide +kernel
theorem dX10_mark_82 : decode cX10_mark 82 = .ok (.iconst 0, 1) := by decide +kernel
theorem dX10_mark_83 : decode cX10_mark 83 = .ok (.aload_n 0, 1) := by decide +kernel
theorem dX10_mark_84 : decode cX10_mark 84 = .ok (.getfield 114, 3) := by decide +kernel
theorem dX10_mark_87 : decode cX10_mark 87 = .ok (.bipush 96, 2) := by decide +kernel
theorem dX10_mark_89 : decode cX10_mark 89 = .ok (.iload_n 1, 1) := by decide +kernel
theorem dX10_mark_90 : decode cX10_mark 90 = .ok (.imul, 1) := by decide +kernel
theorem dX10_mark_91 : decode cX10_mark 91 = .ok (.invokestatic 396, 3) := by decide +kernel
theorem dX10_mark_94 : decode cX10_mark 94 = .ok (.iconst 1, 1) := by decide +kernel
theorem dX10_mark_95 : decode cX10_mark 95 = .ok (.ireturn, 1) := by decide +kernel
theorem dX10_count_0 : decode cX10_count 0 = .ok (.aload_n 0, 1) := by decide +kernel
theorem dX10_count_1 : decode cX10_count 1 = .ok (.iconst 0, 1) := by decide +kernel
theorem dX10_count_2 : decode cX10_count 2 = .ok (.putfield 135, 3) := by decide +kernel
theorem dX10_count_5 : decode cX10_count 5 = .ok (.iload_n 1, 1) := by decide +kernel
theorem dX10_count_6 : decode cX10_count 6 = .ok (.iconst 0, 1) := by decide +kernel
theorem dX10_count_7 : decode cX10_count 7 = .ok (.bipush 7, 2) := by decide +kernel
theorem dX10_count_9 : decode cX10_count 9 = .ok (.invokestatic 263, 3) := by decide +kernel
theorem dX10_count_12 : decode cX10_count 12 = .ok (.ifCond .ne 5, 3) := by decide +kernel
theorem dX10_count_15 : decode cX10_count 15 = .ok (.iconst (-1), 1) := by decide +kernel
theorem dX10_count_16 : decode cX10_count 16 = .ok (.ireturn, 1) := by decide +kernel
theorem dX10_count_17 : decode cX10_count 17 = .ok (.iload_n 1, 1) := by decide +kernel
theorem dX10_count_18 : decode cX10_count 18 = .ok (.iconst 4, 1) := by decide +kernel
theorem dX10_count_19 : decode cX10_count 19 = .ok (.if_icmp .ge 51, 3) := by decide +kernel
theorem dX10_count_22 : decode cX10_count 22 = .ok (.iload_n 1, 1) := by decide +kernel
theorem dX10_count_23 : decode cX10_count 23 = .ok (.ifCond .ne 12, 3) := by decide +kernel
theorem dX10_count_26 : decode cX10_count 26 = .ok (.aload_n 0, 1) := by decide +kernel
theorem dX10_count_27 : decode cX10_count 27 = .ok (.getfield 13, 3) := by decide +kernel
theorem dX10_count_30 : decode cX10_count 30 = .ok (.iconst 0, 1) := by decide +kernel
theorem dX10_count_31 : decode cX10_count 31 = .ok (.iaload, 1) := by decide +kernel
theorem dX10_count_32 : decode cX10_count 32 = .ok (.goto 37, 3) := by decide +kernel
theorem dX10_count_35 : decode cX10_count 35 = .ok (.iload_n 1, 1) := by decide +kernel
theorem dX10_count_36 : decode cX10_count 36 = .ok (.iconst 1, 1) := by decide +kernel
theorem dX10_count_37 : decode cX10_count 37 = .ok (.if_icmp .ne 12, 3) := by decide +kernel
theorem dX10_count_40 : decode cX10_count 40 = .ok (.aload_n 0, 1) := by decide +kernel
theorem dX10_count_41 : decode cX10_count 41 = .ok (.getfield 16, 3) := by decide +kernel
theorem dX10_count_44 : decode cX10_count 44 = .ok (.iconst 0, 1) := by decide +kernel
theorem dX10_count_45 : decode cX10_count 45 = .ok (.iaload, 1) := by decide +kernel
theorem dX10_count_46 : decode cX10_count 46 = .ok (.goto 23, 3) := by decide +kernel
theorem dX10_count_49 : decode cX10_count 49 = .ok (.iload_n 1, 1) := by decide +kernel
theorem dX10_count_50 : decode cX10_count 50 = .ok (.iconst 2, 1) := by decide +kernel
theorem dX10_count_51 : decode cX10_count 51 = .ok (.if_icmp .ne 12, 3) := by decide +kernel
theorem dX10_count_54 : decode cX10_count 54 = .ok (.aload_n 0, 1) := by decide +kernel
theorem dX10_count_55 : decode cX10_count 55 = .ok (.getfield 19, 3) := by decide +kernel
theorem dX10_count_58 : decode cX10_count 58 = .ok (.iconst 0, 1) := by decide +kernel
theorem dX10_count_59 : decode cX10_count 59 = .ok (.iaload, 1) := by decide +kernel
theorem dX10_count_60 : decode cX10_count 60 = .ok (.goto 9, 3) := by decide +kernel
theorem dX10_count_63 : decode cX10_count 63 = .ok (.aload_n 0, 1) := by decide +kernel
theorem dX10_count_64 : decode cX10_count 64 = .ok (.getfield 22, 3) := by decide +kernel
theorem dX10_count_67 : decode cX10_count 67 = .ok (.iconst 0, 1) := by decide +kernel
theorem dX10_count_68 : decode cX10_count 68 = .ok (.iaload, 1) := by decide +kernel
theorem dX10_count_69 : decode cX10_count 69 = .ok (.ireturn, 1) := by decide +kernel
theorem dX10_count_70 : decode cX10_count 70 = .ok (.iload_n 1, 1) := by decide +kernel
theorem dX10_count_71 : decode cX10_count 71 = .ok (.iconst 4, 1) := by decide +kernel
theorem dX10_count_72 : decode cX10_count 72 = .ok (.if_icmp .ne 13, 3) := by decide +kernel
theorem dX10_count_75 : decode cX10_count 75 = .ok (.aload_n 0, 1) := by decide +kernel
theorem dX10_count_76 : decode cX10_count 76 = .ok (.getfield 108, 3) := by decide +kernel
theorem dX10_count_79 : decode cX10_count 79 = .ok (.bipush 80, 2) := by decide +kernel
theorem dX10_count_81 : decode cX10_count 81 = .ok (.iaload, 1) := by decide +kernel
theorem dX10_count_82 : decode cX10_count 82 = .ok (.goto 34, 3) := by decide +kernel
theorem dX10_count_85 : decode cX10_count 85 = .ok (.iload_n 1, 1) := by decide +kernel
theorem dX10_count_86 : decode cX10_count 86 = .ok (.iconst 5, 1) := by decide +kernel
theorem dX10_count_87 : decode cX10_count 87 = .ok (.if_icmp .ne 10, 3) := by decide +kernel
theorem dX10_count_90 : decode cX10_count 90 = .ok (.aload_n 0, 1) := by decide +kernel
theorem dX10_count_91 : decode cX10_count 91 = .ok (.invokevirtual 422, 3) := by decide +kernel
theorem dX10_count_94 : decode cX10_count 94 = .ok (.goto 22, 3) := by decide +kernel
theorem dX10_count_97 : decode cX10_count 97 = .ok (.iload_n 1, 1) := by decide +kernel
theorem dX10_count_98 : decode cX10_count 98 = .ok (.bipush 6, 2) := by decide +kernel
theorem dX10_count_100 : decode cX10_count 100 = .ok (.if_icmp .ne 12, 3) := by decide +kernel
theorem dX10_count_103 : decode cX10_count 103 = .ok (.aload_n 0, 1) := by decide +kernel
theorem dX10_count_104 : decode cX10_count 104 = .ok (.getfield 25, 3) := by decide +kernel
theorem dX10_count_107 : decode cX10_count 107 = .ok (.iconst 0, 1) := by decide +kernel
theorem dX10_count_108 : decode cX10_count 108 = .ok (.iaload, 1) := by decide +kernel
theorem dX10_count_109 : decode cX10_count 109 = .ok (.goto 7, 3) := by decide +kernel
theorem dX10_count_112 : decode cX10_count 112 = .ok (.aload_n 0, 1) := by decide +kernel
theorem dX10_count_113 : decode cX10_count 113 = .ok (.getfield 141, 3) := by decide +kernel
theorem dX10_count_116 : decode cX10_count 116 = .ok (.ireturn, 1) := by decide +kernel
theorem dJ11_isValidCodePoint_9a6ad_0 : decode cJ11_isValidCodePoint_9a6ad 0 = .ok (.iload_n 0, 1) := by decide +kernel
theorem dJ11_isValidCodePoint_9a6ad_1 : decode cJ11_isValidCodePoint_9a6ad 1 = .ok (.bipush 16, 2) := by decide +kernel
theorem dJ11_isValidCodePoint_9a6ad_3 : decode cJ11_isValidCodePoint_9a6ad 3 = .ok (.iushr, 1) := by decide +kernel
theorem dJ11_isValidCodePoint_9a6ad_4 : decode cJ11_isValidCodePoint_9a6ad 4 = .ok (.istore_n 1, 1) := by decide +kernel
theorem dJ11_isValidCodePoint_9a6ad_5 : decode cJ11_isValidCodePoint_9a6ad 5 = .ok (.iload_n 1, 1) := by decide +kernel
theorem dJ11_isValidCodePoint_9a6ad_6 : decode cJ11_isValidCodePoint_9a6ad 6 = .ok (.bipush 17, 2) := by decide +kernel
theorem dJ11_isValidCodePoint_9a6ad_8 : decode cJ11_isValidCodePoint_9a6ad 8 = .ok (.if_icmp .ge 7, 3) := by decide +kernel
theorem dJ11_isValidCodePoint_9a6ad_11 : decode cJ11_isValidCodePoint_9a6ad 11 = .ok (.iconst 1, 1) := by decide +kernel
theorem dJ11_isValidCodePoint_9a6ad_12 : decode cJ11_isValidCodePoint_9a6ad 12 = .ok (.goto 4, 3) := by decide +kernel
theorem dJ11_isValidCodePoint_9a6ad_15 : decode cJ11_isValidCodePoint_9a6ad 15 = .ok (.iconst 0, 1) := by decide +kernel
theorem dJ11_isValidCodePoint_9a6ad_16 : decode cJ11_isValidCodePoint_9a6ad 16 = .ok (.ireturn, 1) := by decide +kernel
theorem dJ11_highSurrogate_5068e_0 : decode cJ11_highSurrogate_5068e 0 = .ok (.iload_n 0, 1) := by decide +kernel
theorem dJ11_highSurrogate_5068e_1 : decode cJ11_highSurrogate_5068e 1 = .ok (.bipush 10, 2) := by decide +kernel
theorem dJ11_highSurrogate_5068e_3 : decode cJ11_highSurrogate_5068e 3 = .ok (.iushr, 1) := by decide +kernel
theorem dJ11_highSurrogate_5068e_4 : decode cJ11_highSurrogate_5068e 4 = .ok (.ldc 110, 2) := by decide +kernel
theorem dJ11_highSurrogate_5068e_6 : decode cJ11_highSurrogate_5068e 6 = .ok (.iadd, 1) := by decide +kernel
theorem dJ11_highSurrogate_5068e_7 : decode cJ11_highSurrogate_5068e 7 = .ok (.i2c, 1) := by decide +kernel
theorem dJ11_highSurrogate_5068e_8 : decode cJ11_highSurrogate_5068e 8 = .ok (.ireturn, 1) := by decide +kernel
theorem dJ11_lowSurrogate_5068e_0 : decode cJ11_lowSurrogate_5068e 0 = .ok (.iload_n 0, 1) := by decide +kernel
theorem dJ11_lowSurrogate_5068e_1 : decode cJ11_lowSurrogate_5068e 1 = .ok (.sipush 1023, 3) := by decide +kernel
theorem dJ11_lowSurrogate_5068e_4 : decode cJ11_lowSurrogate_5068e 4 = .ok (.iand, 1) := by decide +kernel
theorem dJ11_lowSurrogate_5068e_5 : decode cJ11_lowSurrogate_5068e 5 = .ok (.ldc 76, 2) := by decide +kernel
theorem dJ11_lowSurrogate_5068e_7 : decode cJ11_lowSurrogate_5068e 7 = .ok (.iadd, 1) := by decide +kernel
theorem dJ11_lowSurrogate_5068e_8 : decode cJ11_lowSurrogate_5068e 8 = .ok (.i2c, 1) := by decide +kernel
theorem dJ11_lowSurrogate_5068e_9 : decode cJ11_lowSurrogate_5068e 9 = .ok (.ireturn, 1) := by decide +kernel
theorem dJ6_bitCount_0f7a4_0 : decode cJ6_bitCount_0f7a4 0 = .ok (.iload_n 0, 1) := by decide +kernel
theorem dJ6_bitCount_0f7a4_1 : decode cJ6_bitCount_0f7a4 1 = .ok (.iload_n 0, 1) := by decide +kernel
theorem dJ6_bitCount_0f7a4_2 : decode cJ6_bitCount_0f7a4 2 = .ok (.iconst 1, 1) := by decide +kernel
theorem dJ6_bitCount_0f7a4_3 : decode cJ6_bitCount_0f7a4 3 = .ok (.iushr, 1) := by decide +kernel
theorem dJ6_bitCount_0f7a4_4 : decode cJ6_bitCount_0f7a4 4 = .ok (.ldc_w 265, 3) := by decide +kernel
theorem dJ6_bitCount_0f7a4_7 : decode cJ6_bitCount_0f7a4 7 = .ok (.iand, 1) := by decide +kernel
theorem dJ6_bitCount_0f7a4_8 : decode cJ6_bitCount_0f7a4 8 = .ok (.isub, 1) := by decide +kernel
theorem dJ6_bitCount_0f7a4_9 : decode cJ6_bitCount_0f7a4 9 = .ok (.istore_n 0, 1) := by decide +kernel
theorem dJ6_bitCount_0f7a4_10 : decode cJ6_bitCount_0f7a4 10 = .ok (.iload_n 0, 1) := by decide +kernel
theorem dJ6_bitCount_0f7a4_11 : decode cJ6_bitCount_0f7a4 11 = .ok (.ldc_w 266, 3) := by decide +kernel
theorem dJ6_bitCount_0f7a4_14 : decode cJ6_bitCount_0f7a4 14 = .ok (.iand, 1) := by decide +kernel
theorem dJ6_bitCount_0f7a4_15 : decode cJ6_bitCount_0f7a4 15 = .ok (.iload_n 0, 1) := by decide +kernel
theorem dJ6_bitCount_0f7a4_16 : decode cJ6_bitCount_0f7a4 16 = .ok (.iconst 2, 1) := by decide +kernel
theorem dJ6_bitCount_0f7a4_17 : decode cJ6_bitCount_0f7a4 17 = .ok (.iushr, 1) := by decide +kernel
theorem dJ6_bitCount_0f7a4_18 : decode cJ6_bitCount_0f7a4 18 = .ok (.ldc_w 266, 3) := by decide +kernel
theorem dJ6_bitCount_0f7a4_21 : decode cJ6_bitCount_0f7a4 21 = .ok (.iand, 1) := by decide +kernel
theorem dJ6_bitCount_0f7a4_22 : decode cJ6_bitCount_0f7a4 22 = .ok (.iadd, 1) := by decide +kernel
theorem dJ6_bitCount_0f7a4_23 : decode cJ6_bitCount_0f7a4 23 = .ok (.istore_n 0, 1) := by decide +kernel
theorem dJ6_bitCount_0f7a4_24 : decode cJ6_bitCount_0f7a4 24 = .ok (.iload_n 0, 1) := by decide +kernel
theorem dJ6_bitCount_0f7a4_25 : decode cJ6_bitCount_0f7a4 25 = .ok (.iload_n 0, 1) := by decide +kernel
theorem dJ6_bitCount_0f7a4_26 : decode cJ6_bitCount_0f7a4 26 = .ok (.iconst 4, 1) := by decide +kernel
theorem dJ6_bitCount_0f7a4_27 : decode cJ6_bitCount_0f7a4 27 = .ok (.iushr, 1) := by decide +kernel
theorem dJ6_bitCount_0f7a4_28 : decode cJ6_bitCount_0f7a4 28 = .ok (.iadd, 1) := by decide +kernel
theorem dJ6_bitCount_0f7a4_29 : decode cJ6_bitCount_0f7a4 29 = .ok (.ldc_w 267, 3) := by decide +kernel
theorem dJ6_bitCount_0f7a4_32 : decode cJ6_bitCount_0f7a4 32 = .ok (.iand, 1) := by decide +kernel
theorem dJ6_bitCount_0f7a4_33 : decode cJ6_bitCount_0f7a4 33 = .ok (.istore_n 0, 1) := by decide +kernel
theorem dJ6_bitCount_0f7a4_34 : decode cJ6_bitCount_0f7a4 34 = .ok (.iload_n 0, 1) := by decide +kernel
theorem dJ6_bitCount_0f7a4_35 : decode cJ6_bitCount_0f7a4 35 = .ok (.iload_n 0, 1) := by decide +kernel
theorem dJ6_bitCount_0f7a4_36 : decode cJ6_bitCount_0f7a4 36 = .ok (.bipush 8, 2) := by decide +kernel
theorem dJ6_bitCount_0f7a4_38 : decode cJ6_bitCount_0f7a4 38 = .ok (.iushr, 1) := by decide +kernel
theorem dJ6_bitCount_0f7a4_39 : decode cJ6_bitCount_0f7a4 39 = .ok (.iadd, 1) := by decide +kernel
theorem dJ6_bitCount_0f7a4_40 : decode cJ6_bitCount_0f7a4 40 = .ok (.istore_n 0, 1) := by decide +kernel
theorem dJ6_bitCount_0f7a4_41 : decode cJ6_bitCount_0f7a4 41 = .ok (.iload_n 0, 1) := by decide +kernel
theorem dJ6_bitCount_0f7a4_42 : decode cJ6_bitCount_0f7a4 42 = .ok (.iload_n 0, 1) := by decide +kernel
theorem dJ6_bitCount_0f7a4_43 : decode cJ6_bitCount_0f7a4 43 = .ok (.bipush 16, 2) := by decide +kernel
theorem dJ6_bitCount_0f7a4_45 : decode cJ6_bitCount_0f7a4 45 = .ok (.iushr, 1) := by decide +kernel
theorem dJ6_bitCount_0f7a4_46 : decode cJ6_bitCount_0f7a4 46 = .ok (.iadd, 1) := by decide +kernel
theorem dJ6_bitCount_0f7a4_47 : decode cJ6_bitCount_0f7a4 47 = .ok (.istore_n 0, 1) := by decide +kernel
theorem dJ6_bitCount_0f7a4_48 : decode cJ6_bitCount_0f7a4 48 = .ok (.iload_n 0, 1) := by decide +kernel
theorem dJ6_bitCount_0f7a4_49 : decode cJ6_bitCount_0f7a4 49 = .ok (.bipush 63, 2) := by decide +kernel
theorem dJ6_bitCount_0f7a4_51 : decode cJ6_bitCount_0f7a4 51 = .ok (.iand, 1) := by decide +kernel
theorem dJ6_bitCount_0f7a4_52 : decode cJ6_bitCount_0f7a4 52 = .ok (.ireturn, 1) := by decide +kernel
theorem dJ9_floorMod_7cf53_0 : decode cJ9_floorMod_7cf53 0 = .ok (.iload_n 0, 1) := by decide +kernel
theorem dJ9_floorMod_7cf53_1 : decode cJ9_floorMod_7cf53 1 = .ok (.iload_n 1, 1) := by decide +kernel
theorem dJ9_floorMod_7cf53_2 : decode cJ9_floorMod_7cf53 2 = .ok (.irem, 1) := by decide +kernel
theorem dJ9_floorMod_7cf53_3 : decode cJ9_floorMod_7cf53 3 = .ok (.istore_n 2, 1) := by decide +kernel
theorem dJ9_floorMod_7cf53_4 : decode cJ9_floorMod_7cf53 4 = .ok (.iload_n 0, 1) := by decide +kernel
theorem dJ9_floorMod_7cf53_5 : decode cJ9_floorMod_7cf53 5 = .ok (.iload_n 1, 1) := by decide +kernel
theorem dJ9_floorMod_7cf53_6 : decode cJ9_floorMod_7cf53 6 = .ok (.ixor, 1) := by decide +kernel
theorem dJ9_floorMod_7cf53_7 : decode cJ9_floorMod_7cf53 7 = .ok (.ifCond .ge 11, 3) := by decide +kernel
theorem dJ9_floorMod_7cf53_10 : decode cJ9_floorMod_7cf53 10 = .ok (.iload_n 2, 1) := by decide +kernel
theorem dJ9_floorMod_7cf53_11 : decode cJ9_floorMod_7cf53 11 = .ok (.ifCond .eq 7, 3) := by decide +kernel
theorem dJ9_floorMod_7cf53_14 : decode cJ9_floorMod_7cf53 14 = .ok (.iload_n 2, 1) := by decide +kernel
theorem dJ9_floorMod_7cf53_15 : decode cJ9_floorMod_7cf53 15 = .ok (.iload_n 1, 1) := by decide +kernel
theorem dJ9_floorMod_7cf53_16 : decode cJ9_floorMod_7cf53 16 = .ok (.iadd, 1) := by decide +kernel
theorem dJ9_floorMod_7cf53_17 : decode cJ9_floorMod_7cf53 17 = .ok (.ireturn, 1) := by decide +kernel
theorem dJ9_floorMod_7cf53_18 : decode cJ9_floorMod_7cf53 18 = .ok (.iload_n 2, 1) := by decide +kernel
theorem dJ9_floorMod_7cf53_19 : decode cJ9_floorMod_7cf53 19 = .ok (.ireturn, 1) := by decide +kernel
theorem dJ9_max_7cf53_0 : decode cJ9_max_7cf53 0 = .ok (.iload_n 0, 1) := by decide +kernel
theorem dJ9_max_7cf53_1 : decode cJ9_max_7cf53 1 = .ok (.iload_n 1, 1) := by decide +kernel
theorem dJ9_max_7cf53_2 : decode cJ9_max_7cf53 2 = .ok (.if_icmp .lt 7, 3) := by decide +kernel
theorem dJ9_max_7cf53_5 : decode cJ9_max_7cf53 5 = .ok (.iload_n 0, 1) := by decide +kernel
theorem dJ9_max_7cf53_6 : decode cJ9_max_7cf53 6 = .ok (.goto 4, 3) := by decide +kernel
theorem dJ9_max_7cf53_9 : decode cJ9_max_7cf53 9 = .ok (.iload_n 1, 1) := by decide +kernel
theorem dJ9_max_7cf53_10 : decode cJ9_max_7cf53 10 = .ok (.ireturn, 1) := by decide +kernel
theorem dJ9_min_7cf53_0 : decode cJ9_min_7cf53 0 = .ok (.iload_n 0, 1) := by decide +kernel
theorem dJ9_min_7cf53_1 : decode cJ9_min_7cf53 1 = .ok (.iload_n 1, 1) := by decide +kernel
theorem dJ9_min_7cf53_2 : decode cJ9_min_7cf53 2 = .ok (.if_icmp .gt 7, 3) := by decide +kernel
theorem dJ9_min_7cf53_5 : decode cJ9_min_7cf53 5 = .ok (.iload_n 0, 1) := by decide +kernel
theorem dJ9_min_7cf53_6 : decode cJ9_min_7cf53 6 = .ok (.goto 4, 3) := by decide +kernel
theorem dJ9_min_7cf53_9 : decode cJ9_min_7cf53 9 = .ok (.iload_n 1, 1) := by decide +kernel
theorem dJ9_min_7cf53_10 : decode cJ9_min_7cf53 10 = .ok (.ireturn, 1) := by decide +kernel
theorem dJ0_length_8abf5_0 : decode cJ0_length_8abf5 0 = .ok (.aload_n 0, 1) := by decide +kernel
theorem dJ0_length_8abf5_1 : decode cJ0_length_8abf5 1 = .ok (.getfield 9, 3) := by decide +kernel
theorem dJ0_length_8abf5_4 : decode cJ0_length_8abf5 4 = .ok (.arraylength, 1) := by decide +kernel
theorem dJ0_length_8abf5_5 : decode cJ0_length_8abf5 5 = .ok (.aload_n 0, 1) := by decide +kernel
theorem dJ0_length_8abf5_6 : decode cJ0_length_8abf5 6 = .ok (.invokevirtual 335, 3) := by decide +kernel
theorem dJ0_length_8abf5_9 : decode cJ0_length_8abf5 9 = .ok (.ishr, 1) := by decide +kernel
theorem dJ0_length_8abf5_10 : decode cJ0_length_8abf5 10 = .ok (.ireturn, 1) := by decide +kernel
theorem dJ0_indexOf_0f7a4_0 : decode cJ0_indexOf_0f7a4 0 = .ok (.aload_n 0, 1) := by decide +kernel
theorem dJ0_indexOf_0f7a4_1 : decode cJ0_indexOf_0f7a4 1 = .ok (.iload_n 1, 1) := by decide +kernel
theorem dJ0_indexOf_0f7a4_2 : decode cJ0_indexOf_0f7a4 2 = .ok (.iconst 0, 1) := by decide +kernel
theorem dJ0_indexOf_0f7a4_3 : decode cJ0_indexOf_0f7a4 3 = .ok (.invokevirtual 633, 3) := by decide +kernel
theorem dJ0_indexOf_0f7a4_6 : decode cJ0_indexOf_0f7a4 6 = .ok (.ireturn, 1) := by decide +kernel
theorem dJ0_indexOf_7cf53_0 : decode cJ0_indexOf_7cf53 0 = .ok (.aload_n 0, 1) := by decide +kernel
theorem dJ0_indexOf_7cf53_1 : decode cJ0_indexOf_7cf53 1 = .ok (.invokevirtual 492, 3) := by decide +kernel
theorem dJ0_indexOf_7cf53_4 : decode cJ0_indexOf_7cf53 4 = .ok (.ifCond .eq 19, 3) := by decide +kernel
theorem dJ0_indexOf_7cf53_7 : decode cJ0_indexOf_7cf53 7 = .ok (.aload_n 0, 1) := by decide +kernel
theorem dJ0_indexOf_7cf53_8 : decode cJ0_indexOf_7cf53 8 = .ok (.getfield 9, 3) := by decide +kernel
theorem dJ0_indexOf_7cf53_11 : decode cJ0_indexOf_7cf53 11 = .ok (.iload_n 1, 1) := by decide +kernel
theorem dJ0_indexOf_7cf53_12 : decode cJ0_indexOf_7cf53 12 = .ok (.iload_n 2, 1) := by decide +kernel
theorem dJ0_indexOf_7cf53_13 : decode cJ0_indexOf_7cf53 13 = .ok (.aload_n 0, 1) := by decide +kernel
theorem dJ0_indexOf_7cf53_14 : decode cJ0_indexOf_7cf53 14 = .ok (.invokevirtual 505, 3) := by decide +kernel
theorem dJ0_indexOf_7cf53_17 : decode cJ0_indexOf_7cf53 17 = .ok (.invokestatic 637, 3) := by decide +kernel
theorem dJ0_indexOf_7cf53_20 : decode cJ0_indexOf_7cf53 20 = .ok (.goto 16, 3) := by decide +kernel
theorem dJ0_indexOf_7cf53_23 : decode cJ0_indexOf_7cf53 23 = .ok (.aload_n 0, 1) := by decide +kernel
theorem dJ0_indexOf_7cf53_24 : decode cJ0_indexOf_7cf53 24 = .ok (.getfield 9, 3) := by decide +kernel
theorem dJ0_indexOf_7cf53_27 : decode cJ0_indexOf_7cf53 27 = .ok (.iload_n 1, 1) := by decide +kernel
theorem dJ0_indexOf_7cf53_28 : decode cJ0_indexOf_7cf53 28 = .ok (.iload_n 2, 1) := by decide +kernel
theorem dJ0_indexOf_7cf53_29 : decode cJ0_indexOf_7cf53 29 = .ok (.aload_n 0, 1) := by decide +kernel
theorem dJ0_indexOf_7cf53_30 : decode cJ0_indexOf_7cf53 30 = .ok (.invokevirtual 505, 3) := by decide +kernel
theorem dJ0_indexOf_7cf53_33 : decode cJ0_indexOf_7cf53 33 = .ok (.invokestatic 640, 3) := by decide +kernel
theorem dJ0_indexOf_7cf53_36 : decode cJ0_indexOf_7cf53 36 = .ok (.ireturn, 1) := by decide +kernel
theorem dJ0_coder_7d493_0 : decode cJ0_coder_7d493 0 = .ok (.getstatic 38, 3) := by decide +kernel
theorem dJ0_coder_7d493_3 : decode cJ0_coder_7d493 3 = .ok (.ifCond .eq 10, 3) := by decide +kernel
theorem dJ0_coder_7d493_6 : decode cJ0_coder_7d493 6 = .ok (.aload_n 0, 1) := by decide +kernel
theorem dJ0_coder_7d493_7 : decode cJ0_coder_7d493 7 = .ok (.getfield 15, 3) := by decide +kernel
theorem dJ0_coder_7d493_10 : decode cJ0_coder_7d493 10 = .ok (.goto 4, 3) := by decide +kernel
theorem dJ0_coder_7d493_13 : decode cJ0_coder_7d493 13 = .ok (.iconst 1, 1) := by decide +kernel
theorem dJ0_coder_7d493_14 : decode cJ0_coder_7d493 14 = .ok (.ireturn, 1) := by decide +kernel
theorem dJ0_isLatin1_aae02_0 : decode cJ0_isLatin1_aae02 0 = .ok (.getstatic 38, 3) := by decide +kernel
theorem dJ0_isLatin1_aae02_3 : decode cJ0_isLatin1_aae02 3 = .ok (.ifCond .eq 14, 3) := by decide +kernel
theorem dJ0_isLatin1_aae02_6 : decode cJ0_isLatin1_aae02 6 = .ok (.aload_n 0, 1) := by decide +kernel
theorem dJ0_isLatin1_aae02_7 : decode cJ0_isLatin1_aae02 7 = .ok (.getfield 15, 3) := by decide +kernel
theorem dJ0_isLatin1_aae02_10 : decode cJ0_isLatin1_aae02 10 = .ok (.ifCond .ne 7, 3) := by decide +kernel
theorem dJ0_isLatin1_aae02_13 : decode cJ0_isLatin1_aae02 13 = .ok (.iconst 1, 1) := by decide +kernel
theorem dJ0_isLatin1_aae02_14 : decode cJ0_isLatin1_aae02 14 = .ok (.goto 4, 3) := by decide +kernel
theorem dJ0_isLatin1_aae02_17 : decode cJ0_isLatin1_aae02 17 = .ok (.iconst 0, 1) := by decide +kernel
theorem dJ0_isLatin1_aae02_18 : decode cJ0_isLatin1_aae02 18 = .ok (.ireturn, 1) := by decide +kernel
theorem dJ0_checkBoundsBeginEnd_23922_0 : decode cJ0_checkBoundsBeginEnd_23922 0 = .ok (.iload_n 0, 1) := by decide +kernel
theorem dJ0_checkBoundsBeginEnd_23922_1 : decode cJ0_checkBoundsBeginEnd_23922 1 = .ok (.iload_n 1, 1) := by decide +kernel
theorem dJ0_checkBoundsBeginEnd_23922_2 : decode cJ0_checkBoundsBeginEnd_23922 2 = .ok (.iload_n 2, 1) := by decide +kernel
theorem dJ0_checkBoundsBeginEnd_23922_3 : decode cJ0_checkBoundsBeginEnd_23922 3 = .ok (.getstatic 1053, 3) := by decide +kernel
theorem dJ0_checkBoundsBeginEnd_23922_6 : decode cJ0_checkBoundsBeginEnd_23922 6 = .ok (.invokestatic 1062, 3) := by decide +kernel
theorem dJ0_checkBoundsBeginEnd_23922_9 : decode cJ0_checkBoundsBeginEnd_23922 9 = .ok (.pop, 1) := by decide +kernel
theorem dJ0_checkBoundsBeginEnd_23922_10 : decode cJ0_checkBoundsBeginEnd_23922 10 = .ok (.return_, 1) := by decide +kernel
theorem dJ1_canEncode_9a6ad_0 : decode cJ1_canEncode_9a6ad 0 = .ok (.iload_n 0, 1) := by decide +kernel
theorem dJ1_canEncode_9a6ad_1 : decode cJ1_canEncode_9a6ad 1 = .ok (.ifCond .lt 14, 3) := by decide +kernel
theorem dJ1_canEncode_9a6ad_4 : decode cJ1_canEncode_9a6ad 4 = .ok (.iload_n 0, 1) := by decide +kernel
theorem dJ1_canEncode_9a6ad_5 : decode cJ1_canEncode_9a6ad 5 = .ok (.sipush 255, 3) := by decide +kernel
theorem dJ1_canEncode_9a6ad_8 : decode cJ1_canEncode_9a6ad 8 = .ok (.if_icmp .gt 7, 3) := by decide +kernel
theorem dJ1_canEncode_9a6ad_11 : decode cJ1_canEncode_9a6ad 11 = .ok (.iconst 1, 1) := by decide +kernel
theorem dJ1_canEncode_9a6ad_12 : decode cJ1_canEncode_9a6ad 12 = .ok (.goto 4, 3) := by decide +kernel
theorem dJ1_canEncode_9a6ad_15 : decode cJ1_canEncode_9a6ad 15 = .ok (.iconst 0, 1) := by decide +kernel
theorem dJ1_canEncode_9a6ad_16 : decode cJ1_canEncode_9a6ad 16 = .ok (.ireturn, 1) := by decide +kernel
theorem dJ1_indexOf_4cfef_0 : decode cJ1_indexOf_4cfef 0 = .ok (.iload_n 1, 1) := by decide +kernel
theorem dJ1_indexOf_4cfef_1 : decode cJ1_indexOf_4cfef 1 = .ok (.invokestatic 88, 3) := by decide +kernel
theorem dJ1_indexOf_4cfef_4 : decode cJ1_indexOf_4cfef 4 = .ok (.ifCond .ne 5, 3) := by decide +kernel
theorem dJ1_indexOf_4cfef_7 : decode cJ1_indexOf_4cfef 7 = .ok (.iconst (-1), 1) := by decide +kernel
theorem dJ1_indexOf_4cfef_8 : decode cJ1_indexOf_4cfef 8 = .ok (.ireturn, 1) := by decide +kernel
theorem dJ1_indexOf_4cfef_9 : decode cJ1_indexOf_4cfef 9 = .ok (.iload_n 2, 1) := by decide +kernel
theorem dJ1_indexOf_4cfef_10 : decode cJ1_indexOf_4cfef 10 = .ok (.iconst 0, 1) := by decide +kernel
theorem dJ1_indexOf_4cfef_11 : decode cJ1_indexOf_4cfef 11 = .ok (.invokestatic 92, 3) := by decide +kernel
theorem dJ1_indexOf_4cfef_14 : decode cJ1_indexOf_4cfef 14 = .ok (.istore_n 2, 1) := by decide +kernel
theorem dJ1_indexOf_4cfef_15 : decode cJ1_indexOf_4cfef 15 = .ok (.iload_n 3, 1) := by decide +kernel
theorem dJ1_indexOf_4cfef_16 : decode cJ1_indexOf_4cfef 16 = .ok (.aload_n 0, 1) := by decide +kernel
theorem dJ1_indexOf_4cfef_17 : decode cJ1_indexOf_4cfef 17 = .ok (.arraylength, 1) := by decide +kernel
theorem dJ1_indexOf_4cfef_18 : decode cJ1_indexOf_4cfef 18 = .ok (.invokestatic 38, 3) := by decide +kernel
theorem dJ1_indexOf_4cfef_21 : decode cJ1_indexOf_4cfef 21 = .ok (.istore_n 3, 1) := by decide +kernel
theorem dJ1_indexOf_4cfef_22 : decode cJ1_indexOf_4cfef 22 = .ok (.iload_n 2, 1) := by decide +kernel
theorem dJ1_indexOf_4cfef_23 : decode cJ1_indexOf_4cfef 23 = .ok (.iload_n 3, 1) := by decide +kernel
theorem dJ1_indexOf_4cfef_24 : decode cJ1_indexOf_4cfef 24 = .ok (.if_icmp .lt 5, 3) := by decide +kernel
theorem dJ1_indexOf_4cfef_27 : decode cJ1_indexOf_4cfef 27 = .ok (.iconst (-1), 1) := by decide +kernel
theorem dJ1_indexOf_4cfef_28 : decode cJ1_indexOf_4cfef 28 = .ok (.ireturn, 1) := by decide +kernel
theorem dJ1_indexOf_4cfef_29 : decode cJ1_indexOf_4cfef 29 = .ok (.aload_n 0, 1) := by decide +kernel
theorem dJ1_indexOf_4cfef_30 : decode cJ1_indexOf_4cfef 30 = .ok (.iload_n 1, 1) := by decide +kernel
theorem dJ1_indexOf_4cfef_31 : decode cJ1_indexOf_4cfef 31 = .ok (.iload_n 2, 1) := by decide +kernel
theorem dJ1_indexOf_4cfef_32 : decode cJ1_indexOf_4cfef 32 = .ok (.iload_n 3, 1) := by decide +kernel
theorem dJ1_indexOf_4cfef_33 : decode cJ1_indexOf_4cfef 33 = .ok (.invokestatic 95, 3) := by decide +kernel
theorem dJ1_indexOf_4cfef_36 : decode cJ1_indexOf_4cfef 36 = .ok (.ireturn, 1) := by decide +kernel
theorem dJ1_indexOfChar_4cfef_0 : decode cJ1_indexOfChar_4cfef 0 = .ok (.iload_n 1, 1) := by decide +kernel
theorem dJ1_indexOfChar_4cfef_1 : decode cJ1_indexOfChar_4cfef 1 = .ok (.i2b, 1) := by decide +kernel
theorem dJ1_indexOfChar_4cfef_2 : decode cJ1_indexOfChar_4cfef 2 = .ok (.istore 4, 2) := by decide +kernel
theorem dJ1_indexOfChar_4cfef_4 : decode cJ1_indexOfChar_4cfef 4 = .ok (.iload_n 2, 1) := by decide +kernel
theorem dJ1_indexOfChar_4cfef_5 : decode cJ1_indexOfChar_4cfef 5 = .ok (.istore 5, 2) := by decide +kernel
theorem dJ1_indexOfChar_4cfef_7 : decode cJ1_indexOfChar_4cfef 7 = .ok (.iload 5, 2) := by decide +kernel
theorem dJ1_indexOfChar_4cfef_9 : decode cJ1_indexOfChar_4cfef 9 = .ok (.iload_n 3, 1) := by decide +kernel
theorem dJ1_indexOfChar_4cfef_10 : decode cJ1_indexOfChar_4cfef 10 = .ok (.if_icmp .ge 21, 3) := by decide +kernel
theorem dJ1_indexOfChar_4cfef_13 : decode cJ1_indexOfChar_4cfef 13 = .ok (.aload_n 0, 1) := by decide +kernel
theorem dJ1_indexOfChar_4cfef_14 : decode cJ1_indexOfChar_4cfef 14 = .ok (.iload 5, 2) := by decide +kernel
theorem dJ1_indexOfChar_4cfef_16 : decode cJ1_indexOfChar_4cfef 16 = .ok (.baload, 1) := by decide +kernel
theorem dJ1_indexOfChar_4cfef_17 : decode cJ1_indexOfChar_4cfef 17 = .ok (.iload 4, 2) := by decide +kernel
theorem dJ1_indexOfChar_4cfef_19 : decode cJ1_indexOfChar_4cfef 19 = .ok (.if_icmp .ne 6, 3) := by decide +kernel
theorem dJ1_indexOfChar_4cfef_22 : decode cJ1_indexOfChar_4cfef 22 = .ok (.iload 5, 2) := by decide +kernel
theorem dJ1_indexOfChar_4cfef_24 : decode cJ1_indexOfChar_4cfef 24 = .ok (.ireturn, 1) := by decide +kernel
theorem dJ1_indexOfChar_4cfef_25 : decode cJ1_indexOfChar_4cfef 25 = .ok (.iinc 5 1, 3) := by decide +kernel
theorem dJ1_indexOfChar_4cfef_28 : decode cJ1_indexOfChar_4cfef 28 = .ok (.goto (-21), 3) := by decide +kernel
theorem dJ1_indexOfChar_4cfef_31 : decode cJ1_indexOfChar_4cfef 31 = .ok (.iconst (-1), 1) := by decide +kernel
theorem dJ1_indexOfChar_4cfef_32 : decode cJ1_indexOfChar_4cfef 32 = .ok (.ireturn, 1) := by decide +kernel
theorem dJ2_getChar_3b067_0 : decode cJ2_getChar_3b067 0 = .ok (.getstatic 44, 3) := by decide +kernel
theorem dJ2_getChar_3b067_3 : decode cJ2_getChar_3b067 3 = .ok (.ifCond .ne 25, 3) := by decide +kernel
theorem dJ2_getChar_3b067_6 : decode cJ2_getChar_3b067 6 = .ok (.iload_n 1, 1) := by decide +kernel
theorem dJ2_getChar_3b067_7 : decode cJ2_getChar_3b067 7 = .ok (.ifCond .lt 11, 3) := by decide +kernel
theorem dJ2_getChar_3b067_10 : decode cJ2_getChar_3b067 10 = .ok (.iload_n 1, 1) := by decide +kernel
theorem dJ2_getChar_3b067_11 : decode cJ2_getChar_3b067 11 = .ok (.aload_n 0, 1) := by decide +kernel
theorem dJ2_getChar_3b067_12 : decode cJ2_getChar_3b067 12 = .ok (.invokestatic 48, 3) := by decide +kernel
theorem dJ2_getChar_3b067_15 : decode cJ2_getChar_3b067 15 = .ok (.if_icmp .lt 13, 3) := by decide +kernel
theorem dJ2_getChar_3b067_18 : decode cJ2_getChar_3b067 18 = .ok (.new 52, 3) := by decide +kernel
theorem dJ2_getChar_3b067_21 : decode cJ2_getChar_3b067 21 = .ok (.dup, 1) := by decide +kernel
theorem dJ2_getChar_3b067_22 : decode cJ2_getChar_3b067 22 = .ok (.ldc 54, 2) := by decide +kernel
theorem dJ2_getChar_3b067_24 : decode cJ2_getChar_3b067 24 = .ok (.invokespecial 56, 3) := by decide +kernel
theorem dJ2_getChar_3b067_27 : decode cJ2_getChar_3b067 27 = .ok (.athrow, 1) := by decide +kernel
theorem dJ2_getChar_3b067_28 : decode cJ2_getChar_3b067 28 = .ok (.iload_n 1, 1) := by decide +kernel
theorem dJ2_getChar_3b067_29 : decode cJ2_getChar_3b067 29 = .ok (.iconst 1, 1) := by decide +kernel
theorem dJ2_getChar_3b067_30 : decode cJ2_getChar_3b067 30 = .ok (.ishl, 1) := by decide +kernel
theorem dJ2_getChar_3b067_31 : decode cJ2_getChar_3b067 31 = .ok (.istore_n 1, 1) := by decide +kernel
theorem dJ2_getChar_3b067_32 : decode cJ2_getChar_3b067 32 = .ok (.aload_n 0, 1) := by decide +kernel
theorem dJ2_getChar_3b067_33 : decode cJ2_getChar_3b067 33 = .ok (.iload_n 1, 1) := by decide +kernel
theorem dJ2_getChar_3b067_34 : decode cJ2_getChar_3b067 34 = .ok (.iinc 1 1, 3) := by decide +kernel
theorem dJ2_getChar_3b067_37 : decode cJ2_getChar_3b067 37 = .ok (.baload, 1) := by decide +kernel
theorem dJ2_getChar_3b067_38 : decode cJ2_getChar_3b067 38 = .ok (.sipush 255, 3) := by decide +kernel
theorem dJ2_getChar_3b067_41 : decode cJ2_getChar_3b067 41 = .ok (.iand, 1) := by decide +kernel
theorem dJ2_getChar_3b067_42 : decode cJ2_getChar_3b067 42 = .ok (.getstatic 59, 3) := by decide +kernel
theorem dJ2_getChar_3b067_45 : decode cJ2_getChar_3b067 45 = .ok (.ishl, 1) := by decide +kernel
theorem dJ2_getChar_3b067_46 : decode cJ2_getChar_3b067 46 = .ok (.aload_n 0, 1) := by decide +kernel
theorem dJ2_getChar_3b067_47 : decode cJ2_getChar_3b067 47 = .ok (.iload_n 1, 1) := by decide +kernel
theorem dJ2_getChar_3b067_48 : decode cJ2_getChar_3b067 48 = .ok (.baload, 1) := by decide +kernel
theorem dJ2_getChar_3b067_49 : decode cJ2_getChar_3b067 49 = .ok (.sipush 255, 3) := by decide +kernel
theorem dJ2_getChar_3b067_52 : decode cJ2_getChar_3b067 52 = .ok (.iand, 1) := by decide +kernel
theorem dJ2_getChar_3b067_53 : decode cJ2_getChar_3b067 53 = .ok (.getstatic 63, 3) := by decide +kernel
theorem dJ2_getChar_3b067_56 : decode cJ2_getChar_3b067 56 = .ok (.ishl, 1) := by decide +kernel
theorem dJ2_getChar_3b067_57 : decode cJ2_getChar_3b067 57 = .ok (.ior, 1) := by decide +kernel
theorem dJ2_getChar_3b067_58 : decode cJ2_getChar_3b067 58 = .ok (.i2c, 1) := by decide +kernel
theorem dJ2_getChar_3b067_59 : decode cJ2_getChar_3b067 59 = .ok (.ireturn, 1) := by decide +kernel
theorem dJ2_length_9d52b_0 : decode cJ2_length_9d52b 0 = .ok (.aload_n 0, 1) := by decide +kernel
theorem dJ2_length_9d52b_1 : decode cJ2_length_9d52b 1 = .ok (.arraylength, 1) := by decide +kernel
theorem dJ2_length_9d52b_2 : decode cJ2_length_9d52b 2 = .ok (.iconst 1, 1) := by decide +kernel
theorem dJ2_length_9d52b_3 : decode cJ2_length_9d52b 3 = .ok (.ishr, 1) := by decide +kernel
theorem dJ2_length_9d52b_4 : decode cJ2_length_9d52b 4 = .ok (.ireturn, 1) := by decide +kernel
theorem dJ2_indexOf_4cfef_0 : decode cJ2_indexOf_4cfef 0 = .ok (.iload_n 2, 1) := by decide +kernel
theorem dJ2_indexOf_4cfef_1 : decode cJ2_indexOf_4cfef 1 = .ok (.iconst 0, 1) := by decide +kernel
theorem dJ2_indexOf_4cfef_2 : decode cJ2_indexOf_4cfef 2 = .ok (.invokestatic 224, 3) := by decide +kernel
theorem dJ2_indexOf_4cfef_5 : decode cJ2_indexOf_4cfef 5 = .ok (.istore_n 2, 1) := by decide +kernel
theorem dJ2_indexOf_4cfef_6 : decode cJ2_indexOf_4cfef 6 = .ok (.iload_n 3, 1) := by decide +kernel
theorem dJ2_indexOf_4cfef_7 : decode cJ2_indexOf_4cfef 7 = .ok (.aload_n 0, 1) := by decide +kernel
theorem dJ2_indexOf_4cfef_8 : decode cJ2_indexOf_4cfef 8 = .ok (.arraylength, 1) := by decide +kernel
theorem dJ2_indexOf_4cfef_9 : decode cJ2_indexOf_4cfef 9 = .ok (.iconst 1, 1) := by decide +kernel
theorem dJ2_indexOf_4cfef_10 : decode cJ2_indexOf_4cfef 10 = .ok (.ishr, 1) := by decide +kernel
theorem dJ2_indexOf_4cfef_11 : decode cJ2_indexOf_4cfef 11 = .ok (.invokestatic 183, 3) := by decide +kernel
theorem dJ2_indexOf_4cfef_14 : decode cJ2_indexOf_4cfef 14 = .ok (.istore_n 3, 1) := by decide +kernel
theorem dJ2_indexOf_4cfef_15 : decode cJ2_indexOf_4cfef 15 = .ok (.iload_n 2, 1) := by decide +kernel
theorem dJ2_indexOf_4cfef_16 : decode cJ2_indexOf_4cfef 16 = .ok (.iload_n 3, 1) := by decide +kernel
theorem dJ2_indexOf_4cfef_17 : decode cJ2_indexOf_4cfef 17 = .ok (.if_icmp .lt 5, 3) := by decide +kernel
theorem dJ2_indexOf_4cfef_20 : decode cJ2_indexOf_4cfef 20 = .ok (.iconst (-1), 1) := by decide +kernel
theorem dJ2_indexOf_4cfef_21 : decode cJ2_indexOf_4cfef 21 = .ok (.ireturn, 1) := by decide +kernel
theorem dJ2_indexOf_4cfef_22 : decode cJ2_indexOf_4cfef 22 = .ok (.iload_n 1, 1) := by decide +kernel
theorem dJ2_indexOf_4cfef_23 : decode cJ2_indexOf_4cfef 23 = .ok (.ldc 227, 2) := by decide +kernel
theorem dJ2_indexOf_4cfef_25 : decode cJ2_indexOf_4cfef 25 = .ok (.if_icmp .ge 11, 3) := by decide +kernel
theorem dJ2_indexOf_4cfef_28 : decode cJ2_indexOf_4cfef 28 = .ok (.aload_n 0, 1) := by decide +kernel
theorem dJ2_indexOf_4cfef_29 : decode cJ2_indexOf_4cfef 29 = .ok (.iload_n 1, 1) := by decide +kernel
theorem dJ2_indexOf_4cfef_30 : decode cJ2_indexOf_4cfef 30 = .ok (.iload_n 2, 1) := by decide +kernel
theorem dJ2_indexOf_4cfef_31 : decode cJ2_indexOf_4cfef 31 = .ok (.iload_n 3, 1) := by decide +kernel
theorem dJ2_indexOf_4cfef_32 : decode cJ2_indexOf_4cfef 32 = .ok (.invokestatic 228, 3) := by decide +kernel
theorem dJ2_indexOf_4cfef_35 : decode cJ2_indexOf_4cfef 35 = .ok (.ireturn, 1) := by decide +kernel
theorem dJ2_indexOf_4cfef_36 : decode cJ2_indexOf_4cfef 36 = .ok (.aload_n 0, 1) := by decide +kernel
theorem dJ2_indexOf_4cfef_37 : decode cJ2_indexOf_4cfef 37 = .ok (.iload_n 1, 1) := by decide +kernel
theorem dJ2_indexOf_4cfef_38 : decode cJ2_indexOf_4cfef 38 = .ok (.iload_n 2, 1) := by decide +kernel
theorem dJ2_indexOf_4cfef_39 : decode cJ2_indexOf_4cfef 39 = .ok (.iload_n 3, 1) := by decide +kernel
theorem dJ2_indexOf_4cfef_40 : decode cJ2_indexOf_4cfef 40 = .ok (.invokestatic 232, 3) := by decide +kernel
theorem dJ2_indexOf_4cfef_43 : decode cJ2_indexOf_4cfef 43 = .ok (.ireturn, 1) := by decide +kernel
theorem dJ2_indexOfChar_4cfef_0 : decode cJ2_indexOfChar_4cfef 0 = .ok (.iload_n 2, 1) := by decide +kernel
theorem dJ2_indexOfChar_4cfef_1 : decode cJ2_indexOfChar_4cfef 1 = .ok (.iload_n 3, 1) := by decide +kernel
theorem dJ2_indexOfChar_4cfef_2 : decode cJ2_indexOfChar_4cfef 2 = .ok (.aload_n 0, 1) := by decide +kernel
theorem dJ2_indexOfChar_4cfef_3 : decode cJ2_indexOfChar_4cfef 3 = .ok (.invokestatic 96, 3) := by decide +kernel
theorem dJ2_indexOfChar_4cfef_6 : decode cJ2_indexOfChar_4cfef 6 = .ok (.aload_n 0, 1) := by decide +kernel
theorem dJ2_indexOfChar_4cfef_7 : decode cJ2_indexOfChar_4cfef 7 = .ok (.iload_n 1, 1) := by decide +kernel
theorem dJ2_indexOfChar_4cfef_8 : decode cJ2_indexOfChar_4cfef 8 = .ok (.iload_n 2, 1) := by decide +kernel
theorem dJ2_indexOfChar_4cfef_9 : decode cJ2_indexOfChar_4cfef 9 = .ok (.iload_n 3, 1) := by decide +kernel
theorem dJ2_indexOfChar_4cfef_10 : decode cJ2_indexOfChar_4cfef 10 = .ok (.invokestatic 244, 3) := by decide +kernel
theorem dJ2_indexOfChar_4cfef_13 : decode cJ2_indexOfChar_4cfef 13 = .ok (.ireturn, 1) := by decide +kernel
theorem dJ2_indexOfCharUnsafe_4cfef_0 : decode cJ2_indexOfCharUnsafe_4cfef 0 = .ok (.iload_n 2, 1) := by decide +kernel
theorem dJ2_indexOfCharUnsafe_4cfef_1 : decode cJ2_indexOfCharUnsafe_4cfef 1 = .ok (.istore 4, 2) := by decide +kernel
theorem dJ2_indexOfCharUnsafe_4cfef_3 : decode cJ2_indexOfCharUnsafe_4cfef 3 = .ok (.iload 4, 2) := by decide +kernel
theorem dJ2_indexOfCharUnsafe_4cfef_5 : decode cJ2_indexOfCharUnsafe_4cfef 5 = .ok (.iload_n 3, 1) := by decide +kernel
theorem dJ2_indexOfCharUnsafe_4cfef_6 : decode cJ2_indexOfCharUnsafe_4cfef 6 = .ok (.if_icmp .ge 22, 3) := by decide +kernel
theorem dJ2_indexOfCharUnsafe_4cfef_9 : decode cJ2_indexOfCharUnsafe_4cfef 9 = .ok (.aload_n 0, 1) := by decide +kernel
theorem dJ2_indexOfCharUnsafe_4cfef_10 : decode cJ2_indexOfCharUnsafe_4cfef 10 = .ok (.iload 4, 2) := by decide +kernel
theorem dJ2_indexOfCharUnsafe_4cfef_12 : decode cJ2_indexOfCharUnsafe_4cfef 12 = .ok (.invokestatic 71, 3) := by decide +kernel
theorem dJ2_indexOfCharUnsafe_4cfef_15 : decode cJ2_indexOfCharUnsafe_4cfef 15 = .ok (.iload_n 1, 1) := by decide +kernel
theorem dJ2_indexOfCharUnsafe_4cfef_16 : decode cJ2_indexOfCharUnsafe_4cfef 16 = .ok (.if_icmp .ne 6, 3) := by decide +kernel
theorem dJ2_indexOfCharUnsafe_4cfef_19 : decode cJ2_indexOfCharUnsafe_4cfef 19 = .ok (.iload 4, 2) := by decide +kernel
theorem dJ2_indexOfCharUnsafe_4cfef_21 : decode cJ2_indexOfCharUnsafe_4cfef 21 = .ok (.ireturn, 1) := by decide +kernel
theorem dJ2_indexOfCharUnsafe_4cfef_22 : decode cJ2_indexOfCharUnsafe_4cfef 22 = .ok (.iinc 4 1, 3) := by decide +kernel
theorem dJ2_indexOfCharUnsafe_4cfef_25 : decode cJ2_indexOfCharUnsafe_4cfef 25 = .ok (.goto (-22), 3) := by decide +kernel
theorem dJ2_indexOfCharUnsafe_4cfef_28 : decode cJ2_indexOfCharUnsafe_4cfef 28 = .ok (.iconst (-1), 1) := by decide +kernel
theorem dJ2_indexOfCharUnsafe_4cfef_29 : decode cJ2_indexOfCharUnsafe_4cfef 29 = .ok (.ireturn, 1) := by decide +kernel
theorem dJ2_indexOfSupplementary_4cfef_0 : decode cJ2_indexOfSupplementary_4cfef 0 = .ok (.iload_n 1, 1) := by decide +kernel
theorem dJ2_indexOfSupplementary_4cfef_1 : decode cJ2_indexOfSupplementary_4cfef 1 = .ok (.invokestatic 164, 3) := by decide +kernel
theorem dJ2_indexOfSupplementary_4cfef_4 : decode cJ2_indexOfSupplementary_4cfef 4 = .ok (.ifCond .eq 65, 3) := by decide +kernel
theorem dJ2_indexOfSupplementary_4cfef_7 : decode cJ2_indexOfSupplementary_4cfef 7 = .ok (.iload_n 1, 1) := by decide +kernel
theorem dJ2_indexOfSupplementary_4cfef_8 : decode cJ2_indexOfSupplementary_4cfef 8 = .ok (.invokestatic 157, 3) := by decide +kernel
theorem dJ2_indexOfSupplementary_4cfef_11 : decode cJ2_indexOfSupplementary_4cfef 11 = .ok (.istore 4, 2) := by decide +kernel
theorem dJ2_indexOfSupplementary_4cfef_13 : decode cJ2_indexOfSupplementary_4cfef 13 = .ok (.iload_n 1, 1) := by decide +kernel
theorem dJ2_indexOfSupplementary_4cfef_14 : decode cJ2_indexOfSupplementary_4cfef 14 = .ok (.invokestatic 161, 3) := by decide +kernel
theorem dJ2_indexOfSupplementary_4cfef_17 : decode cJ2_indexOfSupplementary_4cfef 17 = .ok (.istore 5, 2) := by decide +kernel
theorem dJ2_indexOfSupplementary_4cfef_19 : decode cJ2_indexOfSupplementary_4cfef 19 = .ok (.iload_n 2, 1) := by decide +kernel
theorem dJ2_indexOfSupplementary_4cfef_20 : decode cJ2_indexOfSupplementary_4cfef 20 = .ok (.iload_n 3, 1) := by decide +kernel
theorem dJ2_indexOfSupplementary_4cfef_21 : decode cJ2_indexOfSupplementary_4cfef 21 = .ok (.aload_n 0, 1) := by decide +kernel
theorem dJ2_indexOfSupplementary_4cfef_22 : decode cJ2_indexOfSupplementary_4cfef 22 = .ok (.invokestatic 96, 3) := by decide +kernel
theorem dJ2_indexOfSupplementary_4cfef_25 : decode cJ2_indexOfSupplementary_4cfef 25 = .ok (.iload_n 2, 1) := by decide +kernel
theorem dJ2_indexOfSupplementary_4cfef_26 : decode cJ2_indexOfSupplementary_4cfef 26 = .ok (.istore 6, 2) := by decide +kernel
theorem dJ2_indexOfSupplementary_4cfef_28 : decode cJ2_indexOfSupplementary_4cfef 28 = .ok (.iload 6, 2) := by decide +kernel
theorem dJ2_indexOfSupplementary_4cfef_30 : decode cJ2_indexOfSupplementary_4cfef 30 = .ok (.iload_n 3, 1) := by decide +kernel
theorem dJ2_indexOfSupplementary_4cfef_31 : decode cJ2_indexOfSupplementary_4cfef 31 = .ok (.iconst 1, 1) := by decide +kernel
theorem dJ2_indexOfSupplementary_4cfef_32 : decode cJ2_indexOfSupplementary_4cfef 32 = .ok (.isub, 1) := by decide +kernel
theorem dJ2_indexOfSupplementary_4cfef_33 : decode cJ2_indexOfSupplementary_4cfef 33 = .ok (.if_icmp .ge 36, 3) := by decide +kernel
theorem dJ2_indexOfSupplementary_4cfef_36 : decode cJ2_indexOfSupplementary_4cfef 36 = .ok (.aload_n 0, 1) := by decide +kernel
theorem dJ2_indexOfSupplementary_4cfef_37 : decode cJ2_indexOfSupplementary_4cfef 37 = .ok (.iload 6, 2) := by decide +kernel
theorem dJ2_indexOfSupplementary_4cfef_39 : decode cJ2_indexOfSupplementary_4cfef 39 = .ok (.invokestatic 71, 3) := by decide +kernel
theorem dJ2_indexOfSupplementary_4cfef_42 : decode cJ2_indexOfSupplementary_4cfef 42 = .ok (.iload 4, 2) := by decide +kernel
theorem dJ2_indexOfSupplementary_4cfef_44 : decode cJ2_indexOfSupplementary_4cfef 44 = .ok (.if_icmp .ne 19, 3) := by decide +kernel
theorem dJ2_indexOfSupplementary_4cfef_47 : decode cJ2_indexOfSupplementary_4cfef 47 = .ok (.aload_n 0, 1) := by decide +kernel
theorem dJ2_indexOfSupplementary_4cfef_48 : decode cJ2_indexOfSupplementary_4cfef 48 = .ok (.iload 6, 2) := by decide +kernel
theorem dJ2_indexOfSupplementary_4cfef_50 : decode cJ2_indexOfSupplementary_4cfef 50 = .ok (.iconst 1, 1) := by decide +kernel
theorem dJ2_indexOfSupplementary_4cfef_51 : decode cJ2_indexOfSupplementary_4cfef 51 = .ok (.iadd, 1) := by decide +kernel
theorem dJ2_indexOfSupplementary_4cfef_52 : decode cJ2_indexOfSupplementary_4cfef 52 = .ok (.invokestatic 71, 3) := by decide +kernel
theorem dJ2_indexOfSupplementary_4cfef_55 : decode cJ2_indexOfSupplementary_4cfef 55 = .ok (.iload 5, 2) := by decide +kernel
theorem dJ2_indexOfSupplementary_4cfef_57 : decode cJ2_indexOfSupplementary_4cfef 57 = .ok (.if_icmp .ne 6, 3) := by decide +kernel
theorem dJ2_indexOfSupplementary_4cfef_60 : decode cJ2_indexOfSupplementary_4cfef 60 = .ok (.iload 6, 2) := by decide +kernel
theorem dJ2_indexOfSupplementary_4cfef_62 : decode cJ2_indexOfSupplementary_4cfef 62 = .ok (.ireturn, 1) := by decide +kernel
theorem dJ2_indexOfSupplementary_4cfef_63 : decode cJ2_indexOfSupplementary_4cfef 63 = .ok (.iinc 6 1, 3) := by decide +kernel
theorem dJ2_indexOfSupplementary_4cfef_66 : decode cJ2_indexOfSupplementary_4cfef 66 = .ok (.goto (-38), 3) := by decide +kernel
theorem dJ2_indexOfSupplementary_4cfef_69 : decode cJ2_indexOfSupplementary_4cfef 69 = .ok (.iconst (-1), 1) := by decide +kernel
theorem dJ2_indexOfSupplementary_4cfef_70 : decode cJ2_indexOfSupplementary_4cfef 70 = .ok (.ireturn, 1) := by decide +kernel
theorem dJ2_checkBoundsBeginEnd_d044e_0 : decode cJ2_checkBoundsBeginEnd_d044e 0 = .ok (.iload_n 0, 1) := by decide +kernel
theorem dJ2_checkBoundsBeginEnd_d044e_1 : decode cJ2_checkBoundsBeginEnd_d044e 1 = .ok (.iload_n 1, 1) := by decide +kernel
theorem dJ2_checkBoundsBeginEnd_d044e_2 : decode cJ2_checkBoundsBeginEnd_d044e 2 = .ok (.aload_n 2, 1) := by decide +kernel
theorem dJ2_checkBoundsBeginEnd_d044e_3 : decode cJ2_checkBoundsBeginEnd_d044e 3 = .ok (.invokestatic 48, 3) := by decide +kernel
theorem dJ2_checkBoundsBeginEnd_d044e_6 : decode cJ2_checkBoundsBeginEnd_d044e 6 = .ok (.invokestatic 241, 3) := by decide +kernel
theorem dJ2_checkBoundsBeginEnd_d044e_9 : decode cJ2_checkBoundsBeginEnd_d044e 9 = .ok (.return_, 1) := by decide +kernel
theorem dJ7_fill_53178_0 : decode cJ7_fill_53178 0 = .ok (.iconst 0, 1) := by decide +kernel
theorem dJ7_fill_53178_1 : decode cJ7_fill_53178 1 = .ok (.istore_n 2, 1) := by decide +kernel
theorem dJ7_fill_53178_2 : decode cJ7_fill_53178 2 = .ok (.aload_n 0, 1) := by decide +kernel
theorem dJ7_fill_53178_3 : decode cJ7_fill_53178 3 = .ok (.arraylength, 1) := by decide +kernel
theorem dJ7_fill_53178_4 : decode cJ7_fill_53178 4 = .ok (.istore_n 3, 1) := by decide +kernel
theorem dJ7_fill_53178_5 : decode cJ7_fill_53178 5 = .ok (.iload_n 2, 1) := by decide +kernel
theorem dJ7_fill_53178_6 : decode cJ7_fill_53178 6 = .ok (.iload_n 3, 1) := by decide +kernel
theorem dJ7_fill_53178_7 : decode cJ7_fill_53178 7 = .ok (.if_icmp .ge 13, 3) := by decide +kernel
theorem dJ7_fill_53178_10 : decode cJ7_fill_53178 10 = .ok (.aload_n 0, 1) := by decide +kernel
theorem dJ7_fill_53178_11 : decode cJ7_fill_53178 11 = .ok (.iload_n 2, 1) := by decide +kernel
theorem dJ7_fill_53178_12 : decode cJ7_fill_53178 12 = .ok (.iload_n 1, 1) := by decide +kernel
theorem dJ7_fill_53178_13 : decode cJ7_fill_53178 13 = .ok (.iastore, 1) := by decide +kernel
theorem dJ7_fill_53178_14 : decode cJ7_fill_53178 14 = .ok (.iinc 2 1, 3) := by decide +kernel
theorem dJ7_fill_53178_17 : decode cJ7_fill_53178 17 = .ok (.goto (-12), 3) := by decide +kernel
theorem dJ7_fill_53178_20 : decode cJ7_fill_53178 20 = .ok (.return_, 1) := by decide +kernel
theorem dJ7_copyOf_59c91_0 : decode cJ7_copyOf_59c91 0 = .ok (.iload_n 1, 1) := by decide +kernel
theorem dJ7_copyOf_59c91_1 : decode cJ7_copyOf_59c91 1 = .ok (.aload_n 0, 1) := by decide +kernel
theorem dJ7_copyOf_59c91_2 : decode cJ7_copyOf_59c91 2 = .ok (.arraylength, 1) := by decide +kernel
theorem dJ7_copyOf_59c91_3 : decode cJ7_copyOf_59c91 3 = .ok (.if_icmp .ne 11, 3) := by decide +kernel
theorem dJ7_copyOf_59c91_6 : decode cJ7_copyOf_59c91 6 = .ok (.aload_n 0, 1) := by decide +kernel
theorem dJ7_copyOf_59c91_7 : decode cJ7_copyOf_59c91 7 = .ok (.invokevirtual 316, 3) := by decide +kernel
