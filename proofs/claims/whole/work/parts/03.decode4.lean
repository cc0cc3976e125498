theorem dX9_weighWays_42 : decode cX9_weighWays 42 = .ok (.aload_n 0, 1) := by decide +kernel
theorem dX9_weighWays_43 : decode cX9_weighWays 43 = .ok (.getfield 24, 3) := by decide +kernel
theorem dX9_weighWays_46 : decode cX9_weighWays 46 = .ok (.getfield 75, 3) := by decide +kernel
theorem dX9_weighWays_49 : decode cX9_weighWays 49 = .ok (.getfield 115, 3) := by decide +kernel
theorem dX9_weighWays_52 : decode cX9_weighWays 52 = .ok (.iload_n 2, 1) := by decide +kernel
theorem dX9_weighWays_53 : decode cX9_weighWays 53 = .ok (.iaload, 1) := by decide +kernel
theorem dX9_weighWays_54 : decode cX9_weighWays 54 = .ok (.aload_n 0, 1) := by decide +kernel
theorem dX9_weighWays_55 : decode cX9_weighWays 55 = .ok (.getfield 24, 3) := by decide +kernel
theorem dX9_weighWays_58 : decode cX9_weighWays 58 = .ok (.getfield 75, 3) := by decide +kernel
theorem dX9_weighWays_61 : decode cX9_weighWays 61 = .ok (.getfield 118, 3) := by decide +kernel
theorem dX9_weighWays_64 : decode cX9_weighWays 64 = .ok (.iload_n 2, 1) := by decide +kernel
theorem dX9_weighWays_65 : decode cX9_weighWays 65 = .ok (.iaload, 1) := by decide +kernel
theorem dX9_weighWays_66 : decode cX9_weighWays 66 = .ok (.invokevirtual 258, 3) := by decide +kernel
theorem dX9_weighWays_69 : decode cX9_weighWays 69 = .ok (.aload_n 0, 1) := by decide +kernel
theorem dX9_weighWays_70 : decode cX9_weighWays 70 = .ok (.iload_n 2, 1) := by decide +kernel
theorem dX9_weighWays_71 : decode cX9_weighWays 71 = .ok (.aload_n 0, 1) := by decide +kernel
theorem dX9_weighWays_72 : decode cX9_weighWays 72 = .ok (.getfield 24, 3) := by decide +kernel
theorem dX9_weighWays_75 : decode cX9_weighWays 75 = .ok (.getfield 75, 3) := by decide +kernel
theorem dX9_weighWays_78 : decode cX9_weighWays 78 = .ok (.getfield 118, 3) := by decide +kernel
theorem dX9_weighWays_81 : decode cX9_weighWays 81 = .ok (.iload_n 2, 1) := by decide +kernel
theorem dX9_weighWays_82 : decode cX9_weighWays 82 = .ok (.iaload, 1) := by decide +kernel
theorem dX9_weighWays_83 : decode cX9_weighWays 83 = .ok (.aload_n 0, 1) := by decide +kernel
theorem dX9_weighWays_84 : decode cX9_weighWays 84 = .ok (.getfield 24, 3) := by decide +kernel
theorem dX9_weighWays_87 : decode cX9_weighWays 87 = .ok (.getfield 75, 3) := by decide +kernel
theorem dX9_weighWays_90 : decode cX9_weighWays 90 = .ok (.getfield 115, 3) := by decide +kernel
theorem dX9_weighWays_93 : decode cX9_weighWays 93 = .ok (.iload_n 2, 1) := by decide +kernel
theorem dX9_weighWays_94 : decode cX9_weighWays 94 = .ok (.iaload, 1) := by decide +kernel
theorem dX9_weighWays_95 : decode cX9_weighWays 95 = .ok (.invokevirtual 258, 3) := by decide +kernel
theorem dX9_weighWays_98 : decode cX9_weighWays 98 = .ok (.iinc 2 1, 3) := by decide +kernel
theorem dX9_weighWays_101 : decode cX9_weighWays 101 = .ok (.goto (-75), 3) := by decide +kernel
theorem dX9_weighWays_104 : decode cX9_weighWays 104 = .ok (.iinc 1 1, 3) := by decide +kernel
theorem dX9_weighWays_107 : decode cX9_weighWays 107 = .ok (.goto (-97), 3) := by decide +kernel
theorem dX9_weighWays_110 : decode cX9_weighWays 110 = .ok (.return_, 1) := by decide +kernel
theorem dX9_weighDoor_0 : decode cX9_weighDoor 0 = .ok (.iload_n 2, 1) := by decide +kernel
theorem dX9_weighDoor_1 : decode cX9_weighDoor 1 = .ok (.iconst (-1), 1) := by decide +kernel
theorem dX9_weighDoor_2 : decode cX9_weighDoor 2 = .ok (.if_icmp .eq 12, 3) := by decide +kernel
theorem dX9_weighDoor_5 : decode cX9_weighDoor 5 = .ok (.aload_n 0, 1) := by decide +kernel
theorem dX9_weighDoor_6 : decode cX9_weighDoor 6 = .ok (.iload_n 3, 1) := by decide +kernel
theorem dX9_weighDoor_7 : decode cX9_weighDoor 7 = .ok (.invokevirtual 261, 3) := by decide +kernel
theorem dX9_weighDoor_10 : decode cX9_weighDoor 10 = .ok (.iconst (-1), 1) := by decide +kernel
theorem dX9_weighDoor_11 : decode cX9_weighDoor 11 = .ok (.if_icmp .ne 4, 3) := by decide +kernel
theorem dX9_weighDoor_14 : decode cX9_weighDoor 14 = .ok (.return_, 1) := by decide +kernel
theorem dX9_weighDoor_15 : decode cX9_weighDoor 15 = .ok (.aload_n 0, 1) := by decide +kernel
theorem dX9_weighDoor_16 : decode cX9_weighDoor 16 = .ok (.iload_n 1, 1) := by decide +kernel
theorem dX9_weighDoor_17 : decode cX9_weighDoor 17 = .ok (.invokevirtual 264, 3) := by decide +kernel
theorem dX9_weighDoor_20 : decode cX9_weighDoor 20 = .ok (.aload_n 0, 1) := by decide +kernel
theorem dX9_weighDoor_21 : decode cX9_weighDoor 21 = .ok (.iload_n 3, 1) := by decide +kernel
theorem dX9_weighDoor_22 : decode cX9_weighDoor 22 = .ok (.invokevirtual 261, 3) := by decide +kernel
theorem dX9_weighDoor_25 : decode cX9_weighDoor 25 = .ok (.iadd, 1) := by decide +kernel
theorem dX9_weighDoor_26 : decode cX9_weighDoor 26 = .ok (.istore 4, 2) := by decide +kernel
theorem dX9_weighDoor_28 : decode cX9_weighDoor 28 = .ok (.aload_n 0, 1) := by decide +kernel
theorem dX9_weighDoor_29 : decode cX9_weighDoor 29 = .ok (.getfield 48, 3) := by decide +kernel
theorem dX9_weighDoor_32 : decode cX9_weighDoor 32 = .ok (.iload_n 2, 1) := by decide +kernel
theorem dX9_weighDoor_33 : decode cX9_weighDoor 33 = .ok (.iaload, 1) := by decide +kernel
theorem dX9_weighDoor_34 : decode cX9_weighDoor 34 = .ok (.iconst (-1), 1) := by decide +kernel
theorem dX9_weighDoor_35 : decode cX9_weighDoor 35 = .ok (.if_icmp .eq 14, 3) := by decide +kernel
theorem dX9_weighDoor_38 : decode cX9_weighDoor 38 = .ok (.iload 4, 2) := by decide +kernel
theorem dX9_weighDoor_40 : decode cX9_weighDoor 40 = .ok (.aload_n 0, 1) := by decide +kernel
theorem dX9_weighDoor_41 : decode cX9_weighDoor 41 = .ok (.getfield 48, 3) := by decide +kernel
theorem dX9_weighDoor_44 : decode cX9_weighDoor 44 = .ok (.iload_n 2, 1) := by decide +kernel
theorem dX9_weighDoor_45 : decode cX9_weighDoor 45 = .ok (.iaload, 1) := by decide +kernel
theorem dX9_weighDoor_46 : decode cX9_weighDoor 46 = .ok (.if_icmp .ge 11, 3) := by decide +kernel
theorem dX9_weighDoor_49 : decode cX9_weighDoor 49 = .ok (.aload_n 0, 1) := by decide +kernel
theorem dX9_weighDoor_50 : decode cX9_weighDoor 50 = .ok (.getfield 48, 3) := by decide +kernel
theorem dX9_weighDoor_53 : decode cX9_weighDoor 53 = .ok (.iload_n 2, 1) := by decide +kernel
theorem dX9_weighDoor_54 : decode cX9_weighDoor 54 = .ok (.iload 4, 2) := by decide +kernel
theorem dX9_weighDoor_56 : decode cX9_weighDoor 56 = .ok (.iastore, 1) := by decide +kernel
theorem dX9_weighDoor_57 : decode cX9_weighDoor 57 = .ok (.return_, 1) := by decide +kernel
theorem dX9_doorOfWay_0 : decode cX9_doorOfWay 0 = .ok (.iload_n 1, 1) := by decide +kernel
theorem dX9_doorOfWay_1 : decode cX9_doorOfWay 1 = .ok (.istore_n 3, 1) := by decide +kernel
theorem dX9_doorOfWay_2 : decode cX9_doorOfWay 2 = .ok (.iconst 0, 1) := by decide +kernel
theorem dX9_doorOfWay_3 : decode cX9_doorOfWay 3 = .ok (.istore 4, 2) := by decide +kernel
theorem dX9_doorOfWay_5 : decode cX9_doorOfWay 5 = .ok (.iload 4, 2) := by decide +kernel
theorem dX9_doorOfWay_7 : decode cX9_doorOfWay 7 = .ok (.iload_n 2, 1) := by decide +kernel
theorem dX9_doorOfWay_8 : decode cX9_doorOfWay 8 = .ok (.if_icmp .gt 50, 3) := by decide +kernel
theorem dX9_doorOfWay_11 : decode cX9_doorOfWay 11 = .ok (.iload_n 3, 1) := by decide +kernel
theorem dX9_doorOfWay_12 : decode cX9_doorOfWay 12 = .ok (.iconst (-1), 1) := by decide +kernel
theorem dX9_doorOfWay_13 : decode cX9_doorOfWay 13 = .ok (.if_icmp .eq 45, 3) := by decide +kernel
theorem dX9_doorOfWay_16 : decode cX9_doorOfWay 16 = .ok (.aload_n 0, 1) := by decide +kernel
theorem dX9_doorOfWay_17 : decode cX9_doorOfWay 17 = .ok (.iload_n 3, 1) := by decide +kernel
theorem dX9_doorOfWay_18 : decode cX9_doorOfWay 18 = .ok (.invokevirtual 267, 3) := by decide +kernel
theorem dX9_doorOfWay_21 : decode cX9_doorOfWay 21 = .ok (.istore 5, 2) := by decide +kernel
theorem dX9_doorOfWay_23 : decode cX9_doorOfWay 23 = .ok (.iload 5, 2) := by decide +kernel
theorem dX9_doorOfWay_25 : decode cX9_doorOfWay 25 = .ok (.iconst (-1), 1) := by decide +kernel
theorem dX9_doorOfWay_26 : decode cX9_doorOfWay 26 = .ok (.if_icmp .eq 9, 3) := by decide +kernel
theorem dX9_doorOfWay_29 : decode cX9_doorOfWay 29 = .ok (.iload 4, 2) := by decide +kernel
theorem dX9_doorOfWay_31 : decode cX9_doorOfWay 31 = .ok (.iload_n 2, 1) := by decide +kernel
theorem dX9_doorOfWay_32 : decode cX9_doorOfWay 32 = .ok (.if_icmp .ne 6, 3) := by decide +kernel
theorem dX9_doorOfWay_35 : decode cX9_doorOfWay 35 = .ok (.iload 5, 2) := by decide +kernel
theorem dX9_doorOfWay_37 : decode cX9_doorOfWay 37 = .ok (.ireturn, 1) := by decide +kernel
theorem dX9_doorOfWay_38 : decode cX9_doorOfWay 38 = .ok (.aload_n 0, 1) := by decide +kernel
theorem dX9_doorOfWay_39 : decode cX9_doorOfWay 39 = .ok (.getfield 24, 3) := by decide +kernel
theorem dX9_doorOfWay_42 : decode cX9_doorOfWay 42 = .ok (.getfield 75, 3) := by decide +kernel
theorem dX9_doorOfWay_45 : decode cX9_doorOfWay 45 = .ok (.iload 5, 2) := by decide +kernel
theorem dX9_doorOfWay_47 : decode cX9_doorOfWay 47 = .ok (.iload_n 3, 1) := by decide +kernel
theorem dX9_doorOfWay_48 : decode cX9_doorOfWay 48 = .ok (.invokevirtual 158, 3) := by decide +kernel
theorem dX9_doorOfWay_51 : decode cX9_doorOfWay 51 = .ok (.istore_n 3, 1) := by decide +kernel
theorem dX9_doorOfWay_52 : decode cX9_doorOfWay 52 = .ok (.iinc 4 1, 3) := by decide +kernel
theorem dX9_doorOfWay_55 : decode cX9_doorOfWay 55 = .ok (.goto (-50), 3) := by decide +kernel
theorem dX9_doorOfWay_58 : decode cX9_doorOfWay 58 = .ok (.iconst (-1), 1) := by decide +kernel
theorem dX9_doorOfWay_59 : decode cX9_doorOfWay 59 = .ok (.ireturn, 1) := by decide +kernel
theorem dX9_firstDoorOfWay_0 : decode cX9_firstDoorOfWay 0 = .ok (.iconst 0, 1) := by decide +kernel
theorem dX9_firstDoorOfWay_1 : decode cX9_firstDoorOfWay 1 = .ok (.istore_n 2, 1) := by decide +kernel
theorem dX9_firstDoorOfWay_2 : decode cX9_firstDoorOfWay 2 = .ok (.iload_n 2, 1) := by decide +kernel
theorem dX9_firstDoorOfWay_3 : decode cX9_firstDoorOfWay 3 = .ok (.aload_n 0, 1) := by decide +kernel
theorem dX9_firstDoorOfWay_4 : decode cX9_firstDoorOfWay 4 = .ok (.getfield 24, 3) := by decide +kernel
theorem dX9_firstDoorOfWay_7 : decode cX9_firstDoorOfWay 7 = .ok (.getfield 75, 3) := by decide +kernel
theorem dX9_firstDoorOfWay_10 : decode cX9_firstDoorOfWay 10 = .ok (.getfield 97, 3) := by decide +kernel
theorem dX9_firstDoorOfWay_13 : decode cX9_firstDoorOfWay 13 = .ok (.if_icmp .ge 59, 3) := by decide +kernel
theorem dX9_firstDoorOfWay_16 : decode cX9_firstDoorOfWay 16 = .ok (.aload_n 0, 1) := by decide +kernel
theorem dX9_firstDoorOfWay_17 : decode cX9_firstDoorOfWay 17 = .ok (.getfield 24, 3) := by decide +kernel
theorem dX9_firstDoorOfWay_20 : decode cX9_firstDoorOfWay 20 = .ok (.getfield 75, 3) := by decide +kernel
theorem dX9_firstDoorOfWay_23 : decode cX9_firstDoorOfWay 23 = .ok (.iload_n 2, 1) := by decide +kernel
theorem dX9_firstDoorOfWay_24 : decode cX9_firstDoorOfWay 24 = .ok (.iload_n 1, 1) := by decide +kernel
theorem dX9_firstDoorOfWay_25 : decode cX9_firstDoorOfWay 25 = .ok (.invokevirtual 158, 3) := by decide +kernel
theorem dX9_firstDoorOfWay_28 : decode cX9_firstDoorOfWay 28 = .ok (.istore_n 3, 1) := by decide +kernel
theorem dX9_firstDoorOfWay_29 : decode cX9_firstDoorOfWay 29 = .ok (.iload_n 3, 1) := by decide +kernel
theorem dX9_firstDoorOfWay_30 : decode cX9_firstDoorOfWay 30 = .ok (.bipush (-2), 2) := by decide +kernel
theorem dX9_firstDoorOfWay_32 : decode cX9_firstDoorOfWay 32 = .ok (.if_icmp .eq 34, 3) := by decide +kernel
theorem dX9_firstDoorOfWay_35 : decode cX9_firstDoorOfWay 35 = .ok (.aload_n 0, 1) := by decide +kernel
theorem dX9_firstDoorOfWay_36 : decode cX9_firstDoorOfWay 36 = .ok (.iload_n 3, 1) := by decide +kernel
theorem dX9_firstDoorOfWay_37 : decode cX9_firstDoorOfWay 37 = .ok (.invokevirtual 261, 3) := by decide +kernel
theorem dX9_firstDoorOfWay_40 : decode cX9_firstDoorOfWay 40 = .ok (.iconst (-1), 1) := by decide +kernel
theorem dX9_firstDoorOfWay_41 : decode cX9_firstDoorOfWay 41 = .ok (.if_icmp .eq 25, 3) := by decide +kernel
theorem dX9_firstDoorOfWay_44 : decode cX9_firstDoorOfWay 44 = .ok (.aload_n 0, 1) := by decide +kernel
theorem dX9_firstDoorOfWay_45 : decode cX9_firstDoorOfWay 45 = .ok (.iload_n 2, 1) := by decide +kernel
theorem dX9_firstDoorOfWay_46 : decode cX9_firstDoorOfWay 46 = .ok (.invokevirtual 264, 3) := by decide +kernel
theorem dX9_firstDoorOfWay_49 : decode cX9_firstDoorOfWay 49 = .ok (.aload_n 0, 1) := by decide +kernel
theorem dX9_firstDoorOfWay_50 : decode cX9_firstDoorOfWay 50 = .ok (.iload_n 3, 1) := by decide +kernel
theorem dX9_firstDoorOfWay_51 : decode cX9_firstDoorOfWay 51 = .ok (.invokevirtual 261, 3) := by decide +kernel
theorem dX9_firstDoorOfWay_54 : decode cX9_firstDoorOfWay 54 = .ok (.iadd, 1) := by decide +kernel
theorem dX9_firstDoorOfWay_55 : decode cX9_firstDoorOfWay 55 = .ok (.aload_n 0, 1) := by decide +kernel
theorem dX9_firstDoorOfWay_56 : decode cX9_firstDoorOfWay 56 = .ok (.getfield 48, 3) := by decide +kernel
theorem dX9_firstDoorOfWay_59 : decode cX9_firstDoorOfWay 59 = .ok (.iload_n 1, 1) := by decide +kernel
theorem dX9_firstDoorOfWay_60 : decode cX9_firstDoorOfWay 60 = .ok (.iaload, 1) := by decide +kernel
theorem dX9_firstDoorOfWay_61 : decode cX9_firstDoorOfWay 61 = .ok (.if_icmp .ne 5, 3) := by decide +kernel
theorem dX9_firstDoorOfWay_64 : decode cX9_firstDoorOfWay 64 = .ok (.iload_n 2, 1) := by decide +kernel
theorem dX9_firstDoorOfWay_65 : decode cX9_firstDoorOfWay 65 = .ok (.ireturn, 1) := by decide +kernel
theorem dX9_firstDoorOfWay_66 : decode cX9_firstDoorOfWay 66 = .ok (.iinc 2 1, 3) := by decide +kernel
theorem dX9_firstDoorOfWay_69 : decode cX9_firstDoorOfWay 69 = .ok (.goto (-67), 3) := by decide +kernel
theorem dX9_firstDoorOfWay_72 : decode cX9_firstDoorOfWay 72 = .ok (.iconst (-1), 1) := by decide +kernel
theorem dX9_firstDoorOfWay_73 : decode cX9_firstDoorOfWay 73 = .ok (.ireturn, 1) := by decide +kernel
theorem dX10_init_0 : decode cX10_init 0 = .ok (.aload_n 0, 1) := by decide +kernel
theorem dX10_init_1 : decode cX10_init 1 = .ok (.invokespecial 1, 3) := by decide +kernel
theorem dX10_init_4 : decode cX10_init 4 = .ok (.aload_n 0, 1) := by decide +kernel
theorem dX10_init_5 : decode cX10_init 5 = .ok (.sipush 1000, 3) := by decide +kernel
theorem dX10_init_8 : decode cX10_init 8 = .ok (.newarray .int, 2) := by decide +kernel
theorem dX10_init_10 : decode cX10_init 10 = .ok (.putfield 7, 3) := by decide +kernel
theorem dX10_init_13 : decode cX10_init 13 = .ok (.aload_n 0, 1) := by decide +kernel
theorem dX10_init_14 : decode cX10_init 14 = .ok (.bipush 6, 2) := by decide +kernel
theorem dX10_init_16 : decode cX10_init 16 = .ok (.newarray .int, 2) := by decide +kernel
theorem dX10_init_18 : decode cX10_init 18 = .ok (.putfield 13, 3) := by decide +kernel
theorem dX10_init_21 : decode cX10_init 21 = .ok (.aload_n 0, 1) := by decide +kernel
theorem dX10_init_22 : decode cX10_init 22 = .ok (.bipush 6, 2) := by decide +kernel
theorem dX10_init_24 : decode cX10_init 24 = .ok (.newarray .int, 2) := by decide +kernel
theorem dX10_init_26 : decode cX10_init 26 = .ok (.putfield 16, 3) := by decide +kernel
theorem dX10_init_29 : decode cX10_init 29 = .ok (.aload_n 0, 1) := by decide +kernel
theorem dX10_init_30 : decode cX10_init 30 = .ok (.bipush 6, 2) := by decide +kernel
theorem dX10_init_32 : decode cX10_init 32 = .ok (.newarray .int, 2) := by decide +kernel
theorem dX10_init_34 : decode cX10_init 34 = .ok (.putfield 19, 3) := by decide +kernel
theorem dX10_init_37 : decode cX10_init 37 = .ok (.aload_n 0, 1) := by decide +kernel
theorem dX10_init_38 : decode cX10_init 38 = .ok (.bipush 6, 2) := by decide +kernel
theorem dX10_init_40 : decode cX10_init 40 = .ok (.newarray .int, 2) := by decide +kernel
theorem dX10_init_42 : decode cX10_init 42 = .ok (.putfield 22, 3) := by decide +kernel
theorem dX10_init_45 : decode cX10_init 45 = .ok (.aload_n 0, 1) := by decide +kernel
theorem dX10_init_46 : decode cX10_init 46 = .ok (.bipush 6, 2) := by decide +kernel
theorem dX10_init_48 : decode cX10_init 48 = .ok (.newarray .int, 2) := by decide +kernel
theorem dX10_init_50 : decode cX10_init 50 = .ok (.putfield 25, 3) := by decide +kernel
theorem dX10_init_53 : decode cX10_init 53 = .ok (.aload_n 0, 1) := by decide +kernel
theorem dX10_init_54 : decode cX10_init 54 = .ok (.bipush 8, 2) := by decide +kernel
theorem dX10_init_56 : decode cX10_init 56 = .ok (.newarray .long, 2) := by decide +kernel
theorem dX10_init_58 : decode cX10_init 58 = .ok (.putfield 28, 3) := by decide +kernel
theorem dX10_init_61 : decode cX10_init 61 = .ok (.aload_n 0, 1) := by decide +kernel
theorem dX10_init_62 : decode cX10_init 62 = .ok (.bipush 6, 2) := by decide +kernel
theorem dX10_init_64 : decode cX10_init 64 = .ok (.newarray .long, 2) := by decide +kernel
theorem dX10_init_66 : decode cX10_init 66 = .ok (.putfield 32, 3) := by decide +kernel
theorem dX10_init_69 : decode cX10_init 69 = .ok (.aload_n 0, 1) := by decide +kernel
theorem dX10_init_70 : decode cX10_init 70 = .ok (.bipush 48, 2) := by decide +kernel
theorem dX10_init_72 : decode cX10_init 72 = .ok (.newarray .int, 2) := by decide +kernel
theorem dX10_init_74 : decode cX10_init 74 = .ok (.putfield 35, 3) := by decide +kernel
theorem dX10_init_77 : decode cX10_init 77 = .ok (.aload_n 0, 1) := by decide +kernel
theorem dX10_init_78 : decode cX10_init 78 = .ok (.bipush 60, 2) := by decide +kernel
theorem dX10_init_80 : decode cX10_init 80 = .ok (.newarray .int, 2) := by decide +kernel
theorem dX10_init_82 : decode cX10_init 82 = .ok (.putfield 38, 3) := by decide +kernel
theorem dX10_init_85 : decode cX10_init 85 = .ok (.aload_n 0, 1) := by decide +kernel
theorem dX10_init_86 : decode cX10_init 86 = .ok (.bipush 60, 2) := by decide +kernel
theorem dX10_init_88 : decode cX10_init 88 = .ok (.newarray .int, 2) := by decide +kernel
theorem dX10_init_90 : decode cX10_init 90 = .ok (.putfield 41, 3) := by decide +kernel
theorem dX10_init_93 : decode cX10_init 93 = .ok (.aload_n 0, 1) := by decide +kernel
theorem dX10_init_94 : decode cX10_init 94 = .ok (.bipush 60, 2) := by decide +kernel
theorem dX10_init_96 : decode cX10_init 96 = .ok (.newarray .int, 2) := by decide +kernel
theorem dX10_init_98 : decode cX10_init 98 = .ok (.putfield 44, 3) := by decide +kernel
theorem dX10_init_101 : decode cX10_init 101 = .ok (.aload_n 0, 1) := by decide +kernel
theorem dX10_init_102 : decode cX10_init 102 = .ok (.bipush 36, 2) := by decide +kernel
theorem dX10_init_104 : decode cX10_init 104 = .ok (.newarray .int, 2) := by decide +kernel
theorem dX10_init_106 : decode cX10_init 106 = .ok (.putfield 47, 3) := by decide +kernel
theorem dX10_init_109 : decode cX10_init 109 = .ok (.aload_n 0, 1) := by decide +kernel
theorem dX10_init_110 : decode cX10_init 110 = .ok (.bipush 36, 2) := by decide +kernel
theorem dX10_init_112 : decode cX10_init 112 = .ok (.newarray .int, 2) := by decide +kernel
theorem dX10_init_114 : decode cX10_init 114 = .ok (.putfield 50, 3) := by decide +kernel
theorem dX10_init_117 : decode cX10_init 117 = .ok (.aload_n 0, 1) := by decide +kernel
theorem dX10_init_118 : decode cX10_init 118 = .ok (.bipush 36, 2) := by decide +kernel
theorem dX10_init_120 : decode cX10_init 120 = .ok (.newarray .int, 2) := by decide +kernel
theorem dX10_init_122 : decode cX10_init 122 = .ok (.putfield 53, 3) := by decide +kernel
theorem dX10_init_125 : decode cX10_init 125 = .ok (.aload_n 0, 1) := by decide +kernel
theorem dX10_init_126 : decode cX10_init 126 = .ok (.bipush 12, 2) := by decide +kernel
theorem dX10_init_128 : decode cX10_init 128 = .ok (.newarray .int, 2) := by decide +kernel
theorem dX10_init_130 : decode cX10_init 130 = .ok (.putfield 56, 3) := by decide +kernel
theorem dX10_init_133 : decode cX10_init 133 = .ok (.aload_n 0, 1) := by decide +kernel
theorem dX10_init_134 : decode cX10_init 134 = .ok (.bipush 96, 2) := by decide +kernel
theorem dX10_init_136 : decode cX10_init 136 = .ok (.newarray .int, 2) := by decide +kernel
theorem dX10_init_138 : decode cX10_init 138 = .ok (.putfield 59, 3) := by decide +kernel
theorem dX10_init_141 : decode cX10_init 141 = .ok (.aload_n 0, 1) := by decide +kernel
theorem dX10_init_142 : decode cX10_init 142 = .ok (.bipush 12, 2) := by decide +kernel
theorem dX10_init_144 : decode cX10_init 144 = .ok (.newarray .int, 2) := by decide +kernel
theorem dX10_init_146 : decode cX10_init 146 = .ok (.putfield 62, 3) := by decide +kernel
theorem dX10_init_149 : decode cX10_init 149 = .ok (.aload_n 0, 1) := by decide +kernel
theorem dX10_init_150 : decode cX10_init 150 = .ok (.bipush 12, 2) := by decide +kernel
theorem dX10_init_152 : decode cX10_init 152 = .ok (.newarray .int, 2) := by decide +kernel
theorem dX10_init_154 : decode cX10_init 154 = .ok (.putfield 65, 3) := by decide +kernel
theorem dX10_init_157 : decode cX10_init 157 = .ok (.aload_n 0, 1) := by decide +kernel
theorem dX10_init_158 : decode cX10_init 158 = .ok (.sipush 6000, 3) := by decide +kernel
theorem dX10_init_161 : decode cX10_init 161 = .ok (.newarray .int, 2) := by decide +kernel
theorem dX10_init_163 : decode cX10_init 163 = .ok (.putfield 68, 3) := by decide +kernel
theorem dX10_init_166 : decode cX10_init 166 = .ok (.aload_n 0, 1) := by decide +kernel
theorem dX10_init_167 : decode cX10_init 167 = .ok (.bipush 7, 2) := by decide +kernel
theorem dX10_init_169 : decode cX10_init 169 = .ok (.newarray .int, 2) := by decide +kernel
theorem dX10_init_171 : decode cX10_init 171 = .ok (.putfield 71, 3) := by decide +kernel
theorem dX10_init_174 : decode cX10_init 174 = .ok (.aload_n 0, 1) := by decide +kernel
theorem dX10_init_175 : decode cX10_init 175 = .ok (.bipush 7, 2) := by decide +kernel
theorem dX10_init_177 : decode cX10_init 177 = .ok (.newarray .boolean, 2) := by decide +kernel
theorem dX10_init_179 : decode cX10_init 179 = .ok (.putfield 74, 3) := by decide +kernel
theorem dX10_init_182 : decode cX10_init 182 = .ok (.aload_n 0, 1) := by decide +kernel
theorem dX10_init_183 : decode cX10_init 183 = .ok (.bipush 7, 2) := by decide +kernel
theorem dX10_init_185 : decode cX10_init 185 = .ok (.newarray .int, 2) := by decide +kernel
theorem dX10_init_187 : decode cX10_init 187 = .ok (.putfield 78, 3) := by decide +kernel
theorem dX10_init_190 : decode cX10_init 190 = .ok (.aload_n 0, 1) := by decide +kernel
theorem dX10_init_191 : decode cX10_init 191 = .ok (.bipush 7, 2) := by decide +kernel
theorem dX10_init_193 : decode cX10_init 193 = .ok (.newarray .int, 2) := by decide +kernel
theorem dX10_init_195 : decode cX10_init 195 = .ok (.putfield 81, 3) := by decide +kernel
theorem dX10_init_198 : decode cX10_init 198 = .ok (.aload_n 0, 1) := by decide +kernel
theorem dX10_init_199 : decode cX10_init 199 = .ok (.bipush 7, 2) := by decide +kernel
theorem dX10_init_201 : decode cX10_init 201 = .ok (.newarray .int, 2) := by decide +kernel
theorem dX10_init_203 : decode cX10_init 203 = .ok (.putfield 84, 3) := by decide +kernel
theorem dX10_init_206 : decode cX10_init 206 = .ok (.aload_n 0, 1) := by decide +kernel
theorem dX10_init_207 : decode cX10_init 207 = .ok (.bipush 7, 2) := by decide +kernel
theorem dX10_init_209 : decode cX10_init 209 = .ok (.newarray .int, 2) := by decide +kernel
theorem dX10_init_211 : decode cX10_init 211 = .ok (.putfield 87, 3) := by decide +kernel
theorem dX10_init_214 : decode cX10_init 214 = .ok (.aload_n 0, 1) := by decide +kernel
theorem dX10_init_215 : decode cX10_init 215 = .ok (.bipush 7, 2) := by decide +kernel
theorem dX10_init_217 : decode cX10_init 217 = .ok (.newarray .int, 2) := by decide +kernel
theorem dX10_init_219 : decode cX10_init 219 = .ok (.putfield 90, 3) := by decide +kernel
theorem dX10_init_222 : decode cX10_init 222 = .ok (.aload_n 0, 1) := by decide +kernel
theorem dX10_init_223 : decode cX10_init 223 = .ok (.bipush 7, 2) := by decide +kernel
theorem dX10_init_225 : decode cX10_init 225 = .ok (.newarray .int, 2) := by decide +kernel
theorem dX10_init_227 : decode cX10_init 227 = .ok (.putfield 93, 3) := by decide +kernel
theorem dX10_init_230 : decode cX10_init 230 = .ok (.aload_n 0, 1) := by decide +kernel
theorem dX10_init_231 : decode cX10_init 231 = .ok (.bipush 7, 2) := by decide +kernel
theorem dX10_init_233 : decode cX10_init 233 = .ok (.newarray .int, 2) := by decide +kernel
theorem dX10_init_235 : decode cX10_init 235 = .ok (.putfield 96, 3) := by decide +kernel
theorem dX10_init_238 : decode cX10_init 238 = .ok (.aload_n 0, 1) := by decide +kernel
theorem dX10_init_239 : decode cX10_init 239 = .ok (.bipush 7, 2) := by decide +kernel
theorem dX10_init_241 : decode cX10_init 241 = .ok (.newarray .int, 2) := by decide +kernel
theorem dX10_init_243 : decode cX10_init 243 = .ok (.putfield 99, 3) := by decide +kernel
theorem dX10_init_246 : decode cX10_init 246 = .ok (.aload_n 0, 1) := by decide +kernel
theorem dX10_init_247 : decode cX10_init 247 = .ok (.bipush 7, 2) := by decide +kernel
theorem dX10_init_249 : decode cX10_init 249 = .ok (.newarray .int, 2) := by decide +kernel
theorem dX10_init_251 : decode cX10_init 251 = .ok (.putfield 102, 3) := by decide +kernel
theorem dX10_init_254 : decode cX10_init 254 = .ok (.aload_n 0, 1) := by decide +kernel
theorem dX10_init_255 : decode cX10_init 255 = .ok (.bipush 20, 2) := by decide +kernel
theorem dX10_init_257 : decode cX10_init 257 = .ok (.newarray .int, 2) := by decide +kernel
theorem dX10_init_259 : decode cX10_init 259 = .ok (.putfield 105, 3) := by decide +kernel
theorem dX10_init_262 : decode cX10_init 262 = .ok (.aload_n 0, 1) := by decide +kernel
theorem dX10_init_263 : decode cX10_init 263 = .ok (.bipush 96, 2) := by decide +kernel
theorem dX10_init_265 : decode cX10_init 265 = .ok (.newarray .int, 2) := by decide +kernel
theorem dX10_init_267 : decode cX10_init 267 = .ok (.putfield 108, 3) := by decide +kernel
theorem dX10_init_270 : decode cX10_init 270 = .ok (.aload_n 0, 1) := by decide +kernel
theorem dX10_init_271 : decode cX10_init 271 = .ok (.bipush 96, 2) := by decide +kernel
theorem dX10_init_273 : decode cX10_init 273 = .ok (.newarray .int, 2) := by decide +kernel
theorem dX10_init_275 : decode cX10_init 275 = .ok (.putfield 111, 3) := by decide +kernel
theorem dX10_init_278 : decode cX10_init 278 = .ok (.aload_n 0, 1) := by decide +kernel
theorem dX10_init_279 : decode cX10_init 279 = .ok (.sipush 384, 3) := by decide +kernel
theorem dX10_init_282 : decode cX10_init 282 = .ok (.newarray .int, 2) := by decide +kernel
theorem dX10_init_284 : decode cX10_init 284 = .ok (.putfield 114, 3) := by decide +kernel
theorem dX10_init_287 : decode cX10_init 287 = .ok (.aload_n 0, 1) := by decide +kernel
theorem dX10_init_288 : decode cX10_init 288 = .ok (.bipush 8, 2) := by decide +kernel
theorem dX10_init_290 : decode cX10_init 290 = .ok (.newarray .int, 2) := by decide +kernel
theorem dX10_init_292 : decode cX10_init 292 = .ok (.putfield 117, 3) := by decide +kernel
theorem dX10_init_295 : decode cX10_init 295 = .ok (.aload_n 0, 1) := by decide +kernel
theorem dX10_init_296 : decode cX10_init 296 = .ok (.bipush 10, 2) := by decide +kernel
theorem dX10_init_298 : decode cX10_init 298 = .ok (.newarray .int, 2) := by decide +kernel
theorem dX10_init_300 : decode cX10_init 300 = .ok (.putfield 120, 3) := by decide +kernel
theorem dX10_init_303 : decode cX10_init 303 = .ok (.aload_n 0, 1) := by decide +kernel
theorem dX10_init_304 : decode cX10_init 304 = .ok (.bipush 10, 2) := by decide +kernel
theorem dX10_init_306 : decode cX10_init 306 = .ok (.newarray .int, 2) := by decide +kernel
theorem dX10_init_308 : decode cX10_init 308 = .ok (.putfield 123, 3) := by decide +kernel
theorem dX10_init_311 : decode cX10_init 311 = .ok (.aload_n 0, 1) := by decide +kernel
theorem dX10_init_312 : decode cX10_init 312 = .ok (.bipush 8, 2) := by decide +kernel
theorem dX10_init_314 : decode cX10_init 314 = .ok (.newarray .int, 2) := by decide +kernel
theorem dX10_init_316 : decode cX10_init 316 = .ok (.putfield 126, 3) := by decide +kernel
theorem dX10_init_319 : decode cX10_init 319 = .ok (.aload_n 0, 1) := by decide +kernel
theorem dX10_init_320 : decode cX10_init 320 = .ok (.bipush 8, 2) := by decide +kernel
theorem dX10_init_322 : decode cX10_init 322 = .ok (.newarray .int, 2) := by decide +kernel
theorem dX10_init_324 : decode cX10_init 324 = .ok (.putfield 129, 3) := by decide +kernel
theorem dX10_init_327 : decode cX10_init 327 = .ok (.aload_n 0, 1) := by decide +kernel
theorem dX10_init_328 : decode cX10_init 328 = .ok (.iconst 4, 1) := by decide +kernel
theorem dX10_init_329 : decode cX10_init 329 = .ok (.newarray .boolean, 2) := by decide +kernel
theorem dX10_init_331 : decode cX10_init 331 = .ok (.putfield 132, 3) := by decide +kernel
theorem dX10_init_334 : decode cX10_init 334 = .ok (.return_, 1) := by decide +kernel
theorem dX10_thrown_0 : decode cX10_thrown 0 = .ok (.aload_n 0, 1) := by decide +kernel
theorem dX10_thrown_1 : decode cX10_thrown 1 = .ok (.getfield 135, 3) := by decide +kernel
theorem dX10_thrown_4 : decode cX10_thrown 4 = .ok (.ireturn, 1) := by decide +kernel
theorem dX10_within_0 : decode cX10_within 0 = .ok (.iload_n 0, 1) := by decide +kernel
theorem dX10_within_1 : decode cX10_within 1 = .ok (.iload_n 1, 1) := by decide +kernel
theorem dX10_within_2 : decode cX10_within 2 = .ok (.if_icmp .lt 12, 3) := by decide +kernel
theorem dX10_within_5 : decode cX10_within 5 = .ok (.iload_n 0, 1) := by decide +kernel
theorem dX10_within_6 : decode cX10_within 6 = .ok (.iload_n 2, 1) := by decide +kernel
theorem dX10_within_7 : decode cX10_within 7 = .ok (.if_icmp .gt 7, 3) := by decide +kernel
theorem dX10_within_10 : decode cX10_within 10 = .ok (.iconst 1, 1) := by decide +kernel
theorem dX10_within_11 : decode cX10_within 11 = .ok (.goto 4, 3) := by decide +kernel
theorem dX10_within_14 : decode cX10_within 14 = .ok (.iconst 0, 1) := by decide +kernel
theorem dX10_within_15 : decode cX10_within 15 = .ok (.ireturn, 1) := by decide +kernel
theorem dX10_between_0 : decode cX10_between 0 = .ok (.iload_n 0, 1) := by decide +kernel
theorem dX10_between_1 : decode cX10_between 1 = .ok (.iload_n 1, 1) := by decide +kernel
theorem dX10_between_2 : decode cX10_between 2 = .ok (.if_icmp .ge 7, 3) := by decide +kernel
theorem dX10_between_5 : decode cX10_between 5 = .ok (.iload_n 1, 1) := by decide +kernel
theorem dX10_between_6 : decode cX10_between 6 = .ok (.goto 13, 3) := by decide +kernel
theorem dX10_between_9 : decode cX10_between 9 = .ok (.iload_n 0, 1) := by decide +kernel
theorem dX10_between_10 : decode cX10_between 10 = .ok (.iload_n 2, 1) := by decide +kernel
theorem dX10_between_11 : decode cX10_between 11 = .ok (.if_icmp .le 7, 3) := by decide +kernel
theorem dX10_between_14 : decode cX10_between 14 = .ok (.iload_n 2, 1) := by decide +kernel
theorem dX10_between_15 : decode cX10_between 15 = .ok (.goto 4, 3) := by decide +kernel
theorem dX10_between_18 : decode cX10_between 18 = .ok (.iload_n 0, 1) := by decide +kernel
theorem dX10_between_19 : decode cX10_between 19 = .ok (.ireturn, 1) := by decide +kernel
theorem dX10_gcd_0 : decode cX10_gcd 0 = .ok (.iload_n 0, 1) := by decide +kernel
theorem dX10_gcd_1 : decode cX10_gcd 1 = .ok (.istore_n 2, 1) := by decide +kernel
theorem dX10_gcd_2 : decode cX10_gcd 2 = .ok (.iload_n 1, 1) := by decide +kernel
theorem dX10_gcd_3 : decode cX10_gcd 3 = .ok (.istore_n 3, 1) := by decide +kernel
theorem dX10_gcd_4 : decode cX10_gcd 4 = .ok (.iload_n 3, 1) := by decide +kernel
theorem dX10_gcd_5 : decode cX10_gcd 5 = .ok (.ifCond .eq 16, 3) := by decide +kernel
theorem dX10_gcd_8 : decode cX10_gcd 8 = .ok (.iload_n 2, 1) := by decide +kernel
theorem dX10_gcd_9 : decode cX10_gcd 9 = .ok (.iload_n 3, 1) := by decide +kernel
theorem dX10_gcd_10 : decode cX10_gcd 10 = .ok (.irem, 1) := by decide +kernel
theorem dX10_gcd_11 : decode cX10_gcd 11 = .ok (.istore 4, 2) := by decide +kernel
theorem dX10_gcd_13 : decode cX10_gcd 13 = .ok (.iload_n 3, 1) := by decide +kernel
theorem dX10_gcd_14 : decode cX10_gcd 14 = .ok (.istore_n 2, 1) := by decide +kernel
theorem dX10_gcd_15 : decode cX10_gcd 15 = .ok (.iload 4, 2) := by decide +kernel
theorem dX10_gcd_17 : decode cX10_gcd 17 = .ok (.istore_n 3, 1) := by decide +kernel
theorem dX10_gcd_18 : decode cX10_gcd 18 = .ok (.goto (-14), 3) := by decide +kernel
theorem dX10_gcd_21 : decode cX10_gcd 21 = .ok (.iload_n 2, 1) := by decide +kernel
theorem dX10_gcd_22 : decode cX10_gcd 22 = .ok (.ireturn, 1) := by decide +kernel
theorem dX10_feed_0 : decode cX10_feed 0 = .ok (.aload_n 0, 1) := by decide +kernel
theorem dX10_feed_1 : decode cX10_feed 1 = .ok (.iconst 0, 1) := by decide +kernel
theorem dX10_feed_2 : decode cX10_feed 2 = .ok (.putfield 135, 3) := by decide +kernel
theorem dX10_feed_5 : decode cX10_feed 5 = .ok (.iconst 0, 1) := by decide +kernel
theorem dX10_feed_6 : decode cX10_feed 6 = .ok (.istore 7, 2) := by decide +kernel
theorem dX10_feed_8 : decode cX10_feed 8 = .ok (.iload 7, 2) := by decide +kernel
theorem dX10_feed_10 : decode cX10_feed 10 = .ok (.bipush 24, 2) := by decide +kernel
theorem dX10_feed_12 : decode cX10_feed 12 = .ok (.if_icmp .ge 108, 3) := by decide +kernel
theorem dX10_feed_15 : decode cX10_feed 15 = .ok (.iload 7, 2) := by decide +kernel
theorem dX10_feed_17 : decode cX10_feed 17 = .ok (.bipush 8, 2) := by decide +kernel
theorem dX10_feed_19 : decode cX10_feed 19 = .ok (.if_icmp .ge 7, 3) := by decide +kernel
theorem dX10_feed_22 : decode cX10_feed 22 = .ok (.lload_n 1, 1) := by decide +kernel
theorem dX10_feed_23 : decode cX10_feed 23 = .ok (.goto 16, 3) := by decide +kernel
theorem dX10_feed_26 : decode cX10_feed 26 = .ok (.iload 7, 2) := by decide +kernel
theorem dX10_feed_28 : decode cX10_feed 28 = .ok (.bipush 16, 2) := by decide +kernel
theorem dX10_feed_30 : decode cX10_feed 30 = .ok (.if_icmp .ge 7, 3) := by decide +kernel
theorem dX10_feed_33 : decode cX10_feed 33 = .ok (.lload_n 3, 1) := by decide +kernel
theorem dX10_feed_34 : decode cX10_feed 34 = .ok (.goto 5, 3) := by decide +kernel
theorem dX10_feed_37 : decode cX10_feed 37 = .ok (.lload 5, 2) := by decide +kernel
theorem dX10_feed_39 : decode cX10_feed 39 = .ok (.lstore 8, 2) := by decide +kernel
theorem dX10_feed_41 : decode cX10_feed 41 = .ok (.lload 8, 2) := by decide +kernel
theorem dX10_feed_43 : decode cX10_feed 43 = .ok (.bipush 56, 2) := by decide +kernel
theorem dX10_feed_45 : decode cX10_feed 45 = .ok (.bipush 8, 2) := by decide +kernel
theorem dX10_feed_47 : decode cX10_feed 47 = .ok (.iload 7, 2) := by decide +kernel
theorem dX10_feed_49 : decode cX10_feed 49 = .ok (.bipush 7, 2) := by decide +kernel
theorem dX10_feed_51 : decode cX10_feed 51 = .ok (.iand, 1) := by decide +kernel
theorem dX10_feed_52 : decode cX10_feed 52 = .ok (.imul, 1) := by decide +kernel
theorem dX10_feed_53 : decode cX10_feed 53 = .ok (.isub, 1) := by decide +kernel
theorem dX10_feed_54 : decode cX10_feed 54 = .ok (.lushr, 1) := by decide +kernel
theorem dX10_feed_55 : decode cX10_feed 55 = .ok (.ldc2_w 139, 3) := by decide +kernel
theorem dX10_feed_58 : decode cX10_feed 58 = .ok (.land, 1) := by decide +kernel
theorem dX10_feed_59 : decode cX10_feed 59 = .ok (.l2i, 1) := by decide +kernel
theorem dX10_feed_60 : decode cX10_feed 60 = .ok (.istore 10, 2) := by decide +kernel
theorem dX10_feed_62 : decode cX10_feed 62 = .ok (.aload_n 0, 1) := by decide +kernel
theorem dX10_feed_63 : decode cX10_feed 63 = .ok (.getfield 141, 3) := by decide +kernel
theorem dX10_feed_66 : decode cX10_feed 66 = .ok (.sipush 1000, 3) := by decide +kernel
theorem dX10_feed_69 : decode cX10_feed 69 = .ok (.if_icmp .ge 45, 3) := by decide +kernel
theorem dX10_feed_72 : decode cX10_feed 72 = .ok (.iload 10, 2) := by decide +kernel
theorem dX10_feed_74 : decode cX10_feed 74 = .ok (.bipush 10, 2) := by decide +kernel
theorem dX10_feed_76 : decode cX10_feed 76 = .ok (.if_icmp .eq 17, 3) := by decide +kernel
theorem dX10_feed_79 : decode cX10_feed 79 = .ok (.iload 10, 2) := by decide +kernel
theorem dX10_feed_81 : decode cX10_feed 81 = .ok (.bipush 32, 2) := by decide +kernel
theorem dX10_feed_83 : decode cX10_feed 83 = .ok (.if_icmp .lt 31, 3) := by decide +kernel
theorem dX10_feed_86 : decode cX10_feed 86 = .ok (.iload 10, 2) := by decide +kernel
theorem dX10_feed_88 : decode cX10_feed 88 = .ok (.bipush 126, 2) := by decide +kernel
theorem dX10_feed_90 : decode cX10_feed 90 = .ok (.if_icmp .gt 24, 3) := by decide +kernel
theorem dX10_feed_93 : decode cX10_feed 93 = .ok (.aload_n 0, 1) := by decide +kernel
theorem dX10_feed_94 : decode cX10_feed 94 = .ok (.getfield 7, 3) := by decide +kernel
theorem dX10_feed_97 : decode cX10_feed 97 = .ok (.aload_n 0, 1) := by decide +kernel
theorem dX10_feed_98 : decode cX10_feed 98 = .ok (.getfield 141, 3) := by decide +kernel
theorem dX10_feed_101 : decode cX10_feed 101 = .ok (.iload 10, 2) := by decide +kernel
theorem dX10_feed_103 : decode cX10_feed 103 = .ok (.iastore, 1) := by decide +kernel
theorem dX10_feed_104 : decode cX10_feed 104 = .ok (.aload_n 0, 1) := by decide +kernel
theorem dX10_feed_105 : decode cX10_feed 105 = .ok (.dup, 1) := by decide +kernel
theorem dX10_feed_106 : decode cX10_feed 106 = .ok (.getfield 141, 3) := by decide +kernel
theorem dX10_feed_109 : decode cX10_feed 109 = .ok (.iconst 1, 1) := by decide +kernel
theorem dX10_feed_110 : decode cX10_feed 110 = .ok (.iadd, 1) := by decide +kernel
theorem dX10_feed_111 : decode cX10_feed 111 = .ok (.putfield 141, 3) := by decide +kernel
theorem dX10_feed_114 : decode cX10_feed 114 = .ok (.iinc 7 1, 3) := by decide +kernel
theorem dX10_feed_117 : decode cX10_feed 117 = .ok (.goto (-109), 3) := by decide +kernel
theorem dX10_feed_120 : decode cX10_feed 120 = .ok (.aload_n 0, 1) := by decide +kernel
theorem dX10_feed_121 : decode cX10_feed 121 = .ok (.getfield 141, 3) := by decide +kernel
theorem dX10_feed_124 : decode cX10_feed 124 = .ok (.ireturn, 1) := by decide +kernel
theorem dX10_signAt_0 : decode cX10_signAt 0 = .ok (.iload_n 1, 1) := by decide +kernel
theorem dX10_signAt_1 : decode cX10_signAt 1 = .ok (.aload_n 0, 1) := by decide +kernel
theorem dX10_signAt_2 : decode cX10_signAt 2 = .ok (.getfield 144, 3) := by decide +kernel
theorem dX10_signAt_5 : decode cX10_signAt 5 = .ok (.if_icmp .ge 12, 3) := by decide +kernel
theorem dX10_signAt_8 : decode cX10_signAt 8 = .ok (.aload_n 0, 1) := by decide +kernel
theorem dX10_signAt_9 : decode cX10_signAt 9 = .ok (.getfield 7, 3) := by decide +kernel
theorem dX10_signAt_12 : decode cX10_signAt 12 = .ok (.iload_n 1, 1) := by decide +kernel
theorem dX10_signAt_13 : decode cX10_signAt 13 = .ok (.iaload, 1) := by decide +kernel
theorem dX10_signAt_14 : decode cX10_signAt 14 = .ok (.goto 4, 3) := by decide +kernel
theorem dX10_signAt_17 : decode cX10_signAt 17 = .ok (.iconst 0, 1) := by decide +kernel
theorem dX10_signAt_18 : decode cX10_signAt 18 = .ok (.ireturn, 1) := by decide +kernel
theorem dX10_nextToken_0 : decode cX10_nextToken 0 = .ok (.aload_n 0, 1) := by decide +kernel
theorem dX10_nextToken_1 : decode cX10_nextToken 1 = .ok (.getfield 147, 3) := by decide +kernel
theorem dX10_nextToken_4 : decode cX10_nextToken 4 = .ok (.aload_n 0, 1) := by decide +kernel
theorem dX10_nextToken_5 : decode cX10_nextToken 5 = .ok (.getfield 144, 3) := by decide +kernel
theorem dX10_nextToken_8 : decode cX10_nextToken 8 = .ok (.if_icmp .ge 44, 3) := by decide +kernel
theorem dX10_nextToken_11 : decode cX10_nextToken 11 = .ok (.aload_n 0, 1) := by decide +kernel
theorem dX10_nextToken_12 : decode cX10_nextToken 12 = .ok (.getfield 7, 3) := by decide +kernel
theorem dX10_nextToken_15 : decode cX10_nextToken 15 = .ok (.aload_n 0, 1) := by decide +kernel
theorem dX10_nextToken_16 : decode cX10_nextToken 16 = .ok (.getfield 147, 3) := by decide +kernel
theorem dX10_nextToken_19 : decode cX10_nextToken 19 = .ok (.iaload, 1) := by decide +kernel
theorem dX10_nextToken_20 : decode cX10_nextToken 20 = .ok (.bipush 32, 2) := by decide +kernel
theorem dX10_nextToken_22 : decode cX10_nextToken 22 = .ok (.if_icmp .eq 17, 3) := by decide +kernel
theorem dX10_nextToken_25 : decode cX10_nextToken 25 = .ok (.aload_n 0, 1) := by decide +kernel
theorem dX10_nextToken_26 : decode cX10_nextToken 26 = .ok (.getfield 7, 3) := by decide +kernel
theorem dX10_nextToken_29 : decode cX10_nextToken 29 = .ok (.aload_n 0, 1) := by decide +kernel
theorem dX10_nextToken_30 : decode cX10_nextToken 30 = .ok (.getfield 147, 3) := by decide +kernel
theorem dX10_nextToken_33 : decode cX10_nextToken 33 = .ok (.iaload, 1) := by decide +kernel
theorem dX10_nextToken_34 : decode cX10_nextToken 34 = .ok (.bipush 10, 2) := by decide +kernel
theorem dX10_nextToken_36 : decode cX10_nextToken 36 = .ok (.if_icmp .ne 16, 3) := by decide +kernel
theorem dX10_nextToken_39 : decode cX10_nextToken 39 = .ok (.aload_n 0, 1) := by decide +kernel
theorem dX10_nextToken_40 : decode cX10_nextToken 40 = .ok (.dup, 1) := by decide +kernel
theorem dX10_nextToken_41 : decode cX10_nextToken 41 = .ok (.getfield 147, 3) := by decide +kernel
theorem dX10_nextToken_44 : decode cX10_nextToken 44 = .ok (.iconst 1, 1) := by decide +kernel
theorem dX10_nextToken_45 : decode cX10_nextToken 45 = .ok (.iadd, 1) := by decide +kernel
theorem dX10_nextToken_46 : decode cX10_nextToken 46 = .ok (.putfield 147, 3) := by decide +kernel
theorem dX10_nextToken_49 : decode cX10_nextToken 49 = .ok (.goto (-49), 3) := by decide +kernel
theorem dX10_nextToken_52 : decode cX10_nextToken 52 = .ok (.aload_n 0, 1) := by decide +kernel
theorem dX10_nextToken_53 : decode cX10_nextToken 53 = .ok (.aload_n 0, 1) := by decide +kernel
theorem dX10_nextToken_54 : decode cX10_nextToken 54 = .ok (.getfield 147, 3) := by decide +kernel
theorem dX10_nextToken_57 : decode cX10_nextToken 57 = .ok (.putfield 150, 3) := by decide +kernel
theorem dX10_nextToken_60 : decode cX10_nextToken 60 = .ok (.aload_n 0, 1) := by decide +kernel
theorem dX10_nextToken_61 : decode cX10_nextToken 61 = .ok (.lconst 0, 1) := by decide +kernel
theorem dX10_nextToken_62 : decode cX10_nextToken 62 = .ok (.putfield 153, 3) := by decide +kernel
theorem dX10_nextToken_65 : decode cX10_nextToken 65 = .ok (.aload_n 0, 1) := by decide +kernel
theorem dX10_nextToken_66 : decode cX10_nextToken 66 = .ok (.iconst 0, 1) := by decide +kernel
theorem dX10_nextToken_67 : decode cX10_nextToken 67 = .ok (.putfield 157, 3) := by decide +kernel
theorem dX10_nextToken_70 : decode cX10_nextToken 70 = .ok (.aload_n 0, 1) := by decide +kernel
theorem dX10_nextToken_71 : decode cX10_nextToken 71 = .ok (.getfield 147, 3) := by decide +kernel
theorem dX10_nextToken_74 : decode cX10_nextToken 74 = .ok (.aload_n 0, 1) := by decide +kernel
theorem dX10_nextToken_75 : decode cX10_nextToken 75 = .ok (.getfield 144, 3) := by decide +kernel
theorem dX10_nextToken_78 : decode cX10_nextToken 78 = .ok (.if_icmp .ne 9, 3) := by decide +kernel
theorem dX10_nextToken_81 : decode cX10_nextToken 81 = .ok (.aload_n 0, 1) := by decide +kernel
theorem dX10_nextToken_82 : decode cX10_nextToken 82 = .ok (.iconst 0, 1) := by decide +kernel
theorem dX10_nextToken_83 : decode cX10_nextToken 83 = .ok (.putfield 160, 3) := by decide +kernel
theorem dX10_nextToken_86 : decode cX10_nextToken 86 = .ok (.return_, 1) := by decide +kernel
theorem dX10_nextToken_87 : decode cX10_nextToken 87 = .ok (.aload_n 0, 1) := by decide +kernel
theorem dX10_nextToken_88 : decode cX10_nextToken 88 = .ok (.getfield 7, 3) := by decide +kernel
theorem dX10_nextToken_91 : decode cX10_nextToken 91 = .ok (.aload_n 0, 1) := by decide +kernel
theorem dX10_nextToken_92 : decode cX10_nextToken 92 = .ok (.getfield 147, 3) := by decide +kernel
theorem dX10_nextToken_95 : decode cX10_nextToken 95 = .ok (.iaload, 1) := by decide +kernel
theorem dX10_nextToken_96 : decode cX10_nextToken 96 = .ok (.istore_n 1, 1) := by decide +kernel
theorem dX10_nextToken_97 : decode cX10_nextToken 97 = .ok (.iload_n 1, 1) := by decide +kernel
theorem dX10_nextToken_98 : decode cX10_nextToken 98 = .ok (.bipush 97, 2) := by decide +kernel
theorem dX10_nextToken_100 : decode cX10_nextToken 100 = .ok (.if_icmp .lt 112, 3) := by decide +kernel
theorem dX10_nextToken_103 : decode cX10_nextToken 103 = .ok (.iload_n 1, 1) := by decide +kernel
theorem dX10_nextToken_104 : decode cX10_nextToken 104 = .ok (.bipush 122, 2) := by decide +kernel
theorem dX10_nextToken_106 : decode cX10_nextToken 106 = .ok (.if_icmp .gt 106, 3) := by decide +kernel
theorem dX10_nextToken_109 : decode cX10_nextToken 109 = .ok (.aload_n 0, 1) := by decide +kernel
theorem dX10_nextToken_110 : decode cX10_nextToken 110 = .ok (.aload_n 0, 1) := by decide +kernel
theorem dX10_nextToken_111 : decode cX10_nextToken 111 = .ok (.getfield 147, 3) := by decide +kernel
theorem dX10_nextToken_114 : decode cX10_nextToken 114 = .ok (.invokevirtual 163, 3) := by decide +kernel
theorem dX10_nextToken_117 : decode cX10_nextToken 117 = .ok (.bipush 97, 2) := by decide +kernel
theorem dX10_nextToken_119 : decode cX10_nextToken 119 = .ok (.if_icmp .lt 69, 3) := by decide +kernel
theorem dX10_nextToken_122 : decode cX10_nextToken 122 = .ok (.aload_n 0, 1) := by decide +kernel
theorem dX10_nextToken_123 : decode cX10_nextToken 123 = .ok (.aload_n 0, 1) := by decide +kernel
theorem dX10_nextToken_124 : decode cX10_nextToken 124 = .ok (.getfield 147, 3) := by decide +kernel
theorem dX10_nextToken_127 : decode cX10_nextToken 127 = .ok (.invokevirtual 163, 3) := by decide +kernel
theorem dX10_nextToken_130 : decode cX10_nextToken 130 = .ok (.bipush 122, 2) := by decide +kernel
theorem dX10_nextToken_132 : decode cX10_nextToken 132 = .ok (.if_icmp .gt 56, 3) := by decide +kernel
theorem dX10_nextToken_135 : decode cX10_nextToken 135 = .ok (.aload_n 0, 1) := by decide +kernel
theorem dX10_nextToken_136 : decode cX10_nextToken 136 = .ok (.getfield 147, 3) := by decide +kernel
theorem dX10_nextToken_139 : decode cX10_nextToken 139 = .ok (.aload_n 0, 1) := by decide +kernel
theorem dX10_nextToken_140 : decode cX10_nextToken 140 = .ok (.getfield 150, 3) := by decide +kernel
theorem dX10_nextToken_143 : decode cX10_nextToken 143 = .ok (.isub, 1) := by decide +kernel
theorem dX10_nextToken_144 : decode cX10_nextToken 144 = .ok (.bipush 8, 2) := by decide +kernel
theorem dX10_nextToken_146 : decode cX10_nextToken 146 = .ok (.if_icmp .ge 29, 3) := by decide +kernel
theorem dX10_nextToken_149 : decode cX10_nextToken 149 = .ok (.aload_n 0, 1) := by decide +kernel
theorem dX10_nextToken_150 : decode cX10_nextToken 150 = .ok (.aload_n 0, 1) := by decide +kernel
theorem dX10_nextToken_151 : decode cX10_nextToken 151 = .ok (.getfield 153, 3) := by decide +kernel
theorem dX10_nextToken_154 : decode cX10_nextToken 154 = .ok (.ldc2_w 167, 3) := by decide +kernel
theorem dX10_nextToken_157 : decode cX10_nextToken 157 = .ok (.lmul, 1) := by decide +kernel
theorem dX10_nextToken_158 : decode cX10_nextToken 158 = .ok (.aload_n 0, 1) := by decide +kernel
theorem dX10_nextToken_159 : decode cX10_nextToken 159 = .ok (.aload_n 0, 1) := by decide +kernel
theorem dX10_nextToken_160 : decode cX10_nextToken 160 = .ok (.getfield 147, 3) := by decide +kernel
theorem dX10_nextToken_163 : decode cX10_nextToken 163 = .ok (.invokevirtual 163, 3) := by decide +kernel
theorem dX10_nextToken_166 : decode cX10_nextToken 166 = .ok (.i2l, 1) := by decide +kernel
theorem dX10_nextToken_167 : decode cX10_nextToken 167 = .ok (.ladd, 1) := by decide +kernel
theorem dX10_nextToken_168 : decode cX10_nextToken 168 = .ok (.ldc2_w 169, 3) := by decide +kernel
theorem dX10_nextToken_171 : decode cX10_nextToken 171 = .ok (.lsub, 1) := by decide +kernel
theorem dX10_nextToken_172 : decode cX10_nextToken 172 = .ok (.putfield 153, 3) := by decide +kernel
theorem dX10_nextToken_175 : decode cX10_nextToken 175 = .ok (.aload_n 0, 1) := by decide +kernel
theorem dX10_nextToken_176 : decode cX10_nextToken 176 = .ok (.dup, 1) := by decide +kernel
theorem dX10_nextToken_177 : decode cX10_nextToken 177 = .ok (.getfield 147, 3) := by decide +kernel
theorem dX10_nextToken_180 : decode cX10_nextToken 180 = .ok (.iconst 1, 1) := by decide +kernel
theorem dX10_nextToken_181 : decode cX10_nextToken 181 = .ok (.iadd, 1) := by decide +kernel
theorem dX10_nextToken_182 : decode cX10_nextToken 182 = .ok (.putfield 147, 3) := by decide +kernel
theorem dX10_nextToken_185 : decode cX10_nextToken 185 = .ok (.goto (-76), 3) := by decide +kernel
theorem dX10_nextToken_188 : decode cX10_nextToken 188 = .ok (.aload_n 0, 1) := by decide +kernel
theorem dX10_nextToken_189 : decode cX10_nextToken 189 = .ok (.aload_n 0, 1) := by decide +kernel
theorem dX10_nextToken_190 : decode cX10_nextToken 190 = .ok (.getfield 147, 3) := by decide +kernel
theorem dX10_nextToken_193 : decode cX10_nextToken 193 = .ok (.aload_n 0, 1) := by decide +kernel
theorem dX10_nextToken_194 : decode cX10_nextToken 194 = .ok (.getfield 150, 3) := by decide +kernel
theorem dX10_nextToken_197 : decode cX10_nextToken 197 = .ok (.isub, 1) := by decide +kernel
theorem dX10_nextToken_198 : decode cX10_nextToken 198 = .ok (.bipush 8, 2) := by decide +kernel
theorem dX10_nextToken_200 : decode cX10_nextToken 200 = .ok (.if_icmp .le 7, 3) := by decide +kernel
theorem dX10_nextToken_203 : decode cX10_nextToken 203 = .ok (.iconst 4, 1) := by decide +kernel
theorem dX10_nextToken_204 : decode cX10_nextToken 204 = .ok (.goto 4, 3) := by decide +kernel
theorem dX10_nextToken_207 : decode cX10_nextToken 207 = .ok (.iconst 1, 1) := by decide +kernel
theorem dX10_nextToken_208 : decode cX10_nextToken 208 = .ok (.putfield 160, 3) := by decide +kernel
theorem dX10_nextToken_211 : decode cX10_nextToken 211 = .ok (.return_, 1) := by decide +kernel
theorem dX10_nextToken_212 : decode cX10_nextToken 212 = .ok (.iload_n 1, 1) := by decide +kernel
theorem dX10_nextToken_213 : decode cX10_nextToken 213 = .ok (.bipush 48, 2) := by decide +kernel
theorem dX10_nextToken_215 : decode cX10_nextToken 215 = .ok (.if_icmp .lt 107, 3) := by decide +kernel
theorem dX10_nextToken_218 : decode cX10_nextToken 218 = .ok (.iload_n 1, 1) := by decide +kernel
theorem dX10_nextToken_219 : decode cX10_nextToken 219 = .ok (.bipush 57, 2) := by decide +kernel
theorem dX10_nextToken_221 : decode cX10_nextToken 221 = .ok (.if_icmp .gt 101, 3) := by decide +kernel
theorem dX10_nextToken_224 : decode cX10_nextToken 224 = .ok (.aload_n 0, 1) := by decide +kernel
theorem dX10_nextToken_225 : decode cX10_nextToken 225 = .ok (.aload_n 0, 1) := by decide +kernel
theorem dX10_nextToken_226 : decode cX10_nextToken 226 = .ok (.getfield 147, 3) := by decide +kernel
theorem dX10_nextToken_229 : decode cX10_nextToken 229 = .ok (.invokevirtual 163, 3) := by decide +kernel
theorem dX10_nextToken_232 : decode cX10_nextToken 232 = .ok (.bipush 48, 2) := by decide +kernel
theorem dX10_nextToken_234 : decode cX10_nextToken 234 = .ok (.if_icmp .lt 65, 3) := by decide +kernel
theorem dX10_nextToken_237 : decode cX10_nextToken 237 = .ok (.aload_n 0, 1) := by decide +kernel
theorem dX10_nextToken_238 : decode cX10_nextToken 238 = .ok (.aload_n 0, 1) := by decide +kernel
theorem dX10_nextToken_239 : decode cX10_nextToken 239 = .ok (.getfield 147, 3) := by decide +kernel
theorem dX10_nextToken_242 : decode cX10_nextToken 242 = .ok (.invokevirtual 163, 3) := by decide +kernel
theorem dX10_nextToken_245 : decode cX10_nextToken 245 = .ok (.bipush 57, 2) := by decide +kernel
theorem dX10_nextToken_247 : decode cX10_nextToken 247 = .ok (.if_icmp .gt 52, 3) := by decide +kernel
theorem dX10_nextToken_250 : decode cX10_nextToken 250 = .ok (.aload_n 0, 1) := by decide +kernel
theorem dX10_nextToken_251 : decode cX10_nextToken 251 = .ok (.getfield 147, 3) := by decide +kernel
theorem dX10_nextToken_254 : decode cX10_nextToken 254 = .ok (.aload_n 0, 1) := by decide +kernel
theorem dX10_nextToken_255 : decode cX10_nextToken 255 = .ok (.getfield 150, 3) := by decide +kernel
theorem dX10_nextToken_258 : decode cX10_nextToken 258 = .ok (.isub, 1) := by decide +kernel
theorem dX10_nextToken_259 : decode cX10_nextToken 259 = .ok (.iconst 4, 1) := by decide +kernel
theorem dX10_nextToken_260 : decode cX10_nextToken 260 = .ok (.if_icmp .ge 26, 3) := by decide +kernel
theorem dX10_nextToken_263 : decode cX10_nextToken 263 = .ok (.aload_n 0, 1) := by decide +kernel
theorem dX10_nextToken_264 : decode cX10_nextToken 264 = .ok (.aload_n 0, 1) := by decide +kernel
theorem dX10_nextToken_265 : decode cX10_nextToken 265 = .ok (.getfield 157, 3) := by decide +kernel
theorem dX10_nextToken_268 : decode cX10_nextToken 268 = .ok (.bipush 10, 2) := by decide +kernel
theorem dX10_nextToken_270 : decode cX10_nextToken 270 = .ok (.imul, 1) := by decide +kernel
theorem dX10_nextToken_271 : decode cX10_nextToken 271 = .ok (.aload_n 0, 1) := by decide +kernel
theorem dX10_nextToken_272 : decode cX10_nextToken 272 = .ok (.aload_n 0, 1) := by decide +kernel
theorem dX10_nextToken_273 : decode cX10_nextToken 273 = .ok (.getfield 147, 3) := by decide +kernel
theorem dX10_nextToken_276 : decode cX10_nextToken 276 = .ok (.invokevirtual 163, 3) := by decide +kernel
theorem dX10_nextToken_279 : decode cX10_nextToken 279 = .ok (.iadd, 1) := by decide +kernel
theorem dX10_nextToken_280 : decode cX10_nextToken 280 = .ok (.bipush 48, 2) := by decide +kernel
theorem dX10_nextToken_282 : decode cX10_nextToken 282 = .ok (.isub, 1) := by decide +kernel
theorem dX10_nextToken_283 : decode cX10_nextToken 283 = .ok (.putfield 157, 3) := by decide +kernel
theorem dX10_nextToken_286 : decode cX10_nextToken 286 = .ok (.aload_n 0, 1) := by decide +kernel
theorem dX10_nextToken_287 : decode cX10_nextToken 287 = .ok (.dup, 1) := by decide +kernel
theorem dX10_nextToken_288 : decode cX10_nextToken 288 = .ok (.getfield 147, 3) := by decide +kernel
theorem dX10_nextToken_291 : decode cX10_nextToken 291 = .ok (.iconst 1, 1) := by decide +kernel
theorem dX10_nextToken_292 : decode cX10_nextToken 292 = .ok (.iadd, 1) := by decide +kernel
theorem dX10_nextToken_293 : decode cX10_nextToken 293 = .ok (.putfield 147, 3) := by decide +kernel
theorem dX10_nextToken_296 : decode cX10_nextToken 296 = .ok (.goto (-72), 3) := by decide +kernel
theorem dX10_nextToken_299 : decode cX10_nextToken 299 = .ok (.aload_n 0, 1) := by decide +kernel
theorem dX10_nextToken_300 : decode cX10_nextToken 300 = .ok (.aload_n 0, 1) := by decide +kernel
theorem dX10_nextToken_301 : decode cX10_nextToken 301 = .ok (.getfield 147, 3) := by decide +kernel
theorem dX10_nextToken_304 : decode cX10_nextToken 304 = .ok (.aload_n 0, 1) := by decide +kernel
theorem dX10_nextToken_305 : decode cX10_nextToken 305 = .ok (.getfield 150, 3) := by decide +kernel
theorem dX10_nextToken_308 : decode cX10_nextToken 308 = .ok (.isub, 1) := by decide +kernel
theorem dX10_nextToken_309 : decode cX10_nextToken 309 = .ok (.iconst 4, 1) := by decide +kernel
theorem dX10_nextToken_310 : decode cX10_nextToken 310 = .ok (.if_icmp .le 7, 3) := by decide +kernel
theorem dX10_nextToken_313 : decode cX10_nextToken 313 = .ok (.iconst 4, 1) := by decide +kernel
theorem dX10_nextToken_314 : decode cX10_nextToken 314 = .ok (.goto 4, 3) := by decide +kernel
theorem dX10_nextToken_317 : decode cX10_nextToken 317 = .ok (.iconst 2, 1) := by decide +kernel
theorem dX10_nextToken_318 : decode cX10_nextToken 318 = .ok (.putfield 160, 3) := by decide +kernel
theorem dX10_nextToken_321 : decode cX10_nextToken 321 = .ok (.return_, 1) := by decide +kernel
theorem dX10_nextToken_322 : decode cX10_nextToken 322 = .ok (.aload_n 0, 1) := by decide +kernel
theorem dX10_nextToken_323 : decode cX10_nextToken 323 = .ok (.dup, 1) := by decide +kernel
theorem dX10_nextToken_324 : decode cX10_nextToken 324 = .ok (.getfield 147, 3) := by decide +kernel
theorem dX10_nextToken_327 : decode cX10_nextToken 327 = .ok (.iconst 1, 1) := by decide +kernel
theorem dX10_nextToken_328 : decode cX10_nextToken 328 = .ok (.iadd, 1) := by decide +kernel
theorem dX10_nextToken_329 : decode cX10_nextToken 329 = .ok (.putfield 147, 3) := by decide +kernel
theorem dX10_nextToken_332 : decode cX10_nextToken 332 = .ok (.aload_n 0, 1) := by decide +kernel
theorem dX10_nextToken_333 : decode cX10_nextToken 333 = .ok (.iload_n 1, 1) := by decide +kernel
theorem dX10_nextToken_334 : decode cX10_nextToken 334 = .ok (.bipush 40, 2) := by decide +kernel
theorem dX10_nextToken_336 : decode cX10_nextToken 336 = .ok (.if_icmp .lt 9, 3) := by decide +kernel
theorem dX10_nextToken_339 : decode cX10_nextToken 339 = .ok (.iload_n 1, 1) := by decide +kernel
theorem dX10_nextToken_340 : decode cX10_nextToken 340 = .ok (.bipush 43, 2) := by decide +kernel
theorem dX10_nextToken_342 : decode cX10_nextToken 342 = .ok (.if_icmp .le 21, 3) := by decide +kernel
theorem dX10_nextToken_345 : decode cX10_nextToken 345 = .ok (.iload_n 1, 1) := by decide +kernel
theorem dX10_nextToken_346 : decode cX10_nextToken 346 = .ok (.bipush 45, 2) := by decide +kernel
theorem dX10_nextToken_348 : decode cX10_nextToken 348 = .ok (.if_icmp .eq 15, 3) := by decide +kernel
theorem dX10_nextToken_351 : decode cX10_nextToken 351 = .ok (.iload_n 1, 1) := by decide +kernel
theorem dX10_nextToken_352 : decode cX10_nextToken 352 = .ok (.bipush 59, 2) := by decide +kernel
theorem dX10_nextToken_354 : decode cX10_nextToken 354 = .ok (.if_icmp .lt 13, 3) := by decide +kernel
theorem dX10_nextToken_357 : decode cX10_nextToken 357 = .ok (.iload_n 1, 1) := by decide +kernel
theorem dX10_nextToken_358 : decode cX10_nextToken 358 = .ok (.bipush 61, 2) := by decide +kernel
theorem dX10_nextToken_360 : decode cX10_nextToken 360 = .ok (.if_icmp .gt 7, 3) := by decide +kernel
theorem dX10_nextToken_363 : decode cX10_nextToken 363 = .ok (.iconst 3, 1) := by decide +kernel
theorem dX10_nextToken_364 : decode cX10_nextToken 364 = .ok (.goto 4, 3) := by decide +kernel
theorem dX10_nextToken_367 : decode cX10_nextToken 367 = .ok (.iconst 4, 1) := by decide +kernel
theorem dX10_nextToken_368 : decode cX10_nextToken 368 = .ok (.putfield 160, 3) := by decide +kernel
theorem dX10_nextToken_371 : decode cX10_nextToken 371 = .ok (.return_, 1) := by decide +kernel
theorem dX10_isWord_0 : decode cX10_isWord 0 = .ok (.aload_n 0, 1) := by decide +kernel
theorem dX10_isWord_1 : decode cX10_isWord 1 = .ok (.getfield 160, 3) := by decide +kernel
theorem dX10_isWord_4 : decode cX10_isWord 4 = .ok (.iconst 1, 1) := by decide +kernel
theorem dX10_isWord_5 : decode cX10_isWord 5 = .ok (.if_icmp .ne 16, 3) := by decide +kernel
theorem dX10_isWord_8 : decode cX10_isWord 8 = .ok (.aload_n 0, 1) := by decide +kernel
theorem dX10_isWord_9 : decode cX10_isWord 9 = .ok (.getfield 153, 3) := by decide +kernel
theorem dX10_isWord_12 : decode cX10_isWord 12 = .ok (.lload_n 1, 1) := by decide +kernel
theorem dX10_isWord_13 : decode cX10_isWord 13 = .ok (.lcmp, 1) := by decide +kernel
theorem dX10_isWord_14 : decode cX10_isWord 14 = .ok (.ifCond .ne 7, 3) := by decide +kernel
theorem dX10_isWord_17 : decode cX10_isWord 17 = .ok (.iconst 1, 1) := by decide +kernel
theorem dX10_isWord_18 : decode cX10_isWord 18 = .ok (.goto 4, 3) := by decide +kernel
theorem dX10_isWord_21 : decode cX10_isWord 21 = .ok (.iconst 0, 1) := by decide +kernel
theorem dX10_isWord_22 : decode cX10_isWord 22 = .ok (.ireturn, 1) := by decide +kernel
theorem dX10_isSign_0 : decode cX10_isSign 0 = .ok (.aload_n 0, 1) := by decide +kernel
theorem dX10_isSign_1 : decode cX10_isSign 1 = .ok (.getfield 160, 3) := by decide +kernel
theorem dX10_isSign_4 : decode cX10_isSign 4 = .ok (.iconst 3, 1) := by decide +kernel
theorem dX10_isSign_5 : decode cX10_isSign 5 = .ok (.if_icmp .ne 20, 3) := by decide +kernel
theorem dX10_isSign_8 : decode cX10_isSign 8 = .ok (.aload_n 0, 1) := by decide +kernel
theorem dX10_isSign_9 : decode cX10_isSign 9 = .ok (.getfield 7, 3) := by decide +kernel
theorem dX10_isSign_12 : decode cX10_isSign 12 = .ok (.aload_n 0, 1) := by decide +kernel
theorem dX10_isSign_13 : decode cX10_isSign 13 = .ok (.getfield 150, 3) := by decide +kernel
theorem dX10_isSign_16 : decode cX10_isSign 16 = .ok (.iaload, 1) := by decide +kernel
theorem dX10_isSign_17 : decode cX10_isSign 17 = .ok (.iload_n 1, 1) := by decide +kernel
theorem dX10_isSign_18 : decode cX10_isSign 18 = .ok (.if_icmp .ne 7, 3) := by decide +kernel
theorem dX10_isSign_21 : decode cX10_isSign 21 = .ok (.iconst 1, 1) := by decide +kernel
theorem dX10_isSign_22 : decode cX10_isSign 22 = .ok (.goto 4, 3) := by decide +kernel
theorem dX10_isSign_25 : decode cX10_isSign 25 = .ok (.iconst 0, 1) := by decide +kernel
theorem dX10_isSign_26 : decode cX10_isSign 26 = .ok (.ireturn, 1) := by decide +kernel
theorem dX10_fails_0 : decode cX10_fails 0 = .ok (.aload_n 0, 1) := by decide +kernel
theorem dX10_fails_1 : decode cX10_fails 1 = .ok (.iload_n 1, 1) := by decide +kernel
theorem dX10_fails_2 : decode cX10_fails 2 = .ok (.bipush 16, 2) := by decide +kernel
theorem dX10_fails_4 : decode cX10_fails 4 = .ok (.aload_n 0, 1) := by decide +kernel
theorem dX10_fails_5 : decode cX10_fails 5 = .ok (.getfield 150, 3) := by decide +kernel
theorem dX10_fails_8 : decode cX10_fails 8 = .ok (.imul, 1) := by decide +kernel
theorem dX10_fails_9 : decode cX10_fails 9 = .ok (.iadd, 1) := by decide +kernel
theorem dX10_fails_10 : decode cX10_fails 10 = .ok (.putfield 171, 3) := by decide +kernel
theorem dX10_fails_13 : decode cX10_fails 13 = .ok (.iconst 0, 1) := by decide +kernel
theorem dX10_fails_14 : decode cX10_fails 14 = .ok (.ireturn, 1) := by decide +kernel
theorem dX10_puts_0 : decode cX10_puts 0 = .ok (.aload_n 0, 1) := by decide +kernel
theorem dX10_puts_1 : decode cX10_puts 1 = .ok (.getfield 68, 3) := by decide +kernel
theorem dX10_puts_4 : decode cX10_puts 4 = .ok (.aload_n 0, 1) := by decide +kernel
theorem dX10_puts_5 : decode cX10_puts 5 = .ok (.getfield 174, 3) := by decide +kernel
theorem dX10_puts_8 : decode cX10_puts 8 = .ok (.iload_n 1, 1) := by decide +kernel
theorem dX10_puts_9 : decode cX10_puts 9 = .ok (.iastore, 1) := by decide +kernel
theorem dX10_puts_10 : decode cX10_puts 10 = .ok (.aload_n 0, 1) := by decide +kernel
theorem dX10_puts_11 : decode cX10_puts 11 = .ok (.dup, 1) := by decide +kernel
theorem dX10_puts_12 : decode cX10_puts 12 = .ok (.getfield 174, 3) := by decide +kernel
theorem dX10_puts_15 : decode cX10_puts 15 = .ok (.iconst 1, 1) := by decide +kernel
theorem dX10_puts_16 : decode cX10_puts 16 = .ok (.iadd, 1) := by decide +kernel
theorem dX10_puts_17 : decode cX10_puts 17 = .ok (.putfield 174, 3) := by decide +kernel
theorem dX10_puts_20 : decode cX10_puts 20 = .ok (.return_, 1) := by decide +kernel
theorem dX10_fact_0 : decode cX10_fact 0 = .ok (.aload_n 0, 1) := by decide +kernel
theorem dX10_fact_1 : decode cX10_fact 1 = .ok (.getfield 160, 3) := by decide +kernel
theorem dX10_fact_4 : decode cX10_fact 4 = .ok (.iconst 1, 1) := by decide +kernel
theorem dX10_fact_5 : decode cX10_fact 5 = .ok (.if_icmp .eq 5, 3) := by decide +kernel
theorem dX10_fact_8 : decode cX10_fact 8 = .ok (.iconst 0, 1) := by decide +kernel
theorem dX10_fact_9 : decode cX10_fact 9 = .ok (.ireturn, 1) := by decide +kernel
theorem dX10_fact_10 : decode cX10_fact 10 = .ok (.aload_n 0, 1) := by decide +kernel
theorem dX10_fact_11 : decode cX10_fact 11 = .ok (.getfield 177, 3) := by decide +kernel
theorem dX10_fact_14 : decode cX10_fact 14 = .ok (.ifCond .eq 84, 3) := by decide +kernel
theorem dX10_fact_17 : decode cX10_fact 17 = .ok (.aload_n 0, 1) := by decide +kernel
theorem dX10_fact_18 : decode cX10_fact 18 = .ok (.getfield 153, 3) := by decide +kernel
theorem dX10_fact_21 : decode cX10_fact 21 = .ok (.ldc2_w 181, 3) := by decide +kernel
theorem dX10_fact_24 : decode cX10_fact 24 = .ok (.lcmp, 1) := by decide +kernel
theorem dX10_fact_25 : decode cX10_fact 25 = .ok (.ifCond .ne 5, 3) := by decide +kernel
theorem dX10_fact_28 : decode cX10_fact 28 = .ok (.iconst 1, 1) := by decide +kernel
theorem dX10_fact_29 : decode cX10_fact 29 = .ok (.ireturn, 1) := by decide +kernel
theorem dX10_fact_30 : decode cX10_fact 30 = .ok (.aload_n 0, 1) := by decide +kernel
theorem dX10_fact_31 : decode cX10_fact 31 = .ok (.getfield 153, 3) := by decide +kernel
theorem dX10_fact_34 : decode cX10_fact 34 = .ok (.ldc2_w 183, 3) := by decide +kernel
theorem dX10_fact_37 : decode cX10_fact 37 = .ok (.lcmp, 1) := by decide +kernel
theorem dX10_fact_38 : decode cX10_fact 38 = .ok (.ifCond .ne 5, 3) := by decide +kernel
theorem dX10_fact_41 : decode cX10_fact 41 = .ok (.iconst 2, 1) := by decide +kernel
theorem dX10_fact_42 : decode cX10_fact 42 = .ok (.ireturn, 1) := by decide +kernel
theorem dX10_fact_43 : decode cX10_fact 43 = .ok (.aload_n 0, 1) := by decide +kernel
theorem dX10_fact_44 : decode cX10_fact 44 = .ok (.getfield 153, 3) := by decide +kernel
theorem dX10_fact_47 : decode cX10_fact 47 = .ok (.ldc2_w 185, 3) := by decide +kernel
theorem dX10_fact_50 : decode cX10_fact 50 = .ok (.lcmp, 1) := by decide +kernel
theorem dX10_fact_51 : decode cX10_fact 51 = .ok (.ifCond .ne 5, 3) := by decide +kernel
theorem dX10_fact_54 : decode cX10_fact 54 = .ok (.iconst 3, 1) := by decide +kernel
theorem dX10_fact_55 : decode cX10_fact 55 = .ok (.ireturn, 1) := by decide +kernel
theorem dX10_fact_56 : decode cX10_fact 56 = .ok (.aload_n 0, 1) := by decide +kernel
theorem dX10_fact_57 : decode cX10_fact 57 = .ok (.getfield 153, 3) := by decide +kernel
theorem dX10_fact_60 : decode cX10_fact 60 = .ok (.ldc2_w 187, 3) := by decide +kernel
theorem dX10_fact_63 : decode cX10_fact 63 = .ok (.lcmp, 1) := by decide +kernel
theorem dX10_fact_64 : decode cX10_fact 64 = .ok (.ifCond .ne 5, 3) := by decide +kernel
theorem dX10_fact_67 : decode cX10_fact 67 = .ok (.iconst 4, 1) := by decide +kernel
theorem dX10_fact_68 : decode cX10_fact 68 = .ok (.ireturn, 1) := by decide +kernel
theorem dX10_fact_69 : decode cX10_fact 69 = .ok (.aload_n 0, 1) := by decide +kernel
theorem dX10_fact_70 : decode cX10_fact 70 = .ok (.getfield 153, 3) := by decide +kernel
theorem dX10_fact_73 : decode cX10_fact 73 = .ok (.ldc2_w 189, 3) := by decide +kernel
theorem dX10_fact_76 : decode cX10_fact 76 = .ok (.lcmp, 1) := by decide +kernel
theorem dX10_fact_77 : decode cX10_fact 77 = .ok (.ifCond .ne 5, 3) := by decide +kernel
theorem dX10_fact_80 : decode cX10_fact 80 = .ok (.iconst 5, 1) := by decide +kernel
theorem dX10_fact_81 : decode cX10_fact 81 = .ok (.ireturn, 1) := by decide +kernel
theorem dX10_fact_82 : decode cX10_fact 82 = .ok (.aload_n 0, 1) := by decide +kernel
theorem dX10_fact_83 : decode cX10_fact 83 = .ok (.getfield 153, 3) := by decide +kernel
theorem dX10_fact_86 : decode cX10_fact 86 = .ok (.ldc2_w 191, 3) := by decide +kernel
theorem dX10_fact_89 : decode cX10_fact 89 = .ok (.lcmp, 1) := by decide +kernel
theorem dX10_fact_90 : decode cX10_fact 90 = .ok (.ifCond .ne 6, 3) := by decide +kernel
theorem dX10_fact_93 : decode cX10_fact 93 = .ok (.bipush 6, 2) := by decide +kernel
theorem dX10_fact_95 : decode cX10_fact 95 = .ok (.ireturn, 1) := by decide +kernel
theorem dX10_fact_96 : decode cX10_fact 96 = .ok (.iconst 0, 1) := by decide +kernel
theorem dX10_fact_97 : decode cX10_fact 97 = .ok (.ireturn, 1) := by decide +kernel
theorem dX10_fact_98 : decode cX10_fact 98 = .ok (.aload_n 0, 1) := by decide +kernel
theorem dX10_fact_99 : decode cX10_fact 99 = .ok (.getfield 153, 3) := by decide +kernel
theorem dX10_fact_102 : decode cX10_fact 102 = .ok (.ldc2_w 193, 3) := by decide +kernel
theorem dX10_fact_105 : decode cX10_fact 105 = .ok (.lcmp, 1) := by decide +kernel
theorem dX10_fact_106 : decode cX10_fact 106 = .ok (.ifCond .ne 5, 3) := by decide +kernel
theorem dX10_fact_109 : decode cX10_fact 109 = .ok (.iconst 1, 1) := by decide +kernel
theorem dX10_fact_110 : decode cX10_fact 110 = .ok (.ireturn, 1) := by decide +kernel
theorem dX10_fact_111 : decode cX10_fact 111 = .ok (.aload_n 0, 1) := by decide +kernel
theorem dX10_fact_112 : decode cX10_fact 112 = .ok (.getfield 153, 3) := by decide +kernel
theorem dX10_fact_115 : decode cX10_fact 115 = .ok (.ldc2_w 195, 3) := by decide +kernel
theorem dX10_fact_118 : decode cX10_fact 118 = .ok (.lcmp, 1) := by decide +kernel
theorem dX10_fact_119 : decode cX10_fact 119 = .ok (.ifCond .ne 5, 3) := by decide +kernel
theorem dX10_fact_122 : decode cX10_fact 122 = .ok (.iconst 2, 1) := by decide +kernel
theorem dX10_fact_123 : decode cX10_fact 123 = .ok (.ireturn, 1) := by decide +kernel
theorem dX10_fact_124 : decode cX10_fact 124 = .ok (.aload_n 0, 1) := by decide +kernel
theorem dX10_fact_125 : decode cX10_fact 125 = .ok (.getfield 153, 3) := by decide +kernel
theorem dX10_fact_128 : decode cX10_fact 128 = .ok (.ldc2_w 197, 3) := by decide +kernel
theorem dX10_fact_131 : decode cX10_fact 131 = .ok (.lcmp, 1) := by decide +kernel
theorem dX10_fact_132 : decode cX10_fact 132 = .ok (.ifCond .ne 5, 3) := by decide +kernel
theorem dX10_fact_135 : decode cX10_fact 135 = .ok (.iconst 3, 1) := by decide +kernel
theorem dX10_fact_136 : decode cX10_fact 136 = .ok (.ireturn, 1) := by decide +kernel
theorem dX10_fact_137 : decode cX10_fact 137 = .ok (.iconst 0, 1) := by decide +kernel
theorem dX10_fact_138 : decode cX10_fact 138 = .ok (.ireturn, 1) := by decide +kernel
theorem dX10_reads_0 : decode cX10_reads 0 = .ok (.iconst 0, 1) := by decide +kernel
theorem dX10_reads_1 : decode cX10_reads 1 = .ok (.istore_n 1, 1) := by decide +kernel
theorem dX10_reads_2 : decode cX10_reads 2 = .ok (.iconst 1, 1) := by decide +kernel
theorem dX10_reads_3 : decode cX10_reads 3 = .ok (.istore_n 2, 1) := by decide +kernel
theorem dX10_reads_4 : decode cX10_reads 4 = .ok (.aload_n 0, 1) := by decide +kernel
theorem dX10_reads_5 : decode cX10_reads 5 = .ok (.getfield 74, 3) := by decide +kernel
theorem dX10_reads_8 : decode cX10_reads 8 = .ok (.iconst 0, 1) := by decide +kernel
theorem dX10_reads_9 : decode cX10_reads 9 = .ok (.iconst 0, 1) := by decide +kernel
theorem dX10_reads_10 : decode cX10_reads 10 = .ok (.bastore, 1) := by decide +kernel
theorem dX10_reads_11 : decode cX10_reads 11 = .ok (.iload_n 2, 1) := by decide +kernel
theorem dX10_reads_12 : decode cX10_reads 12 = .ok (.ifCond .eq 167, 3) := by decide +kernel
theorem dX10_reads_15 : decode cX10_reads 15 = .ok (.aload_n 0, 1) := by decide +kernel
theorem dX10_reads_16 : decode cX10_reads 16 = .ok (.invokevirtual 199, 3) := by decide +kernel
theorem dX10_reads_19 : decode cX10_reads 19 = .ok (.istore_n 3, 1) := by decide +kernel
theorem dX10_reads_20 : decode cX10_reads 20 = .ok (.aload_n 0, 1) := by decide +kernel
theorem dX10_reads_21 : decode cX10_reads 21 = .ok (.ldc2_w 203, 3) := by decide +kernel
theorem dX10_reads_24 : decode cX10_reads 24 = .ok (.invokevirtual 205, 3) := by decide +kernel
theorem dX10_reads_27 : decode cX10_reads 27 = .ok (.istore 4, 2) := by decide +kernel
theorem dX10_reads_29 : decode cX10_reads 29 = .ok (.aload_n 0, 1) := by decide +kernel
theorem dX10_reads_30 : decode cX10_reads 30 = .ok (.bipush 40, 2) := by decide +kernel
theorem dX10_reads_32 : decode cX10_reads 32 = .ok (.invokevirtual 209, 3) := by decide +kernel
theorem dX10_reads_35 : decode cX10_reads 35 = .ok (.istore 5, 2) := by decide +kernel
theorem dX10_reads_37 : decode cX10_reads 37 = .ok (.iload_n 3, 1) := by decide +kernel
theorem dX10_reads_38 : decode cX10_reads 38 = .ok (.ifCond .ne 27, 3) := by decide +kernel
theorem dX10_reads_41 : decode cX10_reads 41 = .ok (.iload 4, 2) := by decide +kernel
theorem dX10_reads_43 : decode cX10_reads 43 = .ok (.ifCond .ne 22, 3) := by decide +kernel
theorem dX10_reads_46 : decode cX10_reads 46 = .ok (.iload 5, 2) := by decide +kernel
theorem dX10_reads_48 : decode cX10_reads 48 = .ok (.ifCond .ne 17, 3) := by decide +kernel
theorem dX10_reads_51 : decode cX10_reads 51 = .ok (.aload_n 0, 1) := by decide +kernel
theorem dX10_reads_52 : decode cX10_reads 52 = .ok (.getfield 160, 3) := by decide +kernel
theorem dX10_reads_55 : decode cX10_reads 55 = .ok (.iconst 2, 1) := by decide +kernel
theorem dX10_reads_56 : decode cX10_reads 56 = .ok (.if_icmp .eq 9, 3) := by decide +kernel
theorem dX10_reads_59 : decode cX10_reads 59 = .ok (.aload_n 0, 1) := by decide +kernel
theorem dX10_reads_60 : decode cX10_reads 60 = .ok (.iconst 1, 1) := by decide +kernel
theorem dX10_reads_61 : decode cX10_reads 61 = .ok (.invokevirtual 213, 3) := by decide +kernel
theorem dX10_reads_64 : decode cX10_reads 64 = .ok (.ireturn, 1) := by decide +kernel
theorem dX10_reads_65 : decode cX10_reads 65 = .ok (.iload_n 1, 1) := by decide +kernel
theorem dX10_reads_66 : decode cX10_reads 66 = .ok (.iconst 5, 1) := by decide +kernel
theorem dX10_reads_67 : decode cX10_reads 67 = .ok (.if_icmp .ne 9, 3) := by decide +kernel
theorem dX10_reads_70 : decode cX10_reads 70 = .ok (.aload_n 0, 1) := by decide +kernel
theorem dX10_reads_71 : decode cX10_reads 71 = .ok (.iconst 5, 1) := by decide +kernel
theorem dX10_reads_72 : decode cX10_reads 72 = .ok (.invokevirtual 213, 3) := by decide +kernel
theorem dX10_reads_75 : decode cX10_reads 75 = .ok (.ireturn, 1) := by decide +kernel
theorem dX10_reads_76 : decode cX10_reads 76 = .ok (.iload 4, 2) := by decide +kernel
theorem dX10_reads_78 : decode cX10_reads 78 = .ok (.ifCond .ne 8, 3) := by decide +kernel
theorem dX10_reads_81 : decode cX10_reads 81 = .ok (.iload 5, 2) := by decide +kernel
theorem dX10_reads_83 : decode cX10_reads 83 = .ok (.ifCond .eq 48, 3) := by decide +kernel
theorem dX10_reads_86 : decode cX10_reads 86 = .ok (.aload_n 0, 1) := by decide +kernel
theorem dX10_reads_87 : decode cX10_reads 87 = .ok (.iload 4, 2) := by decide +kernel
theorem dX10_reads_89 : decode cX10_reads 89 = .ok (.ifCond .eq 8, 3) := by decide +kernel
theorem dX10_reads_92 : decode cX10_reads 92 = .ok (.bipush 30, 2) := by decide +kernel
theorem dX10_reads_94 : decode cX10_reads 94 = .ok (.goto 5, 3) := by decide +kernel
theorem dX10_reads_97 : decode cX10_reads 97 = .ok (.bipush 28, 2) := by decide +kernel
theorem dX10_reads_99 : decode cX10_reads 99 = .ok (.invokevirtual 216, 3) := by decide +kernel
theorem dX10_reads_102 : decode cX10_reads 102 = .ok (.iinc 1 1, 3) := by decide +kernel
theorem dX10_reads_105 : decode cX10_reads 105 = .ok (.aload_n 0, 1) := by decide +kernel
theorem dX10_reads_106 : decode cX10_reads 106 = .ok (.getfield 71, 3) := by decide +kernel
theorem dX10_reads_109 : decode cX10_reads 109 = .ok (.iload_n 1, 1) := by decide +kernel
theorem dX10_reads_110 : decode cX10_reads 110 = .ok (.iload 4, 2) := by decide +kernel
theorem dX10_reads_112 : decode cX10_reads 112 = .ok (.ifCond .eq 7, 3) := by decide +kernel
theorem dX10_reads_115 : decode cX10_reads 115 = .ok (.iconst 1, 1) := by decide +kernel
theorem dX10_reads_116 : decode cX10_reads 116 = .ok (.goto 4, 3) := by decide +kernel
theorem dX10_reads_119 : decode cX10_reads 119 = .ok (.iconst 2, 1) := by decide +kernel
theorem dX10_reads_120 : decode cX10_reads 120 = .ok (.iastore, 1) := by decide +kernel
theorem dX10_reads_121 : decode cX10_reads 121 = .ok (.aload_n 0, 1) := by decide +kernel
theorem dX10_reads_122 : decode cX10_reads 122 = .ok (.getfield 74, 3) := by decide +kernel
theorem dX10_reads_125 : decode cX10_reads 125 = .ok (.iload_n 1, 1) := by decide +kernel
theorem dX10_reads_126 : decode cX10_reads 126 = .ok (.iconst 0, 1) := by decide +kernel
theorem dX10_reads_127 : decode cX10_reads 127 = .ok (.bastore, 1) := by decide +kernel
theorem dX10_reads_128 : decode cX10_reads 128 = .ok (.goto 44, 3) := by decide +kernel
theorem dX10_reads_131 : decode cX10_reads 131 = .ok (.aload_n 0, 1) := by decide +kernel
theorem dX10_reads_132 : decode cX10_reads 132 = .ok (.iload_n 3, 1) := by decide +kernel
theorem dX10_reads_133 : decode cX10_reads 133 = .ok (.ifCond .le 7, 3) := by decide +kernel
theorem dX10_reads_136 : decode cX10_reads 136 = .ok (.iload_n 3, 1) := by decide +kernel
theorem dX10_reads_137 : decode cX10_reads 137 = .ok (.goto 10, 3) := by decide +kernel
theorem dX10_reads_140 : decode cX10_reads 140 = .ok (.bipush 100, 2) := by decide +kernel
theorem dX10_reads_142 : decode cX10_reads 142 = .ok (.aload_n 0, 1) := by decide +kernel
theorem dX10_reads_143 : decode cX10_reads 143 = .ok (.getfield 157, 3) := by decide +kernel
theorem dX10_reads_146 : decode cX10_reads 146 = .ok (.iadd, 1) := by decide +kernel
theorem dX10_reads_147 : decode cX10_reads 147 = .ok (.invokevirtual 216, 3) := by decide +kernel
theorem dX10_reads_150 : decode cX10_reads 150 = .ok (.iconst 0, 1) := by decide +kernel
theorem dX10_reads_151 : decode cX10_reads 151 = .ok (.istore_n 2, 1) := by decide +kernel
theorem dX10_reads_152 : decode cX10_reads 152 = .ok (.iload_n 1, 1) := by decide +kernel
theorem dX10_reads_153 : decode cX10_reads 153 = .ok (.ifCond .le 19, 3) := by decide +kernel
theorem dX10_reads_156 : decode cX10_reads 156 = .ok (.aload_n 0, 1) := by decide +kernel
theorem dX10_reads_157 : decode cX10_reads 157 = .ok (.getfield 71, 3) := by decide +kernel
theorem dX10_reads_160 : decode cX10_reads 160 = .ok (.iload_n 1, 1) := by decide +kernel
theorem dX10_reads_161 : decode cX10_reads 161 = .ok (.iaload, 1) := by decide +kernel
theorem dX10_reads_162 : decode cX10_reads 162 = .ok (.iconst 1, 1) := by decide +kernel
theorem dX10_reads_163 : decode cX10_reads 163 = .ok (.if_icmp .ne 9, 3) := by decide +kernel
theorem dX10_reads_166 : decode cX10_reads 166 = .ok (.iinc 1 (-1), 3) := by decide +kernel
theorem dX10_reads_169 : decode cX10_reads 169 = .ok (.goto (-17), 3) := by decide +kernel
theorem dX10_reads_172 : decode cX10_reads 172 = .ok (.aload_n 0, 1) := by decide +kernel
theorem dX10_reads_173 : decode cX10_reads 173 = .ok (.invokevirtual 220, 3) := by decide +kernel
theorem dX10_reads_176 : decode cX10_reads 176 = .ok (.goto (-165), 3) := by decide +kernel
theorem dX10_reads_179 : decode cX10_reads 179 = .ok (.aload_n 0, 1) := by decide +kernel
theorem dX10_reads_180 : decode cX10_reads 180 = .ok (.bipush 43, 2) := by decide +kernel
theorem dX10_reads_182 : decode cX10_reads 182 = .ok (.invokevirtual 209, 3) := by decide +kernel
theorem dX10_reads_185 : decode cX10_reads 185 = .ok (.ifCond .ne 21, 3) := by decide +kernel
theorem dX10_reads_188 : decode cX10_reads 188 = .ok (.aload_n 0, 1) := by decide +kernel
theorem dX10_reads_189 : decode cX10_reads 189 = .ok (.bipush 45, 2) := by decide +kernel
theorem dX10_reads_191 : decode cX10_reads 191 = .ok (.invokevirtual 209, 3) := by decide +kernel
theorem dX10_reads_194 : decode cX10_reads 194 = .ok (.ifCond .ne 12, 3) := by decide +kernel
theorem dX10_reads_197 : decode cX10_reads 197 = .ok (.aload_n 0, 1) := by decide +kernel
theorem dX10_reads_198 : decode cX10_reads 198 = .ok (.bipush 42, 2) := by decide +kernel
theorem dX10_reads_200 : decode cX10_reads 200 = .ok (.invokevirtual 209, 3) := by decide +kernel
theorem dX10_reads_203 : decode cX10_reads 203 = .ok (.ifCond .eq 42, 3) := by decide +kernel
theorem dX10_reads_206 : decode cX10_reads 206 = .ok (.aload_n 0, 1) := by decide +kernel
theorem dX10_reads_207 : decode cX10_reads 207 = .ok (.aload_n 0, 1) := by decide +kernel
theorem dX10_reads_208 : decode cX10_reads 208 = .ok (.bipush 43, 2) := by decide +kernel
theorem dX10_reads_210 : decode cX10_reads 210 = .ok (.invokevirtual 209, 3) := by decide +kernel
theorem dX10_reads_213 : decode cX10_reads 213 = .ok (.ifCond .eq 8, 3) := by decide +kernel
theorem dX10_reads_216 : decode cX10_reads 216 = .ok (.bipush 20, 2) := by decide +kernel
theorem dX10_reads_218 : decode cX10_reads 218 = .ok (.goto 19, 3) := by decide +kernel
theorem dX10_reads_221 : decode cX10_reads 221 = .ok (.aload_n 0, 1) := by decide +kernel
theorem dX10_reads_222 : decode cX10_reads 222 = .ok (.bipush 45, 2) := by decide +kernel
theorem dX10_reads_224 : decode cX10_reads 224 = .ok (.invokevirtual 209, 3) := by decide +kernel
theorem dX10_reads_227 : decode cX10_reads 227 = .ok (.ifCond .eq 8, 3) := by decide +kernel
theorem dX10_reads_230 : decode cX10_reads 230 = .ok (.bipush 21, 2) := by decide +kernel
theorem dX10_reads_232 : decode cX10_reads 232 = .ok (.goto 5, 3) := by decide +kernel
theorem dX10_reads_235 : decode cX10_reads 235 = .ok (.bipush 22, 2) := by decide +kernel
theorem dX10_reads_237 : decode cX10_reads 237 = .ok (.invokevirtual 216, 3) := by decide +kernel
theorem dX10_reads_240 : decode cX10_reads 240 = .ok (.iconst 1, 1) := by decide +kernel
theorem dX10_reads_241 : decode cX10_reads 241 = .ok (.istore_n 2, 1) := by decide +kernel
theorem dX10_reads_242 : decode cX10_reads 242 = .ok (.goto 182, 3) := by decide +kernel
theorem dX10_reads_245 : decode cX10_reads 245 = .ok (.aload_n 0, 1) := by decide +kernel
theorem dX10_reads_246 : decode cX10_reads 246 = .ok (.bipush 60, 2) := by decide +kernel
theorem dX10_reads_248 : decode cX10_reads 248 = .ok (.invokevirtual 209, 3) := by decide +kernel
theorem dX10_reads_251 : decode cX10_reads 251 = .ok (.ifCond .ne 12, 3) := by decide +kernel
theorem dX10_reads_254 : decode cX10_reads 254 = .ok (.aload_n 0, 1) := by decide +kernel
theorem dX10_reads_255 : decode cX10_reads 255 = .ok (.bipush 61, 2) := by decide +kernel
theorem dX10_reads_257 : decode cX10_reads 257 = .ok (.invokevirtual 209, 3) := by decide +kernel
theorem dX10_reads_260 : decode cX10_reads 260 = .ok (.ifCond .eq 44, 3) := by decide +kernel
theorem dX10_reads_263 : decode cX10_reads 263 = .ok (.aload_n 0, 1) := by decide +kernel
theorem dX10_reads_264 : decode cX10_reads 264 = .ok (.getfield 74, 3) := by decide +kernel
theorem dX10_reads_267 : decode cX10_reads 267 = .ok (.iload_n 1, 1) := by decide +kernel
theorem dX10_reads_268 : decode cX10_reads 268 = .ok (.baload, 1) := by decide +kernel
theorem dX10_reads_269 : decode cX10_reads 269 = .ok (.ifCond .ne 35, 3) := by decide +kernel
theorem dX10_reads_272 : decode cX10_reads 272 = .ok (.aload_n 0, 1) := by decide +kernel
theorem dX10_reads_273 : decode cX10_reads 273 = .ok (.aload_n 0, 1) := by decide +kernel
theorem dX10_reads_274 : decode cX10_reads 274 = .ok (.bipush 60, 2) := by decide +kernel
theorem dX10_reads_276 : decode cX10_reads 276 = .ok (.invokevirtual 209, 3) := by decide +kernel
theorem dX10_reads_279 : decode cX10_reads 279 = .ok (.ifCond .eq 8, 3) := by decide +kernel
theorem dX10_reads_282 : decode cX10_reads 282 = .ok (.bipush 24, 2) := by decide +kernel
theorem dX10_reads_284 : decode cX10_reads 284 = .ok (.goto 5, 3) := by decide +kernel
theorem dX10_reads_287 : decode cX10_reads 287 = .ok (.bipush 25, 2) := by decide +kernel
theorem dX10_reads_289 : decode cX10_reads 289 = .ok (.invokevirtual 216, 3) := by decide +kernel
theorem dX10_reads_292 : decode cX10_reads 292 = .ok (.aload_n 0, 1) := by decide +kernel
theorem dX10_reads_293 : decode cX10_reads 293 = .ok (.getfield 74, 3) := by decide +kernel
theorem dX10_reads_296 : decode cX10_reads 296 = .ok (.iload_n 1, 1) := by decide +kernel
theorem dX10_reads_297 : decode cX10_reads 297 = .ok (.iconst 1, 1) := by decide +kernel
theorem dX10_reads_298 : decode cX10_reads 298 = .ok (.bastore, 1) := by decide +kernel
theorem dX10_reads_299 : decode cX10_reads 299 = .ok (.iconst 1, 1) := by decide +kernel
theorem dX10_reads_300 : decode cX10_reads 300 = .ok (.istore_n 2, 1) := by decide +kernel
theorem dX10_reads_301 : decode cX10_reads 301 = .ok (.goto 123, 3) := by decide +kernel
theorem dX10_reads_304 : decode cX10_reads 304 = .ok (.aload_n 0, 1) := by decide +kernel
theorem dX10_reads_305 : decode cX10_reads 305 = .ok (.ldc2_w 223, 3) := by decide +kernel
theorem dX10_reads_308 : decode cX10_reads 308 = .ok (.invokevirtual 205, 3) := by decide +kernel
theorem dX10_reads_311 : decode cX10_reads 311 = .ok (.ifCond .ne 13, 3) := by decide +kernel
theorem dX10_reads_314 : decode cX10_reads 314 = .ok (.aload_n 0, 1) := by decide +kernel
theorem dX10_reads_315 : decode cX10_reads 315 = .ok (.ldc2_w 225, 3) := by decide +kernel
theorem dX10_reads_318 : decode cX10_reads 318 = .ok (.invokevirtual 205, 3) := by decide +kernel
theorem dX10_reads_321 : decode cX10_reads 321 = .ok (.ifCond .eq 36, 3) := by decide +kernel
theorem dX10_reads_324 : decode cX10_reads 324 = .ok (.aload_n 0, 1) := by decide +kernel
theorem dX10_reads_325 : decode cX10_reads 325 = .ok (.aload_n 0, 1) := by decide +kernel
theorem dX10_reads_326 : decode cX10_reads 326 = .ok (.ldc2_w 223, 3) := by decide +kernel
theorem dX10_reads_329 : decode cX10_reads 329 = .ok (.invokevirtual 205, 3) := by decide +kernel
theorem dX10_reads_332 : decode cX10_reads 332 = .ok (.ifCond .eq 8, 3) := by decide +kernel
theorem dX10_reads_335 : decode cX10_reads 335 = .ok (.bipush 26, 2) := by decide +kernel
theorem dX10_reads_337 : decode cX10_reads 337 = .ok (.goto 5, 3) := by decide +kernel
theorem dX10_reads_340 : decode cX10_reads 340 = .ok (.bipush 27, 2) := by decide +kernel
theorem dX10_reads_342 : decode cX10_reads 342 = .ok (.invokevirtual 216, 3) := by decide +kernel
theorem dX10_reads_345 : decode cX10_reads 345 = .ok (.aload_n 0, 1) := by decide +kernel
theorem dX10_reads_346 : decode cX10_reads 346 = .ok (.getfield 74, 3) := by decide +kernel
theorem dX10_reads_349 : decode cX10_reads 349 = .ok (.iload_n 1, 1) := by decide +kernel
theorem dX10_reads_350 : decode cX10_reads 350 = .ok (.iconst 0, 1) := by decide +kernel
theorem dX10_reads_351 : decode cX10_reads 351 = .ok (.bastore, 1) := by decide +kernel
theorem dX10_reads_352 : decode cX10_reads 352 = .ok (.iconst 1, 1) := by decide +kernel
theorem dX10_reads_353 : decode cX10_reads 353 = .ok (.istore_n 2, 1) := by decide +kernel
theorem dX10_reads_354 : decode cX10_reads 354 = .ok (.goto 70, 3) := by decide +kernel
theorem dX10_reads_357 : decode cX10_reads 357 = .ok (.aload_n 0, 1) := by decide +kernel
theorem dX10_reads_358 : decode cX10_reads 358 = .ok (.bipush 41, 2) := by decide +kernel
theorem dX10_reads_360 : decode cX10_reads 360 = .ok (.invokevirtual 209, 3) := by decide +kernel
theorem dX10_reads_363 : decode cX10_reads 363 = .ok (.ifCond .eq 36, 3) := by decide +kernel
theorem dX10_reads_366 : decode cX10_reads 366 = .ok (.iload_n 1, 1) := by decide +kernel
theorem dX10_reads_367 : decode cX10_reads 367 = .ok (.ifCond .le 32, 3) := by decide +kernel
theorem dX10_reads_370 : decode cX10_reads 370 = .ok (.aload_n 0, 1) := by decide +kernel
theorem dX10_reads_371 : decode cX10_reads 371 = .ok (.bipush 29, 2) := by decide +kernel
theorem dX10_reads_373 : decode cX10_reads 373 = .ok (.invokevirtual 216, 3) := by decide +kernel
theorem dX10_reads_376 : decode cX10_reads 376 = .ok (.iinc 1 (-1), 3) := by decide +kernel
theorem dX10_reads_379 : decode cX10_reads 379 = .ok (.iload_n 1, 1) := by decide +kernel
theorem dX10_reads_380 : decode cX10_reads 380 = .ok (.ifCond .le 44, 3) := by decide +kernel
theorem dX10_reads_383 : decode cX10_reads 383 = .ok (.aload_n 0, 1) := by decide +kernel
theorem dX10_reads_384 : decode cX10_reads 384 = .ok (.getfield 71, 3) := by decide +kernel
theorem dX10_reads_387 : decode cX10_reads 387 = .ok (.iload_n 1, 1) := by decide +kernel
theorem dX10_reads_388 : decode cX10_reads 388 = .ok (.iaload, 1) := by decide +kernel
theorem dX10_reads_389 : decode cX10_reads 389 = .ok (.iconst 1, 1) := by decide +kernel
theorem dX10_reads_390 : decode cX10_reads 390 = .ok (.if_icmp .ne 34, 3) := by decide +kernel
theorem dX10_reads_393 : decode cX10_reads 393 = .ok (.iinc 1 (-1), 3) := by decide +kernel
theorem dX10_reads_396 : decode cX10_reads 396 = .ok (.goto (-17), 3) := by decide +kernel
theorem dX10_reads_399 : decode cX10_reads 399 = .ok (.iload_n 1, 1) := by decide +kernel
theorem dX10_reads_400 : decode cX10_reads 400 = .ok (.ifCond .ne 18, 3) := by decide +kernel
theorem dX10_reads_403 : decode cX10_reads 403 = .ok (.aload_n 0, 1) := by decide +kernel
theorem dX10_reads_404 : decode cX10_reads 404 = .ok (.bipush 59, 2) := by decide +kernel
theorem dX10_reads_406 : decode cX10_reads 406 = .ok (.invokevirtual 209, 3) := by decide +kernel
theorem dX10_reads_409 : decode cX10_reads 409 = .ok (.ifCond .eq 9, 3) := by decide +kernel
theorem dX10_reads_412 : decode cX10_reads 412 = .ok (.aload_n 0, 1) := by decide +kernel
theorem dX10_reads_413 : decode cX10_reads 413 = .ok (.invokevirtual 220, 3) := by decide +kernel
theorem dX10_reads_416 : decode cX10_reads 416 = .ok (.iconst 1, 1) := by decide +kernel
theorem dX10_reads_417 : decode cX10_reads 417 = .ok (.ireturn, 1) := by decide +kernel
theorem dX10_reads_418 : decode cX10_reads 418 = .ok (.aload_n 0, 1) := by decide +kernel
theorem dX10_reads_419 : decode cX10_reads 419 = .ok (.iconst 1, 1) := by decide +kernel
theorem dX10_reads_420 : decode cX10_reads 420 = .ok (.invokevirtual 213, 3) := by decide +kernel
theorem dX10_reads_423 : decode cX10_reads 423 = .ok (.ireturn, 1) := by decide +kernel
theorem dX10_reads_424 : decode cX10_reads 424 = .ok (.aload_n 0, 1) := by decide +kernel
theorem dX10_reads_425 : decode cX10_reads 425 = .ok (.invokevirtual 220, 3) := by decide +kernel
theorem dX10_reads_428 : decode cX10_reads 428 = .ok (.goto (-417), 3) := by decide +kernel
theorem dX10_opens_0 : decode cX10_opens 0 = .ok (.aload_n 0, 1) := by decide +kernel
theorem dX10_opens_1 : decode cX10_opens 1 = .ok (.getfield 81, 3) := by decide +kernel
theorem dX10_opens_4 : decode cX10_opens 4 = .ok (.iload_n 1, 1) := by decide +kernel
theorem dX10_opens_5 : decode cX10_opens 5 = .ok (.iconst 0, 1) := by decide +kernel
theorem dX10_opens_6 : decode cX10_opens 6 = .ok (.iastore, 1) := by decide +kernel
theorem dX10_opens_7 : decode cX10_opens 7 = .ok (.aload_n 0, 1) := by decide +kernel
theorem dX10_opens_8 : decode cX10_opens 8 = .ok (.getfield 87, 3) := by decide +kernel
theorem dX10_opens_11 : decode cX10_opens 11 = .ok (.iload_n 1, 1) := by decide +kernel
theorem dX10_opens_12 : decode cX10_opens 12 = .ok (.iconst 0, 1) := by decide +kernel
theorem dX10_opens_13 : decode cX10_opens 13 = .ok (.iastore, 1) := by decide +kernel
theorem dX10_opens_14 : decode cX10_opens 14 = .ok (.aload_n 0, 1) := by decide +kernel
theorem dX10_opens_15 : decode cX10_opens 15 = .ok (.getfield 90, 3) := by decide +kernel
theorem dX10_opens_18 : decode cX10_opens 18 = .ok (.iload_n 1, 1) := by decide +kernel
theorem dX10_opens_19 : decode cX10_opens 19 = .ok (.iconst 0, 1) := by decide +kernel
theorem dX10_opens_20 : decode cX10_opens 20 = .ok (.iastore, 1) := by decide +kernel
theorem dX10_opens_21 : decode cX10_opens 21 = .ok (.aload_n 0, 1) := by decide +kernel
theorem dX10_opens_22 : decode cX10_opens 22 = .ok (.getfield 93, 3) := by decide +kernel
theorem dX10_opens_25 : decode cX10_opens 25 = .ok (.iload_n 1, 1) := by decide +kernel
theorem dX10_opens_26 : decode cX10_opens 26 = .ok (.bipush 20, 2) := by decide +kernel
theorem dX10_opens_28 : decode cX10_opens 28 = .ok (.iastore, 1) := by decide +kernel
theorem dX10_opens_29 : decode cX10_opens 29 = .ok (.aload_n 0, 1) := by decide +kernel
theorem dX10_opens_30 : decode cX10_opens 30 = .ok (.getfield 99, 3) := by decide +kernel
theorem dX10_opens_33 : decode cX10_opens 33 = .ok (.iload_n 1, 1) := by decide +kernel
theorem dX10_opens_34 : decode cX10_opens 34 = .ok (.iconst 0, 1) := by decide +kernel
theorem dX10_opens_35 : decode cX10_opens 35 = .ok (.iastore, 1) := by decide +kernel
theorem dX10_opens_36 : decode cX10_opens 36 = .ok (.return_, 1) := by decide +kernel
theorem dX10_sums_0 : decode cX10_sums 0 = .ok (.aload_n 0, 1) := by decide +kernel
theorem dX10_sums_1 : decode cX10_sums 1 = .ok (.getfield 90, 3) := by decide +kernel
theorem dX10_sums_4 : decode cX10_sums 4 = .ok (.iload_n 1, 1) := by decide +kernel
theorem dX10_sums_5 : decode cX10_sums 5 = .ok (.aload_n 0, 1) := by decide +kernel
theorem dX10_sums_6 : decode cX10_sums 6 = .ok (.getfield 93, 3) := by decide +kernel
theorem dX10_sums_9 : decode cX10_sums 9 = .ok (.iload_n 1, 1) := by decide +kernel
theorem dX10_sums_10 : decode cX10_sums 10 = .ok (.iaload, 1) := by decide +kernel
theorem dX10_sums_11 : decode cX10_sums 11 = .ok (.bipush 21, 2) := by decide +kernel
theorem dX10_sums_13 : decode cX10_sums 13 = .ok (.if_icmp .ne 19, 3) := by decide +kernel
theorem dX10_sums_16 : decode cX10_sums 16 = .ok (.aload_n 0, 1) := by decide +kernel
theorem dX10_sums_17 : decode cX10_sums 17 = .ok (.getfield 90, 3) := by decide +kernel
theorem dX10_sums_20 : decode cX10_sums 20 = .ok (.iload_n 1, 1) := by decide +kernel
theorem dX10_sums_21 : decode cX10_sums 21 = .ok (.iaload, 1) := by decide +kernel
theorem dX10_sums_22 : decode cX10_sums 22 = .ok (.aload_n 0, 1) := by decide +kernel
theorem dX10_sums_23 : decode cX10_sums 23 = .ok (.getfield 96, 3) := by decide +kernel
theorem dX10_sums_26 : decode cX10_sums 26 = .ok (.iload_n 1, 1) := by decide +kernel
theorem dX10_sums_27 : decode cX10_sums 27 = .ok (.iaload, 1) := by decide +kernel
theorem dX10_sums_28 : decode cX10_sums 28 = .ok (.isub, 1) := by decide +kernel
theorem dX10_sums_29 : decode cX10_sums 29 = .ok (.goto 16, 3) := by decide +kernel
theorem dX10_sums_32 : decode cX10_sums 32 = .ok (.aload_n 0, 1) := by decide +kernel
theorem dX10_sums_33 : decode cX10_sums 33 = .ok (.getfield 90, 3) := by decide +kernel
theorem dX10_sums_36 : decode cX10_sums 36 = .ok (.iload_n 1, 1) := by decide +kernel
theorem dX10_sums_37 : decode cX10_sums 37 = .ok (.iaload, 1) := by decide +kernel
theorem dX10_sums_38 : decode cX10_sums 38 = .ok (.aload_n 0, 1) := by decide +kernel
theorem dX10_sums_39 : decode cX10_sums 39 = .ok (.getfield 96, 3) := by decide +kernel
theorem dX10_sums_42 : decode cX10_sums 42 = .ok (.iload_n 1, 1) := by decide +kernel
theorem dX10_sums_43 : decode cX10_sums 43 = .ok (.iaload, 1) := by decide +kernel
theorem dX10_sums_44 : decode cX10_sums 44 = .ok (.iadd, 1) := by decide +kernel
theorem dX10_sums_45 : decode cX10_sums 45 = .ok (.iastore, 1) := by decide +kernel
theorem dX10_sums_46 : decode cX10_sums 46 = .ok (.aload_n 0, 1) := by decide +kernel
theorem dX10_sums_47 : decode cX10_sums 47 = .ok (.getfield 99, 3) := by decide +kernel
theorem dX10_sums_50 : decode cX10_sums 50 = .ok (.iload_n 1, 1) := by decide +kernel
theorem dX10_sums_51 : decode cX10_sums 51 = .ok (.iconst 0, 1) := by decide +kernel
theorem dX10_sums_52 : decode cX10_sums 52 = .ok (.iastore, 1) := by decide +kernel
theorem dX10_sums_53 : decode cX10_sums 53 = .ok (.return_, 1) := by decide +kernel
theorem dX10_tests_0 : decode cX10_tests 0 = .ok (.aload_n 0, 1) := by decide +kernel
theorem dX10_tests_1 : decode cX10_tests 1 = .ok (.iload_n 1, 1) := by decide +kernel
theorem dX10_tests_2 : decode cX10_tests 2 = .ok (.invokevirtual 227, 3) := by decide +kernel
theorem dX10_tests_5 : decode cX10_tests 5 = .ok (.aload_n 0, 1) := by decide +kernel
theorem dX10_tests_6 : decode cX10_tests 6 = .ok (.getfield 90, 3) := by decide +kernel
theorem dX10_tests_9 : decode cX10_tests 9 = .ok (.iload_n 1, 1) := by decide +kernel
theorem dX10_tests_10 : decode cX10_tests 10 = .ok (.iaload, 1) := by decide +kernel
theorem dX10_tests_11 : decode cX10_tests 11 = .ok (.istore_n 2, 1) := by decide +kernel
theorem dX10_tests_12 : decode cX10_tests 12 = .ok (.aload_n 0, 1) := by decide +kernel
theorem dX10_tests_13 : decode cX10_tests 13 = .ok (.getfield 87, 3) := by decide +kernel
theorem dX10_tests_16 : decode cX10_tests 16 = .ok (.iload_n 1, 1) := by decide +kernel
theorem dX10_tests_17 : decode cX10_tests 17 = .ok (.iaload, 1) := by decide +kernel
theorem dX10_tests_18 : decode cX10_tests 18 = .ok (.bipush 24, 2) := by decide +kernel
theorem dX10_tests_20 : decode cX10_tests 20 = .ok (.if_icmp .ne 24, 3) := by decide +kernel
theorem dX10_tests_23 : decode cX10_tests 23 = .ok (.aload_n 0, 1) := by decide +kernel
theorem dX10_tests_24 : decode cX10_tests 24 = .ok (.getfield 84, 3) := by decide +kernel
theorem dX10_tests_27 : decode cX10_tests 27 = .ok (.iload_n 1, 1) := by decide +kernel
theorem dX10_tests_28 : decode cX10_tests 28 = .ok (.iaload, 1) := by decide +kernel
theorem dX10_tests_29 : decode cX10_tests 29 = .ok (.aload_n 0, 1) := by decide +kernel
theorem dX10_tests_30 : decode cX10_tests 30 = .ok (.getfield 90, 3) := by decide +kernel
theorem dX10_tests_33 : decode cX10_tests 33 = .ok (.iload_n 1, 1) := by decide +kernel
theorem dX10_tests_34 : decode cX10_tests 34 = .ok (.iaload, 1) := by decide +kernel
theorem dX10_tests_35 : decode cX10_tests 35 = .ok (.if_icmp .ge 7, 3) := by decide +kernel
theorem dX10_tests_38 : decode cX10_tests 38 = .ok (.iconst 1, 1) := by decide +kernel
theorem dX10_tests_39 : decode cX10_tests 39 = .ok (.goto 4, 3) := by decide +kernel
theorem dX10_tests_42 : decode cX10_tests 42 = .ok (.iconst 0, 1) := by decide +kernel
theorem dX10_tests_43 : decode cX10_tests 43 = .ok (.istore_n 2, 1) := by decide +kernel
theorem dX10_tests_44 : decode cX10_tests 44 = .ok (.aload_n 0, 1) := by decide +kernel
theorem dX10_tests_45 : decode cX10_tests 45 = .ok (.getfield 87, 3) := by decide +kernel
theorem dX10_tests_48 : decode cX10_tests 48 = .ok (.iload_n 1, 1) := by decide +kernel
theorem dX10_tests_49 : decode cX10_tests 49 = .ok (.iaload, 1) := by decide +kernel
theorem dX10_tests_50 : decode cX10_tests 50 = .ok (.bipush 25, 2) := by decide +kernel
theorem dX10_tests_52 : decode cX10_tests 52 = .ok (.if_icmp .ne 24, 3) := by decide +kernel
theorem dX10_tests_55 : decode cX10_tests 55 = .ok (.aload_n 0, 1) := by decide +kernel
theorem dX10_tests_56 : decode cX10_tests 56 = .ok (.getfield 84, 3) := by decide +kernel
theorem dX10_tests_59 : decode cX10_tests 59 = .ok (.iload_n 1, 1) := by decide +kernel
theorem dX10_tests_60 : decode cX10_tests 60 = .ok (.iaload, 1) := by decide +kernel
theorem dX10_tests_61 : decode cX10_tests 61 = .ok (.aload_n 0, 1) := by decide +kernel
theorem dX10_tests_62 : decode cX10_tests 62 = .ok (.getfield 90, 3) := by decide +kernel
theorem dX10_tests_65 : decode cX10_tests 65 = .ok (.iload_n 1, 1) := by decide +kernel
theorem dX10_tests_66 : decode cX10_tests 66 = .ok (.iaload, 1) := by decide +kernel
theorem dX10_tests_67 : decode cX10_tests 67 = .ok (.if_icmp .ne 7, 3) := by decide +kernel
theorem dX10_tests_70 : decode cX10_tests 70 = .ok (.iconst 1, 1) := by decide +kernel
theorem dX10_tests_71 : decode cX10_tests 71 = .ok (.goto 4, 3) := by decide +kernel
theorem dX10_tests_74 : decode cX10_tests 74 = .ok (.iconst 0, 1) := by decide +kernel
theorem dX10_tests_75 : decode cX10_tests 75 = .ok (.istore_n 2, 1) := by decide +kernel
theorem dX10_tests_76 : decode cX10_tests 76 = .ok (.aload_n 0, 1) := by decide +kernel
theorem dX10_tests_77 : decode cX10_tests 77 = .ok (.getfield 81, 3) := by decide +kernel
theorem dX10_tests_80 : decode cX10_tests 80 = .ok (.iload_n 1, 1) := by decide +kernel
theorem dX10_tests_81 : decode cX10_tests 81 = .ok (.iaload, 1) := by decide +kernel
theorem dX10_tests_82 : decode cX10_tests 82 = .ok (.bipush 26, 2) := by decide +kernel
theorem dX10_tests_84 : decode cX10_tests 84 = .ok (.if_icmp .ne 22, 3) := by decide +kernel
theorem dX10_tests_87 : decode cX10_tests 87 = .ok (.aload_n 0, 1) := by decide +kernel
theorem dX10_tests_88 : decode cX10_tests 88 = .ok (.getfield 78, 3) := by decide +kernel
theorem dX10_tests_91 : decode cX10_tests 91 = .ok (.iload_n 1, 1) := by decide +kernel
theorem dX10_tests_92 : decode cX10_tests 92 = .ok (.iaload, 1) := by decide +kernel
theorem dX10_tests_93 : decode cX10_tests 93 = .ok (.ifCond .eq 11, 3) := by decide +kernel
theorem dX10_tests_96 : decode cX10_tests 96 = .ok (.iload_n 2, 1) := by decide +kernel
theorem dX10_tests_97 : decode cX10_tests 97 = .ok (.ifCond .eq 7, 3) := by decide +kernel
theorem dX10_tests_100 : decode cX10_tests 100 = .ok (.iconst 1, 1) := by decide +kernel
theorem dX10_tests_101 : decode cX10_tests 101 = .ok (.goto 4, 3) := by decide +kernel
theorem dX10_tests_104 : decode cX10_tests 104 = .ok (.iconst 0, 1) := by decide +kernel
theorem dX10_tests_105 : decode cX10_tests 105 = .ok (.istore_n 2, 1) := by decide +kernel
theorem dX10_tests_106 : decode cX10_tests 106 = .ok (.aload_n 0, 1) := by decide +kernel
theorem dX10_tests_107 : decode cX10_tests 107 = .ok (.getfield 81, 3) := by decide +kernel
theorem dX10_tests_110 : decode cX10_tests 110 = .ok (.iload_n 1, 1) := by decide +kernel
theorem dX10_tests_111 : decode cX10_tests 111 = .ok (.iaload, 1) := by decide +kernel
theorem dX10_tests_112 : decode cX10_tests 112 = .ok (.bipush 27, 2) := by decide +kernel
theorem dX10_tests_114 : decode cX10_tests 114 = .ok (.if_icmp .ne 22, 3) := by decide +kernel
theorem dX10_tests_117 : decode cX10_tests 117 = .ok (.aload_n 0, 1) := by decide +kernel
theorem dX10_tests_118 : decode cX10_tests 118 = .ok (.getfield 78, 3) := by decide +kernel
theorem dX10_tests_121 : decode cX10_tests 121 = .ok (.iload_n 1, 1) := by decide +kernel
theorem dX10_tests_122 : decode cX10_tests 122 = .ok (.iaload, 1) := by decide +kernel
theorem dX10_tests_123 : decode cX10_tests 123 = .ok (.ifCond .ne 7, 3) := by decide +kernel
theorem dX10_tests_126 : decode cX10_tests 126 = .ok (.iload_n 2, 1) := by decide +kernel
theorem dX10_tests_127 : decode cX10_tests 127 = .ok (.ifCond .eq 7, 3) := by decide +kernel
theorem dX10_tests_130 : decode cX10_tests 130 = .ok (.iconst 1, 1) := by decide +kernel
theorem dX10_tests_131 : decode cX10_tests 131 = .ok (.goto 4, 3) := by decide +kernel
theorem dX10_tests_134 : decode cX10_tests 134 = .ok (.iconst 0, 1) := by decide +kernel
theorem dX10_tests_135 : decode cX10_tests 135 = .ok (.istore_n 2, 1) := by decide +kernel
theorem dX10_tests_136 : decode cX10_tests 136 = .ok (.aload_n 0, 1) := by decide +kernel
theorem dX10_tests_137 : decode cX10_tests 137 = .ok (.getfield 78, 3) := by decide +kernel
theorem dX10_tests_140 : decode cX10_tests 140 = .ok (.iload_n 1, 1) := by decide +kernel
theorem dX10_tests_141 : decode cX10_tests 141 = .ok (.iload_n 2, 1) := by decide +kernel
theorem dX10_tests_142 : decode cX10_tests 142 = .ok (.iastore, 1) := by decide +kernel
theorem dX10_tests_143 : decode cX10_tests 143 = .ok (.aload_n 0, 1) := by decide +kernel
theorem dX10_tests_144 : decode cX10_tests 144 = .ok (.getfield 87, 3) := by decide +kernel
theorem dX10_tests_147 : decode cX10_tests 147 = .ok (.iload_n 1, 1) := by decide +kernel
theorem dX10_tests_148 : decode cX10_tests 148 = .ok (.iconst 0, 1) := by decide +kernel
theorem dX10_tests_149 : decode cX10_tests 149 = .ok (.iastore, 1) := by decide +kernel
theorem dX10_tests_150 : decode cX10_tests 150 = .ok (.aload_n 0, 1) := by decide +kernel
theorem dX10_tests_151 : decode cX10_tests 151 = .ok (.getfield 90, 3) := by decide +kernel
theorem dX10_tests_154 : decode cX10_tests 154 = .ok (.iload_n 1, 1) := by decide +kernel
theorem dX10_tests_155 : decode cX10_tests 155 = .ok (.iconst 0, 1) := by decide +kernel
theorem dX10_tests_156 : decode cX10_tests 156 = .ok (.iastore, 1) := by decide +kernel
theorem dX10_tests_157 : decode cX10_tests 157 = .ok (.aload_n 0, 1) := by decide +kernel
theorem dX10_tests_158 : decode cX10_tests 158 = .ok (.getfield 93, 3) := by decide +kernel
theorem dX10_tests_161 : decode cX10_tests 161 = .ok (.iload_n 1, 1) := by decide +kernel
theorem dX10_tests_162 : decode cX10_tests 162 = .ok (.bipush 20, 2) := by decide +kernel
theorem dX10_tests_164 : decode cX10_tests 164 = .ok (.iastore, 1) := by decide +kernel
theorem dX10_tests_165 : decode cX10_tests 165 = .ok (.return_, 1) := by decide +kernel
theorem dX10_worked_0 : decode cX10_worked 0 = .ok (.iconst 0, 1) := by decide +kernel
theorem dX10_worked_1 : decode cX10_worked 1 = .ok (.istore_n 2, 1) := by decide +kernel
theorem dX10_worked_2 : decode cX10_worked 2 = .ok (.aload_n 0, 1) := by decide +kernel
theorem dX10_worked_3 : decode cX10_worked 3 = .ok (.iconst 0, 1) := by decide +kernel
theorem dX10_worked_4 : decode cX10_worked 4 = .ok (.invokevirtual 230, 3) := by decide +kernel
theorem dX10_worked_7 : decode cX10_worked 7 = .ok (.aload_n 0, 1) := by decide +kernel
theorem dX10_worked_8 : decode cX10_worked 8 = .ok (.getfield 62, 3) := by decide +kernel
theorem dX10_worked_11 : decode cX10_worked 11 = .ok (.iload_n 1, 1) := by decide +kernel
theorem dX10_worked_12 : decode cX10_worked 12 = .ok (.iaload, 1) := by decide +kernel
theorem dX10_worked_13 : decode cX10_worked 13 = .ok (.istore_n 3, 1) := by decide +kernel
theorem dX10_worked_14 : decode cX10_worked 14 = .ok (.iload_n 3, 1) := by decide +kernel
theorem dX10_worked_15 : decode cX10_worked 15 = .ok (.aload_n 0, 1) := by decide +kernel
theorem dX10_worked_16 : decode cX10_worked 16 = .ok (.getfield 65, 3) := by decide +kernel
theorem dX10_worked_19 : decode cX10_worked 19 = .ok (.iload_n 1, 1) := by decide +kernel
theorem dX10_worked_20 : decode cX10_worked 20 = .ok (.iaload, 1) := by decide +kernel
theorem dX10_worked_21 : decode cX10_worked 21 = .ok (.if_icmp .ge 314, 3) := by decide +kernel
theorem dX10_worked_24 : decode cX10_worked 24 = .ok (.aload_n 0, 1) := by decide +kernel
theorem dX10_worked_25 : decode cX10_worked 25 = .ok (.getfield 68, 3) := by decide +kernel
theorem dX10_worked_28 : decode cX10_worked 28 = .ok (.iload_n 3, 1) := by decide +kernel
theorem dX10_worked_29 : decode cX10_worked 29 = .ok (.iaload, 1) := by decide +kernel
theorem dX10_worked_30 : decode cX10_worked 30 = .ok (.istore 4, 2) := by decide +kernel
theorem dX10_worked_32 : decode cX10_worked 32 = .ok (.iload 4, 2) := by decide +kernel
theorem dX10_worked_34 : decode cX10_worked 34 = .ok (.bipush 28, 2) := by decide +kernel
theorem dX10_worked_36 : decode cX10_worked 36 = .ok (.if_icmp .eq 10, 3) := by decide +kernel
theorem dX10_worked_39 : decode cX10_worked 39 = .ok (.iload 4, 2) := by decide +kernel
theorem dX10_worked_41 : decode cX10_worked 41 = .ok (.bipush 30, 2) := by decide +kernel
theorem dX10_worked_43 : decode cX10_worked 43 = .ok (.if_icmp .ne 32, 3) := by decide +kernel
theorem dX10_worked_46 : decode cX10_worked 46 = .ok (.iinc 2 1, 3) := by decide +kernel
theorem dX10_worked_49 : decode cX10_worked 49 = .ok (.aload_n 0, 1) := by decide +kernel
theorem dX10_worked_50 : decode cX10_worked 50 = .ok (.getfield 102, 3) := by decide +kernel
theorem dX10_worked_53 : decode cX10_worked 53 = .ok (.iload_n 2, 1) := by decide +kernel
theorem dX10_worked_54 : decode cX10_worked 54 = .ok (.iload 4, 2) := by decide +kernel
theorem dX10_worked_56 : decode cX10_worked 56 = .ok (.bipush 30, 2) := by decide +kernel
theorem dX10_worked_58 : decode cX10_worked 58 = .ok (.if_icmp .ne 7, 3) := by decide +kernel
theorem dX10_worked_61 : decode cX10_worked 61 = .ok (.iconst 1, 1) := by decide +kernel
theorem dX10_worked_62 : decode cX10_worked 62 = .ok (.goto 4, 3) := by decide +kernel
theorem dX10_worked_65 : decode cX10_worked 65 = .ok (.iconst 0, 1) := by decide +kernel
theorem dX10_worked_66 : decode cX10_worked 66 = .ok (.iastore, 1) := by decide +kernel
theorem dX10_worked_67 : decode cX10_worked 67 = .ok (.aload_n 0, 1) := by decide +kernel
theorem dX10_worked_68 : decode cX10_worked 68 = .ok (.iload_n 2, 1) := by decide +kernel
theorem dX10_worked_69 : decode cX10_worked 69 = .ok (.invokevirtual 230, 3) := by decide +kernel
theorem dX10_worked_72 : decode cX10_worked 72 = .ok (.goto 257, 3) := by decide +kernel
theorem dX10_worked_75 : decode cX10_worked 75 = .ok (.iload 4, 2) := by decide +kernel
theorem dX10_worked_77 : decode cX10_worked 77 = .ok (.bipush 20, 2) := by decide +kernel
theorem dX10_worked_79 : decode cX10_worked 79 = .ok (.if_icmp .eq 10, 3) := by decide +kernel
theorem dX10_worked_82 : decode cX10_worked 82 = .ok (.iload 4, 2) := by decide +kernel
theorem dX10_worked_84 : decode cX10_worked 84 = .ok (.bipush 21, 2) := by decide +kernel
theorem dX10_worked_86 : decode cX10_worked 86 = .ok (.if_icmp .ne 19, 3) := by decide +kernel
theorem dX10_worked_89 : decode cX10_worked 89 = .ok (.aload_n 0, 1) := by decide +kernel
theorem dX10_worked_90 : decode cX10_worked 90 = .ok (.iload_n 2, 1) := by decide +kernel
theorem dX10_worked_91 : decode cX10_worked 91 = .ok (.invokevirtual 227, 3) := by decide +kernel
theorem dX10_worked_94 : decode cX10_worked 94 = .ok (.aload_n 0, 1) := by decide +kernel
theorem dX10_worked_95 : decode cX10_worked 95 = .ok (.getfield 93, 3) := by decide +kernel
theorem dX10_worked_98 : decode cX10_worked 98 = .ok (.iload_n 2, 1) := by decide +kernel
theorem dX10_worked_99 : decode cX10_worked 99 = .ok (.iload 4, 2) := by decide +kernel
theorem dX10_worked_101 : decode cX10_worked 101 = .ok (.iastore, 1) := by decide +kernel
theorem dX10_worked_102 : decode cX10_worked 102 = .ok (.goto 227, 3) := by decide +kernel
theorem dX10_worked_105 : decode cX10_worked 105 = .ok (.iload 4, 2) := by decide +kernel
theorem dX10_worked_107 : decode cX10_worked 107 = .ok (.bipush 22, 2) := by decide +kernel
theorem dX10_worked_109 : decode cX10_worked 109 = .ok (.if_icmp .ne 14, 3) := by decide +kernel
theorem dX10_worked_112 : decode cX10_worked 112 = .ok (.aload_n 0, 1) := by decide +kernel
theorem dX10_worked_113 : decode cX10_worked 113 = .ok (.getfield 99, 3) := by decide +kernel
theorem dX10_worked_116 : decode cX10_worked 116 = .ok (.iload_n 2, 1) := by decide +kernel
theorem dX10_worked_117 : decode cX10_worked 117 = .ok (.iload 4, 2) := by decide +kernel
theorem dX10_worked_119 : decode cX10_worked 119 = .ok (.iastore, 1) := by decide +kernel
theorem dX10_worked_120 : decode cX10_worked 120 = .ok (.goto 209, 3) := by decide +kernel
theorem dX10_worked_123 : decode cX10_worked 123 = .ok (.iload 4, 2) := by decide +kernel
theorem dX10_worked_125 : decode cX10_worked 125 = .ok (.bipush 24, 2) := by decide +kernel
theorem dX10_worked_127 : decode cX10_worked 127 = .ok (.if_icmp .eq 10, 3) := by decide +kernel
theorem dX10_worked_130 : decode cX10_worked 130 = .ok (.iload 4, 2) := by decide +kernel
theorem dX10_worked_132 : decode cX10_worked 132 = .ok (.bipush 25, 2) := by decide +kernel
theorem dX10_worked_134 : decode cX10_worked 134 = .ok (.if_icmp .ne 46, 3) := by decide +kernel
theorem dX10_worked_137 : decode cX10_worked 137 = .ok (.aload_n 0, 1) := by decide +kernel
theorem dX10_worked_138 : decode cX10_worked 138 = .ok (.iload_n 2, 1) := by decide +kernel
