theorem dX8_named_19 : decode cX8_named 19 = .ok (.lcmp, 1) := by decide +kernel
theorem dX8_named_20 : decode cX8_named 20 = .ok (.ifCond .ne 9, 3) := by decide +kernel
theorem dX8_named_23 : decode cX8_named 23 = .ok (.getstatic 119, 3) := by decide +kernel
theorem dX8_named_26 : decode cX8_named 26 = .ok (.iload_n 2, 1) := by decide +kernel
theorem dX8_named_27 : decode cX8_named 27 = .ok (.aaload, 1) := by decide +kernel
theorem dX8_named_28 : decode cX8_named 28 = .ok (.areturn, 1) := by decide +kernel
theorem dX8_named_29 : decode cX8_named 29 = .ok (.iinc 2 1, 3) := by decide +kernel
theorem dX8_named_32 : decode cX8_named 32 = .ok (.goto (-30), 3) := by decide +kernel
theorem dX8_named_35 : decode cX8_named 35 = .ok (.aconst_null, 1) := by decide +kernel
theorem dX8_named_36 : decode cX8_named 36 = .ok (.areturn, 1) := by decide +kernel
theorem dX9_init_0 : decode cX9_init 0 = .ok (.aload_n 0, 1) := by decide +kernel
theorem dX9_init_1 : decode cX9_init 1 = .ok (.invokespecial 3, 3) := by decide +kernel
theorem dX9_init_4 : decode cX9_init 4 = .ok (.aload_n 0, 1) := by decide +kernel
theorem dX9_init_5 : decode cX9_init 5 = .ok (.new 9, 3) := by decide +kernel
theorem dX9_init_8 : decode cX9_init 8 = .ok (.dup, 1) := by decide +kernel
theorem dX9_init_9 : decode cX9_init 9 = .ok (.invokespecial 11, 3) := by decide +kernel
theorem dX9_init_12 : decode cX9_init 12 = .ok (.putfield 12, 3) := by decide +kernel
theorem dX9_init_15 : decode cX9_init 15 = .ok (.new 16, 3) := by decide +kernel
theorem dX9_init_18 : decode cX9_init 18 = .ok (.dup, 1) := by decide +kernel
theorem dX9_init_19 : decode cX9_init 19 = .ok (.invokespecial 18, 3) := by decide +kernel
theorem dX9_init_22 : decode cX9_init 22 = .ok (.astore_n 1, 1) := by decide +kernel
theorem dX9_init_23 : decode cX9_init 23 = .ok (.aload_n 0, 1) := by decide +kernel
theorem dX9_init_24 : decode cX9_init 24 = .ok (.new 19, 3) := by decide +kernel
theorem dX9_init_27 : decode cX9_init 27 = .ok (.dup, 1) := by decide +kernel
theorem dX9_init_28 : decode cX9_init 28 = .ok (.aload_n 1, 1) := by decide +kernel
theorem dX9_init_29 : decode cX9_init 29 = .ok (.invokespecial 21, 3) := by decide +kernel
theorem dX9_init_32 : decode cX9_init 32 = .ok (.putfield 24, 3) := by decide +kernel
theorem dX9_init_35 : decode cX9_init 35 = .ok (.aload_n 0, 1) := by decide +kernel
theorem dX9_init_36 : decode cX9_init 36 = .ok (.new 19, 3) := by decide +kernel
theorem dX9_init_39 : decode cX9_init 39 = .ok (.dup, 1) := by decide +kernel
theorem dX9_init_40 : decode cX9_init 40 = .ok (.aload_n 1, 1) := by decide +kernel
theorem dX9_init_41 : decode cX9_init 41 = .ok (.invokespecial 21, 3) := by decide +kernel
theorem dX9_init_44 : decode cX9_init 44 = .ok (.putfield 28, 3) := by decide +kernel
theorem dX9_init_47 : decode cX9_init 47 = .ok (.aload_n 0, 1) := by decide +kernel
theorem dX9_init_48 : decode cX9_init 48 = .ok (.iconst 4, 1) := by decide +kernel
theorem dX9_init_49 : decode cX9_init 49 = .ok (.anewarray 19, 3) := by decide +kernel
theorem dX9_init_52 : decode cX9_init 52 = .ok (.putfield 31, 3) := by decide +kernel
theorem dX9_init_55 : decode cX9_init 55 = .ok (.aload_n 0, 1) := by decide +kernel
theorem dX9_init_56 : decode cX9_init 56 = .ok (.bipush 10, 2) := by decide +kernel
theorem dX9_init_58 : decode cX9_init 58 = .ok (.newarray .int, 2) := by decide +kernel
theorem dX9_init_60 : decode cX9_init 60 = .ok (.putfield 35, 3) := by decide +kernel
theorem dX9_init_63 : decode cX9_init 63 = .ok (.aload_n 0, 1) := by decide +kernel
theorem dX9_init_64 : decode cX9_init 64 = .ok (.bipush 10, 2) := by decide +kernel
theorem dX9_init_66 : decode cX9_init 66 = .ok (.newarray .int, 2) := by decide +kernel
theorem dX9_init_68 : decode cX9_init 68 = .ok (.putfield 39, 3) := by decide +kernel
theorem dX9_init_71 : decode cX9_init 71 = .ok (.aload_n 0, 1) := by decide +kernel
theorem dX9_init_72 : decode cX9_init 72 = .ok (.sipush 240, 3) := by decide +kernel
theorem dX9_init_75 : decode cX9_init 75 = .ok (.newarray .int, 2) := by decide +kernel
theorem dX9_init_77 : decode cX9_init 77 = .ok (.putfield 42, 3) := by decide +kernel
theorem dX9_init_80 : decode cX9_init 80 = .ok (.aload_n 0, 1) := by decide +kernel
theorem dX9_init_81 : decode cX9_init 81 = .ok (.sipush 240, 3) := by decide +kernel
theorem dX9_init_84 : decode cX9_init 84 = .ok (.newarray .int, 2) := by decide +kernel
theorem dX9_init_86 : decode cX9_init 86 = .ok (.putfield 45, 3) := by decide +kernel
theorem dX9_init_89 : decode cX9_init 89 = .ok (.aload_n 0, 1) := by decide +kernel
theorem dX9_init_90 : decode cX9_init 90 = .ok (.bipush 8, 2) := by decide +kernel
theorem dX9_init_92 : decode cX9_init 92 = .ok (.newarray .int, 2) := by decide +kernel
theorem dX9_init_94 : decode cX9_init 94 = .ok (.putfield 48, 3) := by decide +kernel
theorem dX9_init_97 : decode cX9_init 97 = .ok (.return_, 1) := by decide +kernel
theorem dX9_feed_0 : decode cX9_feed 0 = .ok (.aload_n 0, 1) := by decide +kernel
theorem dX9_feed_1 : decode cX9_feed 1 = .ok (.getfield 12, 3) := by decide +kernel
theorem dX9_feed_4 : decode cX9_feed 4 = .ok (.lload_n 1, 1) := by decide +kernel
theorem dX9_feed_5 : decode cX9_feed 5 = .ok (.invokevirtual 51, 3) := by decide +kernel
theorem dX9_feed_8 : decode cX9_feed 8 = .ok (.aload_n 0, 1) := by decide +kernel
theorem dX9_feed_9 : decode cX9_feed 9 = .ok (.getfield 12, 3) := by decide +kernel
theorem dX9_feed_12 : decode cX9_feed 12 = .ok (.lload_n 3, 1) := by decide +kernel
theorem dX9_feed_13 : decode cX9_feed 13 = .ok (.invokevirtual 51, 3) := by decide +kernel
theorem dX9_feed_16 : decode cX9_feed 16 = .ok (.aload_n 0, 1) := by decide +kernel
theorem dX9_feed_17 : decode cX9_feed 17 = .ok (.getfield 12, 3) := by decide +kernel
theorem dX9_feed_20 : decode cX9_feed 20 = .ok (.lload 5, 2) := by decide +kernel
theorem dX9_feed_22 : decode cX9_feed 22 = .ok (.invokevirtual 51, 3) := by decide +kernel
theorem dX9_feed_25 : decode cX9_feed 25 = .ok (.aload_n 0, 1) := by decide +kernel
theorem dX9_feed_26 : decode cX9_feed 26 = .ok (.getfield 12, 3) := by decide +kernel
theorem dX9_feed_29 : decode cX9_feed 29 = .ok (.getfield 55, 3) := by decide +kernel
theorem dX9_feed_32 : decode cX9_feed 32 = .ok (.ireturn, 1) := by decide +kernel
theorem dX9_prison_0 : decode cX9_prison 0 = .ok (.new 59, 3) := by decide +kernel
theorem dX9_prison_3 : decode cX9_prison 3 = .ok (.dup, 1) := by decide +kernel
theorem dX9_prison_4 : decode cX9_prison 4 = .ok (.aload_n 0, 1) := by decide +kernel
theorem dX9_prison_5 : decode cX9_prison 5 = .ok (.getfield 12, 3) := by decide +kernel
theorem dX9_prison_8 : decode cX9_prison 8 = .ok (.invokespecial 61, 3) := by decide +kernel
theorem dX9_prison_11 : decode cX9_prison 11 = .ok (.astore_n 1, 1) := by decide +kernel
theorem dX9_prison_12 : decode cX9_prison 12 = .ok (.aload_n 1, 1) := by decide +kernel
theorem dX9_prison_13 : decode cX9_prison 13 = .ok (.invokevirtual 64, 3) := by decide +kernel
theorem dX9_prison_16 : decode cX9_prison 16 = .ok (.istore_n 2, 1) := by decide +kernel
theorem dX9_prison_17 : decode cX9_prison 17 = .ok (.aload_n 0, 1) := by decide +kernel
theorem dX9_prison_18 : decode cX9_prison 18 = .ok (.getfield 12, 3) := by decide +kernel
theorem dX9_prison_21 : decode cX9_prison 21 = .ok (.iconst 0, 1) := by decide +kernel
theorem dX9_prison_22 : decode cX9_prison 22 = .ok (.putfield 55, 3) := by decide +kernel
theorem dX9_prison_25 : decode cX9_prison 25 = .ok (.iload_n 2, 1) := by decide +kernel
theorem dX9_prison_26 : decode cX9_prison 26 = .ok (.ifCond .ne 14, 3) := by decide +kernel
theorem dX9_prison_29 : decode cX9_prison 29 = .ok (.aload_n 0, 1) := by decide +kernel
theorem dX9_prison_30 : decode cX9_prison 30 = .ok (.getfield 24, 3) := by decide +kernel
theorem dX9_prison_33 : decode cX9_prison 33 = .ok (.aload_n 1, 1) := by decide +kernel
theorem dX9_prison_34 : decode cX9_prison 34 = .ok (.getfield 68, 3) := by decide +kernel
theorem dX9_prison_37 : decode cX9_prison 37 = .ok (.invokevirtual 72, 3) := by decide +kernel
theorem dX9_prison_40 : decode cX9_prison 40 = .ok (.iload_n 2, 1) := by decide +kernel
theorem dX9_prison_41 : decode cX9_prison 41 = .ok (.ireturn, 1) := by decide +kernel
theorem dX9_cell_0 : decode cX9_cell 0 = .ok (.iload_n 1, 1) := by decide +kernel
theorem dX9_cell_1 : decode cX9_cell 1 = .ok (.aload_n 0, 1) := by decide +kernel
theorem dX9_cell_2 : decode cX9_cell 2 = .ok (.getfield 24, 3) := by decide +kernel
theorem dX9_cell_5 : decode cX9_cell 5 = .ok (.getfield 75, 3) := by decide +kernel
theorem dX9_cell_8 : decode cX9_cell 8 = .ok (.getfield 76, 3) := by decide +kernel
theorem dX9_cell_11 : decode cX9_cell 11 = .ok (.invokestatic 79, 3) := by decide +kernel
theorem dX9_cell_14 : decode cX9_cell 14 = .ok (.ifCond .ne 5, 3) := by decide +kernel
theorem dX9_cell_17 : decode cX9_cell 17 = .ok (.iconst (-1), 1) := by decide +kernel
theorem dX9_cell_18 : decode cX9_cell 18 = .ok (.ireturn, 1) := by decide +kernel
theorem dX9_cell_19 : decode cX9_cell 19 = .ok (.iload_n 2, 1) := by decide +kernel
theorem dX9_cell_20 : decode cX9_cell 20 = .ok (.tableswitch 73 0 3 #[32, 42, 52, 61], 32) := by decide +kernel
theorem dX9_cell_52 : decode cX9_cell 52 = .ok (.aload_n 0, 1) := by decide +kernel
theorem dX9_cell_53 : decode cX9_cell 53 = .ok (.getfield 24, 3) := by decide +kernel
theorem dX9_cell_56 : decode cX9_cell 56 = .ok (.getfield 83, 3) := by decide +kernel
theorem dX9_cell_59 : decode cX9_cell 59 = .ok (.iload_n 1, 1) := by decide +kernel
theorem dX9_cell_60 : decode cX9_cell 60 = .ok (.iaload, 1) := by decide +kernel
theorem dX9_cell_61 : decode cX9_cell 61 = .ok (.ireturn, 1) := by decide +kernel
theorem dX9_cell_62 : decode cX9_cell 62 = .ok (.aload_n 0, 1) := by decide +kernel
theorem dX9_cell_63 : decode cX9_cell 63 = .ok (.getfield 24, 3) := by decide +kernel
theorem dX9_cell_66 : decode cX9_cell 66 = .ok (.iload_n 1, 1) := by decide +kernel
theorem dX9_cell_67 : decode cX9_cell 67 = .ok (.iconst (-1), 1) := by decide +kernel
theorem dX9_cell_68 : decode cX9_cell 68 = .ok (.invokevirtual 86, 3) := by decide +kernel
theorem dX9_cell_71 : decode cX9_cell 71 = .ok (.ireturn, 1) := by decide +kernel
theorem dX9_cell_72 : decode cX9_cell 72 = .ok (.aload_n 0, 1) := by decide +kernel
theorem dX9_cell_73 : decode cX9_cell 73 = .ok (.getfield 24, 3) := by decide +kernel
theorem dX9_cell_76 : decode cX9_cell 76 = .ok (.iload_n 1, 1) := by decide +kernel
theorem dX9_cell_77 : decode cX9_cell 77 = .ok (.invokevirtual 90, 3) := by decide +kernel
theorem dX9_cell_80 : decode cX9_cell 80 = .ok (.ireturn, 1) := by decide +kernel
theorem dX9_cell_81 : decode cX9_cell 81 = .ok (.aload_n 0, 1) := by decide +kernel
theorem dX9_cell_82 : decode cX9_cell 82 = .ok (.getfield 24, 3) := by decide +kernel
theorem dX9_cell_85 : decode cX9_cell 85 = .ok (.getfield 75, 3) := by decide +kernel
theorem dX9_cell_88 : decode cX9_cell 88 = .ok (.iload_n 1, 1) := by decide +kernel
theorem dX9_cell_89 : decode cX9_cell 89 = .ok (.invokevirtual 94, 3) := by decide +kernel
theorem dX9_cell_92 : decode cX9_cell 92 = .ok (.ireturn, 1) := by decide +kernel
theorem dX9_cell_93 : decode cX9_cell 93 = .ok (.iconst (-1), 1) := by decide +kernel
theorem dX9_cell_94 : decode cX9_cell 94 = .ok (.ireturn, 1) := by decide +kernel
theorem dX9_door_0 : decode cX9_door 0 = .ok (.iload_n 1, 1) := by decide +kernel
theorem dX9_door_1 : decode cX9_door 1 = .ok (.aload_n 0, 1) := by decide +kernel
theorem dX9_door_2 : decode cX9_door 2 = .ok (.getfield 24, 3) := by decide +kernel
theorem dX9_door_5 : decode cX9_door 5 = .ok (.getfield 75, 3) := by decide +kernel
theorem dX9_door_8 : decode cX9_door 8 = .ok (.getfield 97, 3) := by decide +kernel
theorem dX9_door_11 : decode cX9_door 11 = .ok (.invokestatic 79, 3) := by decide +kernel
theorem dX9_door_14 : decode cX9_door 14 = .ok (.ifCond .ne 5, 3) := by decide +kernel
theorem dX9_door_17 : decode cX9_door 17 = .ok (.iconst (-1), 1) := by decide +kernel
theorem dX9_door_18 : decode cX9_door 18 = .ok (.ireturn, 1) := by decide +kernel
theorem dX9_door_19 : decode cX9_door 19 = .ok (.iload_n 2, 1) := by decide +kernel
theorem dX9_door_20 : decode cX9_door 20 = .ok (.tableswitch 101 0 4 #[36, 49, 62, 75, 88], 36) := by decide +kernel
theorem dX9_door_56 : decode cX9_door 56 = .ok (.aload_n 0, 1) := by decide +kernel
theorem dX9_door_57 : decode cX9_door 57 = .ok (.getfield 24, 3) := by decide +kernel
theorem dX9_door_60 : decode cX9_door 60 = .ok (.getfield 100, 3) := by decide +kernel
theorem dX9_door_63 : decode cX9_door 63 = .ok (.iload_n 1, 1) := by decide +kernel
theorem dX9_door_64 : decode cX9_door 64 = .ok (.aaload, 1) := by decide +kernel
theorem dX9_door_65 : decode cX9_door 65 = .ok (.getfield 104, 3) := by decide +kernel
theorem dX9_door_68 : decode cX9_door 68 = .ok (.ireturn, 1) := by decide +kernel
theorem dX9_door_69 : decode cX9_door 69 = .ok (.aload_n 0, 1) := by decide +kernel
theorem dX9_door_70 : decode cX9_door 70 = .ok (.getfield 24, 3) := by decide +kernel
theorem dX9_door_73 : decode cX9_door 73 = .ok (.getfield 100, 3) := by decide +kernel
theorem dX9_door_76 : decode cX9_door 76 = .ok (.iload_n 1, 1) := by decide +kernel
theorem dX9_door_77 : decode cX9_door 77 = .ok (.aaload, 1) := by decide +kernel
theorem dX9_door_78 : decode cX9_door 78 = .ok (.getfield 109, 3) := by decide +kernel
theorem dX9_door_81 : decode cX9_door 81 = .ok (.ireturn, 1) := by decide +kernel
theorem dX9_door_82 : decode cX9_door 82 = .ok (.aload_n 0, 1) := by decide +kernel
theorem dX9_door_83 : decode cX9_door 83 = .ok (.getfield 24, 3) := by decide +kernel
theorem dX9_door_86 : decode cX9_door 86 = .ok (.getfield 100, 3) := by decide +kernel
theorem dX9_door_89 : decode cX9_door 89 = .ok (.iload_n 1, 1) := by decide +kernel
theorem dX9_door_90 : decode cX9_door 90 = .ok (.aaload, 1) := by decide +kernel
theorem dX9_door_91 : decode cX9_door 91 = .ok (.getfield 112, 3) := by decide +kernel
theorem dX9_door_94 : decode cX9_door 94 = .ok (.ireturn, 1) := by decide +kernel
theorem dX9_door_95 : decode cX9_door 95 = .ok (.aload_n 0, 1) := by decide +kernel
theorem dX9_door_96 : decode cX9_door 96 = .ok (.getfield 24, 3) := by decide +kernel
theorem dX9_door_99 : decode cX9_door 99 = .ok (.getfield 75, 3) := by decide +kernel
theorem dX9_door_102 : decode cX9_door 102 = .ok (.getfield 115, 3) := by decide +kernel
theorem dX9_door_105 : decode cX9_door 105 = .ok (.iload_n 1, 1) := by decide +kernel
theorem dX9_door_106 : decode cX9_door 106 = .ok (.iaload, 1) := by decide +kernel
theorem dX9_door_107 : decode cX9_door 107 = .ok (.ireturn, 1) := by decide +kernel
theorem dX9_door_108 : decode cX9_door 108 = .ok (.aload_n 0, 1) := by decide +kernel
theorem dX9_door_109 : decode cX9_door 109 = .ok (.getfield 24, 3) := by decide +kernel
theorem dX9_door_112 : decode cX9_door 112 = .ok (.getfield 75, 3) := by decide +kernel
theorem dX9_door_115 : decode cX9_door 115 = .ok (.getfield 118, 3) := by decide +kernel
theorem dX9_door_118 : decode cX9_door 118 = .ok (.iload_n 1, 1) := by decide +kernel
theorem dX9_door_119 : decode cX9_door 119 = .ok (.iaload, 1) := by decide +kernel
theorem dX9_door_120 : decode cX9_door 120 = .ok (.ireturn, 1) := by decide +kernel
theorem dX9_door_121 : decode cX9_door 121 = .ok (.iconst (-1), 1) := by decide +kernel
theorem dX9_door_122 : decode cX9_door 122 = .ok (.ireturn, 1) := by decide +kernel
theorem dX9_man_0 : decode cX9_man 0 = .ok (.iload_n 1, 1) := by decide +kernel
theorem dX9_man_1 : decode cX9_man 1 = .ok (.aload_n 0, 1) := by decide +kernel
theorem dX9_man_2 : decode cX9_man 2 = .ok (.getfield 24, 3) := by decide +kernel
theorem dX9_man_5 : decode cX9_man 5 = .ok (.getfield 75, 3) := by decide +kernel
theorem dX9_man_8 : decode cX9_man 8 = .ok (.getfield 121, 3) := by decide +kernel
theorem dX9_man_11 : decode cX9_man 11 = .ok (.invokestatic 79, 3) := by decide +kernel
theorem dX9_man_14 : decode cX9_man 14 = .ok (.ifCond .ne 13, 3) := by decide +kernel
theorem dX9_man_17 : decode cX9_man 17 = .ok (.new 124, 3) := by decide +kernel
theorem dX9_man_20 : decode cX9_man 20 = .ok (.dup, 1) := by decide +kernel
theorem dX9_man_21 : decode cX9_man 21 = .ok (.ldc 126, 2) := by decide +kernel
theorem dX9_man_23 : decode cX9_man 23 = .ok (.invokespecial 128, 3) := by decide +kernel
theorem dX9_man_26 : decode cX9_man 26 = .ok (.athrow, 1) := by decide +kernel
theorem dX9_man_27 : decode cX9_man 27 = .ok (.iload_n 2, 1) := by decide +kernel
theorem dX9_man_28 : decode cX9_man 28 = .ok (.tableswitch 61 0 2 #[28, 38, 48], 28) := by decide +kernel
theorem dX9_man_56 : decode cX9_man 56 = .ok (.aload_n 0, 1) := by decide +kernel
theorem dX9_man_57 : decode cX9_man 57 = .ok (.getfield 24, 3) := by decide +kernel
theorem dX9_man_60 : decode cX9_man 60 = .ok (.getfield 131, 3) := by decide +kernel
theorem dX9_man_63 : decode cX9_man 63 = .ok (.iload_n 1, 1) := by decide +kernel
theorem dX9_man_64 : decode cX9_man 64 = .ok (.iaload, 1) := by decide +kernel
theorem dX9_man_65 : decode cX9_man 65 = .ok (.ireturn, 1) := by decide +kernel
theorem dX9_man_66 : decode cX9_man 66 = .ok (.aload_n 0, 1) := by decide +kernel
theorem dX9_man_67 : decode cX9_man 67 = .ok (.getfield 24, 3) := by decide +kernel
theorem dX9_man_70 : decode cX9_man 70 = .ok (.getfield 134, 3) := by decide +kernel
theorem dX9_man_73 : decode cX9_man 73 = .ok (.iload_n 1, 1) := by decide +kernel
theorem dX9_man_74 : decode cX9_man 74 = .ok (.iaload, 1) := by decide +kernel
theorem dX9_man_75 : decode cX9_man 75 = .ok (.ireturn, 1) := by decide +kernel
theorem dX9_man_76 : decode cX9_man 76 = .ok (.aload_n 0, 1) := by decide +kernel
theorem dX9_man_77 : decode cX9_man 77 = .ok (.getfield 24, 3) := by decide +kernel
theorem dX9_man_80 : decode cX9_man 80 = .ok (.getfield 75, 3) := by decide +kernel
theorem dX9_man_83 : decode cX9_man 83 = .ok (.getfield 137, 3) := by decide +kernel
theorem dX9_man_86 : decode cX9_man 86 = .ok (.iload_n 1, 1) := by decide +kernel
theorem dX9_man_87 : decode cX9_man 87 = .ok (.iaload, 1) := by decide +kernel
theorem dX9_man_88 : decode cX9_man 88 = .ok (.ireturn, 1) := by decide +kernel
theorem dX9_man_89 : decode cX9_man 89 = .ok (.new 124, 3) := by decide +kernel
theorem dX9_man_92 : decode cX9_man 92 = .ok (.dup, 1) := by decide +kernel
theorem dX9_man_93 : decode cX9_man 93 = .ok (.ldc 140, 2) := by decide +kernel
theorem dX9_man_95 : decode cX9_man 95 = .ok (.invokespecial 128, 3) := by decide +kernel
theorem dX9_man_98 : decode cX9_man 98 = .ok (.athrow, 1) := by decide +kernel
theorem dX9_degrees_0 : decode cX9_degrees 0 = .ok (.iload_n 1, 1) := by decide +kernel
theorem dX9_degrees_1 : decode cX9_degrees 1 = .ok (.iconst 0, 1) := by decide +kernel
theorem dX9_degrees_2 : decode cX9_degrees 2 = .ok (.sipush 9999, 3) := by decide +kernel
theorem dX9_degrees_5 : decode cX9_degrees 5 = .ok (.invokestatic 142, 3) := by decide +kernel
theorem dX9_degrees_8 : decode cX9_degrees 8 = .ok (.ifCond .ne 13, 3) := by decide +kernel
theorem dX9_degrees_11 : decode cX9_degrees 11 = .ok (.new 124, 3) := by decide +kernel
theorem dX9_degrees_14 : decode cX9_degrees 14 = .ok (.dup, 1) := by decide +kernel
theorem dX9_degrees_15 : decode cX9_degrees 15 = .ok (.ldc 146, 2) := by decide +kernel
theorem dX9_degrees_17 : decode cX9_degrees 17 = .ok (.invokespecial 128, 3) := by decide +kernel
theorem dX9_degrees_20 : decode cX9_degrees 20 = .ok (.athrow, 1) := by decide +kernel
theorem dX9_degrees_21 : decode cX9_degrees 21 = .ok (.aload_n 0, 1) := by decide +kernel
theorem dX9_degrees_22 : decode cX9_degrees 22 = .ok (.getfield 24, 3) := by decide +kernel
theorem dX9_degrees_25 : decode cX9_degrees 25 = .ok (.iload_n 1, 1) := by decide +kernel
theorem dX9_degrees_26 : decode cX9_degrees 26 = .ok (.iconst 0, 1) := by decide +kernel
theorem dX9_degrees_27 : decode cX9_degrees 27 = .ok (.invokevirtual 148, 3) := by decide +kernel
theorem dX9_degrees_30 : decode cX9_degrees 30 = .ok (.ireturn, 1) := by decide +kernel
theorem dX9_pour_0 : decode cX9_pour 0 = .ok (.iload_n 1, 1) := by decide +kernel
theorem dX9_pour_1 : decode cX9_pour 1 = .ok (.aload_n 0, 1) := by decide +kernel
theorem dX9_pour_2 : decode cX9_pour 2 = .ok (.getfield 24, 3) := by decide +kernel
theorem dX9_pour_5 : decode cX9_pour 5 = .ok (.getfield 75, 3) := by decide +kernel
theorem dX9_pour_8 : decode cX9_pour 8 = .ok (.getfield 97, 3) := by decide +kernel
theorem dX9_pour_11 : decode cX9_pour 11 = .ok (.invokestatic 79, 3) := by decide +kernel
theorem dX9_pour_14 : decode cX9_pour 14 = .ok (.ifCond .eq 13, 3) := by decide +kernel
theorem dX9_pour_17 : decode cX9_pour 17 = .ok (.iload_n 2, 1) := by decide +kernel
theorem dX9_pour_18 : decode cX9_pour 18 = .ok (.iconst 0, 1) := by decide +kernel
theorem dX9_pour_19 : decode cX9_pour 19 = .ok (.bipush 99, 2) := by decide +kernel
theorem dX9_pour_21 : decode cX9_pour 21 = .ok (.invokestatic 142, 3) := by decide +kernel
theorem dX9_pour_24 : decode cX9_pour 24 = .ok (.ifCond .ne 5, 3) := by decide +kernel
theorem dX9_pour_27 : decode cX9_pour 27 = .ok (.iconst (-1), 1) := by decide +kernel
theorem dX9_pour_28 : decode cX9_pour 28 = .ok (.ireturn, 1) := by decide +kernel
theorem dX9_pour_29 : decode cX9_pour 29 = .ok (.aload_n 0, 1) := by decide +kernel
theorem dX9_pour_30 : decode cX9_pour 30 = .ok (.getfield 24, 3) := by decide +kernel
theorem dX9_pour_33 : decode cX9_pour 33 = .ok (.getfield 100, 3) := by decide +kernel
theorem dX9_pour_36 : decode cX9_pour 36 = .ok (.iload_n 1, 1) := by decide +kernel
theorem dX9_pour_37 : decode cX9_pour 37 = .ok (.aaload, 1) := by decide +kernel
theorem dX9_pour_38 : decode cX9_pour 38 = .ok (.iload_n 2, 1) := by decide +kernel
theorem dX9_pour_39 : decode cX9_pour 39 = .ok (.invokevirtual 151, 3) := by decide +kernel
theorem dX9_pour_42 : decode cX9_pour 42 = .ok (.ireturn, 1) := by decide +kernel
theorem dX9_salt_0 : decode cX9_salt 0 = .ok (.aload_n 0, 1) := by decide +kernel
theorem dX9_salt_1 : decode cX9_salt 1 = .ok (.iload_n 1, 1) := by decide +kernel
theorem dX9_salt_2 : decode cX9_salt 2 = .ok (.invokevirtual 154, 3) := by decide +kernel
theorem dX9_salt_5 : decode cX9_salt 5 = .ok (.ifCond .eq 20, 3) := by decide +kernel
theorem dX9_salt_8 : decode cX9_salt 8 = .ok (.iload_n 2, 1) := by decide +kernel
theorem dX9_salt_9 : decode cX9_salt 9 = .ok (.aload_n 0, 1) := by decide +kernel
theorem dX9_salt_10 : decode cX9_salt 10 = .ok (.getfield 24, 3) := by decide +kernel
theorem dX9_salt_13 : decode cX9_salt 13 = .ok (.getfield 75, 3) := by decide +kernel
theorem dX9_salt_16 : decode cX9_salt 16 = .ok (.getfield 97, 3) := by decide +kernel
theorem dX9_salt_19 : decode cX9_salt 19 = .ok (.invokestatic 79, 3) := by decide +kernel
theorem dX9_salt_22 : decode cX9_salt 22 = .ok (.ifCond .ne 5, 3) := by decide +kernel
theorem dX9_salt_25 : decode cX9_salt 25 = .ok (.iconst 0, 1) := by decide +kernel
theorem dX9_salt_26 : decode cX9_salt 26 = .ok (.ireturn, 1) := by decide +kernel
theorem dX9_salt_27 : decode cX9_salt 27 = .ok (.aload_n 0, 1) := by decide +kernel
theorem dX9_salt_28 : decode cX9_salt 28 = .ok (.getfield 24, 3) := by decide +kernel
theorem dX9_salt_31 : decode cX9_salt 31 = .ok (.getfield 134, 3) := by decide +kernel
theorem dX9_salt_34 : decode cX9_salt 34 = .ok (.iload_n 1, 1) := by decide +kernel
theorem dX9_salt_35 : decode cX9_salt 35 = .ok (.iaload, 1) := by decide +kernel
theorem dX9_salt_36 : decode cX9_salt 36 = .ok (.ifCond .le 28, 3) := by decide +kernel
theorem dX9_salt_39 : decode cX9_salt 39 = .ok (.aload_n 0, 1) := by decide +kernel
theorem dX9_salt_40 : decode cX9_salt 40 = .ok (.getfield 24, 3) := by decide +kernel
theorem dX9_salt_43 : decode cX9_salt 43 = .ok (.getfield 75, 3) := by decide +kernel
theorem dX9_salt_46 : decode cX9_salt 46 = .ok (.iload_n 2, 1) := by decide +kernel
theorem dX9_salt_47 : decode cX9_salt 47 = .ok (.aload_n 0, 1) := by decide +kernel
theorem dX9_salt_48 : decode cX9_salt 48 = .ok (.getfield 24, 3) := by decide +kernel
theorem dX9_salt_51 : decode cX9_salt 51 = .ok (.getfield 131, 3) := by decide +kernel
theorem dX9_salt_54 : decode cX9_salt 54 = .ok (.iload_n 1, 1) := by decide +kernel
theorem dX9_salt_55 : decode cX9_salt 55 = .ok (.iaload, 1) := by decide +kernel
theorem dX9_salt_56 : decode cX9_salt 56 = .ok (.invokevirtual 158, 3) := by decide +kernel
theorem dX9_salt_59 : decode cX9_salt 59 = .ok (.bipush (-2), 2) := by decide +kernel
theorem dX9_salt_61 : decode cX9_salt 61 = .ok (.if_icmp .ne 5, 3) := by decide +kernel
theorem dX9_salt_64 : decode cX9_salt 64 = .ok (.iconst 0, 1) := by decide +kernel
theorem dX9_salt_65 : decode cX9_salt 65 = .ok (.ireturn, 1) := by decide +kernel
theorem dX9_salt_66 : decode cX9_salt 66 = .ok (.aload_n 0, 1) := by decide +kernel
theorem dX9_salt_67 : decode cX9_salt 67 = .ok (.getfield 24, 3) := by decide +kernel
theorem dX9_salt_70 : decode cX9_salt 70 = .ok (.iload_n 1, 1) := by decide +kernel
theorem dX9_salt_71 : decode cX9_salt 71 = .ok (.iload_n 2, 1) := by decide +kernel
theorem dX9_salt_72 : decode cX9_salt 72 = .ok (.invokevirtual 161, 3) := by decide +kernel
theorem dX9_salt_75 : decode cX9_salt 75 = .ok (.iconst 1, 1) := by decide +kernel
theorem dX9_salt_76 : decode cX9_salt 76 = .ok (.ireturn, 1) := by decide +kernel
theorem dX9_stove_0 : decode cX9_stove 0 = .ok (.iload_n 1, 1) := by decide +kernel
theorem dX9_stove_1 : decode cX9_stove 1 = .ok (.aload_n 0, 1) := by decide +kernel
theorem dX9_stove_2 : decode cX9_stove 2 = .ok (.getfield 24, 3) := by decide +kernel
theorem dX9_stove_5 : decode cX9_stove 5 = .ok (.getfield 75, 3) := by decide +kernel
theorem dX9_stove_8 : decode cX9_stove 8 = .ok (.getfield 76, 3) := by decide +kernel
theorem dX9_stove_11 : decode cX9_stove 11 = .ok (.invokestatic 79, 3) := by decide +kernel
theorem dX9_stove_14 : decode cX9_stove 14 = .ok (.ifCond .eq 13, 3) := by decide +kernel
theorem dX9_stove_17 : decode cX9_stove 17 = .ok (.iload_n 2, 1) := by decide +kernel
theorem dX9_stove_18 : decode cX9_stove 18 = .ok (.iconst 0, 1) := by decide +kernel
theorem dX9_stove_19 : decode cX9_stove 19 = .ok (.bipush 9, 2) := by decide +kernel
theorem dX9_stove_21 : decode cX9_stove 21 = .ok (.invokestatic 142, 3) := by decide +kernel
theorem dX9_stove_24 : decode cX9_stove 24 = .ok (.ifCond .ne 5, 3) := by decide +kernel
theorem dX9_stove_27 : decode cX9_stove 27 = .ok (.iconst 0, 1) := by decide +kernel
theorem dX9_stove_28 : decode cX9_stove 28 = .ok (.ireturn, 1) := by decide +kernel
theorem dX9_stove_29 : decode cX9_stove 29 = .ok (.aload_n 0, 1) := by decide +kernel
theorem dX9_stove_30 : decode cX9_stove 30 = .ok (.getfield 24, 3) := by decide +kernel
theorem dX9_stove_33 : decode cX9_stove 33 = .ok (.getfield 83, 3) := by decide +kernel
theorem dX9_stove_36 : decode cX9_stove 36 = .ok (.iload_n 1, 1) := by decide +kernel
theorem dX9_stove_37 : decode cX9_stove 37 = .ok (.iload_n 2, 1) := by decide +kernel
theorem dX9_stove_38 : decode cX9_stove 38 = .ok (.iastore, 1) := by decide +kernel
theorem dX9_stove_39 : decode cX9_stove 39 = .ok (.iconst 1, 1) := by decide +kernel
theorem dX9_stove_40 : decode cX9_stove 40 = .ok (.ireturn, 1) := by decide +kernel
theorem dX9_pardon_0 : decode cX9_pardon 0 = .ok (.aload_n 0, 1) := by decide +kernel
theorem dX9_pardon_1 : decode cX9_pardon 1 = .ok (.iload_n 1, 1) := by decide +kernel
theorem dX9_pardon_2 : decode cX9_pardon 2 = .ok (.invokevirtual 154, 3) := by decide +kernel
theorem dX9_pardon_5 : decode cX9_pardon 5 = .ok (.ifCond .ne 5, 3) := by decide +kernel
theorem dX9_pardon_8 : decode cX9_pardon 8 = .ok (.iconst 0, 1) := by decide +kernel
theorem dX9_pardon_9 : decode cX9_pardon 9 = .ok (.ireturn, 1) := by decide +kernel
theorem dX9_pardon_10 : decode cX9_pardon 10 = .ok (.aload_n 0, 1) := by decide +kernel
theorem dX9_pardon_11 : decode cX9_pardon 11 = .ok (.getfield 24, 3) := by decide +kernel
theorem dX9_pardon_14 : decode cX9_pardon 14 = .ok (.getfield 131, 3) := by decide +kernel
theorem dX9_pardon_17 : decode cX9_pardon 17 = .ok (.iload_n 1, 1) := by decide +kernel
theorem dX9_pardon_18 : decode cX9_pardon 18 = .ok (.iconst (-1), 1) := by decide +kernel
theorem dX9_pardon_19 : decode cX9_pardon 19 = .ok (.iastore, 1) := by decide +kernel
theorem dX9_pardon_20 : decode cX9_pardon 20 = .ok (.iconst 1, 1) := by decide +kernel
theorem dX9_pardon_21 : decode cX9_pardon 21 = .ok (.ireturn, 1) := by decide +kernel
theorem dX9_hours_0 : decode cX9_hours 0 = .ok (.iload_n 1, 1) := by decide +kernel
theorem dX9_hours_1 : decode cX9_hours 1 = .ok (.iconst 1, 1) := by decide +kernel
theorem dX9_hours_2 : decode cX9_hours 2 = .ok (.sipush 1000, 3) := by decide +kernel
theorem dX9_hours_5 : decode cX9_hours 5 = .ok (.invokestatic 142, 3) := by decide +kernel
theorem dX9_hours_8 : decode cX9_hours 8 = .ok (.ifCond .ne 5, 3) := by decide +kernel
theorem dX9_hours_11 : decode cX9_hours 11 = .ok (.iconst (-1), 1) := by decide +kernel
theorem dX9_hours_12 : decode cX9_hours 12 = .ok (.ireturn, 1) := by decide +kernel
theorem dX9_hours_13 : decode cX9_hours 13 = .ok (.iconst 0, 1) := by decide +kernel
theorem dX9_hours_14 : decode cX9_hours 14 = .ok (.istore_n 2, 1) := by decide +kernel
theorem dX9_hours_15 : decode cX9_hours 15 = .ok (.iload_n 2, 1) := by decide +kernel
theorem dX9_hours_16 : decode cX9_hours 16 = .ok (.iload_n 1, 1) := by decide +kernel
theorem dX9_hours_17 : decode cX9_hours 17 = .ok (.if_icmp .ge 17, 3) := by decide +kernel
theorem dX9_hours_20 : decode cX9_hours 20 = .ok (.aload_n 0, 1) := by decide +kernel
theorem dX9_hours_21 : decode cX9_hours 21 = .ok (.getfield 24, 3) := by decide +kernel
theorem dX9_hours_24 : decode cX9_hours 24 = .ok (.iconst 0, 1) := by decide +kernel
theorem dX9_hours_25 : decode cX9_hours 25 = .ok (.invokevirtual 165, 3) := by decide +kernel
theorem dX9_hours_28 : decode cX9_hours 28 = .ok (.iinc 2 1, 3) := by decide +kernel
theorem dX9_hours_31 : decode cX9_hours 31 = .ok (.goto (-16), 3) := by decide +kernel
theorem dX9_hours_34 : decode cX9_hours 34 = .ok (.aload_n 0, 1) := by decide +kernel
theorem dX9_hours_35 : decode cX9_hours 35 = .ok (.getfield 24, 3) := by decide +kernel
theorem dX9_hours_38 : decode cX9_hours 38 = .ok (.getfield 169, 3) := by decide +kernel
theorem dX9_hours_41 : decode cX9_hours 41 = .ok (.ireturn, 1) := by decide +kernel
theorem dX9_soon_0 : decode cX9_soon 0 = .ok (.iload_n 1, 1) := by decide +kernel
theorem dX9_soon_1 : decode cX9_soon 1 = .ok (.aload_n 0, 1) := by decide +kernel
theorem dX9_soon_2 : decode cX9_soon 2 = .ok (.getfield 24, 3) := by decide +kernel
theorem dX9_soon_5 : decode cX9_soon 5 = .ok (.getfield 75, 3) := by decide +kernel
theorem dX9_soon_8 : decode cX9_soon 8 = .ok (.getfield 97, 3) := by decide +kernel
theorem dX9_soon_11 : decode cX9_soon 11 = .ok (.invokestatic 79, 3) := by decide +kernel
theorem dX9_soon_14 : decode cX9_soon 14 = .ok (.ifCond .eq 10, 3) := by decide +kernel
theorem dX9_soon_17 : decode cX9_soon 17 = .ok (.iload_n 2, 1) := by decide +kernel
theorem dX9_soon_18 : decode cX9_soon 18 = .ok (.invokestatic 172, 3) := by decide +kernel
theorem dX9_soon_21 : decode cX9_soon 21 = .ok (.ifCond .ne 5, 3) := by decide +kernel
theorem dX9_soon_24 : decode cX9_soon 24 = .ok (.iconst (-1), 1) := by decide +kernel
theorem dX9_soon_25 : decode cX9_soon 25 = .ok (.ireturn, 1) := by decide +kernel
theorem dX9_soon_26 : decode cX9_soon 26 = .ok (.aload_n 0, 1) := by decide +kernel
theorem dX9_soon_27 : decode cX9_soon 27 = .ok (.getfield 28, 3) := by decide +kernel
theorem dX9_soon_30 : decode cX9_soon 30 = .ok (.aload_n 0, 1) := by decide +kernel
theorem dX9_soon_31 : decode cX9_soon 31 = .ok (.getfield 24, 3) := by decide +kernel
theorem dX9_soon_34 : decode cX9_soon 34 = .ok (.invokevirtual 175, 3) := by decide +kernel
theorem dX9_soon_37 : decode cX9_soon 37 = .ok (.iconst 0, 1) := by decide +kernel
theorem dX9_soon_38 : decode cX9_soon 38 = .ok (.istore_n 3, 1) := by decide +kernel
theorem dX9_soon_39 : decode cX9_soon 39 = .ok (.iload_n 3, 1) := by decide +kernel
theorem dX9_soon_40 : decode cX9_soon 40 = .ok (.iload_n 2, 1) := by decide +kernel
theorem dX9_soon_41 : decode cX9_soon 41 = .ok (.if_icmp .gt 34, 3) := by decide +kernel
theorem dX9_soon_44 : decode cX9_soon 44 = .ok (.aload_n 0, 1) := by decide +kernel
theorem dX9_soon_45 : decode cX9_soon 45 = .ok (.getfield 28, 3) := by decide +kernel
theorem dX9_soon_48 : decode cX9_soon 48 = .ok (.getfield 100, 3) := by decide +kernel
theorem dX9_soon_51 : decode cX9_soon 51 = .ok (.iload_n 1, 1) := by decide +kernel
theorem dX9_soon_52 : decode cX9_soon 52 = .ok (.aaload, 1) := by decide +kernel
theorem dX9_soon_53 : decode cX9_soon 53 = .ok (.invokevirtual 179, 3) := by decide +kernel
theorem dX9_soon_56 : decode cX9_soon 56 = .ok (.ifCond .eq 5, 3) := by decide +kernel
theorem dX9_soon_59 : decode cX9_soon 59 = .ok (.iload_n 3, 1) := by decide +kernel
theorem dX9_soon_60 : decode cX9_soon 60 = .ok (.ireturn, 1) := by decide +kernel
theorem dX9_soon_61 : decode cX9_soon 61 = .ok (.aload_n 0, 1) := by decide +kernel
theorem dX9_soon_62 : decode cX9_soon 62 = .ok (.getfield 28, 3) := by decide +kernel
theorem dX9_soon_65 : decode cX9_soon 65 = .ok (.iconst 0, 1) := by decide +kernel
theorem dX9_soon_66 : decode cX9_soon 66 = .ok (.invokevirtual 165, 3) := by decide +kernel
theorem dX9_soon_69 : decode cX9_soon 69 = .ok (.iinc 3 1, 3) := by decide +kernel
theorem dX9_soon_72 : decode cX9_soon 72 = .ok (.goto (-33), 3) := by decide +kernel
theorem dX9_soon_75 : decode cX9_soon 75 = .ok (.iconst (-1), 1) := by decide +kernel
theorem dX9_soon_76 : decode cX9_soon 76 = .ok (.ireturn, 1) := by decide +kernel
theorem dX9_needs_0 : decode cX9_needs 0 = .ok (.iload_n 1, 1) := by decide +kernel
theorem dX9_needs_1 : decode cX9_needs 1 = .ok (.aload_n 0, 1) := by decide +kernel
theorem dX9_needs_2 : decode cX9_needs 2 = .ok (.getfield 24, 3) := by decide +kernel
theorem dX9_needs_5 : decode cX9_needs 5 = .ok (.getfield 75, 3) := by decide +kernel
theorem dX9_needs_8 : decode cX9_needs 8 = .ok (.getfield 97, 3) := by decide +kernel
theorem dX9_needs_11 : decode cX9_needs 11 = .ok (.invokestatic 79, 3) := by decide +kernel
theorem dX9_needs_14 : decode cX9_needs 14 = .ok (.ifCond .eq 10, 3) := by decide +kernel
theorem dX9_needs_17 : decode cX9_needs 17 = .ok (.iload_n 2, 1) := by decide +kernel
theorem dX9_needs_18 : decode cX9_needs 18 = .ok (.invokestatic 172, 3) := by decide +kernel
theorem dX9_needs_21 : decode cX9_needs 21 = .ok (.ifCond .ne 5, 3) := by decide +kernel
theorem dX9_needs_24 : decode cX9_needs 24 = .ok (.iconst (-1), 1) := by decide +kernel
theorem dX9_needs_25 : decode cX9_needs 25 = .ok (.ireturn, 1) := by decide +kernel
theorem dX9_needs_26 : decode cX9_needs 26 = .ok (.aload_n 0, 1) := by decide +kernel
theorem dX9_needs_27 : decode cX9_needs 27 = .ok (.iload_n 1, 1) := by decide +kernel
theorem dX9_needs_28 : decode cX9_needs 28 = .ok (.iload_n 2, 1) := by decide +kernel
theorem dX9_needs_29 : decode cX9_needs 29 = .ok (.invokevirtual 183, 3) := by decide +kernel
theorem dX9_needs_32 : decode cX9_needs 32 = .ok (.bipush 99, 2) := by decide +kernel
theorem dX9_needs_34 : decode cX9_needs 34 = .ok (.aload_n 0, 1) := by decide +kernel
theorem dX9_needs_35 : decode cX9_needs 35 = .ok (.getfield 24, 3) := by decide +kernel
theorem dX9_needs_38 : decode cX9_needs 38 = .ok (.getfield 100, 3) := by decide +kernel
theorem dX9_needs_41 : decode cX9_needs 41 = .ok (.iload_n 1, 1) := by decide +kernel
theorem dX9_needs_42 : decode cX9_needs 42 = .ok (.aaload, 1) := by decide +kernel
theorem dX9_needs_43 : decode cX9_needs 43 = .ok (.invokevirtual 186, 3) := by decide +kernel
theorem dX9_needs_46 : decode cX9_needs 46 = .ok (.isub, 1) := by decide +kernel
theorem dX9_needs_47 : decode cX9_needs 47 = .ok (.istore_n 3, 1) := by decide +kernel
theorem dX9_needs_48 : decode cX9_needs 48 = .ok (.iconst 0, 1) := by decide +kernel
theorem dX9_needs_49 : decode cX9_needs 49 = .ok (.istore 4, 2) := by decide +kernel
theorem dX9_needs_51 : decode cX9_needs 51 = .ok (.iload 4, 2) := by decide +kernel
theorem dX9_needs_53 : decode cX9_needs 53 = .ok (.iload_n 3, 1) := by decide +kernel
theorem dX9_needs_54 : decode cX9_needs 54 = .ok (.if_icmp .gt 23, 3) := by decide +kernel
theorem dX9_needs_57 : decode cX9_needs 57 = .ok (.aload_n 0, 1) := by decide +kernel
theorem dX9_needs_58 : decode cX9_needs 58 = .ok (.iload 4, 2) := by decide +kernel
theorem dX9_needs_60 : decode cX9_needs 60 = .ok (.iload_n 1, 1) := by decide +kernel
theorem dX9_needs_61 : decode cX9_needs 61 = .ok (.iload_n 2, 1) := by decide +kernel
theorem dX9_needs_62 : decode cX9_needs 62 = .ok (.invokevirtual 189, 3) := by decide +kernel
theorem dX9_needs_65 : decode cX9_needs 65 = .ok (.ifCond .eq 6, 3) := by decide +kernel
theorem dX9_needs_68 : decode cX9_needs 68 = .ok (.iload 4, 2) := by decide +kernel
theorem dX9_needs_70 : decode cX9_needs 70 = .ok (.ireturn, 1) := by decide +kernel
theorem dX9_needs_71 : decode cX9_needs 71 = .ok (.iinc 4 1, 3) := by decide +kernel
theorem dX9_needs_74 : decode cX9_needs 74 = .ok (.goto (-23), 3) := by decide +kernel
theorem dX9_needs_77 : decode cX9_needs 77 = .ok (.iconst (-1), 1) := by decide +kernel
theorem dX9_needs_78 : decode cX9_needs 78 = .ok (.ireturn, 1) := by decide +kernel
theorem dX9_first_0 : decode cX9_first 0 = .ok (.iload_n 1, 1) := by decide +kernel
theorem dX9_first_1 : decode cX9_first 1 = .ok (.invokestatic 172, 3) := by decide +kernel
theorem dX9_first_4 : decode cX9_first 4 = .ok (.ifCond .eq 20, 3) := by decide +kernel
theorem dX9_first_7 : decode cX9_first 7 = .ok (.iload_n 2, 1) := by decide +kernel
theorem dX9_first_8 : decode cX9_first 8 = .ok (.aload_n 0, 1) := by decide +kernel
theorem dX9_first_9 : decode cX9_first 9 = .ok (.getfield 24, 3) := by decide +kernel
theorem dX9_first_12 : decode cX9_first 12 = .ok (.getfield 75, 3) := by decide +kernel
theorem dX9_first_15 : decode cX9_first 15 = .ok (.getfield 97, 3) := by decide +kernel
theorem dX9_first_18 : decode cX9_first 18 = .ok (.invokestatic 79, 3) := by decide +kernel
theorem dX9_first_21 : decode cX9_first 21 = .ok (.ifCond .ne 5, 3) := by decide +kernel
theorem dX9_first_24 : decode cX9_first 24 = .ok (.iconst (-1), 1) := by decide +kernel
theorem dX9_first_25 : decode cX9_first 25 = .ok (.ireturn, 1) := by decide +kernel
theorem dX9_first_26 : decode cX9_first 26 = .ok (.aload_n 0, 1) := by decide +kernel
theorem dX9_first_27 : decode cX9_first 27 = .ok (.iload_n 1, 1) := by decide +kernel
theorem dX9_first_28 : decode cX9_first 28 = .ok (.invokevirtual 192, 3) := by decide +kernel
theorem dX9_first_31 : decode cX9_first 31 = .ok (.aload_n 0, 1) := by decide +kernel
theorem dX9_first_32 : decode cX9_first 32 = .ok (.getfield 39, 3) := by decide +kernel
theorem dX9_first_35 : decode cX9_first 35 = .ok (.iload_n 2, 1) := by decide +kernel
theorem dX9_first_36 : decode cX9_first 36 = .ok (.iaload, 1) := by decide +kernel
theorem dX9_first_37 : decode cX9_first 37 = .ok (.ireturn, 1) := by decide +kernel
theorem dX9_enough_0 : decode cX9_enough 0 = .ok (.iload_n 1, 1) := by decide +kernel
theorem dX9_enough_1 : decode cX9_enough 1 = .ok (.iconst 0, 1) := by decide +kernel
theorem dX9_enough_2 : decode cX9_enough 2 = .ok (.bipush 99, 2) := by decide +kernel
theorem dX9_enough_4 : decode cX9_enough 4 = .ok (.invokestatic 142, 3) := by decide +kernel
theorem dX9_enough_7 : decode cX9_enough 7 = .ok (.ifCond .eq 10, 3) := by decide +kernel
theorem dX9_enough_10 : decode cX9_enough 10 = .ok (.iload_n 2, 1) := by decide +kernel
theorem dX9_enough_11 : decode cX9_enough 11 = .ok (.invokestatic 172, 3) := by decide +kernel
theorem dX9_enough_14 : decode cX9_enough 14 = .ok (.ifCond .ne 5, 3) := by decide +kernel
theorem dX9_enough_17 : decode cX9_enough 17 = .ok (.iconst (-1), 1) := by decide +kernel
theorem dX9_enough_18 : decode cX9_enough 18 = .ok (.ireturn, 1) := by decide +kernel
theorem dX9_enough_19 : decode cX9_enough 19 = .ok (.aload_n 0, 1) := by decide +kernel
theorem dX9_enough_20 : decode cX9_enough 20 = .ok (.iload_n 2, 1) := by decide +kernel
theorem dX9_enough_21 : decode cX9_enough 21 = .ok (.invokevirtual 192, 3) := by decide +kernel
theorem dX9_enough_24 : decode cX9_enough 24 = .ok (.aload_n 0, 1) := by decide +kernel
theorem dX9_enough_25 : decode cX9_enough 25 = .ok (.getfield 28, 3) := by decide +kernel
theorem dX9_enough_28 : decode cX9_enough 28 = .ok (.aload_n 0, 1) := by decide +kernel
theorem dX9_enough_29 : decode cX9_enough 29 = .ok (.getfield 24, 3) := by decide +kernel
theorem dX9_enough_32 : decode cX9_enough 32 = .ok (.invokevirtual 175, 3) := by decide +kernel
theorem dX9_enough_35 : decode cX9_enough 35 = .ok (.iconst 0, 1) := by decide +kernel
theorem dX9_enough_36 : decode cX9_enough 36 = .ok (.istore_n 3, 1) := by decide +kernel
theorem dX9_enough_37 : decode cX9_enough 37 = .ok (.iload_n 3, 1) := by decide +kernel
theorem dX9_enough_38 : decode cX9_enough 38 = .ok (.iload_n 2, 1) := by decide +kernel
theorem dX9_enough_39 : decode cX9_enough 39 = .ok (.if_icmp .ge 62, 3) := by decide +kernel
theorem dX9_enough_42 : decode cX9_enough 42 = .ok (.iload_n 3, 1) := by decide +kernel
theorem dX9_enough_43 : decode cX9_enough 43 = .ok (.aload_n 0, 1) := by decide +kernel
theorem dX9_enough_44 : decode cX9_enough 44 = .ok (.getfield 24, 3) := by decide +kernel
theorem dX9_enough_47 : decode cX9_enough 47 = .ok (.getfield 75, 3) := by decide +kernel
theorem dX9_enough_50 : decode cX9_enough 50 = .ok (.getfield 97, 3) := by decide +kernel
theorem dX9_enough_53 : decode cX9_enough 53 = .ok (.if_icmp .ge 22, 3) := by decide +kernel
theorem dX9_enough_56 : decode cX9_enough 56 = .ok (.aload_n 0, 1) := by decide +kernel
theorem dX9_enough_57 : decode cX9_enough 57 = .ok (.getfield 28, 3) := by decide +kernel
theorem dX9_enough_60 : decode cX9_enough 60 = .ok (.getfield 100, 3) := by decide +kernel
theorem dX9_enough_63 : decode cX9_enough 63 = .ok (.aload_n 0, 1) := by decide +kernel
theorem dX9_enough_64 : decode cX9_enough 64 = .ok (.getfield 39, 3) := by decide +kernel
theorem dX9_enough_67 : decode cX9_enough 67 = .ok (.iload_n 3, 1) := by decide +kernel
theorem dX9_enough_68 : decode cX9_enough 68 = .ok (.iaload, 1) := by decide +kernel
theorem dX9_enough_69 : decode cX9_enough 69 = .ok (.aaload, 1) := by decide +kernel
theorem dX9_enough_70 : decode cX9_enough 70 = .ok (.iload_n 1, 1) := by decide +kernel
theorem dX9_enough_71 : decode cX9_enough 71 = .ok (.invokevirtual 151, 3) := by decide +kernel
theorem dX9_enough_74 : decode cX9_enough 74 = .ok (.pop, 1) := by decide +kernel
theorem dX9_enough_75 : decode cX9_enough 75 = .ok (.aload_n 0, 1) := by decide +kernel
theorem dX9_enough_76 : decode cX9_enough 76 = .ok (.getfield 28, 3) := by decide +kernel
theorem dX9_enough_79 : decode cX9_enough 79 = .ok (.iconst 0, 1) := by decide +kernel
theorem dX9_enough_80 : decode cX9_enough 80 = .ok (.invokevirtual 165, 3) := by decide +kernel
theorem dX9_enough_83 : decode cX9_enough 83 = .ok (.aload_n 0, 1) := by decide +kernel
theorem dX9_enough_84 : decode cX9_enough 84 = .ok (.getfield 28, 3) := by decide +kernel
theorem dX9_enough_87 : decode cX9_enough 87 = .ok (.invokevirtual 195, 3) := by decide +kernel
theorem dX9_enough_90 : decode cX9_enough 90 = .ok (.ifCond .eq 5, 3) := by decide +kernel
theorem dX9_enough_93 : decode cX9_enough 93 = .ok (.iconst 0, 1) := by decide +kernel
theorem dX9_enough_94 : decode cX9_enough 94 = .ok (.ireturn, 1) := by decide +kernel
theorem dX9_enough_95 : decode cX9_enough 95 = .ok (.iinc 3 1, 3) := by decide +kernel
theorem dX9_enough_98 : decode cX9_enough 98 = .ok (.goto (-61), 3) := by decide +kernel
theorem dX9_enough_101 : decode cX9_enough 101 = .ok (.iconst 1, 1) := by decide +kernel
theorem dX9_enough_102 : decode cX9_enough 102 = .ok (.ireturn, 1) := by decide +kernel
theorem dX9_plan_0 : decode cX9_plan 0 = .ok (.aload_n 0, 1) := by decide +kernel
theorem dX9_plan_1 : decode cX9_plan 1 = .ok (.iload_n 1, 1) := by decide +kernel
theorem dX9_plan_2 : decode cX9_plan 2 = .ok (.invokevirtual 154, 3) := by decide +kernel
theorem dX9_plan_5 : decode cX9_plan 5 = .ok (.ifCond .eq 7, 3) := by decide +kernel
theorem dX9_plan_8 : decode cX9_plan 8 = .ok (.iload_n 2, 1) := by decide +kernel
theorem dX9_plan_9 : decode cX9_plan 9 = .ok (.ifCond .ge 5, 3) := by decide +kernel
theorem dX9_plan_12 : decode cX9_plan 12 = .ok (.iconst (-1), 1) := by decide +kernel
theorem dX9_plan_13 : decode cX9_plan 13 = .ok (.ireturn, 1) := by decide +kernel
theorem dX9_plan_14 : decode cX9_plan 14 = .ok (.aload_n 0, 1) := by decide +kernel
theorem dX9_plan_15 : decode cX9_plan 15 = .ok (.invokevirtual 198, 3) := by decide +kernel
theorem dX9_plan_18 : decode cX9_plan 18 = .ok (.aload_n 0, 1) := by decide +kernel
theorem dX9_plan_19 : decode cX9_plan 19 = .ok (.getfield 24, 3) := by decide +kernel
theorem dX9_plan_22 : decode cX9_plan 22 = .ok (.getfield 131, 3) := by decide +kernel
theorem dX9_plan_25 : decode cX9_plan 25 = .ok (.iload_n 1, 1) := by decide +kernel
theorem dX9_plan_26 : decode cX9_plan 26 = .ok (.iaload, 1) := by decide +kernel
theorem dX9_plan_27 : decode cX9_plan 27 = .ok (.istore_n 3, 1) := by decide +kernel
theorem dX9_plan_28 : decode cX9_plan 28 = .ok (.aload_n 0, 1) := by decide +kernel
theorem dX9_plan_29 : decode cX9_plan 29 = .ok (.getfield 48, 3) := by decide +kernel
theorem dX9_plan_32 : decode cX9_plan 32 = .ok (.iload_n 3, 1) := by decide +kernel
theorem dX9_plan_33 : decode cX9_plan 33 = .ok (.iaload, 1) := by decide +kernel
theorem dX9_plan_34 : decode cX9_plan 34 = .ok (.istore 4, 2) := by decide +kernel
theorem dX9_plan_36 : decode cX9_plan 36 = .ok (.iload 4, 2) := by decide +kernel
theorem dX9_plan_38 : decode cX9_plan 38 = .ok (.iconst (-1), 1) := by decide +kernel
theorem dX9_plan_39 : decode cX9_plan 39 = .ok (.if_icmp .ne 5, 3) := by decide +kernel
theorem dX9_plan_42 : decode cX9_plan 42 = .ok (.iconst (-1), 1) := by decide +kernel
theorem dX9_plan_43 : decode cX9_plan 43 = .ok (.ireturn, 1) := by decide +kernel
theorem dX9_plan_44 : decode cX9_plan 44 = .ok (.iload_n 2, 1) := by decide +kernel
theorem dX9_plan_45 : decode cX9_plan 45 = .ok (.ifCond .ne 9, 3) := by decide +kernel
theorem dX9_plan_48 : decode cX9_plan 48 = .ok (.iload 4, 2) := by decide +kernel
theorem dX9_plan_50 : decode cX9_plan 50 = .ok (.bipush 100, 2) := by decide +kernel
theorem dX9_plan_52 : decode cX9_plan 52 = .ok (.idiv, 1) := by decide +kernel
theorem dX9_plan_53 : decode cX9_plan 53 = .ok (.ireturn, 1) := by decide +kernel
theorem dX9_plan_54 : decode cX9_plan 54 = .ok (.iload 4, 2) := by decide +kernel
theorem dX9_plan_56 : decode cX9_plan 56 = .ok (.bipush 100, 2) := by decide +kernel
theorem dX9_plan_58 : decode cX9_plan 58 = .ok (.irem, 1) := by decide +kernel
theorem dX9_plan_59 : decode cX9_plan 59 = .ok (.istore 5, 2) := by decide +kernel
theorem dX9_plan_61 : decode cX9_plan 61 = .ok (.iload_n 2, 1) := by decide +kernel
theorem dX9_plan_62 : decode cX9_plan 62 = .ok (.iconst 1, 1) := by decide +kernel
theorem dX9_plan_63 : decode cX9_plan 63 = .ok (.if_icmp .ne 6, 3) := by decide +kernel
theorem dX9_plan_66 : decode cX9_plan 66 = .ok (.iload 5, 2) := by decide +kernel
theorem dX9_plan_68 : decode cX9_plan 68 = .ok (.ireturn, 1) := by decide +kernel
theorem dX9_plan_69 : decode cX9_plan 69 = .ok (.iload_n 2, 1) := by decide +kernel
theorem dX9_plan_70 : decode cX9_plan 70 = .ok (.iconst 2, 1) := by decide +kernel
theorem dX9_plan_71 : decode cX9_plan 71 = .ok (.isub, 1) := by decide +kernel
theorem dX9_plan_72 : decode cX9_plan 72 = .ok (.iload 5, 2) := by decide +kernel
theorem dX9_plan_74 : decode cX9_plan 74 = .ok (.if_icmp .ge 14, 3) := by decide +kernel
theorem dX9_plan_77 : decode cX9_plan 77 = .ok (.aload_n 0, 1) := by decide +kernel
theorem dX9_plan_78 : decode cX9_plan 78 = .ok (.iload_n 3, 1) := by decide +kernel
theorem dX9_plan_79 : decode cX9_plan 79 = .ok (.iload_n 2, 1) := by decide +kernel
theorem dX9_plan_80 : decode cX9_plan 80 = .ok (.iconst 2, 1) := by decide +kernel
theorem dX9_plan_81 : decode cX9_plan 81 = .ok (.isub, 1) := by decide +kernel
theorem dX9_plan_82 : decode cX9_plan 82 = .ok (.invokevirtual 201, 3) := by decide +kernel
theorem dX9_plan_85 : decode cX9_plan 85 = .ok (.goto 4, 3) := by decide +kernel
theorem dX9_plan_88 : decode cX9_plan 88 = .ok (.iconst (-1), 1) := by decide +kernel
theorem dX9_plan_89 : decode cX9_plan 89 = .ok (.ireturn, 1) := by decide +kernel
theorem dX9_escape_0 : decode cX9_escape 0 = .ok (.aload_n 0, 1) := by decide +kernel
theorem dX9_escape_1 : decode cX9_escape 1 = .ok (.iload_n 1, 1) := by decide +kernel
theorem dX9_escape_2 : decode cX9_escape 2 = .ok (.invokevirtual 154, 3) := by decide +kernel
theorem dX9_escape_5 : decode cX9_escape 5 = .ok (.ifCond .eq 10, 3) := by decide +kernel
theorem dX9_escape_8 : decode cX9_escape 8 = .ok (.iload_n 2, 1) := by decide +kernel
theorem dX9_escape_9 : decode cX9_escape 9 = .ok (.invokestatic 172, 3) := by decide +kernel
theorem dX9_escape_12 : decode cX9_escape 12 = .ok (.ifCond .ne 5, 3) := by decide +kernel
theorem dX9_escape_15 : decode cX9_escape 15 = .ok (.iconst (-1), 1) := by decide +kernel
theorem dX9_escape_16 : decode cX9_escape 16 = .ok (.ireturn, 1) := by decide +kernel
theorem dX9_escape_17 : decode cX9_escape 17 = .ok (.aload_n 0, 1) := by decide +kernel
theorem dX9_escape_18 : decode cX9_escape 18 = .ok (.getfield 28, 3) := by decide +kernel
theorem dX9_escape_21 : decode cX9_escape 21 = .ok (.aload_n 0, 1) := by decide +kernel
theorem dX9_escape_22 : decode cX9_escape 22 = .ok (.getfield 24, 3) := by decide +kernel
theorem dX9_escape_25 : decode cX9_escape 25 = .ok (.invokevirtual 175, 3) := by decide +kernel
theorem dX9_escape_28 : decode cX9_escape 28 = .ok (.iconst 1, 1) := by decide +kernel
theorem dX9_escape_29 : decode cX9_escape 29 = .ok (.istore_n 3, 1) := by decide +kernel
theorem dX9_escape_30 : decode cX9_escape 30 = .ok (.iload_n 3, 1) := by decide +kernel
theorem dX9_escape_31 : decode cX9_escape 31 = .ok (.iload_n 2, 1) := by decide +kernel
theorem dX9_escape_32 : decode cX9_escape 32 = .ok (.if_icmp .gt 32, 3) := by decide +kernel
theorem dX9_escape_35 : decode cX9_escape 35 = .ok (.aload_n 0, 1) := by decide +kernel
theorem dX9_escape_36 : decode cX9_escape 36 = .ok (.getfield 28, 3) := by decide +kernel
theorem dX9_escape_39 : decode cX9_escape 39 = .ok (.iconst 0, 1) := by decide +kernel
theorem dX9_escape_40 : decode cX9_escape 40 = .ok (.invokevirtual 165, 3) := by decide +kernel
theorem dX9_escape_43 : decode cX9_escape 43 = .ok (.aload_n 0, 1) := by decide +kernel
theorem dX9_escape_44 : decode cX9_escape 44 = .ok (.getfield 28, 3) := by decide +kernel
theorem dX9_escape_47 : decode cX9_escape 47 = .ok (.getfield 131, 3) := by decide +kernel
theorem dX9_escape_50 : decode cX9_escape 50 = .ok (.iload_n 1, 1) := by decide +kernel
theorem dX9_escape_51 : decode cX9_escape 51 = .ok (.iaload, 1) := by decide +kernel
theorem dX9_escape_52 : decode cX9_escape 52 = .ok (.iconst (-1), 1) := by decide +kernel
theorem dX9_escape_53 : decode cX9_escape 53 = .ok (.if_icmp .ne 5, 3) := by decide +kernel
theorem dX9_escape_56 : decode cX9_escape 56 = .ok (.iload_n 3, 1) := by decide +kernel
theorem dX9_escape_57 : decode cX9_escape 57 = .ok (.ireturn, 1) := by decide +kernel
theorem dX9_escape_58 : decode cX9_escape 58 = .ok (.iinc 3 1, 3) := by decide +kernel
theorem dX9_escape_61 : decode cX9_escape 61 = .ok (.goto (-31), 3) := by decide +kernel
theorem dX9_escape_64 : decode cX9_escape 64 = .ok (.iconst (-1), 1) := by decide +kernel
theorem dX9_escape_65 : decode cX9_escape 65 = .ok (.ireturn, 1) := by decide +kernel
theorem dX9_salted_0 : decode cX9_salted 0 = .ok (.iload_n 1, 1) := by decide +kernel
theorem dX9_salted_1 : decode cX9_salted 1 = .ok (.iconst 1, 1) := by decide +kernel
theorem dX9_salted_2 : decode cX9_salted 2 = .ok (.bipush 99, 2) := by decide +kernel
theorem dX9_salted_4 : decode cX9_salted 4 = .ok (.invokestatic 142, 3) := by decide +kernel
theorem dX9_salted_7 : decode cX9_salted 7 = .ok (.ifCond .ne 5, 3) := by decide +kernel
theorem dX9_salted_10 : decode cX9_salted 10 = .ok (.iconst (-1), 1) := by decide +kernel
theorem dX9_salted_11 : decode cX9_salted 11 = .ok (.ireturn, 1) := by decide +kernel
theorem dX9_salted_12 : decode cX9_salted 12 = .ok (.iconst 0, 1) := by decide +kernel
theorem dX9_salted_13 : decode cX9_salted 13 = .ok (.istore_n 2, 1) := by decide +kernel
theorem dX9_salted_14 : decode cX9_salted 14 = .ok (.iconst 0, 1) := by decide +kernel
theorem dX9_salted_15 : decode cX9_salted 15 = .ok (.istore_n 3, 1) := by decide +kernel
theorem dX9_salted_16 : decode cX9_salted 16 = .ok (.iload_n 3, 1) := by decide +kernel
theorem dX9_salted_17 : decode cX9_salted 17 = .ok (.aload_n 0, 1) := by decide +kernel
theorem dX9_salted_18 : decode cX9_salted 18 = .ok (.getfield 24, 3) := by decide +kernel
theorem dX9_salted_21 : decode cX9_salted 21 = .ok (.getfield 75, 3) := by decide +kernel
theorem dX9_salted_24 : decode cX9_salted 24 = .ok (.getfield 97, 3) := by decide +kernel
theorem dX9_salted_27 : decode cX9_salted 27 = .ok (.if_icmp .ge 41, 3) := by decide +kernel
theorem dX9_salted_30 : decode cX9_salted 30 = .ok (.aload_n 0, 1) := by decide +kernel
theorem dX9_salted_31 : decode cX9_salted 31 = .ok (.getfield 24, 3) := by decide +kernel
theorem dX9_salted_34 : decode cX9_salted 34 = .ok (.getfield 100, 3) := by decide +kernel
theorem dX9_salted_37 : decode cX9_salted 37 = .ok (.iload_n 3, 1) := by decide +kernel
theorem dX9_salted_38 : decode cX9_salted 38 = .ok (.aaload, 1) := by decide +kernel
theorem dX9_salted_39 : decode cX9_salted 39 = .ok (.astore 4, 2) := by decide +kernel
theorem dX9_salted_41 : decode cX9_salted 41 = .ok (.aload 4, 2) := by decide +kernel
theorem dX9_salted_43 : decode cX9_salted 43 = .ok (.getfield 204, 3) := by decide +kernel
theorem dX9_salted_46 : decode cX9_salted 46 = .ok (.aload 4, 2) := by decide +kernel
theorem dX9_salted_48 : decode cX9_salted 48 = .ok (.getfield 104, 3) := by decide +kernel
theorem dX9_salted_51 : decode cX9_salted 51 = .ok (.isub, 1) := by decide +kernel
theorem dX9_salted_52 : decode cX9_salted 52 = .ok (.iload_n 1, 1) := by decide +kernel
theorem dX9_salted_53 : decode cX9_salted 53 = .ok (.if_icmp .lt 9, 3) := by decide +kernel
theorem dX9_salted_56 : decode cX9_salted 56 = .ok (.iload_n 2, 1) := by decide +kernel
theorem dX9_salted_57 : decode cX9_salted 57 = .ok (.iconst 1, 1) := by decide +kernel
theorem dX9_salted_58 : decode cX9_salted 58 = .ok (.iload_n 3, 1) := by decide +kernel
theorem dX9_salted_59 : decode cX9_salted 59 = .ok (.ishl, 1) := by decide +kernel
theorem dX9_salted_60 : decode cX9_salted 60 = .ok (.ior, 1) := by decide +kernel
theorem dX9_salted_61 : decode cX9_salted 61 = .ok (.istore_n 2, 1) := by decide +kernel
theorem dX9_salted_62 : decode cX9_salted 62 = .ok (.iinc 3 1, 3) := by decide +kernel
theorem dX9_salted_65 : decode cX9_salted 65 = .ok (.goto (-49), 3) := by decide +kernel
theorem dX9_salted_68 : decode cX9_salted 68 = .ok (.iload_n 2, 1) := by decide +kernel
theorem dX9_salted_69 : decode cX9_salted 69 = .ok (.ireturn, 1) := by decide +kernel
theorem dX9_beside_0 : decode cX9_beside 0 = .ok (.iload_n 1, 1) := by decide +kernel
theorem dX9_beside_1 : decode cX9_beside 1 = .ok (.aload_n 0, 1) := by decide +kernel
theorem dX9_beside_2 : decode cX9_beside 2 = .ok (.getfield 24, 3) := by decide +kernel
theorem dX9_beside_5 : decode cX9_beside 5 = .ok (.getfield 75, 3) := by decide +kernel
theorem dX9_beside_8 : decode cX9_beside 8 = .ok (.getfield 97, 3) := by decide +kernel
theorem dX9_beside_11 : decode cX9_beside 11 = .ok (.invokestatic 79, 3) := by decide +kernel
theorem dX9_beside_14 : decode cX9_beside 14 = .ok (.ifCond .eq 18, 3) := by decide +kernel
theorem dX9_beside_17 : decode cX9_beside 17 = .ok (.aload_n 0, 1) := by decide +kernel
theorem dX9_beside_18 : decode cX9_beside 18 = .ok (.getfield 24, 3) := by decide +kernel
theorem dX9_beside_21 : decode cX9_beside 21 = .ok (.getfield 100, 3) := by decide +kernel
theorem dX9_beside_24 : decode cX9_beside 24 = .ok (.iload_n 1, 1) := by decide +kernel
theorem dX9_beside_25 : decode cX9_beside 25 = .ok (.aaload, 1) := by decide +kernel
theorem dX9_beside_26 : decode cX9_beside 26 = .ok (.getfield 207, 3) := by decide +kernel
theorem dX9_beside_29 : decode cX9_beside 29 = .ok (.goto 4, 3) := by decide +kernel
theorem dX9_beside_32 : decode cX9_beside 32 = .ok (.iconst (-1), 1) := by decide +kernel
theorem dX9_beside_33 : decode cX9_beside 33 = .ok (.ireturn, 1) := by decide +kernel
theorem dX9_thaw_0 : decode cX9_thaw 0 = .ok (.iload_n 1, 1) := by decide +kernel
theorem dX9_thaw_1 : decode cX9_thaw 1 = .ok (.invokestatic 172, 3) := by decide +kernel
theorem dX9_thaw_4 : decode cX9_thaw 4 = .ok (.ifCond .ne 5, 3) := by decide +kernel
theorem dX9_thaw_7 : decode cX9_thaw 7 = .ok (.iconst (-1), 1) := by decide +kernel
theorem dX9_thaw_8 : decode cX9_thaw 8 = .ok (.ireturn, 1) := by decide +kernel
theorem dX9_thaw_9 : decode cX9_thaw 9 = .ok (.iconst 0, 1) := by decide +kernel
theorem dX9_thaw_10 : decode cX9_thaw 10 = .ok (.istore_n 2, 1) := by decide +kernel
theorem dX9_thaw_11 : decode cX9_thaw 11 = .ok (.iload_n 2, 1) := by decide +kernel
theorem dX9_thaw_12 : decode cX9_thaw 12 = .ok (.iload_n 1, 1) := by decide +kernel
theorem dX9_thaw_13 : decode cX9_thaw 13 = .ok (.if_icmp .gt 23, 3) := by decide +kernel
theorem dX9_thaw_16 : decode cX9_thaw 16 = .ok (.aload_n 0, 1) := by decide +kernel
theorem dX9_thaw_17 : decode cX9_thaw 17 = .ok (.getfield 24, 3) := by decide +kernel
theorem dX9_thaw_20 : decode cX9_thaw 20 = .ok (.iload_n 2, 1) := by decide +kernel
theorem dX9_thaw_21 : decode cX9_thaw 21 = .ok (.iconst 0, 1) := by decide +kernel
theorem dX9_thaw_22 : decode cX9_thaw 22 = .ok (.invokevirtual 148, 3) := by decide +kernel
theorem dX9_thaw_25 : decode cX9_thaw 25 = .ok (.ifCond .lt 5, 3) := by decide +kernel
theorem dX9_thaw_28 : decode cX9_thaw 28 = .ok (.iload_n 2, 1) := by decide +kernel
theorem dX9_thaw_29 : decode cX9_thaw 29 = .ok (.ireturn, 1) := by decide +kernel
theorem dX9_thaw_30 : decode cX9_thaw 30 = .ok (.iinc 2 1, 3) := by decide +kernel
theorem dX9_thaw_33 : decode cX9_thaw 33 = .ok (.goto (-22), 3) := by decide +kernel
theorem dX9_thaw_36 : decode cX9_thaw 36 = .ok (.iconst (-1), 1) := by decide +kernel
theorem dX9_thaw_37 : decode cX9_thaw 37 = .ok (.ireturn, 1) := by decide +kernel
theorem dX9_amnesty_0 : decode cX9_amnesty 0 = .ok (.aload_n 0, 1) := by decide +kernel
theorem dX9_amnesty_1 : decode cX9_amnesty 1 = .ok (.getfield 24, 3) := by decide +kernel
theorem dX9_amnesty_4 : decode cX9_amnesty 4 = .ok (.invokevirtual 210, 3) := by decide +kernel
theorem dX9_amnesty_7 : decode cX9_amnesty 7 = .ok (.istore_n 3, 1) := by decide +kernel
theorem dX9_amnesty_8 : decode cX9_amnesty 8 = .ok (.iload_n 3, 1) := by decide +kernel
theorem dX9_amnesty_9 : decode cX9_amnesty 9 = .ok (.ifCond .eq 21, 3) := by decide +kernel
theorem dX9_amnesty_12 : decode cX9_amnesty 12 = .ok (.iload_n 1, 1) := by decide +kernel
theorem dX9_amnesty_13 : decode cX9_amnesty 13 = .ok (.iconst 0, 1) := by decide +kernel
theorem dX9_amnesty_14 : decode cX9_amnesty 14 = .ok (.iload_n 3, 1) := by decide +kernel
theorem dX9_amnesty_15 : decode cX9_amnesty 15 = .ok (.invokestatic 142, 3) := by decide +kernel
theorem dX9_amnesty_18 : decode cX9_amnesty 18 = .ok (.ifCond .eq 12, 3) := by decide +kernel
theorem dX9_amnesty_21 : decode cX9_amnesty 21 = .ok (.iload_n 2, 1) := by decide +kernel
theorem dX9_amnesty_22 : decode cX9_amnesty 22 = .ok (.iconst 0, 1) := by decide +kernel
theorem dX9_amnesty_23 : decode cX9_amnesty 23 = .ok (.iconst 1, 1) := by decide +kernel
theorem dX9_amnesty_24 : decode cX9_amnesty 24 = .ok (.invokestatic 142, 3) := by decide +kernel
theorem dX9_amnesty_27 : decode cX9_amnesty 27 = .ok (.ifCond .ne 5, 3) := by decide +kernel
theorem dX9_amnesty_30 : decode cX9_amnesty 30 = .ok (.iconst (-1), 1) := by decide +kernel
theorem dX9_amnesty_31 : decode cX9_amnesty 31 = .ok (.ireturn, 1) := by decide +kernel
theorem dX9_amnesty_32 : decode cX9_amnesty 32 = .ok (.iload_n 3, 1) := by decide +kernel
theorem dX9_amnesty_33 : decode cX9_amnesty 33 = .ok (.istore 4, 2) := by decide +kernel
theorem dX9_amnesty_35 : decode cX9_amnesty 35 = .ok (.iload 4, 2) := by decide +kernel
theorem dX9_amnesty_37 : decode cX9_amnesty 37 = .ok (.iconst 1, 1) := by decide +kernel
theorem dX9_amnesty_38 : decode cX9_amnesty 38 = .ok (.if_icmp .le 23, 3) := by decide +kernel
theorem dX9_amnesty_41 : decode cX9_amnesty 41 = .ok (.iload_n 1, 1) := by decide +kernel
theorem dX9_amnesty_42 : decode cX9_amnesty 42 = .ok (.iload 4, 2) := by decide +kernel
theorem dX9_amnesty_44 : decode cX9_amnesty 44 = .ok (.irem, 1) := by decide +kernel
theorem dX9_amnesty_45 : decode cX9_amnesty 45 = .ok (.ifCond .ne 10, 3) := by decide +kernel
theorem dX9_amnesty_48 : decode cX9_amnesty 48 = .ok (.iload_n 3, 1) := by decide +kernel
theorem dX9_amnesty_49 : decode cX9_amnesty 49 = .ok (.iload 4, 2) := by decide +kernel
theorem dX9_amnesty_51 : decode cX9_amnesty 51 = .ok (.irem, 1) := by decide +kernel
theorem dX9_amnesty_52 : decode cX9_amnesty 52 = .ok (.ifCond .eq 9, 3) := by decide +kernel
theorem dX9_amnesty_55 : decode cX9_amnesty 55 = .ok (.iinc 4 (-1), 3) := by decide +kernel
theorem dX9_amnesty_58 : decode cX9_amnesty 58 = .ok (.goto (-23), 3) := by decide +kernel
theorem dX9_amnesty_61 : decode cX9_amnesty 61 = .ok (.iload_n 2, 1) := by decide +kernel
theorem dX9_amnesty_62 : decode cX9_amnesty 62 = .ok (.ifCond .ne 7, 3) := by decide +kernel
theorem dX9_amnesty_65 : decode cX9_amnesty 65 = .ok (.iload_n 1, 1) := by decide +kernel
theorem dX9_amnesty_66 : decode cX9_amnesty 66 = .ok (.goto 4, 3) := by decide +kernel
theorem dX9_amnesty_69 : decode cX9_amnesty 69 = .ok (.iload_n 3, 1) := by decide +kernel
theorem dX9_amnesty_70 : decode cX9_amnesty 70 = .ok (.iload 4, 2) := by decide +kernel
theorem dX9_amnesty_72 : decode cX9_amnesty 72 = .ok (.idiv, 1) := by decide +kernel
theorem dX9_amnesty_73 : decode cX9_amnesty 73 = .ok (.ireturn, 1) := by decide +kernel
theorem dX9_lots_0 : decode cX9_lots 0 = .ok (.iload_n 1, 1) := by decide +kernel
theorem dX9_lots_1 : decode cX9_lots 1 = .ok (.iconst 0, 1) := by decide +kernel
theorem dX9_lots_2 : decode cX9_lots 2 = .ok (.sipush 9999, 3) := by decide +kernel
theorem dX9_lots_5 : decode cX9_lots 5 = .ok (.invokestatic 142, 3) := by decide +kernel
theorem dX9_lots_8 : decode cX9_lots 8 = .ok (.ifCond .eq 13, 3) := by decide +kernel
theorem dX9_lots_11 : decode cX9_lots 11 = .ok (.iload_n 2, 1) := by decide +kernel
theorem dX9_lots_12 : decode cX9_lots 12 = .ok (.iconst 1, 1) := by decide +kernel
theorem dX9_lots_13 : decode cX9_lots 13 = .ok (.bipush 20, 2) := by decide +kernel
theorem dX9_lots_15 : decode cX9_lots 15 = .ok (.invokestatic 142, 3) := by decide +kernel
theorem dX9_lots_18 : decode cX9_lots 18 = .ok (.ifCond .ne 5, 3) := by decide +kernel
theorem dX9_lots_21 : decode cX9_lots 21 = .ok (.iconst (-1), 1) := by decide +kernel
theorem dX9_lots_22 : decode cX9_lots 22 = .ok (.ireturn, 1) := by decide +kernel
theorem dX9_lots_23 : decode cX9_lots 23 = .ok (.iload_n 3, 1) := by decide +kernel
theorem dX9_lots_24 : decode cX9_lots 24 = .ok (.iconst 1, 1) := by decide +kernel
theorem dX9_lots_25 : decode cX9_lots 25 = .ok (.bipush 120, 2) := by decide +kernel
theorem dX9_lots_27 : decode cX9_lots 27 = .ok (.invokestatic 142, 3) := by decide +kernel
theorem dX9_lots_30 : decode cX9_lots 30 = .ok (.ifCond .eq 13, 3) := by decide +kernel
theorem dX9_lots_33 : decode cX9_lots 33 = .ok (.iload 4, 2) := by decide +kernel
theorem dX9_lots_35 : decode cX9_lots 35 = .ok (.iconst 0, 1) := by decide +kernel
theorem dX9_lots_36 : decode cX9_lots 36 = .ok (.iconst 1, 1) := by decide +kernel
theorem dX9_lots_37 : decode cX9_lots 37 = .ok (.invokestatic 142, 3) := by decide +kernel
theorem dX9_lots_40 : decode cX9_lots 40 = .ok (.ifCond .ne 5, 3) := by decide +kernel
theorem dX9_lots_43 : decode cX9_lots 43 = .ok (.iconst (-1), 1) := by decide +kernel
theorem dX9_lots_44 : decode cX9_lots 44 = .ok (.ireturn, 1) := by decide +kernel
theorem dX9_lots_45 : decode cX9_lots 45 = .ok (.new 213, 3) := by decide +kernel
theorem dX9_lots_48 : decode cX9_lots 48 = .ok (.dup, 1) := by decide +kernel
theorem dX9_lots_49 : decode cX9_lots 49 = .ok (.iload_n 1, 1) := by decide +kernel
theorem dX9_lots_50 : decode cX9_lots 50 = .ok (.invokespecial 215, 3) := by decide +kernel
theorem dX9_lots_53 : decode cX9_lots 53 = .ok (.astore 5, 2) := by decide +kernel
theorem dX9_lots_55 : decode cX9_lots 55 = .ok (.iconst 0, 1) := by decide +kernel
theorem dX9_lots_56 : decode cX9_lots 56 = .ok (.istore 6, 2) := by decide +kernel
theorem dX9_lots_58 : decode cX9_lots 58 = .ok (.iconst 0, 1) := by decide +kernel
theorem dX9_lots_59 : decode cX9_lots 59 = .ok (.istore 7, 2) := by decide +kernel
theorem dX9_lots_61 : decode cX9_lots 61 = .ok (.iconst 0, 1) := by decide +kernel
theorem dX9_lots_62 : decode cX9_lots 62 = .ok (.istore 8, 2) := by decide +kernel
theorem dX9_lots_64 : decode cX9_lots 64 = .ok (.iload 8, 2) := by decide +kernel
theorem dX9_lots_66 : decode cX9_lots 66 = .ok (.iload_n 2, 1) := by decide +kernel
theorem dX9_lots_67 : decode cX9_lots 67 = .ok (.if_icmp .ge 102, 3) := by decide +kernel
theorem dX9_lots_70 : decode cX9_lots 70 = .ok (.aload_n 0, 1) := by decide +kernel
theorem dX9_lots_71 : decode cX9_lots 71 = .ok (.getfield 28, 3) := by decide +kernel
theorem dX9_lots_74 : decode cX9_lots 74 = .ok (.aload_n 0, 1) := by decide +kernel
theorem dX9_lots_75 : decode cX9_lots 75 = .ok (.getfield 24, 3) := by decide +kernel
theorem dX9_lots_78 : decode cX9_lots 78 = .ok (.invokevirtual 175, 3) := by decide +kernel
theorem dX9_lots_81 : decode cX9_lots 81 = .ok (.iconst 0, 1) := by decide +kernel
theorem dX9_lots_82 : decode cX9_lots 82 = .ok (.istore 9, 2) := by decide +kernel
theorem dX9_lots_84 : decode cX9_lots 84 = .ok (.iload 9, 2) := by decide +kernel
theorem dX9_lots_86 : decode cX9_lots 86 = .ok (.iload_n 3, 1) := by decide +kernel
theorem dX9_lots_87 : decode cX9_lots 87 = .ok (.if_icmp .ge 53, 3) := by decide +kernel
theorem dX9_lots_90 : decode cX9_lots 90 = .ok (.aload_n 0, 1) := by decide +kernel
theorem dX9_lots_91 : decode cX9_lots 91 = .ok (.getfield 28, 3) := by decide +kernel
theorem dX9_lots_94 : decode cX9_lots 94 = .ok (.aload 5, 2) := by decide +kernel
theorem dX9_lots_96 : decode cX9_lots 96 = .ok (.aload_n 0, 1) := by decide +kernel
theorem dX9_lots_97 : decode cX9_lots 97 = .ok (.getfield 24, 3) := by decide +kernel
theorem dX9_lots_100 : decode cX9_lots 100 = .ok (.getfield 75, 3) := by decide +kernel
theorem dX9_lots_103 : decode cX9_lots 103 = .ok (.getfield 217, 3) := by decide +kernel
theorem dX9_lots_106 : decode cX9_lots 106 = .ok (.iconst 1, 1) := by decide +kernel
theorem dX9_lots_107 : decode cX9_lots 107 = .ok (.iadd, 1) := by decide +kernel
theorem dX9_lots_108 : decode cX9_lots 108 = .ok (.invokevirtual 220, 3) := by decide +kernel
theorem dX9_lots_111 : decode cX9_lots 111 = .ok (.invokevirtual 165, 3) := by decide +kernel
theorem dX9_lots_114 : decode cX9_lots 114 = .ok (.iload 7, 2) := by decide +kernel
theorem dX9_lots_116 : decode cX9_lots 116 = .ok (.aload_n 0, 1) := by decide +kernel
theorem dX9_lots_117 : decode cX9_lots 117 = .ok (.getfield 28, 3) := by decide +kernel
theorem dX9_lots_120 : decode cX9_lots 120 = .ok (.invokevirtual 195, 3) := by decide +kernel
theorem dX9_lots_123 : decode cX9_lots 123 = .ok (.ifCond .eq 7, 3) := by decide +kernel
theorem dX9_lots_126 : decode cX9_lots 126 = .ok (.iconst 1, 1) := by decide +kernel
theorem dX9_lots_127 : decode cX9_lots 127 = .ok (.goto 4, 3) := by decide +kernel
theorem dX9_lots_130 : decode cX9_lots 130 = .ok (.iconst 0, 1) := by decide +kernel
theorem dX9_lots_131 : decode cX9_lots 131 = .ok (.iadd, 1) := by decide +kernel
theorem dX9_lots_132 : decode cX9_lots 132 = .ok (.istore 7, 2) := by decide +kernel
theorem dX9_lots_134 : decode cX9_lots 134 = .ok (.iinc 9 1, 3) := by decide +kernel
theorem dX9_lots_137 : decode cX9_lots 137 = .ok (.goto (-53), 3) := by decide +kernel
theorem dX9_lots_140 : decode cX9_lots 140 = .ok (.iload 6, 2) := by decide +kernel
theorem dX9_lots_142 : decode cX9_lots 142 = .ok (.aload_n 0, 1) := by decide +kernel
theorem dX9_lots_143 : decode cX9_lots 143 = .ok (.getfield 24, 3) := by decide +kernel
theorem dX9_lots_146 : decode cX9_lots 146 = .ok (.getfield 75, 3) := by decide +kernel
theorem dX9_lots_149 : decode cX9_lots 149 = .ok (.getfield 121, 3) := by decide +kernel
theorem dX9_lots_152 : decode cX9_lots 152 = .ok (.aload_n 0, 1) := by decide +kernel
theorem dX9_lots_153 : decode cX9_lots 153 = .ok (.getfield 28, 3) := by decide +kernel
theorem dX9_lots_156 : decode cX9_lots 156 = .ok (.invokevirtual 210, 3) := by decide +kernel
theorem dX9_lots_159 : decode cX9_lots 159 = .ok (.isub, 1) := by decide +kernel
theorem dX9_lots_160 : decode cX9_lots 160 = .ok (.iadd, 1) := by decide +kernel
theorem dX9_lots_161 : decode cX9_lots 161 = .ok (.istore 6, 2) := by decide +kernel
theorem dX9_lots_163 : decode cX9_lots 163 = .ok (.iinc 8 1, 3) := by decide +kernel
theorem dX9_lots_166 : decode cX9_lots 166 = .ok (.goto (-102), 3) := by decide +kernel
theorem dX9_lots_169 : decode cX9_lots 169 = .ok (.iload 4, 2) := by decide +kernel
theorem dX9_lots_171 : decode cX9_lots 171 = .ok (.ifCond .ne 8, 3) := by decide +kernel
theorem dX9_lots_174 : decode cX9_lots 174 = .ok (.iload 6, 2) := by decide +kernel
theorem dX9_lots_176 : decode cX9_lots 176 = .ok (.goto 5, 3) := by decide +kernel
theorem dX9_lots_179 : decode cX9_lots 179 = .ok (.iload 7, 2) := by decide +kernel
theorem dX9_lots_181 : decode cX9_lots 181 = .ok (.ireturn, 1) := by decide +kernel
theorem dX9_mark_0 : decode cX9_mark 0 = .ok (.iload_n 1, 1) := by decide +kernel
theorem dX9_mark_1 : decode cX9_mark 1 = .ok (.iconst 4, 1) := by decide +kernel
theorem dX9_mark_2 : decode cX9_mark 2 = .ok (.invokestatic 79, 3) := by decide +kernel
theorem dX9_mark_5 : decode cX9_mark 5 = .ok (.ifCond .ne 5, 3) := by decide +kernel
theorem dX9_mark_8 : decode cX9_mark 8 = .ok (.iconst 0, 1) := by decide +kernel
theorem dX9_mark_9 : decode cX9_mark 9 = .ok (.ireturn, 1) := by decide +kernel
theorem dX9_mark_10 : decode cX9_mark 10 = .ok (.iload_n 2, 1) := by decide +kernel
theorem dX9_mark_11 : decode cX9_mark 11 = .ok (.ifCond .eq 29, 3) := by decide +kernel
theorem dX9_mark_14 : decode cX9_mark 14 = .ok (.aload_n 0, 1) := by decide +kernel
theorem dX9_mark_15 : decode cX9_mark 15 = .ok (.getfield 31, 3) := by decide +kernel
theorem dX9_mark_18 : decode cX9_mark 18 = .ok (.iload_n 1, 1) := by decide +kernel
theorem dX9_mark_19 : decode cX9_mark 19 = .ok (.aaload, 1) := by decide +kernel
theorem dX9_mark_20 : decode cX9_mark 20 = .ok (.ifnonnull 5, 3) := by decide +kernel
theorem dX9_mark_23 : decode cX9_mark 23 = .ok (.iconst 0, 1) := by decide +kernel
theorem dX9_mark_24 : decode cX9_mark 24 = .ok (.ireturn, 1) := by decide +kernel
theorem dX9_mark_25 : decode cX9_mark 25 = .ok (.aload_n 0, 1) := by decide +kernel
theorem dX9_mark_26 : decode cX9_mark 26 = .ok (.getfield 24, 3) := by decide +kernel
theorem dX9_mark_29 : decode cX9_mark 29 = .ok (.aload_n 0, 1) := by decide +kernel
theorem dX9_mark_30 : decode cX9_mark 30 = .ok (.getfield 31, 3) := by decide +kernel
theorem dX9_mark_33 : decode cX9_mark 33 = .ok (.iload_n 1, 1) := by decide +kernel
theorem dX9_mark_34 : decode cX9_mark 34 = .ok (.aaload, 1) := by decide +kernel
theorem dX9_mark_35 : decode cX9_mark 35 = .ok (.invokevirtual 175, 3) := by decide +kernel
theorem dX9_mark_38 : decode cX9_mark 38 = .ok (.iconst 1, 1) := by decide +kernel
theorem dX9_mark_39 : decode cX9_mark 39 = .ok (.ireturn, 1) := by decide +kernel
theorem dX9_mark_40 : decode cX9_mark 40 = .ok (.aload_n 0, 1) := by decide +kernel
theorem dX9_mark_41 : decode cX9_mark 41 = .ok (.getfield 31, 3) := by decide +kernel
theorem dX9_mark_44 : decode cX9_mark 44 = .ok (.iload_n 1, 1) := by decide +kernel
theorem dX9_mark_45 : decode cX9_mark 45 = .ok (.aaload, 1) := by decide +kernel
theorem dX9_mark_46 : decode cX9_mark 46 = .ok (.ifnonnull 23, 3) := by decide +kernel
theorem dX9_mark_49 : decode cX9_mark 49 = .ok (.aload_n 0, 1) := by decide +kernel
theorem dX9_mark_50 : decode cX9_mark 50 = .ok (.getfield 31, 3) := by decide +kernel
theorem dX9_mark_53 : decode cX9_mark 53 = .ok (.iload_n 1, 1) := by decide +kernel
theorem dX9_mark_54 : decode cX9_mark 54 = .ok (.new 19, 3) := by decide +kernel
theorem dX9_mark_57 : decode cX9_mark 57 = .ok (.dup, 1) := by decide +kernel
theorem dX9_mark_58 : decode cX9_mark 58 = .ok (.aload_n 0, 1) := by decide +kernel
theorem dX9_mark_59 : decode cX9_mark 59 = .ok (.getfield 24, 3) := by decide +kernel
theorem dX9_mark_62 : decode cX9_mark 62 = .ok (.getfield 75, 3) := by decide +kernel
theorem dX9_mark_65 : decode cX9_mark 65 = .ok (.invokespecial 21, 3) := by decide +kernel
theorem dX9_mark_68 : decode cX9_mark 68 = .ok (.aastore, 1) := by decide +kernel
theorem dX9_mark_69 : decode cX9_mark 69 = .ok (.aload_n 0, 1) := by decide +kernel
theorem dX9_mark_70 : decode cX9_mark 70 = .ok (.getfield 31, 3) := by decide +kernel
theorem dX9_mark_73 : decode cX9_mark 73 = .ok (.iload_n 1, 1) := by decide +kernel
theorem dX9_mark_74 : decode cX9_mark 74 = .ok (.aaload, 1) := by decide +kernel
theorem dX9_mark_75 : decode cX9_mark 75 = .ok (.aload_n 0, 1) := by decide +kernel
theorem dX9_mark_76 : decode cX9_mark 76 = .ok (.getfield 24, 3) := by decide +kernel
theorem dX9_mark_79 : decode cX9_mark 79 = .ok (.invokevirtual 175, 3) := by decide +kernel
theorem dX9_mark_82 : decode cX9_mark 82 = .ok (.iconst 1, 1) := by decide +kernel
theorem dX9_mark_83 : decode cX9_mark 83 = .ok (.ireturn, 1) := by decide +kernel
theorem dX9_count_0 : decode cX9_count 0 = .ok (.iload_n 1, 1) := by decide +kernel
theorem dX9_count_1 : decode cX9_count 1 = .ok (.tableswitch 126 0 7 #[47, 58, 69, 80, 91, 99, 107, 118], 47) := by decide +kernel
theorem dX9_count_48 : decode cX9_count 48 = .ok (.aload_n 0, 1) := by decide +kernel
theorem dX9_count_49 : decode cX9_count 49 = .ok (.getfield 24, 3) := by decide +kernel
theorem dX9_count_52 : decode cX9_count 52 = .ok (.getfield 75, 3) := by decide +kernel
theorem dX9_count_55 : decode cX9_count 55 = .ok (.getfield 76, 3) := by decide +kernel
theorem dX9_count_58 : decode cX9_count 58 = .ok (.ireturn, 1) := by decide +kernel
theorem dX9_count_59 : decode cX9_count 59 = .ok (.aload_n 0, 1) := by decide +kernel
theorem dX9_count_60 : decode cX9_count 60 = .ok (.getfield 24, 3) := by decide +kernel
theorem dX9_count_63 : decode cX9_count 63 = .ok (.getfield 75, 3) := by decide +kernel
theorem dX9_count_66 : decode cX9_count 66 = .ok (.getfield 97, 3) := by decide +kernel
theorem dX9_count_69 : decode cX9_count 69 = .ok (.ireturn, 1) := by decide +kernel
theorem dX9_count_70 : decode cX9_count 70 = .ok (.aload_n 0, 1) := by decide +kernel
theorem dX9_count_71 : decode cX9_count 71 = .ok (.getfield 24, 3) := by decide +kernel
theorem dX9_count_74 : decode cX9_count 74 = .ok (.getfield 75, 3) := by decide +kernel
theorem dX9_count_77 : decode cX9_count 77 = .ok (.getfield 121, 3) := by decide +kernel
theorem dX9_count_80 : decode cX9_count 80 = .ok (.ireturn, 1) := by decide +kernel
theorem dX9_count_81 : decode cX9_count 81 = .ok (.aload_n 0, 1) := by decide +kernel
theorem dX9_count_82 : decode cX9_count 82 = .ok (.getfield 24, 3) := by decide +kernel
theorem dX9_count_85 : decode cX9_count 85 = .ok (.getfield 75, 3) := by decide +kernel
theorem dX9_count_88 : decode cX9_count 88 = .ok (.getfield 223, 3) := by decide +kernel
theorem dX9_count_91 : decode cX9_count 91 = .ok (.ireturn, 1) := by decide +kernel
theorem dX9_count_92 : decode cX9_count 92 = .ok (.aload_n 0, 1) := by decide +kernel
theorem dX9_count_93 : decode cX9_count 93 = .ok (.getfield 24, 3) := by decide +kernel
theorem dX9_count_96 : decode cX9_count 96 = .ok (.getfield 169, 3) := by decide +kernel
theorem dX9_count_99 : decode cX9_count 99 = .ok (.ireturn, 1) := by decide +kernel
theorem dX9_count_100 : decode cX9_count 100 = .ok (.aload_n 0, 1) := by decide +kernel
theorem dX9_count_101 : decode cX9_count 101 = .ok (.getfield 24, 3) := by decide +kernel
theorem dX9_count_104 : decode cX9_count 104 = .ok (.invokevirtual 210, 3) := by decide +kernel
theorem dX9_count_107 : decode cX9_count 107 = .ok (.ireturn, 1) := by decide +kernel
theorem dX9_count_108 : decode cX9_count 108 = .ok (.aload_n 0, 1) := by decide +kernel
theorem dX9_count_109 : decode cX9_count 109 = .ok (.getfield 24, 3) := by decide +kernel
theorem dX9_count_112 : decode cX9_count 112 = .ok (.getfield 75, 3) := by decide +kernel
theorem dX9_count_115 : decode cX9_count 115 = .ok (.getfield 217, 3) := by decide +kernel
theorem dX9_count_118 : decode cX9_count 118 = .ok (.ireturn, 1) := by decide +kernel
theorem dX9_count_119 : decode cX9_count 119 = .ok (.aload_n 0, 1) := by decide +kernel
theorem dX9_count_120 : decode cX9_count 120 = .ok (.getfield 12, 3) := by decide +kernel
theorem dX9_count_123 : decode cX9_count 123 = .ok (.getfield 55, 3) := by decide +kernel
theorem dX9_count_126 : decode cX9_count 126 = .ok (.ireturn, 1) := by decide +kernel
theorem dX9_count_127 : decode cX9_count 127 = .ok (.iconst (-1), 1) := by decide +kernel
theorem dX9_count_128 : decode cX9_count 128 = .ok (.ireturn, 1) := by decide +kernel
theorem dX9_isBelow_0 : decode cX9_isBelow 0 = .ok (.iload_n 0, 1) := by decide +kernel
theorem dX9_isBelow_1 : decode cX9_isBelow 1 = .ok (.ifCond .lt 12, 3) := by decide +kernel
theorem dX9_isBelow_4 : decode cX9_isBelow 4 = .ok (.iload_n 0, 1) := by decide +kernel
theorem dX9_isBelow_5 : decode cX9_isBelow 5 = .ok (.iload_n 1, 1) := by decide +kernel
theorem dX9_isBelow_6 : decode cX9_isBelow 6 = .ok (.if_icmp .ge 7, 3) := by decide +kernel
theorem dX9_isBelow_9 : decode cX9_isBelow 9 = .ok (.iconst 1, 1) := by decide +kernel
theorem dX9_isBelow_10 : decode cX9_isBelow 10 = .ok (.goto 4, 3) := by decide +kernel
theorem dX9_isBelow_13 : decode cX9_isBelow 13 = .ok (.iconst 0, 1) := by decide +kernel
theorem dX9_isBelow_14 : decode cX9_isBelow 14 = .ok (.ireturn, 1) := by decide +kernel
theorem dX9_isWithin_0 : decode cX9_isWithin 0 = .ok (.iload_n 0, 1) := by decide +kernel
theorem dX9_isWithin_1 : decode cX9_isWithin 1 = .ok (.iload_n 1, 1) := by decide +kernel
theorem dX9_isWithin_2 : decode cX9_isWithin 2 = .ok (.if_icmp .lt 12, 3) := by decide +kernel
theorem dX9_isWithin_5 : decode cX9_isWithin 5 = .ok (.iload_n 0, 1) := by decide +kernel
theorem dX9_isWithin_6 : decode cX9_isWithin 6 = .ok (.iload_n 2, 1) := by decide +kernel
theorem dX9_isWithin_7 : decode cX9_isWithin 7 = .ok (.if_icmp .gt 7, 3) := by decide +kernel
theorem dX9_isWithin_10 : decode cX9_isWithin 10 = .ok (.iconst 1, 1) := by decide +kernel
theorem dX9_isWithin_11 : decode cX9_isWithin 11 = .ok (.goto 4, 3) := by decide +kernel
theorem dX9_isWithin_14 : decode cX9_isWithin 14 = .ok (.iconst 0, 1) := by decide +kernel
theorem dX9_isWithin_15 : decode cX9_isWithin 15 = .ok (.ireturn, 1) := by decide +kernel
theorem dX9_isAhead_0 : decode cX9_isAhead 0 = .ok (.iload_n 0, 1) := by decide +kernel
theorem dX9_isAhead_1 : decode cX9_isAhead 1 = .ok (.iconst 1, 1) := by decide +kernel
theorem dX9_isAhead_2 : decode cX9_isAhead 2 = .ok (.sipush 240, 3) := by decide +kernel
theorem dX9_isAhead_5 : decode cX9_isAhead 5 = .ok (.invokestatic 142, 3) := by decide +kernel
theorem dX9_isAhead_8 : decode cX9_isAhead 8 = .ok (.ireturn, 1) := by decide +kernel
theorem dX9_isHeld_0 : decode cX9_isHeld 0 = .ok (.iload_n 1, 1) := by decide +kernel
theorem dX9_isHeld_1 : decode cX9_isHeld 1 = .ok (.aload_n 0, 1) := by decide +kernel
theorem dX9_isHeld_2 : decode cX9_isHeld 2 = .ok (.getfield 24, 3) := by decide +kernel
theorem dX9_isHeld_5 : decode cX9_isHeld 5 = .ok (.getfield 75, 3) := by decide +kernel
theorem dX9_isHeld_8 : decode cX9_isHeld 8 = .ok (.getfield 121, 3) := by decide +kernel
theorem dX9_isHeld_11 : decode cX9_isHeld 11 = .ok (.invokestatic 79, 3) := by decide +kernel
theorem dX9_isHeld_14 : decode cX9_isHeld 14 = .ok (.ifCond .eq 20, 3) := by decide +kernel
theorem dX9_isHeld_17 : decode cX9_isHeld 17 = .ok (.aload_n 0, 1) := by decide +kernel
theorem dX9_isHeld_18 : decode cX9_isHeld 18 = .ok (.getfield 24, 3) := by decide +kernel
theorem dX9_isHeld_21 : decode cX9_isHeld 21 = .ok (.getfield 131, 3) := by decide +kernel
theorem dX9_isHeld_24 : decode cX9_isHeld 24 = .ok (.iload_n 1, 1) := by decide +kernel
theorem dX9_isHeld_25 : decode cX9_isHeld 25 = .ok (.iaload, 1) := by decide +kernel
theorem dX9_isHeld_26 : decode cX9_isHeld 26 = .ok (.iconst (-1), 1) := by decide +kernel
theorem dX9_isHeld_27 : decode cX9_isHeld 27 = .ok (.if_icmp .eq 7, 3) := by decide +kernel
theorem dX9_isHeld_30 : decode cX9_isHeld 30 = .ok (.iconst 1, 1) := by decide +kernel
theorem dX9_isHeld_31 : decode cX9_isHeld 31 = .ok (.goto 4, 3) := by decide +kernel
theorem dX9_isHeld_34 : decode cX9_isHeld 34 = .ok (.iconst 0, 1) := by decide +kernel
theorem dX9_isHeld_35 : decode cX9_isHeld 35 = .ok (.ireturn, 1) := by decide +kernel
theorem dX9_findSoonest_0 : decode cX9_findSoonest 0 = .ok (.aload_n 0, 1) := by decide +kernel
theorem dX9_findSoonest_1 : decode cX9_findSoonest 1 = .ok (.getfield 35, 3) := by decide +kernel
theorem dX9_findSoonest_4 : decode cX9_findSoonest 4 = .ok (.iload_n 1, 1) := by decide +kernel
theorem dX9_findSoonest_5 : decode cX9_findSoonest 5 = .ok (.iconst 1, 1) := by decide +kernel
theorem dX9_findSoonest_6 : decode cX9_findSoonest 6 = .ok (.iadd, 1) := by decide +kernel
theorem dX9_findSoonest_7 : decode cX9_findSoonest 7 = .ok (.invokestatic 226, 3) := by decide +kernel
theorem dX9_findSoonest_10 : decode cX9_findSoonest 10 = .ok (.aload_n 0, 1) := by decide +kernel
theorem dX9_findSoonest_11 : decode cX9_findSoonest 11 = .ok (.getfield 28, 3) := by decide +kernel
theorem dX9_findSoonest_14 : decode cX9_findSoonest 14 = .ok (.aload_n 0, 1) := by decide +kernel
theorem dX9_findSoonest_15 : decode cX9_findSoonest 15 = .ok (.getfield 24, 3) := by decide +kernel
theorem dX9_findSoonest_18 : decode cX9_findSoonest 18 = .ok (.invokevirtual 175, 3) := by decide +kernel
theorem dX9_findSoonest_21 : decode cX9_findSoonest 21 = .ok (.aload_n 0, 1) := by decide +kernel
theorem dX9_findSoonest_22 : decode cX9_findSoonest 22 = .ok (.iconst 0, 1) := by decide +kernel
theorem dX9_findSoonest_23 : decode cX9_findSoonest 23 = .ok (.iload_n 1, 1) := by decide +kernel
theorem dX9_findSoonest_24 : decode cX9_findSoonest 24 = .ok (.invokevirtual 232, 3) := by decide +kernel
theorem dX9_findSoonest_27 : decode cX9_findSoonest 27 = .ok (.istore_n 2, 1) := by decide +kernel
theorem dX9_findSoonest_28 : decode cX9_findSoonest 28 = .ok (.iconst 1, 1) := by decide +kernel
theorem dX9_findSoonest_29 : decode cX9_findSoonest 29 = .ok (.istore_n 3, 1) := by decide +kernel
theorem dX9_findSoonest_30 : decode cX9_findSoonest 30 = .ok (.iload_n 3, 1) := by decide +kernel
theorem dX9_findSoonest_31 : decode cX9_findSoonest 31 = .ok (.iload_n 1, 1) := by decide +kernel
theorem dX9_findSoonest_32 : decode cX9_findSoonest 32 = .ok (.if_icmp .gt 28, 3) := by decide +kernel
theorem dX9_findSoonest_35 : decode cX9_findSoonest 35 = .ok (.iload_n 2, 1) := by decide +kernel
theorem dX9_findSoonest_36 : decode cX9_findSoonest 36 = .ok (.ifCond .le 24, 3) := by decide +kernel
theorem dX9_findSoonest_39 : decode cX9_findSoonest 39 = .ok (.aload_n 0, 1) := by decide +kernel
theorem dX9_findSoonest_40 : decode cX9_findSoonest 40 = .ok (.getfield 28, 3) := by decide +kernel
theorem dX9_findSoonest_43 : decode cX9_findSoonest 43 = .ok (.iconst 0, 1) := by decide +kernel
theorem dX9_findSoonest_44 : decode cX9_findSoonest 44 = .ok (.invokevirtual 165, 3) := by decide +kernel
theorem dX9_findSoonest_47 : decode cX9_findSoonest 47 = .ok (.aload_n 0, 1) := by decide +kernel
theorem dX9_findSoonest_48 : decode cX9_findSoonest 48 = .ok (.iload_n 3, 1) := by decide +kernel
theorem dX9_findSoonest_49 : decode cX9_findSoonest 49 = .ok (.iload_n 1, 1) := by decide +kernel
theorem dX9_findSoonest_50 : decode cX9_findSoonest 50 = .ok (.invokevirtual 232, 3) := by decide +kernel
theorem dX9_findSoonest_53 : decode cX9_findSoonest 53 = .ok (.istore_n 2, 1) := by decide +kernel
theorem dX9_findSoonest_54 : decode cX9_findSoonest 54 = .ok (.iinc 3 1, 3) := by decide +kernel
theorem dX9_findSoonest_57 : decode cX9_findSoonest 57 = .ok (.goto (-27), 3) := by decide +kernel
theorem dX9_findSoonest_60 : decode cX9_findSoonest 60 = .ok (.return_, 1) := by decide +kernel
theorem dX9_noteLoose_0 : decode cX9_noteLoose 0 = .ok (.iconst 0, 1) := by decide +kernel
theorem dX9_noteLoose_1 : decode cX9_noteLoose 1 = .ok (.istore_n 3, 1) := by decide +kernel
theorem dX9_noteLoose_2 : decode cX9_noteLoose 2 = .ok (.iconst 0, 1) := by decide +kernel
theorem dX9_noteLoose_3 : decode cX9_noteLoose 3 = .ok (.istore 4, 2) := by decide +kernel
theorem dX9_noteLoose_5 : decode cX9_noteLoose 5 = .ok (.iload 4, 2) := by decide +kernel
theorem dX9_noteLoose_7 : decode cX9_noteLoose 7 = .ok (.aload_n 0, 1) := by decide +kernel
theorem dX9_noteLoose_8 : decode cX9_noteLoose 8 = .ok (.getfield 24, 3) := by decide +kernel
theorem dX9_noteLoose_11 : decode cX9_noteLoose 11 = .ok (.getfield 75, 3) := by decide +kernel
theorem dX9_noteLoose_14 : decode cX9_noteLoose 14 = .ok (.getfield 97, 3) := by decide +kernel
theorem dX9_noteLoose_17 : decode cX9_noteLoose 17 = .ok (.if_icmp .ge 50, 3) := by decide +kernel
theorem dX9_noteLoose_20 : decode cX9_noteLoose 20 = .ok (.aload_n 0, 1) := by decide +kernel
theorem dX9_noteLoose_21 : decode cX9_noteLoose 21 = .ok (.getfield 35, 3) := by decide +kernel
theorem dX9_noteLoose_24 : decode cX9_noteLoose 24 = .ok (.iload 4, 2) := by decide +kernel
theorem dX9_noteLoose_26 : decode cX9_noteLoose 26 = .ok (.iaload, 1) := by decide +kernel
theorem dX9_noteLoose_27 : decode cX9_noteLoose 27 = .ok (.iload_n 2, 1) := by decide +kernel
theorem dX9_noteLoose_28 : decode cX9_noteLoose 28 = .ok (.if_icmp .le 33, 3) := by decide +kernel
theorem dX9_noteLoose_31 : decode cX9_noteLoose 31 = .ok (.aload_n 0, 1) := by decide +kernel
theorem dX9_noteLoose_32 : decode cX9_noteLoose 32 = .ok (.getfield 28, 3) := by decide +kernel
theorem dX9_noteLoose_35 : decode cX9_noteLoose 35 = .ok (.getfield 100, 3) := by decide +kernel
theorem dX9_noteLoose_38 : decode cX9_noteLoose 38 = .ok (.iload 4, 2) := by decide +kernel
theorem dX9_noteLoose_40 : decode cX9_noteLoose 40 = .ok (.aaload, 1) := by decide +kernel
theorem dX9_noteLoose_41 : decode cX9_noteLoose 41 = .ok (.invokevirtual 179, 3) := by decide +kernel
theorem dX9_noteLoose_44 : decode cX9_noteLoose 44 = .ok (.ifCond .eq 14, 3) := by decide +kernel
theorem dX9_noteLoose_47 : decode cX9_noteLoose 47 = .ok (.aload_n 0, 1) := by decide +kernel
theorem dX9_noteLoose_48 : decode cX9_noteLoose 48 = .ok (.getfield 35, 3) := by decide +kernel
theorem dX9_noteLoose_51 : decode cX9_noteLoose 51 = .ok (.iload 4, 2) := by decide +kernel
theorem dX9_noteLoose_53 : decode cX9_noteLoose 53 = .ok (.iload_n 1, 1) := by decide +kernel
theorem dX9_noteLoose_54 : decode cX9_noteLoose 54 = .ok (.iastore, 1) := by decide +kernel
theorem dX9_noteLoose_55 : decode cX9_noteLoose 55 = .ok (.goto 6, 3) := by decide +kernel
theorem dX9_noteLoose_58 : decode cX9_noteLoose 58 = .ok (.iinc 3 1, 3) := by decide +kernel
theorem dX9_noteLoose_61 : decode cX9_noteLoose 61 = .ok (.iinc 4 1, 3) := by decide +kernel
theorem dX9_noteLoose_64 : decode cX9_noteLoose 64 = .ok (.goto (-59), 3) := by decide +kernel
theorem dX9_noteLoose_67 : decode cX9_noteLoose 67 = .ok (.iload_n 3, 1) := by decide +kernel
theorem dX9_noteLoose_68 : decode cX9_noteLoose 68 = .ok (.ireturn, 1) := by decide +kernel
theorem dX9_orderDoors_0 : decode cX9_orderDoors 0 = .ok (.aload_n 0, 1) := by decide +kernel
theorem dX9_orderDoors_1 : decode cX9_orderDoors 1 = .ok (.iload_n 1, 1) := by decide +kernel
theorem dX9_orderDoors_2 : decode cX9_orderDoors 2 = .ok (.invokevirtual 235, 3) := by decide +kernel
theorem dX9_orderDoors_5 : decode cX9_orderDoors 5 = .ok (.iconst 0, 1) := by decide +kernel
theorem dX9_orderDoors_6 : decode cX9_orderDoors 6 = .ok (.istore_n 2, 1) := by decide +kernel
theorem dX9_orderDoors_7 : decode cX9_orderDoors 7 = .ok (.iload_n 2, 1) := by decide +kernel
theorem dX9_orderDoors_8 : decode cX9_orderDoors 8 = .ok (.aload_n 0, 1) := by decide +kernel
theorem dX9_orderDoors_9 : decode cX9_orderDoors 9 = .ok (.getfield 24, 3) := by decide +kernel
theorem dX9_orderDoors_12 : decode cX9_orderDoors 12 = .ok (.getfield 75, 3) := by decide +kernel
theorem dX9_orderDoors_15 : decode cX9_orderDoors 15 = .ok (.getfield 97, 3) := by decide +kernel
theorem dX9_orderDoors_18 : decode cX9_orderDoors 18 = .ok (.if_icmp .ge 64, 3) := by decide +kernel
theorem dX9_orderDoors_21 : decode cX9_orderDoors 21 = .ok (.iload_n 2, 1) := by decide +kernel
theorem dX9_orderDoors_22 : decode cX9_orderDoors 22 = .ok (.istore_n 3, 1) := by decide +kernel
theorem dX9_orderDoors_23 : decode cX9_orderDoors 23 = .ok (.iload_n 3, 1) := by decide +kernel
theorem dX9_orderDoors_24 : decode cX9_orderDoors 24 = .ok (.ifCond .le 45, 3) := by decide +kernel
theorem dX9_orderDoors_27 : decode cX9_orderDoors 27 = .ok (.aload_n 0, 1) := by decide +kernel
theorem dX9_orderDoors_28 : decode cX9_orderDoors 28 = .ok (.getfield 35, 3) := by decide +kernel
theorem dX9_orderDoors_31 : decode cX9_orderDoors 31 = .ok (.aload_n 0, 1) := by decide +kernel
theorem dX9_orderDoors_32 : decode cX9_orderDoors 32 = .ok (.getfield 39, 3) := by decide +kernel
theorem dX9_orderDoors_35 : decode cX9_orderDoors 35 = .ok (.iload_n 3, 1) := by decide +kernel
theorem dX9_orderDoors_36 : decode cX9_orderDoors 36 = .ok (.iconst 1, 1) := by decide +kernel
theorem dX9_orderDoors_37 : decode cX9_orderDoors 37 = .ok (.isub, 1) := by decide +kernel
theorem dX9_orderDoors_38 : decode cX9_orderDoors 38 = .ok (.iaload, 1) := by decide +kernel
theorem dX9_orderDoors_39 : decode cX9_orderDoors 39 = .ok (.iaload, 1) := by decide +kernel
theorem dX9_orderDoors_40 : decode cX9_orderDoors 40 = .ok (.aload_n 0, 1) := by decide +kernel
theorem dX9_orderDoors_41 : decode cX9_orderDoors 41 = .ok (.getfield 35, 3) := by decide +kernel
theorem dX9_orderDoors_44 : decode cX9_orderDoors 44 = .ok (.iload_n 2, 1) := by decide +kernel
theorem dX9_orderDoors_45 : decode cX9_orderDoors 45 = .ok (.iaload, 1) := by decide +kernel
theorem dX9_orderDoors_46 : decode cX9_orderDoors 46 = .ok (.if_icmp .le 23, 3) := by decide +kernel
theorem dX9_orderDoors_49 : decode cX9_orderDoors 49 = .ok (.aload_n 0, 1) := by decide +kernel
theorem dX9_orderDoors_50 : decode cX9_orderDoors 50 = .ok (.getfield 39, 3) := by decide +kernel
theorem dX9_orderDoors_53 : decode cX9_orderDoors 53 = .ok (.iload_n 3, 1) := by decide +kernel
theorem dX9_orderDoors_54 : decode cX9_orderDoors 54 = .ok (.aload_n 0, 1) := by decide +kernel
theorem dX9_orderDoors_55 : decode cX9_orderDoors 55 = .ok (.getfield 39, 3) := by decide +kernel
theorem dX9_orderDoors_58 : decode cX9_orderDoors 58 = .ok (.iload_n 3, 1) := by decide +kernel
theorem dX9_orderDoors_59 : decode cX9_orderDoors 59 = .ok (.iconst 1, 1) := by decide +kernel
theorem dX9_orderDoors_60 : decode cX9_orderDoors 60 = .ok (.isub, 1) := by decide +kernel
theorem dX9_orderDoors_61 : decode cX9_orderDoors 61 = .ok (.iaload, 1) := by decide +kernel
theorem dX9_orderDoors_62 : decode cX9_orderDoors 62 = .ok (.iastore, 1) := by decide +kernel
theorem dX9_orderDoors_63 : decode cX9_orderDoors 63 = .ok (.iinc 3 (-1), 3) := by decide +kernel
theorem dX9_orderDoors_66 : decode cX9_orderDoors 66 = .ok (.goto (-43), 3) := by decide +kernel
theorem dX9_orderDoors_69 : decode cX9_orderDoors 69 = .ok (.aload_n 0, 1) := by decide +kernel
theorem dX9_orderDoors_70 : decode cX9_orderDoors 70 = .ok (.getfield 39, 3) := by decide +kernel
theorem dX9_orderDoors_73 : decode cX9_orderDoors 73 = .ok (.iload_n 3, 1) := by decide +kernel
theorem dX9_orderDoors_74 : decode cX9_orderDoors 74 = .ok (.iload_n 2, 1) := by decide +kernel
theorem dX9_orderDoors_75 : decode cX9_orderDoors 75 = .ok (.iastore, 1) := by decide +kernel
theorem dX9_orderDoors_76 : decode cX9_orderDoors 76 = .ok (.iinc 2 1, 3) := by decide +kernel
theorem dX9_orderDoors_79 : decode cX9_orderDoors 79 = .ok (.goto (-72), 3) := by decide +kernel
theorem dX9_orderDoors_82 : decode cX9_orderDoors 82 = .ok (.return_, 1) := by decide +kernel
theorem dX9_foresee_0 : decode cX9_foresee 0 = .ok (.aload_n 0, 1) := by decide +kernel
theorem dX9_foresee_1 : decode cX9_foresee 1 = .ok (.getfield 28, 3) := by decide +kernel
theorem dX9_foresee_4 : decode cX9_foresee 4 = .ok (.aload_n 0, 1) := by decide +kernel
theorem dX9_foresee_5 : decode cX9_foresee 5 = .ok (.getfield 24, 3) := by decide +kernel
theorem dX9_foresee_8 : decode cX9_foresee 8 = .ok (.invokevirtual 175, 3) := by decide +kernel
theorem dX9_foresee_11 : decode cX9_foresee 11 = .ok (.aload_n 0, 1) := by decide +kernel
theorem dX9_foresee_12 : decode cX9_foresee 12 = .ok (.getfield 28, 3) := by decide +kernel
theorem dX9_foresee_15 : decode cX9_foresee 15 = .ok (.iload_n 1, 1) := by decide +kernel
theorem dX9_foresee_16 : decode cX9_foresee 16 = .ok (.putfield 238, 3) := by decide +kernel
theorem dX9_foresee_19 : decode cX9_foresee 19 = .ok (.iconst 0, 1) := by decide +kernel
theorem dX9_foresee_20 : decode cX9_foresee 20 = .ok (.istore_n 3, 1) := by decide +kernel
theorem dX9_foresee_21 : decode cX9_foresee 21 = .ok (.iload_n 3, 1) := by decide +kernel
theorem dX9_foresee_22 : decode cX9_foresee 22 = .ok (.iload_n 2, 1) := by decide +kernel
theorem dX9_foresee_23 : decode cX9_foresee 23 = .ok (.if_icmp .ge 46, 3) := by decide +kernel
theorem dX9_foresee_26 : decode cX9_foresee 26 = .ok (.aload_n 0, 1) := by decide +kernel
theorem dX9_foresee_27 : decode cX9_foresee 27 = .ok (.getfield 42, 3) := by decide +kernel
theorem dX9_foresee_30 : decode cX9_foresee 30 = .ok (.iload_n 3, 1) := by decide +kernel
theorem dX9_foresee_31 : decode cX9_foresee 31 = .ok (.aload_n 0, 1) := by decide +kernel
theorem dX9_foresee_32 : decode cX9_foresee 32 = .ok (.getfield 28, 3) := by decide +kernel
theorem dX9_foresee_35 : decode cX9_foresee 35 = .ok (.iconst 0, 1) := by decide +kernel
theorem dX9_foresee_36 : decode cX9_foresee 36 = .ok (.iconst 0, 1) := by decide +kernel
theorem dX9_foresee_37 : decode cX9_foresee 37 = .ok (.invokevirtual 148, 3) := by decide +kernel
theorem dX9_foresee_40 : decode cX9_foresee 40 = .ok (.iastore, 1) := by decide +kernel
theorem dX9_foresee_41 : decode cX9_foresee 41 = .ok (.aload_n 0, 1) := by decide +kernel
theorem dX9_foresee_42 : decode cX9_foresee 42 = .ok (.getfield 45, 3) := by decide +kernel
theorem dX9_foresee_45 : decode cX9_foresee 45 = .ok (.iload_n 3, 1) := by decide +kernel
theorem dX9_foresee_46 : decode cX9_foresee 46 = .ok (.aload_n 0, 1) := by decide +kernel
theorem dX9_foresee_47 : decode cX9_foresee 47 = .ok (.getfield 28, 3) := by decide +kernel
theorem dX9_foresee_50 : decode cX9_foresee 50 = .ok (.iload_n 1, 1) := by decide +kernel
theorem dX9_foresee_51 : decode cX9_foresee 51 = .ok (.invokevirtual 241, 3) := by decide +kernel
theorem dX9_foresee_54 : decode cX9_foresee 54 = .ok (.iastore, 1) := by decide +kernel
theorem dX9_foresee_55 : decode cX9_foresee 55 = .ok (.aload_n 0, 1) := by decide +kernel
theorem dX9_foresee_56 : decode cX9_foresee 56 = .ok (.getfield 28, 3) := by decide +kernel
theorem dX9_foresee_59 : decode cX9_foresee 59 = .ok (.iconst 0, 1) := by decide +kernel
theorem dX9_foresee_60 : decode cX9_foresee 60 = .ok (.invokevirtual 165, 3) := by decide +kernel
theorem dX9_foresee_63 : decode cX9_foresee 63 = .ok (.iinc 3 1, 3) := by decide +kernel
theorem dX9_foresee_66 : decode cX9_foresee 66 = .ok (.goto (-45), 3) := by decide +kernel
theorem dX9_foresee_69 : decode cX9_foresee 69 = .ok (.return_, 1) := by decide +kernel
theorem dX9_isFirmWith_0 : decode cX9_isFirmWith 0 = .ok (.aload_n 0, 1) := by decide +kernel
theorem dX9_isFirmWith_1 : decode cX9_isFirmWith 1 = .ok (.getfield 24, 3) := by decide +kernel
theorem dX9_isFirmWith_4 : decode cX9_isFirmWith 4 = .ok (.getfield 100, 3) := by decide +kernel
theorem dX9_isFirmWith_7 : decode cX9_isFirmWith 7 = .ok (.iload_n 2, 1) := by decide +kernel
theorem dX9_isFirmWith_8 : decode cX9_isFirmWith 8 = .ok (.aaload, 1) := by decide +kernel
theorem dX9_isFirmWith_9 : decode cX9_isFirmWith 9 = .ok (.astore 4, 2) := by decide +kernel
theorem dX9_isFirmWith_11 : decode cX9_isFirmWith 11 = .ok (.aload 4, 2) := by decide +kernel
theorem dX9_isFirmWith_13 : decode cX9_isFirmWith 13 = .ok (.invokevirtual 186, 3) := by decide +kernel
theorem dX9_isFirmWith_16 : decode cX9_isFirmWith 16 = .ok (.iload_n 1, 1) := by decide +kernel
theorem dX9_isFirmWith_17 : decode cX9_isFirmWith 17 = .ok (.iadd, 1) := by decide +kernel
theorem dX9_isFirmWith_18 : decode cX9_isFirmWith 18 = .ok (.istore 5, 2) := by decide +kernel
theorem dX9_isFirmWith_20 : decode cX9_isFirmWith 20 = .ok (.aload 4, 2) := by decide +kernel
theorem dX9_isFirmWith_22 : decode cX9_isFirmWith 22 = .ok (.getfield 104, 3) := by decide +kernel
theorem dX9_isFirmWith_25 : decode cX9_isFirmWith 25 = .ok (.istore 6, 2) := by decide +kernel
theorem dX9_isFirmWith_27 : decode cX9_isFirmWith 27 = .ok (.aload_n 0, 1) := by decide +kernel
theorem dX9_isFirmWith_28 : decode cX9_isFirmWith 28 = .ok (.getfield 24, 3) := by decide +kernel
theorem dX9_isFirmWith_31 : decode cX9_isFirmWith 31 = .ok (.iload_n 2, 1) := by decide +kernel
theorem dX9_isFirmWith_32 : decode cX9_isFirmWith 32 = .ok (.invokevirtual 244, 3) := by decide +kernel
theorem dX9_isFirmWith_35 : decode cX9_isFirmWith 35 = .ok (.istore 7, 2) := by decide +kernel
theorem dX9_isFirmWith_37 : decode cX9_isFirmWith 37 = .ok (.iconst 0, 1) := by decide +kernel
theorem dX9_isFirmWith_38 : decode cX9_isFirmWith 38 = .ok (.istore 8, 2) := by decide +kernel
theorem dX9_isFirmWith_40 : decode cX9_isFirmWith 40 = .ok (.iload 8, 2) := by decide +kernel
theorem dX9_isFirmWith_42 : decode cX9_isFirmWith 42 = .ok (.iload_n 3, 1) := by decide +kernel
theorem dX9_isFirmWith_43 : decode cX9_isFirmWith 43 = .ok (.if_icmp .ge 62, 3) := by decide +kernel
theorem dX9_isFirmWith_46 : decode cX9_isFirmWith 46 = .ok (.aload_n 0, 1) := by decide +kernel
theorem dX9_isFirmWith_47 : decode cX9_isFirmWith 47 = .ok (.getfield 28, 3) := by decide +kernel
theorem dX9_isFirmWith_50 : decode cX9_isFirmWith 50 = .ok (.aload_n 0, 1) := by decide +kernel
theorem dX9_isFirmWith_51 : decode cX9_isFirmWith 51 = .ok (.getfield 42, 3) := by decide +kernel
theorem dX9_isFirmWith_54 : decode cX9_isFirmWith 54 = .ok (.iload 8, 2) := by decide +kernel
theorem dX9_isFirmWith_56 : decode cX9_isFirmWith 56 = .ok (.iaload, 1) := by decide +kernel
theorem dX9_isFirmWith_57 : decode cX9_isFirmWith 57 = .ok (.iload 7, 2) := by decide +kernel
theorem dX9_isFirmWith_59 : decode cX9_isFirmWith 59 = .ok (.aload_n 0, 1) := by decide +kernel
theorem dX9_isFirmWith_60 : decode cX9_isFirmWith 60 = .ok (.getfield 45, 3) := by decide +kernel
theorem dX9_isFirmWith_63 : decode cX9_isFirmWith 63 = .ok (.iload 8, 2) := by decide +kernel
theorem dX9_isFirmWith_65 : decode cX9_isFirmWith 65 = .ok (.iaload, 1) := by decide +kernel
theorem dX9_isFirmWith_66 : decode cX9_isFirmWith 66 = .ok (.invokevirtual 247, 3) := by decide +kernel
theorem dX9_isFirmWith_69 : decode cX9_isFirmWith 69 = .ok (.aload_n 0, 1) := by decide +kernel
theorem dX9_isFirmWith_70 : decode cX9_isFirmWith 70 = .ok (.getfield 28, 3) := by decide +kernel
theorem dX9_isFirmWith_73 : decode cX9_isFirmWith 73 = .ok (.aload 4, 2) := by decide +kernel
theorem dX9_isFirmWith_75 : decode cX9_isFirmWith 75 = .ok (.iload 8, 2) := by decide +kernel
theorem dX9_isFirmWith_77 : decode cX9_isFirmWith 77 = .ok (.invokevirtual 251, 3) := by decide +kernel
theorem dX9_isFirmWith_80 : decode cX9_isFirmWith 80 = .ok (.iload 6, 2) := by decide +kernel
theorem dX9_isFirmWith_82 : decode cX9_isFirmWith 82 = .ok (.iload 5, 2) := by decide +kernel
theorem dX9_isFirmWith_84 : decode cX9_isFirmWith 84 = .ok (.iload 6, 2) := by decide +kernel
theorem dX9_isFirmWith_86 : decode cX9_isFirmWith 86 = .ok (.isub, 1) := by decide +kernel
theorem dX9_isFirmWith_87 : decode cX9_isFirmWith 87 = .ok (.invokevirtual 254, 3) := by decide +kernel
theorem dX9_isFirmWith_90 : decode cX9_isFirmWith 90 = .ok (.istore 6, 2) := by decide +kernel
theorem dX9_isFirmWith_92 : decode cX9_isFirmWith 92 = .ok (.iload 6, 2) := by decide +kernel
theorem dX9_isFirmWith_94 : decode cX9_isFirmWith 94 = .ok (.ifCond .ne 5, 3) := by decide +kernel
theorem dX9_isFirmWith_97 : decode cX9_isFirmWith 97 = .ok (.iconst 0, 1) := by decide +kernel
theorem dX9_isFirmWith_98 : decode cX9_isFirmWith 98 = .ok (.ireturn, 1) := by decide +kernel
theorem dX9_isFirmWith_99 : decode cX9_isFirmWith 99 = .ok (.iinc 8 1, 3) := by decide +kernel
theorem dX9_isFirmWith_102 : decode cX9_isFirmWith 102 = .ok (.goto (-62), 3) := by decide +kernel
theorem dX9_isFirmWith_105 : decode cX9_isFirmWith 105 = .ok (.iconst 1, 1) := by decide +kernel
theorem dX9_isFirmWith_106 : decode cX9_isFirmWith 106 = .ok (.ireturn, 1) := by decide +kernel
theorem dX9_doorWeight_0 : decode cX9_doorWeight 0 = .ok (.aload_n 0, 1) := by decide +kernel
theorem dX9_doorWeight_1 : decode cX9_doorWeight 1 = .ok (.getfield 24, 3) := by decide +kernel
theorem dX9_doorWeight_4 : decode cX9_doorWeight 4 = .ok (.getfield 100, 3) := by decide +kernel
theorem dX9_doorWeight_7 : decode cX9_doorWeight 7 = .ok (.iload_n 1, 1) := by decide +kernel
theorem dX9_doorWeight_8 : decode cX9_doorWeight 8 = .ok (.aaload, 1) := by decide +kernel
theorem dX9_doorWeight_9 : decode cX9_doorWeight 9 = .ok (.getfield 104, 3) := by decide +kernel
theorem dX9_doorWeight_12 : decode cX9_doorWeight 12 = .ok (.iconst 5, 1) := by decide +kernel
theorem dX9_doorWeight_13 : decode cX9_doorWeight 13 = .ok (.iadd, 1) := by decide +kernel
theorem dX9_doorWeight_14 : decode cX9_doorWeight 14 = .ok (.iconst 1, 1) := by decide +kernel
theorem dX9_doorWeight_15 : decode cX9_doorWeight 15 = .ok (.isub, 1) := by decide +kernel
theorem dX9_doorWeight_16 : decode cX9_doorWeight 16 = .ok (.iconst 5, 1) := by decide +kernel
theorem dX9_doorWeight_17 : decode cX9_doorWeight 17 = .ok (.idiv, 1) := by decide +kernel
theorem dX9_doorWeight_18 : decode cX9_doorWeight 18 = .ok (.bipush 100, 2) := by decide +kernel
theorem dX9_doorWeight_20 : decode cX9_doorWeight 20 = .ok (.imul, 1) := by decide +kernel
theorem dX9_doorWeight_21 : decode cX9_doorWeight 21 = .ok (.iconst 1, 1) := by decide +kernel
theorem dX9_doorWeight_22 : decode cX9_doorWeight 22 = .ok (.iadd, 1) := by decide +kernel
theorem dX9_doorWeight_23 : decode cX9_doorWeight 23 = .ok (.ireturn, 1) := by decide +kernel
theorem dX9_weightOf_0 : decode cX9_weightOf 0 = .ok (.iload_n 1, 1) := by decide +kernel
theorem dX9_weightOf_1 : decode cX9_weightOf 1 = .ok (.iconst (-1), 1) := by decide +kernel
theorem dX9_weightOf_2 : decode cX9_weightOf 2 = .ok (.if_icmp .ne 7, 3) := by decide +kernel
theorem dX9_weightOf_5 : decode cX9_weightOf 5 = .ok (.iconst 0, 1) := by decide +kernel
theorem dX9_weightOf_6 : decode cX9_weightOf 6 = .ok (.goto 9, 3) := by decide +kernel
theorem dX9_weightOf_9 : decode cX9_weightOf 9 = .ok (.aload_n 0, 1) := by decide +kernel
theorem dX9_weightOf_10 : decode cX9_weightOf 10 = .ok (.getfield 48, 3) := by decide +kernel
theorem dX9_weightOf_13 : decode cX9_weightOf 13 = .ok (.iload_n 1, 1) := by decide +kernel
theorem dX9_weightOf_14 : decode cX9_weightOf 14 = .ok (.iaload, 1) := by decide +kernel
theorem dX9_weightOf_15 : decode cX9_weightOf 15 = .ok (.ireturn, 1) := by decide +kernel
theorem dX9_weighWays_0 : decode cX9_weighWays 0 = .ok (.aload_n 0, 1) := by decide +kernel
theorem dX9_weighWays_1 : decode cX9_weighWays 1 = .ok (.getfield 48, 3) := by decide +kernel
theorem dX9_weighWays_4 : decode cX9_weighWays 4 = .ok (.iconst (-1), 1) := by decide +kernel
theorem dX9_weighWays_5 : decode cX9_weighWays 5 = .ok (.invokestatic 226, 3) := by decide +kernel
theorem dX9_weighWays_8 : decode cX9_weighWays 8 = .ok (.iconst 0, 1) := by decide +kernel
theorem dX9_weighWays_9 : decode cX9_weighWays 9 = .ok (.istore_n 1, 1) := by decide +kernel
theorem dX9_weighWays_10 : decode cX9_weighWays 10 = .ok (.iload_n 1, 1) := by decide +kernel
theorem dX9_weighWays_11 : decode cX9_weighWays 11 = .ok (.aload_n 0, 1) := by decide +kernel
theorem dX9_weighWays_12 : decode cX9_weighWays 12 = .ok (.getfield 24, 3) := by decide +kernel
theorem dX9_weighWays_15 : decode cX9_weighWays 15 = .ok (.getfield 75, 3) := by decide +kernel
theorem dX9_weighWays_18 : decode cX9_weighWays 18 = .ok (.getfield 76, 3) := by decide +kernel
theorem dX9_weighWays_21 : decode cX9_weighWays 21 = .ok (.if_icmp .ge 89, 3) := by decide +kernel
theorem dX9_weighWays_24 : decode cX9_weighWays 24 = .ok (.iconst 0, 1) := by decide +kernel
theorem dX9_weighWays_25 : decode cX9_weighWays 25 = .ok (.istore_n 2, 1) := by decide +kernel
theorem dX9_weighWays_26 : decode cX9_weighWays 26 = .ok (.iload_n 2, 1) := by decide +kernel
theorem dX9_weighWays_27 : decode cX9_weighWays 27 = .ok (.aload_n 0, 1) := by decide +kernel
theorem dX9_weighWays_28 : decode cX9_weighWays 28 = .ok (.getfield 24, 3) := by decide +kernel
theorem dX9_weighWays_31 : decode cX9_weighWays 31 = .ok (.getfield 75, 3) := by decide +kernel
theorem dX9_weighWays_34 : decode cX9_weighWays 34 = .ok (.getfield 97, 3) := by decide +kernel
theorem dX9_weighWays_37 : decode cX9_weighWays 37 = .ok (.if_icmp .ge 67, 3) := by decide +kernel
theorem dX9_weighWays_40 : decode cX9_weighWays 40 = .ok (.aload_n 0, 1) := by decide +kernel
theorem dX9_weighWays_41 : decode cX9_weighWays 41 = .ok (.iload_n 2, 1) := by decide +kernel
