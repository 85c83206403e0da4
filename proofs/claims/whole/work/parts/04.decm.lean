theorem dX10_init_0 : decode cX10_init 0 = .ok (.aload_n 0, 1) := by decide +kernel
theorem dX10_init_1 : decode cX10_init 1 = .ok (.invokespecial 1, 3) := by decide +kernel
theorem dX10_init_4 : decode cX10_init 4 = .ok (.aload_n 0, 1) := by decide +kernel
theorem dX10_init_5 : decode cX10_init 5 = .ok (.sipush 215, 3) := by decide +kernel
theorem dX10_init_8 : decode cX10_init 8 = .ok (.newarray .long, 2) := by decide +kernel
theorem dX10_init_10 : decode cX10_init 10 = .ok (.putfield 7, 3) := by decide +kernel
theorem dX10_init_13 : decode cX10_init 13 = .ok (.aload_n 0, 1) := by decide +kernel
theorem dX10_init_14 : decode cX10_init 14 = .ok (.sipush 215, 3) := by decide +kernel
theorem dX10_init_17 : decode cX10_init 17 = .ok (.newarray .long, 2) := by decide +kernel
theorem dX10_init_19 : decode cX10_init 19 = .ok (.putfield 13, 3) := by decide +kernel
theorem dX10_init_22 : decode cX10_init 22 = .ok (.aload_n 0, 1) := by decide +kernel
theorem dX10_init_23 : decode cX10_init 23 = .ok (.sipush 1720, 3) := by decide +kernel
theorem dX10_init_26 : decode cX10_init 26 = .ok (.newarray .long, 2) := by decide +kernel
theorem dX10_init_28 : decode cX10_init 28 = .ok (.putfield 16, 3) := by decide +kernel
theorem dX10_init_31 : decode cX10_init 31 = .ok (.aload_n 0, 1) := by decide +kernel
theorem dX10_init_32 : decode cX10_init 32 = .ok (.sipush 600, 3) := by decide +kernel
theorem dX10_init_35 : decode cX10_init 35 = .ok (.newarray .int, 2) := by decide +kernel
theorem dX10_init_37 : decode cX10_init 37 = .ok (.putfield 19, 3) := by decide +kernel
theorem dX10_init_40 : decode cX10_init 40 = .ok (.aload_n 0, 1) := by decide +kernel
theorem dX10_init_41 : decode cX10_init 41 = .ok (.iconst (-1), 1) := by decide +kernel
theorem dX10_init_42 : decode cX10_init 42 = .ok (.putfield 23, 3) := by decide +kernel
theorem dX10_init_45 : decode cX10_init 45 = .ok (.aload_n 0, 1) := by decide +kernel
theorem dX10_init_46 : decode cX10_init 46 = .ok (.invokevirtual 27, 3) := by decide +kernel
theorem dX10_init_49 : decode cX10_init 49 = .ok (.return_, 1) := by decide +kernel
theorem dX10_becomes_0 : decode cX10_becomes 0 = .ok (.iconst 0, 1) := by decide +kernel
theorem dX10_becomes_1 : decode cX10_becomes 1 = .ok (.istore_n 1, 1) := by decide +kernel
theorem dX10_becomes_2 : decode cX10_becomes 2 = .ok (.iload_n 1, 1) := by decide +kernel
theorem dX10_becomes_3 : decode cX10_becomes 3 = .ok (.sipush 215, 3) := by decide +kernel
theorem dX10_becomes_6 : decode cX10_becomes 6 = .ok (.if_icmp .ge 21, 3) := by decide +kernel
theorem dX10_becomes_9 : decode cX10_becomes 9 = .ok (.aload_n 0, 1) := by decide +kernel
theorem dX10_becomes_10 : decode cX10_becomes 10 = .ok (.getfield 7, 3) := by decide +kernel
theorem dX10_becomes_13 : decode cX10_becomes 13 = .ok (.iload_n 1, 1) := by decide +kernel
theorem dX10_becomes_14 : decode cX10_becomes 14 = .ok (.aload_n 0, 1) := by decide +kernel
theorem dX10_becomes_15 : decode cX10_becomes 15 = .ok (.getfield 13, 3) := by decide +kernel
theorem dX10_becomes_18 : decode cX10_becomes 18 = .ok (.iload_n 1, 1) := by decide +kernel
theorem dX10_becomes_19 : decode cX10_becomes 19 = .ok (.laload, 1) := by decide +kernel
theorem dX10_becomes_20 : decode cX10_becomes 20 = .ok (.lastore, 1) := by decide +kernel
theorem dX10_becomes_21 : decode cX10_becomes 21 = .ok (.iinc 1 1, 3) := by decide +kernel
theorem dX10_becomes_24 : decode cX10_becomes 24 = .ok (.goto (-22), 3) := by decide +kernel
theorem dX10_becomes_27 : decode cX10_becomes 27 = .ok (.return_, 1) := by decide +kernel
theorem dX10_thrown_0 : decode cX10_thrown 0 = .ok (.aload_n 0, 1) := by decide +kernel
theorem dX10_thrown_1 : decode cX10_thrown 1 = .ok (.getfield 30, 3) := by decide +kernel
theorem dX10_thrown_4 : decode cX10_thrown 4 = .ok (.ireturn, 1) := by decide +kernel
theorem dX10_isIn_0 : decode cX10_isIn 0 = .ok (.lload_n 0, 1) := by decide +kernel
theorem dX10_isIn_1 : decode cX10_isIn 1 = .ok (.lload_n 2, 1) := by decide +kernel
theorem dX10_isIn_2 : decode cX10_isIn 2 = .ok (.lcmp, 1) := by decide +kernel
theorem dX10_isIn_3 : decode cX10_isIn 3 = .ok (.ifCond .lt 14, 3) := by decide +kernel
theorem dX10_isIn_6 : decode cX10_isIn 6 = .ok (.lload_n 0, 1) := by decide +kernel
theorem dX10_isIn_7 : decode cX10_isIn 7 = .ok (.lload 4, 2) := by decide +kernel
theorem dX10_isIn_9 : decode cX10_isIn 9 = .ok (.lcmp, 1) := by decide +kernel
theorem dX10_isIn_10 : decode cX10_isIn 10 = .ok (.ifCond .gt 7, 3) := by decide +kernel
theorem dX10_isIn_13 : decode cX10_isIn 13 = .ok (.iconst 1, 1) := by decide +kernel
theorem dX10_isIn_14 : decode cX10_isIn 14 = .ok (.goto 4, 3) := by decide +kernel
theorem dX10_isIn_17 : decode cX10_isIn 17 = .ok (.iconst 0, 1) := by decide +kernel
theorem dX10_isIn_18 : decode cX10_isIn 18 = .ok (.ireturn, 1) := by decide +kernel
theorem dX10_keeps_0 : decode cX10_keeps 0 = .ok (.aload_n 0, 1) := by decide +kernel
theorem dX10_keeps_1 : decode cX10_keeps 1 = .ok (.getfield 33, 3) := by decide +kernel
theorem dX10_keeps_4 : decode cX10_keeps 4 = .ok (.bipush 8, 2) := by decide +kernel
theorem dX10_keeps_6 : decode cX10_keeps 6 = .ok (.if_icmp .ne 44, 3) := by decide +kernel
theorem dX10_keeps_9 : decode cX10_keeps 9 = .ok (.iconst 0, 1) := by decide +kernel
theorem dX10_keeps_10 : decode cX10_keeps 10 = .ok (.istore_n 1, 1) := by decide +kernel
theorem dX10_keeps_11 : decode cX10_keeps 11 = .ok (.iload_n 1, 1) := by decide +kernel
theorem dX10_keeps_12 : decode cX10_keeps 12 = .ok (.sipush 1505, 3) := by decide +kernel
theorem dX10_keeps_15 : decode cX10_keeps 15 = .ok (.if_icmp .ge 25, 3) := by decide +kernel
theorem dX10_keeps_18 : decode cX10_keeps 18 = .ok (.aload_n 0, 1) := by decide +kernel
theorem dX10_keeps_19 : decode cX10_keeps 19 = .ok (.getfield 16, 3) := by decide +kernel
theorem dX10_keeps_22 : decode cX10_keeps 22 = .ok (.iload_n 1, 1) := by decide +kernel
theorem dX10_keeps_23 : decode cX10_keeps 23 = .ok (.aload_n 0, 1) := by decide +kernel
theorem dX10_keeps_24 : decode cX10_keeps 24 = .ok (.getfield 16, 3) := by decide +kernel
theorem dX10_keeps_27 : decode cX10_keeps 27 = .ok (.iload_n 1, 1) := by decide +kernel
theorem dX10_keeps_28 : decode cX10_keeps 28 = .ok (.sipush 215, 3) := by decide +kernel
theorem dX10_keeps_31 : decode cX10_keeps 31 = .ok (.iadd, 1) := by decide +kernel
theorem dX10_keeps_32 : decode cX10_keeps 32 = .ok (.laload, 1) := by decide +kernel
theorem dX10_keeps_33 : decode cX10_keeps 33 = .ok (.lastore, 1) := by decide +kernel
theorem dX10_keeps_34 : decode cX10_keeps 34 = .ok (.iinc 1 1, 3) := by decide +kernel
theorem dX10_keeps_37 : decode cX10_keeps 37 = .ok (.goto (-26), 3) := by decide +kernel
theorem dX10_keeps_40 : decode cX10_keeps 40 = .ok (.aload_n 0, 1) := by decide +kernel
theorem dX10_keeps_41 : decode cX10_keeps 41 = .ok (.dup, 1) := by decide +kernel
theorem dX10_keeps_42 : decode cX10_keeps 42 = .ok (.getfield 33, 3) := by decide +kernel
theorem dX10_keeps_45 : decode cX10_keeps 45 = .ok (.iconst 1, 1) := by decide +kernel
theorem dX10_keeps_46 : decode cX10_keeps 46 = .ok (.isub, 1) := by decide +kernel
theorem dX10_keeps_47 : decode cX10_keeps 47 = .ok (.putfield 33, 3) := by decide +kernel
theorem dX10_keeps_50 : decode cX10_keeps 50 = .ok (.iconst 0, 1) := by decide +kernel
theorem dX10_keeps_51 : decode cX10_keeps 51 = .ok (.istore_n 1, 1) := by decide +kernel
theorem dX10_keeps_52 : decode cX10_keeps 52 = .ok (.iload_n 1, 1) := by decide +kernel
theorem dX10_keeps_53 : decode cX10_keeps 53 = .ok (.sipush 215, 3) := by decide +kernel
theorem dX10_keeps_56 : decode cX10_keeps 56 = .ok (.if_icmp .ge 30, 3) := by decide +kernel
theorem dX10_keeps_59 : decode cX10_keeps 59 = .ok (.aload_n 0, 1) := by decide +kernel
theorem dX10_keeps_60 : decode cX10_keeps 60 = .ok (.getfield 16, 3) := by decide +kernel
theorem dX10_keeps_63 : decode cX10_keeps 63 = .ok (.sipush 215, 3) := by decide +kernel
theorem dX10_keeps_66 : decode cX10_keeps 66 = .ok (.aload_n 0, 1) := by decide +kernel
theorem dX10_keeps_67 : decode cX10_keeps 67 = .ok (.getfield 33, 3) := by decide +kernel
theorem dX10_keeps_70 : decode cX10_keeps 70 = .ok (.imul, 1) := by decide +kernel
theorem dX10_keeps_71 : decode cX10_keeps 71 = .ok (.iload_n 1, 1) := by decide +kernel
theorem dX10_keeps_72 : decode cX10_keeps 72 = .ok (.iadd, 1) := by decide +kernel
theorem dX10_keeps_73 : decode cX10_keeps 73 = .ok (.aload_n 0, 1) := by decide +kernel
theorem dX10_keeps_74 : decode cX10_keeps 74 = .ok (.getfield 7, 3) := by decide +kernel
theorem dX10_keeps_77 : decode cX10_keeps 77 = .ok (.iload_n 1, 1) := by decide +kernel
theorem dX10_keeps_78 : decode cX10_keeps 78 = .ok (.laload, 1) := by decide +kernel
theorem dX10_keeps_79 : decode cX10_keeps 79 = .ok (.lastore, 1) := by decide +kernel
theorem dX10_keeps_80 : decode cX10_keeps 80 = .ok (.iinc 1 1, 3) := by decide +kernel
theorem dX10_keeps_83 : decode cX10_keeps 83 = .ok (.goto (-31), 3) := by decide +kernel
theorem dX10_keeps_86 : decode cX10_keeps 86 = .ok (.aload_n 0, 1) := by decide +kernel
theorem dX10_keeps_87 : decode cX10_keeps 87 = .ok (.dup, 1) := by decide +kernel
theorem dX10_keeps_88 : decode cX10_keeps 88 = .ok (.getfield 33, 3) := by decide +kernel
theorem dX10_keeps_91 : decode cX10_keeps 91 = .ok (.iconst 1, 1) := by decide +kernel
theorem dX10_keeps_92 : decode cX10_keeps 92 = .ok (.iadd, 1) := by decide +kernel
theorem dX10_keeps_93 : decode cX10_keeps 93 = .ok (.putfield 33, 3) := by decide +kernel
theorem dX10_keeps_96 : decode cX10_keeps 96 = .ok (.return_, 1) := by decide +kernel
theorem dX10_undo_0 : decode cX10_undo 0 = .ok (.aload_n 0, 1) := by decide +kernel
theorem dX10_undo_1 : decode cX10_undo 1 = .ok (.aload_n 0, 1) := by decide +kernel
theorem dX10_undo_2 : decode cX10_undo 2 = .ok (.getfield 33, 3) := by decide +kernel
theorem dX10_undo_5 : decode cX10_undo 5 = .ok (.ifCond .ne 7, 3) := by decide +kernel
theorem dX10_undo_8 : decode cX10_undo 8 = .ok (.iconst 1, 1) := by decide +kernel
theorem dX10_undo_9 : decode cX10_undo 9 = .ok (.goto 4, 3) := by decide +kernel
theorem dX10_undo_12 : decode cX10_undo 12 = .ok (.iconst 0, 1) := by decide +kernel
theorem dX10_undo_13 : decode cX10_undo 13 = .ok (.putfield 30, 3) := by decide +kernel
theorem dX10_undo_16 : decode cX10_undo 16 = .ok (.aload_n 0, 1) := by decide +kernel
theorem dX10_undo_17 : decode cX10_undo 17 = .ok (.getfield 30, 3) := by decide +kernel
theorem dX10_undo_20 : decode cX10_undo 20 = .ok (.ifCond .le 5, 3) := by decide +kernel
theorem dX10_undo_23 : decode cX10_undo 23 = .ok (.iconst 0, 1) := by decide +kernel
theorem dX10_undo_24 : decode cX10_undo 24 = .ok (.ireturn, 1) := by decide +kernel
theorem dX10_undo_25 : decode cX10_undo 25 = .ok (.aload_n 0, 1) := by decide +kernel
theorem dX10_undo_26 : decode cX10_undo 26 = .ok (.dup, 1) := by decide +kernel
theorem dX10_undo_27 : decode cX10_undo 27 = .ok (.getfield 33, 3) := by decide +kernel
theorem dX10_undo_30 : decode cX10_undo 30 = .ok (.iconst 1, 1) := by decide +kernel
theorem dX10_undo_31 : decode cX10_undo 31 = .ok (.isub, 1) := by decide +kernel
theorem dX10_undo_32 : decode cX10_undo 32 = .ok (.putfield 33, 3) := by decide +kernel
theorem dX10_undo_35 : decode cX10_undo 35 = .ok (.iconst 0, 1) := by decide +kernel
theorem dX10_undo_36 : decode cX10_undo 36 = .ok (.istore_n 1, 1) := by decide +kernel
theorem dX10_undo_37 : decode cX10_undo 37 = .ok (.iload_n 1, 1) := by decide +kernel
theorem dX10_undo_38 : decode cX10_undo 38 = .ok (.sipush 215, 3) := by decide +kernel
theorem dX10_undo_41 : decode cX10_undo 41 = .ok (.if_icmp .ge 30, 3) := by decide +kernel
theorem dX10_undo_44 : decode cX10_undo 44 = .ok (.aload_n 0, 1) := by decide +kernel
theorem dX10_undo_45 : decode cX10_undo 45 = .ok (.getfield 7, 3) := by decide +kernel
theorem dX10_undo_48 : decode cX10_undo 48 = .ok (.iload_n 1, 1) := by decide +kernel
theorem dX10_undo_49 : decode cX10_undo 49 = .ok (.aload_n 0, 1) := by decide +kernel
theorem dX10_undo_50 : decode cX10_undo 50 = .ok (.getfield 16, 3) := by decide +kernel
theorem dX10_undo_53 : decode cX10_undo 53 = .ok (.sipush 215, 3) := by decide +kernel
theorem dX10_undo_56 : decode cX10_undo 56 = .ok (.aload_n 0, 1) := by decide +kernel
theorem dX10_undo_57 : decode cX10_undo 57 = .ok (.getfield 33, 3) := by decide +kernel
theorem dX10_undo_60 : decode cX10_undo 60 = .ok (.imul, 1) := by decide +kernel
theorem dX10_undo_61 : decode cX10_undo 61 = .ok (.iload_n 1, 1) := by decide +kernel
theorem dX10_undo_62 : decode cX10_undo 62 = .ok (.iadd, 1) := by decide +kernel
theorem dX10_undo_63 : decode cX10_undo 63 = .ok (.laload, 1) := by decide +kernel
theorem dX10_undo_64 : decode cX10_undo 64 = .ok (.lastore, 1) := by decide +kernel
theorem dX10_undo_65 : decode cX10_undo 65 = .ok (.iinc 1 1, 3) := by decide +kernel
theorem dX10_undo_68 : decode cX10_undo 68 = .ok (.goto (-31), 3) := by decide +kernel
theorem dX10_undo_71 : decode cX10_undo 71 = .ok (.aload_n 0, 1) := by decide +kernel
theorem dX10_undo_72 : decode cX10_undo 72 = .ok (.getfield 33, 3) := by decide +kernel
theorem dX10_undo_75 : decode cX10_undo 75 = .ok (.ireturn, 1) := by decide +kernel
theorem dX10_feed_0 : decode cX10_feed 0 = .ok (.aload_n 0, 1) := by decide +kernel
theorem dX10_feed_1 : decode cX10_feed 1 = .ok (.aload_n 0, 1) := by decide +kernel
theorem dX10_feed_2 : decode cX10_feed 2 = .ok (.getfield 36, 3) := by decide +kernel
theorem dX10_feed_5 : decode cX10_feed 5 = .ok (.bipush 20, 2) := by decide +kernel
theorem dX10_feed_7 : decode cX10_feed 7 = .ok (.iadd, 1) := by decide +kernel
theorem dX10_feed_8 : decode cX10_feed 8 = .ok (.sipush 600, 3) := by decide +kernel
theorem dX10_feed_11 : decode cX10_feed 11 = .ok (.if_icmp .le 7, 3) := by decide +kernel
theorem dX10_feed_14 : decode cX10_feed 14 = .ok (.iconst 1, 1) := by decide +kernel
theorem dX10_feed_15 : decode cX10_feed 15 = .ok (.goto 4, 3) := by decide +kernel
theorem dX10_feed_18 : decode cX10_feed 18 = .ok (.iconst 0, 1) := by decide +kernel
theorem dX10_feed_19 : decode cX10_feed 19 = .ok (.putfield 30, 3) := by decide +kernel
theorem dX10_feed_22 : decode cX10_feed 22 = .ok (.aload_n 0, 1) := by decide +kernel
theorem dX10_feed_23 : decode cX10_feed 23 = .ok (.getfield 30, 3) := by decide +kernel
theorem dX10_feed_26 : decode cX10_feed 26 = .ok (.ifCond .le 5, 3) := by decide +kernel
theorem dX10_feed_29 : decode cX10_feed 29 = .ok (.iconst 0, 1) := by decide +kernel
theorem dX10_feed_30 : decode cX10_feed 30 = .ok (.ireturn, 1) := by decide +kernel
theorem dX10_feed_31 : decode cX10_feed 31 = .ok (.iconst 0, 1) := by decide +kernel
theorem dX10_feed_32 : decode cX10_feed 32 = .ok (.istore 6, 2) := by decide +kernel
theorem dX10_feed_34 : decode cX10_feed 34 = .ok (.iload 6, 2) := by decide +kernel
theorem dX10_feed_36 : decode cX10_feed 36 = .ok (.bipush 20, 2) := by decide +kernel
theorem dX10_feed_38 : decode cX10_feed 38 = .ok (.if_icmp .ge 93, 3) := by decide +kernel
theorem dX10_feed_41 : decode cX10_feed 41 = .ok (.iload 6, 2) := by decide +kernel
theorem dX10_feed_43 : decode cX10_feed 43 = .ok (.iconst 4, 1) := by decide +kernel
theorem dX10_feed_44 : decode cX10_feed 44 = .ok (.if_icmp .ge 7, 3) := by decide +kernel
theorem dX10_feed_47 : decode cX10_feed 47 = .ok (.iload_n 1, 1) := by decide +kernel
theorem dX10_feed_48 : decode cX10_feed 48 = .ok (.goto 39, 3) := by decide +kernel
theorem dX10_feed_51 : decode cX10_feed 51 = .ok (.iload 6, 2) := by decide +kernel
theorem dX10_feed_53 : decode cX10_feed 53 = .ok (.bipush 8, 2) := by decide +kernel
theorem dX10_feed_55 : decode cX10_feed 55 = .ok (.if_icmp .ge 7, 3) := by decide +kernel
theorem dX10_feed_58 : decode cX10_feed 58 = .ok (.iload_n 2, 1) := by decide +kernel
theorem dX10_feed_59 : decode cX10_feed 59 = .ok (.goto 28, 3) := by decide +kernel
theorem dX10_feed_62 : decode cX10_feed 62 = .ok (.iload 6, 2) := by decide +kernel
theorem dX10_feed_64 : decode cX10_feed 64 = .ok (.bipush 12, 2) := by decide +kernel
theorem dX10_feed_66 : decode cX10_feed 66 = .ok (.if_icmp .ge 7, 3) := by decide +kernel
theorem dX10_feed_69 : decode cX10_feed 69 = .ok (.iload_n 3, 1) := by decide +kernel
theorem dX10_feed_70 : decode cX10_feed 70 = .ok (.goto 17, 3) := by decide +kernel
theorem dX10_feed_73 : decode cX10_feed 73 = .ok (.iload 6, 2) := by decide +kernel
theorem dX10_feed_75 : decode cX10_feed 75 = .ok (.bipush 16, 2) := by decide +kernel
theorem dX10_feed_77 : decode cX10_feed 77 = .ok (.if_icmp .ge 8, 3) := by decide +kernel
theorem dX10_feed_80 : decode cX10_feed 80 = .ok (.iload 4, 2) := by decide +kernel
theorem dX10_feed_82 : decode cX10_feed 82 = .ok (.goto 5, 3) := by decide +kernel
theorem dX10_feed_85 : decode cX10_feed 85 = .ok (.iload 5, 2) := by decide +kernel
theorem dX10_feed_87 : decode cX10_feed 87 = .ok (.istore 7, 2) := by decide +kernel
theorem dX10_feed_89 : decode cX10_feed 89 = .ok (.aload_n 0, 1) := by decide +kernel
theorem dX10_feed_90 : decode cX10_feed 90 = .ok (.getfield 19, 3) := by decide +kernel
theorem dX10_feed_93 : decode cX10_feed 93 = .ok (.aload_n 0, 1) := by decide +kernel
theorem dX10_feed_94 : decode cX10_feed 94 = .ok (.getfield 36, 3) := by decide +kernel
theorem dX10_feed_97 : decode cX10_feed 97 = .ok (.iload 7, 2) := by decide +kernel
theorem dX10_feed_99 : decode cX10_feed 99 = .ok (.bipush 24, 2) := by decide +kernel
theorem dX10_feed_101 : decode cX10_feed 101 = .ok (.bipush 8, 2) := by decide +kernel
theorem dX10_feed_103 : decode cX10_feed 103 = .ok (.iload 6, 2) := by decide +kernel
theorem dX10_feed_105 : decode cX10_feed 105 = .ok (.iconst 4, 1) := by decide +kernel
theorem dX10_feed_106 : decode cX10_feed 106 = .ok (.irem, 1) := by decide +kernel
theorem dX10_feed_107 : decode cX10_feed 107 = .ok (.imul, 1) := by decide +kernel
theorem dX10_feed_108 : decode cX10_feed 108 = .ok (.isub, 1) := by decide +kernel
theorem dX10_feed_109 : decode cX10_feed 109 = .ok (.ishr, 1) := by decide +kernel
theorem dX10_feed_110 : decode cX10_feed 110 = .ok (.sipush 255, 3) := by decide +kernel
theorem dX10_feed_113 : decode cX10_feed 113 = .ok (.iand, 1) := by decide +kernel
theorem dX10_feed_114 : decode cX10_feed 114 = .ok (.iastore, 1) := by decide +kernel
theorem dX10_feed_115 : decode cX10_feed 115 = .ok (.aload_n 0, 1) := by decide +kernel
theorem dX10_feed_116 : decode cX10_feed 116 = .ok (.dup, 1) := by decide +kernel
theorem dX10_feed_117 : decode cX10_feed 117 = .ok (.getfield 36, 3) := by decide +kernel
theorem dX10_feed_120 : decode cX10_feed 120 = .ok (.iconst 1, 1) := by decide +kernel
theorem dX10_feed_121 : decode cX10_feed 121 = .ok (.iadd, 1) := by decide +kernel
theorem dX10_feed_122 : decode cX10_feed 122 = .ok (.putfield 36, 3) := by decide +kernel
theorem dX10_feed_125 : decode cX10_feed 125 = .ok (.iinc 6 1, 3) := by decide +kernel
theorem dX10_feed_128 : decode cX10_feed 128 = .ok (.goto (-94), 3) := by decide +kernel
theorem dX10_feed_131 : decode cX10_feed 131 = .ok (.aload_n 0, 1) := by decide +kernel
theorem dX10_feed_132 : decode cX10_feed 132 = .ok (.getfield 36, 3) := by decide +kernel
theorem dX10_feed_135 : decode cX10_feed 135 = .ok (.ireturn, 1) := by decide +kernel
theorem dX10_see_0 : decode cX10_see 0 = .ok (.iload_n 1, 1) := by decide +kernel
theorem dX10_see_1 : decode cX10_see 1 = .ok (.aload_n 0, 1) := by decide +kernel
theorem dX10_see_2 : decode cX10_see 2 = .ok (.getfield 39, 3) := by decide +kernel
theorem dX10_see_5 : decode cX10_see 5 = .ok (.if_icmp .ge 12, 3) := by decide +kernel
theorem dX10_see_8 : decode cX10_see 8 = .ok (.aload_n 0, 1) := by decide +kernel
theorem dX10_see_9 : decode cX10_see 9 = .ok (.getfield 19, 3) := by decide +kernel
theorem dX10_see_12 : decode cX10_see 12 = .ok (.iload_n 1, 1) := by decide +kernel
theorem dX10_see_13 : decode cX10_see 13 = .ok (.iaload, 1) := by decide +kernel
theorem dX10_see_14 : decode cX10_see 14 = .ok (.goto 4, 3) := by decide +kernel
theorem dX10_see_17 : decode cX10_see 17 = .ok (.iconst (-1), 1) := by decide +kernel
theorem dX10_see_18 : decode cX10_see 18 = .ok (.ireturn, 1) := by decide +kernel
theorem dX10_isLetter_0 : decode cX10_isLetter 0 = .ok (.iload_n 0, 1) := by decide +kernel
theorem dX10_isLetter_1 : decode cX10_isLetter 1 = .ok (.i2l, 1) := by decide +kernel
theorem dX10_isLetter_2 : decode cX10_isLetter 2 = .ok (.ldc2_w 42, 3) := by decide +kernel
theorem dX10_isLetter_5 : decode cX10_isLetter 5 = .ok (.ldc2_w 44, 3) := by decide +kernel
theorem dX10_isLetter_8 : decode cX10_isLetter 8 = .ok (.invokestatic 46, 3) := by decide +kernel
theorem dX10_isLetter_11 : decode cX10_isLetter 11 = .ok (.ireturn, 1) := by decide +kernel
theorem dX10_isDigit_0 : decode cX10_isDigit 0 = .ok (.iload_n 0, 1) := by decide +kernel
theorem dX10_isDigit_1 : decode cX10_isDigit 1 = .ok (.i2l, 1) := by decide +kernel
theorem dX10_isDigit_2 : decode cX10_isDigit 2 = .ok (.ldc2_w 50, 3) := by decide +kernel
theorem dX10_isDigit_5 : decode cX10_isDigit 5 = .ok (.ldc2_w 52, 3) := by decide +kernel
theorem dX10_isDigit_8 : decode cX10_isDigit 8 = .ok (.invokestatic 46, 3) := by decide +kernel
theorem dX10_isDigit_11 : decode cX10_isDigit 11 = .ok (.ireturn, 1) := by decide +kernel
theorem dX10_next_0 : decode cX10_next 0 = .ok (.aload_n 0, 1) := by decide +kernel
theorem dX10_next_1 : decode cX10_next 1 = .ok (.aload_n 0, 1) := by decide +kernel
theorem dX10_next_2 : decode cX10_next 2 = .ok (.getfield 54, 3) := by decide +kernel
theorem dX10_next_5 : decode cX10_next 5 = .ok (.putfield 57, 3) := by decide +kernel
theorem dX10_next_8 : decode cX10_next 8 = .ok (.aload_n 0, 1) := by decide +kernel
theorem dX10_next_9 : decode cX10_next 9 = .ok (.aload_n 0, 1) := by decide +kernel
theorem dX10_next_10 : decode cX10_next 10 = .ok (.getfield 57, 3) := by decide +kernel
theorem dX10_next_13 : decode cX10_next 13 = .ok (.invokevirtual 60, 3) := by decide +kernel
theorem dX10_next_16 : decode cX10_next 16 = .ok (.bipush 32, 2) := by decide +kernel
theorem dX10_next_18 : decode cX10_next 18 = .ok (.if_icmp .ne 16, 3) := by decide +kernel
theorem dX10_next_21 : decode cX10_next 21 = .ok (.aload_n 0, 1) := by decide +kernel
theorem dX10_next_22 : decode cX10_next 22 = .ok (.dup, 1) := by decide +kernel
theorem dX10_next_23 : decode cX10_next 23 = .ok (.getfield 57, 3) := by decide +kernel
theorem dX10_next_26 : decode cX10_next 26 = .ok (.iconst 1, 1) := by decide +kernel
theorem dX10_next_27 : decode cX10_next 27 = .ok (.iadd, 1) := by decide +kernel
theorem dX10_next_28 : decode cX10_next 28 = .ok (.putfield 57, 3) := by decide +kernel
theorem dX10_next_31 : decode cX10_next 31 = .ok (.goto (-23), 3) := by decide +kernel
theorem dX10_next_34 : decode cX10_next 34 = .ok (.aload_n 0, 1) := by decide +kernel
theorem dX10_next_35 : decode cX10_next 35 = .ok (.aload_n 0, 1) := by decide +kernel
theorem dX10_next_36 : decode cX10_next 36 = .ok (.getfield 57, 3) := by decide +kernel
theorem dX10_next_39 : decode cX10_next 39 = .ok (.putfield 54, 3) := by decide +kernel
theorem dX10_next_42 : decode cX10_next 42 = .ok (.aload_n 0, 1) := by decide +kernel
theorem dX10_next_43 : decode cX10_next 43 = .ok (.getfield 57, 3) := by decide +kernel
theorem dX10_next_46 : decode cX10_next 46 = .ok (.aload_n 0, 1) := by decide +kernel
theorem dX10_next_47 : decode cX10_next 47 = .ok (.getfield 39, 3) := by decide +kernel
theorem dX10_next_50 : decode cX10_next 50 = .ok (.if_icmp .lt 11, 3) := by decide +kernel
theorem dX10_next_53 : decode cX10_next 53 = .ok (.aload_n 0, 1) := by decide +kernel
theorem dX10_next_54 : decode cX10_next 54 = .ok (.iconst 3, 1) := by decide +kernel
theorem dX10_next_55 : decode cX10_next 55 = .ok (.putfield 64, 3) := by decide +kernel
theorem dX10_next_58 : decode cX10_next 58 = .ok (.goto 158, 3) := by decide +kernel
theorem dX10_next_61 : decode cX10_next 61 = .ok (.aload_n 0, 1) := by decide +kernel
theorem dX10_next_62 : decode cX10_next 62 = .ok (.aload_n 0, 1) := by decide +kernel
theorem dX10_next_63 : decode cX10_next 63 = .ok (.getfield 57, 3) := by decide +kernel
theorem dX10_next_66 : decode cX10_next 66 = .ok (.invokevirtual 60, 3) := by decide +kernel
theorem dX10_next_69 : decode cX10_next 69 = .ok (.invokestatic 67, 3) := by decide +kernel
theorem dX10_next_72 : decode cX10_next 72 = .ok (.ifCond .eq 38, 3) := by decide +kernel
theorem dX10_next_75 : decode cX10_next 75 = .ok (.aload_n 0, 1) := by decide +kernel
theorem dX10_next_76 : decode cX10_next 76 = .ok (.aload_n 0, 1) := by decide +kernel
theorem dX10_next_77 : decode cX10_next 77 = .ok (.getfield 54, 3) := by decide +kernel
theorem dX10_next_80 : decode cX10_next 80 = .ok (.invokevirtual 60, 3) := by decide +kernel
theorem dX10_next_83 : decode cX10_next 83 = .ok (.invokestatic 67, 3) := by decide +kernel
theorem dX10_next_86 : decode cX10_next 86 = .ok (.ifCond .eq 16, 3) := by decide +kernel
theorem dX10_next_89 : decode cX10_next 89 = .ok (.aload_n 0, 1) := by decide +kernel
theorem dX10_next_90 : decode cX10_next 90 = .ok (.dup, 1) := by decide +kernel
theorem dX10_next_91 : decode cX10_next 91 = .ok (.getfield 54, 3) := by decide +kernel
theorem dX10_next_94 : decode cX10_next 94 = .ok (.iconst 1, 1) := by decide +kernel
theorem dX10_next_95 : decode cX10_next 95 = .ok (.iadd, 1) := by decide +kernel
theorem dX10_next_96 : decode cX10_next 96 = .ok (.putfield 54, 3) := by decide +kernel
theorem dX10_next_99 : decode cX10_next 99 = .ok (.goto (-24), 3) := by decide +kernel
theorem dX10_next_102 : decode cX10_next 102 = .ok (.aload_n 0, 1) := by decide +kernel
theorem dX10_next_103 : decode cX10_next 103 = .ok (.iconst 0, 1) := by decide +kernel
theorem dX10_next_104 : decode cX10_next 104 = .ok (.putfield 64, 3) := by decide +kernel
theorem dX10_next_107 : decode cX10_next 107 = .ok (.goto 109, 3) := by decide +kernel
theorem dX10_next_110 : decode cX10_next 110 = .ok (.aload_n 0, 1) := by decide +kernel
theorem dX10_next_111 : decode cX10_next 111 = .ok (.aload_n 0, 1) := by decide +kernel
theorem dX10_next_112 : decode cX10_next 112 = .ok (.getfield 57, 3) := by decide +kernel
theorem dX10_next_115 : decode cX10_next 115 = .ok (.invokevirtual 60, 3) := by decide +kernel
theorem dX10_next_118 : decode cX10_next 118 = .ok (.invokestatic 71, 3) := by decide +kernel
theorem dX10_next_121 : decode cX10_next 121 = .ok (.ifCond .eq 80, 3) := by decide +kernel
theorem dX10_next_124 : decode cX10_next 124 = .ok (.aload_n 0, 1) := by decide +kernel
theorem dX10_next_125 : decode cX10_next 125 = .ok (.lconst 0, 1) := by decide +kernel
theorem dX10_next_126 : decode cX10_next 126 = .ok (.putfield 74, 3) := by decide +kernel
theorem dX10_next_129 : decode cX10_next 129 = .ok (.aload_n 0, 1) := by decide +kernel
theorem dX10_next_130 : decode cX10_next 130 = .ok (.aload_n 0, 1) := by decide +kernel
theorem dX10_next_131 : decode cX10_next 131 = .ok (.getfield 54, 3) := by decide +kernel
theorem dX10_next_134 : decode cX10_next 134 = .ok (.invokevirtual 60, 3) := by decide +kernel
theorem dX10_next_137 : decode cX10_next 137 = .ok (.invokestatic 71, 3) := by decide +kernel
theorem dX10_next_140 : decode cX10_next 140 = .ok (.ifCond .eq 53, 3) := by decide +kernel
theorem dX10_next_143 : decode cX10_next 143 = .ok (.aload_n 0, 1) := by decide +kernel
theorem dX10_next_144 : decode cX10_next 144 = .ok (.getfield 74, 3) := by decide +kernel
theorem dX10_next_147 : decode cX10_next 147 = .ok (.ldc2_w 78, 3) := by decide +kernel
theorem dX10_next_150 : decode cX10_next 150 = .ok (.lcmp, 1) := by decide +kernel
theorem dX10_next_151 : decode cX10_next 151 = .ok (.ifCond .ge 29, 3) := by decide +kernel
theorem dX10_next_154 : decode cX10_next 154 = .ok (.aload_n 0, 1) := by decide +kernel
theorem dX10_next_155 : decode cX10_next 155 = .ok (.ldc2_w 80, 3) := by decide +kernel
theorem dX10_next_158 : decode cX10_next 158 = .ok (.aload_n 0, 1) := by decide +kernel
theorem dX10_next_159 : decode cX10_next 159 = .ok (.getfield 74, 3) := by decide +kernel
theorem dX10_next_162 : decode cX10_next 162 = .ok (.lmul, 1) := by decide +kernel
theorem dX10_next_163 : decode cX10_next 163 = .ok (.aload_n 0, 1) := by decide +kernel
theorem dX10_next_164 : decode cX10_next 164 = .ok (.aload_n 0, 1) := by decide +kernel
theorem dX10_next_165 : decode cX10_next 165 = .ok (.getfield 54, 3) := by decide +kernel
theorem dX10_next_168 : decode cX10_next 168 = .ok (.invokevirtual 60, 3) := by decide +kernel
theorem dX10_next_171 : decode cX10_next 171 = .ok (.i2l, 1) := by decide +kernel
theorem dX10_next_172 : decode cX10_next 172 = .ok (.ladd, 1) := by decide +kernel
theorem dX10_next_173 : decode cX10_next 173 = .ok (.ldc2_w 50, 3) := by decide +kernel
theorem dX10_next_176 : decode cX10_next 176 = .ok (.lsub, 1) := by decide +kernel
theorem dX10_next_177 : decode cX10_next 177 = .ok (.putfield 74, 3) := by decide +kernel
theorem dX10_next_180 : decode cX10_next 180 = .ok (.aload_n 0, 1) := by decide +kernel
theorem dX10_next_181 : decode cX10_next 181 = .ok (.dup, 1) := by decide +kernel
theorem dX10_next_182 : decode cX10_next 182 = .ok (.getfield 54, 3) := by decide +kernel
theorem dX10_next_185 : decode cX10_next 185 = .ok (.iconst 1, 1) := by decide +kernel
theorem dX10_next_186 : decode cX10_next 186 = .ok (.iadd, 1) := by decide +kernel
theorem dX10_next_187 : decode cX10_next 187 = .ok (.putfield 54, 3) := by decide +kernel
theorem dX10_next_190 : decode cX10_next 190 = .ok (.goto (-61), 3) := by decide +kernel
theorem dX10_next_193 : decode cX10_next 193 = .ok (.aload_n 0, 1) := by decide +kernel
theorem dX10_next_194 : decode cX10_next 194 = .ok (.iconst 1, 1) := by decide +kernel
theorem dX10_next_195 : decode cX10_next 195 = .ok (.putfield 64, 3) := by decide +kernel
theorem dX10_next_198 : decode cX10_next 198 = .ok (.goto 18, 3) := by decide +kernel
theorem dX10_next_201 : decode cX10_next 201 = .ok (.aload_n 0, 1) := by decide +kernel
theorem dX10_next_202 : decode cX10_next 202 = .ok (.dup, 1) := by decide +kernel
theorem dX10_next_203 : decode cX10_next 203 = .ok (.getfield 54, 3) := by decide +kernel
theorem dX10_next_206 : decode cX10_next 206 = .ok (.iconst 1, 1) := by decide +kernel
theorem dX10_next_207 : decode cX10_next 207 = .ok (.iadd, 1) := by decide +kernel
theorem dX10_next_208 : decode cX10_next 208 = .ok (.putfield 54, 3) := by decide +kernel
theorem dX10_next_211 : decode cX10_next 211 = .ok (.aload_n 0, 1) := by decide +kernel
theorem dX10_next_212 : decode cX10_next 212 = .ok (.iconst 2, 1) := by decide +kernel
theorem dX10_next_213 : decode cX10_next 213 = .ok (.putfield 64, 3) := by decide +kernel
theorem dX10_next_216 : decode cX10_next 216 = .ok (.return_, 1) := by decide +kernel
theorem dX10_isWord_0 : decode cX10_isWord 0 = .ok (.aload_n 0, 1) := by decide +kernel
theorem dX10_isWord_1 : decode cX10_isWord 1 = .ok (.getfield 82, 3) := by decide +kernel
theorem dX10_isWord_4 : decode cX10_isWord 4 = .ok (.ifCond .ne 26, 3) := by decide +kernel
theorem dX10_isWord_7 : decode cX10_isWord 7 = .ok (.aload_n 0, 1) := by decide +kernel
theorem dX10_isWord_8 : decode cX10_isWord 8 = .ok (.getfield 64, 3) := by decide +kernel
theorem dX10_isWord_11 : decode cX10_isWord 11 = .ok (.ifCond .ne 19, 3) := by decide +kernel
theorem dX10_isWord_14 : decode cX10_isWord 14 = .ok (.aload_n 0, 1) := by decide +kernel
theorem dX10_isWord_15 : decode cX10_isWord 15 = .ok (.getfield 54, 3) := by decide +kernel
theorem dX10_isWord_18 : decode cX10_isWord 18 = .ok (.aload_n 0, 1) := by decide +kernel
theorem dX10_isWord_19 : decode cX10_isWord 19 = .ok (.getfield 57, 3) := by decide +kernel
theorem dX10_isWord_22 : decode cX10_isWord 22 = .ok (.isub, 1) := by decide +kernel
theorem dX10_isWord_23 : decode cX10_isWord 23 = .ok (.aload_n 1, 1) := by decide +kernel
theorem dX10_isWord_24 : decode cX10_isWord 24 = .ok (.invokevirtual 85, 3) := by decide +kernel
theorem dX10_isWord_27 : decode cX10_isWord 27 = .ok (.if_icmp .eq 5, 3) := by decide +kernel
theorem dX10_isWord_30 : decode cX10_isWord 30 = .ok (.iconst 0, 1) := by decide +kernel
theorem dX10_isWord_31 : decode cX10_isWord 31 = .ok (.ireturn, 1) := by decide +kernel
theorem dX10_isWord_32 : decode cX10_isWord 32 = .ok (.iconst 0, 1) := by decide +kernel
theorem dX10_isWord_33 : decode cX10_isWord 33 = .ok (.istore_n 2, 1) := by decide +kernel
theorem dX10_isWord_34 : decode cX10_isWord 34 = .ok (.iload_n 2, 1) := by decide +kernel
theorem dX10_isWord_35 : decode cX10_isWord 35 = .ok (.aload_n 1, 1) := by decide +kernel
theorem dX10_isWord_36 : decode cX10_isWord 36 = .ok (.invokevirtual 85, 3) := by decide +kernel
theorem dX10_isWord_39 : decode cX10_isWord 39 = .ok (.if_icmp .ge 30, 3) := by decide +kernel
theorem dX10_isWord_42 : decode cX10_isWord 42 = .ok (.aload_n 0, 1) := by decide +kernel
theorem dX10_isWord_43 : decode cX10_isWord 43 = .ok (.getfield 19, 3) := by decide +kernel
theorem dX10_isWord_46 : decode cX10_isWord 46 = .ok (.aload_n 0, 1) := by decide +kernel
theorem dX10_isWord_47 : decode cX10_isWord 47 = .ok (.getfield 57, 3) := by decide +kernel
theorem dX10_isWord_50 : decode cX10_isWord 50 = .ok (.iload_n 2, 1) := by decide +kernel
theorem dX10_isWord_51 : decode cX10_isWord 51 = .ok (.iadd, 1) := by decide +kernel
theorem dX10_isWord_52 : decode cX10_isWord 52 = .ok (.iaload, 1) := by decide +kernel
theorem dX10_isWord_53 : decode cX10_isWord 53 = .ok (.aload_n 1, 1) := by decide +kernel
theorem dX10_isWord_54 : decode cX10_isWord 54 = .ok (.iload_n 2, 1) := by decide +kernel
theorem dX10_isWord_55 : decode cX10_isWord 55 = .ok (.invokevirtual 91, 3) := by decide +kernel
theorem dX10_isWord_58 : decode cX10_isWord 58 = .ok (.if_icmp .eq 5, 3) := by decide +kernel
theorem dX10_isWord_61 : decode cX10_isWord 61 = .ok (.iconst 0, 1) := by decide +kernel
theorem dX10_isWord_62 : decode cX10_isWord 62 = .ok (.ireturn, 1) := by decide +kernel
theorem dX10_isWord_63 : decode cX10_isWord 63 = .ok (.iinc 2 1, 3) := by decide +kernel
theorem dX10_isWord_66 : decode cX10_isWord 66 = .ok (.goto (-32), 3) := by decide +kernel
theorem dX10_isWord_69 : decode cX10_isWord 69 = .ok (.iconst 1, 1) := by decide +kernel
theorem dX10_isWord_70 : decode cX10_isWord 70 = .ok (.ireturn, 1) := by decide +kernel
theorem dX10_fails_0 : decode cX10_fails 0 = .ok (.aload_n 0, 1) := by decide +kernel
theorem dX10_fails_1 : decode cX10_fails 1 = .ok (.getfield 82, 3) := by decide +kernel
theorem dX10_fails_4 : decode cX10_fails 4 = .ok (.ifCond .eq 4, 3) := by decide +kernel
theorem dX10_fails_7 : decode cX10_fails 7 = .ok (.return_, 1) := by decide +kernel
theorem dX10_fails_8 : decode cX10_fails 8 = .ok (.aload_n 0, 1) := by decide +kernel
theorem dX10_fails_9 : decode cX10_fails 9 = .ok (.iload_n 1, 1) := by decide +kernel
theorem dX10_fails_10 : decode cX10_fails 10 = .ok (.putfield 82, 3) := by decide +kernel
theorem dX10_fails_13 : decode cX10_fails 13 = .ok (.aload_n 0, 1) := by decide +kernel
theorem dX10_fails_14 : decode cX10_fails 14 = .ok (.aload_n 0, 1) := by decide +kernel
theorem dX10_fails_15 : decode cX10_fails 15 = .ok (.getfield 57, 3) := by decide +kernel
theorem dX10_fails_18 : decode cX10_fails 18 = .ok (.putfield 95, 3) := by decide +kernel
theorem dX10_fails_21 : decode cX10_fails 21 = .ok (.return_, 1) := by decide +kernel
theorem dX10_isSign_0 : decode cX10_isSign 0 = .ok (.aload_n 0, 1) := by decide +kernel
theorem dX10_isSign_1 : decode cX10_isSign 1 = .ok (.getfield 82, 3) := by decide +kernel
theorem dX10_isSign_4 : decode cX10_isSign 4 = .ok (.ifCond .ne 28, 3) := by decide +kernel
theorem dX10_isSign_7 : decode cX10_isSign 7 = .ok (.aload_n 0, 1) := by decide +kernel
theorem dX10_isSign_8 : decode cX10_isSign 8 = .ok (.getfield 64, 3) := by decide +kernel
theorem dX10_isSign_11 : decode cX10_isSign 11 = .ok (.iconst 2, 1) := by decide +kernel
theorem dX10_isSign_12 : decode cX10_isSign 12 = .ok (.if_icmp .ne 20, 3) := by decide +kernel
theorem dX10_isSign_15 : decode cX10_isSign 15 = .ok (.aload_n 0, 1) := by decide +kernel
theorem dX10_isSign_16 : decode cX10_isSign 16 = .ok (.getfield 19, 3) := by decide +kernel
theorem dX10_isSign_19 : decode cX10_isSign 19 = .ok (.aload_n 0, 1) := by decide +kernel
theorem dX10_isSign_20 : decode cX10_isSign 20 = .ok (.getfield 57, 3) := by decide +kernel
theorem dX10_isSign_23 : decode cX10_isSign 23 = .ok (.iaload, 1) := by decide +kernel
theorem dX10_isSign_24 : decode cX10_isSign 24 = .ok (.iload_n 1, 1) := by decide +kernel
theorem dX10_isSign_25 : decode cX10_isSign 25 = .ok (.if_icmp .ne 7, 3) := by decide +kernel
theorem dX10_isSign_28 : decode cX10_isSign 28 = .ok (.iconst 1, 1) := by decide +kernel
theorem dX10_isSign_29 : decode cX10_isSign 29 = .ok (.goto 4, 3) := by decide +kernel
theorem dX10_isSign_32 : decode cX10_isSign 32 = .ok (.iconst 0, 1) := by decide +kernel
theorem dX10_isSign_33 : decode cX10_isSign 33 = .ok (.ireturn, 1) := by decide +kernel
theorem dX10_must_0 : decode cX10_must 0 = .ok (.iload_n 1, 1) := by decide +kernel
theorem dX10_must_1 : decode cX10_must 1 = .ok (.ifCond .ne 9, 3) := by decide +kernel
theorem dX10_must_4 : decode cX10_must 4 = .ok (.aload_n 0, 1) := by decide +kernel
theorem dX10_must_5 : decode cX10_must 5 = .ok (.bipush (-2), 2) := by decide +kernel
theorem dX10_must_7 : decode cX10_must 7 = .ok (.invokevirtual 98, 3) := by decide +kernel
theorem dX10_must_10 : decode cX10_must 10 = .ok (.aload_n 0, 1) := by decide +kernel
theorem dX10_must_11 : decode cX10_must 11 = .ok (.getfield 82, 3) := by decide +kernel
theorem dX10_must_14 : decode cX10_must 14 = .ok (.ifCond .ne 7, 3) := by decide +kernel
theorem dX10_must_17 : decode cX10_must 17 = .ok (.aload_n 0, 1) := by decide +kernel
theorem dX10_must_18 : decode cX10_must 18 = .ok (.invokevirtual 102, 3) := by decide +kernel
theorem dX10_must_21 : decode cX10_must 21 = .ok (.return_, 1) := by decide +kernel
theorem dX10_sees_0 : decode cX10_sees 0 = .ok (.aload_n 0, 1) := by decide +kernel
theorem dX10_sees_1 : decode cX10_sees 1 = .ok (.getfield 82, 3) := by decide +kernel
theorem dX10_sees_4 : decode cX10_sees 4 = .ok (.ifCond .ne 20, 3) := by decide +kernel
theorem dX10_sees_7 : decode cX10_sees 7 = .ok (.aload_n 0, 1) := by decide +kernel
theorem dX10_sees_8 : decode cX10_sees 8 = .ok (.getfield 64, 3) := by decide +kernel
theorem dX10_sees_11 : decode cX10_sees 11 = .ok (.iconst 1, 1) := by decide +kernel
theorem dX10_sees_12 : decode cX10_sees 12 = .ok (.if_icmp .eq 12, 3) := by decide +kernel
theorem dX10_sees_15 : decode cX10_sees 15 = .ok (.aload_n 0, 1) := by decide +kernel
theorem dX10_sees_16 : decode cX10_sees 16 = .ok (.bipush (-2), 2) := by decide +kernel
theorem dX10_sees_18 : decode cX10_sees 18 = .ok (.invokevirtual 98, 3) := by decide +kernel
theorem dX10_sees_21 : decode cX10_sees 21 = .ok (.goto 30, 3) := by decide +kernel
theorem dX10_sees_24 : decode cX10_sees 24 = .ok (.aload_n 0, 1) := by decide +kernel
theorem dX10_sees_25 : decode cX10_sees 25 = .ok (.getfield 82, 3) := by decide +kernel
theorem dX10_sees_28 : decode cX10_sees 28 = .ok (.ifCond .ne 23, 3) := by decide +kernel
theorem dX10_sees_31 : decode cX10_sees 31 = .ok (.aload_n 0, 1) := by decide +kernel
theorem dX10_sees_32 : decode cX10_sees 32 = .ok (.getfield 74, 3) := by decide +kernel
theorem dX10_sees_35 : decode cX10_sees 35 = .ok (.iload_n 1, 1) := by decide +kernel
theorem dX10_sees_36 : decode cX10_sees 36 = .ok (.i2l, 1) := by decide +kernel
theorem dX10_sees_37 : decode cX10_sees 37 = .ok (.iload_n 2, 1) := by decide +kernel
theorem dX10_sees_38 : decode cX10_sees 38 = .ok (.i2l, 1) := by decide +kernel
theorem dX10_sees_39 : decode cX10_sees 39 = .ok (.invokestatic 46, 3) := by decide +kernel
theorem dX10_sees_42 : decode cX10_sees 42 = .ok (.ifCond .ne 9, 3) := by decide +kernel
theorem dX10_sees_45 : decode cX10_sees 45 = .ok (.aload_n 0, 1) := by decide +kernel
theorem dX10_sees_46 : decode cX10_sees 46 = .ok (.bipush (-3), 2) := by decide +kernel
theorem dX10_sees_48 : decode cX10_sees 48 = .ok (.invokevirtual 98, 3) := by decide +kernel
theorem dX10_sees_51 : decode cX10_sees 51 = .ok (.aload_n 0, 1) := by decide +kernel
theorem dX10_sees_52 : decode cX10_sees 52 = .ok (.getfield 82, 3) := by decide +kernel
theorem dX10_sees_55 : decode cX10_sees 55 = .ok (.ifCond .ne 11, 3) := by decide +kernel
theorem dX10_sees_58 : decode cX10_sees 58 = .ok (.aload_n 0, 1) := by decide +kernel
theorem dX10_sees_59 : decode cX10_sees 59 = .ok (.getfield 74, 3) := by decide +kernel
theorem dX10_sees_62 : decode cX10_sees 62 = .ok (.l2i, 1) := by decide +kernel
theorem dX10_sees_63 : decode cX10_sees 63 = .ok (.goto 4, 3) := by decide +kernel
theorem dX10_sees_66 : decode cX10_sees 66 = .ok (.iload_n 1, 1) := by decide +kernel
theorem dX10_sees_67 : decode cX10_sees 67 = .ok (.ireturn, 1) := by decide +kernel
theorem dX10_readsPrime_0 : decode cX10_readsPrime 0 = .ok (.aload_n 0, 1) := by decide +kernel
theorem dX10_readsPrime_1 : decode cX10_readsPrime 1 = .ok (.getfield 13, 3) := by decide +kernel
theorem dX10_readsPrime_4 : decode cX10_readsPrime 4 = .ok (.iconst 0, 1) := by decide +kernel
theorem dX10_readsPrime_5 : decode cX10_readsPrime 5 = .ok (.laload, 1) := by decide +kernel
theorem dX10_readsPrime_6 : decode cX10_readsPrime 6 = .ok (.l2i, 1) := by decide +kernel
theorem dX10_readsPrime_7 : decode cX10_readsPrime 7 = .ok (.istore_n 1, 1) := by decide +kernel
theorem dX10_readsPrime_8 : decode cX10_readsPrime 8 = .ok (.iload_n 1, 1) := by decide +kernel
theorem dX10_readsPrime_9 : decode cX10_readsPrime 9 = .ok (.bipush 6, 2) := by decide +kernel
theorem dX10_readsPrime_11 : decode cX10_readsPrime 11 = .ok (.if_icmp .ne 9, 3) := by decide +kernel
theorem dX10_readsPrime_14 : decode cX10_readsPrime 14 = .ok (.aload_n 0, 1) := by decide +kernel
theorem dX10_readsPrime_15 : decode cX10_readsPrime 15 = .ok (.bipush (-4), 2) := by decide +kernel
theorem dX10_readsPrime_17 : decode cX10_readsPrime 17 = .ok (.invokevirtual 98, 3) := by decide +kernel
theorem dX10_readsPrime_20 : decode cX10_readsPrime 20 = .ok (.aload_n 0, 1) := by decide +kernel
theorem dX10_readsPrime_21 : decode cX10_readsPrime 21 = .ok (.aload_n 0, 1) := by decide +kernel
theorem dX10_readsPrime_22 : decode cX10_readsPrime 22 = .ok (.ldc 105, 2) := by decide +kernel
theorem dX10_readsPrime_24 : decode cX10_readsPrime 24 = .ok (.invokevirtual 107, 3) := by decide +kernel
theorem dX10_readsPrime_27 : decode cX10_readsPrime 27 = .ok (.invokevirtual 111, 3) := by decide +kernel
theorem dX10_readsPrime_30 : decode cX10_readsPrime 30 = .ok (.aload_n 0, 1) := by decide +kernel
theorem dX10_readsPrime_31 : decode cX10_readsPrime 31 = .ok (.iconst 3, 1) := by decide +kernel
theorem dX10_readsPrime_32 : decode cX10_readsPrime 32 = .ok (.ldc 115, 2) := by decide +kernel
theorem dX10_readsPrime_34 : decode cX10_readsPrime 34 = .ok (.invokevirtual 116, 3) := by decide +kernel
theorem dX10_readsPrime_37 : decode cX10_readsPrime 37 = .ok (.istore_n 2, 1) := by decide +kernel
theorem dX10_readsPrime_38 : decode cX10_readsPrime 38 = .ok (.iload_n 2, 1) := by decide +kernel
theorem dX10_readsPrime_39 : decode cX10_readsPrime 39 = .ok (.invokestatic 120, 3) := by decide +kernel
theorem dX10_readsPrime_42 : decode cX10_readsPrime 42 = .ok (.ifCond .ne 9, 3) := by decide +kernel
theorem dX10_readsPrime_45 : decode cX10_readsPrime 45 = .ok (.aload_n 0, 1) := by decide +kernel
theorem dX10_readsPrime_46 : decode cX10_readsPrime 46 = .ok (.bipush (-3), 2) := by decide +kernel
theorem dX10_readsPrime_48 : decode cX10_readsPrime 48 = .ok (.invokevirtual 98, 3) := by decide +kernel
theorem dX10_readsPrime_51 : decode cX10_readsPrime 51 = .ok (.iconst 0, 1) := by decide +kernel
theorem dX10_readsPrime_52 : decode cX10_readsPrime 52 = .ok (.istore_n 3, 1) := by decide +kernel
theorem dX10_readsPrime_53 : decode cX10_readsPrime 53 = .ok (.iload_n 3, 1) := by decide +kernel
theorem dX10_readsPrime_54 : decode cX10_readsPrime 54 = .ok (.iload_n 1, 1) := by decide +kernel
theorem dX10_readsPrime_55 : decode cX10_readsPrime 55 = .ok (.if_icmp .ge 29, 3) := by decide +kernel
theorem dX10_readsPrime_58 : decode cX10_readsPrime 58 = .ok (.aload_n 0, 1) := by decide +kernel
theorem dX10_readsPrime_59 : decode cX10_readsPrime 59 = .ok (.getfield 13, 3) := by decide +kernel
theorem dX10_readsPrime_62 : decode cX10_readsPrime 62 = .ok (.iconst 1, 1) := by decide +kernel
theorem dX10_readsPrime_63 : decode cX10_readsPrime 63 = .ok (.iload_n 3, 1) := by decide +kernel
theorem dX10_readsPrime_64 : decode cX10_readsPrime 64 = .ok (.iadd, 1) := by decide +kernel
theorem dX10_readsPrime_65 : decode cX10_readsPrime 65 = .ok (.laload, 1) := by decide +kernel
theorem dX10_readsPrime_66 : decode cX10_readsPrime 66 = .ok (.iload_n 2, 1) := by decide +kernel
theorem dX10_readsPrime_67 : decode cX10_readsPrime 67 = .ok (.i2l, 1) := by decide +kernel
theorem dX10_readsPrime_68 : decode cX10_readsPrime 68 = .ok (.lcmp, 1) := by decide +kernel
theorem dX10_readsPrime_69 : decode cX10_readsPrime 69 = .ok (.ifCond .ne 9, 3) := by decide +kernel
theorem dX10_readsPrime_72 : decode cX10_readsPrime 72 = .ok (.aload_n 0, 1) := by decide +kernel
theorem dX10_readsPrime_73 : decode cX10_readsPrime 73 = .ok (.bipush (-3), 2) := by decide +kernel
theorem dX10_readsPrime_75 : decode cX10_readsPrime 75 = .ok (.invokevirtual 98, 3) := by decide +kernel
theorem dX10_readsPrime_78 : decode cX10_readsPrime 78 = .ok (.iinc 3 1, 3) := by decide +kernel
theorem dX10_readsPrime_81 : decode cX10_readsPrime 81 = .ok (.goto (-28), 3) := by decide +kernel
theorem dX10_readsPrime_84 : decode cX10_readsPrime 84 = .ok (.aload_n 0, 1) := by decide +kernel
theorem dX10_readsPrime_85 : decode cX10_readsPrime 85 = .ok (.aload_n 0, 1) := by decide +kernel
theorem dX10_readsPrime_86 : decode cX10_readsPrime 86 = .ok (.getfield 82, 3) := by decide +kernel
theorem dX10_readsPrime_89 : decode cX10_readsPrime 89 = .ok (.ifCond .ne 7, 3) := by decide +kernel
theorem dX10_readsPrime_92 : decode cX10_readsPrime 92 = .ok (.iconst 1, 1) := by decide +kernel
theorem dX10_readsPrime_93 : decode cX10_readsPrime 93 = .ok (.goto 4, 3) := by decide +kernel
theorem dX10_readsPrime_96 : decode cX10_readsPrime 96 = .ok (.iconst 0, 1) := by decide +kernel
theorem dX10_readsPrime_97 : decode cX10_readsPrime 97 = .ok (.invokevirtual 111, 3) := by decide +kernel
theorem dX10_readsPrime_100 : decode cX10_readsPrime 100 = .ok (.aload_n 0, 1) := by decide +kernel
theorem dX10_readsPrime_101 : decode cX10_readsPrime 101 = .ok (.aload_n 0, 1) := by decide +kernel
theorem dX10_readsPrime_102 : decode cX10_readsPrime 102 = .ok (.bipush 59, 2) := by decide +kernel
theorem dX10_readsPrime_104 : decode cX10_readsPrime 104 = .ok (.invokevirtual 123, 3) := by decide +kernel
theorem dX10_readsPrime_107 : decode cX10_readsPrime 107 = .ok (.invokevirtual 111, 3) := by decide +kernel
theorem dX10_readsPrime_110 : decode cX10_readsPrime 110 = .ok (.aload_n 0, 1) := by decide +kernel
theorem dX10_readsPrime_111 : decode cX10_readsPrime 111 = .ok (.getfield 82, 3) := by decide +kernel
theorem dX10_readsPrime_114 : decode cX10_readsPrime 114 = .ok (.ifCond .eq 4, 3) := by decide +kernel
theorem dX10_readsPrime_117 : decode cX10_readsPrime 117 = .ok (.return_, 1) := by decide +kernel
theorem dX10_readsPrime_118 : decode cX10_readsPrime 118 = .ok (.aload_n 0, 1) := by decide +kernel
theorem dX10_readsPrime_119 : decode cX10_readsPrime 119 = .ok (.getfield 13, 3) := by decide +kernel
theorem dX10_readsPrime_122 : decode cX10_readsPrime 122 = .ok (.iconst 1, 1) := by decide +kernel
theorem dX10_readsPrime_123 : decode cX10_readsPrime 123 = .ok (.iload_n 1, 1) := by decide +kernel
theorem dX10_readsPrime_124 : decode cX10_readsPrime 124 = .ok (.iadd, 1) := by decide +kernel
theorem dX10_readsPrime_125 : decode cX10_readsPrime 125 = .ok (.iload_n 2, 1) := by decide +kernel
theorem dX10_readsPrime_126 : decode cX10_readsPrime 126 = .ok (.i2l, 1) := by decide +kernel
theorem dX10_readsPrime_127 : decode cX10_readsPrime 127 = .ok (.lastore, 1) := by decide +kernel
theorem dX10_readsPrime_128 : decode cX10_readsPrime 128 = .ok (.aload_n 0, 1) := by decide +kernel
theorem dX10_readsPrime_129 : decode cX10_readsPrime 129 = .ok (.getfield 13, 3) := by decide +kernel
theorem dX10_readsPrime_132 : decode cX10_readsPrime 132 = .ok (.iconst 0, 1) := by decide +kernel
theorem dX10_readsPrime_133 : decode cX10_readsPrime 133 = .ok (.dup2, 1) := by decide +kernel
theorem dX10_readsPrime_134 : decode cX10_readsPrime 134 = .ok (.laload, 1) := by decide +kernel
theorem dX10_readsPrime_135 : decode cX10_readsPrime 135 = .ok (.lconst 1, 1) := by decide +kernel
theorem dX10_readsPrime_136 : decode cX10_readsPrime 136 = .ok (.ladd, 1) := by decide +kernel
theorem dX10_readsPrime_137 : decode cX10_readsPrime 137 = .ok (.lastore, 1) := by decide +kernel
theorem dX10_readsPrime_138 : decode cX10_readsPrime 138 = .ok (.return_, 1) := by decide +kernel
theorem dX10_readsSequence_0 : decode cX10_readsSequence 0 = .ok (.aload_n 0, 1) := by decide +kernel
theorem dX10_readsSequence_1 : decode cX10_readsSequence 1 = .ok (.aload_n 0, 1) := by decide +kernel
theorem dX10_readsSequence_2 : decode cX10_readsSequence 2 = .ok (.ldc 126, 2) := by decide +kernel
theorem dX10_readsSequence_4 : decode cX10_readsSequence 4 = .ok (.invokevirtual 107, 3) := by decide +kernel
theorem dX10_readsSequence_7 : decode cX10_readsSequence 7 = .ok (.invokevirtual 111, 3) := by decide +kernel
theorem dX10_readsSequence_10 : decode cX10_readsSequence 10 = .ok (.aload_n 0, 1) := by decide +kernel
theorem dX10_readsSequence_11 : decode cX10_readsSequence 11 = .ok (.iconst 0, 1) := by decide +kernel
theorem dX10_readsSequence_12 : decode cX10_readsSequence 12 = .ok (.iconst 3, 1) := by decide +kernel
theorem dX10_readsSequence_13 : decode cX10_readsSequence 13 = .ok (.invokevirtual 116, 3) := by decide +kernel
theorem dX10_readsSequence_16 : decode cX10_readsSequence 16 = .ok (.istore_n 1, 1) := by decide +kernel
theorem dX10_readsSequence_17 : decode cX10_readsSequence 17 = .ok (.aload_n 0, 1) := by decide +kernel
theorem dX10_readsSequence_18 : decode cX10_readsSequence 18 = .ok (.aload_n 0, 1) := by decide +kernel
theorem dX10_readsSequence_19 : decode cX10_readsSequence 19 = .ok (.getfield 82, 3) := by decide +kernel
theorem dX10_readsSequence_22 : decode cX10_readsSequence 22 = .ok (.ifCond .ne 7, 3) := by decide +kernel
theorem dX10_readsSequence_25 : decode cX10_readsSequence 25 = .ok (.iconst 1, 1) := by decide +kernel
theorem dX10_readsSequence_26 : decode cX10_readsSequence 26 = .ok (.goto 4, 3) := by decide +kernel
theorem dX10_readsSequence_29 : decode cX10_readsSequence 29 = .ok (.iconst 0, 1) := by decide +kernel
theorem dX10_readsSequence_30 : decode cX10_readsSequence 30 = .ok (.invokevirtual 111, 3) := by decide +kernel
theorem dX10_readsSequence_33 : decode cX10_readsSequence 33 = .ok (.iconst 0, 1) := by decide +kernel
theorem dX10_readsSequence_34 : decode cX10_readsSequence 34 = .ok (.istore_n 2, 1) := by decide +kernel
theorem dX10_readsSequence_35 : decode cX10_readsSequence 35 = .ok (.aload_n 0, 1) := by decide +kernel
theorem dX10_readsSequence_36 : decode cX10_readsSequence 36 = .ok (.getfield 82, 3) := by decide +kernel
theorem dX10_readsSequence_39 : decode cX10_readsSequence 39 = .ok (.ifCond .ne 132, 3) := by decide +kernel
theorem dX10_readsSequence_42 : decode cX10_readsSequence 42 = .ok (.aload_n 0, 1) := by decide +kernel
theorem dX10_readsSequence_43 : decode cX10_readsSequence 43 = .ok (.getfield 64, 3) := by decide +kernel
theorem dX10_readsSequence_46 : decode cX10_readsSequence 46 = .ok (.iconst 1, 1) := by decide +kernel
theorem dX10_readsSequence_47 : decode cX10_readsSequence 47 = .ok (.if_icmp .eq 12, 3) := by decide +kernel
theorem dX10_readsSequence_50 : decode cX10_readsSequence 50 = .ok (.aload_n 0, 1) := by decide +kernel
theorem dX10_readsSequence_51 : decode cX10_readsSequence 51 = .ok (.bipush 45, 2) := by decide +kernel
theorem dX10_readsSequence_53 : decode cX10_readsSequence 53 = .ok (.invokevirtual 123, 3) := by decide +kernel
theorem dX10_readsSequence_56 : decode cX10_readsSequence 56 = .ok (.ifCond .eq 115, 3) := by decide +kernel
theorem dX10_readsSequence_59 : decode cX10_readsSequence 59 = .ok (.aload_n 0, 1) := by decide +kernel
theorem dX10_readsSequence_60 : decode cX10_readsSequence 60 = .ok (.bipush 45, 2) := by decide +kernel
theorem dX10_readsSequence_62 : decode cX10_readsSequence 62 = .ok (.invokevirtual 123, 3) := by decide +kernel
theorem dX10_readsSequence_65 : decode cX10_readsSequence 65 = .ok (.istore_n 3, 1) := by decide +kernel
theorem dX10_readsSequence_66 : decode cX10_readsSequence 66 = .ok (.iload_n 2, 1) := by decide +kernel
theorem dX10_readsSequence_67 : decode cX10_readsSequence 67 = .ok (.bipush 32, 2) := by decide +kernel
theorem dX10_readsSequence_69 : decode cX10_readsSequence 69 = .ok (.if_icmp .ne 13, 3) := by decide +kernel
theorem dX10_readsSequence_72 : decode cX10_readsSequence 72 = .ok (.iload_n 3, 1) := by decide +kernel
theorem dX10_readsSequence_73 : decode cX10_readsSequence 73 = .ok (.ifCond .eq 9, 3) := by decide +kernel
theorem dX10_readsSequence_76 : decode cX10_readsSequence 76 = .ok (.aload_n 0, 1) := by decide +kernel
theorem dX10_readsSequence_77 : decode cX10_readsSequence 77 = .ok (.bipush (-4), 2) := by decide +kernel
theorem dX10_readsSequence_79 : decode cX10_readsSequence 79 = .ok (.invokevirtual 98, 3) := by decide +kernel
theorem dX10_readsSequence_82 : decode cX10_readsSequence 82 = .ok (.iload_n 3, 1) := by decide +kernel
theorem dX10_readsSequence_83 : decode cX10_readsSequence 83 = .ok (.ifCond .eq 8, 3) := by decide +kernel
theorem dX10_readsSequence_86 : decode cX10_readsSequence 86 = .ok (.aload_n 0, 1) := by decide +kernel
theorem dX10_readsSequence_87 : decode cX10_readsSequence 87 = .ok (.iconst 1, 1) := by decide +kernel
theorem dX10_readsSequence_88 : decode cX10_readsSequence 88 = .ok (.invokevirtual 111, 3) := by decide +kernel
theorem dX10_readsSequence_91 : decode cX10_readsSequence 91 = .ok (.aload_n 0, 1) := by decide +kernel
theorem dX10_readsSequence_92 : decode cX10_readsSequence 92 = .ok (.iconst 0, 1) := by decide +kernel
theorem dX10_readsSequence_93 : decode cX10_readsSequence 93 = .ok (.sipush 9999, 3) := by decide +kernel
theorem dX10_readsSequence_96 : decode cX10_readsSequence 96 = .ok (.invokevirtual 116, 3) := by decide +kernel
theorem dX10_readsSequence_99 : decode cX10_readsSequence 99 = .ok (.istore 4, 2) := by decide +kernel
theorem dX10_readsSequence_101 : decode cX10_readsSequence 101 = .ok (.iload_n 2, 1) := by decide +kernel
theorem dX10_readsSequence_102 : decode cX10_readsSequence 102 = .ok (.bipush 32, 2) := by decide +kernel
theorem dX10_readsSequence_104 : decode cX10_readsSequence 104 = .ok (.if_icmp .ne 9, 3) := by decide +kernel
theorem dX10_readsSequence_107 : decode cX10_readsSequence 107 = .ok (.aload_n 0, 1) := by decide +kernel
theorem dX10_readsSequence_108 : decode cX10_readsSequence 108 = .ok (.bipush (-4), 2) := by decide +kernel
theorem dX10_readsSequence_110 : decode cX10_readsSequence 110 = .ok (.invokevirtual 98, 3) := by decide +kernel
theorem dX10_readsSequence_113 : decode cX10_readsSequence 113 = .ok (.aload_n 0, 1) := by decide +kernel
theorem dX10_readsSequence_114 : decode cX10_readsSequence 114 = .ok (.aload_n 0, 1) := by decide +kernel
theorem dX10_readsSequence_115 : decode cX10_readsSequence 115 = .ok (.getfield 82, 3) := by decide +kernel
theorem dX10_readsSequence_118 : decode cX10_readsSequence 118 = .ok (.ifCond .ne 7, 3) := by decide +kernel
theorem dX10_readsSequence_121 : decode cX10_readsSequence 121 = .ok (.iconst 1, 1) := by decide +kernel
theorem dX10_readsSequence_122 : decode cX10_readsSequence 122 = .ok (.goto 4, 3) := by decide +kernel
theorem dX10_readsSequence_125 : decode cX10_readsSequence 125 = .ok (.iconst 0, 1) := by decide +kernel
theorem dX10_readsSequence_126 : decode cX10_readsSequence 126 = .ok (.invokevirtual 111, 3) := by decide +kernel
theorem dX10_readsSequence_129 : decode cX10_readsSequence 129 = .ok (.aload_n 0, 1) := by decide +kernel
theorem dX10_readsSequence_130 : decode cX10_readsSequence 130 = .ok (.getfield 82, 3) := by decide +kernel
theorem dX10_readsSequence_133 : decode cX10_readsSequence 133 = .ok (.ifCond .eq 4, 3) := by decide +kernel
theorem dX10_readsSequence_136 : decode cX10_readsSequence 136 = .ok (.return_, 1) := by decide +kernel
theorem dX10_readsSequence_137 : decode cX10_readsSequence 137 = .ok (.aload_n 0, 1) := by decide +kernel
theorem dX10_readsSequence_138 : decode cX10_readsSequence 138 = .ok (.getfield 13, 3) := by decide +kernel
theorem dX10_readsSequence_141 : decode cX10_readsSequence 141 = .ok (.bipush 11, 2) := by decide +kernel
theorem dX10_readsSequence_143 : decode cX10_readsSequence 143 = .ok (.bipush 32, 2) := by decide +kernel
theorem dX10_readsSequence_145 : decode cX10_readsSequence 145 = .ok (.iload_n 1, 1) := by decide +kernel
theorem dX10_readsSequence_146 : decode cX10_readsSequence 146 = .ok (.imul, 1) := by decide +kernel
theorem dX10_readsSequence_147 : decode cX10_readsSequence 147 = .ok (.iadd, 1) := by decide +kernel
theorem dX10_readsSequence_148 : decode cX10_readsSequence 148 = .ok (.iload_n 2, 1) := by decide +kernel
theorem dX10_readsSequence_149 : decode cX10_readsSequence 149 = .ok (.iadd, 1) := by decide +kernel
theorem dX10_readsSequence_150 : decode cX10_readsSequence 150 = .ok (.iload_n 3, 1) := by decide +kernel
theorem dX10_readsSequence_151 : decode cX10_readsSequence 151 = .ok (.ifCond .eq 10, 3) := by decide +kernel
theorem dX10_readsSequence_154 : decode cX10_readsSequence 154 = .ok (.iload 4, 2) := by decide +kernel
theorem dX10_readsSequence_156 : decode cX10_readsSequence 156 = .ok (.ineg, 1) := by decide +kernel
theorem dX10_readsSequence_157 : decode cX10_readsSequence 157 = .ok (.i2l, 1) := by decide +kernel
theorem dX10_readsSequence_158 : decode cX10_readsSequence 158 = .ok (.goto 6, 3) := by decide +kernel
theorem dX10_readsSequence_161 : decode cX10_readsSequence 161 = .ok (.iload 4, 2) := by decide +kernel
theorem dX10_readsSequence_163 : decode cX10_readsSequence 163 = .ok (.i2l, 1) := by decide +kernel
theorem dX10_readsSequence_164 : decode cX10_readsSequence 164 = .ok (.lastore, 1) := by decide +kernel
theorem dX10_readsSequence_165 : decode cX10_readsSequence 165 = .ok (.iinc 2 1, 3) := by decide +kernel
theorem dX10_readsSequence_168 : decode cX10_readsSequence 168 = .ok (.goto (-133), 3) := by decide +kernel
theorem dX10_readsSequence_171 : decode cX10_readsSequence 171 = .ok (.aload_n 0, 1) := by decide +kernel
theorem dX10_readsSequence_172 : decode cX10_readsSequence 172 = .ok (.aload_n 0, 1) := by decide +kernel
theorem dX10_readsSequence_173 : decode cX10_readsSequence 173 = .ok (.bipush 59, 2) := by decide +kernel
theorem dX10_readsSequence_175 : decode cX10_readsSequence 175 = .ok (.invokevirtual 123, 3) := by decide +kernel
theorem dX10_readsSequence_178 : decode cX10_readsSequence 178 = .ok (.invokevirtual 111, 3) := by decide +kernel
theorem dX10_readsSequence_181 : decode cX10_readsSequence 181 = .ok (.aload_n 0, 1) := by decide +kernel
theorem dX10_readsSequence_182 : decode cX10_readsSequence 182 = .ok (.getfield 82, 3) := by decide +kernel
theorem dX10_readsSequence_185 : decode cX10_readsSequence 185 = .ok (.ifCond .ne 14, 3) := by decide +kernel
theorem dX10_readsSequence_188 : decode cX10_readsSequence 188 = .ok (.aload_n 0, 1) := by decide +kernel
theorem dX10_readsSequence_189 : decode cX10_readsSequence 189 = .ok (.getfield 13, 3) := by decide +kernel
theorem dX10_readsSequence_192 : decode cX10_readsSequence 192 = .ok (.bipush 7, 2) := by decide +kernel
theorem dX10_readsSequence_194 : decode cX10_readsSequence 194 = .ok (.iload_n 1, 1) := by decide +kernel
theorem dX10_readsSequence_195 : decode cX10_readsSequence 195 = .ok (.iadd, 1) := by decide +kernel
theorem dX10_readsSequence_196 : decode cX10_readsSequence 196 = .ok (.iload_n 2, 1) := by decide +kernel
theorem dX10_readsSequence_197 : decode cX10_readsSequence 197 = .ok (.i2l, 1) := by decide +kernel
theorem dX10_readsSequence_198 : decode cX10_readsSequence 198 = .ok (.lastore, 1) := by decide +kernel
theorem dX10_readsSequence_199 : decode cX10_readsSequence 199 = .ok (.return_, 1) := by decide +kernel
theorem dX10_load_0 : decode cX10_load 0 = .ok (.aload_n 0, 1) := by decide +kernel
theorem dX10_load_1 : decode cX10_load 1 = .ok (.iload_n 1, 1) := by decide +kernel
theorem dX10_load_2 : decode cX10_load 2 = .ok (.i2l, 1) := by decide +kernel
theorem dX10_load_3 : decode cX10_load 3 = .ok (.lconst 0, 1) := by decide +kernel
theorem dX10_load_4 : decode cX10_load 4 = .ok (.aload_n 0, 1) := by decide +kernel
theorem dX10_load_5 : decode cX10_load 5 = .ok (.getfield 36, 3) := by decide +kernel
theorem dX10_load_8 : decode cX10_load 8 = .ok (.i2l, 1) := by decide +kernel
theorem dX10_load_9 : decode cX10_load 9 = .ok (.invokestatic 46, 3) := by decide +kernel
theorem dX10_load_12 : decode cX10_load 12 = .ok (.ifCond .eq 7, 3) := by decide +kernel
theorem dX10_load_15 : decode cX10_load 15 = .ok (.iconst 0, 1) := by decide +kernel
theorem dX10_load_16 : decode cX10_load 16 = .ok (.goto 4, 3) := by decide +kernel
theorem dX10_load_19 : decode cX10_load 19 = .ok (.iconst 1, 1) := by decide +kernel
theorem dX10_load_20 : decode cX10_load 20 = .ok (.putfield 30, 3) := by decide +kernel
theorem dX10_load_23 : decode cX10_load 23 = .ok (.aload_n 0, 1) := by decide +kernel
theorem dX10_load_24 : decode cX10_load 24 = .ok (.getfield 30, 3) := by decide +kernel
theorem dX10_load_27 : decode cX10_load 27 = .ok (.ifCond .le 5, 3) := by decide +kernel
theorem dX10_load_30 : decode cX10_load 30 = .ok (.iconst 0, 1) := by decide +kernel
theorem dX10_load_31 : decode cX10_load 31 = .ok (.ireturn, 1) := by decide +kernel
theorem dX10_load_32 : decode cX10_load 32 = .ok (.aload_n 0, 1) := by decide +kernel
theorem dX10_load_33 : decode cX10_load 33 = .ok (.iload_n 1, 1) := by decide +kernel
theorem dX10_load_34 : decode cX10_load 34 = .ok (.putfield 39, 3) := by decide +kernel
theorem dX10_load_37 : decode cX10_load 37 = .ok (.aload_n 0, 1) := by decide +kernel
theorem dX10_load_38 : decode cX10_load 38 = .ok (.iconst 0, 1) := by decide +kernel
theorem dX10_load_39 : decode cX10_load 39 = .ok (.putfield 36, 3) := by decide +kernel
theorem dX10_load_42 : decode cX10_load 42 = .ok (.aload_n 0, 1) := by decide +kernel
theorem dX10_load_43 : decode cX10_load 43 = .ok (.iconst 0, 1) := by decide +kernel
theorem dX10_load_44 : decode cX10_load 44 = .ok (.putfield 54, 3) := by decide +kernel
theorem dX10_load_47 : decode cX10_load 47 = .ok (.aload_n 0, 1) := by decide +kernel
theorem dX10_load_48 : decode cX10_load 48 = .ok (.iconst 0, 1) := by decide +kernel
theorem dX10_load_49 : decode cX10_load 49 = .ok (.putfield 82, 3) := by decide +kernel
theorem dX10_load_52 : decode cX10_load 52 = .ok (.iconst 0, 1) := by decide +kernel
theorem dX10_load_53 : decode cX10_load 53 = .ok (.istore_n 2, 1) := by decide +kernel
theorem dX10_load_54 : decode cX10_load 54 = .ok (.iload_n 2, 1) := by decide +kernel
theorem dX10_load_55 : decode cX10_load 55 = .ok (.sipush 215, 3) := by decide +kernel
theorem dX10_load_58 : decode cX10_load 58 = .ok (.if_icmp .ge 16, 3) := by decide +kernel
theorem dX10_load_61 : decode cX10_load 61 = .ok (.aload_n 0, 1) := by decide +kernel
theorem dX10_load_62 : decode cX10_load 62 = .ok (.getfield 13, 3) := by decide +kernel
theorem dX10_load_65 : decode cX10_load 65 = .ok (.iload_n 2, 1) := by decide +kernel
theorem dX10_load_66 : decode cX10_load 66 = .ok (.lconst 0, 1) := by decide +kernel
theorem dX10_load_67 : decode cX10_load 67 = .ok (.lastore, 1) := by decide +kernel
theorem dX10_load_68 : decode cX10_load 68 = .ok (.iinc 2 1, 3) := by decide +kernel
theorem dX10_load_71 : decode cX10_load 71 = .ok (.goto (-17), 3) := by decide +kernel
theorem dX10_load_74 : decode cX10_load 74 = .ok (.aload_n 0, 1) := by decide +kernel
theorem dX10_load_75 : decode cX10_load 75 = .ok (.invokevirtual 102, 3) := by decide +kernel
theorem dX10_load_78 : decode cX10_load 78 = .ok (.aload_n 0, 1) := by decide +kernel
theorem dX10_load_79 : decode cX10_load 79 = .ok (.getfield 82, 3) := by decide +kernel
theorem dX10_load_82 : decode cX10_load 82 = .ok (.ifCond .ne 52, 3) := by decide +kernel
theorem dX10_load_85 : decode cX10_load 85 = .ok (.aload_n 0, 1) := by decide +kernel
theorem dX10_load_86 : decode cX10_load 86 = .ok (.getfield 64, 3) := by decide +kernel
theorem dX10_load_89 : decode cX10_load 89 = .ok (.iconst 3, 1) := by decide +kernel
theorem dX10_load_90 : decode cX10_load 90 = .ok (.if_icmp .eq 44, 3) := by decide +kernel
theorem dX10_load_93 : decode cX10_load 93 = .ok (.aload_n 0, 1) := by decide +kernel
theorem dX10_load_94 : decode cX10_load 94 = .ok (.ldc 105, 2) := by decide +kernel
theorem dX10_load_96 : decode cX10_load 96 = .ok (.invokevirtual 107, 3) := by decide +kernel
theorem dX10_load_99 : decode cX10_load 99 = .ok (.ifCond .eq 10, 3) := by decide +kernel
theorem dX10_load_102 : decode cX10_load 102 = .ok (.aload_n 0, 1) := by decide +kernel
theorem dX10_load_103 : decode cX10_load 103 = .ok (.invokevirtual 128, 3) := by decide +kernel
theorem dX10_load_106 : decode cX10_load 106 = .ok (.goto (-28), 3) := by decide +kernel
theorem dX10_load_109 : decode cX10_load 109 = .ok (.aload_n 0, 1) := by decide +kernel
theorem dX10_load_110 : decode cX10_load 110 = .ok (.ldc 126, 2) := by decide +kernel
theorem dX10_load_112 : decode cX10_load 112 = .ok (.invokevirtual 107, 3) := by decide +kernel
theorem dX10_load_115 : decode cX10_load 115 = .ok (.ifCond .eq 10, 3) := by decide +kernel
theorem dX10_load_118 : decode cX10_load 118 = .ok (.aload_n 0, 1) := by decide +kernel
theorem dX10_load_119 : decode cX10_load 119 = .ok (.invokevirtual 131, 3) := by decide +kernel
theorem dX10_load_122 : decode cX10_load 122 = .ok (.goto (-44), 3) := by decide +kernel
theorem dX10_load_125 : decode cX10_load 125 = .ok (.aload_n 0, 1) := by decide +kernel
theorem dX10_load_126 : decode cX10_load 126 = .ok (.bipush (-2), 2) := by decide +kernel
theorem dX10_load_128 : decode cX10_load 128 = .ok (.invokevirtual 98, 3) := by decide +kernel
theorem dX10_load_131 : decode cX10_load 131 = .ok (.goto (-53), 3) := by decide +kernel
theorem dX10_load_134 : decode cX10_load 134 = .ok (.aload_n 0, 1) := by decide +kernel
theorem dX10_load_135 : decode cX10_load 135 = .ok (.aload_n 0, 1) := by decide +kernel
theorem dX10_load_136 : decode cX10_load 136 = .ok (.getfield 82, 3) := by decide +kernel
theorem dX10_load_139 : decode cX10_load 139 = .ok (.ifCond .ne 7, 3) := by decide +kernel
theorem dX10_load_142 : decode cX10_load 142 = .ok (.iconst (-1), 1) := by decide +kernel
theorem dX10_load_143 : decode cX10_load 143 = .ok (.goto 7, 3) := by decide +kernel
theorem dX10_load_146 : decode cX10_load 146 = .ok (.aload_n 0, 1) := by decide +kernel
theorem dX10_load_147 : decode cX10_load 147 = .ok (.getfield 95, 3) := by decide +kernel
theorem dX10_load_150 : decode cX10_load 150 = .ok (.putfield 23, 3) := by decide +kernel
theorem dX10_load_153 : decode cX10_load 153 = .ok (.aload_n 0, 1) := by decide +kernel
theorem dX10_load_154 : decode cX10_load 154 = .ok (.getfield 82, 3) := by decide +kernel
theorem dX10_load_157 : decode cX10_load 157 = .ok (.ifCond .eq 8, 3) := by decide +kernel
theorem dX10_load_160 : decode cX10_load 160 = .ok (.aload_n 0, 1) := by decide +kernel
theorem dX10_load_161 : decode cX10_load 161 = .ok (.getfield 82, 3) := by decide +kernel
theorem dX10_load_164 : decode cX10_load 164 = .ok (.ireturn, 1) := by decide +kernel
theorem dX10_load_165 : decode cX10_load 165 = .ok (.aload_n 0, 1) := by decide +kernel
theorem dX10_load_166 : decode cX10_load 166 = .ok (.invokevirtual 134, 3) := by decide +kernel
theorem dX10_load_169 : decode cX10_load 169 = .ok (.aload_n 0, 1) := by decide +kernel
theorem dX10_load_170 : decode cX10_load 170 = .ok (.invokevirtual 27, 3) := by decide +kernel
theorem dX10_load_173 : decode cX10_load 173 = .ok (.aload_n 0, 1) := by decide +kernel
theorem dX10_load_174 : decode cX10_load 174 = .ok (.getfield 7, 3) := by decide +kernel
theorem dX10_load_177 : decode cX10_load 177 = .ok (.iconst 0, 1) := by decide +kernel
theorem dX10_load_178 : decode cX10_load 178 = .ok (.laload, 1) := by decide +kernel
theorem dX10_load_179 : decode cX10_load 179 = .ok (.l2i, 1) := by decide +kernel
theorem dX10_load_180 : decode cX10_load 180 = .ok (.ireturn, 1) := by decide +kernel
theorem dX10_errorPosition_0 : decode cX10_errorPosition 0 = .ok (.aload_n 0, 1) := by decide +kernel
theorem dX10_errorPosition_1 : decode cX10_errorPosition 1 = .ok (.iconst 0, 1) := by decide +kernel
theorem dX10_errorPosition_2 : decode cX10_errorPosition 2 = .ok (.putfield 30, 3) := by decide +kernel
theorem dX10_errorPosition_5 : decode cX10_errorPosition 5 = .ok (.aload_n 0, 1) := by decide +kernel
theorem dX10_errorPosition_6 : decode cX10_errorPosition 6 = .ok (.getfield 23, 3) := by decide +kernel
theorem dX10_errorPosition_9 : decode cX10_errorPosition 9 = .ok (.ireturn, 1) := by decide +kernel
theorem dX10_isPrime_0 : decode cX10_isPrime 0 = .ok (.iconst 2, 1) := by decide +kernel
theorem dX10_isPrime_1 : decode cX10_isPrime 1 = .ok (.istore_n 1, 1) := by decide +kernel
theorem dX10_isPrime_2 : decode cX10_isPrime 2 = .ok (.iload_n 1, 1) := by decide +kernel
theorem dX10_isPrime_3 : decode cX10_isPrime 3 = .ok (.iload_n 1, 1) := by decide +kernel
theorem dX10_isPrime_4 : decode cX10_isPrime 4 = .ok (.imul, 1) := by decide +kernel
theorem dX10_isPrime_5 : decode cX10_isPrime 5 = .ok (.iload_n 0, 1) := by decide +kernel
theorem dX10_isPrime_6 : decode cX10_isPrime 6 = .ok (.if_icmp .gt 17, 3) := by decide +kernel
theorem dX10_isPrime_9 : decode cX10_isPrime 9 = .ok (.iload_n 0, 1) := by decide +kernel
theorem dX10_isPrime_10 : decode cX10_isPrime 10 = .ok (.iload_n 1, 1) := by decide +kernel
theorem dX10_isPrime_11 : decode cX10_isPrime 11 = .ok (.irem, 1) := by decide +kernel
theorem dX10_isPrime_12 : decode cX10_isPrime 12 = .ok (.ifCond .ne 5, 3) := by decide +kernel
theorem dX10_isPrime_15 : decode cX10_isPrime 15 = .ok (.iconst 0, 1) := by decide +kernel
theorem dX10_isPrime_16 : decode cX10_isPrime 16 = .ok (.ireturn, 1) := by decide +kernel
theorem dX10_isPrime_17 : decode cX10_isPrime 17 = .ok (.iinc 1 1, 3) := by decide +kernel
theorem dX10_isPrime_20 : decode cX10_isPrime 20 = .ok (.goto (-18), 3) := by decide +kernel
theorem dX10_isPrime_23 : decode cX10_isPrime 23 = .ok (.iload_n 0, 1) := by decide +kernel
theorem dX10_isPrime_24 : decode cX10_isPrime 24 = .ok (.iconst 1, 1) := by decide +kernel
theorem dX10_isPrime_25 : decode cX10_isPrime 25 = .ok (.if_icmp .le 7, 3) := by decide +kernel
theorem dX10_isPrime_28 : decode cX10_isPrime 28 = .ok (.iconst 1, 1) := by decide +kernel
theorem dX10_isPrime_29 : decode cX10_isPrime 29 = .ok (.goto 4, 3) := by decide +kernel
theorem dX10_isPrime_32 : decode cX10_isPrime 32 = .ok (.iconst 0, 1) := by decide +kernel
theorem dX10_isPrime_33 : decode cX10_isPrime 33 = .ok (.ireturn, 1) := by decide +kernel
theorem dX10_primeAt_0 : decode cX10_primeAt 0 = .ok (.aload_n 0, 1) := by decide +kernel
theorem dX10_primeAt_1 : decode cX10_primeAt 1 = .ok (.getfield 7, 3) := by decide +kernel
theorem dX10_primeAt_4 : decode cX10_primeAt 4 = .ok (.iconst 1, 1) := by decide +kernel
theorem dX10_primeAt_5 : decode cX10_primeAt 5 = .ok (.iload_n 1, 1) := by decide +kernel
theorem dX10_primeAt_6 : decode cX10_primeAt 6 = .ok (.iadd, 1) := by decide +kernel
theorem dX10_primeAt_7 : decode cX10_primeAt 7 = .ok (.laload, 1) := by decide +kernel
theorem dX10_primeAt_8 : decode cX10_primeAt 8 = .ok (.l2i, 1) := by decide +kernel
theorem dX10_primeAt_9 : decode cX10_primeAt 9 = .ok (.ireturn, 1) := by decide +kernel
theorem dX10_isThere_0 : decode cX10_isThere 0 = .ok (.iload_n 1, 1) := by decide +kernel
theorem dX10_isThere_1 : decode cX10_isThere 1 = .ok (.i2l, 1) := by decide +kernel
theorem dX10_isThere_2 : decode cX10_isThere 2 = .ok (.lconst 0, 1) := by decide +kernel
theorem dX10_isThere_3 : decode cX10_isThere 3 = .ok (.aload_n 0, 1) := by decide +kernel
theorem dX10_isThere_4 : decode cX10_isThere 4 = .ok (.getfield 7, 3) := by decide +kernel
theorem dX10_isThere_7 : decode cX10_isThere 7 = .ok (.iconst 0, 1) := by decide +kernel
theorem dX10_isThere_8 : decode cX10_isThere 8 = .ok (.laload, 1) := by decide +kernel
theorem dX10_isThere_9 : decode cX10_isThere 9 = .ok (.lconst 1, 1) := by decide +kernel
theorem dX10_isThere_10 : decode cX10_isThere 10 = .ok (.lsub, 1) := by decide +kernel
theorem dX10_isThere_11 : decode cX10_isThere 11 = .ok (.invokestatic 46, 3) := by decide +kernel
theorem dX10_isThere_14 : decode cX10_isThere 14 = .ok (.ireturn, 1) := by decide +kernel
theorem dX10_primes_0 : decode cX10_primes 0 = .ok (.aload_n 0, 1) := by decide +kernel
theorem dX10_primes_1 : decode cX10_primes 1 = .ok (.iconst 0, 1) := by decide +kernel
theorem dX10_primes_2 : decode cX10_primes 2 = .ok (.putfield 30, 3) := by decide +kernel
theorem dX10_primes_5 : decode cX10_primes 5 = .ok (.aload_n 0, 1) := by decide +kernel
theorem dX10_primes_6 : decode cX10_primes 6 = .ok (.getfield 7, 3) := by decide +kernel
theorem dX10_primes_9 : decode cX10_primes 9 = .ok (.iconst 0, 1) := by decide +kernel
theorem dX10_primes_10 : decode cX10_primes 10 = .ok (.laload, 1) := by decide +kernel
theorem dX10_primes_11 : decode cX10_primes 11 = .ok (.l2i, 1) := by decide +kernel
theorem dX10_primes_12 : decode cX10_primes 12 = .ok (.ireturn, 1) := by decide +kernel
theorem dX10_has_0 : decode cX10_has 0 = .ok (.iconst 0, 1) := by decide +kernel
theorem dX10_has_1 : decode cX10_has 1 = .ok (.istore_n 2, 1) := by decide +kernel
theorem dX10_has_2 : decode cX10_has 2 = .ok (.iload_n 2, 1) := by decide +kernel
theorem dX10_has_3 : decode cX10_has 3 = .ok (.i2l, 1) := by decide +kernel
theorem dX10_has_4 : decode cX10_has 4 = .ok (.aload_n 0, 1) := by decide +kernel
theorem dX10_has_5 : decode cX10_has 5 = .ok (.getfield 7, 3) := by decide +kernel
theorem dX10_has_8 : decode cX10_has 8 = .ok (.iconst 0, 1) := by decide +kernel
theorem dX10_has_9 : decode cX10_has 9 = .ok (.laload, 1) := by decide +kernel
theorem dX10_has_10 : decode cX10_has 10 = .ok (.lcmp, 1) := by decide +kernel
theorem dX10_has_11 : decode cX10_has 11 = .ok (.ifCond .ge 25, 3) := by decide +kernel
theorem dX10_has_14 : decode cX10_has 14 = .ok (.aload_n 0, 1) := by decide +kernel
theorem dX10_has_15 : decode cX10_has 15 = .ok (.getfield 7, 3) := by decide +kernel
theorem dX10_has_18 : decode cX10_has 18 = .ok (.iconst 1, 1) := by decide +kernel
theorem dX10_has_19 : decode cX10_has 19 = .ok (.iload_n 2, 1) := by decide +kernel
theorem dX10_has_20 : decode cX10_has 20 = .ok (.iadd, 1) := by decide +kernel
theorem dX10_has_21 : decode cX10_has 21 = .ok (.laload, 1) := by decide +kernel
theorem dX10_has_22 : decode cX10_has 22 = .ok (.iload_n 1, 1) := by decide +kernel
theorem dX10_has_23 : decode cX10_has 23 = .ok (.i2l, 1) := by decide +kernel
theorem dX10_has_24 : decode cX10_has 24 = .ok (.lcmp, 1) := by decide +kernel
theorem dX10_has_25 : decode cX10_has 25 = .ok (.ifCond .ne 5, 3) := by decide +kernel
theorem dX10_has_28 : decode cX10_has 28 = .ok (.iconst 1, 1) := by decide +kernel
theorem dX10_has_29 : decode cX10_has 29 = .ok (.ireturn, 1) := by decide +kernel
theorem dX10_has_30 : decode cX10_has 30 = .ok (.iinc 2 1, 3) := by decide +kernel
theorem dX10_has_33 : decode cX10_has 33 = .ok (.goto (-31), 3) := by decide +kernel
theorem dX10_has_36 : decode cX10_has 36 = .ok (.iconst 0, 1) := by decide +kernel
theorem dX10_has_37 : decode cX10_has 37 = .ok (.ireturn, 1) := by decide +kernel
theorem dX10_addPrime_0 : decode cX10_addPrime 0 = .ok (.aload_n 0, 1) := by decide +kernel
theorem dX10_addPrime_1 : decode cX10_addPrime 1 = .ok (.iload_n 1, 1) := by decide +kernel
theorem dX10_addPrime_2 : decode cX10_addPrime 2 = .ok (.i2l, 1) := by decide +kernel
theorem dX10_addPrime_3 : decode cX10_addPrime 3 = .ok (.ldc2_w 137, 3) := by decide +kernel
theorem dX10_addPrime_6 : decode cX10_addPrime 6 = .ok (.ldc2_w 139, 3) := by decide +kernel
theorem dX10_addPrime_9 : decode cX10_addPrime 9 = .ok (.invokestatic 46, 3) := by decide +kernel
theorem dX10_addPrime_12 : decode cX10_addPrime 12 = .ok (.ifCond .eq 18, 3) := by decide +kernel
theorem dX10_addPrime_15 : decode cX10_addPrime 15 = .ok (.iload_n 1, 1) := by decide +kernel
theorem dX10_addPrime_16 : decode cX10_addPrime 16 = .ok (.invokestatic 120, 3) := by decide +kernel
theorem dX10_addPrime_19 : decode cX10_addPrime 19 = .ok (.ifCond .eq 11, 3) := by decide +kernel
theorem dX10_addPrime_22 : decode cX10_addPrime 22 = .ok (.aload_n 0, 1) := by decide +kernel
theorem dX10_addPrime_23 : decode cX10_addPrime 23 = .ok (.iload_n 1, 1) := by decide +kernel
theorem dX10_addPrime_24 : decode cX10_addPrime 24 = .ok (.invokevirtual 141, 3) := by decide +kernel
theorem dX10_addPrime_27 : decode cX10_addPrime 27 = .ok (.ifCond .eq 7, 3) := by decide +kernel
theorem dX10_addPrime_30 : decode cX10_addPrime 30 = .ok (.iconst 1, 1) := by decide +kernel
theorem dX10_addPrime_31 : decode cX10_addPrime 31 = .ok (.goto 21, 3) := by decide +kernel
theorem dX10_addPrime_34 : decode cX10_addPrime 34 = .ok (.aload_n 0, 1) := by decide +kernel
theorem dX10_addPrime_35 : decode cX10_addPrime 35 = .ok (.getfield 7, 3) := by decide +kernel
theorem dX10_addPrime_38 : decode cX10_addPrime 38 = .ok (.iconst 0, 1) := by decide +kernel
theorem dX10_addPrime_39 : decode cX10_addPrime 39 = .ok (.laload, 1) := by decide +kernel
theorem dX10_addPrime_40 : decode cX10_addPrime 40 = .ok (.ldc2_w 144, 3) := by decide +kernel
theorem dX10_addPrime_43 : decode cX10_addPrime 43 = .ok (.lcmp, 1) := by decide +kernel
theorem dX10_addPrime_44 : decode cX10_addPrime 44 = .ok (.ifCond .ne 7, 3) := by decide +kernel
theorem dX10_addPrime_47 : decode cX10_addPrime 47 = .ok (.iconst 2, 1) := by decide +kernel
theorem dX10_addPrime_48 : decode cX10_addPrime 48 = .ok (.goto 4, 3) := by decide +kernel
theorem dX10_addPrime_51 : decode cX10_addPrime 51 = .ok (.iconst 0, 1) := by decide +kernel
theorem dX10_addPrime_52 : decode cX10_addPrime 52 = .ok (.putfield 30, 3) := by decide +kernel
theorem dX10_addPrime_55 : decode cX10_addPrime 55 = .ok (.aload_n 0, 1) := by decide +kernel
theorem dX10_addPrime_56 : decode cX10_addPrime 56 = .ok (.getfield 30, 3) := by decide +kernel
theorem dX10_addPrime_59 : decode cX10_addPrime 59 = .ok (.ifCond .le 5, 3) := by decide +kernel
theorem dX10_addPrime_62 : decode cX10_addPrime 62 = .ok (.iconst 0, 1) := by decide +kernel
theorem dX10_addPrime_63 : decode cX10_addPrime 63 = .ok (.ireturn, 1) := by decide +kernel
theorem dX10_addPrime_64 : decode cX10_addPrime 64 = .ok (.aload_n 0, 1) := by decide +kernel
theorem dX10_addPrime_65 : decode cX10_addPrime 65 = .ok (.invokevirtual 134, 3) := by decide +kernel
theorem dX10_addPrime_68 : decode cX10_addPrime 68 = .ok (.aload_n 0, 1) := by decide +kernel
theorem dX10_addPrime_69 : decode cX10_addPrime 69 = .ok (.getfield 7, 3) := by decide +kernel
theorem dX10_addPrime_72 : decode cX10_addPrime 72 = .ok (.iconst 0, 1) := by decide +kernel
theorem dX10_addPrime_73 : decode cX10_addPrime 73 = .ok (.laload, 1) := by decide +kernel
theorem dX10_addPrime_74 : decode cX10_addPrime 74 = .ok (.l2i, 1) := by decide +kernel
theorem dX10_addPrime_75 : decode cX10_addPrime 75 = .ok (.istore_n 2, 1) := by decide +kernel
theorem dX10_addPrime_76 : decode cX10_addPrime 76 = .ok (.aload_n 0, 1) := by decide +kernel
theorem dX10_addPrime_77 : decode cX10_addPrime 77 = .ok (.getfield 7, 3) := by decide +kernel
theorem dX10_addPrime_80 : decode cX10_addPrime 80 = .ok (.iconst 1, 1) := by decide +kernel
theorem dX10_addPrime_81 : decode cX10_addPrime 81 = .ok (.iload_n 2, 1) := by decide +kernel
theorem dX10_addPrime_82 : decode cX10_addPrime 82 = .ok (.iadd, 1) := by decide +kernel
theorem dX10_addPrime_83 : decode cX10_addPrime 83 = .ok (.iload_n 1, 1) := by decide +kernel
theorem dX10_addPrime_84 : decode cX10_addPrime 84 = .ok (.i2l, 1) := by decide +kernel
theorem dX10_addPrime_85 : decode cX10_addPrime 85 = .ok (.lastore, 1) := by decide +kernel
theorem dX10_addPrime_86 : decode cX10_addPrime 86 = .ok (.aload_n 0, 1) := by decide +kernel
theorem dX10_addPrime_87 : decode cX10_addPrime 87 = .ok (.getfield 7, 3) := by decide +kernel
theorem dX10_addPrime_90 : decode cX10_addPrime 90 = .ok (.iconst 0, 1) := by decide +kernel
theorem dX10_addPrime_91 : decode cX10_addPrime 91 = .ok (.dup2, 1) := by decide +kernel
theorem dX10_addPrime_92 : decode cX10_addPrime 92 = .ok (.laload, 1) := by decide +kernel
theorem dX10_addPrime_93 : decode cX10_addPrime 93 = .ok (.lconst 1, 1) := by decide +kernel
theorem dX10_addPrime_94 : decode cX10_addPrime 94 = .ok (.ladd, 1) := by decide +kernel
theorem dX10_addPrime_95 : decode cX10_addPrime 95 = .ok (.lastore, 1) := by decide +kernel
theorem dX10_addPrime_96 : decode cX10_addPrime 96 = .ok (.iload_n 2, 1) := by decide +kernel
theorem dX10_addPrime_97 : decode cX10_addPrime 97 = .ok (.ireturn, 1) := by decide +kernel
theorem dX10_removePrime_0 : decode cX10_removePrime 0 = .ok (.aload_n 0, 1) := by decide +kernel
theorem dX10_removePrime_1 : decode cX10_removePrime 1 = .ok (.aload_n 0, 1) := by decide +kernel
theorem dX10_removePrime_2 : decode cX10_removePrime 2 = .ok (.iload_n 1, 1) := by decide +kernel
theorem dX10_removePrime_3 : decode cX10_removePrime 3 = .ok (.invokevirtual 146, 3) := by decide +kernel
theorem dX10_removePrime_6 : decode cX10_removePrime 6 = .ok (.ifCond .eq 7, 3) := by decide +kernel
theorem dX10_removePrime_9 : decode cX10_removePrime 9 = .ok (.iconst 0, 1) := by decide +kernel
theorem dX10_removePrime_10 : decode cX10_removePrime 10 = .ok (.goto 4, 3) := by decide +kernel
theorem dX10_removePrime_13 : decode cX10_removePrime 13 = .ok (.iconst 1, 1) := by decide +kernel
theorem dX10_removePrime_14 : decode cX10_removePrime 14 = .ok (.putfield 30, 3) := by decide +kernel
theorem dX10_removePrime_17 : decode cX10_removePrime 17 = .ok (.aload_n 0, 1) := by decide +kernel
theorem dX10_removePrime_18 : decode cX10_removePrime 18 = .ok (.getfield 30, 3) := by decide +kernel
theorem dX10_removePrime_21 : decode cX10_removePrime 21 = .ok (.ifCond .le 5, 3) := by decide +kernel
theorem dX10_removePrime_24 : decode cX10_removePrime 24 = .ok (.iconst 0, 1) := by decide +kernel
theorem dX10_removePrime_25 : decode cX10_removePrime 25 = .ok (.ireturn, 1) := by decide +kernel
theorem dX10_removePrime_26 : decode cX10_removePrime 26 = .ok (.aload_n 0, 1) := by decide +kernel
theorem dX10_removePrime_27 : decode cX10_removePrime 27 = .ok (.invokevirtual 134, 3) := by decide +kernel
theorem dX10_removePrime_30 : decode cX10_removePrime 30 = .ok (.iload_n 1, 1) := by decide +kernel
theorem dX10_removePrime_31 : decode cX10_removePrime 31 = .ok (.iconst 1, 1) := by decide +kernel
theorem dX10_removePrime_32 : decode cX10_removePrime 32 = .ok (.iadd, 1) := by decide +kernel
theorem dX10_removePrime_33 : decode cX10_removePrime 33 = .ok (.istore_n 2, 1) := by decide +kernel
theorem dX10_removePrime_34 : decode cX10_removePrime 34 = .ok (.iload_n 2, 1) := by decide +kernel
theorem dX10_removePrime_35 : decode cX10_removePrime 35 = .ok (.i2l, 1) := by decide +kernel
theorem dX10_removePrime_36 : decode cX10_removePrime 36 = .ok (.aload_n 0, 1) := by decide +kernel
theorem dX10_removePrime_37 : decode cX10_removePrime 37 = .ok (.getfield 7, 3) := by decide +kernel
theorem dX10_removePrime_40 : decode cX10_removePrime 40 = .ok (.iconst 0, 1) := by decide +kernel
theorem dX10_removePrime_41 : decode cX10_removePrime 41 = .ok (.laload, 1) := by decide +kernel
theorem dX10_removePrime_42 : decode cX10_removePrime 42 = .ok (.lcmp, 1) := by decide +kernel
theorem dX10_removePrime_43 : decode cX10_removePrime 43 = .ok (.ifCond .ge 27, 3) := by decide +kernel
theorem dX10_removePrime_46 : decode cX10_removePrime 46 = .ok (.aload_n 0, 1) := by decide +kernel
theorem dX10_removePrime_47 : decode cX10_removePrime 47 = .ok (.getfield 7, 3) := by decide +kernel
theorem dX10_removePrime_50 : decode cX10_removePrime 50 = .ok (.iconst 1, 1) := by decide +kernel
theorem dX10_removePrime_51 : decode cX10_removePrime 51 = .ok (.iload_n 2, 1) := by decide +kernel
theorem dX10_removePrime_52 : decode cX10_removePrime 52 = .ok (.iadd, 1) := by decide +kernel
theorem dX10_removePrime_53 : decode cX10_removePrime 53 = .ok (.iconst 1, 1) := by decide +kernel
theorem dX10_removePrime_54 : decode cX10_removePrime 54 = .ok (.isub, 1) := by decide +kernel
theorem dX10_removePrime_55 : decode cX10_removePrime 55 = .ok (.aload_n 0, 1) := by decide +kernel
theorem dX10_removePrime_56 : decode cX10_removePrime 56 = .ok (.getfield 7, 3) := by decide +kernel
theorem dX10_removePrime_59 : decode cX10_removePrime 59 = .ok (.iconst 1, 1) := by decide +kernel
theorem dX10_removePrime_60 : decode cX10_removePrime 60 = .ok (.iload_n 2, 1) := by decide +kernel
theorem dX10_removePrime_61 : decode cX10_removePrime 61 = .ok (.iadd, 1) := by decide +kernel
theorem dX10_removePrime_62 : decode cX10_removePrime 62 = .ok (.laload, 1) := by decide +kernel
theorem dX10_removePrime_63 : decode cX10_removePrime 63 = .ok (.lastore, 1) := by decide +kernel
theorem dX10_removePrime_64 : decode cX10_removePrime 64 = .ok (.iinc 2 1, 3) := by decide +kernel
theorem dX10_removePrime_67 : decode cX10_removePrime 67 = .ok (.goto (-33), 3) := by decide +kernel
theorem dX10_removePrime_70 : decode cX10_removePrime 70 = .ok (.aload_n 0, 1) := by decide +kernel
theorem dX10_removePrime_71 : decode cX10_removePrime 71 = .ok (.getfield 7, 3) := by decide +kernel
theorem dX10_removePrime_74 : decode cX10_removePrime 74 = .ok (.iconst 0, 1) := by decide +kernel
theorem dX10_removePrime_75 : decode cX10_removePrime 75 = .ok (.dup2, 1) := by decide +kernel
theorem dX10_removePrime_76 : decode cX10_removePrime 76 = .ok (.laload, 1) := by decide +kernel
theorem dX10_removePrime_77 : decode cX10_removePrime 77 = .ok (.lconst 1, 1) := by decide +kernel
theorem dX10_removePrime_78 : decode cX10_removePrime 78 = .ok (.lsub, 1) := by decide +kernel
theorem dX10_removePrime_79 : decode cX10_removePrime 79 = .ok (.lastore, 1) := by decide +kernel
theorem dX10_removePrime_80 : decode cX10_removePrime 80 = .ok (.aload_n 0, 1) := by decide +kernel
theorem dX10_removePrime_81 : decode cX10_removePrime 81 = .ok (.getfield 7, 3) := by decide +kernel
theorem dX10_removePrime_84 : decode cX10_removePrime 84 = .ok (.iconst 1, 1) := by decide +kernel
theorem dX10_removePrime_85 : decode cX10_removePrime 85 = .ok (.aload_n 0, 1) := by decide +kernel
theorem dX10_removePrime_86 : decode cX10_removePrime 86 = .ok (.getfield 7, 3) := by decide +kernel
theorem dX10_removePrime_89 : decode cX10_removePrime 89 = .ok (.iconst 0, 1) := by decide +kernel
theorem dX10_removePrime_90 : decode cX10_removePrime 90 = .ok (.laload, 1) := by decide +kernel
theorem dX10_removePrime_91 : decode cX10_removePrime 91 = .ok (.l2i, 1) := by decide +kernel
theorem dX10_removePrime_92 : decode cX10_removePrime 92 = .ok (.iadd, 1) := by decide +kernel
theorem dX10_removePrime_93 : decode cX10_removePrime 93 = .ok (.lconst 0, 1) := by decide +kernel
theorem dX10_removePrime_94 : decode cX10_removePrime 94 = .ok (.lastore, 1) := by decide +kernel
theorem dX10_removePrime_95 : decode cX10_removePrime 95 = .ok (.aload_n 0, 1) := by decide +kernel
theorem dX10_removePrime_96 : decode cX10_removePrime 96 = .ok (.getfield 7, 3) := by decide +kernel
theorem dX10_removePrime_99 : decode cX10_removePrime 99 = .ok (.iconst 0, 1) := by decide +kernel
theorem dX10_removePrime_100 : decode cX10_removePrime 100 = .ok (.laload, 1) := by decide +kernel
theorem dX10_removePrime_101 : decode cX10_removePrime 101 = .ok (.l2i, 1) := by decide +kernel
theorem dX10_removePrime_102 : decode cX10_removePrime 102 = .ok (.ireturn, 1) := by decide +kernel
theorem dX10_primeFor_0 : decode cX10_primeFor 0 = .ok (.aload_n 0, 1) := by decide +kernel
theorem dX10_primeFor_1 : decode cX10_primeFor 1 = .ok (.iload_n 1, 1) := by decide +kernel
theorem dX10_primeFor_2 : decode cX10_primeFor 2 = .ok (.i2l, 1) := by decide +kernel
theorem dX10_primeFor_3 : decode cX10_primeFor 3 = .ok (.lconst 1, 1) := by decide +kernel
theorem dX10_primeFor_4 : decode cX10_primeFor 4 = .ok (.ldc2_w 149, 3) := by decide +kernel
theorem dX10_primeFor_7 : decode cX10_primeFor 7 = .ok (.invokestatic 46, 3) := by decide +kernel
theorem dX10_primeFor_10 : decode cX10_primeFor 10 = .ok (.ifCond .eq 17, 3) := by decide +kernel
theorem dX10_primeFor_13 : decode cX10_primeFor 13 = .ok (.iload_n 2, 1) := by decide +kernel
theorem dX10_primeFor_14 : decode cX10_primeFor 14 = .ok (.i2l, 1) := by decide +kernel
theorem dX10_primeFor_15 : decode cX10_primeFor 15 = .ok (.ldc2_w 151, 3) := by decide +kernel
theorem dX10_primeFor_18 : decode cX10_primeFor 18 = .ok (.ldc2_w 153, 3) := by decide +kernel
theorem dX10_primeFor_21 : decode cX10_primeFor 21 = .ok (.invokestatic 46, 3) := by decide +kernel
theorem dX10_primeFor_24 : decode cX10_primeFor 24 = .ok (.ifCond .ne 7, 3) := by decide +kernel
theorem dX10_primeFor_27 : decode cX10_primeFor 27 = .ok (.iconst 1, 1) := by decide +kernel
theorem dX10_primeFor_28 : decode cX10_primeFor 28 = .ok (.goto 4, 3) := by decide +kernel
theorem dX10_primeFor_31 : decode cX10_primeFor 31 = .ok (.iconst 0, 1) := by decide +kernel
theorem dX10_primeFor_32 : decode cX10_primeFor 32 = .ok (.putfield 30, 3) := by decide +kernel
theorem dX10_primeFor_35 : decode cX10_primeFor 35 = .ok (.aload_n 0, 1) := by decide +kernel
theorem dX10_primeFor_36 : decode cX10_primeFor 36 = .ok (.getfield 30, 3) := by decide +kernel
theorem dX10_primeFor_39 : decode cX10_primeFor 39 = .ok (.ifCond .le 5, 3) := by decide +kernel
theorem dX10_primeFor_42 : decode cX10_primeFor 42 = .ok (.iconst 0, 1) := by decide +kernel
theorem dX10_primeFor_43 : decode cX10_primeFor 43 = .ok (.ireturn, 1) := by decide +kernel
theorem dX10_primeFor_44 : decode cX10_primeFor 44 = .ok (.iload_n 2, 1) := by decide +kernel
theorem dX10_primeFor_45 : decode cX10_primeFor 45 = .ok (.iload_n 1, 1) := by decide +kernel
theorem dX10_primeFor_46 : decode cX10_primeFor 46 = .ok (.iadd, 1) := by decide +kernel
theorem dX10_primeFor_47 : decode cX10_primeFor 47 = .ok (.iconst 1, 1) := by decide +kernel
theorem dX10_primeFor_48 : decode cX10_primeFor 48 = .ok (.isub, 1) := by decide +kernel
theorem dX10_primeFor_49 : decode cX10_primeFor 49 = .ok (.iload_n 1, 1) := by decide +kernel
theorem dX10_primeFor_50 : decode cX10_primeFor 50 = .ok (.idiv, 1) := by decide +kernel
theorem dX10_primeFor_51 : decode cX10_primeFor 51 = .ok (.iload_n 1, 1) := by decide +kernel
theorem dX10_primeFor_52 : decode cX10_primeFor 52 = .ok (.imul, 1) := by decide +kernel
theorem dX10_primeFor_53 : decode cX10_primeFor 53 = .ok (.iconst 1, 1) := by decide +kernel
theorem dX10_primeFor_54 : decode cX10_primeFor 54 = .ok (.iadd, 1) := by decide +kernel
theorem dX10_primeFor_55 : decode cX10_primeFor 55 = .ok (.istore_n 3, 1) := by decide +kernel
theorem dX10_primeFor_56 : decode cX10_primeFor 56 = .ok (.iload_n 3, 1) := by decide +kernel
theorem dX10_primeFor_57 : decode cX10_primeFor 57 = .ok (.ldc 115, 2) := by decide +kernel
theorem dX10_primeFor_59 : decode cX10_primeFor 59 = .ok (.if_icmp .gt 17, 3) := by decide +kernel
theorem dX10_primeFor_62 : decode cX10_primeFor 62 = .ok (.iload_n 3, 1) := by decide +kernel
theorem dX10_primeFor_63 : decode cX10_primeFor 63 = .ok (.invokestatic 120, 3) := by decide +kernel
theorem dX10_primeFor_66 : decode cX10_primeFor 66 = .ok (.ifCond .ne 10, 3) := by decide +kernel
theorem dX10_primeFor_69 : decode cX10_primeFor 69 = .ok (.iload_n 3, 1) := by decide +kernel
theorem dX10_primeFor_70 : decode cX10_primeFor 70 = .ok (.iload_n 1, 1) := by decide +kernel
theorem dX10_primeFor_71 : decode cX10_primeFor 71 = .ok (.iadd, 1) := by decide +kernel
theorem dX10_primeFor_72 : decode cX10_primeFor 72 = .ok (.istore_n 3, 1) := by decide +kernel
theorem dX10_primeFor_73 : decode cX10_primeFor 73 = .ok (.goto (-17), 3) := by decide +kernel
theorem dX10_primeFor_76 : decode cX10_primeFor 76 = .ok (.aload_n 0, 1) := by decide +kernel
theorem dX10_primeFor_77 : decode cX10_primeFor 77 = .ok (.iload_n 3, 1) := by decide +kernel
theorem dX10_primeFor_78 : decode cX10_primeFor 78 = .ok (.ldc 115, 2) := by decide +kernel
theorem dX10_primeFor_80 : decode cX10_primeFor 80 = .ok (.if_icmp .le 7, 3) := by decide +kernel
theorem dX10_primeFor_83 : decode cX10_primeFor 83 = .ok (.iconst 2, 1) := by decide +kernel
theorem dX10_primeFor_84 : decode cX10_primeFor 84 = .ok (.goto 4, 3) := by decide +kernel
theorem dX10_primeFor_87 : decode cX10_primeFor 87 = .ok (.iconst 0, 1) := by decide +kernel
theorem dX10_primeFor_88 : decode cX10_primeFor 88 = .ok (.putfield 30, 3) := by decide +kernel
theorem dX10_primeFor_91 : decode cX10_primeFor 91 = .ok (.aload_n 0, 1) := by decide +kernel
theorem dX10_primeFor_92 : decode cX10_primeFor 92 = .ok (.getfield 30, 3) := by decide +kernel
theorem dX10_primeFor_95 : decode cX10_primeFor 95 = .ok (.ifCond .le 7, 3) := by decide +kernel
theorem dX10_primeFor_98 : decode cX10_primeFor 98 = .ok (.iconst 0, 1) := by decide +kernel
theorem dX10_primeFor_99 : decode cX10_primeFor 99 = .ok (.goto 4, 3) := by decide +kernel
theorem dX10_primeFor_102 : decode cX10_primeFor 102 = .ok (.iload_n 3, 1) := by decide +kernel
theorem dX10_primeFor_103 : decode cX10_primeFor 103 = .ok (.ireturn, 1) := by decide +kernel
theorem dX10_powerOf_0 : decode cX10_powerOf 0 = .ok (.lconst 1, 1) := by decide +kernel
theorem dX10_powerOf_1 : decode cX10_powerOf 1 = .ok (.lstore 6, 2) := by decide +kernel
theorem dX10_powerOf_3 : decode cX10_powerOf 3 = .ok (.lload_n 0, 1) := by decide +kernel
theorem dX10_powerOf_4 : decode cX10_powerOf 4 = .ok (.lload 4, 2) := by decide +kernel
theorem dX10_powerOf_6 : decode cX10_powerOf 6 = .ok (.lrem, 1) := by decide +kernel
theorem dX10_powerOf_7 : decode cX10_powerOf 7 = .ok (.lload 4, 2) := by decide +kernel
theorem dX10_powerOf_9 : decode cX10_powerOf 9 = .ok (.ladd, 1) := by decide +kernel
theorem dX10_powerOf_10 : decode cX10_powerOf 10 = .ok (.lload 4, 2) := by decide +kernel
theorem dX10_powerOf_12 : decode cX10_powerOf 12 = .ok (.lrem, 1) := by decide +kernel
theorem dX10_powerOf_13 : decode cX10_powerOf 13 = .ok (.lstore 8, 2) := by decide +kernel
theorem dX10_powerOf_15 : decode cX10_powerOf 15 = .ok (.lload_n 2, 1) := by decide +kernel
theorem dX10_powerOf_16 : decode cX10_powerOf 16 = .ok (.lstore 10, 2) := by decide +kernel
theorem dX10_powerOf_18 : decode cX10_powerOf 18 = .ok (.lload 10, 2) := by decide +kernel
theorem dX10_powerOf_20 : decode cX10_powerOf 20 = .ok (.lconst 0, 1) := by decide +kernel
theorem dX10_powerOf_21 : decode cX10_powerOf 21 = .ok (.lcmp, 1) := by decide +kernel
theorem dX10_powerOf_22 : decode cX10_powerOf 22 = .ok (.ifCond .le 41, 3) := by decide +kernel
theorem dX10_powerOf_25 : decode cX10_powerOf 25 = .ok (.lload 10, 2) := by decide +kernel
theorem dX10_powerOf_27 : decode cX10_powerOf 27 = .ok (.lconst 1, 1) := by decide +kernel
theorem dX10_powerOf_28 : decode cX10_powerOf 28 = .ok (.land, 1) := by decide +kernel
theorem dX10_powerOf_29 : decode cX10_powerOf 29 = .ok (.lconst 1, 1) := by decide +kernel
theorem dX10_powerOf_30 : decode cX10_powerOf 30 = .ok (.lcmp, 1) := by decide +kernel
theorem dX10_powerOf_31 : decode cX10_powerOf 31 = .ok (.ifCond .ne 13, 3) := by decide +kernel
theorem dX10_powerOf_34 : decode cX10_powerOf 34 = .ok (.lload 6, 2) := by decide +kernel
theorem dX10_powerOf_36 : decode cX10_powerOf 36 = .ok (.lload 8, 2) := by decide +kernel
theorem dX10_powerOf_38 : decode cX10_powerOf 38 = .ok (.lmul, 1) := by decide +kernel
theorem dX10_powerOf_39 : decode cX10_powerOf 39 = .ok (.lload 4, 2) := by decide +kernel
theorem dX10_powerOf_41 : decode cX10_powerOf 41 = .ok (.lrem, 1) := by decide +kernel
theorem dX10_powerOf_42 : decode cX10_powerOf 42 = .ok (.lstore 6, 2) := by decide +kernel
theorem dX10_powerOf_44 : decode cX10_powerOf 44 = .ok (.lload 8, 2) := by decide +kernel
theorem dX10_powerOf_46 : decode cX10_powerOf 46 = .ok (.lload 8, 2) := by decide +kernel
theorem dX10_powerOf_48 : decode cX10_powerOf 48 = .ok (.lmul, 1) := by decide +kernel
theorem dX10_powerOf_49 : decode cX10_powerOf 49 = .ok (.lload 4, 2) := by decide +kernel
theorem dX10_powerOf_51 : decode cX10_powerOf 51 = .ok (.lrem, 1) := by decide +kernel
theorem dX10_powerOf_52 : decode cX10_powerOf 52 = .ok (.lstore 8, 2) := by decide +kernel
theorem dX10_powerOf_54 : decode cX10_powerOf 54 = .ok (.lload 10, 2) := by decide +kernel
theorem dX10_powerOf_56 : decode cX10_powerOf 56 = .ok (.iconst 1, 1) := by decide +kernel
theorem dX10_powerOf_57 : decode cX10_powerOf 57 = .ok (.lshr, 1) := by decide +kernel
theorem dX10_powerOf_58 : decode cX10_powerOf 58 = .ok (.lstore 10, 2) := by decide +kernel
theorem dX10_powerOf_60 : decode cX10_powerOf 60 = .ok (.goto (-42), 3) := by decide +kernel
theorem dX10_powerOf_63 : decode cX10_powerOf 63 = .ok (.lload 6, 2) := by decide +kernel
theorem dX10_powerOf_65 : decode cX10_powerOf 65 = .ok (.lload 4, 2) := by decide +kernel
theorem dX10_powerOf_67 : decode cX10_powerOf 67 = .ok (.lrem, 1) := by decide +kernel
theorem dX10_powerOf_68 : decode cX10_powerOf 68 = .ok (.lreturn, 1) := by decide +kernel
theorem dX10_makesAll_0 : decode cX10_makesAll 0 = .ok (.iload_n 1, 1) := by decide +kernel
theorem dX10_makesAll_1 : decode cX10_makesAll 1 = .ok (.iconst 1, 1) := by decide +kernel
theorem dX10_makesAll_2 : decode cX10_makesAll 2 = .ok (.isub, 1) := by decide +kernel
theorem dX10_makesAll_3 : decode cX10_makesAll 3 = .ok (.istore_n 2, 1) := by decide +kernel
theorem dX10_makesAll_4 : decode cX10_makesAll 4 = .ok (.iconst 2, 1) := by decide +kernel
theorem dX10_makesAll_5 : decode cX10_makesAll 5 = .ok (.istore_n 3, 1) := by decide +kernel
theorem dX10_makesAll_6 : decode cX10_makesAll 6 = .ok (.iload_n 2, 1) := by decide +kernel
theorem dX10_makesAll_7 : decode cX10_makesAll 7 = .ok (.iconst 1, 1) := by decide +kernel
theorem dX10_makesAll_8 : decode cX10_makesAll 8 = .ok (.if_icmp .le 51, 3) := by decide +kernel
theorem dX10_makesAll_11 : decode cX10_makesAll 11 = .ok (.iload_n 2, 1) := by decide +kernel
theorem dX10_makesAll_12 : decode cX10_makesAll 12 = .ok (.iload_n 3, 1) := by decide +kernel
theorem dX10_makesAll_13 : decode cX10_makesAll 13 = .ok (.irem, 1) := by decide +kernel
theorem dX10_makesAll_14 : decode cX10_makesAll 14 = .ok (.ifCond .eq 6, 3) := by decide +kernel
theorem dX10_makesAll_17 : decode cX10_makesAll 17 = .ok (.goto 36, 3) := by decide +kernel
theorem dX10_makesAll_20 : decode cX10_makesAll 20 = .ok (.iload_n 0, 1) := by decide +kernel
theorem dX10_makesAll_21 : decode cX10_makesAll 21 = .ok (.i2l, 1) := by decide +kernel
theorem dX10_makesAll_22 : decode cX10_makesAll 22 = .ok (.iload_n 1, 1) := by decide +kernel
theorem dX10_makesAll_23 : decode cX10_makesAll 23 = .ok (.iconst 1, 1) := by decide +kernel
theorem dX10_makesAll_24 : decode cX10_makesAll 24 = .ok (.isub, 1) := by decide +kernel
theorem dX10_makesAll_25 : decode cX10_makesAll 25 = .ok (.iload_n 3, 1) := by decide +kernel
theorem dX10_makesAll_26 : decode cX10_makesAll 26 = .ok (.idiv, 1) := by decide +kernel
theorem dX10_makesAll_27 : decode cX10_makesAll 27 = .ok (.i2l, 1) := by decide +kernel
theorem dX10_makesAll_28 : decode cX10_makesAll 28 = .ok (.iload_n 1, 1) := by decide +kernel
theorem dX10_makesAll_29 : decode cX10_makesAll 29 = .ok (.i2l, 1) := by decide +kernel
theorem dX10_makesAll_30 : decode cX10_makesAll 30 = .ok (.invokestatic 155, 3) := by decide +kernel
theorem dX10_makesAll_33 : decode cX10_makesAll 33 = .ok (.lconst 1, 1) := by decide +kernel
theorem dX10_makesAll_34 : decode cX10_makesAll 34 = .ok (.lcmp, 1) := by decide +kernel
theorem dX10_makesAll_35 : decode cX10_makesAll 35 = .ok (.ifCond .ne 5, 3) := by decide +kernel
theorem dX10_makesAll_38 : decode cX10_makesAll 38 = .ok (.iconst 0, 1) := by decide +kernel
theorem dX10_makesAll_39 : decode cX10_makesAll 39 = .ok (.ireturn, 1) := by decide +kernel
theorem dX10_makesAll_40 : decode cX10_makesAll 40 = .ok (.iload_n 2, 1) := by decide +kernel
theorem dX10_makesAll_41 : decode cX10_makesAll 41 = .ok (.iload_n 3, 1) := by decide +kernel
theorem dX10_makesAll_42 : decode cX10_makesAll 42 = .ok (.irem, 1) := by decide +kernel
theorem dX10_makesAll_43 : decode cX10_makesAll 43 = .ok (.ifCond .ne 10, 3) := by decide +kernel
theorem dX10_makesAll_46 : decode cX10_makesAll 46 = .ok (.iload_n 2, 1) := by decide +kernel
theorem dX10_makesAll_47 : decode cX10_makesAll 47 = .ok (.iload_n 3, 1) := by decide +kernel
theorem dX10_makesAll_48 : decode cX10_makesAll 48 = .ok (.idiv, 1) := by decide +kernel
theorem dX10_makesAll_49 : decode cX10_makesAll 49 = .ok (.istore_n 2, 1) := by decide +kernel
theorem dX10_makesAll_50 : decode cX10_makesAll 50 = .ok (.goto (-10), 3) := by decide +kernel
theorem dX10_makesAll_53 : decode cX10_makesAll 53 = .ok (.iinc 3 1, 3) := by decide +kernel
theorem dX10_makesAll_56 : decode cX10_makesAll 56 = .ok (.goto (-50), 3) := by decide +kernel
theorem dX10_makesAll_59 : decode cX10_makesAll 59 = .ok (.iconst 1, 1) := by decide +kernel
theorem dX10_makesAll_60 : decode cX10_makesAll 60 = .ok (.ireturn, 1) := by decide +kernel
theorem dX10_generator_0 : decode cX10_generator 0 = .ok (.iconst 2, 1) := by decide +kernel
theorem dX10_generator_1 : decode cX10_generator 1 = .ok (.istore_n 1, 1) := by decide +kernel
theorem dX10_generator_2 : decode cX10_generator 2 = .ok (.iload_n 1, 1) := by decide +kernel
theorem dX10_generator_3 : decode cX10_generator 3 = .ok (.iload_n 0, 1) := by decide +kernel
theorem dX10_generator_4 : decode cX10_generator 4 = .ok (.invokestatic 159, 3) := by decide +kernel
theorem dX10_generator_7 : decode cX10_generator 7 = .ok (.ifCond .ne 9, 3) := by decide +kernel
theorem dX10_generator_10 : decode cX10_generator 10 = .ok (.iinc 1 1, 3) := by decide +kernel
theorem dX10_generator_13 : decode cX10_generator 13 = .ok (.goto (-11), 3) := by decide +kernel
theorem dX10_generator_16 : decode cX10_generator 16 = .ok (.iload_n 1, 1) := by decide +kernel
theorem dX10_generator_17 : decode cX10_generator 17 = .ok (.ireturn, 1) := by decide +kernel
theorem dX10_factors_0 : decode cX10_factors 0 = .ok (.iconst 0, 1) := by decide +kernel
theorem dX10_factors_1 : decode cX10_factors 1 = .ok (.istore_n 1, 1) := by decide +kernel
theorem dX10_factors_2 : decode cX10_factors 2 = .ok (.iload_n 0, 1) := by decide +kernel
theorem dX10_factors_3 : decode cX10_factors 3 = .ok (.istore_n 2, 1) := by decide +kernel
theorem dX10_factors_4 : decode cX10_factors 4 = .ok (.iconst 2, 1) := by decide +kernel
theorem dX10_factors_5 : decode cX10_factors 5 = .ok (.istore_n 3, 1) := by decide +kernel
theorem dX10_factors_6 : decode cX10_factors 6 = .ok (.iload_n 2, 1) := by decide +kernel
theorem dX10_factors_7 : decode cX10_factors 7 = .ok (.iconst 1, 1) := by decide +kernel
theorem dX10_factors_8 : decode cX10_factors 8 = .ok (.if_icmp .le 34, 3) := by decide +kernel
theorem dX10_factors_11 : decode cX10_factors 11 = .ok (.iload_n 2, 1) := by decide +kernel
theorem dX10_factors_12 : decode cX10_factors 12 = .ok (.iload_n 3, 1) := by decide +kernel
theorem dX10_factors_13 : decode cX10_factors 13 = .ok (.irem, 1) := by decide +kernel
theorem dX10_factors_14 : decode cX10_factors 14 = .ok (.ifCond .eq 6, 3) := by decide +kernel
theorem dX10_factors_17 : decode cX10_factors 17 = .ok (.goto 19, 3) := by decide +kernel
theorem dX10_factors_20 : decode cX10_factors 20 = .ok (.iinc 1 1, 3) := by decide +kernel
theorem dX10_factors_23 : decode cX10_factors 23 = .ok (.iload_n 2, 1) := by decide +kernel
theorem dX10_factors_24 : decode cX10_factors 24 = .ok (.iload_n 3, 1) := by decide +kernel
theorem dX10_factors_25 : decode cX10_factors 25 = .ok (.irem, 1) := by decide +kernel
theorem dX10_factors_26 : decode cX10_factors 26 = .ok (.ifCond .ne 10, 3) := by decide +kernel
theorem dX10_factors_29 : decode cX10_factors 29 = .ok (.iload_n 2, 1) := by decide +kernel
theorem dX10_factors_30 : decode cX10_factors 30 = .ok (.iload_n 3, 1) := by decide +kernel
theorem dX10_factors_31 : decode cX10_factors 31 = .ok (.idiv, 1) := by decide +kernel
theorem dX10_factors_32 : decode cX10_factors 32 = .ok (.istore_n 2, 1) := by decide +kernel
theorem dX10_factors_33 : decode cX10_factors 33 = .ok (.goto (-10), 3) := by decide +kernel
theorem dX10_factors_36 : decode cX10_factors 36 = .ok (.iinc 3 1, 3) := by decide +kernel
theorem dX10_factors_39 : decode cX10_factors 39 = .ok (.goto (-33), 3) := by decide +kernel
theorem dX10_factors_42 : decode cX10_factors 42 = .ok (.iload_n 1, 1) := by decide +kernel
theorem dX10_factors_43 : decode cX10_factors 43 = .ok (.ireturn, 1) := by decide +kernel
theorem dX10_twos_0 : decode cX10_twos 0 = .ok (.iconst 1, 1) := by decide +kernel
theorem dX10_twos_1 : decode cX10_twos 1 = .ok (.istore_n 1, 1) := by decide +kernel
theorem dX10_twos_2 : decode cX10_twos 2 = .ok (.iload_n 0, 1) := by decide +kernel
theorem dX10_twos_3 : decode cX10_twos 3 = .ok (.iconst 2, 1) := by decide +kernel
theorem dX10_twos_4 : decode cX10_twos 4 = .ok (.iload_n 1, 1) := by decide +kernel
theorem dX10_twos_5 : decode cX10_twos 5 = .ok (.imul, 1) := by decide +kernel
theorem dX10_twos_6 : decode cX10_twos 6 = .ok (.irem, 1) := by decide +kernel
theorem dX10_twos_7 : decode cX10_twos 7 = .ok (.ifCond .ne 10, 3) := by decide +kernel
theorem dX10_twos_10 : decode cX10_twos 10 = .ok (.iload_n 1, 1) := by decide +kernel
theorem dX10_twos_11 : decode cX10_twos 11 = .ok (.iconst 2, 1) := by decide +kernel
theorem dX10_twos_12 : decode cX10_twos 12 = .ok (.imul, 1) := by decide +kernel
theorem dX10_twos_13 : decode cX10_twos 13 = .ok (.istore_n 1, 1) := by decide +kernel
theorem dX10_twos_14 : decode cX10_twos 14 = .ok (.goto (-12), 3) := by decide +kernel
theorem dX10_twos_17 : decode cX10_twos 17 = .ok (.iload_n 1, 1) := by decide +kernel
theorem dX10_twos_18 : decode cX10_twos 18 = .ok (.ireturn, 1) := by decide +kernel
theorem dX10_divisors_0 : decode cX10_divisors 0 = .ok (.iconst 0, 1) := by decide +kernel
theorem dX10_divisors_1 : decode cX10_divisors 1 = .ok (.istore_n 1, 1) := by decide +kernel
theorem dX10_divisors_2 : decode cX10_divisors 2 = .ok (.iconst 1, 1) := by decide +kernel
theorem dX10_divisors_3 : decode cX10_divisors 3 = .ok (.istore_n 2, 1) := by decide +kernel
theorem dX10_divisors_4 : decode cX10_divisors 4 = .ok (.iload_n 2, 1) := by decide +kernel
theorem dX10_divisors_5 : decode cX10_divisors 5 = .ok (.bipush 64, 2) := by decide +kernel
theorem dX10_divisors_7 : decode cX10_divisors 7 = .ok (.if_icmp .gt 23, 3) := by decide +kernel
theorem dX10_divisors_10 : decode cX10_divisors 10 = .ok (.iload_n 1, 1) := by decide +kernel
theorem dX10_divisors_11 : decode cX10_divisors 11 = .ok (.iload_n 0, 1) := by decide +kernel
theorem dX10_divisors_12 : decode cX10_divisors 12 = .ok (.iload_n 2, 1) := by decide +kernel
theorem dX10_divisors_13 : decode cX10_divisors 13 = .ok (.irem, 1) := by decide +kernel
theorem dX10_divisors_14 : decode cX10_divisors 14 = .ok (.ifCond .ne 7, 3) := by decide +kernel
theorem dX10_divisors_17 : decode cX10_divisors 17 = .ok (.iconst 1, 1) := by decide +kernel
theorem dX10_divisors_18 : decode cX10_divisors 18 = .ok (.goto 4, 3) := by decide +kernel
theorem dX10_divisors_21 : decode cX10_divisors 21 = .ok (.iconst 0, 1) := by decide +kernel
theorem dX10_divisors_22 : decode cX10_divisors 22 = .ok (.iadd, 1) := by decide +kernel
theorem dX10_divisors_23 : decode cX10_divisors 23 = .ok (.istore_n 1, 1) := by decide +kernel
theorem dX10_divisors_24 : decode cX10_divisors 24 = .ok (.iinc 2 1, 3) := by decide +kernel
theorem dX10_divisors_27 : decode cX10_divisors 27 = .ok (.goto (-23), 3) := by decide +kernel
theorem dX10_divisors_30 : decode cX10_divisors 30 = .ok (.iload_n 1, 1) := by decide +kernel
theorem dX10_divisors_31 : decode cX10_divisors 31 = .ok (.ireturn, 1) := by decide +kernel
theorem dX10_prime_0 : decode cX10_prime 0 = .ok (.aload_n 0, 1) := by decide +kernel
theorem dX10_prime_1 : decode cX10_prime 1 = .ok (.aload_n 0, 1) := by decide +kernel
theorem dX10_prime_2 : decode cX10_prime 2 = .ok (.iload_n 1, 1) := by decide +kernel
theorem dX10_prime_3 : decode cX10_prime 3 = .ok (.invokevirtual 146, 3) := by decide +kernel
theorem dX10_prime_6 : decode cX10_prime 6 = .ok (.ifCond .ne 7, 3) := by decide +kernel
theorem dX10_prime_9 : decode cX10_prime 9 = .ok (.iconst 1, 1) := by decide +kernel
theorem dX10_prime_10 : decode cX10_prime 10 = .ok (.goto 20, 3) := by decide +kernel
theorem dX10_prime_13 : decode cX10_prime 13 = .ok (.iload_n 2, 1) := by decide +kernel
theorem dX10_prime_14 : decode cX10_prime 14 = .ok (.i2l, 1) := by decide +kernel
theorem dX10_prime_15 : decode cX10_prime 15 = .ok (.lconst 0, 1) := by decide +kernel
theorem dX10_prime_16 : decode cX10_prime 16 = .ok (.ldc2_w 163, 3) := by decide +kernel
theorem dX10_prime_19 : decode cX10_prime 19 = .ok (.invokestatic 46, 3) := by decide +kernel
theorem dX10_prime_22 : decode cX10_prime 22 = .ok (.ifCond .ne 7, 3) := by decide +kernel
theorem dX10_prime_25 : decode cX10_prime 25 = .ok (.iconst 2, 1) := by decide +kernel
theorem dX10_prime_26 : decode cX10_prime 26 = .ok (.goto 4, 3) := by decide +kernel
theorem dX10_prime_29 : decode cX10_prime 29 = .ok (.iconst 0, 1) := by decide +kernel
theorem dX10_prime_30 : decode cX10_prime 30 = .ok (.putfield 30, 3) := by decide +kernel
theorem dX10_prime_33 : decode cX10_prime 33 = .ok (.aload_n 0, 1) := by decide +kernel
theorem dX10_prime_34 : decode cX10_prime 34 = .ok (.getfield 30, 3) := by decide +kernel
theorem dX10_prime_37 : decode cX10_prime 37 = .ok (.ifCond .le 5, 3) := by decide +kernel
theorem dX10_prime_40 : decode cX10_prime 40 = .ok (.iconst 0, 1) := by decide +kernel
theorem dX10_prime_41 : decode cX10_prime 41 = .ok (.ireturn, 1) := by decide +kernel
theorem dX10_prime_42 : decode cX10_prime 42 = .ok (.aload_n 0, 1) := by decide +kernel
theorem dX10_prime_43 : decode cX10_prime 43 = .ok (.iload_n 1, 1) := by decide +kernel
theorem dX10_prime_44 : decode cX10_prime 44 = .ok (.invokevirtual 165, 3) := by decide +kernel
theorem dX10_prime_47 : decode cX10_prime 47 = .ok (.istore_n 3, 1) := by decide +kernel
theorem dX10_prime_48 : decode cX10_prime 48 = .ok (.iload_n 2, 1) := by decide +kernel
theorem dX10_prime_49 : decode cX10_prime 49 = .ok (.tableswitch 52 0 3 #[31, 33, 38, 45], 31) := by decide +kernel
theorem dX10_prime_80 : decode cX10_prime 80 = .ok (.iload_n 3, 1) := by decide +kernel
theorem dX10_prime_81 : decode cX10_prime 81 = .ok (.ireturn, 1) := by decide +kernel
theorem dX10_prime_82 : decode cX10_prime 82 = .ok (.iload_n 3, 1) := by decide +kernel
theorem dX10_prime_83 : decode cX10_prime 83 = .ok (.invokestatic 168, 3) := by decide +kernel
theorem dX10_prime_86 : decode cX10_prime 86 = .ok (.ireturn, 1) := by decide +kernel
theorem dX10_prime_87 : decode cX10_prime 87 = .ok (.iload_n 3, 1) := by decide +kernel
theorem dX10_prime_88 : decode cX10_prime 88 = .ok (.iconst 1, 1) := by decide +kernel
theorem dX10_prime_89 : decode cX10_prime 89 = .ok (.isub, 1) := by decide +kernel
theorem dX10_prime_90 : decode cX10_prime 90 = .ok (.invokestatic 171, 3) := by decide +kernel
theorem dX10_prime_93 : decode cX10_prime 93 = .ok (.ireturn, 1) := by decide +kernel
theorem dX10_prime_94 : decode cX10_prime 94 = .ok (.iload_n 3, 1) := by decide +kernel
theorem dX10_prime_95 : decode cX10_prime 95 = .ok (.iconst 1, 1) := by decide +kernel
theorem dX10_prime_96 : decode cX10_prime 96 = .ok (.isub, 1) := by decide +kernel
theorem dX10_prime_97 : decode cX10_prime 97 = .ok (.invokestatic 174, 3) := by decide +kernel
theorem dX10_prime_100 : decode cX10_prime 100 = .ok (.ireturn, 1) := by decide +kernel
theorem dX10_prime_101 : decode cX10_prime 101 = .ok (.iload_n 3, 1) := by decide +kernel
theorem dX10_prime_102 : decode cX10_prime 102 = .ok (.iconst 1, 1) := by decide +kernel
theorem dX10_prime_103 : decode cX10_prime 103 = .ok (.isub, 1) := by decide +kernel
theorem dX10_prime_104 : decode cX10_prime 104 = .ok (.invokestatic 177, 3) := by decide +kernel
theorem dX10_prime_107 : decode cX10_prime 107 = .ok (.ireturn, 1) := by decide +kernel
theorem dX10_rootOf_0 : decode cX10_rootOf 0 = .ok (.iload_n 0, 1) := by decide +kernel
theorem dX10_rootOf_1 : decode cX10_rootOf 1 = .ok (.invokestatic 168, 3) := by decide +kernel
theorem dX10_rootOf_4 : decode cX10_rootOf 4 = .ok (.i2l, 1) := by decide +kernel
theorem dX10_rootOf_5 : decode cX10_rootOf 5 = .ok (.iload_n 0, 1) := by decide +kernel
theorem dX10_rootOf_6 : decode cX10_rootOf 6 = .ok (.iconst 1, 1) := by decide +kernel
theorem dX10_rootOf_7 : decode cX10_rootOf 7 = .ok (.isub, 1) := by decide +kernel
theorem dX10_rootOf_8 : decode cX10_rootOf 8 = .ok (.iload_n 1, 1) := by decide +kernel
theorem dX10_rootOf_9 : decode cX10_rootOf 9 = .ok (.idiv, 1) := by decide +kernel
theorem dX10_rootOf_10 : decode cX10_rootOf 10 = .ok (.i2l, 1) := by decide +kernel
theorem dX10_rootOf_11 : decode cX10_rootOf 11 = .ok (.iload_n 0, 1) := by decide +kernel
theorem dX10_rootOf_12 : decode cX10_rootOf 12 = .ok (.i2l, 1) := by decide +kernel
theorem dX10_rootOf_13 : decode cX10_rootOf 13 = .ok (.invokestatic 155, 3) := by decide +kernel
theorem dX10_rootOf_16 : decode cX10_rootOf 16 = .ok (.lreturn, 1) := by decide +kernel
theorem dX10_root_0 : decode cX10_root 0 = .ok (.aload_n 0, 1) := by decide +kernel
theorem dX10_root_1 : decode cX10_root 1 = .ok (.aload_n 0, 1) := by decide +kernel
theorem dX10_root_2 : decode cX10_root 2 = .ok (.iload_n 1, 1) := by decide +kernel
theorem dX10_root_3 : decode cX10_root 3 = .ok (.invokevirtual 146, 3) := by decide +kernel
theorem dX10_root_6 : decode cX10_root 6 = .ok (.ifCond .ne 7, 3) := by decide +kernel
theorem dX10_root_9 : decode cX10_root 9 = .ok (.iconst 1, 1) := by decide +kernel
theorem dX10_root_10 : decode cX10_root 10 = .ok (.goto 41, 3) := by decide +kernel
theorem dX10_root_13 : decode cX10_root 13 = .ok (.iload_n 2, 1) := by decide +kernel
theorem dX10_root_14 : decode cX10_root 14 = .ok (.i2l, 1) := by decide +kernel
theorem dX10_root_15 : decode cX10_root 15 = .ok (.lconst 1, 1) := by decide +kernel
theorem dX10_root_16 : decode cX10_root 16 = .ok (.aload_n 0, 1) := by decide +kernel
theorem dX10_root_17 : decode cX10_root 17 = .ok (.iload_n 1, 1) := by decide +kernel
theorem dX10_root_18 : decode cX10_root 18 = .ok (.invokevirtual 165, 3) := by decide +kernel
theorem dX10_root_21 : decode cX10_root 21 = .ok (.iconst 1, 1) := by decide +kernel
theorem dX10_root_22 : decode cX10_root 22 = .ok (.isub, 1) := by decide +kernel
theorem dX10_root_23 : decode cX10_root 23 = .ok (.i2l, 1) := by decide +kernel
theorem dX10_root_24 : decode cX10_root 24 = .ok (.invokestatic 46, 3) := by decide +kernel
theorem dX10_root_27 : decode cX10_root 27 = .ok (.ifCond .ne 7, 3) := by decide +kernel
theorem dX10_root_30 : decode cX10_root 30 = .ok (.iconst 2, 1) := by decide +kernel
theorem dX10_root_31 : decode cX10_root 31 = .ok (.goto 20, 3) := by decide +kernel
theorem dX10_root_34 : decode cX10_root 34 = .ok (.aload_n 0, 1) := by decide +kernel
theorem dX10_root_35 : decode cX10_root 35 = .ok (.iload_n 1, 1) := by decide +kernel
theorem dX10_root_36 : decode cX10_root 36 = .ok (.invokevirtual 165, 3) := by decide +kernel
theorem dX10_root_39 : decode cX10_root 39 = .ok (.iconst 1, 1) := by decide +kernel
theorem dX10_root_40 : decode cX10_root 40 = .ok (.isub, 1) := by decide +kernel
theorem dX10_root_41 : decode cX10_root 41 = .ok (.iload_n 2, 1) := by decide +kernel
theorem dX10_root_42 : decode cX10_root 42 = .ok (.irem, 1) := by decide +kernel
theorem dX10_root_43 : decode cX10_root 43 = .ok (.ifCond .eq 7, 3) := by decide +kernel
theorem dX10_root_46 : decode cX10_root 46 = .ok (.iconst 3, 1) := by decide +kernel
theorem dX10_root_47 : decode cX10_root 47 = .ok (.goto 4, 3) := by decide +kernel
theorem dX10_root_50 : decode cX10_root 50 = .ok (.iconst 0, 1) := by decide +kernel
theorem dX10_root_51 : decode cX10_root 51 = .ok (.putfield 30, 3) := by decide +kernel
theorem dX10_root_54 : decode cX10_root 54 = .ok (.aload_n 0, 1) := by decide +kernel
theorem dX10_root_55 : decode cX10_root 55 = .ok (.getfield 30, 3) := by decide +kernel
theorem dX10_root_58 : decode cX10_root 58 = .ok (.ifCond .le 7, 3) := by decide +kernel
theorem dX10_root_61 : decode cX10_root 61 = .ok (.iconst 0, 1) := by decide +kernel
theorem dX10_root_62 : decode cX10_root 62 = .ok (.goto 13, 3) := by decide +kernel
theorem dX10_root_65 : decode cX10_root 65 = .ok (.aload_n 0, 1) := by decide +kernel
theorem dX10_root_66 : decode cX10_root 66 = .ok (.iload_n 1, 1) := by decide +kernel
theorem dX10_root_67 : decode cX10_root 67 = .ok (.invokevirtual 165, 3) := by decide +kernel
theorem dX10_root_70 : decode cX10_root 70 = .ok (.iload_n 2, 1) := by decide +kernel
theorem dX10_root_71 : decode cX10_root 71 = .ok (.invokestatic 180, 3) := by decide +kernel
theorem dX10_root_74 : decode cX10_root 74 = .ok (.l2i, 1) := by decide +kernel
theorem dX10_root_75 : decode cX10_root 75 = .ok (.ireturn, 1) := by decide +kernel
theorem dX10_power_0 : decode cX10_power 0 = .ok (.aload_n 0, 1) := by decide +kernel
theorem dX10_power_1 : decode cX10_power 1 = .ok (.aload_n 0, 1) := by decide +kernel
theorem dX10_power_2 : decode cX10_power 2 = .ok (.iload_n 1, 1) := by decide +kernel
theorem dX10_power_3 : decode cX10_power 3 = .ok (.invokevirtual 146, 3) := by decide +kernel
theorem dX10_power_6 : decode cX10_power 6 = .ok (.ifCond .ne 7, 3) := by decide +kernel
theorem dX10_power_9 : decode cX10_power 9 = .ok (.iconst 1, 1) := by decide +kernel
theorem dX10_power_10 : decode cX10_power 10 = .ok (.goto 12, 3) := by decide +kernel
theorem dX10_power_13 : decode cX10_power 13 = .ok (.iload_n 3, 1) := by decide +kernel
theorem dX10_power_14 : decode cX10_power 14 = .ok (.ifCond .ge 7, 3) := by decide +kernel
theorem dX10_power_17 : decode cX10_power 17 = .ok (.iconst 2, 1) := by decide +kernel
theorem dX10_power_18 : decode cX10_power 18 = .ok (.goto 4, 3) := by decide +kernel
theorem dX10_power_21 : decode cX10_power 21 = .ok (.iconst 0, 1) := by decide +kernel
theorem dX10_power_22 : decode cX10_power 22 = .ok (.putfield 30, 3) := by decide +kernel
theorem dX10_power_25 : decode cX10_power 25 = .ok (.aload_n 0, 1) := by decide +kernel
theorem dX10_power_26 : decode cX10_power 26 = .ok (.getfield 30, 3) := by decide +kernel
theorem dX10_power_29 : decode cX10_power 29 = .ok (.ifCond .le 7, 3) := by decide +kernel
theorem dX10_power_32 : decode cX10_power 32 = .ok (.iconst 0, 1) := by decide +kernel
theorem dX10_power_33 : decode cX10_power 33 = .ok (.goto 17, 3) := by decide +kernel
theorem dX10_power_36 : decode cX10_power 36 = .ok (.iload_n 2, 1) := by decide +kernel
theorem dX10_power_37 : decode cX10_power 37 = .ok (.i2l, 1) := by decide +kernel
theorem dX10_power_38 : decode cX10_power 38 = .ok (.iload_n 3, 1) := by decide +kernel
theorem dX10_power_39 : decode cX10_power 39 = .ok (.i2l, 1) := by decide +kernel
theorem dX10_power_40 : decode cX10_power 40 = .ok (.aload_n 0, 1) := by decide +kernel
theorem dX10_power_41 : decode cX10_power 41 = .ok (.iload_n 1, 1) := by decide +kernel
theorem dX10_power_42 : decode cX10_power 42 = .ok (.invokevirtual 165, 3) := by decide +kernel
theorem dX10_power_45 : decode cX10_power 45 = .ok (.i2l, 1) := by decide +kernel
theorem dX10_power_46 : decode cX10_power 46 = .ok (.invokestatic 155, 3) := by decide +kernel
theorem dX10_power_49 : decode cX10_power 49 = .ok (.l2i, 1) := by decide +kernel
theorem dX10_power_50 : decode cX10_power 50 = .ok (.ireturn, 1) := by decide +kernel
theorem dX10_noUnit_0 : decode cX10_noUnit 0 = .ok (.aload_n 0, 1) := by decide +kernel
theorem dX10_noUnit_1 : decode cX10_noUnit 1 = .ok (.iload_n 1, 1) := by decide +kernel
theorem dX10_noUnit_2 : decode cX10_noUnit 2 = .ok (.invokevirtual 146, 3) := by decide +kernel
theorem dX10_noUnit_5 : decode cX10_noUnit 5 = .ok (.ifCond .ne 7, 3) := by decide +kernel
theorem dX10_noUnit_8 : decode cX10_noUnit 8 = .ok (.iconst 1, 1) := by decide +kernel
theorem dX10_noUnit_9 : decode cX10_noUnit 9 = .ok (.goto 18, 3) := by decide +kernel
theorem dX10_noUnit_12 : decode cX10_noUnit 12 = .ok (.iload_n 2, 1) := by decide +kernel
theorem dX10_noUnit_13 : decode cX10_noUnit 13 = .ok (.aload_n 0, 1) := by decide +kernel
theorem dX10_noUnit_14 : decode cX10_noUnit 14 = .ok (.iload_n 1, 1) := by decide +kernel
theorem dX10_noUnit_15 : decode cX10_noUnit 15 = .ok (.invokevirtual 165, 3) := by decide +kernel
theorem dX10_noUnit_18 : decode cX10_noUnit 18 = .ok (.irem, 1) := by decide +kernel
theorem dX10_noUnit_19 : decode cX10_noUnit 19 = .ok (.ifCond .ne 7, 3) := by decide +kernel
theorem dX10_noUnit_22 : decode cX10_noUnit 22 = .ok (.iconst 2, 1) := by decide +kernel
theorem dX10_noUnit_23 : decode cX10_noUnit 23 = .ok (.goto 4, 3) := by decide +kernel
theorem dX10_noUnit_26 : decode cX10_noUnit 26 = .ok (.iconst 0, 1) := by decide +kernel
theorem dX10_noUnit_27 : decode cX10_noUnit 27 = .ok (.ireturn, 1) := by decide +kernel
theorem dX10_inverse_0 : decode cX10_inverse 0 = .ok (.aload_n 0, 1) := by decide +kernel
theorem dX10_inverse_1 : decode cX10_inverse 1 = .ok (.aload_n 0, 1) := by decide +kernel
theorem dX10_inverse_2 : decode cX10_inverse 2 = .ok (.iload_n 1, 1) := by decide +kernel
theorem dX10_inverse_3 : decode cX10_inverse 3 = .ok (.iload_n 2, 1) := by decide +kernel
theorem dX10_inverse_4 : decode cX10_inverse 4 = .ok (.invokevirtual 184, 3) := by decide +kernel
theorem dX10_inverse_7 : decode cX10_inverse 7 = .ok (.putfield 30, 3) := by decide +kernel
theorem dX10_inverse_10 : decode cX10_inverse 10 = .ok (.aload_n 0, 1) := by decide +kernel
theorem dX10_inverse_11 : decode cX10_inverse 11 = .ok (.getfield 30, 3) := by decide +kernel
theorem dX10_inverse_14 : decode cX10_inverse 14 = .ok (.ifCond .le 7, 3) := by decide +kernel
theorem dX10_inverse_17 : decode cX10_inverse 17 = .ok (.iconst 0, 1) := by decide +kernel
theorem dX10_inverse_18 : decode cX10_inverse 18 = .ok (.goto 23, 3) := by decide +kernel
theorem dX10_inverse_21 : decode cX10_inverse 21 = .ok (.iload_n 2, 1) := by decide +kernel
theorem dX10_inverse_22 : decode cX10_inverse 22 = .ok (.i2l, 1) := by decide +kernel
theorem dX10_inverse_23 : decode cX10_inverse 23 = .ok (.aload_n 0, 1) := by decide +kernel
theorem dX10_inverse_24 : decode cX10_inverse 24 = .ok (.iload_n 1, 1) := by decide +kernel
theorem dX10_inverse_25 : decode cX10_inverse 25 = .ok (.invokevirtual 165, 3) := by decide +kernel
theorem dX10_inverse_28 : decode cX10_inverse 28 = .ok (.iconst 2, 1) := by decide +kernel
theorem dX10_inverse_29 : decode cX10_inverse 29 = .ok (.isub, 1) := by decide +kernel
theorem dX10_inverse_30 : decode cX10_inverse 30 = .ok (.i2l, 1) := by decide +kernel
theorem dX10_inverse_31 : decode cX10_inverse 31 = .ok (.aload_n 0, 1) := by decide +kernel
theorem dX10_inverse_32 : decode cX10_inverse 32 = .ok (.iload_n 1, 1) := by decide +kernel
theorem dX10_inverse_33 : decode cX10_inverse 33 = .ok (.invokevirtual 165, 3) := by decide +kernel
theorem dX10_inverse_36 : decode cX10_inverse 36 = .ok (.i2l, 1) := by decide +kernel
theorem dX10_inverse_37 : decode cX10_inverse 37 = .ok (.invokestatic 155, 3) := by decide +kernel
theorem dX10_inverse_40 : decode cX10_inverse 40 = .ok (.l2i, 1) := by decide +kernel
theorem dX10_inverse_41 : decode cX10_inverse 41 = .ok (.ireturn, 1) := by decide +kernel
theorem dX10_modulo_0 : decode cX10_modulo 0 = .ok (.lload_n 0, 1) := by decide +kernel
theorem dX10_modulo_1 : decode cX10_modulo 1 = .ok (.iload_n 2, 1) := by decide +kernel
theorem dX10_modulo_2 : decode cX10_modulo 2 = .ok (.i2l, 1) := by decide +kernel
theorem dX10_modulo_3 : decode cX10_modulo 3 = .ok (.lrem, 1) := by decide +kernel
theorem dX10_modulo_4 : decode cX10_modulo 4 = .ok (.iload_n 2, 1) := by decide +kernel
theorem dX10_modulo_5 : decode cX10_modulo 5 = .ok (.i2l, 1) := by decide +kernel
theorem dX10_modulo_6 : decode cX10_modulo 6 = .ok (.ladd, 1) := by decide +kernel
theorem dX10_modulo_7 : decode cX10_modulo 7 = .ok (.iload_n 2, 1) := by decide +kernel
theorem dX10_modulo_8 : decode cX10_modulo 8 = .ok (.i2l, 1) := by decide +kernel
theorem dX10_modulo_9 : decode cX10_modulo 9 = .ok (.lrem, 1) := by decide +kernel
theorem dX10_modulo_10 : decode cX10_modulo 10 = .ok (.l2i, 1) := by decide +kernel
theorem dX10_modulo_11 : decode cX10_modulo 11 = .ok (.ireturn, 1) := by decide +kernel
theorem dX10_order_0 : decode cX10_order 0 = .ok (.aload_n 0, 1) := by decide +kernel
theorem dX10_order_1 : decode cX10_order 1 = .ok (.aload_n 0, 1) := by decide +kernel
theorem dX10_order_2 : decode cX10_order 2 = .ok (.iload_n 1, 1) := by decide +kernel
theorem dX10_order_3 : decode cX10_order 3 = .ok (.iload_n 2, 1) := by decide +kernel
theorem dX10_order_4 : decode cX10_order 4 = .ok (.invokevirtual 184, 3) := by decide +kernel
theorem dX10_order_7 : decode cX10_order 7 = .ok (.putfield 30, 3) := by decide +kernel
theorem dX10_order_10 : decode cX10_order 10 = .ok (.aload_n 0, 1) := by decide +kernel
theorem dX10_order_11 : decode cX10_order 11 = .ok (.getfield 30, 3) := by decide +kernel
theorem dX10_order_14 : decode cX10_order 14 = .ok (.ifCond .le 5, 3) := by decide +kernel
theorem dX10_order_17 : decode cX10_order 17 = .ok (.iconst 0, 1) := by decide +kernel
theorem dX10_order_18 : decode cX10_order 18 = .ok (.ireturn, 1) := by decide +kernel
theorem dX10_order_19 : decode cX10_order 19 = .ok (.aload_n 0, 1) := by decide +kernel
theorem dX10_order_20 : decode cX10_order 20 = .ok (.iload_n 1, 1) := by decide +kernel
theorem dX10_order_21 : decode cX10_order 21 = .ok (.invokevirtual 165, 3) := by decide +kernel
theorem dX10_order_24 : decode cX10_order 24 = .ok (.istore_n 3, 1) := by decide +kernel
theorem dX10_order_25 : decode cX10_order 25 = .ok (.iload_n 2, 1) := by decide +kernel
theorem dX10_order_26 : decode cX10_order 26 = .ok (.i2l, 1) := by decide +kernel
theorem dX10_order_27 : decode cX10_order 27 = .ok (.iload_n 3, 1) := by decide +kernel
theorem dX10_order_28 : decode cX10_order 28 = .ok (.invokestatic 187, 3) := by decide +kernel
theorem dX10_order_31 : decode cX10_order 31 = .ok (.i2l, 1) := by decide +kernel
theorem dX10_order_32 : decode cX10_order 32 = .ok (.lstore 4, 2) := by decide +kernel
theorem dX10_order_34 : decode cX10_order 34 = .ok (.iconst 1, 1) := by decide +kernel
theorem dX10_order_35 : decode cX10_order 35 = .ok (.istore 6, 2) := by decide +kernel
theorem dX10_order_37 : decode cX10_order 37 = .ok (.lload 4, 2) := by decide +kernel
theorem dX10_order_39 : decode cX10_order 39 = .ok (.lstore 7, 2) := by decide +kernel
theorem dX10_order_41 : decode cX10_order 41 = .ok (.lload 7, 2) := by decide +kernel
theorem dX10_order_43 : decode cX10_order 43 = .ok (.lconst 1, 1) := by decide +kernel
theorem dX10_order_44 : decode cX10_order 44 = .ok (.lcmp, 1) := by decide +kernel
theorem dX10_order_45 : decode cX10_order 45 = .ok (.ifCond .eq 19, 3) := by decide +kernel
theorem dX10_order_48 : decode cX10_order 48 = .ok (.iinc 6 1, 3) := by decide +kernel
theorem dX10_order_51 : decode cX10_order 51 = .ok (.lload 7, 2) := by decide +kernel
theorem dX10_order_53 : decode cX10_order 53 = .ok (.lload 4, 2) := by decide +kernel
theorem dX10_order_55 : decode cX10_order 55 = .ok (.lmul, 1) := by decide +kernel
theorem dX10_order_56 : decode cX10_order 56 = .ok (.iload_n 3, 1) := by decide +kernel
theorem dX10_order_57 : decode cX10_order 57 = .ok (.i2l, 1) := by decide +kernel
theorem dX10_order_58 : decode cX10_order 58 = .ok (.lrem, 1) := by decide +kernel
theorem dX10_order_59 : decode cX10_order 59 = .ok (.lstore 7, 2) := by decide +kernel
theorem dX10_order_61 : decode cX10_order 61 = .ok (.goto (-20), 3) := by decide +kernel
theorem dX10_order_64 : decode cX10_order 64 = .ok (.iload 6, 2) := by decide +kernel
theorem dX10_order_66 : decode cX10_order 66 = .ok (.ireturn, 1) := by decide +kernel
theorem dX10_logarithm_0 : decode cX10_logarithm 0 = .ok (.aload_n 0, 1) := by decide +kernel
theorem dX10_logarithm_1 : decode cX10_logarithm 1 = .ok (.aload_n 0, 1) := by decide +kernel
theorem dX10_logarithm_2 : decode cX10_logarithm 2 = .ok (.iload_n 1, 1) := by decide +kernel
theorem dX10_logarithm_3 : decode cX10_logarithm 3 = .ok (.iload_n 2, 1) := by decide +kernel
theorem dX10_logarithm_4 : decode cX10_logarithm 4 = .ok (.invokevirtual 184, 3) := by decide +kernel
theorem dX10_logarithm_7 : decode cX10_logarithm 7 = .ok (.putfield 30, 3) := by decide +kernel
theorem dX10_logarithm_10 : decode cX10_logarithm 10 = .ok (.aload_n 0, 1) := by decide +kernel
theorem dX10_logarithm_11 : decode cX10_logarithm 11 = .ok (.getfield 30, 3) := by decide +kernel
theorem dX10_logarithm_14 : decode cX10_logarithm 14 = .ok (.ifCond .le 5, 3) := by decide +kernel
theorem dX10_logarithm_17 : decode cX10_logarithm 17 = .ok (.iconst 0, 1) := by decide +kernel
theorem dX10_logarithm_18 : decode cX10_logarithm 18 = .ok (.ireturn, 1) := by decide +kernel
theorem dX10_logarithm_19 : decode cX10_logarithm 19 = .ok (.aload_n 0, 1) := by decide +kernel
theorem dX10_logarithm_20 : decode cX10_logarithm 20 = .ok (.iload_n 1, 1) := by decide +kernel
theorem dX10_logarithm_21 : decode cX10_logarithm 21 = .ok (.invokevirtual 165, 3) := by decide +kernel
theorem dX10_logarithm_24 : decode cX10_logarithm 24 = .ok (.istore_n 3, 1) := by decide +kernel
theorem dX10_logarithm_25 : decode cX10_logarithm 25 = .ok (.iload_n 3, 1) := by decide +kernel
theorem dX10_logarithm_26 : decode cX10_logarithm 26 = .ok (.invokestatic 168, 3) := by decide +kernel
theorem dX10_logarithm_29 : decode cX10_logarithm 29 = .ok (.istore 4, 2) := by decide +kernel
theorem dX10_logarithm_31 : decode cX10_logarithm 31 = .ok (.iconst 0, 1) := by decide +kernel
theorem dX10_logarithm_32 : decode cX10_logarithm 32 = .ok (.istore 5, 2) := by decide +kernel
theorem dX10_logarithm_34 : decode cX10_logarithm 34 = .ok (.lconst 1, 1) := by decide +kernel
theorem dX10_logarithm_35 : decode cX10_logarithm 35 = .ok (.lstore 6, 2) := by decide +kernel
theorem dX10_logarithm_37 : decode cX10_logarithm 37 = .ok (.lload 6, 2) := by decide +kernel
theorem dX10_logarithm_39 : decode cX10_logarithm 39 = .ok (.iload_n 2, 1) := by decide +kernel
theorem dX10_logarithm_40 : decode cX10_logarithm 40 = .ok (.i2l, 1) := by decide +kernel
theorem dX10_logarithm_41 : decode cX10_logarithm 41 = .ok (.iload_n 3, 1) := by decide +kernel
theorem dX10_logarithm_42 : decode cX10_logarithm 42 = .ok (.invokestatic 187, 3) := by decide +kernel
theorem dX10_logarithm_45 : decode cX10_logarithm 45 = .ok (.i2l, 1) := by decide +kernel
theorem dX10_logarithm_46 : decode cX10_logarithm 46 = .ok (.lcmp, 1) := by decide +kernel
theorem dX10_logarithm_47 : decode cX10_logarithm 47 = .ok (.ifCond .eq 20, 3) := by decide +kernel
theorem dX10_logarithm_50 : decode cX10_logarithm 50 = .ok (.iinc 5 1, 3) := by decide +kernel
theorem dX10_logarithm_53 : decode cX10_logarithm 53 = .ok (.lload 6, 2) := by decide +kernel
theorem dX10_logarithm_55 : decode cX10_logarithm 55 = .ok (.iload 4, 2) := by decide +kernel
theorem dX10_logarithm_57 : decode cX10_logarithm 57 = .ok (.i2l, 1) := by decide +kernel
theorem dX10_logarithm_58 : decode cX10_logarithm 58 = .ok (.lmul, 1) := by decide +kernel
theorem dX10_logarithm_59 : decode cX10_logarithm 59 = .ok (.iload_n 3, 1) := by decide +kernel
theorem dX10_logarithm_60 : decode cX10_logarithm 60 = .ok (.i2l, 1) := by decide +kernel
theorem dX10_logarithm_61 : decode cX10_logarithm 61 = .ok (.lrem, 1) := by decide +kernel
theorem dX10_logarithm_62 : decode cX10_logarithm 62 = .ok (.lstore 6, 2) := by decide +kernel
theorem dX10_logarithm_64 : decode cX10_logarithm 64 = .ok (.goto (-27), 3) := by decide +kernel
theorem dX10_logarithm_67 : decode cX10_logarithm 67 = .ok (.iload 5, 2) := by decide +kernel
theorem dX10_logarithm_69 : decode cX10_logarithm 69 = .ok (.ireturn, 1) := by decide +kernel
theorem dX10_isSlot_0 : decode cX10_isSlot 0 = .ok (.iload_n 0, 1) := by decide +kernel
theorem dX10_isSlot_1 : decode cX10_isSlot 1 = .ok (.i2l, 1) := by decide +kernel
theorem dX10_isSlot_2 : decode cX10_isSlot 2 = .ok (.lconst 0, 1) := by decide +kernel
theorem dX10_isSlot_3 : decode cX10_isSlot 3 = .ok (.ldc2_w 137, 3) := by decide +kernel
theorem dX10_isSlot_6 : decode cX10_isSlot 6 = .ok (.invokestatic 46, 3) := by decide +kernel
theorem dX10_isSlot_9 : decode cX10_isSlot 9 = .ok (.ireturn, 1) := by decide +kernel
theorem dX10_longOf_0 : decode cX10_longOf 0 = .ok (.aload_n 0, 1) := by decide +kernel
theorem dX10_longOf_1 : decode cX10_longOf 1 = .ok (.getfield 7, 3) := by decide +kernel
theorem dX10_longOf_4 : decode cX10_longOf 4 = .ok (.bipush 7, 2) := by decide +kernel
theorem dX10_longOf_6 : decode cX10_longOf 6 = .ok (.iload_n 1, 1) := by decide +kernel
theorem dX10_longOf_7 : decode cX10_longOf 7 = .ok (.iadd, 1) := by decide +kernel
theorem dX10_longOf_8 : decode cX10_longOf 8 = .ok (.laload, 1) := by decide +kernel
theorem dX10_longOf_9 : decode cX10_longOf 9 = .ok (.l2i, 1) := by decide +kernel
theorem dX10_longOf_10 : decode cX10_longOf 10 = .ok (.ireturn, 1) := by decide +kernel
theorem dX10_termOf_0 : decode cX10_termOf 0 = .ok (.aload_n 0, 1) := by decide +kernel
theorem dX10_termOf_1 : decode cX10_termOf 1 = .ok (.getfield 7, 3) := by decide +kernel
theorem dX10_termOf_4 : decode cX10_termOf 4 = .ok (.bipush 11, 2) := by decide +kernel
theorem dX10_termOf_6 : decode cX10_termOf 6 = .ok (.bipush 32, 2) := by decide +kernel
theorem dX10_termOf_8 : decode cX10_termOf 8 = .ok (.iload_n 1, 1) := by decide +kernel
theorem dX10_termOf_9 : decode cX10_termOf 9 = .ok (.imul, 1) := by decide +kernel
theorem dX10_termOf_10 : decode cX10_termOf 10 = .ok (.iadd, 1) := by decide +kernel
theorem dX10_termOf_11 : decode cX10_termOf 11 = .ok (.iload_n 2, 1) := by decide +kernel
theorem dX10_termOf_12 : decode cX10_termOf 12 = .ok (.iadd, 1) := by decide +kernel
theorem dX10_termOf_13 : decode cX10_termOf 13 = .ok (.laload, 1) := by decide +kernel
theorem dX10_termOf_14 : decode cX10_termOf 14 = .ok (.lreturn, 1) := by decide +kernel
theorem dX10_putTerm_0 : decode cX10_putTerm 0 = .ok (.aload_n 0, 1) := by decide +kernel
theorem dX10_putTerm_1 : decode cX10_putTerm 1 = .ok (.getfield 7, 3) := by decide +kernel
theorem dX10_putTerm_4 : decode cX10_putTerm 4 = .ok (.bipush 11, 2) := by decide +kernel
theorem dX10_putTerm_6 : decode cX10_putTerm 6 = .ok (.bipush 32, 2) := by decide +kernel
theorem dX10_putTerm_8 : decode cX10_putTerm 8 = .ok (.iload_n 1, 1) := by decide +kernel
theorem dX10_putTerm_9 : decode cX10_putTerm 9 = .ok (.imul, 1) := by decide +kernel
theorem dX10_putTerm_10 : decode cX10_putTerm 10 = .ok (.iadd, 1) := by decide +kernel
theorem dX10_putTerm_11 : decode cX10_putTerm 11 = .ok (.iload_n 2, 1) := by decide +kernel
theorem dX10_putTerm_12 : decode cX10_putTerm 12 = .ok (.iadd, 1) := by decide +kernel
theorem dX10_putTerm_13 : decode cX10_putTerm 13 = .ok (.lload_n 3, 1) := by decide +kernel
theorem dX10_putTerm_14 : decode cX10_putTerm 14 = .ok (.lastore, 1) := by decide +kernel
theorem dX10_putTerm_15 : decode cX10_putTerm 15 = .ok (.return_, 1) := by decide +kernel
theorem dX10_length_0 : decode cX10_length 0 = .ok (.aload_n 0, 1) := by decide +kernel
theorem dX10_length_1 : decode cX10_length 1 = .ok (.iload_n 1, 1) := by decide +kernel
theorem dX10_length_2 : decode cX10_length 2 = .ok (.invokestatic 191, 3) := by decide +kernel
theorem dX10_length_5 : decode cX10_length 5 = .ok (.ifCond .eq 7, 3) := by decide +kernel
theorem dX10_length_8 : decode cX10_length 8 = .ok (.iconst 0, 1) := by decide +kernel
theorem dX10_length_9 : decode cX10_length 9 = .ok (.goto 4, 3) := by decide +kernel
theorem dX10_length_12 : decode cX10_length 12 = .ok (.iconst 1, 1) := by decide +kernel
theorem dX10_length_13 : decode cX10_length 13 = .ok (.putfield 30, 3) := by decide +kernel
theorem dX10_length_16 : decode cX10_length 16 = .ok (.aload_n 0, 1) := by decide +kernel
theorem dX10_length_17 : decode cX10_length 17 = .ok (.getfield 30, 3) := by decide +kernel
theorem dX10_length_20 : decode cX10_length 20 = .ok (.ifCond .le 7, 3) := by decide +kernel
theorem dX10_length_23 : decode cX10_length 23 = .ok (.iconst 0, 1) := by decide +kernel
theorem dX10_length_24 : decode cX10_length 24 = .ok (.goto 8, 3) := by decide +kernel
theorem dX10_length_27 : decode cX10_length 27 = .ok (.aload_n 0, 1) := by decide +kernel
theorem dX10_length_28 : decode cX10_length 28 = .ok (.iload_n 1, 1) := by decide +kernel
theorem dX10_length_29 : decode cX10_length 29 = .ok (.invokevirtual 194, 3) := by decide +kernel
theorem dX10_length_32 : decode cX10_length 32 = .ok (.ireturn, 1) := by decide +kernel
theorem dX10_term_0 : decode cX10_term 0 = .ok (.aload_n 0, 1) := by decide +kernel
theorem dX10_term_1 : decode cX10_term 1 = .ok (.iload_n 1, 1) := by decide +kernel
theorem dX10_term_2 : decode cX10_term 2 = .ok (.invokestatic 191, 3) := by decide +kernel
theorem dX10_term_5 : decode cX10_term 5 = .ok (.ifCond .eq 24, 3) := by decide +kernel
theorem dX10_term_8 : decode cX10_term 8 = .ok (.iload_n 2, 1) := by decide +kernel
theorem dX10_term_9 : decode cX10_term 9 = .ok (.i2l, 1) := by decide +kernel
theorem dX10_term_10 : decode cX10_term 10 = .ok (.lconst 0, 1) := by decide +kernel
theorem dX10_term_11 : decode cX10_term 11 = .ok (.aload_n 0, 1) := by decide +kernel
theorem dX10_term_12 : decode cX10_term 12 = .ok (.iload_n 1, 1) := by decide +kernel
theorem dX10_term_13 : decode cX10_term 13 = .ok (.invokevirtual 194, 3) := by decide +kernel
theorem dX10_term_16 : decode cX10_term 16 = .ok (.iconst 1, 1) := by decide +kernel
theorem dX10_term_17 : decode cX10_term 17 = .ok (.isub, 1) := by decide +kernel
theorem dX10_term_18 : decode cX10_term 18 = .ok (.i2l, 1) := by decide +kernel
theorem dX10_term_19 : decode cX10_term 19 = .ok (.invokestatic 46, 3) := by decide +kernel
theorem dX10_term_22 : decode cX10_term 22 = .ok (.ifCond .eq 7, 3) := by decide +kernel
theorem dX10_term_25 : decode cX10_term 25 = .ok (.iconst 0, 1) := by decide +kernel
theorem dX10_term_26 : decode cX10_term 26 = .ok (.goto 4, 3) := by decide +kernel
theorem dX10_term_29 : decode cX10_term 29 = .ok (.iconst 1, 1) := by decide +kernel
theorem dX10_term_30 : decode cX10_term 30 = .ok (.putfield 30, 3) := by decide +kernel
theorem dX10_term_33 : decode cX10_term 33 = .ok (.aload_n 0, 1) := by decide +kernel
theorem dX10_term_34 : decode cX10_term 34 = .ok (.getfield 30, 3) := by decide +kernel
theorem dX10_term_37 : decode cX10_term 37 = .ok (.ifCond .le 7, 3) := by decide +kernel
theorem dX10_term_40 : decode cX10_term 40 = .ok (.iconst 0, 1) := by decide +kernel
theorem dX10_term_41 : decode cX10_term 41 = .ok (.goto 10, 3) := by decide +kernel
theorem dX10_term_44 : decode cX10_term 44 = .ok (.aload_n 0, 1) := by decide +kernel
theorem dX10_term_45 : decode cX10_term 45 = .ok (.iload_n 1, 1) := by decide +kernel
theorem dX10_term_46 : decode cX10_term 46 = .ok (.iload_n 2, 1) := by decide +kernel
theorem dX10_term_47 : decode cX10_term 47 = .ok (.invokevirtual 197, 3) := by decide +kernel
theorem dX10_term_50 : decode cX10_term 50 = .ok (.l2i, 1) := by decide +kernel
theorem dX10_term_51 : decode cX10_term 51 = .ok (.ireturn, 1) := by decide +kernel
theorem dX10_isTerm_0 : decode cX10_isTerm 0 = .ok (.lload_n 0, 1) := by decide +kernel
theorem dX10_isTerm_1 : decode cX10_isTerm 1 = .ok (.ldc2_w 200, 3) := by decide +kernel
theorem dX10_isTerm_4 : decode cX10_isTerm 4 = .ok (.ldc2_w 202, 3) := by decide +kernel
theorem dX10_isTerm_7 : decode cX10_isTerm 7 = .ok (.invokestatic 46, 3) := by decide +kernel
theorem dX10_isTerm_10 : decode cX10_isTerm 10 = .ok (.ireturn, 1) := by decide +kernel
theorem dX10_setSequence_0 : decode cX10_setSequence 0 = .ok (.iload_n 2, 1) := by decide +kernel
theorem dX10_setSequence_1 : decode cX10_setSequence 1 = .ok (.i2l, 1) := by decide +kernel
theorem dX10_setSequence_2 : decode cX10_setSequence 2 = .ok (.lconst 0, 1) := by decide +kernel
theorem dX10_setSequence_3 : decode cX10_setSequence 3 = .ok (.ldc2_w 204, 3) := by decide +kernel
theorem dX10_setSequence_6 : decode cX10_setSequence 6 = .ok (.invokestatic 46, 3) := by decide +kernel
theorem dX10_setSequence_9 : decode cX10_setSequence 9 = .ok (.ifCond .eq 22, 3) := by decide +kernel
theorem dX10_setSequence_12 : decode cX10_setSequence 12 = .ok (.iload 4, 2) := by decide +kernel
theorem dX10_setSequence_14 : decode cX10_setSequence 14 = .ok (.i2l, 1) := by decide +kernel
theorem dX10_setSequence_15 : decode cX10_setSequence 15 = .ok (.ldc2_w 206, 3) := by decide +kernel
theorem dX10_setSequence_18 : decode cX10_setSequence 18 = .ok (.ldc2_w 208, 3) := by decide +kernel
theorem dX10_setSequence_21 : decode cX10_setSequence 21 = .ok (.invokestatic 46, 3) := by decide +kernel
theorem dX10_setSequence_24 : decode cX10_setSequence 24 = .ok (.ifCond .eq 7, 3) := by decide +kernel
theorem dX10_setSequence_27 : decode cX10_setSequence 27 = .ok (.iconst 1, 1) := by decide +kernel
theorem dX10_setSequence_28 : decode cX10_setSequence 28 = .ok (.goto 4, 3) := by decide +kernel
theorem dX10_setSequence_31 : decode cX10_setSequence 31 = .ok (.iconst 0, 1) := by decide +kernel
theorem dX10_setSequence_32 : decode cX10_setSequence 32 = .ok (.istore 5, 2) := by decide +kernel
theorem dX10_setSequence_34 : decode cX10_setSequence 34 = .ok (.iload 5, 2) := by decide +kernel
theorem dX10_setSequence_36 : decode cX10_setSequence 36 = .ok (.ifCond .eq 39, 3) := by decide +kernel
theorem dX10_setSequence_39 : decode cX10_setSequence 39 = .ok (.iload_n 2, 1) := by decide +kernel
theorem dX10_setSequence_40 : decode cX10_setSequence 40 = .ok (.ifCond .le 35, 3) := by decide +kernel
theorem dX10_setSequence_43 : decode cX10_setSequence 43 = .ok (.iload_n 3, 1) := by decide +kernel
theorem dX10_setSequence_44 : decode cX10_setSequence 44 = .ok (.i2l, 1) := by decide +kernel
theorem dX10_setSequence_45 : decode cX10_setSequence 45 = .ok (.invokestatic 210, 3) := by decide +kernel
theorem dX10_setSequence_48 : decode cX10_setSequence 48 = .ok (.ifCond .eq 24, 3) := by decide +kernel
theorem dX10_setSequence_51 : decode cX10_setSequence 51 = .ok (.iload_n 3, 1) := by decide +kernel
theorem dX10_setSequence_52 : decode cX10_setSequence 52 = .ok (.i2l, 1) := by decide +kernel
theorem dX10_setSequence_53 : decode cX10_setSequence 53 = .ok (.iload 4, 2) := by decide +kernel
theorem dX10_setSequence_55 : decode cX10_setSequence 55 = .ok (.i2l, 1) := by decide +kernel
theorem dX10_setSequence_56 : decode cX10_setSequence 56 = .ok (.iload_n 2, 1) := by decide +kernel
theorem dX10_setSequence_57 : decode cX10_setSequence 57 = .ok (.iconst 1, 1) := by decide +kernel
theorem dX10_setSequence_58 : decode cX10_setSequence 58 = .ok (.isub, 1) := by decide +kernel
theorem dX10_setSequence_59 : decode cX10_setSequence 59 = .ok (.i2l, 1) := by decide +kernel
theorem dX10_setSequence_60 : decode cX10_setSequence 60 = .ok (.lmul, 1) := by decide +kernel
theorem dX10_setSequence_61 : decode cX10_setSequence 61 = .ok (.ladd, 1) := by decide +kernel
theorem dX10_setSequence_62 : decode cX10_setSequence 62 = .ok (.invokestatic 210, 3) := by decide +kernel
theorem dX10_setSequence_65 : decode cX10_setSequence 65 = .ok (.ifCond .eq 7, 3) := by decide +kernel
theorem dX10_setSequence_68 : decode cX10_setSequence 68 = .ok (.iconst 1, 1) := by decide +kernel
theorem dX10_setSequence_69 : decode cX10_setSequence 69 = .ok (.goto 4, 3) := by decide +kernel
theorem dX10_setSequence_72 : decode cX10_setSequence 72 = .ok (.iconst 0, 1) := by decide +kernel
theorem dX10_setSequence_73 : decode cX10_setSequence 73 = .ok (.istore 5, 2) := by decide +kernel
theorem dX10_setSequence_75 : decode cX10_setSequence 75 = .ok (.aload_n 0, 1) := by decide +kernel
theorem dX10_setSequence_76 : decode cX10_setSequence 76 = .ok (.iload_n 1, 1) := by decide +kernel
theorem dX10_setSequence_77 : decode cX10_setSequence 77 = .ok (.invokestatic 191, 3) := by decide +kernel
theorem dX10_setSequence_80 : decode cX10_setSequence 80 = .ok (.ifCond .ne 7, 3) := by decide +kernel
theorem dX10_setSequence_83 : decode cX10_setSequence 83 = .ok (.iconst 1, 1) := by decide +kernel
theorem dX10_setSequence_84 : decode cX10_setSequence 84 = .ok (.goto 13, 3) := by decide +kernel
theorem dX10_setSequence_87 : decode cX10_setSequence 87 = .ok (.iload 5, 2) := by decide +kernel
theorem dX10_setSequence_89 : decode cX10_setSequence 89 = .ok (.ifCond .eq 7, 3) := by decide +kernel
theorem dX10_setSequence_92 : decode cX10_setSequence 92 = .ok (.iconst 0, 1) := by decide +kernel
theorem dX10_setSequence_93 : decode cX10_setSequence 93 = .ok (.goto 4, 3) := by decide +kernel
theorem dX10_setSequence_96 : decode cX10_setSequence 96 = .ok (.iconst 2, 1) := by decide +kernel
theorem dX10_setSequence_97 : decode cX10_setSequence 97 = .ok (.putfield 30, 3) := by decide +kernel
theorem dX10_setSequence_100 : decode cX10_setSequence 100 = .ok (.aload_n 0, 1) := by decide +kernel
theorem dX10_setSequence_101 : decode cX10_setSequence 101 = .ok (.getfield 30, 3) := by decide +kernel
theorem dX10_setSequence_104 : decode cX10_setSequence 104 = .ok (.ifCond .le 5, 3) := by decide +kernel
theorem dX10_setSequence_107 : decode cX10_setSequence 107 = .ok (.iconst 0, 1) := by decide +kernel
theorem dX10_setSequence_108 : decode cX10_setSequence 108 = .ok (.ireturn, 1) := by decide +kernel
theorem dX10_setSequence_109 : decode cX10_setSequence 109 = .ok (.aload_n 0, 1) := by decide +kernel
theorem dX10_setSequence_110 : decode cX10_setSequence 110 = .ok (.invokevirtual 134, 3) := by decide +kernel
theorem dX10_setSequence_113 : decode cX10_setSequence 113 = .ok (.aload_n 0, 1) := by decide +kernel
theorem dX10_setSequence_114 : decode cX10_setSequence 114 = .ok (.iload_n 1, 1) := by decide +kernel
theorem dX10_setSequence_115 : decode cX10_setSequence 115 = .ok (.invokevirtual 194, 3) := by decide +kernel
theorem dX10_setSequence_118 : decode cX10_setSequence 118 = .ok (.istore 6, 2) := by decide +kernel
theorem dX10_setSequence_120 : decode cX10_setSequence 120 = .ok (.iconst 0, 1) := by decide +kernel
theorem dX10_setSequence_121 : decode cX10_setSequence 121 = .ok (.istore 7, 2) := by decide +kernel
theorem dX10_setSequence_123 : decode cX10_setSequence 123 = .ok (.iload 7, 2) := by decide +kernel
theorem dX10_setSequence_125 : decode cX10_setSequence 125 = .ok (.bipush 32, 2) := by decide +kernel
theorem dX10_setSequence_127 : decode cX10_setSequence 127 = .ok (.if_icmp .ge 36, 3) := by decide +kernel
theorem dX10_setSequence_130 : decode cX10_setSequence 130 = .ok (.aload_n 0, 1) := by decide +kernel
theorem dX10_setSequence_131 : decode cX10_setSequence 131 = .ok (.iload_n 1, 1) := by decide +kernel
theorem dX10_setSequence_132 : decode cX10_setSequence 132 = .ok (.iload 7, 2) := by decide +kernel
theorem dX10_setSequence_134 : decode cX10_setSequence 134 = .ok (.iload 7, 2) := by decide +kernel
theorem dX10_setSequence_136 : decode cX10_setSequence 136 = .ok (.iload_n 2, 1) := by decide +kernel
theorem dX10_setSequence_137 : decode cX10_setSequence 137 = .ok (.if_icmp .ge 16, 3) := by decide +kernel
theorem dX10_setSequence_140 : decode cX10_setSequence 140 = .ok (.iload_n 3, 1) := by decide +kernel
theorem dX10_setSequence_141 : decode cX10_setSequence 141 = .ok (.i2l, 1) := by decide +kernel
theorem dX10_setSequence_142 : decode cX10_setSequence 142 = .ok (.iload 4, 2) := by decide +kernel
theorem dX10_setSequence_144 : decode cX10_setSequence 144 = .ok (.i2l, 1) := by decide +kernel
theorem dX10_setSequence_145 : decode cX10_setSequence 145 = .ok (.iload 7, 2) := by decide +kernel
theorem dX10_setSequence_147 : decode cX10_setSequence 147 = .ok (.i2l, 1) := by decide +kernel
theorem dX10_setSequence_148 : decode cX10_setSequence 148 = .ok (.lmul, 1) := by decide +kernel
theorem dX10_setSequence_149 : decode cX10_setSequence 149 = .ok (.ladd, 1) := by decide +kernel
theorem dX10_setSequence_150 : decode cX10_setSequence 150 = .ok (.goto 4, 3) := by decide +kernel
theorem dX10_setSequence_153 : decode cX10_setSequence 153 = .ok (.lconst 0, 1) := by decide +kernel
theorem dX10_setSequence_154 : decode cX10_setSequence 154 = .ok (.invokevirtual 214, 3) := by decide +kernel
theorem dX10_setSequence_157 : decode cX10_setSequence 157 = .ok (.iinc 7 1, 3) := by decide +kernel
theorem dX10_setSequence_160 : decode cX10_setSequence 160 = .ok (.goto (-37), 3) := by decide +kernel
theorem dX10_setSequence_163 : decode cX10_setSequence 163 = .ok (.aload_n 0, 1) := by decide +kernel
theorem dX10_setSequence_164 : decode cX10_setSequence 164 = .ok (.getfield 7, 3) := by decide +kernel
theorem dX10_setSequence_167 : decode cX10_setSequence 167 = .ok (.bipush 7, 2) := by decide +kernel
theorem dX10_setSequence_169 : decode cX10_setSequence 169 = .ok (.iload_n 1, 1) := by decide +kernel
theorem dX10_setSequence_170 : decode cX10_setSequence 170 = .ok (.iadd, 1) := by decide +kernel
theorem dX10_setSequence_171 : decode cX10_setSequence 171 = .ok (.iload_n 2, 1) := by decide +kernel
theorem dX10_setSequence_172 : decode cX10_setSequence 172 = .ok (.i2l, 1) := by decide +kernel
theorem dX10_setSequence_173 : decode cX10_setSequence 173 = .ok (.lastore, 1) := by decide +kernel
theorem dX10_setSequence_174 : decode cX10_setSequence 174 = .ok (.iload 6, 2) := by decide +kernel
theorem dX10_setSequence_176 : decode cX10_setSequence 176 = .ok (.ireturn, 1) := by decide +kernel
theorem dX10_append_0 : decode cX10_append 0 = .ok (.aload_n 0, 1) := by decide +kernel
theorem dX10_append_1 : decode cX10_append 1 = .ok (.iload_n 1, 1) := by decide +kernel
theorem dX10_append_2 : decode cX10_append 2 = .ok (.invokestatic 191, 3) := by decide +kernel
theorem dX10_append_5 : decode cX10_append 5 = .ok (.ifCond .ne 7, 3) := by decide +kernel
theorem dX10_append_8 : decode cX10_append 8 = .ok (.iconst 1, 1) := by decide +kernel
theorem dX10_append_9 : decode cX10_append 9 = .ok (.goto 30, 3) := by decide +kernel
theorem dX10_append_12 : decode cX10_append 12 = .ok (.iload_n 2, 1) := by decide +kernel
theorem dX10_append_13 : decode cX10_append 13 = .ok (.i2l, 1) := by decide +kernel
theorem dX10_append_14 : decode cX10_append 14 = .ok (.invokestatic 210, 3) := by decide +kernel
theorem dX10_append_17 : decode cX10_append 17 = .ok (.ifCond .ne 7, 3) := by decide +kernel
theorem dX10_append_20 : decode cX10_append 20 = .ok (.iconst 2, 1) := by decide +kernel
theorem dX10_append_21 : decode cX10_append 21 = .ok (.goto 18, 3) := by decide +kernel
theorem dX10_append_24 : decode cX10_append 24 = .ok (.aload_n 0, 1) := by decide +kernel
theorem dX10_append_25 : decode cX10_append 25 = .ok (.iload_n 1, 1) := by decide +kernel
theorem dX10_append_26 : decode cX10_append 26 = .ok (.invokevirtual 194, 3) := by decide +kernel
theorem dX10_append_29 : decode cX10_append 29 = .ok (.bipush 32, 2) := by decide +kernel
theorem dX10_append_31 : decode cX10_append 31 = .ok (.if_icmp .ne 7, 3) := by decide +kernel
theorem dX10_append_34 : decode cX10_append 34 = .ok (.iconst 3, 1) := by decide +kernel
theorem dX10_append_35 : decode cX10_append 35 = .ok (.goto 4, 3) := by decide +kernel
theorem dX10_append_38 : decode cX10_append 38 = .ok (.iconst 0, 1) := by decide +kernel
theorem dX10_append_39 : decode cX10_append 39 = .ok (.putfield 30, 3) := by decide +kernel
theorem dX10_append_42 : decode cX10_append 42 = .ok (.aload_n 0, 1) := by decide +kernel
theorem dX10_append_43 : decode cX10_append 43 = .ok (.getfield 30, 3) := by decide +kernel
theorem dX10_append_46 : decode cX10_append 46 = .ok (.ifCond .le 5, 3) := by decide +kernel
theorem dX10_append_49 : decode cX10_append 49 = .ok (.iconst 0, 1) := by decide +kernel
theorem dX10_append_50 : decode cX10_append 50 = .ok (.ireturn, 1) := by decide +kernel
theorem dX10_append_51 : decode cX10_append 51 = .ok (.aload_n 0, 1) := by decide +kernel
theorem dX10_append_52 : decode cX10_append 52 = .ok (.invokevirtual 134, 3) := by decide +kernel
theorem dX10_append_55 : decode cX10_append 55 = .ok (.aload_n 0, 1) := by decide +kernel
theorem dX10_append_56 : decode cX10_append 56 = .ok (.iload_n 1, 1) := by decide +kernel
theorem dX10_append_57 : decode cX10_append 57 = .ok (.aload_n 0, 1) := by decide +kernel
theorem dX10_append_58 : decode cX10_append 58 = .ok (.iload_n 1, 1) := by decide +kernel
theorem dX10_append_59 : decode cX10_append 59 = .ok (.invokevirtual 194, 3) := by decide +kernel
theorem dX10_append_62 : decode cX10_append 62 = .ok (.iload_n 2, 1) := by decide +kernel
theorem dX10_append_63 : decode cX10_append 63 = .ok (.i2l, 1) := by decide +kernel
theorem dX10_append_64 : decode cX10_append 64 = .ok (.invokevirtual 214, 3) := by decide +kernel
theorem dX10_append_67 : decode cX10_append 67 = .ok (.aload_n 0, 1) := by decide +kernel
theorem dX10_append_68 : decode cX10_append 68 = .ok (.getfield 7, 3) := by decide +kernel
theorem dX10_append_71 : decode cX10_append 71 = .ok (.bipush 7, 2) := by decide +kernel
theorem dX10_append_73 : decode cX10_append 73 = .ok (.iload_n 1, 1) := by decide +kernel
theorem dX10_append_74 : decode cX10_append 74 = .ok (.iadd, 1) := by decide +kernel
theorem dX10_append_75 : decode cX10_append 75 = .ok (.dup2, 1) := by decide +kernel
theorem dX10_append_76 : decode cX10_append 76 = .ok (.laload, 1) := by decide +kernel
theorem dX10_append_77 : decode cX10_append 77 = .ok (.lconst 1, 1) := by decide +kernel
theorem dX10_append_78 : decode cX10_append 78 = .ok (.ladd, 1) := by decide +kernel
theorem dX10_append_79 : decode cX10_append 79 = .ok (.lastore, 1) := by decide +kernel
theorem dX10_append_80 : decode cX10_append 80 = .ok (.aload_n 0, 1) := by decide +kernel
theorem dX10_append_81 : decode cX10_append 81 = .ok (.iload_n 1, 1) := by decide +kernel
theorem dX10_append_82 : decode cX10_append 82 = .ok (.invokevirtual 194, 3) := by decide +kernel
theorem dX10_append_85 : decode cX10_append 85 = .ok (.ireturn, 1) := by decide +kernel
theorem dX10_cut_0 : decode cX10_cut 0 = .ok (.aload_n 0, 1) := by decide +kernel
theorem dX10_cut_1 : decode cX10_cut 1 = .ok (.iload_n 1, 1) := by decide +kernel
theorem dX10_cut_2 : decode cX10_cut 2 = .ok (.invokestatic 191, 3) := by decide +kernel
theorem dX10_cut_5 : decode cX10_cut 5 = .ok (.ifCond .ne 7, 3) := by decide +kernel
theorem dX10_cut_8 : decode cX10_cut 8 = .ok (.iconst 1, 1) := by decide +kernel
theorem dX10_cut_9 : decode cX10_cut 9 = .ok (.goto 23, 3) := by decide +kernel
theorem dX10_cut_12 : decode cX10_cut 12 = .ok (.iload_n 2, 1) := by decide +kernel
theorem dX10_cut_13 : decode cX10_cut 13 = .ok (.i2l, 1) := by decide +kernel
theorem dX10_cut_14 : decode cX10_cut 14 = .ok (.lconst 0, 1) := by decide +kernel
theorem dX10_cut_15 : decode cX10_cut 15 = .ok (.aload_n 0, 1) := by decide +kernel
theorem dX10_cut_16 : decode cX10_cut 16 = .ok (.iload_n 1, 1) := by decide +kernel
theorem dX10_cut_17 : decode cX10_cut 17 = .ok (.invokevirtual 194, 3) := by decide +kernel
theorem dX10_cut_20 : decode cX10_cut 20 = .ok (.i2l, 1) := by decide +kernel
theorem dX10_cut_21 : decode cX10_cut 21 = .ok (.invokestatic 46, 3) := by decide +kernel
theorem dX10_cut_24 : decode cX10_cut 24 = .ok (.ifCond .eq 7, 3) := by decide +kernel
theorem dX10_cut_27 : decode cX10_cut 27 = .ok (.iconst 0, 1) := by decide +kernel
theorem dX10_cut_28 : decode cX10_cut 28 = .ok (.goto 4, 3) := by decide +kernel
theorem dX10_cut_31 : decode cX10_cut 31 = .ok (.iconst 2, 1) := by decide +kernel
theorem dX10_cut_32 : decode cX10_cut 32 = .ok (.putfield 30, 3) := by decide +kernel
theorem dX10_cut_35 : decode cX10_cut 35 = .ok (.aload_n 0, 1) := by decide +kernel
theorem dX10_cut_36 : decode cX10_cut 36 = .ok (.getfield 30, 3) := by decide +kernel
theorem dX10_cut_39 : decode cX10_cut 39 = .ok (.ifCond .le 5, 3) := by decide +kernel
theorem dX10_cut_42 : decode cX10_cut 42 = .ok (.iconst 0, 1) := by decide +kernel
theorem dX10_cut_43 : decode cX10_cut 43 = .ok (.ireturn, 1) := by decide +kernel
theorem dX10_cut_44 : decode cX10_cut 44 = .ok (.aload_n 0, 1) := by decide +kernel
theorem dX10_cut_45 : decode cX10_cut 45 = .ok (.invokevirtual 134, 3) := by decide +kernel
theorem dX10_cut_48 : decode cX10_cut 48 = .ok (.aload_n 0, 1) := by decide +kernel
theorem dX10_cut_49 : decode cX10_cut 49 = .ok (.iload_n 1, 1) := by decide +kernel
theorem dX10_cut_50 : decode cX10_cut 50 = .ok (.invokevirtual 194, 3) := by decide +kernel
theorem dX10_cut_53 : decode cX10_cut 53 = .ok (.iload_n 2, 1) := by decide +kernel
theorem dX10_cut_54 : decode cX10_cut 54 = .ok (.isub, 1) := by decide +kernel
theorem dX10_cut_55 : decode cX10_cut 55 = .ok (.istore_n 3, 1) := by decide +kernel
theorem dX10_cut_56 : decode cX10_cut 56 = .ok (.aload_n 0, 1) := by decide +kernel
theorem dX10_cut_57 : decode cX10_cut 57 = .ok (.getfield 7, 3) := by decide +kernel
theorem dX10_cut_60 : decode cX10_cut 60 = .ok (.bipush 7, 2) := by decide +kernel
theorem dX10_cut_62 : decode cX10_cut 62 = .ok (.iload_n 1, 1) := by decide +kernel
theorem dX10_cut_63 : decode cX10_cut 63 = .ok (.iadd, 1) := by decide +kernel
theorem dX10_cut_64 : decode cX10_cut 64 = .ok (.iload_n 2, 1) := by decide +kernel
theorem dX10_cut_65 : decode cX10_cut 65 = .ok (.i2l, 1) := by decide +kernel
theorem dX10_cut_66 : decode cX10_cut 66 = .ok (.lastore, 1) := by decide +kernel
theorem dX10_cut_67 : decode cX10_cut 67 = .ok (.iload_n 3, 1) := by decide +kernel
theorem dX10_cut_68 : decode cX10_cut 68 = .ok (.ireturn, 1) := by decide +kernel
theorem dX10_swap_0 : decode cX10_swap 0 = .ok (.aload_n 0, 1) := by decide +kernel
theorem dX10_swap_1 : decode cX10_swap 1 = .ok (.iload_n 1, 1) := by decide +kernel
theorem dX10_swap_2 : decode cX10_swap 2 = .ok (.invokestatic 191, 3) := by decide +kernel
theorem dX10_swap_5 : decode cX10_swap 5 = .ok (.ifCond .eq 14, 3) := by decide +kernel
theorem dX10_swap_8 : decode cX10_swap 8 = .ok (.iload_n 2, 1) := by decide +kernel
theorem dX10_swap_9 : decode cX10_swap 9 = .ok (.invokestatic 191, 3) := by decide +kernel
theorem dX10_swap_12 : decode cX10_swap 12 = .ok (.ifCond .eq 7, 3) := by decide +kernel
theorem dX10_swap_15 : decode cX10_swap 15 = .ok (.iconst 0, 1) := by decide +kernel
theorem dX10_swap_16 : decode cX10_swap 16 = .ok (.goto 4, 3) := by decide +kernel
theorem dX10_swap_19 : decode cX10_swap 19 = .ok (.iconst 1, 1) := by decide +kernel
theorem dX10_swap_20 : decode cX10_swap 20 = .ok (.putfield 30, 3) := by decide +kernel
theorem dX10_swap_23 : decode cX10_swap 23 = .ok (.aload_n 0, 1) := by decide +kernel
theorem dX10_swap_24 : decode cX10_swap 24 = .ok (.getfield 30, 3) := by decide +kernel
theorem dX10_swap_27 : decode cX10_swap 27 = .ok (.ifCond .le 5, 3) := by decide +kernel
theorem dX10_swap_30 : decode cX10_swap 30 = .ok (.iconst 0, 1) := by decide +kernel
theorem dX10_swap_31 : decode cX10_swap 31 = .ok (.ireturn, 1) := by decide +kernel
theorem dX10_swap_32 : decode cX10_swap 32 = .ok (.aload_n 0, 1) := by decide +kernel
theorem dX10_swap_33 : decode cX10_swap 33 = .ok (.invokevirtual 134, 3) := by decide +kernel
theorem dX10_swap_36 : decode cX10_swap 36 = .ok (.iconst 0, 1) := by decide +kernel
theorem dX10_swap_37 : decode cX10_swap 37 = .ok (.istore_n 3, 1) := by decide +kernel
theorem dX10_swap_38 : decode cX10_swap 38 = .ok (.iload_n 3, 1) := by decide +kernel
theorem dX10_swap_39 : decode cX10_swap 39 = .ok (.bipush 32, 2) := by decide +kernel
theorem dX10_swap_41 : decode cX10_swap 41 = .ok (.if_icmp .ge 37, 3) := by decide +kernel
theorem dX10_swap_44 : decode cX10_swap 44 = .ok (.aload_n 0, 1) := by decide +kernel
theorem dX10_swap_45 : decode cX10_swap 45 = .ok (.iload_n 1, 1) := by decide +kernel
theorem dX10_swap_46 : decode cX10_swap 46 = .ok (.iload_n 3, 1) := by decide +kernel
theorem dX10_swap_47 : decode cX10_swap 47 = .ok (.invokevirtual 197, 3) := by decide +kernel
theorem dX10_swap_50 : decode cX10_swap 50 = .ok (.lstore 4, 2) := by decide +kernel
theorem dX10_swap_52 : decode cX10_swap 52 = .ok (.aload_n 0, 1) := by decide +kernel
theorem dX10_swap_53 : decode cX10_swap 53 = .ok (.iload_n 1, 1) := by decide +kernel
theorem dX10_swap_54 : decode cX10_swap 54 = .ok (.iload_n 3, 1) := by decide +kernel
theorem dX10_swap_55 : decode cX10_swap 55 = .ok (.aload_n 0, 1) := by decide +kernel
theorem dX10_swap_56 : decode cX10_swap 56 = .ok (.iload_n 2, 1) := by decide +kernel
theorem dX10_swap_57 : decode cX10_swap 57 = .ok (.iload_n 3, 1) := by decide +kernel
theorem dX10_swap_58 : decode cX10_swap 58 = .ok (.invokevirtual 197, 3) := by decide +kernel
theorem dX10_swap_61 : decode cX10_swap 61 = .ok (.invokevirtual 214, 3) := by decide +kernel
theorem dX10_swap_64 : decode cX10_swap 64 = .ok (.aload_n 0, 1) := by decide +kernel
theorem dX10_swap_65 : decode cX10_swap 65 = .ok (.iload_n 2, 1) := by decide +kernel
theorem dX10_swap_66 : decode cX10_swap 66 = .ok (.iload_n 3, 1) := by decide +kernel
theorem dX10_swap_67 : decode cX10_swap 67 = .ok (.lload 4, 2) := by decide +kernel
theorem dX10_swap_69 : decode cX10_swap 69 = .ok (.invokevirtual 214, 3) := by decide +kernel
theorem dX10_swap_72 : decode cX10_swap 72 = .ok (.iinc 3 1, 3) := by decide +kernel
theorem dX10_swap_75 : decode cX10_swap 75 = .ok (.goto (-37), 3) := by decide +kernel
theorem dX10_swap_78 : decode cX10_swap 78 = .ok (.aload_n 0, 1) := by decide +kernel
theorem dX10_swap_79 : decode cX10_swap 79 = .ok (.getfield 7, 3) := by decide +kernel
theorem dX10_swap_82 : decode cX10_swap 82 = .ok (.bipush 7, 2) := by decide +kernel
theorem dX10_swap_84 : decode cX10_swap 84 = .ok (.iload_n 1, 1) := by decide +kernel
theorem dX10_swap_85 : decode cX10_swap 85 = .ok (.iadd, 1) := by decide +kernel
theorem dX10_swap_86 : decode cX10_swap 86 = .ok (.laload, 1) := by decide +kernel
theorem dX10_swap_87 : decode cX10_swap 87 = .ok (.lstore_n 3, 1) := by decide +kernel
theorem dX10_swap_88 : decode cX10_swap 88 = .ok (.aload_n 0, 1) := by decide +kernel
theorem dX10_swap_89 : decode cX10_swap 89 = .ok (.getfield 7, 3) := by decide +kernel
theorem dX10_swap_92 : decode cX10_swap 92 = .ok (.bipush 7, 2) := by decide +kernel
theorem dX10_swap_94 : decode cX10_swap 94 = .ok (.iload_n 1, 1) := by decide +kernel
theorem dX10_swap_95 : decode cX10_swap 95 = .ok (.iadd, 1) := by decide +kernel
theorem dX10_swap_96 : decode cX10_swap 96 = .ok (.aload_n 0, 1) := by decide +kernel
theorem dX10_swap_97 : decode cX10_swap 97 = .ok (.getfield 7, 3) := by decide +kernel
theorem dX10_swap_100 : decode cX10_swap 100 = .ok (.bipush 7, 2) := by decide +kernel
theorem dX10_swap_102 : decode cX10_swap 102 = .ok (.iload_n 2, 1) := by decide +kernel
theorem dX10_swap_103 : decode cX10_swap 103 = .ok (.iadd, 1) := by decide +kernel
theorem dX10_swap_104 : decode cX10_swap 104 = .ok (.laload, 1) := by decide +kernel
theorem dX10_swap_105 : decode cX10_swap 105 = .ok (.lastore, 1) := by decide +kernel
theorem dX10_swap_106 : decode cX10_swap 106 = .ok (.aload_n 0, 1) := by decide +kernel
theorem dX10_swap_107 : decode cX10_swap 107 = .ok (.getfield 7, 3) := by decide +kernel
theorem dX10_swap_110 : decode cX10_swap 110 = .ok (.bipush 7, 2) := by decide +kernel
theorem dX10_swap_112 : decode cX10_swap 112 = .ok (.iload_n 2, 1) := by decide +kernel
theorem dX10_swap_113 : decode cX10_swap 113 = .ok (.iadd, 1) := by decide +kernel
theorem dX10_swap_114 : decode cX10_swap 114 = .ok (.lload_n 3, 1) := by decide +kernel
theorem dX10_swap_115 : decode cX10_swap 115 = .ok (.lastore, 1) := by decide +kernel
theorem dX10_swap_116 : decode cX10_swap 116 = .ok (.aload_n 0, 1) := by decide +kernel
theorem dX10_swap_117 : decode cX10_swap 117 = .ok (.iload_n 1, 1) := by decide +kernel
theorem dX10_swap_118 : decode cX10_swap 118 = .ok (.invokevirtual 194, 3) := by decide +kernel
theorem dX10_swap_121 : decode cX10_swap 121 = .ok (.ireturn, 1) := by decide +kernel
theorem dX10_noTransform_0 : decode cX10_noTransform 0 = .ok (.aload_n 0, 1) := by decide +kernel
theorem dX10_noTransform_1 : decode cX10_noTransform 1 = .ok (.iload_n 1, 1) := by decide +kernel
theorem dX10_noTransform_2 : decode cX10_noTransform 2 = .ok (.invokevirtual 146, 3) := by decide +kernel
theorem dX10_noTransform_5 : decode cX10_noTransform 5 = .ok (.ifCond .ne 7, 3) := by decide +kernel
theorem dX10_noTransform_8 : decode cX10_noTransform 8 = .ok (.iconst 1, 1) := by decide +kernel
theorem dX10_noTransform_9 : decode cX10_noTransform 9 = .ok (.goto 40, 3) := by decide +kernel
theorem dX10_noTransform_12 : decode cX10_noTransform 12 = .ok (.iload_n 2, 1) := by decide +kernel
theorem dX10_noTransform_13 : decode cX10_noTransform 13 = .ok (.i2l, 1) := by decide +kernel
theorem dX10_noTransform_14 : decode cX10_noTransform 14 = .ok (.lconst 1, 1) := by decide +kernel
theorem dX10_noTransform_15 : decode cX10_noTransform 15 = .ok (.ldc2_w 218, 3) := by decide +kernel
theorem dX10_noTransform_18 : decode cX10_noTransform 18 = .ok (.invokestatic 46, 3) := by decide +kernel
theorem dX10_noTransform_21 : decode cX10_noTransform 21 = .ok (.ifCond .eq 7, 3) := by decide +kernel
theorem dX10_noTransform_24 : decode cX10_noTransform 24 = .ok (.iload_n 3, 1) := by decide +kernel
theorem dX10_noTransform_25 : decode cX10_noTransform 25 = .ok (.ifCond .ne 7, 3) := by decide +kernel
theorem dX10_noTransform_28 : decode cX10_noTransform 28 = .ok (.iconst 2, 1) := by decide +kernel
theorem dX10_noTransform_29 : decode cX10_noTransform 29 = .ok (.goto 20, 3) := by decide +kernel
theorem dX10_noTransform_32 : decode cX10_noTransform 32 = .ok (.aload_n 0, 1) := by decide +kernel
theorem dX10_noTransform_33 : decode cX10_noTransform 33 = .ok (.iload_n 1, 1) := by decide +kernel
theorem dX10_noTransform_34 : decode cX10_noTransform 34 = .ok (.invokevirtual 165, 3) := by decide +kernel
theorem dX10_noTransform_37 : decode cX10_noTransform 37 = .ok (.iconst 1, 1) := by decide +kernel
theorem dX10_noTransform_38 : decode cX10_noTransform 38 = .ok (.isub, 1) := by decide +kernel
theorem dX10_noTransform_39 : decode cX10_noTransform 39 = .ok (.iload_n 2, 1) := by decide +kernel
theorem dX10_noTransform_40 : decode cX10_noTransform 40 = .ok (.irem, 1) := by decide +kernel
theorem dX10_noTransform_41 : decode cX10_noTransform 41 = .ok (.ifCond .eq 7, 3) := by decide +kernel
theorem dX10_noTransform_44 : decode cX10_noTransform 44 = .ok (.iconst 3, 1) := by decide +kernel
theorem dX10_noTransform_45 : decode cX10_noTransform 45 = .ok (.goto 4, 3) := by decide +kernel
theorem dX10_noTransform_48 : decode cX10_noTransform 48 = .ok (.iconst 0, 1) := by decide +kernel
theorem dX10_noTransform_49 : decode cX10_noTransform 49 = .ok (.ireturn, 1) := by decide +kernel
theorem dX10_transform_0 : decode cX10_transform 0 = .ok (.aload_n 0, 1) := by decide +kernel
theorem dX10_transform_1 : decode cX10_transform 1 = .ok (.iload_n 2, 1) := by decide +kernel
theorem dX10_transform_2 : decode cX10_transform 2 = .ok (.invokestatic 191, 3) := by decide +kernel
theorem dX10_transform_5 : decode cX10_transform 5 = .ok (.ifCond .eq 23, 3) := by decide +kernel
theorem dX10_transform_8 : decode cX10_transform 8 = .ok (.aload_n 0, 1) := by decide +kernel
theorem dX10_transform_9 : decode cX10_transform 9 = .ok (.iload_n 1, 1) := by decide +kernel
theorem dX10_transform_10 : decode cX10_transform 10 = .ok (.iload_n 3, 1) := by decide +kernel
theorem dX10_transform_11 : decode cX10_transform 11 = .ok (.iload 4, 2) := by decide +kernel
theorem dX10_transform_13 : decode cX10_transform 13 = .ok (.i2l, 1) := by decide +kernel
theorem dX10_transform_14 : decode cX10_transform 14 = .ok (.lconst 0, 1) := by decide +kernel
theorem dX10_transform_15 : decode cX10_transform 15 = .ok (.iload_n 3, 1) := by decide +kernel
theorem dX10_transform_16 : decode cX10_transform 16 = .ok (.i2l, 1) := by decide +kernel
theorem dX10_transform_17 : decode cX10_transform 17 = .ok (.lconst 1, 1) := by decide +kernel
theorem dX10_transform_18 : decode cX10_transform 18 = .ok (.lsub, 1) := by decide +kernel
theorem dX10_transform_19 : decode cX10_transform 19 = .ok (.invokestatic 46, 3) := by decide +kernel
theorem dX10_transform_22 : decode cX10_transform 22 = .ok (.invokevirtual 220, 3) := by decide +kernel
theorem dX10_transform_25 : decode cX10_transform 25 = .ok (.goto 4, 3) := by decide +kernel
theorem dX10_transform_28 : decode cX10_transform 28 = .ok (.iconst 1, 1) := by decide +kernel
theorem dX10_transform_29 : decode cX10_transform 29 = .ok (.putfield 30, 3) := by decide +kernel
theorem dX10_transform_32 : decode cX10_transform 32 = .ok (.aload_n 0, 1) := by decide +kernel
theorem dX10_transform_33 : decode cX10_transform 33 = .ok (.getfield 30, 3) := by decide +kernel
theorem dX10_transform_36 : decode cX10_transform 36 = .ok (.ifCond .le 5, 3) := by decide +kernel
theorem dX10_transform_39 : decode cX10_transform 39 = .ok (.iconst 0, 1) := by decide +kernel
theorem dX10_transform_40 : decode cX10_transform 40 = .ok (.ireturn, 1) := by decide +kernel
theorem dX10_transform_41 : decode cX10_transform 41 = .ok (.aload_n 0, 1) := by decide +kernel
theorem dX10_transform_42 : decode cX10_transform 42 = .ok (.iload_n 1, 1) := by decide +kernel
theorem dX10_transform_43 : decode cX10_transform 43 = .ok (.invokevirtual 165, 3) := by decide +kernel
theorem dX10_transform_46 : decode cX10_transform 46 = .ok (.istore 5, 2) := by decide +kernel
theorem dX10_transform_48 : decode cX10_transform 48 = .ok (.iload 5, 2) := by decide +kernel
theorem dX10_transform_50 : decode cX10_transform 50 = .ok (.iload_n 3, 1) := by decide +kernel
theorem dX10_transform_51 : decode cX10_transform 51 = .ok (.invokestatic 180, 3) := by decide +kernel
theorem dX10_transform_54 : decode cX10_transform 54 = .ok (.iload 4, 2) := by decide +kernel
theorem dX10_transform_56 : decode cX10_transform 56 = .ok (.i2l, 1) := by decide +kernel
theorem dX10_transform_57 : decode cX10_transform 57 = .ok (.iload 5, 2) := by decide +kernel
theorem dX10_transform_59 : decode cX10_transform 59 = .ok (.i2l, 1) := by decide +kernel
theorem dX10_transform_60 : decode cX10_transform 60 = .ok (.invokestatic 155, 3) := by decide +kernel
theorem dX10_transform_63 : decode cX10_transform 63 = .ok (.lstore 6, 2) := by decide +kernel
theorem dX10_transform_65 : decode cX10_transform 65 = .ok (.lconst 0, 1) := by decide +kernel
theorem dX10_transform_66 : decode cX10_transform 66 = .ok (.lstore 8, 2) := by decide +kernel
theorem dX10_transform_68 : decode cX10_transform 68 = .ok (.aload_n 0, 1) := by decide +kernel
theorem dX10_transform_69 : decode cX10_transform 69 = .ok (.iload_n 2, 1) := by decide +kernel
theorem dX10_transform_70 : decode cX10_transform 70 = .ok (.invokevirtual 194, 3) := by decide +kernel
theorem dX10_transform_73 : decode cX10_transform 73 = .ok (.iconst 1, 1) := by decide +kernel
theorem dX10_transform_74 : decode cX10_transform 74 = .ok (.isub, 1) := by decide +kernel
theorem dX10_transform_75 : decode cX10_transform 75 = .ok (.istore 10, 2) := by decide +kernel
theorem dX10_transform_77 : decode cX10_transform 77 = .ok (.iload 10, 2) := by decide +kernel
theorem dX10_transform_79 : decode cX10_transform 79 = .ok (.ifCond .lt 34, 3) := by decide +kernel
theorem dX10_transform_82 : decode cX10_transform 82 = .ok (.lload 8, 2) := by decide +kernel
theorem dX10_transform_84 : decode cX10_transform 84 = .ok (.lload 6, 2) := by decide +kernel
theorem dX10_transform_86 : decode cX10_transform 86 = .ok (.lmul, 1) := by decide +kernel
theorem dX10_transform_87 : decode cX10_transform 87 = .ok (.aload_n 0, 1) := by decide +kernel
theorem dX10_transform_88 : decode cX10_transform 88 = .ok (.iload_n 2, 1) := by decide +kernel
theorem dX10_transform_89 : decode cX10_transform 89 = .ok (.iload 10, 2) := by decide +kernel
theorem dX10_transform_91 : decode cX10_transform 91 = .ok (.invokevirtual 197, 3) := by decide +kernel
theorem dX10_transform_94 : decode cX10_transform 94 = .ok (.iload 5, 2) := by decide +kernel
theorem dX10_transform_96 : decode cX10_transform 96 = .ok (.invokestatic 187, 3) := by decide +kernel
theorem dX10_transform_99 : decode cX10_transform 99 = .ok (.i2l, 1) := by decide +kernel
theorem dX10_transform_100 : decode cX10_transform 100 = .ok (.ladd, 1) := by decide +kernel
theorem dX10_transform_101 : decode cX10_transform 101 = .ok (.iload 5, 2) := by decide +kernel
theorem dX10_transform_103 : decode cX10_transform 103 = .ok (.i2l, 1) := by decide +kernel
theorem dX10_transform_104 : decode cX10_transform 104 = .ok (.lrem, 1) := by decide +kernel
theorem dX10_transform_105 : decode cX10_transform 105 = .ok (.lstore 8, 2) := by decide +kernel
theorem dX10_transform_107 : decode cX10_transform 107 = .ok (.iinc 10 (-1), 3) := by decide +kernel
theorem dX10_transform_110 : decode cX10_transform 110 = .ok (.goto (-33), 3) := by decide +kernel
theorem dX10_transform_113 : decode cX10_transform 113 = .ok (.lload 8, 2) := by decide +kernel
theorem dX10_transform_115 : decode cX10_transform 115 = .ok (.l2i, 1) := by decide +kernel
theorem dX10_transform_116 : decode cX10_transform 116 = .ok (.ireturn, 1) := by decide +kernel
theorem dX10_costOf_0 : decode cX10_costOf 0 = .ok (.iload_n 2, 1) := by decide +kernel
theorem dX10_costOf_1 : decode cX10_costOf 1 = .ok (.ifCond .ne 7, 3) := by decide +kernel
theorem dX10_costOf_4 : decode cX10_costOf 4 = .ok (.iload_n 1, 1) := by decide +kernel
theorem dX10_costOf_5 : decode cX10_costOf 5 = .ok (.iload_n 1, 1) := by decide +kernel
theorem dX10_costOf_6 : decode cX10_costOf 6 = .ok (.imul, 1) := by decide +kernel
theorem dX10_costOf_7 : decode cX10_costOf 7 = .ok (.ireturn, 1) := by decide +kernel
theorem dX10_costOf_8 : decode cX10_costOf 8 = .ok (.iload_n 2, 1) := by decide +kernel
theorem dX10_costOf_9 : decode cX10_costOf 9 = .ok (.iconst 1, 1) := by decide +kernel
theorem dX10_costOf_10 : decode cX10_costOf 10 = .ok (.if_icmp .ne 52, 3) := by decide +kernel
theorem dX10_costOf_13 : decode cX10_costOf 13 = .ok (.iconst 0, 1) := by decide +kernel
theorem dX10_costOf_14 : decode cX10_costOf 14 = .ok (.istore_n 3, 1) := by decide +kernel
theorem dX10_costOf_15 : decode cX10_costOf 15 = .ok (.iload_n 1, 1) := by decide +kernel
theorem dX10_costOf_16 : decode cX10_costOf 16 = .ok (.istore 4, 2) := by decide +kernel
theorem dX10_costOf_18 : decode cX10_costOf 18 = .ok (.iconst 2, 1) := by decide +kernel
theorem dX10_costOf_19 : decode cX10_costOf 19 = .ok (.istore 5, 2) := by decide +kernel
theorem dX10_costOf_21 : decode cX10_costOf 21 = .ok (.iload 4, 2) := by decide +kernel
theorem dX10_costOf_23 : decode cX10_costOf 23 = .ok (.iconst 1, 1) := by decide +kernel
theorem dX10_costOf_24 : decode cX10_costOf 24 = .ok (.if_icmp .le 34, 3) := by decide +kernel
theorem dX10_costOf_27 : decode cX10_costOf 27 = .ok (.iload 4, 2) := by decide +kernel
theorem dX10_costOf_29 : decode cX10_costOf 29 = .ok (.iload 5, 2) := by decide +kernel
theorem dX10_costOf_31 : decode cX10_costOf 31 = .ok (.irem, 1) := by decide +kernel
theorem dX10_costOf_32 : decode cX10_costOf 32 = .ok (.ifCond .ne 20, 3) := by decide +kernel
theorem dX10_costOf_35 : decode cX10_costOf 35 = .ok (.iload_n 3, 1) := by decide +kernel
theorem dX10_costOf_36 : decode cX10_costOf 36 = .ok (.iload 5, 2) := by decide +kernel
theorem dX10_costOf_38 : decode cX10_costOf 38 = .ok (.iconst 1, 1) := by decide +kernel
theorem dX10_costOf_39 : decode cX10_costOf 39 = .ok (.isub, 1) := by decide +kernel
theorem dX10_costOf_40 : decode cX10_costOf 40 = .ok (.iadd, 1) := by decide +kernel
theorem dX10_costOf_41 : decode cX10_costOf 41 = .ok (.istore_n 3, 1) := by decide +kernel
theorem dX10_costOf_42 : decode cX10_costOf 42 = .ok (.iload 4, 2) := by decide +kernel
theorem dX10_costOf_44 : decode cX10_costOf 44 = .ok (.iload 5, 2) := by decide +kernel
theorem dX10_costOf_46 : decode cX10_costOf 46 = .ok (.idiv, 1) := by decide +kernel
theorem dX10_costOf_47 : decode cX10_costOf 47 = .ok (.istore 4, 2) := by decide +kernel
theorem dX10_costOf_49 : decode cX10_costOf 49 = .ok (.goto (-22), 3) := by decide +kernel
theorem dX10_costOf_52 : decode cX10_costOf 52 = .ok (.iinc 5 1, 3) := by decide +kernel
theorem dX10_costOf_55 : decode cX10_costOf 55 = .ok (.goto (-34), 3) := by decide +kernel
theorem dX10_costOf_58 : decode cX10_costOf 58 = .ok (.iload_n 1, 1) := by decide +kernel
theorem dX10_costOf_59 : decode cX10_costOf 59 = .ok (.iload_n 3, 1) := by decide +kernel
theorem dX10_costOf_60 : decode cX10_costOf 60 = .ok (.imul, 1) := by decide +kernel
theorem dX10_costOf_61 : decode cX10_costOf 61 = .ok (.ireturn, 1) := by decide +kernel
theorem dX10_costOf_62 : decode cX10_costOf 62 = .ok (.iconst 1, 1) := by decide +kernel
theorem dX10_costOf_63 : decode cX10_costOf 63 = .ok (.istore_n 3, 1) := by decide +kernel
theorem dX10_costOf_64 : decode cX10_costOf 64 = .ok (.iconst 0, 1) := by decide +kernel
theorem dX10_costOf_65 : decode cX10_costOf 65 = .ok (.istore 4, 2) := by decide +kernel
theorem dX10_costOf_67 : decode cX10_costOf 67 = .ok (.iload_n 3, 1) := by decide +kernel
theorem dX10_costOf_68 : decode cX10_costOf 68 = .ok (.iconst 2, 1) := by decide +kernel
theorem dX10_costOf_69 : decode cX10_costOf 69 = .ok (.iload_n 1, 1) := by decide +kernel
theorem dX10_costOf_70 : decode cX10_costOf 70 = .ok (.imul, 1) := by decide +kernel
theorem dX10_costOf_71 : decode cX10_costOf 71 = .ok (.iconst 1, 1) := by decide +kernel
theorem dX10_costOf_72 : decode cX10_costOf 72 = .ok (.isub, 1) := by decide +kernel
theorem dX10_costOf_73 : decode cX10_costOf 73 = .ok (.if_icmp .ge 13, 3) := by decide +kernel
theorem dX10_costOf_76 : decode cX10_costOf 76 = .ok (.iload_n 3, 1) := by decide +kernel
theorem dX10_costOf_77 : decode cX10_costOf 77 = .ok (.iconst 2, 1) := by decide +kernel
theorem dX10_costOf_78 : decode cX10_costOf 78 = .ok (.imul, 1) := by decide +kernel
theorem dX10_costOf_79 : decode cX10_costOf 79 = .ok (.istore_n 3, 1) := by decide +kernel
theorem dX10_costOf_80 : decode cX10_costOf 80 = .ok (.iinc 4 1, 3) := by decide +kernel
theorem dX10_costOf_83 : decode cX10_costOf 83 = .ok (.goto (-16), 3) := by decide +kernel
theorem dX10_costOf_86 : decode cX10_costOf 86 = .ok (.iload_n 0, 1) := by decide +kernel
theorem dX10_costOf_87 : decode cX10_costOf 87 = .ok (.iconst 1, 1) := by decide +kernel
theorem dX10_costOf_88 : decode cX10_costOf 88 = .ok (.isub, 1) := by decide +kernel
theorem dX10_costOf_89 : decode cX10_costOf 89 = .ok (.iload_n 3, 1) := by decide +kernel
theorem dX10_costOf_90 : decode cX10_costOf 90 = .ok (.irem, 1) := by decide +kernel
theorem dX10_costOf_91 : decode cX10_costOf 91 = .ok (.ifCond .ne 18, 3) := by decide +kernel
theorem dX10_costOf_94 : decode cX10_costOf 94 = .ok (.iconst 3, 1) := by decide +kernel
theorem dX10_costOf_95 : decode cX10_costOf 95 = .ok (.iload_n 3, 1) := by decide +kernel
theorem dX10_costOf_96 : decode cX10_costOf 96 = .ok (.imul, 1) := by decide +kernel
theorem dX10_costOf_97 : decode cX10_costOf 97 = .ok (.iload 4, 2) := by decide +kernel
theorem dX10_costOf_99 : decode cX10_costOf 99 = .ok (.imul, 1) := by decide +kernel
theorem dX10_costOf_100 : decode cX10_costOf 100 = .ok (.iload_n 3, 1) := by decide +kernel
theorem dX10_costOf_101 : decode cX10_costOf 101 = .ok (.iadd, 1) := by decide +kernel
theorem dX10_costOf_102 : decode cX10_costOf 102 = .ok (.iconst 2, 1) := by decide +kernel
theorem dX10_costOf_103 : decode cX10_costOf 103 = .ok (.iload_n 1, 1) := by decide +kernel
theorem dX10_costOf_104 : decode cX10_costOf 104 = .ok (.imul, 1) := by decide +kernel
theorem dX10_costOf_105 : decode cX10_costOf 105 = .ok (.iadd, 1) := by decide +kernel
theorem dX10_costOf_106 : decode cX10_costOf 106 = .ok (.goto 4, 3) := by decide +kernel
theorem dX10_costOf_109 : decode cX10_costOf 109 = .ok (.iconst (-1), 1) := by decide +kernel
theorem dX10_costOf_110 : decode cX10_costOf 110 = .ok (.ireturn, 1) := by decide +kernel
theorem dX10_cost_0 : decode cX10_cost 0 = .ok (.aload_n 0, 1) := by decide +kernel
theorem dX10_cost_1 : decode cX10_cost 1 = .ok (.aload_n 0, 1) := by decide +kernel
theorem dX10_cost_2 : decode cX10_cost 2 = .ok (.iload_n 1, 1) := by decide +kernel
theorem dX10_cost_3 : decode cX10_cost 3 = .ok (.iload_n 2, 1) := by decide +kernel
theorem dX10_cost_4 : decode cX10_cost 4 = .ok (.iload_n 3, 1) := by decide +kernel
theorem dX10_cost_5 : decode cX10_cost 5 = .ok (.i2l, 1) := by decide +kernel
theorem dX10_cost_6 : decode cX10_cost 6 = .ok (.lconst 0, 1) := by decide +kernel
theorem dX10_cost_7 : decode cX10_cost 7 = .ok (.ldc2_w 151, 3) := by decide +kernel
theorem dX10_cost_10 : decode cX10_cost 10 = .ok (.invokestatic 46, 3) := by decide +kernel
theorem dX10_cost_13 : decode cX10_cost 13 = .ok (.invokevirtual 220, 3) := by decide +kernel
theorem dX10_cost_16 : decode cX10_cost 16 = .ok (.putfield 30, 3) := by decide +kernel
theorem dX10_cost_19 : decode cX10_cost 19 = .ok (.aload_n 0, 1) := by decide +kernel
theorem dX10_cost_20 : decode cX10_cost 20 = .ok (.getfield 30, 3) := by decide +kernel
theorem dX10_cost_23 : decode cX10_cost 23 = .ok (.ifCond .le 7, 3) := by decide +kernel
theorem dX10_cost_26 : decode cX10_cost 26 = .ok (.iconst 0, 1) := by decide +kernel
theorem dX10_cost_27 : decode cX10_cost 27 = .ok (.goto 13, 3) := by decide +kernel
theorem dX10_cost_30 : decode cX10_cost 30 = .ok (.aload_n 0, 1) := by decide +kernel
theorem dX10_cost_31 : decode cX10_cost 31 = .ok (.iload_n 1, 1) := by decide +kernel
theorem dX10_cost_32 : decode cX10_cost 32 = .ok (.invokevirtual 165, 3) := by decide +kernel
theorem dX10_cost_35 : decode cX10_cost 35 = .ok (.iload_n 2, 1) := by decide +kernel
theorem dX10_cost_36 : decode cX10_cost 36 = .ok (.iload_n 3, 1) := by decide +kernel
theorem dX10_cost_37 : decode cX10_cost 37 = .ok (.invokestatic 224, 3) := by decide +kernel
theorem dX10_cost_40 : decode cX10_cost 40 = .ok (.ireturn, 1) := by decide +kernel
theorem dX10_bestMethod_0 : decode cX10_bestMethod 0 = .ok (.iconst 0, 1) := by decide +kernel
theorem dX10_bestMethod_1 : decode cX10_bestMethod 1 = .ok (.istore_n 2, 1) := by decide +kernel
theorem dX10_bestMethod_2 : decode cX10_bestMethod 2 = .ok (.iconst 1, 1) := by decide +kernel
theorem dX10_bestMethod_3 : decode cX10_bestMethod 3 = .ok (.istore_n 3, 1) := by decide +kernel
theorem dX10_bestMethod_4 : decode cX10_bestMethod 4 = .ok (.iload_n 3, 1) := by decide +kernel
theorem dX10_bestMethod_5 : decode cX10_bestMethod 5 = .ok (.iconst 3, 1) := by decide +kernel
theorem dX10_bestMethod_6 : decode cX10_bestMethod 6 = .ok (.if_icmp .ge 36, 3) := by decide +kernel
theorem dX10_bestMethod_9 : decode cX10_bestMethod 9 = .ok (.iload_n 0, 1) := by decide +kernel
theorem dX10_bestMethod_10 : decode cX10_bestMethod 10 = .ok (.iload_n 1, 1) := by decide +kernel
theorem dX10_bestMethod_11 : decode cX10_bestMethod 11 = .ok (.iload_n 3, 1) := by decide +kernel
theorem dX10_bestMethod_12 : decode cX10_bestMethod 12 = .ok (.invokestatic 224, 3) := by decide +kernel
theorem dX10_bestMethod_15 : decode cX10_bestMethod 15 = .ok (.istore 4, 2) := by decide +kernel
theorem dX10_bestMethod_17 : decode cX10_bestMethod 17 = .ok (.iload 4, 2) := by decide +kernel
theorem dX10_bestMethod_19 : decode cX10_bestMethod 19 = .ok (.iconst (-1), 1) := by decide +kernel
theorem dX10_bestMethod_20 : decode cX10_bestMethod 20 = .ok (.if_icmp .eq 16, 3) := by decide +kernel
theorem dX10_bestMethod_23 : decode cX10_bestMethod 23 = .ok (.iload 4, 2) := by decide +kernel
theorem dX10_bestMethod_25 : decode cX10_bestMethod 25 = .ok (.iload_n 0, 1) := by decide +kernel
theorem dX10_bestMethod_26 : decode cX10_bestMethod 26 = .ok (.iload_n 1, 1) := by decide +kernel
theorem dX10_bestMethod_27 : decode cX10_bestMethod 27 = .ok (.iload_n 2, 1) := by decide +kernel
theorem dX10_bestMethod_28 : decode cX10_bestMethod 28 = .ok (.invokestatic 224, 3) := by decide +kernel
theorem dX10_bestMethod_31 : decode cX10_bestMethod 31 = .ok (.if_icmp .ge 5, 3) := by decide +kernel
theorem dX10_bestMethod_34 : decode cX10_bestMethod 34 = .ok (.iload_n 3, 1) := by decide +kernel
theorem dX10_bestMethod_35 : decode cX10_bestMethod 35 = .ok (.istore_n 2, 1) := by decide +kernel
theorem dX10_bestMethod_36 : decode cX10_bestMethod 36 = .ok (.iinc 3 1, 3) := by decide +kernel
theorem dX10_bestMethod_39 : decode cX10_bestMethod 39 = .ok (.goto (-35), 3) := by decide +kernel
theorem dX10_bestMethod_42 : decode cX10_bestMethod 42 = .ok (.iload_n 2, 1) := by decide +kernel
theorem dX10_bestMethod_43 : decode cX10_bestMethod 43 = .ok (.ireturn, 1) := by decide +kernel
theorem dX10_method_0 : decode cX10_method 0 = .ok (.aload_n 0, 1) := by decide +kernel
theorem dX10_method_1 : decode cX10_method 1 = .ok (.aload_n 0, 1) := by decide +kernel
theorem dX10_method_2 : decode cX10_method 2 = .ok (.iload_n 1, 1) := by decide +kernel
theorem dX10_method_3 : decode cX10_method 3 = .ok (.iload_n 2, 1) := by decide +kernel
theorem dX10_method_4 : decode cX10_method 4 = .ok (.iconst 1, 1) := by decide +kernel
theorem dX10_method_5 : decode cX10_method 5 = .ok (.invokevirtual 220, 3) := by decide +kernel
theorem dX10_method_8 : decode cX10_method 8 = .ok (.putfield 30, 3) := by decide +kernel
theorem dX10_method_11 : decode cX10_method 11 = .ok (.aload_n 0, 1) := by decide +kernel
theorem dX10_method_12 : decode cX10_method 12 = .ok (.getfield 30, 3) := by decide +kernel
theorem dX10_method_15 : decode cX10_method 15 = .ok (.ifCond .le 7, 3) := by decide +kernel
theorem dX10_method_18 : decode cX10_method 18 = .ok (.iconst 0, 1) := by decide +kernel
theorem dX10_method_19 : decode cX10_method 19 = .ok (.goto 12, 3) := by decide +kernel
theorem dX10_method_22 : decode cX10_method 22 = .ok (.aload_n 0, 1) := by decide +kernel
theorem dX10_method_23 : decode cX10_method 23 = .ok (.iload_n 1, 1) := by decide +kernel
theorem dX10_method_24 : decode cX10_method 24 = .ok (.invokevirtual 165, 3) := by decide +kernel
theorem dX10_method_27 : decode cX10_method 27 = .ok (.iload_n 2, 1) := by decide +kernel
theorem dX10_method_28 : decode cX10_method 28 = .ok (.invokestatic 228, 3) := by decide +kernel
theorem dX10_method_31 : decode cX10_method 31 = .ok (.ireturn, 1) := by decide +kernel
theorem dX10_chirp_0 : decode cX10_chirp 0 = .ok (.aload_n 0, 1) := by decide +kernel
theorem dX10_chirp_1 : decode cX10_chirp 1 = .ok (.aload_n 0, 1) := by decide +kernel
theorem dX10_chirp_2 : decode cX10_chirp 2 = .ok (.iload_n 1, 1) := by decide +kernel
theorem dX10_chirp_3 : decode cX10_chirp 3 = .ok (.iload_n 2, 1) := by decide +kernel
theorem dX10_chirp_4 : decode cX10_chirp 4 = .ok (.iload_n 3, 1) := by decide +kernel
theorem dX10_chirp_5 : decode cX10_chirp 5 = .ok (.i2l, 1) := by decide +kernel
theorem dX10_chirp_6 : decode cX10_chirp 6 = .ok (.lconst 0, 1) := by decide +kernel
theorem dX10_chirp_7 : decode cX10_chirp 7 = .ok (.ldc2_w 151, 3) := by decide +kernel
theorem dX10_chirp_10 : decode cX10_chirp 10 = .ok (.iload_n 2, 1) := by decide +kernel
theorem dX10_chirp_11 : decode cX10_chirp 11 = .ok (.i2l, 1) := by decide +kernel
theorem dX10_chirp_12 : decode cX10_chirp 12 = .ok (.lmul, 1) := by decide +kernel
theorem dX10_chirp_13 : decode cX10_chirp 13 = .ok (.invokestatic 46, 3) := by decide +kernel
theorem dX10_chirp_16 : decode cX10_chirp 16 = .ok (.invokevirtual 220, 3) := by decide +kernel
theorem dX10_chirp_19 : decode cX10_chirp 19 = .ok (.putfield 30, 3) := by decide +kernel
theorem dX10_chirp_22 : decode cX10_chirp 22 = .ok (.aload_n 0, 1) := by decide +kernel
theorem dX10_chirp_23 : decode cX10_chirp 23 = .ok (.getfield 30, 3) := by decide +kernel
theorem dX10_chirp_26 : decode cX10_chirp 26 = .ok (.ifCond .le 7, 3) := by decide +kernel
theorem dX10_chirp_29 : decode cX10_chirp 29 = .ok (.iconst 0, 1) := by decide +kernel
theorem dX10_chirp_30 : decode cX10_chirp 30 = .ok (.goto 33, 3) := by decide +kernel
theorem dX10_chirp_33 : decode cX10_chirp 33 = .ok (.aload_n 0, 1) := by decide +kernel
theorem dX10_chirp_34 : decode cX10_chirp 34 = .ok (.iload_n 1, 1) := by decide +kernel
theorem dX10_chirp_35 : decode cX10_chirp 35 = .ok (.invokevirtual 165, 3) := by decide +kernel
theorem dX10_chirp_38 : decode cX10_chirp 38 = .ok (.iload_n 2, 1) := by decide +kernel
theorem dX10_chirp_39 : decode cX10_chirp 39 = .ok (.invokestatic 180, 3) := by decide +kernel
theorem dX10_chirp_42 : decode cX10_chirp 42 = .ok (.iload_n 3, 1) := by decide +kernel
theorem dX10_chirp_43 : decode cX10_chirp 43 = .ok (.i2l, 1) := by decide +kernel
theorem dX10_chirp_44 : decode cX10_chirp 44 = .ok (.iload_n 3, 1) := by decide +kernel
theorem dX10_chirp_45 : decode cX10_chirp 45 = .ok (.iconst 1, 1) := by decide +kernel
theorem dX10_chirp_46 : decode cX10_chirp 46 = .ok (.isub, 1) := by decide +kernel
theorem dX10_chirp_47 : decode cX10_chirp 47 = .ok (.i2l, 1) := by decide +kernel
theorem dX10_chirp_48 : decode cX10_chirp 48 = .ok (.lmul, 1) := by decide +kernel
theorem dX10_chirp_49 : decode cX10_chirp 49 = .ok (.ldc2_w 151, 3) := by decide +kernel
theorem dX10_chirp_52 : decode cX10_chirp 52 = .ok (.ldiv, 1) := by decide +kernel
theorem dX10_chirp_53 : decode cX10_chirp 53 = .ok (.aload_n 0, 1) := by decide +kernel
theorem dX10_chirp_54 : decode cX10_chirp 54 = .ok (.iload_n 1, 1) := by decide +kernel
theorem dX10_chirp_55 : decode cX10_chirp 55 = .ok (.invokevirtual 165, 3) := by decide +kernel
theorem dX10_chirp_58 : decode cX10_chirp 58 = .ok (.i2l, 1) := by decide +kernel
theorem dX10_chirp_59 : decode cX10_chirp 59 = .ok (.invokestatic 155, 3) := by decide +kernel
theorem dX10_chirp_62 : decode cX10_chirp 62 = .ok (.l2i, 1) := by decide +kernel
theorem dX10_chirp_63 : decode cX10_chirp 63 = .ok (.ireturn, 1) := by decide +kernel
theorem dX10_isSet_0 : decode cX10_isSet 0 = .ok (.iload_n 1, 1) := by decide +kernel
theorem dX10_isSet_1 : decode cX10_isSet 1 = .ok (.i2l, 1) := by decide +kernel
theorem dX10_isSet_2 : decode cX10_isSet 2 = .ok (.lconst 0, 1) := by decide +kernel
theorem dX10_isSet_3 : decode cX10_isSet 3 = .ok (.lconst 1, 1) := by decide +kernel
theorem dX10_isSet_4 : decode cX10_isSet 4 = .ok (.aload_n 0, 1) := by decide +kernel
theorem dX10_isSet_5 : decode cX10_isSet 5 = .ok (.getfield 7, 3) := by decide +kernel
theorem dX10_isSet_8 : decode cX10_isSet 8 = .ok (.iconst 0, 1) := by decide +kernel
theorem dX10_isSet_9 : decode cX10_isSet 9 = .ok (.laload, 1) := by decide +kernel
theorem dX10_isSet_10 : decode cX10_isSet 10 = .ok (.l2i, 1) := by decide +kernel
theorem dX10_isSet_11 : decode cX10_isSet 11 = .ok (.lshl, 1) := by decide +kernel
theorem dX10_isSet_12 : decode cX10_isSet 12 = .ok (.lconst 1, 1) := by decide +kernel
theorem dX10_isSet_13 : decode cX10_isSet 13 = .ok (.lsub, 1) := by decide +kernel
theorem dX10_isSet_14 : decode cX10_isSet 14 = .ok (.invokestatic 46, 3) := by decide +kernel
theorem dX10_isSet_17 : decode cX10_isSet 17 = .ok (.ireturn, 1) := by decide +kernel
theorem dX10_allHave_0 : decode cX10_allHave 0 = .ok (.iconst 0, 1) := by decide +kernel
theorem dX10_allHave_1 : decode cX10_allHave 1 = .ok (.istore_n 3, 1) := by decide +kernel
theorem dX10_allHave_2 : decode cX10_allHave 2 = .ok (.iload_n 3, 1) := by decide +kernel
theorem dX10_allHave_3 : decode cX10_allHave 3 = .ok (.i2l, 1) := by decide +kernel
theorem dX10_allHave_4 : decode cX10_allHave 4 = .ok (.aload_n 0, 1) := by decide +kernel
theorem dX10_allHave_5 : decode cX10_allHave 5 = .ok (.getfield 7, 3) := by decide +kernel
theorem dX10_allHave_8 : decode cX10_allHave 8 = .ok (.iconst 0, 1) := by decide +kernel
theorem dX10_allHave_9 : decode cX10_allHave 9 = .ok (.laload, 1) := by decide +kernel
theorem dX10_allHave_10 : decode cX10_allHave 10 = .ok (.lcmp, 1) := by decide +kernel
theorem dX10_allHave_11 : decode cX10_allHave 11 = .ok (.ifCond .ge 32, 3) := by decide +kernel
theorem dX10_allHave_14 : decode cX10_allHave 14 = .ok (.iload_n 1, 1) := by decide +kernel
theorem dX10_allHave_15 : decode cX10_allHave 15 = .ok (.iload_n 3, 1) := by decide +kernel
theorem dX10_allHave_16 : decode cX10_allHave 16 = .ok (.ishr, 1) := by decide +kernel
theorem dX10_allHave_17 : decode cX10_allHave 17 = .ok (.iconst 1, 1) := by decide +kernel
theorem dX10_allHave_18 : decode cX10_allHave 18 = .ok (.iand, 1) := by decide +kernel
theorem dX10_allHave_19 : decode cX10_allHave 19 = .ok (.iconst 1, 1) := by decide +kernel
theorem dX10_allHave_20 : decode cX10_allHave 20 = .ok (.if_icmp .ne 17, 3) := by decide +kernel
theorem dX10_allHave_23 : decode cX10_allHave 23 = .ok (.aload_n 0, 1) := by decide +kernel
theorem dX10_allHave_24 : decode cX10_allHave 24 = .ok (.iload_n 3, 1) := by decide +kernel
theorem dX10_allHave_25 : decode cX10_allHave 25 = .ok (.invokevirtual 165, 3) := by decide +kernel
theorem dX10_allHave_28 : decode cX10_allHave 28 = .ok (.iconst 1, 1) := by decide +kernel
theorem dX10_allHave_29 : decode cX10_allHave 29 = .ok (.isub, 1) := by decide +kernel
theorem dX10_allHave_30 : decode cX10_allHave 30 = .ok (.iload_n 2, 1) := by decide +kernel
theorem dX10_allHave_31 : decode cX10_allHave 31 = .ok (.irem, 1) := by decide +kernel
theorem dX10_allHave_32 : decode cX10_allHave 32 = .ok (.ifCond .eq 5, 3) := by decide +kernel
theorem dX10_allHave_35 : decode cX10_allHave 35 = .ok (.iconst 0, 1) := by decide +kernel
theorem dX10_allHave_36 : decode cX10_allHave 36 = .ok (.ireturn, 1) := by decide +kernel
theorem dX10_allHave_37 : decode cX10_allHave 37 = .ok (.iinc 3 1, 3) := by decide +kernel
theorem dX10_allHave_40 : decode cX10_allHave 40 = .ok (.goto (-38), 3) := by decide +kernel
theorem dX10_allHave_43 : decode cX10_allHave 43 = .ok (.iconst 1, 1) := by decide +kernel
theorem dX10_allHave_44 : decode cX10_allHave 44 = .ok (.ireturn, 1) := by decide +kernel
theorem dX10_usable_0 : decode cX10_usable 0 = .ok (.aload_n 0, 1) := by decide +kernel
theorem dX10_usable_1 : decode cX10_usable 1 = .ok (.iload_n 1, 1) := by decide +kernel
theorem dX10_usable_2 : decode cX10_usable 2 = .ok (.i2l, 1) := by decide +kernel
theorem dX10_usable_3 : decode cX10_usable 3 = .ok (.lconst 0, 1) := by decide +kernel
theorem dX10_usable_4 : decode cX10_usable 4 = .ok (.ldc2_w 151, 3) := by decide +kernel
theorem dX10_usable_7 : decode cX10_usable 7 = .ok (.invokestatic 46, 3) := by decide +kernel
theorem dX10_usable_10 : decode cX10_usable 10 = .ok (.ifCond .eq 19, 3) := by decide +kernel
theorem dX10_usable_13 : decode cX10_usable 13 = .ok (.iload_n 2, 1) := by decide +kernel
theorem dX10_usable_14 : decode cX10_usable 14 = .ok (.i2l, 1) := by decide +kernel
theorem dX10_usable_15 : decode cX10_usable 15 = .ok (.lconst 1, 1) := by decide +kernel
theorem dX10_usable_16 : decode cX10_usable 16 = .ok (.ldc2_w 218, 3) := by decide +kernel
theorem dX10_usable_19 : decode cX10_usable 19 = .ok (.invokestatic 46, 3) := by decide +kernel
theorem dX10_usable_22 : decode cX10_usable 22 = .ok (.ifCond .eq 7, 3) := by decide +kernel
theorem dX10_usable_25 : decode cX10_usable 25 = .ok (.iconst 0, 1) := by decide +kernel
theorem dX10_usable_26 : decode cX10_usable 26 = .ok (.goto 4, 3) := by decide +kernel
theorem dX10_usable_29 : decode cX10_usable 29 = .ok (.iconst 1, 1) := by decide +kernel
theorem dX10_usable_30 : decode cX10_usable 30 = .ok (.putfield 30, 3) := by decide +kernel
theorem dX10_usable_33 : decode cX10_usable 33 = .ok (.aload_n 0, 1) := by decide +kernel
theorem dX10_usable_34 : decode cX10_usable 34 = .ok (.getfield 30, 3) := by decide +kernel
theorem dX10_usable_37 : decode cX10_usable 37 = .ok (.ifCond .le 5, 3) := by decide +kernel
theorem dX10_usable_40 : decode cX10_usable 40 = .ok (.iconst 0, 1) := by decide +kernel
theorem dX10_usable_41 : decode cX10_usable 41 = .ok (.ireturn, 1) := by decide +kernel
theorem dX10_usable_42 : decode cX10_usable 42 = .ok (.iconst 0, 1) := by decide +kernel
theorem dX10_usable_43 : decode cX10_usable 43 = .ok (.istore_n 3, 1) := by decide +kernel
theorem dX10_usable_44 : decode cX10_usable 44 = .ok (.iconst 0, 1) := by decide +kernel
theorem dX10_usable_45 : decode cX10_usable 45 = .ok (.istore 4, 2) := by decide +kernel
theorem dX10_usable_47 : decode cX10_usable 47 = .ok (.iload 4, 2) := by decide +kernel
theorem dX10_usable_49 : decode cX10_usable 49 = .ok (.i2l, 1) := by decide +kernel
theorem dX10_usable_50 : decode cX10_usable 50 = .ok (.aload_n 0, 1) := by decide +kernel
theorem dX10_usable_51 : decode cX10_usable 51 = .ok (.getfield 7, 3) := by decide +kernel
theorem dX10_usable_54 : decode cX10_usable 54 = .ok (.iconst 0, 1) := by decide +kernel
theorem dX10_usable_55 : decode cX10_usable 55 = .ok (.laload, 1) := by decide +kernel
theorem dX10_usable_56 : decode cX10_usable 56 = .ok (.lcmp, 1) := by decide +kernel
theorem dX10_usable_57 : decode cX10_usable 57 = .ok (.ifCond .ge 44, 3) := by decide +kernel
theorem dX10_usable_60 : decode cX10_usable 60 = .ok (.iload_n 3, 1) := by decide +kernel
theorem dX10_usable_61 : decode cX10_usable 61 = .ok (.aload_n 0, 1) := by decide +kernel
theorem dX10_usable_62 : decode cX10_usable 62 = .ok (.iload 4, 2) := by decide +kernel
theorem dX10_usable_64 : decode cX10_usable 64 = .ok (.invokevirtual 165, 3) := by decide +kernel
theorem dX10_usable_67 : decode cX10_usable 67 = .ok (.iconst 1, 1) := by decide +kernel
theorem dX10_usable_68 : decode cX10_usable 68 = .ok (.isub, 1) := by decide +kernel
theorem dX10_usable_69 : decode cX10_usable 69 = .ok (.iload_n 1, 1) := by decide +kernel
theorem dX10_usable_70 : decode cX10_usable 70 = .ok (.iconst 2, 1) := by decide +kernel
theorem dX10_usable_71 : decode cX10_usable 71 = .ok (.if_icmp .ne 9, 3) := by decide +kernel
theorem dX10_usable_74 : decode cX10_usable 74 = .ok (.iconst 2, 1) := by decide +kernel
theorem dX10_usable_75 : decode cX10_usable 75 = .ok (.iload_n 2, 1) := by decide +kernel
theorem dX10_usable_76 : decode cX10_usable 76 = .ok (.imul, 1) := by decide +kernel
theorem dX10_usable_77 : decode cX10_usable 77 = .ok (.goto 4, 3) := by decide +kernel
theorem dX10_usable_80 : decode cX10_usable 80 = .ok (.iload_n 2, 1) := by decide +kernel
theorem dX10_usable_81 : decode cX10_usable 81 = .ok (.irem, 1) := by decide +kernel
theorem dX10_usable_82 : decode cX10_usable 82 = .ok (.ifCond .ne 10, 3) := by decide +kernel
theorem dX10_usable_85 : decode cX10_usable 85 = .ok (.iconst 1, 1) := by decide +kernel
theorem dX10_usable_86 : decode cX10_usable 86 = .ok (.iload 4, 2) := by decide +kernel
theorem dX10_usable_88 : decode cX10_usable 88 = .ok (.ishl, 1) := by decide +kernel
theorem dX10_usable_89 : decode cX10_usable 89 = .ok (.goto 4, 3) := by decide +kernel
theorem dX10_usable_92 : decode cX10_usable 92 = .ok (.iconst 0, 1) := by decide +kernel
theorem dX10_usable_93 : decode cX10_usable 93 = .ok (.ior, 1) := by decide +kernel
theorem dX10_usable_94 : decode cX10_usable 94 = .ok (.istore_n 3, 1) := by decide +kernel
theorem dX10_usable_95 : decode cX10_usable 95 = .ok (.iinc 4 1, 3) := by decide +kernel
theorem dX10_usable_98 : decode cX10_usable 98 = .ok (.goto (-51), 3) := by decide +kernel
theorem dX10_usable_101 : decode cX10_usable 101 = .ok (.iload_n 3, 1) := by decide +kernel
theorem dX10_usable_102 : decode cX10_usable 102 = .ok (.ireturn, 1) := by decide +kernel
theorem dX10_longest_0 : decode cX10_longest 0 = .ok (.aload_n 0, 1) := by decide +kernel
theorem dX10_longest_1 : decode cX10_longest 1 = .ok (.aload_n 0, 1) := by decide +kernel
theorem dX10_longest_2 : decode cX10_longest 2 = .ok (.iload_n 1, 1) := by decide +kernel
theorem dX10_longest_3 : decode cX10_longest 3 = .ok (.invokevirtual 231, 3) := by decide +kernel
theorem dX10_longest_6 : decode cX10_longest 6 = .ok (.ifCond .eq 7, 3) := by decide +kernel
theorem dX10_longest_9 : decode cX10_longest 9 = .ok (.iconst 0, 1) := by decide +kernel
theorem dX10_longest_10 : decode cX10_longest 10 = .ok (.goto 4, 3) := by decide +kernel
theorem dX10_longest_13 : decode cX10_longest 13 = .ok (.iconst 1, 1) := by decide +kernel
theorem dX10_longest_14 : decode cX10_longest 14 = .ok (.putfield 30, 3) := by decide +kernel
theorem dX10_longest_17 : decode cX10_longest 17 = .ok (.aload_n 0, 1) := by decide +kernel
theorem dX10_longest_18 : decode cX10_longest 18 = .ok (.getfield 30, 3) := by decide +kernel
theorem dX10_longest_21 : decode cX10_longest 21 = .ok (.ifCond .le 5, 3) := by decide +kernel
theorem dX10_longest_24 : decode cX10_longest 24 = .ok (.iconst 0, 1) := by decide +kernel
theorem dX10_longest_25 : decode cX10_longest 25 = .ok (.ireturn, 1) := by decide +kernel
theorem dX10_longest_26 : decode cX10_longest 26 = .ok (.bipush 64, 2) := by decide +kernel
theorem dX10_longest_28 : decode cX10_longest 28 = .ok (.istore_n 2, 1) := by decide +kernel
theorem dX10_longest_29 : decode cX10_longest 29 = .ok (.aload_n 0, 1) := by decide +kernel
theorem dX10_longest_30 : decode cX10_longest 30 = .ok (.iload_n 1, 1) := by decide +kernel
theorem dX10_longest_31 : decode cX10_longest 31 = .ok (.iload_n 2, 1) := by decide +kernel
theorem dX10_longest_32 : decode cX10_longest 32 = .ok (.invokevirtual 234, 3) := by decide +kernel
theorem dX10_longest_35 : decode cX10_longest 35 = .ok (.ifCond .ne 9, 3) := by decide +kernel
theorem dX10_longest_38 : decode cX10_longest 38 = .ok (.iinc 2 (-1), 3) := by decide +kernel
theorem dX10_longest_41 : decode cX10_longest 41 = .ok (.goto (-12), 3) := by decide +kernel
theorem dX10_longest_44 : decode cX10_longest 44 = .ok (.iload_n 2, 1) := by decide +kernel
theorem dX10_longest_45 : decode cX10_longest 45 = .ok (.ireturn, 1) := by decide +kernel
theorem dX10_lacks_0 : decode cX10_lacks 0 = .ok (.iload_n 1, 1) := by decide +kernel
theorem dX10_lacks_1 : decode cX10_lacks 1 = .ok (.invokestatic 191, 3) := by decide +kernel
theorem dX10_lacks_4 : decode cX10_lacks 4 = .ok (.ifCond .eq 10, 3) := by decide +kernel
theorem dX10_lacks_7 : decode cX10_lacks 7 = .ok (.iload_n 2, 1) := by decide +kernel
theorem dX10_lacks_8 : decode cX10_lacks 8 = .ok (.invokestatic 191, 3) := by decide +kernel
theorem dX10_lacks_11 : decode cX10_lacks 11 = .ok (.ifCond .ne 7, 3) := by decide +kernel
theorem dX10_lacks_14 : decode cX10_lacks 14 = .ok (.iconst 1, 1) := by decide +kernel
theorem dX10_lacks_15 : decode cX10_lacks 15 = .ok (.goto 24, 3) := by decide +kernel
theorem dX10_lacks_18 : decode cX10_lacks 18 = .ok (.aload_n 0, 1) := by decide +kernel
theorem dX10_lacks_19 : decode cX10_lacks 19 = .ok (.iload_n 1, 1) := by decide +kernel
theorem dX10_lacks_20 : decode cX10_lacks 20 = .ok (.invokevirtual 194, 3) := by decide +kernel
theorem dX10_lacks_23 : decode cX10_lacks 23 = .ok (.ifCond .eq 11, 3) := by decide +kernel
theorem dX10_lacks_26 : decode cX10_lacks 26 = .ok (.aload_n 0, 1) := by decide +kernel
theorem dX10_lacks_27 : decode cX10_lacks 27 = .ok (.iload_n 2, 1) := by decide +kernel
theorem dX10_lacks_28 : decode cX10_lacks 28 = .ok (.invokevirtual 194, 3) := by decide +kernel
theorem dX10_lacks_31 : decode cX10_lacks 31 = .ok (.ifCond .ne 7, 3) := by decide +kernel
theorem dX10_lacks_34 : decode cX10_lacks 34 = .ok (.iconst 2, 1) := by decide +kernel
theorem dX10_lacks_35 : decode cX10_lacks 35 = .ok (.goto 4, 3) := by decide +kernel
theorem dX10_lacks_38 : decode cX10_lacks 38 = .ok (.iconst 0, 1) := by decide +kernel
theorem dX10_lacks_39 : decode cX10_lacks 39 = .ok (.ireturn, 1) := by decide +kernel
theorem dX10_isKind_0 : decode cX10_isKind 0 = .ok (.iload_n 1, 1) := by decide +kernel
theorem dX10_isKind_1 : decode cX10_isKind 1 = .ok (.ifCond .eq 48, 3) := by decide +kernel
theorem dX10_isKind_4 : decode cX10_isKind 4 = .ok (.iload_n 1, 1) := by decide +kernel
theorem dX10_isKind_5 : decode cX10_isKind 5 = .ok (.i2l, 1) := by decide +kernel
theorem dX10_isKind_6 : decode cX10_isKind 6 = .ok (.lconst 1, 1) := by decide +kernel
theorem dX10_isKind_7 : decode cX10_isKind 7 = .ok (.ldc2_w 151, 3) := by decide +kernel
theorem dX10_isKind_10 : decode cX10_isKind 10 = .ok (.invokestatic 46, 3) := by decide +kernel
theorem dX10_isKind_13 : decode cX10_isKind 13 = .ok (.ifCond .eq 40, 3) := by decide +kernel
theorem dX10_isKind_16 : decode cX10_isKind 16 = .ok (.iload 4, 2) := by decide +kernel
theorem dX10_isKind_18 : decode cX10_isKind 18 = .ok (.i2l, 1) := by decide +kernel
theorem dX10_isKind_19 : decode cX10_isKind 19 = .ok (.lconst 1, 1) := by decide +kernel
theorem dX10_isKind_20 : decode cX10_isKind 20 = .ok (.ldc2_w 218, 3) := by decide +kernel
theorem dX10_isKind_23 : decode cX10_isKind 23 = .ok (.invokestatic 46, 3) := by decide +kernel
theorem dX10_isKind_26 : decode cX10_isKind 26 = .ok (.ifCond .eq 27, 3) := by decide +kernel
theorem dX10_isKind_29 : decode cX10_isKind 29 = .ok (.iload 4, 2) := by decide +kernel
theorem dX10_isKind_31 : decode cX10_isKind 31 = .ok (.aload_n 0, 1) := by decide +kernel
theorem dX10_isKind_32 : decode cX10_isKind 32 = .ok (.iload_n 2, 1) := by decide +kernel
theorem dX10_isKind_33 : decode cX10_isKind 33 = .ok (.invokevirtual 194, 3) := by decide +kernel
theorem dX10_isKind_36 : decode cX10_isKind 36 = .ok (.if_icmp .lt 17, 3) := by decide +kernel
theorem dX10_isKind_39 : decode cX10_isKind 39 = .ok (.iload 4, 2) := by decide +kernel
theorem dX10_isKind_41 : decode cX10_isKind 41 = .ok (.aload_n 0, 1) := by decide +kernel
theorem dX10_isKind_42 : decode cX10_isKind 42 = .ok (.iload_n 3, 1) := by decide +kernel
theorem dX10_isKind_43 : decode cX10_isKind 43 = .ok (.invokevirtual 194, 3) := by decide +kernel
theorem dX10_isKind_46 : decode cX10_isKind 46 = .ok (.if_icmp .lt 7, 3) := by decide +kernel
theorem dX10_isKind_49 : decode cX10_isKind 49 = .ok (.iconst 1, 1) := by decide +kernel
theorem dX10_isKind_50 : decode cX10_isKind 50 = .ok (.goto 4, 3) := by decide +kernel
theorem dX10_isKind_53 : decode cX10_isKind 53 = .ok (.iconst 0, 1) := by decide +kernel
theorem dX10_isKind_54 : decode cX10_isKind 54 = .ok (.ireturn, 1) := by decide +kernel
theorem dX10_refusal_0 : decode cX10_refusal 0 = .ok (.aload_n 0, 1) := by decide +kernel
theorem dX10_refusal_1 : decode cX10_refusal 1 = .ok (.iload_n 2, 1) := by decide +kernel
theorem dX10_refusal_2 : decode cX10_refusal 2 = .ok (.iload_n 3, 1) := by decide +kernel
theorem dX10_refusal_3 : decode cX10_refusal 3 = .ok (.invokevirtual 237, 3) := by decide +kernel
theorem dX10_refusal_6 : decode cX10_refusal 6 = .ok (.istore 5, 2) := by decide +kernel
theorem dX10_refusal_8 : decode cX10_refusal 8 = .ok (.iload 5, 2) := by decide +kernel
theorem dX10_refusal_10 : decode cX10_refusal 10 = .ok (.ifCond .le 8, 3) := by decide +kernel
theorem dX10_refusal_13 : decode cX10_refusal 13 = .ok (.iload 5, 2) := by decide +kernel
theorem dX10_refusal_15 : decode cX10_refusal 15 = .ok (.goto 20, 3) := by decide +kernel
theorem dX10_refusal_18 : decode cX10_refusal 18 = .ok (.aload_n 0, 1) := by decide +kernel
theorem dX10_refusal_19 : decode cX10_refusal 19 = .ok (.iload_n 1, 1) := by decide +kernel
theorem dX10_refusal_20 : decode cX10_refusal 20 = .ok (.iload_n 2, 1) := by decide +kernel
theorem dX10_refusal_21 : decode cX10_refusal 21 = .ok (.iload_n 3, 1) := by decide +kernel
theorem dX10_refusal_22 : decode cX10_refusal 22 = .ok (.iload 4, 2) := by decide +kernel
theorem dX10_refusal_24 : decode cX10_refusal 24 = .ok (.invokevirtual 240, 3) := by decide +kernel
theorem dX10_refusal_27 : decode cX10_refusal 27 = .ok (.ifCond .eq 7, 3) := by decide +kernel
theorem dX10_refusal_30 : decode cX10_refusal 30 = .ok (.iconst 0, 1) := by decide +kernel
theorem dX10_refusal_31 : decode cX10_refusal 31 = .ok (.goto 4, 3) := by decide +kernel
theorem dX10_refusal_34 : decode cX10_refusal 34 = .ok (.iconst 3, 1) := by decide +kernel
theorem dX10_refusal_35 : decode cX10_refusal 35 = .ok (.ireturn, 1) := by decide +kernel
theorem dX10_sizeOf_0 : decode cX10_sizeOf 0 = .ok (.iload_n 1, 1) := by decide +kernel
theorem dX10_sizeOf_1 : decode cX10_sizeOf 1 = .ok (.ifCond .ne 19, 3) := by decide +kernel
theorem dX10_sizeOf_4 : decode cX10_sizeOf 4 = .ok (.aload_n 0, 1) := by decide +kernel
theorem dX10_sizeOf_5 : decode cX10_sizeOf 5 = .ok (.iload_n 2, 1) := by decide +kernel
theorem dX10_sizeOf_6 : decode cX10_sizeOf 6 = .ok (.invokevirtual 194, 3) := by decide +kernel
theorem dX10_sizeOf_9 : decode cX10_sizeOf 9 = .ok (.aload_n 0, 1) := by decide +kernel
theorem dX10_sizeOf_10 : decode cX10_sizeOf 10 = .ok (.iload_n 3, 1) := by decide +kernel
theorem dX10_sizeOf_11 : decode cX10_sizeOf 11 = .ok (.invokevirtual 194, 3) := by decide +kernel
theorem dX10_sizeOf_14 : decode cX10_sizeOf 14 = .ok (.iadd, 1) := by decide +kernel
theorem dX10_sizeOf_15 : decode cX10_sizeOf 15 = .ok (.iconst 1, 1) := by decide +kernel
theorem dX10_sizeOf_16 : decode cX10_sizeOf 16 = .ok (.isub, 1) := by decide +kernel
theorem dX10_sizeOf_17 : decode cX10_sizeOf 17 = .ok (.goto 5, 3) := by decide +kernel
theorem dX10_sizeOf_20 : decode cX10_sizeOf 20 = .ok (.iload 4, 2) := by decide +kernel
theorem dX10_sizeOf_22 : decode cX10_sizeOf 22 = .ok (.ireturn, 1) := by decide +kernel
theorem dX10_size_0 : decode cX10_size 0 = .ok (.aload_n 0, 1) := by decide +kernel
theorem dX10_size_1 : decode cX10_size 1 = .ok (.aload_n 0, 1) := by decide +kernel
theorem dX10_size_2 : decode cX10_size 2 = .ok (.iload_n 1, 1) := by decide +kernel
theorem dX10_size_3 : decode cX10_size 3 = .ok (.iload_n 2, 1) := by decide +kernel
theorem dX10_size_4 : decode cX10_size 4 = .ok (.iload_n 3, 1) := by decide +kernel
theorem dX10_size_5 : decode cX10_size 5 = .ok (.iload 4, 2) := by decide +kernel
theorem dX10_size_7 : decode cX10_size 7 = .ok (.invokevirtual 244, 3) := by decide +kernel
theorem dX10_size_10 : decode cX10_size 10 = .ok (.putfield 30, 3) := by decide +kernel
theorem dX10_size_13 : decode cX10_size 13 = .ok (.aload_n 0, 1) := by decide +kernel
theorem dX10_size_14 : decode cX10_size 14 = .ok (.getfield 30, 3) := by decide +kernel
theorem dX10_size_17 : decode cX10_size 17 = .ok (.ifCond .le 7, 3) := by decide +kernel
theorem dX10_size_20 : decode cX10_size 20 = .ok (.iconst 0, 1) := by decide +kernel
theorem dX10_size_21 : decode cX10_size 21 = .ok (.goto 12, 3) := by decide +kernel
theorem dX10_size_24 : decode cX10_size 24 = .ok (.aload_n 0, 1) := by decide +kernel
theorem dX10_size_25 : decode cX10_size 25 = .ok (.iload_n 1, 1) := by decide +kernel
theorem dX10_size_26 : decode cX10_size 26 = .ok (.iload_n 2, 1) := by decide +kernel
theorem dX10_size_27 : decode cX10_size 27 = .ok (.iload_n 3, 1) := by decide +kernel
theorem dX10_size_28 : decode cX10_size 28 = .ok (.iload 4, 2) := by decide +kernel
theorem dX10_size_30 : decode cX10_size 30 = .ok (.invokevirtual 248, 3) := by decide +kernel
theorem dX10_size_33 : decode cX10_size 33 = .ok (.ireturn, 1) := by decide +kernel
theorem dX10_greatest_0 : decode cX10_greatest 0 = .ok (.lconst 0, 1) := by decide +kernel
theorem dX10_greatest_1 : decode cX10_greatest 1 = .ok (.lstore_n 2, 1) := by decide +kernel
theorem dX10_greatest_2 : decode cX10_greatest 2 = .ok (.iconst 0, 1) := by decide +kernel
theorem dX10_greatest_3 : decode cX10_greatest 3 = .ok (.istore 4, 2) := by decide +kernel
theorem dX10_greatest_5 : decode cX10_greatest 5 = .ok (.iload 4, 2) := by decide +kernel
theorem dX10_greatest_7 : decode cX10_greatest 7 = .ok (.aload_n 0, 1) := by decide +kernel
theorem dX10_greatest_8 : decode cX10_greatest 8 = .ok (.iload_n 1, 1) := by decide +kernel
theorem dX10_greatest_9 : decode cX10_greatest 9 = .ok (.invokevirtual 194, 3) := by decide +kernel
theorem dX10_greatest_12 : decode cX10_greatest 12 = .ok (.if_icmp .ge 55, 3) := by decide +kernel
theorem dX10_greatest_15 : decode cX10_greatest 15 = .ok (.aload_n 0, 1) := by decide +kernel
theorem dX10_greatest_16 : decode cX10_greatest 16 = .ok (.iload_n 1, 1) := by decide +kernel
theorem dX10_greatest_17 : decode cX10_greatest 17 = .ok (.iload 4, 2) := by decide +kernel
theorem dX10_greatest_19 : decode cX10_greatest 19 = .ok (.invokevirtual 197, 3) := by decide +kernel
theorem dX10_greatest_22 : decode cX10_greatest 22 = .ok (.lconst 0, 1) := by decide +kernel
theorem dX10_greatest_23 : decode cX10_greatest 23 = .ok (.lcmp, 1) := by decide +kernel
theorem dX10_greatest_24 : decode cX10_greatest 24 = .ok (.ifCond .ge 14, 3) := by decide +kernel
theorem dX10_greatest_27 : decode cX10_greatest 27 = .ok (.aload_n 0, 1) := by decide +kernel
theorem dX10_greatest_28 : decode cX10_greatest 28 = .ok (.iload_n 1, 1) := by decide +kernel
theorem dX10_greatest_29 : decode cX10_greatest 29 = .ok (.iload 4, 2) := by decide +kernel
theorem dX10_greatest_31 : decode cX10_greatest 31 = .ok (.invokevirtual 197, 3) := by decide +kernel
theorem dX10_greatest_34 : decode cX10_greatest 34 = .ok (.lneg, 1) := by decide +kernel
theorem dX10_greatest_35 : decode cX10_greatest 35 = .ok (.goto 10, 3) := by decide +kernel
theorem dX10_greatest_38 : decode cX10_greatest 38 = .ok (.aload_n 0, 1) := by decide +kernel
theorem dX10_greatest_39 : decode cX10_greatest 39 = .ok (.iload_n 1, 1) := by decide +kernel
theorem dX10_greatest_40 : decode cX10_greatest 40 = .ok (.iload 4, 2) := by decide +kernel
theorem dX10_greatest_42 : decode cX10_greatest 42 = .ok (.invokevirtual 197, 3) := by decide +kernel
theorem dX10_greatest_45 : decode cX10_greatest 45 = .ok (.lstore 5, 2) := by decide +kernel
theorem dX10_greatest_47 : decode cX10_greatest 47 = .ok (.lload 5, 2) := by decide +kernel
theorem dX10_greatest_49 : decode cX10_greatest 49 = .ok (.lload_n 2, 1) := by decide +kernel
theorem dX10_greatest_50 : decode cX10_greatest 50 = .ok (.lcmp, 1) := by decide +kernel
theorem dX10_greatest_51 : decode cX10_greatest 51 = .ok (.ifCond .le 8, 3) := by decide +kernel
theorem dX10_greatest_54 : decode cX10_greatest 54 = .ok (.lload 5, 2) := by decide +kernel
theorem dX10_greatest_56 : decode cX10_greatest 56 = .ok (.goto 4, 3) := by decide +kernel
theorem dX10_greatest_59 : decode cX10_greatest 59 = .ok (.lload_n 2, 1) := by decide +kernel
theorem dX10_greatest_60 : decode cX10_greatest 60 = .ok (.lstore_n 2, 1) := by decide +kernel
theorem dX10_greatest_61 : decode cX10_greatest 61 = .ok (.iinc 4 1, 3) := by decide +kernel
theorem dX10_greatest_64 : decode cX10_greatest 64 = .ok (.goto (-59), 3) := by decide +kernel
theorem dX10_greatest_67 : decode cX10_greatest 67 = .ok (.lload_n 2, 1) := by decide +kernel
theorem dX10_greatest_68 : decode cX10_greatest 68 = .ok (.lreturn, 1) := by decide +kernel
theorem dX10_boundOf_0 : decode cX10_boundOf 0 = .ok (.aload_n 0, 1) := by decide +kernel
theorem dX10_boundOf_1 : decode cX10_boundOf 1 = .ok (.iload_n 1, 1) := by decide +kernel
theorem dX10_boundOf_2 : decode cX10_boundOf 2 = .ok (.invokevirtual 194, 3) := by decide +kernel
theorem dX10_boundOf_5 : decode cX10_boundOf 5 = .ok (.aload_n 0, 1) := by decide +kernel
theorem dX10_boundOf_6 : decode cX10_boundOf 6 = .ok (.iload_n 2, 1) := by decide +kernel
theorem dX10_boundOf_7 : decode cX10_boundOf 7 = .ok (.invokevirtual 194, 3) := by decide +kernel
theorem dX10_boundOf_10 : decode cX10_boundOf 10 = .ok (.if_icmp .ge 11, 3) := by decide +kernel
theorem dX10_boundOf_13 : decode cX10_boundOf 13 = .ok (.aload_n 0, 1) := by decide +kernel
theorem dX10_boundOf_14 : decode cX10_boundOf 14 = .ok (.iload_n 1, 1) := by decide +kernel
theorem dX10_boundOf_15 : decode cX10_boundOf 15 = .ok (.invokevirtual 194, 3) := by decide +kernel
theorem dX10_boundOf_18 : decode cX10_boundOf 18 = .ok (.goto 8, 3) := by decide +kernel
theorem dX10_boundOf_21 : decode cX10_boundOf 21 = .ok (.aload_n 0, 1) := by decide +kernel
theorem dX10_boundOf_22 : decode cX10_boundOf 22 = .ok (.iload_n 2, 1) := by decide +kernel
theorem dX10_boundOf_23 : decode cX10_boundOf 23 = .ok (.invokevirtual 194, 3) := by decide +kernel
theorem dX10_boundOf_26 : decode cX10_boundOf 26 = .ok (.istore_n 3, 1) := by decide +kernel
theorem dX10_boundOf_27 : decode cX10_boundOf 27 = .ok (.iload_n 3, 1) := by decide +kernel
theorem dX10_boundOf_28 : decode cX10_boundOf 28 = .ok (.i2l, 1) := by decide +kernel
theorem dX10_boundOf_29 : decode cX10_boundOf 29 = .ok (.aload_n 0, 1) := by decide +kernel
theorem dX10_boundOf_30 : decode cX10_boundOf 30 = .ok (.iload_n 1, 1) := by decide +kernel
theorem dX10_boundOf_31 : decode cX10_boundOf 31 = .ok (.invokevirtual 251, 3) := by decide +kernel
theorem dX10_boundOf_34 : decode cX10_boundOf 34 = .ok (.lmul, 1) := by decide +kernel
theorem dX10_boundOf_35 : decode cX10_boundOf 35 = .ok (.aload_n 0, 1) := by decide +kernel
theorem dX10_boundOf_36 : decode cX10_boundOf 36 = .ok (.iload_n 2, 1) := by decide +kernel
theorem dX10_boundOf_37 : decode cX10_boundOf 37 = .ok (.invokevirtual 251, 3) := by decide +kernel
theorem dX10_boundOf_40 : decode cX10_boundOf 40 = .ok (.lmul, 1) := by decide +kernel
theorem dX10_boundOf_41 : decode cX10_boundOf 41 = .ok (.lreturn, 1) := by decide +kernel
theorem dX10_bound_0 : decode cX10_bound 0 = .ok (.aload_n 0, 1) := by decide +kernel
theorem dX10_bound_1 : decode cX10_bound 1 = .ok (.aload_n 0, 1) := by decide +kernel
theorem dX10_bound_2 : decode cX10_bound 2 = .ok (.iload_n 1, 1) := by decide +kernel
theorem dX10_bound_3 : decode cX10_bound 3 = .ok (.iload_n 2, 1) := by decide +kernel
theorem dX10_bound_4 : decode cX10_bound 4 = .ok (.invokevirtual 237, 3) := by decide +kernel
theorem dX10_bound_7 : decode cX10_bound 7 = .ok (.putfield 30, 3) := by decide +kernel
theorem dX10_bound_10 : decode cX10_bound 10 = .ok (.aload_n 0, 1) := by decide +kernel
theorem dX10_bound_11 : decode cX10_bound 11 = .ok (.getfield 30, 3) := by decide +kernel
theorem dX10_bound_14 : decode cX10_bound 14 = .ok (.ifCond .le 7, 3) := by decide +kernel
theorem dX10_bound_17 : decode cX10_bound 17 = .ok (.lconst 0, 1) := by decide +kernel
theorem dX10_bound_18 : decode cX10_bound 18 = .ok (.goto 9, 3) := by decide +kernel
theorem dX10_bound_21 : decode cX10_bound 21 = .ok (.aload_n 0, 1) := by decide +kernel
theorem dX10_bound_22 : decode cX10_bound 22 = .ok (.iload_n 1, 1) := by decide +kernel
theorem dX10_bound_23 : decode cX10_bound 23 = .ok (.iload_n 2, 1) := by decide +kernel
theorem dX10_bound_24 : decode cX10_bound 24 = .ok (.invokevirtual 255, 3) := by decide +kernel
theorem dX10_bound_27 : decode cX10_bound 27 = .ok (.lreturn, 1) := by decide +kernel
theorem dX10_coefficientOf_0 : decode cX10_coefficientOf 0 = .ok (.lconst 0, 1) := by decide +kernel
theorem dX10_coefficientOf_1 : decode cX10_coefficientOf 1 = .ok (.lstore 6, 2) := by decide +kernel
theorem dX10_coefficientOf_3 : decode cX10_coefficientOf 3 = .ok (.iconst 0, 1) := by decide +kernel
theorem dX10_coefficientOf_4 : decode cX10_coefficientOf 4 = .ok (.istore 8, 2) := by decide +kernel
theorem dX10_coefficientOf_6 : decode cX10_coefficientOf 6 = .ok (.iload 8, 2) := by decide +kernel
theorem dX10_coefficientOf_8 : decode cX10_coefficientOf 8 = .ok (.aload_n 0, 1) := by decide +kernel
theorem dX10_coefficientOf_9 : decode cX10_coefficientOf 9 = .ok (.iload_n 2, 1) := by decide +kernel
theorem dX10_coefficientOf_10 : decode cX10_coefficientOf 10 = .ok (.invokevirtual 194, 3) := by decide +kernel
theorem dX10_coefficientOf_13 : decode cX10_coefficientOf 13 = .ok (.if_icmp .ge 106, 3) := by decide +kernel
theorem dX10_coefficientOf_16 : decode cX10_coefficientOf 16 = .ok (.iconst 0, 1) := by decide +kernel
theorem dX10_coefficientOf_17 : decode cX10_coefficientOf 17 = .ok (.istore 9, 2) := by decide +kernel
theorem dX10_coefficientOf_19 : decode cX10_coefficientOf 19 = .ok (.iload 9, 2) := by decide +kernel
theorem dX10_coefficientOf_21 : decode cX10_coefficientOf 21 = .ok (.aload_n 0, 1) := by decide +kernel
theorem dX10_coefficientOf_22 : decode cX10_coefficientOf 22 = .ok (.iload_n 3, 1) := by decide +kernel
theorem dX10_coefficientOf_23 : decode cX10_coefficientOf 23 = .ok (.invokevirtual 194, 3) := by decide +kernel
theorem dX10_coefficientOf_26 : decode cX10_coefficientOf 26 = .ok (.if_icmp .ge 87, 3) := by decide +kernel
theorem dX10_coefficientOf_29 : decode cX10_coefficientOf 29 = .ok (.iload 8, 2) := by decide +kernel
theorem dX10_coefficientOf_31 : decode cX10_coefficientOf 31 = .ok (.iload 9, 2) := by decide +kernel
theorem dX10_coefficientOf_33 : decode cX10_coefficientOf 33 = .ok (.iadd, 1) := by decide +kernel
theorem dX10_coefficientOf_34 : decode cX10_coefficientOf 34 = .ok (.iload 5, 2) := by decide +kernel
theorem dX10_coefficientOf_36 : decode cX10_coefficientOf 36 = .ok (.isub, 1) := by decide +kernel
theorem dX10_coefficientOf_37 : decode cX10_coefficientOf 37 = .ok (.istore 10, 2) := by decide +kernel
theorem dX10_coefficientOf_39 : decode cX10_coefficientOf 39 = .ok (.iload_n 1, 1) := by decide +kernel
theorem dX10_coefficientOf_40 : decode cX10_coefficientOf 40 = .ok (.ifCond .ne 11, 3) := by decide +kernel
theorem dX10_coefficientOf_43 : decode cX10_coefficientOf 43 = .ok (.iload 10, 2) := by decide +kernel
theorem dX10_coefficientOf_45 : decode cX10_coefficientOf 45 = .ok (.ifCond .eq 17, 3) := by decide +kernel
theorem dX10_coefficientOf_48 : decode cX10_coefficientOf 48 = .ok (.goto 59, 3) := by decide +kernel
theorem dX10_coefficientOf_51 : decode cX10_coefficientOf 51 = .ok (.iload 10, 2) := by decide +kernel
theorem dX10_coefficientOf_53 : decode cX10_coefficientOf 53 = .ok (.iload 4, 2) := by decide +kernel
theorem dX10_coefficientOf_55 : decode cX10_coefficientOf 55 = .ok (.irem, 1) := by decide +kernel
theorem dX10_coefficientOf_56 : decode cX10_coefficientOf 56 = .ok (.ifCond .eq 6, 3) := by decide +kernel
theorem dX10_coefficientOf_59 : decode cX10_coefficientOf 59 = .ok (.goto 48, 3) := by decide +kernel
theorem dX10_coefficientOf_62 : decode cX10_coefficientOf 62 = .ok (.aload_n 0, 1) := by decide +kernel
theorem dX10_coefficientOf_63 : decode cX10_coefficientOf 63 = .ok (.iload_n 2, 1) := by decide +kernel
theorem dX10_coefficientOf_64 : decode cX10_coefficientOf 64 = .ok (.iload 8, 2) := by decide +kernel
theorem dX10_coefficientOf_66 : decode cX10_coefficientOf 66 = .ok (.invokevirtual 197, 3) := by decide +kernel
theorem dX10_coefficientOf_69 : decode cX10_coefficientOf 69 = .ok (.aload_n 0, 1) := by decide +kernel
theorem dX10_coefficientOf_70 : decode cX10_coefficientOf 70 = .ok (.iload_n 3, 1) := by decide +kernel
theorem dX10_coefficientOf_71 : decode cX10_coefficientOf 71 = .ok (.iload 9, 2) := by decide +kernel
theorem dX10_coefficientOf_73 : decode cX10_coefficientOf 73 = .ok (.invokevirtual 197, 3) := by decide +kernel
theorem dX10_coefficientOf_76 : decode cX10_coefficientOf 76 = .ok (.lmul, 1) := by decide +kernel
theorem dX10_coefficientOf_77 : decode cX10_coefficientOf 77 = .ok (.lstore 11, 2) := by decide +kernel
theorem dX10_coefficientOf_79 : decode cX10_coefficientOf 79 = .ok (.lload 6, 2) := by decide +kernel
theorem dX10_coefficientOf_81 : decode cX10_coefficientOf 81 = .ok (.iload_n 1, 1) := by decide +kernel
theorem dX10_coefficientOf_82 : decode cX10_coefficientOf 82 = .ok (.iconst 2, 1) := by decide +kernel
theorem dX10_coefficientOf_83 : decode cX10_coefficientOf 83 = .ok (.if_icmp .ne 19, 3) := by decide +kernel
theorem dX10_coefficientOf_86 : decode cX10_coefficientOf 86 = .ok (.iload 10, 2) := by decide +kernel
theorem dX10_coefficientOf_88 : decode cX10_coefficientOf 88 = .ok (.iload 4, 2) := by decide +kernel
theorem dX10_coefficientOf_90 : decode cX10_coefficientOf 90 = .ok (.idiv, 1) := by decide +kernel
theorem dX10_coefficientOf_91 : decode cX10_coefficientOf 91 = .ok (.iconst 2, 1) := by decide +kernel
theorem dX10_coefficientOf_92 : decode cX10_coefficientOf 92 = .ok (.irem, 1) := by decide +kernel
theorem dX10_coefficientOf_93 : decode cX10_coefficientOf 93 = .ok (.ifCond .eq 9, 3) := by decide +kernel
theorem dX10_coefficientOf_96 : decode cX10_coefficientOf 96 = .ok (.lload 11, 2) := by decide +kernel
theorem dX10_coefficientOf_98 : decode cX10_coefficientOf 98 = .ok (.lneg, 1) := by decide +kernel
theorem dX10_coefficientOf_99 : decode cX10_coefficientOf 99 = .ok (.goto 5, 3) := by decide +kernel
theorem dX10_coefficientOf_102 : decode cX10_coefficientOf 102 = .ok (.lload 11, 2) := by decide +kernel
theorem dX10_coefficientOf_104 : decode cX10_coefficientOf 104 = .ok (.ladd, 1) := by decide +kernel
theorem dX10_coefficientOf_105 : decode cX10_coefficientOf 105 = .ok (.lstore 6, 2) := by decide +kernel
theorem dX10_coefficientOf_107 : decode cX10_coefficientOf 107 = .ok (.iinc 9 1, 3) := by decide +kernel
theorem dX10_coefficientOf_110 : decode cX10_coefficientOf 110 = .ok (.goto (-91), 3) := by decide +kernel
theorem dX10_coefficientOf_113 : decode cX10_coefficientOf 113 = .ok (.iinc 8 1, 3) := by decide +kernel
theorem dX10_coefficientOf_116 : decode cX10_coefficientOf 116 = .ok (.goto (-110), 3) := by decide +kernel
theorem dX10_coefficientOf_119 : decode cX10_coefficientOf 119 = .ok (.lload 6, 2) := by decide +kernel
theorem dX10_coefficientOf_121 : decode cX10_coefficientOf 121 = .ok (.lreturn, 1) := by decide +kernel
theorem dX10_coefficient_0 : decode cX10_coefficient 0 = .ok (.aload_n 0, 1) := by decide +kernel
theorem dX10_coefficient_1 : decode cX10_coefficient 1 = .ok (.aload_n 0, 1) := by decide +kernel
theorem dX10_coefficient_2 : decode cX10_coefficient 2 = .ok (.iload_n 1, 1) := by decide +kernel
theorem dX10_coefficient_3 : decode cX10_coefficient 3 = .ok (.iload_n 2, 1) := by decide +kernel
theorem dX10_coefficient_4 : decode cX10_coefficient 4 = .ok (.iload_n 3, 1) := by decide +kernel
theorem dX10_coefficient_5 : decode cX10_coefficient 5 = .ok (.iload 4, 2) := by decide +kernel
theorem dX10_coefficient_7 : decode cX10_coefficient 7 = .ok (.invokevirtual 244, 3) := by decide +kernel
theorem dX10_coefficient_10 : decode cX10_coefficient 10 = .ok (.putfield 30, 3) := by decide +kernel
theorem dX10_coefficient_13 : decode cX10_coefficient 13 = .ok (.aload_n 0, 1) := by decide +kernel
theorem dX10_coefficient_14 : decode cX10_coefficient 14 = .ok (.getfield 30, 3) := by decide +kernel
theorem dX10_coefficient_17 : decode cX10_coefficient 17 = .ok (.ifCond .ne 30, 3) := by decide +kernel
theorem dX10_coefficient_20 : decode cX10_coefficient 20 = .ok (.iload 5, 2) := by decide +kernel
theorem dX10_coefficient_22 : decode cX10_coefficient 22 = .ok (.i2l, 1) := by decide +kernel
theorem dX10_coefficient_23 : decode cX10_coefficient 23 = .ok (.lconst 0, 1) := by decide +kernel
theorem dX10_coefficient_24 : decode cX10_coefficient 24 = .ok (.aload_n 0, 1) := by decide +kernel
theorem dX10_coefficient_25 : decode cX10_coefficient 25 = .ok (.iload_n 1, 1) := by decide +kernel
theorem dX10_coefficient_26 : decode cX10_coefficient 26 = .ok (.iload_n 2, 1) := by decide +kernel
theorem dX10_coefficient_27 : decode cX10_coefficient 27 = .ok (.iload_n 3, 1) := by decide +kernel
theorem dX10_coefficient_28 : decode cX10_coefficient 28 = .ok (.iload 4, 2) := by decide +kernel
theorem dX10_coefficient_30 : decode cX10_coefficient 30 = .ok (.invokevirtual 248, 3) := by decide +kernel
theorem dX10_coefficient_33 : decode cX10_coefficient 33 = .ok (.iconst 1, 1) := by decide +kernel
theorem dX10_coefficient_34 : decode cX10_coefficient 34 = .ok (.isub, 1) := by decide +kernel
theorem dX10_coefficient_35 : decode cX10_coefficient 35 = .ok (.i2l, 1) := by decide +kernel
theorem dX10_coefficient_36 : decode cX10_coefficient 36 = .ok (.invokestatic 46, 3) := by decide +kernel
theorem dX10_coefficient_39 : decode cX10_coefficient 39 = .ok (.ifCond .ne 8, 3) := by decide +kernel
theorem dX10_coefficient_42 : decode cX10_coefficient 42 = .ok (.aload_n 0, 1) := by decide +kernel
theorem dX10_coefficient_43 : decode cX10_coefficient 43 = .ok (.iconst 3, 1) := by decide +kernel
theorem dX10_coefficient_44 : decode cX10_coefficient 44 = .ok (.putfield 30, 3) := by decide +kernel
theorem dX10_coefficient_47 : decode cX10_coefficient 47 = .ok (.aload_n 0, 1) := by decide +kernel
theorem dX10_coefficient_48 : decode cX10_coefficient 48 = .ok (.getfield 30, 3) := by decide +kernel
theorem dX10_coefficient_51 : decode cX10_coefficient 51 = .ok (.ifCond .le 7, 3) := by decide +kernel
theorem dX10_coefficient_54 : decode cX10_coefficient 54 = .ok (.lconst 0, 1) := by decide +kernel
theorem dX10_coefficient_55 : decode cX10_coefficient 55 = .ok (.goto 14, 3) := by decide +kernel
theorem dX10_coefficient_58 : decode cX10_coefficient 58 = .ok (.aload_n 0, 1) := by decide +kernel
theorem dX10_coefficient_59 : decode cX10_coefficient 59 = .ok (.iload_n 1, 1) := by decide +kernel
theorem dX10_coefficient_60 : decode cX10_coefficient 60 = .ok (.iload_n 2, 1) := by decide +kernel
theorem dX10_coefficient_61 : decode cX10_coefficient 61 = .ok (.iload_n 3, 1) := by decide +kernel
theorem dX10_coefficient_62 : decode cX10_coefficient 62 = .ok (.iload 4, 2) := by decide +kernel
theorem dX10_coefficient_64 : decode cX10_coefficient 64 = .ok (.iload 5, 2) := by decide +kernel
theorem dX10_coefficient_66 : decode cX10_coefficient 66 = .ok (.invokevirtual 258, 3) := by decide +kernel
theorem dX10_coefficient_69 : decode cX10_coefficient 69 = .ok (.lreturn, 1) := by decide +kernel
theorem dX10_productOf_0 : decode cX10_productOf 0 = .ok (.lconst 1, 1) := by decide +kernel
theorem dX10_productOf_1 : decode cX10_productOf 1 = .ok (.lstore_n 2, 1) := by decide +kernel
theorem dX10_productOf_2 : decode cX10_productOf 2 = .ok (.iconst 0, 1) := by decide +kernel
theorem dX10_productOf_3 : decode cX10_productOf 3 = .ok (.istore 4, 2) := by decide +kernel
theorem dX10_productOf_5 : decode cX10_productOf 5 = .ok (.iload 4, 2) := by decide +kernel
theorem dX10_productOf_7 : decode cX10_productOf 7 = .ok (.i2l, 1) := by decide +kernel
theorem dX10_productOf_8 : decode cX10_productOf 8 = .ok (.aload_n 0, 1) := by decide +kernel
theorem dX10_productOf_9 : decode cX10_productOf 9 = .ok (.getfield 7, 3) := by decide +kernel
theorem dX10_productOf_12 : decode cX10_productOf 12 = .ok (.iconst 0, 1) := by decide +kernel
theorem dX10_productOf_13 : decode cX10_productOf 13 = .ok (.laload, 1) := by decide +kernel
theorem dX10_productOf_14 : decode cX10_productOf 14 = .ok (.lcmp, 1) := by decide +kernel
theorem dX10_productOf_15 : decode cX10_productOf 15 = .ok (.ifCond .ge 51, 3) := by decide +kernel
theorem dX10_productOf_18 : decode cX10_productOf 18 = .ok (.iload_n 1, 1) := by decide +kernel
theorem dX10_productOf_19 : decode cX10_productOf 19 = .ok (.iload 4, 2) := by decide +kernel
theorem dX10_productOf_21 : decode cX10_productOf 21 = .ok (.ishr, 1) := by decide +kernel
theorem dX10_productOf_22 : decode cX10_productOf 22 = .ok (.iconst 1, 1) := by decide +kernel
theorem dX10_productOf_23 : decode cX10_productOf 23 = .ok (.iand, 1) := by decide +kernel
theorem dX10_productOf_24 : decode cX10_productOf 24 = .ok (.ifCond .ne 6, 3) := by decide +kernel
theorem dX10_productOf_27 : decode cX10_productOf 27 = .ok (.goto 33, 3) := by decide +kernel
theorem dX10_productOf_30 : decode cX10_productOf 30 = .ok (.lload_n 2, 1) := by decide +kernel
theorem dX10_productOf_31 : decode cX10_productOf 31 = .ok (.ldc2_w 262, 3) := by decide +kernel
theorem dX10_productOf_34 : decode cX10_productOf 34 = .ok (.aload_n 0, 1) := by decide +kernel
theorem dX10_productOf_35 : decode cX10_productOf 35 = .ok (.iload 4, 2) := by decide +kernel
theorem dX10_productOf_37 : decode cX10_productOf 37 = .ok (.invokevirtual 165, 3) := by decide +kernel
theorem dX10_productOf_40 : decode cX10_productOf 40 = .ok (.i2l, 1) := by decide +kernel
theorem dX10_productOf_41 : decode cX10_productOf 41 = .ok (.ldiv, 1) := by decide +kernel
theorem dX10_productOf_42 : decode cX10_productOf 42 = .ok (.lcmp, 1) := by decide +kernel
theorem dX10_productOf_43 : decode cX10_productOf 43 = .ok (.ifCond .le 7, 3) := by decide +kernel
theorem dX10_productOf_46 : decode cX10_productOf 46 = .ok (.ldc2_w 264, 3) := by decide +kernel
theorem dX10_productOf_49 : decode cX10_productOf 49 = .ok (.lreturn, 1) := by decide +kernel
theorem dX10_productOf_50 : decode cX10_productOf 50 = .ok (.lload_n 2, 1) := by decide +kernel
theorem dX10_productOf_51 : decode cX10_productOf 51 = .ok (.aload_n 0, 1) := by decide +kernel
theorem dX10_productOf_52 : decode cX10_productOf 52 = .ok (.iload 4, 2) := by decide +kernel
theorem dX10_productOf_54 : decode cX10_productOf 54 = .ok (.invokevirtual 165, 3) := by decide +kernel
theorem dX10_productOf_57 : decode cX10_productOf 57 = .ok (.i2l, 1) := by decide +kernel
theorem dX10_productOf_58 : decode cX10_productOf 58 = .ok (.lmul, 1) := by decide +kernel
theorem dX10_productOf_59 : decode cX10_productOf 59 = .ok (.lstore_n 2, 1) := by decide +kernel
theorem dX10_productOf_60 : decode cX10_productOf 60 = .ok (.iinc 4 1, 3) := by decide +kernel
theorem dX10_productOf_63 : decode cX10_productOf 63 = .ok (.goto (-58), 3) := by decide +kernel
theorem dX10_productOf_66 : decode cX10_productOf 66 = .ok (.lload_n 2, 1) := by decide +kernel
theorem dX10_productOf_67 : decode cX10_productOf 67 = .ok (.lreturn, 1) := by decide +kernel
theorem dX10_areEnough_0 : decode cX10_areEnough 0 = .ok (.iload_n 1, 1) := by decide +kernel
theorem dX10_areEnough_1 : decode cX10_areEnough 1 = .ok (.ifCond .le 21, 3) := by decide +kernel
theorem dX10_areEnough_4 : decode cX10_areEnough 4 = .ok (.aload_n 0, 1) := by decide +kernel
theorem dX10_areEnough_5 : decode cX10_areEnough 5 = .ok (.iload_n 1, 1) := by decide +kernel
theorem dX10_areEnough_6 : decode cX10_areEnough 6 = .ok (.invokevirtual 266, 3) := by decide +kernel
theorem dX10_areEnough_9 : decode cX10_areEnough 9 = .ok (.ldc2_w 151, 3) := by decide +kernel
theorem dX10_areEnough_12 : decode cX10_areEnough 12 = .ok (.lload_n 2, 1) := by decide +kernel
theorem dX10_areEnough_13 : decode cX10_areEnough 13 = .ok (.lmul, 1) := by decide +kernel
theorem dX10_areEnough_14 : decode cX10_areEnough 14 = .ok (.lcmp, 1) := by decide +kernel
theorem dX10_areEnough_15 : decode cX10_areEnough 15 = .ok (.ifCond .le 7, 3) := by decide +kernel
theorem dX10_areEnough_18 : decode cX10_areEnough 18 = .ok (.iconst 1, 1) := by decide +kernel
theorem dX10_areEnough_19 : decode cX10_areEnough 19 = .ok (.goto 4, 3) := by decide +kernel
theorem dX10_areEnough_22 : decode cX10_areEnough 22 = .ok (.iconst 0, 1) := by decide +kernel
theorem dX10_areEnough_23 : decode cX10_areEnough 23 = .ok (.ireturn, 1) := by decide +kernel
theorem dX10_isEnough_0 : decode cX10_isEnough 0 = .ok (.aload_n 0, 1) := by decide +kernel
theorem dX10_isEnough_1 : decode cX10_isEnough 1 = .ok (.aload_n 0, 1) := by decide +kernel
theorem dX10_isEnough_2 : decode cX10_isEnough 2 = .ok (.iload_n 1, 1) := by decide +kernel
theorem dX10_isEnough_3 : decode cX10_isEnough 3 = .ok (.invokevirtual 231, 3) := by decide +kernel
theorem dX10_isEnough_6 : decode cX10_isEnough 6 = .ok (.ifCond .eq 12, 3) := by decide +kernel
theorem dX10_isEnough_9 : decode cX10_isEnough 9 = .ok (.aload_n 0, 1) := by decide +kernel
theorem dX10_isEnough_10 : decode cX10_isEnough 10 = .ok (.iload_n 2, 1) := by decide +kernel
theorem dX10_isEnough_11 : decode cX10_isEnough 11 = .ok (.iload_n 3, 1) := by decide +kernel
theorem dX10_isEnough_12 : decode cX10_isEnough 12 = .ok (.invokevirtual 237, 3) := by decide +kernel
theorem dX10_isEnough_15 : decode cX10_isEnough 15 = .ok (.goto 4, 3) := by decide +kernel
theorem dX10_isEnough_18 : decode cX10_isEnough 18 = .ok (.iconst 1, 1) := by decide +kernel
theorem dX10_isEnough_19 : decode cX10_isEnough 19 = .ok (.putfield 30, 3) := by decide +kernel
theorem dX10_isEnough_22 : decode cX10_isEnough 22 = .ok (.aload_n 0, 1) := by decide +kernel
theorem dX10_isEnough_23 : decode cX10_isEnough 23 = .ok (.getfield 30, 3) := by decide +kernel
theorem dX10_isEnough_26 : decode cX10_isEnough 26 = .ok (.ifCond .ne 21, 3) := by decide +kernel
theorem dX10_isEnough_29 : decode cX10_isEnough 29 = .ok (.aload_n 0, 1) := by decide +kernel
theorem dX10_isEnough_30 : decode cX10_isEnough 30 = .ok (.iload_n 1, 1) := by decide +kernel
theorem dX10_isEnough_31 : decode cX10_isEnough 31 = .ok (.aload_n 0, 1) := by decide +kernel
theorem dX10_isEnough_32 : decode cX10_isEnough 32 = .ok (.iload_n 2, 1) := by decide +kernel
theorem dX10_isEnough_33 : decode cX10_isEnough 33 = .ok (.iload_n 3, 1) := by decide +kernel
theorem dX10_isEnough_34 : decode cX10_isEnough 34 = .ok (.invokevirtual 255, 3) := by decide +kernel
theorem dX10_isEnough_37 : decode cX10_isEnough 37 = .ok (.invokevirtual 269, 3) := by decide +kernel
theorem dX10_isEnough_40 : decode cX10_isEnough 40 = .ok (.ifCond .eq 7, 3) := by decide +kernel
theorem dX10_isEnough_43 : decode cX10_isEnough 43 = .ok (.iconst 1, 1) := by decide +kernel
theorem dX10_isEnough_44 : decode cX10_isEnough 44 = .ok (.goto 4, 3) := by decide +kernel
theorem dX10_isEnough_47 : decode cX10_isEnough 47 = .ok (.iconst 0, 1) := by decide +kernel
theorem dX10_isEnough_48 : decode cX10_isEnough 48 = .ok (.ireturn, 1) := by decide +kernel
theorem dX10_stepsOf_0 : decode cX10_stepsOf 0 = .ok (.iconst 0, 1) := by decide +kernel
theorem dX10_stepsOf_1 : decode cX10_stepsOf 1 = .ok (.istore 4, 2) := by decide +kernel
theorem dX10_stepsOf_3 : decode cX10_stepsOf 3 = .ok (.iconst 0, 1) := by decide +kernel
theorem dX10_stepsOf_4 : decode cX10_stepsOf 4 = .ok (.istore 5, 2) := by decide +kernel
theorem dX10_stepsOf_6 : decode cX10_stepsOf 6 = .ok (.iconst 0, 1) := by decide +kernel
theorem dX10_stepsOf_7 : decode cX10_stepsOf 7 = .ok (.istore 6, 2) := by decide +kernel
theorem dX10_stepsOf_9 : decode cX10_stepsOf 9 = .ok (.iload 6, 2) := by decide +kernel
theorem dX10_stepsOf_11 : decode cX10_stepsOf 11 = .ok (.i2l, 1) := by decide +kernel
theorem dX10_stepsOf_12 : decode cX10_stepsOf 12 = .ok (.aload_n 0, 1) := by decide +kernel
theorem dX10_stepsOf_13 : decode cX10_stepsOf 13 = .ok (.getfield 7, 3) := by decide +kernel
theorem dX10_stepsOf_16 : decode cX10_stepsOf 16 = .ok (.iconst 0, 1) := by decide +kernel
theorem dX10_stepsOf_17 : decode cX10_stepsOf 17 = .ok (.laload, 1) := by decide +kernel
theorem dX10_stepsOf_18 : decode cX10_stepsOf 18 = .ok (.lcmp, 1) := by decide +kernel
theorem dX10_stepsOf_19 : decode cX10_stepsOf 19 = .ok (.ifCond .ge 66, 3) := by decide +kernel
theorem dX10_stepsOf_22 : decode cX10_stepsOf 22 = .ok (.iload_n 3, 1) := by decide +kernel
theorem dX10_stepsOf_23 : decode cX10_stepsOf 23 = .ok (.iload 6, 2) := by decide +kernel
theorem dX10_stepsOf_25 : decode cX10_stepsOf 25 = .ok (.ishr, 1) := by decide +kernel
theorem dX10_stepsOf_26 : decode cX10_stepsOf 26 = .ok (.iconst 1, 1) := by decide +kernel
theorem dX10_stepsOf_27 : decode cX10_stepsOf 27 = .ok (.iand, 1) := by decide +kernel
theorem dX10_stepsOf_28 : decode cX10_stepsOf 28 = .ok (.ifCond .ne 6, 3) := by decide +kernel
theorem dX10_stepsOf_31 : decode cX10_stepsOf 31 = .ok (.goto 48, 3) := by decide +kernel
theorem dX10_stepsOf_34 : decode cX10_stepsOf 34 = .ok (.iinc 5 1, 3) := by decide +kernel
theorem dX10_stepsOf_37 : decode cX10_stepsOf 37 = .ok (.aload_n 0, 1) := by decide +kernel
theorem dX10_stepsOf_38 : decode cX10_stepsOf 38 = .ok (.iload 6, 2) := by decide +kernel
theorem dX10_stepsOf_40 : decode cX10_stepsOf 40 = .ok (.invokevirtual 165, 3) := by decide +kernel
theorem dX10_stepsOf_43 : decode cX10_stepsOf 43 = .ok (.istore 7, 2) := by decide +kernel
theorem dX10_stepsOf_45 : decode cX10_stepsOf 45 = .ok (.iload 4, 2) := by decide +kernel
theorem dX10_stepsOf_47 : decode cX10_stepsOf 47 = .ok (.iconst 3, 1) := by decide +kernel
theorem dX10_stepsOf_48 : decode cX10_stepsOf 48 = .ok (.iload 7, 2) := by decide +kernel
theorem dX10_stepsOf_50 : decode cX10_stepsOf 50 = .ok (.iload_n 2, 1) := by decide +kernel
theorem dX10_stepsOf_51 : decode cX10_stepsOf 51 = .ok (.iload 7, 2) := by decide +kernel
theorem dX10_stepsOf_53 : decode cX10_stepsOf 53 = .ok (.iload_n 2, 1) := by decide +kernel
theorem dX10_stepsOf_54 : decode cX10_stepsOf 54 = .ok (.invokestatic 228, 3) := by decide +kernel
theorem dX10_stepsOf_57 : decode cX10_stepsOf 57 = .ok (.invokestatic 224, 3) := by decide +kernel
theorem dX10_stepsOf_60 : decode cX10_stepsOf 60 = .ok (.imul, 1) := by decide +kernel
theorem dX10_stepsOf_61 : decode cX10_stepsOf 61 = .ok (.iload_n 2, 1) := by decide +kernel
theorem dX10_stepsOf_62 : decode cX10_stepsOf 62 = .ok (.iadd, 1) := by decide +kernel
theorem dX10_stepsOf_63 : decode cX10_stepsOf 63 = .ok (.iload_n 1, 1) := by decide +kernel
theorem dX10_stepsOf_64 : decode cX10_stepsOf 64 = .ok (.iconst 2, 1) := by decide +kernel
theorem dX10_stepsOf_65 : decode cX10_stepsOf 65 = .ok (.if_icmp .ne 9, 3) := by decide +kernel
theorem dX10_stepsOf_68 : decode cX10_stepsOf 68 = .ok (.iconst 3, 1) := by decide +kernel
theorem dX10_stepsOf_69 : decode cX10_stepsOf 69 = .ok (.iload_n 2, 1) := by decide +kernel
theorem dX10_stepsOf_70 : decode cX10_stepsOf 70 = .ok (.imul, 1) := by decide +kernel
theorem dX10_stepsOf_71 : decode cX10_stepsOf 71 = .ok (.goto 4, 3) := by decide +kernel
theorem dX10_stepsOf_74 : decode cX10_stepsOf 74 = .ok (.iconst 0, 1) := by decide +kernel
theorem dX10_stepsOf_75 : decode cX10_stepsOf 75 = .ok (.iadd, 1) := by decide +kernel
theorem dX10_stepsOf_76 : decode cX10_stepsOf 76 = .ok (.iadd, 1) := by decide +kernel
theorem dX10_stepsOf_77 : decode cX10_stepsOf 77 = .ok (.istore 4, 2) := by decide +kernel
theorem dX10_stepsOf_79 : decode cX10_stepsOf 79 = .ok (.iinc 6 1, 3) := by decide +kernel
theorem dX10_stepsOf_82 : decode cX10_stepsOf 82 = .ok (.goto (-73), 3) := by decide +kernel
theorem dX10_stepsOf_85 : decode cX10_stepsOf 85 = .ok (.iload 4, 2) := by decide +kernel
theorem dX10_stepsOf_87 : decode cX10_stepsOf 87 = .ok (.iload_n 2, 1) := by decide +kernel
theorem dX10_stepsOf_88 : decode cX10_stepsOf 88 = .ok (.iload 5, 2) := by decide +kernel
theorem dX10_stepsOf_90 : decode cX10_stepsOf 90 = .ok (.imul, 1) := by decide +kernel
theorem dX10_stepsOf_91 : decode cX10_stepsOf 91 = .ok (.iload 5, 2) := by decide +kernel
theorem dX10_stepsOf_93 : decode cX10_stepsOf 93 = .ok (.iconst 1, 1) := by decide +kernel
theorem dX10_stepsOf_94 : decode cX10_stepsOf 94 = .ok (.isub, 1) := by decide +kernel
theorem dX10_stepsOf_95 : decode cX10_stepsOf 95 = .ok (.imul, 1) := by decide +kernel
theorem dX10_stepsOf_96 : decode cX10_stepsOf 96 = .ok (.iconst 2, 1) := by decide +kernel
theorem dX10_stepsOf_97 : decode cX10_stepsOf 97 = .ok (.idiv, 1) := by decide +kernel
theorem dX10_stepsOf_98 : decode cX10_stepsOf 98 = .ok (.iadd, 1) := by decide +kernel
theorem dX10_stepsOf_99 : decode cX10_stepsOf 99 = .ok (.ireturn, 1) := by decide +kernel
theorem dX10_laysPlans_0 : decode cX10_laysPlans 0 = .ok (.aload_n 0, 1) := by decide +kernel
theorem dX10_laysPlans_1 : decode cX10_laysPlans 1 = .ok (.iload_n 1, 1) := by decide +kernel
theorem dX10_laysPlans_2 : decode cX10_laysPlans 2 = .ok (.iload_n 2, 1) := by decide +kernel
theorem dX10_laysPlans_3 : decode cX10_laysPlans 3 = .ok (.iload_n 3, 1) := by decide +kernel
theorem dX10_laysPlans_4 : decode cX10_laysPlans 4 = .ok (.iload 4, 2) := by decide +kernel
theorem dX10_laysPlans_6 : decode cX10_laysPlans 6 = .ok (.invokevirtual 248, 3) := by decide +kernel
theorem dX10_laysPlans_9 : decode cX10_laysPlans 9 = .ok (.istore 5, 2) := by decide +kernel
theorem dX10_laysPlans_11 : decode cX10_laysPlans 11 = .ok (.aload_n 0, 1) := by decide +kernel
theorem dX10_laysPlans_12 : decode cX10_laysPlans 12 = .ok (.iload_n 2, 1) := by decide +kernel
theorem dX10_laysPlans_13 : decode cX10_laysPlans 13 = .ok (.iload_n 3, 1) := by decide +kernel
theorem dX10_laysPlans_14 : decode cX10_laysPlans 14 = .ok (.invokevirtual 255, 3) := by decide +kernel
theorem dX10_laysPlans_17 : decode cX10_laysPlans 17 = .ok (.lstore 6, 2) := by decide +kernel
theorem dX10_laysPlans_19 : decode cX10_laysPlans 19 = .ok (.aload_n 0, 1) := by decide +kernel
theorem dX10_laysPlans_20 : decode cX10_laysPlans 20 = .ok (.iconst (-1), 1) := by decide +kernel
theorem dX10_laysPlans_21 : decode cX10_laysPlans 21 = .ok (.putfield 273, 3) := by decide +kernel
theorem dX10_laysPlans_24 : decode cX10_laysPlans 24 = .ok (.iload 5, 2) := by decide +kernel
theorem dX10_laysPlans_26 : decode cX10_laysPlans 26 = .ok (.istore 8, 2) := by decide +kernel
theorem dX10_laysPlans_28 : decode cX10_laysPlans 28 = .ok (.iload 8, 2) := by decide +kernel
theorem dX10_laysPlans_30 : decode cX10_laysPlans 30 = .ok (.iload_n 1, 1) := by decide +kernel
theorem dX10_laysPlans_31 : decode cX10_laysPlans 31 = .ok (.ifCond .ne 8, 3) := by decide +kernel
theorem dX10_laysPlans_34 : decode cX10_laysPlans 34 = .ok (.bipush 64, 2) := by decide +kernel
theorem dX10_laysPlans_36 : decode cX10_laysPlans 36 = .ok (.goto 5, 3) := by decide +kernel
theorem dX10_laysPlans_39 : decode cX10_laysPlans 39 = .ok (.iload 5, 2) := by decide +kernel
theorem dX10_laysPlans_41 : decode cX10_laysPlans 41 = .ok (.if_icmp .gt 118, 3) := by decide +kernel
theorem dX10_laysPlans_44 : decode cX10_laysPlans 44 = .ok (.iconst 1, 1) := by decide +kernel
theorem dX10_laysPlans_45 : decode cX10_laysPlans 45 = .ok (.istore 9, 2) := by decide +kernel
theorem dX10_laysPlans_47 : decode cX10_laysPlans 47 = .ok (.iload 9, 2) := by decide +kernel
theorem dX10_laysPlans_49 : decode cX10_laysPlans 49 = .ok (.iconst 1, 1) := by decide +kernel
theorem dX10_laysPlans_50 : decode cX10_laysPlans 50 = .ok (.aload_n 0, 1) := by decide +kernel
theorem dX10_laysPlans_51 : decode cX10_laysPlans 51 = .ok (.getfield 7, 3) := by decide +kernel
theorem dX10_laysPlans_54 : decode cX10_laysPlans 54 = .ok (.iconst 0, 1) := by decide +kernel
theorem dX10_laysPlans_55 : decode cX10_laysPlans 55 = .ok (.laload, 1) := by decide +kernel
theorem dX10_laysPlans_56 : decode cX10_laysPlans 56 = .ok (.l2i, 1) := by decide +kernel
theorem dX10_laysPlans_57 : decode cX10_laysPlans 57 = .ok (.ishl, 1) := by decide +kernel
theorem dX10_laysPlans_58 : decode cX10_laysPlans 58 = .ok (.if_icmp .ge 95, 3) := by decide +kernel
theorem dX10_laysPlans_61 : decode cX10_laysPlans 61 = .ok (.aload_n 0, 1) := by decide +kernel
theorem dX10_laysPlans_62 : decode cX10_laysPlans 62 = .ok (.iload 9, 2) := by decide +kernel
theorem dX10_laysPlans_64 : decode cX10_laysPlans 64 = .ok (.lload 6, 2) := by decide +kernel
theorem dX10_laysPlans_66 : decode cX10_laysPlans 66 = .ok (.invokevirtual 269, 3) := by decide +kernel
theorem dX10_laysPlans_69 : decode cX10_laysPlans 69 = .ok (.ifCond .eq 78, 3) := by decide +kernel
theorem dX10_laysPlans_72 : decode cX10_laysPlans 72 = .ok (.aload_n 0, 1) := by decide +kernel
theorem dX10_laysPlans_73 : decode cX10_laysPlans 73 = .ok (.iload 9, 2) := by decide +kernel
theorem dX10_laysPlans_75 : decode cX10_laysPlans 75 = .ok (.iload_n 1, 1) := by decide +kernel
theorem dX10_laysPlans_76 : decode cX10_laysPlans 76 = .ok (.iconst 2, 1) := by decide +kernel
theorem dX10_laysPlans_77 : decode cX10_laysPlans 77 = .ok (.if_icmp .ne 10, 3) := by decide +kernel
theorem dX10_laysPlans_80 : decode cX10_laysPlans 80 = .ok (.iconst 2, 1) := by decide +kernel
theorem dX10_laysPlans_81 : decode cX10_laysPlans 81 = .ok (.iload 8, 2) := by decide +kernel
theorem dX10_laysPlans_83 : decode cX10_laysPlans 83 = .ok (.imul, 1) := by decide +kernel
theorem dX10_laysPlans_84 : decode cX10_laysPlans 84 = .ok (.goto 5, 3) := by decide +kernel
theorem dX10_laysPlans_87 : decode cX10_laysPlans 87 = .ok (.iload 8, 2) := by decide +kernel
theorem dX10_laysPlans_89 : decode cX10_laysPlans 89 = .ok (.invokevirtual 234, 3) := by decide +kernel
theorem dX10_laysPlans_92 : decode cX10_laysPlans 92 = .ok (.ifCond .ne 6, 3) := by decide +kernel
theorem dX10_laysPlans_95 : decode cX10_laysPlans 95 = .ok (.goto 52, 3) := by decide +kernel
theorem dX10_laysPlans_98 : decode cX10_laysPlans 98 = .ok (.aload_n 0, 1) := by decide +kernel
theorem dX10_laysPlans_99 : decode cX10_laysPlans 99 = .ok (.iload_n 1, 1) := by decide +kernel
theorem dX10_laysPlans_100 : decode cX10_laysPlans 100 = .ok (.iload 8, 2) := by decide +kernel
theorem dX10_laysPlans_102 : decode cX10_laysPlans 102 = .ok (.iload 9, 2) := by decide +kernel
theorem dX10_laysPlans_104 : decode cX10_laysPlans 104 = .ok (.invokevirtual 276, 3) := by decide +kernel
theorem dX10_laysPlans_107 : decode cX10_laysPlans 107 = .ok (.istore 10, 2) := by decide +kernel
theorem dX10_laysPlans_109 : decode cX10_laysPlans 109 = .ok (.aload_n 0, 1) := by decide +kernel
theorem dX10_laysPlans_110 : decode cX10_laysPlans 110 = .ok (.getfield 273, 3) := by decide +kernel
theorem dX10_laysPlans_113 : decode cX10_laysPlans 113 = .ok (.iconst (-1), 1) := by decide +kernel
theorem dX10_laysPlans_114 : decode cX10_laysPlans 114 = .ok (.if_icmp .eq 15, 3) := by decide +kernel
theorem dX10_laysPlans_117 : decode cX10_laysPlans 117 = .ok (.iload 10, 2) := by decide +kernel
theorem dX10_laysPlans_119 : decode cX10_laysPlans 119 = .ok (.aload_n 0, 1) := by decide +kernel
theorem dX10_laysPlans_120 : decode cX10_laysPlans 120 = .ok (.getfield 273, 3) := by decide +kernel
theorem dX10_laysPlans_123 : decode cX10_laysPlans 123 = .ok (.if_icmp .lt 6, 3) := by decide +kernel
theorem dX10_laysPlans_126 : decode cX10_laysPlans 126 = .ok (.goto 21, 3) := by decide +kernel
theorem dX10_laysPlans_129 : decode cX10_laysPlans 129 = .ok (.aload_n 0, 1) := by decide +kernel
theorem dX10_laysPlans_130 : decode cX10_laysPlans 130 = .ok (.iload 10, 2) := by decide +kernel
theorem dX10_laysPlans_132 : decode cX10_laysPlans 132 = .ok (.putfield 273, 3) := by decide +kernel
theorem dX10_laysPlans_135 : decode cX10_laysPlans 135 = .ok (.aload_n 0, 1) := by decide +kernel
theorem dX10_laysPlans_136 : decode cX10_laysPlans 136 = .ok (.iload 8, 2) := by decide +kernel
theorem dX10_laysPlans_138 : decode cX10_laysPlans 138 = .ok (.putfield 279, 3) := by decide +kernel
theorem dX10_laysPlans_141 : decode cX10_laysPlans 141 = .ok (.aload_n 0, 1) := by decide +kernel
theorem dX10_laysPlans_142 : decode cX10_laysPlans 142 = .ok (.iload 9, 2) := by decide +kernel
theorem dX10_laysPlans_144 : decode cX10_laysPlans 144 = .ok (.putfield 282, 3) := by decide +kernel
theorem dX10_laysPlans_147 : decode cX10_laysPlans 147 = .ok (.iinc 9 1, 3) := by decide +kernel
theorem dX10_laysPlans_150 : decode cX10_laysPlans 150 = .ok (.goto (-103), 3) := by decide +kernel
theorem dX10_laysPlans_153 : decode cX10_laysPlans 153 = .ok (.iinc 8 1, 3) := by decide +kernel
theorem dX10_laysPlans_156 : decode cX10_laysPlans 156 = .ok (.goto (-128), 3) := by decide +kernel
theorem dX10_laysPlans_159 : decode cX10_laysPlans 159 = .ok (.return_, 1) := by decide +kernel
theorem dX10_plan_0 : decode cX10_plan 0 = .ok (.aload_n 0, 1) := by decide +kernel
theorem dX10_plan_1 : decode cX10_plan 1 = .ok (.aload_n 0, 1) := by decide +kernel
theorem dX10_plan_2 : decode cX10_plan 2 = .ok (.iload_n 1, 1) := by decide +kernel
theorem dX10_plan_3 : decode cX10_plan 3 = .ok (.iload_n 2, 1) := by decide +kernel
theorem dX10_plan_4 : decode cX10_plan 4 = .ok (.iload_n 3, 1) := by decide +kernel
theorem dX10_plan_5 : decode cX10_plan 5 = .ok (.iload 4, 2) := by decide +kernel
theorem dX10_plan_7 : decode cX10_plan 7 = .ok (.invokevirtual 244, 3) := by decide +kernel
theorem dX10_plan_10 : decode cX10_plan 10 = .ok (.putfield 30, 3) := by decide +kernel
theorem dX10_plan_13 : decode cX10_plan 13 = .ok (.aload_n 0, 1) := by decide +kernel
theorem dX10_plan_14 : decode cX10_plan 14 = .ok (.getfield 30, 3) := by decide +kernel
theorem dX10_plan_17 : decode cX10_plan 17 = .ok (.ifCond .ne 21, 3) := by decide +kernel
theorem dX10_plan_20 : decode cX10_plan 20 = .ok (.iload 5, 2) := by decide +kernel
theorem dX10_plan_22 : decode cX10_plan 22 = .ok (.i2l, 1) := by decide +kernel
theorem dX10_plan_23 : decode cX10_plan 23 = .ok (.lconst 0, 1) := by decide +kernel
theorem dX10_plan_24 : decode cX10_plan 24 = .ok (.ldc2_w 151, 3) := by decide +kernel
theorem dX10_plan_27 : decode cX10_plan 27 = .ok (.invokestatic 46, 3) := by decide +kernel
theorem dX10_plan_30 : decode cX10_plan 30 = .ok (.ifCond .ne 8, 3) := by decide +kernel
theorem dX10_plan_33 : decode cX10_plan 33 = .ok (.aload_n 0, 1) := by decide +kernel
theorem dX10_plan_34 : decode cX10_plan 34 = .ok (.iconst 3, 1) := by decide +kernel
theorem dX10_plan_35 : decode cX10_plan 35 = .ok (.putfield 30, 3) := by decide +kernel
theorem dX10_plan_38 : decode cX10_plan 38 = .ok (.aload_n 0, 1) := by decide +kernel
theorem dX10_plan_39 : decode cX10_plan 39 = .ok (.getfield 30, 3) := by decide +kernel
theorem dX10_plan_42 : decode cX10_plan 42 = .ok (.ifCond .le 5, 3) := by decide +kernel
theorem dX10_plan_45 : decode cX10_plan 45 = .ok (.iconst 0, 1) := by decide +kernel
theorem dX10_plan_46 : decode cX10_plan 46 = .ok (.ireturn, 1) := by decide +kernel
theorem dX10_plan_47 : decode cX10_plan 47 = .ok (.aload_n 0, 1) := by decide +kernel
theorem dX10_plan_48 : decode cX10_plan 48 = .ok (.iload_n 1, 1) := by decide +kernel
theorem dX10_plan_49 : decode cX10_plan 49 = .ok (.iload_n 2, 1) := by decide +kernel
theorem dX10_plan_50 : decode cX10_plan 50 = .ok (.iload_n 3, 1) := by decide +kernel
theorem dX10_plan_51 : decode cX10_plan 51 = .ok (.iload 4, 2) := by decide +kernel
theorem dX10_plan_53 : decode cX10_plan 53 = .ok (.invokevirtual 285, 3) := by decide +kernel
theorem dX10_plan_56 : decode cX10_plan 56 = .ok (.aload_n 0, 1) := by decide +kernel
theorem dX10_plan_57 : decode cX10_plan 57 = .ok (.iload_n 2, 1) := by decide +kernel
theorem dX10_plan_58 : decode cX10_plan 58 = .ok (.invokevirtual 194, 3) := by decide +kernel
theorem dX10_plan_61 : decode cX10_plan 61 = .ok (.aload_n 0, 1) := by decide +kernel
theorem dX10_plan_62 : decode cX10_plan 62 = .ok (.iload_n 3, 1) := by decide +kernel
theorem dX10_plan_63 : decode cX10_plan 63 = .ok (.invokevirtual 194, 3) := by decide +kernel
theorem dX10_plan_66 : decode cX10_plan 66 = .ok (.imul, 1) := by decide +kernel
theorem dX10_plan_67 : decode cX10_plan 67 = .ok (.istore 6, 2) := by decide +kernel
theorem dX10_plan_69 : decode cX10_plan 69 = .ok (.aload_n 0, 1) := by decide +kernel
theorem dX10_plan_70 : decode cX10_plan 70 = .ok (.getfield 273, 3) := by decide +kernel
theorem dX10_plan_73 : decode cX10_plan 73 = .ok (.iconst (-1), 1) := by decide +kernel
theorem dX10_plan_74 : decode cX10_plan 74 = .ok (.if_icmp .eq 12, 3) := by decide +kernel
theorem dX10_plan_77 : decode cX10_plan 77 = .ok (.iload 6, 2) := by decide +kernel
theorem dX10_plan_79 : decode cX10_plan 79 = .ok (.aload_n 0, 1) := by decide +kernel
theorem dX10_plan_80 : decode cX10_plan 80 = .ok (.getfield 273, 3) := by decide +kernel
theorem dX10_plan_83 : decode cX10_plan 83 = .ok (.if_icmp .gt 7, 3) := by decide +kernel
theorem dX10_plan_86 : decode cX10_plan 86 = .ok (.iconst 1, 1) := by decide +kernel
theorem dX10_plan_87 : decode cX10_plan 87 = .ok (.goto 4, 3) := by decide +kernel
theorem dX10_plan_90 : decode cX10_plan 90 = .ok (.iconst 0, 1) := by decide +kernel
theorem dX10_plan_91 : decode cX10_plan 91 = .ok (.istore 7, 2) := by decide +kernel
theorem dX10_plan_93 : decode cX10_plan 93 = .ok (.iload 5, 2) := by decide +kernel
theorem dX10_plan_95 : decode cX10_plan 95 = .ok (.lookupswitch 54 #[(0, 25), (1, 40)], 25) := by decide +kernel
theorem dX10_plan_120 : decode cX10_plan 120 = .ok (.iload 7, 2) := by decide +kernel
theorem dX10_plan_122 : decode cX10_plan 122 = .ok (.ifCond .eq 8, 3) := by decide +kernel
theorem dX10_plan_125 : decode cX10_plan 125 = .ok (.iload 6, 2) := by decide +kernel
theorem dX10_plan_127 : decode cX10_plan 127 = .ok (.goto 7, 3) := by decide +kernel
theorem dX10_plan_130 : decode cX10_plan 130 = .ok (.aload_n 0, 1) := by decide +kernel
theorem dX10_plan_131 : decode cX10_plan 131 = .ok (.getfield 273, 3) := by decide +kernel
theorem dX10_plan_134 : decode cX10_plan 134 = .ok (.ireturn, 1) := by decide +kernel
theorem dX10_plan_135 : decode cX10_plan 135 = .ok (.iload 7, 2) := by decide +kernel
theorem dX10_plan_137 : decode cX10_plan 137 = .ok (.ifCond .eq 7, 3) := by decide +kernel
theorem dX10_plan_140 : decode cX10_plan 140 = .ok (.iconst 0, 1) := by decide +kernel
theorem dX10_plan_141 : decode cX10_plan 141 = .ok (.goto 7, 3) := by decide +kernel
theorem dX10_plan_144 : decode cX10_plan 144 = .ok (.aload_n 0, 1) := by decide +kernel
theorem dX10_plan_145 : decode cX10_plan 145 = .ok (.getfield 279, 3) := by decide +kernel
theorem dX10_plan_148 : decode cX10_plan 148 = .ok (.ireturn, 1) := by decide +kernel
theorem dX10_plan_149 : decode cX10_plan 149 = .ok (.iload 7, 2) := by decide +kernel
theorem dX10_plan_151 : decode cX10_plan 151 = .ok (.ifCond .eq 7, 3) := by decide +kernel
theorem dX10_plan_154 : decode cX10_plan 154 = .ok (.iconst 0, 1) := by decide +kernel
theorem dX10_plan_155 : decode cX10_plan 155 = .ok (.goto 7, 3) := by decide +kernel
theorem dX10_plan_158 : decode cX10_plan 158 = .ok (.aload_n 0, 1) := by decide +kernel
theorem dX10_plan_159 : decode cX10_plan 159 = .ok (.getfield 282, 3) := by decide +kernel
theorem dX10_plan_162 : decode cX10_plan 162 = .ok (.ireturn, 1) := by decide +kernel
theorem dX10_transformSteps_0 : decode cX10_transformSteps 0 = .ok (.aload_n 0, 1) := by decide +kernel
theorem dX10_transformSteps_1 : decode cX10_transformSteps 1 = .ok (.aload_n 0, 1) := by decide +kernel
theorem dX10_transformSteps_2 : decode cX10_transformSteps 2 = .ok (.iload_n 1, 1) := by decide +kernel
theorem dX10_transformSteps_3 : decode cX10_transformSteps 3 = .ok (.iload_n 2, 1) := by decide +kernel
theorem dX10_transformSteps_4 : decode cX10_transformSteps 4 = .ok (.iload_n 3, 1) := by decide +kernel
theorem dX10_transformSteps_5 : decode cX10_transformSteps 5 = .ok (.iload 4, 2) := by decide +kernel
theorem dX10_transformSteps_7 : decode cX10_transformSteps 7 = .ok (.invokevirtual 244, 3) := by decide +kernel
theorem dX10_transformSteps_10 : decode cX10_transformSteps 10 = .ok (.putfield 30, 3) := by decide +kernel
theorem dX10_transformSteps_13 : decode cX10_transformSteps 13 = .ok (.aload_n 0, 1) := by decide +kernel
theorem dX10_transformSteps_14 : decode cX10_transformSteps 14 = .ok (.getfield 30, 3) := by decide +kernel
theorem dX10_transformSteps_17 : decode cX10_transformSteps 17 = .ok (.ifCond .le 5, 3) := by decide +kernel
theorem dX10_transformSteps_20 : decode cX10_transformSteps 20 = .ok (.iconst 0, 1) := by decide +kernel
theorem dX10_transformSteps_21 : decode cX10_transformSteps 21 = .ok (.ireturn, 1) := by decide +kernel
theorem dX10_transformSteps_22 : decode cX10_transformSteps 22 = .ok (.aload_n 0, 1) := by decide +kernel
theorem dX10_transformSteps_23 : decode cX10_transformSteps 23 = .ok (.iload_n 1, 1) := by decide +kernel
theorem dX10_transformSteps_24 : decode cX10_transformSteps 24 = .ok (.iload_n 2, 1) := by decide +kernel
theorem dX10_transformSteps_25 : decode cX10_transformSteps 25 = .ok (.iload_n 3, 1) := by decide +kernel
theorem dX10_transformSteps_26 : decode cX10_transformSteps 26 = .ok (.iload 4, 2) := by decide +kernel
theorem dX10_transformSteps_28 : decode cX10_transformSteps 28 = .ok (.invokevirtual 285, 3) := by decide +kernel
theorem dX10_transformSteps_31 : decode cX10_transformSteps 31 = .ok (.aload_n 0, 1) := by decide +kernel
theorem dX10_transformSteps_32 : decode cX10_transformSteps 32 = .ok (.aload_n 0, 1) := by decide +kernel
theorem dX10_transformSteps_33 : decode cX10_transformSteps 33 = .ok (.getfield 273, 3) := by decide +kernel
theorem dX10_transformSteps_36 : decode cX10_transformSteps 36 = .ok (.iconst (-1), 1) := by decide +kernel
theorem dX10_transformSteps_37 : decode cX10_transformSteps 37 = .ok (.if_icmp .ne 7, 3) := by decide +kernel
theorem dX10_transformSteps_40 : decode cX10_transformSteps 40 = .ok (.iconst 4, 1) := by decide +kernel
theorem dX10_transformSteps_41 : decode cX10_transformSteps 41 = .ok (.goto 4, 3) := by decide +kernel
theorem dX10_transformSteps_44 : decode cX10_transformSteps 44 = .ok (.iconst 0, 1) := by decide +kernel
theorem dX10_transformSteps_45 : decode cX10_transformSteps 45 = .ok (.putfield 30, 3) := by decide +kernel
theorem dX10_transformSteps_48 : decode cX10_transformSteps 48 = .ok (.aload_n 0, 1) := by decide +kernel
theorem dX10_transformSteps_49 : decode cX10_transformSteps 49 = .ok (.getfield 30, 3) := by decide +kernel
theorem dX10_transformSteps_52 : decode cX10_transformSteps 52 = .ok (.ifCond .le 7, 3) := by decide +kernel
theorem dX10_transformSteps_55 : decode cX10_transformSteps 55 = .ok (.iconst 0, 1) := by decide +kernel
theorem dX10_transformSteps_56 : decode cX10_transformSteps 56 = .ok (.goto 7, 3) := by decide +kernel
theorem dX10_transformSteps_59 : decode cX10_transformSteps 59 = .ok (.aload_n 0, 1) := by decide +kernel
theorem dX10_transformSteps_60 : decode cX10_transformSteps 60 = .ok (.getfield 273, 3) := by decide +kernel
theorem dX10_transformSteps_63 : decode cX10_transformSteps 63 = .ok (.ireturn, 1) := by decide +kernel
theorem dX10_canMultiply_0 : decode cX10_canMultiply 0 = .ok (.iload_n 1, 1) := by decide +kernel
theorem dX10_canMultiply_1 : decode cX10_canMultiply 1 = .ok (.i2l, 1) := by decide +kernel
theorem dX10_canMultiply_2 : decode cX10_canMultiply 2 = .ok (.lconst 0, 1) := by decide +kernel
theorem dX10_canMultiply_3 : decode cX10_canMultiply 3 = .ok (.ldc2_w 151, 3) := by decide +kernel
theorem dX10_canMultiply_6 : decode cX10_canMultiply 6 = .ok (.invokestatic 46, 3) := by decide +kernel
theorem dX10_canMultiply_9 : decode cX10_canMultiply 9 = .ok (.ifCond .eq 34, 3) := by decide +kernel
theorem dX10_canMultiply_12 : decode cX10_canMultiply 12 = .ok (.iload 4, 2) := by decide +kernel
theorem dX10_canMultiply_14 : decode cX10_canMultiply 14 = .ok (.i2l, 1) := by decide +kernel
theorem dX10_canMultiply_15 : decode cX10_canMultiply 15 = .ok (.lconst 1, 1) := by decide +kernel
theorem dX10_canMultiply_16 : decode cX10_canMultiply 16 = .ok (.ldc2_w 218, 3) := by decide +kernel
theorem dX10_canMultiply_19 : decode cX10_canMultiply 19 = .ok (.invokestatic 46, 3) := by decide +kernel
theorem dX10_canMultiply_22 : decode cX10_canMultiply 22 = .ok (.ifCond .eq 21, 3) := by decide +kernel
theorem dX10_canMultiply_25 : decode cX10_canMultiply 25 = .ok (.iload 5, 2) := by decide +kernel
theorem dX10_canMultiply_27 : decode cX10_canMultiply 27 = .ok (.ifCond .eq 16, 3) := by decide +kernel
theorem dX10_canMultiply_30 : decode cX10_canMultiply 30 = .ok (.aload_n 0, 1) := by decide +kernel
theorem dX10_canMultiply_31 : decode cX10_canMultiply 31 = .ok (.iload 5, 2) := by decide +kernel
theorem dX10_canMultiply_33 : decode cX10_canMultiply 33 = .ok (.invokevirtual 266, 3) := by decide +kernel
theorem dX10_canMultiply_36 : decode cX10_canMultiply 36 = .ok (.ldc2_w 262, 3) := by decide +kernel
theorem dX10_canMultiply_39 : decode cX10_canMultiply 39 = .ok (.lcmp, 1) := by decide +kernel
theorem dX10_canMultiply_40 : decode cX10_canMultiply 40 = .ok (.ifCond .le 5, 3) := by decide +kernel
theorem dX10_canMultiply_43 : decode cX10_canMultiply 43 = .ok (.iconst 0, 1) := by decide +kernel
theorem dX10_canMultiply_44 : decode cX10_canMultiply 44 = .ok (.ireturn, 1) := by decide +kernel
theorem dX10_canMultiply_45 : decode cX10_canMultiply 45 = .ok (.iload_n 1, 1) := by decide +kernel
theorem dX10_canMultiply_46 : decode cX10_canMultiply 46 = .ok (.ifCond .ne 24, 3) := by decide +kernel
theorem dX10_canMultiply_49 : decode cX10_canMultiply 49 = .ok (.iload 4, 2) := by decide +kernel
theorem dX10_canMultiply_51 : decode cX10_canMultiply 51 = .ok (.aload_n 0, 1) := by decide +kernel
theorem dX10_canMultiply_52 : decode cX10_canMultiply 52 = .ok (.iconst 0, 1) := by decide +kernel
theorem dX10_canMultiply_53 : decode cX10_canMultiply 53 = .ok (.iload_n 2, 1) := by decide +kernel
theorem dX10_canMultiply_54 : decode cX10_canMultiply 54 = .ok (.iload_n 3, 1) := by decide +kernel
theorem dX10_canMultiply_55 : decode cX10_canMultiply 55 = .ok (.iconst 0, 1) := by decide +kernel
theorem dX10_canMultiply_56 : decode cX10_canMultiply 56 = .ok (.invokevirtual 248, 3) := by decide +kernel
theorem dX10_canMultiply_59 : decode cX10_canMultiply 59 = .ok (.if_icmp .lt 7, 3) := by decide +kernel
theorem dX10_canMultiply_62 : decode cX10_canMultiply 62 = .ok (.iconst 1, 1) := by decide +kernel
theorem dX10_canMultiply_63 : decode cX10_canMultiply 63 = .ok (.goto 32, 3) := by decide +kernel
theorem dX10_canMultiply_66 : decode cX10_canMultiply 66 = .ok (.iconst 0, 1) := by decide +kernel
theorem dX10_canMultiply_67 : decode cX10_canMultiply 67 = .ok (.goto 28, 3) := by decide +kernel
theorem dX10_canMultiply_70 : decode cX10_canMultiply 70 = .ok (.iload 4, 2) := by decide +kernel
theorem dX10_canMultiply_72 : decode cX10_canMultiply 72 = .ok (.aload_n 0, 1) := by decide +kernel
theorem dX10_canMultiply_73 : decode cX10_canMultiply 73 = .ok (.iload_n 2, 1) := by decide +kernel
theorem dX10_canMultiply_74 : decode cX10_canMultiply 74 = .ok (.invokevirtual 194, 3) := by decide +kernel
theorem dX10_canMultiply_77 : decode cX10_canMultiply 77 = .ok (.if_icmp .lt 17, 3) := by decide +kernel
theorem dX10_canMultiply_80 : decode cX10_canMultiply 80 = .ok (.iload 4, 2) := by decide +kernel
theorem dX10_canMultiply_82 : decode cX10_canMultiply 82 = .ok (.aload_n 0, 1) := by decide +kernel
theorem dX10_canMultiply_83 : decode cX10_canMultiply 83 = .ok (.iload_n 3, 1) := by decide +kernel
theorem dX10_canMultiply_84 : decode cX10_canMultiply 84 = .ok (.invokevirtual 194, 3) := by decide +kernel
theorem dX10_canMultiply_87 : decode cX10_canMultiply 87 = .ok (.if_icmp .lt 7, 3) := by decide +kernel
theorem dX10_canMultiply_90 : decode cX10_canMultiply 90 = .ok (.iconst 1, 1) := by decide +kernel
theorem dX10_canMultiply_91 : decode cX10_canMultiply 91 = .ok (.goto 4, 3) := by decide +kernel
theorem dX10_canMultiply_94 : decode cX10_canMultiply 94 = .ok (.iconst 0, 1) := by decide +kernel
theorem dX10_canMultiply_95 : decode cX10_canMultiply 95 = .ok (.ireturn, 1) := by decide +kernel
theorem dX10_multiply_0 : decode cX10_multiply 0 = .ok (.aload_n 0, 1) := by decide +kernel
theorem dX10_multiply_1 : decode cX10_multiply 1 = .ok (.aload_n 0, 1) := by decide +kernel
theorem dX10_multiply_2 : decode cX10_multiply 2 = .ok (.iload 5, 2) := by decide +kernel
theorem dX10_multiply_4 : decode cX10_multiply 4 = .ok (.invokevirtual 231, 3) := by decide +kernel
theorem dX10_multiply_7 : decode cX10_multiply 7 = .ok (.ifCond .eq 12, 3) := by decide +kernel
theorem dX10_multiply_10 : decode cX10_multiply 10 = .ok (.aload_n 0, 1) := by decide +kernel
theorem dX10_multiply_11 : decode cX10_multiply 11 = .ok (.iload_n 2, 1) := by decide +kernel
theorem dX10_multiply_12 : decode cX10_multiply 12 = .ok (.iload_n 3, 1) := by decide +kernel
theorem dX10_multiply_13 : decode cX10_multiply 13 = .ok (.invokevirtual 237, 3) := by decide +kernel
theorem dX10_multiply_16 : decode cX10_multiply 16 = .ok (.goto 4, 3) := by decide +kernel
theorem dX10_multiply_19 : decode cX10_multiply 19 = .ok (.iconst 1, 1) := by decide +kernel
theorem dX10_multiply_20 : decode cX10_multiply 20 = .ok (.putfield 30, 3) := by decide +kernel
theorem dX10_multiply_23 : decode cX10_multiply 23 = .ok (.aload_n 0, 1) := by decide +kernel
theorem dX10_multiply_24 : decode cX10_multiply 24 = .ok (.getfield 30, 3) := by decide +kernel
theorem dX10_multiply_27 : decode cX10_multiply 27 = .ok (.ifCond .ne 22, 3) := by decide +kernel
theorem dX10_multiply_30 : decode cX10_multiply 30 = .ok (.aload_n 0, 1) := by decide +kernel
theorem dX10_multiply_31 : decode cX10_multiply 31 = .ok (.iload_n 1, 1) := by decide +kernel
theorem dX10_multiply_32 : decode cX10_multiply 32 = .ok (.iload_n 2, 1) := by decide +kernel
theorem dX10_multiply_33 : decode cX10_multiply 33 = .ok (.iload_n 3, 1) := by decide +kernel
theorem dX10_multiply_34 : decode cX10_multiply 34 = .ok (.iload 4, 2) := by decide +kernel
theorem dX10_multiply_36 : decode cX10_multiply 36 = .ok (.iload 5, 2) := by decide +kernel
theorem dX10_multiply_38 : decode cX10_multiply 38 = .ok (.invokevirtual 289, 3) := by decide +kernel
theorem dX10_multiply_41 : decode cX10_multiply 41 = .ok (.ifCond .ne 8, 3) := by decide +kernel
theorem dX10_multiply_44 : decode cX10_multiply 44 = .ok (.aload_n 0, 1) := by decide +kernel
theorem dX10_multiply_45 : decode cX10_multiply 45 = .ok (.iconst 3, 1) := by decide +kernel
theorem dX10_multiply_46 : decode cX10_multiply 46 = .ok (.putfield 30, 3) := by decide +kernel
theorem dX10_multiply_49 : decode cX10_multiply 49 = .ok (.aload_n 0, 1) := by decide +kernel
theorem dX10_multiply_50 : decode cX10_multiply 50 = .ok (.getfield 30, 3) := by decide +kernel
theorem dX10_multiply_53 : decode cX10_multiply 53 = .ok (.ifCond .ne 31, 3) := by decide +kernel
theorem dX10_multiply_56 : decode cX10_multiply 56 = .ok (.aload_n 0, 1) := by decide +kernel
theorem dX10_multiply_57 : decode cX10_multiply 57 = .ok (.iload 5, 2) := by decide +kernel
theorem dX10_multiply_59 : decode cX10_multiply 59 = .ok (.iload_n 1, 1) := by decide +kernel
theorem dX10_multiply_60 : decode cX10_multiply 60 = .ok (.iconst 2, 1) := by decide +kernel
theorem dX10_multiply_61 : decode cX10_multiply 61 = .ok (.if_icmp .ne 10, 3) := by decide +kernel
theorem dX10_multiply_64 : decode cX10_multiply 64 = .ok (.iconst 2, 1) := by decide +kernel
theorem dX10_multiply_65 : decode cX10_multiply 65 = .ok (.iload 4, 2) := by decide +kernel
theorem dX10_multiply_67 : decode cX10_multiply 67 = .ok (.imul, 1) := by decide +kernel
theorem dX10_multiply_68 : decode cX10_multiply 68 = .ok (.goto 5, 3) := by decide +kernel
theorem dX10_multiply_71 : decode cX10_multiply 71 = .ok (.iload 4, 2) := by decide +kernel
theorem dX10_multiply_73 : decode cX10_multiply 73 = .ok (.invokevirtual 234, 3) := by decide +kernel
theorem dX10_multiply_76 : decode cX10_multiply 76 = .ok (.ifCond .ne 8, 3) := by decide +kernel
theorem dX10_multiply_79 : decode cX10_multiply 79 = .ok (.aload_n 0, 1) := by decide +kernel
theorem dX10_multiply_80 : decode cX10_multiply 80 = .ok (.iconst 4, 1) := by decide +kernel
theorem dX10_multiply_81 : decode cX10_multiply 81 = .ok (.putfield 30, 3) := by decide +kernel
theorem dX10_multiply_84 : decode cX10_multiply 84 = .ok (.aload_n 0, 1) := by decide +kernel
theorem dX10_multiply_85 : decode cX10_multiply 85 = .ok (.getfield 30, 3) := by decide +kernel
theorem dX10_multiply_88 : decode cX10_multiply 88 = .ok (.ifCond .le 5, 3) := by decide +kernel
theorem dX10_multiply_91 : decode cX10_multiply 91 = .ok (.iconst 0, 1) := by decide +kernel
theorem dX10_multiply_92 : decode cX10_multiply 92 = .ok (.ireturn, 1) := by decide +kernel
theorem dX10_multiply_93 : decode cX10_multiply 93 = .ok (.aload_n 0, 1) := by decide +kernel
theorem dX10_multiply_94 : decode cX10_multiply 94 = .ok (.invokevirtual 134, 3) := by decide +kernel
theorem dX10_multiply_97 : decode cX10_multiply 97 = .ok (.aload_n 0, 1) := by decide +kernel
theorem dX10_multiply_98 : decode cX10_multiply 98 = .ok (.iload_n 1, 1) := by decide +kernel
theorem dX10_multiply_99 : decode cX10_multiply 99 = .ok (.iload_n 2, 1) := by decide +kernel
theorem dX10_multiply_100 : decode cX10_multiply 100 = .ok (.iload_n 3, 1) := by decide +kernel
theorem dX10_multiply_101 : decode cX10_multiply 101 = .ok (.iload 4, 2) := by decide +kernel
theorem dX10_multiply_103 : decode cX10_multiply 103 = .ok (.invokevirtual 248, 3) := by decide +kernel
theorem dX10_multiply_106 : decode cX10_multiply 106 = .ok (.istore 6, 2) := by decide +kernel
theorem dX10_multiply_108 : decode cX10_multiply 108 = .ok (.aload_n 0, 1) := by decide +kernel
theorem dX10_multiply_109 : decode cX10_multiply 109 = .ok (.iload 5, 2) := by decide +kernel
theorem dX10_multiply_111 : decode cX10_multiply 111 = .ok (.invokevirtual 266, 3) := by decide +kernel
theorem dX10_multiply_114 : decode cX10_multiply 114 = .ok (.lstore 7, 2) := by decide +kernel
theorem dX10_multiply_116 : decode cX10_multiply 116 = .ok (.sipush 145, 3) := by decide +kernel
theorem dX10_multiply_119 : decode cX10_multiply 119 = .ok (.istore 9, 2) := by decide +kernel
theorem dX10_multiply_121 : decode cX10_multiply 121 = .ok (.iload 9, 2) := by decide +kernel
theorem dX10_multiply_123 : decode cX10_multiply 123 = .ok (.sipush 215, 3) := by decide +kernel
theorem dX10_multiply_126 : decode cX10_multiply 126 = .ok (.if_icmp .ge 17, 3) := by decide +kernel
theorem dX10_multiply_129 : decode cX10_multiply 129 = .ok (.aload_n 0, 1) := by decide +kernel
theorem dX10_multiply_130 : decode cX10_multiply 130 = .ok (.getfield 7, 3) := by decide +kernel
theorem dX10_multiply_133 : decode cX10_multiply 133 = .ok (.iload 9, 2) := by decide +kernel
theorem dX10_multiply_135 : decode cX10_multiply 135 = .ok (.lconst 0, 1) := by decide +kernel
theorem dX10_multiply_136 : decode cX10_multiply 136 = .ok (.lastore, 1) := by decide +kernel
theorem dX10_multiply_137 : decode cX10_multiply 137 = .ok (.iinc 9 1, 3) := by decide +kernel
theorem dX10_multiply_140 : decode cX10_multiply 140 = .ok (.goto (-19), 3) := by decide +kernel
theorem dX10_multiply_143 : decode cX10_multiply 143 = .ok (.iconst 0, 1) := by decide +kernel
theorem dX10_multiply_144 : decode cX10_multiply 144 = .ok (.istore 9, 2) := by decide +kernel
theorem dX10_multiply_146 : decode cX10_multiply 146 = .ok (.iload 9, 2) := by decide +kernel
theorem dX10_multiply_148 : decode cX10_multiply 148 = .ok (.iload 6, 2) := by decide +kernel
theorem dX10_multiply_150 : decode cX10_multiply 150 = .ok (.if_icmp .ge 77, 3) := by decide +kernel
theorem dX10_multiply_153 : decode cX10_multiply 153 = .ok (.aload_n 0, 1) := by decide +kernel
theorem dX10_multiply_154 : decode cX10_multiply 154 = .ok (.iload_n 1, 1) := by decide +kernel
theorem dX10_multiply_155 : decode cX10_multiply 155 = .ok (.iload_n 2, 1) := by decide +kernel
theorem dX10_multiply_156 : decode cX10_multiply 156 = .ok (.iload_n 3, 1) := by decide +kernel
theorem dX10_multiply_157 : decode cX10_multiply 157 = .ok (.iload 4, 2) := by decide +kernel
theorem dX10_multiply_159 : decode cX10_multiply 159 = .ok (.iload 9, 2) := by decide +kernel
theorem dX10_multiply_161 : decode cX10_multiply 161 = .ok (.invokevirtual 258, 3) := by decide +kernel
theorem dX10_multiply_164 : decode cX10_multiply 164 = .ok (.lload 7, 2) := by decide +kernel
theorem dX10_multiply_166 : decode cX10_multiply 166 = .ok (.lrem, 1) := by decide +kernel
theorem dX10_multiply_167 : decode cX10_multiply 167 = .ok (.lstore 10, 2) := by decide +kernel
theorem dX10_multiply_169 : decode cX10_multiply 169 = .ok (.lload 10, 2) := by decide +kernel
theorem dX10_multiply_171 : decode cX10_multiply 171 = .ok (.lconst 0, 1) := by decide +kernel
theorem dX10_multiply_172 : decode cX10_multiply 172 = .ok (.lcmp, 1) := by decide +kernel
theorem dX10_multiply_173 : decode cX10_multiply 173 = .ok (.ifCond .ge 11, 3) := by decide +kernel
theorem dX10_multiply_176 : decode cX10_multiply 176 = .ok (.lload 10, 2) := by decide +kernel
theorem dX10_multiply_178 : decode cX10_multiply 178 = .ok (.lload 7, 2) := by decide +kernel
theorem dX10_multiply_180 : decode cX10_multiply 180 = .ok (.ladd, 1) := by decide +kernel
theorem dX10_multiply_181 : decode cX10_multiply 181 = .ok (.goto 5, 3) := by decide +kernel
theorem dX10_multiply_184 : decode cX10_multiply 184 = .ok (.lload 10, 2) := by decide +kernel
theorem dX10_multiply_186 : decode cX10_multiply 186 = .ok (.lstore 10, 2) := by decide +kernel
theorem dX10_multiply_188 : decode cX10_multiply 188 = .ok (.aload_n 0, 1) := by decide +kernel
theorem dX10_multiply_189 : decode cX10_multiply 189 = .ok (.getfield 7, 3) := by decide +kernel
theorem dX10_multiply_192 : decode cX10_multiply 192 = .ok (.sipush 151, 3) := by decide +kernel
theorem dX10_multiply_195 : decode cX10_multiply 195 = .ok (.iload 9, 2) := by decide +kernel
theorem dX10_multiply_197 : decode cX10_multiply 197 = .ok (.iadd, 1) := by decide +kernel
theorem dX10_multiply_198 : decode cX10_multiply 198 = .ok (.lload 10, 2) := by decide +kernel
theorem dX10_multiply_200 : decode cX10_multiply 200 = .ok (.lload 7, 2) := by decide +kernel
theorem dX10_multiply_202 : decode cX10_multiply 202 = .ok (.ldc2_w 151, 3) := by decide +kernel
theorem dX10_multiply_205 : decode cX10_multiply 205 = .ok (.ldiv, 1) := by decide +kernel
theorem dX10_multiply_206 : decode cX10_multiply 206 = .ok (.lcmp, 1) := by decide +kernel
theorem dX10_multiply_207 : decode cX10_multiply 207 = .ok (.ifCond .le 11, 3) := by decide +kernel
theorem dX10_multiply_210 : decode cX10_multiply 210 = .ok (.lload 10, 2) := by decide +kernel
theorem dX10_multiply_212 : decode cX10_multiply 212 = .ok (.lload 7, 2) := by decide +kernel
theorem dX10_multiply_214 : decode cX10_multiply 214 = .ok (.lsub, 1) := by decide +kernel
theorem dX10_multiply_215 : decode cX10_multiply 215 = .ok (.goto 5, 3) := by decide +kernel
theorem dX10_multiply_218 : decode cX10_multiply 218 = .ok (.lload 10, 2) := by decide +kernel
theorem dX10_multiply_220 : decode cX10_multiply 220 = .ok (.lastore, 1) := by decide +kernel
theorem dX10_multiply_221 : decode cX10_multiply 221 = .ok (.iinc 9 1, 3) := by decide +kernel
theorem dX10_multiply_224 : decode cX10_multiply 224 = .ok (.goto (-78), 3) := by decide +kernel
theorem dX10_multiply_227 : decode cX10_multiply 227 = .ok (.aload_n 0, 1) := by decide +kernel
theorem dX10_multiply_228 : decode cX10_multiply 228 = .ok (.getfield 7, 3) := by decide +kernel
theorem dX10_multiply_231 : decode cX10_multiply 231 = .ok (.sipush 144, 3) := by decide +kernel
theorem dX10_multiply_234 : decode cX10_multiply 234 = .ok (.lconst 0, 1) := by decide +kernel
theorem dX10_multiply_235 : decode cX10_multiply 235 = .ok (.lastore, 1) := by decide +kernel
theorem dX10_multiply_236 : decode cX10_multiply 236 = .ok (.iconst 0, 1) := by decide +kernel
theorem dX10_multiply_237 : decode cX10_multiply 237 = .ok (.istore 9, 2) := by decide +kernel
theorem dX10_multiply_239 : decode cX10_multiply 239 = .ok (.iload 9, 2) := by decide +kernel
theorem dX10_multiply_241 : decode cX10_multiply 241 = .ok (.i2l, 1) := by decide +kernel
theorem dX10_multiply_242 : decode cX10_multiply 242 = .ok (.aload_n 0, 1) := by decide +kernel
theorem dX10_multiply_243 : decode cX10_multiply 243 = .ok (.getfield 7, 3) := by decide +kernel
theorem dX10_multiply_246 : decode cX10_multiply 246 = .ok (.iconst 0, 1) := by decide +kernel
theorem dX10_multiply_247 : decode cX10_multiply 247 = .ok (.laload, 1) := by decide +kernel
theorem dX10_multiply_248 : decode cX10_multiply 248 = .ok (.lcmp, 1) := by decide +kernel
theorem dX10_multiply_249 : decode cX10_multiply 249 = .ok (.ifCond .ge 61, 3) := by decide +kernel
theorem dX10_multiply_252 : decode cX10_multiply 252 = .ok (.iload 5, 2) := by decide +kernel
theorem dX10_multiply_254 : decode cX10_multiply 254 = .ok (.iload 9, 2) := by decide +kernel
theorem dX10_multiply_256 : decode cX10_multiply 256 = .ok (.ishr, 1) := by decide +kernel
theorem dX10_multiply_257 : decode cX10_multiply 257 = .ok (.iconst 1, 1) := by decide +kernel
theorem dX10_multiply_258 : decode cX10_multiply 258 = .ok (.iand, 1) := by decide +kernel
theorem dX10_multiply_259 : decode cX10_multiply 259 = .ok (.ifCond .ne 6, 3) := by decide +kernel
theorem dX10_multiply_262 : decode cX10_multiply 262 = .ok (.goto 42, 3) := by decide +kernel
theorem dX10_multiply_265 : decode cX10_multiply 265 = .ok (.aload_n 0, 1) := by decide +kernel
theorem dX10_multiply_266 : decode cX10_multiply 266 = .ok (.getfield 7, 3) := by decide +kernel
theorem dX10_multiply_269 : decode cX10_multiply 269 = .ok (.sipush 145, 3) := by decide +kernel
theorem dX10_multiply_272 : decode cX10_multiply 272 = .ok (.aload_n 0, 1) := by decide +kernel
theorem dX10_multiply_273 : decode cX10_multiply 273 = .ok (.getfield 7, 3) := by decide +kernel
theorem dX10_multiply_276 : decode cX10_multiply 276 = .ok (.sipush 144, 3) := by decide +kernel
theorem dX10_multiply_279 : decode cX10_multiply 279 = .ok (.laload, 1) := by decide +kernel
theorem dX10_multiply_280 : decode cX10_multiply 280 = .ok (.l2i, 1) := by decide +kernel
theorem dX10_multiply_281 : decode cX10_multiply 281 = .ok (.iadd, 1) := by decide +kernel
theorem dX10_multiply_282 : decode cX10_multiply 282 = .ok (.aload_n 0, 1) := by decide +kernel
theorem dX10_multiply_283 : decode cX10_multiply 283 = .ok (.getfield 7, 3) := by decide +kernel
theorem dX10_multiply_286 : decode cX10_multiply 286 = .ok (.iconst 1, 1) := by decide +kernel
theorem dX10_multiply_287 : decode cX10_multiply 287 = .ok (.iload 9, 2) := by decide +kernel
theorem dX10_multiply_289 : decode cX10_multiply 289 = .ok (.iadd, 1) := by decide +kernel
theorem dX10_multiply_290 : decode cX10_multiply 290 = .ok (.laload, 1) := by decide +kernel
theorem dX10_multiply_291 : decode cX10_multiply 291 = .ok (.lastore, 1) := by decide +kernel
theorem dX10_multiply_292 : decode cX10_multiply 292 = .ok (.aload_n 0, 1) := by decide +kernel
theorem dX10_multiply_293 : decode cX10_multiply 293 = .ok (.getfield 7, 3) := by decide +kernel
theorem dX10_multiply_296 : decode cX10_multiply 296 = .ok (.sipush 144, 3) := by decide +kernel
theorem dX10_multiply_299 : decode cX10_multiply 299 = .ok (.dup2, 1) := by decide +kernel
theorem dX10_multiply_300 : decode cX10_multiply 300 = .ok (.laload, 1) := by decide +kernel
theorem dX10_multiply_301 : decode cX10_multiply 301 = .ok (.lconst 1, 1) := by decide +kernel
theorem dX10_multiply_302 : decode cX10_multiply 302 = .ok (.ladd, 1) := by decide +kernel
theorem dX10_multiply_303 : decode cX10_multiply 303 = .ok (.lastore, 1) := by decide +kernel
theorem dX10_multiply_304 : decode cX10_multiply 304 = .ok (.iinc 9 1, 3) := by decide +kernel
theorem dX10_multiply_307 : decode cX10_multiply 307 = .ok (.goto (-68), 3) := by decide +kernel
theorem dX10_multiply_310 : decode cX10_multiply 310 = .ok (.aload_n 0, 1) := by decide +kernel
theorem dX10_multiply_311 : decode cX10_multiply 311 = .ok (.getfield 7, 3) := by decide +kernel
theorem dX10_multiply_314 : decode cX10_multiply 314 = .ok (.sipush 139, 3) := by decide +kernel
theorem dX10_multiply_317 : decode cX10_multiply 317 = .ok (.lconst 1, 1) := by decide +kernel
theorem dX10_multiply_318 : decode cX10_multiply 318 = .ok (.lastore, 1) := by decide +kernel
theorem dX10_multiply_319 : decode cX10_multiply 319 = .ok (.aload_n 0, 1) := by decide +kernel
theorem dX10_multiply_320 : decode cX10_multiply 320 = .ok (.getfield 7, 3) := by decide +kernel
theorem dX10_multiply_323 : decode cX10_multiply 323 = .ok (.sipush 140, 3) := by decide +kernel
theorem dX10_multiply_326 : decode cX10_multiply 326 = .ok (.iload_n 1, 1) := by decide +kernel
theorem dX10_multiply_327 : decode cX10_multiply 327 = .ok (.i2l, 1) := by decide +kernel
theorem dX10_multiply_328 : decode cX10_multiply 328 = .ok (.lastore, 1) := by decide +kernel
theorem dX10_multiply_329 : decode cX10_multiply 329 = .ok (.aload_n 0, 1) := by decide +kernel
theorem dX10_multiply_330 : decode cX10_multiply 330 = .ok (.getfield 7, 3) := by decide +kernel
theorem dX10_multiply_333 : decode cX10_multiply 333 = .ok (.sipush 141, 3) := by decide +kernel
theorem dX10_multiply_336 : decode cX10_multiply 336 = .ok (.iload 4, 2) := by decide +kernel
theorem dX10_multiply_338 : decode cX10_multiply 338 = .ok (.i2l, 1) := by decide +kernel
theorem dX10_multiply_339 : decode cX10_multiply 339 = .ok (.lastore, 1) := by decide +kernel
theorem dX10_multiply_340 : decode cX10_multiply 340 = .ok (.aload_n 0, 1) := by decide +kernel
theorem dX10_multiply_341 : decode cX10_multiply 341 = .ok (.getfield 7, 3) := by decide +kernel
theorem dX10_multiply_344 : decode cX10_multiply 344 = .ok (.sipush 142, 3) := by decide +kernel
theorem dX10_multiply_347 : decode cX10_multiply 347 = .ok (.iload 5, 2) := by decide +kernel
theorem dX10_multiply_349 : decode cX10_multiply 349 = .ok (.i2l, 1) := by decide +kernel
theorem dX10_multiply_350 : decode cX10_multiply 350 = .ok (.lastore, 1) := by decide +kernel
theorem dX10_multiply_351 : decode cX10_multiply 351 = .ok (.aload_n 0, 1) := by decide +kernel
theorem dX10_multiply_352 : decode cX10_multiply 352 = .ok (.getfield 7, 3) := by decide +kernel
theorem dX10_multiply_355 : decode cX10_multiply 355 = .ok (.sipush 143, 3) := by decide +kernel
theorem dX10_multiply_358 : decode cX10_multiply 358 = .ok (.iload 6, 2) := by decide +kernel
theorem dX10_multiply_360 : decode cX10_multiply 360 = .ok (.i2l, 1) := by decide +kernel
theorem dX10_multiply_361 : decode cX10_multiply 361 = .ok (.lastore, 1) := by decide +kernel
theorem dX10_multiply_362 : decode cX10_multiply 362 = .ok (.iload 6, 2) := by decide +kernel
theorem dX10_multiply_364 : decode cX10_multiply 364 = .ok (.ireturn, 1) := by decide +kernel
theorem dX10_product_0 : decode cX10_product 0 = .ok (.aload_n 0, 1) := by decide +kernel
theorem dX10_product_1 : decode cX10_product 1 = .ok (.aload_n 0, 1) := by decide +kernel
theorem dX10_product_2 : decode cX10_product 2 = .ok (.getfield 7, 3) := by decide +kernel
theorem dX10_product_5 : decode cX10_product 5 = .ok (.sipush 139, 3) := by decide +kernel
theorem dX10_product_8 : decode cX10_product 8 = .ok (.laload, 1) := by decide +kernel
theorem dX10_product_9 : decode cX10_product 9 = .ok (.lconst 0, 1) := by decide +kernel
theorem dX10_product_10 : decode cX10_product 10 = .ok (.lcmp, 1) := by decide +kernel
theorem dX10_product_11 : decode cX10_product 11 = .ok (.ifCond .ne 7, 3) := by decide +kernel
theorem dX10_product_14 : decode cX10_product 14 = .ok (.iconst 1, 1) := by decide +kernel
theorem dX10_product_15 : decode cX10_product 15 = .ok (.goto 20, 3) := by decide +kernel
theorem dX10_product_18 : decode cX10_product 18 = .ok (.iload_n 1, 1) := by decide +kernel
theorem dX10_product_19 : decode cX10_product 19 = .ok (.i2l, 1) := by decide +kernel
theorem dX10_product_20 : decode cX10_product 20 = .ok (.lconst 0, 1) := by decide +kernel
theorem dX10_product_21 : decode cX10_product 21 = .ok (.ldc2_w 137, 3) := by decide +kernel
theorem dX10_product_24 : decode cX10_product 24 = .ok (.invokestatic 46, 3) := by decide +kernel
theorem dX10_product_27 : decode cX10_product 27 = .ok (.ifCond .eq 7, 3) := by decide +kernel
theorem dX10_product_30 : decode cX10_product 30 = .ok (.iconst 0, 1) := by decide +kernel
theorem dX10_product_31 : decode cX10_product 31 = .ok (.goto 4, 3) := by decide +kernel
theorem dX10_product_34 : decode cX10_product 34 = .ok (.iconst 2, 1) := by decide +kernel
theorem dX10_product_35 : decode cX10_product 35 = .ok (.putfield 30, 3) := by decide +kernel
theorem dX10_product_38 : decode cX10_product 38 = .ok (.aload_n 0, 1) := by decide +kernel
theorem dX10_product_39 : decode cX10_product 39 = .ok (.getfield 30, 3) := by decide +kernel
theorem dX10_product_42 : decode cX10_product 42 = .ok (.ifCond .le 5, 3) := by decide +kernel
theorem dX10_product_45 : decode cX10_product 45 = .ok (.iconst 0, 1) := by decide +kernel
theorem dX10_product_46 : decode cX10_product 46 = .ok (.ireturn, 1) := by decide +kernel
theorem dX10_product_47 : decode cX10_product 47 = .ok (.aload_n 0, 1) := by decide +kernel
theorem dX10_product_48 : decode cX10_product 48 = .ok (.getfield 7, 3) := by decide +kernel
theorem dX10_product_51 : decode cX10_product 51 = .ok (.iload_n 1, 1) := by decide +kernel
theorem dX10_product_52 : decode cX10_product 52 = .ok (.ifCond .ne 9, 3) := by decide +kernel
theorem dX10_product_55 : decode cX10_product 55 = .ok (.sipush 143, 3) := by decide +kernel
theorem dX10_product_58 : decode cX10_product 58 = .ok (.goto 28, 3) := by decide +kernel
theorem dX10_product_61 : decode cX10_product 61 = .ok (.iload_n 1, 1) := by decide +kernel
theorem dX10_product_62 : decode cX10_product 62 = .ok (.iconst 1, 1) := by decide +kernel
theorem dX10_product_63 : decode cX10_product 63 = .ok (.if_icmp .ne 9, 3) := by decide +kernel
theorem dX10_product_66 : decode cX10_product 66 = .ok (.sipush 142, 3) := by decide +kernel
theorem dX10_product_69 : decode cX10_product 69 = .ok (.goto 17, 3) := by decide +kernel
theorem dX10_product_72 : decode cX10_product 72 = .ok (.iload_n 1, 1) := by decide +kernel
theorem dX10_product_73 : decode cX10_product 73 = .ok (.iconst 2, 1) := by decide +kernel
theorem dX10_product_74 : decode cX10_product 74 = .ok (.if_icmp .ne 9, 3) := by decide +kernel
theorem dX10_product_77 : decode cX10_product 77 = .ok (.sipush 140, 3) := by decide +kernel
theorem dX10_product_80 : decode cX10_product 80 = .ok (.goto 6, 3) := by decide +kernel
theorem dX10_product_83 : decode cX10_product 83 = .ok (.sipush 141, 3) := by decide +kernel
theorem dX10_product_86 : decode cX10_product 86 = .ok (.laload, 1) := by decide +kernel
theorem dX10_product_87 : decode cX10_product 87 = .ok (.l2i, 1) := by decide +kernel
theorem dX10_product_88 : decode cX10_product 88 = .ok (.ireturn, 1) := by decide +kernel
theorem dX10_value_0 : decode cX10_value 0 = .ok (.aload_n 0, 1) := by decide +kernel
theorem dX10_value_1 : decode cX10_value 1 = .ok (.aload_n 0, 1) := by decide +kernel
theorem dX10_value_2 : decode cX10_value 2 = .ok (.getfield 7, 3) := by decide +kernel
theorem dX10_value_5 : decode cX10_value 5 = .ok (.sipush 139, 3) := by decide +kernel
theorem dX10_value_8 : decode cX10_value 8 = .ok (.laload, 1) := by decide +kernel
theorem dX10_value_9 : decode cX10_value 9 = .ok (.lconst 0, 1) := by decide +kernel
theorem dX10_value_10 : decode cX10_value 10 = .ok (.lcmp, 1) := by decide +kernel
theorem dX10_value_11 : decode cX10_value 11 = .ok (.ifCond .ne 7, 3) := by decide +kernel
theorem dX10_value_14 : decode cX10_value 14 = .ok (.iconst 1, 1) := by decide +kernel
theorem dX10_value_15 : decode cX10_value 15 = .ok (.goto 27, 3) := by decide +kernel
theorem dX10_value_18 : decode cX10_value 18 = .ok (.iload_n 1, 1) := by decide +kernel
theorem dX10_value_19 : decode cX10_value 19 = .ok (.i2l, 1) := by decide +kernel
theorem dX10_value_20 : decode cX10_value 20 = .ok (.lconst 0, 1) := by decide +kernel
theorem dX10_value_21 : decode cX10_value 21 = .ok (.aload_n 0, 1) := by decide +kernel
theorem dX10_value_22 : decode cX10_value 22 = .ok (.getfield 7, 3) := by decide +kernel
theorem dX10_value_25 : decode cX10_value 25 = .ok (.sipush 143, 3) := by decide +kernel
theorem dX10_value_28 : decode cX10_value 28 = .ok (.laload, 1) := by decide +kernel
theorem dX10_value_29 : decode cX10_value 29 = .ok (.lconst 1, 1) := by decide +kernel
theorem dX10_value_30 : decode cX10_value 30 = .ok (.lsub, 1) := by decide +kernel
theorem dX10_value_31 : decode cX10_value 31 = .ok (.invokestatic 46, 3) := by decide +kernel
theorem dX10_value_34 : decode cX10_value 34 = .ok (.ifCond .eq 7, 3) := by decide +kernel
theorem dX10_value_37 : decode cX10_value 37 = .ok (.iconst 0, 1) := by decide +kernel
theorem dX10_value_38 : decode cX10_value 38 = .ok (.goto 4, 3) := by decide +kernel
theorem dX10_value_41 : decode cX10_value 41 = .ok (.iconst 2, 1) := by decide +kernel
theorem dX10_value_42 : decode cX10_value 42 = .ok (.putfield 30, 3) := by decide +kernel
theorem dX10_value_45 : decode cX10_value 45 = .ok (.aload_n 0, 1) := by decide +kernel
theorem dX10_value_46 : decode cX10_value 46 = .ok (.getfield 30, 3) := by decide +kernel
theorem dX10_value_49 : decode cX10_value 49 = .ok (.ifCond .le 7, 3) := by decide +kernel
theorem dX10_value_52 : decode cX10_value 52 = .ok (.lconst 0, 1) := by decide +kernel
theorem dX10_value_53 : decode cX10_value 53 = .ok (.goto 13, 3) := by decide +kernel
theorem dX10_value_56 : decode cX10_value 56 = .ok (.aload_n 0, 1) := by decide +kernel
theorem dX10_value_57 : decode cX10_value 57 = .ok (.getfield 7, 3) := by decide +kernel
theorem dX10_value_60 : decode cX10_value 60 = .ok (.sipush 151, 3) := by decide +kernel
theorem dX10_value_63 : decode cX10_value 63 = .ok (.iload_n 1, 1) := by decide +kernel
theorem dX10_value_64 : decode cX10_value 64 = .ok (.iadd, 1) := by decide +kernel
theorem dX10_value_65 : decode cX10_value 65 = .ok (.laload, 1) := by decide +kernel
theorem dX10_value_66 : decode cX10_value 66 = .ok (.lreturn, 1) := by decide +kernel
theorem dX10_digit_0 : decode cX10_digit 0 = .ok (.aload_n 0, 1) := by decide +kernel
theorem dX10_digit_1 : decode cX10_digit 1 = .ok (.aload_n 0, 1) := by decide +kernel
theorem dX10_digit_2 : decode cX10_digit 2 = .ok (.getfield 7, 3) := by decide +kernel
theorem dX10_digit_5 : decode cX10_digit 5 = .ok (.sipush 139, 3) := by decide +kernel
theorem dX10_digit_8 : decode cX10_digit 8 = .ok (.laload, 1) := by decide +kernel
theorem dX10_digit_9 : decode cX10_digit 9 = .ok (.lconst 0, 1) := by decide +kernel
theorem dX10_digit_10 : decode cX10_digit 10 = .ok (.lcmp, 1) := by decide +kernel
theorem dX10_digit_11 : decode cX10_digit 11 = .ok (.ifCond .ne 7, 3) := by decide +kernel
theorem dX10_digit_14 : decode cX10_digit 14 = .ok (.iconst 1, 1) := by decide +kernel
theorem dX10_digit_15 : decode cX10_digit 15 = .ok (.goto 46, 3) := by decide +kernel
theorem dX10_digit_18 : decode cX10_digit 18 = .ok (.iload_n 1, 1) := by decide +kernel
theorem dX10_digit_19 : decode cX10_digit 19 = .ok (.i2l, 1) := by decide +kernel
theorem dX10_digit_20 : decode cX10_digit 20 = .ok (.lconst 0, 1) := by decide +kernel
theorem dX10_digit_21 : decode cX10_digit 21 = .ok (.aload_n 0, 1) := by decide +kernel
theorem dX10_digit_22 : decode cX10_digit 22 = .ok (.getfield 7, 3) := by decide +kernel
theorem dX10_digit_25 : decode cX10_digit 25 = .ok (.sipush 143, 3) := by decide +kernel
theorem dX10_digit_28 : decode cX10_digit 28 = .ok (.laload, 1) := by decide +kernel
theorem dX10_digit_29 : decode cX10_digit 29 = .ok (.lconst 1, 1) := by decide +kernel
theorem dX10_digit_30 : decode cX10_digit 30 = .ok (.lsub, 1) := by decide +kernel
theorem dX10_digit_31 : decode cX10_digit 31 = .ok (.invokestatic 46, 3) := by decide +kernel
theorem dX10_digit_34 : decode cX10_digit 34 = .ok (.ifCond .eq 26, 3) := by decide +kernel
theorem dX10_digit_37 : decode cX10_digit 37 = .ok (.iload_n 2, 1) := by decide +kernel
theorem dX10_digit_38 : decode cX10_digit 38 = .ok (.i2l, 1) := by decide +kernel
theorem dX10_digit_39 : decode cX10_digit 39 = .ok (.lconst 0, 1) := by decide +kernel
theorem dX10_digit_40 : decode cX10_digit 40 = .ok (.aload_n 0, 1) := by decide +kernel
theorem dX10_digit_41 : decode cX10_digit 41 = .ok (.getfield 7, 3) := by decide +kernel
theorem dX10_digit_44 : decode cX10_digit 44 = .ok (.sipush 144, 3) := by decide +kernel
theorem dX10_digit_47 : decode cX10_digit 47 = .ok (.laload, 1) := by decide +kernel
theorem dX10_digit_48 : decode cX10_digit 48 = .ok (.lconst 1, 1) := by decide +kernel
theorem dX10_digit_49 : decode cX10_digit 49 = .ok (.lsub, 1) := by decide +kernel
theorem dX10_digit_50 : decode cX10_digit 50 = .ok (.invokestatic 46, 3) := by decide +kernel
theorem dX10_digit_53 : decode cX10_digit 53 = .ok (.ifCond .eq 7, 3) := by decide +kernel
theorem dX10_digit_56 : decode cX10_digit 56 = .ok (.iconst 0, 1) := by decide +kernel
theorem dX10_digit_57 : decode cX10_digit 57 = .ok (.goto 4, 3) := by decide +kernel
theorem dX10_digit_60 : decode cX10_digit 60 = .ok (.iconst 2, 1) := by decide +kernel
theorem dX10_digit_61 : decode cX10_digit 61 = .ok (.putfield 30, 3) := by decide +kernel
theorem dX10_digit_64 : decode cX10_digit 64 = .ok (.aload_n 0, 1) := by decide +kernel
theorem dX10_digit_65 : decode cX10_digit 65 = .ok (.getfield 30, 3) := by decide +kernel
theorem dX10_digit_68 : decode cX10_digit 68 = .ok (.ifCond .le 5, 3) := by decide +kernel
theorem dX10_digit_71 : decode cX10_digit 71 = .ok (.iconst 0, 1) := by decide +kernel
theorem dX10_digit_72 : decode cX10_digit 72 = .ok (.ireturn, 1) := by decide +kernel
theorem dX10_digit_73 : decode cX10_digit 73 = .ok (.lconst 1, 1) := by decide +kernel
theorem dX10_digit_74 : decode cX10_digit 74 = .ok (.lstore_n 3, 1) := by decide +kernel
theorem dX10_digit_75 : decode cX10_digit 75 = .ok (.iconst 0, 1) := by decide +kernel
theorem dX10_digit_76 : decode cX10_digit 76 = .ok (.istore 5, 2) := by decide +kernel
theorem dX10_digit_78 : decode cX10_digit 78 = .ok (.iload 5, 2) := by decide +kernel
theorem dX10_digit_80 : decode cX10_digit 80 = .ok (.i2l, 1) := by decide +kernel
theorem dX10_digit_81 : decode cX10_digit 81 = .ok (.aload_n 0, 1) := by decide +kernel
theorem dX10_digit_82 : decode cX10_digit 82 = .ok (.getfield 7, 3) := by decide +kernel
theorem dX10_digit_85 : decode cX10_digit 85 = .ok (.sipush 144, 3) := by decide +kernel
theorem dX10_digit_88 : decode cX10_digit 88 = .ok (.laload, 1) := by decide +kernel
theorem dX10_digit_89 : decode cX10_digit 89 = .ok (.lcmp, 1) := by decide +kernel
theorem dX10_digit_90 : decode cX10_digit 90 = .ok (.ifCond .ge 23, 3) := by decide +kernel
theorem dX10_digit_93 : decode cX10_digit 93 = .ok (.lload_n 3, 1) := by decide +kernel
theorem dX10_digit_94 : decode cX10_digit 94 = .ok (.aload_n 0, 1) := by decide +kernel
theorem dX10_digit_95 : decode cX10_digit 95 = .ok (.getfield 7, 3) := by decide +kernel
theorem dX10_digit_98 : decode cX10_digit 98 = .ok (.sipush 145, 3) := by decide +kernel
theorem dX10_digit_101 : decode cX10_digit 101 = .ok (.iload 5, 2) := by decide +kernel
theorem dX10_digit_103 : decode cX10_digit 103 = .ok (.iadd, 1) := by decide +kernel
theorem dX10_digit_104 : decode cX10_digit 104 = .ok (.laload, 1) := by decide +kernel
theorem dX10_digit_105 : decode cX10_digit 105 = .ok (.lmul, 1) := by decide +kernel
theorem dX10_digit_106 : decode cX10_digit 106 = .ok (.lstore_n 3, 1) := by decide +kernel
theorem dX10_digit_107 : decode cX10_digit 107 = .ok (.iinc 5 1, 3) := by decide +kernel
theorem dX10_digit_110 : decode cX10_digit 110 = .ok (.goto (-32), 3) := by decide +kernel
theorem dX10_digit_113 : decode cX10_digit 113 = .ok (.aload_n 0, 1) := by decide +kernel
theorem dX10_digit_114 : decode cX10_digit 114 = .ok (.getfield 7, 3) := by decide +kernel
theorem dX10_digit_117 : decode cX10_digit 117 = .ok (.sipush 151, 3) := by decide +kernel
theorem dX10_digit_120 : decode cX10_digit 120 = .ok (.iload_n 1, 1) := by decide +kernel
theorem dX10_digit_121 : decode cX10_digit 121 = .ok (.iadd, 1) := by decide +kernel
theorem dX10_digit_122 : decode cX10_digit 122 = .ok (.laload, 1) := by decide +kernel
theorem dX10_digit_123 : decode cX10_digit 123 = .ok (.lconst 0, 1) := by decide +kernel
theorem dX10_digit_124 : decode cX10_digit 124 = .ok (.lcmp, 1) := by decide +kernel
theorem dX10_digit_125 : decode cX10_digit 125 = .ok (.ifCond .ge 18, 3) := by decide +kernel
theorem dX10_digit_128 : decode cX10_digit 128 = .ok (.aload_n 0, 1) := by decide +kernel
theorem dX10_digit_129 : decode cX10_digit 129 = .ok (.getfield 7, 3) := by decide +kernel
theorem dX10_digit_132 : decode cX10_digit 132 = .ok (.sipush 151, 3) := by decide +kernel
theorem dX10_digit_135 : decode cX10_digit 135 = .ok (.iload_n 1, 1) := by decide +kernel
theorem dX10_digit_136 : decode cX10_digit 136 = .ok (.iadd, 1) := by decide +kernel
theorem dX10_digit_137 : decode cX10_digit 137 = .ok (.laload, 1) := by decide +kernel
theorem dX10_digit_138 : decode cX10_digit 138 = .ok (.lload_n 3, 1) := by decide +kernel
theorem dX10_digit_139 : decode cX10_digit 139 = .ok (.ladd, 1) := by decide +kernel
theorem dX10_digit_140 : decode cX10_digit 140 = .ok (.goto 13, 3) := by decide +kernel
theorem dX10_digit_143 : decode cX10_digit 143 = .ok (.aload_n 0, 1) := by decide +kernel
theorem dX10_digit_144 : decode cX10_digit 144 = .ok (.getfield 7, 3) := by decide +kernel
theorem dX10_digit_147 : decode cX10_digit 147 = .ok (.sipush 151, 3) := by decide +kernel
theorem dX10_digit_150 : decode cX10_digit 150 = .ok (.iload_n 1, 1) := by decide +kernel
theorem dX10_digit_151 : decode cX10_digit 151 = .ok (.iadd, 1) := by decide +kernel
theorem dX10_digit_152 : decode cX10_digit 152 = .ok (.laload, 1) := by decide +kernel
theorem dX10_digit_153 : decode cX10_digit 153 = .ok (.lstore 5, 2) := by decide +kernel
theorem dX10_digit_155 : decode cX10_digit 155 = .ok (.iconst 0, 1) := by decide +kernel
theorem dX10_digit_156 : decode cX10_digit 156 = .ok (.istore 7, 2) := by decide +kernel
theorem dX10_digit_158 : decode cX10_digit 158 = .ok (.iload 7, 2) := by decide +kernel
theorem dX10_digit_160 : decode cX10_digit 160 = .ok (.iload_n 2, 1) := by decide +kernel
theorem dX10_digit_161 : decode cX10_digit 161 = .ok (.if_icmp .ge 25, 3) := by decide +kernel
theorem dX10_digit_164 : decode cX10_digit 164 = .ok (.lload 5, 2) := by decide +kernel
theorem dX10_digit_166 : decode cX10_digit 166 = .ok (.aload_n 0, 1) := by decide +kernel
theorem dX10_digit_167 : decode cX10_digit 167 = .ok (.getfield 7, 3) := by decide +kernel
theorem dX10_digit_170 : decode cX10_digit 170 = .ok (.sipush 145, 3) := by decide +kernel
theorem dX10_digit_173 : decode cX10_digit 173 = .ok (.iload 7, 2) := by decide +kernel
theorem dX10_digit_175 : decode cX10_digit 175 = .ok (.iadd, 1) := by decide +kernel
theorem dX10_digit_176 : decode cX10_digit 176 = .ok (.laload, 1) := by decide +kernel
theorem dX10_digit_177 : decode cX10_digit 177 = .ok (.ldiv, 1) := by decide +kernel
theorem dX10_digit_178 : decode cX10_digit 178 = .ok (.lstore 5, 2) := by decide +kernel
theorem dX10_digit_180 : decode cX10_digit 180 = .ok (.iinc 7 1, 3) := by decide +kernel
theorem dX10_digit_183 : decode cX10_digit 183 = .ok (.goto (-25), 3) := by decide +kernel
theorem dX10_digit_186 : decode cX10_digit 186 = .ok (.lload 5, 2) := by decide +kernel
theorem dX10_digit_188 : decode cX10_digit 188 = .ok (.aload_n 0, 1) := by decide +kernel
theorem dX10_digit_189 : decode cX10_digit 189 = .ok (.getfield 7, 3) := by decide +kernel
theorem dX10_digit_192 : decode cX10_digit 192 = .ok (.sipush 145, 3) := by decide +kernel
theorem dX10_digit_195 : decode cX10_digit 195 = .ok (.iload_n 2, 1) := by decide +kernel
theorem dX10_digit_196 : decode cX10_digit 196 = .ok (.iadd, 1) := by decide +kernel
theorem dX10_digit_197 : decode cX10_digit 197 = .ok (.laload, 1) := by decide +kernel
theorem dX10_digit_198 : decode cX10_digit 198 = .ok (.lrem, 1) := by decide +kernel
theorem dX10_digit_199 : decode cX10_digit 199 = .ok (.l2i, 1) := by decide +kernel
theorem dX10_digit_200 : decode cX10_digit 200 = .ok (.ireturn, 1) := by decide +kernel
theorem dX10_residue_0 : decode cX10_residue 0 = .ok (.aload_n 0, 1) := by decide +kernel
theorem dX10_residue_1 : decode cX10_residue 1 = .ok (.aload_n 0, 1) := by decide +kernel
theorem dX10_residue_2 : decode cX10_residue 2 = .ok (.iload_n 1, 1) := by decide +kernel
theorem dX10_residue_3 : decode cX10_residue 3 = .ok (.invokevirtual 146, 3) := by decide +kernel
theorem dX10_residue_6 : decode cX10_residue 6 = .ok (.ifCond .ne 7, 3) := by decide +kernel
theorem dX10_residue_9 : decode cX10_residue 9 = .ok (.iconst 1, 1) := by decide +kernel
theorem dX10_residue_10 : decode cX10_residue 10 = .ok (.goto 44, 3) := by decide +kernel
theorem dX10_residue_13 : decode cX10_residue 13 = .ok (.aload_n 0, 1) := by decide +kernel
theorem dX10_residue_14 : decode cX10_residue 14 = .ok (.getfield 7, 3) := by decide +kernel
theorem dX10_residue_17 : decode cX10_residue 17 = .ok (.sipush 139, 3) := by decide +kernel
theorem dX10_residue_20 : decode cX10_residue 20 = .ok (.laload, 1) := by decide +kernel
theorem dX10_residue_21 : decode cX10_residue 21 = .ok (.lconst 0, 1) := by decide +kernel
theorem dX10_residue_22 : decode cX10_residue 22 = .ok (.lcmp, 1) := by decide +kernel
theorem dX10_residue_23 : decode cX10_residue 23 = .ok (.ifCond .ne 7, 3) := by decide +kernel
theorem dX10_residue_26 : decode cX10_residue 26 = .ok (.iconst 2, 1) := by decide +kernel
theorem dX10_residue_27 : decode cX10_residue 27 = .ok (.goto 27, 3) := by decide +kernel
theorem dX10_residue_30 : decode cX10_residue 30 = .ok (.iload_n 2, 1) := by decide +kernel
theorem dX10_residue_31 : decode cX10_residue 31 = .ok (.i2l, 1) := by decide +kernel
theorem dX10_residue_32 : decode cX10_residue 32 = .ok (.lconst 0, 1) := by decide +kernel
theorem dX10_residue_33 : decode cX10_residue 33 = .ok (.aload_n 0, 1) := by decide +kernel
theorem dX10_residue_34 : decode cX10_residue 34 = .ok (.getfield 7, 3) := by decide +kernel
theorem dX10_residue_37 : decode cX10_residue 37 = .ok (.sipush 143, 3) := by decide +kernel
theorem dX10_residue_40 : decode cX10_residue 40 = .ok (.laload, 1) := by decide +kernel
theorem dX10_residue_41 : decode cX10_residue 41 = .ok (.lconst 1, 1) := by decide +kernel
theorem dX10_residue_42 : decode cX10_residue 42 = .ok (.lsub, 1) := by decide +kernel
theorem dX10_residue_43 : decode cX10_residue 43 = .ok (.invokestatic 46, 3) := by decide +kernel
theorem dX10_residue_46 : decode cX10_residue 46 = .ok (.ifCond .eq 7, 3) := by decide +kernel
theorem dX10_residue_49 : decode cX10_residue 49 = .ok (.iconst 0, 1) := by decide +kernel
theorem dX10_residue_50 : decode cX10_residue 50 = .ok (.goto 4, 3) := by decide +kernel
theorem dX10_residue_53 : decode cX10_residue 53 = .ok (.iconst 3, 1) := by decide +kernel
theorem dX10_residue_54 : decode cX10_residue 54 = .ok (.putfield 30, 3) := by decide +kernel
theorem dX10_residue_57 : decode cX10_residue 57 = .ok (.aload_n 0, 1) := by decide +kernel
theorem dX10_residue_58 : decode cX10_residue 58 = .ok (.getfield 30, 3) := by decide +kernel
theorem dX10_residue_61 : decode cX10_residue 61 = .ok (.ifCond .le 7, 3) := by decide +kernel
theorem dX10_residue_64 : decode cX10_residue 64 = .ok (.iconst 0, 1) := by decide +kernel
theorem dX10_residue_65 : decode cX10_residue 65 = .ok (.goto 21, 3) := by decide +kernel
theorem dX10_residue_68 : decode cX10_residue 68 = .ok (.aload_n 0, 1) := by decide +kernel
theorem dX10_residue_69 : decode cX10_residue 69 = .ok (.getfield 7, 3) := by decide +kernel
theorem dX10_residue_72 : decode cX10_residue 72 = .ok (.sipush 151, 3) := by decide +kernel
theorem dX10_residue_75 : decode cX10_residue 75 = .ok (.iload_n 2, 1) := by decide +kernel
theorem dX10_residue_76 : decode cX10_residue 76 = .ok (.iadd, 1) := by decide +kernel
theorem dX10_residue_77 : decode cX10_residue 77 = .ok (.laload, 1) := by decide +kernel
theorem dX10_residue_78 : decode cX10_residue 78 = .ok (.aload_n 0, 1) := by decide +kernel
theorem dX10_residue_79 : decode cX10_residue 79 = .ok (.iload_n 1, 1) := by decide +kernel
theorem dX10_residue_80 : decode cX10_residue 80 = .ok (.invokevirtual 165, 3) := by decide +kernel
theorem dX10_residue_83 : decode cX10_residue 83 = .ok (.invokestatic 187, 3) := by decide +kernel
theorem dX10_residue_86 : decode cX10_residue 86 = .ok (.ireturn, 1) := by decide +kernel
theorem dX10_agreeing_0 : decode cX10_agreeing 0 = .ok (.aload_n 0, 1) := by decide +kernel
theorem dX10_agreeing_1 : decode cX10_agreeing 1 = .ok (.iload_n 1, 1) := by decide +kernel
theorem dX10_agreeing_2 : decode cX10_agreeing 2 = .ok (.iload_n 2, 1) := by decide +kernel
theorem dX10_agreeing_3 : decode cX10_agreeing 3 = .ok (.invokevirtual 237, 3) := by decide +kernel
theorem dX10_agreeing_6 : decode cX10_agreeing 6 = .ok (.istore_n 3, 1) := by decide +kernel
theorem dX10_agreeing_7 : decode cX10_agreeing 7 = .ok (.aload_n 0, 1) := by decide +kernel
theorem dX10_agreeing_8 : decode cX10_agreeing 8 = .ok (.iload_n 3, 1) := by decide +kernel
theorem dX10_agreeing_9 : decode cX10_agreeing 9 = .ok (.iconst 1, 1) := by decide +kernel
theorem dX10_agreeing_10 : decode cX10_agreeing 10 = .ok (.if_icmp .ne 7, 3) := by decide +kernel
theorem dX10_agreeing_13 : decode cX10_agreeing 13 = .ok (.iconst 1, 1) := by decide +kernel
theorem dX10_agreeing_14 : decode cX10_agreeing 14 = .ok (.goto 26, 3) := by decide +kernel
theorem dX10_agreeing_17 : decode cX10_agreeing 17 = .ok (.aload_n 0, 1) := by decide +kernel
theorem dX10_agreeing_18 : decode cX10_agreeing 18 = .ok (.getfield 7, 3) := by decide +kernel
theorem dX10_agreeing_21 : decode cX10_agreeing 21 = .ok (.sipush 139, 3) := by decide +kernel
theorem dX10_agreeing_24 : decode cX10_agreeing 24 = .ok (.laload, 1) := by decide +kernel
theorem dX10_agreeing_25 : decode cX10_agreeing 25 = .ok (.lconst 0, 1) := by decide +kernel
theorem dX10_agreeing_26 : decode cX10_agreeing 26 = .ok (.lcmp, 1) := by decide +kernel
theorem dX10_agreeing_27 : decode cX10_agreeing 27 = .ok (.ifCond .eq 8, 3) := by decide +kernel
theorem dX10_agreeing_30 : decode cX10_agreeing 30 = .ok (.iload_n 3, 1) := by decide +kernel
theorem dX10_agreeing_31 : decode cX10_agreeing 31 = .ok (.iconst 2, 1) := by decide +kernel
theorem dX10_agreeing_32 : decode cX10_agreeing 32 = .ok (.if_icmp .ne 7, 3) := by decide +kernel
theorem dX10_agreeing_35 : decode cX10_agreeing 35 = .ok (.iconst 2, 1) := by decide +kernel
theorem dX10_agreeing_36 : decode cX10_agreeing 36 = .ok (.goto 4, 3) := by decide +kernel
theorem dX10_agreeing_39 : decode cX10_agreeing 39 = .ok (.iconst 0, 1) := by decide +kernel
theorem dX10_agreeing_40 : decode cX10_agreeing 40 = .ok (.putfield 30, 3) := by decide +kernel
theorem dX10_agreeing_43 : decode cX10_agreeing 43 = .ok (.aload_n 0, 1) := by decide +kernel
theorem dX10_agreeing_44 : decode cX10_agreeing 44 = .ok (.getfield 30, 3) := by decide +kernel
theorem dX10_agreeing_47 : decode cX10_agreeing 47 = .ok (.ifCond .le 5, 3) := by decide +kernel
theorem dX10_agreeing_50 : decode cX10_agreeing 50 = .ok (.iconst 0, 1) := by decide +kernel
theorem dX10_agreeing_51 : decode cX10_agreeing 51 = .ok (.ireturn, 1) := by decide +kernel
theorem dX10_agreeing_52 : decode cX10_agreeing 52 = .ok (.aload_n 0, 1) := by decide +kernel
theorem dX10_agreeing_53 : decode cX10_agreeing 53 = .ok (.getfield 7, 3) := by decide +kernel
theorem dX10_agreeing_56 : decode cX10_agreeing 56 = .ok (.sipush 140, 3) := by decide +kernel
theorem dX10_agreeing_59 : decode cX10_agreeing 59 = .ok (.laload, 1) := by decide +kernel
theorem dX10_agreeing_60 : decode cX10_agreeing 60 = .ok (.l2i, 1) := by decide +kernel
theorem dX10_agreeing_61 : decode cX10_agreeing 61 = .ok (.istore 4, 2) := by decide +kernel
theorem dX10_agreeing_63 : decode cX10_agreeing 63 = .ok (.aload_n 0, 1) := by decide +kernel
theorem dX10_agreeing_64 : decode cX10_agreeing 64 = .ok (.getfield 7, 3) := by decide +kernel
theorem dX10_agreeing_67 : decode cX10_agreeing 67 = .ok (.sipush 143, 3) := by decide +kernel
theorem dX10_agreeing_70 : decode cX10_agreeing 70 = .ok (.laload, 1) := by decide +kernel
theorem dX10_agreeing_71 : decode cX10_agreeing 71 = .ok (.l2i, 1) := by decide +kernel
theorem dX10_agreeing_72 : decode cX10_agreeing 72 = .ok (.istore 5, 2) := by decide +kernel
theorem dX10_agreeing_74 : decode cX10_agreeing 74 = .ok (.aload_n 0, 1) := by decide +kernel
theorem dX10_agreeing_75 : decode cX10_agreeing 75 = .ok (.iload 4, 2) := by decide +kernel
theorem dX10_agreeing_77 : decode cX10_agreeing 77 = .ok (.iload_n 1, 1) := by decide +kernel
theorem dX10_agreeing_78 : decode cX10_agreeing 78 = .ok (.iload_n 2, 1) := by decide +kernel
theorem dX10_agreeing_79 : decode cX10_agreeing 79 = .ok (.iload 5, 2) := by decide +kernel
theorem dX10_agreeing_81 : decode cX10_agreeing 81 = .ok (.invokevirtual 240, 3) := by decide +kernel
theorem dX10_agreeing_84 : decode cX10_agreeing 84 = .ok (.ifCond .eq 18, 3) := by decide +kernel
theorem dX10_agreeing_87 : decode cX10_agreeing 87 = .ok (.aload_n 0, 1) := by decide +kernel
theorem dX10_agreeing_88 : decode cX10_agreeing 88 = .ok (.iload 4, 2) := by decide +kernel
theorem dX10_agreeing_90 : decode cX10_agreeing 90 = .ok (.iload_n 1, 1) := by decide +kernel
theorem dX10_agreeing_91 : decode cX10_agreeing 91 = .ok (.iload_n 2, 1) := by decide +kernel
theorem dX10_agreeing_92 : decode cX10_agreeing 92 = .ok (.iload 5, 2) := by decide +kernel
theorem dX10_agreeing_94 : decode cX10_agreeing 94 = .ok (.invokevirtual 248, 3) := by decide +kernel
theorem dX10_agreeing_97 : decode cX10_agreeing 97 = .ok (.iload 5, 2) := by decide +kernel
theorem dX10_agreeing_99 : decode cX10_agreeing 99 = .ok (.if_icmp .eq 5, 3) := by decide +kernel
theorem dX10_agreeing_102 : decode cX10_agreeing 102 = .ok (.iconst (-1), 1) := by decide +kernel
theorem dX10_agreeing_103 : decode cX10_agreeing 103 = .ok (.ireturn, 1) := by decide +kernel
theorem dX10_agreeing_104 : decode cX10_agreeing 104 = .ok (.iconst 0, 1) := by decide +kernel
theorem dX10_agreeing_105 : decode cX10_agreeing 105 = .ok (.istore 6, 2) := by decide +kernel
theorem dX10_agreeing_107 : decode cX10_agreeing 107 = .ok (.iconst 0, 1) := by decide +kernel
theorem dX10_agreeing_108 : decode cX10_agreeing 108 = .ok (.istore 7, 2) := by decide +kernel
theorem dX10_agreeing_110 : decode cX10_agreeing 110 = .ok (.iload 7, 2) := by decide +kernel
theorem dX10_agreeing_112 : decode cX10_agreeing 112 = .ok (.iload 5, 2) := by decide +kernel
theorem dX10_agreeing_114 : decode cX10_agreeing 114 = .ok (.if_icmp .ge 46, 3) := by decide +kernel
theorem dX10_agreeing_117 : decode cX10_agreeing 117 = .ok (.iload 6, 2) := by decide +kernel
theorem dX10_agreeing_119 : decode cX10_agreeing 119 = .ok (.aload_n 0, 1) := by decide +kernel
theorem dX10_agreeing_120 : decode cX10_agreeing 120 = .ok (.iload 4, 2) := by decide +kernel
theorem dX10_agreeing_122 : decode cX10_agreeing 122 = .ok (.iload_n 1, 1) := by decide +kernel
theorem dX10_agreeing_123 : decode cX10_agreeing 123 = .ok (.iload_n 2, 1) := by decide +kernel
theorem dX10_agreeing_124 : decode cX10_agreeing 124 = .ok (.iload 5, 2) := by decide +kernel
theorem dX10_agreeing_126 : decode cX10_agreeing 126 = .ok (.iload 7, 2) := by decide +kernel
theorem dX10_agreeing_128 : decode cX10_agreeing 128 = .ok (.invokevirtual 258, 3) := by decide +kernel
theorem dX10_agreeing_131 : decode cX10_agreeing 131 = .ok (.aload_n 0, 1) := by decide +kernel
theorem dX10_agreeing_132 : decode cX10_agreeing 132 = .ok (.getfield 7, 3) := by decide +kernel
theorem dX10_agreeing_135 : decode cX10_agreeing 135 = .ok (.sipush 151, 3) := by decide +kernel
theorem dX10_agreeing_138 : decode cX10_agreeing 138 = .ok (.iload 7, 2) := by decide +kernel
theorem dX10_agreeing_140 : decode cX10_agreeing 140 = .ok (.iadd, 1) := by decide +kernel
theorem dX10_agreeing_141 : decode cX10_agreeing 141 = .ok (.laload, 1) := by decide +kernel
theorem dX10_agreeing_142 : decode cX10_agreeing 142 = .ok (.lcmp, 1) := by decide +kernel
theorem dX10_agreeing_143 : decode cX10_agreeing 143 = .ok (.ifCond .ne 7, 3) := by decide +kernel
theorem dX10_agreeing_146 : decode cX10_agreeing 146 = .ok (.iconst 1, 1) := by decide +kernel
theorem dX10_agreeing_147 : decode cX10_agreeing 147 = .ok (.goto 4, 3) := by decide +kernel
theorem dX10_agreeing_150 : decode cX10_agreeing 150 = .ok (.iconst 0, 1) := by decide +kernel
theorem dX10_agreeing_151 : decode cX10_agreeing 151 = .ok (.iadd, 1) := by decide +kernel
theorem dX10_agreeing_152 : decode cX10_agreeing 152 = .ok (.istore 6, 2) := by decide +kernel
theorem dX10_agreeing_154 : decode cX10_agreeing 154 = .ok (.iinc 7 1, 3) := by decide +kernel
theorem dX10_agreeing_157 : decode cX10_agreeing 157 = .ok (.goto (-47), 3) := by decide +kernel
theorem dX10_agreeing_160 : decode cX10_agreeing 160 = .ok (.iload 6, 2) := by decide +kernel
theorem dX10_agreeing_162 : decode cX10_agreeing 162 = .ok (.ireturn, 1) := by decide +kernel
theorem dX10_canStore_0 : decode cX10_canStore 0 = .ok (.aload_n 0, 1) := by decide +kernel
theorem dX10_canStore_1 : decode cX10_canStore 1 = .ok (.getfield 7, 3) := by decide +kernel
theorem dX10_canStore_4 : decode cX10_canStore 4 = .ok (.sipush 139, 3) := by decide +kernel
theorem dX10_canStore_7 : decode cX10_canStore 7 = .ok (.laload, 1) := by decide +kernel
theorem dX10_canStore_8 : decode cX10_canStore 8 = .ok (.lconst 0, 1) := by decide +kernel
theorem dX10_canStore_9 : decode cX10_canStore 9 = .ok (.lcmp, 1) := by decide +kernel
theorem dX10_canStore_10 : decode cX10_canStore 10 = .ok (.ifCond .eq 18, 3) := by decide +kernel
theorem dX10_canStore_13 : decode cX10_canStore 13 = .ok (.aload_n 0, 1) := by decide +kernel
theorem dX10_canStore_14 : decode cX10_canStore 14 = .ok (.getfield 7, 3) := by decide +kernel
theorem dX10_canStore_17 : decode cX10_canStore 17 = .ok (.sipush 143, 3) := by decide +kernel
theorem dX10_canStore_20 : decode cX10_canStore 20 = .ok (.laload, 1) := by decide +kernel
theorem dX10_canStore_21 : decode cX10_canStore 21 = .ok (.ldc2_w 204, 3) := by decide +kernel
theorem dX10_canStore_24 : decode cX10_canStore 24 = .ok (.lcmp, 1) := by decide +kernel
theorem dX10_canStore_25 : decode cX10_canStore 25 = .ok (.ifCond .le 5, 3) := by decide +kernel
theorem dX10_canStore_28 : decode cX10_canStore 28 = .ok (.iconst 0, 1) := by decide +kernel
theorem dX10_canStore_29 : decode cX10_canStore 29 = .ok (.ireturn, 1) := by decide +kernel
theorem dX10_canStore_30 : decode cX10_canStore 30 = .ok (.iconst 0, 1) := by decide +kernel
theorem dX10_canStore_31 : decode cX10_canStore 31 = .ok (.istore_n 1, 1) := by decide +kernel
theorem dX10_canStore_32 : decode cX10_canStore 32 = .ok (.iload_n 1, 1) := by decide +kernel
theorem dX10_canStore_33 : decode cX10_canStore 33 = .ok (.i2l, 1) := by decide +kernel
theorem dX10_canStore_34 : decode cX10_canStore 34 = .ok (.aload_n 0, 1) := by decide +kernel
theorem dX10_canStore_35 : decode cX10_canStore 35 = .ok (.getfield 7, 3) := by decide +kernel
theorem dX10_canStore_38 : decode cX10_canStore 38 = .ok (.sipush 143, 3) := by decide +kernel
theorem dX10_canStore_41 : decode cX10_canStore 41 = .ok (.laload, 1) := by decide +kernel
theorem dX10_canStore_42 : decode cX10_canStore 42 = .ok (.lcmp, 1) := by decide +kernel
theorem dX10_canStore_43 : decode cX10_canStore 43 = .ok (.ifCond .ge 27, 3) := by decide +kernel
theorem dX10_canStore_46 : decode cX10_canStore 46 = .ok (.aload_n 0, 1) := by decide +kernel
theorem dX10_canStore_47 : decode cX10_canStore 47 = .ok (.getfield 7, 3) := by decide +kernel
theorem dX10_canStore_50 : decode cX10_canStore 50 = .ok (.sipush 151, 3) := by decide +kernel
theorem dX10_canStore_53 : decode cX10_canStore 53 = .ok (.iload_n 1, 1) := by decide +kernel
theorem dX10_canStore_54 : decode cX10_canStore 54 = .ok (.iadd, 1) := by decide +kernel
theorem dX10_canStore_55 : decode cX10_canStore 55 = .ok (.laload, 1) := by decide +kernel
theorem dX10_canStore_56 : decode cX10_canStore 56 = .ok (.invokestatic 210, 3) := by decide +kernel
theorem dX10_canStore_59 : decode cX10_canStore 59 = .ok (.ifCond .ne 5, 3) := by decide +kernel
theorem dX10_canStore_62 : decode cX10_canStore 62 = .ok (.iconst 0, 1) := by decide +kernel
theorem dX10_canStore_63 : decode cX10_canStore 63 = .ok (.ireturn, 1) := by decide +kernel
theorem dX10_canStore_64 : decode cX10_canStore 64 = .ok (.iinc 1 1, 3) := by decide +kernel
theorem dX10_canStore_67 : decode cX10_canStore 67 = .ok (.goto (-35), 3) := by decide +kernel
theorem dX10_canStore_70 : decode cX10_canStore 70 = .ok (.iconst 1, 1) := by decide +kernel
theorem dX10_canStore_71 : decode cX10_canStore 71 = .ok (.ireturn, 1) := by decide +kernel
theorem dX10_store_0 : decode cX10_store 0 = .ok (.aload_n 0, 1) := by decide +kernel
theorem dX10_store_1 : decode cX10_store 1 = .ok (.iload_n 1, 1) := by decide +kernel
theorem dX10_store_2 : decode cX10_store 2 = .ok (.invokestatic 191, 3) := by decide +kernel
theorem dX10_store_5 : decode cX10_store 5 = .ok (.ifCond .ne 7, 3) := by decide +kernel
theorem dX10_store_8 : decode cX10_store 8 = .ok (.iconst 1, 1) := by decide +kernel
theorem dX10_store_9 : decode cX10_store 9 = .ok (.goto 15, 3) := by decide +kernel
theorem dX10_store_12 : decode cX10_store 12 = .ok (.aload_n 0, 1) := by decide +kernel
theorem dX10_store_13 : decode cX10_store 13 = .ok (.invokevirtual 293, 3) := by decide +kernel
theorem dX10_store_16 : decode cX10_store 16 = .ok (.ifCond .eq 7, 3) := by decide +kernel
theorem dX10_store_19 : decode cX10_store 19 = .ok (.iconst 0, 1) := by decide +kernel
theorem dX10_store_20 : decode cX10_store 20 = .ok (.goto 4, 3) := by decide +kernel
theorem dX10_store_23 : decode cX10_store 23 = .ok (.iconst 2, 1) := by decide +kernel
theorem dX10_store_24 : decode cX10_store 24 = .ok (.putfield 30, 3) := by decide +kernel
theorem dX10_store_27 : decode cX10_store 27 = .ok (.aload_n 0, 1) := by decide +kernel
theorem dX10_store_28 : decode cX10_store 28 = .ok (.getfield 30, 3) := by decide +kernel
theorem dX10_store_31 : decode cX10_store 31 = .ok (.ifCond .le 5, 3) := by decide +kernel
theorem dX10_store_34 : decode cX10_store 34 = .ok (.iconst 0, 1) := by decide +kernel
theorem dX10_store_35 : decode cX10_store 35 = .ok (.ireturn, 1) := by decide +kernel
theorem dX10_store_36 : decode cX10_store 36 = .ok (.aload_n 0, 1) := by decide +kernel
theorem dX10_store_37 : decode cX10_store 37 = .ok (.invokevirtual 134, 3) := by decide +kernel
theorem dX10_store_40 : decode cX10_store 40 = .ok (.iconst 0, 1) := by decide +kernel
theorem dX10_store_41 : decode cX10_store 41 = .ok (.istore_n 2, 1) := by decide +kernel
theorem dX10_store_42 : decode cX10_store 42 = .ok (.iload_n 2, 1) := by decide +kernel
theorem dX10_store_43 : decode cX10_store 43 = .ok (.i2l, 1) := by decide +kernel
theorem dX10_store_44 : decode cX10_store 44 = .ok (.aload_n 0, 1) := by decide +kernel
theorem dX10_store_45 : decode cX10_store 45 = .ok (.getfield 7, 3) := by decide +kernel
theorem dX10_store_48 : decode cX10_store 48 = .ok (.sipush 143, 3) := by decide +kernel
theorem dX10_store_51 : decode cX10_store 51 = .ok (.laload, 1) := by decide +kernel
theorem dX10_store_52 : decode cX10_store 52 = .ok (.lcmp, 1) := by decide +kernel
theorem dX10_store_53 : decode cX10_store 53 = .ok (.ifCond .ge 25, 3) := by decide +kernel
theorem dX10_store_56 : decode cX10_store 56 = .ok (.aload_n 0, 1) := by decide +kernel
theorem dX10_store_57 : decode cX10_store 57 = .ok (.iload_n 1, 1) := by decide +kernel
theorem dX10_store_58 : decode cX10_store 58 = .ok (.iload_n 2, 1) := by decide +kernel
theorem dX10_store_59 : decode cX10_store 59 = .ok (.aload_n 0, 1) := by decide +kernel
theorem dX10_store_60 : decode cX10_store 60 = .ok (.getfield 7, 3) := by decide +kernel
theorem dX10_store_63 : decode cX10_store 63 = .ok (.sipush 151, 3) := by decide +kernel
theorem dX10_store_66 : decode cX10_store 66 = .ok (.iload_n 2, 1) := by decide +kernel
theorem dX10_store_67 : decode cX10_store 67 = .ok (.iadd, 1) := by decide +kernel
theorem dX10_store_68 : decode cX10_store 68 = .ok (.laload, 1) := by decide +kernel
theorem dX10_store_69 : decode cX10_store 69 = .ok (.invokevirtual 214, 3) := by decide +kernel
theorem dX10_store_72 : decode cX10_store 72 = .ok (.iinc 2 1, 3) := by decide +kernel
theorem dX10_store_75 : decode cX10_store 75 = .ok (.goto (-33), 3) := by decide +kernel
theorem dX10_store_78 : decode cX10_store 78 = .ok (.aload_n 0, 1) := by decide +kernel
theorem dX10_store_79 : decode cX10_store 79 = .ok (.getfield 7, 3) := by decide +kernel
theorem dX10_store_82 : decode cX10_store 82 = .ok (.bipush 7, 2) := by decide +kernel
theorem dX10_store_84 : decode cX10_store 84 = .ok (.iload_n 1, 1) := by decide +kernel
theorem dX10_store_85 : decode cX10_store 85 = .ok (.iadd, 1) := by decide +kernel
theorem dX10_store_86 : decode cX10_store 86 = .ok (.aload_n 0, 1) := by decide +kernel
theorem dX10_store_87 : decode cX10_store 87 = .ok (.getfield 7, 3) := by decide +kernel
theorem dX10_store_90 : decode cX10_store 90 = .ok (.sipush 143, 3) := by decide +kernel
theorem dX10_store_93 : decode cX10_store 93 = .ok (.laload, 1) := by decide +kernel
theorem dX10_store_94 : decode cX10_store 94 = .ok (.lastore, 1) := by decide +kernel
theorem dX10_store_95 : decode cX10_store 95 = .ok (.aload_n 0, 1) := by decide +kernel
theorem dX10_store_96 : decode cX10_store 96 = .ok (.iload_n 1, 1) := by decide +kernel
theorem dX10_store_97 : decode cX10_store 97 = .ok (.invokevirtual 194, 3) := by decide +kernel
theorem dX10_store_100 : decode cX10_store 100 = .ok (.ireturn, 1) := by decide +kernel
theorem dX10_productAt_0 : decode cX10_productAt 0 = .ok (.aload_n 0, 1) := by decide +kernel
theorem dX10_productAt_1 : decode cX10_productAt 1 = .ok (.aload_n 0, 1) := by decide +kernel
theorem dX10_productAt_2 : decode cX10_productAt 2 = .ok (.getfield 7, 3) := by decide +kernel
theorem dX10_productAt_5 : decode cX10_productAt 5 = .ok (.sipush 139, 3) := by decide +kernel
theorem dX10_productAt_8 : decode cX10_productAt 8 = .ok (.laload, 1) := by decide +kernel
theorem dX10_productAt_9 : decode cX10_productAt 9 = .ok (.lconst 0, 1) := by decide +kernel
theorem dX10_productAt_10 : decode cX10_productAt 10 = .ok (.lcmp, 1) := by decide +kernel
theorem dX10_productAt_11 : decode cX10_productAt 11 = .ok (.ifCond .ne 7, 3) := by decide +kernel
theorem dX10_productAt_14 : decode cX10_productAt 14 = .ok (.iconst 1, 1) := by decide +kernel
theorem dX10_productAt_15 : decode cX10_productAt 15 = .ok (.goto 4, 3) := by decide +kernel
theorem dX10_productAt_18 : decode cX10_productAt 18 = .ok (.iconst 0, 1) := by decide +kernel
theorem dX10_productAt_19 : decode cX10_productAt 19 = .ok (.putfield 30, 3) := by decide +kernel
theorem dX10_productAt_22 : decode cX10_productAt 22 = .ok (.aload_n 0, 1) := by decide +kernel
theorem dX10_productAt_23 : decode cX10_productAt 23 = .ok (.getfield 30, 3) := by decide +kernel
theorem dX10_productAt_26 : decode cX10_productAt 26 = .ok (.ifCond .le 5, 3) := by decide +kernel
theorem dX10_productAt_29 : decode cX10_productAt 29 = .ok (.iconst 0, 1) := by decide +kernel
theorem dX10_productAt_30 : decode cX10_productAt 30 = .ok (.ireturn, 1) := by decide +kernel
theorem dX10_productAt_31 : decode cX10_productAt 31 = .ok (.iload_n 1, 1) := by decide +kernel
theorem dX10_productAt_32 : decode cX10_productAt 32 = .ok (.i2l, 1) := by decide +kernel
theorem dX10_productAt_33 : decode cX10_productAt 33 = .ok (.ldc_w 297, 3) := by decide +kernel
theorem dX10_productAt_36 : decode cX10_productAt 36 = .ok (.invokestatic 187, 3) := by decide +kernel
theorem dX10_productAt_39 : decode cX10_productAt 39 = .ok (.i2l, 1) := by decide +kernel
theorem dX10_productAt_40 : decode cX10_productAt 40 = .ok (.lstore_n 2, 1) := by decide +kernel
theorem dX10_productAt_41 : decode cX10_productAt 41 = .ok (.lconst 0, 1) := by decide +kernel
theorem dX10_productAt_42 : decode cX10_productAt 42 = .ok (.lstore 4, 2) := by decide +kernel
theorem dX10_productAt_44 : decode cX10_productAt 44 = .ok (.aload_n 0, 1) := by decide +kernel
theorem dX10_productAt_45 : decode cX10_productAt 45 = .ok (.getfield 7, 3) := by decide +kernel
theorem dX10_productAt_48 : decode cX10_productAt 48 = .ok (.sipush 143, 3) := by decide +kernel
theorem dX10_productAt_51 : decode cX10_productAt 51 = .ok (.laload, 1) := by decide +kernel
theorem dX10_productAt_52 : decode cX10_productAt 52 = .ok (.l2i, 1) := by decide +kernel
theorem dX10_productAt_53 : decode cX10_productAt 53 = .ok (.iconst 1, 1) := by decide +kernel
theorem dX10_productAt_54 : decode cX10_productAt 54 = .ok (.isub, 1) := by decide +kernel
theorem dX10_productAt_55 : decode cX10_productAt 55 = .ok (.istore 6, 2) := by decide +kernel
theorem dX10_productAt_57 : decode cX10_productAt 57 = .ok (.iload 6, 2) := by decide +kernel
theorem dX10_productAt_59 : decode cX10_productAt 59 = .ok (.ifCond .lt 38, 3) := by decide +kernel
theorem dX10_productAt_62 : decode cX10_productAt 62 = .ok (.lload 4, 2) := by decide +kernel
theorem dX10_productAt_64 : decode cX10_productAt 64 = .ok (.lload_n 2, 1) := by decide +kernel
theorem dX10_productAt_65 : decode cX10_productAt 65 = .ok (.lmul, 1) := by decide +kernel
theorem dX10_productAt_66 : decode cX10_productAt 66 = .ok (.aload_n 0, 1) := by decide +kernel
theorem dX10_productAt_67 : decode cX10_productAt 67 = .ok (.getfield 7, 3) := by decide +kernel
theorem dX10_productAt_70 : decode cX10_productAt 70 = .ok (.sipush 151, 3) := by decide +kernel
theorem dX10_productAt_73 : decode cX10_productAt 73 = .ok (.iload 6, 2) := by decide +kernel
theorem dX10_productAt_75 : decode cX10_productAt 75 = .ok (.iadd, 1) := by decide +kernel
theorem dX10_productAt_76 : decode cX10_productAt 76 = .ok (.laload, 1) := by decide +kernel
theorem dX10_productAt_77 : decode cX10_productAt 77 = .ok (.ldc_w 297, 3) := by decide +kernel
theorem dX10_productAt_80 : decode cX10_productAt 80 = .ok (.invokestatic 187, 3) := by decide +kernel
theorem dX10_productAt_83 : decode cX10_productAt 83 = .ok (.i2l, 1) := by decide +kernel
theorem dX10_productAt_84 : decode cX10_productAt 84 = .ok (.ladd, 1) := by decide +kernel
theorem dX10_productAt_85 : decode cX10_productAt 85 = .ok (.ldc2_w 298, 3) := by decide +kernel
theorem dX10_productAt_88 : decode cX10_productAt 88 = .ok (.lrem, 1) := by decide +kernel
theorem dX10_productAt_89 : decode cX10_productAt 89 = .ok (.lstore 4, 2) := by decide +kernel
theorem dX10_productAt_91 : decode cX10_productAt 91 = .ok (.iinc 6 (-1), 3) := by decide +kernel
theorem dX10_productAt_94 : decode cX10_productAt 94 = .ok (.goto (-37), 3) := by decide +kernel
theorem dX10_productAt_97 : decode cX10_productAt 97 = .ok (.lload 4, 2) := by decide +kernel
theorem dX10_productAt_99 : decode cX10_productAt 99 = .ok (.l2i, 1) := by decide +kernel
theorem dX10_productAt_100 : decode cX10_productAt 100 = .ok (.ireturn, 1) := by decide +kernel
